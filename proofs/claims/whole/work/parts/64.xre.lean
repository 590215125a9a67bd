/-! ===== Layer 2: a Hall's worths ===== -/
noncomputable def tk_pd (S : tk_M) (D : Int → Prop) (x : Int) : Int := tk_sm (S 0 1) (fun t => tk_bc (D t ∧ S 3 t = x) * tk_Wt S t)
theorem tk_pd_all {S : tk_M} {D : Int → Prop} {x : Int} (h : ∀ t : Int, 0 ≤ t → t < S 0 1 → S 3 t = x → D t) : tk_pd S D x = tk_sm (S 0 1) (fun t => if S 3 t = x then tk_Wt S t else 0) := by
  refine tk_sm_congr (fun t h1 h2 => ?_)
  by_cases hx : S 3 t = x
  · rw [if_pos hx, tk_bc_t ⟨h t h1 h2 hx, hx⟩, Int.one_mul]
  · rw [if_neg hx, tk_bc_f (fun z => hx z.2), Int.zero_mul]
theorem tk_pd_0 {S : tk_M} {D : Int → Prop} {x : Int} (h0 : 0 ≤ S 0 1) (h : ∀ t : Int, 0 ≤ t → t < S 0 1 → ¬ D t) : tk_pd S D x = 0 := by
  refine tk_sm_z h0 (fun t h1 h2 => ?_)
  rw [tk_bc_f (fun z => h t h1 h2 z.1), Int.zero_mul]
theorem tk_pd_add {S : tk_M} {D D' : Int → Prop} {i : Int} (x : Int) (h0 : 0 ≤ S 0 1) (hi : 0 ≤ i ∧ i < S 0 1) (hn : ¬ D i) (hD : ∀ t, D' t ↔ D t ∨ t = i) : tk_pd S D' x = tk_pd S D x + (if S 3 i = x then tk_Wt S i else 0) := by
  have e := tk_sm_pt (n := S 0 1) (j := i) (f := fun t => tk_bc (D t ∧ S 3 t = x) * tk_Wt S t) (g := fun t => tk_bc (D' t ∧ S 3 t = x) * tk_Wt S t) h0 hi (fun t h1 h2 h3 => by
    have h4 : (D' t ∧ S 3 t = x) = (D t ∧ S 3 t = x) := by
      apply propext
      rw [hD]
      constructor
      · rintro ⟨z | z, y⟩
        · exact ⟨z, y⟩
        · exact absurd z h3
      · rintro ⟨z, y⟩; exact ⟨.inl z, y⟩
    show tk_bc (D' t ∧ S 3 t = x) * tk_Wt S t = tk_bc (D t ∧ S 3 t = x) * tk_Wt S t
    rw [h4])
  unfold tk_pd
  rw [e, tk_bc_f (p := D i ∧ S 3 i = x) (fun z => hn z.1), Int.zero_mul]
  by_cases hx : S 3 i = x
  · rw [if_pos hx, tk_bc_t ⟨(hD i).mpr (.inr rfl), hx⟩, Int.one_mul]; omega
  · rw [if_neg hx, tk_bc_f (fun z => hx z.2), Int.zero_mul]; omega
theorem tk_pd_bd {S : tk_M} (h0 : tk_I0 S) (h1 : tk_I1 S) (h7 : tk_I7 S) (D : Int → Prop) {x : Int} (hx : ¬ x = -5) : 0 ≤ tk_pd S D x ∧ tk_pd S D x ≤ 1910838657024 := by
  have h2 := tk_sm_bd (n := S 0 1) (B := 79618277376) (f := fun t => tk_bc (D t ∧ S 3 t = x) * tk_Wt S t) h0.2.1.1 (fun t h2 h3 => by
    show 0 ≤ tk_bc (D t ∧ S 3 t = x) * tk_Wt S t ∧ tk_bc (D t ∧ S 3 t = x) * tk_Wt S t ≤ 79618277376
    by_cases hq : D t ∧ S 3 t = x
    · rw [tk_bc_t hq, Int.one_mul]
      exact tk_Wt_bd h0 h1 h7 ⟨h2, h3⟩ (by omega)
    · rw [tk_bc_f hq, Int.zero_mul]; omega)
  have := h0.2.1.2
  unfold tk_pd
  omega
/-- the first k of them -/
def tk_dn (al : Int → Int) (k : Int) (t : Int) : Prop := ∃ j, (0 ≤ j ∧ j < k) ∧ al j = t
theorem x_value1 {μ : tk_M} {Q : Int → tk_M → Prop} {t : Int} (h0 : tk_I0 (tk_hw 1 μ)) (h1 : tk_I1 (tk_hw 1 μ)) (h7 : tk_I7 (tk_hw 1 μ)) (ht : 0 ≤ t ∧ t < μ 1 1) (hiss : ∀ c : Int, 0 ≤ c → c < 6 → μ 26 c = tk_isu (tk_hw 1 μ) c) (hval : μ 27 (μ 2 t) = tk_V (tk_hw 1 μ) (μ 2 t)) (hbv : ∀ c : Int, 0 ≤ c → c < 6 → 0 ≤ μ 27 c ∧ μ 27 c ≤ 1910838657024) (hbh : ∀ c : Int, 0 ≤ c → c < 8 → 0 ≤ μ 29 c ∧ μ 29 c ≤ 1910838657024) (hQ : ∀ μ', (∀ o i : Int, ¬ (o = 27 ∨ o = 28 ∨ o = 29) → μ' o i = μ o i) → (∀ i, μ' 28 i = if i = t then tk_Wt (tk_hw 1 μ) t else μ 28 i) → (∀ c : Int, 0 ≤ c → c < 6 → μ' 27 c = μ 27 c + (if μ 4 t = 10 + c then tk_Wt (tk_hw 1 μ) t else 0)) → (∀ p : Int, 0 ≤ p → p < 8 → μ' 29 p = μ 29 p + (if μ 4 t = p then tk_Wt (tk_hw 1 μ) t else 0)) → Q 0 μ') : tkF_X5_value [23, t] Q μ := by
  obtain ⟨g1, g2, g3, -⟩ := x_hI1 h0
  have g := x_hT1 h1 t ht.1 ht.2
  have hu := tk_isu_bd h0 h1 (μ 2 t)
  have hV := tk_V_bd h0 h1 h7 (μ 2 t) g.1.1
  have hw0 : ¬ μ 4 t = -5 → 0 ≤ tk_Wt (tk_hw 1 μ) t ∧ tk_Wt (tk_hw 1 μ) t ≤ 79618277376 := fun z => tk_Wt_bd h0 h1 h7 (t := t) ht z
  have hc6 : μ 2 t < 6 := by omega
  have hi2 := hiss (μ 2 t) g.1.1 hc6
  have h24 : t < 24 := by omega
  have hW : tk_Wt (tk_hw 1 μ) t = if μ 2 t = 0 then μ 3 t else if tk_isu (tk_hw 1 μ) (μ 2 t) = 0 then 0 else μ 3 t * tk_V (tk_hw 1 μ) (μ 2 t) / tk_isu (tk_hw 1 μ) (μ 2 t) := rfl
  generalize tk_Wt (tk_hw 1 μ) t = w at hW hw0 hQ
  generalize tk_isu (tk_hw 1 μ) (μ 2 t) = q at hW hu hi2
  generalize tk_V (tk_hw 1 μ) (μ 2 t) = v at hW hV hval
  have i2 : tk_isub (μ 4 t) 10 = μ 4 t - 10 := tk_isub_id (by omega) (by omega)
  -- behind the worth
  have step : ∀ (v3 : Int), v3 = w → (0 ≤ μ 4 t ∧ μ 4 t < μ 1 2 → Q 0 (tk_set (tk_set μ 28 t v3) 29 (μ 4 t) (tk_ladd (μ 29 (μ 4 t)) v3))) ∧ (¬ (0 ≤ μ 4 t ∧ μ 4 t < μ 1 2) → (0 ≤ μ 4 t - 10 ∧ μ 4 t - 10 < μ 1 0) → Q 0 (tk_set (tk_set μ 28 t v3) 27 (μ 4 t - 10) (tk_ladd (μ 27 (μ 4 t - 10)) v3))) ∧ (¬ (0 ≤ μ 4 t ∧ μ 4 t < μ 1 2) → ¬ (0 ≤ μ 4 t - 10 ∧ μ 4 t - 10 < μ 1 0) → Q 0 (tk_set μ 28 t v3)) := by
    rintro v3 rfl
    refine ⟨fun hp => ?_, fun hp hc => ?_, fun hp hc => ?_⟩
    · have hb := hbh (μ 4 t) hp.1 (by omega)
      have hw1 := hw0 (by omega)
      rw [tk_ladd_id (by omega) (by omega)]
      refine hQ _ (fun o i ho => by rw [tk_set_o (by omega), tk_set_o (by omega)]) (fun i => ?_) (fun c h2 h3 => ?_) (fun p h2 h3 => ?_)
      · rw [tk_set_o (by omega)]
        unfold tk_set
        by_cases hi : i = t <;> simp [hi]
      · rw [tk_set_o (by omega), tk_set_o (by omega), if_neg (by omega)]; omega
      · by_cases hpp : p = μ 4 t
        · subst hpp
          rw [tk_set_eq, if_pos rfl]
        · rw [tk_set_j hpp, tk_set_o (by omega), if_neg (fun z => hpp z.symm)]; omega
    · have hb := hbv (μ 4 t - 10) hc.1 (by omega)
      have hw1 := hw0 (by omega)
      rw [tk_ladd_id (by omega) (by omega)]
      refine hQ _ (fun o i ho => by rw [tk_set_o (by omega), tk_set_o (by omega)]) (fun i => ?_) (fun c h2 h3 => ?_) (fun p h2 h3 => ?_)
      · rw [tk_set_o (by omega)]
        unfold tk_set
        by_cases hi : i = t <;> simp [hi]
      · by_cases hcc : c = μ 4 t - 10
        · subst hcc
          rw [tk_set_eq, if_pos (by omega)]
        · rw [tk_set_j hcc, tk_set_o (by omega), if_neg (by omega)]; omega
      · rw [tk_set_o (by omega), tk_set_o (by omega), if_neg (by omega)]; omega
    · refine hQ _ (fun o i ho => by rw [tk_set_o (by omega)]) (fun i => ?_) (fun c h2 h3 => ?_) (fun p h2 h3 => ?_)
      · unfold tk_set
        by_cases hi : i = t <;> simp [hi]
      · rw [tk_set_o (by omega), if_neg (by omega)]; omega
      · rw [tk_set_o (by omega), if_neg (by omega)]; omega
  have fin : ∀ (v3 : Int), v3 = w → ∀ G : Int → tk_M → Prop, G = Q → (if 0 ≤ μ 4 t ∧ μ 4 t < μ 1 2 then Q 0 (tk_set (tk_set μ 28 t v3) 29 (μ 4 t) (tk_ladd (μ 29 (μ 4 t)) v3)) else if 0 ≤ μ 4 t - 10 ∧ μ 4 t - 10 < μ 1 0 then Q 0 (tk_set (tk_set μ 28 t v3) 27 (μ 4 t - 10) (tk_ladd (μ 27 (μ 4 t - 10)) v3)) else Q 0 (tk_set μ 28 t v3)) := by
    intro v3 hv3 G _
    have hs := step v3 hv3
    by_cases hp : 0 ≤ μ 4 t ∧ μ 4 t < μ 1 2
    · rw [if_pos hp]; exact hs.1 hp
    · rw [if_neg hp]
      by_cases hc : 0 ≤ μ 4 t - 10 ∧ μ 4 t - 10 < μ 1 0
      · rw [if_pos hc]; exact hs.2.1 hp hc
      · rw [if_neg hc]; exact hs.2.2 hp hc
  clear step
  have ho8 : 0 ≤ μ 4 t ∧ μ 4 t < μ 1 2 → μ 4 t < 8 := by omega
  have ho6 : 0 ≤ μ 4 t - 10 ∧ μ 4 t - 10 < μ 1 0 → μ 4 t - 10 < 6 := by omega
  by_cases hc : μ 2 t = 0
  · rw [if_pos hc] at hW
    have fin := fin (μ 3 t) hW.symm Q rfl
    by_cases hp : 0 ≤ μ 4 t ∧ μ 4 t < μ 1 2
    · rw [if_pos hp] at fin
      simp [tk_fn, tk_env, tk_sq, tk_sk, tk_if, tk_re, tk_rez, tk_rev, tk_xp, tk_se, tk_pf, tk_pfz, tk_pfo, tk_as, tk_asz, tk_asb, tk_aso, tk_cpy, tk_sw, tk_swc, tk_lit, tk_loc, tk_u1, tk_bin, tk_dv, tk_gf, tk_gr, tk_gn, tk_ald, tk_aldq, tk_aln, tk_unl, tk_una, tk_ter, tk_args, tk_cs, tk_cv, tk_ceq, tk_cne, tk_clt, tk_cge, tk_cgt, tk_cle, tk_zeq, tk_zne, tk_zlt, tk_zge, tk_zgt, tk_zle, tk_and, tk_or, tk_not, tk_ct2, tk_isC, List.headD_cons, tk_up, tk_sca, tk_scl, tkF_X5_value, tkS_X5_value, tk_al_2, tk_al_3, tk_al_4, tk_al_5, tk_al_6, tk_al_7, tk_al_8, tk_al_9, tk_al_10, tk_al_11, tk_al_13, tk_al_14, tk_al_16, tk_al_17, tk_al_19, tk_al_20, tk_al_22, tk_al_24, tk_al_25, tk_al_26, tk_al_27, tk_al_28, tk_al_29, tk_al_30, tk_al_32, tk_al_33, tk_al_34, tk_al_35, tk_al_36, tk_al_37, tk_al_38, tk_al_39, tk_al_40, tk_al_41, tk_al_43, tk_al_44, tk_al_46, tk_al_47, tk_al_49, tk_al_50, tk_al_52, tk_al_54, tk_al_55, tk_al_56, tk_al_57, tk_al_58, tk_al_59, tk_al_60, tk_al_62, tk_al_63, tk_al_64, tk_al_65, tk_al_66, tk_al_67, tk_al_68, tk_al_69, tk_al_70, tk_al_71, tk_al_73, tk_al_74, tk_al_76, tk_al_77, tk_al_79, tk_al_80, tk_al_81, tk_al_83, tk_al_85, tk_al_87, tk_al_89, tk_al_91, tk_al_93, tk_al_95, tk_al_97, tk_al_98, tk_al_99, tk_al_100, tk_al_101, tk_al_102, tk_al_103, tk_al_104, tk_al_105, tk_al_106, tk_al_107, tk_al_108, tk_al_109, tk_al_110, tk_al_111, tk_al_112, tk_al_113, tk_al_114, tk_al_115, tk_al_116, tk_al_117, tk_al_118, tk_al_119, tk_al_120, tk_al_121, tk_al_122, tk_al_123, tk_al_124, tk_al_125, tk_al_126, tk_al_127, tk_al_128, tk_al_129, ht.1, h24, hc, x_hasClient, x_hasCurrency, tk_bo_0, hp.1, hp.2, ho8 hp, tk_set_o, show ¬ μ 1 2 ≤ μ 4 t from by omega]
      exact fin
    · rw [if_neg hp] at fin
      by_cases hcu : 0 ≤ μ 4 t - 10 ∧ μ 4 t - 10 < μ 1 0
      · rw [if_pos hcu] at fin
        simp [tk_fn, tk_env, tk_sq, tk_sk, tk_if, tk_re, tk_rez, tk_rev, tk_xp, tk_se, tk_pf, tk_pfz, tk_pfo, tk_as, tk_asz, tk_asb, tk_aso, tk_cpy, tk_sw, tk_swc, tk_lit, tk_loc, tk_u1, tk_bin, tk_dv, tk_gf, tk_gr, tk_gn, tk_ald, tk_aldq, tk_aln, tk_unl, tk_una, tk_ter, tk_args, tk_cs, tk_cv, tk_ceq, tk_cne, tk_clt, tk_cge, tk_cgt, tk_cle, tk_zeq, tk_zne, tk_zlt, tk_zge, tk_zgt, tk_zle, tk_and, tk_or, tk_not, tk_ct2, tk_isC, List.headD_cons, tk_up, tk_sca, tk_scl, tkF_X5_value, tkS_X5_value, tk_al_2, tk_al_3, tk_al_4, tk_al_5, tk_al_6, tk_al_7, tk_al_8, tk_al_9, tk_al_10, tk_al_11, tk_al_13, tk_al_14, tk_al_16, tk_al_17, tk_al_19, tk_al_20, tk_al_22, tk_al_24, tk_al_25, tk_al_26, tk_al_27, tk_al_28, tk_al_29, tk_al_30, tk_al_32, tk_al_33, tk_al_34, tk_al_35, tk_al_36, tk_al_37, tk_al_38, tk_al_39, tk_al_40, tk_al_41, tk_al_43, tk_al_44, tk_al_46, tk_al_47, tk_al_49, tk_al_50, tk_al_52, tk_al_54, tk_al_55, tk_al_56, tk_al_57, tk_al_58, tk_al_59, tk_al_60, tk_al_62, tk_al_63, tk_al_64, tk_al_65, tk_al_66, tk_al_67, tk_al_68, tk_al_69, tk_al_70, tk_al_71, tk_al_73, tk_al_74, tk_al_76, tk_al_77, tk_al_79, tk_al_80, tk_al_81, tk_al_83, tk_al_85, tk_al_87, tk_al_89, tk_al_91, tk_al_93, tk_al_95, tk_al_97, tk_al_98, tk_al_99, tk_al_100, tk_al_101, tk_al_102, tk_al_103, tk_al_104, tk_al_105, tk_al_106, tk_al_107, tk_al_108, tk_al_109, tk_al_110, tk_al_111, tk_al_112, tk_al_113, tk_al_114, tk_al_115, tk_al_116, tk_al_117, tk_al_118, tk_al_119, tk_al_120, tk_al_121, tk_al_122, tk_al_123, tk_al_124, tk_al_125, tk_al_126, tk_al_127, tk_al_128, tk_al_129, ht.1, h24, hc, x_hasClient, x_hasCurrency, tk_bo_0, hp, hcu, hcu.1, hcu.2, ho6 hcu, i2, tk_set_o, show ¬ μ 1 0 ≤ μ 4 t - 10 from by omega, -not_and, -Int.sub_nonneg]
        exact fin
      · rw [if_neg hcu] at fin
        simp [tk_fn, tk_env, tk_sq, tk_sk, tk_if, tk_re, tk_rez, tk_rev, tk_xp, tk_se, tk_pf, tk_pfz, tk_pfo, tk_as, tk_asz, tk_asb, tk_aso, tk_cpy, tk_sw, tk_swc, tk_lit, tk_loc, tk_u1, tk_bin, tk_dv, tk_gf, tk_gr, tk_gn, tk_ald, tk_aldq, tk_aln, tk_unl, tk_una, tk_ter, tk_args, tk_cs, tk_cv, tk_ceq, tk_cne, tk_clt, tk_cge, tk_cgt, tk_cle, tk_zeq, tk_zne, tk_zlt, tk_zge, tk_zgt, tk_zle, tk_and, tk_or, tk_not, tk_ct2, tk_isC, List.headD_cons, tk_up, tk_sca, tk_scl, tkF_X5_value, tkS_X5_value, tk_al_2, tk_al_3, tk_al_4, tk_al_5, tk_al_6, tk_al_7, tk_al_8, tk_al_9, tk_al_10, tk_al_11, tk_al_13, tk_al_14, tk_al_16, tk_al_17, tk_al_19, tk_al_20, tk_al_22, tk_al_24, tk_al_25, tk_al_26, tk_al_27, tk_al_28, tk_al_29, tk_al_30, tk_al_32, tk_al_33, tk_al_34, tk_al_35, tk_al_36, tk_al_37, tk_al_38, tk_al_39, tk_al_40, tk_al_41, tk_al_43, tk_al_44, tk_al_46, tk_al_47, tk_al_49, tk_al_50, tk_al_52, tk_al_54, tk_al_55, tk_al_56, tk_al_57, tk_al_58, tk_al_59, tk_al_60, tk_al_62, tk_al_63, tk_al_64, tk_al_65, tk_al_66, tk_al_67, tk_al_68, tk_al_69, tk_al_70, tk_al_71, tk_al_73, tk_al_74, tk_al_76, tk_al_77, tk_al_79, tk_al_80, tk_al_81, tk_al_83, tk_al_85, tk_al_87, tk_al_89, tk_al_91, tk_al_93, tk_al_95, tk_al_97, tk_al_98, tk_al_99, tk_al_100, tk_al_101, tk_al_102, tk_al_103, tk_al_104, tk_al_105, tk_al_106, tk_al_107, tk_al_108, tk_al_109, tk_al_110, tk_al_111, tk_al_112, tk_al_113, tk_al_114, tk_al_115, tk_al_116, tk_al_117, tk_al_118, tk_al_119, tk_al_120, tk_al_121, tk_al_122, tk_al_123, tk_al_124, tk_al_125, tk_al_126, tk_al_127, tk_al_128, tk_al_129, ht.1, h24, hc, x_hasClient, x_hasCurrency, tk_bo_0, hp, hcu, i2, tk_set_o, -not_and, -Int.sub_nonneg]
        exact fin
  · rw [if_neg hc] at hW
    have hm : 0 ≤ μ 3 t * v ∧ μ 3 t * v ≤ 9999 * 79618277376 := by
      refine ⟨Int.mul_nonneg (by omega) hV.1, ?_⟩
      exact Int.mul_le_mul g.2.1.2 hV.2 hV.1 (by omega)
    have l1 : tk_lmul (μ 3 t) v = μ 3 t * v := tk_lmul_id (by omega) (by omega)
    have hcut : (if 0 < q then tk_ldiv (μ 3 t * v) q else 0) = w := by
      rw [hW]
      by_cases hq : q = 0
      · rw [if_pos hq, if_neg (by omega)]
      · rw [if_neg hq, if_pos (by omega)]
        exact tk_ldiv_id (by omega) (by omega)
    have fin := fin w rfl Q rfl
    by_cases hp : 0 ≤ μ 4 t ∧ μ 4 t < μ 1 2
    · rw [if_pos hp] at fin
      simp [tk_fn, tk_env, tk_sq, tk_sk, tk_if, tk_re, tk_rez, tk_rev, tk_xp, tk_se, tk_pf, tk_pfz, tk_pfo, tk_as, tk_asz, tk_asb, tk_aso, tk_cpy, tk_sw, tk_swc, tk_lit, tk_loc, tk_u1, tk_bin, tk_dv, tk_gf, tk_gr, tk_gn, tk_ald, tk_aldq, tk_aln, tk_unl, tk_una, tk_ter, tk_args, tk_cs, tk_cv, tk_ceq, tk_cne, tk_clt, tk_cge, tk_cgt, tk_cle, tk_zeq, tk_zne, tk_zlt, tk_zge, tk_zgt, tk_zle, tk_and, tk_or, tk_not, tk_ct2, tk_isC, List.headD_cons, tk_up, tk_sca, tk_scl, tkF_X5_value, tkS_X5_value, tk_al_2, tk_al_3, tk_al_4, tk_al_5, tk_al_6, tk_al_7, tk_al_8, tk_al_9, tk_al_10, tk_al_11, tk_al_13, tk_al_14, tk_al_16, tk_al_17, tk_al_19, tk_al_20, tk_al_22, tk_al_24, tk_al_25, tk_al_26, tk_al_27, tk_al_28, tk_al_29, tk_al_30, tk_al_32, tk_al_33, tk_al_34, tk_al_35, tk_al_36, tk_al_37, tk_al_38, tk_al_39, tk_al_40, tk_al_41, tk_al_43, tk_al_44, tk_al_46, tk_al_47, tk_al_49, tk_al_50, tk_al_52, tk_al_54, tk_al_55, tk_al_56, tk_al_57, tk_al_58, tk_al_59, tk_al_60, tk_al_62, tk_al_63, tk_al_64, tk_al_65, tk_al_66, tk_al_67, tk_al_68, tk_al_69, tk_al_70, tk_al_71, tk_al_73, tk_al_74, tk_al_76, tk_al_77, tk_al_79, tk_al_80, tk_al_81, tk_al_83, tk_al_85, tk_al_87, tk_al_89, tk_al_91, tk_al_93, tk_al_95, tk_al_97, tk_al_98, tk_al_99, tk_al_100, tk_al_101, tk_al_102, tk_al_103, tk_al_104, tk_al_105, tk_al_106, tk_al_107, tk_al_108, tk_al_109, tk_al_110, tk_al_111, tk_al_112, tk_al_113, tk_al_114, tk_al_115, tk_al_116, tk_al_117, tk_al_118, tk_al_119, tk_al_120, tk_al_121, tk_al_122, tk_al_123, tk_al_124, tk_al_125, tk_al_126, tk_al_127, tk_al_128, tk_al_129, ht.1, h24, hc, g.1.1, hc6, hi2, hval, x_cutBy, l1, hcut, x_hasClient, x_hasCurrency, tk_bo_0, hp.1, hp.2, ho8 hp, tk_set_o, show ¬ μ 1 2 ≤ μ 4 t from by omega]
      exact fin
    · rw [if_neg hp] at fin
      by_cases hcu : 0 ≤ μ 4 t - 10 ∧ μ 4 t - 10 < μ 1 0
      · rw [if_pos hcu] at fin
        simp [tk_fn, tk_env, tk_sq, tk_sk, tk_if, tk_re, tk_rez, tk_rev, tk_xp, tk_se, tk_pf, tk_pfz, tk_pfo, tk_as, tk_asz, tk_asb, tk_aso, tk_cpy, tk_sw, tk_swc, tk_lit, tk_loc, tk_u1, tk_bin, tk_dv, tk_gf, tk_gr, tk_gn, tk_ald, tk_aldq, tk_aln, tk_unl, tk_una, tk_ter, tk_args, tk_cs, tk_cv, tk_ceq, tk_cne, tk_clt, tk_cge, tk_cgt, tk_cle, tk_zeq, tk_zne, tk_zlt, tk_zge, tk_zgt, tk_zle, tk_and, tk_or, tk_not, tk_ct2, tk_isC, List.headD_cons, tk_up, tk_sca, tk_scl, tkF_X5_value, tkS_X5_value, tk_al_2, tk_al_3, tk_al_4, tk_al_5, tk_al_6, tk_al_7, tk_al_8, tk_al_9, tk_al_10, tk_al_11, tk_al_13, tk_al_14, tk_al_16, tk_al_17, tk_al_19, tk_al_20, tk_al_22, tk_al_24, tk_al_25, tk_al_26, tk_al_27, tk_al_28, tk_al_29, tk_al_30, tk_al_32, tk_al_33, tk_al_34, tk_al_35, tk_al_36, tk_al_37, tk_al_38, tk_al_39, tk_al_40, tk_al_41, tk_al_43, tk_al_44, tk_al_46, tk_al_47, tk_al_49, tk_al_50, tk_al_52, tk_al_54, tk_al_55, tk_al_56, tk_al_57, tk_al_58, tk_al_59, tk_al_60, tk_al_62, tk_al_63, tk_al_64, tk_al_65, tk_al_66, tk_al_67, tk_al_68, tk_al_69, tk_al_70, tk_al_71, tk_al_73, tk_al_74, tk_al_76, tk_al_77, tk_al_79, tk_al_80, tk_al_81, tk_al_83, tk_al_85, tk_al_87, tk_al_89, tk_al_91, tk_al_93, tk_al_95, tk_al_97, tk_al_98, tk_al_99, tk_al_100, tk_al_101, tk_al_102, tk_al_103, tk_al_104, tk_al_105, tk_al_106, tk_al_107, tk_al_108, tk_al_109, tk_al_110, tk_al_111, tk_al_112, tk_al_113, tk_al_114, tk_al_115, tk_al_116, tk_al_117, tk_al_118, tk_al_119, tk_al_120, tk_al_121, tk_al_122, tk_al_123, tk_al_124, tk_al_125, tk_al_126, tk_al_127, tk_al_128, tk_al_129, ht.1, h24, hc, g.1.1, hc6, hi2, hval, x_cutBy, l1, hcut, x_hasClient, x_hasCurrency, tk_bo_0, hp, hcu, hcu.1, hcu.2, ho6 hcu, i2, tk_set_o, show ¬ μ 1 0 ≤ μ 4 t - 10 from by omega, -not_and, -Int.sub_nonneg]
        exact fin
      · rw [if_neg hcu] at fin
        simp [tk_fn, tk_env, tk_sq, tk_sk, tk_if, tk_re, tk_rez, tk_rev, tk_xp, tk_se, tk_pf, tk_pfz, tk_pfo, tk_as, tk_asz, tk_asb, tk_aso, tk_cpy, tk_sw, tk_swc, tk_lit, tk_loc, tk_u1, tk_bin, tk_dv, tk_gf, tk_gr, tk_gn, tk_ald, tk_aldq, tk_aln, tk_unl, tk_una, tk_ter, tk_args, tk_cs, tk_cv, tk_ceq, tk_cne, tk_clt, tk_cge, tk_cgt, tk_cle, tk_zeq, tk_zne, tk_zlt, tk_zge, tk_zgt, tk_zle, tk_and, tk_or, tk_not, tk_ct2, tk_isC, List.headD_cons, tk_up, tk_sca, tk_scl, tkF_X5_value, tkS_X5_value, tk_al_2, tk_al_3, tk_al_4, tk_al_5, tk_al_6, tk_al_7, tk_al_8, tk_al_9, tk_al_10, tk_al_11, tk_al_13, tk_al_14, tk_al_16, tk_al_17, tk_al_19, tk_al_20, tk_al_22, tk_al_24, tk_al_25, tk_al_26, tk_al_27, tk_al_28, tk_al_29, tk_al_30, tk_al_32, tk_al_33, tk_al_34, tk_al_35, tk_al_36, tk_al_37, tk_al_38, tk_al_39, tk_al_40, tk_al_41, tk_al_43, tk_al_44, tk_al_46, tk_al_47, tk_al_49, tk_al_50, tk_al_52, tk_al_54, tk_al_55, tk_al_56, tk_al_57, tk_al_58, tk_al_59, tk_al_60, tk_al_62, tk_al_63, tk_al_64, tk_al_65, tk_al_66, tk_al_67, tk_al_68, tk_al_69, tk_al_70, tk_al_71, tk_al_73, tk_al_74, tk_al_76, tk_al_77, tk_al_79, tk_al_80, tk_al_81, tk_al_83, tk_al_85, tk_al_87, tk_al_89, tk_al_91, tk_al_93, tk_al_95, tk_al_97, tk_al_98, tk_al_99, tk_al_100, tk_al_101, tk_al_102, tk_al_103, tk_al_104, tk_al_105, tk_al_106, tk_al_107, tk_al_108, tk_al_109, tk_al_110, tk_al_111, tk_al_112, tk_al_113, tk_al_114, tk_al_115, tk_al_116, tk_al_117, tk_al_118, tk_al_119, tk_al_120, tk_al_121, tk_al_122, tk_al_123, tk_al_124, tk_al_125, tk_al_126, tk_al_127, tk_al_128, tk_al_129, ht.1, h24, hc, g.1.1, hc6, hi2, hval, x_cutBy, l1, hcut, x_hasClient, x_hasCurrency, tk_bo_0, hp, hcu, i2, tk_set_o, -not_and, -Int.sub_nonneg]
        exact fin
theorem x_value31 {μ : tk_M} {Q : Int → tk_M → Prop} {t : Int} (h0 : tk_I0 (tk_hw 31 μ)) (h1 : tk_I1 (tk_hw 31 μ)) (h7 : tk_I7 (tk_hw 31 μ)) (ht : 0 ≤ t ∧ t < μ 31 1) (hiss : ∀ c : Int, 0 ≤ c → c < 6 → μ 56 c = tk_isu (tk_hw 31 μ) c) (hval : μ 57 (μ 32 t) = tk_V (tk_hw 31 μ) (μ 32 t)) (hbv : ∀ c : Int, 0 ≤ c → c < 6 → 0 ≤ μ 57 c ∧ μ 57 c ≤ 1910838657024) (hbh : ∀ c : Int, 0 ≤ c → c < 8 → 0 ≤ μ 59 c ∧ μ 59 c ≤ 1910838657024) (hQ : ∀ μ', (∀ o i : Int, ¬ (o = 57 ∨ o = 58 ∨ o = 59) → μ' o i = μ o i) → (∀ i, μ' 58 i = if i = t then tk_Wt (tk_hw 31 μ) t else μ 58 i) → (∀ c : Int, 0 ≤ c → c < 6 → μ' 57 c = μ 57 c + (if μ 34 t = 10 + c then tk_Wt (tk_hw 31 μ) t else 0)) → (∀ p : Int, 0 ≤ p → p < 8 → μ' 59 p = μ 59 p + (if μ 34 t = p then tk_Wt (tk_hw 31 μ) t else 0)) → Q 0 μ') : tkF_X5_value [53, t] Q μ := by
  obtain ⟨g1, g2, g3, -⟩ := x_hI31 h0
  have g := x_hT31 h1 t ht.1 ht.2
  have hu := tk_isu_bd h0 h1 (μ 32 t)
  have hV := tk_V_bd h0 h1 h7 (μ 32 t) g.1.1
  have hw0 : ¬ μ 34 t = -5 → 0 ≤ tk_Wt (tk_hw 31 μ) t ∧ tk_Wt (tk_hw 31 μ) t ≤ 79618277376 := fun z => tk_Wt_bd h0 h1 h7 (t := t) ht z
  have hc6 : μ 32 t < 6 := by omega
  have hi2 := hiss (μ 32 t) g.1.1 hc6
  have h24 : t < 24 := by omega
  have hW : tk_Wt (tk_hw 31 μ) t = if μ 32 t = 0 then μ 33 t else if tk_isu (tk_hw 31 μ) (μ 32 t) = 0 then 0 else μ 33 t * tk_V (tk_hw 31 μ) (μ 32 t) / tk_isu (tk_hw 31 μ) (μ 32 t) := rfl
  generalize tk_Wt (tk_hw 31 μ) t = w at hW hw0 hQ
  generalize tk_isu (tk_hw 31 μ) (μ 32 t) = q at hW hu hi2
  generalize tk_V (tk_hw 31 μ) (μ 32 t) = v at hW hV hval
  have i2 : tk_isub (μ 34 t) 10 = μ 34 t - 10 := tk_isub_id (by omega) (by omega)
  -- behind the worth
  have step : ∀ (v3 : Int), v3 = w → (0 ≤ μ 34 t ∧ μ 34 t < μ 31 2 → Q 0 (tk_set (tk_set μ 58 t v3) 59 (μ 34 t) (tk_ladd (μ 59 (μ 34 t)) v3))) ∧ (¬ (0 ≤ μ 34 t ∧ μ 34 t < μ 31 2) → (0 ≤ μ 34 t - 10 ∧ μ 34 t - 10 < μ 31 0) → Q 0 (tk_set (tk_set μ 58 t v3) 57 (μ 34 t - 10) (tk_ladd (μ 57 (μ 34 t - 10)) v3))) ∧ (¬ (0 ≤ μ 34 t ∧ μ 34 t < μ 31 2) → ¬ (0 ≤ μ 34 t - 10 ∧ μ 34 t - 10 < μ 31 0) → Q 0 (tk_set μ 58 t v3)) := by
    rintro v3 rfl
    refine ⟨fun hp => ?_, fun hp hc => ?_, fun hp hc => ?_⟩
    · have hb := hbh (μ 34 t) hp.1 (by omega)
      have hw1 := hw0 (by omega)
      rw [tk_ladd_id (by omega) (by omega)]
      refine hQ _ (fun o i ho => by rw [tk_set_o (by omega), tk_set_o (by omega)]) (fun i => ?_) (fun c h2 h3 => ?_) (fun p h2 h3 => ?_)
      · rw [tk_set_o (by omega)]
        unfold tk_set
        by_cases hi : i = t <;> simp [hi]
      · rw [tk_set_o (by omega), tk_set_o (by omega), if_neg (by omega)]; omega
      · by_cases hpp : p = μ 34 t
        · subst hpp
          rw [tk_set_eq, if_pos rfl]
        · rw [tk_set_j hpp, tk_set_o (by omega), if_neg (fun z => hpp z.symm)]; omega
    · have hb := hbv (μ 34 t - 10) hc.1 (by omega)
      have hw1 := hw0 (by omega)
      rw [tk_ladd_id (by omega) (by omega)]
      refine hQ _ (fun o i ho => by rw [tk_set_o (by omega), tk_set_o (by omega)]) (fun i => ?_) (fun c h2 h3 => ?_) (fun p h2 h3 => ?_)
      · rw [tk_set_o (by omega)]
        unfold tk_set
        by_cases hi : i = t <;> simp [hi]
      · by_cases hcc : c = μ 34 t - 10
        · subst hcc
          rw [tk_set_eq, if_pos (by omega)]
        · rw [tk_set_j hcc, tk_set_o (by omega), if_neg (by omega)]; omega
      · rw [tk_set_o (by omega), tk_set_o (by omega), if_neg (by omega)]; omega
    · refine hQ _ (fun o i ho => by rw [tk_set_o (by omega)]) (fun i => ?_) (fun c h2 h3 => ?_) (fun p h2 h3 => ?_)
      · unfold tk_set
        by_cases hi : i = t <;> simp [hi]
      · rw [tk_set_o (by omega), if_neg (by omega)]; omega
      · rw [tk_set_o (by omega), if_neg (by omega)]; omega
  have fin : ∀ (v3 : Int), v3 = w → ∀ G : Int → tk_M → Prop, G = Q → (if 0 ≤ μ 34 t ∧ μ 34 t < μ 31 2 then Q 0 (tk_set (tk_set μ 58 t v3) 59 (μ 34 t) (tk_ladd (μ 59 (μ 34 t)) v3)) else if 0 ≤ μ 34 t - 10 ∧ μ 34 t - 10 < μ 31 0 then Q 0 (tk_set (tk_set μ 58 t v3) 57 (μ 34 t - 10) (tk_ladd (μ 57 (μ 34 t - 10)) v3)) else Q 0 (tk_set μ 58 t v3)) := by
    intro v3 hv3 G _
    have hs := step v3 hv3
    by_cases hp : 0 ≤ μ 34 t ∧ μ 34 t < μ 31 2
    · rw [if_pos hp]; exact hs.1 hp
    · rw [if_neg hp]
      by_cases hc : 0 ≤ μ 34 t - 10 ∧ μ 34 t - 10 < μ 31 0
      · rw [if_pos hc]; exact hs.2.1 hp hc
      · rw [if_neg hc]; exact hs.2.2 hp hc
  clear step
  have ho8 : 0 ≤ μ 34 t ∧ μ 34 t < μ 31 2 → μ 34 t < 8 := by omega
  have ho6 : 0 ≤ μ 34 t - 10 ∧ μ 34 t - 10 < μ 31 0 → μ 34 t - 10 < 6 := by omega
  by_cases hc : μ 32 t = 0
  · rw [if_pos hc] at hW
    have fin := fin (μ 33 t) hW.symm Q rfl
    by_cases hp : 0 ≤ μ 34 t ∧ μ 34 t < μ 31 2
    · rw [if_pos hp] at fin
      simp [tk_fn, tk_env, tk_sq, tk_sk, tk_if, tk_re, tk_rez, tk_rev, tk_xp, tk_se, tk_pf, tk_pfz, tk_pfo, tk_as, tk_asz, tk_asb, tk_aso, tk_cpy, tk_sw, tk_swc, tk_lit, tk_loc, tk_u1, tk_bin, tk_dv, tk_gf, tk_gr, tk_gn, tk_ald, tk_aldq, tk_aln, tk_unl, tk_una, tk_ter, tk_args, tk_cs, tk_cv, tk_ceq, tk_cne, tk_clt, tk_cge, tk_cgt, tk_cle, tk_zeq, tk_zne, tk_zlt, tk_zge, tk_zgt, tk_zle, tk_and, tk_or, tk_not, tk_ct2, tk_isC, List.headD_cons, tk_up, tk_sca, tk_scl, tkF_X5_value, tkS_X5_value, tk_al_2, tk_al_3, tk_al_4, tk_al_5, tk_al_6, tk_al_7, tk_al_8, tk_al_9, tk_al_10, tk_al_11, tk_al_13, tk_al_14, tk_al_16, tk_al_17, tk_al_19, tk_al_20, tk_al_22, tk_al_24, tk_al_25, tk_al_26, tk_al_27, tk_al_28, tk_al_29, tk_al_30, tk_al_32, tk_al_33, tk_al_34, tk_al_35, tk_al_36, tk_al_37, tk_al_38, tk_al_39, tk_al_40, tk_al_41, tk_al_43, tk_al_44, tk_al_46, tk_al_47, tk_al_49, tk_al_50, tk_al_52, tk_al_54, tk_al_55, tk_al_56, tk_al_57, tk_al_58, tk_al_59, tk_al_60, tk_al_62, tk_al_63, tk_al_64, tk_al_65, tk_al_66, tk_al_67, tk_al_68, tk_al_69, tk_al_70, tk_al_71, tk_al_73, tk_al_74, tk_al_76, tk_al_77, tk_al_79, tk_al_80, tk_al_81, tk_al_83, tk_al_85, tk_al_87, tk_al_89, tk_al_91, tk_al_93, tk_al_95, tk_al_97, tk_al_98, tk_al_99, tk_al_100, tk_al_101, tk_al_102, tk_al_103, tk_al_104, tk_al_105, tk_al_106, tk_al_107, tk_al_108, tk_al_109, tk_al_110, tk_al_111, tk_al_112, tk_al_113, tk_al_114, tk_al_115, tk_al_116, tk_al_117, tk_al_118, tk_al_119, tk_al_120, tk_al_121, tk_al_122, tk_al_123, tk_al_124, tk_al_125, tk_al_126, tk_al_127, tk_al_128, tk_al_129, ht.1, h24, hc, x_hasClient, x_hasCurrency, tk_bo_0, hp.1, hp.2, ho8 hp, tk_set_o, show ¬ μ 31 2 ≤ μ 34 t from by omega]
      exact fin
    · rw [if_neg hp] at fin
      by_cases hcu : 0 ≤ μ 34 t - 10 ∧ μ 34 t - 10 < μ 31 0
      · rw [if_pos hcu] at fin
        simp [tk_fn, tk_env, tk_sq, tk_sk, tk_if, tk_re, tk_rez, tk_rev, tk_xp, tk_se, tk_pf, tk_pfz, tk_pfo, tk_as, tk_asz, tk_asb, tk_aso, tk_cpy, tk_sw, tk_swc, tk_lit, tk_loc, tk_u1, tk_bin, tk_dv, tk_gf, tk_gr, tk_gn, tk_ald, tk_aldq, tk_aln, tk_unl, tk_una, tk_ter, tk_args, tk_cs, tk_cv, tk_ceq, tk_cne, tk_clt, tk_cge, tk_cgt, tk_cle, tk_zeq, tk_zne, tk_zlt, tk_zge, tk_zgt, tk_zle, tk_and, tk_or, tk_not, tk_ct2, tk_isC, List.headD_cons, tk_up, tk_sca, tk_scl, tkF_X5_value, tkS_X5_value, tk_al_2, tk_al_3, tk_al_4, tk_al_5, tk_al_6, tk_al_7, tk_al_8, tk_al_9, tk_al_10, tk_al_11, tk_al_13, tk_al_14, tk_al_16, tk_al_17, tk_al_19, tk_al_20, tk_al_22, tk_al_24, tk_al_25, tk_al_26, tk_al_27, tk_al_28, tk_al_29, tk_al_30, tk_al_32, tk_al_33, tk_al_34, tk_al_35, tk_al_36, tk_al_37, tk_al_38, tk_al_39, tk_al_40, tk_al_41, tk_al_43, tk_al_44, tk_al_46, tk_al_47, tk_al_49, tk_al_50, tk_al_52, tk_al_54, tk_al_55, tk_al_56, tk_al_57, tk_al_58, tk_al_59, tk_al_60, tk_al_62, tk_al_63, tk_al_64, tk_al_65, tk_al_66, tk_al_67, tk_al_68, tk_al_69, tk_al_70, tk_al_71, tk_al_73, tk_al_74, tk_al_76, tk_al_77, tk_al_79, tk_al_80, tk_al_81, tk_al_83, tk_al_85, tk_al_87, tk_al_89, tk_al_91, tk_al_93, tk_al_95, tk_al_97, tk_al_98, tk_al_99, tk_al_100, tk_al_101, tk_al_102, tk_al_103, tk_al_104, tk_al_105, tk_al_106, tk_al_107, tk_al_108, tk_al_109, tk_al_110, tk_al_111, tk_al_112, tk_al_113, tk_al_114, tk_al_115, tk_al_116, tk_al_117, tk_al_118, tk_al_119, tk_al_120, tk_al_121, tk_al_122, tk_al_123, tk_al_124, tk_al_125, tk_al_126, tk_al_127, tk_al_128, tk_al_129, ht.1, h24, hc, x_hasClient, x_hasCurrency, tk_bo_0, hp, hcu, hcu.1, hcu.2, ho6 hcu, i2, tk_set_o, show ¬ μ 31 0 ≤ μ 34 t - 10 from by omega, -not_and, -Int.sub_nonneg]
        exact fin
      · rw [if_neg hcu] at fin
        simp [tk_fn, tk_env, tk_sq, tk_sk, tk_if, tk_re, tk_rez, tk_rev, tk_xp, tk_se, tk_pf, tk_pfz, tk_pfo, tk_as, tk_asz, tk_asb, tk_aso, tk_cpy, tk_sw, tk_swc, tk_lit, tk_loc, tk_u1, tk_bin, tk_dv, tk_gf, tk_gr, tk_gn, tk_ald, tk_aldq, tk_aln, tk_unl, tk_una, tk_ter, tk_args, tk_cs, tk_cv, tk_ceq, tk_cne, tk_clt, tk_cge, tk_cgt, tk_cle, tk_zeq, tk_zne, tk_zlt, tk_zge, tk_zgt, tk_zle, tk_and, tk_or, tk_not, tk_ct2, tk_isC, List.headD_cons, tk_up, tk_sca, tk_scl, tkF_X5_value, tkS_X5_value, tk_al_2, tk_al_3, tk_al_4, tk_al_5, tk_al_6, tk_al_7, tk_al_8, tk_al_9, tk_al_10, tk_al_11, tk_al_13, tk_al_14, tk_al_16, tk_al_17, tk_al_19, tk_al_20, tk_al_22, tk_al_24, tk_al_25, tk_al_26, tk_al_27, tk_al_28, tk_al_29, tk_al_30, tk_al_32, tk_al_33, tk_al_34, tk_al_35, tk_al_36, tk_al_37, tk_al_38, tk_al_39, tk_al_40, tk_al_41, tk_al_43, tk_al_44, tk_al_46, tk_al_47, tk_al_49, tk_al_50, tk_al_52, tk_al_54, tk_al_55, tk_al_56, tk_al_57, tk_al_58, tk_al_59, tk_al_60, tk_al_62, tk_al_63, tk_al_64, tk_al_65, tk_al_66, tk_al_67, tk_al_68, tk_al_69, tk_al_70, tk_al_71, tk_al_73, tk_al_74, tk_al_76, tk_al_77, tk_al_79, tk_al_80, tk_al_81, tk_al_83, tk_al_85, tk_al_87, tk_al_89, tk_al_91, tk_al_93, tk_al_95, tk_al_97, tk_al_98, tk_al_99, tk_al_100, tk_al_101, tk_al_102, tk_al_103, tk_al_104, tk_al_105, tk_al_106, tk_al_107, tk_al_108, tk_al_109, tk_al_110, tk_al_111, tk_al_112, tk_al_113, tk_al_114, tk_al_115, tk_al_116, tk_al_117, tk_al_118, tk_al_119, tk_al_120, tk_al_121, tk_al_122, tk_al_123, tk_al_124, tk_al_125, tk_al_126, tk_al_127, tk_al_128, tk_al_129, ht.1, h24, hc, x_hasClient, x_hasCurrency, tk_bo_0, hp, hcu, i2, tk_set_o, -not_and, -Int.sub_nonneg]
        exact fin
  · rw [if_neg hc] at hW
    have hm : 0 ≤ μ 33 t * v ∧ μ 33 t * v ≤ 9999 * 79618277376 := by
      refine ⟨Int.mul_nonneg (by omega) hV.1, ?_⟩
      exact Int.mul_le_mul g.2.1.2 hV.2 hV.1 (by omega)
    have l1 : tk_lmul (μ 33 t) v = μ 33 t * v := tk_lmul_id (by omega) (by omega)
    have hcut : (if 0 < q then tk_ldiv (μ 33 t * v) q else 0) = w := by
      rw [hW]
      by_cases hq : q = 0
      · rw [if_pos hq, if_neg (by omega)]
      · rw [if_neg hq, if_pos (by omega)]
        exact tk_ldiv_id (by omega) (by omega)
    have fin := fin w rfl Q rfl
    by_cases hp : 0 ≤ μ 34 t ∧ μ 34 t < μ 31 2
    · rw [if_pos hp] at fin
      simp [tk_fn, tk_env, tk_sq, tk_sk, tk_if, tk_re, tk_rez, tk_rev, tk_xp, tk_se, tk_pf, tk_pfz, tk_pfo, tk_as, tk_asz, tk_asb, tk_aso, tk_cpy, tk_sw, tk_swc, tk_lit, tk_loc, tk_u1, tk_bin, tk_dv, tk_gf, tk_gr, tk_gn, tk_ald, tk_aldq, tk_aln, tk_unl, tk_una, tk_ter, tk_args, tk_cs, tk_cv, tk_ceq, tk_cne, tk_clt, tk_cge, tk_cgt, tk_cle, tk_zeq, tk_zne, tk_zlt, tk_zge, tk_zgt, tk_zle, tk_and, tk_or, tk_not, tk_ct2, tk_isC, List.headD_cons, tk_up, tk_sca, tk_scl, tkF_X5_value, tkS_X5_value, tk_al_2, tk_al_3, tk_al_4, tk_al_5, tk_al_6, tk_al_7, tk_al_8, tk_al_9, tk_al_10, tk_al_11, tk_al_13, tk_al_14, tk_al_16, tk_al_17, tk_al_19, tk_al_20, tk_al_22, tk_al_24, tk_al_25, tk_al_26, tk_al_27, tk_al_28, tk_al_29, tk_al_30, tk_al_32, tk_al_33, tk_al_34, tk_al_35, tk_al_36, tk_al_37, tk_al_38, tk_al_39, tk_al_40, tk_al_41, tk_al_43, tk_al_44, tk_al_46, tk_al_47, tk_al_49, tk_al_50, tk_al_52, tk_al_54, tk_al_55, tk_al_56, tk_al_57, tk_al_58, tk_al_59, tk_al_60, tk_al_62, tk_al_63, tk_al_64, tk_al_65, tk_al_66, tk_al_67, tk_al_68, tk_al_69, tk_al_70, tk_al_71, tk_al_73, tk_al_74, tk_al_76, tk_al_77, tk_al_79, tk_al_80, tk_al_81, tk_al_83, tk_al_85, tk_al_87, tk_al_89, tk_al_91, tk_al_93, tk_al_95, tk_al_97, tk_al_98, tk_al_99, tk_al_100, tk_al_101, tk_al_102, tk_al_103, tk_al_104, tk_al_105, tk_al_106, tk_al_107, tk_al_108, tk_al_109, tk_al_110, tk_al_111, tk_al_112, tk_al_113, tk_al_114, tk_al_115, tk_al_116, tk_al_117, tk_al_118, tk_al_119, tk_al_120, tk_al_121, tk_al_122, tk_al_123, tk_al_124, tk_al_125, tk_al_126, tk_al_127, tk_al_128, tk_al_129, ht.1, h24, hc, g.1.1, hc6, hi2, hval, x_cutBy, l1, hcut, x_hasClient, x_hasCurrency, tk_bo_0, hp.1, hp.2, ho8 hp, tk_set_o, show ¬ μ 31 2 ≤ μ 34 t from by omega]
      exact fin
    · rw [if_neg hp] at fin
      by_cases hcu : 0 ≤ μ 34 t - 10 ∧ μ 34 t - 10 < μ 31 0
      · rw [if_pos hcu] at fin
        simp [tk_fn, tk_env, tk_sq, tk_sk, tk_if, tk_re, tk_rez, tk_rev, tk_xp, tk_se, tk_pf, tk_pfz, tk_pfo, tk_as, tk_asz, tk_asb, tk_aso, tk_cpy, tk_sw, tk_swc, tk_lit, tk_loc, tk_u1, tk_bin, tk_dv, tk_gf, tk_gr, tk_gn, tk_ald, tk_aldq, tk_aln, tk_unl, tk_una, tk_ter, tk_args, tk_cs, tk_cv, tk_ceq, tk_cne, tk_clt, tk_cge, tk_cgt, tk_cle, tk_zeq, tk_zne, tk_zlt, tk_zge, tk_zgt, tk_zle, tk_and, tk_or, tk_not, tk_ct2, tk_isC, List.headD_cons, tk_up, tk_sca, tk_scl, tkF_X5_value, tkS_X5_value, tk_al_2, tk_al_3, tk_al_4, tk_al_5, tk_al_6, tk_al_7, tk_al_8, tk_al_9, tk_al_10, tk_al_11, tk_al_13, tk_al_14, tk_al_16, tk_al_17, tk_al_19, tk_al_20, tk_al_22, tk_al_24, tk_al_25, tk_al_26, tk_al_27, tk_al_28, tk_al_29, tk_al_30, tk_al_32, tk_al_33, tk_al_34, tk_al_35, tk_al_36, tk_al_37, tk_al_38, tk_al_39, tk_al_40, tk_al_41, tk_al_43, tk_al_44, tk_al_46, tk_al_47, tk_al_49, tk_al_50, tk_al_52, tk_al_54, tk_al_55, tk_al_56, tk_al_57, tk_al_58, tk_al_59, tk_al_60, tk_al_62, tk_al_63, tk_al_64, tk_al_65, tk_al_66, tk_al_67, tk_al_68, tk_al_69, tk_al_70, tk_al_71, tk_al_73, tk_al_74, tk_al_76, tk_al_77, tk_al_79, tk_al_80, tk_al_81, tk_al_83, tk_al_85, tk_al_87, tk_al_89, tk_al_91, tk_al_93, tk_al_95, tk_al_97, tk_al_98, tk_al_99, tk_al_100, tk_al_101, tk_al_102, tk_al_103, tk_al_104, tk_al_105, tk_al_106, tk_al_107, tk_al_108, tk_al_109, tk_al_110, tk_al_111, tk_al_112, tk_al_113, tk_al_114, tk_al_115, tk_al_116, tk_al_117, tk_al_118, tk_al_119, tk_al_120, tk_al_121, tk_al_122, tk_al_123, tk_al_124, tk_al_125, tk_al_126, tk_al_127, tk_al_128, tk_al_129, ht.1, h24, hc, g.1.1, hc6, hi2, hval, x_cutBy, l1, hcut, x_hasClient, x_hasCurrency, tk_bo_0, hp, hcu, hcu.1, hcu.2, ho6 hcu, i2, tk_set_o, show ¬ μ 31 0 ≤ μ 34 t - 10 from by omega, -not_and, -Int.sub_nonneg]
        exact fin
      · rw [if_neg hcu] at fin
        simp [tk_fn, tk_env, tk_sq, tk_sk, tk_if, tk_re, tk_rez, tk_rev, tk_xp, tk_se, tk_pf, tk_pfz, tk_pfo, tk_as, tk_asz, tk_asb, tk_aso, tk_cpy, tk_sw, tk_swc, tk_lit, tk_loc, tk_u1, tk_bin, tk_dv, tk_gf, tk_gr, tk_gn, tk_ald, tk_aldq, tk_aln, tk_unl, tk_una, tk_ter, tk_args, tk_cs, tk_cv, tk_ceq, tk_cne, tk_clt, tk_cge, tk_cgt, tk_cle, tk_zeq, tk_zne, tk_zlt, tk_zge, tk_zgt, tk_zle, tk_and, tk_or, tk_not, tk_ct2, tk_isC, List.headD_cons, tk_up, tk_sca, tk_scl, tkF_X5_value, tkS_X5_value, tk_al_2, tk_al_3, tk_al_4, tk_al_5, tk_al_6, tk_al_7, tk_al_8, tk_al_9, tk_al_10, tk_al_11, tk_al_13, tk_al_14, tk_al_16, tk_al_17, tk_al_19, tk_al_20, tk_al_22, tk_al_24, tk_al_25, tk_al_26, tk_al_27, tk_al_28, tk_al_29, tk_al_30, tk_al_32, tk_al_33, tk_al_34, tk_al_35, tk_al_36, tk_al_37, tk_al_38, tk_al_39, tk_al_40, tk_al_41, tk_al_43, tk_al_44, tk_al_46, tk_al_47, tk_al_49, tk_al_50, tk_al_52, tk_al_54, tk_al_55, tk_al_56, tk_al_57, tk_al_58, tk_al_59, tk_al_60, tk_al_62, tk_al_63, tk_al_64, tk_al_65, tk_al_66, tk_al_67, tk_al_68, tk_al_69, tk_al_70, tk_al_71, tk_al_73, tk_al_74, tk_al_76, tk_al_77, tk_al_79, tk_al_80, tk_al_81, tk_al_83, tk_al_85, tk_al_87, tk_al_89, tk_al_91, tk_al_93, tk_al_95, tk_al_97, tk_al_98, tk_al_99, tk_al_100, tk_al_101, tk_al_102, tk_al_103, tk_al_104, tk_al_105, tk_al_106, tk_al_107, tk_al_108, tk_al_109, tk_al_110, tk_al_111, tk_al_112, tk_al_113, tk_al_114, tk_al_115, tk_al_116, tk_al_117, tk_al_118, tk_al_119, tk_al_120, tk_al_121, tk_al_122, tk_al_123, tk_al_124, tk_al_125, tk_al_126, tk_al_127, tk_al_128, tk_al_129, ht.1, h24, hc, g.1.1, hc6, hi2, hval, x_cutBy, l1, hcut, x_hasClient, x_hasCurrency, tk_bo_0, hp, hcu, i2, tk_set_o, -not_and, -Int.sub_nonneg]
        exact fin
