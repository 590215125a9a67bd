/-! ===== Layer 2: items moved ===== -/
theorem tk_blk_s {μ : tk_M} {a sp b dp n : Int} (h : 0 ≤ n) : tk_set (tk_blk μ a sp b dp n) b (dp + n) (μ a (sp + n)) = tk_blk μ a sp b dp (n + 1) := by
  funext o i
  unfold tk_blk tk_set
  by_cases h1 : o = b ∧ i = dp + n
  · rw [if_pos h1, if_pos (by omega), h1.2, show sp + (dp + n - dp) = sp + n by omega]
  · rw [if_neg h1]
    dsimp only
    by_cases h2 : o = b ∧ dp ≤ i ∧ i < dp + n
    · rw [if_pos h2, if_pos (by omega)]
    · rw [if_neg h2, if_neg (by omega)]
theorem tk_blk_z {μ : tk_M} {a sp b dp : Int} : tk_blk μ a sp b dp 0 = μ := by
  funext o i
  unfold tk_blk
  rw [if_neg (by omega)]
theorem m_cp1 {t i n : Int} {μ : tk_M} {Q : Int → tk_M → Prop} (ht : 0 ≤ t ∧ t < 6) (hi : 0 ≤ i) (hn : 0 ≤ n) (hin : i + n ≤ 60) {ρ : tk_L} (h0 : ρ 0 = 96) (h1 : ρ 1 = t) (h2 : ρ 2 = i) (h5 : ρ 5 = n) (h6 : ρ 6 = 0) {Qn : tk_L → tk_M → Prop} (hQ : ∀ ρ' : tk_L, (∀ k : Nat, ¬ k = 6 → ρ' k = ρ k) → Qn ρ' (tk_blk μ 127 (60 * t + i) 128 0 n)) : tk_wh (tk_clt (tk_loc 6) (tk_loc 5)) (tk_sq (tk_as 1 (tk_gr 7 (32) (tk_loc 0)) (tk_loc 6) (tk_ald 1 (tk_gr 7 (31) (tk_loc 0)) (tk_bin tk_iadd (tk_bin tk_iadd (tk_bin tk_imul (tk_lit (60)) (tk_loc 1)) (tk_loc 2)) (tk_loc 6)))) (tk_se 6 (tk_bin tk_iadd (tk_loc 6) (tk_lit (1))))) Qn Q ρ μ := by
  have l1 : tk_imul 60 t = 60 * t := tk_imul_id (by omega) (by omega)
  have l2 : tk_iadd (60 * t) i = 60 * t + i := tk_iadd_id (by omega) (by omega)
  refine tk_for n (fun k ρ' μ' => (∀ j : Nat, ¬ j = 6 → ρ' j = ρ j) ∧ ρ' 6 = k ∧ μ' = tk_blk μ 127 (60 * t + i) 128 0 k) hn ⟨fun _ _ => rfl, h6, tk_blk_z.symm⟩ ?_ ?_
  · rintro k ρ' μ' hk0 hk6 ⟨hr, r6, rfl⟩ K hK
    have r0 : ρ' 0 = 96 := (hr 0 (by decide)).trans h0
    have r1 : ρ' 1 = t := (hr 1 (by decide)).trans h1
    have r2 : ρ' 2 = i := (hr 2 (by decide)).trans h2
    have r5 : ρ' 5 = n := (hr 5 (by decide)).trans h5
    have i1 : tk_iadd k 1 = k + 1 := tk_iadd_id (by omega) (by omega)
    have l3 : tk_iadd (60 * t + i) k = 60 * t + i + k := tk_iadd_id (by omega) (by omega)
    simp [tk_fn, tk_env, tk_sq, tk_sk, tk_if, tk_re, tk_rez, tk_rev, tk_xp, tk_se, tk_pf, tk_pfz, tk_pfo, tk_as, tk_asz, tk_asb, tk_aso, tk_cpy, tk_sw, tk_swc, tk_lit, tk_loc, tk_u1, tk_bin, tk_dv, tk_gf, tk_gr, tk_gn, tk_ald, tk_aldq, tk_aln, tk_unl, tk_una, tk_ter, tk_args, tk_cs, tk_cv, tk_ceq, tk_cne, tk_clt, tk_cge, tk_cgt, tk_cle, tk_zeq, tk_zne, tk_zlt, tk_zge, tk_zgt, tk_zle, tk_and, tk_or, tk_not, tk_ct2, tk_isC, List.headD_cons, tk_up, tk_sca, tk_scl, r0, r1, r2, r5, r6, hk0, hk6, i1, l1, l2, l3, tk_al_127, tk_al_128, show k < 60 from by omega, show 0 ≤ 60 * t + i + k from by omega, show 60 * t + i + k < 360 from by omega]
    refine hK _ _ ⟨fun j hj => ?_, rfl, ?_⟩
    · show (if j = 6 then _ else ρ' j) = ρ j
      rw [if_neg hj]
      exact hr j hj
    · rw [tk_blk_o (by omega)]
      have h := tk_blk_s (μ := μ) (a := 127) (sp := 60 * t + i) (b := 128) (dp := 0) hk0
      rw [Int.zero_add] at h
      exact h
  · rintro ρ' μ' ⟨hr, r6, rfl⟩ X
    have r5 : ρ' 5 = n := (hr 5 (by decide)).trans h5
    simp [tk_fn, tk_env, tk_sq, tk_sk, tk_if, tk_re, tk_rez, tk_rev, tk_xp, tk_se, tk_pf, tk_pfz, tk_pfo, tk_as, tk_asz, tk_asb, tk_aso, tk_cpy, tk_sw, tk_swc, tk_lit, tk_loc, tk_u1, tk_bin, tk_dv, tk_gf, tk_gr, tk_gn, tk_ald, tk_aldq, tk_aln, tk_unl, tk_una, tk_ter, tk_args, tk_cs, tk_cv, tk_ceq, tk_cne, tk_clt, tk_cge, tk_cgt, tk_cle, tk_zeq, tk_zne, tk_zlt, tk_zge, tk_zgt, tk_zle, tk_and, tk_or, tk_not, tk_ct2, tk_isC, List.headD_cons, tk_up, tk_sca, tk_scl, r5, r6]
    exact hQ ρ' hr
theorem m_cp2 {t i n : Int} {μ : tk_M} {Q : Int → tk_M → Prop} (ht : 0 ≤ t ∧ t < 6) (hi : 0 ≤ i) (hn : 0 ≤ n) (hin : i + n ≤ 60) {ρ : tk_L} (h0 : ρ 0 = 96) (h1 : ρ 3 = t) (h2 : ρ 4 = i) (h5 : ρ 5 = n) (h6 : ρ 6 = 0) {Qn : tk_L → tk_M → Prop} (hQ : ∀ ρ' : tk_L, (∀ k : Nat, ¬ k = 6 → ρ' k = ρ k) → Qn ρ' (tk_blk μ 128 0 127 (60 * t + i) n)) : tk_wh (tk_clt (tk_loc 6) (tk_loc 5)) (tk_sq (tk_as 1 (tk_gr 7 (31) (tk_loc 0)) (tk_bin tk_iadd (tk_bin tk_iadd (tk_bin tk_imul (tk_lit (60)) (tk_loc 3)) (tk_loc 4)) (tk_loc 6)) (tk_ald 1 (tk_gr 7 (32) (tk_loc 0)) (tk_loc 6))) (tk_se 6 (tk_bin tk_iadd (tk_loc 6) (tk_lit (1))))) Qn Q ρ μ := by
  have l1 : tk_imul 60 t = 60 * t := tk_imul_id (by omega) (by omega)
  have l2 : tk_iadd (60 * t) i = 60 * t + i := tk_iadd_id (by omega) (by omega)
  refine tk_for n (fun k ρ' μ' => (∀ j : Nat, ¬ j = 6 → ρ' j = ρ j) ∧ ρ' 6 = k ∧ μ' = tk_blk μ 128 0 127 (60 * t + i) k) hn ⟨fun _ _ => rfl, h6, tk_blk_z.symm⟩ ?_ ?_
  · rintro k ρ' μ' hk0 hk6 ⟨hr, r6, rfl⟩ K hK
    have r0 : ρ' 0 = 96 := (hr 0 (by decide)).trans h0
    have r1 : ρ' 3 = t := (hr 3 (by decide)).trans h1
    have r2 : ρ' 4 = i := (hr 4 (by decide)).trans h2
    have r5 : ρ' 5 = n := (hr 5 (by decide)).trans h5
    have i1 : tk_iadd k 1 = k + 1 := tk_iadd_id (by omega) (by omega)
    have l3 : tk_iadd (60 * t + i) k = 60 * t + i + k := tk_iadd_id (by omega) (by omega)
    simp [tk_fn, tk_env, tk_sq, tk_sk, tk_if, tk_re, tk_rez, tk_rev, tk_xp, tk_se, tk_pf, tk_pfz, tk_pfo, tk_as, tk_asz, tk_asb, tk_aso, tk_cpy, tk_sw, tk_swc, tk_lit, tk_loc, tk_u1, tk_bin, tk_dv, tk_gf, tk_gr, tk_gn, tk_ald, tk_aldq, tk_aln, tk_unl, tk_una, tk_ter, tk_args, tk_cs, tk_cv, tk_ceq, tk_cne, tk_clt, tk_cge, tk_cgt, tk_cle, tk_zeq, tk_zne, tk_zlt, tk_zge, tk_zgt, tk_zle, tk_and, tk_or, tk_not, tk_ct2, tk_isC, List.headD_cons, tk_up, tk_sca, tk_scl, r0, r1, r2, r5, r6, hk0, hk6, i1, l1, l2, l3, tk_al_127, tk_al_128, show k < 60 from by omega, show 0 ≤ 60 * t + i + k from by omega, show 60 * t + i + k < 360 from by omega]
    refine hK _ _ ⟨fun j hj => ?_, rfl, ?_⟩
    · show (if j = 6 then _ else ρ' j) = ρ j
      rw [if_neg hj]
      exact hr j hj
    · rw [tk_blk_o (by omega)]
      have h := tk_blk_s (μ := μ) (a := 128) (sp := 0) (b := 127) (dp := 60 * t + i) hk0
      rw [Int.zero_add] at h
      exact h
  · rintro ρ' μ' ⟨hr, r6, rfl⟩ X
    have r5 : ρ' 5 = n := (hr 5 (by decide)).trans h5
    simp [tk_fn, tk_env, tk_sq, tk_sk, tk_if, tk_re, tk_rez, tk_rev, tk_xp, tk_se, tk_pf, tk_pfz, tk_pfo, tk_as, tk_asz, tk_asb, tk_aso, tk_cpy, tk_sw, tk_swc, tk_lit, tk_loc, tk_u1, tk_bin, tk_dv, tk_gf, tk_gr, tk_gn, tk_ald, tk_aldq, tk_aln, tk_unl, tk_una, tk_ter, tk_args, tk_cs, tk_cv, tk_ceq, tk_cne, tk_clt, tk_cge, tk_cgt, tk_cle, tk_zeq, tk_zne, tk_zlt, tk_zge, tk_zgt, tk_zle, tk_and, tk_or, tk_not, tk_ct2, tk_isC, List.headD_cons, tk_up, tk_sca, tk_scl, r5, r6]
    exact hQ ρ' hr
theorem c_shift_R {t i o j n : Int} {μ : tk_M} (hR : tk_R μ) (ht : 0 ≤ t ∧ t < 6) (ho : 0 ≤ o ∧ o < 6) (hi : 0 ≤ i) (hj : 0 ≤ j) (hn : 0 ≤ n) (h1 : i + n ≤ 60) (h2 : j + n ≤ 60) : tk_R (tk_blk (tk_blk (tk_set (tk_blk μ (84 + 2 * t + 1) i (84 + 2 * o + 1) j n) 96 24 0) 127 (60 * t + i) 128 0 n) 128 0 127 (60 * o + j) n) := by
  obtain ⟨p1, p2, p3, p4, p5, p6⟩ := tk_RPt hR ho
  obtain ⟨-, -, -, -, -, q6⟩ := tk_RPt hR ht
  generalize hμ' : tk_blk (tk_blk (tk_set (tk_blk μ (84 + 2 * t + 1) i (84 + 2 * o + 1) j n) 96 24 0) 127 (60 * t + i) 128 0 n) 128 0 127 (60 * o + j) n = μ'
  have e : ∀ a k : Int, ¬ (a = 127 ∧ 60 * o + j ≤ k ∧ k < 60 * o + j + n) → ¬ a = 128 → ¬ (a = 96 ∧ k = 24) → ¬ (a = 84 + 2 * o + 1 ∧ j ≤ k ∧ k < j + n) → μ' a k = μ a k := fun a k z1 z2 z3 z4 => by
    rw [← hμ']
    unfold tk_blk tk_set
    rw [if_neg z1, if_neg (fun z => z2 z.1), if_neg z3]
    dsimp only
    rw [if_neg z4]
  have e1 : ∀ k : Int, j ≤ k → k < j + n → μ' 127 (60 * o + k) = μ 127 (60 * t + i + (k - j)) := fun k z1 z2 => by
    rw [← hμ']
    unfold tk_blk tk_set
    rw [if_pos (by omega), if_pos (by omega), if_neg (by omega)]
    dsimp only
    rw [if_neg (by omega)]
    congr 1
    omega
  have e2 : ∀ k : Int, j ≤ k → k < j + n → μ' (84 + 2 * o + 1) k = μ (84 + 2 * t + 1) (i + (k - j)) := fun k z1 z2 => by
    rw [← hμ']
    unfold tk_blk tk_set
    rw [if_neg (by omega), if_neg (by omega), if_neg (by omega)]
    dsimp only
    rw [if_pos (by omega)]
  clear hμ'
  refine tk_R_tp hR ho (fun a k hk hx => e a k ?_ ?_ ?_ ?_) ?_ ?_ ?_ ?_ ?_ (fun k h6 h7 => ?_)
  · omega
  · unfold tk_kp at hk; omega
  · unfold tk_kp at hk; omega
  · omega
  · rw [e _ _ (by omega) (by omega) (by omega) (by omega)]; exact p1
  · rw [e _ _ (by omega) (by omega) (by omega) (by omega)]; exact p2
  · rw [e _ _ (by omega) (by omega) (by omega) (by omega), e _ _ (by omega) (by omega) (by omega) (by omega)]; exact p3
  · rw [e _ _ (by omega) (by omega) (by omega) (by omega), e _ _ (by omega) (by omega) (by omega) (by omega)]; exact p4
  · rw [e _ _ (by omega) (by omega) (by omega) (by omega), e _ _ (by omega) (by omega) (by omega) (by omega), e _ _ (by omega) (by omega) (by omega) (by omega), e _ _ (by omega) (by omega) (by omega) (by omega)]; exact p5
  · by_cases hk : j ≤ k ∧ k < j + n
    · rw [e1 k hk.1 hk.2, e2 k hk.1 hk.2, show 60 * t + i + (k - j) = 60 * t + (i + (k - j)) by omega]
      exact q6 _ (by omega) (by omega)
    · rw [e _ _ (by omega) (by omega) (by omega) (by omega), e _ _ (by omega) (by omega) (by omega) (by omega)]
      exact p6 k h6 h7
theorem c_shift_y {t i o j n : Int} {μ : tk_M} {K : Int → Int → tk_M → Prop} (hR : tk_R μ) (ht : 0 ≤ t ∧ t < 6) (ho : 0 ≤ o ∧ o < 6) (hs : 0 ≤ μ (84 + 2 * t) 0) (he : μ (84 + 2 * o) 0 = μ (84 + 2 * t) 0) (hi : 0 ≤ i) (hj : 0 ≤ j) (hn : 0 ≤ n) (h1 : i + n ≤ μ (84 + 2 * t) 1) (h2 : j + n ≤ μ (84 + 2 * o) 1) (hK : ∀ r μ', tk_R μ' → K r r μ') : tkF_X6_shift [0, t, i, o, j, n] (fun r μ1 => tkF_X7_shift [96, t, i, o, j, n] (fun r' μ2 => K r r' μ2) μ1) μ := by
  have ht5 : t ≤ 5 := (by omega); have ho5 : o ≤ 5 := (by omega); obtain ⟨hC, hal⟩ := tk_tpq ht; obtain ⟨gC, gal⟩ := tk_tpq ho; obtain ⟨p1, p2, p3, p4, p5, p6⟩ := tk_RPt hR ht; obtain ⟨s1, s2, s3, s4, s5, s6⟩ := tk_RPt hR ho; have hT := tk_R_thr (v := 0) hR
  have q9 : μ 129 t = 1 := by rw [p4]; exact tk_bo_t hs
  have r9 : μ 129 o = 1 := by rw [s4, he]; exact tk_bo_t hs
  have q5 : μ 125 t = μ (84 + 2 * t) 0 := (p5 hs).1
  have r5 : μ 125 o = μ (84 + 2 * t) 0 := by rw [(s5 (by omega)).1, he]
  have q6 : μ 126 t = μ (84 + 2 * t) 1 := (p5 hs).2
  have r6 : μ 126 o = μ (84 + 2 * o) 1 := (s5 (by omega)).2
  have l1 : tk_isub (μ (84 + 2 * t) 1) n = μ (84 + 2 * t) 1 - n := tk_isub_id (by omega) (by omega)
  have l2 : tk_isub (μ (84 + 2 * o) 1) n = μ (84 + 2 * o) 1 - n := tk_isub_id (by omega) (by omega)
  have l3 : tk_ladd i n = i + n := tk_ladd_id (by omega) (by omega)
  have l4 : tk_ladd j n = j + n := tk_ladd_id (by omega) (by omega)
  have b5 : ∀ z, tk_blk μ (84 + 2 * t + 1) i (84 + 2 * o + 1) j n 125 z = μ 125 z := fun z => tk_blk_o (by omega)
  have b6 : ∀ z, tk_blk μ (84 + 2 * t + 1) i (84 + 2 * o + 1) j n 126 z = μ 126 z := fun z => tk_blk_o (by omega)
  have b9 : ∀ z, tk_blk μ (84 + 2 * t + 1) i (84 + 2 * o + 1) j n 129 z = μ 129 z := fun z => tk_blk_o (by omega)
  simp [tk_fn, tk_env, tk_sq, tk_sk, tk_if, tk_re, tk_rez, tk_rev, tk_xp, tk_se, tk_pf, tk_pfz, tk_pfo, tk_as, tk_asz, tk_asb, tk_aso, tk_cpy, tk_sw, tk_swc, tk_lit, tk_loc, tk_u1, tk_bin, tk_dv, tk_gf, tk_gr, tk_gn, tk_ald, tk_aldq, tk_aln, tk_unl, tk_una, tk_ter, tk_args, tk_cs, tk_cv, tk_ceq, tk_cne, tk_clt, tk_cge, tk_cgt, tk_cle, tk_zeq, tk_zne, tk_zlt, tk_zge, tk_zgt, tk_zle, tk_and, tk_or, tk_not, tk_ct2, List.headD_cons, tk_up, tk_sca, tk_scl, tk_c6, tk_c7, tk_set_j, tk_set_o, tk_set_eq, x_isTape, m_isTape, m_in, tk_bo_0, tk_al_2, tk_al_3, tk_al_4, tk_al_5, tk_al_6, tk_al_7, tk_al_8, tk_al_9, tk_al_10, tk_al_11, tk_al_13, tk_al_14, tk_al_16, tk_al_17, tk_al_19, tk_al_20, tk_al_22, tk_al_24, tk_al_25, tk_al_26, tk_al_27, tk_al_28, tk_al_29, tk_al_30, tk_al_32, tk_al_33, tk_al_34, tk_al_35, tk_al_36, tk_al_37, tk_al_38, tk_al_39, tk_al_40, tk_al_41, tk_al_43, tk_al_44, tk_al_46, tk_al_47, tk_al_49, tk_al_50, tk_al_52, tk_al_54, tk_al_55, tk_al_56, tk_al_57, tk_al_58, tk_al_59, tk_al_60, tk_al_62, tk_al_63, tk_al_64, tk_al_65, tk_al_66, tk_al_67, tk_al_68, tk_al_69, tk_al_70, tk_al_71, tk_al_73, tk_al_74, tk_al_76, tk_al_77, tk_al_79, tk_al_80, tk_al_81, tk_al_83, tk_al_85, tk_al_87, tk_al_89, tk_al_91, tk_al_93, tk_al_95, tk_al_97, tk_al_98, tk_al_99, tk_al_100, tk_al_101, tk_al_102, tk_al_103, tk_al_104, tk_al_105, tk_al_106, tk_al_107, tk_al_108, tk_al_109, tk_al_110, tk_al_111, tk_al_112, tk_al_113, tk_al_114, tk_al_115, tk_al_116, tk_al_117, tk_al_118, tk_al_119, tk_al_120, tk_al_121, tk_al_122, tk_al_123, tk_al_124, tk_al_125, tk_al_126, tk_al_127, tk_al_128, tk_al_129, tkF_X6_shift, tkS_X6_shift, ht.1, ht.2, ho.1, ho.2, hC, gC, hal, gal, he, l1, l2, hi, hj, hn, show ¬ μ (84 + 2 * t) 0 = -1 from by omega, show ¬ n < 0 from by omega, show ¬ i < 0 from by omega, show ¬ j < 0 from by omega, show ¬ μ (84 + 2 * t) 1 - n < i from by omega, show ¬ μ (84 + 2 * o) 1 - n < j from by omega, show i + n ≤ 60 from by omega, show j + n ≤ 60 from by omega]
  simp [tk_fn, tk_env, tk_sq, tk_sk, tk_if, tk_re, tk_rez, tk_rev, tk_xp, tk_se, tk_pf, tk_pfz, tk_pfo, tk_as, tk_asz, tk_asb, tk_aso, tk_cpy, tk_sw, tk_swc, tk_lit, tk_loc, tk_u1, tk_bin, tk_dv, tk_gf, tk_gr, tk_gn, tk_ald, tk_aldq, tk_aln, tk_unl, tk_una, tk_ter, tk_args, tk_cs, tk_cv, tk_ceq, tk_cne, tk_clt, tk_cge, tk_cgt, tk_cle, tk_zeq, tk_zne, tk_zlt, tk_zge, tk_zgt, tk_zle, tk_and, tk_or, tk_not, tk_ct2, List.headD_cons, tk_up, tk_sca, tk_scl, tk_c6, tk_c7, tk_set_j, tk_set_o, tk_set_eq, x_isTape, m_isTape, m_in, tk_bo_0, tk_al_2, tk_al_3, tk_al_4, tk_al_5, tk_al_6, tk_al_7, tk_al_8, tk_al_9, tk_al_10, tk_al_11, tk_al_13, tk_al_14, tk_al_16, tk_al_17, tk_al_19, tk_al_20, tk_al_22, tk_al_24, tk_al_25, tk_al_26, tk_al_27, tk_al_28, tk_al_29, tk_al_30, tk_al_32, tk_al_33, tk_al_34, tk_al_35, tk_al_36, tk_al_37, tk_al_38, tk_al_39, tk_al_40, tk_al_41, tk_al_43, tk_al_44, tk_al_46, tk_al_47, tk_al_49, tk_al_50, tk_al_52, tk_al_54, tk_al_55, tk_al_56, tk_al_57, tk_al_58, tk_al_59, tk_al_60, tk_al_62, tk_al_63, tk_al_64, tk_al_65, tk_al_66, tk_al_67, tk_al_68, tk_al_69, tk_al_70, tk_al_71, tk_al_73, tk_al_74, tk_al_76, tk_al_77, tk_al_79, tk_al_80, tk_al_81, tk_al_83, tk_al_85, tk_al_87, tk_al_89, tk_al_91, tk_al_93, tk_al_95, tk_al_97, tk_al_98, tk_al_99, tk_al_100, tk_al_101, tk_al_102, tk_al_103, tk_al_104, tk_al_105, tk_al_106, tk_al_107, tk_al_108, tk_al_109, tk_al_110, tk_al_111, tk_al_112, tk_al_113, tk_al_114, tk_al_115, tk_al_116, tk_al_117, tk_al_118, tk_al_119, tk_al_120, tk_al_121, tk_al_122, tk_al_123, tk_al_124, tk_al_125, tk_al_126, tk_al_127, tk_al_128, tk_al_129, tkF_X7_shift, tkS_X7_shift, ht.1, ht.2, ho.1, ho.2, ht5, ho5, b5, b6, b9, q5, q6, q9, r5, r6, r9, l3, l4, show ¬ n < 0 from by omega, show ¬ i < 0 from by omega, show ¬ j < 0 from by omega, show ¬ μ (84 + 2 * t) 1 < i + n from by omega, show ¬ μ (84 + 2 * o) 1 < j + n from by omega]
  refine m_cp1 ht hi hn (by omega) rfl rfl rfl rfl rfl (fun ρ' hr => ?_)
  refine m_cp2 ho hj hn (by omega) ?_ ?_ ?_ ?_ rfl (fun ρ'' hr2 => ?_)
  · exact hr 0 (by decide)
  · exact hr 3 (by decide)
  · exact hr 4 (by decide)
  · exact hr 5 (by decide)
  have e5 : ρ'' 5 = n := (hr2 5 (by decide)).trans (hr 5 (by decide))
  have h := c_shift_R hR ht ho hi hj hn (by omega) (by omega)
  simp [tk_fn, tk_env, tk_sq, tk_sk, tk_if, tk_re, tk_rez, tk_rev, tk_xp, tk_se, tk_pf, tk_pfz, tk_pfo, tk_as, tk_asz, tk_asb, tk_aso, tk_cpy, tk_sw, tk_swc, tk_lit, tk_loc, tk_u1, tk_bin, tk_dv, tk_gf, tk_gr, tk_gn, tk_ald, tk_aldq, tk_aln, tk_unl, tk_una, tk_ter, tk_args, tk_cs, tk_cv, tk_ceq, tk_cne, tk_clt, tk_cge, tk_cgt, tk_cle, tk_zeq, tk_zne, tk_zlt, tk_zge, tk_zgt, tk_zle, tk_and, tk_or, tk_not, tk_ct2, tk_isC, List.headD_cons, tk_up, tk_sca, tk_scl, e5]
  exact hK _ _ h
theorem c_shift_b {t i o j n : Int} {μ : tk_M} {K : Int → Int → tk_M → Prop} (hR : tk_R μ) (hri : tk_r 0 i) (hrj : tk_r 0 j) (hrn : tk_r 0 n) (ht : 0 ≤ t ∧ t < 6) (ho : 0 ≤ o ∧ o < 6) (hs : 0 ≤ μ (84 + 2 * t) 0) (he : μ (84 + 2 * o) 0 = μ (84 + 2 * t) 0) (hno : ¬ (0 ≤ i ∧ 0 ≤ j ∧ 0 ≤ n ∧ i + n ≤ μ (84 + 2 * t) 1 ∧ j + n ≤ μ (84 + 2 * o) 1)) (hK : ∀ r μ', tk_R μ' → K r r μ') : tkF_X6_shift [0, t, i, o, j, n] (fun r μ1 => tkF_X7_shift [96, t, i, o, j, n] (fun r' μ2 => K r r' μ2) μ1) μ := by
  have ht5 : t ≤ 5 := (by omega); have ho5 : o ≤ 5 := (by omega); obtain ⟨hC, hal⟩ := tk_tpq ht; obtain ⟨gC, gal⟩ := tk_tpq ho; obtain ⟨p1, p2, p3, p4, p5, p6⟩ := tk_RPt hR ht; obtain ⟨s1, s2, s3, s4, s5, s6⟩ := tk_RPt hR ho; have hT := tk_R_thr (v := 0) hR
  have hr1 := hri.2
  have hr2 := hrj.2
  have hr3 := hrn.2
  have q9 : μ 129 t = 1 := by rw [p4]; exact tk_bo_t hs
  have r9 : μ 129 o = 1 := by rw [s4, he]; exact tk_bo_t hs
  have q5 : μ 125 t = μ (84 + 2 * t) 0 := (p5 hs).1
  have r5 : μ 125 o = μ (84 + 2 * t) 0 := by rw [(s5 (by omega)).1, he]
  have q6 : μ 126 t = μ (84 + 2 * t) 1 := (p5 hs).2
  have r6 : μ 126 o = μ (84 + 2 * o) 1 := (s5 (by omega)).2
  by_cases hn : n < 0
  · simp [tk_fn, tk_env, tk_sq, tk_sk, tk_if, tk_re, tk_rez, tk_rev, tk_xp, tk_se, tk_pf, tk_pfz, tk_pfo, tk_as, tk_asz, tk_asb, tk_aso, tk_cpy, tk_sw, tk_swc, tk_lit, tk_loc, tk_u1, tk_bin, tk_dv, tk_gf, tk_gr, tk_gn, tk_ald, tk_aldq, tk_aln, tk_unl, tk_una, tk_ter, tk_args, tk_cs, tk_cv, tk_ceq, tk_cne, tk_clt, tk_cge, tk_cgt, tk_cle, tk_zeq, tk_zne, tk_zlt, tk_zge, tk_zgt, tk_zle, tk_and, tk_or, tk_not, tk_ct2, List.headD_cons, tk_up, tk_sca, tk_scl, tk_c6, tk_c7, tk_set_j, tk_set_o, tk_set_eq, x_isTape, m_isTape, m_in, tk_bo_0, tk_al_2, tk_al_3, tk_al_4, tk_al_5, tk_al_6, tk_al_7, tk_al_8, tk_al_9, tk_al_10, tk_al_11, tk_al_13, tk_al_14, tk_al_16, tk_al_17, tk_al_19, tk_al_20, tk_al_22, tk_al_24, tk_al_25, tk_al_26, tk_al_27, tk_al_28, tk_al_29, tk_al_30, tk_al_32, tk_al_33, tk_al_34, tk_al_35, tk_al_36, tk_al_37, tk_al_38, tk_al_39, tk_al_40, tk_al_41, tk_al_43, tk_al_44, tk_al_46, tk_al_47, tk_al_49, tk_al_50, tk_al_52, tk_al_54, tk_al_55, tk_al_56, tk_al_57, tk_al_58, tk_al_59, tk_al_60, tk_al_62, tk_al_63, tk_al_64, tk_al_65, tk_al_66, tk_al_67, tk_al_68, tk_al_69, tk_al_70, tk_al_71, tk_al_73, tk_al_74, tk_al_76, tk_al_77, tk_al_79, tk_al_80, tk_al_81, tk_al_83, tk_al_85, tk_al_87, tk_al_89, tk_al_91, tk_al_93, tk_al_95, tk_al_97, tk_al_98, tk_al_99, tk_al_100, tk_al_101, tk_al_102, tk_al_103, tk_al_104, tk_al_105, tk_al_106, tk_al_107, tk_al_108, tk_al_109, tk_al_110, tk_al_111, tk_al_112, tk_al_113, tk_al_114, tk_al_115, tk_al_116, tk_al_117, tk_al_118, tk_al_119, tk_al_120, tk_al_121, tk_al_122, tk_al_123, tk_al_124, tk_al_125, tk_al_126, tk_al_127, tk_al_128, tk_al_129, tkF_X6_shift, tkS_X6_shift, tkF_X7_shift, tkS_X7_shift, ht.1, ht.2, ho.1, ho.2, ht5, ho5, hC, gC, he, q5, q6, q9, r5, r6, r9, hn, show ¬ μ (84 + 2 * t) 0 = -1 from by omega]
    exact hK _ _ hT
  by_cases hi : i < 0
  · simp [tk_fn, tk_env, tk_sq, tk_sk, tk_if, tk_re, tk_rez, tk_rev, tk_xp, tk_se, tk_pf, tk_pfz, tk_pfo, tk_as, tk_asz, tk_asb, tk_aso, tk_cpy, tk_sw, tk_swc, tk_lit, tk_loc, tk_u1, tk_bin, tk_dv, tk_gf, tk_gr, tk_gn, tk_ald, tk_aldq, tk_aln, tk_unl, tk_una, tk_ter, tk_args, tk_cs, tk_cv, tk_ceq, tk_cne, tk_clt, tk_cge, tk_cgt, tk_cle, tk_zeq, tk_zne, tk_zlt, tk_zge, tk_zgt, tk_zle, tk_and, tk_or, tk_not, tk_ct2, List.headD_cons, tk_up, tk_sca, tk_scl, tk_c6, tk_c7, tk_set_j, tk_set_o, tk_set_eq, x_isTape, m_isTape, m_in, tk_bo_0, tk_al_2, tk_al_3, tk_al_4, tk_al_5, tk_al_6, tk_al_7, tk_al_8, tk_al_9, tk_al_10, tk_al_11, tk_al_13, tk_al_14, tk_al_16, tk_al_17, tk_al_19, tk_al_20, tk_al_22, tk_al_24, tk_al_25, tk_al_26, tk_al_27, tk_al_28, tk_al_29, tk_al_30, tk_al_32, tk_al_33, tk_al_34, tk_al_35, tk_al_36, tk_al_37, tk_al_38, tk_al_39, tk_al_40, tk_al_41, tk_al_43, tk_al_44, tk_al_46, tk_al_47, tk_al_49, tk_al_50, tk_al_52, tk_al_54, tk_al_55, tk_al_56, tk_al_57, tk_al_58, tk_al_59, tk_al_60, tk_al_62, tk_al_63, tk_al_64, tk_al_65, tk_al_66, tk_al_67, tk_al_68, tk_al_69, tk_al_70, tk_al_71, tk_al_73, tk_al_74, tk_al_76, tk_al_77, tk_al_79, tk_al_80, tk_al_81, tk_al_83, tk_al_85, tk_al_87, tk_al_89, tk_al_91, tk_al_93, tk_al_95, tk_al_97, tk_al_98, tk_al_99, tk_al_100, tk_al_101, tk_al_102, tk_al_103, tk_al_104, tk_al_105, tk_al_106, tk_al_107, tk_al_108, tk_al_109, tk_al_110, tk_al_111, tk_al_112, tk_al_113, tk_al_114, tk_al_115, tk_al_116, tk_al_117, tk_al_118, tk_al_119, tk_al_120, tk_al_121, tk_al_122, tk_al_123, tk_al_124, tk_al_125, tk_al_126, tk_al_127, tk_al_128, tk_al_129, tkF_X6_shift, tkS_X6_shift, tkF_X7_shift, tkS_X7_shift, ht.1, ht.2, ho.1, ho.2, ht5, ho5, hC, gC, he, q5, q6, q9, r5, r6, r9, hn, hi, show ¬ μ (84 + 2 * t) 0 = -1 from by omega]
    exact hK _ _ hT
  by_cases hj : j < 0
  · simp [tk_fn, tk_env, tk_sq, tk_sk, tk_if, tk_re, tk_rez, tk_rev, tk_xp, tk_se, tk_pf, tk_pfz, tk_pfo, tk_as, tk_asz, tk_asb, tk_aso, tk_cpy, tk_sw, tk_swc, tk_lit, tk_loc, tk_u1, tk_bin, tk_dv, tk_gf, tk_gr, tk_gn, tk_ald, tk_aldq, tk_aln, tk_unl, tk_una, tk_ter, tk_args, tk_cs, tk_cv, tk_ceq, tk_cne, tk_clt, tk_cge, tk_cgt, tk_cle, tk_zeq, tk_zne, tk_zlt, tk_zge, tk_zgt, tk_zle, tk_and, tk_or, tk_not, tk_ct2, List.headD_cons, tk_up, tk_sca, tk_scl, tk_c6, tk_c7, tk_set_j, tk_set_o, tk_set_eq, x_isTape, m_isTape, m_in, tk_bo_0, tk_al_2, tk_al_3, tk_al_4, tk_al_5, tk_al_6, tk_al_7, tk_al_8, tk_al_9, tk_al_10, tk_al_11, tk_al_13, tk_al_14, tk_al_16, tk_al_17, tk_al_19, tk_al_20, tk_al_22, tk_al_24, tk_al_25, tk_al_26, tk_al_27, tk_al_28, tk_al_29, tk_al_30, tk_al_32, tk_al_33, tk_al_34, tk_al_35, tk_al_36, tk_al_37, tk_al_38, tk_al_39, tk_al_40, tk_al_41, tk_al_43, tk_al_44, tk_al_46, tk_al_47, tk_al_49, tk_al_50, tk_al_52, tk_al_54, tk_al_55, tk_al_56, tk_al_57, tk_al_58, tk_al_59, tk_al_60, tk_al_62, tk_al_63, tk_al_64, tk_al_65, tk_al_66, tk_al_67, tk_al_68, tk_al_69, tk_al_70, tk_al_71, tk_al_73, tk_al_74, tk_al_76, tk_al_77, tk_al_79, tk_al_80, tk_al_81, tk_al_83, tk_al_85, tk_al_87, tk_al_89, tk_al_91, tk_al_93, tk_al_95, tk_al_97, tk_al_98, tk_al_99, tk_al_100, tk_al_101, tk_al_102, tk_al_103, tk_al_104, tk_al_105, tk_al_106, tk_al_107, tk_al_108, tk_al_109, tk_al_110, tk_al_111, tk_al_112, tk_al_113, tk_al_114, tk_al_115, tk_al_116, tk_al_117, tk_al_118, tk_al_119, tk_al_120, tk_al_121, tk_al_122, tk_al_123, tk_al_124, tk_al_125, tk_al_126, tk_al_127, tk_al_128, tk_al_129, tkF_X6_shift, tkS_X6_shift, tkF_X7_shift, tkS_X7_shift, ht.1, ht.2, ho.1, ho.2, ht5, ho5, hC, gC, he, q5, q6, q9, r5, r6, r9, hn, hi, hj, show ¬ μ (84 + 2 * t) 0 = -1 from by omega]
    exact hK _ _ hT
  have l1 : tk_isub (μ (84 + 2 * t) 1) n = μ (84 + 2 * t) 1 - n := tk_isub_id (by omega) (by omega)
  have l2 : tk_isub (μ (84 + 2 * o) 1) n = μ (84 + 2 * o) 1 - n := tk_isub_id (by omega) (by omega)
  have l3 : tk_ladd i n = i + n := tk_ladd_id (by omega) (by omega)
  have l4 : tk_ladd j n = j + n := tk_ladd_id (by omega) (by omega)
  by_cases h1 : μ (84 + 2 * t) 1 < i + n
  · simp [tk_fn, tk_env, tk_sq, tk_sk, tk_if, tk_re, tk_rez, tk_rev, tk_xp, tk_se, tk_pf, tk_pfz, tk_pfo, tk_as, tk_asz, tk_asb, tk_aso, tk_cpy, tk_sw, tk_swc, tk_lit, tk_loc, tk_u1, tk_bin, tk_dv, tk_gf, tk_gr, tk_gn, tk_ald, tk_aldq, tk_aln, tk_unl, tk_una, tk_ter, tk_args, tk_cs, tk_cv, tk_ceq, tk_cne, tk_clt, tk_cge, tk_cgt, tk_cle, tk_zeq, tk_zne, tk_zlt, tk_zge, tk_zgt, tk_zle, tk_and, tk_or, tk_not, tk_ct2, List.headD_cons, tk_up, tk_sca, tk_scl, tk_c6, tk_c7, tk_set_j, tk_set_o, tk_set_eq, x_isTape, m_isTape, m_in, tk_bo_0, tk_al_2, tk_al_3, tk_al_4, tk_al_5, tk_al_6, tk_al_7, tk_al_8, tk_al_9, tk_al_10, tk_al_11, tk_al_13, tk_al_14, tk_al_16, tk_al_17, tk_al_19, tk_al_20, tk_al_22, tk_al_24, tk_al_25, tk_al_26, tk_al_27, tk_al_28, tk_al_29, tk_al_30, tk_al_32, tk_al_33, tk_al_34, tk_al_35, tk_al_36, tk_al_37, tk_al_38, tk_al_39, tk_al_40, tk_al_41, tk_al_43, tk_al_44, tk_al_46, tk_al_47, tk_al_49, tk_al_50, tk_al_52, tk_al_54, tk_al_55, tk_al_56, tk_al_57, tk_al_58, tk_al_59, tk_al_60, tk_al_62, tk_al_63, tk_al_64, tk_al_65, tk_al_66, tk_al_67, tk_al_68, tk_al_69, tk_al_70, tk_al_71, tk_al_73, tk_al_74, tk_al_76, tk_al_77, tk_al_79, tk_al_80, tk_al_81, tk_al_83, tk_al_85, tk_al_87, tk_al_89, tk_al_91, tk_al_93, tk_al_95, tk_al_97, tk_al_98, tk_al_99, tk_al_100, tk_al_101, tk_al_102, tk_al_103, tk_al_104, tk_al_105, tk_al_106, tk_al_107, tk_al_108, tk_al_109, tk_al_110, tk_al_111, tk_al_112, tk_al_113, tk_al_114, tk_al_115, tk_al_116, tk_al_117, tk_al_118, tk_al_119, tk_al_120, tk_al_121, tk_al_122, tk_al_123, tk_al_124, tk_al_125, tk_al_126, tk_al_127, tk_al_128, tk_al_129, tkF_X6_shift, tkS_X6_shift, tkF_X7_shift, tkS_X7_shift, ht.1, ht.2, ho.1, ho.2, ht5, ho5, hC, gC, he, q5, q6, q9, r5, r6, r9, hn, hi, hj, l1, l2, l3, l4, h1, show μ (84 + 2 * t) 1 - n < i from by omega, show ¬ μ (84 + 2 * t) 0 = -1 from by omega]
    exact hK _ _ hT
  · have h2 : μ (84 + 2 * o) 1 < j + n := by omega
    simp [tk_fn, tk_env, tk_sq, tk_sk, tk_if, tk_re, tk_rez, tk_rev, tk_xp, tk_se, tk_pf, tk_pfz, tk_pfo, tk_as, tk_asz, tk_asb, tk_aso, tk_cpy, tk_sw, tk_swc, tk_lit, tk_loc, tk_u1, tk_bin, tk_dv, tk_gf, tk_gr, tk_gn, tk_ald, tk_aldq, tk_aln, tk_unl, tk_una, tk_ter, tk_args, tk_cs, tk_cv, tk_ceq, tk_cne, tk_clt, tk_cge, tk_cgt, tk_cle, tk_zeq, tk_zne, tk_zlt, tk_zge, tk_zgt, tk_zle, tk_and, tk_or, tk_not, tk_ct2, List.headD_cons, tk_up, tk_sca, tk_scl, tk_c6, tk_c7, tk_set_j, tk_set_o, tk_set_eq, x_isTape, m_isTape, m_in, tk_bo_0, tk_al_2, tk_al_3, tk_al_4, tk_al_5, tk_al_6, tk_al_7, tk_al_8, tk_al_9, tk_al_10, tk_al_11, tk_al_13, tk_al_14, tk_al_16, tk_al_17, tk_al_19, tk_al_20, tk_al_22, tk_al_24, tk_al_25, tk_al_26, tk_al_27, tk_al_28, tk_al_29, tk_al_30, tk_al_32, tk_al_33, tk_al_34, tk_al_35, tk_al_36, tk_al_37, tk_al_38, tk_al_39, tk_al_40, tk_al_41, tk_al_43, tk_al_44, tk_al_46, tk_al_47, tk_al_49, tk_al_50, tk_al_52, tk_al_54, tk_al_55, tk_al_56, tk_al_57, tk_al_58, tk_al_59, tk_al_60, tk_al_62, tk_al_63, tk_al_64, tk_al_65, tk_al_66, tk_al_67, tk_al_68, tk_al_69, tk_al_70, tk_al_71, tk_al_73, tk_al_74, tk_al_76, tk_al_77, tk_al_79, tk_al_80, tk_al_81, tk_al_83, tk_al_85, tk_al_87, tk_al_89, tk_al_91, tk_al_93, tk_al_95, tk_al_97, tk_al_98, tk_al_99, tk_al_100, tk_al_101, tk_al_102, tk_al_103, tk_al_104, tk_al_105, tk_al_106, tk_al_107, tk_al_108, tk_al_109, tk_al_110, tk_al_111, tk_al_112, tk_al_113, tk_al_114, tk_al_115, tk_al_116, tk_al_117, tk_al_118, tk_al_119, tk_al_120, tk_al_121, tk_al_122, tk_al_123, tk_al_124, tk_al_125, tk_al_126, tk_al_127, tk_al_128, tk_al_129, tkF_X6_shift, tkS_X6_shift, tkF_X7_shift, tkS_X7_shift, ht.1, ht.2, ho.1, ho.2, ht5, ho5, hC, gC, he, q5, q6, q9, r5, r6, r9, hn, hi, hj, l1, l2, l3, l4, h1, h2, show ¬ μ (84 + 2 * t) 1 - n < i from by omega, show μ (84 + 2 * o) 1 - n < j from by omega, show ¬ μ (84 + 2 * t) 0 = -1 from by omega]
    exact hK _ _ hT
theorem c_shift_s {t i o j n : Int} {μ : tk_M} {K : Int → Int → tk_M → Prop} (hR : tk_R μ) (ht : 0 ≤ t ∧ t < 6) (ho : 0 ≤ o ∧ o < 6) (hno : ¬ (0 ≤ μ (84 + 2 * t) 0 ∧ μ (84 + 2 * o) 0 = μ (84 + 2 * t) 0)) (hK : ∀ r μ', tk_R μ' → K r r μ') : tkF_X6_shift [0, t, i, o, j, n] (fun r μ1 => tkF_X7_shift [96, t, i, o, j, n] (fun r' μ2 => K r r' μ2) μ1) μ := by
  have ht5 : t ≤ 5 := (by omega); have ho5 : o ≤ 5 := (by omega); obtain ⟨hC, hal⟩ := tk_tpq ht; obtain ⟨gC, gal⟩ := tk_tpq ho; obtain ⟨p1, p2, p3, p4, p5, p6⟩ := tk_RPt hR ht; obtain ⟨s1, s2, s3, s4, s5, s6⟩ := tk_RPt hR ho; have hT := tk_R_thr (v := 0) hR
  by_cases h1 : μ (84 + 2 * t) 0 = -1
  · have q9 : μ 129 t = 0 := by rw [p4]; exact tk_bo_f (by omega)
    simp [tk_fn, tk_env, tk_sq, tk_sk, tk_if, tk_re, tk_rez, tk_rev, tk_xp, tk_se, tk_pf, tk_pfz, tk_pfo, tk_as, tk_asz, tk_asb, tk_aso, tk_cpy, tk_sw, tk_swc, tk_lit, tk_loc, tk_u1, tk_bin, tk_dv, tk_gf, tk_gr, tk_gn, tk_ald, tk_aldq, tk_aln, tk_unl, tk_una, tk_ter, tk_args, tk_cs, tk_cv, tk_ceq, tk_cne, tk_clt, tk_cge, tk_cgt, tk_cle, tk_zeq, tk_zne, tk_zlt, tk_zge, tk_zgt, tk_zle, tk_and, tk_or, tk_not, tk_ct2, List.headD_cons, tk_up, tk_sca, tk_scl, tk_c6, tk_c7, tk_set_j, tk_set_o, tk_set_eq, x_isTape, m_isTape, m_in, tk_bo_0, tk_al_2, tk_al_3, tk_al_4, tk_al_5, tk_al_6, tk_al_7, tk_al_8, tk_al_9, tk_al_10, tk_al_11, tk_al_13, tk_al_14, tk_al_16, tk_al_17, tk_al_19, tk_al_20, tk_al_22, tk_al_24, tk_al_25, tk_al_26, tk_al_27, tk_al_28, tk_al_29, tk_al_30, tk_al_32, tk_al_33, tk_al_34, tk_al_35, tk_al_36, tk_al_37, tk_al_38, tk_al_39, tk_al_40, tk_al_41, tk_al_43, tk_al_44, tk_al_46, tk_al_47, tk_al_49, tk_al_50, tk_al_52, tk_al_54, tk_al_55, tk_al_56, tk_al_57, tk_al_58, tk_al_59, tk_al_60, tk_al_62, tk_al_63, tk_al_64, tk_al_65, tk_al_66, tk_al_67, tk_al_68, tk_al_69, tk_al_70, tk_al_71, tk_al_73, tk_al_74, tk_al_76, tk_al_77, tk_al_79, tk_al_80, tk_al_81, tk_al_83, tk_al_85, tk_al_87, tk_al_89, tk_al_91, tk_al_93, tk_al_95, tk_al_97, tk_al_98, tk_al_99, tk_al_100, tk_al_101, tk_al_102, tk_al_103, tk_al_104, tk_al_105, tk_al_106, tk_al_107, tk_al_108, tk_al_109, tk_al_110, tk_al_111, tk_al_112, tk_al_113, tk_al_114, tk_al_115, tk_al_116, tk_al_117, tk_al_118, tk_al_119, tk_al_120, tk_al_121, tk_al_122, tk_al_123, tk_al_124, tk_al_125, tk_al_126, tk_al_127, tk_al_128, tk_al_129, tkF_X6_shift, tkS_X6_shift, tkF_X7_shift, tkS_X7_shift, ht.1, ht.2, ho.1, ho.2, ht5, ho5, hC, gC, q9, h1]
    exact hK _ _ hT
  have hs : 0 ≤ μ (84 + 2 * t) 0 := by omega
  have q9 : μ 129 t = 1 := by rw [p4]; exact tk_bo_t hs
  by_cases h2 : μ (84 + 2 * o) 0 = -1
  · have r9 : μ 129 o = 0 := by rw [s4]; exact tk_bo_f (by omega)
    simp [tk_fn, tk_env, tk_sq, tk_sk, tk_if, tk_re, tk_rez, tk_rev, tk_xp, tk_se, tk_pf, tk_pfz, tk_pfo, tk_as, tk_asz, tk_asb, tk_aso, tk_cpy, tk_sw, tk_swc, tk_lit, tk_loc, tk_u1, tk_bin, tk_dv, tk_gf, tk_gr, tk_gn, tk_ald, tk_aldq, tk_aln, tk_unl, tk_una, tk_ter, tk_args, tk_cs, tk_cv, tk_ceq, tk_cne, tk_clt, tk_cge, tk_cgt, tk_cle, tk_zeq, tk_zne, tk_zlt, tk_zge, tk_zgt, tk_zle, tk_and, tk_or, tk_not, tk_ct2, List.headD_cons, tk_up, tk_sca, tk_scl, tk_c6, tk_c7, tk_set_j, tk_set_o, tk_set_eq, x_isTape, m_isTape, m_in, tk_bo_0, tk_al_2, tk_al_3, tk_al_4, tk_al_5, tk_al_6, tk_al_7, tk_al_8, tk_al_9, tk_al_10, tk_al_11, tk_al_13, tk_al_14, tk_al_16, tk_al_17, tk_al_19, tk_al_20, tk_al_22, tk_al_24, tk_al_25, tk_al_26, tk_al_27, tk_al_28, tk_al_29, tk_al_30, tk_al_32, tk_al_33, tk_al_34, tk_al_35, tk_al_36, tk_al_37, tk_al_38, tk_al_39, tk_al_40, tk_al_41, tk_al_43, tk_al_44, tk_al_46, tk_al_47, tk_al_49, tk_al_50, tk_al_52, tk_al_54, tk_al_55, tk_al_56, tk_al_57, tk_al_58, tk_al_59, tk_al_60, tk_al_62, tk_al_63, tk_al_64, tk_al_65, tk_al_66, tk_al_67, tk_al_68, tk_al_69, tk_al_70, tk_al_71, tk_al_73, tk_al_74, tk_al_76, tk_al_77, tk_al_79, tk_al_80, tk_al_81, tk_al_83, tk_al_85, tk_al_87, tk_al_89, tk_al_91, tk_al_93, tk_al_95, tk_al_97, tk_al_98, tk_al_99, tk_al_100, tk_al_101, tk_al_102, tk_al_103, tk_al_104, tk_al_105, tk_al_106, tk_al_107, tk_al_108, tk_al_109, tk_al_110, tk_al_111, tk_al_112, tk_al_113, tk_al_114, tk_al_115, tk_al_116, tk_al_117, tk_al_118, tk_al_119, tk_al_120, tk_al_121, tk_al_122, tk_al_123, tk_al_124, tk_al_125, tk_al_126, tk_al_127, tk_al_128, tk_al_129, tkF_X6_shift, tkS_X6_shift, tkF_X7_shift, tkS_X7_shift, ht.1, ht.2, ho.1, ho.2, ht5, ho5, hC, gC, q9, r9, h1, h2]
    exact hK _ _ hT
  have hs2 : 0 ≤ μ (84 + 2 * o) 0 := by omega
  have r9 : μ 129 o = 1 := by rw [s4]; exact tk_bo_t hs2
  have q5 : μ 125 t = μ (84 + 2 * t) 0 := (p5 hs).1
  have r5 : μ 125 o = μ (84 + 2 * o) 0 := (s5 hs2).1
  have hne : ¬ μ (84 + 2 * t) 0 = μ (84 + 2 * o) 0 := by omega
  simp [tk_fn, tk_env, tk_sq, tk_sk, tk_if, tk_re, tk_rez, tk_rev, tk_xp, tk_se, tk_pf, tk_pfz, tk_pfo, tk_as, tk_asz, tk_asb, tk_aso, tk_cpy, tk_sw, tk_swc, tk_lit, tk_loc, tk_u1, tk_bin, tk_dv, tk_gf, tk_gr, tk_gn, tk_ald, tk_aldq, tk_aln, tk_unl, tk_una, tk_ter, tk_args, tk_cs, tk_cv, tk_ceq, tk_cne, tk_clt, tk_cge, tk_cgt, tk_cle, tk_zeq, tk_zne, tk_zlt, tk_zge, tk_zgt, tk_zle, tk_and, tk_or, tk_not, tk_ct2, List.headD_cons, tk_up, tk_sca, tk_scl, tk_c6, tk_c7, tk_set_j, tk_set_o, tk_set_eq, x_isTape, m_isTape, m_in, tk_bo_0, tk_al_2, tk_al_3, tk_al_4, tk_al_5, tk_al_6, tk_al_7, tk_al_8, tk_al_9, tk_al_10, tk_al_11, tk_al_13, tk_al_14, tk_al_16, tk_al_17, tk_al_19, tk_al_20, tk_al_22, tk_al_24, tk_al_25, tk_al_26, tk_al_27, tk_al_28, tk_al_29, tk_al_30, tk_al_32, tk_al_33, tk_al_34, tk_al_35, tk_al_36, tk_al_37, tk_al_38, tk_al_39, tk_al_40, tk_al_41, tk_al_43, tk_al_44, tk_al_46, tk_al_47, tk_al_49, tk_al_50, tk_al_52, tk_al_54, tk_al_55, tk_al_56, tk_al_57, tk_al_58, tk_al_59, tk_al_60, tk_al_62, tk_al_63, tk_al_64, tk_al_65, tk_al_66, tk_al_67, tk_al_68, tk_al_69, tk_al_70, tk_al_71, tk_al_73, tk_al_74, tk_al_76, tk_al_77, tk_al_79, tk_al_80, tk_al_81, tk_al_83, tk_al_85, tk_al_87, tk_al_89, tk_al_91, tk_al_93, tk_al_95, tk_al_97, tk_al_98, tk_al_99, tk_al_100, tk_al_101, tk_al_102, tk_al_103, tk_al_104, tk_al_105, tk_al_106, tk_al_107, tk_al_108, tk_al_109, tk_al_110, tk_al_111, tk_al_112, tk_al_113, tk_al_114, tk_al_115, tk_al_116, tk_al_117, tk_al_118, tk_al_119, tk_al_120, tk_al_121, tk_al_122, tk_al_123, tk_al_124, tk_al_125, tk_al_126, tk_al_127, tk_al_128, tk_al_129, tkF_X6_shift, tkS_X6_shift, tkF_X7_shift, tkS_X7_shift, ht.1, ht.2, ho.1, ho.2, ht5, ho5, hC, gC, q5, r5, q9, r9, h1, h2, hne]
  exact hK _ _ hT
theorem c_shift (t i o j n : Int) (hri : tk_r 0 i) (hrj : tk_r 0 j) (hrn : tk_r 0 n) : tk_cp tkF_X6_shift tkF_X7_shift [t, i, o, j, n] := by
  intro μ hR K hK
  have hT := tk_R_thr (v := 0) hR
  by_cases ht : 0 ≤ t ∧ t < 6
  · have ht5 : t ≤ 5 := by omega
    by_cases ho : 0 ≤ o ∧ o < 6
    · by_cases hs : 0 ≤ μ (84 + 2 * t) 0 ∧ μ (84 + 2 * o) 0 = μ (84 + 2 * t) 0
      · by_cases hb : 0 ≤ i ∧ 0 ≤ j ∧ 0 ≤ n ∧ i + n ≤ μ (84 + 2 * t) 1 ∧ j + n ≤ μ (84 + 2 * o) 1
        · exact c_shift_y hR ht ho hs.1 hs.2 hb.1 hb.2.1 hb.2.2.1 hb.2.2.2.1 hb.2.2.2.2 hK
        · exact c_shift_b hR hri hrj hrn ht ho hs.1 hs.2 hb hK
      · exact c_shift_s hR ht ho hs hK
    · have h5 : ¬ (0 ≤ o ∧ o ≤ 5) := by omega
      simp [tk_fn, tk_env, tk_sq, tk_sk, tk_if, tk_re, tk_rez, tk_rev, tk_xp, tk_se, tk_pf, tk_pfz, tk_pfo, tk_as, tk_asz, tk_asb, tk_aso, tk_cpy, tk_sw, tk_swc, tk_lit, tk_loc, tk_u1, tk_bin, tk_dv, tk_gf, tk_gr, tk_gn, tk_ald, tk_aldq, tk_aln, tk_unl, tk_una, tk_ter, tk_args, tk_cs, tk_cv, tk_ceq, tk_cne, tk_clt, tk_cge, tk_cgt, tk_cle, tk_zeq, tk_zne, tk_zlt, tk_zge, tk_zgt, tk_zle, tk_and, tk_or, tk_not, tk_ct2, List.headD_cons, tk_up, tk_sca, tk_scl, tk_c6, tk_c7, tk_set_j, tk_set_o, tk_set_eq, x_isTape, m_isTape, m_in, tk_bo_0, tk_al_2, tk_al_3, tk_al_4, tk_al_5, tk_al_6, tk_al_7, tk_al_8, tk_al_9, tk_al_10, tk_al_11, tk_al_13, tk_al_14, tk_al_16, tk_al_17, tk_al_19, tk_al_20, tk_al_22, tk_al_24, tk_al_25, tk_al_26, tk_al_27, tk_al_28, tk_al_29, tk_al_30, tk_al_32, tk_al_33, tk_al_34, tk_al_35, tk_al_36, tk_al_37, tk_al_38, tk_al_39, tk_al_40, tk_al_41, tk_al_43, tk_al_44, tk_al_46, tk_al_47, tk_al_49, tk_al_50, tk_al_52, tk_al_54, tk_al_55, tk_al_56, tk_al_57, tk_al_58, tk_al_59, tk_al_60, tk_al_62, tk_al_63, tk_al_64, tk_al_65, tk_al_66, tk_al_67, tk_al_68, tk_al_69, tk_al_70, tk_al_71, tk_al_73, tk_al_74, tk_al_76, tk_al_77, tk_al_79, tk_al_80, tk_al_81, tk_al_83, tk_al_85, tk_al_87, tk_al_89, tk_al_91, tk_al_93, tk_al_95, tk_al_97, tk_al_98, tk_al_99, tk_al_100, tk_al_101, tk_al_102, tk_al_103, tk_al_104, tk_al_105, tk_al_106, tk_al_107, tk_al_108, tk_al_109, tk_al_110, tk_al_111, tk_al_112, tk_al_113, tk_al_114, tk_al_115, tk_al_116, tk_al_117, tk_al_118, tk_al_119, tk_al_120, tk_al_121, tk_al_122, tk_al_123, tk_al_124, tk_al_125, tk_al_126, tk_al_127, tk_al_128, tk_al_129, tkF_X6_shift, tkS_X6_shift, tkF_X7_shift, tkS_X7_shift, ht.1, ht.2, ht5, ho, h5, -not_and]
      exact hK _ _ hT
  · have h5 : ¬ (0 ≤ t ∧ t ≤ 5) := by omega
    simp [tk_fn, tk_env, tk_sq, tk_sk, tk_if, tk_re, tk_rez, tk_rev, tk_xp, tk_se, tk_pf, tk_pfz, tk_pfo, tk_as, tk_asz, tk_asb, tk_aso, tk_cpy, tk_sw, tk_swc, tk_lit, tk_loc, tk_u1, tk_bin, tk_dv, tk_gf, tk_gr, tk_gn, tk_ald, tk_aldq, tk_aln, tk_unl, tk_una, tk_ter, tk_args, tk_cs, tk_cv, tk_ceq, tk_cne, tk_clt, tk_cge, tk_cgt, tk_cle, tk_zeq, tk_zne, tk_zlt, tk_zge, tk_zgt, tk_zle, tk_and, tk_or, tk_not, tk_ct2, List.headD_cons, tk_up, tk_sca, tk_scl, tk_c6, tk_c7, tk_set_j, tk_set_o, tk_set_eq, x_isTape, m_isTape, m_in, tk_bo_0, tk_al_2, tk_al_3, tk_al_4, tk_al_5, tk_al_6, tk_al_7, tk_al_8, tk_al_9, tk_al_10, tk_al_11, tk_al_13, tk_al_14, tk_al_16, tk_al_17, tk_al_19, tk_al_20, tk_al_22, tk_al_24, tk_al_25, tk_al_26, tk_al_27, tk_al_28, tk_al_29, tk_al_30, tk_al_32, tk_al_33, tk_al_34, tk_al_35, tk_al_36, tk_al_37, tk_al_38, tk_al_39, tk_al_40, tk_al_41, tk_al_43, tk_al_44, tk_al_46, tk_al_47, tk_al_49, tk_al_50, tk_al_52, tk_al_54, tk_al_55, tk_al_56, tk_al_57, tk_al_58, tk_al_59, tk_al_60, tk_al_62, tk_al_63, tk_al_64, tk_al_65, tk_al_66, tk_al_67, tk_al_68, tk_al_69, tk_al_70, tk_al_71, tk_al_73, tk_al_74, tk_al_76, tk_al_77, tk_al_79, tk_al_80, tk_al_81, tk_al_83, tk_al_85, tk_al_87, tk_al_89, tk_al_91, tk_al_93, tk_al_95, tk_al_97, tk_al_98, tk_al_99, tk_al_100, tk_al_101, tk_al_102, tk_al_103, tk_al_104, tk_al_105, tk_al_106, tk_al_107, tk_al_108, tk_al_109, tk_al_110, tk_al_111, tk_al_112, tk_al_113, tk_al_114, tk_al_115, tk_al_116, tk_al_117, tk_al_118, tk_al_119, tk_al_120, tk_al_121, tk_al_122, tk_al_123, tk_al_124, tk_al_125, tk_al_126, tk_al_127, tk_al_128, tk_al_129, tkF_X6_shift, tkS_X6_shift, tkF_X7_shift, tkS_X7_shift, ht, h5, -not_and]
    exact hK _ _ hT
