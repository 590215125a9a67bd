/-! ===== Layer 2: the image, taken and laid; quanta ===== -/
theorem tk_mv_ob {μ : tk_M} {o i v : Int} (ho : ¬ ((97 ≤ o ∧ o ≤ 112) ∨ (o = 96 ∧ (i = 0 ∨ i = 1 ∨ i = 5 ∨ i = 13 ∨ i = 14 ∨ i = 15 ∨ i = 18 ∨ i = 21)))) : tk_mv (tk_set μ o i v) = tk_mv μ := by
  have e : ∀ o' j : Int, ((97 ≤ o' ∧ o' ≤ 112) ∨ (o' = 96 ∧ (j = 0 ∨ j = 1 ∨ j = 5 ∨ j = 13 ∨ j = 14 ∨ j = 15 ∨ j = 18 ∨ j = 21))) → tk_set μ o i v o' j = μ o' j := fun o' j h => by
    unfold tk_set
    rw [if_neg (fun z => ho (by rw [← z.1, ← z.2]; exact h))]
  funext f j
  unfold tk_mv
  simp only [e 96 0 (by omega), e 96 1 (by omega), e 96 5 (by omega), e 96 13 (by omega), e 96 14 (by omega), e 96 15 (by omega), e 96 18 (by omega), e 96 21 (by omega), e 97 j (by omega), e 98 j (by omega), e 99 j (by omega), e 100 j (by omega), e 101 j (by omega), e 102 j (by omega), e 103 j (by omega), e 104 j (by omega), e 105 j (by omega), e 106 j (by omega), e 107 j (by omega), e 108 j (by omega), e 109 j (by omega), e 110 j (by omega), e 111 j (by omega), e 112 j (by omega)]
theorem c_image : tk_cp tkF_X6_image tkF_X7_image [] := by
  intro μ hR K hK
  obtain ⟨hE, hI, hIm⟩ := tk_R_S hR
  obtain ⟨e1, e2, e3, -⟩ := tk_R_n hR
  simp [tk_fn, tk_env, tk_sq, tk_sk, tk_if, tk_re, tk_rez, tk_rev, tk_xp, tk_se, tk_pf, tk_pfz, tk_pfo, tk_as, tk_asz, tk_asb, tk_aso, tk_cpy, tk_sw, tk_swc, tk_lit, tk_loc, tk_u1, tk_bin, tk_dv, tk_gf, tk_gr, tk_gn, tk_ald, tk_aldq, tk_aln, tk_unl, tk_una, tk_ter, tk_args, tk_cs, tk_cv, tk_ceq, tk_cne, tk_clt, tk_cge, tk_cgt, tk_cle, tk_zeq, tk_zne, tk_zlt, tk_zge, tk_zgt, tk_zle, tk_and, tk_or, tk_not, tk_ct2, tk_isC, List.headD_cons, tk_up, tk_sca, tk_scl, tkF_X6_image, tkS_X6_image]
  refine x_take_61_1 hI (fun μ1 hf1 hE1 => ?_)
  have d12 : μ1 1 2 = μ 1 2 := hf1 _ _ (by omega)
  simp [tk_fn, tk_env, tk_sq, tk_sk, tk_if, tk_re, tk_rez, tk_rev, tk_xp, tk_se, tk_pf, tk_pfz, tk_pfo, tk_as, tk_asz, tk_asb, tk_aso, tk_cpy, tk_sw, tk_swc, tk_lit, tk_loc, tk_u1, tk_bin, tk_dv, tk_gf, tk_gr, tk_gn, tk_ald, tk_aldq, tk_aln, tk_unl, tk_una, tk_ter, tk_args, tk_cs, tk_cv, tk_ceq, tk_cne, tk_clt, tk_cge, tk_cgt, tk_cle, tk_zeq, tk_zne, tk_zlt, tk_zge, tk_zgt, tk_zle, tk_and, tk_or, tk_not, tk_ct2, tk_isC, List.headD_cons, tk_up, tk_sca, tk_scl, tkF_X7_image, tkS_X7_image, tk_set_o, d12]
  refine m_keep (.inr rfl) (fun μ3 hf3 hc3 hi3 => ?_)
  have hM : tk_mv (tk_set (tk_set (tk_set μ1 0 5 1) 96 24 0) 96 27 1) = tk_mv μ := by
    rw [tk_mv_ob (by omega), tk_mv_ob (by omega), tk_mv_ob (by omega), tk_mv_f1 hf1 (by omega)]
  rw [hM] at hc3 hi3
  have h5 : μ3 96 5 = μ 1 2 := by
    have h := hc3 0 2 (by unfold tk_ca; omega)
    have h' : μ3 96 5 = μ 96 5 := h
    rw [h', e3]
  rw [h5]
  have hq : ∀ o i : Int, ¬ ((61 ≤ o ∧ o ≤ 80) ∨ (97 ≤ o ∧ o ≤ 112) ∨ o = 114 ∨ (o = 0 ∧ i = 5) ∨ (o = 96 ∧ (i = 0 ∨ i = 1 ∨ i = 5 ∨ i = 13 ∨ i = 14 ∨ i = 15 ∨ i = 18 ∨ i = 21 ∨ i = 24 ∨ i = 27 ∨ i = 28 ∨ i = 29 ∨ i = 30))) → μ3 o i = μ o i := fun o i ho => by
    rw [hf3 o i (by omega)]
    unfold tk_set
    rw [if_neg (by omega), if_neg (by omega), if_neg (by omega)]
    exact hf1 o i (by omega)
  have hh1 : tk_hw 1 μ3 = tk_hw 1 μ := by
    funext f i
    unfold tk_hw
    split
    · exact hq _ _ (by omega)
    · rfl
  have hh61 : tk_hw 61 μ3 = tk_hw 61 μ1 := by
    funext f i
    unfold tk_hw
    split
    · rw [hf3 _ _ (by omega)]
      unfold tk_set
      rw [if_neg (by omega), if_neg (by omega), if_neg (by omega)]
    · rfl
  refine hK _ _ ⟨?_, ?_, tk_RT_fr hR.2.2.1 (hq _ _ (by omega)) (hq _ _ (by omega)) (fun i => ⟨hq _ _ (by omega), hq _ _ (by omega)⟩), tk_RP_fr hR.2.2.2.1 (fun o i ho => hq _ _ (by omega)), ?_⟩
  · rw [tk_EE_hw, hh1]
    exact tk_EE_CC (tk_ZZ_of hI) hE hc3
  · rw [tk_II_hw, hh1]
    exact hI
  · have h05 : μ3 0 5 = 1 := by rw [hf3 _ _ (by omega)]; simp [tk_set]
    have h27 : μ3 96 27 = 1 := by rw [hf3 _ _ (by omega)]; simp [tk_set]
    refine ⟨.inr h05, by rw [h05, h27], fun _ => ⟨?_, ?_⟩⟩
    · rw [tk_EE_hw, hh61]
      exact tk_EE_tr hE1 (tk_EE_CC (tk_ZZ_of hI) hE hi3)
    · rw [tk_II_hw, hh61]
      exact tk_II_EE hE1 hI
theorem c_undo : tk_cp tkF_X6_undo tkF_X7_undo [] := by
  intro μ hR K hK
  have hT := tk_R_thr (v := 0) hR
  obtain ⟨hE, hI, hIm⟩ := tk_R_S hR
  obtain ⟨r1, r2, r3⟩ := hR.2.2.2.2
  by_cases h0 : μ 0 5 = 0
  · simp [tk_fn, tk_env, tk_sq, tk_sk, tk_if, tk_re, tk_rez, tk_rev, tk_xp, tk_se, tk_pf, tk_pfz, tk_pfo, tk_as, tk_asz, tk_asb, tk_aso, tk_cpy, tk_sw, tk_swc, tk_lit, tk_loc, tk_u1, tk_bin, tk_dv, tk_gf, tk_gr, tk_gn, tk_ald, tk_aldq, tk_aln, tk_unl, tk_una, tk_ter, tk_args, tk_cs, tk_cv, tk_ceq, tk_cne, tk_clt, tk_cge, tk_cgt, tk_cle, tk_zeq, tk_zne, tk_zlt, tk_zge, tk_zgt, tk_zle, tk_and, tk_or, tk_not, tk_ct2, tk_isC, List.headD_cons, tk_up, tk_sca, tk_scl, tkF_X6_undo, tkS_X6_undo, tkF_X7_undo, tkS_X7_undo, h0, tk_set_j, r2]
    exact hK _ _ hT
  · have h1 : μ 0 5 = 1 := by omega
    obtain ⟨rE, rI⟩ := r3 h1
    have rE := tk_EE_hw.mp rE
    have rI := tk_II_hw.mp rI
    simp [tk_fn, tk_env, tk_sq, tk_sk, tk_if, tk_re, tk_rez, tk_rev, tk_xp, tk_se, tk_pf, tk_pfz, tk_pfo, tk_as, tk_asz, tk_asb, tk_aso, tk_cpy, tk_sw, tk_swc, tk_lit, tk_loc, tk_u1, tk_bin, tk_dv, tk_gf, tk_gr, tk_gn, tk_ald, tk_aldq, tk_aln, tk_unl, tk_una, tk_ter, tk_args, tk_cs, tk_cv, tk_ceq, tk_cne, tk_clt, tk_cge, tk_cgt, tk_cle, tk_zeq, tk_zne, tk_zlt, tk_zge, tk_zgt, tk_zle, tk_and, tk_or, tk_not, tk_ct2, tk_isC, List.headD_cons, tk_up, tk_sca, tk_scl, tkF_X6_undo, tkS_X6_undo, h1]
    refine x_take_1_61 rI (fun μ1 hf1 hE1 => ?_)
    have d27 : μ1 96 27 = 1 := by rw [hf1 _ _ (by omega), r2, h1]
    simp [tk_fn, tk_env, tk_sq, tk_sk, tk_if, tk_re, tk_rez, tk_rev, tk_xp, tk_se, tk_pf, tk_pfz, tk_pfo, tk_as, tk_asz, tk_asb, tk_aso, tk_cpy, tk_sw, tk_swc, tk_lit, tk_loc, tk_u1, tk_bin, tk_dv, tk_gf, tk_gr, tk_gn, tk_ald, tk_aldq, tk_aln, tk_unl, tk_una, tk_ter, tk_args, tk_cs, tk_cv, tk_ceq, tk_cne, tk_clt, tk_cge, tk_cgt, tk_cle, tk_zeq, tk_zne, tk_zlt, tk_zge, tk_zgt, tk_zle, tk_and, tk_or, tk_not, tk_ct2, tk_isC, List.headD_cons, tk_up, tk_sca, tk_scl, tkF_X7_undo, tkS_X7_undo, tk_set_j, d27]
    refine m_lay (.inr rfl) (fun μ3 hf3 hc3 hi3 => ?_)
    have hM : tk_iv 114 (tk_set μ1 96 24 0) = tk_iv 114 μ := by
      have e : ∀ j : Int, tk_set μ1 96 24 0 114 j = μ 114 j := fun j => by rw [tk_set_o (by omega), hf1 _ _ (by omega)]
      funext f i
      unfold tk_iv
      simp only [e]
    rw [hM] at hc3 hi3
    have hq : ∀ o i : Int, ¬ ((1 ≤ o ∧ o ≤ 20) ∨ (97 ≤ o ∧ o ≤ 112) ∨ o = 114 ∨ (o = 96 ∧ (i = 0 ∨ i = 1 ∨ i = 5 ∨ i = 13 ∨ i = 14 ∨ i = 15 ∨ i = 18 ∨ i = 21 ∨ i = 24 ∨ i = 28 ∨ i = 29 ∨ i = 30))) → μ3 o i = μ o i := fun o i ho => by
      rw [hf3 o i (by omega)]
      unfold tk_set
      rw [if_neg (by omega)]
      exact hf1 o i (by omega)
    have hh1 : tk_hw 1 μ3 = tk_hw 1 μ1 := by
      funext f i
      unfold tk_hw
      split
      · rw [hf3 _ _ (by omega)]
        unfold tk_set
        rw [if_neg (by omega)]
      · rfl
    have hh61 : tk_hw 61 μ3 = tk_hw 61 μ := by
      funext f i
      unfold tk_hw
      split
      · exact hq _ _ (by omega)
      · rfl
    have hE3 : tk_EE (tk_hw 1 μ1) (tk_mv μ3) := tk_EE_tr hE1 (tk_EE_CC (tk_ZZ_of rI) rE hc3)
    have h5 : μ3 96 5 = μ1 1 2 := hE3.1.2.2.1
    rw [h5]
    refine hK _ _ ⟨?_, ?_, tk_RT_fr hR.2.2.1 (hq _ _ (by omega)) (hq _ _ (by omega)) (fun i => ⟨hq _ _ (by omega), hq _ _ (by omega)⟩), tk_RP_fr hR.2.2.2.1 (fun o i ho => hq _ _ (by omega)), ?_⟩
    · rw [tk_EE_hw, hh1]
      exact hE3
    · rw [tk_II_hw, hh1]
      exact tk_II_EE hE1 rI
    · have h05 : μ3 0 5 = 1 := by rw [hq _ _ (by omega)]; exact h1
      have h27 : μ3 96 27 = 1 := by rw [hq _ _ (by omega), r2]; exact h1
      refine ⟨.inr h05, by rw [h05, h27], fun _ => ⟨?_, ?_⟩⟩
      · rw [tk_EE_hw, hh61]
        exact tk_EE_CC (tk_ZZ_of rI) rE hi3
      · rw [tk_II_hw, hh61]
        exact rI
/-- what QUANTA of the live Hall and of the Model leave -/
theorem tk_R_go {μ μ' : tk_M} (h : tk_R μ) (hq : ∀ o i : Int, ¬ ((1 ≤ o ∧ o ≤ 30) ∨ (97 ≤ o ∧ o ≤ 112) ∨ (115 ≤ o ∧ o ≤ 120) ∨ (o = 96 ∧ ¬ i = 27 ∧ ¬ i = 39)) → μ' o i = μ o i) (hE : tk_EE (tk_hw 1 μ') (tk_mv μ')) (hI : tk_II (tk_hw 1 μ')) : tk_R μ' :=
  tk_R_live h (tk_EE_hw.mpr hE) (tk_II_hw.mpr hI) (fun o i hk => hq o i (by unfold tk_kq at hk; omega))
theorem tk_mv_f2 {μ μ' : tk_M} (hq : ∀ o i : Int, ((97 ≤ o ∧ o ≤ 112) ∨ (o = 96 ∧ (i = 0 ∨ i = 1 ∨ i = 5 ∨ i = 13 ∨ i = 14 ∨ i = 15 ∨ i = 18 ∨ i = 21))) → μ' o i = μ o i) : tk_mv μ' = tk_mv μ := by
  funext f j
  unfold tk_mv
  simp only [hq 96 0 (by omega), hq 96 1 (by omega), hq 96 5 (by omega), hq 96 13 (by omega), hq 96 14 (by omega), hq 96 15 (by omega), hq 96 18 (by omega), hq 96 21 (by omega), hq 97 j (by omega), hq 98 j (by omega), hq 99 j (by omega), hq 100 j (by omega), hq 101 j (by omega), hq 102 j (by omega), hq 103 j (by omega), hq 104 j (by omega), hq 105 j (by omega), hq 106 j (by omega), hq 107 j (by omega), hq 108 j (by omega), hq 109 j (by omega), hq 110 j (by omega), hq 111 j (by omega), hq 112 j (by omega)]
theorem m_wrong {μ : tk_M} {Q : Int → tk_M → Prop} {n : Int} (hc : 0 ≤ μ 96 13 ∧ μ 96 13 ≤ 99999) (hQ : Q (if 0 ≤ n ∧ n ≤ 40 then (if 99999 < μ 96 13 + 10 * n then -3 else 0) else -2) μ) : tkF_X7_wrongQuanta [96, n] Q μ := by
  by_cases hn : 0 ≤ n ∧ n ≤ 40
  · have l1 : tk_imul 10 n = 10 * n := tk_imul_id (by omega) (by omega)
    have l2 : tk_iadd (μ 96 13) (10 * n) = μ 96 13 + 10 * n := tk_iadd_id (by omega) (by omega)
    rw [if_pos hn] at hQ
    by_cases hx : 99999 < μ 96 13 + 10 * n
    · rw [if_pos hx] at hQ
      simp [tk_fn, tk_env, tk_sq, tk_sk, tk_if, tk_re, tk_rez, tk_rev, tk_xp, tk_se, tk_pf, tk_pfz, tk_pfo, tk_as, tk_asz, tk_asb, tk_aso, tk_cpy, tk_sw, tk_swc, tk_lit, tk_loc, tk_u1, tk_bin, tk_dv, tk_gf, tk_gr, tk_gn, tk_ald, tk_aldq, tk_aln, tk_unl, tk_una, tk_ter, tk_args, tk_cs, tk_cv, tk_ceq, tk_cne, tk_clt, tk_cge, tk_cgt, tk_cle, tk_zeq, tk_zne, tk_zlt, tk_zge, tk_zgt, tk_zle, tk_and, tk_or, tk_not, tk_ct2, tk_isC, List.headD_cons, tk_up, tk_sca, tk_scl, tkF_X7_wrongQuanta, tkS_X7_wrongQuanta, m_in, tk_bo_0, hn.1, hn.2, l1, l2, hx]
      exact hQ
    · rw [if_neg hx] at hQ
      simp [tk_fn, tk_env, tk_sq, tk_sk, tk_if, tk_re, tk_rez, tk_rev, tk_xp, tk_se, tk_pf, tk_pfz, tk_pfo, tk_as, tk_asz, tk_asb, tk_aso, tk_cpy, tk_sw, tk_swc, tk_lit, tk_loc, tk_u1, tk_bin, tk_dv, tk_gf, tk_gr, tk_gn, tk_ald, tk_aldq, tk_aln, tk_unl, tk_una, tk_ter, tk_args, tk_cs, tk_cv, tk_ceq, tk_cne, tk_clt, tk_cge, tk_cgt, tk_cle, tk_zeq, tk_zne, tk_zlt, tk_zge, tk_zgt, tk_zle, tk_and, tk_or, tk_not, tk_ct2, tk_isC, List.headD_cons, tk_up, tk_sca, tk_scl, tkF_X7_wrongQuanta, tkS_X7_wrongQuanta, m_in, tk_bo_0, hn.1, hn.2, l1, l2, hx]
      exact hQ
  · rw [if_neg hn] at hQ
    simp [tk_fn, tk_env, tk_sq, tk_sk, tk_if, tk_re, tk_rez, tk_rev, tk_xp, tk_se, tk_pf, tk_pfz, tk_pfo, tk_as, tk_asz, tk_asb, tk_aso, tk_cpy, tk_sw, tk_swc, tk_lit, tk_loc, tk_u1, tk_bin, tk_dv, tk_gf, tk_gr, tk_gn, tk_ald, tk_aldq, tk_aln, tk_unl, tk_una, tk_ter, tk_args, tk_cs, tk_cv, tk_ceq, tk_cne, tk_clt, tk_cge, tk_cgt, tk_cle, tk_zeq, tk_zne, tk_zlt, tk_zge, tk_zgt, tk_zle, tk_and, tk_or, tk_not, tk_ct2, tk_isC, List.headD_cons, tk_up, tk_sca, tk_scl, tkF_X7_wrongQuanta, tkS_X7_wrongQuanta, m_in, tk_bo_0, hn, -not_and]
    exact hQ
theorem c_draw (s n : Int) : tk_cp tkF_X6_draw tkF_X7_draw [s, n] := by
  intro μ hR K hK
  have hT := tk_R_thr (v := 0) hR
  obtain ⟨hE, hI, hIm⟩ := tk_R_S hR
  obtain ⟨e1, e2, e3, e4, e5, e6, e7, e8, e9, hc, hn, hm, hk⟩ := tk_R_n hR
  by_cases hn2 : 0 ≤ n ∧ n ≤ 40
  · have l1 : tk_imul 10 n = 10 * n := tk_imul_id (by omega) (by omega)
    have l2 : tk_iadd (μ 1 3) (10 * n) = μ 1 3 + 10 * n := tk_iadd_id (by omega) (by omega)
    by_cases hx : 99999 < μ 1 3 + 10 * n
    · simp [tk_fn, tk_env, tk_sq, tk_sk, tk_if, tk_re, tk_rez, tk_rev, tk_xp, tk_se, tk_pf, tk_pfz, tk_pfo, tk_as, tk_asz, tk_asb, tk_aso, tk_cpy, tk_sw, tk_swc, tk_lit, tk_loc, tk_u1, tk_bin, tk_dv, tk_gf, tk_gr, tk_gn, tk_ald, tk_aldq, tk_aln, tk_unl, tk_una, tk_ter, tk_args, tk_cs, tk_cv, tk_ceq, tk_cne, tk_clt, tk_cge, tk_cgt, tk_cle, tk_zeq, tk_zne, tk_zlt, tk_zge, tk_zgt, tk_zle, tk_and, tk_or, tk_not, tk_ct2, tk_isC, List.headD_cons, tk_up, tk_sca, tk_scl, tkF_X6_draw, tkS_X6_draw, tkF_X7_draw, tkS_X7_draw, x_isRun, tk_bo_0, hn2.1, hn2.2, l1, l2, hx]
      refine m_wrong (by rw [tk_set_j (by omega), e4]; exact hk) ?_
      rw [if_pos hn2, tk_set_j (by omega), e4, if_pos hx]
      simp
      refine m_wrong (by rw [tk_set_j (by omega), e4]; exact hk) ?_
      rw [if_pos hn2, tk_set_j (by omega), e4, if_pos hx]
      exact hK _ _ hT
    · simp [tk_fn, tk_env, tk_sq, tk_sk, tk_if, tk_re, tk_rez, tk_rev, tk_xp, tk_se, tk_pf, tk_pfz, tk_pfo, tk_as, tk_asz, tk_asb, tk_aso, tk_cpy, tk_sw, tk_swc, tk_lit, tk_loc, tk_u1, tk_bin, tk_dv, tk_gf, tk_gr, tk_gn, tk_ald, tk_aldq, tk_aln, tk_unl, tk_una, tk_ter, tk_args, tk_cs, tk_cv, tk_ceq, tk_cne, tk_clt, tk_cge, tk_cgt, tk_cle, tk_zeq, tk_zne, tk_zlt, tk_zge, tk_zgt, tk_zle, tk_and, tk_or, tk_not, tk_ct2, tk_isC, List.headD_cons, tk_up, tk_sca, tk_scl, tkF_X6_draw, tkS_X6_draw, x_isRun, tk_bo_0, hn2.1, hn2.2, l1, l2, hx]
      refine x_refresh1 (tk_I5s hI) (tk_J_w (tk_J_of hI).1 (by omega)) (fun μ1 hf1 hs1 hd1 hw1 ha1 => ?_)
      have hT1 : tk_hw 1 μ1 = tk_hw 1 μ := tk_hw_f1 hf1 (by omega)
      refine x_dFrom1 (b := μ 1 3) (by rw [hT1]; exact tk_JL_sh hI) (by omega) hn2 (tk_shr_shb hI.1 hI.2.1 (tk_I5s hI).2.2.2.1) hs1 hd1 (fun μ2 hf2 he2 hs2 hd2 => ?_)
      rw [hT1] at he2 ⊢
      have hM2 : tk_mv (tk_set μ2 96 24 0) = tk_mv μ := by
        rw [tk_mv_ob (by omega)]
        exact tk_mv_f2 (fun o i ho => by rw [hf2 o i (by omega), hf1 o i (by omega)])
      have q13 : tk_set μ2 96 24 0 96 13 = μ 1 3 := by rw [tk_set_j (by omega), hf2 _ _ (by omega), hf1 _ _ (by omega), e4]
      simp [tk_fn, tk_env, tk_sq, tk_sk, tk_if, tk_re, tk_rez, tk_rev, tk_xp, tk_se, tk_pf, tk_pfz, tk_pfo, tk_as, tk_asz, tk_asb, tk_aso, tk_cpy, tk_sw, tk_swc, tk_lit, tk_loc, tk_u1, tk_bin, tk_dv, tk_gf, tk_gr, tk_gn, tk_ald, tk_aldq, tk_aln, tk_unl, tk_una, tk_ter, tk_args, tk_cs, tk_cv, tk_ceq, tk_cne, tk_clt, tk_cge, tk_cgt, tk_cle, tk_zeq, tk_zne, tk_zlt, tk_zge, tk_zgt, tk_zle, tk_and, tk_or, tk_not, tk_ct2, tk_isC, List.headD_cons, tk_up, tk_sca, tk_scl, tkF_X7_draw, tkS_X7_draw]
      refine m_wrong (by rw [q13]; exact hk) ?_
      rw [if_pos hn2, q13, if_neg hx]
      simp
      refine m_goDrawn (b := μ 1 3) (by rw [hM2]; exact tk_I5s hIm) (by rw [hM2]; have := tk_JL_sh hIm; rwa [hE.1.2.2.2.1] at this) (by omega) hn2 (fun μ3 hf3 he3 hm3 => ?_)
      rw [hM2] at he3 ⊢
      rw [tk_shr_EE hE hI, tk_gdl_eq hm.1 (tk_EQ_of hE)]
      rw [tk_shr_EE hE hI] at he3
      have hh : tk_hw 1 μ3 = tk_hw 1 μ2 := by
        funext f i
        unfold tk_hw
        split
        · rw [hf3 _ _ (by omega), tk_set_o (by omega)]
        · rfl
      refine hK _ _ (tk_R_go hR (fun o i ho => ?_) ?_ ?_)
      · rw [hf3 o i (by omega)]
        unfold tk_set
        rw [if_neg (by omega), hf2 o i (by omega), hf1 o i (by omega)]
      · rw [hh, he2, he3]
        exact tk_EE_go hE (tk_gd_EQ hm.1 (tk_EQ_of hE) _) (fun f i h6 h7 h8 h0 => tk_gd_o h6 h7 (by omega) _) (fun f i h6 h7 h8 h0 => tk_gd_o h6 h7 (by omega) _)
      · rw [hh, he2]
        exact tk_II_go hI (tk_gd_J (tk_JL_sh hI) n.toNat) (by have : tk_hw 1 μ 0 3 = μ 1 3 := rfl; omega) (fun f i h6 h7 h8 h0 => tk_gd_o h6 h7 (by omega) _)
  · simp [tk_fn, tk_env, tk_sq, tk_sk, tk_if, tk_re, tk_rez, tk_rev, tk_xp, tk_se, tk_pf, tk_pfz, tk_pfo, tk_as, tk_asz, tk_asb, tk_aso, tk_cpy, tk_sw, tk_swc, tk_lit, tk_loc, tk_u1, tk_bin, tk_dv, tk_gf, tk_gr, tk_gn, tk_ald, tk_aldq, tk_aln, tk_unl, tk_una, tk_ter, tk_args, tk_cs, tk_cv, tk_ceq, tk_cne, tk_clt, tk_cge, tk_cgt, tk_cle, tk_zeq, tk_zne, tk_zlt, tk_zge, tk_zgt, tk_zle, tk_and, tk_or, tk_not, tk_ct2, tk_isC, List.headD_cons, tk_up, tk_sca, tk_scl, tkF_X6_draw, tkS_X6_draw, tkF_X7_draw, tkS_X7_draw, x_isRun, tk_bo_0, hn2, -not_and]
    refine m_wrong (by rw [tk_set_j (by omega), e4]; exact hk) ?_
    rw [if_neg hn2]
    simp
    refine m_wrong (by rw [tk_set_j (by omega), e4]; exact hk) ?_
    rw [if_neg hn2]
    exact hK _ _ hT
theorem c_stride (n : Int) : tk_cp tkF_X6_stride tkF_X7_stride [n] := by
  intro μ hR K hK
  have hT := tk_R_thr (v := 0) hR
  obtain ⟨hE, hI, hIm⟩ := tk_R_S hR
  obtain ⟨e1, e2, e3, e4, e5, e6, e7, e8, e9, hc, hn, hm, hk⟩ := tk_R_n hR
  by_cases hn2 : 0 ≤ n ∧ n ≤ 40
  · have l1 : tk_imul 10 n = 10 * n := tk_imul_id (by omega) (by omega)
    have l2 : tk_iadd (μ 1 3) (10 * n) = μ 1 3 + 10 * n := tk_iadd_id (by omega) (by omega)
    by_cases hx : 99999 < μ 1 3 + 10 * n
    · simp [tk_fn, tk_env, tk_sq, tk_sk, tk_if, tk_re, tk_rez, tk_rev, tk_xp, tk_se, tk_pf, tk_pfz, tk_pfo, tk_as, tk_asz, tk_asb, tk_aso, tk_cpy, tk_sw, tk_swc, tk_lit, tk_loc, tk_u1, tk_bin, tk_dv, tk_gf, tk_gr, tk_gn, tk_ald, tk_aldq, tk_aln, tk_unl, tk_una, tk_ter, tk_args, tk_cs, tk_cv, tk_ceq, tk_cne, tk_clt, tk_cge, tk_cgt, tk_cle, tk_zeq, tk_zne, tk_zlt, tk_zge, tk_zgt, tk_zle, tk_and, tk_or, tk_not, tk_ct2, tk_isC, List.headD_cons, tk_up, tk_sca, tk_scl, tkF_X6_stride, tkS_X6_stride, tkF_X7_stride, tkS_X7_stride, x_isRun, tk_bo_0, hn2.1, hn2.2, l1, l2, hx]
      refine m_wrong (by rw [tk_set_j (by omega), e4]; exact hk) ?_
      rw [if_pos hn2, tk_set_j (by omega), e4, if_pos hx]
      simp
      refine m_wrong (by rw [tk_set_j (by omega), e4]; exact hk) ?_
      rw [if_pos hn2, tk_set_j (by omega), e4, if_pos hx]
      exact hK _ _ hT
    · simp [tk_fn, tk_env, tk_sq, tk_sk, tk_if, tk_re, tk_rez, tk_rev, tk_xp, tk_se, tk_pf, tk_pfz, tk_pfo, tk_as, tk_asz, tk_asb, tk_aso, tk_cpy, tk_sw, tk_swc, tk_lit, tk_loc, tk_u1, tk_bin, tk_dv, tk_gf, tk_gr, tk_gn, tk_ald, tk_aldq, tk_aln, tk_unl, tk_una, tk_ter, tk_args, tk_cs, tk_cv, tk_ceq, tk_cne, tk_clt, tk_cge, tk_cgt, tk_cle, tk_zeq, tk_zne, tk_zlt, tk_zge, tk_zgt, tk_zle, tk_and, tk_or, tk_not, tk_ct2, tk_isC, List.headD_cons, tk_up, tk_sca, tk_scl, tkF_X6_stride, tkS_X6_stride, x_isRun, tk_bo_0, hn2.1, hn2.2, l1, l2, hx]
      refine x_refresh1 (tk_I5s hI) (tk_J_w (tk_J_of hI).1 (by omega)) (fun μ1 hf1 hs1 hd1 hw1 ha1 => ?_)
      have hT1 : tk_hw 1 μ1 = tk_hw 1 μ := tk_hw_f1 hf1 (by omega)
      refine x_goBP1 (b := μ 1 3) (by rw [hT1]; exact tk_JL_sh hI) (by omega) hn2 (tk_shr_shb hI.1 hI.2.1 (tk_I5s hI).2.2.2.1) hs1 hd1 (fun μ2 hf2 he2 hs2 hd2 => ?_)
      rw [hT1] at he2 ⊢
      have hM2 : tk_mv (tk_set μ2 96 24 0) = tk_mv μ := by
        rw [tk_mv_ob (by omega)]
        exact tk_mv_f2 (fun o i ho => by rw [hf2 o i (by omega), hf1 o i (by omega)])
      have q13 : tk_set μ2 96 24 0 96 13 = μ 1 3 := by rw [tk_set_j (by omega), hf2 _ _ (by omega), hf1 _ _ (by omega), e4]
      simp [tk_fn, tk_env, tk_sq, tk_sk, tk_if, tk_re, tk_rez, tk_rev, tk_xp, tk_se, tk_pf, tk_pfz, tk_pfo, tk_as, tk_asz, tk_asb, tk_aso, tk_cpy, tk_sw, tk_swc, tk_lit, tk_loc, tk_u1, tk_bin, tk_dv, tk_gf, tk_gr, tk_gn, tk_ald, tk_aldq, tk_aln, tk_unl, tk_una, tk_ter, tk_args, tk_cs, tk_cv, tk_ceq, tk_cne, tk_clt, tk_cge, tk_cgt, tk_cle, tk_zeq, tk_zne, tk_zlt, tk_zge, tk_zgt, tk_zle, tk_and, tk_or, tk_not, tk_ct2, tk_isC, List.headD_cons, tk_up, tk_sca, tk_scl, tkF_X7_stride, tkS_X7_stride]
      refine m_wrong (by rw [q13]; exact hk) ?_
      rw [if_pos hn2, q13, if_neg hx]
      simp
      refine m_goByPasses (b := μ 1 3) (by rw [hM2]; exact tk_I5s hIm) (by rw [hM2]; have := tk_JL_sh hIm; rwa [hE.1.2.2.2.1] at this) (by omega) hn2 (fun μ3 hf3 he3 hm3 => ?_)
      rw [hM2] at he3 ⊢
      rw [tk_shr_EE hE hI, tk_gpl_eq hm.1 (tk_EQ_of hE)]
      rw [tk_shr_EE hE hI] at he3
      have hh : tk_hw 1 μ3 = tk_hw 1 μ2 := by
        funext f i
        unfold tk_hw
        split
        · rw [hf3 _ _ (by omega), tk_set_o (by omega)]
        · rfl
      refine hK _ _ (tk_R_go hR (fun o i ho => ?_) ?_ ?_)
      · rw [hf3 o i (by omega)]
        unfold tk_set
        rw [if_neg (by omega), hf2 o i (by omega), hf1 o i (by omega)]
      · rw [hh, he2, he3]
        exact tk_EE_go hE (tk_gp_EQ hm.1 (tk_EQ_of hE) _) (fun f i h6 h7 h8 h0 => tk_gp_o h6 h7 h8 (by omega) _) (fun f i h6 h7 h8 h0 => tk_gp_o h6 h7 h8 (by omega) _)
      · rw [hh, he2]
        exact tk_II_go hI (tk_gp_J (tk_JL_sh hI) n.toNat) (by have : tk_hw 1 μ 0 3 = μ 1 3 := rfl; omega) (fun f i h6 h7 h8 h0 => tk_gp_o h6 h7 h8 (by omega) _)
  · simp [tk_fn, tk_env, tk_sq, tk_sk, tk_if, tk_re, tk_rez, tk_rev, tk_xp, tk_se, tk_pf, tk_pfz, tk_pfo, tk_as, tk_asz, tk_asb, tk_aso, tk_cpy, tk_sw, tk_swc, tk_lit, tk_loc, tk_u1, tk_bin, tk_dv, tk_gf, tk_gr, tk_gn, tk_ald, tk_aldq, tk_aln, tk_unl, tk_una, tk_ter, tk_args, tk_cs, tk_cv, tk_ceq, tk_cne, tk_clt, tk_cge, tk_cgt, tk_cle, tk_zeq, tk_zne, tk_zlt, tk_zge, tk_zgt, tk_zle, tk_and, tk_or, tk_not, tk_ct2, tk_isC, List.headD_cons, tk_up, tk_sca, tk_scl, tkF_X6_stride, tkS_X6_stride, tkF_X7_stride, tkS_X7_stride, x_isRun, tk_bo_0, hn2, -not_and]
    refine m_wrong (by rw [tk_set_j (by omega), e4]; exact hk) ?_
    rw [if_neg hn2]
    simp
    refine m_wrong (by rw [tk_set_j (by omega), e4]; exact hk) ?_
    rw [if_neg hn2]
    exact hK _ _ hT
