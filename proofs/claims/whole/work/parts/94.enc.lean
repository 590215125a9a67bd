/-! ===== Layer 2: ends ===== -/
def tk_enV (S : tk_M) (w : Int) : Int := if w = 2 then tk_nxt (tk_shr S) S else if w = 0 then S 0 3 else tk_sm (S 0 2) (fun c => S 6 c)
theorem tk_tr_fp {μ m m' : tk_M} (h : tk_tr μ m) (hf : tk_fp m m') : tk_tr μ m' := by
  refine ⟨fun o i ho => by rw [hf o i (by unfold tk_sc2 at ho; omega)]; exact h.1 o i ho, ?_⟩
  have e : tk_iv 113 m' = tk_iv 113 m := by
    have e : ∀ j, m' 113 j = m 113 j := fun j => hf _ _ (by omega)
    funext f i
    unfold tk_iv
    simp only [e]
  rw [e]
  exact h.2
theorem x_ends {w : Int} {μ : tk_M} {Q : Int → tk_M → Prop} (hI : tk_II (tk_hw 1 μ)) (hw : 0 ≤ w ∧ w ≤ 2) (hQ : ∀ μ', tk_f1 31 60 μ μ' → Q (tk_enV (tk_pls (tk_hw 1 μ) (μ 15 0).toNat) w) μ') : tkF_X6_ends [0, w] Q μ := by
  have hz : 0 ≤ μ 15 0 ∧ μ 15 0 ≤ 10 := hI.2.2.2.2.2.1.1
  have hW := tk_WW_pls hI (i := μ 15 0) ⟨hz.1, Int.le_refl _⟩
  have hn2 := hW.1.1.2.2.1.1
  simp [tk_fn, tk_env, tk_sq, tk_sk, tk_if, tk_re, tk_rez, tk_rev, tk_xp, tk_se, tk_pf, tk_pfz, tk_pfo, tk_as, tk_asz, tk_asb, tk_aso, tk_cpy, tk_sw, tk_swc, tk_lit, tk_loc, tk_u1, tk_bin, tk_dv, tk_gf, tk_gr, tk_gn, tk_ald, tk_aldq, tk_aln, tk_unl, tk_una, tk_ter, tk_args, tk_cs, tk_cv, tk_ceq, tk_cne, tk_clt, tk_cge, tk_cgt, tk_cle, tk_zeq, tk_zne, tk_zlt, tk_zge, tk_zgt, tk_zle, tk_and, tk_or, tk_not, tk_ct2, tk_isC, List.headD_cons, tk_up, tk_sca, tk_scl, tkF_X6_ends, tkS_X6_ends, show ¬ w < 0 from by omega, show ¬ 2 < w from by omega]
  refine x_begin hI (fun μ0 hf0 hE0 hs0 hd0 _ => ?_)
  refine x_ends_l hI hf0 hE0 hs0 hd0 rfl rfl (fun ρ' μ' r0 r1 hf hE hd => ?_)
  have r1 : ρ' 1 = w := r1
  have hq := hQ μ' hf
  have hJ := tk_JL_EE hE hW.2
  generalize tk_pls (tk_hw 1 μ) (μ 15 0).toNat = S at hq hE hd hW hn2
  unfold tk_enV at hq
  by_cases h2 : w = 2
  · rw [if_pos h2] at hq
    simp [tk_fn, tk_env, tk_sq, tk_sk, tk_if, tk_re, tk_rez, tk_rev, tk_xp, tk_se, tk_pf, tk_pfz, tk_pfo, tk_as, tk_asz, tk_asb, tk_aso, tk_cpy, tk_sw, tk_swc, tk_lit, tk_loc, tk_u1, tk_bin, tk_dv, tk_gf, tk_gr, tk_gn, tk_ald, tk_aldq, tk_aln, tk_unl, tk_una, tk_ter, tk_args, tk_cs, tk_cv, tk_ceq, tk_cne, tk_clt, tk_cge, tk_cgt, tk_cle, tk_zeq, tk_zne, tk_zlt, tk_zge, tk_zgt, tk_zle, tk_and, tk_or, tk_not, tk_ct2, tk_isC, List.headD_cons, tk_up, tk_sca, tk_scl, r0, r1, eq_true h2]
    refine x_next31 hJ.1 hd ?_
    rw [tk_nxt_eq hn2 (tk_EQ_of hE)]
    exact hq
  · rw [if_neg h2] at hq
    by_cases h0 : w = 0
    · rw [if_pos h0] at hq
      have e : μ' 31 3 = S 0 3 := hE.1.2.2.2.1
      simp [tk_fn, tk_env, tk_sq, tk_sk, tk_if, tk_re, tk_rez, tk_rev, tk_xp, tk_se, tk_pf, tk_pfz, tk_pfo, tk_as, tk_asz, tk_asb, tk_aso, tk_cpy, tk_sw, tk_swc, tk_lit, tk_loc, tk_u1, tk_bin, tk_dv, tk_gf, tk_gr, tk_gn, tk_ald, tk_aldq, tk_aln, tk_unl, tk_una, tk_ter, tk_args, tk_cs, tk_cv, tk_ceq, tk_cne, tk_clt, tk_cge, tk_cgt, tk_cle, tk_zeq, tk_zne, tk_zlt, tk_zge, tk_zgt, tk_zle, tk_and, tk_or, tk_not, tk_ct2, tk_isC, List.headD_cons, tk_up, tk_sca, tk_scl, r0, r1, h2, eq_true h0, e]
      exact hq
    · rw [if_neg h0] at hq
      simp [tk_fn, tk_env, tk_sq, tk_sk, tk_if, tk_re, tk_rez, tk_rev, tk_xp, tk_se, tk_pf, tk_pfz, tk_pfo, tk_as, tk_asz, tk_asb, tk_aso, tk_cpy, tk_sw, tk_swc, tk_lit, tk_loc, tk_u1, tk_bin, tk_dv, tk_gf, tk_gr, tk_gn, tk_ald, tk_aldq, tk_aln, tk_unl, tk_una, tk_ter, tk_args, tk_cs, tk_cv, tk_ceq, tk_cne, tk_clt, tk_cge, tk_cgt, tk_cle, tk_zeq, tk_zne, tk_zlt, tk_zge, tk_zgt, tk_zle, tk_and, tk_or, tk_not, tk_ct2, tk_isC, List.headD_cons, tk_up, tk_sca, tk_scl, r0, r1, h2, h0]
      refine x_ranOfAll31 hJ.1 (by omega) ?_
      have e : μ' 31 2 = S 0 2 := hE.1.2.2.1
      rw [e, tk_sm_congr (f := fun c => μ' 37 c) (g := fun c => S 6 c) (fun c h3 h4 => (hE.2.2.1 c h3 h4).2.2.1)]
      exact hq
theorem m_ends {w : Int} {μ μ2 : tk_M} {K : Int → tk_M → Prop} (hR : tk_R μ) (hf : tk_f1 31 60 μ μ2) (hw : 0 ≤ w ∧ w ≤ 2) (hK : ∀ m, tk_R m → K (tk_enV (tk_pls (tk_hw 1 μ) (μ 15 0).toNat) w) m) : tkF_X7_ends [96, w] K μ2 := by
  obtain ⟨hE, hI, hIm⟩ := tk_R_S hR
  have hz : 0 ≤ μ 15 0 ∧ μ 15 0 ≤ 10 := hI.2.2.2.2.2.1.1
  have hW := tk_WW_pls hI (i := μ 15 0) ⟨hz.1, Int.le_refl _⟩
  have hn2 := hW.1.1.2.2.1.1
  simp [tk_fn, tk_env, tk_sq, tk_sk, tk_if, tk_re, tk_rez, tk_rev, tk_xp, tk_se, tk_pf, tk_pfz, tk_pfo, tk_as, tk_asz, tk_asb, tk_aso, tk_cpy, tk_sw, tk_swc, tk_lit, tk_loc, tk_u1, tk_bin, tk_dv, tk_gf, tk_gr, tk_gn, tk_ald, tk_aldq, tk_aln, tk_unl, tk_una, tk_ter, tk_args, tk_cs, tk_cv, tk_ceq, tk_cne, tk_clt, tk_cge, tk_cgt, tk_cle, tk_zeq, tk_zne, tk_zlt, tk_zge, tk_zgt, tk_zle, tk_and, tk_or, tk_not, tk_ct2, tk_isC, List.headD_cons, tk_up, tk_sca, tk_scl, tkF_X7_ends, tkS_X7_ends, m_in, tk_bo_0, hw.1, hw.2, show ¬ 2 < w from by omega]
  refine m_tset hf (fun m2 htr hc _ => ?_)
  refine m_ends_l (μ := μ) (S := tk_hw 1 μ) hI (tk_EE_m hR hc) rfl rfl (fun ρ' m3 r0 r1 hf3 hE3 => ?_)
  have r1 : ρ' 1 = w := r1
  have hE3 : tk_EE (tk_pls (tk_hw 1 μ) (μ 15 0).toNat) (tk_mv m3) := hE3
  have hK := fun m hm => hK m hm
  have htr3 := tk_tr_fp htr hf3
  generalize tk_pls (tk_hw 1 μ) (μ 15 0).toNat = S at hK hE3 hW hn2
  unfold tk_enV at hK
  have hJ3 := tk_JL_EE hE3 hW.2
  have goL : ∀ R : Int → tk_M → Prop, (∀ m4, tk_f1 116 120 m3 m4 → tk_mL (tk_mv m3) m4 → R 0 m4) → tkF_X7_layShares [96] R m3 := fun R hR2 => m_layShares (tk_W5_EE hE3 hW.1) hR2
  have after : ∀ (v : Int) (m4 : tk_M), tk_f1 116 120 m3 m4 → (∀ m, tk_R m → K v m) → tkF_X7_again [96] (fun _ m5 => K v m5) m4 := fun v m4 hf4 hv => m_tr_again hR (tk_tr_fp htr3 (fun o i ho => hf4 o i (by omega))) (fun m5 hR5 _ _ _ => hv m5 hR5)
  by_cases h2 : w = 2
  · rw [if_pos h2] at hK
    simp [tk_fn, tk_env, tk_sq, tk_sk, tk_if, tk_re, tk_rez, tk_rev, tk_xp, tk_se, tk_pf, tk_pfz, tk_pfo, tk_as, tk_asz, tk_asb, tk_aso, tk_cpy, tk_sw, tk_swc, tk_lit, tk_loc, tk_u1, tk_bin, tk_dv, tk_gf, tk_gr, tk_gn, tk_ald, tk_aldq, tk_aln, tk_unl, tk_una, tk_ter, tk_args, tk_cs, tk_cv, tk_ceq, tk_cne, tk_clt, tk_cge, tk_cgt, tk_cle, tk_zeq, tk_zne, tk_zlt, tk_zge, tk_zgt, tk_zle, tk_and, tk_or, tk_not, tk_ct2, tk_isC, List.headD_cons, tk_up, tk_sca, tk_scl, r0]
    refine goL _ (fun m4 hf4 hL4 => ?_)
    have hM4 : tk_mv m4 = tk_mv m3 := tk_mv_f1 hf4 (by omega)
    simp [tk_fn, tk_env, tk_sq, tk_sk, tk_if, tk_re, tk_rez, tk_rev, tk_xp, tk_se, tk_pf, tk_pfz, tk_pfo, tk_as, tk_asz, tk_asb, tk_aso, tk_cpy, tk_sw, tk_swc, tk_lit, tk_loc, tk_u1, tk_bin, tk_dv, tk_gf, tk_gr, tk_gn, tk_ald, tk_aldq, tk_aln, tk_unl, tk_una, tk_ter, tk_args, tk_cs, tk_cv, tk_ceq, tk_cne, tk_clt, tk_cge, tk_cgt, tk_cle, tk_zeq, tk_zne, tk_zlt, tk_zge, tk_zgt, tk_zle, tk_and, tk_or, tk_not, tk_ct2, tk_isC, List.headD_cons, tk_up, tk_sca, tk_scl, r0, r1, show ¬ w = 0 from by omega, show ¬ w = 1 from by omega]
    refine m_nextOf (by rw [hM4]; exact hJ3.1) hL4.2 (by rw [tk_shr_EEw hE3 hW.1]; exact tk_shr_shb hW.1.1 hW.1.2.1 hW.1.2.2.2.1) ?_
    rw [hM4, tk_shr_EEw hE3 hW.1, tk_nxt_eq hn2 (tk_EQ_of hE3)]
    exact after _ m4 hf4 hK
  · rw [if_neg h2] at hK
    by_cases h0 : w = 0
    · rw [if_pos h0] at hK
      simp [tk_fn, tk_env, tk_sq, tk_sk, tk_if, tk_re, tk_rez, tk_rev, tk_xp, tk_se, tk_pf, tk_pfz, tk_pfo, tk_as, tk_asz, tk_asb, tk_aso, tk_cpy, tk_sw, tk_swc, tk_lit, tk_loc, tk_u1, tk_bin, tk_dv, tk_gf, tk_gr, tk_gn, tk_ald, tk_aldq, tk_aln, tk_unl, tk_una, tk_ter, tk_args, tk_cs, tk_cv, tk_ceq, tk_cne, tk_clt, tk_cge, tk_cgt, tk_cle, tk_zeq, tk_zne, tk_zlt, tk_zge, tk_zgt, tk_zle, tk_and, tk_or, tk_not, tk_ct2, tk_isC, List.headD_cons, tk_up, tk_sca, tk_scl, r0]
      refine goL _ (fun m4 hf4 hL4 => ?_)
      have hM4 : tk_mv m4 = tk_mv m3 := tk_mv_f1 hf4 (by omega)
      have e : m4 96 13 = S 0 3 := by
        have h : m4 96 13 = tk_mv m4 0 3 := rfl
        rw [h, hM4]
        exact hE3.1.2.2.2.1
      simp [tk_fn, tk_env, tk_sq, tk_sk, tk_if, tk_re, tk_rez, tk_rev, tk_xp, tk_se, tk_pf, tk_pfz, tk_pfo, tk_as, tk_asz, tk_asb, tk_aso, tk_cpy, tk_sw, tk_swc, tk_lit, tk_loc, tk_u1, tk_bin, tk_dv, tk_gf, tk_gr, tk_gn, tk_ald, tk_aldq, tk_aln, tk_unl, tk_una, tk_ter, tk_args, tk_cs, tk_cv, tk_ceq, tk_cne, tk_clt, tk_cge, tk_cgt, tk_cle, tk_zeq, tk_zne, tk_zlt, tk_zge, tk_zgt, tk_zle, tk_and, tk_or, tk_not, tk_ct2, tk_isC, List.headD_cons, tk_up, tk_sca, tk_scl, r0, r1, eq_true h0, e]
      exact after _ m4 hf4 hK
    · rw [if_neg h0] at hK
      simp [tk_fn, tk_env, tk_sq, tk_sk, tk_if, tk_re, tk_rez, tk_rev, tk_xp, tk_se, tk_pf, tk_pfz, tk_pfo, tk_as, tk_asz, tk_asb, tk_aso, tk_cpy, tk_sw, tk_swc, tk_lit, tk_loc, tk_u1, tk_bin, tk_dv, tk_gf, tk_gr, tk_gn, tk_ald, tk_aldq, tk_aln, tk_unl, tk_una, tk_ter, tk_args, tk_cs, tk_cv, tk_ceq, tk_cne, tk_clt, tk_cge, tk_cgt, tk_cle, tk_zeq, tk_zne, tk_zlt, tk_zge, tk_zgt, tk_zle, tk_and, tk_or, tk_not, tk_ct2, tk_isC, List.headD_cons, tk_up, tk_sca, tk_scl, r0]
      refine goL _ (fun m4 hf4 hL4 => ?_)
      have hM4 : tk_mv m4 = tk_mv m3 := tk_mv_f1 hf4 (by omega)
      simp [tk_fn, tk_env, tk_sq, tk_sk, tk_if, tk_re, tk_rez, tk_rev, tk_xp, tk_se, tk_pf, tk_pfz, tk_pfo, tk_as, tk_asz, tk_asb, tk_aso, tk_cpy, tk_sw, tk_swc, tk_lit, tk_loc, tk_u1, tk_bin, tk_dv, tk_gf, tk_gr, tk_gn, tk_ald, tk_aldq, tk_aln, tk_unl, tk_una, tk_ter, tk_args, tk_cs, tk_cv, tk_ceq, tk_cne, tk_clt, tk_cge, tk_cgt, tk_cle, tk_zeq, tk_zne, tk_zlt, tk_zge, tk_zgt, tk_zle, tk_and, tk_or, tk_not, tk_ct2, tk_isC, List.headD_cons, tk_up, tk_sca, tk_scl, r0, r1, h0, eq_true (show w = 1 from by omega)]
      refine m_ranAll (by rw [hM4]; exact hJ3.1) (by omega) ?_
      have e : m4 96 5 = S 0 2 := by
        have h : m4 96 5 = tk_mv m4 0 2 := rfl
        rw [h, hM4]
        exact hE3.1.2.2.1
      have hn8 := hW.1.1.2.2.1.2
      have hbd := tk_sm_bd (n := S 0 2) (B := 1000000) (f := fun c => S 6 c) hn2 (fun c h3 h4 => by
        have h5 := (hW.1.2.2.1 c h3 h4).2.2.1
        have h6 := hW.2.1.2.1.2
        (try dsimp only)
        omega)
      rw [e, tk_sm_congr (f := fun c => m4 102 c) (g := fun c => S 6 c) (fun c h3 h4 => by
        have h : m4 102 c = tk_mv m4 6 c := rfl
        (try dsimp only)
        rw [h, hM4]
        exact (hE3.2.2.1 c h3 h4).2.2.1), tk_l2i_id ⟨by omega, by omega⟩]
      exact after _ m4 hf4 hK
theorem c_ends (w : Int) : tk_cp tkF_X6_ends tkF_X7_ends [w] := by
  intro μ hR K hK
  have hT := tk_R_thr (v := 0) hR
  obtain ⟨hE, hI, hIm⟩ := tk_R_S hR
  by_cases hw : 0 ≤ w ∧ w ≤ 2
  · refine x_ends hI hw (fun μ' hf => ?_)
    exact m_ends hR hf hw (fun m hm => hK _ _ hm)
  · by_cases h0 : w < 0
    · simp [tk_fn, tk_env, tk_sq, tk_sk, tk_if, tk_re, tk_rez, tk_rev, tk_xp, tk_se, tk_pf, tk_pfz, tk_pfo, tk_as, tk_asz, tk_asb, tk_aso, tk_cpy, tk_sw, tk_swc, tk_lit, tk_loc, tk_u1, tk_bin, tk_dv, tk_gf, tk_gr, tk_gn, tk_ald, tk_aldq, tk_aln, tk_unl, tk_una, tk_ter, tk_args, tk_cs, tk_cv, tk_ceq, tk_cne, tk_clt, tk_cge, tk_cgt, tk_cle, tk_zeq, tk_zne, tk_zlt, tk_zge, tk_zgt, tk_zle, tk_and, tk_or, tk_not, tk_ct2, tk_isC, List.headD_cons, tk_up, tk_sca, tk_scl, tkF_X6_ends, tkS_X6_ends, tkF_X7_ends, tkS_X7_ends, m_in, tk_bo_0, hw, h0, -not_and]
      exact hK _ _ hT
    · simp [tk_fn, tk_env, tk_sq, tk_sk, tk_if, tk_re, tk_rez, tk_rev, tk_xp, tk_se, tk_pf, tk_pfz, tk_pfo, tk_as, tk_asz, tk_asb, tk_aso, tk_cpy, tk_sw, tk_swc, tk_lit, tk_loc, tk_u1, tk_bin, tk_dv, tk_gf, tk_gr, tk_gn, tk_ald, tk_aldq, tk_aln, tk_unl, tk_una, tk_ter, tk_args, tk_cs, tk_cv, tk_ceq, tk_cne, tk_clt, tk_cge, tk_cgt, tk_cle, tk_zeq, tk_zne, tk_zlt, tk_zge, tk_zgt, tk_zle, tk_and, tk_or, tk_not, tk_ct2, tk_isC, List.headD_cons, tk_up, tk_sca, tk_scl, tkF_X6_ends, tkS_X6_ends, tkF_X7_ends, tkS_X7_ends, m_in, tk_bo_0, hw, h0, show 2 < w from by omega, -not_and]
      exact hK _ _ hT
