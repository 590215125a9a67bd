/-! ===== Layer 2: the TAPES ===== -/
set_option maxRecDepth 20000 in
theorem c_read (t i : Int) : tk_cp tkF_X6_read tkF_X7_read [t, i] := by
  intro μ hR K hK
  have hT := tk_R_thr (v := 0) hR
  by_cases ht : 0 ≤ t ∧ t < 6
  · obtain ⟨p1, p2, p3, p4, p5, p6⟩ := hR.2.2.2.1 t ht.1 ht.2
    have ht5 : t ≤ 5 := by omega
    have key : ∀ o : Int, o = 84 + 2 * t → (o = 84 ∨ o = 86 ∨ o = 88 ∨ o = 90 ∨ o = 92 ∨ o = 94) := by omega
    sorry
  · have h5 : ¬ (0 ≤ t ∧ t ≤ 5) := by omega
    simp [tk_fn, tk_env, tk_sq, tk_sk, tk_if, tk_re, tk_rez, tk_rev, tk_xp, tk_se, tk_pf, tk_pfz, tk_pfo, tk_as, tk_asz, tk_asb, tk_aso, tk_cpy, tk_sw, tk_swc, tk_lit, tk_loc, tk_u1, tk_bin, tk_dv, tk_gf, tk_gr, tk_gn, tk_ald, tk_aldq, tk_aln, tk_unl, tk_una, tk_ter, tk_args, tk_cs, tk_cv, tk_ceq, tk_cne, tk_clt, tk_cge, tk_cgt, tk_cle, tk_zeq, tk_zne, tk_zlt, tk_zge, tk_zgt, tk_zle, tk_and, tk_or, tk_not, tk_ct2, tk_isC, List.headD_cons, tk_up, tk_sca, tk_scl, tkF_X6_read, tkS_X6_read, tkF_X7_read, tkS_X7_read, x_isTape, m_isTape, tk_bo_0, ht, h5, -not_and]
    exact hK _ _ hT
