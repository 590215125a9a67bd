/-! ===== Layer 2: small calls ===== -/
/-- the places that the coupling looks at -/
def tk_kp (o i : Int) : Prop := (1 ≤ o ∧ o ≤ 20) ∨ (61 ≤ o ∧ o ≤ 81) ∨ (84 ≤ o ∧ o ≤ 95) ∨ (97 ≤ o ∧ o ≤ 112) ∨ o = 114 ∨ o = 121 ∨ (125 ≤ o ∧ o ≤ 127) ∨ o = 129 ∨ (o = 0 ∧ (i = 5 ∨ i = 7)) ∨ (o = 96 ∧ (i = 0 ∨ i = 1 ∨ i = 5 ∨ i = 13 ∨ i = 14 ∨ i = 15 ∨ i = 18 ∨ i = 21 ∨ i = 27 ∨ i = 39))
theorem tk_mv_fr {μ μ' : tk_M} (hq : ∀ o i : Int, tk_kp o i → μ' o i = μ o i) : ∀ f i : Int, 0 ≤ f → f ≤ 19 → tk_mv μ' f i = tk_mv μ f i := by
  intro f i _ _
  have e : ∀ o : Int, 97 ≤ o → o ≤ 112 → μ' o i = μ o i := fun o h1 h2 => hq o i (by unfold tk_kp; omega)
  have e0 : ∀ j : Int, (j = 0 ∨ j = 1 ∨ j = 5 ∨ j = 13 ∨ j = 14 ∨ j = 15 ∨ j = 18 ∨ j = 21) → μ' 96 j = μ 96 j := fun j h => hq 96 j (by unfold tk_kp; omega)
  unfold tk_mv
  simp only [e0 0 (by omega), e0 1 (by omega), e0 5 (by omega), e0 13 (by omega), e0 14 (by omega), e0 15 (by omega), e0 18 (by omega), e0 21 (by omega), e 97 (by omega) (by omega), e 98 (by omega) (by omega), e 99 (by omega) (by omega), e 100 (by omega) (by omega), e 101 (by omega) (by omega), e 102 (by omega) (by omega), e 103 (by omega) (by omega), e 104 (by omega) (by omega), e 105 (by omega) (by omega), e 106 (by omega) (by omega), e 107 (by omega) (by omega), e 108 (by omega) (by omega), e 109 (by omega) (by omega), e 110 (by omega) (by omega), e 111 (by omega) (by omega), e 112 (by omega) (by omega)]
theorem tk_R_fr {μ μ' : tk_M} (h : tk_R μ) (hq : ∀ o i : Int, tk_kp o i → μ' o i = μ o i) : tk_R μ' := by
  obtain ⟨h1, h2, h3, h4, h5⟩ := h
  have hS := tk_hv_fr (h := 1) (μ := μ) (μ' := μ') (fun o i h1 h2 => hq o i (by unfold tk_kp; omega))
  exact ⟨tk_EE_fr h1 hS (tk_mv_fr hq), tk_II_fr h2 hS, tk_RT_fr h3 (hq 0 7 (by unfold tk_kp; omega)) (hq 96 39 (by unfold tk_kp; omega)) (fun i => ⟨hq 81 i (by unfold tk_kp; omega), hq 121 i (by unfold tk_kp; omega)⟩), tk_RP_fr h4 (fun o i h => hq o i (by unfold tk_kp; omega)), tk_RI_fr h5 (hq 0 5 (by unfold tk_kp; omega)) (hq 96 27 (by unfold tk_kp; omega)) (fun o i a b => hq o i (by unfold tk_kp; omega)) (fun i => hq 114 i (by unfold tk_kp; omega))⟩
theorem tk_R_thr {μ : tk_M} {v : Int} (h : tk_R μ) : tk_R (tk_set μ 96 24 v) := tk_R_fr h (fun o i hk => by
  unfold tk_kp at hk
  unfold tk_set
  rw [if_neg (by omega)])
/-- the numbers of a coupling that nearly every call asks -/
theorem tk_R_n {μ : tk_M} (h : tk_R μ) : μ 96 0 = μ 1 0 ∧ μ 96 1 = μ 1 1 ∧ μ 96 5 = μ 1 2 ∧ μ 96 13 = μ 1 3 ∧ μ 96 14 = μ 1 4 ∧ μ 96 15 = μ 12 0 ∧ μ 96 18 = μ 15 0 ∧ μ 96 21 = μ 18 0 ∧ μ 96 39 = μ 0 7 ∧ (1 ≤ μ 1 0 ∧ μ 1 0 ≤ 6) ∧ (0 ≤ μ 1 1 ∧ μ 1 1 ≤ 24) ∧ (0 ≤ μ 1 2 ∧ μ 1 2 ≤ 8) ∧ (0 ≤ μ 1 3 ∧ μ 1 3 ≤ 99999) := by
  obtain ⟨⟨⟨a1, a2, a3, a4, a5⟩, -, -, -, ⟨a6, -⟩, ⟨a7, -⟩, ⟨a8, -⟩⟩, ⟨⟨b1, b2, b3, b4, -⟩, -⟩, ⟨c1, -⟩, -, -⟩ := h
  simp [tk_hv, tk_mv] at a1 a2 a3 a4 a5 a6 a7 a8 b1 b2 b3 b4
  exact ⟨a1, a2, a3, a4, a5, a6, a7, a8, c1, b1, b2, b3, b4⟩
theorem c_count (w : Int) : tk_cp tkF_X6_count tkF_X7_count [w] := by
  intro μ hR K hK
  obtain ⟨e1, e2, e3, e4, e5, e6, e7, e8, e9, -⟩ := tk_R_n hR
  have hT := tk_R_thr (v := 0) hR
  simp [tk_fn, tk_env, tk_sq, tk_sk, tk_if, tk_re, tk_rez, tk_rev, tk_xp, tk_se, tk_pf, tk_pfz, tk_pfo, tk_as, tk_asz, tk_asb, tk_aso, tk_cpy, tk_sw, tk_swc, tk_lit, tk_loc, tk_u1, tk_bin, tk_dv, tk_gf, tk_gr, tk_gn, tk_ald, tk_aldq, tk_aln, tk_unl, tk_una, tk_ter, tk_args, tk_cs, tk_cv, tk_ceq, tk_cne, tk_clt, tk_cge, tk_cgt, tk_cle, tk_zeq, tk_zne, tk_zlt, tk_zge, tk_zgt, tk_zle, tk_and, tk_or, tk_not, tk_ct2, tk_isC, List.headD_cons, tk_up, tk_sca, tk_scl, tkF_X6_count, tkS_X6_count, tkF_X7_count, tkS_X7_count, tk_set_j, tk_set_o, tk_set_eq, e1, e2, e3, e6, e7, e8, e9]
  by_cases h0 : w = 0
  · subst h0; simp; exact hK _ _ hT
  by_cases h1 : w = 1
  · subst h1; simp; exact hK _ _ hT
  by_cases h2 : w = 2
  · subst h2; simp; exact hK _ _ hT
  by_cases h3 : w = 3
  · subst h3; simp; exact hK _ _ hT
  by_cases h4 : w = 4
  · subst h4; simp; exact hK _ _ hT
  by_cases h5 : w = 5
  · subst h5; simp; exact hK _ _ hT
  by_cases h6 : w = 6
  · subst h6; simp; exact hK _ _ hT
  simp [h0, h1, h2, h3, h4, h5, h6]
  exact hK _ _ hT
theorem c_currency : tk_cp tkF_X6_currency tkF_X7_currency [] := by
  intro μ hR K hK
  obtain ⟨e1, e2, e3, e4, e5, e6, e7, e8, e9, hc, -⟩ := tk_R_n hR
  have hT := tk_R_thr (v := 0) hR
  have i1 : tk_iadd (μ 1 0) 1 = μ 1 0 + 1 := tk_iadd_id (by omega) (by omega)
  have i2 : tk_isub (μ 1 0 + 1) 1 = μ 1 0 := by rw [tk_isub_id (by omega) (by omega)]; omega
  simp [tk_fn, tk_env, tk_sq, tk_sk, tk_if, tk_re, tk_rez, tk_rev, tk_xp, tk_se, tk_pf, tk_pfz, tk_pfo, tk_as, tk_asz, tk_asb, tk_aso, tk_cpy, tk_sw, tk_swc, tk_lit, tk_loc, tk_u1, tk_bin, tk_dv, tk_gf, tk_gr, tk_gn, tk_ald, tk_aldq, tk_aln, tk_unl, tk_una, tk_ter, tk_args, tk_cs, tk_cv, tk_ceq, tk_cne, tk_clt, tk_cge, tk_cgt, tk_cle, tk_zeq, tk_zne, tk_zlt, tk_zge, tk_zgt, tk_zle, tk_and, tk_or, tk_not, tk_ct2, tk_isC, List.headD_cons, tk_up, tk_sca, tk_scl, tkF_X6_currency, tkS_X6_currency, tkF_X7_currency, tkS_X7_currency, tk_set_j, tk_set_o, tk_set_eq, e1, i1, i2]
  by_cases h6 : 6 ≤ μ 1 0
  · have h7 : μ 1 0 = 6 := by omega
    simp [h7]
    exact hK _ _ hT
  · have h7 : ¬ μ 1 0 = 6 := by omega
    simp [h6, h7]
    refine hK _ _ ?_
    trace_state
    sorry
theorem c_card (t w : Int) : tk_cp tkF_X6_card tkF_X7_card [t, w] := by
  intro μ hR K hK
  obtain ⟨e1, e2, e3, e4, e5, e6, e7, e8, e9, hc, hn, -⟩ := tk_R_n hR
  have hT := tk_R_thr (v := 0) hR
  have hE := hR.1.2.1
  simp [tk_fn, tk_env, tk_sq, tk_sk, tk_if, tk_re, tk_rez, tk_rev, tk_xp, tk_se, tk_pf, tk_pfz, tk_pfo, tk_as, tk_asz, tk_asb, tk_aso, tk_cpy, tk_sw, tk_swc, tk_lit, tk_loc, tk_u1, tk_bin, tk_dv, tk_gf, tk_gr, tk_gn, tk_ald, tk_aldq, tk_aln, tk_unl, tk_una, tk_ter, tk_args, tk_cs, tk_cv, tk_ceq, tk_cne, tk_clt, tk_cge, tk_cgt, tk_cle, tk_zeq, tk_zne, tk_zlt, tk_zge, tk_zgt, tk_zle, tk_and, tk_or, tk_not, tk_ct2, tk_isC, List.headD_cons, tk_up, tk_sca, tk_scl, tkF_X6_card, tkS_X6_card, tkF_X7_card, tkS_X7_card, tk_set_j, tk_set_o, tk_set_eq, e1, e2, x_hasTicket, m_isTicket, m_in, tk_bo_0, hn]
  trace_state
  sorry
