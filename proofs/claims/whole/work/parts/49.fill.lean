/-! ===== Layer 2: a long row filled ===== -/
def tk_fl (μ : tk_M) (a n v : Int) : tk_M := fun o i => if o = a ∧ 0 ≤ i ∧ i < n then v else μ o i
theorem tk_fl_0 {μ : tk_M} {a v : Int} : tk_fl μ a 0 v = μ := by
  funext o i
  unfold tk_fl
  rw [if_neg (by omega)]
theorem tk_fl_s {μ : tk_M} {a v n : Int} (h : 0 ≤ n) : tk_set (tk_fl μ a n v) a n v = tk_fl μ a (n + 1) v := by
  funext o i
  unfold tk_fl tk_set
  by_cases h1 : o = a ∧ i = n
  · rw [if_pos h1, if_pos (by omega)]
  · rw [if_neg h1]
    dsimp only
    by_cases h2 : o = a ∧ 0 ≤ i ∧ i < n
    · rw [if_pos h2, if_pos (by omega)]
    · rw [if_neg h2, if_neg (by omega)]
theorem j_fill {a v : Int} {Q : Int → tk_M → Prop} {μ : tk_M} {n : Int} (hal : tk_al 1 a = n) (hn : 0 < n ∧ n ≤ 1000) (hQ : Q 0 (tk_fl μ a n v)) : tkF_J7_fill [a, v] Q μ := by
  simp [tk_fn, tk_env, tk_sq, tk_sk, tk_if, tk_re, tk_rez, tk_rev, tk_xp, tk_se, tk_pf, tk_pfz, tk_pfo, tk_as, tk_asz, tk_asb, tk_aso, tk_cpy, tk_sw, tk_swc, tk_lit, tk_loc, tk_u1, tk_bin, tk_dv, tk_gf, tk_gr, tk_gn, tk_ald, tk_aldq, tk_aln, tk_unl, tk_una, tk_ter, tk_args, tk_cs, tk_cv, tk_ceq, tk_cne, tk_clt, tk_cge, tk_cgt, tk_cle, tk_zeq, tk_zne, tk_zlt, tk_zge, tk_zgt, tk_zle, tk_and, tk_or, tk_not, tk_ct2, tk_isC, List.headD_cons, tk_up, tk_sca, tk_scl, tkF_J7_fill, tkS_J7_fill, hal, hn.1]
  refine tk_loop (fun k ρ μ' => ∃ i : Int, (k : Int) = n - i ∧ 0 ≤ i ∧ i ≤ n ∧ ρ 0 = a ∧ ρ 1 = v ∧ ρ 3 = i ∧ ρ 4 = n ∧ μ' = tk_fl μ a i v) ?_ n.toNat ?_
  rotate_left
  · exact ⟨0, by omega, by omega, by omega, rfl, rfl, rfl, rfl, tk_fl_0.symm⟩
  rintro k ρ μ' ⟨i, h1, h2, h3, r0, r1, r3, r4, rfl⟩ K hK
  by_cases hi : i < n
  · have i1 : tk_iadd i 1 = i + 1 := tk_iadd_id (by omega) (by omega)
    simp [tk_fn, tk_env, tk_sq, tk_sk, tk_if, tk_re, tk_rez, tk_rev, tk_xp, tk_se, tk_pf, tk_pfz, tk_pfo, tk_as, tk_asz, tk_asb, tk_aso, tk_cpy, tk_sw, tk_swc, tk_lit, tk_loc, tk_u1, tk_bin, tk_dv, tk_gf, tk_gr, tk_gn, tk_ald, tk_aldq, tk_aln, tk_unl, tk_una, tk_ter, tk_args, tk_cs, tk_cv, tk_ceq, tk_cne, tk_clt, tk_cge, tk_cgt, tk_cle, tk_zeq, tk_zne, tk_zlt, tk_zge, tk_zgt, tk_zle, tk_and, tk_or, tk_not, tk_ct2, tk_isC, List.headD_cons, tk_up, tk_sca, tk_scl, r0, r1, r3, r4, hi, hal, h2, i1]
    refine hK (k - 1) _ _ (by omega) ?_
    exact ⟨i + 1, by omega, by omega, by omega, r0, r1, rfl, r4, tk_fl_s h2⟩
  · have : i = n := by omega
    subst this
    simp [tk_fn, tk_env, tk_sq, tk_sk, tk_if, tk_re, tk_rez, tk_rev, tk_xp, tk_se, tk_pf, tk_pfz, tk_pfo, tk_as, tk_asz, tk_asb, tk_aso, tk_cpy, tk_sw, tk_swc, tk_lit, tk_loc, tk_u1, tk_bin, tk_dv, tk_gf, tk_gr, tk_gn, tk_ald, tk_aldq, tk_aln, tk_unl, tk_una, tk_ter, tk_args, tk_cs, tk_cv, tk_ceq, tk_cne, tk_clt, tk_cge, tk_cgt, tk_cle, tk_zeq, tk_zne, tk_zlt, tk_zge, tk_zgt, tk_zle, tk_and, tk_or, tk_not, tk_ct2, tk_isC, List.headD_cons, tk_up, tk_sca, tk_scl, r3, r4]
    exact hQ
