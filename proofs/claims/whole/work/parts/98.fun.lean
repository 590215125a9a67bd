/-! ===== Layer 2: all FUNDS, read by the Model ===== -/
theorem m_readFunds {T : Int → Int} {n : Int} {c : tk_M} {Q : Int → tk_M → Prop} (hc : tk_tx T n c) (hQ1 : ∀ m', tk_fP c m' → tk_acc T n.toNat → tk_az T n.toNat 0 = 6 → m' 96 45 = tk_cn T n.toNat → (∀ j : Nat, j ≤ n.toNat → tk_az T j 0 = 6 → tk_dat T j m') → Q 1 m') (hQ0 : ∀ (p : Nat) m', tk_fP c m' → tk_flt T n p → m' 96 40 = p → Q 0 m') : tkF_X7_readFunds [96] Q c := by
  have hn := hc.1
  simp [tk_fn, tk_env, tk_sq, tk_sk, tk_if, tk_re, tk_rez, tk_rev, tk_xp, tk_se, tk_pf, tk_pfz, tk_pfo, tk_as, tk_asz, tk_asb, tk_aso, tk_cpy, tk_sw, tk_swc, tk_lit, tk_loc, tk_u1, tk_bin, tk_dv, tk_gf, tk_gr, tk_gn, tk_ald, tk_aldq, tk_aln, tk_unl, tk_una, tk_ter, tk_args, tk_cs, tk_cv, tk_ceq, tk_cne, tk_clt, tk_cge, tk_cgt, tk_cle, tk_zeq, tk_zne, tk_zlt, tk_zge, tk_zgt, tk_zle, tk_and, tk_or, tk_not, tk_ct2, tk_isC, List.headD_cons, tk_up, tk_sca, tk_scl, tkF_X7_readFunds, tkS_X7_readFunds]
  have hst : tk_pg T n c 0 (tk_cn T 0) (tk_set (tk_set (tk_set c 96 40 0) 96 41 0) 96 45 0) := by
    refine ⟨by simp [tk_set], by simp [tk_set], by omega, fun j hj => by omega, by simp [tk_set, tk_cn], fun o i ho => ?_, ⟨by simp [tk_cn], Int.le_refl _⟩, fun j h1 h2 => ?_⟩
    · simp only [tk_set_if]
      rw [if_neg (by omega), if_neg (by omega), if_neg (by omega)]
    · have : j = 0 := by omega
      subst this
      simp [tk_az] at h2
  refine m_readClause hc hst (by simp [tk_az]) (fun m1 hm1 => ?_)
  have a1 : tk_az T 0 1 = 1 := by simp [tk_az]
  rw [a1] at hm1
  -- behind all clauses
  have fin : ∀ (ρ : tk_L) m, ρ 0 = 96 → ((∃ q, tk_pg T n c q (tk_cn T q) m ∧ tk_az T q 0 = 6 ∧ ¬ ((q : Int) < n ∧ T q = 43) ∧ ¬ ((q : Int) < n ∧ T q = 59 ∧ tk_az T q 1 < 8)) ∨ tk_pb T n c 26 m) → (tk_sq (tk_pfz 7 41 (tk_loc 0) (tk_ter (tk_or (tk_zne (tk_gf 7 41 (tk_loc 0))) (tk_clt (tk_gf 7 40 (tk_loc 0)) (tk_gf 7 39 (tk_loc 0)))) (tk_lit 1) (tk_lit 0))) (tk_rez (tk_ter (tk_not (tk_zne (tk_gf 7 41 (tk_loc 0)))) (tk_lit 1) (tk_lit 0)))) (fun _ _ => False) Q ρ m := by
    intro ρ m r0 hm
    rcases hm with ⟨q, hg, h6, h43, h59⟩ | ⟨⟨p, h1, h2, h3⟩, -, h5⟩
    · obtain ⟨g1, g2, g3, g4, g5, g6, g7, g8⟩ := hg
      have e39 : m 96 39 = n := by rw [g6 _ _ (by omega), hc.2.1]
      have hfP : ∀ v, tk_fP c (tk_set m 96 41 v) := fun v o i ho => by
        unfold tk_set
        rw [if_neg (by omega)]
        exact g6 o i ho
      by_cases hqn : (q : Int) < n
      · simp [tk_fn, tk_env, tk_sq, tk_sk, tk_if, tk_re, tk_rez, tk_rev, tk_xp, tk_se, tk_pf, tk_pfz, tk_pfo, tk_as, tk_asz, tk_asb, tk_aso, tk_cpy, tk_sw, tk_swc, tk_lit, tk_loc, tk_u1, tk_bin, tk_dv, tk_gf, tk_gr, tk_gn, tk_ald, tk_aldq, tk_aln, tk_unl, tk_una, tk_ter, tk_args, tk_cs, tk_cv, tk_ceq, tk_cne, tk_clt, tk_cge, tk_cgt, tk_cle, tk_zeq, tk_zne, tk_zlt, tk_zge, tk_zgt, tk_zle, tk_and, tk_or, tk_not, tk_ct2, tk_isC, List.headD_cons, tk_up, tk_sca, tk_scl, r0, g1, g2, e39, hqn, tk_set_eq]
        refine hQ0 q _ (hfP 1) ⟨g3, g4, .inl ⟨hqn, fun z => ?_⟩⟩ (by simp [tk_set, g2])
        unfold tk_aok at z
        have z1 := fun y => h43 ⟨hqn, y⟩
        have z2 := fun y y' => h59 ⟨hqn, y, y'⟩
        rcases z with z | z | z | z | z | z | ⟨z, z' | z'⟩
        · omega
        · omega
        · omega
        · omega
        · omega
        · omega
        · exact z1 z'
        · exact z2 z'.1 z'.2
      · have hqn2 : n.toNat = q := by omega
        simp [tk_fn, tk_env, tk_sq, tk_sk, tk_if, tk_re, tk_rez, tk_rev, tk_xp, tk_se, tk_pf, tk_pfz, tk_pfo, tk_as, tk_asz, tk_asb, tk_aso, tk_cpy, tk_sw, tk_swc, tk_lit, tk_loc, tk_u1, tk_bin, tk_dv, tk_gf, tk_gr, tk_gn, tk_ald, tk_aldq, tk_aln, tk_unl, tk_una, tk_ter, tk_args, tk_cs, tk_cv, tk_ceq, tk_cne, tk_clt, tk_cge, tk_cgt, tk_cle, tk_zeq, tk_zne, tk_zlt, tk_zge, tk_zgt, tk_zle, tk_and, tk_or, tk_not, tk_ct2, tk_isC, List.headD_cons, tk_up, tk_sca, tk_scl, r0, g1, g2, e39, hqn, tk_set_eq]
        refine hQ1 _ (hfP 0) (by rw [hqn2]; exact g4) (by rw [hqn2]; exact h6) (by rw [hqn2]; simp [tk_set, g5]) (fun j hj hj6 => ?_)
        have hd := g8 j (by omega) hj6 (tk_cn_le (by omega))
        unfold tk_dat at *
        rw [tk_set_o (by omega), tk_set_o (by omega), tk_set_o (by omega)]
        exact hd
    · simp [tk_fn, tk_env, tk_sq, tk_sk, tk_if, tk_re, tk_rez, tk_rev, tk_xp, tk_se, tk_pf, tk_pfz, tk_pfo, tk_as, tk_asz, tk_asb, tk_aso, tk_cpy, tk_sw, tk_swc, tk_lit, tk_loc, tk_u1, tk_bin, tk_dv, tk_gf, tk_gr, tk_gn, tk_ald, tk_aldq, tk_aln, tk_unl, tk_una, tk_ter, tk_args, tk_cs, tk_cv, tk_ceq, tk_cne, tk_clt, tk_cge, tk_cgt, tk_cle, tk_zeq, tk_zne, tk_zlt, tk_zge, tk_zgt, tk_zle, tk_and, tk_or, tk_not, tk_ct2, tk_isC, List.headD_cons, tk_up, tk_sca, tk_scl, r0, h1, tk_set_eq]
      refine hQ0 p _ (fun o i ho => ?_) h3 (by simp [tk_set, h2])
      unfold tk_set
      rw [if_neg (by omega)]
      exact h5 o i ho
  refine tk_for 7 (fun i ρ m => ρ 0 = 96 ∧ ρ 1 = i + 1 ∧ ((∃ q, tk_pg T n c q (tk_cn T q) m ∧ tk_az T q 0 = 6 ∧ tk_az T q 1 = i + 1 ∧ ¬ ((q : Int) < n ∧ T q = 43)) ∨ tk_pb T n c 26 m)) (by omega) ⟨rfl, rfl, ?_⟩ ?_ ?_
  · rcases hm1 with ⟨q, h1, h2, h3, h4, -⟩ | h
    · exact .inl ⟨q, h1, h2, by rw [h3]; rfl, h4⟩
    · exact .inr h
  · rintro i ρ m hi0 hi6 ⟨r0, r1, hm⟩ K hK
    have i1 : tk_iadd (i + 1) 1 = i + 1 + 1 := tk_iadd_id (by omega) (by omega)
    have h8 : i + 1 < 8 := by omega
    rcases hm with ⟨q, hg, h6, hcl, h43⟩ | hbad
    · have e41 : m 96 41 = 0 := hg.1
      have e40 : m 96 40 = q := hg.2.1
      obtain ⟨hf, h040, -⟩ := tk_sd_f (tk_pg_sd hg)
      simp [tk_fn, tk_env, tk_sq, tk_sk, tk_if, tk_re, tk_rez, tk_rev, tk_xp, tk_se, tk_pf, tk_pfz, tk_pfo, tk_as, tk_asz, tk_asb, tk_aso, tk_cpy, tk_sw, tk_swc, tk_lit, tk_loc, tk_u1, tk_bin, tk_dv, tk_gf, tk_gr, tk_gn, tk_ald, tk_aldq, tk_aln, tk_unl, tk_una, tk_ter, tk_args, tk_cs, tk_cv, tk_ceq, tk_cne, tk_clt, tk_cge, tk_cgt, tk_cle, tk_zeq, tk_zne, tk_zlt, tk_zge, tk_zgt, tk_zle, tk_and, tk_or, tk_not, tk_ct2, tk_isC, List.headD_cons, tk_up, tk_sca, tk_scl, r0, r1, e41, h8]
      rw [m_here hc hf h040, e40]
      by_cases h59 : tk_hr T n q = 59
      · have hqn : (q : Int) < n ∧ T q = 59 := by
          unfold tk_hr at h59
          by_cases hqn : (q : Int) < n
          · rw [if_pos hqn] at h59; exact ⟨hqn, h59⟩
          · rw [if_neg hqn] at h59; omega
        have e : tk_az T (q + 1) = tk_ap (T q) (tk_az T q) := rfl
        have z0 : tk_az T (q + 1) 0 = 0 := by rw [e]; simp [tk_ap, h6, hqn.2]
        have z1 : tk_az T (q + 1) 1 = i + 1 + 1 := by rw [e]; simp [tk_ap, h6, hqn.2, hcl]
        have zk : tk_cn T (q + 1) = tk_cn T q := tk_cn_n (by omega)
        simp [h59]
        have hgo : ∀ (R : Int → tk_M → Prop), (∀ m2, ((tk_pg T n c (q + 1) (tk_cn T q) m2) → R 0 m2)) → tkF_X7_mustBe [96, 1] R m := fun R hR => by
          obtain ⟨g1, g2, g3, g4, g5, g6, g7, g8⟩ := hg
          have l1 : tk_iadd (q : Int) 1 = (q : Int) + 1 := tk_iadd_id (by omega) (by omega)
          simp [tk_fn, tk_env, tk_sq, tk_sk, tk_if, tk_re, tk_rez, tk_rev, tk_xp, tk_se, tk_pf, tk_pfz, tk_pfo, tk_as, tk_asz, tk_asb, tk_aso, tk_cpy, tk_sw, tk_swc, tk_lit, tk_loc, tk_u1, tk_bin, tk_dv, tk_gf, tk_gr, tk_gn, tk_ald, tk_aldq, tk_aln, tk_unl, tk_una, tk_ter, tk_args, tk_cs, tk_cv, tk_ceq, tk_cne, tk_clt, tk_cge, tk_cgt, tk_cle, tk_zeq, tk_zne, tk_zlt, tk_zge, tk_zgt, tk_zle, tk_and, tk_or, tk_not, tk_ct2, tk_isC, List.headD_cons, tk_up, tk_sca, tk_scl, tkF_X7_mustBe, tkS_X7_mustBe, g1, g2, tk_set_j, tk_set_eq, l1]
          refine hR _ ⟨by simp [tk_set], by simp [tk_set], by omega, tk_acc_s g4 (.inr (.inr (.inr (.inr (.inr (.inr ⟨h6, .inr ⟨hqn.2, by omega⟩⟩)))))), by simp [tk_set, g5], fun o i ho => ?_, ⟨g7.1, by omega⟩, fun j h4 h5 h7 => ?_⟩
          · unfold tk_set
            rw [if_neg (by omega), if_neg (by omega)]
            exact g6 o i ho
          · by_cases hj : j = q + 1
            · subst hj
              omega
            · have h9 := g8 j (by omega) h5 h7
              unfold tk_dat at *
              rw [tk_set_o (by omega), tk_set_o (by omega), tk_set_o (by omega), tk_set_o (by omega), tk_set_o (by omega), tk_set_o (by omega)]
              exact h9
        refine hgo _ (fun m2 hg2 => ?_)
        rw [← zk] at hg2
        refine m_readClause hc hg2 z0 (fun m3 hm3 => ?_)
        refine hK _ _ ⟨r0, by simp [tk_up, r1, i1], ?_⟩
        rcases hm3 with ⟨r, k1, k2, k3, k4, -⟩ | h
        · exact .inl ⟨r, k1, k2, by rw [k3, z1], k4⟩
        · exact .inr h
      · simp [h59]
        have := fin ρ m r0 (.inl ⟨q, hg, h6, h43, fun z => h59 (by unfold tk_hr; rw [if_pos z.1]; exact z.2.1)⟩)
        simp [tk_fn, tk_env, tk_sq, tk_sk, tk_if, tk_re, tk_rez, tk_rev, tk_xp, tk_se, tk_pf, tk_pfz, tk_pfo, tk_as, tk_asz, tk_asb, tk_aso, tk_cpy, tk_sw, tk_swc, tk_lit, tk_loc, tk_u1, tk_bin, tk_dv, tk_gf, tk_gr, tk_gn, tk_ald, tk_aldq, tk_aln, tk_unl, tk_una, tk_ter, tk_args, tk_cs, tk_cv, tk_ceq, tk_cne, tk_clt, tk_cge, tk_cgt, tk_cle, tk_zeq, tk_zne, tk_zlt, tk_zge, tk_zgt, tk_zle, tk_and, tk_or, tk_not, tk_ct2, tk_isC, List.headD_cons, tk_up, tk_sca, tk_scl, r0] at this
        rw [e40] at this
        exact this
    · have e41 : m 96 41 = 1 := by obtain ⟨⟨q, h1, -⟩, -⟩ := hbad; exact h1
      simp [tk_fn, tk_env, tk_sq, tk_sk, tk_if, tk_re, tk_rez, tk_rev, tk_xp, tk_se, tk_pf, tk_pfz, tk_pfo, tk_as, tk_asz, tk_asb, tk_aso, tk_cpy, tk_sw, tk_swc, tk_lit, tk_loc, tk_u1, tk_bin, tk_dv, tk_gf, tk_gr, tk_gn, tk_ald, tk_aldq, tk_aln, tk_unl, tk_una, tk_ter, tk_args, tk_cs, tk_cv, tk_ceq, tk_cne, tk_clt, tk_cge, tk_cgt, tk_cle, tk_zeq, tk_zne, tk_zlt, tk_zge, tk_zgt, tk_zle, tk_and, tk_or, tk_not, tk_ct2, tk_isC, List.headD_cons, tk_up, tk_sca, tk_scl, r0, r1, e41, h8]
      have := fin ρ m r0 (.inr hbad)
      simp [tk_fn, tk_env, tk_sq, tk_sk, tk_if, tk_re, tk_rez, tk_rev, tk_xp, tk_se, tk_pf, tk_pfz, tk_pfo, tk_as, tk_asz, tk_asb, tk_aso, tk_cpy, tk_sw, tk_swc, tk_lit, tk_loc, tk_u1, tk_bin, tk_dv, tk_gf, tk_gr, tk_gn, tk_ald, tk_aldq, tk_aln, tk_unl, tk_una, tk_ter, tk_args, tk_cs, tk_cv, tk_ceq, tk_cne, tk_clt, tk_cge, tk_cgt, tk_cle, tk_zeq, tk_zne, tk_zlt, tk_zge, tk_zgt, tk_zle, tk_and, tk_or, tk_not, tk_ct2, tk_isC, List.headD_cons, tk_up, tk_sca, tk_scl, r0, e41] at this
      exact this
  · rintro ρ m ⟨r0, r1, hm⟩ X
    have r8 : ρ 1 = 8 := by rw [r1]; omega
    have hm' : (∃ q, tk_pg T n c q (tk_cn T q) m ∧ tk_az T q 0 = 6 ∧ ¬ ((q : Int) < n ∧ T q = 43) ∧ ¬ ((q : Int) < n ∧ T q = 59 ∧ tk_az T q 1 < 8)) ∨ tk_pb T n c 26 m := by
      rcases hm with ⟨q, k1, k2, k3, k4⟩ | h
      · exact .inl ⟨q, k1, k2, k4, fun z => by omega⟩
      · exact .inr h
    have := fin ρ m r0 hm'
    simp [tk_fn, tk_env, tk_sq, tk_sk, tk_if, tk_re, tk_rez, tk_rev, tk_xp, tk_se, tk_pf, tk_pfz, tk_pfo, tk_as, tk_asz, tk_asb, tk_aso, tk_cpy, tk_sw, tk_swc, tk_lit, tk_loc, tk_u1, tk_bin, tk_dv, tk_gf, tk_gr, tk_gn, tk_ald, tk_aldq, tk_aln, tk_unl, tk_una, tk_ter, tk_args, tk_cs, tk_cv, tk_ceq, tk_cne, tk_clt, tk_cge, tk_cgt, tk_cle, tk_zeq, tk_zne, tk_zlt, tk_zge, tk_zgt, tk_zle, tk_and, tk_or, tk_not, tk_ct2, tk_isC, List.headD_cons, tk_up, tk_sca, tk_scl, r0] at this
    simp [tk_fn, tk_env, tk_sq, tk_sk, tk_if, tk_re, tk_rez, tk_rev, tk_xp, tk_se, tk_pf, tk_pfz, tk_pfo, tk_as, tk_asz, tk_asb, tk_aso, tk_cpy, tk_sw, tk_swc, tk_lit, tk_loc, tk_u1, tk_bin, tk_dv, tk_gf, tk_gr, tk_gn, tk_ald, tk_aldq, tk_aln, tk_unl, tk_una, tk_ter, tk_args, tk_cs, tk_cv, tk_ceq, tk_cne, tk_clt, tk_cge, tk_cgt, tk_cle, tk_zeq, tk_zne, tk_zlt, tk_zge, tk_zgt, tk_zle, tk_and, tk_or, tk_not, tk_ct2, tk_isC, List.headD_cons, tk_up, tk_sca, tk_scl, r0, r8]
    exact this
