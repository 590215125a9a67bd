/-! ===== Layer 2: fractions in lowest terms ===== -/
theorem tk_em (d r : Nat) : (d : Int) % (r : Int) = ((d % r : Nat) : Int) := rfl
theorem tk_hlf {d r : Nat} (h0 : 0 < r) (h1 : r < d) : r * (d % r) * 2 ≤ d * r := by
  have h2 := Nat.mod_lt d h0
  have h3 := Nat.mod_add_div d r
  have h4 : 1 ≤ d / r := (Nat.one_le_div_iff h0).mpr (by omega)
  have h5 : r * 1 ≤ r * (d / r) := Nat.mul_le_mul_left r h4
  have h6 : d % r * 2 ≤ d := by omega
  calc r * (d % r) * 2 = r * (d % r * 2) := by rw [Nat.mul_assoc]
    _ ≤ r * d := Nat.mul_le_mul_left r h6
    _ = d * r := Nat.mul_comm _ _
theorem x_fraction {a b p : Int} {μ : tk_M} {Q : Int → tk_M → Prop} (ha : -9223372036854775807 ≤ a ∧ a ≤ 9223372036854775807) (hb : b ≤ 9223372036854775807) (h0 : b ≤ 0 → Q (-9223372036854775808) μ) (h1 : 0 < b → Q (tk_ldiv (if p = 0 then a else b) ((Nat.gcd a.natAbs b.toNat : Nat) : Int)) μ) : tkF_X6_fraction [a, b, p] Q μ := by
  by_cases hb0 : b ≤ 0
  · simp [tk_fn, tk_env, tk_sq, tk_sk, tk_if, tk_re, tk_rez, tk_rev, tk_xp, tk_se, tk_pf, tk_pfz, tk_pfo, tk_as, tk_asz, tk_asb, tk_aso, tk_cpy, tk_sw, tk_swc, tk_lit, tk_loc, tk_u1, tk_bin, tk_dv, tk_gf, tk_gr, tk_gn, tk_ald, tk_aldq, tk_aln, tk_unl, tk_una, tk_ter, tk_args, tk_cs, tk_cv, tk_ceq, tk_cne, tk_clt, tk_cge, tk_cgt, tk_cle, tk_zeq, tk_zne, tk_zlt, tk_zge, tk_zgt, tk_zle, tk_and, tk_or, tk_not, tk_ct2, tk_isC, List.headD_cons, tk_up, tk_sca, tk_scl, tkF_X6_fraction, tkS_X6_fraction, hb0]
    exact h0 hb0
  · have h1 := h1 (by omega)
    obtain ⟨bn, rfl⟩ := tk_nnt (show 0 ≤ b by omega)
    have hbn : 0 < bn := by omega
    have hb1 : ¬ bn = 0 := by omega
    rw [Int.toNat_natCast] at h1
    have hab : tk_ab a = (a.natAbs : Int) := by
      rw [tk_ab_id ha.1 ha.2]
      split <;> omega
    have hl : tk_lrem (a.natAbs : Int) (bn : Int) = ((a.natAbs % bn : Nat) : Int) := by
      rw [tk_lrem_id (by omega) (by omega), tk_em]
    simp [tk_fn, tk_env, tk_sq, tk_sk, tk_if, tk_re, tk_rez, tk_rev, tk_xp, tk_se, tk_pf, tk_pfz, tk_pfo, tk_as, tk_asz, tk_asb, tk_aso, tk_cpy, tk_sw, tk_swc, tk_lit, tk_loc, tk_u1, tk_bin, tk_dv, tk_gf, tk_gr, tk_gn, tk_ald, tk_aldq, tk_aln, tk_unl, tk_una, tk_ter, tk_args, tk_cs, tk_cv, tk_ceq, tk_cne, tk_clt, tk_cge, tk_cgt, tk_cle, tk_zeq, tk_zne, tk_zlt, tk_zge, tk_zgt, tk_zle, tk_and, tk_or, tk_not, tk_ct2, tk_isC, List.headD_cons, tk_up, tk_sca, tk_scl, tkF_X6_fraction, tkS_X6_fraction, hb0, hb1, hab, hl]
    have hlt := Nat.mod_lt a.natAbs hbn
    have hg : Nat.gcd bn (a.natAbs % bn) = Nat.gcd a.natAbs bn := by
      rw [Nat.gcd_comm bn, ← Nat.gcd_rec, Nat.gcd_comm]
    -- behind the loop
    have fin : ∀ (ρ : tk_L) (d : Nat), ρ 0 = a → ρ 2 = bn → ρ 4 = p → ρ 5 = d → 0 < d → d = Nat.gcd a.natAbs bn → (if p = 0 then tkF_X6_cutBy [a, (d : Int)] Q μ else tkF_X6_cutBy [(bn : Int), (d : Int)] Q μ) := by
      intro ρ d q0 q2 q4 q5 hd hdg
      by_cases hp : p = 0
      · rw [if_pos hp] at h1 ⊢
        rw [x_cutBy, if_pos (show 0 < (d : Int) by omega), hdg]
        exact h1
      · rw [if_neg hp] at h1 ⊢
        rw [x_cutBy, if_pos (show 0 < (d : Int) by omega), hdg]
        exact h1
    refine tk_for 200 (fun k ρ μ' => μ' = μ ∧ ρ 0 = a ∧ ρ 2 = bn ∧ ρ 4 = p ∧ ρ 9 = k ∧ ∃ d r : Nat, ρ 5 = d ∧ ρ 7 = r ∧ 0 < d ∧ r < d ∧ Nat.gcd d r = Nat.gcd a.natAbs bn ∧ d ≤ bn ∧ d * r * 2 ^ k.toNat ≤ bn * bn) (by omega) ?_ ?_ ?_
    · refine ⟨rfl, rfl, rfl, rfl, rfl, bn, a.natAbs % bn, rfl, by simp [tk_up], hbn, hlt, hg, Nat.le_refl _, ?_⟩
      show bn * (a.natAbs % bn) * 2 ^ 0 ≤ bn * bn
      rw [Nat.pow_zero, Nat.mul_one]
      exact Nat.mul_le_mul_left bn (Nat.le_of_lt hlt)
    · rintro k ρ μ' hk0 hk6 ⟨rfl, r0, r2, r4, r9, d, r, r5, r7, hd, hr, hgc, hdb, hpr⟩ K hK
      have k1 : tk_iadd k 1 = k + 1 := tk_iadd_id (by omega) (by omega)
      by_cases hr0 : r = 0
      · subst hr0
        have hdg : d = Nat.gcd a.natAbs bn := by rw [← hgc]; simp
        simp [tk_fn, tk_env, tk_sq, tk_sk, tk_if, tk_re, tk_rez, tk_rev, tk_xp, tk_se, tk_pf, tk_pfz, tk_pfo, tk_as, tk_asz, tk_asb, tk_aso, tk_cpy, tk_sw, tk_swc, tk_lit, tk_loc, tk_u1, tk_bin, tk_dv, tk_gf, tk_gr, tk_gn, tk_ald, tk_aldq, tk_aln, tk_unl, tk_una, tk_ter, tk_args, tk_cs, tk_cv, tk_ceq, tk_cne, tk_clt, tk_cge, tk_cgt, tk_cle, tk_zeq, tk_zne, tk_zlt, tk_zge, tk_zgt, tk_zle, tk_and, tk_or, tk_not, tk_ct2, tk_isC, List.headD_cons, tk_up, tk_sca, tk_scl, r0, r2, r4, r5, r7, r9, hk6]
        exact fin ρ d r0 r2 r4 r5 hd hdg
      · have hrp : 0 < r := by omega
        have hrl : tk_lrem (d : Int) (r : Int) = ((d % r : Nat) : Int) := by
          rw [tk_lrem_id (by omega) (by omega), tk_em]
        simp [tk_fn, tk_env, tk_sq, tk_sk, tk_if, tk_re, tk_rez, tk_rev, tk_xp, tk_se, tk_pf, tk_pfz, tk_pfo, tk_as, tk_asz, tk_asb, tk_aso, tk_cpy, tk_sw, tk_swc, tk_lit, tk_loc, tk_u1, tk_bin, tk_dv, tk_gf, tk_gr, tk_gn, tk_ald, tk_aldq, tk_aln, tk_unl, tk_una, tk_ter, tk_args, tk_cs, tk_cv, tk_ceq, tk_cne, tk_clt, tk_cge, tk_cgt, tk_cle, tk_zeq, tk_zne, tk_zlt, tk_zge, tk_zgt, tk_zle, tk_and, tk_or, tk_not, tk_ct2, tk_isC, List.headD_cons, tk_up, tk_sca, tk_scl, r0, r2, r4, r5, r7, r9, hk6, hrp, hr0, hrl, k1]
        refine hK _ _ ⟨rfl, r0, r2, r4, rfl, r, d % r, by simp [tk_up], by simp [tk_up], hrp, Nat.mod_lt d hrp, ?_, by omega, ?_⟩
        · rw [← hgc, Nat.gcd_comm r, ← Nat.gcd_rec, Nat.gcd_comm]
        · have e : (k + 1).toNat = k.toNat + 1 := by omega
          rw [e, Nat.pow_succ]
          have h5 := tk_hlf hrp hr
          calc r * (d % r) * (2 ^ k.toNat * 2) = r * (d % r) * 2 * 2 ^ k.toNat := by rw [Nat.mul_comm (2 ^ k.toNat) 2, ← Nat.mul_assoc]
            _ ≤ d * r * 2 ^ k.toNat := Nat.mul_le_mul_right _ h5
            _ ≤ bn * bn := hpr
    · rintro ρ μ' ⟨rfl, r0, r2, r4, r9, d, r, r5, r7, hd, hr, hgc, hdb, hpr⟩ X
      have hr0 : r = 0 := by
        refine Classical.byContradiction (fun z => ?_)
        have h6 : 1 ≤ d * r := Nat.mul_pos hd (by omega)
        have h7 : 1 * 2 ^ 200 ≤ d * r * 2 ^ 200 := Nat.mul_le_mul_right _ h6
        have h8 : bn ≤ 2 ^ 63 := by omega
        have h9 : bn * bn ≤ 2 ^ 63 * 2 ^ 63 := Nat.mul_le_mul h8 h8
        have h10 : d * r * 2 ^ 200 ≤ bn * bn := hpr
        have h11 : (1 : Nat) * 2 ^ 200 ≤ 2 ^ 63 * 2 ^ 63 := Nat.le_trans h7 (Nat.le_trans h10 h9)
        exact absurd h11 (by decide)
      subst hr0
      have hdg : d = Nat.gcd a.natAbs bn := by rw [← hgc]; simp
      simp [tk_fn, tk_env, tk_sq, tk_sk, tk_if, tk_re, tk_rez, tk_rev, tk_xp, tk_se, tk_pf, tk_pfz, tk_pfo, tk_as, tk_asz, tk_asb, tk_aso, tk_cpy, tk_sw, tk_swc, tk_lit, tk_loc, tk_u1, tk_bin, tk_dv, tk_gf, tk_gr, tk_gn, tk_ald, tk_aldq, tk_aln, tk_unl, tk_una, tk_ter, tk_args, tk_cs, tk_cv, tk_ceq, tk_cne, tk_clt, tk_cge, tk_cgt, tk_cle, tk_zeq, tk_zne, tk_zlt, tk_zge, tk_zgt, tk_zle, tk_and, tk_or, tk_not, tk_ct2, tk_isC, List.headD_cons, tk_up, tk_sca, tk_scl, r0, r2, r4, r5, r7, r9]
      exact fin ρ d r0 r2 r4 r5 hd hdg
theorem m_divisor {a b : Int} {μ : tk_M} {Q : Int → tk_M → Prop} (ha : -9223372036854775807 ≤ a ∧ a ≤ 9223372036854775807) (hb : 0 < b ∧ b ≤ 9223372036854775807) (hQ : Q ((Nat.gcd a.natAbs b.toNat : Nat) : Int) μ) : tkF_X7_divisor [a, b] Q μ := by
  obtain ⟨bn, rfl⟩ := tk_nnt (show 0 ≤ b by omega)
  rw [Int.toNat_natCast] at hQ
  have key : ∀ (x : Int), x = (a.natAbs : Int) → ∀ ρ : tk_L, ρ 4 = x → ρ 6 = bn → tk_wh (tk_cne (tk_loc 6) (tk_lit 0)) (tk_sq (tk_se 8 (tk_dv tk_lrem (tk_loc 4) (tk_loc 6))) (tk_sq (tk_se 4 (tk_loc 6)) (tk_se 6 (tk_loc 8)))) (fun ρ1 μ1 => Q (ρ1 4) μ1) Q ρ μ := by
    intro x hx ρ q4 q6
    refine tk_loop (fun m ρ μ' => μ' = μ ∧ ∃ x y : Nat, m = y ∧ ρ 4 = x ∧ ρ 6 = y ∧ (x : Int) ≤ 9223372036854775807 ∧ (y : Int) ≤ 9223372036854775807 ∧ Nat.gcd x y = Nat.gcd a.natAbs bn) ?_ bn ⟨rfl, a.natAbs, bn, rfl, by rw [q4, hx], q6, by omega, hb.2, rfl⟩
    rintro m ρ μ' ⟨rfl, x, y, rfl, q4, q6, hx, hy, hg⟩ K hK
    by_cases hy0 : m = 0
    · subst hy0
      simp [tk_fn, tk_env, tk_sq, tk_sk, tk_if, tk_re, tk_rez, tk_rev, tk_xp, tk_se, tk_pf, tk_pfz, tk_pfo, tk_as, tk_asz, tk_asb, tk_aso, tk_cpy, tk_sw, tk_swc, tk_lit, tk_loc, tk_u1, tk_bin, tk_dv, tk_gf, tk_gr, tk_gn, tk_ald, tk_aldq, tk_aln, tk_unl, tk_una, tk_ter, tk_args, tk_cs, tk_cv, tk_ceq, tk_cne, tk_clt, tk_cge, tk_cgt, tk_cle, tk_zeq, tk_zne, tk_zlt, tk_zge, tk_zgt, tk_zle, tk_and, tk_or, tk_not, tk_ct2, tk_isC, List.headD_cons, tk_up, tk_sca, tk_scl, q4, q6]
      have : x = Nat.gcd a.natAbs bn := by rw [← hg]; simp
      rw [this]
      exact hQ
    · have hyp : 0 < m := by omega
      have hrl : tk_lrem (x : Int) (m : Int) = ((x % m : Nat) : Int) := by
        rw [tk_lrem_id (by omega) (by omega), tk_em]
      have hml := Nat.mod_lt x hyp
      simp [tk_fn, tk_env, tk_sq, tk_sk, tk_if, tk_re, tk_rez, tk_rev, tk_xp, tk_se, tk_pf, tk_pfz, tk_pfo, tk_as, tk_asz, tk_asb, tk_aso, tk_cpy, tk_sw, tk_swc, tk_lit, tk_loc, tk_u1, tk_bin, tk_dv, tk_gf, tk_gr, tk_gn, tk_ald, tk_aldq, tk_aln, tk_unl, tk_una, tk_ter, tk_args, tk_cs, tk_cv, tk_ceq, tk_cne, tk_clt, tk_cge, tk_cgt, tk_cle, tk_zeq, tk_zne, tk_zlt, tk_zge, tk_zgt, tk_zle, tk_and, tk_or, tk_not, tk_ct2, tk_isC, List.headD_cons, tk_up, tk_sca, tk_scl, q4, q6, hy0, hrl]
      refine hK (x % m) _ _ hml ⟨rfl, m, x % m, rfl, rfl, rfl, hy, by omega, ?_⟩
      rw [← hg, Nat.gcd_comm m, ← Nat.gcd_rec, Nat.gcd_comm]
  by_cases hn : a < 0
  · have l1 : tk_lneg a = (a.natAbs : Int) := by rw [tk_lneg_id (by omega) (by omega)]; omega
    simp [tk_fn, tk_env, tk_sq, tk_sk, tk_if, tk_re, tk_rez, tk_rev, tk_xp, tk_se, tk_pf, tk_pfz, tk_pfo, tk_as, tk_asz, tk_asb, tk_aso, tk_cpy, tk_sw, tk_swc, tk_lit, tk_loc, tk_u1, tk_bin, tk_dv, tk_gf, tk_gr, tk_gn, tk_ald, tk_aldq, tk_aln, tk_unl, tk_una, tk_ter, tk_args, tk_cs, tk_cv, tk_ceq, tk_cne, tk_clt, tk_cge, tk_cgt, tk_cle, tk_zeq, tk_zne, tk_zlt, tk_zge, tk_zgt, tk_zle, tk_and, tk_or, tk_not, tk_ct2, tk_isC, List.headD_cons, tk_up, tk_sca, tk_scl, tkF_X7_divisor, tkS_X7_divisor, hn, l1]
    exact key (a.natAbs : Int) rfl _ rfl rfl
  · have l1 : a = (a.natAbs : Int) := by omega
    simp [tk_fn, tk_env, tk_sq, tk_sk, tk_if, tk_re, tk_rez, tk_rev, tk_xp, tk_se, tk_pf, tk_pfz, tk_pfo, tk_as, tk_asz, tk_asb, tk_aso, tk_cpy, tk_sw, tk_swc, tk_lit, tk_loc, tk_u1, tk_bin, tk_dv, tk_gf, tk_gr, tk_gn, tk_ald, tk_aldq, tk_aln, tk_unl, tk_una, tk_ter, tk_args, tk_cs, tk_cv, tk_ceq, tk_cne, tk_clt, tk_cge, tk_cgt, tk_cle, tk_zeq, tk_zne, tk_zlt, tk_zge, tk_zgt, tk_zle, tk_and, tk_or, tk_not, tk_ct2, tk_isC, List.headD_cons, tk_up, tk_sca, tk_scl, tkF_X7_divisor, tkS_X7_divisor, hn]
    exact key a l1 _ rfl rfl
theorem m_partOf {a b p : Int} {μ : tk_M} {Q : Int → tk_M → Prop} (ha : -9223372036854775807 ≤ a ∧ a ≤ 9223372036854775807) (hb : 0 < b ∧ b ≤ 9223372036854775807) (hQ : Q (tk_ldiv (if p = 0 then a else b) ((Nat.gcd a.natAbs b.toNat : Nat) : Int)) μ) : tkF_X7_partOf [a, b, p] Q μ := by
  have hg : ¬ ((Nat.gcd a.natAbs b.toNat : Nat) : Int) = 0 := by
    have : 0 < Nat.gcd a.natAbs b.toNat := Nat.gcd_pos_of_pos_right _ (by omega)
    omega
  simp [tk_fn, tk_env, tk_sq, tk_sk, tk_if, tk_re, tk_rez, tk_rev, tk_xp, tk_se, tk_pf, tk_pfz, tk_pfo, tk_as, tk_asz, tk_asb, tk_aso, tk_cpy, tk_sw, tk_swc, tk_lit, tk_loc, tk_u1, tk_bin, tk_dv, tk_gf, tk_gr, tk_gn, tk_ald, tk_aldq, tk_aln, tk_unl, tk_una, tk_ter, tk_args, tk_cs, tk_cv, tk_ceq, tk_cne, tk_clt, tk_cge, tk_cgt, tk_cle, tk_zeq, tk_zne, tk_zlt, tk_zge, tk_zgt, tk_zle, tk_and, tk_or, tk_not, tk_ct2, tk_isC, List.headD_cons, tk_up, tk_sca, tk_scl, tkF_X7_partOf, tkS_X7_partOf]
  refine m_divisor ha hb ?_
  generalize ((Nat.gcd a.natAbs b.toNat : Nat) : Int) = g at hg hQ ⊢
  by_cases hp : p = 0
  · rw [if_pos hp] at hQ
    simp [hp, hg]
    exact hQ
  · rw [if_neg hp] at hQ
    simp [hp, hg]
    exact hQ
