/-! ===== Layer 2: a FUND, a clause, all FUNDS, read by the Model ===== -/
/-- reading a FUND that begins at p -/
def tk_kpq (T : Int → Int) (p q : Nat) (w : Int) : Prop := tk_az T q 1 = tk_az T p 1 ∧ tk_az T q 3 = tk_az T p 3 ∧ tk_az T q 4 = tk_az T p 4 ∧ p < q ∧ w = tk_az T p 4 + (if tk_az T p 3 = 1 then 0 else 10)
theorem m_rFloop {T : Int → Int} {n w v0 : Int} {p : Nat} {c m : tk_M} {ρ : tk_L} {Qn : tk_L → tk_M → Prop} {Qr : Int → tk_M → Prop} (hc : tk_tx T n c) (h : tk_sd T n c (tk_cn T p) (fun q => tk_az T q 0 = 4 ∧ tk_az T q 2 = 1 ∧ tk_az T q 5 = v0 ∧ tk_kpq T p q w ∧ tk_cn T q = tk_cn T p) m) (p0 : ρ 0 = 96) (p1 : ρ 1 = w) (p2 : ρ 2 = v0) (p3 : ρ 3 = 0) (hQ : ∀ (ρ' : tk_L) m', ρ' 0 = 96 → ρ' 1 = w → tk_sd T n c (tk_cn T p) (fun q => tk_az T q 0 = 4 ∧ (¬ tk_az T q 2 < 4 ∨ ¬ ((q : Int) < n ∧ 48 ≤ T q ∧ T q ≤ 57)) ∧ tk_az T q 5 = ρ' 2 ∧ tk_kpq T p q w ∧ tk_cn T q = tk_cn T p) m' → Qn ρ' m') : tk_wh (tk_and (tk_and (tk_clt (tk_loc 3) (tk_lit (3))) (tk_not (tk_zne (tk_gf 7 41 (tk_loc 0))))) (tk_zne (tk_cs tkF_X7_in [(tk_cv 7 tkF_X7_here [(tk_loc 0)]), (tk_lit (48)), (tk_lit (57))]))) (tk_sq (tk_se 2 (tk_bin tk_iadd (tk_bin tk_imul (tk_lit (10)) (tk_loc 2)) (tk_cv 7 tkF_X7_digitRead [(tk_loc 0)]))) (tk_se 3 (tk_bin tk_iadd (tk_loc 3) (tk_lit (1))))) Qn Qr ρ m := by
  refine tk_for 3 (fun i ρ m => ρ 0 = 96 ∧ ρ 1 = w ∧ ρ 3 = i ∧ tk_sd T n c (tk_cn T p) (fun q => tk_az T q 0 = 4 ∧ tk_az T q 2 = i + 1 ∧ tk_az T q 5 = ρ 2 ∧ tk_kpq T p q w ∧ tk_cn T q = tk_cn T p) m) (by omega) ⟨p0, p1, p3, ?_⟩ ?_ ?_
  · rw [p2]; exact h
  · rintro i ρ m hi0 hi6 ⟨r0, r1, r3, hsd⟩ K hK
    obtain ⟨hf, h0, hbb⟩ := tk_sd_f hsd
    have i1 : tk_iadd i 1 = i + 1 := tk_iadd_id (by omega) (by omega)
    rcases hsd with ⟨q, hg, hA⟩ | hbad
    · have e41 : m 96 41 = 0 := hg.1
      have e40 : m 96 40 = q := hg.2.1
      have hab := tk_ab_az q hg.2.2.2.1
      obtain ⟨a1, a2, a3, a4, a5⟩ := hA
      have hv : 0 ≤ ρ 2 ∧ ρ 2 ≤ 999 := by
        rw [← a3]
        obtain ⟨-, -, -, -, b2, b5, c1, c2, c3, -⟩ := hab
        omega
      simp [tk_fn, tk_env, tk_sq, tk_sk, tk_if, tk_re, tk_rez, tk_rev, tk_xp, tk_se, tk_pf, tk_pfz, tk_pfo, tk_as, tk_asz, tk_asb, tk_aso, tk_cpy, tk_sw, tk_swc, tk_lit, tk_loc, tk_u1, tk_bin, tk_dv, tk_gf, tk_gr, tk_gn, tk_ald, tk_aldq, tk_aln, tk_unl, tk_una, tk_ter, tk_args, tk_cs, tk_cv, tk_ceq, tk_cne, tk_clt, tk_cge, tk_cgt, tk_cle, tk_zeq, tk_zne, tk_zlt, tk_zge, tk_zgt, tk_zle, tk_and, tk_or, tk_not, tk_ct2, tk_isC, List.headD_cons, tk_up, tk_sca, tk_scl, r0, r3, hi6, e41]
      rw [m_here hc hf h0, e40]
      simp [m_in, tk_bo_0]
      by_cases hd : 48 ≤ tk_hr T n q ∧ tk_hr T n q ≤ 57
      · have hqn : (q : Int) < n ∧ (48 ≤ T q ∧ T q ≤ 57) := by
          unfold tk_hr at hd
          by_cases hqn : (q : Int) < n
          · rw [if_pos hqn] at hd; exact ⟨hqn, hd⟩
          · rw [if_neg hqn] at hd; omega
        have l1 : tk_imul 10 (ρ 2) = 10 * ρ 2 := tk_imul_id (by omega) (by omega)
        have l2 : ∀ v : Int, -49 ≤ v ∧ v ≤ 79 → tk_iadd (10 * ρ 2) v = 10 * ρ 2 + v := fun v hv2 => tk_iadd_id (by omega) (by omega)
        simp [hd.1, show ¬ 57 < tk_hr T n q from by omega, l1]
        refine m_digit (A := fun r => r = q) (A' := fun v r => r = q + 1 ∧ v = T q - 48) hc (.inl ⟨q, hg, rfl⟩) (fun r hacc hA => ?_) (fun r hacc hA hrn hrd => ?_) (fun v m' hv2 hm' => ?_)
        · subst hA
          refine ⟨⟨fun _ => hqn.2, fun _ => ?_⟩, by omega⟩
          exact .inr (.inr (.inr (.inr (.inl ⟨a1, .inr ⟨hqn.2, by omega⟩⟩))))
        · subst hA
          exact ⟨rfl, rfl⟩
        · rw [l2 v hv2]
          refine hK _ _ ⟨r0, r1, by simp [tk_up, r3, i1], ?_⟩
          rcases hm' with ⟨r, hg2, hr1, hr2⟩ | hbad
          · subst hr1
            refine .inl ⟨q + 1, hg2, ?_⟩
            have e : tk_az T (q + 1) = tk_ap (T q) (tk_az T q) := rfl
            have h9 : ¬ T q = 99 := by omega
            have z0 : tk_az T (q + 1) 0 = 4 := by rw [e]; simp [tk_ap, a1, h9]
            refine ⟨z0, ?_, ?_, ⟨?_, ?_, ?_, by have := a4.2.2.2.1; omega, a4.2.2.2.2⟩, ?_⟩
            · rw [e]; simp [tk_ap, a1, h9, a2]
            · rw [e]; simp [tk_ap, a1, h9, a3, tk_up, hr2]; omega
            · rw [e]; simp [tk_ap, a1, h9]; exact a4.1
            · rw [e]; simp [tk_ap, a1, h9]; exact a4.2.1
            · rw [e]; simp [tk_ap, a1, h9]; exact a4.2.2.1
            · rw [tk_cn_n (by rw [z0]; omega), a5]
          · exact .inr hbad
      · have hno : ¬ ((q : Int) < n ∧ 48 ≤ T q ∧ T q ≤ 57) := fun z => hd (by unfold tk_hr; rw [if_pos z.1]; exact z.2)
        have hq := hQ ρ m r0 r1 (.inl ⟨q, hg, a1, .inr hno, a3, a4, a5⟩)
        by_cases h48 : 48 ≤ tk_hr T n q
        · simp [h48, show 57 < tk_hr T n q from by omega]
          exact hq
        · simp [h48]
          exact hq
    · have e41 : m 96 41 = 1 := by obtain ⟨⟨q, h1, -⟩, -⟩ := hbad; exact h1
      simp [tk_fn, tk_env, tk_sq, tk_sk, tk_if, tk_re, tk_rez, tk_rev, tk_xp, tk_se, tk_pf, tk_pfz, tk_pfo, tk_as, tk_asz, tk_asb, tk_aso, tk_cpy, tk_sw, tk_swc, tk_lit, tk_loc, tk_u1, tk_bin, tk_dv, tk_gf, tk_gr, tk_gn, tk_ald, tk_aldq, tk_aln, tk_unl, tk_una, tk_ter, tk_args, tk_cs, tk_cv, tk_ceq, tk_cne, tk_clt, tk_cge, tk_cgt, tk_cle, tk_zeq, tk_zne, tk_zlt, tk_zge, tk_zgt, tk_zle, tk_and, tk_or, tk_not, tk_ct2, tk_isC, List.headD_cons, tk_up, tk_sca, tk_scl, r0, r3, hi6, e41]
      exact hQ ρ m r0 r1 (.inr hbad)
  · rintro ρ m ⟨r0, r1, r3, hsd⟩ X
    simp [tk_fn, tk_env, tk_sq, tk_sk, tk_if, tk_re, tk_rez, tk_rev, tk_xp, tk_se, tk_pf, tk_pfz, tk_pfo, tk_as, tk_asz, tk_asb, tk_aso, tk_cpy, tk_sw, tk_swc, tk_lit, tk_loc, tk_u1, tk_bin, tk_dv, tk_gf, tk_gr, tk_gn, tk_ald, tk_aldq, tk_aln, tk_unl, tk_una, tk_ter, tk_args, tk_cs, tk_cv, tk_ceq, tk_cne, tk_clt, tk_cge, tk_cgt, tk_cle, tk_zeq, tk_zne, tk_zlt, tk_zge, tk_zgt, tk_zle, tk_and, tk_or, tk_not, tk_ct2, tk_isC, List.headD_cons, tk_up, tk_sca, tk_scl, r3]
    refine hQ ρ m r0 r1 ?_
    rcases hsd with ⟨q, hg, a1, a2, a3, a4, a5⟩ | hbad
    · exact .inl ⟨q, hg, a1, .inl (by omega), a3, a4, a5⟩
    · exact .inr hbad
/-- behind a FUND -/
def tk_bf (T : Int → Int) (p q : Nat) (w : Int) : Prop := tk_az T q 0 = 6 ∧ tk_kpq T p q w
theorem m_readFund {T : Int → Int} {n w : Int} {p : Nat} {c m : tk_M} {Q : Int → tk_M → Prop} (hc : tk_tx T n c) (h : (∃ q, q = p ∧ tk_pg T n c q (tk_cn T q) m ∧ tk_az T q 0 = 3 ∧ w = tk_az T q 4 + (if tk_az T q 3 = 1 then 0 else 10)) ∨ tk_pb T n c 25 m) (hQ : ∀ m', (∃ q, tk_pg T n c q (tk_cn T q) m' ∧ tk_bf T p q w) ∨ tk_pb T n c 26 m' → Q 0 m') : tkF_X7_readFund [96, w] Q m := by
  have hsd0 : tk_sd T n c (tk_cn T p) (fun q => q = p ∧ tk_az T p 0 = 3 ∧ w = tk_az T p 4 + (if tk_az T p 3 = 1 then 0 else 10)) m := by
    rcases h with ⟨q, rfl, h1, h2, h3⟩ | h
    · exact .inl ⟨q, h1, rfl, h2, h3⟩
    · exact .inr h
  simp [tk_fn, tk_env, tk_sq, tk_sk, tk_if, tk_re, tk_rez, tk_rev, tk_xp, tk_se, tk_pf, tk_pfz, tk_pfo, tk_as, tk_asz, tk_asb, tk_aso, tk_cpy, tk_sw, tk_swc, tk_lit, tk_loc, tk_u1, tk_bin, tk_dv, tk_gf, tk_gr, tk_gn, tk_ald, tk_aldq, tk_aln, tk_unl, tk_una, tk_ter, tk_args, tk_cs, tk_cv, tk_ceq, tk_cne, tk_clt, tk_cge, tk_cgt, tk_cle, tk_zeq, tk_zne, tk_zlt, tk_zge, tk_zgt, tk_zle, tk_and, tk_or, tk_not, tk_ct2, tk_isC, List.headD_cons, tk_up, tk_sca, tk_scl, tkF_X7_readFund, tkS_X7_readFund]
  refine m_digit (A' := fun v q => (q = p + 1 ∧ tk_az T p 0 = 3 ∧ v = T p - 48) ∧ w = tk_az T p 4 + (if tk_az T p 3 = 1 then 0 else 10)) hc hsd0 (fun r hacc hA => ?_) (fun r hacc hA hrn hrd => ?_) (fun v m1 hv1 hm1 => ?_)
  · obtain ⟨rfl, z2, z3⟩ := hA
    refine ⟨⟨fun z => ?_, fun z => .inr (.inr (.inr (.inl ⟨z2, z⟩)))⟩, by omega⟩
    unfold tk_aok at z
    omega
  · obtain ⟨rfl, z2, z3⟩ := hA
    exact ⟨⟨rfl, z2, rfl⟩, z3⟩
  refine m_rFloop (v0 := v) (p := p) (w := w) hc ?_ rfl rfl rfl rfl (fun ρ2 m2 r0 r1 hm2 => ?_)
  · rcases hm1 with ⟨q, hg, ⟨rfl, z2, z3⟩, z4⟩ | hbad
    · have e : tk_az T (p + 1) = tk_ap (T p) (tk_az T p) := rfl
      have z0 : tk_az T (p + 1) 0 = 4 := by rw [e]; simp [tk_ap, z2]
      refine .inl ⟨p + 1, hg, z0, ?_, ?_, ⟨?_, ?_, ?_, by omega, z4⟩, tk_cn_n (by omega)⟩
      · rw [e]; simp [tk_ap, z2]
      · rw [e]; simp [tk_ap, z2]; exact z3.symm
      · rw [e]; simp [tk_ap, z2]
      · rw [e]; simp [tk_ap, z2]
      · rw [e]; simp [tk_ap, z2]
    · exact .inr hbad
  obtain ⟨hf2, h02, hbb2⟩ := tk_sd_f hm2
  simp [tk_fn, tk_env, tk_sq, tk_sk, tk_if, tk_re, tk_rez, tk_rev, tk_xp, tk_se, tk_pf, tk_pfz, tk_pfo, tk_as, tk_asz, tk_asb, tk_aso, tk_cpy, tk_sw, tk_swc, tk_lit, tk_loc, tk_u1, tk_bin, tk_dv, tk_gf, tk_gr, tk_gn, tk_ald, tk_aldq, tk_aln, tk_unl, tk_una, tk_ter, tk_args, tk_cs, tk_cv, tk_ceq, tk_cne, tk_clt, tk_cge, tk_cgt, tk_cle, tk_zeq, tk_zne, tk_zlt, tk_zge, tk_zgt, tk_zle, tk_and, tk_or, tk_not, tk_ct2, tk_isC, List.headD_cons, tk_up, tk_sca, tk_scl, r0, r1]
  rw [m_here hc hf2 h02]
  -- the c
  have step : ∀ b : Int, (b = 1 ↔ tk_hr T n (m2 96 40) = 99) → (b = 0 ∨ b = 1) → ∀ R : Int → tk_M → Prop, (∀ m3, tk_sd T n c (tk_cn T p) (fun q => tk_az T q 0 = 5 ∧ tk_az T q 5 = ρ2 2 ∧ tk_kpq T p q w ∧ tk_cn T q = tk_cn T p) m3 → R 0 m3) → tkF_X7_mustBe [96, b] R m2 := by
    intro b hb1 hb01 R hR
    refine m_must hc hm2 hb01 (fun q hg ⟨a1, a2, a3, a4, a5⟩ => ?_) hR
    have e40 : m2 96 40 = q := hg.2.1
    rw [e40] at hb1
    unfold tk_hr at hb1
    by_cases hqn : (q : Int) < n
    · rw [if_pos hqn] at hb1
      by_cases h9 : T q = 99
      · left
        have e : tk_az T (q + 1) = tk_ap (T q) (tk_az T q) := rfl
        have z0 : tk_az T (q + 1) 0 = 5 := by rw [e]; simp [tk_ap, a1, h9]
        refine ⟨hb1.mpr h9, hqn, .inr (.inr (.inr (.inr (.inl ⟨a1, .inl h9⟩)))), z0, ?_, ⟨?_, ?_, ?_, by have := a4.2.2.2.1; omega, a4.2.2.2.2⟩, ?_⟩
        · rw [e]; simp [tk_ap, a1, h9]; exact a3
        · rw [e]; simp [tk_ap, a1, h9]; exact a4.1
        · rw [e]; simp [tk_ap, a1, h9]; exact a4.2.1
        · rw [e]; simp [tk_ap, a1, h9]; exact a4.2.2.1
        · rw [tk_cn_n (by rw [z0]; omega), a5]
      · right
        have hb0 : b = 0 := by
          rcases hb01 with z | z
          · exact z
          · exact absurd (hb1.mp z) h9
        refine ⟨hb0, .inl ⟨hqn, fun z => ?_⟩⟩
        unfold tk_aok at z
        rcases a2 with a2 | a2
        · omega
        · omega
    · right
      rw [if_neg hqn] at hb1
      have hb0 : b = 0 := by
        rcases hb01 with z | z
        · exact z
        · have := hb1.mp z
          omega
      exact ⟨hb0, .inr ⟨by have := hg.2.2.1; omega, by omega⟩⟩
  -- what is behind it
  have rest : ∀ m3 (ρ3 : tk_L), ρ3 0 = 96 → ρ3 1 = w → ρ3 2 = ρ2 2 → tk_sd T n c (tk_cn T p) (fun q => tk_az T q 0 = 5 ∧ tk_az T q 5 = ρ2 2 ∧ tk_kpq T p q w ∧ tk_cn T q = tk_cn T p) m3 → ∀ R : Int → tk_M → Prop, (∀ u m4, tk_sd T n c (tk_cn T p) (fun q => tk_az T q 0 = 6 ∧ tk_az T q 5 = ρ2 2 ∧ tk_az T q 6 = u ∧ tk_kpq T p q w ∧ tk_cn T q = tk_cn T p + 1) m4 → R u m4) → tkF_X7_digitRead [96] R m3 := by
    intro m3 ρ3 _ _ _ hm3 R hR
    refine m_digit (A' := fun u q => tk_az T q 0 = 6 ∧ tk_az T q 5 = ρ2 2 ∧ tk_az T q 6 = u ∧ tk_kpq T p q w ∧ tk_cn T q = tk_cn T p + 1) hc hm3 (fun r hacc ⟨a1, a3, a4, a5⟩ => ?_) (fun r hacc ⟨a1, a3, a4, a5⟩ hrn hrd => ?_) (fun u m4 _ hm4 => hR u m4 hm4)
    · refine ⟨⟨fun z => ?_, fun z => .inr (.inr (.inr (.inr (.inr (.inl ⟨a1, z⟩)))))⟩, by omega⟩
      unfold tk_aok at z
      omega
    · have e : tk_az T (r + 1) = tk_ap (T r) (tk_az T r) := rfl
      have z0 : tk_az T (r + 1) 0 = 6 := by rw [e]; simp [tk_ap, a1]
      refine ⟨z0, ?_, ?_, ⟨?_, ?_, ?_, by have := a4.2.2.2.1; omega, a4.2.2.2.2⟩, ?_⟩
      · rw [e]; simp [tk_ap, a1]; exact a3
      · rw [e]; simp [tk_ap, a1]
      · rw [e]; simp [tk_ap, a1]; exact a4.1
      · rw [e]; simp [tk_ap, a1]; exact a4.2.1
      · rw [e]; simp [tk_ap, a1]; exact a4.2.2.1
      · rw [tk_cn_y z0, a5]
  -- it is kept
  have keep : ∀ (u : Int) m4, tk_sd T n c (tk_cn T p) (fun q => tk_az T q 0 = 6 ∧ tk_az T q 5 = ρ2 2 ∧ tk_az T q 6 = u ∧ tk_kpq T p q w ∧ tk_cn T q = tk_cn T p + 1) m4 → (0 ≤ m4 96 45 ∧ m4 96 45 ≤ 25) ∧ Q 0 (tk_set (tk_set (tk_set (tk_set m4 122 (m4 96 45) w) 123 (m4 96 45) (ρ2 2)) 124 (m4 96 45) u) 96 45 (m4 96 45 + 1)) := by
    intro u m4 hm4
    rcases hm4 with ⟨q, hg, a1, a3, a6, a4, a5⟩ | ⟨⟨q, h1, h2, h3⟩, h4, h5⟩
    · obtain ⟨g1, g2, g3, g4, g5, g6, g7, g8⟩ := hg
      have hcn := tk_cn_bd q g4
      rw [if_pos a1] at hcn
      have hwv := a4.2.2.2.2
      have hn := hc.1
      rw [g5]
      refine ⟨by omega, hQ _ (.inl ⟨q, ⟨by simp [tk_set, g1], by simp [tk_set, g2], g3, g4, by simp [tk_set]; omega, fun o i ho => ?_, ⟨tk_cn_0 T q, Int.le_refl _⟩, fun j h4 h5 h6 => ?_⟩, a1, a4⟩)⟩
      · simp only [tk_set_if]
        rw [if_neg (by omega), if_neg (by omega), if_neg (by omega), if_neg (by omega)]
        exact g6 o i ho
      · unfold tk_dat
        by_cases hj : j = q
        · subst hj
          rw [a5, show tk_cn T p + 1 - 1 = tk_cn T p by omega]
          refine ⟨?_, ?_, ?_⟩
          · simp [tk_set]
            rw [hwv, a4.2.1, a4.2.2.1]
          · simp [tk_set]; exact a3.symm
          · simp [tk_set]; exact a6.symm
        · have hcj : tk_cn T j ≤ tk_cn T p := by
            obtain ⟨q', rfl⟩ : ∃ q', q = q' + 1 := ⟨q - 1, by omega⟩
            have h7 := tk_cn_le (T := T) (j := j) (k := q') (by omega)
            rw [tk_cn_y a1] at a5
            omega
          have h7 := g8 j h4 h5 hcj
          unfold tk_dat at h7
          have hne : ¬ tk_cn T j - 1 = tk_cn T p := by omega
          simp [tk_set, hne]
          exact h7
    · refine ⟨h4, hQ _ (.inr ⟨⟨q, by simp [tk_set, h1], by simp [tk_set, h2], h3⟩, ⟨by simp [tk_set]; omega, by simp [tk_set]; omega⟩, fun o i ho => ?_⟩)⟩
      simp only [tk_set_if]
      rw [if_neg (by omega), if_neg (by omega), if_neg (by omega), if_neg (by omega)]
      exact h5 o i ho
  by_cases h9 : tk_hr T n (m2 96 40) = 99
  · simp [h9]
    refine step 1 ⟨fun _ => h9, fun _ => rfl⟩ (.inr rfl) _ (fun m3 hm3 => ?_)
    refine rest m3 (fun j => ρ2 j) r0 r1 rfl hm3 _ (fun u m4 hm4 => ?_)
    obtain ⟨k1, k2⟩ := keep u m4 hm4
    have l1 : tk_iadd (m4 96 45) 1 = m4 96 45 + 1 := tk_iadd_id (by omega) (by omega)
    have k51 : m4 96 45 < 51 := by omega
    simp [tk_fn, tk_env, tk_sq, tk_sk, tk_if, tk_re, tk_rez, tk_rev, tk_xp, tk_se, tk_pf, tk_pfz, tk_pfo, tk_as, tk_asz, tk_asb, tk_aso, tk_cpy, tk_sw, tk_swc, tk_lit, tk_loc, tk_u1, tk_bin, tk_dv, tk_gf, tk_gr, tk_gn, tk_ald, tk_aldq, tk_aln, tk_unl, tk_una, tk_ter, tk_args, tk_cs, tk_cv, tk_ceq, tk_cne, tk_clt, tk_cge, tk_cgt, tk_cle, tk_zeq, tk_zne, tk_zlt, tk_zge, tk_zgt, tk_zle, tk_and, tk_or, tk_not, tk_ct2, tk_isC, List.headD_cons, tk_up, tk_sca, tk_scl, r0, r1, tk_set_o, tk_al_2, tk_al_3, tk_al_4, tk_al_5, tk_al_6, tk_al_7, tk_al_8, tk_al_9, tk_al_10, tk_al_11, tk_al_13, tk_al_14, tk_al_16, tk_al_17, tk_al_19, tk_al_20, tk_al_22, tk_al_24, tk_al_25, tk_al_26, tk_al_27, tk_al_28, tk_al_29, tk_al_30, tk_al_32, tk_al_33, tk_al_34, tk_al_35, tk_al_36, tk_al_37, tk_al_38, tk_al_39, tk_al_40, tk_al_41, tk_al_43, tk_al_44, tk_al_46, tk_al_47, tk_al_49, tk_al_50, tk_al_52, tk_al_54, tk_al_55, tk_al_56, tk_al_57, tk_al_58, tk_al_59, tk_al_60, tk_al_62, tk_al_63, tk_al_64, tk_al_65, tk_al_66, tk_al_67, tk_al_68, tk_al_69, tk_al_70, tk_al_71, tk_al_73, tk_al_74, tk_al_76, tk_al_77, tk_al_79, tk_al_80, tk_al_81, tk_al_83, tk_al_85, tk_al_87, tk_al_89, tk_al_91, tk_al_93, tk_al_95, tk_al_97, tk_al_98, tk_al_99, tk_al_100, tk_al_101, tk_al_102, tk_al_103, tk_al_104, tk_al_105, tk_al_106, tk_al_107, tk_al_108, tk_al_109, tk_al_110, tk_al_111, tk_al_112, tk_al_113, tk_al_114, tk_al_115, tk_al_116, tk_al_117, tk_al_118, tk_al_119, tk_al_120, tk_al_121, tk_al_122, tk_al_123, tk_al_124, tk_al_125, tk_al_126, tk_al_127, tk_al_128, tk_al_129, k1.1, k51, l1]
    exact k2
  · simp [h9]
    refine step 0 ⟨fun z => by omega, fun z => absurd z h9⟩ (.inl rfl) _ (fun m3 hm3 => ?_)
    refine rest m3 (fun j => ρ2 j) r0 r1 rfl hm3 _ (fun u m4 hm4 => ?_)
    obtain ⟨k1, k2⟩ := keep u m4 hm4
    have l1 : tk_iadd (m4 96 45) 1 = m4 96 45 + 1 := tk_iadd_id (by omega) (by omega)
    have k51 : m4 96 45 < 51 := by omega
    simp [tk_fn, tk_env, tk_sq, tk_sk, tk_if, tk_re, tk_rez, tk_rev, tk_xp, tk_se, tk_pf, tk_pfz, tk_pfo, tk_as, tk_asz, tk_asb, tk_aso, tk_cpy, tk_sw, tk_swc, tk_lit, tk_loc, tk_u1, tk_bin, tk_dv, tk_gf, tk_gr, tk_gn, tk_ald, tk_aldq, tk_aln, tk_unl, tk_una, tk_ter, tk_args, tk_cs, tk_cv, tk_ceq, tk_cne, tk_clt, tk_cge, tk_cgt, tk_cle, tk_zeq, tk_zne, tk_zlt, tk_zge, tk_zgt, tk_zle, tk_and, tk_or, tk_not, tk_ct2, tk_isC, List.headD_cons, tk_up, tk_sca, tk_scl, r0, r1, tk_set_o, tk_al_2, tk_al_3, tk_al_4, tk_al_5, tk_al_6, tk_al_7, tk_al_8, tk_al_9, tk_al_10, tk_al_11, tk_al_13, tk_al_14, tk_al_16, tk_al_17, tk_al_19, tk_al_20, tk_al_22, tk_al_24, tk_al_25, tk_al_26, tk_al_27, tk_al_28, tk_al_29, tk_al_30, tk_al_32, tk_al_33, tk_al_34, tk_al_35, tk_al_36, tk_al_37, tk_al_38, tk_al_39, tk_al_40, tk_al_41, tk_al_43, tk_al_44, tk_al_46, tk_al_47, tk_al_49, tk_al_50, tk_al_52, tk_al_54, tk_al_55, tk_al_56, tk_al_57, tk_al_58, tk_al_59, tk_al_60, tk_al_62, tk_al_63, tk_al_64, tk_al_65, tk_al_66, tk_al_67, tk_al_68, tk_al_69, tk_al_70, tk_al_71, tk_al_73, tk_al_74, tk_al_76, tk_al_77, tk_al_79, tk_al_80, tk_al_81, tk_al_83, tk_al_85, tk_al_87, tk_al_89, tk_al_91, tk_al_93, tk_al_95, tk_al_97, tk_al_98, tk_al_99, tk_al_100, tk_al_101, tk_al_102, tk_al_103, tk_al_104, tk_al_105, tk_al_106, tk_al_107, tk_al_108, tk_al_109, tk_al_110, tk_al_111, tk_al_112, tk_al_113, tk_al_114, tk_al_115, tk_al_116, tk_al_117, tk_al_118, tk_al_119, tk_al_120, tk_al_121, tk_al_122, tk_al_123, tk_al_124, tk_al_125, tk_al_126, tk_al_127, tk_al_128, tk_al_129, k1.1, k51, l1]
    exact k2
