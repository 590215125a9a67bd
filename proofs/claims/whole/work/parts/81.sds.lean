/-! ===== Layer 2: seeds, can ===== -/
theorem x_seeds {F1 F2 : tk_F} {μ : tk_M} {P : Int → Prop} {Q : Int → tk_M → Prop} (hF : ∀ (s : Int) (μ1 : tk_M), 0 ≤ s → s ≤ 30 → tk_f1 31 60 μ μ1 → ∀ K : Int → tk_M → Prop, (∀ μ2, tk_f1 31 60 μ μ2 → (P s → K 1 μ2) ∧ (¬ P s → K 0 μ2)) → F1 [0] (fun _ μ2 => F2 [51, s] K μ2) μ1) (hQ : ∀ r μ1, tk_f1 31 60 μ μ1 → tk_bs2 31 r → (∀ s, tk_bit r s ↔ (0 ≤ s ∧ s < 31) ∧ P s) → Q r μ1) : (tk_fn [2] (tk_sq (tk_se 1 (tk_lit (0))) (tk_sq (tk_sq (tk_se 2 (tk_lit (0))) (tk_wh (tk_clt (tk_loc 2) (tk_lit (31))) (tk_sq (tk_sq (tk_xp (tk_cv 6 F1 [(tk_loc 0)])) (tk_if (tk_zne (tk_cv 0 F2 [(tk_gr 6 (51) (tk_loc 0)), (tk_loc 2)])) (tk_se 1 (tk_bin tk_ior (tk_loc 1) (tk_bin tk_ishl (tk_lit (1)) (tk_loc 2)))) tk_sk)) (tk_se 2 (tk_bin tk_iadd (tk_loc 2) (tk_lit (1))))))) (tk_re (tk_loc 1))))) [0] Q μ := by
  simp [tk_fn, tk_env, tk_sq, tk_sk, tk_if, tk_re, tk_rez, tk_rev, tk_xp, tk_se, tk_pf, tk_pfz, tk_pfo, tk_as, tk_asz, tk_asb, tk_aso, tk_cpy, tk_sw, tk_swc, tk_lit, tk_loc, tk_u1, tk_bin, tk_dv, tk_gf, tk_gr, tk_gn, tk_ald, tk_aldq, tk_aln, tk_unl, tk_una, tk_ter, tk_args, tk_cs, tk_cv, tk_ceq, tk_cne, tk_clt, tk_cge, tk_cgt, tk_cle, tk_zeq, tk_zne, tk_zlt, tk_zge, tk_zgt, tk_zle, tk_and, tk_or, tk_not, tk_ct2, tk_isC, List.headD_cons, tk_up, tk_sca, tk_scl]
  refine tk_for 31 (fun i ρ μ' => ρ 0 = 0 ∧ ρ 2 = i ∧ tk_f1 31 60 μ μ' ∧ tk_bs2 31 (ρ 1) ∧ ∀ s, tk_bit (ρ 1) s ↔ (0 ≤ s ∧ s < i) ∧ P s) (by omega) ⟨rfl, rfl, tk_f1_r, tk_bs_0 31, fun c => ⟨fun z => absurd z (tk_bit_z c), fun z => by omega⟩⟩ ?_ ?_
  · rintro i ρ μ' hi0 hi6 ⟨r0, r2, hf, hs, hb⟩ K hK
    have i1 : tk_iadd i 1 = i + 1 := tk_iadd_id (by omega) (by omega)
    simp [tk_fn, tk_env, tk_sq, tk_sk, tk_if, tk_re, tk_rez, tk_rev, tk_xp, tk_se, tk_pf, tk_pfz, tk_pfo, tk_as, tk_asz, tk_asb, tk_aso, tk_cpy, tk_sw, tk_swc, tk_lit, tk_loc, tk_u1, tk_bin, tk_dv, tk_gf, tk_gr, tk_gn, tk_ald, tk_aldq, tk_aln, tk_unl, tk_una, tk_ter, tk_args, tk_cs, tk_cv, tk_ceq, tk_cne, tk_clt, tk_cge, tk_cgt, tk_cle, tk_zeq, tk_zne, tk_zlt, tk_zge, tk_zgt, tk_zle, tk_and, tk_or, tk_not, tk_ct2, tk_isC, List.headD_cons, tk_up, tk_sca, tk_scl, r0, r2, hi6, i1]
    refine hF i μ' hi0 (by omega) hf _ (fun μ2 hf2 => ⟨fun hp => ?_, fun hp => ?_⟩)
    · have hsh := tk_bs_sh (n := 31) (j := i) ⟨hi0, by omega⟩ (by omega)
      simp
      refine hK _ _ ⟨r0, rfl, hf2, tk_bs_or (by omega) hs hsh, fun s => ?_⟩
      show tk_bit (tk_ior (ρ 1) (tk_ishl 1 i)) s ↔ _
      rw [tk_bit_or (n := 31) (by omega) hs hsh, hb, tk_bit_sh (by omega)]
      constructor
      · rintro (⟨z1, z2⟩ | z)
        · exact ⟨by omega, z2⟩
        · subst z; exact ⟨by omega, hp⟩
      · rintro ⟨z1, z2⟩
        by_cases hc : s = i
        · exact .inr hc
        · exact .inl ⟨by omega, z2⟩
    · simp
      refine hK _ _ ⟨r0, rfl, hf2, hs, fun s => ?_⟩
      show tk_bit (ρ 1) s ↔ _
      rw [hb]
      constructor
      · rintro ⟨z1, z2⟩; exact ⟨by omega, z2⟩
      · rintro ⟨z1, z2⟩
        by_cases hc : s = i
        · subst hc; exact absurd z2 hp
        · exact ⟨by omega, z2⟩
  · rintro ρ μ' ⟨r0, r2, hf, hs, hb⟩ X
    simp [tk_fn, tk_env, tk_sq, tk_sk, tk_if, tk_re, tk_rez, tk_rev, tk_xp, tk_se, tk_pf, tk_pfz, tk_pfo, tk_as, tk_asz, tk_asb, tk_aso, tk_cpy, tk_sw, tk_swc, tk_lit, tk_loc, tk_u1, tk_bin, tk_dv, tk_gf, tk_gr, tk_gn, tk_ald, tk_aldq, tk_aln, tk_unl, tk_una, tk_ter, tk_args, tk_cs, tk_cv, tk_ceq, tk_cne, tk_clt, tk_cge, tk_cgt, tk_cle, tk_zeq, tk_zne, tk_zlt, tk_zge, tk_zgt, tk_zle, tk_and, tk_or, tk_not, tk_ct2, tk_isC, List.headD_cons, tk_up, tk_sca, tk_scl, r0, r2]
    exact hQ _ _ hf hs hb
theorem m_seeds {F1 F2 F3 : tk_F} {μ : tk_M} {P : Int → Prop} {I : tk_M → Prop} {Q : Int → tk_M → Prop} (h0 : ∀ K : tk_M → Prop, (∀ m, I m → K m) → F1 [96] (fun _ m1 => F2 [96] (fun _ m2 => K m2) m1) (tk_set μ 96 24 0)) (hF : ∀ (s : Int) (m : tk_M), 0 ≤ s → s ≤ 30 → I m → ∀ K : Int → tk_M → Prop, (∀ m2, I m2 → (P s → K 1 m2) ∧ (¬ P s → K 0 m2)) → F3 [96, s] K m) (hQ : ∀ r m, I m → tk_bs2 31 r → (∀ s, tk_bit r s ↔ (0 ≤ s ∧ s < 31) ∧ P s) → Q r m) : (tk_fn [2] (tk_sq (tk_pf 7 24 (tk_loc 0) (tk_lit (0))) (tk_sq (tk_se 1 (tk_lit (0))) (tk_sq (tk_xp (tk_cv 7 F1 [(tk_loc 0)])) (tk_sq (tk_xp (tk_cv 7 F2 [(tk_loc 0)])) (tk_sq (tk_sq (tk_se 2 (tk_lit (0))) (tk_wh (tk_cle (tk_loc 2) (tk_lit (30))) (tk_sq (tk_se 1 (tk_bin tk_ior (tk_loc 1) (tk_ter (tk_zne (tk_cv 7 F3 [(tk_loc 0), (tk_loc 2)])) (tk_bin tk_ishl (tk_lit (1)) (tk_loc 2)) (tk_lit (0))))) (tk_se 2 (tk_bin tk_iadd (tk_loc 2) (tk_lit (1))))))) (tk_re (tk_loc 1)))))))) [96] Q μ := by
  simp [tk_fn, tk_env, tk_sq, tk_sk, tk_if, tk_re, tk_rez, tk_rev, tk_xp, tk_se, tk_pf, tk_pfz, tk_pfo, tk_as, tk_asz, tk_asb, tk_aso, tk_cpy, tk_sw, tk_swc, tk_lit, tk_loc, tk_u1, tk_bin, tk_dv, tk_gf, tk_gr, tk_gn, tk_ald, tk_aldq, tk_aln, tk_unl, tk_una, tk_ter, tk_args, tk_cs, tk_cv, tk_ceq, tk_cne, tk_clt, tk_cge, tk_cgt, tk_cle, tk_zeq, tk_zne, tk_zlt, tk_zge, tk_zgt, tk_zle, tk_and, tk_or, tk_not, tk_ct2, tk_isC, List.headD_cons, tk_up, tk_sca, tk_scl]
  refine h0 _ (fun m0 hI0 => ?_)
  refine tk_for 31 (fun i ρ μ' => ρ 0 = 96 ∧ ρ 2 = i ∧ I μ' ∧ tk_bs2 31 (ρ 1) ∧ ∀ s, tk_bit (ρ 1) s ↔ (0 ≤ s ∧ s < i) ∧ P s) (by omega) ⟨rfl, rfl, hI0, tk_bs_0 31, fun c => ⟨fun z => absurd z (tk_bit_z c), fun z => by omega⟩⟩ ?_ ?_
  · rintro i ρ μ' hi0 hi6 ⟨r0, r2, hI, hs, hb⟩ K hK
    have i1 : tk_iadd i 1 = i + 1 := tk_iadd_id (by omega) (by omega)
    simp [tk_fn, tk_env, tk_sq, tk_sk, tk_if, tk_re, tk_rez, tk_rev, tk_xp, tk_se, tk_pf, tk_pfz, tk_pfo, tk_as, tk_asz, tk_asb, tk_aso, tk_cpy, tk_sw, tk_swc, tk_lit, tk_loc, tk_u1, tk_bin, tk_dv, tk_gf, tk_gr, tk_gn, tk_ald, tk_aldq, tk_aln, tk_unl, tk_una, tk_ter, tk_args, tk_cs, tk_cv, tk_ceq, tk_cne, tk_clt, tk_cge, tk_cgt, tk_cle, tk_zeq, tk_zne, tk_zlt, tk_zge, tk_zgt, tk_zle, tk_and, tk_or, tk_not, tk_ct2, tk_isC, List.headD_cons, tk_up, tk_sca, tk_scl, r0, r2, show i ≤ 30 from by omega, i1]
    refine hF i μ' hi0 (by omega) hI _ (fun m2 hI2 => ⟨fun hp => ?_, fun hp => ?_⟩)
    · have hsh := tk_bs_sh (n := 31) (j := i) ⟨hi0, by omega⟩ (by omega)
      simp
      refine hK _ _ ⟨r0, rfl, hI2, tk_bs_or (by omega) hs hsh, fun s => ?_⟩
      show tk_bit (tk_ior (ρ 1) (tk_ishl 1 i)) s ↔ _
      rw [tk_bit_or (n := 31) (by omega) hs hsh, hb, tk_bit_sh (by omega)]
      constructor
      · rintro (⟨z1, z2⟩ | z)
        · exact ⟨by omega, z2⟩
        · subst z; exact ⟨by omega, hp⟩
      · rintro ⟨z1, z2⟩
        by_cases hc : s = i
        · exact .inr hc
        · exact .inl ⟨by omega, z2⟩
    · simp
      refine hK _ _ ⟨r0, rfl, hI2, tk_bs_or (by omega) hs (tk_bs_0 31), fun s => ?_⟩
      show tk_bit (tk_ior (ρ 1) 0) s ↔ _
      rw [tk_bit_or (n := 31) (by omega) hs (tk_bs_0 31), hb]
      constructor
      · rintro (⟨z1, z2⟩ | z)
        · exact ⟨by omega, z2⟩
        · exact absurd z (tk_bit_z s)
      · rintro ⟨z1, z2⟩
        by_cases hc : s = i
        · subst hc; exact absurd z2 hp
        · exact .inl ⟨by omega, z2⟩
  · rintro ρ μ' ⟨r0, r2, hI, hs, hb⟩ X
    simp [tk_fn, tk_env, tk_sq, tk_sk, tk_if, tk_re, tk_rez, tk_rev, tk_xp, tk_se, tk_pf, tk_pfz, tk_pfo, tk_as, tk_asz, tk_asb, tk_aso, tk_cpy, tk_sw, tk_swc, tk_lit, tk_loc, tk_u1, tk_bin, tk_dv, tk_gf, tk_gr, tk_gn, tk_ald, tk_aldq, tk_aln, tk_unl, tk_una, tk_ter, tk_args, tk_cs, tk_cv, tk_ceq, tk_cne, tk_clt, tk_cge, tk_cgt, tk_cle, tk_zeq, tk_zne, tk_zlt, tk_zge, tk_zgt, tk_zle, tk_and, tk_or, tk_not, tk_ct2, tk_isC, List.headD_cons, tk_up, tk_sca, tk_scl, r0, r2]
    exact hQ _ _ hI hs hb
/-- where the Model stands between two trials by a seed -/
def tk_mS (μ m : tk_M) : Prop := tk_R m ∧ tk_tr μ m ∧ tk_CC (tk_mv μ) (tk_mv m) ∧ tk_mq (tk_shr (tk_hw 1 μ)) m
theorem m_start {μ μ1 : tk_M} (hR : tk_R μ) (hf1 : tk_f1 31 60 μ μ1) (K : tk_M → Prop) (hK : ∀ m, tk_mS μ m → K m) : tkF_X7_layShares [96] (fun _ m1 => tkF_X7_open [96] (fun _ m2 => K m2) m1) (tk_set μ1 96 24 0) := by
  have hT := tk_R_thr (v := 0) hR; obtain ⟨hE, hI, hIm⟩ := tk_R_S hR; obtain ⟨e1, e2, e3, e4, e5, e6, e7, e8, e9, hc, hn, hm, hk⟩ := tk_R_n hR; have hJx := (tk_J_of hI).1; have hJm := (tk_J_of hIm).1; have hshb := tk_shr_shb hI.1 hI.2.1 (tk_I5s hI).2.2.2.1; have hshe := tk_shr_EE hE hI; have hQE := tk_EQ_of hE
  have hM2 : tk_mv (tk_set μ1 96 24 0) = tk_mv μ := by rw [tk_mv_ob (by omega), tk_mv_f1 hf1 (by omega)]
  refine m_layShares (by rw [hM2]; exact tk_I5s hIm) (fun m1 hf2 hL1 => ?_)
  rw [hM2] at hL1
  have hT1 : tk_mv m1 = tk_mv μ := by rw [tk_mv_f1 hf2 (by omega), hM2]
  have hq1 : ∀ o i : Int, ¬ tk_sc2 o i → m1 o i = μ o i := fun o i ho => by
    unfold tk_sc2 at ho
    rw [hf2 o i (by omega)]
    unfold tk_set
    rw [if_neg (by omega)]
    exact hf1 o i (by omega)
  refine m_tr_open hq1 hT1 (fun m4 htr4 hc4 hfc4 => hK _ ⟨tk_R_sc hR htr4.1 hc4, htr4, hc4, fun a h5 h6 => ?_⟩)
  rw [hfc4 119 a (by omega), ← hshe]
  exact hL1.2 a h5 h6
theorem c_seeds : tk_cp tkF_X6_seeds tkF_X7_seeds [] := by
  intro μ hR K hK; have hT := tk_R_thr (v := 0) hR; obtain ⟨hE, hI, hIm⟩ := tk_R_S hR; obtain ⟨e1, e2, e3, e4, e5, e6, e7, e8, e9, hc, hn, hm, hk⟩ := tk_R_n hR; have hJx := (tk_J_of hI).1; have hJm := (tk_J_of hIm).1; have hshb := tk_shr_shb hI.1 hI.2.1 (tk_I5s hI).2.2.2.1; have hshe := tk_shr_EE hE hI; have hQE := tk_EQ_of hE
  have hz11 : 0 ≤ tk_hw 1 μ 11 0 := hI.2.2.2.2.1.1.1
  refine x_seeds (P := tk_AS (tk_shr (tk_hw 1 μ)) (tk_hw 1 μ)) (fun s μ1 hs0 hs30 hf1 K2 hK2 => ?_) (fun r μ1 hf1 hr hrb => ?_)
  · have hT1 : tk_hw 1 μ1 = tk_hw 1 μ := tk_hw_f1 hf1 (by omega)
    refine x_begin (by rw [hT1]; exact hI) (fun μ2 hf2 hE2 hs2 hd2 ha2 => ?_)
    rw [hT1] at hE2 hs2 hd2
    have hI2 := tk_II_EE hE2 hI
    have hAS := tk_AS_eq (sh := tk_shr (tk_hw 1 μ)) hE2.2.2.2.2.1 (tk_EQ_of hE2) hz11 hm.1 (z := s)
    have hf3 : ∀ μ3, tk_fx 31 μ2 μ3 → tk_f1 31 60 μ μ3 := fun μ3 h o i ho => by rw [h o i (by omega), hf2 o i ho, hf1 o i ho]
    refine x_drawsAsSeen (tk_J_of hI2) hI2.2.2.2.2.1 hshb hs2 hd2 (fun μ3 h3 hA => ?_) (fun μ3 h3 hA => ?_)
    · exact (hK2 μ3 (hf3 μ3 h3)).1 (hAS.mp hA)
    · exact (hK2 μ3 (hf3 μ3 h3)).2 (fun z => hA (hAS.mpr z))
  · refine m_seeds (P := tk_AS (tk_shr (tk_hw 1 μ)) (tk_hw 1 μ)) (I := tk_mS μ) (m_start hR hf1) (fun s m hs0 hs30 hm2 K2 hK2 => ?_) (fun r2 m hm2 hr2 hrb2 => ?_)
    · obtain ⟨hRm, htr, hcc, hmq⟩ := hm2
      have hE2 := tk_EE_m hR hcc
      have hI2 := tk_II_EE hE2 hI
      have hAS := tk_AS_eq (sh := tk_shr (tk_hw 1 μ)) hE2.2.2.2.2.1 (tk_EQ_of hE2) hz11 hm.1 (z := s)
      refine m_allSeen hR htr (tk_J_of hI2) hI2.2.2.2.2.1 hshb hmq (fun m3 r3 hR3 htr3 hc3 hmq3 hr3 => ?_)
      have hk := hK2 m3 ⟨hR3, htr3, hc3, hmq3⟩
      rcases hr3 with ⟨rfl, hA⟩ | ⟨rfl, hA⟩
      · exact hk.1 (hAS.mp hA)
      · exact hk.2 (fun z => hA (hAS.mpr z))
    · have e : r = r2 := tk_bit_ext hr hr2 (fun c h5 h6 => (hrb c).trans (hrb2 c).symm)
      rw [e]
      exact hK _ _ hm2.1
/-- among v = 9 down to 0 -/
noncomputable def tk_lea (P : Int → Prop) : Nat → Int
  | 0 => -5
  | k + 1 => if tk_bc (P (9 - k)) = 1 then 9 - k else tk_lea P k
theorem tk_lea_s {P : Int → Prop} {i : Int} (hi : 0 ≤ i) : tk_lea P (i + 1).toNat = if tk_bc (P (9 - i)) = 1 then 9 - i else tk_lea P i.toNat := by
  obtain ⟨m, rfl⟩ := tk_nnt hi
  have e : ((m : Int) + 1).toNat = m + 1 := by omega
  rw [e, Int.toNat_natCast]
  rfl
theorem x_can_a {F1 F2 : tk_F} {c z w : Int} {μ : tk_M} {P : Int → Prop} {Q : Int → tk_M → Prop} (hc : 0 ≤ c ∧ c < μ 1 2) (h8 : c < 8) (hw : 0 ≤ w ∧ w ≤ 1) (hF : ∀ (v : Int) (μ1 : tk_M), 0 ≤ v → v ≤ 9 → tk_f1 31 60 μ μ1 → ∀ K : Int → tk_M → Prop, (∀ μ2, tk_f1 31 60 μ μ2 → (P v → K 1 μ2) ∧ (¬ P v → K 0 μ2)) → F1 [0] (fun _ μ2 => F2 [51, z] K (tk_set μ2 36 c v)) μ1) (hQ : ∀ μ1, tk_f1 31 60 μ μ1 → Q (if w = 0 then tk_sm 10 (fun i => tk_bc (P (9 - i))) else tk_lea P 10) μ1) : (tk_fn [2, 0, 0, 0] (tk_sq (tk_if (tk_or (tk_or (tk_not (tk_zne (tk_cv 2 tkF_X2_hasClient [(tk_gr 6 (1) (tk_loc 0)), (tk_loc 1)]))) (tk_zlt (tk_loc 3))) (tk_cgt (tk_loc 3) (tk_lit (1)))) (tk_re (tk_lit (-1))) tk_sk) (tk_sq (tk_se 4 (tk_lit (0))) (tk_sq (tk_se 5 (tk_lit (-5))) (tk_sq (tk_sq (tk_se 6 (tk_lit (9))) (tk_wh (tk_zge (tk_loc 6)) (tk_sq (tk_sq (tk_xp (tk_cv 6 F1 [(tk_loc 0)])) (tk_sq (tk_as 0 (tk_gr 2 (5) (tk_gr 6 (31) (tk_loc 0))) (tk_loc 1) (tk_loc 6)) (tk_if (tk_zne (tk_cv 0 F2 [(tk_gr 6 (51) (tk_loc 0)), (tk_loc 2)])) (tk_sq (tk_se 4 (tk_bin tk_iadd (tk_loc 4) (tk_lit (1)))) (tk_se 5 (tk_loc 6))) tk_sk))) (tk_se 6 (tk_bin tk_iadd (tk_loc 6) (tk_lit (-1))))))) (tk_re (tk_ter (tk_zeq (tk_loc 3)) (tk_loc 4) (tk_loc 5)))))))) [0, c, z, w] Q μ := by
  simp [tk_fn, tk_env, tk_sq, tk_sk, tk_if, tk_re, tk_rez, tk_rev, tk_xp, tk_se, tk_pf, tk_pfz, tk_pfo, tk_as, tk_asz, tk_asb, tk_aso, tk_cpy, tk_sw, tk_swc, tk_lit, tk_loc, tk_u1, tk_bin, tk_dv, tk_gf, tk_gr, tk_gn, tk_ald, tk_aldq, tk_aln, tk_unl, tk_una, tk_ter, tk_args, tk_cs, tk_cv, tk_ceq, tk_cne, tk_clt, tk_cge, tk_cgt, tk_cle, tk_zeq, tk_zne, tk_zlt, tk_zge, tk_zgt, tk_zle, tk_and, tk_or, tk_not, tk_ct2, tk_isC, List.headD_cons, tk_up, tk_sca, tk_scl, x_hasClient, tk_bo_0, hc.1, hc.2, show ¬ μ 1 2 ≤ c from by omega, show ¬ w < 0 from by omega, show ¬ 1 < w from by omega]
  refine tk_for 10 (fun i ρ μ' => ρ 0 = 0 ∧ ρ 1 = c ∧ ρ 2 = z ∧ ρ 3 = w ∧ ρ 6 = 9 - i ∧ tk_f1 31 60 μ μ' ∧ ρ 4 = tk_sm i (fun i => tk_bc (P (9 - i))) ∧ ρ 5 = tk_lea P i.toNat) (by omega) ⟨rfl, rfl, rfl, rfl, rfl, tk_f1_r, rfl, rfl⟩ ?_ ?_
  · rintro i ρ μ' hi0 hi6 ⟨r0, r1, r2, r3, r6, hf, r4, r5⟩ K hK
    have hi9 : i ≤ 9 := by omega
    have hi10 : 0 ≤ 9 - i ∧ 9 - i ≤ 9 := by omega
    have hcn := tk_cnt_le hi0 (fun i => P (9 - i))
    rw [← r4] at hcn
    have l1 : tk_iadd (ρ 4) 1 = ρ 4 + 1 := tk_iadd_id (by clear r5; omega) (by clear r5; omega)
    have l0 : tk_iadd (ρ 4) 0 = ρ 4 := by rw [tk_iadd_id (by clear r5 l1; omega) (by clear r5 l1; omega), Int.add_zero]
    have i1 : tk_iadd (9 - i) (-1) = 9 - (i + 1) := by rw [tk_iadd_id (by clear r5 l1 l0; omega) (by clear r5 l1 l0; omega)]; clear r5 l1 l0; omega
    have hl := tk_lea_s (P := P) hi0
    simp [tk_fn, tk_env, tk_sq, tk_sk, tk_if, tk_re, tk_rez, tk_rev, tk_xp, tk_se, tk_pf, tk_pfz, tk_pfo, tk_as, tk_asz, tk_asb, tk_aso, tk_cpy, tk_sw, tk_swc, tk_lit, tk_loc, tk_u1, tk_bin, tk_dv, tk_gf, tk_gr, tk_gn, tk_ald, tk_aldq, tk_aln, tk_unl, tk_una, tk_ter, tk_args, tk_cs, tk_cv, tk_ceq, tk_cne, tk_clt, tk_cge, tk_cgt, tk_cle, tk_zeq, tk_zne, tk_zlt, tk_zge, tk_zgt, tk_zle, tk_and, tk_or, tk_not, tk_ct2, tk_isC, List.headD_cons, tk_up, tk_sca, tk_scl, r0, r1, r2, r6, hi9, hc.1, h8, tk_al_2, tk_al_3, tk_al_4, tk_al_5, tk_al_6, tk_al_7, tk_al_8, tk_al_9, tk_al_10, tk_al_11, tk_al_13, tk_al_14, tk_al_16, tk_al_17, tk_al_19, tk_al_20, tk_al_22, tk_al_24, tk_al_25, tk_al_26, tk_al_27, tk_al_28, tk_al_29, tk_al_30, tk_al_32, tk_al_33, tk_al_34, tk_al_35, tk_al_36, tk_al_37, tk_al_38, tk_al_39, tk_al_40, tk_al_41, tk_al_43, tk_al_44, tk_al_46, tk_al_47, tk_al_49, tk_al_50, tk_al_52, tk_al_54, tk_al_55, tk_al_56, tk_al_57, tk_al_58, tk_al_59, tk_al_60, tk_al_62, tk_al_63, tk_al_64, tk_al_65, tk_al_66, tk_al_67, tk_al_68, tk_al_69, tk_al_70, tk_al_71, tk_al_73, tk_al_74, tk_al_76, tk_al_77, tk_al_79, tk_al_80, tk_al_81, tk_al_83, tk_al_85, tk_al_87, tk_al_89, tk_al_91, tk_al_93, tk_al_95, tk_al_97, tk_al_98, tk_al_99, tk_al_100, tk_al_101, tk_al_102, tk_al_103, tk_al_104, tk_al_105, tk_al_106, tk_al_107, tk_al_108, tk_al_109, tk_al_110, tk_al_111, tk_al_112, tk_al_113, tk_al_114, tk_al_115, tk_al_116, tk_al_117, tk_al_118, tk_al_119, tk_al_120, tk_al_121, tk_al_122, tk_al_123, tk_al_124, tk_al_125, tk_al_126, tk_al_127, tk_al_128, tk_al_129, i1]
    refine hF (9 - i) μ' hi10.1 hi10.2 hf _ (fun μ2 hf2 => ⟨fun hp => ?_, fun hp => ?_⟩)
    · rw [tk_bc_t hp, if_pos rfl] at hl
      simp [l1]
      refine hK _ _ ⟨r0, r1, r2, r3, rfl, hf2, ?_, hl.symm⟩
      rw [tk_sm_s hi0, tk_bc_t hp, ← r4]
      rfl
    · rw [tk_bc_f hp, if_neg (show ¬ (0 : Int) = 1 by decide)] at hl
      simp
      refine hK _ _ ⟨r0, r1, r2, r3, rfl, hf2, ?_, by rw [hl]; exact r5⟩
      rw [tk_sm_s hi0, tk_bc_f hp, ← r4]
      simp [tk_up]
  · rintro ρ μ' ⟨r0, r1, r2, r3, r6, hf, r4, r5⟩ X
    have hq := hQ μ' hf
    by_cases hw0 : w = 0
    · rw [if_pos hw0] at hq
      simp [tk_fn, tk_env, tk_sq, tk_sk, tk_if, tk_re, tk_rez, tk_rev, tk_xp, tk_se, tk_pf, tk_pfz, tk_pfo, tk_as, tk_asz, tk_asb, tk_aso, tk_cpy, tk_sw, tk_swc, tk_lit, tk_loc, tk_u1, tk_bin, tk_dv, tk_gf, tk_gr, tk_gn, tk_ald, tk_aldq, tk_aln, tk_unl, tk_una, tk_ter, tk_args, tk_cs, tk_cv, tk_ceq, tk_cne, tk_clt, tk_cge, tk_cgt, tk_cle, tk_zeq, tk_zne, tk_zlt, tk_zge, tk_zgt, tk_zle, tk_and, tk_or, tk_not, tk_ct2, tk_isC, List.headD_cons, tk_up, tk_sca, tk_scl, r3, r4, r6, hw0]
      exact hq
    · rw [if_neg hw0] at hq
      simp [tk_fn, tk_env, tk_sq, tk_sk, tk_if, tk_re, tk_rez, tk_rev, tk_xp, tk_se, tk_pf, tk_pfz, tk_pfo, tk_as, tk_asz, tk_asb, tk_aso, tk_cpy, tk_sw, tk_swc, tk_lit, tk_loc, tk_u1, tk_bin, tk_dv, tk_gf, tk_gr, tk_gn, tk_ald, tk_aldq, tk_aln, tk_unl, tk_una, tk_ter, tk_args, tk_cs, tk_cv, tk_ceq, tk_cne, tk_clt, tk_cge, tk_cgt, tk_cle, tk_zeq, tk_zne, tk_zlt, tk_zge, tk_zgt, tk_zle, tk_and, tk_or, tk_not, tk_ct2, tk_isC, List.headD_cons, tk_up, tk_sca, tk_scl, r3, r5, r6, hw0]
      exact hq
theorem m_can_a {F1 F2 F3 : tk_F} {c z w : Int} {μ : tk_M} {P : Int → Prop} {I : tk_M → Prop} {Q : Int → tk_M → Prop} (hm : 0 ≤ μ 96 5 ∧ μ 96 5 ≤ 8) (hc : 0 ≤ c ∧ c < μ 96 5) (h8 : c < 8) (hw : 0 ≤ w ∧ w ≤ 1) (h0 : ∀ K : tk_M → Prop, (∀ m, I m → K m) → F1 [96] (fun _ m1 => F2 [96] (fun _ m2 => K m2) m1) (tk_set μ 96 24 0)) (hF : ∀ (v : Int) (m : tk_M), 0 ≤ v → v ≤ 9 → I m → ∀ K : Int → tk_M → Prop, (∀ m2, I m2 → (P v → K 1 m2) ∧ (¬ P v → K 0 m2)) → F3 [96, z] K (tk_set m 101 c v)) (hQ : ∀ m, I m → Q (if w = 0 then tk_sm 10 (fun i => tk_bc (P (9 - i))) else tk_lea P 10) m) : (tk_fn [2, 0, 0, 0] (tk_sq (tk_pf 7 24 (tk_loc 0) (tk_lit (0))) (tk_sq (tk_if (tk_or (tk_not (tk_zne (tk_cv 7 tkF_X7_isClient [(tk_loc 0), (tk_loc 1)]))) (tk_not (tk_zne (tk_cs tkF_X7_in [(tk_loc 3), (tk_lit (0)), (tk_lit (1))])))) (tk_re (tk_lit (-1))) tk_sk) (tk_sq (tk_se 4 (tk_lit (0))) (tk_sq (tk_se 5 (tk_lit (-5))) (tk_sq (tk_xp (tk_cv 7 F1 [(tk_loc 0)])) (tk_sq (tk_xp (tk_cv 7 F2 [(tk_loc 0)])) (tk_sq (tk_sq (tk_se 6 (tk_lit (9))) (tk_wh (tk_zge (tk_loc 6)) (tk_sq (tk_sq (tk_as 0 (tk_gr 7 (5) (tk_loc 0)) (tk_loc 1) (tk_loc 6)) (tk_sq (tk_se 7 (tk_cv 7 F3 [(tk_loc 0), (tk_loc 2)])) (tk_sq (tk_se 4 (tk_bin tk_iadd (tk_loc 4) (tk_ter (tk_zne (tk_loc 7)) (tk_lit (1)) (tk_lit (0))))) (tk_se 5 (tk_ter (tk_zne (tk_loc 7)) (tk_loc 6) (tk_loc 5)))))) (tk_se 6 (tk_bin tk_iadd (tk_loc 6) (tk_lit (-1))))))) (tk_re (tk_ter (tk_zeq (tk_loc 3)) (tk_loc 4) (tk_loc 5))))))))))) [96, c, z, w] Q μ := by
  simp [tk_fn, tk_env, tk_sq, tk_sk, tk_if, tk_re, tk_rez, tk_rev, tk_xp, tk_se, tk_pf, tk_pfz, tk_pfo, tk_as, tk_asz, tk_asb, tk_aso, tk_cpy, tk_sw, tk_swc, tk_lit, tk_loc, tk_u1, tk_bin, tk_dv, tk_gf, tk_gr, tk_gn, tk_ald, tk_aldq, tk_aln, tk_unl, tk_una, tk_ter, tk_args, tk_cs, tk_cv, tk_ceq, tk_cne, tk_clt, tk_cge, tk_cgt, tk_cle, tk_zeq, tk_zne, tk_zlt, tk_zge, tk_zgt, tk_zle, tk_and, tk_or, tk_not, tk_ct2, tk_isC, List.headD_cons, tk_up, tk_sca, tk_scl, m_isClient, m_in, tk_set_j, hm.1, hm.2, tk_bo_0, hc.1, hc.2, hw.1, hw.2, show ¬ μ 96 5 ≤ c from by omega]
  refine h0 _ (fun m0 hI0 => ?_)
  refine tk_for 10 (fun i ρ μ' => ρ 0 = 96 ∧ ρ 1 = c ∧ ρ 2 = z ∧ ρ 3 = w ∧ ρ 6 = 9 - i ∧ I μ' ∧ ρ 4 = tk_sm i (fun i => tk_bc (P (9 - i))) ∧ ρ 5 = tk_lea P i.toNat) (by omega) ⟨rfl, rfl, rfl, rfl, rfl, hI0, rfl, rfl⟩ ?_ ?_
  · rintro i ρ μ' hi0 hi6 ⟨r0, r1, r2, r3, r6, hI, r4, r5⟩ K hK
    have hi9 : i ≤ 9 := by omega
    have hi10 : 0 ≤ 9 - i ∧ 9 - i ≤ 9 := by omega
    have hcn := tk_cnt_le hi0 (fun i => P (9 - i))
    rw [← r4] at hcn
    have l1 : tk_iadd (ρ 4) 1 = ρ 4 + 1 := tk_iadd_id (by clear r5; omega) (by clear r5; omega)
    have l0 : tk_iadd (ρ 4) 0 = ρ 4 := by rw [tk_iadd_id (by clear r5 l1; omega) (by clear r5 l1; omega), Int.add_zero]
    have i1 : tk_iadd (9 - i) (-1) = 9 - (i + 1) := by rw [tk_iadd_id (by clear r5 l1 l0; omega) (by clear r5 l1 l0; omega)]; clear r5 l1 l0; omega
    have hl := tk_lea_s (P := P) hi0
    simp [tk_fn, tk_env, tk_sq, tk_sk, tk_if, tk_re, tk_rez, tk_rev, tk_xp, tk_se, tk_pf, tk_pfz, tk_pfo, tk_as, tk_asz, tk_asb, tk_aso, tk_cpy, tk_sw, tk_swc, tk_lit, tk_loc, tk_u1, tk_bin, tk_dv, tk_gf, tk_gr, tk_gn, tk_ald, tk_aldq, tk_aln, tk_unl, tk_una, tk_ter, tk_args, tk_cs, tk_cv, tk_ceq, tk_cne, tk_clt, tk_cge, tk_cgt, tk_cle, tk_zeq, tk_zne, tk_zlt, tk_zge, tk_zgt, tk_zle, tk_and, tk_or, tk_not, tk_ct2, tk_isC, List.headD_cons, tk_up, tk_sca, tk_scl, r0, r1, r2, r6, hi9, hc.1, h8, tk_al_2, tk_al_3, tk_al_4, tk_al_5, tk_al_6, tk_al_7, tk_al_8, tk_al_9, tk_al_10, tk_al_11, tk_al_13, tk_al_14, tk_al_16, tk_al_17, tk_al_19, tk_al_20, tk_al_22, tk_al_24, tk_al_25, tk_al_26, tk_al_27, tk_al_28, tk_al_29, tk_al_30, tk_al_32, tk_al_33, tk_al_34, tk_al_35, tk_al_36, tk_al_37, tk_al_38, tk_al_39, tk_al_40, tk_al_41, tk_al_43, tk_al_44, tk_al_46, tk_al_47, tk_al_49, tk_al_50, tk_al_52, tk_al_54, tk_al_55, tk_al_56, tk_al_57, tk_al_58, tk_al_59, tk_al_60, tk_al_62, tk_al_63, tk_al_64, tk_al_65, tk_al_66, tk_al_67, tk_al_68, tk_al_69, tk_al_70, tk_al_71, tk_al_73, tk_al_74, tk_al_76, tk_al_77, tk_al_79, tk_al_80, tk_al_81, tk_al_83, tk_al_85, tk_al_87, tk_al_89, tk_al_91, tk_al_93, tk_al_95, tk_al_97, tk_al_98, tk_al_99, tk_al_100, tk_al_101, tk_al_102, tk_al_103, tk_al_104, tk_al_105, tk_al_106, tk_al_107, tk_al_108, tk_al_109, tk_al_110, tk_al_111, tk_al_112, tk_al_113, tk_al_114, tk_al_115, tk_al_116, tk_al_117, tk_al_118, tk_al_119, tk_al_120, tk_al_121, tk_al_122, tk_al_123, tk_al_124, tk_al_125, tk_al_126, tk_al_127, tk_al_128, tk_al_129, i1]
    refine hF (9 - i) μ' hi10.1 hi10.2 hI _ (fun m2 hI2 => ⟨fun hp => ?_, fun hp => ?_⟩)
    · rw [tk_bc_t hp, if_pos rfl] at hl
      simp [l1]
      refine hK _ _ ⟨r0, r1, r2, r3, rfl, hI2, ?_, hl.symm⟩
      rw [tk_sm_s hi0, tk_bc_t hp, ← r4]
      rfl
    · rw [tk_bc_f hp, if_neg (show ¬ (0 : Int) = 1 by decide)] at hl
      simp [l0]
      refine hK _ _ ⟨r0, r1, r2, r3, rfl, hI2, ?_, by rw [hl]; exact r5⟩
      rw [tk_sm_s hi0, tk_bc_f hp, ← r4]
      simp [tk_up]
  · rintro ρ μ' ⟨r0, r1, r2, r3, r6, hI, r4, r5⟩ X
    have hq := hQ μ' hI
    by_cases hw0 : w = 0
    · rw [if_pos hw0] at hq
      simp [tk_fn, tk_env, tk_sq, tk_sk, tk_if, tk_re, tk_rez, tk_rev, tk_xp, tk_se, tk_pf, tk_pfz, tk_pfo, tk_as, tk_asz, tk_asb, tk_aso, tk_cpy, tk_sw, tk_swc, tk_lit, tk_loc, tk_u1, tk_bin, tk_dv, tk_gf, tk_gr, tk_gn, tk_ald, tk_aldq, tk_aln, tk_unl, tk_una, tk_ter, tk_args, tk_cs, tk_cv, tk_ceq, tk_cne, tk_clt, tk_cge, tk_cgt, tk_cle, tk_zeq, tk_zne, tk_zlt, tk_zge, tk_zgt, tk_zle, tk_and, tk_or, tk_not, tk_ct2, tk_isC, List.headD_cons, tk_up, tk_sca, tk_scl, r3, r4, r6, hw0]
      exact hq
    · rw [if_neg hw0] at hq
      simp [tk_fn, tk_env, tk_sq, tk_sk, tk_if, tk_re, tk_rez, tk_rev, tk_xp, tk_se, tk_pf, tk_pfz, tk_pfo, tk_as, tk_asz, tk_asb, tk_aso, tk_cpy, tk_sw, tk_swc, tk_lit, tk_loc, tk_u1, tk_bin, tk_dv, tk_gf, tk_gr, tk_gn, tk_ald, tk_aldq, tk_aln, tk_unl, tk_una, tk_ter, tk_args, tk_cs, tk_cv, tk_ceq, tk_cne, tk_clt, tk_cge, tk_cgt, tk_cle, tk_zeq, tk_zne, tk_zlt, tk_zge, tk_zgt, tk_zle, tk_and, tk_or, tk_not, tk_ct2, tk_isC, List.headD_cons, tk_up, tk_sca, tk_scl, r3, r5, r6, hw0]
      exact hq
theorem x_can_n {F1 F2 : tk_F} {c z w : Int} {μ : tk_M} {Q : Int → tk_M → Prop} (hno : ¬ ((0 ≤ c ∧ c < μ 1 2) ∧ (0 ≤ w ∧ w ≤ 1))) (hQ : Q (-1) μ) : (tk_fn [2, 0, 0, 0] (tk_sq (tk_if (tk_or (tk_or (tk_not (tk_zne (tk_cv 2 tkF_X2_hasClient [(tk_gr 6 (1) (tk_loc 0)), (tk_loc 1)]))) (tk_zlt (tk_loc 3))) (tk_cgt (tk_loc 3) (tk_lit (1)))) (tk_re (tk_lit (-1))) tk_sk) (tk_sq (tk_se 4 (tk_lit (0))) (tk_sq (tk_se 5 (tk_lit (-5))) (tk_sq (tk_sq (tk_se 6 (tk_lit (9))) (tk_wh (tk_zge (tk_loc 6)) (tk_sq (tk_sq (tk_xp (tk_cv 6 F1 [(tk_loc 0)])) (tk_sq (tk_as 0 (tk_gr 2 (5) (tk_gr 6 (31) (tk_loc 0))) (tk_loc 1) (tk_loc 6)) (tk_if (tk_zne (tk_cv 0 F2 [(tk_gr 6 (51) (tk_loc 0)), (tk_loc 2)])) (tk_sq (tk_se 4 (tk_bin tk_iadd (tk_loc 4) (tk_lit (1)))) (tk_se 5 (tk_loc 6))) tk_sk))) (tk_se 6 (tk_bin tk_iadd (tk_loc 6) (tk_lit (-1))))))) (tk_re (tk_ter (tk_zeq (tk_loc 3)) (tk_loc 4) (tk_loc 5)))))))) [0, c, z, w] Q μ := by
  by_cases hc : 0 ≤ c ∧ c < μ 1 2
  · by_cases hw : w < 0
    · simp [tk_fn, tk_env, tk_sq, tk_sk, tk_if, tk_re, tk_rez, tk_rev, tk_xp, tk_se, tk_pf, tk_pfz, tk_pfo, tk_as, tk_asz, tk_asb, tk_aso, tk_cpy, tk_sw, tk_swc, tk_lit, tk_loc, tk_u1, tk_bin, tk_dv, tk_gf, tk_gr, tk_gn, tk_ald, tk_aldq, tk_aln, tk_unl, tk_una, tk_ter, tk_args, tk_cs, tk_cv, tk_ceq, tk_cne, tk_clt, tk_cge, tk_cgt, tk_cle, tk_zeq, tk_zne, tk_zlt, tk_zge, tk_zgt, tk_zle, tk_and, tk_or, tk_not, tk_ct2, tk_isC, List.headD_cons, tk_up, tk_sca, tk_scl, x_hasClient, tk_bo_0, hc.1, hc.2, show ¬ μ 1 2 ≤ c from by omega, hw]
      exact hQ
    · simp [tk_fn, tk_env, tk_sq, tk_sk, tk_if, tk_re, tk_rez, tk_rev, tk_xp, tk_se, tk_pf, tk_pfz, tk_pfo, tk_as, tk_asz, tk_asb, tk_aso, tk_cpy, tk_sw, tk_swc, tk_lit, tk_loc, tk_u1, tk_bin, tk_dv, tk_gf, tk_gr, tk_gn, tk_ald, tk_aldq, tk_aln, tk_unl, tk_una, tk_ter, tk_args, tk_cs, tk_cv, tk_ceq, tk_cne, tk_clt, tk_cge, tk_cgt, tk_cle, tk_zeq, tk_zne, tk_zlt, tk_zge, tk_zgt, tk_zle, tk_and, tk_or, tk_not, tk_ct2, tk_isC, List.headD_cons, tk_up, tk_sca, tk_scl, x_hasClient, tk_bo_0, hc.1, hc.2, show ¬ μ 1 2 ≤ c from by omega, hw, show 1 < w from by omega]
      exact hQ
  · simp [tk_fn, tk_env, tk_sq, tk_sk, tk_if, tk_re, tk_rez, tk_rev, tk_xp, tk_se, tk_pf, tk_pfz, tk_pfo, tk_as, tk_asz, tk_asb, tk_aso, tk_cpy, tk_sw, tk_swc, tk_lit, tk_loc, tk_u1, tk_bin, tk_dv, tk_gf, tk_gr, tk_gn, tk_ald, tk_aldq, tk_aln, tk_unl, tk_una, tk_ter, tk_args, tk_cs, tk_cv, tk_ceq, tk_cne, tk_clt, tk_cge, tk_cgt, tk_cle, tk_zeq, tk_zne, tk_zlt, tk_zge, tk_zgt, tk_zle, tk_and, tk_or, tk_not, tk_ct2, tk_isC, List.headD_cons, tk_up, tk_sca, tk_scl, x_hasClient, tk_bo_0, hc, -not_and]
    exact hQ
theorem m_can_n {F1 F2 F3 : tk_F} {c z w : Int} {μ : tk_M} {Q : Int → tk_M → Prop} (hm : 0 ≤ μ 96 5 ∧ μ 96 5 ≤ 8) (hno : ¬ ((0 ≤ c ∧ c < μ 96 5) ∧ (0 ≤ w ∧ w ≤ 1))) (hQ : Q (-1) (tk_set μ 96 24 0)) : (tk_fn [2, 0, 0, 0] (tk_sq (tk_pf 7 24 (tk_loc 0) (tk_lit (0))) (tk_sq (tk_if (tk_or (tk_not (tk_zne (tk_cv 7 tkF_X7_isClient [(tk_loc 0), (tk_loc 1)]))) (tk_not (tk_zne (tk_cs tkF_X7_in [(tk_loc 3), (tk_lit (0)), (tk_lit (1))])))) (tk_re (tk_lit (-1))) tk_sk) (tk_sq (tk_se 4 (tk_lit (0))) (tk_sq (tk_se 5 (tk_lit (-5))) (tk_sq (tk_xp (tk_cv 7 F1 [(tk_loc 0)])) (tk_sq (tk_xp (tk_cv 7 F2 [(tk_loc 0)])) (tk_sq (tk_sq (tk_se 6 (tk_lit (9))) (tk_wh (tk_zge (tk_loc 6)) (tk_sq (tk_sq (tk_as 0 (tk_gr 7 (5) (tk_loc 0)) (tk_loc 1) (tk_loc 6)) (tk_sq (tk_se 7 (tk_cv 7 F3 [(tk_loc 0), (tk_loc 2)])) (tk_sq (tk_se 4 (tk_bin tk_iadd (tk_loc 4) (tk_ter (tk_zne (tk_loc 7)) (tk_lit (1)) (tk_lit (0))))) (tk_se 5 (tk_ter (tk_zne (tk_loc 7)) (tk_loc 6) (tk_loc 5)))))) (tk_se 6 (tk_bin tk_iadd (tk_loc 6) (tk_lit (-1))))))) (tk_re (tk_ter (tk_zeq (tk_loc 3)) (tk_loc 4) (tk_loc 5))))))))))) [96, c, z, w] Q μ := by
  by_cases hc : 0 ≤ c ∧ c < μ 96 5
  · have hw : ¬ (0 ≤ w ∧ w ≤ 1) := fun z => hno ⟨hc, z⟩
    simp [tk_fn, tk_env, tk_sq, tk_sk, tk_if, tk_re, tk_rez, tk_rev, tk_xp, tk_se, tk_pf, tk_pfz, tk_pfo, tk_as, tk_asz, tk_asb, tk_aso, tk_cpy, tk_sw, tk_swc, tk_lit, tk_loc, tk_u1, tk_bin, tk_dv, tk_gf, tk_gr, tk_gn, tk_ald, tk_aldq, tk_aln, tk_unl, tk_una, tk_ter, tk_args, tk_cs, tk_cv, tk_ceq, tk_cne, tk_clt, tk_cge, tk_cgt, tk_cle, tk_zeq, tk_zne, tk_zlt, tk_zge, tk_zgt, tk_zle, tk_and, tk_or, tk_not, tk_ct2, tk_isC, List.headD_cons, tk_up, tk_sca, tk_scl, m_isClient, m_in, tk_set_j, hm.1, hm.2, tk_bo_0, hc.1, hc.2, show ¬ μ 96 5 ≤ c from by omega, hw, -not_and]
    exact hQ
  · simp [tk_fn, tk_env, tk_sq, tk_sk, tk_if, tk_re, tk_rez, tk_rev, tk_xp, tk_se, tk_pf, tk_pfz, tk_pfo, tk_as, tk_asz, tk_asb, tk_aso, tk_cpy, tk_sw, tk_swc, tk_lit, tk_loc, tk_u1, tk_bin, tk_dv, tk_gf, tk_gr, tk_gn, tk_ald, tk_aldq, tk_aln, tk_unl, tk_una, tk_ter, tk_args, tk_cs, tk_cv, tk_ceq, tk_cne, tk_clt, tk_cge, tk_cgt, tk_cle, tk_zeq, tk_zne, tk_zlt, tk_zge, tk_zgt, tk_zle, tk_and, tk_or, tk_not, tk_ct2, tk_isC, List.headD_cons, tk_up, tk_sca, tk_scl, m_isClient, tk_set_j, hm.1, hm.2, tk_bo_0, hc, -not_and]
    exact hQ
theorem tk_II_5 {S : tk_M} (h : tk_II S) {c v : Int} (hv : 0 ≤ v ∧ v ≤ 9) : tk_II (tk_set S 5 c v) := by
  obtain ⟨b0, b1, b2, b3, b4, b5, b6, b7, b8⟩ := h
  unfold tk_II tk_I0 tk_I1 tk_I2 tk_I3 tk_I4 tk_I5 tk_I6 tk_I7 tk_I8 at *
  simp [tk_set] at *
  refine ⟨b0, b1, fun i h3 h4 => ?_, b3, b4, b5, b6, b7, b8⟩
  have := b2 i h3 h4
  by_cases hi : i = c
  · simp [hi] at this ⊢
    exact ⟨this.1, hv, this.2.2⟩
  · simpa [hi] using this
theorem tk_EE_5 {S T : tk_M} (h : tk_EE S T) {c v : Int} : tk_EE (tk_set S 5 c v) (tk_set T 5 c v) := by
  obtain ⟨a1, a2, a3, a4, a5, a6, a7⟩ := h
  unfold tk_EE tk_E0 tk_E1 tk_E2 tk_E3 tk_E4 tk_E5 tk_E6 at *
  simp [tk_set] at *
  refine ⟨a1, a2, fun i h3 h4 => ?_, a4, a5, a6, a7⟩
  have := a3 i h3 h4
  by_cases hi : i = c
  · simp [hi] at this ⊢
    exact ⟨this.1, this.2.2⟩
  · simpa [hi] using this
theorem tk_mv_101 {μ : tk_M} {i v : Int} : tk_mv (tk_set μ 101 i v) = tk_set (tk_mv μ) 5 i v := by
  funext f j
  unfold tk_mv tk_set
  by_cases h : f = 5
  · subst h; simp
  · simp [h]
theorem tk_sv_5 {S : tk_M} {c v p : Int} : tk_sv (tk_set S 5 c v) p = tk_sv S p := by
  unfold tk_sv
  rw [tk_set_o (by omega)]
  exact tk_sm_congr (fun o _ _ => by rw [tk_set_o (by omega)])
theorem tk_rd_5 {sh : Int → Int} {S : tk_M} {c v p : Int} : tk_rd sh (tk_set S 5 c v) p = tk_rd sh S p := by
  unfold tk_rd tk_we
  rw [tk_sv_5, tk_set_o (by omega), tk_set_o (by omega), tk_set_o (by omega)]
theorem tk_tot_5 {sh : Int → Int} {S : tk_M} {c v : Int} : tk_tot sh (tk_set S 5 c v) = tk_tot sh S := by
  unfold tk_tot
  rw [tk_set_o (by omega)]
  exact tk_sm_congr (fun p _ _ => by
    unfold tk_rw
    rw [tk_rd_5]
    unfold tk_we
    rw [tk_set_o (by omega)])
theorem tk_xd_5 {sh : Int → Int} {μ : tk_M} {c v : Int} (h : tk_xd 31 sh μ) : tk_xd 31 sh (tk_set μ 36 c v) := by
  have e : tk_hw 31 (tk_set μ 36 c v) = tk_set (tk_hw 31 μ) 5 c v := tk_hw_set (h := 31) (f := 5) (by omega)
  obtain ⟨h1, h2, h3, h4⟩ := h
  unfold tk_xd
  rw [e]
  refine ⟨fun p h5 h6 => ?_, by rw [tk_set_o (by omega)]; exact h2, fun p => ?_, ?_⟩
  · rw [tk_set_o (by omega)] at h6 ⊢
    unfold tk_we
    rw [tk_set_o (by omega)]
    exact h1 p h5 h6
  · rw [tk_set_o (by omega), tk_set_o (by omega), tk_rd_5]
    exact h3 p
  · rw [tk_set_o (by omega), tk_tot_5]
    exact h4
theorem tk_xsh_5 {sh : Int → Int} {μ : tk_M} {c v : Int} (h : tk_xsh 31 sh μ) : tk_xsh 31 sh (tk_set μ 36 c v) := by
  have e : tk_hw 31 (tk_set μ 36 c v) = tk_set (tk_hw 31 μ) 5 c v := tk_hw_set (h := 31) (f := 5) (by omega)
  refine tk_xsh_fx h (fun i => tk_set_o (by omega)) (tk_set_o (by omega)) (fun p => by rw [e, tk_sv_5])
theorem c_can (c z w : Int) : tk_cp tkF_X6_can tkF_X7_can [c, z, w] := by
  intro μ hR K hK; have hT := tk_R_thr (v := 0) hR; obtain ⟨hE, hI, hIm⟩ := tk_R_S hR; obtain ⟨e1, e2, e3, e4, e5, e6, e7, e8, e9, hc, hn, hm, hk⟩ := tk_R_n hR; have hJx := (tk_J_of hI).1; have hJm := (tk_J_of hIm).1; have hshb := tk_shr_shb hI.1 hI.2.1 (tk_I5s hI).2.2.2.1; have hshe := tk_shr_EE hE hI; have hQE := tk_EQ_of hE
  by_cases hno : ¬ ((0 ≤ c ∧ c < μ 1 2) ∧ (0 ≤ w ∧ w ≤ 1))
  · exact x_can_n hno (m_can_n (by rw [e3]; exact hm) (by rw [e3]; exact hno) (hK _ _ hT))
  obtain ⟨hv, hw⟩ : (0 ≤ c ∧ c < μ 1 2) ∧ (0 ≤ w ∧ w ≤ 1) := Classical.byContradiction hno
  have hz11 : 0 ≤ tk_hw 1 μ 11 0 := hI.2.2.2.2.1.1.1
  refine x_can_a (P := fun v => tk_AS (tk_shr (tk_hw 1 μ)) (tk_set (tk_hw 1 μ) 5 c v) z) hv (by omega) hw (fun v μ1 hs0 hs9 hf1 K2 hK2 => ?_) (fun μ1 hf1 => ?_)
  · have hT1 : tk_hw 1 μ1 = tk_hw 1 μ := tk_hw_f1 hf1 (by omega)
    refine x_begin (by rw [hT1]; exact hI) (fun μ2 hf2 hE2 hs2 hd2 ha2 => ?_)
    rw [hT1] at hE2 hs2 hd2
    have hI2 := tk_II_EE hE2 hI
    have e : tk_hw 31 (tk_set μ2 36 c v) = tk_set (tk_hw 31 μ2) 5 c v := tk_hw_set (h := 31) (f := 5) (by omega)
    have hE3 := tk_EE_5 hE2 (c := c) (v := v)
    have hI3 := tk_II_5 hI2 (c := c) (v := v) ⟨hs0, hs9⟩
    have hAS := tk_AS_eq (sh := tk_shr (tk_hw 1 μ)) hE3.2.2.2.2.1 (tk_EQ_of hE3) (by rw [tk_set_o (by omega)]; exact hz11) (by rw [tk_set_o (by omega)]; exact hm.1) (z := z)
    have hf3 : ∀ μ3, tk_fx 31 (tk_set μ2 36 c v) μ3 → tk_f1 31 60 μ μ3 := fun μ3 h o i ho => by
      rw [h o i (by omega)]
      unfold tk_set
      rw [if_neg (by omega), hf2 o i ho, hf1 o i ho]
    refine x_drawsAsSeen (sh := tk_shr (tk_hw 1 μ)) (by rw [e]; exact tk_J_of hI3) (by rw [e]; exact hI3.2.2.2.2.1) hshb (tk_xsh_5 hs2) (tk_xd_5 hd2) (fun μ3 h3 hA => ?_) (fun μ3 h3 hA => ?_)
    · rw [e] at hA
      exact (hK2 μ3 (hf3 μ3 h3)).1 (hAS.mp hA)
    · rw [e] at hA
      exact (hK2 μ3 (hf3 μ3 h3)).2 (fun z => hA (hAS.mpr z))
  · have q5 : μ1 96 5 = μ 1 2 := by rw [hf1 _ _ (by omega), e3]
    refine m_can_a (P := fun v => tk_AS (tk_shr (tk_hw 1 μ)) (tk_set (tk_hw 1 μ) 5 c v) z) (I := tk_mS μ) (by rw [q5]; exact hm) (by rw [q5]; exact hv) (by omega) hw (m_start hR hf1) (fun v m hs0 hs9 hm2 K2 hK2 => ?_) (fun m hm2 => hK _ _ hm2.1)
    obtain ⟨hRm, htr, hcc, hmq⟩ := hm2
    have hE2 := tk_EE_m hR hcc
    have hI2 := tk_II_EE hE2 hI
    have hE3 := tk_EE_5 hE2 (c := c) (v := v)
    have hI3 := tk_II_5 hI2 (c := c) (v := v) ⟨hs0, hs9⟩
    have hAS := tk_AS_eq (sh := tk_shr (tk_hw 1 μ)) hE3.2.2.2.2.1 (tk_EQ_of hE3) (by rw [tk_set_o (by omega)]; exact hz11) (by rw [tk_set_o (by omega)]; exact hm.1) (z := z)
    have htr2 : tk_tr μ (tk_set m 101 c v) := by
      refine ⟨fun o i ho => ?_, ?_⟩
      · unfold tk_set
        rw [if_neg (by unfold tk_sc2 at ho; omega)]
        exact htr.1 o i ho
      · have e : tk_iv 113 (tk_set m 101 c v) = tk_iv 113 m := by
          have e : ∀ j, tk_set m 101 c v 113 j = m 113 j := fun j => tk_set_o (by omega)
          funext f i
          unfold tk_iv
          simp only [e]
        rw [e]
        exact htr.2
    refine m_allSeen (sh := tk_shr (tk_hw 1 μ)) hR htr2 (by rw [tk_mv_101]; exact tk_J_of hI3) (by rw [tk_mv_101]; exact hI3.2.2.2.2.1) hshb (fun a h5 h6 => by rw [tk_set_o (by omega)]; exact hmq a h5 h6) (fun m3 r3 hR3 htr3 hc3 hmq3 hr3 => ?_)
    have hk := hK2 m3 ⟨hR3, htr3, hc3, hmq3⟩
    rw [tk_mv_101] at hr3
    rcases hr3 with ⟨rfl, hA⟩ | ⟨rfl, hA⟩
    · exact hk.1 (hAS.mp hA)
    · exact hk.2 (fun z => hA (hAS.mpr z))
