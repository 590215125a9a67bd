/-! ===== Layer 2: the Dealer ===== -/
/-- SHARES and who is awaited are right -/
def tk_xsh (h : Int) (sh : Int → Int) (μ : tk_M) : Prop := (∀ a : Int, 0 ≤ a → a < 8 → μ (h + 29) a = sh a) ∧ tk_bs2 8 (μ (h + 22) 8) ∧ ∀ c : Int, 0 ≤ c → c < 8 → (tk_bit (μ (h + 22) 8) c ↔ 0 < tk_sv (tk_hw h μ) c)
/-- WEIGHTS, who is READY, TOTAL are right -/
def tk_xd (h : Int) (sh : Int → Int) (μ : tk_M) : Prop := (∀ c : Int, 0 ≤ c → c < μ h 2 → μ (h + 21) c = tk_we sh (tk_hw h μ) c) ∧ tk_bs2 8 (μ (h + 20) 3) ∧ (∀ c : Int, tk_bit (μ (h + 20) 3) c ↔ (0 ≤ c ∧ c < μ h 2) ∧ tk_rd sh (tk_hw h μ) c = 1) ∧ μ (h + 20) 4 = tk_tot sh (tk_hw h μ)
theorem tk_hw_fx {h : Int} {μ μ' : tk_M} (hf : ∀ o i : Int, ¬ (o = h + 20 ∨ o = h + 21) → μ' o i = μ o i) : tk_hw h μ' = tk_hw h μ := by
  funext f i
  unfold tk_hw
  split
  · exact hf _ _ (by omega)
  · rfl
theorem tk_xsh_fx {h : Int} {sh : Int → Int} {μ μ' : tk_M} (hx : tk_xsh h sh μ) (hf : ∀ i : Int, μ' (h + 29) i = μ (h + 29) i) (h8 : μ' (h + 22) 8 = μ (h + 22) 8) (hs : ∀ c, tk_sv (tk_hw h μ') c = tk_sv (tk_hw h μ) c) : tk_xsh h sh μ' := by
  obtain ⟨h1, h2, h3⟩ := hx
  unfold tk_xsh
  refine ⟨fun a h4 h5 => by rw [hf]; exact h1 a h4 h5, by rw [h8]; exact h2, fun c h4 h5 => by rw [h8, hs]; exact h3 c h4 h5⟩
theorem tk_sv_spn {S : tk_M} {d c : Int} : tk_sv (tk_spn S d) c = tk_sv S c := by
  unfold tk_sv
  rw [tk_spn_02]
  exact tk_sm_congr (fun o _ _ => by rw [tk_spn_o (by omega) (by omega) (by omega)])
theorem tk_sv_gro {S : tk_M} {d st c : Int} : tk_sv (tk_gro S d st) c = tk_sv S c := by
  unfold tk_sv
  rw [tk_gro_02]
  exact tk_sm_congr (fun o _ _ => by rw [tk_gro_o (by omega) (by omega)])
theorem tk_sv_qp {sh : Int → Int} {S : tk_M} {c : Int} : tk_sv (tk_qp sh S) c = tk_sv S c := by
  unfold tk_qp
  rw [tk_sv_spn]
  split
  · rfl
  · exact tk_sv_gro
theorem x_isReady1 {sh : Int → Int} {μ : tk_M} {Q : Int → tk_M → Prop} {c : Int} (hx : tk_xd 1 sh μ) (hc : 0 ≤ c ∧ c < μ 1 2) (hn : μ 1 2 ≤ 8) : tkF_X0_isReady [21, c] Q μ = Q (tk_rd sh (tk_hw 1 μ) c) μ := by
  obtain ⟨-, h2, h3, -⟩ := hx
  have h2' : tk_bs2 8 (μ 21 3) := h2
  have h3' : tk_bit (μ 21 3) c ↔ tk_rd sh (tk_hw 1 μ) c = 1 := ⟨fun z => ((h3 c).mp z).2, fun z => (h3 c).mpr ⟨hc, z⟩⟩
  have hb := tk_bit_0 (tk_bs_r (by omega) h2') (k := c) (by omega)
  rcases tk_rd_01 (sh := sh) (S := tk_hw 1 μ) (c := c) with e | e
  · rw [e] at h3' ⊢
    have h4 : tk_iand (tk_ishr (μ 21 3) c) 1 = 0 := by rw [hb]; intro z; have := h3'.mp z; omega
    simp [tk_fn, tk_env, tk_sq, tk_sk, tk_if, tk_re, tk_rez, tk_rev, tk_xp, tk_se, tk_pf, tk_pfz, tk_pfo, tk_as, tk_asz, tk_asb, tk_aso, tk_cpy, tk_sw, tk_swc, tk_lit, tk_loc, tk_u1, tk_bin, tk_dv, tk_gf, tk_gr, tk_gn, tk_ald, tk_aldq, tk_aln, tk_unl, tk_una, tk_ter, tk_args, tk_cs, tk_cv, tk_ceq, tk_cne, tk_clt, tk_cge, tk_cgt, tk_cle, tk_zeq, tk_zne, tk_zlt, tk_zge, tk_zgt, tk_zle, tk_and, tk_or, tk_not, tk_ct2, tk_isC, List.headD_cons, tk_up, tk_sca, tk_scl, tkF_X0_isReady, tkS_X0_isReady, h4]
  · rw [e] at h3' ⊢
    have h4 : ¬ tk_iand (tk_ishr (μ 21 3) c) 1 = 0 := by rw [hb]; intro z; exact z (h3'.mpr rfl)
    simp [tk_fn, tk_env, tk_sq, tk_sk, tk_if, tk_re, tk_rez, tk_rev, tk_xp, tk_se, tk_pf, tk_pfz, tk_pfo, tk_as, tk_asz, tk_asb, tk_aso, tk_cpy, tk_sw, tk_swc, tk_lit, tk_loc, tk_u1, tk_bin, tk_dv, tk_gf, tk_gr, tk_gn, tk_ald, tk_aldq, tk_aln, tk_unl, tk_una, tk_ter, tk_args, tk_cs, tk_cv, tk_ceq, tk_cne, tk_clt, tk_cge, tk_cgt, tk_cle, tk_zeq, tk_zne, tk_zlt, tk_zge, tk_zgt, tk_zle, tk_and, tk_or, tk_not, tk_ct2, tk_isC, List.headD_cons, tk_up, tk_sca, tk_scl, tkF_X0_isReady, tkS_X0_isReady, h4]
theorem x_mayServe1 {b : Int} {sh : Int → Int} {μ : tk_M} {Q : Int → tk_M → Prop} {c : Int} (hJ : tk_J b (tk_hw 1 μ)) (hx : tk_xsh 1 sh μ) (hc : 0 ≤ c ∧ c < μ 1 2) (hQ : Q (tk_bo ((¬ μ 5 c = 2 ∧ ¬ μ 5 c = 5) ∨ 0 < tk_sv (tk_hw 1 μ) c)) μ) : tkF_X0_mayServe [21, c] Q μ := by
  obtain ⟨g1, g2, g3, g4, g5⟩ := x_hJ1 hJ
  have hk := (g4 c hc.1 hc.2).1
  obtain ⟨-, h2, h3⟩ := hx
  have h2' : tk_bs2 8 (μ 23 8) := h2
  have h3' : tk_bit (μ 23 8) c ↔ 0 < tk_sv (tk_hw 1 μ) c := h3 c hc.1 (by omega)
  have hb := tk_bit_0 (tk_bs_r (by omega) h2') (k := c) (by omega)
  have hkd : tk_kd (μ 5 c) 2 ↔ (μ 5 c = 2 ∨ μ 5 c = 5) := by
    unfold tk_kd tk_up1
    constructor
    · intro z
      repeat' split at z
      all_goals omega
    · rintro (z | z) <;> rw [z] <;> simp
  simp [tk_fn, tk_env, tk_sq, tk_sk, tk_if, tk_re, tk_rez, tk_rev, tk_xp, tk_se, tk_pf, tk_pfz, tk_pfo, tk_as, tk_asz, tk_asb, tk_aso, tk_cpy, tk_sw, tk_swc, tk_lit, tk_loc, tk_u1, tk_bin, tk_dv, tk_gf, tk_gr, tk_gn, tk_ald, tk_aldq, tk_aln, tk_unl, tk_una, tk_ter, tk_args, tk_cs, tk_cv, tk_ceq, tk_cne, tk_clt, tk_cge, tk_cgt, tk_cle, tk_zeq, tk_zne, tk_zlt, tk_zge, tk_zgt, tk_zle, tk_and, tk_or, tk_not, tk_ct2, tk_isC, List.headD_cons, tk_up, tk_sca, tk_scl, tkF_X0_mayServe, tkS_X0_mayServe]
  refine x_isOf1 ⟨hc.1, by omega⟩ hk (by omega) (fun hkt => ?_) (fun hkf => ?_)
  · rw [hkd] at hkt
    by_cases hs : 0 < tk_sv (tk_hw 1 μ) c
    · rw [tk_bo_t (.inr hs)] at hQ
      have h4 : ¬ tk_iand (tk_ishr (μ 23 8) c) 1 = 0 := by rw [hb]; intro z; exact z (h3'.mpr hs)
      simpa [h4] using hQ
    · rw [tk_bo_f (by omega)] at hQ
      have h4 : tk_iand (tk_ishr (μ 23 8) c) 1 = 0 := by rw [hb]; intro z; exact hs (h3'.mp z)
      simpa [h4] using hQ
  · rw [hkd] at hkf
    rw [tk_bo_t (.inl (by omega))] at hQ
    simpa using hQ
theorem x_weigh1 {b : Int} {sh : Int → Int} {μ : tk_M} {Q : Int → tk_M → Prop} (hJ : tk_J b (tk_hw 1 μ)) (hb : tk_shb sh) (hx : tk_xsh 1 sh μ) (hQ : ∀ μ', (∀ o i : Int, ¬ (o = 21 ∨ o = 22) → μ' o i = μ o i) → tk_xsh 1 sh μ' → tk_xd 1 sh μ' → Q 0 μ') : tkF_X0_weigh [21] Q μ := by
  obtain ⟨g1, g2, g3, g4, g5⟩ := x_hJ1 hJ
  have hbd := fun i hi => tk_rwp_bd hJ hb i hi
  have hbw := fun c hc => tk_rw_bd hJ hb (c := c) hc
  have hwb := fun c hc => tk_we_bd hJ hb (c := c) hc
  have hnP : tk_hw 1 μ 0 2 = μ 1 2 := rfl
  have s1 : ∀ a : Int, 0 ≤ a → a < 8 → μ 30 a = sh a := hx.1
  simp [tk_fn, tk_env, tk_sq, tk_sk, tk_if, tk_re, tk_rez, tk_rev, tk_xp, tk_se, tk_pf, tk_pfz, tk_pfo, tk_as, tk_asz, tk_asb, tk_aso, tk_cpy, tk_sw, tk_swc, tk_lit, tk_loc, tk_u1, tk_bin, tk_dv, tk_gf, tk_gr, tk_gn, tk_ald, tk_aldq, tk_aln, tk_unl, tk_una, tk_ter, tk_args, tk_cs, tk_cv, tk_ceq, tk_cne, tk_clt, tk_cge, tk_cgt, tk_cle, tk_zeq, tk_zne, tk_zlt, tk_zge, tk_zgt, tk_zle, tk_and, tk_or, tk_not, tk_ct2, tk_isC, List.headD_cons, tk_up, tk_sca, tk_scl, tkF_X0_weigh, tkS_X0_weigh]
  refine tk_for (μ 1 2) (fun i ρ μ' => ρ 0 = 21 ∧ ρ 1 = i ∧ (∀ o i : Int, ¬ (o = 21 ∨ o = 22) → μ' o i = μ o i) ∧ (∀ c : Int, 0 ≤ c → c < i → μ' 22 c = tk_we sh (tk_hw 1 μ) c) ∧ tk_bs2 8 (μ' 21 3) ∧ (∀ c : Int, tk_bit (μ' 21 3) c ↔ (0 ≤ c ∧ c < i) ∧ tk_rd sh (tk_hw 1 μ) c = 1) ∧ μ' 21 4 = tk_sm i (tk_rw sh (tk_hw 1 μ))) g1.1 ⟨rfl, rfl, fun o i ho => by rw [tk_set_o (by omega), tk_set_o (by omega)], fun c h1 h2 => by omega, by simp [tk_set]; exact tk_bs_0 8, fun c => ?_, by simp [tk_set, tk_sm_0]⟩ ?_ ?_
  · have e : tk_set (tk_set μ 21 3 0) 21 4 0 21 3 = 0 := by simp [tk_set]
    rw [e]
    exact ⟨fun z => absurd z (tk_bit_z c), fun z => by omega⟩
  · rintro i ρ μ' hi0 hi6 ⟨r0, r1, hf, hw, hs, hr, ht⟩ K hK
    have i1 : tk_iadd i 1 = i + 1 := tk_iadd_id (by omega) (by omega)
    have h8 : i < 8 := by omega
    have h := g4 i hi0 hi6
    have h2 := hb i
    have e1 : μ' 1 2 = μ 1 2 := hf _ _ (by omega)
    have e2 : μ' 30 i = sh i := by rw [hf _ _ (by omega)]; exact s1 i hi0 h8
    have e3 : μ' 8 i = μ 8 i := hf _ _ (by omega)
    have e4 : μ' 10 i = μ 10 i := hf _ _ (by omega)
    have e5 : μ' 5 i = μ 5 i := hf _ _ (by omega)
    have hT : tk_hw 1 μ' = tk_hw 1 μ := tk_hw_fx hf
    have l1 : tk_lmul 10 (sh i) = 10 * sh i := tk_lmul_id (by omega) (by omega)
    have l2 : tk_ldiv (10 * sh i) (μ 8 i) = tk_we sh (tk_hw 1 μ) i := tk_ldiv_id (by omega) (by omega)
    have hu : 0 < μ 8 i := by omega
    have hb1 := hbd i ⟨hi0, by omega⟩
    have hb2 := hbw i ⟨hi0, by omega⟩
    have hsm : tk_sm (i + 1) (tk_rw sh (tk_hw 1 μ)) = tk_sm i (tk_rw sh (tk_hw 1 μ)) + tk_rw sh (tk_hw 1 μ) i := tk_sm_s hi0
    have hrd : tk_rd sh (tk_hw 1 μ) i = tk_bo (μ 10 i = -5 ∧ 0 < tk_we sh (tk_hw 1 μ) i ∧ ((¬ μ 5 i = 2 ∧ ¬ μ 5 i = 5) ∨ 0 < tk_sv (tk_hw 1 μ) i)) := rfl
    have hrw : tk_rw sh (tk_hw 1 μ) i = if tk_rd sh (tk_hw 1 μ) i = 1 then tk_we sh (tk_hw 1 μ) i else 0 := rfl
    have l3 : tk_ladd (tk_sm i (tk_rw sh (tk_hw 1 μ))) (tk_we sh (tk_hw 1 μ) i) = tk_sm i (tk_rw sh (tk_hw 1 μ)) + tk_we sh (tk_hw 1 μ) i := by
      have := hwb i ⟨hi0, hi6⟩
      exact tk_ladd_id (by omega) (by omega)
    have hf1 : ∀ o j : Int, ¬ (o = 21 ∨ o = 22) → tk_set μ' 22 i (tk_we sh (tk_hw 1 μ) i) o j = μ o j := fun o j ho => by rw [tk_set_o (by omega)]; exact hf o j ho
    have hw1 : ∀ c : Int, 0 ≤ c → c < i + 1 → tk_set μ' 22 i (tk_we sh (tk_hw 1 μ) i) 22 c = tk_we sh (tk_hw 1 μ) c := fun c h1 h2 => by
      by_cases hc : c = i
      · subst hc; rw [tk_set_eq]
      · rw [tk_set_j hc]; exact hw c h1 (by omega)
    -- not READY
    have no : ¬ tk_rd sh (tk_hw 1 μ) i = 1 → ∀ ρ2 : tk_L, ρ2 0 = 21 → ρ2 1 = i + 1 → K ρ2 (tk_set μ' 22 i (tk_we sh (tk_hw 1 μ) i)) := fun hn ρ2 q0 q1 => by
      refine hK _ _ ⟨q0, q1, hf1, hw1, by rw [tk_set_o (by omega)]; exact hs, fun c => ?_, ?_⟩
      · rw [tk_set_o (by omega), hr]
        constructor
        · rintro ⟨z1, z2⟩; exact ⟨by omega, z2⟩
        · rintro ⟨z1, z2⟩
          refine ⟨⟨z1.1, ?_⟩, z2⟩
          by_cases hc : c = i
          · subst hc; exact absurd z2 hn
          · omega
      · rw [tk_set_o (by omega), ht, hsm, hrw, if_neg hn]
        omega
    -- READY
    have yes : tk_rd sh (tk_hw 1 μ) i = 1 → ∀ ρ2 : tk_L, ρ2 0 = 21 → ρ2 1 = i + 1 → K ρ2 (tk_set (tk_set (tk_set μ' 22 i (tk_we sh (tk_hw 1 μ) i)) 21 3 (tk_ior (μ' 21 3) (tk_ishl 1 i))) 21 4 (tk_sm i (tk_rw sh (tk_hw 1 μ)) + tk_we sh (tk_hw 1 μ) i)) := fun hn ρ2 q0 q1 => by
      have hsh := tk_bs_sh (n := 8) (j := i) ⟨hi0, by omega⟩ (by omega)
      refine hK _ _ ⟨q0, q1, fun o j ho => ?_, fun c h1 h2 => ?_, ?_, fun c => ?_, ?_⟩
      · rw [tk_set_o (by omega), tk_set_o (by omega)]; exact hf1 o j ho
      · rw [tk_set_o (by omega), tk_set_o (by omega)]; exact hw1 c h1 h2
      · rw [tk_set_j (by omega), tk_set_eq]
        exact tk_bs_or (by omega) hs hsh
      · rw [tk_set_j (by omega), tk_set_eq, tk_bit_or (n := 8) (by omega) hs hsh, hr, tk_bit_sh (by omega)]
        constructor
        · rintro (⟨z1, z2⟩ | z)
          · exact ⟨by omega, z2⟩
          · subst z; exact ⟨by omega, hn⟩
        · rintro ⟨z1, z2⟩
          by_cases hc : c = i
          · exact .inr hc
          · exact .inl ⟨by omega, z2⟩
      · rw [tk_set_eq, hsm, hrw, if_pos hn]
    simp [tk_fn, tk_env, tk_sq, tk_sk, tk_if, tk_re, tk_rez, tk_rev, tk_xp, tk_se, tk_pf, tk_pfz, tk_pfo, tk_as, tk_asz, tk_asb, tk_aso, tk_cpy, tk_sw, tk_swc, tk_lit, tk_loc, tk_u1, tk_bin, tk_dv, tk_gf, tk_gr, tk_gn, tk_ald, tk_aldq, tk_aln, tk_unl, tk_una, tk_ter, tk_args, tk_cs, tk_cv, tk_ceq, tk_cne, tk_clt, tk_cge, tk_cgt, tk_cle, tk_zeq, tk_zne, tk_zlt, tk_zge, tk_zgt, tk_zle, tk_and, tk_or, tk_not, tk_ct2, tk_isC, List.headD_cons, tk_up, tk_sca, tk_scl, r0, r1, hi0, hi6, h8, tk_al_2, tk_al_3, tk_al_4, tk_al_5, tk_al_6, tk_al_7, tk_al_8, tk_al_9, tk_al_10, tk_al_11, tk_al_13, tk_al_14, tk_al_16, tk_al_17, tk_al_19, tk_al_20, tk_al_22, tk_al_24, tk_al_25, tk_al_26, tk_al_27, tk_al_28, tk_al_29, tk_al_30, tk_al_32, tk_al_33, tk_al_34, tk_al_35, tk_al_36, tk_al_37, tk_al_38, tk_al_39, tk_al_40, tk_al_41, tk_al_43, tk_al_44, tk_al_46, tk_al_47, tk_al_49, tk_al_50, tk_al_52, tk_al_54, tk_al_55, tk_al_56, tk_al_57, tk_al_58, tk_al_59, tk_al_60, tk_al_62, tk_al_63, tk_al_64, tk_al_65, tk_al_66, tk_al_67, tk_al_68, tk_al_69, tk_al_70, tk_al_71, tk_al_73, tk_al_74, tk_al_76, tk_al_77, tk_al_79, tk_al_80, tk_al_81, tk_al_83, tk_al_85, tk_al_87, tk_al_89, tk_al_91, tk_al_93, tk_al_95, tk_al_97, tk_al_98, tk_al_99, tk_al_100, tk_al_101, tk_al_102, tk_al_103, tk_al_104, tk_al_105, tk_al_106, tk_al_107, tk_al_108, tk_al_109, tk_al_110, tk_al_111, tk_al_112, tk_al_113, tk_al_114, tk_al_115, tk_al_116, tk_al_117, tk_al_118, tk_al_119, tk_al_120, tk_al_121, tk_al_122, tk_al_123, tk_al_124, tk_al_125, tk_al_126, tk_al_127, tk_al_128, tk_al_129, i1, e1, e2, e3, x_cutBy, l1, l2, hu, tk_set_eq]
    by_cases hp : 0 < tk_we sh (tk_hw 1 μ) i
    · by_cases hq : μ 10 i = -5
      · simp [hp, hi0, h8, tk_al_2, tk_al_3, tk_al_4, tk_al_5, tk_al_6, tk_al_7, tk_al_8, tk_al_9, tk_al_10, tk_al_11, tk_al_13, tk_al_14, tk_al_16, tk_al_17, tk_al_19, tk_al_20, tk_al_22, tk_al_24, tk_al_25, tk_al_26, tk_al_27, tk_al_28, tk_al_29, tk_al_30, tk_al_32, tk_al_33, tk_al_34, tk_al_35, tk_al_36, tk_al_37, tk_al_38, tk_al_39, tk_al_40, tk_al_41, tk_al_43, tk_al_44, tk_al_46, tk_al_47, tk_al_49, tk_al_50, tk_al_52, tk_al_54, tk_al_55, tk_al_56, tk_al_57, tk_al_58, tk_al_59, tk_al_60, tk_al_62, tk_al_63, tk_al_64, tk_al_65, tk_al_66, tk_al_67, tk_al_68, tk_al_69, tk_al_70, tk_al_71, tk_al_73, tk_al_74, tk_al_76, tk_al_77, tk_al_79, tk_al_80, tk_al_81, tk_al_83, tk_al_85, tk_al_87, tk_al_89, tk_al_91, tk_al_93, tk_al_95, tk_al_97, tk_al_98, tk_al_99, tk_al_100, tk_al_101, tk_al_102, tk_al_103, tk_al_104, tk_al_105, tk_al_106, tk_al_107, tk_al_108, tk_al_109, tk_al_110, tk_al_111, tk_al_112, tk_al_113, tk_al_114, tk_al_115, tk_al_116, tk_al_117, tk_al_118, tk_al_119, tk_al_120, tk_al_121, tk_al_122, tk_al_123, tk_al_124, tk_al_125, tk_al_126, tk_al_127, tk_al_128, tk_al_129, tk_set_o, e4, hq]
        have hT1 : tk_hw 1 (tk_set μ' 22 i (tk_we sh (tk_hw 1 μ) i)) = tk_hw 1 μ := tk_hw_fx hf1
        refine x_mayServe1 (b := b) (sh := sh) (by rw [hT1]; exact hJ) (tk_xsh_fx hx (fun j => hf1 _ _ (by omega)) (hf1 _ _ (by omega)) (fun c => by rw [hT1])) ⟨hi0, by rw [hf1 _ _ (by omega)]; exact hi6⟩ ?_
        rw [hT1, hf1 5 i (by omega)]
        by_cases hm : (¬ μ 5 i = 2 ∧ ¬ μ 5 i = 5) ∨ 0 < tk_sv (tk_hw 1 μ) i
        · have hn : tk_rd sh (tk_hw 1 μ) i = 1 := by rw [hrd]; exact tk_bo_t ⟨hq, hp, hm⟩
          rw [tk_bo_t hm]
          simp [hi0, h8, tk_al_2, tk_al_3, tk_al_4, tk_al_5, tk_al_6, tk_al_7, tk_al_8, tk_al_9, tk_al_10, tk_al_11, tk_al_13, tk_al_14, tk_al_16, tk_al_17, tk_al_19, tk_al_20, tk_al_22, tk_al_24, tk_al_25, tk_al_26, tk_al_27, tk_al_28, tk_al_29, tk_al_30, tk_al_32, tk_al_33, tk_al_34, tk_al_35, tk_al_36, tk_al_37, tk_al_38, tk_al_39, tk_al_40, tk_al_41, tk_al_43, tk_al_44, tk_al_46, tk_al_47, tk_al_49, tk_al_50, tk_al_52, tk_al_54, tk_al_55, tk_al_56, tk_al_57, tk_al_58, tk_al_59, tk_al_60, tk_al_62, tk_al_63, tk_al_64, tk_al_65, tk_al_66, tk_al_67, tk_al_68, tk_al_69, tk_al_70, tk_al_71, tk_al_73, tk_al_74, tk_al_76, tk_al_77, tk_al_79, tk_al_80, tk_al_81, tk_al_83, tk_al_85, tk_al_87, tk_al_89, tk_al_91, tk_al_93, tk_al_95, tk_al_97, tk_al_98, tk_al_99, tk_al_100, tk_al_101, tk_al_102, tk_al_103, tk_al_104, tk_al_105, tk_al_106, tk_al_107, tk_al_108, tk_al_109, tk_al_110, tk_al_111, tk_al_112, tk_al_113, tk_al_114, tk_al_115, tk_al_116, tk_al_117, tk_al_118, tk_al_119, tk_al_120, tk_al_121, tk_al_122, tk_al_123, tk_al_124, tk_al_125, tk_al_126, tk_al_127, tk_al_128, tk_al_129, tk_set_o, tk_set_j, tk_set_eq, ht, l3]
          exact yes hn _ r0 rfl
        · have hn : ¬ tk_rd sh (tk_hw 1 μ) i = 1 := by rw [hrd, tk_bo_f (fun z => hm z.2.2)]; omega
          rw [tk_bo_f hm]
          simp
          exact no hn _ r0 rfl
      · have hn : ¬ tk_rd sh (tk_hw 1 μ) i = 1 := by rw [hrd, tk_bo_f (fun z => hq z.1)]; omega
        simp [hp, hi0, h8, tk_al_2, tk_al_3, tk_al_4, tk_al_5, tk_al_6, tk_al_7, tk_al_8, tk_al_9, tk_al_10, tk_al_11, tk_al_13, tk_al_14, tk_al_16, tk_al_17, tk_al_19, tk_al_20, tk_al_22, tk_al_24, tk_al_25, tk_al_26, tk_al_27, tk_al_28, tk_al_29, tk_al_30, tk_al_32, tk_al_33, tk_al_34, tk_al_35, tk_al_36, tk_al_37, tk_al_38, tk_al_39, tk_al_40, tk_al_41, tk_al_43, tk_al_44, tk_al_46, tk_al_47, tk_al_49, tk_al_50, tk_al_52, tk_al_54, tk_al_55, tk_al_56, tk_al_57, tk_al_58, tk_al_59, tk_al_60, tk_al_62, tk_al_63, tk_al_64, tk_al_65, tk_al_66, tk_al_67, tk_al_68, tk_al_69, tk_al_70, tk_al_71, tk_al_73, tk_al_74, tk_al_76, tk_al_77, tk_al_79, tk_al_80, tk_al_81, tk_al_83, tk_al_85, tk_al_87, tk_al_89, tk_al_91, tk_al_93, tk_al_95, tk_al_97, tk_al_98, tk_al_99, tk_al_100, tk_al_101, tk_al_102, tk_al_103, tk_al_104, tk_al_105, tk_al_106, tk_al_107, tk_al_108, tk_al_109, tk_al_110, tk_al_111, tk_al_112, tk_al_113, tk_al_114, tk_al_115, tk_al_116, tk_al_117, tk_al_118, tk_al_119, tk_al_120, tk_al_121, tk_al_122, tk_al_123, tk_al_124, tk_al_125, tk_al_126, tk_al_127, tk_al_128, tk_al_129, tk_set_o, e4, hq]
        exact no hn _ r0 rfl
    · have hn : ¬ tk_rd sh (tk_hw 1 μ) i = 1 := by rw [hrd, tk_bo_f (fun z => hp z.2.1)]; omega
      simp [hp, hi0, h8, tk_al_2, tk_al_3, tk_al_4, tk_al_5, tk_al_6, tk_al_7, tk_al_8, tk_al_9, tk_al_10, tk_al_11, tk_al_13, tk_al_14, tk_al_16, tk_al_17, tk_al_19, tk_al_20, tk_al_22, tk_al_24, tk_al_25, tk_al_26, tk_al_27, tk_al_28, tk_al_29, tk_al_30, tk_al_32, tk_al_33, tk_al_34, tk_al_35, tk_al_36, tk_al_37, tk_al_38, tk_al_39, tk_al_40, tk_al_41, tk_al_43, tk_al_44, tk_al_46, tk_al_47, tk_al_49, tk_al_50, tk_al_52, tk_al_54, tk_al_55, tk_al_56, tk_al_57, tk_al_58, tk_al_59, tk_al_60, tk_al_62, tk_al_63, tk_al_64, tk_al_65, tk_al_66, tk_al_67, tk_al_68, tk_al_69, tk_al_70, tk_al_71, tk_al_73, tk_al_74, tk_al_76, tk_al_77, tk_al_79, tk_al_80, tk_al_81, tk_al_83, tk_al_85, tk_al_87, tk_al_89, tk_al_91, tk_al_93, tk_al_95, tk_al_97, tk_al_98, tk_al_99, tk_al_100, tk_al_101, tk_al_102, tk_al_103, tk_al_104, tk_al_105, tk_al_106, tk_al_107, tk_al_108, tk_al_109, tk_al_110, tk_al_111, tk_al_112, tk_al_113, tk_al_114, tk_al_115, tk_al_116, tk_al_117, tk_al_118, tk_al_119, tk_al_120, tk_al_121, tk_al_122, tk_al_123, tk_al_124, tk_al_125, tk_al_126, tk_al_127, tk_al_128, tk_al_129, tk_set_o, e4]
      exact no hn _ r0 rfl
  · rintro ρ μ' ⟨r0, r1, hf, hw, hs, hr, ht⟩ X
    have e1 : μ' 1 2 = μ 1 2 := hf _ _ (by omega)
    have hT : tk_hw 1 μ' = tk_hw 1 μ := tk_hw_fx hf
    simp [tk_fn, tk_env, tk_sq, tk_sk, tk_if, tk_re, tk_rez, tk_rev, tk_xp, tk_se, tk_pf, tk_pfz, tk_pfo, tk_as, tk_asz, tk_asb, tk_aso, tk_cpy, tk_sw, tk_swc, tk_lit, tk_loc, tk_u1, tk_bin, tk_dv, tk_gf, tk_gr, tk_gn, tk_ald, tk_aldq, tk_aln, tk_unl, tk_una, tk_ter, tk_args, tk_cs, tk_cv, tk_ceq, tk_cne, tk_clt, tk_cge, tk_cgt, tk_cle, tk_zeq, tk_zne, tk_zlt, tk_zge, tk_zgt, tk_zle, tk_and, tk_or, tk_not, tk_ct2, tk_isC, List.headD_cons, tk_up, tk_sca, tk_scl, r0, r1, e1]
    refine hQ _ hf (tk_xsh_fx hx (fun j => hf _ _ (by omega)) (hf _ _ (by omega)) (fun c => by rw [hT])) ?_
    unfold tk_xd
    rw [hT, e1]
    exact ⟨hw, hs, hr, ht⟩
theorem x_deal1 {b : Int} {sh : Int → Int} {μ : tk_M} {Q : Int → tk_M → Prop} {c : Int} (hJ : tk_J b (tk_hw 1 μ)) (hbb : b ≤ 900000) (hb : tk_shb sh) (hx : tk_xsh 1 sh μ) (hc : c = -5 ∨ (0 ≤ c ∧ c < μ 1 2)) (hQ : ∀ μ', tk_fx 1 μ μ' → tk_hw 1 μ' = tk_spn (tk_hw 1 μ) c → tk_xsh 1 sh μ' → tk_xd 1 sh μ' → Q 0 μ') : tkF_X0_deal [21, c] Q μ := by
  simp [tk_fn, tk_env, tk_sq, tk_sk, tk_if, tk_re, tk_rez, tk_rev, tk_xp, tk_se, tk_pf, tk_pfz, tk_pfo, tk_as, tk_asz, tk_asb, tk_aso, tk_cpy, tk_sw, tk_swc, tk_lit, tk_loc, tk_u1, tk_bin, tk_dv, tk_gf, tk_gr, tk_gn, tk_ald, tk_aldq, tk_aln, tk_unl, tk_una, tk_ter, tk_args, tk_cs, tk_cv, tk_ceq, tk_cne, tk_clt, tk_cge, tk_cgt, tk_cle, tk_zeq, tk_zne, tk_zlt, tk_zge, tk_zgt, tk_zle, tk_and, tk_or, tk_not, tk_ct2, tk_isC, List.headD_cons, tk_up, tk_sca, tk_scl, tkF_X0_deal, tkS_X0_deal]
  refine x_spend1 hJ (by omega) hc (fun μ1 hf1 hd1 he1 => ?_)
  have hJ1 := tk_J_spn hJ (c := c) hc
  rw [← he1] at hJ1
  refine x_weigh1 hJ1.1 hb (tk_xsh_fx hx (fun j => hf1 _ _ (by omega)) (hf1 _ _ (by omega)) (fun c => by rw [he1, tk_sv_spn])) (fun μ2 hf2 hs2 hd2 => ?_)
  exact hQ _ (fun o i ho => by rw [hf2 o i (by omega), hf1 o i ho]) (by rw [tk_hw_fx hf2, he1]) hs2 hd2
theorem x_strideOf1 {b : Int} {sh : Int → Int} {μ : tk_M} {Q : Int → tk_M → Prop} {c : Int} (hJ : tk_J b (tk_hw 1 μ)) (hb : tk_shb sh) (hx : tk_xd 1 sh μ) (hc : 0 ≤ c ∧ c < μ 1 2) (hQ : Q (tk_std sh (tk_hw 1 μ) c) μ) : tkF_X0_strideOf [21, c] Q μ := by
  obtain ⟨g1, g2, g3, g4, g5⟩ := x_hJ1 hJ
  have hw := tk_we_bd hJ hb (c := c) hc
  have h8 : c < 8 := by omega
  have e : μ 22 c = tk_we sh (tk_hw 1 μ) c := hx.1 c hc.1 hc.2
  unfold tk_std at hQ
  generalize tk_we sh (tk_hw 1 μ) c = w at hw e hQ
  by_cases h : 0 < w
  · have h0 : ¬ w = 0 := by omega
    have h2 := tk_ediv_le (x := 100000000) (by omega) h
    have l1 : tk_ldiv 100000000 w = 100000000 / w := tk_ldiv_id (by omega) (by omega)
    have l2 : tk_mx (100000000 / w) 1 = if 100000000 / w < 1 then 1 else 100000000 / w := rfl
    have l3 : tk_l2i (if 100000000 / w < 1 then 1 else 100000000 / w) = if 100000000 / w < 1 then 1 else 100000000 / w := tk_std_l2i (by split <;> omega)
    rw [if_pos h] at hQ
    simp [tk_fn, tk_env, tk_sq, tk_sk, tk_if, tk_re, tk_rez, tk_rev, tk_xp, tk_se, tk_pf, tk_pfz, tk_pfo, tk_as, tk_asz, tk_asb, tk_aso, tk_cpy, tk_sw, tk_swc, tk_lit, tk_loc, tk_u1, tk_bin, tk_dv, tk_gf, tk_gr, tk_gn, tk_ald, tk_aldq, tk_aln, tk_unl, tk_una, tk_ter, tk_args, tk_cs, tk_cv, tk_ceq, tk_cne, tk_clt, tk_cge, tk_cgt, tk_cle, tk_zeq, tk_zne, tk_zlt, tk_zge, tk_zgt, tk_zle, tk_and, tk_or, tk_not, tk_ct2, tk_isC, List.headD_cons, tk_up, tk_sca, tk_scl, tkF_X0_strideOf, tkS_X0_strideOf, tk_al_2, tk_al_3, tk_al_4, tk_al_5, tk_al_6, tk_al_7, tk_al_8, tk_al_9, tk_al_10, tk_al_11, tk_al_13, tk_al_14, tk_al_16, tk_al_17, tk_al_19, tk_al_20, tk_al_22, tk_al_24, tk_al_25, tk_al_26, tk_al_27, tk_al_28, tk_al_29, tk_al_30, tk_al_32, tk_al_33, tk_al_34, tk_al_35, tk_al_36, tk_al_37, tk_al_38, tk_al_39, tk_al_40, tk_al_41, tk_al_43, tk_al_44, tk_al_46, tk_al_47, tk_al_49, tk_al_50, tk_al_52, tk_al_54, tk_al_55, tk_al_56, tk_al_57, tk_al_58, tk_al_59, tk_al_60, tk_al_62, tk_al_63, tk_al_64, tk_al_65, tk_al_66, tk_al_67, tk_al_68, tk_al_69, tk_al_70, tk_al_71, tk_al_73, tk_al_74, tk_al_76, tk_al_77, tk_al_79, tk_al_80, tk_al_81, tk_al_83, tk_al_85, tk_al_87, tk_al_89, tk_al_91, tk_al_93, tk_al_95, tk_al_97, tk_al_98, tk_al_99, tk_al_100, tk_al_101, tk_al_102, tk_al_103, tk_al_104, tk_al_105, tk_al_106, tk_al_107, tk_al_108, tk_al_109, tk_al_110, tk_al_111, tk_al_112, tk_al_113, tk_al_114, tk_al_115, tk_al_116, tk_al_117, tk_al_118, tk_al_119, tk_al_120, tk_al_121, tk_al_122, tk_al_123, tk_al_124, tk_al_125, tk_al_126, tk_al_127, tk_al_128, tk_al_129, hc.1, h8, e, h, h0, l1, l2, l3]
    exact hQ
  · rw [if_neg h] at hQ
    simp [tk_fn, tk_env, tk_sq, tk_sk, tk_if, tk_re, tk_rez, tk_rev, tk_xp, tk_se, tk_pf, tk_pfz, tk_pfo, tk_as, tk_asz, tk_asb, tk_aso, tk_cpy, tk_sw, tk_swc, tk_lit, tk_loc, tk_u1, tk_bin, tk_dv, tk_gf, tk_gr, tk_gn, tk_ald, tk_aldq, tk_aln, tk_unl, tk_una, tk_ter, tk_args, tk_cs, tk_cv, tk_ceq, tk_cne, tk_clt, tk_cge, tk_cgt, tk_cle, tk_zeq, tk_zne, tk_zlt, tk_zge, tk_zgt, tk_zle, tk_and, tk_or, tk_not, tk_ct2, tk_isC, List.headD_cons, tk_up, tk_sca, tk_scl, tkF_X0_strideOf, tkS_X0_strideOf, tk_al_2, tk_al_3, tk_al_4, tk_al_5, tk_al_6, tk_al_7, tk_al_8, tk_al_9, tk_al_10, tk_al_11, tk_al_13, tk_al_14, tk_al_16, tk_al_17, tk_al_19, tk_al_20, tk_al_22, tk_al_24, tk_al_25, tk_al_26, tk_al_27, tk_al_28, tk_al_29, tk_al_30, tk_al_32, tk_al_33, tk_al_34, tk_al_35, tk_al_36, tk_al_37, tk_al_38, tk_al_39, tk_al_40, tk_al_41, tk_al_43, tk_al_44, tk_al_46, tk_al_47, tk_al_49, tk_al_50, tk_al_52, tk_al_54, tk_al_55, tk_al_56, tk_al_57, tk_al_58, tk_al_59, tk_al_60, tk_al_62, tk_al_63, tk_al_64, tk_al_65, tk_al_66, tk_al_67, tk_al_68, tk_al_69, tk_al_70, tk_al_71, tk_al_73, tk_al_74, tk_al_76, tk_al_77, tk_al_79, tk_al_80, tk_al_81, tk_al_83, tk_al_85, tk_al_87, tk_al_89, tk_al_91, tk_al_93, tk_al_95, tk_al_97, tk_al_98, tk_al_99, tk_al_100, tk_al_101, tk_al_102, tk_al_103, tk_al_104, tk_al_105, tk_al_106, tk_al_107, tk_al_108, tk_al_109, tk_al_110, tk_al_111, tk_al_112, tk_al_113, tk_al_114, tk_al_115, tk_al_116, tk_al_117, tk_al_118, tk_al_119, tk_al_120, tk_al_121, tk_al_122, tk_al_123, tk_al_124, tk_al_125, tk_al_126, tk_al_127, tk_al_128, tk_al_129, hc.1, h8, e, h]
    exact hQ
theorem x_next1 {b : Int} {sh : Int → Int} {μ : tk_M} {Q : Int → tk_M → Prop} (hJ : tk_J b (tk_hw 1 μ)) (hx : tk_xd 1 sh μ) (hQ : Q (tk_nxt sh (tk_hw 1 μ)) μ) : tkF_X0_nextByPasses [21] Q μ := by
  obtain ⟨g1, g2, g3, g4, g5⟩ := x_hJ1 hJ
  have hnP : tk_hw 1 μ 0 2 = μ 1 2 := rfl
  simp [tk_fn, tk_env, tk_sq, tk_sk, tk_if, tk_re, tk_rez, tk_rev, tk_xp, tk_se, tk_pf, tk_pfz, tk_pfo, tk_as, tk_asz, tk_asb, tk_aso, tk_cpy, tk_sw, tk_swc, tk_lit, tk_loc, tk_u1, tk_bin, tk_dv, tk_gf, tk_gr, tk_gn, tk_ald, tk_aldq, tk_aln, tk_unl, tk_una, tk_ter, tk_args, tk_cs, tk_cv, tk_ceq, tk_cne, tk_clt, tk_cge, tk_cgt, tk_cle, tk_zeq, tk_zne, tk_zlt, tk_zge, tk_zgt, tk_zle, tk_and, tk_or, tk_not, tk_ct2, tk_isC, List.headD_cons, tk_up, tk_sca, tk_scl, tkF_X0_nextByPasses, tkS_X0_nextByPasses]
  refine tk_for (μ 1 2) (fun i ρ μ' => μ' = μ ∧ ρ 0 = 21 ∧ ρ 2 = i ∧ ρ 1 = tk_nx sh (tk_hw 1 μ) i.toNat) g1.1 ⟨rfl, rfl, rfl, rfl⟩ ?_ ?_
  · rintro i ρ μ' hi0 hi6 ⟨rfl, r0, r2, r1⟩ K hK
    have i1 : tk_iadd i 1 = i + 1 := tk_iadd_id (by omega) (by omega)
    have h8 : i < 8 := by omega
    have e : (i + 1).toNat = i.toNat + 1 := by omega
    have e2 : ((i.toNat : Nat) : Int) = i := by omega
    have hx2 : tk_nx sh (tk_hw 1 μ') (i + 1).toNat = if tk_rd sh (tk_hw 1 μ') i = 1 ∧ (tk_nx sh (tk_hw 1 μ') i.toNat < 0 ∨ μ' 9 i < μ' 9 (tk_nx sh (tk_hw 1 μ') i.toNat)) then i else tk_nx sh (tk_hw 1 μ') i.toNat := tk_nx_s hi0
    have hin := tk_nx_in (sh := sh) (S := tk_hw 1 μ') i.toNat
    generalize tk_nx sh (tk_hw 1 μ') i.toNat = f at r1 hx2 hin
    have hrx := x_isReady1 (Q := fun (x : Int) (μ1 : tk_M) => False) hx ⟨hi0, hi6⟩ g1.2
    rcases tk_rd_01 (sh := sh) (S := tk_hw 1 μ') (c := i) with h | h
    · simp [tk_fn, tk_env, tk_sq, tk_sk, tk_if, tk_re, tk_rez, tk_rev, tk_xp, tk_se, tk_pf, tk_pfz, tk_pfo, tk_as, tk_asz, tk_asb, tk_aso, tk_cpy, tk_sw, tk_swc, tk_lit, tk_loc, tk_u1, tk_bin, tk_dv, tk_gf, tk_gr, tk_gn, tk_ald, tk_aldq, tk_aln, tk_unl, tk_una, tk_ter, tk_args, tk_cs, tk_cv, tk_ceq, tk_cne, tk_clt, tk_cge, tk_cgt, tk_cle, tk_zeq, tk_zne, tk_zlt, tk_zge, tk_zgt, tk_zle, tk_and, tk_or, tk_not, tk_ct2, tk_isC, List.headD_cons, tk_up, tk_sca, tk_scl, r0, r1, r2, hi6, i1, x_isReady1 hx ⟨hi0, hi6⟩ g1.2, h]
      refine hK _ _ ⟨rfl, r0, rfl, ?_⟩
      rw [hx2, h]
      simpa [tk_up] using r1
    · by_cases hf : f = -5
      · simp [tk_fn, tk_env, tk_sq, tk_sk, tk_if, tk_re, tk_rez, tk_rev, tk_xp, tk_se, tk_pf, tk_pfz, tk_pfo, tk_as, tk_asz, tk_asb, tk_aso, tk_cpy, tk_sw, tk_swc, tk_lit, tk_loc, tk_u1, tk_bin, tk_dv, tk_gf, tk_gr, tk_gn, tk_ald, tk_aldq, tk_aln, tk_unl, tk_una, tk_ter, tk_args, tk_cs, tk_cv, tk_ceq, tk_cne, tk_clt, tk_cge, tk_cgt, tk_cle, tk_zeq, tk_zne, tk_zlt, tk_zge, tk_zgt, tk_zle, tk_and, tk_or, tk_not, tk_ct2, tk_isC, List.headD_cons, tk_up, tk_sca, tk_scl, r0, r1, r2, hi6, i1, x_isReady1 hx ⟨hi0, hi6⟩ g1.2, h, hf]
        refine hK _ _ ⟨rfl, r0, rfl, ?_⟩
        rw [hx2, h]
        simp [hf, tk_up]
      · have hf0 : 0 ≤ f := by omega
        have hf8 : f < 8 := by omega
        have hfn : ¬ f < 0 := by omega
        by_cases hl : μ' 9 i < μ' 9 f
        · simp [tk_fn, tk_env, tk_sq, tk_sk, tk_if, tk_re, tk_rez, tk_rev, tk_xp, tk_se, tk_pf, tk_pfz, tk_pfo, tk_as, tk_asz, tk_asb, tk_aso, tk_cpy, tk_sw, tk_swc, tk_lit, tk_loc, tk_u1, tk_bin, tk_dv, tk_gf, tk_gr, tk_gn, tk_ald, tk_aldq, tk_aln, tk_unl, tk_una, tk_ter, tk_args, tk_cs, tk_cv, tk_ceq, tk_cne, tk_clt, tk_cge, tk_cgt, tk_cle, tk_zeq, tk_zne, tk_zlt, tk_zge, tk_zgt, tk_zle, tk_and, tk_or, tk_not, tk_ct2, tk_isC, List.headD_cons, tk_up, tk_sca, tk_scl, r0, r1, r2, hi6, i1, x_isReady1 hx ⟨hi0, hi6⟩ g1.2, h, hf, hf0, hf8, tk_al_2, tk_al_3, tk_al_4, tk_al_5, tk_al_6, tk_al_7, tk_al_8, tk_al_9, tk_al_10, tk_al_11, tk_al_13, tk_al_14, tk_al_16, tk_al_17, tk_al_19, tk_al_20, tk_al_22, tk_al_24, tk_al_25, tk_al_26, tk_al_27, tk_al_28, tk_al_29, tk_al_30, tk_al_32, tk_al_33, tk_al_34, tk_al_35, tk_al_36, tk_al_37, tk_al_38, tk_al_39, tk_al_40, tk_al_41, tk_al_43, tk_al_44, tk_al_46, tk_al_47, tk_al_49, tk_al_50, tk_al_52, tk_al_54, tk_al_55, tk_al_56, tk_al_57, tk_al_58, tk_al_59, tk_al_60, tk_al_62, tk_al_63, tk_al_64, tk_al_65, tk_al_66, tk_al_67, tk_al_68, tk_al_69, tk_al_70, tk_al_71, tk_al_73, tk_al_74, tk_al_76, tk_al_77, tk_al_79, tk_al_80, tk_al_81, tk_al_83, tk_al_85, tk_al_87, tk_al_89, tk_al_91, tk_al_93, tk_al_95, tk_al_97, tk_al_98, tk_al_99, tk_al_100, tk_al_101, tk_al_102, tk_al_103, tk_al_104, tk_al_105, tk_al_106, tk_al_107, tk_al_108, tk_al_109, tk_al_110, tk_al_111, tk_al_112, tk_al_113, tk_al_114, tk_al_115, tk_al_116, tk_al_117, tk_al_118, tk_al_119, tk_al_120, tk_al_121, tk_al_122, tk_al_123, tk_al_124, tk_al_125, tk_al_126, tk_al_127, tk_al_128, tk_al_129, hi0, h8, hl]
          refine hK _ _ ⟨rfl, r0, rfl, ?_⟩
          rw [hx2, h]
          simp [hl, tk_up]
        · simp [tk_fn, tk_env, tk_sq, tk_sk, tk_if, tk_re, tk_rez, tk_rev, tk_xp, tk_se, tk_pf, tk_pfz, tk_pfo, tk_as, tk_asz, tk_asb, tk_aso, tk_cpy, tk_sw, tk_swc, tk_lit, tk_loc, tk_u1, tk_bin, tk_dv, tk_gf, tk_gr, tk_gn, tk_ald, tk_aldq, tk_aln, tk_unl, tk_una, tk_ter, tk_args, tk_cs, tk_cv, tk_ceq, tk_cne, tk_clt, tk_cge, tk_cgt, tk_cle, tk_zeq, tk_zne, tk_zlt, tk_zge, tk_zgt, tk_zle, tk_and, tk_or, tk_not, tk_ct2, tk_isC, List.headD_cons, tk_up, tk_sca, tk_scl, r0, r1, r2, hi6, i1, x_isReady1 hx ⟨hi0, hi6⟩ g1.2, h, hf, hf0, hf8, tk_al_2, tk_al_3, tk_al_4, tk_al_5, tk_al_6, tk_al_7, tk_al_8, tk_al_9, tk_al_10, tk_al_11, tk_al_13, tk_al_14, tk_al_16, tk_al_17, tk_al_19, tk_al_20, tk_al_22, tk_al_24, tk_al_25, tk_al_26, tk_al_27, tk_al_28, tk_al_29, tk_al_30, tk_al_32, tk_al_33, tk_al_34, tk_al_35, tk_al_36, tk_al_37, tk_al_38, tk_al_39, tk_al_40, tk_al_41, tk_al_43, tk_al_44, tk_al_46, tk_al_47, tk_al_49, tk_al_50, tk_al_52, tk_al_54, tk_al_55, tk_al_56, tk_al_57, tk_al_58, tk_al_59, tk_al_60, tk_al_62, tk_al_63, tk_al_64, tk_al_65, tk_al_66, tk_al_67, tk_al_68, tk_al_69, tk_al_70, tk_al_71, tk_al_73, tk_al_74, tk_al_76, tk_al_77, tk_al_79, tk_al_80, tk_al_81, tk_al_83, tk_al_85, tk_al_87, tk_al_89, tk_al_91, tk_al_93, tk_al_95, tk_al_97, tk_al_98, tk_al_99, tk_al_100, tk_al_101, tk_al_102, tk_al_103, tk_al_104, tk_al_105, tk_al_106, tk_al_107, tk_al_108, tk_al_109, tk_al_110, tk_al_111, tk_al_112, tk_al_113, tk_al_114, tk_al_115, tk_al_116, tk_al_117, tk_al_118, tk_al_119, tk_al_120, tk_al_121, tk_al_122, tk_al_123, tk_al_124, tk_al_125, tk_al_126, tk_al_127, tk_al_128, tk_al_129, hi0, h8, hl]
          refine hK _ _ ⟨rfl, r0, rfl, ?_⟩
          rw [hx2, h]
          simp [hfn, hl, tk_up]
          exact r1
  · rintro ρ μ' ⟨rfl, r0, r2, r1⟩ X
    simp [tk_fn, tk_env, tk_sq, tk_sk, tk_if, tk_re, tk_rez, tk_rev, tk_xp, tk_se, tk_pf, tk_pfz, tk_pfo, tk_as, tk_asz, tk_asb, tk_aso, tk_cpy, tk_sw, tk_swc, tk_lit, tk_loc, tk_u1, tk_bin, tk_dv, tk_gf, tk_gr, tk_gn, tk_ald, tk_aldq, tk_aln, tk_unl, tk_una, tk_ter, tk_args, tk_cs, tk_cv, tk_ceq, tk_cne, tk_clt, tk_cge, tk_cgt, tk_cle, tk_zeq, tk_zne, tk_zlt, tk_zge, tk_zgt, tk_zle, tk_and, tk_or, tk_not, tk_ct2, tk_isC, List.headD_cons, tk_up, tk_sca, tk_scl, r0, r1, r2]
    exact hQ
theorem x_isReady31 {sh : Int → Int} {μ : tk_M} {Q : Int → tk_M → Prop} {c : Int} (hx : tk_xd 31 sh μ) (hc : 0 ≤ c ∧ c < μ 31 2) (hn : μ 31 2 ≤ 8) : tkF_X0_isReady [51, c] Q μ = Q (tk_rd sh (tk_hw 31 μ) c) μ := by
  obtain ⟨-, h2, h3, -⟩ := hx
  have h2' : tk_bs2 8 (μ 51 3) := h2
  have h3' : tk_bit (μ 51 3) c ↔ tk_rd sh (tk_hw 31 μ) c = 1 := ⟨fun z => ((h3 c).mp z).2, fun z => (h3 c).mpr ⟨hc, z⟩⟩
  have hb := tk_bit_0 (tk_bs_r (by omega) h2') (k := c) (by omega)
  rcases tk_rd_01 (sh := sh) (S := tk_hw 31 μ) (c := c) with e | e
  · rw [e] at h3' ⊢
    have h4 : tk_iand (tk_ishr (μ 51 3) c) 1 = 0 := by rw [hb]; intro z; have := h3'.mp z; omega
    simp [tk_fn, tk_env, tk_sq, tk_sk, tk_if, tk_re, tk_rez, tk_rev, tk_xp, tk_se, tk_pf, tk_pfz, tk_pfo, tk_as, tk_asz, tk_asb, tk_aso, tk_cpy, tk_sw, tk_swc, tk_lit, tk_loc, tk_u1, tk_bin, tk_dv, tk_gf, tk_gr, tk_gn, tk_ald, tk_aldq, tk_aln, tk_unl, tk_una, tk_ter, tk_args, tk_cs, tk_cv, tk_ceq, tk_cne, tk_clt, tk_cge, tk_cgt, tk_cle, tk_zeq, tk_zne, tk_zlt, tk_zge, tk_zgt, tk_zle, tk_and, tk_or, tk_not, tk_ct2, tk_isC, List.headD_cons, tk_up, tk_sca, tk_scl, tkF_X0_isReady, tkS_X0_isReady, h4]
  · rw [e] at h3' ⊢
    have h4 : ¬ tk_iand (tk_ishr (μ 51 3) c) 1 = 0 := by rw [hb]; intro z; exact z (h3'.mpr rfl)
    simp [tk_fn, tk_env, tk_sq, tk_sk, tk_if, tk_re, tk_rez, tk_rev, tk_xp, tk_se, tk_pf, tk_pfz, tk_pfo, tk_as, tk_asz, tk_asb, tk_aso, tk_cpy, tk_sw, tk_swc, tk_lit, tk_loc, tk_u1, tk_bin, tk_dv, tk_gf, tk_gr, tk_gn, tk_ald, tk_aldq, tk_aln, tk_unl, tk_una, tk_ter, tk_args, tk_cs, tk_cv, tk_ceq, tk_cne, tk_clt, tk_cge, tk_cgt, tk_cle, tk_zeq, tk_zne, tk_zlt, tk_zge, tk_zgt, tk_zle, tk_and, tk_or, tk_not, tk_ct2, tk_isC, List.headD_cons, tk_up, tk_sca, tk_scl, tkF_X0_isReady, tkS_X0_isReady, h4]
theorem x_mayServe31 {b : Int} {sh : Int → Int} {μ : tk_M} {Q : Int → tk_M → Prop} {c : Int} (hJ : tk_J b (tk_hw 31 μ)) (hx : tk_xsh 31 sh μ) (hc : 0 ≤ c ∧ c < μ 31 2) (hQ : Q (tk_bo ((¬ μ 35 c = 2 ∧ ¬ μ 35 c = 5) ∨ 0 < tk_sv (tk_hw 31 μ) c)) μ) : tkF_X0_mayServe [51, c] Q μ := by
  obtain ⟨g1, g2, g3, g4, g5⟩ := x_hJ31 hJ
  have hk := (g4 c hc.1 hc.2).1
  obtain ⟨-, h2, h3⟩ := hx
  have h2' : tk_bs2 8 (μ 53 8) := h2
  have h3' : tk_bit (μ 53 8) c ↔ 0 < tk_sv (tk_hw 31 μ) c := h3 c hc.1 (by omega)
  have hb := tk_bit_0 (tk_bs_r (by omega) h2') (k := c) (by omega)
  have hkd : tk_kd (μ 35 c) 2 ↔ (μ 35 c = 2 ∨ μ 35 c = 5) := by
    unfold tk_kd tk_up1
    constructor
    · intro z
      repeat' split at z
      all_goals omega
    · rintro (z | z) <;> rw [z] <;> simp
  simp [tk_fn, tk_env, tk_sq, tk_sk, tk_if, tk_re, tk_rez, tk_rev, tk_xp, tk_se, tk_pf, tk_pfz, tk_pfo, tk_as, tk_asz, tk_asb, tk_aso, tk_cpy, tk_sw, tk_swc, tk_lit, tk_loc, tk_u1, tk_bin, tk_dv, tk_gf, tk_gr, tk_gn, tk_ald, tk_aldq, tk_aln, tk_unl, tk_una, tk_ter, tk_args, tk_cs, tk_cv, tk_ceq, tk_cne, tk_clt, tk_cge, tk_cgt, tk_cle, tk_zeq, tk_zne, tk_zlt, tk_zge, tk_zgt, tk_zle, tk_and, tk_or, tk_not, tk_ct2, tk_isC, List.headD_cons, tk_up, tk_sca, tk_scl, tkF_X0_mayServe, tkS_X0_mayServe]
  refine x_isOf31 ⟨hc.1, by omega⟩ hk (by omega) (fun hkt => ?_) (fun hkf => ?_)
  · rw [hkd] at hkt
    by_cases hs : 0 < tk_sv (tk_hw 31 μ) c
    · rw [tk_bo_t (.inr hs)] at hQ
      have h4 : ¬ tk_iand (tk_ishr (μ 53 8) c) 1 = 0 := by rw [hb]; intro z; exact z (h3'.mpr hs)
      simpa [h4] using hQ
    · rw [tk_bo_f (by omega)] at hQ
      have h4 : tk_iand (tk_ishr (μ 53 8) c) 1 = 0 := by rw [hb]; intro z; exact hs (h3'.mp z)
      simpa [h4] using hQ
  · rw [hkd] at hkf
    rw [tk_bo_t (.inl (by omega))] at hQ
    simpa using hQ
theorem x_weigh31 {b : Int} {sh : Int → Int} {μ : tk_M} {Q : Int → tk_M → Prop} (hJ : tk_J b (tk_hw 31 μ)) (hb : tk_shb sh) (hx : tk_xsh 31 sh μ) (hQ : ∀ μ', (∀ o i : Int, ¬ (o = 51 ∨ o = 52) → μ' o i = μ o i) → tk_xsh 31 sh μ' → tk_xd 31 sh μ' → Q 0 μ') : tkF_X0_weigh [51] Q μ := by
  obtain ⟨g1, g2, g3, g4, g5⟩ := x_hJ31 hJ
  have hbd := fun i hi => tk_rwp_bd hJ hb i hi
  have hbw := fun c hc => tk_rw_bd hJ hb (c := c) hc
  have hwb := fun c hc => tk_we_bd hJ hb (c := c) hc
  have hnP : tk_hw 31 μ 0 2 = μ 31 2 := rfl
  have s1 : ∀ a : Int, 0 ≤ a → a < 8 → μ 60 a = sh a := hx.1
  simp [tk_fn, tk_env, tk_sq, tk_sk, tk_if, tk_re, tk_rez, tk_rev, tk_xp, tk_se, tk_pf, tk_pfz, tk_pfo, tk_as, tk_asz, tk_asb, tk_aso, tk_cpy, tk_sw, tk_swc, tk_lit, tk_loc, tk_u1, tk_bin, tk_dv, tk_gf, tk_gr, tk_gn, tk_ald, tk_aldq, tk_aln, tk_unl, tk_una, tk_ter, tk_args, tk_cs, tk_cv, tk_ceq, tk_cne, tk_clt, tk_cge, tk_cgt, tk_cle, tk_zeq, tk_zne, tk_zlt, tk_zge, tk_zgt, tk_zle, tk_and, tk_or, tk_not, tk_ct2, tk_isC, List.headD_cons, tk_up, tk_sca, tk_scl, tkF_X0_weigh, tkS_X0_weigh]
  refine tk_for (μ 31 2) (fun i ρ μ' => ρ 0 = 51 ∧ ρ 1 = i ∧ (∀ o i : Int, ¬ (o = 51 ∨ o = 52) → μ' o i = μ o i) ∧ (∀ c : Int, 0 ≤ c → c < i → μ' 52 c = tk_we sh (tk_hw 31 μ) c) ∧ tk_bs2 8 (μ' 51 3) ∧ (∀ c : Int, tk_bit (μ' 51 3) c ↔ (0 ≤ c ∧ c < i) ∧ tk_rd sh (tk_hw 31 μ) c = 1) ∧ μ' 51 4 = tk_sm i (tk_rw sh (tk_hw 31 μ))) g1.1 ⟨rfl, rfl, fun o i ho => by rw [tk_set_o (by omega), tk_set_o (by omega)], fun c h1 h2 => by omega, by simp [tk_set]; exact tk_bs_0 8, fun c => ?_, by simp [tk_set, tk_sm_0]⟩ ?_ ?_
  · have e : tk_set (tk_set μ 51 3 0) 51 4 0 51 3 = 0 := by simp [tk_set]
    rw [e]
    exact ⟨fun z => absurd z (tk_bit_z c), fun z => by omega⟩
  · rintro i ρ μ' hi0 hi6 ⟨r0, r1, hf, hw, hs, hr, ht⟩ K hK
    have i1 : tk_iadd i 1 = i + 1 := tk_iadd_id (by omega) (by omega)
    have h8 : i < 8 := by omega
    have h := g4 i hi0 hi6
    have h2 := hb i
    have e1 : μ' 31 2 = μ 31 2 := hf _ _ (by omega)
    have e2 : μ' 60 i = sh i := by rw [hf _ _ (by omega)]; exact s1 i hi0 h8
    have e3 : μ' 38 i = μ 38 i := hf _ _ (by omega)
    have e4 : μ' 40 i = μ 40 i := hf _ _ (by omega)
    have e5 : μ' 35 i = μ 35 i := hf _ _ (by omega)
    have hT : tk_hw 31 μ' = tk_hw 31 μ := tk_hw_fx hf
    have l1 : tk_lmul 10 (sh i) = 10 * sh i := tk_lmul_id (by omega) (by omega)
    have l2 : tk_ldiv (10 * sh i) (μ 38 i) = tk_we sh (tk_hw 31 μ) i := tk_ldiv_id (by omega) (by omega)
    have hu : 0 < μ 38 i := by omega
    have hb1 := hbd i ⟨hi0, by omega⟩
    have hb2 := hbw i ⟨hi0, by omega⟩
    have hsm : tk_sm (i + 1) (tk_rw sh (tk_hw 31 μ)) = tk_sm i (tk_rw sh (tk_hw 31 μ)) + tk_rw sh (tk_hw 31 μ) i := tk_sm_s hi0
    have hrd : tk_rd sh (tk_hw 31 μ) i = tk_bo (μ 40 i = -5 ∧ 0 < tk_we sh (tk_hw 31 μ) i ∧ ((¬ μ 35 i = 2 ∧ ¬ μ 35 i = 5) ∨ 0 < tk_sv (tk_hw 31 μ) i)) := rfl
    have hrw : tk_rw sh (tk_hw 31 μ) i = if tk_rd sh (tk_hw 31 μ) i = 1 then tk_we sh (tk_hw 31 μ) i else 0 := rfl
    have l3 : tk_ladd (tk_sm i (tk_rw sh (tk_hw 31 μ))) (tk_we sh (tk_hw 31 μ) i) = tk_sm i (tk_rw sh (tk_hw 31 μ)) + tk_we sh (tk_hw 31 μ) i := by
      have := hwb i ⟨hi0, hi6⟩
      exact tk_ladd_id (by omega) (by omega)
    have hf1 : ∀ o j : Int, ¬ (o = 51 ∨ o = 52) → tk_set μ' 52 i (tk_we sh (tk_hw 31 μ) i) o j = μ o j := fun o j ho => by rw [tk_set_o (by omega)]; exact hf o j ho
    have hw1 : ∀ c : Int, 0 ≤ c → c < i + 1 → tk_set μ' 52 i (tk_we sh (tk_hw 31 μ) i) 52 c = tk_we sh (tk_hw 31 μ) c := fun c h1 h2 => by
      by_cases hc : c = i
      · subst hc; rw [tk_set_eq]
      · rw [tk_set_j hc]; exact hw c h1 (by omega)
    -- not READY
    have no : ¬ tk_rd sh (tk_hw 31 μ) i = 1 → ∀ ρ2 : tk_L, ρ2 0 = 51 → ρ2 1 = i + 1 → K ρ2 (tk_set μ' 52 i (tk_we sh (tk_hw 31 μ) i)) := fun hn ρ2 q0 q1 => by
      refine hK _ _ ⟨q0, q1, hf1, hw1, by rw [tk_set_o (by omega)]; exact hs, fun c => ?_, ?_⟩
      · rw [tk_set_o (by omega), hr]
        constructor
        · rintro ⟨z1, z2⟩; exact ⟨by omega, z2⟩
        · rintro ⟨z1, z2⟩
          refine ⟨⟨z1.1, ?_⟩, z2⟩
          by_cases hc : c = i
          · subst hc; exact absurd z2 hn
          · omega
      · rw [tk_set_o (by omega), ht, hsm, hrw, if_neg hn]
        omega
    -- READY
    have yes : tk_rd sh (tk_hw 31 μ) i = 1 → ∀ ρ2 : tk_L, ρ2 0 = 51 → ρ2 1 = i + 1 → K ρ2 (tk_set (tk_set (tk_set μ' 52 i (tk_we sh (tk_hw 31 μ) i)) 51 3 (tk_ior (μ' 51 3) (tk_ishl 1 i))) 51 4 (tk_sm i (tk_rw sh (tk_hw 31 μ)) + tk_we sh (tk_hw 31 μ) i)) := fun hn ρ2 q0 q1 => by
      have hsh := tk_bs_sh (n := 8) (j := i) ⟨hi0, by omega⟩ (by omega)
      refine hK _ _ ⟨q0, q1, fun o j ho => ?_, fun c h1 h2 => ?_, ?_, fun c => ?_, ?_⟩
      · rw [tk_set_o (by omega), tk_set_o (by omega)]; exact hf1 o j ho
      · rw [tk_set_o (by omega), tk_set_o (by omega)]; exact hw1 c h1 h2
      · rw [tk_set_j (by omega), tk_set_eq]
        exact tk_bs_or (by omega) hs hsh
      · rw [tk_set_j (by omega), tk_set_eq, tk_bit_or (n := 8) (by omega) hs hsh, hr, tk_bit_sh (by omega)]
        constructor
        · rintro (⟨z1, z2⟩ | z)
          · exact ⟨by omega, z2⟩
          · subst z; exact ⟨by omega, hn⟩
        · rintro ⟨z1, z2⟩
          by_cases hc : c = i
          · exact .inr hc
          · exact .inl ⟨by omega, z2⟩
      · rw [tk_set_eq, hsm, hrw, if_pos hn]
    simp [tk_fn, tk_env, tk_sq, tk_sk, tk_if, tk_re, tk_rez, tk_rev, tk_xp, tk_se, tk_pf, tk_pfz, tk_pfo, tk_as, tk_asz, tk_asb, tk_aso, tk_cpy, tk_sw, tk_swc, tk_lit, tk_loc, tk_u1, tk_bin, tk_dv, tk_gf, tk_gr, tk_gn, tk_ald, tk_aldq, tk_aln, tk_unl, tk_una, tk_ter, tk_args, tk_cs, tk_cv, tk_ceq, tk_cne, tk_clt, tk_cge, tk_cgt, tk_cle, tk_zeq, tk_zne, tk_zlt, tk_zge, tk_zgt, tk_zle, tk_and, tk_or, tk_not, tk_ct2, tk_isC, List.headD_cons, tk_up, tk_sca, tk_scl, r0, r1, hi0, hi6, h8, tk_al_2, tk_al_3, tk_al_4, tk_al_5, tk_al_6, tk_al_7, tk_al_8, tk_al_9, tk_al_10, tk_al_11, tk_al_13, tk_al_14, tk_al_16, tk_al_17, tk_al_19, tk_al_20, tk_al_22, tk_al_24, tk_al_25, tk_al_26, tk_al_27, tk_al_28, tk_al_29, tk_al_30, tk_al_32, tk_al_33, tk_al_34, tk_al_35, tk_al_36, tk_al_37, tk_al_38, tk_al_39, tk_al_40, tk_al_41, tk_al_43, tk_al_44, tk_al_46, tk_al_47, tk_al_49, tk_al_50, tk_al_52, tk_al_54, tk_al_55, tk_al_56, tk_al_57, tk_al_58, tk_al_59, tk_al_60, tk_al_62, tk_al_63, tk_al_64, tk_al_65, tk_al_66, tk_al_67, tk_al_68, tk_al_69, tk_al_70, tk_al_71, tk_al_73, tk_al_74, tk_al_76, tk_al_77, tk_al_79, tk_al_80, tk_al_81, tk_al_83, tk_al_85, tk_al_87, tk_al_89, tk_al_91, tk_al_93, tk_al_95, tk_al_97, tk_al_98, tk_al_99, tk_al_100, tk_al_101, tk_al_102, tk_al_103, tk_al_104, tk_al_105, tk_al_106, tk_al_107, tk_al_108, tk_al_109, tk_al_110, tk_al_111, tk_al_112, tk_al_113, tk_al_114, tk_al_115, tk_al_116, tk_al_117, tk_al_118, tk_al_119, tk_al_120, tk_al_121, tk_al_122, tk_al_123, tk_al_124, tk_al_125, tk_al_126, tk_al_127, tk_al_128, tk_al_129, i1, e1, e2, e3, x_cutBy, l1, l2, hu, tk_set_eq]
    by_cases hp : 0 < tk_we sh (tk_hw 31 μ) i
    · by_cases hq : μ 40 i = -5
      · simp [hp, hi0, h8, tk_al_2, tk_al_3, tk_al_4, tk_al_5, tk_al_6, tk_al_7, tk_al_8, tk_al_9, tk_al_10, tk_al_11, tk_al_13, tk_al_14, tk_al_16, tk_al_17, tk_al_19, tk_al_20, tk_al_22, tk_al_24, tk_al_25, tk_al_26, tk_al_27, tk_al_28, tk_al_29, tk_al_30, tk_al_32, tk_al_33, tk_al_34, tk_al_35, tk_al_36, tk_al_37, tk_al_38, tk_al_39, tk_al_40, tk_al_41, tk_al_43, tk_al_44, tk_al_46, tk_al_47, tk_al_49, tk_al_50, tk_al_52, tk_al_54, tk_al_55, tk_al_56, tk_al_57, tk_al_58, tk_al_59, tk_al_60, tk_al_62, tk_al_63, tk_al_64, tk_al_65, tk_al_66, tk_al_67, tk_al_68, tk_al_69, tk_al_70, tk_al_71, tk_al_73, tk_al_74, tk_al_76, tk_al_77, tk_al_79, tk_al_80, tk_al_81, tk_al_83, tk_al_85, tk_al_87, tk_al_89, tk_al_91, tk_al_93, tk_al_95, tk_al_97, tk_al_98, tk_al_99, tk_al_100, tk_al_101, tk_al_102, tk_al_103, tk_al_104, tk_al_105, tk_al_106, tk_al_107, tk_al_108, tk_al_109, tk_al_110, tk_al_111, tk_al_112, tk_al_113, tk_al_114, tk_al_115, tk_al_116, tk_al_117, tk_al_118, tk_al_119, tk_al_120, tk_al_121, tk_al_122, tk_al_123, tk_al_124, tk_al_125, tk_al_126, tk_al_127, tk_al_128, tk_al_129, tk_set_o, e4, hq]
        have hT1 : tk_hw 31 (tk_set μ' 52 i (tk_we sh (tk_hw 31 μ) i)) = tk_hw 31 μ := tk_hw_fx hf1
        refine x_mayServe31 (b := b) (sh := sh) (by rw [hT1]; exact hJ) (tk_xsh_fx hx (fun j => hf1 _ _ (by omega)) (hf1 _ _ (by omega)) (fun c => by rw [hT1])) ⟨hi0, by rw [hf1 _ _ (by omega)]; exact hi6⟩ ?_
        rw [hT1, hf1 35 i (by omega)]
        by_cases hm : (¬ μ 35 i = 2 ∧ ¬ μ 35 i = 5) ∨ 0 < tk_sv (tk_hw 31 μ) i
        · have hn : tk_rd sh (tk_hw 31 μ) i = 1 := by rw [hrd]; exact tk_bo_t ⟨hq, hp, hm⟩
          rw [tk_bo_t hm]
          simp [hi0, h8, tk_al_2, tk_al_3, tk_al_4, tk_al_5, tk_al_6, tk_al_7, tk_al_8, tk_al_9, tk_al_10, tk_al_11, tk_al_13, tk_al_14, tk_al_16, tk_al_17, tk_al_19, tk_al_20, tk_al_22, tk_al_24, tk_al_25, tk_al_26, tk_al_27, tk_al_28, tk_al_29, tk_al_30, tk_al_32, tk_al_33, tk_al_34, tk_al_35, tk_al_36, tk_al_37, tk_al_38, tk_al_39, tk_al_40, tk_al_41, tk_al_43, tk_al_44, tk_al_46, tk_al_47, tk_al_49, tk_al_50, tk_al_52, tk_al_54, tk_al_55, tk_al_56, tk_al_57, tk_al_58, tk_al_59, tk_al_60, tk_al_62, tk_al_63, tk_al_64, tk_al_65, tk_al_66, tk_al_67, tk_al_68, tk_al_69, tk_al_70, tk_al_71, tk_al_73, tk_al_74, tk_al_76, tk_al_77, tk_al_79, tk_al_80, tk_al_81, tk_al_83, tk_al_85, tk_al_87, tk_al_89, tk_al_91, tk_al_93, tk_al_95, tk_al_97, tk_al_98, tk_al_99, tk_al_100, tk_al_101, tk_al_102, tk_al_103, tk_al_104, tk_al_105, tk_al_106, tk_al_107, tk_al_108, tk_al_109, tk_al_110, tk_al_111, tk_al_112, tk_al_113, tk_al_114, tk_al_115, tk_al_116, tk_al_117, tk_al_118, tk_al_119, tk_al_120, tk_al_121, tk_al_122, tk_al_123, tk_al_124, tk_al_125, tk_al_126, tk_al_127, tk_al_128, tk_al_129, tk_set_o, tk_set_j, tk_set_eq, ht, l3]
          exact yes hn _ r0 rfl
        · have hn : ¬ tk_rd sh (tk_hw 31 μ) i = 1 := by rw [hrd, tk_bo_f (fun z => hm z.2.2)]; omega
          rw [tk_bo_f hm]
          simp
          exact no hn _ r0 rfl
      · have hn : ¬ tk_rd sh (tk_hw 31 μ) i = 1 := by rw [hrd, tk_bo_f (fun z => hq z.1)]; omega
        simp [hp, hi0, h8, tk_al_2, tk_al_3, tk_al_4, tk_al_5, tk_al_6, tk_al_7, tk_al_8, tk_al_9, tk_al_10, tk_al_11, tk_al_13, tk_al_14, tk_al_16, tk_al_17, tk_al_19, tk_al_20, tk_al_22, tk_al_24, tk_al_25, tk_al_26, tk_al_27, tk_al_28, tk_al_29, tk_al_30, tk_al_32, tk_al_33, tk_al_34, tk_al_35, tk_al_36, tk_al_37, tk_al_38, tk_al_39, tk_al_40, tk_al_41, tk_al_43, tk_al_44, tk_al_46, tk_al_47, tk_al_49, tk_al_50, tk_al_52, tk_al_54, tk_al_55, tk_al_56, tk_al_57, tk_al_58, tk_al_59, tk_al_60, tk_al_62, tk_al_63, tk_al_64, tk_al_65, tk_al_66, tk_al_67, tk_al_68, tk_al_69, tk_al_70, tk_al_71, tk_al_73, tk_al_74, tk_al_76, tk_al_77, tk_al_79, tk_al_80, tk_al_81, tk_al_83, tk_al_85, tk_al_87, tk_al_89, tk_al_91, tk_al_93, tk_al_95, tk_al_97, tk_al_98, tk_al_99, tk_al_100, tk_al_101, tk_al_102, tk_al_103, tk_al_104, tk_al_105, tk_al_106, tk_al_107, tk_al_108, tk_al_109, tk_al_110, tk_al_111, tk_al_112, tk_al_113, tk_al_114, tk_al_115, tk_al_116, tk_al_117, tk_al_118, tk_al_119, tk_al_120, tk_al_121, tk_al_122, tk_al_123, tk_al_124, tk_al_125, tk_al_126, tk_al_127, tk_al_128, tk_al_129, tk_set_o, e4, hq]
        exact no hn _ r0 rfl
    · have hn : ¬ tk_rd sh (tk_hw 31 μ) i = 1 := by rw [hrd, tk_bo_f (fun z => hp z.2.1)]; omega
      simp [hp, hi0, h8, tk_al_2, tk_al_3, tk_al_4, tk_al_5, tk_al_6, tk_al_7, tk_al_8, tk_al_9, tk_al_10, tk_al_11, tk_al_13, tk_al_14, tk_al_16, tk_al_17, tk_al_19, tk_al_20, tk_al_22, tk_al_24, tk_al_25, tk_al_26, tk_al_27, tk_al_28, tk_al_29, tk_al_30, tk_al_32, tk_al_33, tk_al_34, tk_al_35, tk_al_36, tk_al_37, tk_al_38, tk_al_39, tk_al_40, tk_al_41, tk_al_43, tk_al_44, tk_al_46, tk_al_47, tk_al_49, tk_al_50, tk_al_52, tk_al_54, tk_al_55, tk_al_56, tk_al_57, tk_al_58, tk_al_59, tk_al_60, tk_al_62, tk_al_63, tk_al_64, tk_al_65, tk_al_66, tk_al_67, tk_al_68, tk_al_69, tk_al_70, tk_al_71, tk_al_73, tk_al_74, tk_al_76, tk_al_77, tk_al_79, tk_al_80, tk_al_81, tk_al_83, tk_al_85, tk_al_87, tk_al_89, tk_al_91, tk_al_93, tk_al_95, tk_al_97, tk_al_98, tk_al_99, tk_al_100, tk_al_101, tk_al_102, tk_al_103, tk_al_104, tk_al_105, tk_al_106, tk_al_107, tk_al_108, tk_al_109, tk_al_110, tk_al_111, tk_al_112, tk_al_113, tk_al_114, tk_al_115, tk_al_116, tk_al_117, tk_al_118, tk_al_119, tk_al_120, tk_al_121, tk_al_122, tk_al_123, tk_al_124, tk_al_125, tk_al_126, tk_al_127, tk_al_128, tk_al_129, tk_set_o, e4]
      exact no hn _ r0 rfl
  · rintro ρ μ' ⟨r0, r1, hf, hw, hs, hr, ht⟩ X
    have e1 : μ' 31 2 = μ 31 2 := hf _ _ (by omega)
    have hT : tk_hw 31 μ' = tk_hw 31 μ := tk_hw_fx hf
    simp [tk_fn, tk_env, tk_sq, tk_sk, tk_if, tk_re, tk_rez, tk_rev, tk_xp, tk_se, tk_pf, tk_pfz, tk_pfo, tk_as, tk_asz, tk_asb, tk_aso, tk_cpy, tk_sw, tk_swc, tk_lit, tk_loc, tk_u1, tk_bin, tk_dv, tk_gf, tk_gr, tk_gn, tk_ald, tk_aldq, tk_aln, tk_unl, tk_una, tk_ter, tk_args, tk_cs, tk_cv, tk_ceq, tk_cne, tk_clt, tk_cge, tk_cgt, tk_cle, tk_zeq, tk_zne, tk_zlt, tk_zge, tk_zgt, tk_zle, tk_and, tk_or, tk_not, tk_ct2, tk_isC, List.headD_cons, tk_up, tk_sca, tk_scl, r0, r1, e1]
    refine hQ _ hf (tk_xsh_fx hx (fun j => hf _ _ (by omega)) (hf _ _ (by omega)) (fun c => by rw [hT])) ?_
    unfold tk_xd
    rw [hT, e1]
    exact ⟨hw, hs, hr, ht⟩
theorem x_deal31 {b : Int} {sh : Int → Int} {μ : tk_M} {Q : Int → tk_M → Prop} {c : Int} (hJ : tk_J b (tk_hw 31 μ)) (hbb : b ≤ 900000) (hb : tk_shb sh) (hx : tk_xsh 31 sh μ) (hc : c = -5 ∨ (0 ≤ c ∧ c < μ 31 2)) (hQ : ∀ μ', tk_fx 31 μ μ' → tk_hw 31 μ' = tk_spn (tk_hw 31 μ) c → tk_xsh 31 sh μ' → tk_xd 31 sh μ' → Q 0 μ') : tkF_X0_deal [51, c] Q μ := by
  simp [tk_fn, tk_env, tk_sq, tk_sk, tk_if, tk_re, tk_rez, tk_rev, tk_xp, tk_se, tk_pf, tk_pfz, tk_pfo, tk_as, tk_asz, tk_asb, tk_aso, tk_cpy, tk_sw, tk_swc, tk_lit, tk_loc, tk_u1, tk_bin, tk_dv, tk_gf, tk_gr, tk_gn, tk_ald, tk_aldq, tk_aln, tk_unl, tk_una, tk_ter, tk_args, tk_cs, tk_cv, tk_ceq, tk_cne, tk_clt, tk_cge, tk_cgt, tk_cle, tk_zeq, tk_zne, tk_zlt, tk_zge, tk_zgt, tk_zle, tk_and, tk_or, tk_not, tk_ct2, tk_isC, List.headD_cons, tk_up, tk_sca, tk_scl, tkF_X0_deal, tkS_X0_deal]
  refine x_spend31 hJ (by omega) hc (fun μ1 hf1 hd1 he1 => ?_)
  have hJ1 := tk_J_spn hJ (c := c) hc
  rw [← he1] at hJ1
  refine x_weigh31 hJ1.1 hb (tk_xsh_fx hx (fun j => hf1 _ _ (by omega)) (hf1 _ _ (by omega)) (fun c => by rw [he1, tk_sv_spn])) (fun μ2 hf2 hs2 hd2 => ?_)
  exact hQ _ (fun o i ho => by rw [hf2 o i (by omega), hf1 o i ho]) (by rw [tk_hw_fx hf2, he1]) hs2 hd2
theorem x_strideOf31 {b : Int} {sh : Int → Int} {μ : tk_M} {Q : Int → tk_M → Prop} {c : Int} (hJ : tk_J b (tk_hw 31 μ)) (hb : tk_shb sh) (hx : tk_xd 31 sh μ) (hc : 0 ≤ c ∧ c < μ 31 2) (hQ : Q (tk_std sh (tk_hw 31 μ) c) μ) : tkF_X0_strideOf [51, c] Q μ := by
  obtain ⟨g1, g2, g3, g4, g5⟩ := x_hJ31 hJ
  have hw := tk_we_bd hJ hb (c := c) hc
  have h8 : c < 8 := by omega
  have e : μ 52 c = tk_we sh (tk_hw 31 μ) c := hx.1 c hc.1 hc.2
  unfold tk_std at hQ
  generalize tk_we sh (tk_hw 31 μ) c = w at hw e hQ
  by_cases h : 0 < w
  · have h0 : ¬ w = 0 := by omega
    have h2 := tk_ediv_le (x := 100000000) (by omega) h
    have l1 : tk_ldiv 100000000 w = 100000000 / w := tk_ldiv_id (by omega) (by omega)
    have l2 : tk_mx (100000000 / w) 1 = if 100000000 / w < 1 then 1 else 100000000 / w := rfl
    have l3 : tk_l2i (if 100000000 / w < 1 then 1 else 100000000 / w) = if 100000000 / w < 1 then 1 else 100000000 / w := tk_std_l2i (by split <;> omega)
    rw [if_pos h] at hQ
    simp [tk_fn, tk_env, tk_sq, tk_sk, tk_if, tk_re, tk_rez, tk_rev, tk_xp, tk_se, tk_pf, tk_pfz, tk_pfo, tk_as, tk_asz, tk_asb, tk_aso, tk_cpy, tk_sw, tk_swc, tk_lit, tk_loc, tk_u1, tk_bin, tk_dv, tk_gf, tk_gr, tk_gn, tk_ald, tk_aldq, tk_aln, tk_unl, tk_una, tk_ter, tk_args, tk_cs, tk_cv, tk_ceq, tk_cne, tk_clt, tk_cge, tk_cgt, tk_cle, tk_zeq, tk_zne, tk_zlt, tk_zge, tk_zgt, tk_zle, tk_and, tk_or, tk_not, tk_ct2, tk_isC, List.headD_cons, tk_up, tk_sca, tk_scl, tkF_X0_strideOf, tkS_X0_strideOf, tk_al_2, tk_al_3, tk_al_4, tk_al_5, tk_al_6, tk_al_7, tk_al_8, tk_al_9, tk_al_10, tk_al_11, tk_al_13, tk_al_14, tk_al_16, tk_al_17, tk_al_19, tk_al_20, tk_al_22, tk_al_24, tk_al_25, tk_al_26, tk_al_27, tk_al_28, tk_al_29, tk_al_30, tk_al_32, tk_al_33, tk_al_34, tk_al_35, tk_al_36, tk_al_37, tk_al_38, tk_al_39, tk_al_40, tk_al_41, tk_al_43, tk_al_44, tk_al_46, tk_al_47, tk_al_49, tk_al_50, tk_al_52, tk_al_54, tk_al_55, tk_al_56, tk_al_57, tk_al_58, tk_al_59, tk_al_60, tk_al_62, tk_al_63, tk_al_64, tk_al_65, tk_al_66, tk_al_67, tk_al_68, tk_al_69, tk_al_70, tk_al_71, tk_al_73, tk_al_74, tk_al_76, tk_al_77, tk_al_79, tk_al_80, tk_al_81, tk_al_83, tk_al_85, tk_al_87, tk_al_89, tk_al_91, tk_al_93, tk_al_95, tk_al_97, tk_al_98, tk_al_99, tk_al_100, tk_al_101, tk_al_102, tk_al_103, tk_al_104, tk_al_105, tk_al_106, tk_al_107, tk_al_108, tk_al_109, tk_al_110, tk_al_111, tk_al_112, tk_al_113, tk_al_114, tk_al_115, tk_al_116, tk_al_117, tk_al_118, tk_al_119, tk_al_120, tk_al_121, tk_al_122, tk_al_123, tk_al_124, tk_al_125, tk_al_126, tk_al_127, tk_al_128, tk_al_129, hc.1, h8, e, h, h0, l1, l2, l3]
    exact hQ
  · rw [if_neg h] at hQ
    simp [tk_fn, tk_env, tk_sq, tk_sk, tk_if, tk_re, tk_rez, tk_rev, tk_xp, tk_se, tk_pf, tk_pfz, tk_pfo, tk_as, tk_asz, tk_asb, tk_aso, tk_cpy, tk_sw, tk_swc, tk_lit, tk_loc, tk_u1, tk_bin, tk_dv, tk_gf, tk_gr, tk_gn, tk_ald, tk_aldq, tk_aln, tk_unl, tk_una, tk_ter, tk_args, tk_cs, tk_cv, tk_ceq, tk_cne, tk_clt, tk_cge, tk_cgt, tk_cle, tk_zeq, tk_zne, tk_zlt, tk_zge, tk_zgt, tk_zle, tk_and, tk_or, tk_not, tk_ct2, tk_isC, List.headD_cons, tk_up, tk_sca, tk_scl, tkF_X0_strideOf, tkS_X0_strideOf, tk_al_2, tk_al_3, tk_al_4, tk_al_5, tk_al_6, tk_al_7, tk_al_8, tk_al_9, tk_al_10, tk_al_11, tk_al_13, tk_al_14, tk_al_16, tk_al_17, tk_al_19, tk_al_20, tk_al_22, tk_al_24, tk_al_25, tk_al_26, tk_al_27, tk_al_28, tk_al_29, tk_al_30, tk_al_32, tk_al_33, tk_al_34, tk_al_35, tk_al_36, tk_al_37, tk_al_38, tk_al_39, tk_al_40, tk_al_41, tk_al_43, tk_al_44, tk_al_46, tk_al_47, tk_al_49, tk_al_50, tk_al_52, tk_al_54, tk_al_55, tk_al_56, tk_al_57, tk_al_58, tk_al_59, tk_al_60, tk_al_62, tk_al_63, tk_al_64, tk_al_65, tk_al_66, tk_al_67, tk_al_68, tk_al_69, tk_al_70, tk_al_71, tk_al_73, tk_al_74, tk_al_76, tk_al_77, tk_al_79, tk_al_80, tk_al_81, tk_al_83, tk_al_85, tk_al_87, tk_al_89, tk_al_91, tk_al_93, tk_al_95, tk_al_97, tk_al_98, tk_al_99, tk_al_100, tk_al_101, tk_al_102, tk_al_103, tk_al_104, tk_al_105, tk_al_106, tk_al_107, tk_al_108, tk_al_109, tk_al_110, tk_al_111, tk_al_112, tk_al_113, tk_al_114, tk_al_115, tk_al_116, tk_al_117, tk_al_118, tk_al_119, tk_al_120, tk_al_121, tk_al_122, tk_al_123, tk_al_124, tk_al_125, tk_al_126, tk_al_127, tk_al_128, tk_al_129, hc.1, h8, e, h]
    exact hQ
theorem x_next31 {b : Int} {sh : Int → Int} {μ : tk_M} {Q : Int → tk_M → Prop} (hJ : tk_J b (tk_hw 31 μ)) (hx : tk_xd 31 sh μ) (hQ : Q (tk_nxt sh (tk_hw 31 μ)) μ) : tkF_X0_nextByPasses [51] Q μ := by
  obtain ⟨g1, g2, g3, g4, g5⟩ := x_hJ31 hJ
  have hnP : tk_hw 31 μ 0 2 = μ 31 2 := rfl
  simp [tk_fn, tk_env, tk_sq, tk_sk, tk_if, tk_re, tk_rez, tk_rev, tk_xp, tk_se, tk_pf, tk_pfz, tk_pfo, tk_as, tk_asz, tk_asb, tk_aso, tk_cpy, tk_sw, tk_swc, tk_lit, tk_loc, tk_u1, tk_bin, tk_dv, tk_gf, tk_gr, tk_gn, tk_ald, tk_aldq, tk_aln, tk_unl, tk_una, tk_ter, tk_args, tk_cs, tk_cv, tk_ceq, tk_cne, tk_clt, tk_cge, tk_cgt, tk_cle, tk_zeq, tk_zne, tk_zlt, tk_zge, tk_zgt, tk_zle, tk_and, tk_or, tk_not, tk_ct2, tk_isC, List.headD_cons, tk_up, tk_sca, tk_scl, tkF_X0_nextByPasses, tkS_X0_nextByPasses]
  refine tk_for (μ 31 2) (fun i ρ μ' => μ' = μ ∧ ρ 0 = 51 ∧ ρ 2 = i ∧ ρ 1 = tk_nx sh (tk_hw 31 μ) i.toNat) g1.1 ⟨rfl, rfl, rfl, rfl⟩ ?_ ?_
  · rintro i ρ μ' hi0 hi6 ⟨rfl, r0, r2, r1⟩ K hK
    have i1 : tk_iadd i 1 = i + 1 := tk_iadd_id (by omega) (by omega)
    have h8 : i < 8 := by omega
    have e : (i + 1).toNat = i.toNat + 1 := by omega
    have e2 : ((i.toNat : Nat) : Int) = i := by omega
    have hx2 : tk_nx sh (tk_hw 31 μ') (i + 1).toNat = if tk_rd sh (tk_hw 31 μ') i = 1 ∧ (tk_nx sh (tk_hw 31 μ') i.toNat < 0 ∨ μ' 39 i < μ' 39 (tk_nx sh (tk_hw 31 μ') i.toNat)) then i else tk_nx sh (tk_hw 31 μ') i.toNat := tk_nx_s hi0
    have hin := tk_nx_in (sh := sh) (S := tk_hw 31 μ') i.toNat
    generalize tk_nx sh (tk_hw 31 μ') i.toNat = f at r1 hx2 hin
    have hrx := x_isReady31 (Q := fun (x : Int) (μ1 : tk_M) => False) hx ⟨hi0, hi6⟩ g1.2
    rcases tk_rd_01 (sh := sh) (S := tk_hw 31 μ') (c := i) with h | h
    · simp [tk_fn, tk_env, tk_sq, tk_sk, tk_if, tk_re, tk_rez, tk_rev, tk_xp, tk_se, tk_pf, tk_pfz, tk_pfo, tk_as, tk_asz, tk_asb, tk_aso, tk_cpy, tk_sw, tk_swc, tk_lit, tk_loc, tk_u1, tk_bin, tk_dv, tk_gf, tk_gr, tk_gn, tk_ald, tk_aldq, tk_aln, tk_unl, tk_una, tk_ter, tk_args, tk_cs, tk_cv, tk_ceq, tk_cne, tk_clt, tk_cge, tk_cgt, tk_cle, tk_zeq, tk_zne, tk_zlt, tk_zge, tk_zgt, tk_zle, tk_and, tk_or, tk_not, tk_ct2, tk_isC, List.headD_cons, tk_up, tk_sca, tk_scl, r0, r1, r2, hi6, i1, x_isReady31 hx ⟨hi0, hi6⟩ g1.2, h]
      refine hK _ _ ⟨rfl, r0, rfl, ?_⟩
      rw [hx2, h]
      simpa [tk_up] using r1
    · by_cases hf : f = -5
      · simp [tk_fn, tk_env, tk_sq, tk_sk, tk_if, tk_re, tk_rez, tk_rev, tk_xp, tk_se, tk_pf, tk_pfz, tk_pfo, tk_as, tk_asz, tk_asb, tk_aso, tk_cpy, tk_sw, tk_swc, tk_lit, tk_loc, tk_u1, tk_bin, tk_dv, tk_gf, tk_gr, tk_gn, tk_ald, tk_aldq, tk_aln, tk_unl, tk_una, tk_ter, tk_args, tk_cs, tk_cv, tk_ceq, tk_cne, tk_clt, tk_cge, tk_cgt, tk_cle, tk_zeq, tk_zne, tk_zlt, tk_zge, tk_zgt, tk_zle, tk_and, tk_or, tk_not, tk_ct2, tk_isC, List.headD_cons, tk_up, tk_sca, tk_scl, r0, r1, r2, hi6, i1, x_isReady31 hx ⟨hi0, hi6⟩ g1.2, h, hf]
        refine hK _ _ ⟨rfl, r0, rfl, ?_⟩
        rw [hx2, h]
        simp [hf, tk_up]
      · have hf0 : 0 ≤ f := by omega
        have hf8 : f < 8 := by omega
        have hfn : ¬ f < 0 := by omega
        by_cases hl : μ' 39 i < μ' 39 f
        · simp [tk_fn, tk_env, tk_sq, tk_sk, tk_if, tk_re, tk_rez, tk_rev, tk_xp, tk_se, tk_pf, tk_pfz, tk_pfo, tk_as, tk_asz, tk_asb, tk_aso, tk_cpy, tk_sw, tk_swc, tk_lit, tk_loc, tk_u1, tk_bin, tk_dv, tk_gf, tk_gr, tk_gn, tk_ald, tk_aldq, tk_aln, tk_unl, tk_una, tk_ter, tk_args, tk_cs, tk_cv, tk_ceq, tk_cne, tk_clt, tk_cge, tk_cgt, tk_cle, tk_zeq, tk_zne, tk_zlt, tk_zge, tk_zgt, tk_zle, tk_and, tk_or, tk_not, tk_ct2, tk_isC, List.headD_cons, tk_up, tk_sca, tk_scl, r0, r1, r2, hi6, i1, x_isReady31 hx ⟨hi0, hi6⟩ g1.2, h, hf, hf0, hf8, tk_al_2, tk_al_3, tk_al_4, tk_al_5, tk_al_6, tk_al_7, tk_al_8, tk_al_9, tk_al_10, tk_al_11, tk_al_13, tk_al_14, tk_al_16, tk_al_17, tk_al_19, tk_al_20, tk_al_22, tk_al_24, tk_al_25, tk_al_26, tk_al_27, tk_al_28, tk_al_29, tk_al_30, tk_al_32, tk_al_33, tk_al_34, tk_al_35, tk_al_36, tk_al_37, tk_al_38, tk_al_39, tk_al_40, tk_al_41, tk_al_43, tk_al_44, tk_al_46, tk_al_47, tk_al_49, tk_al_50, tk_al_52, tk_al_54, tk_al_55, tk_al_56, tk_al_57, tk_al_58, tk_al_59, tk_al_60, tk_al_62, tk_al_63, tk_al_64, tk_al_65, tk_al_66, tk_al_67, tk_al_68, tk_al_69, tk_al_70, tk_al_71, tk_al_73, tk_al_74, tk_al_76, tk_al_77, tk_al_79, tk_al_80, tk_al_81, tk_al_83, tk_al_85, tk_al_87, tk_al_89, tk_al_91, tk_al_93, tk_al_95, tk_al_97, tk_al_98, tk_al_99, tk_al_100, tk_al_101, tk_al_102, tk_al_103, tk_al_104, tk_al_105, tk_al_106, tk_al_107, tk_al_108, tk_al_109, tk_al_110, tk_al_111, tk_al_112, tk_al_113, tk_al_114, tk_al_115, tk_al_116, tk_al_117, tk_al_118, tk_al_119, tk_al_120, tk_al_121, tk_al_122, tk_al_123, tk_al_124, tk_al_125, tk_al_126, tk_al_127, tk_al_128, tk_al_129, hi0, h8, hl]
          refine hK _ _ ⟨rfl, r0, rfl, ?_⟩
          rw [hx2, h]
          simp [hl, tk_up]
        · simp [tk_fn, tk_env, tk_sq, tk_sk, tk_if, tk_re, tk_rez, tk_rev, tk_xp, tk_se, tk_pf, tk_pfz, tk_pfo, tk_as, tk_asz, tk_asb, tk_aso, tk_cpy, tk_sw, tk_swc, tk_lit, tk_loc, tk_u1, tk_bin, tk_dv, tk_gf, tk_gr, tk_gn, tk_ald, tk_aldq, tk_aln, tk_unl, tk_una, tk_ter, tk_args, tk_cs, tk_cv, tk_ceq, tk_cne, tk_clt, tk_cge, tk_cgt, tk_cle, tk_zeq, tk_zne, tk_zlt, tk_zge, tk_zgt, tk_zle, tk_and, tk_or, tk_not, tk_ct2, tk_isC, List.headD_cons, tk_up, tk_sca, tk_scl, r0, r1, r2, hi6, i1, x_isReady31 hx ⟨hi0, hi6⟩ g1.2, h, hf, hf0, hf8, tk_al_2, tk_al_3, tk_al_4, tk_al_5, tk_al_6, tk_al_7, tk_al_8, tk_al_9, tk_al_10, tk_al_11, tk_al_13, tk_al_14, tk_al_16, tk_al_17, tk_al_19, tk_al_20, tk_al_22, tk_al_24, tk_al_25, tk_al_26, tk_al_27, tk_al_28, tk_al_29, tk_al_30, tk_al_32, tk_al_33, tk_al_34, tk_al_35, tk_al_36, tk_al_37, tk_al_38, tk_al_39, tk_al_40, tk_al_41, tk_al_43, tk_al_44, tk_al_46, tk_al_47, tk_al_49, tk_al_50, tk_al_52, tk_al_54, tk_al_55, tk_al_56, tk_al_57, tk_al_58, tk_al_59, tk_al_60, tk_al_62, tk_al_63, tk_al_64, tk_al_65, tk_al_66, tk_al_67, tk_al_68, tk_al_69, tk_al_70, tk_al_71, tk_al_73, tk_al_74, tk_al_76, tk_al_77, tk_al_79, tk_al_80, tk_al_81, tk_al_83, tk_al_85, tk_al_87, tk_al_89, tk_al_91, tk_al_93, tk_al_95, tk_al_97, tk_al_98, tk_al_99, tk_al_100, tk_al_101, tk_al_102, tk_al_103, tk_al_104, tk_al_105, tk_al_106, tk_al_107, tk_al_108, tk_al_109, tk_al_110, tk_al_111, tk_al_112, tk_al_113, tk_al_114, tk_al_115, tk_al_116, tk_al_117, tk_al_118, tk_al_119, tk_al_120, tk_al_121, tk_al_122, tk_al_123, tk_al_124, tk_al_125, tk_al_126, tk_al_127, tk_al_128, tk_al_129, hi0, h8, hl]
          refine hK _ _ ⟨rfl, r0, rfl, ?_⟩
          rw [hx2, h]
          simp [hfn, hl, tk_up]
          exact r1
  · rintro ρ μ' ⟨rfl, r0, r2, r1⟩ X
    simp [tk_fn, tk_env, tk_sq, tk_sk, tk_if, tk_re, tk_rez, tk_rev, tk_xp, tk_se, tk_pf, tk_pfz, tk_pfo, tk_as, tk_asz, tk_asb, tk_aso, tk_cpy, tk_sw, tk_swc, tk_lit, tk_loc, tk_u1, tk_bin, tk_dv, tk_gf, tk_gr, tk_gn, tk_ald, tk_aldq, tk_aln, tk_unl, tk_una, tk_ter, tk_args, tk_cs, tk_cv, tk_ceq, tk_cne, tk_clt, tk_cge, tk_cgt, tk_cle, tk_zeq, tk_zne, tk_zlt, tk_zge, tk_zgt, tk_zle, tk_and, tk_or, tk_not, tk_ct2, tk_isC, List.headD_cons, tk_up, tk_sca, tk_scl, r0, r1, r2]
    exact hQ
