/-! ===== Layer 2: drawn as seen ===== -/
def tk_ssP (S : tk_M) (n c : Int) : Prop := ∀ k : Int, 0 ≤ k → k < S 11 0 → S 13 k = n → S 12 k = c
def tk_lsn (S : tk_M) : Nat → Int
  | 0 => 0
  | k + 1 => if tk_lsn S k < S 13 k then S 13 k else tk_lsn S k
def tk_lsa (S : tk_M) : Int := tk_lsn S (S 11 0).toNat
def tk_AS (sh : Int → Int) (S : tk_M) (z : Int) : Prop := ∀ n : Nat, 1 ≤ n → (n : Int) ≤ tk_lsa S → tk_ssP S n (tk_gdl sh S z n)
theorem tk_lsn_s {S : tk_M} {i : Int} (hi : 0 ≤ i) : tk_lsn S (i + 1).toNat = if tk_lsn S i.toNat < S 13 i then S 13 i else tk_lsn S i.toNat := by
  obtain ⟨m, rfl⟩ := tk_nnt hi
  have e : ((m : Int) + 1).toNat = m + 1 := by omega
  rw [e, Int.toNat_natCast]
  rfl
theorem tk_lsn_bd {S : tk_M} (h4 : tk_I4 S) (k : Nat) (hk : (k : Int) ≤ S 11 0) : 0 ≤ tk_lsn S k ∧ tk_lsn S k ≤ 12 := by
  induction k with
  | zero => unfold tk_lsn; omega
  | succ k ih =>
    have h1 := ih (by omega)
    have h2 := (h4.2 k (by omega) (by omega)).2
    unfold tk_lsn
    split <;> omega
theorem tk_lsa_bd {S : tk_M} (h4 : tk_I4 S) : 0 ≤ tk_lsa S ∧ tk_lsa S ≤ 12 := tk_lsn_bd h4 _ (by have := h4.1; omega)
theorem tk_lsn_eq {S T : tk_M} (h : tk_E4 S T) (k : Nat) (hk : (k : Int) ≤ S 11 0) : tk_lsn T k = tk_lsn S k := by
  induction k with
  | zero => rfl
  | succ k ih =>
    unfold tk_lsn
    rw [ih (by omega), (h.2 k (by omega) (by omega)).2]
theorem tk_lsa_eq {S T : tk_M} (h : tk_E4 S T) (h0 : 0 ≤ S 11 0) : tk_lsa T = tk_lsa S := by
  unfold tk_lsa
  rw [h.1, tk_lsn_eq h _ (by omega)]
theorem tk_ssP_eq {S T : tk_M} (h : tk_E4 S T) {n c : Int} : tk_ssP T n c ↔ tk_ssP S n c := by
  unfold tk_ssP
  rw [h.1]
  constructor
  · intro z k h1 h2 h3
    rw [← (h.2 k h1 h2).1]
    exact z k h1 h2 (by rw [(h.2 k h1 h2).2]; exact h3)
  · intro z k h1 h2 h3
    rw [(h.2 k h1 h2).1]
    exact z k h1 h2 (by rw [← (h.2 k h1 h2).2]; exact h3)
theorem tk_AS_eq {sh : Int → Int} {S T : tk_M} (h : tk_E4 S T) (hq : tk_EQ S T) (h0 : 0 ≤ S 11 0) (h2 : 0 ≤ S 0 2) {z : Int} : tk_AS sh T z ↔ tk_AS sh S z := by
  unfold tk_AS
  rw [tk_lsa_eq h h0]
  constructor
  · intro y n h3 h4
    have := y n h3 h4
    rwa [tk_ssP_eq h, tk_gdl_eq h2 hq] at this
  · intro y n h3 h4
    rw [tk_ssP_eq h, tk_gdl_eq h2 hq]
    exact y n h3 h4
theorem x_lastSeen {μ : tk_M} {Q : Int → tk_M → Prop} (h4 : tk_I4 (tk_hw 31 μ)) (hQ : Q (tk_lsa (tk_hw 31 μ)) μ) : tkF_X2_lastSeen [31] Q μ := by
  have hz : (0 ≤ μ 42 0 ∧ μ 42 0 ≤ 5) ∧ ∀ k : Int, 0 ≤ k → k < μ 42 0 → (0 ≤ μ 43 k ∧ μ 43 k < μ 31 2) ∧ (1 ≤ μ 44 k ∧ μ 44 k ≤ 12) := h4
  have hS : ∀ k, tk_hw 31 μ 13 k = μ 44 k := fun _ => rfl
  simp [tk_fn, tk_env, tk_sq, tk_sk, tk_if, tk_re, tk_rez, tk_rev, tk_xp, tk_se, tk_pf, tk_pfz, tk_pfo, tk_as, tk_asz, tk_asb, tk_aso, tk_cpy, tk_sw, tk_swc, tk_lit, tk_loc, tk_u1, tk_bin, tk_dv, tk_gf, tk_gr, tk_gn, tk_ald, tk_aldq, tk_aln, tk_unl, tk_una, tk_ter, tk_args, tk_cs, tk_cv, tk_ceq, tk_cne, tk_clt, tk_cge, tk_cgt, tk_cle, tk_zeq, tk_zne, tk_zlt, tk_zge, tk_zgt, tk_zle, tk_and, tk_or, tk_not, tk_ct2, tk_isC, List.headD_cons, tk_up, tk_sca, tk_scl, tkF_X2_lastSeen, tkS_X2_lastSeen]
  refine tk_for (μ 42 0) (fun i ρ μ' => μ' = μ ∧ ρ 0 = 31 ∧ ρ 2 = i ∧ ρ 1 = tk_lsn (tk_hw 31 μ) i.toNat) hz.1.1 ⟨rfl, rfl, rfl, rfl⟩ ?_ ?_
  · rintro i ρ μ' hi0 hi6 ⟨rfl, r0, r2, r1⟩ K hK
    have i1 : tk_iadd i 1 = i + 1 := tk_iadd_id (by omega) (by omega)
    have h5 : i < 5 := by omega
    have hs := tk_lsn_s (S := tk_hw 31 μ') hi0
    rw [hS] at hs
    simp [tk_fn, tk_env, tk_sq, tk_sk, tk_if, tk_re, tk_rez, tk_rev, tk_xp, tk_se, tk_pf, tk_pfz, tk_pfo, tk_as, tk_asz, tk_asb, tk_aso, tk_cpy, tk_sw, tk_swc, tk_lit, tk_loc, tk_u1, tk_bin, tk_dv, tk_gf, tk_gr, tk_gn, tk_ald, tk_aldq, tk_aln, tk_unl, tk_una, tk_ter, tk_args, tk_cs, tk_cv, tk_ceq, tk_cne, tk_clt, tk_cge, tk_cgt, tk_cle, tk_zeq, tk_zne, tk_zlt, tk_zge, tk_zgt, tk_zle, tk_and, tk_or, tk_not, tk_ct2, tk_isC, List.headD_cons, tk_up, tk_sca, tk_scl, r0, r1, r2, hi0, hi6, h5, tk_al_2, tk_al_3, tk_al_4, tk_al_5, tk_al_6, tk_al_7, tk_al_8, tk_al_9, tk_al_10, tk_al_11, tk_al_13, tk_al_14, tk_al_16, tk_al_17, tk_al_19, tk_al_20, tk_al_22, tk_al_24, tk_al_25, tk_al_26, tk_al_27, tk_al_28, tk_al_29, tk_al_30, tk_al_32, tk_al_33, tk_al_34, tk_al_35, tk_al_36, tk_al_37, tk_al_38, tk_al_39, tk_al_40, tk_al_41, tk_al_43, tk_al_44, tk_al_46, tk_al_47, tk_al_49, tk_al_50, tk_al_52, tk_al_54, tk_al_55, tk_al_56, tk_al_57, tk_al_58, tk_al_59, tk_al_60, tk_al_62, tk_al_63, tk_al_64, tk_al_65, tk_al_66, tk_al_67, tk_al_68, tk_al_69, tk_al_70, tk_al_71, tk_al_73, tk_al_74, tk_al_76, tk_al_77, tk_al_79, tk_al_80, tk_al_81, tk_al_83, tk_al_85, tk_al_87, tk_al_89, tk_al_91, tk_al_93, tk_al_95, tk_al_97, tk_al_98, tk_al_99, tk_al_100, tk_al_101, tk_al_102, tk_al_103, tk_al_104, tk_al_105, tk_al_106, tk_al_107, tk_al_108, tk_al_109, tk_al_110, tk_al_111, tk_al_112, tk_al_113, tk_al_114, tk_al_115, tk_al_116, tk_al_117, tk_al_118, tk_al_119, tk_al_120, tk_al_121, tk_al_122, tk_al_123, tk_al_124, tk_al_125, tk_al_126, tk_al_127, tk_al_128, tk_al_129, i1, tk_mx_id]
    exact hK _ _ ⟨rfl, r0, rfl, hs.symm⟩
  · rintro ρ μ' ⟨rfl, r0, r2, r1⟩ X
    simp [tk_fn, tk_env, tk_sq, tk_sk, tk_if, tk_re, tk_rez, tk_rev, tk_xp, tk_se, tk_pf, tk_pfz, tk_pfo, tk_as, tk_asz, tk_asb, tk_aso, tk_cpy, tk_sw, tk_swc, tk_lit, tk_loc, tk_u1, tk_bin, tk_dv, tk_gf, tk_gr, tk_gn, tk_ald, tk_aldq, tk_aln, tk_unl, tk_una, tk_ter, tk_args, tk_cs, tk_cv, tk_ceq, tk_cne, tk_clt, tk_cge, tk_cgt, tk_cle, tk_zeq, tk_zne, tk_zlt, tk_zge, tk_zgt, tk_zle, tk_and, tk_or, tk_not, tk_ct2, tk_isC, List.headD_cons, tk_up, tk_sca, tk_scl, r0, r1, r2]
    exact hQ
theorem x_isSeenSo {μ : tk_M} {Q : Int → tk_M → Prop} {n c : Int} (hz : 0 ≤ μ 42 0 ∧ μ 42 0 ≤ 5) (h1 : tk_ssP (tk_hw 31 μ) n c → Q 1 μ) (h0 : ¬ tk_ssP (tk_hw 31 μ) n c → Q 0 μ) : tkF_X2_isSeenSo [31, n, c] Q μ := by
  simp [tk_fn, tk_env, tk_sq, tk_sk, tk_if, tk_re, tk_rez, tk_rev, tk_xp, tk_se, tk_pf, tk_pfz, tk_pfo, tk_as, tk_asz, tk_asb, tk_aso, tk_cpy, tk_sw, tk_swc, tk_lit, tk_loc, tk_u1, tk_bin, tk_dv, tk_gf, tk_gr, tk_gn, tk_ald, tk_aldq, tk_aln, tk_unl, tk_una, tk_ter, tk_args, tk_cs, tk_cv, tk_ceq, tk_cne, tk_clt, tk_cge, tk_cgt, tk_cle, tk_zeq, tk_zne, tk_zlt, tk_zge, tk_zgt, tk_zle, tk_and, tk_or, tk_not, tk_ct2, tk_isC, List.headD_cons, tk_up, tk_sca, tk_scl, tkF_X2_isSeenSo, tkS_X2_isSeenSo]
  refine tk_for (μ 42 0) (fun i ρ μ' => μ' = μ ∧ ρ 0 = 31 ∧ ρ 1 = n ∧ ρ 2 = c ∧ ρ 3 = i ∧ ∀ k : Int, 0 ≤ k → k < i → μ 44 k = n → μ 43 k = c) hz.1 ⟨rfl, rfl, rfl, rfl, rfl, fun k h1 h2 => by omega⟩ ?_ ?_
  · rintro i ρ μ' hi0 hi6 ⟨rfl, r0, r1, r2, r3, hb⟩ K hK
    have i1 : tk_iadd i 1 = i + 1 := tk_iadd_id (by omega) (by omega)
    have h5 : i < 5 := by omega
    by_cases hq : μ' 44 i = n
    · by_cases hp : μ' 43 i = c
      · simp [tk_fn, tk_env, tk_sq, tk_sk, tk_if, tk_re, tk_rez, tk_rev, tk_xp, tk_se, tk_pf, tk_pfz, tk_pfo, tk_as, tk_asz, tk_asb, tk_aso, tk_cpy, tk_sw, tk_swc, tk_lit, tk_loc, tk_u1, tk_bin, tk_dv, tk_gf, tk_gr, tk_gn, tk_ald, tk_aldq, tk_aln, tk_unl, tk_una, tk_ter, tk_args, tk_cs, tk_cv, tk_ceq, tk_cne, tk_clt, tk_cge, tk_cgt, tk_cle, tk_zeq, tk_zne, tk_zlt, tk_zge, tk_zgt, tk_zle, tk_and, tk_or, tk_not, tk_ct2, tk_isC, List.headD_cons, tk_up, tk_sca, tk_scl, r0, r1, r2, r3, hi0, hi6, h5, tk_al_2, tk_al_3, tk_al_4, tk_al_5, tk_al_6, tk_al_7, tk_al_8, tk_al_9, tk_al_10, tk_al_11, tk_al_13, tk_al_14, tk_al_16, tk_al_17, tk_al_19, tk_al_20, tk_al_22, tk_al_24, tk_al_25, tk_al_26, tk_al_27, tk_al_28, tk_al_29, tk_al_30, tk_al_32, tk_al_33, tk_al_34, tk_al_35, tk_al_36, tk_al_37, tk_al_38, tk_al_39, tk_al_40, tk_al_41, tk_al_43, tk_al_44, tk_al_46, tk_al_47, tk_al_49, tk_al_50, tk_al_52, tk_al_54, tk_al_55, tk_al_56, tk_al_57, tk_al_58, tk_al_59, tk_al_60, tk_al_62, tk_al_63, tk_al_64, tk_al_65, tk_al_66, tk_al_67, tk_al_68, tk_al_69, tk_al_70, tk_al_71, tk_al_73, tk_al_74, tk_al_76, tk_al_77, tk_al_79, tk_al_80, tk_al_81, tk_al_83, tk_al_85, tk_al_87, tk_al_89, tk_al_91, tk_al_93, tk_al_95, tk_al_97, tk_al_98, tk_al_99, tk_al_100, tk_al_101, tk_al_102, tk_al_103, tk_al_104, tk_al_105, tk_al_106, tk_al_107, tk_al_108, tk_al_109, tk_al_110, tk_al_111, tk_al_112, tk_al_113, tk_al_114, tk_al_115, tk_al_116, tk_al_117, tk_al_118, tk_al_119, tk_al_120, tk_al_121, tk_al_122, tk_al_123, tk_al_124, tk_al_125, tk_al_126, tk_al_127, tk_al_128, tk_al_129, i1, hq, hp]
        refine hK _ _ ⟨rfl, r0, r1, r2, rfl, fun k h2 h3 h4 => ?_⟩
        by_cases hk : k = i
        · subst hk; exact hp
        · exact hb k h2 (by omega) h4
      · simp [tk_fn, tk_env, tk_sq, tk_sk, tk_if, tk_re, tk_rez, tk_rev, tk_xp, tk_se, tk_pf, tk_pfz, tk_pfo, tk_as, tk_asz, tk_asb, tk_aso, tk_cpy, tk_sw, tk_swc, tk_lit, tk_loc, tk_u1, tk_bin, tk_dv, tk_gf, tk_gr, tk_gn, tk_ald, tk_aldq, tk_aln, tk_unl, tk_una, tk_ter, tk_args, tk_cs, tk_cv, tk_ceq, tk_cne, tk_clt, tk_cge, tk_cgt, tk_cle, tk_zeq, tk_zne, tk_zlt, tk_zge, tk_zgt, tk_zle, tk_and, tk_or, tk_not, tk_ct2, tk_isC, List.headD_cons, tk_up, tk_sca, tk_scl, r0, r1, r2, r3, hi0, hi6, h5, tk_al_2, tk_al_3, tk_al_4, tk_al_5, tk_al_6, tk_al_7, tk_al_8, tk_al_9, tk_al_10, tk_al_11, tk_al_13, tk_al_14, tk_al_16, tk_al_17, tk_al_19, tk_al_20, tk_al_22, tk_al_24, tk_al_25, tk_al_26, tk_al_27, tk_al_28, tk_al_29, tk_al_30, tk_al_32, tk_al_33, tk_al_34, tk_al_35, tk_al_36, tk_al_37, tk_al_38, tk_al_39, tk_al_40, tk_al_41, tk_al_43, tk_al_44, tk_al_46, tk_al_47, tk_al_49, tk_al_50, tk_al_52, tk_al_54, tk_al_55, tk_al_56, tk_al_57, tk_al_58, tk_al_59, tk_al_60, tk_al_62, tk_al_63, tk_al_64, tk_al_65, tk_al_66, tk_al_67, tk_al_68, tk_al_69, tk_al_70, tk_al_71, tk_al_73, tk_al_74, tk_al_76, tk_al_77, tk_al_79, tk_al_80, tk_al_81, tk_al_83, tk_al_85, tk_al_87, tk_al_89, tk_al_91, tk_al_93, tk_al_95, tk_al_97, tk_al_98, tk_al_99, tk_al_100, tk_al_101, tk_al_102, tk_al_103, tk_al_104, tk_al_105, tk_al_106, tk_al_107, tk_al_108, tk_al_109, tk_al_110, tk_al_111, tk_al_112, tk_al_113, tk_al_114, tk_al_115, tk_al_116, tk_al_117, tk_al_118, tk_al_119, tk_al_120, tk_al_121, tk_al_122, tk_al_123, tk_al_124, tk_al_125, tk_al_126, tk_al_127, tk_al_128, tk_al_129, i1, hq, hp]
        exact h0 (fun z => hp (z i hi0 hi6 hq))
    · simp [tk_fn, tk_env, tk_sq, tk_sk, tk_if, tk_re, tk_rez, tk_rev, tk_xp, tk_se, tk_pf, tk_pfz, tk_pfo, tk_as, tk_asz, tk_asb, tk_aso, tk_cpy, tk_sw, tk_swc, tk_lit, tk_loc, tk_u1, tk_bin, tk_dv, tk_gf, tk_gr, tk_gn, tk_ald, tk_aldq, tk_aln, tk_unl, tk_una, tk_ter, tk_args, tk_cs, tk_cv, tk_ceq, tk_cne, tk_clt, tk_cge, tk_cgt, tk_cle, tk_zeq, tk_zne, tk_zlt, tk_zge, tk_zgt, tk_zle, tk_and, tk_or, tk_not, tk_ct2, tk_isC, List.headD_cons, tk_up, tk_sca, tk_scl, r0, r1, r2, r3, hi0, hi6, h5, tk_al_2, tk_al_3, tk_al_4, tk_al_5, tk_al_6, tk_al_7, tk_al_8, tk_al_9, tk_al_10, tk_al_11, tk_al_13, tk_al_14, tk_al_16, tk_al_17, tk_al_19, tk_al_20, tk_al_22, tk_al_24, tk_al_25, tk_al_26, tk_al_27, tk_al_28, tk_al_29, tk_al_30, tk_al_32, tk_al_33, tk_al_34, tk_al_35, tk_al_36, tk_al_37, tk_al_38, tk_al_39, tk_al_40, tk_al_41, tk_al_43, tk_al_44, tk_al_46, tk_al_47, tk_al_49, tk_al_50, tk_al_52, tk_al_54, tk_al_55, tk_al_56, tk_al_57, tk_al_58, tk_al_59, tk_al_60, tk_al_62, tk_al_63, tk_al_64, tk_al_65, tk_al_66, tk_al_67, tk_al_68, tk_al_69, tk_al_70, tk_al_71, tk_al_73, tk_al_74, tk_al_76, tk_al_77, tk_al_79, tk_al_80, tk_al_81, tk_al_83, tk_al_85, tk_al_87, tk_al_89, tk_al_91, tk_al_93, tk_al_95, tk_al_97, tk_al_98, tk_al_99, tk_al_100, tk_al_101, tk_al_102, tk_al_103, tk_al_104, tk_al_105, tk_al_106, tk_al_107, tk_al_108, tk_al_109, tk_al_110, tk_al_111, tk_al_112, tk_al_113, tk_al_114, tk_al_115, tk_al_116, tk_al_117, tk_al_118, tk_al_119, tk_al_120, tk_al_121, tk_al_122, tk_al_123, tk_al_124, tk_al_125, tk_al_126, tk_al_127, tk_al_128, tk_al_129, i1, hq]
      refine hK _ _ ⟨rfl, r0, r1, r2, rfl, fun k h2 h3 h4 => ?_⟩
      by_cases hk : k = i
      · subst hk; exact absurd h4 hq
      · exact hb k h2 (by omega) h4
  · rintro ρ μ' ⟨rfl, r0, r1, r2, r3, hb⟩ X
    simp [tk_fn, tk_env, tk_sq, tk_sk, tk_if, tk_re, tk_rez, tk_rev, tk_xp, tk_se, tk_pf, tk_pfz, tk_pfo, tk_as, tk_asz, tk_asb, tk_aso, tk_cpy, tk_sw, tk_swc, tk_lit, tk_loc, tk_u1, tk_bin, tk_dv, tk_gf, tk_gr, tk_gn, tk_ald, tk_aldq, tk_aln, tk_unl, tk_una, tk_ter, tk_args, tk_cs, tk_cv, tk_ceq, tk_cne, tk_clt, tk_cge, tk_cgt, tk_cle, tk_zeq, tk_zne, tk_zlt, tk_zge, tk_zgt, tk_zle, tk_and, tk_or, tk_not, tk_ct2, tk_isC, List.headD_cons, tk_up, tk_sca, tk_scl, r0, r3]
    exact h1 hb
theorem x_drawsAsSeen {z : Int} {sh : Int → Int} {μ : tk_M} {Q : Int → tk_M → Prop} (hJ : tk_JL 99999 (tk_hw 31 μ)) (h4 : tk_I4 (tk_hw 31 μ)) (hb : tk_shb sh) (hs : tk_xsh 31 sh μ) (hx : tk_xd 31 sh μ) (h1 : ∀ μ', tk_fx 31 μ μ' → tk_AS sh (tk_hw 31 μ) z → Q 1 μ') (h0 : ∀ μ', tk_fx 31 μ μ' → ¬ tk_AS sh (tk_hw 31 μ) z → Q 0 μ') : tkF_X0_drawsAsSeen [51, z] Q μ := by
  have hl := tk_lsa_bd h4
  have hz : 0 ≤ μ 42 0 ∧ μ 42 0 ≤ 5 := h4.1
  simp [tk_fn, tk_env, tk_sq, tk_sk, tk_if, tk_re, tk_rez, tk_rev, tk_xp, tk_se, tk_pf, tk_pfz, tk_pfo, tk_as, tk_asz, tk_asb, tk_aso, tk_cpy, tk_sw, tk_swc, tk_lit, tk_loc, tk_u1, tk_bin, tk_dv, tk_gf, tk_gr, tk_gn, tk_ald, tk_aldq, tk_aln, tk_unl, tk_una, tk_ter, tk_args, tk_cs, tk_cv, tk_ceq, tk_cne, tk_clt, tk_cge, tk_cgt, tk_cle, tk_zeq, tk_zne, tk_zlt, tk_zge, tk_zgt, tk_zle, tk_and, tk_or, tk_not, tk_ct2, tk_isC, List.headD_cons, tk_up, tk_sca, tk_scl, tkF_X0_drawsAsSeen, tkS_X0_drawsAsSeen]
  refine x_lastSeen h4 ?_
  refine tk_for (tk_lsa (tk_hw 31 μ)) (fun i ρ μ' => ρ 0 = 51 ∧ ρ 2 = tk_lsa (tk_hw 31 μ) ∧ ρ 3 = tk_zk z i.toNat ∧ ρ 4 = i + 1 ∧ tk_fx 31 μ μ' ∧ tk_hw 31 μ' = tk_gd sh (tk_hw 31 μ) z i.toNat ∧ tk_xsh 31 sh μ' ∧ tk_xd 31 sh μ' ∧ ∀ n : Nat, 1 ≤ n → (n : Int) ≤ i → tk_ssP (tk_hw 31 μ) n (tk_gdl sh (tk_hw 31 μ) z n)) hl.1 ⟨rfl, rfl, rfl, rfl, tk_fx_r, rfl, hs, hx, fun n h2 h3 => by omega⟩ ?_ ?_
  · rintro i ρ μ' hi0 hi6 ⟨r0, r2, r3, r4, hf, he, hs, hx, hall⟩ K hK
    have i1 : tk_iadd (i + 1) 1 = i + 1 + 1 := tk_iadd_id (by omega) (by omega)
    have e : (i + 1).toNat = i.toNat + 1 := by omega
    have hJ2 := tk_gd_J (sh := sh) (z := z) hJ i.toNat
    have hzz : tk_iadd (tk_imul (tk_zk z i.toNat) 1103515245) 12345 = tk_zk z (i.toNat + 1) := rfl
    simp [tk_fn, tk_env, tk_sq, tk_sk, tk_if, tk_re, tk_rez, tk_rev, tk_xp, tk_se, tk_pf, tk_pfz, tk_pfo, tk_as, tk_asz, tk_asb, tk_aso, tk_cpy, tk_sw, tk_swc, tk_lit, tk_loc, tk_u1, tk_bin, tk_dv, tk_gf, tk_gr, tk_gn, tk_ald, tk_aldq, tk_aln, tk_unl, tk_una, tk_ter, tk_args, tk_cs, tk_cv, tk_ceq, tk_cne, tk_clt, tk_cge, tk_cgt, tk_cle, tk_zeq, tk_zne, tk_zlt, tk_zge, tk_zgt, tk_zle, tk_and, tk_or, tk_not, tk_ct2, tk_isC, List.headD_cons, tk_up, tk_sca, tk_scl, r0, r2, r3, r4, show i + 1 ≤ tk_lsa (tk_hw 31 μ) from by omega, i1, tkF_X0_numberBehind, tkS_X0_numberBehind, hzz]
    refine x_qDr31 (b := 99999 + 10 * (i.toNat : Nat)) (sh := sh) (by rw [he]; exact hJ2.1) (by omega) hb hs hx (fun μ2 hf2 he2 hs2 hx2 => ?_)
    rw [he] at he2 ⊢
    have hgdl : tk_drw sh (tk_gd sh (tk_hw 31 μ) z i.toNat) (tk_zk z (i.toNat + 1)) = tk_gdl sh (tk_hw 31 μ) z (i.toNat + 1) := rfl
    have hgd : tk_hw 31 μ2 = tk_gd sh (tk_hw 31 μ) z (i.toNat + 1) := he2
    have hz2 : μ2 42 0 = μ 42 0 := by rw [hf2 _ _ (by omega), hf _ _ (by omega)]
    have hss : tk_ssP (tk_hw 31 μ2) (i + 1) (tk_gdl sh (tk_hw 31 μ) z (i.toNat + 1)) ↔ tk_ssP (tk_hw 31 μ) (i + 1) (tk_gdl sh (tk_hw 31 μ) z (i.toNat + 1)) := by
      rw [hgd]
      refine tk_ssP_eq ⟨tk_gd_o (by omega) (by omega) (by omega) _, fun k _ _ => ⟨tk_gd_o (by omega) (by omega) (by omega) _, tk_gd_o (by omega) (by omega) (by omega) _⟩⟩
    rw [hgdl]
    refine x_isSeenSo (by rw [hz2]; exact hz) (fun hy => ?_) (fun hn => ?_)
    · rw [hss] at hy
      simp
      refine hK _ _ ⟨r0, r2, ?_, rfl, tk_fx_t hf hf2, ?_, hs2, hx2, fun n h2 h3 => ?_⟩
      · rw [e]; simp [tk_up]
      · rw [e]; exact hgd
      · by_cases hni : n = i.toNat + 1
        · subst hni
          have : ((i.toNat + 1 : Nat) : Int) = i + 1 := by omega
          rw [this]; exact hy
        · exact hall n h2 (by omega)
    · rw [hss] at hn
      simp
      refine h0 _ (tk_fx_t hf hf2) (fun hA => hn ?_)
      have := hA (i.toNat + 1) (by omega) (by omega)
      have e3 : ((i.toNat + 1 : Nat) : Int) = i + 1 := by omega
      rw [e3] at this
      exact this
  · rintro ρ μ' ⟨r0, r2, r3, r4, hf, he, hs, hx, hall⟩ X
    simp [tk_fn, tk_env, tk_sq, tk_sk, tk_if, tk_re, tk_rez, tk_rev, tk_xp, tk_se, tk_pf, tk_pfz, tk_pfo, tk_as, tk_asz, tk_asb, tk_aso, tk_cpy, tk_sw, tk_swc, tk_lit, tk_loc, tk_u1, tk_bin, tk_dv, tk_gf, tk_gr, tk_gn, tk_ald, tk_aldq, tk_aln, tk_unl, tk_una, tk_ter, tk_args, tk_cs, tk_cv, tk_ceq, tk_cne, tk_clt, tk_cge, tk_cgt, tk_cle, tk_zeq, tk_zne, tk_zlt, tk_zge, tk_zgt, tk_zle, tk_and, tk_or, tk_not, tk_ct2, tk_isC, List.headD_cons, tk_up, tk_sca, tk_scl, r0, r2, r4, show ¬ tk_lsa (tk_hw 31 μ) + 1 ≤ tk_lsa (tk_hw 31 μ) from by omega]
    exact h1 _ hf (fun n h2 h3 => hall n h2 h3)
theorem m_isSeen {μ : tk_M} {Q : Int → tk_M → Prop} {n c : Int} (hz : 0 ≤ μ 96 15 ∧ μ 96 15 ≤ 5) (h1 : tk_ssP (tk_mv μ) n c → Q 1 μ) (h0 : ¬ tk_ssP (tk_mv μ) n c → Q 0 μ) : tkF_X7_isSeen [96, n, c] Q μ := by
  simp [tk_fn, tk_env, tk_sq, tk_sk, tk_if, tk_re, tk_rez, tk_rev, tk_xp, tk_se, tk_pf, tk_pfz, tk_pfo, tk_as, tk_asz, tk_asb, tk_aso, tk_cpy, tk_sw, tk_swc, tk_lit, tk_loc, tk_u1, tk_bin, tk_dv, tk_gf, tk_gr, tk_gn, tk_ald, tk_aldq, tk_aln, tk_unl, tk_una, tk_ter, tk_args, tk_cs, tk_cv, tk_ceq, tk_cne, tk_clt, tk_cge, tk_cgt, tk_cle, tk_zeq, tk_zne, tk_zlt, tk_zge, tk_zgt, tk_zle, tk_and, tk_or, tk_not, tk_ct2, tk_isC, List.headD_cons, tk_up, tk_sca, tk_scl, tkF_X7_isSeen, tkS_X7_isSeen]
  refine tk_for (μ 96 15) (fun i ρ μ' => μ' = μ ∧ ρ 0 = 96 ∧ ρ 1 = n ∧ ρ 2 = c ∧ ρ 4 = i ∧ ((ρ 3 = 1 ∧ ∀ k : Int, 0 ≤ k → k < i → μ 108 k = n → μ 107 k = c) ∨ (ρ 3 = 0 ∧ ¬ tk_ssP (tk_mv μ) n c))) hz.1 ⟨rfl, rfl, rfl, rfl, rfl, .inl ⟨rfl, fun k h1 h2 => by omega⟩⟩ ?_ ?_
  · rintro i ρ μ' hi0 hi6 ⟨rfl, r0, r1, r2, r4, ⟨r3, hb⟩ | ⟨r3, hb⟩⟩ K hK
    · have i1 : tk_iadd i 1 = i + 1 := tk_iadd_id (by omega) (by omega)
      have h5 : i < 5 := by omega
      by_cases hq : μ' 108 i = n
      · by_cases hp : μ' 107 i = c
        · simp [tk_fn, tk_env, tk_sq, tk_sk, tk_if, tk_re, tk_rez, tk_rev, tk_xp, tk_se, tk_pf, tk_pfz, tk_pfo, tk_as, tk_asz, tk_asb, tk_aso, tk_cpy, tk_sw, tk_swc, tk_lit, tk_loc, tk_u1, tk_bin, tk_dv, tk_gf, tk_gr, tk_gn, tk_ald, tk_aldq, tk_aln, tk_unl, tk_una, tk_ter, tk_args, tk_cs, tk_cv, tk_ceq, tk_cne, tk_clt, tk_cge, tk_cgt, tk_cle, tk_zeq, tk_zne, tk_zlt, tk_zge, tk_zgt, tk_zle, tk_and, tk_or, tk_not, tk_ct2, tk_isC, List.headD_cons, tk_up, tk_sca, tk_scl, r0, r1, r2, r3, r4, hi0, hi6, h5, tk_al_2, tk_al_3, tk_al_4, tk_al_5, tk_al_6, tk_al_7, tk_al_8, tk_al_9, tk_al_10, tk_al_11, tk_al_13, tk_al_14, tk_al_16, tk_al_17, tk_al_19, tk_al_20, tk_al_22, tk_al_24, tk_al_25, tk_al_26, tk_al_27, tk_al_28, tk_al_29, tk_al_30, tk_al_32, tk_al_33, tk_al_34, tk_al_35, tk_al_36, tk_al_37, tk_al_38, tk_al_39, tk_al_40, tk_al_41, tk_al_43, tk_al_44, tk_al_46, tk_al_47, tk_al_49, tk_al_50, tk_al_52, tk_al_54, tk_al_55, tk_al_56, tk_al_57, tk_al_58, tk_al_59, tk_al_60, tk_al_62, tk_al_63, tk_al_64, tk_al_65, tk_al_66, tk_al_67, tk_al_68, tk_al_69, tk_al_70, tk_al_71, tk_al_73, tk_al_74, tk_al_76, tk_al_77, tk_al_79, tk_al_80, tk_al_81, tk_al_83, tk_al_85, tk_al_87, tk_al_89, tk_al_91, tk_al_93, tk_al_95, tk_al_97, tk_al_98, tk_al_99, tk_al_100, tk_al_101, tk_al_102, tk_al_103, tk_al_104, tk_al_105, tk_al_106, tk_al_107, tk_al_108, tk_al_109, tk_al_110, tk_al_111, tk_al_112, tk_al_113, tk_al_114, tk_al_115, tk_al_116, tk_al_117, tk_al_118, tk_al_119, tk_al_120, tk_al_121, tk_al_122, tk_al_123, tk_al_124, tk_al_125, tk_al_126, tk_al_127, tk_al_128, tk_al_129, i1, hq, hp]
          refine hK _ _ ⟨rfl, r0, r1, r2, rfl, .inl ⟨rfl, fun k h2 h3 h4 => ?_⟩⟩
          by_cases hk : k = i
          · subst hk; exact hp
          · exact hb k h2 (by omega) h4
        · simp [tk_fn, tk_env, tk_sq, tk_sk, tk_if, tk_re, tk_rez, tk_rev, tk_xp, tk_se, tk_pf, tk_pfz, tk_pfo, tk_as, tk_asz, tk_asb, tk_aso, tk_cpy, tk_sw, tk_swc, tk_lit, tk_loc, tk_u1, tk_bin, tk_dv, tk_gf, tk_gr, tk_gn, tk_ald, tk_aldq, tk_aln, tk_unl, tk_una, tk_ter, tk_args, tk_cs, tk_cv, tk_ceq, tk_cne, tk_clt, tk_cge, tk_cgt, tk_cle, tk_zeq, tk_zne, tk_zlt, tk_zge, tk_zgt, tk_zle, tk_and, tk_or, tk_not, tk_ct2, tk_isC, List.headD_cons, tk_up, tk_sca, tk_scl, r0, r1, r2, r3, r4, hi0, hi6, h5, tk_al_2, tk_al_3, tk_al_4, tk_al_5, tk_al_6, tk_al_7, tk_al_8, tk_al_9, tk_al_10, tk_al_11, tk_al_13, tk_al_14, tk_al_16, tk_al_17, tk_al_19, tk_al_20, tk_al_22, tk_al_24, tk_al_25, tk_al_26, tk_al_27, tk_al_28, tk_al_29, tk_al_30, tk_al_32, tk_al_33, tk_al_34, tk_al_35, tk_al_36, tk_al_37, tk_al_38, tk_al_39, tk_al_40, tk_al_41, tk_al_43, tk_al_44, tk_al_46, tk_al_47, tk_al_49, tk_al_50, tk_al_52, tk_al_54, tk_al_55, tk_al_56, tk_al_57, tk_al_58, tk_al_59, tk_al_60, tk_al_62, tk_al_63, tk_al_64, tk_al_65, tk_al_66, tk_al_67, tk_al_68, tk_al_69, tk_al_70, tk_al_71, tk_al_73, tk_al_74, tk_al_76, tk_al_77, tk_al_79, tk_al_80, tk_al_81, tk_al_83, tk_al_85, tk_al_87, tk_al_89, tk_al_91, tk_al_93, tk_al_95, tk_al_97, tk_al_98, tk_al_99, tk_al_100, tk_al_101, tk_al_102, tk_al_103, tk_al_104, tk_al_105, tk_al_106, tk_al_107, tk_al_108, tk_al_109, tk_al_110, tk_al_111, tk_al_112, tk_al_113, tk_al_114, tk_al_115, tk_al_116, tk_al_117, tk_al_118, tk_al_119, tk_al_120, tk_al_121, tk_al_122, tk_al_123, tk_al_124, tk_al_125, tk_al_126, tk_al_127, tk_al_128, tk_al_129, i1, hq, hp]
          exact hK _ _ ⟨rfl, r0, r1, r2, rfl, .inr ⟨rfl, fun z => hp (z i hi0 hi6 hq)⟩⟩
      · simp [tk_fn, tk_env, tk_sq, tk_sk, tk_if, tk_re, tk_rez, tk_rev, tk_xp, tk_se, tk_pf, tk_pfz, tk_pfo, tk_as, tk_asz, tk_asb, tk_aso, tk_cpy, tk_sw, tk_swc, tk_lit, tk_loc, tk_u1, tk_bin, tk_dv, tk_gf, tk_gr, tk_gn, tk_ald, tk_aldq, tk_aln, tk_unl, tk_una, tk_ter, tk_args, tk_cs, tk_cv, tk_ceq, tk_cne, tk_clt, tk_cge, tk_cgt, tk_cle, tk_zeq, tk_zne, tk_zlt, tk_zge, tk_zgt, tk_zle, tk_and, tk_or, tk_not, tk_ct2, tk_isC, List.headD_cons, tk_up, tk_sca, tk_scl, r0, r1, r2, r3, r4, hi0, hi6, h5, tk_al_2, tk_al_3, tk_al_4, tk_al_5, tk_al_6, tk_al_7, tk_al_8, tk_al_9, tk_al_10, tk_al_11, tk_al_13, tk_al_14, tk_al_16, tk_al_17, tk_al_19, tk_al_20, tk_al_22, tk_al_24, tk_al_25, tk_al_26, tk_al_27, tk_al_28, tk_al_29, tk_al_30, tk_al_32, tk_al_33, tk_al_34, tk_al_35, tk_al_36, tk_al_37, tk_al_38, tk_al_39, tk_al_40, tk_al_41, tk_al_43, tk_al_44, tk_al_46, tk_al_47, tk_al_49, tk_al_50, tk_al_52, tk_al_54, tk_al_55, tk_al_56, tk_al_57, tk_al_58, tk_al_59, tk_al_60, tk_al_62, tk_al_63, tk_al_64, tk_al_65, tk_al_66, tk_al_67, tk_al_68, tk_al_69, tk_al_70, tk_al_71, tk_al_73, tk_al_74, tk_al_76, tk_al_77, tk_al_79, tk_al_80, tk_al_81, tk_al_83, tk_al_85, tk_al_87, tk_al_89, tk_al_91, tk_al_93, tk_al_95, tk_al_97, tk_al_98, tk_al_99, tk_al_100, tk_al_101, tk_al_102, tk_al_103, tk_al_104, tk_al_105, tk_al_106, tk_al_107, tk_al_108, tk_al_109, tk_al_110, tk_al_111, tk_al_112, tk_al_113, tk_al_114, tk_al_115, tk_al_116, tk_al_117, tk_al_118, tk_al_119, tk_al_120, tk_al_121, tk_al_122, tk_al_123, tk_al_124, tk_al_125, tk_al_126, tk_al_127, tk_al_128, tk_al_129, i1, hq]
        refine hK _ _ ⟨rfl, r0, r1, r2, rfl, .inl ⟨rfl, fun k h2 h3 h4 => ?_⟩⟩
        by_cases hk : k = i
        · subst hk; exact absurd h4 hq
        · exact hb k h2 (by omega) h4
    · have i1 : tk_iadd i 1 = i + 1 := tk_iadd_id (by omega) (by omega)
      simp [tk_fn, tk_env, tk_sq, tk_sk, tk_if, tk_re, tk_rez, tk_rev, tk_xp, tk_se, tk_pf, tk_pfz, tk_pfo, tk_as, tk_asz, tk_asb, tk_aso, tk_cpy, tk_sw, tk_swc, tk_lit, tk_loc, tk_u1, tk_bin, tk_dv, tk_gf, tk_gr, tk_gn, tk_ald, tk_aldq, tk_aln, tk_unl, tk_una, tk_ter, tk_args, tk_cs, tk_cv, tk_ceq, tk_cne, tk_clt, tk_cge, tk_cgt, tk_cle, tk_zeq, tk_zne, tk_zlt, tk_zge, tk_zgt, tk_zle, tk_and, tk_or, tk_not, tk_ct2, tk_isC, List.headD_cons, tk_up, tk_sca, tk_scl, r0, r1, r2, r3, r4, hi6, i1]
      exact hK _ _ ⟨rfl, r0, r1, r2, rfl, .inr ⟨rfl, hb⟩⟩
  · rintro ρ μ' ⟨rfl, r0, r1, r2, r4, ⟨r3, hb⟩ | ⟨r3, hb⟩⟩ X
    · simp [tk_fn, tk_env, tk_sq, tk_sk, tk_if, tk_re, tk_rez, tk_rev, tk_xp, tk_se, tk_pf, tk_pfz, tk_pfo, tk_as, tk_asz, tk_asb, tk_aso, tk_cpy, tk_sw, tk_swc, tk_lit, tk_loc, tk_u1, tk_bin, tk_dv, tk_gf, tk_gr, tk_gn, tk_ald, tk_aldq, tk_aln, tk_unl, tk_una, tk_ter, tk_args, tk_cs, tk_cv, tk_ceq, tk_cne, tk_clt, tk_cge, tk_cgt, tk_cle, tk_zeq, tk_zne, tk_zlt, tk_zge, tk_zgt, tk_zle, tk_and, tk_or, tk_not, tk_ct2, tk_isC, List.headD_cons, tk_up, tk_sca, tk_scl, r0, r3, r4]
      exact h1 hb
    · simp [tk_fn, tk_env, tk_sq, tk_sk, tk_if, tk_re, tk_rez, tk_rev, tk_xp, tk_se, tk_pf, tk_pfz, tk_pfo, tk_as, tk_asz, tk_asb, tk_aso, tk_cpy, tk_sw, tk_swc, tk_lit, tk_loc, tk_u1, tk_bin, tk_dv, tk_gf, tk_gr, tk_gn, tk_ald, tk_aldq, tk_aln, tk_unl, tk_una, tk_ter, tk_args, tk_cs, tk_cv, tk_ceq, tk_cne, tk_clt, tk_cge, tk_cgt, tk_cle, tk_zeq, tk_zne, tk_zlt, tk_zge, tk_zgt, tk_zle, tk_and, tk_or, tk_not, tk_ct2, tk_isC, List.headD_cons, tk_up, tk_sca, tk_scl, r0, r3, r4]
      exact h0 hb
theorem m_allSeen {z : Int} {sh : Int → Int} {μ m : tk_M} {Q : Int → tk_M → Prop} (hR : tk_R μ) (htr : tk_tr μ m) (hJ : tk_JL 99999 (tk_mv m)) (h4 : tk_I4 (tk_mv m)) (hb : tk_shb sh) (hm : tk_mq sh m) (hQ : ∀ m' r, tk_R m' → tk_tr μ m' → tk_CC (tk_mv μ) (tk_mv m') → tk_mq sh m' → (r = 1 ∧ tk_AS sh (tk_mv m) z ∨ r = 0 ∧ ¬ tk_AS sh (tk_mv m) z) → Q r m') : tkF_X7_allSeen [96, z] Q m := by
  have hl := tk_lsa_bd h4
  have hz : (0 ≤ m 96 15 ∧ m 96 15 ≤ 5) ∧ ∀ k : Int, 0 ≤ k → k < m 96 15 → (0 ≤ m 107 k ∧ m 107 k < m 96 5) ∧ (1 ≤ m 108 k ∧ m 108 k ≤ 12) := h4
  have hS : ∀ k, tk_mv m 13 k = m 108 k := fun _ => rfl
  simp [tk_fn, tk_env, tk_sq, tk_sk, tk_if, tk_re, tk_rez, tk_rev, tk_xp, tk_se, tk_pf, tk_pfz, tk_pfo, tk_as, tk_asz, tk_asb, tk_aso, tk_cpy, tk_sw, tk_swc, tk_lit, tk_loc, tk_u1, tk_bin, tk_dv, tk_gf, tk_gr, tk_gn, tk_ald, tk_aldq, tk_aln, tk_unl, tk_una, tk_ter, tk_args, tk_cs, tk_cv, tk_ceq, tk_cne, tk_clt, tk_cge, tk_cgt, tk_cle, tk_zeq, tk_zne, tk_zlt, tk_zge, tk_zgt, tk_zle, tk_and, tk_or, tk_not, tk_ct2, tk_isC, List.headD_cons, tk_up, tk_sca, tk_scl, tkF_X7_allSeen, tkS_X7_allSeen]
  refine tk_for (m 96 15) (fun i ρ μ' => μ' = m ∧ ρ 0 = 96 ∧ ρ 1 = z ∧ ρ 2 = 1 ∧ ρ 4 = i ∧ ρ 3 = tk_lsn (tk_mv m) i.toNat) hz.1.1 ⟨rfl, rfl, rfl, rfl, rfl, rfl⟩ ?_ ?_
  · rintro i ρ μ' hi0 hi6 ⟨rfl, r0, r1, r2, r4, r3⟩ K hK
    have i1 : tk_iadd i 1 = i + 1 := tk_iadd_id (by omega) (by omega)
    have h5 : i < 5 := by omega
    have hs := tk_lsn_s (S := tk_mv μ') hi0
    rw [hS] at hs
    by_cases hg : tk_lsn (tk_mv μ') i.toNat < μ' 108 i
    · rw [if_pos hg] at hs
      simp [tk_fn, tk_env, tk_sq, tk_sk, tk_if, tk_re, tk_rez, tk_rev, tk_xp, tk_se, tk_pf, tk_pfz, tk_pfo, tk_as, tk_asz, tk_asb, tk_aso, tk_cpy, tk_sw, tk_swc, tk_lit, tk_loc, tk_u1, tk_bin, tk_dv, tk_gf, tk_gr, tk_gn, tk_ald, tk_aldq, tk_aln, tk_unl, tk_una, tk_ter, tk_args, tk_cs, tk_cv, tk_ceq, tk_cne, tk_clt, tk_cge, tk_cgt, tk_cle, tk_zeq, tk_zne, tk_zlt, tk_zge, tk_zgt, tk_zle, tk_and, tk_or, tk_not, tk_ct2, tk_isC, List.headD_cons, tk_up, tk_sca, tk_scl, r0, r3, r4, hi0, hi6, h5, tk_al_2, tk_al_3, tk_al_4, tk_al_5, tk_al_6, tk_al_7, tk_al_8, tk_al_9, tk_al_10, tk_al_11, tk_al_13, tk_al_14, tk_al_16, tk_al_17, tk_al_19, tk_al_20, tk_al_22, tk_al_24, tk_al_25, tk_al_26, tk_al_27, tk_al_28, tk_al_29, tk_al_30, tk_al_32, tk_al_33, tk_al_34, tk_al_35, tk_al_36, tk_al_37, tk_al_38, tk_al_39, tk_al_40, tk_al_41, tk_al_43, tk_al_44, tk_al_46, tk_al_47, tk_al_49, tk_al_50, tk_al_52, tk_al_54, tk_al_55, tk_al_56, tk_al_57, tk_al_58, tk_al_59, tk_al_60, tk_al_62, tk_al_63, tk_al_64, tk_al_65, tk_al_66, tk_al_67, tk_al_68, tk_al_69, tk_al_70, tk_al_71, tk_al_73, tk_al_74, tk_al_76, tk_al_77, tk_al_79, tk_al_80, tk_al_81, tk_al_83, tk_al_85, tk_al_87, tk_al_89, tk_al_91, tk_al_93, tk_al_95, tk_al_97, tk_al_98, tk_al_99, tk_al_100, tk_al_101, tk_al_102, tk_al_103, tk_al_104, tk_al_105, tk_al_106, tk_al_107, tk_al_108, tk_al_109, tk_al_110, tk_al_111, tk_al_112, tk_al_113, tk_al_114, tk_al_115, tk_al_116, tk_al_117, tk_al_118, tk_al_119, tk_al_120, tk_al_121, tk_al_122, tk_al_123, tk_al_124, tk_al_125, tk_al_126, tk_al_127, tk_al_128, tk_al_129, i1, hg]
      exact hK _ _ ⟨rfl, r0, r1, r2, rfl, hs.symm⟩
    · rw [if_neg hg] at hs
      simp [tk_fn, tk_env, tk_sq, tk_sk, tk_if, tk_re, tk_rez, tk_rev, tk_xp, tk_se, tk_pf, tk_pfz, tk_pfo, tk_as, tk_asz, tk_asb, tk_aso, tk_cpy, tk_sw, tk_swc, tk_lit, tk_loc, tk_u1, tk_bin, tk_dv, tk_gf, tk_gr, tk_gn, tk_ald, tk_aldq, tk_aln, tk_unl, tk_una, tk_ter, tk_args, tk_cs, tk_cv, tk_ceq, tk_cne, tk_clt, tk_cge, tk_cgt, tk_cle, tk_zeq, tk_zne, tk_zlt, tk_zge, tk_zgt, tk_zle, tk_and, tk_or, tk_not, tk_ct2, tk_isC, List.headD_cons, tk_up, tk_sca, tk_scl, r0, r3, r4, hi0, hi6, h5, tk_al_2, tk_al_3, tk_al_4, tk_al_5, tk_al_6, tk_al_7, tk_al_8, tk_al_9, tk_al_10, tk_al_11, tk_al_13, tk_al_14, tk_al_16, tk_al_17, tk_al_19, tk_al_20, tk_al_22, tk_al_24, tk_al_25, tk_al_26, tk_al_27, tk_al_28, tk_al_29, tk_al_30, tk_al_32, tk_al_33, tk_al_34, tk_al_35, tk_al_36, tk_al_37, tk_al_38, tk_al_39, tk_al_40, tk_al_41, tk_al_43, tk_al_44, tk_al_46, tk_al_47, tk_al_49, tk_al_50, tk_al_52, tk_al_54, tk_al_55, tk_al_56, tk_al_57, tk_al_58, tk_al_59, tk_al_60, tk_al_62, tk_al_63, tk_al_64, tk_al_65, tk_al_66, tk_al_67, tk_al_68, tk_al_69, tk_al_70, tk_al_71, tk_al_73, tk_al_74, tk_al_76, tk_al_77, tk_al_79, tk_al_80, tk_al_81, tk_al_83, tk_al_85, tk_al_87, tk_al_89, tk_al_91, tk_al_93, tk_al_95, tk_al_97, tk_al_98, tk_al_99, tk_al_100, tk_al_101, tk_al_102, tk_al_103, tk_al_104, tk_al_105, tk_al_106, tk_al_107, tk_al_108, tk_al_109, tk_al_110, tk_al_111, tk_al_112, tk_al_113, tk_al_114, tk_al_115, tk_al_116, tk_al_117, tk_al_118, tk_al_119, tk_al_120, tk_al_121, tk_al_122, tk_al_123, tk_al_124, tk_al_125, tk_al_126, tk_al_127, tk_al_128, tk_al_129, i1, hg]
      exact hK _ _ ⟨rfl, r0, r1, r2, rfl, hs.symm⟩
  · rintro ρ μ' ⟨rfl, r0, r1, r2, r4, r3⟩ X
    have r3 : ρ 3 = tk_lsa (tk_mv μ') := r3
    simp [tk_fn, tk_env, tk_sq, tk_sk, tk_if, tk_re, tk_rez, tk_rev, tk_xp, tk_se, tk_pf, tk_pfz, tk_pfo, tk_as, tk_asz, tk_asb, tk_aso, tk_cpy, tk_sw, tk_swc, tk_lit, tk_loc, tk_u1, tk_bin, tk_dv, tk_gf, tk_gr, tk_gn, tk_ald, tk_aldq, tk_aln, tk_unl, tk_una, tk_ter, tk_args, tk_cs, tk_cv, tk_ceq, tk_cne, tk_clt, tk_cge, tk_cgt, tk_cle, tk_zeq, tk_zne, tk_zlt, tk_zge, tk_zgt, tk_zle, tk_and, tk_or, tk_not, tk_ct2, tk_isC, List.headD_cons, tk_up, tk_sca, tk_scl, r0, r1, r4]
    have htr0 : tk_tr μ (tk_set μ' 96 37 z) := tk_tr_fg htr (tk_fg_q (tk_fg_1 tk_f1_r) (tk_fq_s tk_fq_r (by omega)))
    -- the last: put back
    have fin : ∀ (ρ2 : tk_L) (m2 : tk_M) (r : Int), ρ2 0 = 96 → ρ2 2 = r → tk_tr μ m2 → tk_mq sh m2 → (r = 1 ∧ tk_AS sh (tk_mv μ') z ∨ r = 0 ∧ ¬ tk_AS sh (tk_mv μ') z) → (96 = ρ2 0 → tkF_X7_again [ρ2 0] (fun _ m3 => (ρ2 2 = 0 ∨ ρ2 2 = 1) ∧ Q (ρ2 2) m3) m2) := by
      intro ρ2 m2 r q0 q2 htr2 hmq2 hr _
      rw [q0, q2]
      refine m_tr_again hR htr2 (fun m3 hR3 htr3 hc3 hfc3 => ⟨by omega, hQ m3 r hR3 htr3 hc3 (fun a h5 h6 => ?_) hr⟩)
      rw [hfc3 119 a (by omega)]
      exact hmq2 a h5 h6
    refine tk_for (tk_lsa (tk_mv μ')) (fun i ρ2 m2 => ρ2 0 = 96 ∧ ρ2 3 = tk_lsa (tk_mv μ') ∧ tk_tr μ m2 ∧ tk_mq sh m2 ∧ ((ρ2 2 = 1 ∧ ρ2 4 = i + 1 ∧ m2 96 37 = tk_zk z i.toNat ∧ tk_mv m2 = tk_gd sh (tk_mv μ') z i.toNat ∧ ∀ n : Nat, 1 ≤ n → (n : Int) ≤ i → tk_ssP (tk_mv μ') n (tk_gdl sh (tk_mv μ') z n)) ∨ (ρ2 2 = 0 ∧ ¬ tk_AS sh (tk_mv μ') z))) hl.1 ⟨r0, r3, htr0, tk_mq_fq hm (tk_fq_s tk_fq_r (by omega)), .inl ⟨r2, rfl, by rw [tk_set_eq]; rfl, by rw [tk_mv_37]; rfl, fun n h2 h3 => by omega⟩⟩ ?_ ?_
    · rintro i ρ2 m2 hi0 hi6 ⟨q0, q3, htr2, hmq2, ⟨q2, q4, hz2, he2, hall⟩ | ⟨q2, hno⟩⟩ K hK
      · have i1 : tk_iadd (i + 1) 1 = i + 1 + 1 := tk_iadd_id (by omega) (by omega)
        have e : (i + 1).toNat = i.toNat + 1 := by omega
        have hJ2 := tk_gd_J (sh := sh) (z := z) hJ i.toNat
        simp [tk_fn, tk_env, tk_sq, tk_sk, tk_if, tk_re, tk_rez, tk_rev, tk_xp, tk_se, tk_pf, tk_pfz, tk_pfo, tk_as, tk_asz, tk_asb, tk_aso, tk_cpy, tk_sw, tk_swc, tk_lit, tk_loc, tk_u1, tk_bin, tk_dv, tk_gf, tk_gr, tk_gn, tk_ald, tk_aldq, tk_aln, tk_unl, tk_una, tk_ter, tk_args, tk_cs, tk_cv, tk_ceq, tk_cne, tk_clt, tk_cge, tk_cgt, tk_cle, tk_zeq, tk_zne, tk_zlt, tk_zge, tk_zgt, tk_zle, tk_and, tk_or, tk_not, tk_ct2, tk_isC, List.headD_cons, tk_up, tk_sca, tk_scl, q0, q2, q3, q4, show i + 1 ≤ tk_lsa (tk_mv μ') from by omega, i1]
        refine m_drawOn (b := 99999 + 10 * (i.toNat : Nat)) (sh := sh) (by rw [he2]; exact hJ2.1) (by omega) hmq2 hb (fun m3 hf3 he3 hz3 => ?_)
        rw [hz2] at he3 hz3 ⊢
        rw [he2] at he3 ⊢
        have hgdl : tk_drw sh (tk_gd sh (tk_mv μ') z i.toNat) (tk_zz (tk_zk z i.toNat)) = tk_gdl sh (tk_mv μ') z (i.toNat + 1) := rfl
        have hgd : tk_mv m3 = tk_gd sh (tk_mv μ') z (i.toNat + 1) := he3
        have hz15 : m3 96 15 = μ' 96 15 := by
          have h7 : tk_mv m3 11 0 = tk_mv μ' 11 0 := by rw [hgd]; exact tk_gd_o (by omega) (by omega) (by omega) _
          exact h7
        have hss : tk_ssP (tk_mv m3) (i + 1) (tk_gdl sh (tk_mv μ') z (i.toNat + 1)) ↔ tk_ssP (tk_mv μ') (i + 1) (tk_gdl sh (tk_mv μ') z (i.toNat + 1)) := by
          rw [hgd]
          refine tk_ssP_eq ⟨tk_gd_o (by omega) (by omega) (by omega) _, fun k _ _ => ⟨tk_gd_o (by omega) (by omega) (by omega) _, tk_gd_o (by omega) (by omega) (by omega) _⟩⟩
        have htr3 : tk_tr μ m3 := tk_tr_fg htr2 (tk_fg_q (tk_fg_1 tk_f1_r) hf3)
        rw [hgdl]
        refine m_isSeen (by rw [hz15]; exact hz.1) (fun hy => ?_) (fun hn => ?_)
        · rw [hss] at hy
          refine hK _ _ ⟨q0, q3, htr3, tk_mq_fq hmq2 hf3, .inl ⟨rfl, rfl, by rw [e]; exact hz3, by rw [e]; exact hgd, fun n h2 h3 => ?_⟩⟩
          by_cases hni : n = i.toNat + 1
          · subst hni
            have : ((i.toNat + 1 : Nat) : Int) = i + 1 := by omega
            rw [this]; exact hy
          · exact hall n h2 (by omega)
        · rw [hss] at hn
          refine hK _ _ ⟨q0, q3, htr3, tk_mq_fq hmq2 hf3, .inr ⟨rfl, fun hA => hn ?_⟩⟩
          have := hA (i.toNat + 1) (by omega) (by omega)
          have e3 : ((i.toNat + 1 : Nat) : Int) = i + 1 := by omega
          rw [e3] at this
          exact this
      · have hfin := fin ρ2 m2 0 q0 q2 htr2 hmq2 (.inr ⟨rfl, hno⟩) q0.symm
        rw [q0, q2] at hfin
        simp at hfin
        by_cases hle : ρ2 4 ≤ tk_lsa (tk_mv μ')
        · simp [tk_fn, tk_env, tk_sq, tk_sk, tk_if, tk_re, tk_rez, tk_rev, tk_xp, tk_se, tk_pf, tk_pfz, tk_pfo, tk_as, tk_asz, tk_asb, tk_aso, tk_cpy, tk_sw, tk_swc, tk_lit, tk_loc, tk_u1, tk_bin, tk_dv, tk_gf, tk_gr, tk_gn, tk_ald, tk_aldq, tk_aln, tk_unl, tk_una, tk_ter, tk_args, tk_cs, tk_cv, tk_ceq, tk_cne, tk_clt, tk_cge, tk_cgt, tk_cle, tk_zeq, tk_zne, tk_zlt, tk_zge, tk_zgt, tk_zle, tk_and, tk_or, tk_not, tk_ct2, tk_isC, List.headD_cons, tk_up, tk_sca, tk_scl, q0, q2, q3, hle]
          exact hfin
        · simp [tk_fn, tk_env, tk_sq, tk_sk, tk_if, tk_re, tk_rez, tk_rev, tk_xp, tk_se, tk_pf, tk_pfz, tk_pfo, tk_as, tk_asz, tk_asb, tk_aso, tk_cpy, tk_sw, tk_swc, tk_lit, tk_loc, tk_u1, tk_bin, tk_dv, tk_gf, tk_gr, tk_gn, tk_ald, tk_aldq, tk_aln, tk_unl, tk_una, tk_ter, tk_args, tk_cs, tk_cv, tk_ceq, tk_cne, tk_clt, tk_cge, tk_cgt, tk_cle, tk_zeq, tk_zne, tk_zlt, tk_zge, tk_zgt, tk_zle, tk_and, tk_or, tk_not, tk_ct2, tk_isC, List.headD_cons, tk_up, tk_sca, tk_scl, q0, q2, q3, hle]
          exact hfin
    · rintro ρ2 m2 ⟨q0, q3, htr2, hmq2, ⟨q2, q4, hz2, he2, hall⟩ | ⟨q2, hno⟩⟩ X
      · have hfin := fin ρ2 m2 1 q0 q2 htr2 hmq2 (.inl ⟨rfl, fun n h2 h3 => hall n h2 h3⟩) q0.symm
        rw [q0, q2] at hfin
        simp at hfin
        simp [tk_fn, tk_env, tk_sq, tk_sk, tk_if, tk_re, tk_rez, tk_rev, tk_xp, tk_se, tk_pf, tk_pfz, tk_pfo, tk_as, tk_asz, tk_asb, tk_aso, tk_cpy, tk_sw, tk_swc, tk_lit, tk_loc, tk_u1, tk_bin, tk_dv, tk_gf, tk_gr, tk_gn, tk_ald, tk_aldq, tk_aln, tk_unl, tk_una, tk_ter, tk_args, tk_cs, tk_cv, tk_ceq, tk_cne, tk_clt, tk_cge, tk_cgt, tk_cle, tk_zeq, tk_zne, tk_zlt, tk_zge, tk_zgt, tk_zle, tk_and, tk_or, tk_not, tk_ct2, tk_isC, List.headD_cons, tk_up, tk_sca, tk_scl, q0, q2, q3, q4, show ¬ tk_lsa (tk_mv μ') + 1 ≤ tk_lsa (tk_mv μ') from by omega]
        exact hfin
      · have hfin := fin ρ2 m2 0 q0 q2 htr2 hmq2 (.inr ⟨rfl, hno⟩) q0.symm
        rw [q0, q2] at hfin
        simp at hfin
        by_cases hle : ρ2 4 ≤ tk_lsa (tk_mv μ')
        · simp [tk_fn, tk_env, tk_sq, tk_sk, tk_if, tk_re, tk_rez, tk_rev, tk_xp, tk_se, tk_pf, tk_pfz, tk_pfo, tk_as, tk_asz, tk_asb, tk_aso, tk_cpy, tk_sw, tk_swc, tk_lit, tk_loc, tk_u1, tk_bin, tk_dv, tk_gf, tk_gr, tk_gn, tk_ald, tk_aldq, tk_aln, tk_unl, tk_una, tk_ter, tk_args, tk_cs, tk_cv, tk_ceq, tk_cne, tk_clt, tk_cge, tk_cgt, tk_cle, tk_zeq, tk_zne, tk_zlt, tk_zge, tk_zgt, tk_zle, tk_and, tk_or, tk_not, tk_ct2, tk_isC, List.headD_cons, tk_up, tk_sca, tk_scl, q0, q2, q3, hle]
          exact hfin
        · simp [tk_fn, tk_env, tk_sq, tk_sk, tk_if, tk_re, tk_rez, tk_rev, tk_xp, tk_se, tk_pf, tk_pfz, tk_pfo, tk_as, tk_asz, tk_asb, tk_aso, tk_cpy, tk_sw, tk_swc, tk_lit, tk_loc, tk_u1, tk_bin, tk_dv, tk_gf, tk_gr, tk_gn, tk_ald, tk_aldq, tk_aln, tk_unl, tk_una, tk_ter, tk_args, tk_cs, tk_cv, tk_ceq, tk_cne, tk_clt, tk_cge, tk_cgt, tk_cle, tk_zeq, tk_zne, tk_zlt, tk_zge, tk_zgt, tk_zle, tk_and, tk_or, tk_not, tk_ct2, tk_isC, List.headD_cons, tk_up, tk_sca, tk_scl, q0, q2, q3, hle]
          exact hfin
