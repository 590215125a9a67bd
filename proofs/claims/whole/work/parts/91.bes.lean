/-! ===== Layer 2: best ===== -/
theorem tk_set_set {S : tk_M} {f i v w : Int} : tk_set (tk_set S f i v) f i w = tk_set S f i w := by
  funext a b
  unfold tk_set
  by_cases h : a = f ∧ b = i
  · rw [if_pos h, if_pos h]
  · rw [if_neg h, if_neg h, if_neg h]
theorem tk_set_self {S : tk_M} {f i : Int} : tk_set S f i (S f i) = S := by
  funext a b
  unfold tk_set
  by_cases h : a = f ∧ b = i
  · rw [if_pos h, h.1, h.2]
  · rw [if_neg h]
theorem tk_EE_2 {S T : tk_M} (h : tk_EE S T) {c v : Int} : tk_EE (tk_set S 2 c v) (tk_set T 2 c v) := by
  obtain ⟨a1, a2, a3, a4, a5, a6, a7⟩ := h
  unfold tk_EE tk_E0 tk_E1 tk_E2 tk_E3 tk_E4 tk_E5 tk_E6 at *
  simp [tk_set] at *
  refine ⟨a1, fun i h3 h4 => ?_, a3, a4, a5, a6, a7⟩
  have := a2 i h3 h4
  by_cases hi : i = c
  · simp [hi] at this ⊢
    exact ⟨this.1, this.2.2⟩
  · simpa [hi] using this
theorem tk_EE_3 {S T : tk_M} (h : tk_EE S T) {c v : Int} : tk_EE (tk_set S 3 c v) (tk_set T 3 c v) := by
  obtain ⟨a1, a2, a3, a4, a5, a6, a7⟩ := h
  unfold tk_EE tk_E0 tk_E1 tk_E2 tk_E3 tk_E4 tk_E5 tk_E6 at *
  simp [tk_set] at *
  refine ⟨a1, fun i h3 h4 => ?_, a3, a4, a5, a6, a7⟩
  have := a2 i h3 h4
  by_cases hi : i = c
  · simp [hi] at this ⊢
    exact ⟨this.1, this.2.1⟩
  · simpa [hi] using this
theorem tk_II_2 {S : tk_M} (h : tk_II S) {t v : Int} (hv : 1 ≤ v ∧ v ≤ 9999) : tk_II (tk_set S 2 t v) := by
  obtain ⟨b0, b1, b2, b3, b4, b5, b6, b7, b8⟩ := h
  unfold tk_II tk_I0 tk_I1 tk_I2 tk_I3 tk_I4 tk_I5 tk_I6 tk_I7 tk_I8 at *
  simp [tk_set] at *
  refine ⟨b0, fun i h3 h4 => ?_, b2, b3, b4, b5, b6, b7, b8⟩
  have := b1 i h3 h4
  by_cases hi : i = t
  · simp [hi] at this ⊢
    exact ⟨this.1, hv, this.2.2⟩
  · simpa [hi] using this
theorem tk_II_3 {S : tk_M} (h : tk_II S) {t : Int} : tk_II (tk_set S 3 t (-5)) := by
  obtain ⟨b0, b1, b2, b3, b4, b5, b6, ⟨rk, b7a, b7⟩, b8⟩ := h
  unfold tk_II tk_I0 tk_I1 tk_I2 tk_I3 tk_I4 tk_I5 tk_I6 tk_I7 tk_I8 at *
  simp [tk_set] at *
  refine ⟨b0, fun i h3 h4 => ?_, b2, b3, b4, b5, b6, ⟨rk, b7a, fun i h3 h4 h5 => ?_⟩, b8⟩
  · have := b1 i h3 h4
    by_cases hi : i = t
    · simp [hi] at this ⊢
      exact ⟨this.1, this.2.1⟩
    · simpa [hi] using this
  · by_cases hi : i = t
    · simp [hi] at h5
    · simp [hi] at h5 ⊢
      exact b7 i h3 h4 h5
theorem tk_mv_98 {μ : tk_M} {i v : Int} : tk_mv (tk_set μ 98 i v) = tk_set (tk_mv μ) 2 i v := by
  funext f j
  unfold tk_mv tk_set
  by_cases h : f = 2
  · subst h; simp
  · simp [h]
theorem tk_mv_99 {μ : tk_M} {i v : Int} : tk_mv (tk_set μ 99 i v) = tk_set (tk_mv μ) 3 i v := by
  funext f j
  unfold tk_mv tk_set
  by_cases h : f = 3
  · subst h; simp
  · simp [h]
/-- whose taking leaves least -/
def tk_lf (W : Int → Int) : Nat → Int
  | 0 => -5
  | k + 1 => if tk_lf W k < 0 ∨ W k < W (tk_lf W k) then k else tk_lf W k
def tk_lw (W : Int → Int) (k : Nat) : Int := if tk_lf W k < 0 then 0 else W (tk_lf W k)
theorem tk_lf_s {W : Int → Int} {i : Int} (hi : 0 ≤ i) : tk_lf W (i + 1).toNat = if tk_lf W i.toNat < 0 ∨ W i < W (tk_lf W i.toNat) then i else tk_lf W i.toNat := by
  obtain ⟨m, rfl⟩ := tk_nnt hi
  have e : ((m : Int) + 1).toNat = m + 1 := by omega
  rw [e, Int.toNat_natCast]
  rfl
theorem tk_lf_in {W : Int → Int} (k : Nat) : tk_lf W k = -5 ∨ (0 ≤ tk_lf W k ∧ tk_lf W k < k) := by
  induction k with
  | zero => exact .inl rfl
  | succ k ih =>
    unfold tk_lf
    split
    · omega
    · omega
/-- the step, both ways -/
theorem tk_lf_y {W : Int → Int} {i : Int} (hi : 0 ≤ i) (h : tk_lf W i.toNat < 0 ∨ W i < tk_lw W i.toNat) : tk_lf W (i + 1).toNat = i ∧ tk_lw W (i + 1).toNat = W i := by
  have e : tk_lf W (i + 1).toNat = i := by
    rw [tk_lf_s hi, if_pos ?_]
    rcases h with h | h
    · exact .inl h
    · unfold tk_lw at h
      by_cases h2 : tk_lf W i.toNat < 0
      · exact .inl h2
      · rw [if_neg h2] at h; exact .inr h
  refine ⟨e, ?_⟩
  unfold tk_lw
  rw [e, if_neg (by omega)]
theorem tk_lf_n {W : Int → Int} {i : Int} (hi : 0 ≤ i) (h1 : ¬ tk_lf W i.toNat < 0) (h2 : ¬ W i < tk_lw W i.toNat) : tk_lf W (i + 1).toNat = tk_lf W i.toNat ∧ tk_lw W (i + 1).toNat = tk_lw W i.toNat := by
  have e : tk_lf W (i + 1).toNat = tk_lf W i.toNat := by
    rw [tk_lf_s hi, if_neg ?_]
    unfold tk_lw at h2
    rw [if_neg h1] at h2
    exact fun z => z.elim h1 h2
  refine ⟨e, ?_⟩
  unfold tk_lw
  rw [e]
theorem x_lossOf {c : Int} {μ : tk_M} {Q : Int → tk_M → Prop} (hI : tk_II (tk_hw 1 μ)) (hc : 0 ≤ c ∧ c < μ 1 2) (hQ : ∀ μ1, tk_f1 31 60 μ μ1 → Q (tk_lf (fun t => tk_we (tk_shr (tk_set (tk_hw 1 μ) 3 t (-5))) (tk_set (tk_hw 1 μ) 3 t (-5)) c) (μ 1 1).toNat) μ1) : tkF_X6_lossOf [0, c] Q μ := by
  have hn : 0 ≤ μ 1 1 ∧ μ 1 1 ≤ 24 := hI.1.2.1
  have hm : 0 ≤ μ 1 2 ∧ μ 1 2 ≤ 8 := hI.1.2.2.1
  have c8 : c < 8 := by omega
  simp [tk_fn, tk_env, tk_sq, tk_sk, tk_if, tk_re, tk_rez, tk_rev, tk_xp, tk_se, tk_pf, tk_pfz, tk_pfo, tk_as, tk_asz, tk_asb, tk_aso, tk_cpy, tk_sw, tk_swc, tk_lit, tk_loc, tk_u1, tk_bin, tk_dv, tk_gf, tk_gr, tk_gn, tk_ald, tk_aldq, tk_aln, tk_unl, tk_una, tk_ter, tk_args, tk_cs, tk_cv, tk_ceq, tk_cne, tk_clt, tk_cge, tk_cgt, tk_cle, tk_zeq, tk_zne, tk_zlt, tk_zge, tk_zgt, tk_zle, tk_and, tk_or, tk_not, tk_ct2, tk_isC, List.headD_cons, tk_up, tk_sca, tk_scl, tkF_X6_lossOf, tkS_X6_lossOf]
  generalize hW : (fun t => tk_we (tk_shr (tk_set (tk_hw 1 μ) 3 t (-5))) (tk_set (tk_hw 1 μ) 3 t (-5)) c) = W at hQ
  refine x_begin hI (fun μ0 hf0 hE0 _ _ _ => ?_)
  refine tk_for (μ 1 1) (fun i ρ μ' => tk_f1 31 60 μ μ' ∧ tk_EE (tk_hw 1 μ) (tk_hw 31 μ') ∧ ρ 0 = 0 ∧ ρ 1 = c ∧ ρ 2 = tk_lf W i.toNat ∧ ρ 3 = tk_lw W i.toNat ∧ ρ 5 = i) hn.1 ⟨hf0, hE0, rfl, rfl, rfl, rfl, rfl⟩ ?_ ?_
  · rintro i ρ μ' hi0 hi6 ⟨hf, hE, r0, r1, r2, r3, r5⟩ K hK
    have i1 : tk_iadd i 1 = i + 1 := tk_iadd_id (by clear r2 r3; omega) (by clear r2 r3; omega)
    have i24 : i < 24 := by clear r2 r3; omega
    have f31 : μ' 31 1 = μ 1 1 := hE.1.2.1
    have hI2 := tk_II_3 (tk_II_EE hE hI) (t := i)
    have hh : tk_hw 31 (tk_set μ' 34 i (-5)) = tk_set (tk_hw 31 μ') 3 i (-5) := tk_hw_set (h := 31) (f := 3) (by omega)
    have hE2 := tk_EE_3 hE (c := i) (v := -5)
    simp [tk_fn, tk_env, tk_sq, tk_sk, tk_if, tk_re, tk_rez, tk_rev, tk_xp, tk_se, tk_pf, tk_pfz, tk_pfo, tk_as, tk_asz, tk_asb, tk_aso, tk_cpy, tk_sw, tk_swc, tk_lit, tk_loc, tk_u1, tk_bin, tk_dv, tk_gf, tk_gr, tk_gn, tk_ald, tk_aldq, tk_aln, tk_unl, tk_una, tk_ter, tk_args, tk_cs, tk_cv, tk_ceq, tk_cne, tk_clt, tk_cge, tk_cgt, tk_cle, tk_zeq, tk_zne, tk_zlt, tk_zge, tk_zgt, tk_zle, tk_and, tk_or, tk_not, tk_ct2, tk_isC, List.headD_cons, tk_up, tk_sca, tk_scl, r0, r1, r2, r3, r5, f31, hi0, hi6, i24, tk_al_2, tk_al_3, tk_al_4, tk_al_5, tk_al_6, tk_al_7, tk_al_8, tk_al_9, tk_al_10, tk_al_11, tk_al_13, tk_al_14, tk_al_16, tk_al_17, tk_al_19, tk_al_20, tk_al_22, tk_al_24, tk_al_25, tk_al_26, tk_al_27, tk_al_28, tk_al_29, tk_al_30, tk_al_32, tk_al_33, tk_al_34, tk_al_35, tk_al_36, tk_al_37, tk_al_38, tk_al_39, tk_al_40, tk_al_41, tk_al_43, tk_al_44, tk_al_46, tk_al_47, tk_al_49, tk_al_50, tk_al_52, tk_al_54, tk_al_55, tk_al_56, tk_al_57, tk_al_58, tk_al_59, tk_al_60, tk_al_62, tk_al_63, tk_al_64, tk_al_65, tk_al_66, tk_al_67, tk_al_68, tk_al_69, tk_al_70, tk_al_71, tk_al_73, tk_al_74, tk_al_76, tk_al_77, tk_al_79, tk_al_80, tk_al_81, tk_al_83, tk_al_85, tk_al_87, tk_al_89, tk_al_91, tk_al_93, tk_al_95, tk_al_97, tk_al_98, tk_al_99, tk_al_100, tk_al_101, tk_al_102, tk_al_103, tk_al_104, tk_al_105, tk_al_106, tk_al_107, tk_al_108, tk_al_109, tk_al_110, tk_al_111, tk_al_112, tk_al_113, tk_al_114, tk_al_115, tk_al_116, tk_al_117, tk_al_118, tk_al_119, tk_al_120, tk_al_121, tk_al_122, tk_al_123, tk_al_124, tk_al_125, tk_al_126, tk_al_127, tk_al_128, tk_al_129, i1, -Int.toNat_of_nonneg]
    refine x_refresh31 (by rw [hh]; exact tk_I5s hI2) (by rw [hh]; exact tk_J_w (tk_J_of hI2).1 (by omega)) (fun μ2 hf2 hs2 hd2 hw2 ha2 => ?_)
    have hh2 : tk_hw 31 μ2 = tk_set (tk_hw 31 μ') 3 i (-5) := by rw [tk_hw_f1 hf2 (by omega), hh]
    have w2 : μ2 52 c = W i := by
      have h := hd2.1 c hc.1 (by
        have : μ2 31 2 = tk_hw 31 μ2 0 2 := rfl
        rw [this, hh2, tk_set_o (by omega)]
        have : tk_hw 31 μ' 0 2 = tk_hw 1 μ 0 2 := hE.1.2.2.1
        rw [this]
        exact hc.2)
      have h : μ2 52 c = tk_we (tk_shr (tk_hw 31 (tk_set μ' 34 i (-5)))) (tk_hw 31 μ2) c := h
      rw [h, hh, hh2, tk_shr_EE hE2 (tk_II_3 hI), tk_we_eq (tk_EQ_of hE2) (by rw [tk_set_o (by omega)]; exact hc), ← hW]
    have fin : ∀ ρ2 : tk_L, ρ2 0 = 0 → ρ2 1 = c → ρ2 2 = tk_lf W (i + 1).toNat → ρ2 3 = tk_lw W (i + 1).toNat → ρ2 5 = i + 1 → K ρ2 (tk_set μ2 34 i (μ' 34 i)) := fun ρ2 z0 z1 z2 z3 z5 => by
      refine hK _ _ ⟨fun o j ho => ?_, ?_, z0, z1, z2, z3, z5⟩
      · unfold tk_set
        rw [if_neg (by clear r2 r3 z2 z3; omega), hf2 o j (by clear r2 r3 z2 z3; omega)]
        unfold tk_set
        rw [if_neg (by clear r2 r3 z2 z3; omega)]
        exact hf o j ho
      · have e : tk_hw 31 (tk_set μ2 34 i (μ' 34 i)) = tk_hw 31 μ' := by
          have h := tk_hw_set (h := 31) (f := 3) (μ := μ2) (i := i) (v := μ' 34 i) (by omega)
          have h : tk_hw 31 (tk_set μ2 34 i (μ' 34 i)) = tk_set (tk_hw 31 μ2) 3 i (μ' 34 i) := h
          rw [h, hh2, tk_set_set]
          have e3 : μ' 34 i = tk_hw 31 μ' 3 i := rfl
          rw [e3, tk_set_self]
        rw [e]
        exact hE
    have hin := tk_lf_in (W := W) i.toNat
    have hy := tk_lf_y (W := W) hi0
    have hnn := tk_lf_n (W := W) hi0
    rw [w2]
    generalize tk_lf W i.toNat = L at r2 hin hy hnn ⊢
    generalize tk_lw W i.toNat = M at r3 hy hnn ⊢
    by_cases hL : L = -5
    · have h := hy (.inl (by omega))
      simp [eq_true hL, hc.1, c8, tk_al_2, tk_al_3, tk_al_4, tk_al_5, tk_al_6, tk_al_7, tk_al_8, tk_al_9, tk_al_10, tk_al_11, tk_al_13, tk_al_14, tk_al_16, tk_al_17, tk_al_19, tk_al_20, tk_al_22, tk_al_24, tk_al_25, tk_al_26, tk_al_27, tk_al_28, tk_al_29, tk_al_30, tk_al_32, tk_al_33, tk_al_34, tk_al_35, tk_al_36, tk_al_37, tk_al_38, tk_al_39, tk_al_40, tk_al_41, tk_al_43, tk_al_44, tk_al_46, tk_al_47, tk_al_49, tk_al_50, tk_al_52, tk_al_54, tk_al_55, tk_al_56, tk_al_57, tk_al_58, tk_al_59, tk_al_60, tk_al_62, tk_al_63, tk_al_64, tk_al_65, tk_al_66, tk_al_67, tk_al_68, tk_al_69, tk_al_70, tk_al_71, tk_al_73, tk_al_74, tk_al_76, tk_al_77, tk_al_79, tk_al_80, tk_al_81, tk_al_83, tk_al_85, tk_al_87, tk_al_89, tk_al_91, tk_al_93, tk_al_95, tk_al_97, tk_al_98, tk_al_99, tk_al_100, tk_al_101, tk_al_102, tk_al_103, tk_al_104, tk_al_105, tk_al_106, tk_al_107, tk_al_108, tk_al_109, tk_al_110, tk_al_111, tk_al_112, tk_al_113, tk_al_114, tk_al_115, tk_al_116, tk_al_117, tk_al_118, tk_al_119, tk_al_120, tk_al_121, tk_al_122, tk_al_123, tk_al_124, tk_al_125, tk_al_126, tk_al_127, tk_al_128, tk_al_129]
      exact fin _ r0 r1 h.1.symm h.2.symm rfl
    · by_cases hM : W i < M
      · have h := hy (.inr hM)
        simp [hL, hM, hc.1, c8, tk_al_2, tk_al_3, tk_al_4, tk_al_5, tk_al_6, tk_al_7, tk_al_8, tk_al_9, tk_al_10, tk_al_11, tk_al_13, tk_al_14, tk_al_16, tk_al_17, tk_al_19, tk_al_20, tk_al_22, tk_al_24, tk_al_25, tk_al_26, tk_al_27, tk_al_28, tk_al_29, tk_al_30, tk_al_32, tk_al_33, tk_al_34, tk_al_35, tk_al_36, tk_al_37, tk_al_38, tk_al_39, tk_al_40, tk_al_41, tk_al_43, tk_al_44, tk_al_46, tk_al_47, tk_al_49, tk_al_50, tk_al_52, tk_al_54, tk_al_55, tk_al_56, tk_al_57, tk_al_58, tk_al_59, tk_al_60, tk_al_62, tk_al_63, tk_al_64, tk_al_65, tk_al_66, tk_al_67, tk_al_68, tk_al_69, tk_al_70, tk_al_71, tk_al_73, tk_al_74, tk_al_76, tk_al_77, tk_al_79, tk_al_80, tk_al_81, tk_al_83, tk_al_85, tk_al_87, tk_al_89, tk_al_91, tk_al_93, tk_al_95, tk_al_97, tk_al_98, tk_al_99, tk_al_100, tk_al_101, tk_al_102, tk_al_103, tk_al_104, tk_al_105, tk_al_106, tk_al_107, tk_al_108, tk_al_109, tk_al_110, tk_al_111, tk_al_112, tk_al_113, tk_al_114, tk_al_115, tk_al_116, tk_al_117, tk_al_118, tk_al_119, tk_al_120, tk_al_121, tk_al_122, tk_al_123, tk_al_124, tk_al_125, tk_al_126, tk_al_127, tk_al_128, tk_al_129]
        exact fin _ r0 r1 h.1.symm h.2.symm rfl
      · have h := hnn (by omega) hM
        simp [hL, hM, hc.1, c8, tk_al_2, tk_al_3, tk_al_4, tk_al_5, tk_al_6, tk_al_7, tk_al_8, tk_al_9, tk_al_10, tk_al_11, tk_al_13, tk_al_14, tk_al_16, tk_al_17, tk_al_19, tk_al_20, tk_al_22, tk_al_24, tk_al_25, tk_al_26, tk_al_27, tk_al_28, tk_al_29, tk_al_30, tk_al_32, tk_al_33, tk_al_34, tk_al_35, tk_al_36, tk_al_37, tk_al_38, tk_al_39, tk_al_40, tk_al_41, tk_al_43, tk_al_44, tk_al_46, tk_al_47, tk_al_49, tk_al_50, tk_al_52, tk_al_54, tk_al_55, tk_al_56, tk_al_57, tk_al_58, tk_al_59, tk_al_60, tk_al_62, tk_al_63, tk_al_64, tk_al_65, tk_al_66, tk_al_67, tk_al_68, tk_al_69, tk_al_70, tk_al_71, tk_al_73, tk_al_74, tk_al_76, tk_al_77, tk_al_79, tk_al_80, tk_al_81, tk_al_83, tk_al_85, tk_al_87, tk_al_89, tk_al_91, tk_al_93, tk_al_95, tk_al_97, tk_al_98, tk_al_99, tk_al_100, tk_al_101, tk_al_102, tk_al_103, tk_al_104, tk_al_105, tk_al_106, tk_al_107, tk_al_108, tk_al_109, tk_al_110, tk_al_111, tk_al_112, tk_al_113, tk_al_114, tk_al_115, tk_al_116, tk_al_117, tk_al_118, tk_al_119, tk_al_120, tk_al_121, tk_al_122, tk_al_123, tk_al_124, tk_al_125, tk_al_126, tk_al_127, tk_al_128, tk_al_129]
        refine fin _ r0 r1 ?_ ?_ rfl
        · rw [h.1]; exact r2
        · rw [h.2]; exact r3
  · rintro ρ μ' ⟨hf, hE, r0, r1, r2, r3, r5⟩ X
    have f31 : μ' 31 1 = μ 1 1 := hE.1.2.1
    have hq := hQ μ' hf
    rw [← r2] at hq
    simp [tk_fn, tk_env, tk_sq, tk_sk, tk_if, tk_re, tk_rez, tk_rev, tk_xp, tk_se, tk_pf, tk_pfz, tk_pfo, tk_as, tk_asz, tk_asb, tk_aso, tk_cpy, tk_sw, tk_swc, tk_lit, tk_loc, tk_u1, tk_bin, tk_dv, tk_gf, tk_gr, tk_gn, tk_ald, tk_aldq, tk_aln, tk_unl, tk_una, tk_ter, tk_args, tk_cs, tk_cv, tk_ceq, tk_cne, tk_clt, tk_cge, tk_cgt, tk_cle, tk_zeq, tk_zne, tk_zlt, tk_zge, tk_zgt, tk_zle, tk_and, tk_or, tk_not, tk_ct2, tk_isC, List.headD_cons, tk_up, tk_sca, tk_scl, r0, r5, f31]
    exact hq
theorem m_lossOf {c : Int} {W : Int → Int} {μ : tk_M} {Q : Int → tk_M → Prop} (hI : tk_II (tk_mv μ)) (hc : 0 ≤ c ∧ c < μ 96 5) (hW : ∀ t : Int, 0 ≤ t → t < μ 96 1 → tk_we (tk_shr (tk_set (tk_mv μ) 3 t (-5))) (tk_set (tk_mv μ) 3 t (-5)) c = W t) (hQ : ∀ m1, (∀ o i : Int, ¬ tk_sc2 o i → m1 o i = μ o i) → tk_mv m1 = tk_mv μ → Q (tk_lf W (μ 96 1).toNat) m1) : tkF_X7_lossOf [96, c] Q μ := by
  have hn : 0 ≤ μ 96 1 ∧ μ 96 1 ≤ 24 := hI.1.2.1
  simp [tk_fn, tk_env, tk_sq, tk_sk, tk_if, tk_re, tk_rez, tk_rev, tk_xp, tk_se, tk_pf, tk_pfz, tk_pfo, tk_as, tk_asz, tk_asb, tk_aso, tk_cpy, tk_sw, tk_swc, tk_lit, tk_loc, tk_u1, tk_bin, tk_dv, tk_gf, tk_gr, tk_gn, tk_ald, tk_aldq, tk_aln, tk_unl, tk_una, tk_ter, tk_args, tk_cs, tk_cv, tk_ceq, tk_cne, tk_clt, tk_cge, tk_cgt, tk_cle, tk_zeq, tk_zne, tk_zlt, tk_zge, tk_zgt, tk_zle, tk_and, tk_or, tk_not, tk_ct2, tk_isC, List.headD_cons, tk_up, tk_sca, tk_scl, tkF_X7_lossOf, tkS_X7_lossOf]
  refine tk_for (μ 96 1) (fun i ρ m => (∀ o i : Int, ¬ tk_sc2 o i → m o i = μ o i) ∧ tk_mv m = tk_mv μ ∧ ρ 0 = 96 ∧ ρ 1 = c ∧ ρ 2 = tk_lf W i.toNat ∧ ρ 3 = tk_lw W i.toNat ∧ ρ 5 = i) hn.1 ⟨fun _ _ _ => rfl, rfl, rfl, rfl, rfl, rfl, rfl⟩ ?_ ?_
  · rintro i ρ m hi0 hi6 ⟨hq, hM, r0, r1, r2, r3, r5⟩ K hK
    have i1 : tk_iadd i 1 = i + 1 := tk_iadd_id (by clear r2 r3; omega) (by clear r2 r3; omega)
    have i24 : i < 24 := by clear r2 r3; omega
    have f1 : m 96 1 = μ 96 1 := congrFun (congrFun hM 0) 1
    have hI2 := tk_II_3 hI (t := i)
    have hM2 : tk_mv (tk_set m 99 i (-5)) = tk_set (tk_mv μ) 3 i (-5) := by rw [tk_mv_99, hM]
    simp [tk_fn, tk_env, tk_sq, tk_sk, tk_if, tk_re, tk_rez, tk_rev, tk_xp, tk_se, tk_pf, tk_pfz, tk_pfo, tk_as, tk_asz, tk_asb, tk_aso, tk_cpy, tk_sw, tk_swc, tk_lit, tk_loc, tk_u1, tk_bin, tk_dv, tk_gf, tk_gr, tk_gn, tk_ald, tk_aldq, tk_aln, tk_unl, tk_una, tk_ter, tk_args, tk_cs, tk_cv, tk_ceq, tk_cne, tk_clt, tk_cge, tk_cgt, tk_cle, tk_zeq, tk_zne, tk_zlt, tk_zge, tk_zgt, tk_zle, tk_and, tk_or, tk_not, tk_ct2, tk_isC, List.headD_cons, tk_up, tk_sca, tk_scl, r0, r1, r2, r3, r5, f1, hi0, hi6, i24, tk_al_2, tk_al_3, tk_al_4, tk_al_5, tk_al_6, tk_al_7, tk_al_8, tk_al_9, tk_al_10, tk_al_11, tk_al_13, tk_al_14, tk_al_16, tk_al_17, tk_al_19, tk_al_20, tk_al_22, tk_al_24, tk_al_25, tk_al_26, tk_al_27, tk_al_28, tk_al_29, tk_al_30, tk_al_32, tk_al_33, tk_al_34, tk_al_35, tk_al_36, tk_al_37, tk_al_38, tk_al_39, tk_al_40, tk_al_41, tk_al_43, tk_al_44, tk_al_46, tk_al_47, tk_al_49, tk_al_50, tk_al_52, tk_al_54, tk_al_55, tk_al_56, tk_al_57, tk_al_58, tk_al_59, tk_al_60, tk_al_62, tk_al_63, tk_al_64, tk_al_65, tk_al_66, tk_al_67, tk_al_68, tk_al_69, tk_al_70, tk_al_71, tk_al_73, tk_al_74, tk_al_76, tk_al_77, tk_al_79, tk_al_80, tk_al_81, tk_al_83, tk_al_85, tk_al_87, tk_al_89, tk_al_91, tk_al_93, tk_al_95, tk_al_97, tk_al_98, tk_al_99, tk_al_100, tk_al_101, tk_al_102, tk_al_103, tk_al_104, tk_al_105, tk_al_106, tk_al_107, tk_al_108, tk_al_109, tk_al_110, tk_al_111, tk_al_112, tk_al_113, tk_al_114, tk_al_115, tk_al_116, tk_al_117, tk_al_118, tk_al_119, tk_al_120, tk_al_121, tk_al_122, tk_al_123, tk_al_124, tk_al_125, tk_al_126, tk_al_127, tk_al_128, tk_al_129, i1]
    refine m_layShares (by rw [hM2]; exact tk_I5s hI2) (fun m1 hf1 hL1 => ?_)
    have hM1 : tk_mv m1 = tk_set (tk_mv μ) 3 i (-5) := by rw [tk_mv_f1 hf1 (by omega), hM2]
    rw [hM2] at hL1
    have q5 : m1 96 5 = μ 96 5 := by
      have : m1 96 5 = tk_mv m1 0 2 := rfl
      rw [this, hM1, tk_set_o (by omega)]
      rfl
    refine m_weightOf (b := 99999) (sh := tk_shr (tk_set (tk_mv μ) 3 i (-5))) (by rw [hM1]; exact (tk_J_of hI2).1) hL1.2 (tk_shr_shb hI2.1 hI2.2.1 (tk_I5s hI2).2.2.2.1) (by rw [q5]; exact hc) ?_
    rw [hM1, hW i hi0 hi6]
    have fin : ∀ ρ2 : tk_L, ρ2 0 = 96 → ρ2 1 = c → ρ2 2 = tk_lf W (i + 1).toNat → ρ2 3 = tk_lw W (i + 1).toNat → ρ2 5 = i + 1 → K ρ2 (tk_set m1 99 i (m 99 i)) := fun ρ2 z0 z1 z2 z3 z5 => by
      refine hK _ _ ⟨fun o j ho => ?_, ?_, z0, z1, z2, z3, z5⟩
      · have ho2 := ho
        unfold tk_sc2 at ho2
        unfold tk_set
        rw [if_neg (by clear r2 r3 z2 z3; omega), hf1 o j (by clear r2 r3 z2 z3; omega)]
        unfold tk_set
        rw [if_neg (by clear r2 r3 z2 z3; omega)]
        exact hq o j ho
      · rw [tk_mv_99, hM1, tk_set_set]
        have e3 : m 99 i = tk_mv μ 3 i := by rw [← hM]; rfl
        rw [e3, tk_set_self]
    have hin := tk_lf_in (W := W) i.toNat
    have hy := tk_lf_y (W := W) hi0
    have hnn := tk_lf_n (W := W) hi0
    generalize tk_lf W i.toNat = L at r2 hin hy hnn ⊢
    generalize tk_lw W i.toNat = M at r3 hy hnn ⊢
    by_cases hL : L < 0
    · have h := hy (.inl hL)
      simp [hL, hi0, i24, tk_al_2, tk_al_3, tk_al_4, tk_al_5, tk_al_6, tk_al_7, tk_al_8, tk_al_9, tk_al_10, tk_al_11, tk_al_13, tk_al_14, tk_al_16, tk_al_17, tk_al_19, tk_al_20, tk_al_22, tk_al_24, tk_al_25, tk_al_26, tk_al_27, tk_al_28, tk_al_29, tk_al_30, tk_al_32, tk_al_33, tk_al_34, tk_al_35, tk_al_36, tk_al_37, tk_al_38, tk_al_39, tk_al_40, tk_al_41, tk_al_43, tk_al_44, tk_al_46, tk_al_47, tk_al_49, tk_al_50, tk_al_52, tk_al_54, tk_al_55, tk_al_56, tk_al_57, tk_al_58, tk_al_59, tk_al_60, tk_al_62, tk_al_63, tk_al_64, tk_al_65, tk_al_66, tk_al_67, tk_al_68, tk_al_69, tk_al_70, tk_al_71, tk_al_73, tk_al_74, tk_al_76, tk_al_77, tk_al_79, tk_al_80, tk_al_81, tk_al_83, tk_al_85, tk_al_87, tk_al_89, tk_al_91, tk_al_93, tk_al_95, tk_al_97, tk_al_98, tk_al_99, tk_al_100, tk_al_101, tk_al_102, tk_al_103, tk_al_104, tk_al_105, tk_al_106, tk_al_107, tk_al_108, tk_al_109, tk_al_110, tk_al_111, tk_al_112, tk_al_113, tk_al_114, tk_al_115, tk_al_116, tk_al_117, tk_al_118, tk_al_119, tk_al_120, tk_al_121, tk_al_122, tk_al_123, tk_al_124, tk_al_125, tk_al_126, tk_al_127, tk_al_128, tk_al_129]
      exact fin _ r0 r1 h.1.symm h.2.symm rfl
    · by_cases hM : W i < M
      · have h := hy (.inr hM)
        simp [hL, hM, hi0, i24, tk_al_2, tk_al_3, tk_al_4, tk_al_5, tk_al_6, tk_al_7, tk_al_8, tk_al_9, tk_al_10, tk_al_11, tk_al_13, tk_al_14, tk_al_16, tk_al_17, tk_al_19, tk_al_20, tk_al_22, tk_al_24, tk_al_25, tk_al_26, tk_al_27, tk_al_28, tk_al_29, tk_al_30, tk_al_32, tk_al_33, tk_al_34, tk_al_35, tk_al_36, tk_al_37, tk_al_38, tk_al_39, tk_al_40, tk_al_41, tk_al_43, tk_al_44, tk_al_46, tk_al_47, tk_al_49, tk_al_50, tk_al_52, tk_al_54, tk_al_55, tk_al_56, tk_al_57, tk_al_58, tk_al_59, tk_al_60, tk_al_62, tk_al_63, tk_al_64, tk_al_65, tk_al_66, tk_al_67, tk_al_68, tk_al_69, tk_al_70, tk_al_71, tk_al_73, tk_al_74, tk_al_76, tk_al_77, tk_al_79, tk_al_80, tk_al_81, tk_al_83, tk_al_85, tk_al_87, tk_al_89, tk_al_91, tk_al_93, tk_al_95, tk_al_97, tk_al_98, tk_al_99, tk_al_100, tk_al_101, tk_al_102, tk_al_103, tk_al_104, tk_al_105, tk_al_106, tk_al_107, tk_al_108, tk_al_109, tk_al_110, tk_al_111, tk_al_112, tk_al_113, tk_al_114, tk_al_115, tk_al_116, tk_al_117, tk_al_118, tk_al_119, tk_al_120, tk_al_121, tk_al_122, tk_al_123, tk_al_124, tk_al_125, tk_al_126, tk_al_127, tk_al_128, tk_al_129]
        exact fin _ r0 r1 h.1.symm h.2.symm rfl
      · have h := hnn hL hM
        have hLi : ¬ L = i := by clear r2 r3; omega
        simp [hL, hM, hLi, hi0, i24, tk_al_2, tk_al_3, tk_al_4, tk_al_5, tk_al_6, tk_al_7, tk_al_8, tk_al_9, tk_al_10, tk_al_11, tk_al_13, tk_al_14, tk_al_16, tk_al_17, tk_al_19, tk_al_20, tk_al_22, tk_al_24, tk_al_25, tk_al_26, tk_al_27, tk_al_28, tk_al_29, tk_al_30, tk_al_32, tk_al_33, tk_al_34, tk_al_35, tk_al_36, tk_al_37, tk_al_38, tk_al_39, tk_al_40, tk_al_41, tk_al_43, tk_al_44, tk_al_46, tk_al_47, tk_al_49, tk_al_50, tk_al_52, tk_al_54, tk_al_55, tk_al_56, tk_al_57, tk_al_58, tk_al_59, tk_al_60, tk_al_62, tk_al_63, tk_al_64, tk_al_65, tk_al_66, tk_al_67, tk_al_68, tk_al_69, tk_al_70, tk_al_71, tk_al_73, tk_al_74, tk_al_76, tk_al_77, tk_al_79, tk_al_80, tk_al_81, tk_al_83, tk_al_85, tk_al_87, tk_al_89, tk_al_91, tk_al_93, tk_al_95, tk_al_97, tk_al_98, tk_al_99, tk_al_100, tk_al_101, tk_al_102, tk_al_103, tk_al_104, tk_al_105, tk_al_106, tk_al_107, tk_al_108, tk_al_109, tk_al_110, tk_al_111, tk_al_112, tk_al_113, tk_al_114, tk_al_115, tk_al_116, tk_al_117, tk_al_118, tk_al_119, tk_al_120, tk_al_121, tk_al_122, tk_al_123, tk_al_124, tk_al_125, tk_al_126, tk_al_127, tk_al_128, tk_al_129]
        refine fin _ r0 r1 ?_ ?_ rfl
        · rw [h.1]; rfl
        · rw [h.2]; rfl
  · rintro ρ m ⟨hq, hM, r0, r1, r2, r3, r5⟩ X
    have f1 : m 96 1 = μ 96 1 := congrFun (congrFun hM 0) 1
    have hq2 := hQ m hq hM
    rw [← r2] at hq2
    simp [tk_fn, tk_env, tk_sq, tk_sk, tk_if, tk_re, tk_rez, tk_rev, tk_xp, tk_se, tk_pf, tk_pfz, tk_pfo, tk_as, tk_asz, tk_asb, tk_aso, tk_cpy, tk_sw, tk_swc, tk_lit, tk_loc, tk_u1, tk_bin, tk_dv, tk_gf, tk_gr, tk_gn, tk_ald, tk_aldq, tk_aln, tk_unl, tk_una, tk_ter, tk_args, tk_cs, tk_cv, tk_ceq, tk_cne, tk_clt, tk_cge, tk_cgt, tk_cle, tk_zeq, tk_zne, tk_zlt, tk_zge, tk_zgt, tk_zle, tk_and, tk_or, tk_not, tk_ct2, tk_isC, List.headD_cons, tk_up, tk_sca, tk_scl, r0, r5, f1]
    exact hq2
