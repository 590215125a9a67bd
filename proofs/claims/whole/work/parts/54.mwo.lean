/-! ===== Layer 2: numbers again; frames ===== -/
theorem tk_ldiv_id {x y : Int} (hx : 0 ≤ x ∧ x ≤ 9223372036854775807) (hy : 0 < y ∧ y ≤ 9223372036854775807) : tk_ldiv x y = x / y := by
  unfold tk_ldiv
  have e1 : (Int64.ofInt x).toInt = x := tk_ofL ⟨by omega, by omega⟩
  have e2 : (Int64.ofInt y).toInt = y := tk_ofL ⟨by omega, by omega⟩
  rw [Int64.toInt_div_of_ne_right _ _ (fun h => by
    have h2 := congrArg Int64.toInt h
    rw [e2] at h2
    have h3 : (-1 : Int64).toInt = -1 := by decide
    rw [h3] at h2
    omega), e1, e2, Int.tdiv_eq_ediv_of_nonneg hx.1]
theorem tk_idiv_id {x y : Int} (hx : 0 ≤ x ∧ x ≤ 2147483647) (hy : 0 < y ∧ y ≤ 2147483647) : tk_idiv x y = x / y := by
  unfold tk_idiv
  have e1 : (Int32.ofInt x).toInt = x := tk_ofI ⟨by omega, by omega⟩
  have e2 : (Int32.ofInt y).toInt = y := tk_ofI ⟨by omega, by omega⟩
  rw [Int32.toInt_div_of_ne_right _ _ (fun h => by
    have h2 := congrArg Int32.toInt h
    rw [e2] at h2
    have h3 : (-1 : Int32).toInt = -1 := by decide
    rw [h3] at h2
    omega), e1, e2, Int.tdiv_eq_ediv_of_nonneg hx.1]
theorem tk_ediv_le {x y : Int} (hx : 0 ≤ x) (hy : 0 < y) : 0 ≤ x / y ∧ x / y ≤ x ∧ 0 ≤ x / y * y ∧ x / y * y ≤ x ∧ x - x / y * y = x % y := by
  have h1 : 0 ≤ x / y := Int.ediv_nonneg hx (by omega)
  have h2 := Int.emod_add_ediv_mul x y
  have h3 := Int.emod_nonneg x (show y ≠ 0 by omega)
  have h4 : 0 ≤ x / y * y := Int.mul_nonneg h1 (by omega)
  exact ⟨h1, Int.ediv_le_self _ hx, h4, by omega, by omega⟩
theorem tk_irem_id {x y : Int} (hx : 0 ≤ x ∧ x ≤ 2147483647) (hy : 0 < y ∧ y ≤ 2147483647) : tk_irem x y = x % y := by
  have h := tk_ediv_le hx.1 hy.1
  have e1 : Int32.ofInt x / Int32.ofInt y = Int32.ofInt (x / y) := by
    have h2 := tk_idiv_id hx hy
    unfold tk_idiv at h2
    rw [← Int32.ofInt_toInt (Int32.ofInt x / Int32.ofInt y), h2]
  unfold tk_irem
  rw [e1, ← Int32.ofInt_mul, ← Int32.ofInt_sub, h.2.2.2.2]
  exact tk_ofI ⟨by omega, by omega⟩
theorem tk_lrem_id {x y : Int} (hx : 0 ≤ x ∧ x ≤ 9223372036854775807) (hy : 0 < y ∧ y ≤ 9223372036854775807) : tk_lrem x y = x % y := by
  have h := tk_ediv_le hx.1 hy.1
  have e1 : Int64.ofInt x / Int64.ofInt y = Int64.ofInt (x / y) := by
    have h2 := tk_ldiv_id hx hy
    unfold tk_ldiv at h2
    rw [← Int64.ofInt_toInt (Int64.ofInt x / Int64.ofInt y), h2]
  unfold tk_lrem
  rw [e1, ← Int64.ofInt_mul, ← Int64.ofInt_sub, h.2.2.2.2]
  exact tk_ofL ⟨by omega, by omega⟩
/-- only objects a .. b differ -/
def tk_f1 (a b : Int) (μ μ' : tk_M) : Prop := ∀ o i : Int, ¬ (a ≤ o ∧ o ≤ b) → μ' o i = μ o i
theorem tk_f1_r {a b : Int} {μ : tk_M} : tk_f1 a b μ μ := fun _ _ _ => rfl
theorem tk_f1_t {a b : Int} {μ μ' μ'' : tk_M} (h : tk_f1 a b μ μ') (h' : tk_f1 a b μ' μ'') : tk_f1 a b μ μ'' := fun o i ho => by rw [h' o i ho, h o i ho]
theorem tk_f1_w {a b c d : Int} {μ μ' : tk_M} (h : tk_f1 a b μ μ') (hl : c ≤ a ∧ b ≤ d) : tk_f1 c d μ μ' := fun o i ho => h o i (by omega)
theorem tk_f1_s {a b o i v : Int} {μ μ' : tk_M} (h : tk_f1 a b μ μ') (ho : a ≤ o ∧ o ≤ b) : tk_f1 a b μ (tk_set μ' o i v) := fun o' j h2 => by
  unfold tk_set
  rw [if_neg (by omega)]
  exact h o' j h2
/-- a Hall's own numbers, no more -/
def tk_hw (h : Int) (μ : tk_M) : tk_M := fun f i => if 0 ≤ f ∧ f ≤ 19 then μ (h + f) i else 0
theorem tk_hw_hv {h : Int} {μ : tk_M} (f i : Int) (h0 : 0 ≤ f) (h1 : f ≤ 19) : tk_hw h μ f i = tk_hv h μ f i := by
  unfold tk_hw tk_hv
  rw [if_pos ⟨h0, h1⟩]
theorem tk_hw_f1 {a b h : Int} {μ μ' : tk_M} (hf : tk_f1 a b μ μ') (hh : b < h ∨ h + 19 < a) : tk_hw h μ' = tk_hw h μ := by
  funext f i
  unfold tk_hw
  by_cases hc : 0 ≤ f ∧ f ≤ 19
  · rw [if_pos hc, if_pos hc, hf _ _ (by omega)]
  · rw [if_neg hc, if_neg hc]
theorem tk_mv_f1 {a b : Int} {μ μ' : tk_M} (hf : tk_f1 a b μ μ') (hh : b < 96 ∨ 112 < a) : tk_mv μ' = tk_mv μ := by
  funext f i
  have e : ∀ o : Int, 96 ≤ o → o ≤ 112 → ∀ j, μ' o j = μ o j := fun o h1 h2 j => hf o j (by omega)
  unfold tk_mv
  simp only [e 96 (by omega) (by omega), e 97 (by omega) (by omega), e 98 (by omega) (by omega), e 99 (by omega) (by omega), e 100 (by omega) (by omega), e 101 (by omega) (by omega), e 102 (by omega) (by omega), e 103 (by omega) (by omega), e 104 (by omega) (by omega), e 105 (by omega) (by omega), e 106 (by omega) (by omega), e 107 (by omega) (by omega), e 108 (by omega) (by omega), e 109 (by omega) (by omega), e 110 (by omega) (by omega), e 111 (by omega) (by omega), e 112 (by omega) (by omega)]
/-! ===== the Model's worths ===== -/
theorem tk_amt {S : tk_M} (h1 : tk_I1 S) (t : Int) (h2 : 0 ≤ t) (h3 : t < S 0 1) : 1 ≤ S 2 t ∧ S 2 t ≤ 9999 := (h1 t h2 h3).2.1
theorem tk_isu_p {S : tk_M} (h1 : tk_I1 S) (c i : Int) (hi : 0 ≤ i ∧ i ≤ S 0 1) : 0 ≤ tk_sm i (fun t => if S 1 t = c ∧ ¬ S 3 t = -5 then S 2 t else 0) ∧ tk_sm i (fun t => if S 1 t = c ∧ ¬ S 3 t = -5 then S 2 t else 0) ≤ i * 9999 :=
  tk_sm_bd (n := i) (B := 9999) hi.1 (fun t h2 h3 => by
    have := tk_amt h1 t h2 (by omega)
    (try dsimp only)
    split <;> omega)
theorem m_layIssued {μ : tk_M} {Q : Int → tk_M → Prop} (h0 : tk_I0 (tk_mv μ)) (h1 : tk_I1 (tk_mv μ)) (hQ : ∀ μ', tk_f1 116 117 μ μ' → (∀ c : Int, 0 ≤ c → c < 6 → μ' 116 c = 0 ∧ μ' 117 c = tk_isu (tk_mv μ) c) → Q 0 μ') : tkF_X7_layIssued [96] Q μ := by
  have hp := tk_isu_p h1
  have ha := tk_amt h1
  obtain ⟨g1, g2, g3, -⟩ := h0
  unfold tk_I1 at h1
  have hisu : ∀ c, tk_isu (tk_mv μ) c = tk_sm (μ 96 1) (fun t => if μ 97 t = c ∧ ¬ μ 99 t = -5 then μ 98 t else 0) := fun c => rfl
  simp [tk_mv] at g1 g2 g3 h1 hp ha
  simp [tk_fn, tk_env, tk_sq, tk_sk, tk_if, tk_re, tk_rez, tk_rev, tk_xp, tk_se, tk_pf, tk_pfz, tk_pfo, tk_as, tk_asz, tk_asb, tk_aso, tk_cpy, tk_sw, tk_swc, tk_lit, tk_loc, tk_u1, tk_bin, tk_dv, tk_gf, tk_gr, tk_gn, tk_ald, tk_aldq, tk_aln, tk_unl, tk_una, tk_ter, tk_args, tk_cs, tk_cv, tk_ceq, tk_cne, tk_clt, tk_cge, tk_cgt, tk_cle, tk_zeq, tk_zne, tk_zlt, tk_zge, tk_zgt, tk_zle, tk_and, tk_or, tk_not, tk_ct2, tk_isC, List.headD_cons, tk_up, tk_sca, tk_scl, tkF_X7_layIssued, tkS_X7_layIssued]
  refine tk_for 6 (fun i ρ μ' => ρ 0 = 96 ∧ ρ 1 = i ∧ tk_f1 116 117 μ μ' ∧ ∀ c : Int, 0 ≤ c → c < i → μ' 116 c = 0 ∧ μ' 117 c = 0) (by omega) ⟨rfl, rfl, tk_f1_r, fun c h1 h2 => by omega⟩ ?_ ?_
  · rintro i ρ μ' hi0 hi6 ⟨r0, r1, hf, hz⟩ K hK
    have i1 : tk_iadd i 1 = i + 1 := tk_iadd_id (by omega) (by omega)
    simp [tk_fn, tk_env, tk_sq, tk_sk, tk_if, tk_re, tk_rez, tk_rev, tk_xp, tk_se, tk_pf, tk_pfz, tk_pfo, tk_as, tk_asz, tk_asb, tk_aso, tk_cpy, tk_sw, tk_swc, tk_lit, tk_loc, tk_u1, tk_bin, tk_dv, tk_gf, tk_gr, tk_gn, tk_ald, tk_aldq, tk_aln, tk_unl, tk_una, tk_ter, tk_args, tk_cs, tk_cv, tk_ceq, tk_cne, tk_clt, tk_cge, tk_cgt, tk_cle, tk_zeq, tk_zne, tk_zlt, tk_zge, tk_zgt, tk_zle, tk_and, tk_or, tk_not, tk_ct2, tk_isC, List.headD_cons, tk_up, tk_sca, tk_scl, r0, r1, hi0, hi6, tk_al_2, tk_al_3, tk_al_4, tk_al_5, tk_al_6, tk_al_7, tk_al_8, tk_al_9, tk_al_10, tk_al_11, tk_al_13, tk_al_14, tk_al_16, tk_al_17, tk_al_19, tk_al_20, tk_al_22, tk_al_24, tk_al_25, tk_al_26, tk_al_27, tk_al_28, tk_al_29, tk_al_30, tk_al_32, tk_al_33, tk_al_34, tk_al_35, tk_al_36, tk_al_37, tk_al_38, tk_al_39, tk_al_40, tk_al_41, tk_al_43, tk_al_44, tk_al_46, tk_al_47, tk_al_49, tk_al_50, tk_al_52, tk_al_54, tk_al_55, tk_al_56, tk_al_57, tk_al_58, tk_al_59, tk_al_60, tk_al_62, tk_al_63, tk_al_64, tk_al_65, tk_al_66, tk_al_67, tk_al_68, tk_al_69, tk_al_70, tk_al_71, tk_al_73, tk_al_74, tk_al_76, tk_al_77, tk_al_79, tk_al_80, tk_al_81, tk_al_83, tk_al_85, tk_al_87, tk_al_89, tk_al_91, tk_al_93, tk_al_95, tk_al_97, tk_al_98, tk_al_99, tk_al_100, tk_al_101, tk_al_102, tk_al_103, tk_al_104, tk_al_105, tk_al_106, tk_al_107, tk_al_108, tk_al_109, tk_al_110, tk_al_111, tk_al_112, tk_al_113, tk_al_114, tk_al_115, tk_al_116, tk_al_117, tk_al_118, tk_al_119, tk_al_120, tk_al_121, tk_al_122, tk_al_123, tk_al_124, tk_al_125, tk_al_126, tk_al_127, tk_al_128, tk_al_129, i1]
    refine hK _ _ ⟨r0, rfl, tk_f1_s (tk_f1_s hf (by omega)) (by omega), fun c h2 h3 => ?_⟩
    by_cases hc : c = i
    · subst hc
      simp [tk_set]
    · have := hz c h2 (by omega)
      simp [tk_set, hc]
      exact this
  · rintro ρ μ' ⟨r0, r1, hf, hz⟩ X
    simp [tk_fn, tk_env, tk_sq, tk_sk, tk_if, tk_re, tk_rez, tk_rev, tk_xp, tk_se, tk_pf, tk_pfz, tk_pfo, tk_as, tk_asz, tk_asb, tk_aso, tk_cpy, tk_sw, tk_swc, tk_lit, tk_loc, tk_u1, tk_bin, tk_dv, tk_gf, tk_gr, tk_gn, tk_ald, tk_aldq, tk_aln, tk_unl, tk_una, tk_ter, tk_args, tk_cs, tk_cv, tk_ceq, tk_cne, tk_clt, tk_cge, tk_cgt, tk_cle, tk_zeq, tk_zne, tk_zlt, tk_zge, tk_zgt, tk_zle, tk_and, tk_or, tk_not, tk_ct2, tk_isC, List.headD_cons, tk_up, tk_sca, tk_scl, r0, r1]
    refine tk_for (μ 96 1) (fun i ρ μ' => ρ 0 = 96 ∧ ρ 1 = i ∧ tk_f1 116 117 μ μ' ∧ ∀ c : Int, 0 ≤ c → c < 6 → μ' 116 c = 0 ∧ μ' 117 c = tk_sm i (fun t => if μ 97 t = c ∧ ¬ μ 99 t = -5 then μ 98 t else 0)) g2.1 ⟨r0, rfl, hf, hz⟩ ?_ ?_
    · rintro i ρ μ' hi0 hi6 ⟨r0, r1, hf, hz⟩ K hK
      have i1 : tk_iadd i 1 = i + 1 := tk_iadd_id (by omega) (by omega)
      have e96 : μ' 96 1 = μ 96 1 := hf _ _ (by omega)
      have e97 : μ' 97 i = μ 97 i := hf _ _ (by omega)
      have e98 : μ' 98 i = μ 98 i := hf _ _ (by omega)
      have e99 : μ' 99 i = μ 99 i := hf _ _ (by omega)
      have hc := (h1 i hi0 hi6).1
      have hc6 : μ 97 i < 6 := by omega
      have h24 : i < 24 := by omega
      have hz2 := (hz (μ 97 i) hc.1 hc6).2
      have hp2 := hp (μ 97 i) i hi0 (by omega)
      have ha2 := ha i hi0 hi6
      rw [← hz2] at hp2
      have key : ∀ v : Int, v = (if ¬ μ 99 i = -5 then μ 98 i else 0) → ∀ c : Int, 0 ≤ c → c < 6 → tk_set μ' 117 (μ 97 i) (μ' 117 (μ 97 i) + v) 116 c = 0 ∧ tk_set μ' 117 (μ 97 i) (μ' 117 (μ 97 i) + v) 117 c = tk_sm (i + 1) (fun t => if μ 97 t = c ∧ ¬ μ 99 t = -5 then μ 98 t else 0) := by
        intro v hv c h2 h3
        rw [tk_sm_s hi0]
        have hzc := hz c h2 h3
        by_cases hcc : c = μ 97 i
        · subst hcc
          simp only [tk_set]
          simp
          refine ⟨hzc.1, ?_⟩
          rw [hv, hzc.2]
          simp
        · have hcc2 : ¬ μ 97 i = c := fun z => hcc z.symm
          simp only [tk_set]
          simp [hcc, hcc2]
          exact hzc
      by_cases hn : μ 99 i = -5
      · have l1 : tk_ladd (μ' 117 (μ 97 i)) 0 = μ' 117 (μ 97 i) + 0 := tk_ladd_id (by omega) (by omega)
        simp [tk_fn, tk_env, tk_sq, tk_sk, tk_if, tk_re, tk_rez, tk_rev, tk_xp, tk_se, tk_pf, tk_pfz, tk_pfo, tk_as, tk_asz, tk_asb, tk_aso, tk_cpy, tk_sw, tk_swc, tk_lit, tk_loc, tk_u1, tk_bin, tk_dv, tk_gf, tk_gr, tk_gn, tk_ald, tk_aldq, tk_aln, tk_unl, tk_una, tk_ter, tk_args, tk_cs, tk_cv, tk_ceq, tk_cne, tk_clt, tk_cge, tk_cgt, tk_cle, tk_zeq, tk_zne, tk_zlt, tk_zge, tk_zgt, tk_zle, tk_and, tk_or, tk_not, tk_ct2, tk_isC, List.headD_cons, tk_up, tk_sca, tk_scl, r0, r1, hi0, hi6, tk_al_2, tk_al_3, tk_al_4, tk_al_5, tk_al_6, tk_al_7, tk_al_8, tk_al_9, tk_al_10, tk_al_11, tk_al_13, tk_al_14, tk_al_16, tk_al_17, tk_al_19, tk_al_20, tk_al_22, tk_al_24, tk_al_25, tk_al_26, tk_al_27, tk_al_28, tk_al_29, tk_al_30, tk_al_32, tk_al_33, tk_al_34, tk_al_35, tk_al_36, tk_al_37, tk_al_38, tk_al_39, tk_al_40, tk_al_41, tk_al_43, tk_al_44, tk_al_46, tk_al_47, tk_al_49, tk_al_50, tk_al_52, tk_al_54, tk_al_55, tk_al_56, tk_al_57, tk_al_58, tk_al_59, tk_al_60, tk_al_62, tk_al_63, tk_al_64, tk_al_65, tk_al_66, tk_al_67, tk_al_68, tk_al_69, tk_al_70, tk_al_71, tk_al_73, tk_al_74, tk_al_76, tk_al_77, tk_al_79, tk_al_80, tk_al_81, tk_al_83, tk_al_85, tk_al_87, tk_al_89, tk_al_91, tk_al_93, tk_al_95, tk_al_97, tk_al_98, tk_al_99, tk_al_100, tk_al_101, tk_al_102, tk_al_103, tk_al_104, tk_al_105, tk_al_106, tk_al_107, tk_al_108, tk_al_109, tk_al_110, tk_al_111, tk_al_112, tk_al_113, tk_al_114, tk_al_115, tk_al_116, tk_al_117, tk_al_118, tk_al_119, tk_al_120, tk_al_121, tk_al_122, tk_al_123, tk_al_124, tk_al_125, tk_al_126, tk_al_127, tk_al_128, tk_al_129, i1, e96, e97, e98, e99, hc.1, hc6, h24, hn, -Int.add_zero, l1]
        exact hK _ _ ⟨r0, rfl, tk_f1_s hf (by omega), key 0 (by simp [hn])⟩
      · have l1 : tk_ladd (μ' 117 (μ 97 i)) (μ 98 i) = μ' 117 (μ 97 i) + μ 98 i := tk_ladd_id (by omega) (by omega)
        simp [tk_fn, tk_env, tk_sq, tk_sk, tk_if, tk_re, tk_rez, tk_rev, tk_xp, tk_se, tk_pf, tk_pfz, tk_pfo, tk_as, tk_asz, tk_asb, tk_aso, tk_cpy, tk_sw, tk_swc, tk_lit, tk_loc, tk_u1, tk_bin, tk_dv, tk_gf, tk_gr, tk_gn, tk_ald, tk_aldq, tk_aln, tk_unl, tk_una, tk_ter, tk_args, tk_cs, tk_cv, tk_ceq, tk_cne, tk_clt, tk_cge, tk_cgt, tk_cle, tk_zeq, tk_zne, tk_zlt, tk_zge, tk_zgt, tk_zle, tk_and, tk_or, tk_not, tk_ct2, tk_isC, List.headD_cons, tk_up, tk_sca, tk_scl, r0, r1, hi0, hi6, tk_al_2, tk_al_3, tk_al_4, tk_al_5, tk_al_6, tk_al_7, tk_al_8, tk_al_9, tk_al_10, tk_al_11, tk_al_13, tk_al_14, tk_al_16, tk_al_17, tk_al_19, tk_al_20, tk_al_22, tk_al_24, tk_al_25, tk_al_26, tk_al_27, tk_al_28, tk_al_29, tk_al_30, tk_al_32, tk_al_33, tk_al_34, tk_al_35, tk_al_36, tk_al_37, tk_al_38, tk_al_39, tk_al_40, tk_al_41, tk_al_43, tk_al_44, tk_al_46, tk_al_47, tk_al_49, tk_al_50, tk_al_52, tk_al_54, tk_al_55, tk_al_56, tk_al_57, tk_al_58, tk_al_59, tk_al_60, tk_al_62, tk_al_63, tk_al_64, tk_al_65, tk_al_66, tk_al_67, tk_al_68, tk_al_69, tk_al_70, tk_al_71, tk_al_73, tk_al_74, tk_al_76, tk_al_77, tk_al_79, tk_al_80, tk_al_81, tk_al_83, tk_al_85, tk_al_87, tk_al_89, tk_al_91, tk_al_93, tk_al_95, tk_al_97, tk_al_98, tk_al_99, tk_al_100, tk_al_101, tk_al_102, tk_al_103, tk_al_104, tk_al_105, tk_al_106, tk_al_107, tk_al_108, tk_al_109, tk_al_110, tk_al_111, tk_al_112, tk_al_113, tk_al_114, tk_al_115, tk_al_116, tk_al_117, tk_al_118, tk_al_119, tk_al_120, tk_al_121, tk_al_122, tk_al_123, tk_al_124, tk_al_125, tk_al_126, tk_al_127, tk_al_128, tk_al_129, i1, e96, e97, e98, e99, hc.1, hc6, h24, hn, l1]
        exact hK _ _ ⟨r0, rfl, tk_f1_s hf (by omega), key _ (by simp [hn])⟩
    · rintro ρ μ' ⟨r0, r1, hf, hz⟩ X
      have e96 : μ' 96 1 = μ 96 1 := hf _ _ (by omega)
      simp [tk_fn, tk_env, tk_sq, tk_sk, tk_if, tk_re, tk_rez, tk_rev, tk_xp, tk_se, tk_pf, tk_pfz, tk_pfo, tk_as, tk_asz, tk_asb, tk_aso, tk_cpy, tk_sw, tk_swc, tk_lit, tk_loc, tk_u1, tk_bin, tk_dv, tk_gf, tk_gr, tk_gn, tk_ald, tk_aldq, tk_aln, tk_unl, tk_una, tk_ter, tk_args, tk_cs, tk_cv, tk_ceq, tk_cne, tk_clt, tk_cge, tk_cgt, tk_cle, tk_zeq, tk_zne, tk_zlt, tk_zge, tk_zgt, tk_zle, tk_and, tk_or, tk_not, tk_ct2, tk_isC, List.headD_cons, tk_up, tk_sca, tk_scl, r0, r1, e96]
      exact hQ _ hf (fun c h2 h3 => by rw [hisu]; exact hz c h2 h3)
theorem m_worthOf {μ : tk_M} {Q : Int → tk_M → Prop} {t : Int} {v : Int → Int} (h0 : tk_I0 (tk_mv μ)) (h1 : tk_I1 (tk_mv μ)) (ht : 0 ≤ t ∧ t < μ 96 1) (hi : ∀ c : Int, 0 ≤ c → c < 6 → μ 117 c = tk_isu (tk_mv μ) c) (hv : μ 116 (μ 97 t) = v (μ 97 t)) (hb : 0 ≤ v (μ 97 t) ∧ v (μ 97 t) ≤ 79618277376) (hQ : Q (tk_wo (tk_mv μ) v t) μ) : tkF_X7_worthOf [96, t] Q μ := by
  have hu := fun c => tk_isu_bd h0 h1 c
  have ha := tk_amt h1
  obtain ⟨g1, g2, g3, -⟩ := h0
  have h2 := (h1 t ht.1 (by simpa [tk_mv] using ht.2)).1
  have e : tk_wo (tk_mv μ) v t = if μ 97 t = 0 then μ 98 t else if tk_isu (tk_mv μ) (μ 97 t) = 0 then 0 else μ 98 t * v (μ 97 t) / tk_isu (tk_mv μ) (μ 97 t) := rfl
  rw [e] at hQ
  simp [tk_mv] at g1 g2 g3 h2 ha
  have ha2 := ha t ht.1 ht.2
  have h24 : t < 24 := by omega
  have hc6 : μ 97 t < 6 := by omega
  have hi2 := hi _ h2.1 hc6
  have hu2 := hu (μ 97 t)
  generalize tk_isu (tk_mv μ) (μ 97 t) = q at hi2 hu2 hQ
  by_cases hc : μ 97 t = 0
  · simp [hc] at hQ
    simp [tk_fn, tk_env, tk_sq, tk_sk, tk_if, tk_re, tk_rez, tk_rev, tk_xp, tk_se, tk_pf, tk_pfz, tk_pfo, tk_as, tk_asz, tk_asb, tk_aso, tk_cpy, tk_sw, tk_swc, tk_lit, tk_loc, tk_u1, tk_bin, tk_dv, tk_gf, tk_gr, tk_gn, tk_ald, tk_aldq, tk_aln, tk_unl, tk_una, tk_ter, tk_args, tk_cs, tk_cv, tk_ceq, tk_cne, tk_clt, tk_cge, tk_cgt, tk_cle, tk_zeq, tk_zne, tk_zlt, tk_zge, tk_zgt, tk_zle, tk_and, tk_or, tk_not, tk_ct2, tk_isC, List.headD_cons, tk_up, tk_sca, tk_scl, tkF_X7_worthOf, tkS_X7_worthOf, tk_al_2, tk_al_3, tk_al_4, tk_al_5, tk_al_6, tk_al_7, tk_al_8, tk_al_9, tk_al_10, tk_al_11, tk_al_13, tk_al_14, tk_al_16, tk_al_17, tk_al_19, tk_al_20, tk_al_22, tk_al_24, tk_al_25, tk_al_26, tk_al_27, tk_al_28, tk_al_29, tk_al_30, tk_al_32, tk_al_33, tk_al_34, tk_al_35, tk_al_36, tk_al_37, tk_al_38, tk_al_39, tk_al_40, tk_al_41, tk_al_43, tk_al_44, tk_al_46, tk_al_47, tk_al_49, tk_al_50, tk_al_52, tk_al_54, tk_al_55, tk_al_56, tk_al_57, tk_al_58, tk_al_59, tk_al_60, tk_al_62, tk_al_63, tk_al_64, tk_al_65, tk_al_66, tk_al_67, tk_al_68, tk_al_69, tk_al_70, tk_al_71, tk_al_73, tk_al_74, tk_al_76, tk_al_77, tk_al_79, tk_al_80, tk_al_81, tk_al_83, tk_al_85, tk_al_87, tk_al_89, tk_al_91, tk_al_93, tk_al_95, tk_al_97, tk_al_98, tk_al_99, tk_al_100, tk_al_101, tk_al_102, tk_al_103, tk_al_104, tk_al_105, tk_al_106, tk_al_107, tk_al_108, tk_al_109, tk_al_110, tk_al_111, tk_al_112, tk_al_113, tk_al_114, tk_al_115, tk_al_116, tk_al_117, tk_al_118, tk_al_119, tk_al_120, tk_al_121, tk_al_122, tk_al_123, tk_al_124, tk_al_125, tk_al_126, tk_al_127, tk_al_128, tk_al_129, ht.1, h24, hc]
    exact hQ
  · by_cases hq : q = 0
    · simp [hc, hq] at hQ
      simp [tk_fn, tk_env, tk_sq, tk_sk, tk_if, tk_re, tk_rez, tk_rev, tk_xp, tk_se, tk_pf, tk_pfz, tk_pfo, tk_as, tk_asz, tk_asb, tk_aso, tk_cpy, tk_sw, tk_swc, tk_lit, tk_loc, tk_u1, tk_bin, tk_dv, tk_gf, tk_gr, tk_gn, tk_ald, tk_aldq, tk_aln, tk_unl, tk_una, tk_ter, tk_args, tk_cs, tk_cv, tk_ceq, tk_cne, tk_clt, tk_cge, tk_cgt, tk_cle, tk_zeq, tk_zne, tk_zlt, tk_zge, tk_zgt, tk_zle, tk_and, tk_or, tk_not, tk_ct2, tk_isC, List.headD_cons, tk_up, tk_sca, tk_scl, tkF_X7_worthOf, tkS_X7_worthOf, tk_al_2, tk_al_3, tk_al_4, tk_al_5, tk_al_6, tk_al_7, tk_al_8, tk_al_9, tk_al_10, tk_al_11, tk_al_13, tk_al_14, tk_al_16, tk_al_17, tk_al_19, tk_al_20, tk_al_22, tk_al_24, tk_al_25, tk_al_26, tk_al_27, tk_al_28, tk_al_29, tk_al_30, tk_al_32, tk_al_33, tk_al_34, tk_al_35, tk_al_36, tk_al_37, tk_al_38, tk_al_39, tk_al_40, tk_al_41, tk_al_43, tk_al_44, tk_al_46, tk_al_47, tk_al_49, tk_al_50, tk_al_52, tk_al_54, tk_al_55, tk_al_56, tk_al_57, tk_al_58, tk_al_59, tk_al_60, tk_al_62, tk_al_63, tk_al_64, tk_al_65, tk_al_66, tk_al_67, tk_al_68, tk_al_69, tk_al_70, tk_al_71, tk_al_73, tk_al_74, tk_al_76, tk_al_77, tk_al_79, tk_al_80, tk_al_81, tk_al_83, tk_al_85, tk_al_87, tk_al_89, tk_al_91, tk_al_93, tk_al_95, tk_al_97, tk_al_98, tk_al_99, tk_al_100, tk_al_101, tk_al_102, tk_al_103, tk_al_104, tk_al_105, tk_al_106, tk_al_107, tk_al_108, tk_al_109, tk_al_110, tk_al_111, tk_al_112, tk_al_113, tk_al_114, tk_al_115, tk_al_116, tk_al_117, tk_al_118, tk_al_119, tk_al_120, tk_al_121, tk_al_122, tk_al_123, tk_al_124, tk_al_125, tk_al_126, tk_al_127, tk_al_128, tk_al_129, ht.1, h24, hc, h2.1, hc6, hi2, hq]
      exact hQ
    · have hm : 0 ≤ μ 98 t * v (μ 97 t) ∧ μ 98 t * v (μ 97 t) ≤ 9999 * 79618277376 := by
        refine ⟨Int.mul_nonneg (by omega) hb.1, ?_⟩
        exact Int.mul_le_mul ha2.2 hb.2 hb.1 (by omega)
      have l1 : tk_lmul (μ 98 t) (v (μ 97 t)) = μ 98 t * v (μ 97 t) := tk_lmul_id (by omega) (by omega)
      have l2 : tk_ldiv (μ 98 t * v (μ 97 t)) q = μ 98 t * v (μ 97 t) / q := tk_ldiv_id (by omega) (by omega)
      simp [hc, hq] at hQ
      simp [tk_fn, tk_env, tk_sq, tk_sk, tk_if, tk_re, tk_rez, tk_rev, tk_xp, tk_se, tk_pf, tk_pfz, tk_pfo, tk_as, tk_asz, tk_asb, tk_aso, tk_cpy, tk_sw, tk_swc, tk_lit, tk_loc, tk_u1, tk_bin, tk_dv, tk_gf, tk_gr, tk_gn, tk_ald, tk_aldq, tk_aln, tk_unl, tk_una, tk_ter, tk_args, tk_cs, tk_cv, tk_ceq, tk_cne, tk_clt, tk_cge, tk_cgt, tk_cle, tk_zeq, tk_zne, tk_zlt, tk_zge, tk_zgt, tk_zle, tk_and, tk_or, tk_not, tk_ct2, tk_isC, List.headD_cons, tk_up, tk_sca, tk_scl, tkF_X7_worthOf, tkS_X7_worthOf, tk_al_2, tk_al_3, tk_al_4, tk_al_5, tk_al_6, tk_al_7, tk_al_8, tk_al_9, tk_al_10, tk_al_11, tk_al_13, tk_al_14, tk_al_16, tk_al_17, tk_al_19, tk_al_20, tk_al_22, tk_al_24, tk_al_25, tk_al_26, tk_al_27, tk_al_28, tk_al_29, tk_al_30, tk_al_32, tk_al_33, tk_al_34, tk_al_35, tk_al_36, tk_al_37, tk_al_38, tk_al_39, tk_al_40, tk_al_41, tk_al_43, tk_al_44, tk_al_46, tk_al_47, tk_al_49, tk_al_50, tk_al_52, tk_al_54, tk_al_55, tk_al_56, tk_al_57, tk_al_58, tk_al_59, tk_al_60, tk_al_62, tk_al_63, tk_al_64, tk_al_65, tk_al_66, tk_al_67, tk_al_68, tk_al_69, tk_al_70, tk_al_71, tk_al_73, tk_al_74, tk_al_76, tk_al_77, tk_al_79, tk_al_80, tk_al_81, tk_al_83, tk_al_85, tk_al_87, tk_al_89, tk_al_91, tk_al_93, tk_al_95, tk_al_97, tk_al_98, tk_al_99, tk_al_100, tk_al_101, tk_al_102, tk_al_103, tk_al_104, tk_al_105, tk_al_106, tk_al_107, tk_al_108, tk_al_109, tk_al_110, tk_al_111, tk_al_112, tk_al_113, tk_al_114, tk_al_115, tk_al_116, tk_al_117, tk_al_118, tk_al_119, tk_al_120, tk_al_121, tk_al_122, tk_al_123, tk_al_124, tk_al_125, tk_al_126, tk_al_127, tk_al_128, tk_al_129, ht.1, h24, hc, h2.1, hc6, hi2, hq, hv, l1, l2]
      exact hQ
/-- sums that a round of values lays -/
def tk_vs (S : tk_M) (v : Int → Int) (i c : Int) : Int := tk_sm i (fun t => if S 3 t = 10 + c then tk_wo S v t else 0)
theorem tk_vs_bd {S : tk_M} (h0 : tk_I0 S) (h1 : tk_I1 S) {v : Int → Int} (hv : ∀ c : Int, 0 ≤ c → 0 ≤ v c ∧ v c ≤ 79618277376) (i c : Int) (hi : 0 ≤ i ∧ i ≤ S 0 1) (hc : 0 ≤ c) : 0 ≤ tk_vs S v i c ∧ tk_vs S v i c ≤ i * 79618277376 :=
  tk_sm_bd (n := i) (B := 79618277376) hi.1 (fun t h2 h3 => by
    (try dsimp only)
    split
    · exact tk_wo_bd h0 h1 (by omega) ⟨h2, by omega⟩ (by omega) (hv _ (h1 t h2 (by omega)).1.1)
    · omega)
