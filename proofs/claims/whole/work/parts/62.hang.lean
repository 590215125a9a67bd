/-! ===== Layer 2: which CURRENCY hangs on which ===== -/
/-- ticket t (another than w) backs y -/
def tk_bk (S : tk_M) (w t y : Int) : Prop := (0 ≤ t ∧ t < S 0 1) ∧ ¬ t = w ∧ S 3 t = 10 + y ∧ 0 ≤ y
def tk_hg (S : tk_M) (w c d : Int) : Prop := ∀ P : Int → Prop, (∀ t, tk_bk S w t c → P (S 1 t)) → (∀ t y, P y → tk_bk S w t y → P (S 1 t)) → P d
theorem tk_hg_1 {S : tk_M} {w c t : Int} (h : tk_bk S w t c) : tk_hg S w c (S 1 t) := fun _ h1 _ => h1 t h
theorem tk_hg_r {S : tk_M} {w c y t : Int} (h : tk_hg S w c y) (h2 : tk_bk S w t y) : tk_hg S w c (S 1 t) := fun P h3 h4 => h4 t y (h P h3 h4) h2
theorem tk_hg_ri {S : tk_M} {w c d : Int} (h : tk_hg S w c d) : (∃ t, tk_bk S w t c ∧ S 1 t = d) ∨ ∃ y t, tk_hg S w c y ∧ tk_bk S w t y ∧ S 1 t = d := by
  refine h (fun d => (∃ t, tk_bk S w t c ∧ S 1 t = d) ∨ ∃ y t, tk_hg S w c y ∧ tk_bk S w t y ∧ S 1 t = d) (fun t h1 => .inl ⟨t, h1, rfl⟩) (fun t y h1 h2 => .inr ⟨y, t, ?_, h2, rfl⟩)
  rcases h1 with ⟨u, h3, rfl⟩ | ⟨z, u, h3, h4, rfl⟩
  · exact tk_hg_1 h3
  · exact tk_hg_r h3 h4
theorem tk_hg_l {S : tk_M} {w c d t : Int} (h : tk_bk S w t c) (h2 : tk_hg S w (S 1 t) d) : tk_hg S w c d := fun P h3 h4 => h2 P (fun u h5 => h4 u (S 1 t) (h3 t h) h5) h4
theorem tk_hg_li {S : tk_M} {w c d : Int} (h : tk_hg S w c d) : ∃ t, tk_bk S w t c ∧ (S 1 t = d ∨ tk_hg S w (S 1 t) d) := by
  refine h (fun d => ∃ t, tk_bk S w t c ∧ (S 1 t = d ∨ tk_hg S w (S 1 t) d)) (fun t h1 => ⟨t, h1, .inl rfl⟩) (fun u y h1 h2 => ?_)
  obtain ⟨t, h3, rfl | h4⟩ := h1
  · exact ⟨t, h3, .inr (tk_hg_1 h2)⟩
  · exact ⟨t, h3, .inr (tk_hg_r h4 h2)⟩
theorem tk_hg_rk {S : tk_M} {w c d : Int} {rk : Int → Int} (hr : ∀ t y, tk_bk S w t y → rk (S 1 t) < rk y) (h : tk_hg S w c d) : rk d < rk c := by
  refine h (fun d => rk d < rk c) (fun t h1 => hr t c h1) (fun t y h1 h2 => ?_)
  have := hr t y h2
  omega
theorem tk_hg_in {S : tk_M} {w c d : Int} (h1 : tk_I1 S) (h : tk_hg S w c d) : 0 ≤ d ∧ d < S 0 0 := by
  refine h (fun d => 0 ≤ d ∧ d < S 0 0) (fun t h2 => (h1 t h2.1.1 h2.1.2).1) (fun t y _ h2 => (h1 t h2.1.1 h2.1.2).1)
theorem tk_bk_w {S : tk_M} {w w' t y : Int} (hw : w < 0) (hw' : w' < 0) (h : tk_bk S w t y) : tk_bk S w' t y := ⟨h.1, by have := h.1; omega, h.2.2⟩
theorem tk_hg_w {S : tk_M} {w w' c d : Int} (hw : w < 0) (hw' : w' < 0) (h : tk_hg S w c d) : tk_hg S w' c d := fun P h1 h2 => h P (fun t h3 => h1 t (tk_bk_w hw hw' h3)) (fun t y h3 h4 => h2 t y h3 (tk_bk_w hw hw' h4))
theorem tk_bk_eq {S T : tk_M} (h0 : tk_E0 S T) (h1 : tk_E1 S T) {w t y : Int} : tk_bk T w t y ↔ tk_bk S w t y := by
  unfold tk_bk
  rw [h0.2.1]
  constructor
  · rintro ⟨a, b, c, d⟩
    exact ⟨a, b, by rw [← (h1 t a.1 a.2).2.2]; exact c, d⟩
  · rintro ⟨a, b, c, d⟩
    exact ⟨a, b, by rw [(h1 t a.1 a.2).2.2]; exact c, d⟩
theorem tk_hg_eq {S T : tk_M} (h0 : tk_E0 S T) (h1 : tk_E1 S T) {w c d : Int} : tk_hg T w c d ↔ tk_hg S w c d := by
  constructor
  · intro h P h2 h3
    refine h P (fun t h4 => ?_) (fun t y h4 h5 => ?_)
    · have h5 := (tk_bk_eq h0 h1).mp h4
      rw [(h1 t h5.1.1 h5.1.2).1]
      exact h2 t h5
    · have h6 := (tk_bk_eq h0 h1).mp h5
      rw [(h1 t h6.1.1 h6.1.2).1]
      exact h3 t y h4 h6
  · intro h P h2 h3
    refine h P (fun t h4 => ?_) (fun t y h4 h5 => ?_)
    · have h5 := (tk_bk_eq h0 h1).mpr h4
      rw [← (h1 t h4.1.1 h4.1.2).1]
      exact h2 t h5
    · have h6 := (tk_bk_eq h0 h1).mpr h5
      rw [← (h1 t h5.1.1 h5.1.2).1]
      exact h3 t y h4 h6
theorem tk_I7_bk {S : tk_M} (h7 : tk_I7 S) (w : Int) : ∃ rk : Int → Int, (∀ c, 0 ≤ rk c ∧ rk c ≤ 5) ∧ ∀ t y, tk_bk S w t y → rk (S 1 t) < rk y := by
  obtain ⟨rk, h1, h2⟩ := h7
  refine ⟨rk, h1, fun t y h => ?_⟩
  have := h2 t h.1.1 h.1.2 (by have := h.2.2; omega)
  rwa [show S 3 t - 10 = y by have := h.2.2.1; omega] at this
/-! the Model -/
theorem m_hasBit {x k : Int} {μ : tk_M} {Q : Int → tk_M → Prop} (hx : 0 ≤ x ∧ x ≤ 2147483647) (hk : 0 ≤ k ∧ k ≤ 30) (h1 : tk_bit x k → Q 1 μ) (h0 : ¬ tk_bit x k → Q 0 μ) : tkF_X7_hasBit [x, k] Q μ := by
  have h := tk_bit_1 hx hk
  by_cases hb : tk_bit x k
  · have h2 : tk_iand (tk_ishr x k) 1 = 1 := by rw [h]; exact hb
    simp [tk_fn, tk_env, tk_sq, tk_sk, tk_if, tk_re, tk_rez, tk_rev, tk_xp, tk_se, tk_pf, tk_pfz, tk_pfo, tk_as, tk_asz, tk_asb, tk_aso, tk_cpy, tk_sw, tk_swc, tk_lit, tk_loc, tk_u1, tk_bin, tk_dv, tk_gf, tk_gr, tk_gn, tk_ald, tk_aldq, tk_aln, tk_unl, tk_una, tk_ter, tk_args, tk_cs, tk_cv, tk_ceq, tk_cne, tk_clt, tk_cge, tk_cgt, tk_cle, tk_zeq, tk_zne, tk_zlt, tk_zge, tk_zgt, tk_zle, tk_and, tk_or, tk_not, tk_ct2, tk_isC, List.headD_cons, tk_up, tk_sca, tk_scl, tkF_X7_hasBit, tkS_X7_hasBit, h2]
    exact h1 hb
  · have h2 : ¬ tk_iand (tk_ishr x k) 1 = 1 := by rw [h]; exact hb
    simp [tk_fn, tk_env, tk_sq, tk_sk, tk_if, tk_re, tk_rez, tk_rev, tk_xp, tk_se, tk_pf, tk_pfz, tk_pfo, tk_as, tk_asz, tk_asb, tk_aso, tk_cpy, tk_sw, tk_swc, tk_lit, tk_loc, tk_u1, tk_bin, tk_dv, tk_gf, tk_gr, tk_gn, tk_ald, tk_aldq, tk_aln, tk_unl, tk_una, tk_ter, tk_args, tk_cs, tk_cv, tk_ceq, tk_cne, tk_clt, tk_cge, tk_cgt, tk_cle, tk_zeq, tk_zne, tk_zlt, tk_zge, tk_zgt, tk_zle, tk_and, tk_or, tk_not, tk_ct2, tk_isC, List.headD_cons, tk_up, tk_sca, tk_scl, tkF_X7_hasBit, tkS_X7_hasBit, h2]
    exact h0 hb
/-- what the Model has laid of who hangs on whom -/
def tk_mH (S : tk_M) (w : Int) (μ : tk_M) : Prop := ∀ c : Int, 0 ≤ c → c < 6 → tk_bs2 6 (μ 115 c) ∧ ∀ d, tk_bit (μ 115 c) d ↔ tk_hg S w c d
theorem m_layHangs {μ : tk_M} {Q : Int → tk_M → Prop} {w : Int} (h0 : tk_I0 (tk_mv μ)) (h1 : tk_I1 (tk_mv μ)) (h7 : tk_I7 (tk_mv μ)) (hQ : ∀ μ', tk_f1 115 115 μ μ' → tk_mH (tk_mv μ) w μ' → Q 0 μ') : tkF_X7_layHangs [96, w] Q μ := by
  obtain ⟨rk, hr5, hrk⟩ := tk_I7_bk h7 w
  have hin := fun c d h => tk_hg_in (w := w) (c := c) (d := d) h1 h
  have g0 := h0
  have g := h1
  obtain ⟨g1, g2, g3, -⟩ := g0
  unfold tk_I1 at g
  simp [tk_mv] at g1 g2 g3 g
  have hnT : tk_mv μ 0 1 = μ 96 1 := rfl
  have hnC : tk_mv μ 0 0 = μ 96 0 := rfl
  have hS1 : ∀ t, tk_mv μ 1 t = μ 97 t := fun _ => rfl
  have hS3 : ∀ t, tk_mv μ 3 t = μ 99 t := fun _ => rfl
  have hbk : ∀ t y, tk_bk (tk_mv μ) w t y ↔ (0 ≤ t ∧ t < μ 96 1) ∧ ¬ t = w ∧ μ 99 t = 10 + y ∧ 0 ≤ y := fun t y => Iff.rfl
  simp [tk_fn, tk_env, tk_sq, tk_sk, tk_if, tk_re, tk_rez, tk_rev, tk_xp, tk_se, tk_pf, tk_pfz, tk_pfo, tk_as, tk_asz, tk_asb, tk_aso, tk_cpy, tk_sw, tk_swc, tk_lit, tk_loc, tk_u1, tk_bin, tk_dv, tk_gf, tk_gr, tk_gn, tk_ald, tk_aldq, tk_aln, tk_unl, tk_una, tk_ter, tk_args, tk_cs, tk_cv, tk_ceq, tk_cne, tk_clt, tk_cge, tk_cgt, tk_cle, tk_zeq, tk_zne, tk_zlt, tk_zge, tk_zgt, tk_zle, tk_and, tk_or, tk_not, tk_ct2, tk_isC, List.headD_cons, tk_up, tk_sca, tk_scl, tkF_X7_layHangs, tkS_X7_layHangs]
  refine tk_for 6 (fun i ρ μ' => ρ 0 = 96 ∧ ρ 1 = w ∧ ρ 2 = i ∧ tk_f1 115 115 μ μ' ∧ ∀ c : Int, 0 ≤ c → c < i → μ' 115 c = 0) (by omega) ⟨rfl, rfl, rfl, tk_f1_r, fun c h2 h3 => by omega⟩ ?_ ?_
  · rintro i ρ μ' hi0 hi6 ⟨r0, r1, r2, hf, hz⟩ K hK
    have i1 : tk_iadd i 1 = i + 1 := tk_iadd_id (by omega) (by omega)
    simp [tk_fn, tk_env, tk_sq, tk_sk, tk_if, tk_re, tk_rez, tk_rev, tk_xp, tk_se, tk_pf, tk_pfz, tk_pfo, tk_as, tk_asz, tk_asb, tk_aso, tk_cpy, tk_sw, tk_swc, tk_lit, tk_loc, tk_u1, tk_bin, tk_dv, tk_gf, tk_gr, tk_gn, tk_ald, tk_aldq, tk_aln, tk_unl, tk_una, tk_ter, tk_args, tk_cs, tk_cv, tk_ceq, tk_cne, tk_clt, tk_cge, tk_cgt, tk_cle, tk_zeq, tk_zne, tk_zlt, tk_zge, tk_zgt, tk_zle, tk_and, tk_or, tk_not, tk_ct2, tk_isC, List.headD_cons, tk_up, tk_sca, tk_scl, r0, r2, hi0, hi6, tk_al_2, tk_al_3, tk_al_4, tk_al_5, tk_al_6, tk_al_7, tk_al_8, tk_al_9, tk_al_10, tk_al_11, tk_al_13, tk_al_14, tk_al_16, tk_al_17, tk_al_19, tk_al_20, tk_al_22, tk_al_24, tk_al_25, tk_al_26, tk_al_27, tk_al_28, tk_al_29, tk_al_30, tk_al_32, tk_al_33, tk_al_34, tk_al_35, tk_al_36, tk_al_37, tk_al_38, tk_al_39, tk_al_40, tk_al_41, tk_al_43, tk_al_44, tk_al_46, tk_al_47, tk_al_49, tk_al_50, tk_al_52, tk_al_54, tk_al_55, tk_al_56, tk_al_57, tk_al_58, tk_al_59, tk_al_60, tk_al_62, tk_al_63, tk_al_64, tk_al_65, tk_al_66, tk_al_67, tk_al_68, tk_al_69, tk_al_70, tk_al_71, tk_al_73, tk_al_74, tk_al_76, tk_al_77, tk_al_79, tk_al_80, tk_al_81, tk_al_83, tk_al_85, tk_al_87, tk_al_89, tk_al_91, tk_al_93, tk_al_95, tk_al_97, tk_al_98, tk_al_99, tk_al_100, tk_al_101, tk_al_102, tk_al_103, tk_al_104, tk_al_105, tk_al_106, tk_al_107, tk_al_108, tk_al_109, tk_al_110, tk_al_111, tk_al_112, tk_al_113, tk_al_114, tk_al_115, tk_al_116, tk_al_117, tk_al_118, tk_al_119, tk_al_120, tk_al_121, tk_al_122, tk_al_123, tk_al_124, tk_al_125, tk_al_126, tk_al_127, tk_al_128, tk_al_129, i1]
    refine hK _ _ ⟨r0, r1, rfl, tk_f1_s hf (by omega), fun c h2 h3 => ?_⟩
    by_cases hc : c = i
    · subst hc; simp [tk_set]
    · simp [tk_set, hc]
      exact hz c h2 (by omega)
  · rintro ρ μ' ⟨r0, r1, r2, hf, hz⟩ X
    simp [tk_fn, tk_env, tk_sq, tk_sk, tk_if, tk_re, tk_rez, tk_rev, tk_xp, tk_se, tk_pf, tk_pfz, tk_pfo, tk_as, tk_asz, tk_asb, tk_aso, tk_cpy, tk_sw, tk_swc, tk_lit, tk_loc, tk_u1, tk_bin, tk_dv, tk_gf, tk_gr, tk_gn, tk_ald, tk_aldq, tk_aln, tk_unl, tk_una, tk_ter, tk_args, tk_cs, tk_cv, tk_ceq, tk_cne, tk_clt, tk_cge, tk_cgt, tk_cle, tk_zeq, tk_zne, tk_zlt, tk_zge, tk_zgt, tk_zle, tk_and, tk_or, tk_not, tk_ct2, tk_isC, List.headD_cons, tk_up, tk_sca, tk_scl, r0, r2]
    refine tk_for 6 (fun k ρ μ' => ρ 0 = 96 ∧ ρ 1 = w ∧ ρ 2 = k ∧ tk_f1 115 115 μ μ' ∧ ∀ c : Int, 0 ≤ c → c < 6 → tk_bs2 6 (μ' 115 c) ∧ (∀ d, tk_bit (μ' 115 c) d → tk_hg (tk_mv μ) w c d) ∧ (rk c ≤ k → ∀ d, tk_hg (tk_mv μ) w c d → tk_bit (μ' 115 c) d)) (by omega) ⟨r0, r1, rfl, hf, fun c h2 h3 => ?_⟩ ?_ ?_
    · rw [hz c h2 h3]
      refine ⟨tk_bs_0 6, fun d hd => absurd hd (tk_bit_z d), fun h4 d hd => ?_⟩
      have := tk_hg_rk hrk hd
      have := hr5 d
      omega
    · rintro k ρ μ' hk0 hk6 ⟨r0, r1, r2, hf, hz⟩ K hK
      have i1 : tk_iadd k 1 = k + 1 := tk_iadd_id (by omega) (by omega)
      simp [tk_fn, tk_env, tk_sq, tk_sk, tk_if, tk_re, tk_rez, tk_rev, tk_xp, tk_se, tk_pf, tk_pfz, tk_pfo, tk_as, tk_asz, tk_asb, tk_aso, tk_cpy, tk_sw, tk_swc, tk_lit, tk_loc, tk_u1, tk_bin, tk_dv, tk_gf, tk_gr, tk_gn, tk_ald, tk_aldq, tk_aln, tk_unl, tk_una, tk_ter, tk_args, tk_cs, tk_cv, tk_ceq, tk_cne, tk_clt, tk_cge, tk_cgt, tk_cle, tk_zeq, tk_zne, tk_zlt, tk_zge, tk_zgt, tk_zle, tk_and, tk_or, tk_not, tk_ct2, tk_isC, List.headD_cons, tk_up, tk_sca, tk_scl, r0, r2, hk6]
      refine tk_for (μ 96 1) (fun i ρ μ' => ρ 0 = 96 ∧ ρ 1 = w ∧ ρ 2 = k ∧ ρ 3 = i ∧ tk_f1 115 115 μ μ' ∧ ∀ c : Int, 0 ≤ c → c < 6 → tk_bs2 6 (μ' 115 c) ∧ (∀ d, tk_bit (μ' 115 c) d → tk_hg (tk_mv μ) w c d) ∧ (rk c ≤ k → ∀ d, tk_hg (tk_mv μ) w c d → tk_bit (μ' 115 c) d) ∧ (rk c ≤ k + 1 → ∀ t, t < i → tk_bk (tk_mv μ) w t c → tk_bit (μ' 115 c) (μ 97 t) ∧ ∀ d, tk_hg (tk_mv μ) w (μ 97 t) d → tk_bit (μ' 115 c) d)) g2.1 ⟨r0, r1, r2, rfl, hf, fun c h2 h3 => ⟨(hz c h2 h3).1, (hz c h2 h3).2.1, (hz c h2 h3).2.2, fun _ t ht hb => by have := hb.1; omega⟩⟩ ?_ ?_
      · rintro i ρ μ' hi0 hi6 ⟨r0, r1, r2, r3, hf, hz⟩ K hK
        have i1 : tk_iadd i 1 = i + 1 := tk_iadd_id (by omega) (by omega)
        have e96 : μ' 96 1 = μ 96 1 := hf _ _ (by omega)
        have e97 : μ' 97 i = μ 97 i := hf _ _ (by omega)
        have e99 : μ' 99 i = μ 99 i := hf _ _ (by omega)
        have hg := g i hi0 hi6
        have h24 : i < 24 := by omega
        by_cases hn : ¬ i = w ∧ 10 ≤ μ 99 i
        · have i2 : tk_isub (μ 99 i) 10 = μ 99 i - 10 := tk_isub_id (by omega) (by omega)
          have hb0 : 0 ≤ μ 99 i - 10 := by omega
          have hb6 : μ 99 i - 10 < 6 := by omega
          have hc0 : 0 ≤ μ 97 i := by omega
          have hc6 : μ 97 i < 6 := by omega
          simp [tk_fn, tk_env, tk_sq, tk_sk, tk_if, tk_re, tk_rez, tk_rev, tk_xp, tk_se, tk_pf, tk_pfz, tk_pfo, tk_as, tk_asz, tk_asb, tk_aso, tk_cpy, tk_sw, tk_swc, tk_lit, tk_loc, tk_u1, tk_bin, tk_dv, tk_gf, tk_gr, tk_gn, tk_ald, tk_aldq, tk_aln, tk_unl, tk_una, tk_ter, tk_args, tk_cs, tk_cv, tk_ceq, tk_cne, tk_clt, tk_cge, tk_cgt, tk_cle, tk_zeq, tk_zne, tk_zlt, tk_zge, tk_zgt, tk_zle, tk_and, tk_or, tk_not, tk_ct2, tk_isC, List.headD_cons, tk_up, tk_sca, tk_scl, r0, r1, r3, hi0, hi6, h24, tk_al_2, tk_al_3, tk_al_4, tk_al_5, tk_al_6, tk_al_7, tk_al_8, tk_al_9, tk_al_10, tk_al_11, tk_al_13, tk_al_14, tk_al_16, tk_al_17, tk_al_19, tk_al_20, tk_al_22, tk_al_24, tk_al_25, tk_al_26, tk_al_27, tk_al_28, tk_al_29, tk_al_30, tk_al_32, tk_al_33, tk_al_34, tk_al_35, tk_al_36, tk_al_37, tk_al_38, tk_al_39, tk_al_40, tk_al_41, tk_al_43, tk_al_44, tk_al_46, tk_al_47, tk_al_49, tk_al_50, tk_al_52, tk_al_54, tk_al_55, tk_al_56, tk_al_57, tk_al_58, tk_al_59, tk_al_60, tk_al_62, tk_al_63, tk_al_64, tk_al_65, tk_al_66, tk_al_67, tk_al_68, tk_al_69, tk_al_70, tk_al_71, tk_al_73, tk_al_74, tk_al_76, tk_al_77, tk_al_79, tk_al_80, tk_al_81, tk_al_83, tk_al_85, tk_al_87, tk_al_89, tk_al_91, tk_al_93, tk_al_95, tk_al_97, tk_al_98, tk_al_99, tk_al_100, tk_al_101, tk_al_102, tk_al_103, tk_al_104, tk_al_105, tk_al_106, tk_al_107, tk_al_108, tk_al_109, tk_al_110, tk_al_111, tk_al_112, tk_al_113, tk_al_114, tk_al_115, tk_al_116, tk_al_117, tk_al_118, tk_al_119, tk_al_120, tk_al_121, tk_al_122, tk_al_123, tk_al_124, tk_al_125, tk_al_126, tk_al_127, tk_al_128, tk_al_129, i1, e96, e97, e99, hn.1, hn.2, i2, hb6, hc0, hc6, -Int.sub_nonneg]
          refine ⟨hb0, ?_⟩
          have hbki : tk_bk (tk_mv μ) w i (μ 99 i - 10) := (hbk _ _).mpr ⟨⟨hi0, hi6⟩, hn.1, by omega, hb0⟩
          have hz1 := hz _ hb0 hb6
          have hz2 := hz _ hc0 hc6
          have hsh := tk_bs_sh (n := 6) (j := μ 97 i) ⟨hc0, by omega⟩ (by omega)
          have hor := tk_bs_or (by omega) hsh hz2.1
          have hbit : ∀ d, tk_bit (tk_ior (μ' 115 (μ 99 i - 10)) (tk_ior (tk_ishl 1 (μ 97 i)) (μ' 115 (μ 97 i)))) d ↔ tk_bit (μ' 115 (μ 99 i - 10)) d ∨ d = μ 97 i ∨ tk_bit (μ' 115 (μ 97 i)) d := fun d => by
            rw [tk_bit_or (n := 6) (by omega) hz1.1 hor, tk_bit_or (n := 6) (by omega) hsh hz2.1, tk_bit_sh (by omega)]
          refine hK _ _ ⟨r0, r1, r2, rfl, tk_f1_s hf (by omega), fun c h2 h3 => ?_⟩
          by_cases hc : c = μ 99 i - 10
          · subst hc
            rw [tk_set_eq]
            refine ⟨tk_bs_or (by omega) hz1.1 hor, fun d hd => ?_, fun h4 d hd => (hbit d).mpr (.inl (hz1.2.2.1 h4 d hd)), fun h4 t ht hb => ?_⟩
            · rcases (hbit d).mp hd with h5 | h5 | h5
              · exact hz1.2.1 d h5
              · subst h5; exact tk_hg_1 hbki
              · exact tk_hg_l hbki (hz2.2.1 d h5)
            · by_cases hti : t = i
              · subst hti
                refine ⟨(hbit _).mpr (.inr (.inl rfl)), fun d hd => (hbit d).mpr (.inr (.inr (hz2.2.2.1 ?_ d hd)))⟩
                have := hrk _ _ hb
                rw [hS1] at this
                omega
              · have h5 := hz1.2.2.2 h4 t (by omega) hb
                exact ⟨(hbit _).mpr (.inl h5.1), fun d hd => (hbit d).mpr (.inl (h5.2 d hd))⟩
          · rw [tk_set_j hc]
            have hz3 := hz c h2 h3
            refine ⟨hz3.1, hz3.2.1, hz3.2.2.1, fun h4 t ht hb => ?_⟩
            by_cases hti : t = i
            · subst hti
              have := ((hbk _ _).mp hb).2.2.1
              omega
            · exact hz3.2.2.2 h4 t (by omega) hb
        · have hn2 : i = w ∨ (¬ i = w ∧ ¬ 10 ≤ μ 99 i) := by omega
          have fin : ∀ ρ2 : tk_L, ρ2 0 = 96 → ρ2 1 = w → ρ2 2 = k → ρ2 3 = i + 1 → K ρ2 μ' := fun ρ2 q0 q1 q2 q3 => by
            refine hK _ _ ⟨q0, q1, q2, q3, hf, fun c h2 h3 => ?_⟩
            have hz3 := hz c h2 h3
            refine ⟨hz3.1, hz3.2.1, hz3.2.2.1, fun h4 t ht hb => ?_⟩
            by_cases hti : t = i
            · subst hti
              have := (hbk _ _).mp hb
              omega
            · exact hz3.2.2.2 h4 t (by omega) hb
          rcases hn2 with hn2 | ⟨hn2, hn3⟩
          · subst hn2
            simp [tk_fn, tk_env, tk_sq, tk_sk, tk_if, tk_re, tk_rez, tk_rev, tk_xp, tk_se, tk_pf, tk_pfz, tk_pfo, tk_as, tk_asz, tk_asb, tk_aso, tk_cpy, tk_sw, tk_swc, tk_lit, tk_loc, tk_u1, tk_bin, tk_dv, tk_gf, tk_gr, tk_gn, tk_ald, tk_aldq, tk_aln, tk_unl, tk_una, tk_ter, tk_args, tk_cs, tk_cv, tk_ceq, tk_cne, tk_clt, tk_cge, tk_cgt, tk_cle, tk_zeq, tk_zne, tk_zlt, tk_zge, tk_zgt, tk_zle, tk_and, tk_or, tk_not, tk_ct2, tk_isC, List.headD_cons, tk_up, tk_sca, tk_scl, r0, r1, r3, hi6, i1, e96]
            exact fin _ r0 r1 r2 rfl
          · simp [tk_fn, tk_env, tk_sq, tk_sk, tk_if, tk_re, tk_rez, tk_rev, tk_xp, tk_se, tk_pf, tk_pfz, tk_pfo, tk_as, tk_asz, tk_asb, tk_aso, tk_cpy, tk_sw, tk_swc, tk_lit, tk_loc, tk_u1, tk_bin, tk_dv, tk_gf, tk_gr, tk_gn, tk_ald, tk_aldq, tk_aln, tk_unl, tk_una, tk_ter, tk_args, tk_cs, tk_cv, tk_ceq, tk_cne, tk_clt, tk_cge, tk_cgt, tk_cle, tk_zeq, tk_zne, tk_zlt, tk_zge, tk_zgt, tk_zle, tk_and, tk_or, tk_not, tk_ct2, tk_isC, List.headD_cons, tk_up, tk_sca, tk_scl, r0, r1, r3, hi0, hi6, h24, tk_al_2, tk_al_3, tk_al_4, tk_al_5, tk_al_6, tk_al_7, tk_al_8, tk_al_9, tk_al_10, tk_al_11, tk_al_13, tk_al_14, tk_al_16, tk_al_17, tk_al_19, tk_al_20, tk_al_22, tk_al_24, tk_al_25, tk_al_26, tk_al_27, tk_al_28, tk_al_29, tk_al_30, tk_al_32, tk_al_33, tk_al_34, tk_al_35, tk_al_36, tk_al_37, tk_al_38, tk_al_39, tk_al_40, tk_al_41, tk_al_43, tk_al_44, tk_al_46, tk_al_47, tk_al_49, tk_al_50, tk_al_52, tk_al_54, tk_al_55, tk_al_56, tk_al_57, tk_al_58, tk_al_59, tk_al_60, tk_al_62, tk_al_63, tk_al_64, tk_al_65, tk_al_66, tk_al_67, tk_al_68, tk_al_69, tk_al_70, tk_al_71, tk_al_73, tk_al_74, tk_al_76, tk_al_77, tk_al_79, tk_al_80, tk_al_81, tk_al_83, tk_al_85, tk_al_87, tk_al_89, tk_al_91, tk_al_93, tk_al_95, tk_al_97, tk_al_98, tk_al_99, tk_al_100, tk_al_101, tk_al_102, tk_al_103, tk_al_104, tk_al_105, tk_al_106, tk_al_107, tk_al_108, tk_al_109, tk_al_110, tk_al_111, tk_al_112, tk_al_113, tk_al_114, tk_al_115, tk_al_116, tk_al_117, tk_al_118, tk_al_119, tk_al_120, tk_al_121, tk_al_122, tk_al_123, tk_al_124, tk_al_125, tk_al_126, tk_al_127, tk_al_128, tk_al_129, i1, e96, e99, hn2, hn3]
            exact fin _ r0 r1 r2 rfl
      · rintro ρ μ' ⟨r0, r1, r2, r3, hf, hz⟩ X
        have e96 : μ' 96 1 = μ 96 1 := hf _ _ (by omega)
        simp [tk_fn, tk_env, tk_sq, tk_sk, tk_if, tk_re, tk_rez, tk_rev, tk_xp, tk_se, tk_pf, tk_pfz, tk_pfo, tk_as, tk_asz, tk_asb, tk_aso, tk_cpy, tk_sw, tk_swc, tk_lit, tk_loc, tk_u1, tk_bin, tk_dv, tk_gf, tk_gr, tk_gn, tk_ald, tk_aldq, tk_aln, tk_unl, tk_una, tk_ter, tk_args, tk_cs, tk_cv, tk_ceq, tk_cne, tk_clt, tk_cge, tk_cgt, tk_cle, tk_zeq, tk_zne, tk_zlt, tk_zge, tk_zgt, tk_zle, tk_and, tk_or, tk_not, tk_ct2, tk_isC, List.headD_cons, tk_up, tk_sca, tk_scl, r0, r2, r3, e96, i1]
        refine hK _ _ ⟨r0, r1, rfl, hf, fun c h2 h3 => ?_⟩
        have hz3 := hz c h2 h3
        refine ⟨hz3.1, hz3.2.1, fun h4 d hd => ?_⟩
        obtain ⟨t, h5, h6⟩ := tk_hg_li hd
        have h7 := hz3.2.2.2 h4 t (by have := ((hbk _ _).mp h5).1; omega) h5
        rcases h6 with h6 | h6
        · rw [← h6]; exact h7.1
        · exact h7.2 d h6
    · rintro ρ μ' ⟨r0, r1, r2, hf, hz⟩ X
      simp [tk_fn, tk_env, tk_sq, tk_sk, tk_if, tk_re, tk_rez, tk_rev, tk_xp, tk_se, tk_pf, tk_pfz, tk_pfo, tk_as, tk_asz, tk_asb, tk_aso, tk_cpy, tk_sw, tk_swc, tk_lit, tk_loc, tk_u1, tk_bin, tk_dv, tk_gf, tk_gr, tk_gn, tk_ald, tk_aldq, tk_aln, tk_unl, tk_una, tk_ter, tk_args, tk_cs, tk_cv, tk_ceq, tk_cne, tk_clt, tk_cge, tk_cgt, tk_cle, tk_zeq, tk_zne, tk_zlt, tk_zge, tk_zgt, tk_zle, tk_and, tk_or, tk_not, tk_ct2, tk_isC, List.headD_cons, tk_up, tk_sca, tk_scl, r0, r2]
      exact hQ _ hf (fun c h2 h3 => ⟨(hz c h2 h3).1, fun d => ⟨(hz c h2 h3).2.1 d, (hz c h2 h3).2.2 (by have := hr5 c; omega) d⟩⟩)
theorem m_canBack_a {F : tk_F} (hF : ∀ (x k : Int) (μ : tk_M) (Q : Int → tk_M → Prop), (0 ≤ x ∧ x ≤ 2147483647) → (0 ≤ k ∧ k ≤ 30) → (tk_bit x k → Q 1 μ) → (¬ tk_bit x k → Q 0 μ) → F [x, k] Q μ) {μ : tk_M} {Q : Int → tk_M → Prop} {t c : Int} (h0 : tk_I0 (tk_mv μ)) (h1 : tk_I1 (tk_mv μ)) (h7 : tk_I7 (tk_mv μ)) (ht : 0 ≤ t ∧ t < 24) (ha : 0 ≤ μ 97 t ∧ μ 97 t < 6) (hc : 0 ≤ c ∧ c < 6) (hy : ∀ μ', tk_f1 115 115 μ μ' → (¬ c = 0 ∧ ¬ μ 97 t = c ∧ ¬ tk_hg (tk_mv μ) t (μ 97 t) c) → Q 1 μ') (hn : ∀ μ', tk_f1 115 115 μ μ' → ¬ (¬ c = 0 ∧ ¬ μ 97 t = c ∧ ¬ tk_hg (tk_mv μ) t (μ 97 t) c) → Q 0 μ') : tk_fn [2, 0, 0] (tk_sq (tk_xp (tk_cv 7 tkF_X7_layHangs [(tk_loc 0), (tk_loc 1)])) (tk_rez (tk_ter (tk_and (tk_and (tk_zgt (tk_loc 2)) (tk_cne (tk_ald 0 (tk_gr 7 (1) (tk_loc 0)) (tk_loc 1)) (tk_loc 2))) (tk_not (tk_zne (tk_cs F [(tk_ald 0 (tk_gr 7 (19) (tk_loc 0)) (tk_ald 0 (tk_gr 7 (1) (tk_loc 0)) (tk_loc 1))), (tk_loc 2)])))) (tk_lit 1) (tk_lit 0)))) [96, t, c] Q μ := by
  simp [tk_fn, tk_env, tk_sq, tk_sk, tk_if, tk_re, tk_rez, tk_rev, tk_xp, tk_se, tk_pf, tk_pfz, tk_pfo, tk_as, tk_asz, tk_asb, tk_aso, tk_cpy, tk_sw, tk_swc, tk_lit, tk_loc, tk_u1, tk_bin, tk_dv, tk_gf, tk_gr, tk_gn, tk_ald, tk_aldq, tk_aln, tk_unl, tk_una, tk_ter, tk_args, tk_cs, tk_cv, tk_ceq, tk_cne, tk_clt, tk_cge, tk_cgt, tk_cle, tk_zeq, tk_zne, tk_zlt, tk_zge, tk_zgt, tk_zle, tk_and, tk_or, tk_not, tk_ct2, tk_isC, List.headD_cons, tk_up, tk_sca, tk_scl]
  refine m_layHangs h0 h1 h7 (fun μ1 hf hH => ?_)
  have e97 : μ1 97 t = μ 97 t := hf _ _ (by omega)
  by_cases hc0 : c = 0
  · have h2 : ¬ 0 < c := by omega
    simp [h2]
    exact hn _ hf (fun z => z.1 hc0)
  · have h2 : 0 < c := by omega
    by_cases hac : μ 97 t = c
    · simp [h2, tk_al_2, tk_al_3, tk_al_4, tk_al_5, tk_al_6, tk_al_7, tk_al_8, tk_al_9, tk_al_10, tk_al_11, tk_al_13, tk_al_14, tk_al_16, tk_al_17, tk_al_19, tk_al_20, tk_al_22, tk_al_24, tk_al_25, tk_al_26, tk_al_27, tk_al_28, tk_al_29, tk_al_30, tk_al_32, tk_al_33, tk_al_34, tk_al_35, tk_al_36, tk_al_37, tk_al_38, tk_al_39, tk_al_40, tk_al_41, tk_al_43, tk_al_44, tk_al_46, tk_al_47, tk_al_49, tk_al_50, tk_al_52, tk_al_54, tk_al_55, tk_al_56, tk_al_57, tk_al_58, tk_al_59, tk_al_60, tk_al_62, tk_al_63, tk_al_64, tk_al_65, tk_al_66, tk_al_67, tk_al_68, tk_al_69, tk_al_70, tk_al_71, tk_al_73, tk_al_74, tk_al_76, tk_al_77, tk_al_79, tk_al_80, tk_al_81, tk_al_83, tk_al_85, tk_al_87, tk_al_89, tk_al_91, tk_al_93, tk_al_95, tk_al_97, tk_al_98, tk_al_99, tk_al_100, tk_al_101, tk_al_102, tk_al_103, tk_al_104, tk_al_105, tk_al_106, tk_al_107, tk_al_108, tk_al_109, tk_al_110, tk_al_111, tk_al_112, tk_al_113, tk_al_114, tk_al_115, tk_al_116, tk_al_117, tk_al_118, tk_al_119, tk_al_120, tk_al_121, tk_al_122, tk_al_123, tk_al_124, tk_al_125, tk_al_126, tk_al_127, tk_al_128, tk_al_129, ht.1, ht.2, e97, hac]
      exact hn _ hf (fun z => z.2.1 hac)
    · have hH2 := hH (μ 97 t) ha.1 ha.2
      simp [h2, tk_al_2, tk_al_3, tk_al_4, tk_al_5, tk_al_6, tk_al_7, tk_al_8, tk_al_9, tk_al_10, tk_al_11, tk_al_13, tk_al_14, tk_al_16, tk_al_17, tk_al_19, tk_al_20, tk_al_22, tk_al_24, tk_al_25, tk_al_26, tk_al_27, tk_al_28, tk_al_29, tk_al_30, tk_al_32, tk_al_33, tk_al_34, tk_al_35, tk_al_36, tk_al_37, tk_al_38, tk_al_39, tk_al_40, tk_al_41, tk_al_43, tk_al_44, tk_al_46, tk_al_47, tk_al_49, tk_al_50, tk_al_52, tk_al_54, tk_al_55, tk_al_56, tk_al_57, tk_al_58, tk_al_59, tk_al_60, tk_al_62, tk_al_63, tk_al_64, tk_al_65, tk_al_66, tk_al_67, tk_al_68, tk_al_69, tk_al_70, tk_al_71, tk_al_73, tk_al_74, tk_al_76, tk_al_77, tk_al_79, tk_al_80, tk_al_81, tk_al_83, tk_al_85, tk_al_87, tk_al_89, tk_al_91, tk_al_93, tk_al_95, tk_al_97, tk_al_98, tk_al_99, tk_al_100, tk_al_101, tk_al_102, tk_al_103, tk_al_104, tk_al_105, tk_al_106, tk_al_107, tk_al_108, tk_al_109, tk_al_110, tk_al_111, tk_al_112, tk_al_113, tk_al_114, tk_al_115, tk_al_116, tk_al_117, tk_al_118, tk_al_119, tk_al_120, tk_al_121, tk_al_122, tk_al_123, tk_al_124, tk_al_125, tk_al_126, tk_al_127, tk_al_128, tk_al_129, ht.1, ht.2, e97, hac, ha.1, ha.2]
      refine hF _ _ _ _ (tk_bs_r (by omega) hH2.1) (by omega) (fun hb => ?_) (fun hb => ?_)
      · simp
        exact hn _ hf (fun z => z.2.2 ((hH2.2 c).mp hb))
      · simp
        exact hy _ hf ⟨hc0, hac, fun z => hb ((hH2.2 c).mpr z)⟩
theorem m_canBack {μ : tk_M} {Q : Int → tk_M → Prop} {t c : Int} (h0 : tk_I0 (tk_mv μ)) (h1 : tk_I1 (tk_mv μ)) (h7 : tk_I7 (tk_mv μ)) (ht : 0 ≤ t ∧ t < 24) (ha : 0 ≤ μ 97 t ∧ μ 97 t < 6) (hc : 0 ≤ c ∧ c < 6) (hy : ∀ μ', tk_f1 115 115 μ μ' → (¬ c = 0 ∧ ¬ μ 97 t = c ∧ ¬ tk_hg (tk_mv μ) t (μ 97 t) c) → Q 1 μ') (hn : ∀ μ', tk_f1 115 115 μ μ' → ¬ (¬ c = 0 ∧ ¬ μ 97 t = c ∧ ¬ tk_hg (tk_mv μ) t (μ 97 t) c) → Q 0 μ') : tkF_X7_canBack [96, t, c] Q μ := m_canBack_a (fun _ _ _ _ hx hk h1 h0 => m_hasBit hx hk h1 h0) h0 h1 h7 ht ha hc hy hn
/-! the Halls -/
theorem x_hI1 {μ : tk_M} (h0 : tk_I0 (tk_hw 1 μ)) : (1 ≤ μ 1 0 ∧ μ 1 0 ≤ 6) ∧ (0 ≤ μ 1 1 ∧ μ 1 1 ≤ 24) ∧ (0 ≤ μ 1 2 ∧ μ 1 2 ≤ 8) ∧ (0 ≤ μ 1 3 ∧ μ 1 3 ≤ 999999) ∧ (0 ≤ μ 1 4 ∧ μ 1 4 ≤ μ 1 3) := h0
theorem x_hT1 {μ : tk_M} (h1 : tk_I1 (tk_hw 1 μ)) : ∀ t : Int, 0 ≤ t → t < μ 1 1 → (0 ≤ μ 2 t ∧ μ 2 t < μ 1 0) ∧ (1 ≤ μ 3 t ∧ μ 3 t ≤ 9999) ∧ (μ 4 t = -5 ∨ (0 ≤ μ 4 t ∧ μ 4 t < μ 1 2) ∨ (11 ≤ μ 4 t ∧ μ 4 t < 10 + μ 1 0)) := h1
theorem x_backersOf1 {μ : tk_M} {Q : Int → tk_M → Prop} {x w : Int} (h0 : tk_I0 (tk_hw 1 μ)) (h1 : tk_I1 (tk_hw 1 μ)) (hx : tk_bs2 6 x) (hQ : ∀ r, tk_bs2 6 r → (∀ d, tk_bit r d ↔ ∃ t y, tk_bk (tk_hw 1 μ) w t y ∧ tk_bit x y ∧ μ 2 t = d) → Q r μ) : tkF_X2_backersOf [1, x, w] Q μ := by
  obtain ⟨g1, g2, g3, -⟩ := x_hI1 h0
  have g := x_hT1 h1
  have hbk : ∀ t y, tk_bk (tk_hw 1 μ) w t y ↔ (0 ≤ t ∧ t < μ 1 1) ∧ ¬ t = w ∧ μ 4 t = 10 + y ∧ 0 ≤ y := fun t y => Iff.rfl
  have hxr := tk_bs_r (by omega) hx
  simp [tk_fn, tk_env, tk_sq, tk_sk, tk_if, tk_re, tk_rez, tk_rev, tk_xp, tk_se, tk_pf, tk_pfz, tk_pfo, tk_as, tk_asz, tk_asb, tk_aso, tk_cpy, tk_sw, tk_swc, tk_lit, tk_loc, tk_u1, tk_bin, tk_dv, tk_gf, tk_gr, tk_gn, tk_ald, tk_aldq, tk_aln, tk_unl, tk_una, tk_ter, tk_args, tk_cs, tk_cv, tk_ceq, tk_cne, tk_clt, tk_cge, tk_cgt, tk_cle, tk_zeq, tk_zne, tk_zlt, tk_zge, tk_zgt, tk_zle, tk_and, tk_or, tk_not, tk_ct2, tk_isC, List.headD_cons, tk_up, tk_sca, tk_scl, tkF_X2_backersOf, tkS_X2_backersOf]
  refine tk_for (μ 1 1) (fun i ρ μ' => μ' = μ ∧ ρ 0 = 1 ∧ ρ 1 = x ∧ ρ 2 = w ∧ ρ 4 = i ∧ tk_bs2 6 (ρ 3) ∧ ∀ d, tk_bit (ρ 3) d ↔ ∃ t y, t < i ∧ tk_bk (tk_hw 1 μ) w t y ∧ tk_bit x y ∧ μ 2 t = d) g2.1 ⟨rfl, rfl, rfl, rfl, rfl, tk_bs_0 6, fun d => ⟨fun z => absurd z (tk_bit_z d), fun ⟨t, y, z1, z2, _⟩ => by have := z2.1; omega⟩⟩ ?_ ?_
  · rintro i ρ μ' hi0 hi6 ⟨rfl, r0, r1, r2, r4, hs, hb⟩ K hK
    have i1 : tk_iadd i 1 = i + 1 := tk_iadd_id (by omega) (by omega)
    have hg := g i hi0 hi6
    have h24 : i < 24 := by omega
    have no : (∀ y, tk_bk (tk_hw 1 μ') w i y → ¬ tk_bit x y) → ∀ ρ2 : tk_L, ρ2 0 = 1 → ρ2 1 = x → ρ2 2 = w → ρ2 4 = i + 1 → ρ2 3 = ρ 3 → K ρ2 μ' := fun hno ρ2 q0 q1 q2 q4 q3 => by
      refine hK _ _ ⟨rfl, q0, q1, q2, q4, by rw [q3]; exact hs, fun d => ?_⟩
      rw [q3, hb]
      constructor
      · rintro ⟨t, y, z1, z2⟩; exact ⟨t, y, by omega, z2⟩
      · rintro ⟨t, y, z1, z2, z3, z4⟩
        by_cases hti : t = i
        · subst hti; exact absurd z3 (hno y z2)
        · exact ⟨t, y, by omega, z2, z3, z4⟩
    by_cases hiw : i = w
    · subst hiw
      simp [tk_fn, tk_env, tk_sq, tk_sk, tk_if, tk_re, tk_rez, tk_rev, tk_xp, tk_se, tk_pf, tk_pfz, tk_pfo, tk_as, tk_asz, tk_asb, tk_aso, tk_cpy, tk_sw, tk_swc, tk_lit, tk_loc, tk_u1, tk_bin, tk_dv, tk_gf, tk_gr, tk_gn, tk_ald, tk_aldq, tk_aln, tk_unl, tk_una, tk_ter, tk_args, tk_cs, tk_cv, tk_ceq, tk_cne, tk_clt, tk_cge, tk_cgt, tk_cle, tk_zeq, tk_zne, tk_zlt, tk_zge, tk_zgt, tk_zle, tk_and, tk_or, tk_not, tk_ct2, tk_isC, List.headD_cons, tk_up, tk_sca, tk_scl, r0, r1, r2, r4, hi6, i1]
      exact no (fun y hy => absurd rfl ((hbk _ _).mp hy).2.1) _ r0 r1 r2 rfl rfl
    · by_cases hn : 10 ≤ μ' 4 i
      · have i2 : tk_isub (μ' 4 i) 10 = μ' 4 i - 10 := tk_isub_id (by omega) (by omega)
        have hb2 := tk_bit_0 hxr (k := μ' 4 i - 10) (by omega)
        by_cases hbt : tk_bit x (μ' 4 i - 10)
        · have h3 : ¬ tk_iand (tk_ishr x (μ' 4 i - 10)) 1 = 0 := by rw [hb2]; exact fun z => z hbt
          simp [tk_fn, tk_env, tk_sq, tk_sk, tk_if, tk_re, tk_rez, tk_rev, tk_xp, tk_se, tk_pf, tk_pfz, tk_pfo, tk_as, tk_asz, tk_asb, tk_aso, tk_cpy, tk_sw, tk_swc, tk_lit, tk_loc, tk_u1, tk_bin, tk_dv, tk_gf, tk_gr, tk_gn, tk_ald, tk_aldq, tk_aln, tk_unl, tk_una, tk_ter, tk_args, tk_cs, tk_cv, tk_ceq, tk_cne, tk_clt, tk_cge, tk_cgt, tk_cle, tk_zeq, tk_zne, tk_zlt, tk_zge, tk_zgt, tk_zle, tk_and, tk_or, tk_not, tk_ct2, tk_isC, List.headD_cons, tk_up, tk_sca, tk_scl, r0, r1, r2, r4, hi0, hi6, h24, tk_al_2, tk_al_3, tk_al_4, tk_al_5, tk_al_6, tk_al_7, tk_al_8, tk_al_9, tk_al_10, tk_al_11, tk_al_13, tk_al_14, tk_al_16, tk_al_17, tk_al_19, tk_al_20, tk_al_22, tk_al_24, tk_al_25, tk_al_26, tk_al_27, tk_al_28, tk_al_29, tk_al_30, tk_al_32, tk_al_33, tk_al_34, tk_al_35, tk_al_36, tk_al_37, tk_al_38, tk_al_39, tk_al_40, tk_al_41, tk_al_43, tk_al_44, tk_al_46, tk_al_47, tk_al_49, tk_al_50, tk_al_52, tk_al_54, tk_al_55, tk_al_56, tk_al_57, tk_al_58, tk_al_59, tk_al_60, tk_al_62, tk_al_63, tk_al_64, tk_al_65, tk_al_66, tk_al_67, tk_al_68, tk_al_69, tk_al_70, tk_al_71, tk_al_73, tk_al_74, tk_al_76, tk_al_77, tk_al_79, tk_al_80, tk_al_81, tk_al_83, tk_al_85, tk_al_87, tk_al_89, tk_al_91, tk_al_93, tk_al_95, tk_al_97, tk_al_98, tk_al_99, tk_al_100, tk_al_101, tk_al_102, tk_al_103, tk_al_104, tk_al_105, tk_al_106, tk_al_107, tk_al_108, tk_al_109, tk_al_110, tk_al_111, tk_al_112, tk_al_113, tk_al_114, tk_al_115, tk_al_116, tk_al_117, tk_al_118, tk_al_119, tk_al_120, tk_al_121, tk_al_122, tk_al_123, tk_al_124, tk_al_125, tk_al_126, tk_al_127, tk_al_128, tk_al_129, i1, hiw, hn, i2, h3]
          have hsh := tk_bs_sh (n := 6) (j := μ' 2 i) ⟨hg.1.1, by omega⟩ (by omega)
          refine hK _ _ ⟨rfl, r0, r1, r2, rfl, tk_bs_or (by omega) hs hsh, fun d => ?_⟩
          show tk_bit (tk_ior (ρ 3) (tk_ishl 1 (μ' 2 i))) d ↔ _
          rw [tk_bit_or (n := 6) (by omega) hs hsh, tk_bit_sh (by omega), hb]
          constructor
          · rintro (⟨t, y, z1, z2⟩ | z)
            · exact ⟨t, y, by omega, z2⟩
            · exact ⟨i, μ' 4 i - 10, by omega, (hbk _ _).mpr ⟨⟨hi0, hi6⟩, hiw, by omega, by omega⟩, hbt, z.symm⟩
          · rintro ⟨t, y, z1, z2, z3, z4⟩
            by_cases hti : t = i
            · subst hti; exact .inr z4.symm
            · exact .inl ⟨t, y, by omega, z2, z3, z4⟩
        · have h3 : tk_iand (tk_ishr x (μ' 4 i - 10)) 1 = 0 := by rw [hb2]; exact hbt
          simp [tk_fn, tk_env, tk_sq, tk_sk, tk_if, tk_re, tk_rez, tk_rev, tk_xp, tk_se, tk_pf, tk_pfz, tk_pfo, tk_as, tk_asz, tk_asb, tk_aso, tk_cpy, tk_sw, tk_swc, tk_lit, tk_loc, tk_u1, tk_bin, tk_dv, tk_gf, tk_gr, tk_gn, tk_ald, tk_aldq, tk_aln, tk_unl, tk_una, tk_ter, tk_args, tk_cs, tk_cv, tk_ceq, tk_cne, tk_clt, tk_cge, tk_cgt, tk_cle, tk_zeq, tk_zne, tk_zlt, tk_zge, tk_zgt, tk_zle, tk_and, tk_or, tk_not, tk_ct2, tk_isC, List.headD_cons, tk_up, tk_sca, tk_scl, r0, r1, r2, r4, hi0, hi6, h24, tk_al_2, tk_al_3, tk_al_4, tk_al_5, tk_al_6, tk_al_7, tk_al_8, tk_al_9, tk_al_10, tk_al_11, tk_al_13, tk_al_14, tk_al_16, tk_al_17, tk_al_19, tk_al_20, tk_al_22, tk_al_24, tk_al_25, tk_al_26, tk_al_27, tk_al_28, tk_al_29, tk_al_30, tk_al_32, tk_al_33, tk_al_34, tk_al_35, tk_al_36, tk_al_37, tk_al_38, tk_al_39, tk_al_40, tk_al_41, tk_al_43, tk_al_44, tk_al_46, tk_al_47, tk_al_49, tk_al_50, tk_al_52, tk_al_54, tk_al_55, tk_al_56, tk_al_57, tk_al_58, tk_al_59, tk_al_60, tk_al_62, tk_al_63, tk_al_64, tk_al_65, tk_al_66, tk_al_67, tk_al_68, tk_al_69, tk_al_70, tk_al_71, tk_al_73, tk_al_74, tk_al_76, tk_al_77, tk_al_79, tk_al_80, tk_al_81, tk_al_83, tk_al_85, tk_al_87, tk_al_89, tk_al_91, tk_al_93, tk_al_95, tk_al_97, tk_al_98, tk_al_99, tk_al_100, tk_al_101, tk_al_102, tk_al_103, tk_al_104, tk_al_105, tk_al_106, tk_al_107, tk_al_108, tk_al_109, tk_al_110, tk_al_111, tk_al_112, tk_al_113, tk_al_114, tk_al_115, tk_al_116, tk_al_117, tk_al_118, tk_al_119, tk_al_120, tk_al_121, tk_al_122, tk_al_123, tk_al_124, tk_al_125, tk_al_126, tk_al_127, tk_al_128, tk_al_129, i1, hiw, hn, i2, h3]
          refine no (fun y hy => ?_) _ r0 r1 r2 rfl rfl
          have := ((hbk _ _).mp hy).2.2.1
          rwa [show y = μ' 4 i - 10 by omega]
      · simp [tk_fn, tk_env, tk_sq, tk_sk, tk_if, tk_re, tk_rez, tk_rev, tk_xp, tk_se, tk_pf, tk_pfz, tk_pfo, tk_as, tk_asz, tk_asb, tk_aso, tk_cpy, tk_sw, tk_swc, tk_lit, tk_loc, tk_u1, tk_bin, tk_dv, tk_gf, tk_gr, tk_gn, tk_ald, tk_aldq, tk_aln, tk_unl, tk_una, tk_ter, tk_args, tk_cs, tk_cv, tk_ceq, tk_cne, tk_clt, tk_cge, tk_cgt, tk_cle, tk_zeq, tk_zne, tk_zlt, tk_zge, tk_zgt, tk_zle, tk_and, tk_or, tk_not, tk_ct2, tk_isC, List.headD_cons, tk_up, tk_sca, tk_scl, r0, r1, r2, r4, hi0, hi6, h24, tk_al_2, tk_al_3, tk_al_4, tk_al_5, tk_al_6, tk_al_7, tk_al_8, tk_al_9, tk_al_10, tk_al_11, tk_al_13, tk_al_14, tk_al_16, tk_al_17, tk_al_19, tk_al_20, tk_al_22, tk_al_24, tk_al_25, tk_al_26, tk_al_27, tk_al_28, tk_al_29, tk_al_30, tk_al_32, tk_al_33, tk_al_34, tk_al_35, tk_al_36, tk_al_37, tk_al_38, tk_al_39, tk_al_40, tk_al_41, tk_al_43, tk_al_44, tk_al_46, tk_al_47, tk_al_49, tk_al_50, tk_al_52, tk_al_54, tk_al_55, tk_al_56, tk_al_57, tk_al_58, tk_al_59, tk_al_60, tk_al_62, tk_al_63, tk_al_64, tk_al_65, tk_al_66, tk_al_67, tk_al_68, tk_al_69, tk_al_70, tk_al_71, tk_al_73, tk_al_74, tk_al_76, tk_al_77, tk_al_79, tk_al_80, tk_al_81, tk_al_83, tk_al_85, tk_al_87, tk_al_89, tk_al_91, tk_al_93, tk_al_95, tk_al_97, tk_al_98, tk_al_99, tk_al_100, tk_al_101, tk_al_102, tk_al_103, tk_al_104, tk_al_105, tk_al_106, tk_al_107, tk_al_108, tk_al_109, tk_al_110, tk_al_111, tk_al_112, tk_al_113, tk_al_114, tk_al_115, tk_al_116, tk_al_117, tk_al_118, tk_al_119, tk_al_120, tk_al_121, tk_al_122, tk_al_123, tk_al_124, tk_al_125, tk_al_126, tk_al_127, tk_al_128, tk_al_129, i1, hiw, hn]
        refine no (fun y hy => ?_) _ r0 r1 r2 rfl rfl
        have := ((hbk _ _).mp hy).2.2
        omega
  · rintro ρ μ' ⟨rfl, r0, r1, r2, r4, hs, hb⟩ X
    simp [tk_fn, tk_env, tk_sq, tk_sk, tk_if, tk_re, tk_rez, tk_rev, tk_xp, tk_se, tk_pf, tk_pfz, tk_pfo, tk_as, tk_asz, tk_asb, tk_aso, tk_cpy, tk_sw, tk_swc, tk_lit, tk_loc, tk_u1, tk_bin, tk_dv, tk_gf, tk_gr, tk_gn, tk_ald, tk_aldq, tk_aln, tk_unl, tk_una, tk_ter, tk_args, tk_cs, tk_cv, tk_ceq, tk_cne, tk_clt, tk_cge, tk_cgt, tk_cle, tk_zeq, tk_zne, tk_zlt, tk_zge, tk_zgt, tk_zle, tk_and, tk_or, tk_not, tk_ct2, tk_isC, List.headD_cons, tk_up, tk_sca, tk_scl, r0, r4]
    refine hQ _ hs (fun d => ?_)
    rw [hb]
    constructor
    · rintro ⟨t, y, z1, z2⟩; exact ⟨t, y, z2⟩
    · rintro ⟨t, y, z2⟩; exact ⟨t, y, ((hbk _ _).mp z2.1).1.2, z2⟩
theorem x_hangsOn1 {μ : tk_M} {Q : Int → tk_M → Prop} {c w : Int} (h0 : tk_I0 (tk_hw 1 μ)) (h1 : tk_I1 (tk_hw 1 μ)) (h7 : tk_I7 (tk_hw 1 μ)) (hc : 0 ≤ c ∧ c < 6) (hQ : ∀ r, tk_bs2 6 r → (∀ d, tk_bit r d ↔ tk_hg (tk_hw 1 μ) w c d) → Q r μ) : tkF_X2_hangsOn [1, c, w] Q μ := by
  obtain ⟨rk, hr5, hrk⟩ := tk_I7_bk h7 w
  have hS1 : ∀ t, tk_hw 1 μ 1 t = μ 2 t := fun _ => rfl
  have hsh := tk_bs_sh (n := 6) (j := c) ⟨hc.1, by omega⟩ (by omega)
  simp [tk_fn, tk_env, tk_sq, tk_sk, tk_if, tk_re, tk_rez, tk_rev, tk_xp, tk_se, tk_pf, tk_pfz, tk_pfo, tk_as, tk_asz, tk_asb, tk_aso, tk_cpy, tk_sw, tk_swc, tk_lit, tk_loc, tk_u1, tk_bin, tk_dv, tk_gf, tk_gr, tk_gn, tk_ald, tk_aldq, tk_aln, tk_unl, tk_una, tk_ter, tk_args, tk_cs, tk_cv, tk_ceq, tk_cne, tk_clt, tk_cge, tk_cgt, tk_cle, tk_zeq, tk_zne, tk_zlt, tk_zge, tk_zgt, tk_zle, tk_and, tk_or, tk_not, tk_ct2, tk_isC, List.headD_cons, tk_up, tk_sca, tk_scl, tkF_X2_hangsOn, tkS_X2_hangsOn]
  refine x_backersOf1 h0 h1 hsh (fun r hr hrb => ?_)
  refine tk_for 6 (fun k ρ μ' => μ' = μ ∧ ρ 0 = 1 ∧ ρ 2 = w ∧ ρ 4 = k ∧ tk_bs2 6 (ρ 3) ∧ (∀ d, tk_bit (ρ 3) d → tk_hg (tk_hw 1 μ) w c d) ∧ (∀ d, tk_hg (tk_hw 1 μ) w c d → rk c ≤ rk d + k + 1 → tk_bit (ρ 3) d) ∧ (∀ t, tk_bk (tk_hw 1 μ) w t c → tk_bit (ρ 3) (μ 2 t))) (by omega) ⟨rfl, rfl, rfl, rfl, hr, fun d hd => ?_, fun d hd hk => ?_, fun t ht => (hrb _).mpr ⟨t, c, ht, (tk_bit_sh (by omega)).mpr rfl, rfl⟩⟩ ?_ ?_
  · obtain ⟨t, y, z1, z2, z3⟩ := (hrb d).mp hd
    rw [tk_bit_sh (by omega)] at z2
    subst z2
    rw [← z3]
    exact tk_hg_1 z1
  · refine (hrb d).mpr ?_
    rcases tk_hg_ri hd with ⟨t, z1, z2⟩ | ⟨y, t, z1, z2, z3⟩
    · exact ⟨t, c, z1, (tk_bit_sh (by omega)).mpr rfl, z2⟩
    · have := tk_hg_rk hrk z1
      have h3 := hrk _ _ z2
      rw [z3] at h3
      omega
  · rintro k ρ μ' hk0 hk6 ⟨rfl, r0, r2, r4, hs, hb1, hb2, hb3⟩ K hK
    have i1 : tk_iadd k 1 = k + 1 := tk_iadd_id (by omega) (by omega)
    simp [tk_fn, tk_env, tk_sq, tk_sk, tk_if, tk_re, tk_rez, tk_rev, tk_xp, tk_se, tk_pf, tk_pfz, tk_pfo, tk_as, tk_asz, tk_asb, tk_aso, tk_cpy, tk_sw, tk_swc, tk_lit, tk_loc, tk_u1, tk_bin, tk_dv, tk_gf, tk_gr, tk_gn, tk_ald, tk_aldq, tk_aln, tk_unl, tk_una, tk_ter, tk_args, tk_cs, tk_cv, tk_ceq, tk_cne, tk_clt, tk_cge, tk_cgt, tk_cle, tk_zeq, tk_zne, tk_zlt, tk_zge, tk_zgt, tk_zle, tk_and, tk_or, tk_not, tk_ct2, tk_isC, List.headD_cons, tk_up, tk_sca, tk_scl, r0, r2, r4, hk6, i1]
    refine x_backersOf1 h0 h1 hs (fun r hr hrb => ?_)
    refine hK _ _ ⟨rfl, r0, r2, rfl, tk_bs_or (by omega) hs hr, fun d hd => ?_, fun d hd hk => ?_, fun t ht => (tk_bit_or (n := 6) (by omega) hs hr).mpr (.inl (hb3 t ht))⟩
    · rcases (tk_bit_or (n := 6) (by omega) hs hr).mp hd with h | h
      · exact hb1 d h
      · obtain ⟨t, y, z1, z2, z3⟩ := (hrb d).mp h
        rw [← z3]
        exact tk_hg_r (hb1 y z2) z1
    · refine (tk_bit_or (n := 6) (by omega) hs hr).mpr ?_
      rcases tk_hg_ri hd with ⟨t, z1, z2⟩ | ⟨y, t, z1, z2, z3⟩
      · rw [← z2]
        exact .inl (hb3 t z1)
      · refine .inr ((hrb d).mpr ⟨t, y, z2, hb2 y z1 ?_, z3⟩)
        have h3 := hrk _ _ z2
        rw [z3] at h3
        omega
  · rintro ρ μ' ⟨rfl, r0, r2, r4, hs, hb1, hb2, hb3⟩ X
    simp [tk_fn, tk_env, tk_sq, tk_sk, tk_if, tk_re, tk_rez, tk_rev, tk_xp, tk_se, tk_pf, tk_pfz, tk_pfo, tk_as, tk_asz, tk_asb, tk_aso, tk_cpy, tk_sw, tk_swc, tk_lit, tk_loc, tk_u1, tk_bin, tk_dv, tk_gf, tk_gr, tk_gn, tk_ald, tk_aldq, tk_aln, tk_unl, tk_una, tk_ter, tk_args, tk_cs, tk_cv, tk_ceq, tk_cne, tk_clt, tk_cge, tk_cgt, tk_cle, tk_zeq, tk_zne, tk_zlt, tk_zge, tk_zgt, tk_zle, tk_and, tk_or, tk_not, tk_ct2, tk_isC, List.headD_cons, tk_up, tk_sca, tk_scl, r0, r4]
    refine hQ _ hs (fun d => ⟨hb1 d, fun hd => hb2 d hd ?_⟩)
    have := hr5 c
    have := hr5 d
    omega
theorem x_hI31 {μ : tk_M} (h0 : tk_I0 (tk_hw 31 μ)) : (1 ≤ μ 31 0 ∧ μ 31 0 ≤ 6) ∧ (0 ≤ μ 31 1 ∧ μ 31 1 ≤ 24) ∧ (0 ≤ μ 31 2 ∧ μ 31 2 ≤ 8) ∧ (0 ≤ μ 31 3 ∧ μ 31 3 ≤ 999999) ∧ (0 ≤ μ 31 4 ∧ μ 31 4 ≤ μ 31 3) := h0
theorem x_hT31 {μ : tk_M} (h1 : tk_I1 (tk_hw 31 μ)) : ∀ t : Int, 0 ≤ t → t < μ 31 1 → (0 ≤ μ 32 t ∧ μ 32 t < μ 31 0) ∧ (1 ≤ μ 33 t ∧ μ 33 t ≤ 9999) ∧ (μ 34 t = -5 ∨ (0 ≤ μ 34 t ∧ μ 34 t < μ 31 2) ∨ (11 ≤ μ 34 t ∧ μ 34 t < 10 + μ 31 0)) := h1
theorem x_backersOf31 {μ : tk_M} {Q : Int → tk_M → Prop} {x w : Int} (h0 : tk_I0 (tk_hw 31 μ)) (h1 : tk_I1 (tk_hw 31 μ)) (hx : tk_bs2 6 x) (hQ : ∀ r, tk_bs2 6 r → (∀ d, tk_bit r d ↔ ∃ t y, tk_bk (tk_hw 31 μ) w t y ∧ tk_bit x y ∧ μ 32 t = d) → Q r μ) : tkF_X2_backersOf [31, x, w] Q μ := by
  obtain ⟨g1, g2, g3, -⟩ := x_hI31 h0
  have g := x_hT31 h1
  have hbk : ∀ t y, tk_bk (tk_hw 31 μ) w t y ↔ (0 ≤ t ∧ t < μ 31 1) ∧ ¬ t = w ∧ μ 34 t = 10 + y ∧ 0 ≤ y := fun t y => Iff.rfl
  have hxr := tk_bs_r (by omega) hx
  simp [tk_fn, tk_env, tk_sq, tk_sk, tk_if, tk_re, tk_rez, tk_rev, tk_xp, tk_se, tk_pf, tk_pfz, tk_pfo, tk_as, tk_asz, tk_asb, tk_aso, tk_cpy, tk_sw, tk_swc, tk_lit, tk_loc, tk_u1, tk_bin, tk_dv, tk_gf, tk_gr, tk_gn, tk_ald, tk_aldq, tk_aln, tk_unl, tk_una, tk_ter, tk_args, tk_cs, tk_cv, tk_ceq, tk_cne, tk_clt, tk_cge, tk_cgt, tk_cle, tk_zeq, tk_zne, tk_zlt, tk_zge, tk_zgt, tk_zle, tk_and, tk_or, tk_not, tk_ct2, tk_isC, List.headD_cons, tk_up, tk_sca, tk_scl, tkF_X2_backersOf, tkS_X2_backersOf]
  refine tk_for (μ 31 1) (fun i ρ μ' => μ' = μ ∧ ρ 0 = 31 ∧ ρ 1 = x ∧ ρ 2 = w ∧ ρ 4 = i ∧ tk_bs2 6 (ρ 3) ∧ ∀ d, tk_bit (ρ 3) d ↔ ∃ t y, t < i ∧ tk_bk (tk_hw 31 μ) w t y ∧ tk_bit x y ∧ μ 32 t = d) g2.1 ⟨rfl, rfl, rfl, rfl, rfl, tk_bs_0 6, fun d => ⟨fun z => absurd z (tk_bit_z d), fun ⟨t, y, z1, z2, _⟩ => by have := z2.1; omega⟩⟩ ?_ ?_
  · rintro i ρ μ' hi0 hi6 ⟨rfl, r0, r1, r2, r4, hs, hb⟩ K hK
    have i1 : tk_iadd i 1 = i + 1 := tk_iadd_id (by omega) (by omega)
    have hg := g i hi0 hi6
    have h24 : i < 24 := by omega
    have no : (∀ y, tk_bk (tk_hw 31 μ') w i y → ¬ tk_bit x y) → ∀ ρ2 : tk_L, ρ2 0 = 31 → ρ2 1 = x → ρ2 2 = w → ρ2 4 = i + 1 → ρ2 3 = ρ 3 → K ρ2 μ' := fun hno ρ2 q0 q1 q2 q4 q3 => by
      refine hK _ _ ⟨rfl, q0, q1, q2, q4, by rw [q3]; exact hs, fun d => ?_⟩
      rw [q3, hb]
      constructor
      · rintro ⟨t, y, z1, z2⟩; exact ⟨t, y, by omega, z2⟩
      · rintro ⟨t, y, z1, z2, z3, z4⟩
        by_cases hti : t = i
        · subst hti; exact absurd z3 (hno y z2)
        · exact ⟨t, y, by omega, z2, z3, z4⟩
    by_cases hiw : i = w
    · subst hiw
      simp [tk_fn, tk_env, tk_sq, tk_sk, tk_if, tk_re, tk_rez, tk_rev, tk_xp, tk_se, tk_pf, tk_pfz, tk_pfo, tk_as, tk_asz, tk_asb, tk_aso, tk_cpy, tk_sw, tk_swc, tk_lit, tk_loc, tk_u1, tk_bin, tk_dv, tk_gf, tk_gr, tk_gn, tk_ald, tk_aldq, tk_aln, tk_unl, tk_una, tk_ter, tk_args, tk_cs, tk_cv, tk_ceq, tk_cne, tk_clt, tk_cge, tk_cgt, tk_cle, tk_zeq, tk_zne, tk_zlt, tk_zge, tk_zgt, tk_zle, tk_and, tk_or, tk_not, tk_ct2, tk_isC, List.headD_cons, tk_up, tk_sca, tk_scl, r0, r1, r2, r4, hi6, i1]
      exact no (fun y hy => absurd rfl ((hbk _ _).mp hy).2.1) _ r0 r1 r2 rfl rfl
    · by_cases hn : 10 ≤ μ' 34 i
      · have i2 : tk_isub (μ' 34 i) 10 = μ' 34 i - 10 := tk_isub_id (by omega) (by omega)
        have hb2 := tk_bit_0 hxr (k := μ' 34 i - 10) (by omega)
        by_cases hbt : tk_bit x (μ' 34 i - 10)
        · have h3 : ¬ tk_iand (tk_ishr x (μ' 34 i - 10)) 1 = 0 := by rw [hb2]; exact fun z => z hbt
          simp [tk_fn, tk_env, tk_sq, tk_sk, tk_if, tk_re, tk_rez, tk_rev, tk_xp, tk_se, tk_pf, tk_pfz, tk_pfo, tk_as, tk_asz, tk_asb, tk_aso, tk_cpy, tk_sw, tk_swc, tk_lit, tk_loc, tk_u1, tk_bin, tk_dv, tk_gf, tk_gr, tk_gn, tk_ald, tk_aldq, tk_aln, tk_unl, tk_una, tk_ter, tk_args, tk_cs, tk_cv, tk_ceq, tk_cne, tk_clt, tk_cge, tk_cgt, tk_cle, tk_zeq, tk_zne, tk_zlt, tk_zge, tk_zgt, tk_zle, tk_and, tk_or, tk_not, tk_ct2, tk_isC, List.headD_cons, tk_up, tk_sca, tk_scl, r0, r1, r2, r4, hi0, hi6, h24, tk_al_2, tk_al_3, tk_al_4, tk_al_5, tk_al_6, tk_al_7, tk_al_8, tk_al_9, tk_al_10, tk_al_11, tk_al_13, tk_al_14, tk_al_16, tk_al_17, tk_al_19, tk_al_20, tk_al_22, tk_al_24, tk_al_25, tk_al_26, tk_al_27, tk_al_28, tk_al_29, tk_al_30, tk_al_32, tk_al_33, tk_al_34, tk_al_35, tk_al_36, tk_al_37, tk_al_38, tk_al_39, tk_al_40, tk_al_41, tk_al_43, tk_al_44, tk_al_46, tk_al_47, tk_al_49, tk_al_50, tk_al_52, tk_al_54, tk_al_55, tk_al_56, tk_al_57, tk_al_58, tk_al_59, tk_al_60, tk_al_62, tk_al_63, tk_al_64, tk_al_65, tk_al_66, tk_al_67, tk_al_68, tk_al_69, tk_al_70, tk_al_71, tk_al_73, tk_al_74, tk_al_76, tk_al_77, tk_al_79, tk_al_80, tk_al_81, tk_al_83, tk_al_85, tk_al_87, tk_al_89, tk_al_91, tk_al_93, tk_al_95, tk_al_97, tk_al_98, tk_al_99, tk_al_100, tk_al_101, tk_al_102, tk_al_103, tk_al_104, tk_al_105, tk_al_106, tk_al_107, tk_al_108, tk_al_109, tk_al_110, tk_al_111, tk_al_112, tk_al_113, tk_al_114, tk_al_115, tk_al_116, tk_al_117, tk_al_118, tk_al_119, tk_al_120, tk_al_121, tk_al_122, tk_al_123, tk_al_124, tk_al_125, tk_al_126, tk_al_127, tk_al_128, tk_al_129, i1, hiw, hn, i2, h3]
          have hsh := tk_bs_sh (n := 6) (j := μ' 32 i) ⟨hg.1.1, by omega⟩ (by omega)
          refine hK _ _ ⟨rfl, r0, r1, r2, rfl, tk_bs_or (by omega) hs hsh, fun d => ?_⟩
          show tk_bit (tk_ior (ρ 3) (tk_ishl 1 (μ' 32 i))) d ↔ _
          rw [tk_bit_or (n := 6) (by omega) hs hsh, tk_bit_sh (by omega), hb]
          constructor
          · rintro (⟨t, y, z1, z2⟩ | z)
            · exact ⟨t, y, by omega, z2⟩
            · exact ⟨i, μ' 34 i - 10, by omega, (hbk _ _).mpr ⟨⟨hi0, hi6⟩, hiw, by omega, by omega⟩, hbt, z.symm⟩
          · rintro ⟨t, y, z1, z2, z3, z4⟩
            by_cases hti : t = i
            · subst hti; exact .inr z4.symm
            · exact .inl ⟨t, y, by omega, z2, z3, z4⟩
        · have h3 : tk_iand (tk_ishr x (μ' 34 i - 10)) 1 = 0 := by rw [hb2]; exact hbt
          simp [tk_fn, tk_env, tk_sq, tk_sk, tk_if, tk_re, tk_rez, tk_rev, tk_xp, tk_se, tk_pf, tk_pfz, tk_pfo, tk_as, tk_asz, tk_asb, tk_aso, tk_cpy, tk_sw, tk_swc, tk_lit, tk_loc, tk_u1, tk_bin, tk_dv, tk_gf, tk_gr, tk_gn, tk_ald, tk_aldq, tk_aln, tk_unl, tk_una, tk_ter, tk_args, tk_cs, tk_cv, tk_ceq, tk_cne, tk_clt, tk_cge, tk_cgt, tk_cle, tk_zeq, tk_zne, tk_zlt, tk_zge, tk_zgt, tk_zle, tk_and, tk_or, tk_not, tk_ct2, tk_isC, List.headD_cons, tk_up, tk_sca, tk_scl, r0, r1, r2, r4, hi0, hi6, h24, tk_al_2, tk_al_3, tk_al_4, tk_al_5, tk_al_6, tk_al_7, tk_al_8, tk_al_9, tk_al_10, tk_al_11, tk_al_13, tk_al_14, tk_al_16, tk_al_17, tk_al_19, tk_al_20, tk_al_22, tk_al_24, tk_al_25, tk_al_26, tk_al_27, tk_al_28, tk_al_29, tk_al_30, tk_al_32, tk_al_33, tk_al_34, tk_al_35, tk_al_36, tk_al_37, tk_al_38, tk_al_39, tk_al_40, tk_al_41, tk_al_43, tk_al_44, tk_al_46, tk_al_47, tk_al_49, tk_al_50, tk_al_52, tk_al_54, tk_al_55, tk_al_56, tk_al_57, tk_al_58, tk_al_59, tk_al_60, tk_al_62, tk_al_63, tk_al_64, tk_al_65, tk_al_66, tk_al_67, tk_al_68, tk_al_69, tk_al_70, tk_al_71, tk_al_73, tk_al_74, tk_al_76, tk_al_77, tk_al_79, tk_al_80, tk_al_81, tk_al_83, tk_al_85, tk_al_87, tk_al_89, tk_al_91, tk_al_93, tk_al_95, tk_al_97, tk_al_98, tk_al_99, tk_al_100, tk_al_101, tk_al_102, tk_al_103, tk_al_104, tk_al_105, tk_al_106, tk_al_107, tk_al_108, tk_al_109, tk_al_110, tk_al_111, tk_al_112, tk_al_113, tk_al_114, tk_al_115, tk_al_116, tk_al_117, tk_al_118, tk_al_119, tk_al_120, tk_al_121, tk_al_122, tk_al_123, tk_al_124, tk_al_125, tk_al_126, tk_al_127, tk_al_128, tk_al_129, i1, hiw, hn, i2, h3]
          refine no (fun y hy => ?_) _ r0 r1 r2 rfl rfl
          have := ((hbk _ _).mp hy).2.2.1
          rwa [show y = μ' 34 i - 10 by omega]
      · simp [tk_fn, tk_env, tk_sq, tk_sk, tk_if, tk_re, tk_rez, tk_rev, tk_xp, tk_se, tk_pf, tk_pfz, tk_pfo, tk_as, tk_asz, tk_asb, tk_aso, tk_cpy, tk_sw, tk_swc, tk_lit, tk_loc, tk_u1, tk_bin, tk_dv, tk_gf, tk_gr, tk_gn, tk_ald, tk_aldq, tk_aln, tk_unl, tk_una, tk_ter, tk_args, tk_cs, tk_cv, tk_ceq, tk_cne, tk_clt, tk_cge, tk_cgt, tk_cle, tk_zeq, tk_zne, tk_zlt, tk_zge, tk_zgt, tk_zle, tk_and, tk_or, tk_not, tk_ct2, tk_isC, List.headD_cons, tk_up, tk_sca, tk_scl, r0, r1, r2, r4, hi0, hi6, h24, tk_al_2, tk_al_3, tk_al_4, tk_al_5, tk_al_6, tk_al_7, tk_al_8, tk_al_9, tk_al_10, tk_al_11, tk_al_13, tk_al_14, tk_al_16, tk_al_17, tk_al_19, tk_al_20, tk_al_22, tk_al_24, tk_al_25, tk_al_26, tk_al_27, tk_al_28, tk_al_29, tk_al_30, tk_al_32, tk_al_33, tk_al_34, tk_al_35, tk_al_36, tk_al_37, tk_al_38, tk_al_39, tk_al_40, tk_al_41, tk_al_43, tk_al_44, tk_al_46, tk_al_47, tk_al_49, tk_al_50, tk_al_52, tk_al_54, tk_al_55, tk_al_56, tk_al_57, tk_al_58, tk_al_59, tk_al_60, tk_al_62, tk_al_63, tk_al_64, tk_al_65, tk_al_66, tk_al_67, tk_al_68, tk_al_69, tk_al_70, tk_al_71, tk_al_73, tk_al_74, tk_al_76, tk_al_77, tk_al_79, tk_al_80, tk_al_81, tk_al_83, tk_al_85, tk_al_87, tk_al_89, tk_al_91, tk_al_93, tk_al_95, tk_al_97, tk_al_98, tk_al_99, tk_al_100, tk_al_101, tk_al_102, tk_al_103, tk_al_104, tk_al_105, tk_al_106, tk_al_107, tk_al_108, tk_al_109, tk_al_110, tk_al_111, tk_al_112, tk_al_113, tk_al_114, tk_al_115, tk_al_116, tk_al_117, tk_al_118, tk_al_119, tk_al_120, tk_al_121, tk_al_122, tk_al_123, tk_al_124, tk_al_125, tk_al_126, tk_al_127, tk_al_128, tk_al_129, i1, hiw, hn]
        refine no (fun y hy => ?_) _ r0 r1 r2 rfl rfl
        have := ((hbk _ _).mp hy).2.2
        omega
  · rintro ρ μ' ⟨rfl, r0, r1, r2, r4, hs, hb⟩ X
    simp [tk_fn, tk_env, tk_sq, tk_sk, tk_if, tk_re, tk_rez, tk_rev, tk_xp, tk_se, tk_pf, tk_pfz, tk_pfo, tk_as, tk_asz, tk_asb, tk_aso, tk_cpy, tk_sw, tk_swc, tk_lit, tk_loc, tk_u1, tk_bin, tk_dv, tk_gf, tk_gr, tk_gn, tk_ald, tk_aldq, tk_aln, tk_unl, tk_una, tk_ter, tk_args, tk_cs, tk_cv, tk_ceq, tk_cne, tk_clt, tk_cge, tk_cgt, tk_cle, tk_zeq, tk_zne, tk_zlt, tk_zge, tk_zgt, tk_zle, tk_and, tk_or, tk_not, tk_ct2, tk_isC, List.headD_cons, tk_up, tk_sca, tk_scl, r0, r4]
    refine hQ _ hs (fun d => ?_)
    rw [hb]
    constructor
    · rintro ⟨t, y, z1, z2⟩; exact ⟨t, y, z2⟩
    · rintro ⟨t, y, z2⟩; exact ⟨t, y, ((hbk _ _).mp z2.1).1.2, z2⟩
theorem x_hangsOn31 {μ : tk_M} {Q : Int → tk_M → Prop} {c w : Int} (h0 : tk_I0 (tk_hw 31 μ)) (h1 : tk_I1 (tk_hw 31 μ)) (h7 : tk_I7 (tk_hw 31 μ)) (hc : 0 ≤ c ∧ c < 6) (hQ : ∀ r, tk_bs2 6 r → (∀ d, tk_bit r d ↔ tk_hg (tk_hw 31 μ) w c d) → Q r μ) : tkF_X2_hangsOn [31, c, w] Q μ := by
  obtain ⟨rk, hr5, hrk⟩ := tk_I7_bk h7 w
  have hS1 : ∀ t, tk_hw 31 μ 1 t = μ 32 t := fun _ => rfl
  have hsh := tk_bs_sh (n := 6) (j := c) ⟨hc.1, by omega⟩ (by omega)
  simp [tk_fn, tk_env, tk_sq, tk_sk, tk_if, tk_re, tk_rez, tk_rev, tk_xp, tk_se, tk_pf, tk_pfz, tk_pfo, tk_as, tk_asz, tk_asb, tk_aso, tk_cpy, tk_sw, tk_swc, tk_lit, tk_loc, tk_u1, tk_bin, tk_dv, tk_gf, tk_gr, tk_gn, tk_ald, tk_aldq, tk_aln, tk_unl, tk_una, tk_ter, tk_args, tk_cs, tk_cv, tk_ceq, tk_cne, tk_clt, tk_cge, tk_cgt, tk_cle, tk_zeq, tk_zne, tk_zlt, tk_zge, tk_zgt, tk_zle, tk_and, tk_or, tk_not, tk_ct2, tk_isC, List.headD_cons, tk_up, tk_sca, tk_scl, tkF_X2_hangsOn, tkS_X2_hangsOn]
  refine x_backersOf31 h0 h1 hsh (fun r hr hrb => ?_)
  refine tk_for 6 (fun k ρ μ' => μ' = μ ∧ ρ 0 = 31 ∧ ρ 2 = w ∧ ρ 4 = k ∧ tk_bs2 6 (ρ 3) ∧ (∀ d, tk_bit (ρ 3) d → tk_hg (tk_hw 31 μ) w c d) ∧ (∀ d, tk_hg (tk_hw 31 μ) w c d → rk c ≤ rk d + k + 1 → tk_bit (ρ 3) d) ∧ (∀ t, tk_bk (tk_hw 31 μ) w t c → tk_bit (ρ 3) (μ 32 t))) (by omega) ⟨rfl, rfl, rfl, rfl, hr, fun d hd => ?_, fun d hd hk => ?_, fun t ht => (hrb _).mpr ⟨t, c, ht, (tk_bit_sh (by omega)).mpr rfl, rfl⟩⟩ ?_ ?_
  · obtain ⟨t, y, z1, z2, z3⟩ := (hrb d).mp hd
    rw [tk_bit_sh (by omega)] at z2
    subst z2
    rw [← z3]
    exact tk_hg_1 z1
  · refine (hrb d).mpr ?_
    rcases tk_hg_ri hd with ⟨t, z1, z2⟩ | ⟨y, t, z1, z2, z3⟩
    · exact ⟨t, c, z1, (tk_bit_sh (by omega)).mpr rfl, z2⟩
    · have := tk_hg_rk hrk z1
      have h3 := hrk _ _ z2
      rw [z3] at h3
      omega
  · rintro k ρ μ' hk0 hk6 ⟨rfl, r0, r2, r4, hs, hb1, hb2, hb3⟩ K hK
    have i1 : tk_iadd k 1 = k + 1 := tk_iadd_id (by omega) (by omega)
    simp [tk_fn, tk_env, tk_sq, tk_sk, tk_if, tk_re, tk_rez, tk_rev, tk_xp, tk_se, tk_pf, tk_pfz, tk_pfo, tk_as, tk_asz, tk_asb, tk_aso, tk_cpy, tk_sw, tk_swc, tk_lit, tk_loc, tk_u1, tk_bin, tk_dv, tk_gf, tk_gr, tk_gn, tk_ald, tk_aldq, tk_aln, tk_unl, tk_una, tk_ter, tk_args, tk_cs, tk_cv, tk_ceq, tk_cne, tk_clt, tk_cge, tk_cgt, tk_cle, tk_zeq, tk_zne, tk_zlt, tk_zge, tk_zgt, tk_zle, tk_and, tk_or, tk_not, tk_ct2, tk_isC, List.headD_cons, tk_up, tk_sca, tk_scl, r0, r2, r4, hk6, i1]
    refine x_backersOf31 h0 h1 hs (fun r hr hrb => ?_)
    refine hK _ _ ⟨rfl, r0, r2, rfl, tk_bs_or (by omega) hs hr, fun d hd => ?_, fun d hd hk => ?_, fun t ht => (tk_bit_or (n := 6) (by omega) hs hr).mpr (.inl (hb3 t ht))⟩
    · rcases (tk_bit_or (n := 6) (by omega) hs hr).mp hd with h | h
      · exact hb1 d h
      · obtain ⟨t, y, z1, z2, z3⟩ := (hrb d).mp h
        rw [← z3]
        exact tk_hg_r (hb1 y z2) z1
    · refine (tk_bit_or (n := 6) (by omega) hs hr).mpr ?_
      rcases tk_hg_ri hd with ⟨t, z1, z2⟩ | ⟨y, t, z1, z2, z3⟩
      · rw [← z2]
        exact .inl (hb3 t z1)
      · refine .inr ((hrb d).mpr ⟨t, y, z2, hb2 y z1 ?_, z3⟩)
        have h3 := hrk _ _ z2
        rw [z3] at h3
        omega
  · rintro ρ μ' ⟨rfl, r0, r2, r4, hs, hb1, hb2, hb3⟩ X
    simp [tk_fn, tk_env, tk_sq, tk_sk, tk_if, tk_re, tk_rez, tk_rev, tk_xp, tk_se, tk_pf, tk_pfz, tk_pfo, tk_as, tk_asz, tk_asb, tk_aso, tk_cpy, tk_sw, tk_swc, tk_lit, tk_loc, tk_u1, tk_bin, tk_dv, tk_gf, tk_gr, tk_gn, tk_ald, tk_aldq, tk_aln, tk_unl, tk_una, tk_ter, tk_args, tk_cs, tk_cv, tk_ceq, tk_cne, tk_clt, tk_cge, tk_cgt, tk_cle, tk_zeq, tk_zne, tk_zlt, tk_zge, tk_zgt, tk_zle, tk_and, tk_or, tk_not, tk_ct2, tk_isC, List.headD_cons, tk_up, tk_sca, tk_scl, r0, r4]
    refine hQ _ hs (fun d => ⟨hb1 d, fun hd => hb2 d hd ?_⟩)
    have := hr5 c
    have := hr5 d
    omega
