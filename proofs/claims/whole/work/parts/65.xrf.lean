/-! ===== Layer 2: a Hall valued ===== -/
theorem tk_f1_fl {a b o n v : Int} {μ μ' : tk_M} (h : tk_f1 a b μ μ') (ho : a ≤ o ∧ o ≤ b) : tk_f1 a b μ (tk_fl μ' o n v) := fun o' j h2 => by
  unfold tk_fl
  rw [if_neg (by omega)]
  exact h o' j h2
theorem tk_fl_in {o n v i : Int} {μ : tk_M} (h : 0 ≤ i ∧ i < n) : tk_fl μ o n v o i = v := by
  unfold tk_fl
  rw [if_pos ⟨rfl, h⟩]
theorem tk_fl_o {o n v o' i : Int} {μ : tk_M} (h : ¬ o' = o) : tk_fl μ o n v o' i = μ o' i := by
  unfold tk_fl
  rw [if_neg (fun z => h z.1)]
theorem x_lend1 {μ : tk_M} {Q : Int → tk_M → Prop} (h0 : tk_I0 (tk_hw 1 μ)) (h1 : tk_I1 (tk_hw 1 μ)) (h2 : tk_I2 (tk_hw 1 μ)) (h7 : tk_I7 (tk_hw 1 μ)) (h8 : tk_I8 (tk_hw 1 μ)) (hhd : ∀ p : Int, 0 ≤ p → p < 8 → μ 29 p = tk_hd (tk_hw 1 μ) p) (hQ : ∀ μ', (∀ o i : Int, ¬ (o = 30 ∨ (o = 23 ∧ i = 8)) → μ' o i = μ o i) → tk_xsh 1 (tk_shr (tk_hw 1 μ)) μ' → Q 0 μ') : tkF_X5_lend [23] Q μ := by
  obtain ⟨g1, g2, g3, -⟩ := x_hI1 h0
  have hlb := fun c hc a k => tk_ln_bd h0 h1 h7 (c := c) hc a k
  have hshb := fun a i hi => tk_shp_bd h0 h1 h7 a i hi
  have hrk := fun c hc k hk => tk_pth_rk h2 h8 (c := c) hc (k := k) hk
  have hpin := fun c hc k => tk_pth_in h2 (c := c) (.inr hc) k
  have hhdb := fun p hp => tk_hd_bd h0 h1 h7 p hp
  have hnP : tk_hw 1 μ 0 2 = μ 1 2 := rfl
  have hS9 : ∀ c, tk_hw 1 μ 9 c = μ 10 c := fun _ => rfl
  have hw9 : ∀ c : Int, 0 ≤ c → c < μ 1 2 → μ 10 c = -5 ∨ (0 ≤ μ 10 c ∧ μ 10 c < μ 1 2) := fun c a b => (h2 c a b).2.2.2.2.2
  simp [tk_fn, tk_env, tk_sq, tk_sk, tk_if, tk_re, tk_rez, tk_rev, tk_xp, tk_se, tk_pf, tk_pfz, tk_pfo, tk_as, tk_asz, tk_asb, tk_aso, tk_cpy, tk_sw, tk_swc, tk_lit, tk_loc, tk_u1, tk_bin, tk_dv, tk_gf, tk_gr, tk_gn, tk_ald, tk_aldq, tk_aln, tk_unl, tk_una, tk_ter, tk_args, tk_cs, tk_cv, tk_ceq, tk_cne, tk_clt, tk_cge, tk_cgt, tk_cle, tk_zeq, tk_zne, tk_zlt, tk_zge, tk_zgt, tk_zle, tk_and, tk_or, tk_not, tk_ct2, tk_isC, List.headD_cons, tk_up, tk_sca, tk_scl, tkF_X5_lend, tkS_X5_lend]
  refine j_fill (n := 8) tk_al_30 (by omega) ?_
  refine tk_for (μ 1 2) (fun i ρ μ' => ρ 0 = 23 ∧ ρ 1 = i ∧ (∀ o i : Int, ¬ (o = 30 ∨ (o = 23 ∧ i = 8)) → μ' o i = μ o i) ∧ (∀ a : Int, 0 ≤ a → a < 8 → μ' 30 a = tk_shp (tk_hw 1 μ) a i) ∧ tk_bs2 8 (μ' 23 8) ∧ ∀ c : Int, 0 ≤ c → c < 8 → (tk_bit (μ' 23 8) c ↔ 0 < tk_sm i (fun o => if μ 10 o = c then 1 else 0))) g3.1 ⟨rfl, rfl, fun o i ho => ?_, fun a ha hb => ?_, ?_, fun c h3 h4 => ?_⟩ ?_ ?_
  · rw [show tk_set (tk_fl μ 30 8 0) 23 8 0 o i = tk_fl μ 30 8 0 o i from by unfold tk_set; rw [if_neg (by omega)], tk_fl_o (by omega)]
  · rw [tk_set_o (by omega), tk_fl_in ⟨ha, hb⟩]; rfl
  · rw [tk_set_eq]; exact tk_bs_0 8
  · rw [tk_set_eq, tk_sm_0]
    exact ⟨fun z => absurd z (tk_bit_z c), fun z => by omega⟩
  · rintro c ρ μ' hc0 hc6 ⟨r0, r1, hf, hs, hbs, hbit⟩ K hK
    have j1 : tk_iadd c 1 = c + 1 := tk_iadd_id (by omega) (by omega)
    have e2 : μ' 1 2 = μ 1 2 := hf _ _ (by omega)
    have hc8 : c < 8 := by omega
    simp [tk_fn, tk_env, tk_sq, tk_sk, tk_if, tk_re, tk_rez, tk_rev, tk_xp, tk_se, tk_pf, tk_pfz, tk_pfo, tk_as, tk_asz, tk_asb, tk_aso, tk_cpy, tk_sw, tk_swc, tk_lit, tk_loc, tk_u1, tk_bin, tk_dv, tk_gf, tk_gr, tk_gn, tk_ald, tk_aldq, tk_aln, tk_unl, tk_una, tk_ter, tk_args, tk_cs, tk_cv, tk_ceq, tk_cne, tk_clt, tk_cge, tk_cgt, tk_cle, tk_zeq, tk_zne, tk_zlt, tk_zge, tk_zgt, tk_zle, tk_and, tk_or, tk_not, tk_ct2, tk_isC, List.headD_cons, tk_up, tk_sca, tk_scl, r0, r1, hc6, e2]
    -- behind the chain
    have fin : ∀ (ρ2 : tk_L) (μ2 : tk_M), ρ2 0 = 23 → ρ2 1 = c → (∀ o i : Int, ¬ (o = 30 ∨ (o = 23 ∧ i = 8)) → μ2 o i = μ o i) → (∀ a : Int, 0 ≤ a → a < 8 → μ2 30 a = tk_shp (tk_hw 1 μ) a c + tk_ln (tk_hw 1 μ) c a 8) → μ2 23 8 = μ' 23 8 → (if 0 ≤ μ 10 c ∧ μ 10 c < μ 1 2 then K (tk_up ρ2 1 (c + 1)) (tk_set μ2 23 8 (tk_ior (μ' 23 8) (tk_ishl 1 (μ 10 c)))) else K (tk_up ρ2 1 (c + 1)) μ2) := by
      intro ρ2 μ2 q0 q1 hf2 hs2 h82
      have hsv : ∀ d, tk_sm (c + 1) (fun o => if μ 10 o = d then (1 : Int) else 0) = tk_sm c (fun o => if μ 10 o = d then 1 else 0) + (if μ 10 c = d then 1 else 0) := fun d => tk_sm_s hc0
      have hnn : ∀ d, 0 ≤ tk_sm c (fun o => if μ 10 o = d then (1 : Int) else 0) := fun d => (tk_sm_bd (B := 1) hc0 (fun o _ _ => by (try dsimp only); split <;> omega)).1
      have hsp : ∀ a : Int, 0 ≤ a → a < 8 → tk_shp (tk_hw 1 μ) a c + tk_ln (tk_hw 1 μ) c a 8 = tk_shp (tk_hw 1 μ) a (c + 1) := fun a _ _ => (tk_sm_s hc0).symm
      by_cases hw : 0 ≤ μ 10 c ∧ μ 10 c < μ 1 2
      · rw [if_pos hw]
        have hsh := tk_bs_sh (n := 8) (j := μ 10 c) ⟨hw.1, by omega⟩ (by omega)
        refine hK _ _ ⟨q0, rfl, fun o i ho => ?_, fun a h3 h4 => ?_, ?_, fun d h3 h4 => ?_⟩
        · rw [show tk_set μ2 23 8 (tk_ior (μ' 23 8) (tk_ishl 1 (μ 10 c))) o i = μ2 o i from by unfold tk_set; rw [if_neg (by omega)]]
          exact hf2 o i ho
        · rw [tk_set_o (by omega), hs2 a h3 h4, hsp a h3 h4]
        · rw [tk_set_eq]; exact tk_bs_or (by omega) hbs hsh
        · rw [tk_set_eq, tk_bit_or (n := 8) (by omega) hbs hsh, tk_bit_sh (by omega), hbit d h3 h4, hsv]
          have := hnn d
          by_cases hd : d = μ 10 c
          · rw [if_pos hd.symm]; constructor <;> intro _ <;> omega
          · rw [if_neg (fun z => hd z.symm)]
            constructor
            · rintro (z | z)
              · omega
              · exact absurd z hd
            · intro z; exact .inl (by omega)
      · rw [if_neg hw]
        refine hK _ _ ⟨q0, rfl, hf2, fun a h3 h4 => ?_, by rw [h82]; exact hbs, fun d h3 h4 => ?_⟩
        · rw [hs2 a h3 h4, hsp a h3 h4]
        · rw [h82, hbit d h3 h4, hsv, if_neg (by have := hw9 c hc0 hc6; omega)]
          omega
    have fin2 : ∀ (ρ2 : tk_L) (μ2 : tk_M), ρ2 0 = 23 → ρ2 1 = c → (∀ o i : Int, ¬ (o = 30 ∨ (o = 23 ∧ i = 8)) → μ2 o i = μ o i) → (∀ a : Int, 0 ≤ a → a < 8 → μ2 30 a = tk_shp (tk_hw 1 μ) a c + tk_ln (tk_hw 1 μ) c a 8) → μ2 23 8 = μ' 23 8 → tk_if (tk_zne (tk_cv 2 tkF_X2_hasClient [(tk_gr 5 (-22) (tk_loc 0)), (tk_ald 0 (tk_gr 2 (9) (tk_gr 5 (-22) (tk_loc 0))) (tk_loc 1))])) (tk_pfo tk_ior 5 8 (tk_loc 0) (tk_bin tk_ishl (tk_lit (1)) (tk_ald 0 (tk_gr 2 (9) (tk_gr 5 (-22) (tk_loc 0))) (tk_loc 1)))) tk_sk (fun ρ1 μ1 => tk_se 1 (tk_bin tk_iadd (tk_loc 1) (tk_lit (1))) K Q ρ1 μ1) Q ρ2 μ2 := by
      intro ρ2 μ2 q0 q1 hf2 hs2 h82
      have hfin := fin ρ2 μ2 q0 q1 hf2 hs2 h82
      have d2 : μ2 1 2 = μ 1 2 := hf2 _ _ (by omega)
      have d9 : μ2 10 c = μ 10 c := hf2 _ _ (by omega)
      by_cases hw : 0 ≤ μ 10 c ∧ μ 10 c < μ 1 2
      · rw [if_pos hw] at hfin
        simp [tk_fn, tk_env, tk_sq, tk_sk, tk_if, tk_re, tk_rez, tk_rev, tk_xp, tk_se, tk_pf, tk_pfz, tk_pfo, tk_as, tk_asz, tk_asb, tk_aso, tk_cpy, tk_sw, tk_swc, tk_lit, tk_loc, tk_u1, tk_bin, tk_dv, tk_gf, tk_gr, tk_gn, tk_ald, tk_aldq, tk_aln, tk_unl, tk_una, tk_ter, tk_args, tk_cs, tk_cv, tk_ceq, tk_cne, tk_clt, tk_cge, tk_cgt, tk_cle, tk_zeq, tk_zne, tk_zlt, tk_zge, tk_zgt, tk_zle, tk_and, tk_or, tk_not, tk_ct2, tk_isC, List.headD_cons, tk_up, tk_sca, tk_scl, q0, q1, tk_al_2, tk_al_3, tk_al_4, tk_al_5, tk_al_6, tk_al_7, tk_al_8, tk_al_9, tk_al_10, tk_al_11, tk_al_13, tk_al_14, tk_al_16, tk_al_17, tk_al_19, tk_al_20, tk_al_22, tk_al_24, tk_al_25, tk_al_26, tk_al_27, tk_al_28, tk_al_29, tk_al_30, tk_al_32, tk_al_33, tk_al_34, tk_al_35, tk_al_36, tk_al_37, tk_al_38, tk_al_39, tk_al_40, tk_al_41, tk_al_43, tk_al_44, tk_al_46, tk_al_47, tk_al_49, tk_al_50, tk_al_52, tk_al_54, tk_al_55, tk_al_56, tk_al_57, tk_al_58, tk_al_59, tk_al_60, tk_al_62, tk_al_63, tk_al_64, tk_al_65, tk_al_66, tk_al_67, tk_al_68, tk_al_69, tk_al_70, tk_al_71, tk_al_73, tk_al_74, tk_al_76, tk_al_77, tk_al_79, tk_al_80, tk_al_81, tk_al_83, tk_al_85, tk_al_87, tk_al_89, tk_al_91, tk_al_93, tk_al_95, tk_al_97, tk_al_98, tk_al_99, tk_al_100, tk_al_101, tk_al_102, tk_al_103, tk_al_104, tk_al_105, tk_al_106, tk_al_107, tk_al_108, tk_al_109, tk_al_110, tk_al_111, tk_al_112, tk_al_113, tk_al_114, tk_al_115, tk_al_116, tk_al_117, tk_al_118, tk_al_119, tk_al_120, tk_al_121, tk_al_122, tk_al_123, tk_al_124, tk_al_125, tk_al_126, tk_al_127, tk_al_128, tk_al_129, hc0, hc8, x_hasClient, tk_bo_0, d2, d9, hw.1, hw.2, j1, h82, show ¬ μ 1 2 ≤ μ 10 c from by omega]
        exact hfin
      · rw [if_neg hw] at hfin
        simp [tk_fn, tk_env, tk_sq, tk_sk, tk_if, tk_re, tk_rez, tk_rev, tk_xp, tk_se, tk_pf, tk_pfz, tk_pfo, tk_as, tk_asz, tk_asb, tk_aso, tk_cpy, tk_sw, tk_swc, tk_lit, tk_loc, tk_u1, tk_bin, tk_dv, tk_gf, tk_gr, tk_gn, tk_ald, tk_aldq, tk_aln, tk_unl, tk_una, tk_ter, tk_args, tk_cs, tk_cv, tk_ceq, tk_cne, tk_clt, tk_cge, tk_cgt, tk_cle, tk_zeq, tk_zne, tk_zlt, tk_zge, tk_zgt, tk_zle, tk_and, tk_or, tk_not, tk_ct2, tk_isC, List.headD_cons, tk_up, tk_sca, tk_scl, q0, q1, tk_al_2, tk_al_3, tk_al_4, tk_al_5, tk_al_6, tk_al_7, tk_al_8, tk_al_9, tk_al_10, tk_al_11, tk_al_13, tk_al_14, tk_al_16, tk_al_17, tk_al_19, tk_al_20, tk_al_22, tk_al_24, tk_al_25, tk_al_26, tk_al_27, tk_al_28, tk_al_29, tk_al_30, tk_al_32, tk_al_33, tk_al_34, tk_al_35, tk_al_36, tk_al_37, tk_al_38, tk_al_39, tk_al_40, tk_al_41, tk_al_43, tk_al_44, tk_al_46, tk_al_47, tk_al_49, tk_al_50, tk_al_52, tk_al_54, tk_al_55, tk_al_56, tk_al_57, tk_al_58, tk_al_59, tk_al_60, tk_al_62, tk_al_63, tk_al_64, tk_al_65, tk_al_66, tk_al_67, tk_al_68, tk_al_69, tk_al_70, tk_al_71, tk_al_73, tk_al_74, tk_al_76, tk_al_77, tk_al_79, tk_al_80, tk_al_81, tk_al_83, tk_al_85, tk_al_87, tk_al_89, tk_al_91, tk_al_93, tk_al_95, tk_al_97, tk_al_98, tk_al_99, tk_al_100, tk_al_101, tk_al_102, tk_al_103, tk_al_104, tk_al_105, tk_al_106, tk_al_107, tk_al_108, tk_al_109, tk_al_110, tk_al_111, tk_al_112, tk_al_113, tk_al_114, tk_al_115, tk_al_116, tk_al_117, tk_al_118, tk_al_119, tk_al_120, tk_al_121, tk_al_122, tk_al_123, tk_al_124, tk_al_125, tk_al_126, tk_al_127, tk_al_128, tk_al_129, hc0, hc8, x_hasClient, tk_bo_0, d2, d9, hw, j1, -not_and]
        exact hfin
    clear fin
    refine tk_for 8 (fun k ρ2 μ2 => ρ2 0 = 23 ∧ ρ2 1 = c ∧ ρ2 3 = k ∧ ρ2 2 = tk_pth (tk_hw 1 μ) c k.toNat ∧ (∀ o i : Int, ¬ (o = 30 ∨ (o = 23 ∧ i = 8)) → μ2 o i = μ o i) ∧ μ2 23 8 = μ' 23 8 ∧ ∀ a : Int, 0 ≤ a → a < 8 → μ2 30 a = tk_shp (tk_hw 1 μ) a c + tk_ln (tk_hw 1 μ) c a k.toNat) (by omega) ⟨r0, r1, rfl, rfl, hf, rfl, fun a h3 h4 => by rw [hs a h3 h4]; exact (Int.add_zero _).symm⟩ ?_ ?_
    · rintro k ρ2 μ2 hk0 hk8 ⟨q0, q1, q3, q2, hf2, h82, hs2⟩ K2 hK2
      have k1 : tk_iadd k 1 = k + 1 := tk_iadd_id (by omega) (by omega)
      have ek : (k + 1).toNat = k.toNat + 1 := by omega
      have hpi := hpin c ⟨hc0, hc6⟩ k.toNat
      have d2 : μ2 1 2 = μ 1 2 := hf2 _ _ (by omega)
      by_cases hp : 0 ≤ tk_pth (tk_hw 1 μ) c k.toNat
      · have hp8 : tk_pth (tk_hw 1 μ) c k.toNat < μ 1 2 := by omega
        have hp9 : tk_pth (tk_hw 1 μ) c k.toNat < 8 := by omega
        have hs1 := hs2 (tk_pth (tk_hw 1 μ) c k.toNat) hp hp9
        have hd28 : μ2 29 c = tk_hd (tk_hw 1 μ) c := by rw [hf2 _ _ (by omega)]; exact hhd c hc0 hc8
        have hb1 := hshb (tk_pth (tk_hw 1 μ) c k.toNat) c hc0
        have hb2 := hlb c hc0 (tk_pth (tk_hw 1 μ) c k.toNat) k.toNat
        have hb3 := hhdb c hc0
        have d9 : μ2 10 (tk_pth (tk_hw 1 μ) c k.toNat) = μ 10 (tk_pth (tk_hw 1 μ) c k.toNat) := hf2 _ _ (by omega)
        have l1 : tk_ladd (tk_shp (tk_hw 1 μ) (tk_pth (tk_hw 1 μ) c k.toNat) c + tk_ln (tk_hw 1 μ) c (tk_pth (tk_hw 1 μ) c k.toNat) k.toNat) (tk_hd (tk_hw 1 μ) c) = tk_shp (tk_hw 1 μ) (tk_pth (tk_hw 1 μ) c k.toNat) c + tk_ln (tk_hw 1 μ) c (tk_pth (tk_hw 1 μ) c k.toNat) k.toNat + tk_hd (tk_hw 1 μ) c := tk_ladd_id (by omega) (by omega)
        have hln : ∀ a : Int, tk_ln (tk_hw 1 μ) c a (k.toNat + 1) = tk_ln (tk_hw 1 μ) c a k.toNat + (if tk_pth (tk_hw 1 μ) c k.toNat = a then tk_hd (tk_hw 1 μ) c else 0) := fun a => rfl
        have hpth : tk_pth (tk_hw 1 μ) c (k.toNat + 1) = μ 10 (tk_pth (tk_hw 1 μ) c k.toNat) := by
          have e : tk_pth (tk_hw 1 μ) c (k.toNat + 1) = if 0 ≤ tk_pth (tk_hw 1 μ) c k.toNat then tk_hw 1 μ 9 (tk_pth (tk_hw 1 μ) c k.toNat) else -5 := rfl
          rw [e, if_pos hp, hS9]
        simp [tk_fn, tk_env, tk_sq, tk_sk, tk_if, tk_re, tk_rez, tk_rev, tk_xp, tk_se, tk_pf, tk_pfz, tk_pfo, tk_as, tk_asz, tk_asb, tk_aso, tk_cpy, tk_sw, tk_swc, tk_lit, tk_loc, tk_u1, tk_bin, tk_dv, tk_gf, tk_gr, tk_gn, tk_ald, tk_aldq, tk_aln, tk_unl, tk_una, tk_ter, tk_args, tk_cs, tk_cv, tk_ceq, tk_cne, tk_clt, tk_cge, tk_cgt, tk_cle, tk_zeq, tk_zne, tk_zlt, tk_zge, tk_zgt, tk_zle, tk_and, tk_or, tk_not, tk_ct2, tk_isC, List.headD_cons, tk_up, tk_sca, tk_scl, q0, q1, q2, q3, hk8, tk_al_2, tk_al_3, tk_al_4, tk_al_5, tk_al_6, tk_al_7, tk_al_8, tk_al_9, tk_al_10, tk_al_11, tk_al_13, tk_al_14, tk_al_16, tk_al_17, tk_al_19, tk_al_20, tk_al_22, tk_al_24, tk_al_25, tk_al_26, tk_al_27, tk_al_28, tk_al_29, tk_al_30, tk_al_32, tk_al_33, tk_al_34, tk_al_35, tk_al_36, tk_al_37, tk_al_38, tk_al_39, tk_al_40, tk_al_41, tk_al_43, tk_al_44, tk_al_46, tk_al_47, tk_al_49, tk_al_50, tk_al_52, tk_al_54, tk_al_55, tk_al_56, tk_al_57, tk_al_58, tk_al_59, tk_al_60, tk_al_62, tk_al_63, tk_al_64, tk_al_65, tk_al_66, tk_al_67, tk_al_68, tk_al_69, tk_al_70, tk_al_71, tk_al_73, tk_al_74, tk_al_76, tk_al_77, tk_al_79, tk_al_80, tk_al_81, tk_al_83, tk_al_85, tk_al_87, tk_al_89, tk_al_91, tk_al_93, tk_al_95, tk_al_97, tk_al_98, tk_al_99, tk_al_100, tk_al_101, tk_al_102, tk_al_103, tk_al_104, tk_al_105, tk_al_106, tk_al_107, tk_al_108, tk_al_109, tk_al_110, tk_al_111, tk_al_112, tk_al_113, tk_al_114, tk_al_115, tk_al_116, tk_al_117, tk_al_118, tk_al_119, tk_al_120, tk_al_121, tk_al_122, tk_al_123, tk_al_124, tk_al_125, tk_al_126, tk_al_127, tk_al_128, tk_al_129, x_hasClient, tk_bo_0, d2, hp, hp8, hp9, hc0, hc8, hs1, hd28, l1, tk_set_o, d9, k1, show ¬ μ 1 2 ≤ tk_pth (tk_hw 1 μ) c k.toNat from by omega]
        refine hK2 _ _ ⟨q0, q1, rfl, by rw [ek]; exact hpth.symm, fun o i ho => by rw [tk_set_o (by omega)]; exact hf2 o i ho, by rw [tk_set_o (by omega)]; exact h82, fun a h3 h4 => ?_⟩
        rw [ek, hln]
        by_cases ha : a = tk_pth (tk_hw 1 μ) c k.toNat
        · subst ha
          rw [tk_set_eq, if_pos rfl]
          omega
        · rw [tk_set_j ha, if_neg (fun z => ha z.symm), hs2 a h3 h4]
          omega
      · simp [tk_fn, tk_env, tk_sq, tk_sk, tk_if, tk_re, tk_rez, tk_rev, tk_xp, tk_se, tk_pf, tk_pfz, tk_pfo, tk_as, tk_asz, tk_asb, tk_aso, tk_cpy, tk_sw, tk_swc, tk_lit, tk_loc, tk_u1, tk_bin, tk_dv, tk_gf, tk_gr, tk_gn, tk_ald, tk_aldq, tk_aln, tk_unl, tk_una, tk_ter, tk_args, tk_cs, tk_cv, tk_ceq, tk_cne, tk_clt, tk_cge, tk_cgt, tk_cle, tk_zeq, tk_zne, tk_zlt, tk_zge, tk_zgt, tk_zle, tk_and, tk_or, tk_not, tk_ct2, tk_isC, List.headD_cons, tk_up, tk_sca, tk_scl, q0, q1, q2, q3, hk8, x_hasClient, tk_bo_0, d2, hp]
        have hz := fin2 ρ2 μ2 q0 q1 hf2 (fun a h3 h4 => by rw [hs2 a h3 h4, tk_ln_end (k := k.toNat) h3 (by omega) (by omega)]) h82
        simpa [tk_fn, tk_env, tk_sq, tk_sk, tk_if, tk_re, tk_rez, tk_rev, tk_xp, tk_se, tk_pf, tk_pfz, tk_pfo, tk_as, tk_asz, tk_asb, tk_aso, tk_cpy, tk_sw, tk_swc, tk_lit, tk_loc, tk_u1, tk_bin, tk_dv, tk_gf, tk_gr, tk_gn, tk_ald, tk_aldq, tk_aln, tk_unl, tk_una, tk_ter, tk_args, tk_cs, tk_cv, tk_ceq, tk_cne, tk_clt, tk_cge, tk_cgt, tk_cle, tk_zeq, tk_zne, tk_zlt, tk_zge, tk_zgt, tk_zle, tk_and, tk_or, tk_not, tk_ct2, tk_isC, List.headD_cons, tk_up, tk_sca, tk_scl, q0, q1, q2, q3, hk8, x_hasClient, tk_bo_0, d2, hp] using hz
    · rintro ρ2 μ2 ⟨q0, q1, q3, q2, hf2, h82, hs2⟩ X
      simp [tk_fn, tk_env, tk_sq, tk_sk, tk_if, tk_re, tk_rez, tk_rev, tk_xp, tk_se, tk_pf, tk_pfz, tk_pfo, tk_as, tk_asz, tk_asb, tk_aso, tk_cpy, tk_sw, tk_swc, tk_lit, tk_loc, tk_u1, tk_bin, tk_dv, tk_gf, tk_gr, tk_gn, tk_ald, tk_aldq, tk_aln, tk_unl, tk_una, tk_ter, tk_args, tk_cs, tk_cv, tk_ceq, tk_cne, tk_clt, tk_cge, tk_cgt, tk_cle, tk_zeq, tk_zne, tk_zlt, tk_zge, tk_zgt, tk_zle, tk_and, tk_or, tk_not, tk_ct2, tk_isC, List.headD_cons, tk_up, tk_sca, tk_scl, q0, q1, q2, q3]
      have hz := fin2 ρ2 μ2 q0 q1 hf2 hs2 h82
      simpa [tk_fn, tk_env, tk_sq, tk_sk, tk_if, tk_re, tk_rez, tk_rev, tk_xp, tk_se, tk_pf, tk_pfz, tk_pfo, tk_as, tk_asz, tk_asb, tk_aso, tk_cpy, tk_sw, tk_swc, tk_lit, tk_loc, tk_u1, tk_bin, tk_dv, tk_gf, tk_gr, tk_gn, tk_ald, tk_aldq, tk_aln, tk_unl, tk_una, tk_ter, tk_args, tk_cs, tk_cv, tk_ceq, tk_cne, tk_clt, tk_cge, tk_cgt, tk_cle, tk_zeq, tk_zne, tk_zlt, tk_zge, tk_zgt, tk_zle, tk_and, tk_or, tk_not, tk_ct2, tk_isC, List.headD_cons, tk_up, tk_sca, tk_scl, q0, q1] using hz
  · rintro ρ μ' ⟨r0, r1, hf, hs, hbs, hbit⟩ X
    have e2 : μ' 1 2 = μ 1 2 := hf _ _ (by omega)
    have hT : tk_hw 1 μ' = tk_hw 1 μ := by
      funext f i
      unfold tk_hw
      split
      · exact hf _ _ (by omega)
      · rfl
    simp [tk_fn, tk_env, tk_sq, tk_sk, tk_if, tk_re, tk_rez, tk_rev, tk_xp, tk_se, tk_pf, tk_pfz, tk_pfo, tk_as, tk_asz, tk_asb, tk_aso, tk_cpy, tk_sw, tk_swc, tk_lit, tk_loc, tk_u1, tk_bin, tk_dv, tk_gf, tk_gr, tk_gn, tk_ald, tk_aldq, tk_aln, tk_unl, tk_una, tk_ter, tk_args, tk_cs, tk_cv, tk_ceq, tk_cne, tk_clt, tk_cge, tk_cgt, tk_cle, tk_zeq, tk_zne, tk_zlt, tk_zge, tk_zgt, tk_zle, tk_and, tk_or, tk_not, tk_ct2, tk_isC, List.headD_cons, tk_up, tk_sca, tk_scl, r0, r1, e2]
    refine hQ _ hf ⟨fun a h3 h4 => hs a h3 h4, hbs, fun c h3 h4 => ?_⟩
    rw [hT]
    exact hbit c h3 h4
theorem x_lend31 {μ : tk_M} {Q : Int → tk_M → Prop} (h0 : tk_I0 (tk_hw 31 μ)) (h1 : tk_I1 (tk_hw 31 μ)) (h2 : tk_I2 (tk_hw 31 μ)) (h7 : tk_I7 (tk_hw 31 μ)) (h8 : tk_I8 (tk_hw 31 μ)) (hhd : ∀ p : Int, 0 ≤ p → p < 8 → μ 59 p = tk_hd (tk_hw 31 μ) p) (hQ : ∀ μ', (∀ o i : Int, ¬ (o = 60 ∨ (o = 53 ∧ i = 8)) → μ' o i = μ o i) → tk_xsh 31 (tk_shr (tk_hw 31 μ)) μ' → Q 0 μ') : tkF_X5_lend [53] Q μ := by
  obtain ⟨g1, g2, g3, -⟩ := x_hI31 h0
  have hlb := fun c hc a k => tk_ln_bd h0 h1 h7 (c := c) hc a k
  have hshb := fun a i hi => tk_shp_bd h0 h1 h7 a i hi
  have hrk := fun c hc k hk => tk_pth_rk h2 h8 (c := c) hc (k := k) hk
  have hpin := fun c hc k => tk_pth_in h2 (c := c) (.inr hc) k
  have hhdb := fun p hp => tk_hd_bd h0 h1 h7 p hp
  have hnP : tk_hw 31 μ 0 2 = μ 31 2 := rfl
  have hS9 : ∀ c, tk_hw 31 μ 9 c = μ 40 c := fun _ => rfl
  have hw9 : ∀ c : Int, 0 ≤ c → c < μ 31 2 → μ 40 c = -5 ∨ (0 ≤ μ 40 c ∧ μ 40 c < μ 31 2) := fun c a b => (h2 c a b).2.2.2.2.2
  simp [tk_fn, tk_env, tk_sq, tk_sk, tk_if, tk_re, tk_rez, tk_rev, tk_xp, tk_se, tk_pf, tk_pfz, tk_pfo, tk_as, tk_asz, tk_asb, tk_aso, tk_cpy, tk_sw, tk_swc, tk_lit, tk_loc, tk_u1, tk_bin, tk_dv, tk_gf, tk_gr, tk_gn, tk_ald, tk_aldq, tk_aln, tk_unl, tk_una, tk_ter, tk_args, tk_cs, tk_cv, tk_ceq, tk_cne, tk_clt, tk_cge, tk_cgt, tk_cle, tk_zeq, tk_zne, tk_zlt, tk_zge, tk_zgt, tk_zle, tk_and, tk_or, tk_not, tk_ct2, tk_isC, List.headD_cons, tk_up, tk_sca, tk_scl, tkF_X5_lend, tkS_X5_lend]
  refine j_fill (n := 8) tk_al_60 (by omega) ?_
  refine tk_for (μ 31 2) (fun i ρ μ' => ρ 0 = 53 ∧ ρ 1 = i ∧ (∀ o i : Int, ¬ (o = 60 ∨ (o = 53 ∧ i = 8)) → μ' o i = μ o i) ∧ (∀ a : Int, 0 ≤ a → a < 8 → μ' 60 a = tk_shp (tk_hw 31 μ) a i) ∧ tk_bs2 8 (μ' 53 8) ∧ ∀ c : Int, 0 ≤ c → c < 8 → (tk_bit (μ' 53 8) c ↔ 0 < tk_sm i (fun o => if μ 40 o = c then 1 else 0))) g3.1 ⟨rfl, rfl, fun o i ho => ?_, fun a ha hb => ?_, ?_, fun c h3 h4 => ?_⟩ ?_ ?_
  · rw [show tk_set (tk_fl μ 60 8 0) 53 8 0 o i = tk_fl μ 60 8 0 o i from by unfold tk_set; rw [if_neg (by omega)], tk_fl_o (by omega)]
  · rw [tk_set_o (by omega), tk_fl_in ⟨ha, hb⟩]; rfl
  · rw [tk_set_eq]; exact tk_bs_0 8
  · rw [tk_set_eq, tk_sm_0]
    exact ⟨fun z => absurd z (tk_bit_z c), fun z => by omega⟩
  · rintro c ρ μ' hc0 hc6 ⟨r0, r1, hf, hs, hbs, hbit⟩ K hK
    have j1 : tk_iadd c 1 = c + 1 := tk_iadd_id (by omega) (by omega)
    have e2 : μ' 31 2 = μ 31 2 := hf _ _ (by omega)
    have hc8 : c < 8 := by omega
    simp [tk_fn, tk_env, tk_sq, tk_sk, tk_if, tk_re, tk_rez, tk_rev, tk_xp, tk_se, tk_pf, tk_pfz, tk_pfo, tk_as, tk_asz, tk_asb, tk_aso, tk_cpy, tk_sw, tk_swc, tk_lit, tk_loc, tk_u1, tk_bin, tk_dv, tk_gf, tk_gr, tk_gn, tk_ald, tk_aldq, tk_aln, tk_unl, tk_una, tk_ter, tk_args, tk_cs, tk_cv, tk_ceq, tk_cne, tk_clt, tk_cge, tk_cgt, tk_cle, tk_zeq, tk_zne, tk_zlt, tk_zge, tk_zgt, tk_zle, tk_and, tk_or, tk_not, tk_ct2, tk_isC, List.headD_cons, tk_up, tk_sca, tk_scl, r0, r1, hc6, e2]
    -- behind the chain
    have fin : ∀ (ρ2 : tk_L) (μ2 : tk_M), ρ2 0 = 53 → ρ2 1 = c → (∀ o i : Int, ¬ (o = 60 ∨ (o = 53 ∧ i = 8)) → μ2 o i = μ o i) → (∀ a : Int, 0 ≤ a → a < 8 → μ2 60 a = tk_shp (tk_hw 31 μ) a c + tk_ln (tk_hw 31 μ) c a 8) → μ2 53 8 = μ' 53 8 → (if 0 ≤ μ 40 c ∧ μ 40 c < μ 31 2 then K (tk_up ρ2 1 (c + 1)) (tk_set μ2 53 8 (tk_ior (μ' 53 8) (tk_ishl 1 (μ 40 c)))) else K (tk_up ρ2 1 (c + 1)) μ2) := by
      intro ρ2 μ2 q0 q1 hf2 hs2 h82
      have hsv : ∀ d, tk_sm (c + 1) (fun o => if μ 40 o = d then (1 : Int) else 0) = tk_sm c (fun o => if μ 40 o = d then 1 else 0) + (if μ 40 c = d then 1 else 0) := fun d => tk_sm_s hc0
      have hnn : ∀ d, 0 ≤ tk_sm c (fun o => if μ 40 o = d then (1 : Int) else 0) := fun d => (tk_sm_bd (B := 1) hc0 (fun o _ _ => by (try dsimp only); split <;> omega)).1
      have hsp : ∀ a : Int, 0 ≤ a → a < 8 → tk_shp (tk_hw 31 μ) a c + tk_ln (tk_hw 31 μ) c a 8 = tk_shp (tk_hw 31 μ) a (c + 1) := fun a _ _ => (tk_sm_s hc0).symm
      by_cases hw : 0 ≤ μ 40 c ∧ μ 40 c < μ 31 2
      · rw [if_pos hw]
        have hsh := tk_bs_sh (n := 8) (j := μ 40 c) ⟨hw.1, by omega⟩ (by omega)
        refine hK _ _ ⟨q0, rfl, fun o i ho => ?_, fun a h3 h4 => ?_, ?_, fun d h3 h4 => ?_⟩
        · rw [show tk_set μ2 53 8 (tk_ior (μ' 53 8) (tk_ishl 1 (μ 40 c))) o i = μ2 o i from by unfold tk_set; rw [if_neg (by omega)]]
          exact hf2 o i ho
        · rw [tk_set_o (by omega), hs2 a h3 h4, hsp a h3 h4]
        · rw [tk_set_eq]; exact tk_bs_or (by omega) hbs hsh
        · rw [tk_set_eq, tk_bit_or (n := 8) (by omega) hbs hsh, tk_bit_sh (by omega), hbit d h3 h4, hsv]
          have := hnn d
          by_cases hd : d = μ 40 c
          · rw [if_pos hd.symm]; constructor <;> intro _ <;> omega
          · rw [if_neg (fun z => hd z.symm)]
            constructor
            · rintro (z | z)
              · omega
              · exact absurd z hd
            · intro z; exact .inl (by omega)
      · rw [if_neg hw]
        refine hK _ _ ⟨q0, rfl, hf2, fun a h3 h4 => ?_, by rw [h82]; exact hbs, fun d h3 h4 => ?_⟩
        · rw [hs2 a h3 h4, hsp a h3 h4]
        · rw [h82, hbit d h3 h4, hsv, if_neg (by have := hw9 c hc0 hc6; omega)]
          omega
    have fin2 : ∀ (ρ2 : tk_L) (μ2 : tk_M), ρ2 0 = 53 → ρ2 1 = c → (∀ o i : Int, ¬ (o = 60 ∨ (o = 53 ∧ i = 8)) → μ2 o i = μ o i) → (∀ a : Int, 0 ≤ a → a < 8 → μ2 60 a = tk_shp (tk_hw 31 μ) a c + tk_ln (tk_hw 31 μ) c a 8) → μ2 53 8 = μ' 53 8 → tk_if (tk_zne (tk_cv 2 tkF_X2_hasClient [(tk_gr 5 (-22) (tk_loc 0)), (tk_ald 0 (tk_gr 2 (9) (tk_gr 5 (-22) (tk_loc 0))) (tk_loc 1))])) (tk_pfo tk_ior 5 8 (tk_loc 0) (tk_bin tk_ishl (tk_lit (1)) (tk_ald 0 (tk_gr 2 (9) (tk_gr 5 (-22) (tk_loc 0))) (tk_loc 1)))) tk_sk (fun ρ1 μ1 => tk_se 1 (tk_bin tk_iadd (tk_loc 1) (tk_lit (1))) K Q ρ1 μ1) Q ρ2 μ2 := by
      intro ρ2 μ2 q0 q1 hf2 hs2 h82
      have hfin := fin ρ2 μ2 q0 q1 hf2 hs2 h82
      have d2 : μ2 31 2 = μ 31 2 := hf2 _ _ (by omega)
      have d9 : μ2 40 c = μ 40 c := hf2 _ _ (by omega)
      by_cases hw : 0 ≤ μ 40 c ∧ μ 40 c < μ 31 2
      · rw [if_pos hw] at hfin
        simp [tk_fn, tk_env, tk_sq, tk_sk, tk_if, tk_re, tk_rez, tk_rev, tk_xp, tk_se, tk_pf, tk_pfz, tk_pfo, tk_as, tk_asz, tk_asb, tk_aso, tk_cpy, tk_sw, tk_swc, tk_lit, tk_loc, tk_u1, tk_bin, tk_dv, tk_gf, tk_gr, tk_gn, tk_ald, tk_aldq, tk_aln, tk_unl, tk_una, tk_ter, tk_args, tk_cs, tk_cv, tk_ceq, tk_cne, tk_clt, tk_cge, tk_cgt, tk_cle, tk_zeq, tk_zne, tk_zlt, tk_zge, tk_zgt, tk_zle, tk_and, tk_or, tk_not, tk_ct2, tk_isC, List.headD_cons, tk_up, tk_sca, tk_scl, q0, q1, tk_al_2, tk_al_3, tk_al_4, tk_al_5, tk_al_6, tk_al_7, tk_al_8, tk_al_9, tk_al_10, tk_al_11, tk_al_13, tk_al_14, tk_al_16, tk_al_17, tk_al_19, tk_al_20, tk_al_22, tk_al_24, tk_al_25, tk_al_26, tk_al_27, tk_al_28, tk_al_29, tk_al_30, tk_al_32, tk_al_33, tk_al_34, tk_al_35, tk_al_36, tk_al_37, tk_al_38, tk_al_39, tk_al_40, tk_al_41, tk_al_43, tk_al_44, tk_al_46, tk_al_47, tk_al_49, tk_al_50, tk_al_52, tk_al_54, tk_al_55, tk_al_56, tk_al_57, tk_al_58, tk_al_59, tk_al_60, tk_al_62, tk_al_63, tk_al_64, tk_al_65, tk_al_66, tk_al_67, tk_al_68, tk_al_69, tk_al_70, tk_al_71, tk_al_73, tk_al_74, tk_al_76, tk_al_77, tk_al_79, tk_al_80, tk_al_81, tk_al_83, tk_al_85, tk_al_87, tk_al_89, tk_al_91, tk_al_93, tk_al_95, tk_al_97, tk_al_98, tk_al_99, tk_al_100, tk_al_101, tk_al_102, tk_al_103, tk_al_104, tk_al_105, tk_al_106, tk_al_107, tk_al_108, tk_al_109, tk_al_110, tk_al_111, tk_al_112, tk_al_113, tk_al_114, tk_al_115, tk_al_116, tk_al_117, tk_al_118, tk_al_119, tk_al_120, tk_al_121, tk_al_122, tk_al_123, tk_al_124, tk_al_125, tk_al_126, tk_al_127, tk_al_128, tk_al_129, hc0, hc8, x_hasClient, tk_bo_0, d2, d9, hw.1, hw.2, j1, h82, show ¬ μ 31 2 ≤ μ 40 c from by omega]
        exact hfin
      · rw [if_neg hw] at hfin
        simp [tk_fn, tk_env, tk_sq, tk_sk, tk_if, tk_re, tk_rez, tk_rev, tk_xp, tk_se, tk_pf, tk_pfz, tk_pfo, tk_as, tk_asz, tk_asb, tk_aso, tk_cpy, tk_sw, tk_swc, tk_lit, tk_loc, tk_u1, tk_bin, tk_dv, tk_gf, tk_gr, tk_gn, tk_ald, tk_aldq, tk_aln, tk_unl, tk_una, tk_ter, tk_args, tk_cs, tk_cv, tk_ceq, tk_cne, tk_clt, tk_cge, tk_cgt, tk_cle, tk_zeq, tk_zne, tk_zlt, tk_zge, tk_zgt, tk_zle, tk_and, tk_or, tk_not, tk_ct2, tk_isC, List.headD_cons, tk_up, tk_sca, tk_scl, q0, q1, tk_al_2, tk_al_3, tk_al_4, tk_al_5, tk_al_6, tk_al_7, tk_al_8, tk_al_9, tk_al_10, tk_al_11, tk_al_13, tk_al_14, tk_al_16, tk_al_17, tk_al_19, tk_al_20, tk_al_22, tk_al_24, tk_al_25, tk_al_26, tk_al_27, tk_al_28, tk_al_29, tk_al_30, tk_al_32, tk_al_33, tk_al_34, tk_al_35, tk_al_36, tk_al_37, tk_al_38, tk_al_39, tk_al_40, tk_al_41, tk_al_43, tk_al_44, tk_al_46, tk_al_47, tk_al_49, tk_al_50, tk_al_52, tk_al_54, tk_al_55, tk_al_56, tk_al_57, tk_al_58, tk_al_59, tk_al_60, tk_al_62, tk_al_63, tk_al_64, tk_al_65, tk_al_66, tk_al_67, tk_al_68, tk_al_69, tk_al_70, tk_al_71, tk_al_73, tk_al_74, tk_al_76, tk_al_77, tk_al_79, tk_al_80, tk_al_81, tk_al_83, tk_al_85, tk_al_87, tk_al_89, tk_al_91, tk_al_93, tk_al_95, tk_al_97, tk_al_98, tk_al_99, tk_al_100, tk_al_101, tk_al_102, tk_al_103, tk_al_104, tk_al_105, tk_al_106, tk_al_107, tk_al_108, tk_al_109, tk_al_110, tk_al_111, tk_al_112, tk_al_113, tk_al_114, tk_al_115, tk_al_116, tk_al_117, tk_al_118, tk_al_119, tk_al_120, tk_al_121, tk_al_122, tk_al_123, tk_al_124, tk_al_125, tk_al_126, tk_al_127, tk_al_128, tk_al_129, hc0, hc8, x_hasClient, tk_bo_0, d2, d9, hw, j1, -not_and]
        exact hfin
    clear fin
    refine tk_for 8 (fun k ρ2 μ2 => ρ2 0 = 53 ∧ ρ2 1 = c ∧ ρ2 3 = k ∧ ρ2 2 = tk_pth (tk_hw 31 μ) c k.toNat ∧ (∀ o i : Int, ¬ (o = 60 ∨ (o = 53 ∧ i = 8)) → μ2 o i = μ o i) ∧ μ2 53 8 = μ' 53 8 ∧ ∀ a : Int, 0 ≤ a → a < 8 → μ2 60 a = tk_shp (tk_hw 31 μ) a c + tk_ln (tk_hw 31 μ) c a k.toNat) (by omega) ⟨r0, r1, rfl, rfl, hf, rfl, fun a h3 h4 => by rw [hs a h3 h4]; exact (Int.add_zero _).symm⟩ ?_ ?_
    · rintro k ρ2 μ2 hk0 hk8 ⟨q0, q1, q3, q2, hf2, h82, hs2⟩ K2 hK2
      have k1 : tk_iadd k 1 = k + 1 := tk_iadd_id (by omega) (by omega)
      have ek : (k + 1).toNat = k.toNat + 1 := by omega
      have hpi := hpin c ⟨hc0, hc6⟩ k.toNat
      have d2 : μ2 31 2 = μ 31 2 := hf2 _ _ (by omega)
      by_cases hp : 0 ≤ tk_pth (tk_hw 31 μ) c k.toNat
      · have hp8 : tk_pth (tk_hw 31 μ) c k.toNat < μ 31 2 := by omega
        have hp9 : tk_pth (tk_hw 31 μ) c k.toNat < 8 := by omega
        have hs1 := hs2 (tk_pth (tk_hw 31 μ) c k.toNat) hp hp9
        have hd28 : μ2 59 c = tk_hd (tk_hw 31 μ) c := by rw [hf2 _ _ (by omega)]; exact hhd c hc0 hc8
        have hb1 := hshb (tk_pth (tk_hw 31 μ) c k.toNat) c hc0
        have hb2 := hlb c hc0 (tk_pth (tk_hw 31 μ) c k.toNat) k.toNat
        have hb3 := hhdb c hc0
        have d9 : μ2 40 (tk_pth (tk_hw 31 μ) c k.toNat) = μ 40 (tk_pth (tk_hw 31 μ) c k.toNat) := hf2 _ _ (by omega)
        have l1 : tk_ladd (tk_shp (tk_hw 31 μ) (tk_pth (tk_hw 31 μ) c k.toNat) c + tk_ln (tk_hw 31 μ) c (tk_pth (tk_hw 31 μ) c k.toNat) k.toNat) (tk_hd (tk_hw 31 μ) c) = tk_shp (tk_hw 31 μ) (tk_pth (tk_hw 31 μ) c k.toNat) c + tk_ln (tk_hw 31 μ) c (tk_pth (tk_hw 31 μ) c k.toNat) k.toNat + tk_hd (tk_hw 31 μ) c := tk_ladd_id (by omega) (by omega)
        have hln : ∀ a : Int, tk_ln (tk_hw 31 μ) c a (k.toNat + 1) = tk_ln (tk_hw 31 μ) c a k.toNat + (if tk_pth (tk_hw 31 μ) c k.toNat = a then tk_hd (tk_hw 31 μ) c else 0) := fun a => rfl
        have hpth : tk_pth (tk_hw 31 μ) c (k.toNat + 1) = μ 40 (tk_pth (tk_hw 31 μ) c k.toNat) := by
          have e : tk_pth (tk_hw 31 μ) c (k.toNat + 1) = if 0 ≤ tk_pth (tk_hw 31 μ) c k.toNat then tk_hw 31 μ 9 (tk_pth (tk_hw 31 μ) c k.toNat) else -5 := rfl
          rw [e, if_pos hp, hS9]
        simp [tk_fn, tk_env, tk_sq, tk_sk, tk_if, tk_re, tk_rez, tk_rev, tk_xp, tk_se, tk_pf, tk_pfz, tk_pfo, tk_as, tk_asz, tk_asb, tk_aso, tk_cpy, tk_sw, tk_swc, tk_lit, tk_loc, tk_u1, tk_bin, tk_dv, tk_gf, tk_gr, tk_gn, tk_ald, tk_aldq, tk_aln, tk_unl, tk_una, tk_ter, tk_args, tk_cs, tk_cv, tk_ceq, tk_cne, tk_clt, tk_cge, tk_cgt, tk_cle, tk_zeq, tk_zne, tk_zlt, tk_zge, tk_zgt, tk_zle, tk_and, tk_or, tk_not, tk_ct2, tk_isC, List.headD_cons, tk_up, tk_sca, tk_scl, q0, q1, q2, q3, hk8, tk_al_2, tk_al_3, tk_al_4, tk_al_5, tk_al_6, tk_al_7, tk_al_8, tk_al_9, tk_al_10, tk_al_11, tk_al_13, tk_al_14, tk_al_16, tk_al_17, tk_al_19, tk_al_20, tk_al_22, tk_al_24, tk_al_25, tk_al_26, tk_al_27, tk_al_28, tk_al_29, tk_al_30, tk_al_32, tk_al_33, tk_al_34, tk_al_35, tk_al_36, tk_al_37, tk_al_38, tk_al_39, tk_al_40, tk_al_41, tk_al_43, tk_al_44, tk_al_46, tk_al_47, tk_al_49, tk_al_50, tk_al_52, tk_al_54, tk_al_55, tk_al_56, tk_al_57, tk_al_58, tk_al_59, tk_al_60, tk_al_62, tk_al_63, tk_al_64, tk_al_65, tk_al_66, tk_al_67, tk_al_68, tk_al_69, tk_al_70, tk_al_71, tk_al_73, tk_al_74, tk_al_76, tk_al_77, tk_al_79, tk_al_80, tk_al_81, tk_al_83, tk_al_85, tk_al_87, tk_al_89, tk_al_91, tk_al_93, tk_al_95, tk_al_97, tk_al_98, tk_al_99, tk_al_100, tk_al_101, tk_al_102, tk_al_103, tk_al_104, tk_al_105, tk_al_106, tk_al_107, tk_al_108, tk_al_109, tk_al_110, tk_al_111, tk_al_112, tk_al_113, tk_al_114, tk_al_115, tk_al_116, tk_al_117, tk_al_118, tk_al_119, tk_al_120, tk_al_121, tk_al_122, tk_al_123, tk_al_124, tk_al_125, tk_al_126, tk_al_127, tk_al_128, tk_al_129, x_hasClient, tk_bo_0, d2, hp, hp8, hp9, hc0, hc8, hs1, hd28, l1, tk_set_o, d9, k1, show ¬ μ 31 2 ≤ tk_pth (tk_hw 31 μ) c k.toNat from by omega]
        refine hK2 _ _ ⟨q0, q1, rfl, by rw [ek]; exact hpth.symm, fun o i ho => by rw [tk_set_o (by omega)]; exact hf2 o i ho, by rw [tk_set_o (by omega)]; exact h82, fun a h3 h4 => ?_⟩
        rw [ek, hln]
        by_cases ha : a = tk_pth (tk_hw 31 μ) c k.toNat
        · subst ha
          rw [tk_set_eq, if_pos rfl]
          omega
        · rw [tk_set_j ha, if_neg (fun z => ha z.symm), hs2 a h3 h4]
          omega
      · simp [tk_fn, tk_env, tk_sq, tk_sk, tk_if, tk_re, tk_rez, tk_rev, tk_xp, tk_se, tk_pf, tk_pfz, tk_pfo, tk_as, tk_asz, tk_asb, tk_aso, tk_cpy, tk_sw, tk_swc, tk_lit, tk_loc, tk_u1, tk_bin, tk_dv, tk_gf, tk_gr, tk_gn, tk_ald, tk_aldq, tk_aln, tk_unl, tk_una, tk_ter, tk_args, tk_cs, tk_cv, tk_ceq, tk_cne, tk_clt, tk_cge, tk_cgt, tk_cle, tk_zeq, tk_zne, tk_zlt, tk_zge, tk_zgt, tk_zle, tk_and, tk_or, tk_not, tk_ct2, tk_isC, List.headD_cons, tk_up, tk_sca, tk_scl, q0, q1, q2, q3, hk8, x_hasClient, tk_bo_0, d2, hp]
        have hz := fin2 ρ2 μ2 q0 q1 hf2 (fun a h3 h4 => by rw [hs2 a h3 h4, tk_ln_end (k := k.toNat) h3 (by omega) (by omega)]) h82
        simpa [tk_fn, tk_env, tk_sq, tk_sk, tk_if, tk_re, tk_rez, tk_rev, tk_xp, tk_se, tk_pf, tk_pfz, tk_pfo, tk_as, tk_asz, tk_asb, tk_aso, tk_cpy, tk_sw, tk_swc, tk_lit, tk_loc, tk_u1, tk_bin, tk_dv, tk_gf, tk_gr, tk_gn, tk_ald, tk_aldq, tk_aln, tk_unl, tk_una, tk_ter, tk_args, tk_cs, tk_cv, tk_ceq, tk_cne, tk_clt, tk_cge, tk_cgt, tk_cle, tk_zeq, tk_zne, tk_zlt, tk_zge, tk_zgt, tk_zle, tk_and, tk_or, tk_not, tk_ct2, tk_isC, List.headD_cons, tk_up, tk_sca, tk_scl, q0, q1, q2, q3, hk8, x_hasClient, tk_bo_0, d2, hp] using hz
    · rintro ρ2 μ2 ⟨q0, q1, q3, q2, hf2, h82, hs2⟩ X
      simp [tk_fn, tk_env, tk_sq, tk_sk, tk_if, tk_re, tk_rez, tk_rev, tk_xp, tk_se, tk_pf, tk_pfz, tk_pfo, tk_as, tk_asz, tk_asb, tk_aso, tk_cpy, tk_sw, tk_swc, tk_lit, tk_loc, tk_u1, tk_bin, tk_dv, tk_gf, tk_gr, tk_gn, tk_ald, tk_aldq, tk_aln, tk_unl, tk_una, tk_ter, tk_args, tk_cs, tk_cv, tk_ceq, tk_cne, tk_clt, tk_cge, tk_cgt, tk_cle, tk_zeq, tk_zne, tk_zlt, tk_zge, tk_zgt, tk_zle, tk_and, tk_or, tk_not, tk_ct2, tk_isC, List.headD_cons, tk_up, tk_sca, tk_scl, q0, q1, q2, q3]
      have hz := fin2 ρ2 μ2 q0 q1 hf2 hs2 h82
      simpa [tk_fn, tk_env, tk_sq, tk_sk, tk_if, tk_re, tk_rez, tk_rev, tk_xp, tk_se, tk_pf, tk_pfz, tk_pfo, tk_as, tk_asz, tk_asb, tk_aso, tk_cpy, tk_sw, tk_swc, tk_lit, tk_loc, tk_u1, tk_bin, tk_dv, tk_gf, tk_gr, tk_gn, tk_ald, tk_aldq, tk_aln, tk_unl, tk_una, tk_ter, tk_args, tk_cs, tk_cv, tk_ceq, tk_cne, tk_clt, tk_cge, tk_cgt, tk_cle, tk_zeq, tk_zne, tk_zlt, tk_zge, tk_zgt, tk_zle, tk_and, tk_or, tk_not, tk_ct2, tk_isC, List.headD_cons, tk_up, tk_sca, tk_scl, q0, q1] using hz
  · rintro ρ μ' ⟨r0, r1, hf, hs, hbs, hbit⟩ X
    have e2 : μ' 31 2 = μ 31 2 := hf _ _ (by omega)
    have hT : tk_hw 31 μ' = tk_hw 31 μ := by
      funext f i
      unfold tk_hw
      split
      · exact hf _ _ (by omega)
      · rfl
    simp [tk_fn, tk_env, tk_sq, tk_sk, tk_if, tk_re, tk_rez, tk_rev, tk_xp, tk_se, tk_pf, tk_pfz, tk_pfo, tk_as, tk_asz, tk_asb, tk_aso, tk_cpy, tk_sw, tk_swc, tk_lit, tk_loc, tk_u1, tk_bin, tk_dv, tk_gf, tk_gr, tk_gn, tk_ald, tk_aldq, tk_aln, tk_unl, tk_una, tk_ter, tk_args, tk_cs, tk_cv, tk_ceq, tk_cne, tk_clt, tk_cge, tk_cgt, tk_cle, tk_zeq, tk_zne, tk_zlt, tk_zge, tk_zgt, tk_zle, tk_and, tk_or, tk_not, tk_ct2, tk_isC, List.headD_cons, tk_up, tk_sca, tk_scl, r0, r1, e2]
    refine hQ _ hf ⟨fun a h3 h4 => hs a h3 h4, hbs, fun c h3 h4 => ?_⟩
    rw [hT]
    exact hbit c h3 h4
