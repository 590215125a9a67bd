/-! ===== Layer 2: FUNDS taken ===== -/
def tk_fok (S : tk_M) (a : Int → Int) : Prop := (0 ≤ a 6 ∧ a 6 < S 0 0) ∧ (1 ≤ a 5 ∧ a 5 ≤ 9999) ∧ S 0 1 < 24 ∧ ((a 3 = 1 ∧ 0 ≤ a 4 ∧ a 4 < S 0 2) ∨ (¬ a 3 = 1 ∧ (0 ≤ a 4 ∧ a 4 < S 0 0) ∧ ¬ a 4 = 0 ∧ ¬ a 6 = a 4 ∧ ¬ tk_hg S (-5) (a 6) (a 4)))
def tk_ado (a : Int → Int) : Int := if a 3 = 1 then a 4 else 10 + a 4
def tk_add (S : tk_M) (a : Int → Int) : tk_M := tk_set (tk_set (tk_set (tk_set S 1 (S 0 1) (a 6)) 2 (S 0 1) (a 5)) 3 (S 0 1) (tk_ado a)) 0 1 (S 0 1 + 1)
noncomputable def tk_fn1 (S : tk_M) (a : Int → Int) : tk_M := fun f i => if tk_bc (tk_fok S a) = 1 then tk_add S a f i else S f i
theorem tk_fn1_y {S : tk_M} {a : Int → Int} (h : tk_fok S a) : tk_fn1 S a = tk_add S a := by
  funext f i
  unfold tk_fn1
  rw [tk_bc_t h, if_pos rfl]
theorem tk_fn1_n {S : tk_M} {a : Int → Int} (h : ¬ tk_fok S a) : tk_fn1 S a = S := by
  funext f i
  unfold tk_fn1
  rw [tk_bc_f h, if_neg (by omega)]
noncomputable def tk_fsq (T : Int → Int) (S : tk_M) : Nat → tk_M
  | 0 => S
  | k + 1 => if tk_az T (k + 1) 0 = 6 then tk_fn1 (tk_fsq T S k) (tk_az T (k + 1)) else tk_fsq T S k
noncomputable def tk_fcm (T : Int → Int) (S : tk_M) : Nat → Int
  | 0 => 0
  | k + 1 => tk_fcm T S k + (if tk_az T (k + 1) 0 = 6 then tk_bc (tk_fok (tk_fsq T S k) (tk_az T (k + 1))) else 0)
theorem tk_fcm_bd {T : Int → Int} {S : tk_M} (k : Nat) : 0 ≤ tk_fcm T S k ∧ tk_fcm T S k ≤ k := by
  induction k with
  | zero => unfold tk_fcm; omega
  | succ k ih =>
    have := tk_bc_01 (tk_fok (tk_fsq T S k) (tk_az T (k + 1)))
    unfold tk_fcm
    split <;> omega
theorem tk_fsq_s (T : Int → Int) (S : tk_M) (k : Nat) : tk_fsq T S (k + 1) = if tk_az T (k + 1) 0 = 6 then tk_fn1 (tk_fsq T S k) (tk_az T (k + 1)) else tk_fsq T S k := rfl
theorem tk_fcm_s (T : Int → Int) (S : tk_M) (k : Nat) : tk_fcm T S (k + 1) = tk_fcm T S k + (if tk_az T (k + 1) 0 = 6 then tk_bc (tk_fok (tk_fsq T S k) (tk_az T (k + 1))) else 0) := rfl
theorem tk_II_add {S : tk_M} {a : Int → Int} (hI : tk_II S) (h : tk_fok S a) : tk_II (tk_add S a) := by
  obtain ⟨h6, h5, h24, hw⟩ := h
  have hz := hI.1
  have eo : ∀ f i : Int, ¬ f = 0 → ¬ f = 1 → ¬ f = 2 → ¬ f = 3 → tk_add S a f i = S f i := fun f i h0 h1 h2 h3 => by
    unfold tk_add
    rw [tk_set_o h0, tk_set_o h3, tk_set_o h2, tk_set_o h1]
  have e0 : ∀ i : Int, tk_add S a 0 i = if i = 1 then S 0 1 + 1 else S 0 i := fun i => by simp [tk_add, tk_set]
  have e1 : ∀ i : Int, tk_add S a 1 i = if i = S 0 1 then a 6 else S 1 i := fun i => by simp [tk_add, tk_set]
  have e2 : ∀ i : Int, tk_add S a 2 i = if i = S 0 1 then a 5 else S 2 i := fun i => by simp [tk_add, tk_set]
  have e3 : ∀ i : Int, tk_add S a 3 i = if i = S 0 1 then tk_ado a else S 3 i := fun i => by simp [tk_add, tk_set]
  have ho : (0 ≤ tk_ado a ∧ tk_ado a < S 0 2) ∨ (11 ≤ tk_ado a ∧ tk_ado a < 10 + S 0 0) := by
    unfold tk_ado
    rcases hw with ⟨z1, z2⟩ | ⟨z1, z2, z3, -⟩
    · rw [if_pos z1]; exact .inl z2
    · rw [if_neg z1]; omega
  have h7 : tk_I7 (tk_add S a) := by
    rcases hw with ⟨z1, z2⟩ | ⟨z1, z2, z3, z4, z5⟩
    · obtain ⟨rk, r1, r2⟩ := hI.2.2.2.2.2.2.2.1
      refine ⟨rk, r1, fun t h1 h2 h3 => ?_⟩
      rw [e0, if_pos rfl] at h2
      rw [e3] at h3 ⊢
      rw [e1]
      have hz2 := hz.2.2.1.2
      by_cases ht : t = S 0 1
      · rw [if_pos ht] at h3
        unfold tk_ado at h3
        rw [if_pos z1] at h3
        omega
      · rw [if_neg ht] at h3 ⊢
        rw [if_neg ht]
        exact r2 t h1 (by omega) h3
    · refine tk_I7_b (S := S) (w := -5) (a := a 6) (cur := a 4) hI.1 hI.2.1 hI.2.2.2.2.2.2.2.1 h6 z2 z4 z5 (fun u h1 h2 h3 => ?_)
      rw [e0, if_pos rfl] at h2
      rw [e3] at h3 ⊢
      rw [e1]
      by_cases ht : u = S 0 1
      · right
        rw [if_pos ht, if_pos ht]
        unfold tk_ado
        rw [if_neg z1]
        exact ⟨rfl, by omega⟩
      · left
        rw [if_neg ht] at h3 ⊢
        rw [if_neg ht]
        exact ⟨⟨⟨h1, by omega⟩, by omega, by omega, by omega⟩, rfl⟩
  obtain ⟨b0, b1, b2, b3, b4, b5, b6, -, b8⟩ := hI
  have e00 : tk_add S a 0 0 = S 0 0 := by rw [e0, if_neg (by omega)]
  have e01 : tk_add S a 0 1 = S 0 1 + 1 := by rw [e0, if_pos rfl]
  have e02 : tk_add S a 0 2 = S 0 2 := by rw [e0, if_neg (by omega)]
  have e03 : tk_add S a 0 3 = S 0 3 := by rw [e0, if_neg (by omega)]
  have e04 : tk_add S a 0 4 = S 0 4 := by rw [e0, if_neg (by omega)]
  refine ⟨?_, fun t h1 h2 => ?_, ?_, ?_, ?_, ?_, ?_, h7, ?_⟩
  · unfold tk_I0 at *
    rw [e00, e01, e02, e03, e04]
    omega
  · rw [e01] at h2
    rw [e1, e2, e3, e00, e02]
    by_cases ht : t = S 0 1
    · rw [if_pos ht, if_pos ht, if_pos ht]
      omega
    · rw [if_neg ht, if_neg ht, if_neg ht]
      exact b1 t h1 (by omega)
  · unfold tk_I2 at *
    rw [e02, e03]
    intro c h1 h2
    rw [eo _ _ (by omega) (by omega) (by omega) (by omega), eo _ _ (by omega) (by omega) (by omega) (by omega), eo _ _ (by omega) (by omega) (by omega) (by omega), eo _ _ (by omega) (by omega) (by omega) (by omega), eo _ _ (by omega) (by omega) (by omega) (by omega), eo _ _ (by omega) (by omega) (by omega) (by omega)]
    exact b2 c h1 h2
  · unfold tk_I3 at *
    rw [e02]
    intro k h1 h2
    rw [eo _ _ (by omega) (by omega) (by omega) (by omega)]
    exact b3 k h1 h2
  · unfold tk_I4 at *
    rw [e02, eo _ _ (by omega) (by omega) (by omega) (by omega)]
    refine ⟨b4.1, fun k h1 h2 => ?_⟩
    rw [eo _ _ (by omega) (by omega) (by omega) (by omega), eo _ _ (by omega) (by omega) (by omega) (by omega)]
    exact b4.2 k h1 h2
  · unfold tk_I5 at *
    rw [e01, e02, eo _ _ (by omega) (by omega) (by omega) (by omega)]
    refine ⟨b5.1, fun k h1 h2 => ?_⟩
    rw [eo _ _ (by omega) (by omega) (by omega) (by omega), eo _ _ (by omega) (by omega) (by omega) (by omega)]
    have := b5.2 k h1 h2
    omega
  · unfold tk_I6 at *
    rw [e02, e03, eo _ _ (by omega) (by omega) (by omega) (by omega)]
    refine ⟨b6.1, fun k h1 h2 => ?_⟩
    rw [eo _ _ (by omega) (by omega) (by omega) (by omega)]
    exact b6.2 k h1 h2
  · unfold tk_I8 at *
    rw [e02]
    obtain ⟨rk, r1, r2⟩ := b8
    refine ⟨rk, r1, fun c h1 h2 h3 => ?_⟩
    rw [eo _ _ (by omega) (by omega) (by omega) (by omega)] at h3 ⊢
    exact r2 c h1 h2 h3
theorem tk_II_fn1 {S : tk_M} {a : Int → Int} (hI : tk_II S) : tk_II (tk_fn1 S a) := by
  by_cases h : tk_fok S a
  · rw [tk_fn1_y h]; exact tk_II_add hI h
  · rw [tk_fn1_n h]; exact hI
theorem tk_II_fs {T : Int → Int} {S : tk_M} (hI : tk_II S) (k : Nat) : tk_II (tk_fsq T S k) := by
  induction k with
  | zero => exact hI
  | succ k ih =>
    rw [tk_fsq_s]
    split
    · exact tk_II_fn1 ih
    · exact ih
/-! the class takes one -/
theorem x_takeFund_a {F1 : tk_F} {a : Int → Int} {μ : tk_M} {Q : Int → tk_M → Prop} (hI : tk_II (tk_hw 1 μ)) (ha : tk_abq a) (e3 : μ 82 3 = a 3) (e4 : μ 82 4 = a 4) (e5 : μ 82 5 = a 5) (e6 : μ 82 6 = a 6) (hF : (0 ≤ a 6 ∧ a 6 < μ 1 0) → ∀ R : Int → tk_M → Prop, (((0 ≤ a 4 ∧ a 4 < μ 1 0) ∧ ¬ a 4 = 0 ∧ ¬ a 6 = a 4 ∧ ¬ tk_hg (tk_hw 1 μ) (-5) (a 6) (a 4)) → R 1 μ) → (¬ ((0 ≤ a 4 ∧ a 4 < μ 1 0) ∧ ¬ a 4 = 0 ∧ ¬ a 6 = a 4 ∧ ¬ tk_hg (tk_hw 1 μ) (-5) (a 6) (a 4)) → R 0 μ) → F1 [1, a 6, a 4, -5] R μ) (hy : tk_fok (tk_hw 1 μ) a → ∀ μ', (∀ o i : Int, ¬ (o = 2 ∨ o = 3 ∨ o = 4 ∨ (o = 1 ∧ i = 1)) → μ' o i = μ o i) → tk_hw 1 μ' = tk_add (tk_hw 1 μ) a → Q 1 μ') (hn : ¬ tk_fok (tk_hw 1 μ) a → Q 0 μ) : (tk_fn [2] (tk_sq (tk_se 1 (tk_gf 1 6 (tk_gr 6 (82) (tk_loc 0)))) (tk_sq (tk_if (tk_or (tk_or (tk_not (tk_zne (tk_cv 2 tkF_X2_hasCurrency [(tk_gr 6 (1) (tk_loc 0)), (tk_loc 1)]))) (tk_not (tk_zne (tk_cs tkF_X6_isAmount [(tk_gf 1 5 (tk_gr 6 (82) (tk_loc 0)))])))) (tk_cge (tk_gf 2 1 (tk_gr 6 (1) (tk_loc 0))) (tk_lit (24)))) (tk_rez (tk_lit (0))) tk_sk) (tk_sq (tk_if (tk_ct2 (tk_zne (tk_gf 1 3 (tk_gr 6 (82) (tk_loc 0)))) (tk_not (tk_zne (tk_cv 2 tkF_X2_hasClient [(tk_gr 6 (1) (tk_loc 0)), (tk_gf 1 4 (tk_gr 6 (82) (tk_loc 0)))]))) (tk_not (tk_zne (tk_cv 2 F1 [(tk_gr 6 (1) (tk_loc 0)), (tk_loc 1), (tk_gf 1 4 (tk_gr 6 (82) (tk_loc 0))), (tk_lit (-5))])))) (tk_rez (tk_lit (0))) tk_sk) (tk_sq (tk_xp (tk_cv 2 tkF_X2_addTicket [(tk_gr 6 (1) (tk_loc 0)), (tk_loc 1), (tk_gf 1 5 (tk_gr 6 (82) (tk_loc 0))), (tk_ter (tk_zne (tk_gf 1 3 (tk_gr 6 (82) (tk_loc 0)))) (tk_gf 1 4 (tk_gr 6 (82) (tk_loc 0))) (tk_bin tk_iadd (tk_lit (10)) (tk_gf 1 4 (tk_gr 6 (82) (tk_loc 0)))))])) (tk_rez (tk_lit (1)))))))) [0] Q μ := by
  have hz : 0 ≤ μ 1 1 ∧ μ 1 1 ≤ 24 := hI.1.2.1
  have i1 : tk_iadd (μ 1 1) 1 = μ 1 1 + 1 := tk_iadd_id (by omega) (by omega)
  have i2 : tk_isub (μ 1 1 + 1) 1 = μ 1 1 := by rw [tk_isub_id (by omega) (by omega)]; omega
  have a4 := ha.2.2.2.1
  have i3 : tk_iadd 10 (a 4) = 10 + a 4 := tk_iadd_id (by omega) (by omega)
  have addy : ∀ ow : Int, ow = tk_ado a → tk_fok (tk_hw 1 μ) a → Q 1 (tk_set (tk_set (tk_set (tk_set μ 2 (μ 1 1) (a 6)) 3 (μ 1 1) (a 5)) 4 (μ 1 1) ow) 1 1 (μ 1 1 + 1)) := fun ow how hok => by
    subst how
    refine hy hok _ (fun o i ho => ?_) ?_
    · simp only [tk_set_if]
      rw [if_neg (by omega), if_neg (by omega), if_neg (by omega), if_neg (by omega)]
    · have s1 := tk_hw_set (h := 1) (f := 0) (μ := tk_set (tk_set (tk_set μ 2 (μ 1 1) (a 6)) 3 (μ 1 1) (a 5)) 4 (μ 1 1) (tk_ado a)) (i := 1) (v := μ 1 1 + 1) (by omega)
      have s2 := tk_hw_set (h := 1) (f := 3) (μ := tk_set (tk_set μ 2 (μ 1 1) (a 6)) 3 (μ 1 1) (a 5)) (i := μ 1 1) (v := tk_ado a) (by omega)
      have s3 := tk_hw_set (h := 1) (f := 2) (μ := tk_set μ 2 (μ 1 1) (a 6)) (i := μ 1 1) (v := a 5) (by omega)
      have s4 := tk_hw_set (h := 1) (f := 1) (μ := μ) (i := μ 1 1) (v := a 6) (by omega)
      have s1 : tk_hw 1 (tk_set (tk_set (tk_set (tk_set μ 2 (μ 1 1) (a 6)) 3 (μ 1 1) (a 5)) 4 (μ 1 1) (tk_ado a)) 1 1 (μ 1 1 + 1)) = _ := s1
      have s2 : tk_hw 1 (tk_set (tk_set (tk_set μ 2 (μ 1 1) (a 6)) 3 (μ 1 1) (a 5)) 4 (μ 1 1) (tk_ado a)) = _ := s2
      have s3 : tk_hw 1 (tk_set (tk_set μ 2 (μ 1 1) (a 6)) 3 (μ 1 1) (a 5)) = _ := s3
      have s4 : tk_hw 1 (tk_set μ 2 (μ 1 1) (a 6)) = _ := s4
      rw [s1, s2, s3, s4]
      rfl
  by_cases hc' : ¬ (0 ≤ a 6 ∧ a 6 < μ 1 0)
  · have hc := hc'
    simp [tk_fn, tk_env, tk_sq, tk_sk, tk_if, tk_re, tk_rez, tk_rev, tk_xp, tk_se, tk_pf, tk_pfz, tk_pfo, tk_as, tk_asz, tk_asb, tk_aso, tk_cpy, tk_sw, tk_swc, tk_lit, tk_loc, tk_u1, tk_bin, tk_dv, tk_gf, tk_gr, tk_gn, tk_ald, tk_aldq, tk_aln, tk_unl, tk_una, tk_ter, tk_args, tk_cs, tk_cv, tk_ceq, tk_cne, tk_clt, tk_cge, tk_cgt, tk_cle, tk_zeq, tk_zne, tk_zlt, tk_zge, tk_zgt, tk_zle, tk_and, tk_or, tk_not, tk_ct2, tk_isC, List.headD_cons, tk_up, tk_sca, tk_scl, x_hasCurrency, tk_bo_0, e6, hc, -not_and]
    exact hn (fun z => hc z.1)
  have hc : 0 ≤ a 6 ∧ a 6 < μ 1 0 := Classical.byContradiction hc'
  by_cases hm' : ¬ (1 ≤ a 5 ∧ a 5 ≤ 9999)
  · have hm := hm'
    simp [tk_fn, tk_env, tk_sq, tk_sk, tk_if, tk_re, tk_rez, tk_rev, tk_xp, tk_se, tk_pf, tk_pfz, tk_pfo, tk_as, tk_asz, tk_asb, tk_aso, tk_cpy, tk_sw, tk_swc, tk_lit, tk_loc, tk_u1, tk_bin, tk_dv, tk_gf, tk_gr, tk_gn, tk_ald, tk_aldq, tk_aln, tk_unl, tk_una, tk_ter, tk_args, tk_cs, tk_cv, tk_ceq, tk_cne, tk_clt, tk_cge, tk_cgt, tk_cle, tk_zeq, tk_zne, tk_zlt, tk_zge, tk_zgt, tk_zle, tk_and, tk_or, tk_not, tk_ct2, tk_isC, List.headD_cons, tk_up, tk_sca, tk_scl, x_hasCurrency, x_isAmount, tk_bo_0, e5, e6, hc.1, hc.2, show ¬ μ 1 0 ≤ a 6 from by omega, hm, -not_and]
    exact hn (fun z => hm z.2.1)
  have hm : 1 ≤ a 5 ∧ a 5 ≤ 9999 := Classical.byContradiction hm'
  by_cases ht : 24 ≤ μ 1 1
  · simp [tk_fn, tk_env, tk_sq, tk_sk, tk_if, tk_re, tk_rez, tk_rev, tk_xp, tk_se, tk_pf, tk_pfz, tk_pfo, tk_as, tk_asz, tk_asb, tk_aso, tk_cpy, tk_sw, tk_swc, tk_lit, tk_loc, tk_u1, tk_bin, tk_dv, tk_gf, tk_gr, tk_gn, tk_ald, tk_aldq, tk_aln, tk_unl, tk_una, tk_ter, tk_args, tk_cs, tk_cv, tk_ceq, tk_cne, tk_clt, tk_cge, tk_cgt, tk_cle, tk_zeq, tk_zne, tk_zlt, tk_zge, tk_zgt, tk_zle, tk_and, tk_or, tk_not, tk_ct2, tk_isC, List.headD_cons, tk_up, tk_sca, tk_scl, x_hasCurrency, x_isAmount, tk_bo_0, e5, e6, hc.1, hc.2, show ¬ μ 1 0 ≤ a 6 from by omega, hm.1, hm.2, ht, show ¬ 9999 < a 5 from by omega]
    exact hn (fun z => by have h2 : μ 1 1 < 24 := z.2.2.1; omega)
  have ht2 : μ 1 1 < 24 := by omega
  by_cases hcl : a 3 = 1
  · by_cases hw : 0 ≤ a 4 ∧ a 4 < μ 1 2
    · simp [tk_fn, tk_env, tk_sq, tk_sk, tk_if, tk_re, tk_rez, tk_rev, tk_xp, tk_se, tk_pf, tk_pfz, tk_pfo, tk_as, tk_asz, tk_asb, tk_aso, tk_cpy, tk_sw, tk_swc, tk_lit, tk_loc, tk_u1, tk_bin, tk_dv, tk_gf, tk_gr, tk_gn, tk_ald, tk_aldq, tk_aln, tk_unl, tk_una, tk_ter, tk_args, tk_cs, tk_cv, tk_ceq, tk_cne, tk_clt, tk_cge, tk_cgt, tk_cle, tk_zeq, tk_zne, tk_zlt, tk_zge, tk_zgt, tk_zle, tk_and, tk_or, tk_not, tk_ct2, tk_isC, List.headD_cons, tk_up, tk_sca, tk_scl, tkF_X2_addTicket, tkS_X2_addTicket, x_hasCurrency, x_isAmount, x_hasClient, tk_bo_0, e3, e4, e5, e6, hc.1, hc.2, show ¬ μ 1 0 ≤ a 6 from by omega, hm.1, hm.2, ht, ht2, show ¬ 9999 < a 5 from by omega, hcl, hw.1, hw.2, show ¬ μ 1 2 ≤ a 4 from by omega, hz.1, tk_al_2, tk_al_3, tk_al_4, tk_al_5, tk_al_6, tk_al_7, tk_al_8, tk_al_9, tk_al_10, tk_al_11, tk_al_13, tk_al_14, tk_al_16, tk_al_17, tk_al_19, tk_al_20, tk_al_22, tk_al_24, tk_al_25, tk_al_26, tk_al_27, tk_al_28, tk_al_29, tk_al_30, tk_al_32, tk_al_33, tk_al_34, tk_al_35, tk_al_36, tk_al_37, tk_al_38, tk_al_39, tk_al_40, tk_al_41, tk_al_43, tk_al_44, tk_al_46, tk_al_47, tk_al_49, tk_al_50, tk_al_52, tk_al_54, tk_al_55, tk_al_56, tk_al_57, tk_al_58, tk_al_59, tk_al_60, tk_al_62, tk_al_63, tk_al_64, tk_al_65, tk_al_66, tk_al_67, tk_al_68, tk_al_69, tk_al_70, tk_al_71, tk_al_73, tk_al_74, tk_al_76, tk_al_77, tk_al_79, tk_al_80, tk_al_81, tk_al_83, tk_al_85, tk_al_87, tk_al_89, tk_al_91, tk_al_93, tk_al_95, tk_al_97, tk_al_98, tk_al_99, tk_al_100, tk_al_101, tk_al_102, tk_al_103, tk_al_104, tk_al_105, tk_al_106, tk_al_107, tk_al_108, tk_al_109, tk_al_110, tk_al_111, tk_al_112, tk_al_113, tk_al_114, tk_al_115, tk_al_116, tk_al_117, tk_al_118, tk_al_119, tk_al_120, tk_al_121, tk_al_122, tk_al_123, tk_al_124, tk_al_125, tk_al_126, tk_al_127, tk_al_128, tk_al_129, tk_set_j, tk_set_o, tk_set_eq, i1, i2]
      exact addy _ (by unfold tk_ado; rw [if_pos hcl]) ⟨hc, hm, ht2, .inl ⟨hcl, hw⟩⟩
    · simp [tk_fn, tk_env, tk_sq, tk_sk, tk_if, tk_re, tk_rez, tk_rev, tk_xp, tk_se, tk_pf, tk_pfz, tk_pfo, tk_as, tk_asz, tk_asb, tk_aso, tk_cpy, tk_sw, tk_swc, tk_lit, tk_loc, tk_u1, tk_bin, tk_dv, tk_gf, tk_gr, tk_gn, tk_ald, tk_aldq, tk_aln, tk_unl, tk_una, tk_ter, tk_args, tk_cs, tk_cv, tk_ceq, tk_cne, tk_clt, tk_cge, tk_cgt, tk_cle, tk_zeq, tk_zne, tk_zlt, tk_zge, tk_zgt, tk_zle, tk_and, tk_or, tk_not, tk_ct2, tk_isC, List.headD_cons, tk_up, tk_sca, tk_scl, x_hasCurrency, x_isAmount, x_hasClient, tk_bo_0, e3, e4, e5, e6, hc.1, hc.2, show ¬ μ 1 0 ≤ a 6 from by omega, hm.1, hm.2, ht, show ¬ 9999 < a 5 from by omega, hcl, hw, -not_and]
      refine hn (fun z => ?_)
      rcases z.2.2.2 with z | z
      · exact hw z.2
      · exact z.1 hcl
  · have hcl0 : a 3 = 0 := by rcases ha.2.2.1 with z | z; exact z; exact absurd z hcl
    simp [tk_fn, tk_env, tk_sq, tk_sk, tk_if, tk_re, tk_rez, tk_rev, tk_xp, tk_se, tk_pf, tk_pfz, tk_pfo, tk_as, tk_asz, tk_asb, tk_aso, tk_cpy, tk_sw, tk_swc, tk_lit, tk_loc, tk_u1, tk_bin, tk_dv, tk_gf, tk_gr, tk_gn, tk_ald, tk_aldq, tk_aln, tk_unl, tk_una, tk_ter, tk_args, tk_cs, tk_cv, tk_ceq, tk_cne, tk_clt, tk_cge, tk_cgt, tk_cle, tk_zeq, tk_zne, tk_zlt, tk_zge, tk_zgt, tk_zle, tk_and, tk_or, tk_not, tk_ct2, tk_isC, List.headD_cons, tk_up, tk_sca, tk_scl, x_hasCurrency, x_isAmount, tk_bo_0, e3, e4, e5, e6, hc.1, hc.2, show ¬ μ 1 0 ≤ a 6 from by omega, hm.1, hm.2, ht, show ¬ 9999 < a 5 from by omega, hcl0]
    refine hF hc _ (fun hb => ?_) (fun hb => ?_)
    · simp [tkF_X2_addTicket, tkS_X2_addTicket, tk_fn, tk_env, tk_sq, tk_sk, tk_if, tk_re, tk_rez, tk_rev, tk_xp, tk_se, tk_pf, tk_pfz, tk_pfo, tk_as, tk_asz, tk_asb, tk_aso, tk_cpy, tk_sw, tk_swc, tk_lit, tk_loc, tk_u1, tk_bin, tk_dv, tk_gf, tk_gr, tk_gn, tk_ald, tk_aldq, tk_aln, tk_unl, tk_una, tk_ter, tk_args, tk_cs, tk_cv, tk_ceq, tk_cne, tk_clt, tk_cge, tk_cgt, tk_cle, tk_zeq, tk_zne, tk_zlt, tk_zge, tk_zgt, tk_zle, tk_and, tk_or, tk_not, tk_ct2, tk_isC, List.headD_cons, tk_up, tk_sca, tk_scl, e3, e4, e5, e6, hcl0, hz.1, ht2, tk_al_2, tk_al_3, tk_al_4, tk_al_5, tk_al_6, tk_al_7, tk_al_8, tk_al_9, tk_al_10, tk_al_11, tk_al_13, tk_al_14, tk_al_16, tk_al_17, tk_al_19, tk_al_20, tk_al_22, tk_al_24, tk_al_25, tk_al_26, tk_al_27, tk_al_28, tk_al_29, tk_al_30, tk_al_32, tk_al_33, tk_al_34, tk_al_35, tk_al_36, tk_al_37, tk_al_38, tk_al_39, tk_al_40, tk_al_41, tk_al_43, tk_al_44, tk_al_46, tk_al_47, tk_al_49, tk_al_50, tk_al_52, tk_al_54, tk_al_55, tk_al_56, tk_al_57, tk_al_58, tk_al_59, tk_al_60, tk_al_62, tk_al_63, tk_al_64, tk_al_65, tk_al_66, tk_al_67, tk_al_68, tk_al_69, tk_al_70, tk_al_71, tk_al_73, tk_al_74, tk_al_76, tk_al_77, tk_al_79, tk_al_80, tk_al_81, tk_al_83, tk_al_85, tk_al_87, tk_al_89, tk_al_91, tk_al_93, tk_al_95, tk_al_97, tk_al_98, tk_al_99, tk_al_100, tk_al_101, tk_al_102, tk_al_103, tk_al_104, tk_al_105, tk_al_106, tk_al_107, tk_al_108, tk_al_109, tk_al_110, tk_al_111, tk_al_112, tk_al_113, tk_al_114, tk_al_115, tk_al_116, tk_al_117, tk_al_118, tk_al_119, tk_al_120, tk_al_121, tk_al_122, tk_al_123, tk_al_124, tk_al_125, tk_al_126, tk_al_127, tk_al_128, tk_al_129, tk_set_j, tk_set_o, tk_set_eq, i1, i2, i3]
      exact addy _ (by unfold tk_ado; rw [if_neg hcl]) ⟨hc, hm, ht2, .inr ⟨hcl, hb⟩⟩
    · simp
      refine hn (fun z => ?_)
      rcases z.2.2.2 with z | z
      · exact hcl z.1
      · exact hb z.2
theorem x_takeFunds {T : Int → Int} {μ : tk_M} {Q : Int → tk_M → Prop} (hI : tk_II (tk_hw 1 μ)) (hn : 0 ≤ μ 0 7 ∧ μ 0 7 ≤ 100) (hT : ∀ i : Int, 0 ≤ i → i < μ 0 7 → μ 81 i = T i ∧ 0 ≤ T i ∧ T i ≤ 127) (hacc : tk_acc T (μ 0 7).toNat) (hQ : ∀ μ', (∀ o i : Int, ¬ (o = 2 ∨ o = 3 ∨ o = 4 ∨ o = 82 ∨ (o = 1 ∧ i = 1)) → μ' o i = μ o i) → tk_hw 1 μ' = tk_fsq T (tk_hw 1 μ) (μ 0 7).toNat → Q (tk_fcm T (tk_hw 1 μ) (μ 0 7).toNat) μ') : tkF_X6_takeFunds [0] Q μ := by
  simp [tk_fn, tk_env, tk_sq, tk_sk, tk_if, tk_re, tk_rez, tk_rev, tk_xp, tk_se, tk_pf, tk_pfz, tk_pfo, tk_as, tk_asz, tk_asb, tk_aso, tk_cpy, tk_sw, tk_swc, tk_lit, tk_loc, tk_u1, tk_bin, tk_dv, tk_gf, tk_gr, tk_gn, tk_ald, tk_aldq, tk_aln, tk_unl, tk_una, tk_ter, tk_args, tk_cs, tk_cv, tk_ceq, tk_cne, tk_clt, tk_cge, tk_cgt, tk_cle, tk_zeq, tk_zne, tk_zlt, tk_zge, tk_zgt, tk_zle, tk_and, tk_or, tk_not, tk_ct2, tk_isC, List.headD_cons, tk_up, tk_sca, tk_scl, tkF_X6_takeFunds, tkS_X6_takeFunds, tkF_X1_begin, tkS_X1_begin]
  refine tk_for (μ 0 7) (fun i ρ μ' => (∀ o i : Int, ¬ (o = 2 ∨ o = 3 ∨ o = 4 ∨ o = 82 ∨ (o = 1 ∧ i = 1)) → μ' o i = μ o i) ∧ tk_raq (fun f => μ' 82 f) (tk_az T i.toNat) ∧ tk_hw 1 μ' = tk_fsq T (tk_hw 1 μ) i.toNat ∧ ρ 0 = 0 ∧ ρ 1 = tk_fcm T (tk_hw 1 μ) i.toNat ∧ ρ 2 = i) hn.1 ⟨fun o i ho => ?_, ?_, ?_, rfl, rfl, rfl⟩ ?_ ?_
  · simp only [tk_set_if]
    rw [if_neg (by omega), if_neg (by omega)]
  · unfold tk_raq tk_az
    simp [tk_set]
  · rw [tk_hw_ob (by omega), tk_hw_ob (by omega)]
    rfl
  · rintro i ρ μ' hi0 hi6 ⟨hf, hra, hh, r0, r1, r2⟩ K hK
    obtain ⟨k, rfl⟩ := tk_nnt hi0
    rw [Int.toNat_natCast] at hra hh r1
    have i1 : tk_iadd (k : Int) 1 = (k : Int) + 1 := tk_iadd_id (by clear r1; omega) (by clear r1; omega)
    have e7 : μ' 0 7 = μ 0 7 := hf _ _ (by omega)
    have hTk := hT k hi0 hi6
    have e81 : μ' 81 k = T k := by rw [hf _ _ (by omega)]; exact hTk.1
    have k100 : (k : Int) < 100 := by clear r1; omega
    have hkn : k < (μ 0 7).toNat := by clear r1; omega
    have hok := hacc k hkn
    have hacc2 := tk_acc_p hacc (Nat.le_of_lt hkn)
    have hab2 := tk_ab_s (tk_ab_az k hacc2) hok
    have hfc := tk_fcm_bd (T := T) (S := tk_hw 1 μ) k
    have es : ((k : Int) + 1).toNat = k + 1 := by clear r1 hfc; omega
    have hfss := tk_fsq_s T (tk_hw 1 μ) k
    have hfcs := tk_fcm_s T (tk_hw 1 μ) k
    have hII := tk_II_fs (T := T) hI k
    rw [← hh] at hfss hfcs hII
    simp [tk_fn, tk_env, tk_sq, tk_sk, tk_if, tk_re, tk_rez, tk_rev, tk_xp, tk_se, tk_pf, tk_pfz, tk_pfo, tk_as, tk_asz, tk_asb, tk_aso, tk_cpy, tk_sw, tk_swc, tk_lit, tk_loc, tk_u1, tk_bin, tk_dv, tk_gf, tk_gr, tk_gn, tk_ald, tk_aldq, tk_aln, tk_unl, tk_una, tk_ter, tk_args, tk_cs, tk_cv, tk_ceq, tk_cne, tk_clt, tk_cge, tk_cgt, tk_cle, tk_zeq, tk_zne, tk_zlt, tk_zge, tk_zgt, tk_zle, tk_and, tk_or, tk_not, tk_ct2, tk_isC, List.headD_cons, tk_up, tk_sca, tk_scl, r0, r2, e7, hi6, k100, tk_al_2, tk_al_3, tk_al_4, tk_al_5, tk_al_6, tk_al_7, tk_al_8, tk_al_9, tk_al_10, tk_al_11, tk_al_13, tk_al_14, tk_al_16, tk_al_17, tk_al_19, tk_al_20, tk_al_22, tk_al_24, tk_al_25, tk_al_26, tk_al_27, tk_al_28, tk_al_29, tk_al_30, tk_al_32, tk_al_33, tk_al_34, tk_al_35, tk_al_36, tk_al_37, tk_al_38, tk_al_39, tk_al_40, tk_al_41, tk_al_43, tk_al_44, tk_al_46, tk_al_47, tk_al_49, tk_al_50, tk_al_52, tk_al_54, tk_al_55, tk_al_56, tk_al_57, tk_al_58, tk_al_59, tk_al_60, tk_al_62, tk_al_63, tk_al_64, tk_al_65, tk_al_66, tk_al_67, tk_al_68, tk_al_69, tk_al_70, tk_al_71, tk_al_73, tk_al_74, tk_al_76, tk_al_77, tk_al_79, tk_al_80, tk_al_81, tk_al_83, tk_al_85, tk_al_87, tk_al_89, tk_al_91, tk_al_93, tk_al_95, tk_al_97, tk_al_98, tk_al_99, tk_al_100, tk_al_101, tk_al_102, tk_al_103, tk_al_104, tk_al_105, tk_al_106, tk_al_107, tk_al_108, tk_al_109, tk_al_110, tk_al_111, tk_al_112, tk_al_113, tk_al_114, tk_al_115, tk_al_116, tk_al_117, tk_al_118, tk_al_119, tk_al_120, tk_al_121, tk_al_122, tk_al_123, tk_al_124, tk_al_125, tk_al_126, tk_al_127, tk_al_128, tk_al_129, e81]
    refine x_takes hTk.2 (tk_ab_az k hacc2) hra (fun _ μ2 hf2 hr2 => ?_) (fun hno => absurd hok hno)
    have hr2 : tk_raq (fun f => μ2 82 f) (tk_az T (k + 1)) := hr2
    have hh2 : tk_hw 1 μ2 = tk_hw 1 μ' := by
      funext f i
      unfold tk_hw
      split
      · exact hf2 _ _ (by omega)
      · rfl
    have h820 : μ2 82 0 = tk_az T (k + 1) 0 := hr2.1
    have nxt : ∀ (ρ2 : tk_L) μ3, (∀ o i : Int, ¬ (o = 2 ∨ o = 3 ∨ o = 4 ∨ (o = 1 ∧ i = 1)) → μ3 o i = μ2 o i) → tk_hw 1 μ3 = tk_fsq T (tk_hw 1 μ) (k + 1) → ρ2 0 = 0 → ρ2 1 = tk_fcm T (tk_hw 1 μ) (k + 1) → ρ2 2 = (k : Int) + 1 → K ρ2 μ3 := fun ρ2 μ3 hf3 hh3 z0 z1 z2 => by
      refine hK _ _ ⟨fun o i ho => ?_, ?_, by rw [es]; exact hh3, z0, by rw [es]; exact z1, z2⟩
      · rw [hf3 o i (by clear r1 z1; omega), hf2 o i (by clear r1 z1; omega)]
        exact hf o i ho
      · rw [es]
        have e : (fun f => μ3 82 f) = fun f => μ2 82 f := by funext f; exact hf3 _ _ (by omega)
        rw [e]
        exact hr2
    by_cases h6 : tk_az T (k + 1) 0 = 6
    · rw [if_pos h6] at hfss hfcs
      obtain ⟨-, -, q3, q4, q5, q6⟩ := hr2
      have q3 : μ2 82 3 = tk_az T (k + 1) 3 := q3 (by omega)
      have q4 : μ2 82 4 = tk_az T (k + 1) 4 := q4 (by omega)
      have q5 : μ2 82 5 = tk_az T (k + 1) 5 := (q5 (by omega)).1
      have q6 : μ2 82 6 = tk_az T (k + 1) 6 := q6 (by omega)
      simp [tk_fn, tk_env, tk_sq, tk_sk, tk_if, tk_re, tk_rez, tk_rev, tk_xp, tk_se, tk_pf, tk_pfz, tk_pfo, tk_as, tk_asz, tk_asb, tk_aso, tk_cpy, tk_sw, tk_swc, tk_lit, tk_loc, tk_u1, tk_bin, tk_dv, tk_gf, tk_gr, tk_gn, tk_ald, tk_aldq, tk_aln, tk_unl, tk_una, tk_ter, tk_args, tk_cs, tk_cv, tk_ceq, tk_cne, tk_clt, tk_cge, tk_cgt, tk_cle, tk_zeq, tk_zne, tk_zlt, tk_zge, tk_zgt, tk_zle, tk_and, tk_or, tk_not, tk_ct2, tk_isC, List.headD_cons, tk_up, tk_sca, tk_scl, tkF_X1_atFundsEnd, tkS_X1_atFundsEnd, h820, h6, r0]
      refine x_takeFund_a (a := tk_az T (k + 1)) (by rw [hh2]; exact hII) hab2 q3 q4 q5 q6 (fun hc6 R hy2 hn2 => ?_) (fun hfok μ3 hf3 hh3 => ?_) (fun hnok => ?_)
      · have hII2 : tk_II (tk_hw 1 μ2) := by rw [hh2]; exact hII
        exact x_mayBack hII2.1 hII2.2.1 hII2.2.2.2.2.2.2.2.1 ⟨hc6.1, by have : μ2 1 0 ≤ 6 := hII2.1.1.2; omega⟩ hy2 hn2
      · rw [hh2] at hfok hh3
        rw [tk_fn1_y hfok] at hfss
        rw [tk_bc_t hfok] at hfcs
        have l1 : tk_iadd (tk_fcm T (tk_hw 1 μ) k) 1 = tk_fcm T (tk_hw 1 μ) k + 1 := tk_iadd_id (by clear r1 hfcs; omega) (by clear r1 hfcs; omega)
        simp [r1, r2, i1, l1]
        exact nxt _ μ3 hf3 (by rw [hfss]; exact hh3) r0 (by rw [hfcs]; rfl) rfl
      · rw [hh2] at hnok
        rw [tk_fn1_n hnok] at hfss
        rw [tk_bc_f hnok, Int.add_zero] at hfcs
        simp [r2, i1]
        exact nxt _ μ2 (fun _ _ _ => rfl) (by rw [hfss]; exact hh2) r0 (by rw [hfcs]; exact r1) rfl
    · rw [if_neg h6] at hfss hfcs
      rw [Int.add_zero] at hfcs
      simp [tk_fn, tk_env, tk_sq, tk_sk, tk_if, tk_re, tk_rez, tk_rev, tk_xp, tk_se, tk_pf, tk_pfz, tk_pfo, tk_as, tk_asz, tk_asb, tk_aso, tk_cpy, tk_sw, tk_swc, tk_lit, tk_loc, tk_u1, tk_bin, tk_dv, tk_gf, tk_gr, tk_gn, tk_ald, tk_aldq, tk_aln, tk_unl, tk_una, tk_ter, tk_args, tk_cs, tk_cv, tk_ceq, tk_cne, tk_clt, tk_cge, tk_cgt, tk_cle, tk_zeq, tk_zne, tk_zlt, tk_zge, tk_zgt, tk_zle, tk_and, tk_or, tk_not, tk_ct2, tk_isC, List.headD_cons, tk_up, tk_sca, tk_scl, tkF_X1_atFundsEnd, tkS_X1_atFundsEnd, h820, h6, r2, i1]
      exact nxt _ μ2 (fun _ _ _ => rfl) (by rw [hfss]; exact hh2) r0 (by rw [hfcs]; exact r1) rfl
  · rintro ρ μ' ⟨hf, hra, hh, r0, r1, r2⟩ X
    have e7 : μ' 0 7 = μ 0 7 := hf _ _ (by omega)
    have hq := hQ μ' hf hh
    rw [← r1] at hq
    simp [tk_fn, tk_env, tk_sq, tk_sk, tk_if, tk_re, tk_rez, tk_rev, tk_xp, tk_se, tk_pf, tk_pfz, tk_pfo, tk_as, tk_asz, tk_asb, tk_aso, tk_cpy, tk_sw, tk_swc, tk_lit, tk_loc, tk_u1, tk_bin, tk_dv, tk_gf, tk_gr, tk_gn, tk_ald, tk_aldq, tk_aln, tk_unl, tk_una, tk_ter, tk_args, tk_cs, tk_cv, tk_ceq, tk_cne, tk_clt, tk_cge, tk_cgt, tk_cle, tk_zeq, tk_zne, tk_zlt, tk_zge, tk_zgt, tk_zle, tk_and, tk_or, tk_not, tk_ct2, tk_isC, List.headD_cons, tk_up, tk_sca, tk_scl, r0, r2, e7]
    exact hq
