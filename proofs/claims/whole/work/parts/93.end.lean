/-! ===== Layer 2: plans tried ===== -/
def tk_W5 (S : tk_M) : Prop := tk_I0 S ∧ tk_I1 S ∧ tk_I2 S ∧ tk_I7 S ∧ tk_I8 S
theorem tk_W5_EE {S T : tk_M} (h : tk_EE S T) (hI : tk_W5 S) : tk_W5 T := by
  obtain ⟨⟨a1, a2, a3, a4, a5⟩, b, c, -⟩ := h
  obtain ⟨i0, i1, i2, ⟨rk, i7a, i7⟩, ⟨rk8, i8a, i8⟩⟩ := hI
  unfold tk_I0 tk_I1 tk_I2 at *
  refine ⟨by unfold tk_I0; omega, fun t h1 h2 => ?_, fun p h1 h2 => ?_, ⟨rk, i7a, fun t h1 h2 h3 => ?_⟩, ⟨rk8, i8a, fun p h1 h2 h3 => ?_⟩⟩
  · have := b t h1 (by omega); have := i1 t h1 (by omega); omega
  · have := c p h1 (by omega); have := i2 p h1 (by omega); omega
  · have h4 := b t h1 (by omega)
    have h5 := i7 t h1 (by omega) (by omega)
    rw [h4.1, h4.2.2]
    exact h5
  · have h4 := c p h1 (by omega)
    have h5 := i8 p h1 (by omega) (by omega)
    rw [h4.2.2.2.2.2]
    exact h5
theorem tk_JL_EE {b : Int} {S T : tk_M} (h : tk_EE S T) (hJ : tk_JL b S) : tk_JL b T := by
  obtain ⟨⟨a1, a2, a3, a4, a5⟩, -, c, d, -⟩ := h
  obtain ⟨⟨j0, j1, j2, j3, j4⟩, j5⟩ := hJ
  unfold tk_I2 tk_I3 at *
  refine ⟨⟨by omega, by omega, by omega, fun p h1 h2 => ?_, fun k h1 h2 => ?_⟩, by omega⟩
  · have := c p h1 (by omega); have := j3 p h1 (by omega); omega
  · have := d k h1 (by omega); have := j4 k h1 (by omega); omega
/-- shares hang on TICKETS and waits alone -/
theorem tk_shr_dep {S T : tk_M} (e01 : T 0 1 = S 0 1) (e02 : T 0 2 = S 0 2) (e1 : ∀ t, T 1 t = S 1 t) (e2 : ∀ t, T 2 t = S 2 t) (e3 : ∀ t, T 3 t = S 3 t) (e9 : ∀ t, T 9 t = S 9 t) : tk_shr T = tk_shr S := by
  have hisu : ∀ c, tk_isu T c = tk_isu S c := fun c => by
    unfold tk_isu
    simp only [e01, e1, e2, e3]
  have hwo : ∀ v t, tk_wo T v t = tk_wo S v t := fun v t => by
    unfold tk_wo
    rw [e1, e2, hisu]
  have hvl : ∀ k, tk_vl T k = tk_vl S k := fun k => by
    induction k with
    | zero => rfl
    | succ k ih =>
      funext c
      unfold tk_vl
      simp only [e01, e3, ih, hwo]
  have hhd : ∀ p, tk_hd T p = tk_hd S p := fun p => by
    unfold tk_hd tk_Wt tk_V
    simp only [e01, e3, hvl, hwo]
  have hpth : ∀ (c : Int) (k : Nat), tk_pth T c k = tk_pth S c k := fun c k => by
    induction k with
    | zero => rfl
    | succ k ih => unfold tk_pth; rw [ih, e9]
  funext a
  unfold tk_shr
  simp only [e02, hpth, hhd]
/-- one planned -/
def tk_pl1 (S : tk_M) (w n : Int) : tk_M := if w = 0 then tk_qp (tk_shr S) S else if w = 2 then tk_set S 9 n (-5) else if w = 1 then tk_set S 3 n (-5) else tk_set S 2 n (if 4999 < S 2 n then 9999 else 2 * S 2 n)
def tk_pok (S : tk_M) (w n : Int) : Prop := w = 0 ∨ ((w = 1 ∨ w = 3) ∧ 0 ≤ n ∧ n < S 0 1) ∨ (w = 2 ∧ 0 ≤ n ∧ n < S 0 2)
def tk_WW (b : Int) (S : tk_M) : Prop := tk_W5 S ∧ tk_JL b S
theorem tk_EE_9 {S T : tk_M} (h : tk_EE S T) {c v : Int} : tk_EE (tk_set S 9 c v) (tk_set T 9 c v) := by
  obtain ⟨a1, a2, a3, a4, a5, a6, a7⟩ := h
  unfold tk_EE tk_E0 tk_E1 tk_E2 tk_E3 tk_E4 tk_E5 tk_E6 at *
  simp [tk_set] at *
  refine ⟨a1, a2, fun i h3 h4 => ?_, a4, a5, a6, a7⟩
  have := a3 i h3 h4
  by_cases hi : i = c
  · simp [hi] at this ⊢
    exact ⟨this.1, this.2.1, this.2.2.1, this.2.2.2.1, this.2.2.2.2.1⟩
  · simpa [hi] using this
theorem tk_shr_EEw {S T : tk_M} (h : tk_EE S T) (hI : tk_W5 S) : tk_shr T = tk_shr S := funext (fun a => tk_shr_eq hI.2.2.1 h.1 h.2.1 h.2.2.1 a)
theorem tk_EE_pl1 {S T : tk_M} (h : tk_EE S T) (hI : tk_W5 S) {w n : Int} (hp : tk_pok S w n) : tk_EE (tk_pl1 S w n) (tk_pl1 T w n) := by
  unfold tk_pl1
  rcases hp with hw | ⟨hw, hn⟩ | ⟨hw, hn⟩
  · rw [if_pos hw, if_pos hw, tk_shr_EEw h hI]
    exact tk_EE_go h (tk_EQ_qp hI.1.2.2.1.1 (tk_EQ_of h)) (fun f i h6 h7 h8 h0 => tk_qp_o h6 h7 h8 h0) (fun f i h6 h7 h8 h0 => tk_qp_o h6 h7 h8 h0)
  · rcases hw with hw | hw
    · rw [if_neg (by omega), if_neg (by omega), if_pos hw, if_neg (by omega), if_neg (by omega), if_pos hw]
      exact tk_EE_3 h
    · rw [if_neg (show ¬ w = 0 by omega), if_neg (show ¬ w = 2 by omega), if_neg (show ¬ w = 1 by omega), if_neg (show ¬ w = 0 by omega), if_neg (show ¬ w = 2 by omega), if_neg (show ¬ w = 1 by omega), (h.2.1 n hn.1 hn.2).2.1]
      exact tk_EE_2 h
  · rw [if_neg (by omega), if_pos hw, if_neg (by omega), if_pos hw]
    exact tk_EE_9 h
theorem tk_WW_pl1 {b : Int} {S : tk_M} (h : tk_WW b S) (hb : b ≤ 900000) {w n : Int} (hp : tk_pok S w n) : tk_WW (b + 10) (tk_pl1 S w n) := by
  obtain ⟨⟨i0, i1, i2, ⟨rk, i7a, i7⟩, ⟨rk8, i8a, i8⟩⟩, hJ⟩ := h
  have wide : ∀ T : tk_M, tk_W5 T → T 0 2 = S 0 2 → T 0 3 = S 0 3 → T 0 4 = S 0 4 → (∀ k, T 10 k = S 10 k) → tk_WW (b + 10) T := fun T hT h02 h03 h04 h10 => by
    obtain ⟨⟨j0, j1, j2, j3, j4⟩, j5⟩ := hJ
    refine ⟨hT, ⟨by omega, by omega, by omega, hT.2.2.1, fun k h1 h2 => ?_⟩, by omega⟩
    rw [h10]
    exact j4 k h1 (by omega)
  unfold tk_pl1
  rcases hp with hw | ⟨hw, hn⟩ | ⟨hw, hn⟩
  · rw [if_pos hw]
    have hJ2 := tk_J_qp (sh := tk_shr S) hJ
    have e : ∀ f i : Int, ¬ f = 6 → ¬ f = 7 → ¬ f = 8 → ¬ (f = 0 ∧ (i = 3 ∨ i = 4)) → tk_qp (tk_shr S) S f i = S f i := fun f i h6 h7 h8 h0 => tk_qp_o h6 h7 h8 h0
    refine ⟨⟨?_, fun t h1 h2 => ?_, hJ2.1.2.2.2.1, ⟨rk, i7a, fun t h1 h2 h3 => ?_⟩, ⟨rk8, i8a, fun c h1 h2 h3 => ?_⟩⟩, hJ2⟩
    · obtain ⟨⟨j0, j1, j2, j3, j4⟩, j5⟩ := hJ2
      unfold tk_I0 at *
      rw [e 0 0 (by omega) (by omega) (by omega) (by omega), e 0 1 (by omega) (by omega) (by omega) (by omega)]
      omega
    · rw [e 0 1 (by omega) (by omega) (by omega) (by omega)] at h2
      rw [e 1 t (by omega) (by omega) (by omega) (by omega), e 2 t (by omega) (by omega) (by omega) (by omega), e 3 t (by omega) (by omega) (by omega) (by omega), e 0 0 (by omega) (by omega) (by omega) (by omega), e 0 2 (by omega) (by omega) (by omega) (by omega)]
      exact i1 t h1 h2
    · rw [e 0 1 (by omega) (by omega) (by omega) (by omega)] at h2
      rw [e 3 t (by omega) (by omega) (by omega) (by omega)] at h3
      rw [e 1 t (by omega) (by omega) (by omega) (by omega), e 3 t (by omega) (by omega) (by omega) (by omega)]
      exact i7 t h1 h2 h3
    · rw [e 0 2 (by omega) (by omega) (by omega) (by omega)] at h2
      rw [e 9 c (by omega) (by omega) (by omega) (by omega)] at h3
      rw [e 9 c (by omega) (by omega) (by omega) (by omega)]
      exact i8 c h1 h2 h3
  · rcases hw with hw | hw
    · rw [if_neg (by omega), if_neg (by omega), if_pos hw]
      refine wide _ ⟨?_, fun t h1 h2 => ?_, ?_, ⟨rk, i7a, fun t h1 h2 h3 => ?_⟩, ⟨rk8, i8a, ?_⟩⟩ (tk_set_o (by omega)) (tk_set_o (by omega)) (tk_set_o (by omega)) (fun k => tk_set_o (by omega))
      · unfold tk_I0 at *; simp [tk_set] at *; exact i0
      · have := i1 t h1 h2
        by_cases hi : t = n
        · simp [tk_set, hi] at this ⊢
          exact ⟨this.1, this.2.1⟩
        · simpa [tk_set, hi] using this
      · unfold tk_I2 at *; simp [tk_set] at *; exact i2
      · by_cases hi : t = n
        · simp [tk_set, hi] at h3
        · simp [tk_set, hi] at h2 h3 ⊢
          exact i7 t h1 h2 h3
      · simp [tk_set] at *; exact i8
    · rw [if_neg (show ¬ w = 0 by omega), if_neg (show ¬ w = 2 by omega), if_neg (show ¬ w = 1 by omega)]
      have hv := (i1 n hn.1 hn.2).2.1
      have hv2 : 1 ≤ (if 4999 < S 2 n then 9999 else 2 * S 2 n) ∧ (if 4999 < S 2 n then 9999 else 2 * S 2 n) ≤ 9999 := by
        split <;> omega
      generalize (if 4999 < S 2 n then 9999 else 2 * S 2 n) = v at hv2 ⊢
      refine wide _ ⟨?_, fun t h1 h2 => ?_, ?_, ⟨rk, i7a, ?_⟩, ⟨rk8, i8a, ?_⟩⟩ (tk_set_o (by omega)) (tk_set_o (by omega)) (tk_set_o (by omega)) (fun k => tk_set_o (by omega))
      · unfold tk_I0 at *; simp [tk_set] at *; exact i0
      · have := i1 t h1 h2
        by_cases hi : t = n
        · simp [tk_set, hi] at this ⊢
          exact ⟨this.1, hv2, this.2.2⟩
        · simpa [tk_set, hi] using this
      · unfold tk_I2 at *; simp [tk_set] at *; exact i2
      · simp [tk_set] at *; exact i7
      · simp [tk_set] at *; exact i8
  · rw [if_neg (by omega), if_pos hw]
    refine wide _ ⟨?_, ?_, fun c h1 h2 => ?_, ⟨rk, i7a, ?_⟩, ⟨rk8, i8a, fun c h1 h2 h3 => ?_⟩⟩ (tk_set_o (by omega)) (tk_set_o (by omega)) (tk_set_o (by omega)) (fun k => tk_set_o (by omega))
    · unfold tk_I0 at *; simp [tk_set] at *; exact i0
    · unfold tk_I1 at *; simp [tk_set] at *; exact i1
    · have := i2 c h1 h2
      by_cases hi : c = n
      · simp [tk_set, hi] at this ⊢
        exact ⟨this.1, this.2.1, this.2.2.1, this.2.2.2.1, this.2.2.2.2.1⟩
      · simpa [tk_set, hi] using this
    · simp [tk_set] at *; exact i7
    · by_cases hi : c = n
      · simp [tk_set, hi] at h3
      · simp [tk_set, hi] at h2 h3 ⊢
        exact i8 c h1 h2 h3
theorem x_go1 {b w n : Int} {S μ : tk_M} {Q : Int → tk_M → Prop} (hE : tk_EE S (tk_hw 31 μ)) (hW : tk_WW b S) (hb : b ≤ 400000) (hs : tk_xsh 31 (tk_shr S) μ) (hd : tk_xd 31 (tk_shr S) μ) (hp : tk_pok S w n) (hQ : ∀ μ', tk_f1 31 60 μ μ' → tk_EE (tk_pl1 S w n) (tk_hw 31 μ') → tk_xsh 31 (tk_shr (tk_pl1 S w n)) μ' → tk_xd 31 (tk_shr (tk_pl1 S w n)) μ' → Q 0 μ') : tkF_X6_goOnePlanned [0, w, n] Q μ := by
  have hz : 0 ≤ S 0 1 ∧ S 0 1 ≤ 24 := hW.1.1.2.1
  have hz2 : 0 ≤ S 0 2 ∧ S 0 2 ≤ 8 := hW.1.1.2.2.1
  have f1 : μ 31 1 = S 0 1 := hE.1.2.1
  have f2 : μ 31 2 = S 0 2 := hE.1.2.2.1
  have hE1 := tk_EE_pl1 hE hW.1 hp
  have hW1 := tk_WW_pl1 hW (by omega) hp
  have ref : ∀ μ1 : tk_M, tk_f1 31 60 μ μ1 → tk_hw 31 μ1 = tk_pl1 (tk_hw 31 μ) w n → tkF_X0_refresh [51] Q μ1 := fun μ1 hf hh => by
    have hE2 : tk_EE (tk_pl1 S w n) (tk_hw 31 μ1) := by rw [hh]; exact hE1
    refine x_refresh31 (tk_W5_EE hE2 hW1.1) (tk_J_w (tk_JL_EE hE2 hW1.2).1 (by omega)) (fun μ2 hf2 hs2 hd2 _ _ => ?_)
    rw [tk_shr_EEw hE2 hW1.1] at hs2 hd2
    refine hQ μ2 (fun o j ho => by rw [hf2 o j (by omega)]; exact hf o j ho) ?_ hs2 hd2
    rw [tk_hw_f1 hf2 (by omega)]
    exact hE2
  have fset : ∀ o i v : Int, 31 ≤ o → o ≤ 60 → tk_f1 31 60 μ (tk_set μ o i v) := fun o i v h1 h2 => tk_f1_s tk_f1_r ⟨h1, h2⟩
  rcases hp with hw | ⟨hw, hn⟩ | ⟨hw, hn⟩
  · simp [tk_fn, tk_env, tk_sq, tk_sk, tk_if, tk_re, tk_rez, tk_rev, tk_xp, tk_se, tk_pf, tk_pfz, tk_pfo, tk_as, tk_asz, tk_asb, tk_aso, tk_cpy, tk_sw, tk_swc, tk_lit, tk_loc, tk_u1, tk_bin, tk_dv, tk_gf, tk_gr, tk_gn, tk_ald, tk_aldq, tk_aln, tk_unl, tk_una, tk_ter, tk_args, tk_cs, tk_cv, tk_ceq, tk_cne, tk_clt, tk_cge, tk_cgt, tk_cle, tk_zeq, tk_zne, tk_zlt, tk_zge, tk_zgt, tk_zle, tk_and, tk_or, tk_not, tk_ct2, tk_isC, List.headD_cons, tk_up, tk_sca, tk_scl, tkF_X6_goOnePlanned, tkS_X6_goOnePlanned, eq_true hw]
    refine x_qBP31 (tk_JL_EE hE hW.2) (by omega) (tk_shr_shb hW.1.1 hW.1.2.1 hW.1.2.2.2.1) hs hd (fun μ1 hf1 hh1 hs1 hd1 => ?_)
    have hh : tk_hw 31 μ1 = tk_pl1 (tk_hw 31 μ) w n := by
      unfold tk_pl1
      rw [if_pos hw, hh1, tk_shr_EEw hE hW.1]
    have hsh : tk_shr (tk_pl1 S w n) = tk_shr S := by
      unfold tk_pl1
      rw [if_pos hw]
      exact tk_shr_dep (tk_qp_o (by omega) (by omega) (by omega) (by omega)) (tk_qp_o (by omega) (by omega) (by omega) (by omega)) (fun t => tk_qp_o (by omega) (by omega) (by omega) (by omega)) (fun t => tk_qp_o (by omega) (by omega) (by omega) (by omega)) (fun t => tk_qp_o (by omega) (by omega) (by omega) (by omega)) (fun t => tk_qp_o (by omega) (by omega) (by omega) (by omega))
    refine hQ μ1 (fun o j ho => hf1 o j (by omega)) (by rw [hh]; exact hE1) (by rw [hsh]; exact hs1) (by rw [hsh]; exact hd1)
  · have n24 : n < 24 := by omega
    rcases hw with hw | hw
    · simp [tk_fn, tk_env, tk_sq, tk_sk, tk_if, tk_re, tk_rez, tk_rev, tk_xp, tk_se, tk_pf, tk_pfz, tk_pfo, tk_as, tk_asz, tk_asb, tk_aso, tk_cpy, tk_sw, tk_swc, tk_lit, tk_loc, tk_u1, tk_bin, tk_dv, tk_gf, tk_gr, tk_gn, tk_ald, tk_aldq, tk_aln, tk_unl, tk_una, tk_ter, tk_args, tk_cs, tk_cv, tk_ceq, tk_cne, tk_clt, tk_cge, tk_cgt, tk_cle, tk_zeq, tk_zne, tk_zlt, tk_zge, tk_zgt, tk_zle, tk_and, tk_or, tk_not, tk_ct2, tk_isC, List.headD_cons, tk_up, tk_sca, tk_scl, tkF_X6_goOnePlanned, tkS_X6_goOnePlanned, show ¬ w = 0 from by omega, show ¬ w = 2 from by omega, eq_true hw, show ¬ w = 3 from by omega, x_hasTicket, tk_bo_0, f1, hn.1, hn.2, show ¬ S 0 1 ≤ n from by omega, n24, tk_al_2, tk_al_3, tk_al_4, tk_al_5, tk_al_6, tk_al_7, tk_al_8, tk_al_9, tk_al_10, tk_al_11, tk_al_13, tk_al_14, tk_al_16, tk_al_17, tk_al_19, tk_al_20, tk_al_22, tk_al_24, tk_al_25, tk_al_26, tk_al_27, tk_al_28, tk_al_29, tk_al_30, tk_al_32, tk_al_33, tk_al_34, tk_al_35, tk_al_36, tk_al_37, tk_al_38, tk_al_39, tk_al_40, tk_al_41, tk_al_43, tk_al_44, tk_al_46, tk_al_47, tk_al_49, tk_al_50, tk_al_52, tk_al_54, tk_al_55, tk_al_56, tk_al_57, tk_al_58, tk_al_59, tk_al_60, tk_al_62, tk_al_63, tk_al_64, tk_al_65, tk_al_66, tk_al_67, tk_al_68, tk_al_69, tk_al_70, tk_al_71, tk_al_73, tk_al_74, tk_al_76, tk_al_77, tk_al_79, tk_al_80, tk_al_81, tk_al_83, tk_al_85, tk_al_87, tk_al_89, tk_al_91, tk_al_93, tk_al_95, tk_al_97, tk_al_98, tk_al_99, tk_al_100, tk_al_101, tk_al_102, tk_al_103, tk_al_104, tk_al_105, tk_al_106, tk_al_107, tk_al_108, tk_al_109, tk_al_110, tk_al_111, tk_al_112, tk_al_113, tk_al_114, tk_al_115, tk_al_116, tk_al_117, tk_al_118, tk_al_119, tk_al_120, tk_al_121, tk_al_122, tk_al_123, tk_al_124, tk_al_125, tk_al_126, tk_al_127, tk_al_128, tk_al_129]
      refine ref _ (fset _ _ _ (by omega) (by omega)) ?_
      unfold tk_pl1
      rw [if_neg (by omega), if_neg (by omega), if_pos hw]
      exact tk_hw_set (h := 31) (f := 3) (by omega)
    · have hv := (hW.1.2.1 n hn.1 hn.2).2.1
      have ev : μ 33 n = S 2 n := (hE.2.1 n hn.1 hn.2).2.1
      have l1 : tk_imul 2 (S 2 n) = 2 * S 2 n := tk_imul_id (by omega) (by omega)
      have l2 : tk_mn (2 * S 2 n) 9999 = if 4999 < S 2 n then 9999 else 2 * S 2 n := by
        unfold tk_mn
        by_cases h : 4999 < S 2 n
        · rw [if_pos h, if_pos (by omega)]
        · rw [if_neg h, if_neg (by omega)]
      simp [tk_fn, tk_env, tk_sq, tk_sk, tk_if, tk_re, tk_rez, tk_rev, tk_xp, tk_se, tk_pf, tk_pfz, tk_pfo, tk_as, tk_asz, tk_asb, tk_aso, tk_cpy, tk_sw, tk_swc, tk_lit, tk_loc, tk_u1, tk_bin, tk_dv, tk_gf, tk_gr, tk_gn, tk_ald, tk_aldq, tk_aln, tk_unl, tk_una, tk_ter, tk_args, tk_cs, tk_cv, tk_ceq, tk_cne, tk_clt, tk_cge, tk_cgt, tk_cle, tk_zeq, tk_zne, tk_zlt, tk_zge, tk_zgt, tk_zle, tk_and, tk_or, tk_not, tk_ct2, tk_isC, List.headD_cons, tk_up, tk_sca, tk_scl, tkF_X6_goOnePlanned, tkS_X6_goOnePlanned, show ¬ w = 0 from by omega, show ¬ w = 2 from by omega, eq_true hw, show ¬ w = 1 from by omega, x_hasTicket, tk_bo_0, f1, hn.1, hn.2, show ¬ S 0 1 ≤ n from by omega, n24, tk_al_2, tk_al_3, tk_al_4, tk_al_5, tk_al_6, tk_al_7, tk_al_8, tk_al_9, tk_al_10, tk_al_11, tk_al_13, tk_al_14, tk_al_16, tk_al_17, tk_al_19, tk_al_20, tk_al_22, tk_al_24, tk_al_25, tk_al_26, tk_al_27, tk_al_28, tk_al_29, tk_al_30, tk_al_32, tk_al_33, tk_al_34, tk_al_35, tk_al_36, tk_al_37, tk_al_38, tk_al_39, tk_al_40, tk_al_41, tk_al_43, tk_al_44, tk_al_46, tk_al_47, tk_al_49, tk_al_50, tk_al_52, tk_al_54, tk_al_55, tk_al_56, tk_al_57, tk_al_58, tk_al_59, tk_al_60, tk_al_62, tk_al_63, tk_al_64, tk_al_65, tk_al_66, tk_al_67, tk_al_68, tk_al_69, tk_al_70, tk_al_71, tk_al_73, tk_al_74, tk_al_76, tk_al_77, tk_al_79, tk_al_80, tk_al_81, tk_al_83, tk_al_85, tk_al_87, tk_al_89, tk_al_91, tk_al_93, tk_al_95, tk_al_97, tk_al_98, tk_al_99, tk_al_100, tk_al_101, tk_al_102, tk_al_103, tk_al_104, tk_al_105, tk_al_106, tk_al_107, tk_al_108, tk_al_109, tk_al_110, tk_al_111, tk_al_112, tk_al_113, tk_al_114, tk_al_115, tk_al_116, tk_al_117, tk_al_118, tk_al_119, tk_al_120, tk_al_121, tk_al_122, tk_al_123, tk_al_124, tk_al_125, tk_al_126, tk_al_127, tk_al_128, tk_al_129, ev, l1, l2]
      refine ref _ (fset _ _ _ (by omega) (by omega)) ?_
      unfold tk_pl1
      rw [if_neg (show ¬ w = 0 by omega), if_neg (show ¬ w = 2 by omega), if_neg (show ¬ w = 1 by omega)]
      have e2 : tk_hw 31 μ 2 n = S 2 n := ev
      rw [e2]
      exact tk_hw_set (h := 31) (f := 2) (by omega)
  · have n8 : n < 8 := by omega
    simp [tk_fn, tk_env, tk_sq, tk_sk, tk_if, tk_re, tk_rez, tk_rev, tk_xp, tk_se, tk_pf, tk_pfz, tk_pfo, tk_as, tk_asz, tk_asb, tk_aso, tk_cpy, tk_sw, tk_swc, tk_lit, tk_loc, tk_u1, tk_bin, tk_dv, tk_gf, tk_gr, tk_gn, tk_ald, tk_aldq, tk_aln, tk_unl, tk_una, tk_ter, tk_args, tk_cs, tk_cv, tk_ceq, tk_cne, tk_clt, tk_cge, tk_cgt, tk_cle, tk_zeq, tk_zne, tk_zlt, tk_zge, tk_zgt, tk_zle, tk_and, tk_or, tk_not, tk_ct2, tk_isC, List.headD_cons, tk_up, tk_sca, tk_scl, tkF_X6_goOnePlanned, tkS_X6_goOnePlanned, show ¬ w = 0 from by omega, show ¬ w = 1 from by omega, eq_true hw, show ¬ w = 3 from by omega, x_hasClient, tk_bo_0, f2, hn.1, hn.2, show ¬ S 0 2 ≤ n from by omega, n8, tk_al_2, tk_al_3, tk_al_4, tk_al_5, tk_al_6, tk_al_7, tk_al_8, tk_al_9, tk_al_10, tk_al_11, tk_al_13, tk_al_14, tk_al_16, tk_al_17, tk_al_19, tk_al_20, tk_al_22, tk_al_24, tk_al_25, tk_al_26, tk_al_27, tk_al_28, tk_al_29, tk_al_30, tk_al_32, tk_al_33, tk_al_34, tk_al_35, tk_al_36, tk_al_37, tk_al_38, tk_al_39, tk_al_40, tk_al_41, tk_al_43, tk_al_44, tk_al_46, tk_al_47, tk_al_49, tk_al_50, tk_al_52, tk_al_54, tk_al_55, tk_al_56, tk_al_57, tk_al_58, tk_al_59, tk_al_60, tk_al_62, tk_al_63, tk_al_64, tk_al_65, tk_al_66, tk_al_67, tk_al_68, tk_al_69, tk_al_70, tk_al_71, tk_al_73, tk_al_74, tk_al_76, tk_al_77, tk_al_79, tk_al_80, tk_al_81, tk_al_83, tk_al_85, tk_al_87, tk_al_89, tk_al_91, tk_al_93, tk_al_95, tk_al_97, tk_al_98, tk_al_99, tk_al_100, tk_al_101, tk_al_102, tk_al_103, tk_al_104, tk_al_105, tk_al_106, tk_al_107, tk_al_108, tk_al_109, tk_al_110, tk_al_111, tk_al_112, tk_al_113, tk_al_114, tk_al_115, tk_al_116, tk_al_117, tk_al_118, tk_al_119, tk_al_120, tk_al_121, tk_al_122, tk_al_123, tk_al_124, tk_al_125, tk_al_126, tk_al_127, tk_al_128, tk_al_129]
    refine ref _ (fset _ _ _ (by omega) (by omega)) ?_
    unfold tk_pl1
    rw [if_neg (by omega), if_pos hw]
    exact tk_hw_set (h := 31) (f := 9) (by omega)
/-- what the Model writes as it plans -/
def tk_fp (μ μ' : tk_M) : Prop := ∀ o i : Int, ¬ ((97 ≤ o ∧ o ≤ 112) ∨ (116 ≤ o ∧ o ≤ 120) ∨ (o = 96 ∧ (i = 13 ∨ i = 14 ∨ i = 37))) → μ' o i = μ o i
theorem tk_mv_105 {μ : tk_M} {i v : Int} : tk_mv (tk_set μ 105 i v) = tk_set (tk_mv μ) 9 i v := by
  funext f j
  unfold tk_mv tk_set
  by_cases h : f = 9
  · subst h; simp
  · simp [h]
theorem m_pl1 {b k : Int} {S μ : tk_M} {Q : Int → tk_M → Prop} (hE : tk_EE S (tk_mv μ)) (hW : tk_WW b S) (hb : b ≤ 400000) (hk : 0 ≤ k ∧ k < 10) (hp : tk_pok S (μ 109 k) (μ 110 k)) (hQ : ∀ m', tk_fp μ m' → tk_EE (tk_pl1 S (μ 109 k) (μ 110 k)) (tk_mv m') → Q 0 m') : tkF_X7_planned [96, k] Q μ := by
  have hz : 0 ≤ S 0 1 ∧ S 0 1 ≤ 24 := hW.1.1.2.1
  have hz2 : 0 ≤ S 0 2 ∧ S 0 2 ≤ 8 := hW.1.1.2.2.1
  have hE1 := tk_EE_pl1 hE hW.1 hp
  generalize hw' : μ 109 k = w at hp hQ hE1
  generalize hn' : μ 110 k = n at hp hQ hE1
  have fset : ∀ o i v : Int, 97 ≤ o → o ≤ 112 → tk_fp μ (tk_set μ o i v) := fun o i v h1 h2 o' j ho => by
    unfold tk_set
    rw [if_neg (by omega)]
  rcases hp with hw | ⟨hw, hn⟩ | ⟨hw, hn⟩
  · subst hw
    simp [tk_fn, tk_env, tk_sq, tk_sk, tk_if, tk_re, tk_rez, tk_rev, tk_xp, tk_se, tk_pf, tk_pfz, tk_pfo, tk_as, tk_asz, tk_asb, tk_aso, tk_cpy, tk_sw, tk_swc, tk_lit, tk_loc, tk_u1, tk_bin, tk_dv, tk_gf, tk_gr, tk_gn, tk_ald, tk_aldq, tk_aln, tk_unl, tk_una, tk_ter, tk_args, tk_cs, tk_cv, tk_ceq, tk_cne, tk_clt, tk_cge, tk_cgt, tk_cle, tk_zeq, tk_zne, tk_zlt, tk_zge, tk_zgt, tk_zle, tk_and, tk_or, tk_not, tk_ct2, tk_isC, List.headD_cons, tk_up, tk_sca, tk_scl, tkF_X7_planned, tkS_X7_planned, hw', hn', hk.1, hk.2, tk_al_2, tk_al_3, tk_al_4, tk_al_5, tk_al_6, tk_al_7, tk_al_8, tk_al_9, tk_al_10, tk_al_11, tk_al_13, tk_al_14, tk_al_16, tk_al_17, tk_al_19, tk_al_20, tk_al_22, tk_al_24, tk_al_25, tk_al_26, tk_al_27, tk_al_28, tk_al_29, tk_al_30, tk_al_32, tk_al_33, tk_al_34, tk_al_35, tk_al_36, tk_al_37, tk_al_38, tk_al_39, tk_al_40, tk_al_41, tk_al_43, tk_al_44, tk_al_46, tk_al_47, tk_al_49, tk_al_50, tk_al_52, tk_al_54, tk_al_55, tk_al_56, tk_al_57, tk_al_58, tk_al_59, tk_al_60, tk_al_62, tk_al_63, tk_al_64, tk_al_65, tk_al_66, tk_al_67, tk_al_68, tk_al_69, tk_al_70, tk_al_71, tk_al_73, tk_al_74, tk_al_76, tk_al_77, tk_al_79, tk_al_80, tk_al_81, tk_al_83, tk_al_85, tk_al_87, tk_al_89, tk_al_91, tk_al_93, tk_al_95, tk_al_97, tk_al_98, tk_al_99, tk_al_100, tk_al_101, tk_al_102, tk_al_103, tk_al_104, tk_al_105, tk_al_106, tk_al_107, tk_al_108, tk_al_109, tk_al_110, tk_al_111, tk_al_112, tk_al_113, tk_al_114, tk_al_115, tk_al_116, tk_al_117, tk_al_118, tk_al_119, tk_al_120, tk_al_121, tk_al_122, tk_al_123, tk_al_124, tk_al_125, tk_al_126, tk_al_127, tk_al_128, tk_al_129]
    refine m_goByPasses (b := b) (tk_W5_EE hE hW.1) (tk_JL_EE hE hW.2) (by omega) (by omega) (fun m1 hf1 he1 hm1 => ?_)
    refine hQ m1 (fun o i ho => hf1 o i (by omega)) ?_
    have e : tk_gp (tk_shr (tk_mv μ)) (tk_mv μ) (1 : Int).toNat = tk_pl1 (tk_mv μ) 0 n := by
      unfold tk_pl1
      rw [if_pos rfl]
      rfl
    rw [he1, e]
    exact hE1
  · have n24 : n < 24 := by omega
    rcases hw with hw | hw
    · subst hw
      simp [tk_fn, tk_env, tk_sq, tk_sk, tk_if, tk_re, tk_rez, tk_rev, tk_xp, tk_se, tk_pf, tk_pfz, tk_pfo, tk_as, tk_asz, tk_asb, tk_aso, tk_cpy, tk_sw, tk_swc, tk_lit, tk_loc, tk_u1, tk_bin, tk_dv, tk_gf, tk_gr, tk_gn, tk_ald, tk_aldq, tk_aln, tk_unl, tk_una, tk_ter, tk_args, tk_cs, tk_cv, tk_ceq, tk_cne, tk_clt, tk_cge, tk_cgt, tk_cle, tk_zeq, tk_zne, tk_zlt, tk_zge, tk_zgt, tk_zle, tk_and, tk_or, tk_not, tk_ct2, tk_isC, List.headD_cons, tk_up, tk_sca, tk_scl, tkF_X7_planned, tkS_X7_planned, hw', hn', hk.1, hk.2, hn.1, n24, tk_al_2, tk_al_3, tk_al_4, tk_al_5, tk_al_6, tk_al_7, tk_al_8, tk_al_9, tk_al_10, tk_al_11, tk_al_13, tk_al_14, tk_al_16, tk_al_17, tk_al_19, tk_al_20, tk_al_22, tk_al_24, tk_al_25, tk_al_26, tk_al_27, tk_al_28, tk_al_29, tk_al_30, tk_al_32, tk_al_33, tk_al_34, tk_al_35, tk_al_36, tk_al_37, tk_al_38, tk_al_39, tk_al_40, tk_al_41, tk_al_43, tk_al_44, tk_al_46, tk_al_47, tk_al_49, tk_al_50, tk_al_52, tk_al_54, tk_al_55, tk_al_56, tk_al_57, tk_al_58, tk_al_59, tk_al_60, tk_al_62, tk_al_63, tk_al_64, tk_al_65, tk_al_66, tk_al_67, tk_al_68, tk_al_69, tk_al_70, tk_al_71, tk_al_73, tk_al_74, tk_al_76, tk_al_77, tk_al_79, tk_al_80, tk_al_81, tk_al_83, tk_al_85, tk_al_87, tk_al_89, tk_al_91, tk_al_93, tk_al_95, tk_al_97, tk_al_98, tk_al_99, tk_al_100, tk_al_101, tk_al_102, tk_al_103, tk_al_104, tk_al_105, tk_al_106, tk_al_107, tk_al_108, tk_al_109, tk_al_110, tk_al_111, tk_al_112, tk_al_113, tk_al_114, tk_al_115, tk_al_116, tk_al_117, tk_al_118, tk_al_119, tk_al_120, tk_al_121, tk_al_122, tk_al_123, tk_al_124, tk_al_125, tk_al_126, tk_al_127, tk_al_128, tk_al_129]
      refine hQ _ (fset _ _ _ (by omega) (by omega)) ?_
      rw [tk_mv_99]
      have e : tk_pl1 (tk_mv μ) 1 n = tk_set (tk_mv μ) 3 n (-5) := by
        unfold tk_pl1
        rw [if_neg (by omega), if_neg (by omega), if_pos rfl]
      rw [← e]
      exact hE1
    · subst hw
      have hv := (hW.1.2.1 n hn.1 hn.2).2.1
      have ev : μ 98 n = S 2 n := (hE.2.1 n hn.1 hn.2).2.1
      have e : tk_pl1 (tk_mv μ) 3 n = tk_set (tk_mv μ) 2 n (if 4999 < μ 98 n then 9999 else 2 * μ 98 n) := by
        unfold tk_pl1
        rw [if_neg (by omega), if_neg (by omega), if_neg (by omega)]
        rfl
      rw [e] at hE1
      by_cases h5 : 4999 < μ 98 n
      · rw [if_pos h5] at hE1
        simp [tk_fn, tk_env, tk_sq, tk_sk, tk_if, tk_re, tk_rez, tk_rev, tk_xp, tk_se, tk_pf, tk_pfz, tk_pfo, tk_as, tk_asz, tk_asb, tk_aso, tk_cpy, tk_sw, tk_swc, tk_lit, tk_loc, tk_u1, tk_bin, tk_dv, tk_gf, tk_gr, tk_gn, tk_ald, tk_aldq, tk_aln, tk_unl, tk_una, tk_ter, tk_args, tk_cs, tk_cv, tk_ceq, tk_cne, tk_clt, tk_cge, tk_cgt, tk_cle, tk_zeq, tk_zne, tk_zlt, tk_zge, tk_zgt, tk_zle, tk_and, tk_or, tk_not, tk_ct2, tk_isC, List.headD_cons, tk_up, tk_sca, tk_scl, tkF_X7_planned, tkS_X7_planned, hw', hn', hk.1, hk.2, hn.1, n24, tk_al_2, tk_al_3, tk_al_4, tk_al_5, tk_al_6, tk_al_7, tk_al_8, tk_al_9, tk_al_10, tk_al_11, tk_al_13, tk_al_14, tk_al_16, tk_al_17, tk_al_19, tk_al_20, tk_al_22, tk_al_24, tk_al_25, tk_al_26, tk_al_27, tk_al_28, tk_al_29, tk_al_30, tk_al_32, tk_al_33, tk_al_34, tk_al_35, tk_al_36, tk_al_37, tk_al_38, tk_al_39, tk_al_40, tk_al_41, tk_al_43, tk_al_44, tk_al_46, tk_al_47, tk_al_49, tk_al_50, tk_al_52, tk_al_54, tk_al_55, tk_al_56, tk_al_57, tk_al_58, tk_al_59, tk_al_60, tk_al_62, tk_al_63, tk_al_64, tk_al_65, tk_al_66, tk_al_67, tk_al_68, tk_al_69, tk_al_70, tk_al_71, tk_al_73, tk_al_74, tk_al_76, tk_al_77, tk_al_79, tk_al_80, tk_al_81, tk_al_83, tk_al_85, tk_al_87, tk_al_89, tk_al_91, tk_al_93, tk_al_95, tk_al_97, tk_al_98, tk_al_99, tk_al_100, tk_al_101, tk_al_102, tk_al_103, tk_al_104, tk_al_105, tk_al_106, tk_al_107, tk_al_108, tk_al_109, tk_al_110, tk_al_111, tk_al_112, tk_al_113, tk_al_114, tk_al_115, tk_al_116, tk_al_117, tk_al_118, tk_al_119, tk_al_120, tk_al_121, tk_al_122, tk_al_123, tk_al_124, tk_al_125, tk_al_126, tk_al_127, tk_al_128, tk_al_129, h5]
        refine hQ _ (fset _ _ _ (by omega) (by omega)) ?_
        rw [tk_mv_98]
        exact hE1
      · rw [if_neg h5] at hE1
        have l1 : tk_imul 2 (μ 98 n) = 2 * μ 98 n := tk_imul_id (by omega) (by omega)
        simp [tk_fn, tk_env, tk_sq, tk_sk, tk_if, tk_re, tk_rez, tk_rev, tk_xp, tk_se, tk_pf, tk_pfz, tk_pfo, tk_as, tk_asz, tk_asb, tk_aso, tk_cpy, tk_sw, tk_swc, tk_lit, tk_loc, tk_u1, tk_bin, tk_dv, tk_gf, tk_gr, tk_gn, tk_ald, tk_aldq, tk_aln, tk_unl, tk_una, tk_ter, tk_args, tk_cs, tk_cv, tk_ceq, tk_cne, tk_clt, tk_cge, tk_cgt, tk_cle, tk_zeq, tk_zne, tk_zlt, tk_zge, tk_zgt, tk_zle, tk_and, tk_or, tk_not, tk_ct2, tk_isC, List.headD_cons, tk_up, tk_sca, tk_scl, tkF_X7_planned, tkS_X7_planned, hw', hn', hk.1, hk.2, hn.1, n24, tk_al_2, tk_al_3, tk_al_4, tk_al_5, tk_al_6, tk_al_7, tk_al_8, tk_al_9, tk_al_10, tk_al_11, tk_al_13, tk_al_14, tk_al_16, tk_al_17, tk_al_19, tk_al_20, tk_al_22, tk_al_24, tk_al_25, tk_al_26, tk_al_27, tk_al_28, tk_al_29, tk_al_30, tk_al_32, tk_al_33, tk_al_34, tk_al_35, tk_al_36, tk_al_37, tk_al_38, tk_al_39, tk_al_40, tk_al_41, tk_al_43, tk_al_44, tk_al_46, tk_al_47, tk_al_49, tk_al_50, tk_al_52, tk_al_54, tk_al_55, tk_al_56, tk_al_57, tk_al_58, tk_al_59, tk_al_60, tk_al_62, tk_al_63, tk_al_64, tk_al_65, tk_al_66, tk_al_67, tk_al_68, tk_al_69, tk_al_70, tk_al_71, tk_al_73, tk_al_74, tk_al_76, tk_al_77, tk_al_79, tk_al_80, tk_al_81, tk_al_83, tk_al_85, tk_al_87, tk_al_89, tk_al_91, tk_al_93, tk_al_95, tk_al_97, tk_al_98, tk_al_99, tk_al_100, tk_al_101, tk_al_102, tk_al_103, tk_al_104, tk_al_105, tk_al_106, tk_al_107, tk_al_108, tk_al_109, tk_al_110, tk_al_111, tk_al_112, tk_al_113, tk_al_114, tk_al_115, tk_al_116, tk_al_117, tk_al_118, tk_al_119, tk_al_120, tk_al_121, tk_al_122, tk_al_123, tk_al_124, tk_al_125, tk_al_126, tk_al_127, tk_al_128, tk_al_129, h5, l1]
        refine hQ _ (fset _ _ _ (by omega) (by omega)) ?_
        rw [tk_mv_98]
        exact hE1
  · subst hw
    have n8 : n < 8 := by omega
    simp [tk_fn, tk_env, tk_sq, tk_sk, tk_if, tk_re, tk_rez, tk_rev, tk_xp, tk_se, tk_pf, tk_pfz, tk_pfo, tk_as, tk_asz, tk_asb, tk_aso, tk_cpy, tk_sw, tk_swc, tk_lit, tk_loc, tk_u1, tk_bin, tk_dv, tk_gf, tk_gr, tk_gn, tk_ald, tk_aldq, tk_aln, tk_unl, tk_una, tk_ter, tk_args, tk_cs, tk_cv, tk_ceq, tk_cne, tk_clt, tk_cge, tk_cgt, tk_cle, tk_zeq, tk_zne, tk_zlt, tk_zge, tk_zgt, tk_zle, tk_and, tk_or, tk_not, tk_ct2, tk_isC, List.headD_cons, tk_up, tk_sca, tk_scl, tkF_X7_planned, tkS_X7_planned, hw', hn', hk.1, hk.2, hn.1, n8, tk_al_2, tk_al_3, tk_al_4, tk_al_5, tk_al_6, tk_al_7, tk_al_8, tk_al_9, tk_al_10, tk_al_11, tk_al_13, tk_al_14, tk_al_16, tk_al_17, tk_al_19, tk_al_20, tk_al_22, tk_al_24, tk_al_25, tk_al_26, tk_al_27, tk_al_28, tk_al_29, tk_al_30, tk_al_32, tk_al_33, tk_al_34, tk_al_35, tk_al_36, tk_al_37, tk_al_38, tk_al_39, tk_al_40, tk_al_41, tk_al_43, tk_al_44, tk_al_46, tk_al_47, tk_al_49, tk_al_50, tk_al_52, tk_al_54, tk_al_55, tk_al_56, tk_al_57, tk_al_58, tk_al_59, tk_al_60, tk_al_62, tk_al_63, tk_al_64, tk_al_65, tk_al_66, tk_al_67, tk_al_68, tk_al_69, tk_al_70, tk_al_71, tk_al_73, tk_al_74, tk_al_76, tk_al_77, tk_al_79, tk_al_80, tk_al_81, tk_al_83, tk_al_85, tk_al_87, tk_al_89, tk_al_91, tk_al_93, tk_al_95, tk_al_97, tk_al_98, tk_al_99, tk_al_100, tk_al_101, tk_al_102, tk_al_103, tk_al_104, tk_al_105, tk_al_106, tk_al_107, tk_al_108, tk_al_109, tk_al_110, tk_al_111, tk_al_112, tk_al_113, tk_al_114, tk_al_115, tk_al_116, tk_al_117, tk_al_118, tk_al_119, tk_al_120, tk_al_121, tk_al_122, tk_al_123, tk_al_124, tk_al_125, tk_al_126, tk_al_127, tk_al_128, tk_al_129]
    refine hQ _ (fset _ _ _ (by omega) (by omega)) ?_
    rw [tk_mv_105]
    have e : tk_pl1 (tk_mv μ) 2 n = tk_set (tk_mv μ) 9 n (-5) := by
      unfold tk_pl1
      rw [if_neg (by omega), if_pos rfl]
    rw [← e]
    exact hE1
theorem x_ranOfAll31 {b : Int} {μ : tk_M} {Q : Int → tk_M → Prop} (hJ : tk_J b (tk_hw 31 μ)) (hbb : b ≤ 1000000) (hQ : Q (tk_sm (μ 31 2) (fun c => μ 37 c)) μ) : tkF_X2_ranOfAll [31] Q μ := by
  obtain ⟨g1, g2, g3, g4, g5⟩ := x_hJ31 hJ
  have hbd : ∀ i : Int, 0 ≤ i → i ≤ μ 31 2 → 0 ≤ tk_sm i (fun c => μ 37 c) ∧ tk_sm i (fun c => μ 37 c) ≤ i * 1000000 := fun i h1 h2 => tk_sm_bd h1 (fun c h3 h4 => by
    have := (g4 c h3 (by omega)).2.2.1
    (try dsimp only)
    omega)
  simp [tk_fn, tk_env, tk_sq, tk_sk, tk_if, tk_re, tk_rez, tk_rev, tk_xp, tk_se, tk_pf, tk_pfz, tk_pfo, tk_as, tk_asz, tk_asb, tk_aso, tk_cpy, tk_sw, tk_swc, tk_lit, tk_loc, tk_u1, tk_bin, tk_dv, tk_gf, tk_gr, tk_gn, tk_ald, tk_aldq, tk_aln, tk_unl, tk_una, tk_ter, tk_args, tk_cs, tk_cv, tk_ceq, tk_cne, tk_clt, tk_cge, tk_cgt, tk_cle, tk_zeq, tk_zne, tk_zlt, tk_zge, tk_zgt, tk_zle, tk_and, tk_or, tk_not, tk_ct2, tk_isC, List.headD_cons, tk_up, tk_sca, tk_scl, tkF_X2_ranOfAll, tkS_X2_ranOfAll]
  refine tk_for (μ 31 2) (fun i ρ μ' => μ' = μ ∧ ρ 0 = 31 ∧ ρ 2 = i ∧ ρ 1 = tk_sm i (fun c => μ 37 c)) g1.1 ⟨rfl, rfl, rfl, rfl⟩ ?_ ?_
  · rintro i ρ μ' hi0 hi6 ⟨rfl, r0, r2, r1⟩ K hK
    have i1 : tk_iadd i 1 = i + 1 := tk_iadd_id (by omega) (by omega)
    have h8 : i < 8 := by omega
    have h1 := hbd i hi0 (by omega)
    have h2 := (g4 i hi0 hi6).2.2.1
    have l1 : tk_iadd (tk_sm i (fun c => μ' 37 c)) (μ' 37 i) = tk_sm i (fun c => μ' 37 c) + μ' 37 i := tk_iadd_id (by omega) (by omega)
    simp [tk_fn, tk_env, tk_sq, tk_sk, tk_if, tk_re, tk_rez, tk_rev, tk_xp, tk_se, tk_pf, tk_pfz, tk_pfo, tk_as, tk_asz, tk_asb, tk_aso, tk_cpy, tk_sw, tk_swc, tk_lit, tk_loc, tk_u1, tk_bin, tk_dv, tk_gf, tk_gr, tk_gn, tk_ald, tk_aldq, tk_aln, tk_unl, tk_una, tk_ter, tk_args, tk_cs, tk_cv, tk_ceq, tk_cne, tk_clt, tk_cge, tk_cgt, tk_cle, tk_zeq, tk_zne, tk_zlt, tk_zge, tk_zgt, tk_zle, tk_and, tk_or, tk_not, tk_ct2, tk_isC, List.headD_cons, tk_up, tk_sca, tk_scl, r0, r1, r2, hi0, hi6, h8, tk_al_2, tk_al_3, tk_al_4, tk_al_5, tk_al_6, tk_al_7, tk_al_8, tk_al_9, tk_al_10, tk_al_11, tk_al_13, tk_al_14, tk_al_16, tk_al_17, tk_al_19, tk_al_20, tk_al_22, tk_al_24, tk_al_25, tk_al_26, tk_al_27, tk_al_28, tk_al_29, tk_al_30, tk_al_32, tk_al_33, tk_al_34, tk_al_35, tk_al_36, tk_al_37, tk_al_38, tk_al_39, tk_al_40, tk_al_41, tk_al_43, tk_al_44, tk_al_46, tk_al_47, tk_al_49, tk_al_50, tk_al_52, tk_al_54, tk_al_55, tk_al_56, tk_al_57, tk_al_58, tk_al_59, tk_al_60, tk_al_62, tk_al_63, tk_al_64, tk_al_65, tk_al_66, tk_al_67, tk_al_68, tk_al_69, tk_al_70, tk_al_71, tk_al_73, tk_al_74, tk_al_76, tk_al_77, tk_al_79, tk_al_80, tk_al_81, tk_al_83, tk_al_85, tk_al_87, tk_al_89, tk_al_91, tk_al_93, tk_al_95, tk_al_97, tk_al_98, tk_al_99, tk_al_100, tk_al_101, tk_al_102, tk_al_103, tk_al_104, tk_al_105, tk_al_106, tk_al_107, tk_al_108, tk_al_109, tk_al_110, tk_al_111, tk_al_112, tk_al_113, tk_al_114, tk_al_115, tk_al_116, tk_al_117, tk_al_118, tk_al_119, tk_al_120, tk_al_121, tk_al_122, tk_al_123, tk_al_124, tk_al_125, tk_al_126, tk_al_127, tk_al_128, tk_al_129, i1, l1]
    exact hK _ _ ⟨rfl, r0, rfl, (tk_sm_s hi0).symm⟩
  · rintro ρ μ' ⟨rfl, r0, r2, r1⟩ X
    simp [tk_fn, tk_env, tk_sq, tk_sk, tk_if, tk_re, tk_rez, tk_rev, tk_xp, tk_se, tk_pf, tk_pfz, tk_pfo, tk_as, tk_asz, tk_asb, tk_aso, tk_cpy, tk_sw, tk_swc, tk_lit, tk_loc, tk_u1, tk_bin, tk_dv, tk_gf, tk_gr, tk_gn, tk_ald, tk_aldq, tk_aln, tk_unl, tk_una, tk_ter, tk_args, tk_cs, tk_cv, tk_ceq, tk_cne, tk_clt, tk_cge, tk_cgt, tk_cle, tk_zeq, tk_zne, tk_zlt, tk_zge, tk_zgt, tk_zle, tk_and, tk_or, tk_not, tk_ct2, tk_isC, List.headD_cons, tk_up, tk_sca, tk_scl, r0, r1, r2]
    exact hQ
/-- the plan, so far -/
def tk_pls (S : tk_M) : Nat → tk_M
  | 0 => S
  | k + 1 => tk_pl1 (tk_pls S k) (S 15 k) (S 16 k)
theorem tk_pls_s {S : tk_M} {i : Int} (hi : 0 ≤ i) : tk_pls S (i + 1).toNat = tk_pl1 (tk_pls S i.toNat) (S 15 i) (S 16 i) := by
  obtain ⟨m, rfl⟩ := tk_nnt hi
  have e : ((m : Int) + 1).toNat = m + 1 := by omega
  rw [e, Int.toNat_natCast]
  rfl
theorem tk_pl1_o {S : tk_M} {w n f i : Int} (hf : 10 ≤ f ∨ f = 1 ∨ (f = 0 ∧ ¬ i = 3 ∧ ¬ i = 4)) : tk_pl1 S w n f i = S f i := by
  unfold tk_pl1
  split
  · exact tk_qp_o (by omega) (by omega) (by omega) (by omega)
  · split
    · exact tk_set_o (by omega)
    · split
      · exact tk_set_o (by omega)
      · exact tk_set_o (by omega)
theorem tk_pls_o {S : tk_M} {f i : Int} (hf : 10 ≤ f ∨ f = 1 ∨ (f = 0 ∧ ¬ i = 3 ∧ ¬ i = 4)) (k : Nat) : tk_pls S k f i = S f i := by
  induction k with
  | zero => rfl
  | succ k ih => unfold tk_pls; rw [tk_pl1_o hf, ih]
theorem tk_pok_i {S : tk_M} (hI : tk_II S) {i : Int} (hi : 0 ≤ i ∧ i < S 14 0) : tk_pok (tk_pls S i.toNat) (S 15 i) (S 16 i) := by
  unfold tk_pok
  rw [tk_pls_o (by omega), tk_pls_o (by omega)]
  have := hI.2.2.2.2.2.1.2 i hi.1 hi.2
  omega
theorem tk_WW_pls {S : tk_M} (hI : tk_II S) {i : Int} (hi : 0 ≤ i ∧ i ≤ S 14 0) : tk_WW (99999 + 10 * i) (tk_pls S i.toNat) := by
  have hz := hI.2.2.2.2.2.1.1
  refine tk_ind (P := fun i => i ≤ S 14 0 → tk_WW (99999 + 10 * i) (tk_pls S i.toNat)) (fun _ => by rw [show (99999 : Int) + 10 * 0 = 99999 by omega]; exact ⟨tk_I5s hI, tk_J_of hI⟩) (fun i h1 ih h2 => ?_) i hi.1 hi.2
  rw [tk_pls_s h1, show 99999 + 10 * (i + 1) = 99999 + 10 * i + 10 by omega]
  exact tk_WW_pl1 (ih (by omega)) (by omega) (tk_pok_i hI ⟨h1, by omega⟩)
theorem x_ends_l {μ : tk_M} (hI : tk_II (tk_hw 1 μ)) {ρ : tk_L} {Qn : tk_L → tk_M → Prop} {Qr : Int → tk_M → Prop} {μ0 : tk_M} (hf0 : tk_f1 31 60 μ μ0) (hE0 : tk_EE (tk_hw 1 μ) (tk_hw 31 μ0)) (hs0 : tk_xsh 31 (tk_shr (tk_hw 1 μ)) μ0) (hd0 : tk_xd 31 (tk_shr (tk_hw 1 μ)) μ0) (p0 : ρ 0 = 0) (p2 : ρ 2 = 0) (hQ : ∀ (ρ' : tk_L) μ', ρ' 0 = 0 → ρ' 1 = ρ 1 → tk_f1 31 60 μ μ' → tk_EE (tk_pls (tk_hw 1 μ) (μ 15 0).toNat) (tk_hw 31 μ') → tk_xd 31 (tk_shr (tk_pls (tk_hw 1 μ) (μ 15 0).toNat)) μ' → Qn ρ' μ') : tk_wh (tk_clt (tk_loc 2) (tk_gf 3 0 (tk_gr 2 (14) (tk_gr 6 (31) (tk_loc 0))))) (tk_sq (tk_xp (tk_cv 6 tkF_X6_goOnePlanned [(tk_loc 0), (tk_ald 0 (tk_gr 3 (1) (tk_gr 2 (14) (tk_gr 6 (31) (tk_loc 0)))) (tk_loc 2)), (tk_ald 0 (tk_gr 3 (2) (tk_gr 2 (14) (tk_gr 6 (31) (tk_loc 0)))) (tk_loc 2))])) (tk_se 2 (tk_bin tk_iadd (tk_loc 2) (tk_lit (1))))) Qn Qr ρ μ0 := by
  have hz : 0 ≤ μ 15 0 ∧ μ 15 0 ≤ 10 := hI.2.2.2.2.2.1.1
  refine tk_for (μ 15 0) (fun i ρ' μ' => tk_f1 31 60 μ μ' ∧ tk_EE (tk_pls (tk_hw 1 μ) i.toNat) (tk_hw 31 μ') ∧ tk_xsh 31 (tk_shr (tk_pls (tk_hw 1 μ) i.toNat)) μ' ∧ tk_xd 31 (tk_shr (tk_pls (tk_hw 1 μ) i.toNat)) μ' ∧ ρ' 0 = 0 ∧ ρ' 1 = ρ 1 ∧ ρ' 2 = i) hz.1 ⟨hf0, hE0, hs0, hd0, p0, rfl, p2⟩ ?_ ?_
  · rintro i ρ' μ' hi0 hi6 ⟨hf, hE, hs, hd, r0, r1, r2⟩ K hK
    have i1 : tk_iadd i 1 = i + 1 := tk_iadd_id (by omega) (by omega)
    have i10 : i < 10 := by omega
    have f45 : μ' 45 0 = μ 15 0 := by
      have h : μ' 45 0 = tk_pls (tk_hw 1 μ) i.toNat 14 0 := hE.2.2.2.2.2.1.1
      rw [h, tk_pls_o (by omega)]
      rfl
    have hlt : i < tk_pls (tk_hw 1 μ) i.toNat 14 0 := by
      rw [tk_pls_o (by omega)]
      exact hi6
    have hrow := hE.2.2.2.2.2.1.2 i hi0 hlt
    have f46 : μ' 46 i = tk_hw 1 μ 15 i := by
      have h : μ' 46 i = tk_pls (tk_hw 1 μ) i.toNat 15 i := hrow.1
      rw [h, tk_pls_o (by omega)]
    have f47 : μ' 47 i = tk_hw 1 μ 16 i := by
      have h : μ' 47 i = tk_pls (tk_hw 1 μ) i.toNat 16 i := hrow.2
      rw [h, tk_pls_o (by omega)]
    have hW := tk_WW_pls hI (i := i) ⟨hi0, by have : tk_hw 1 μ 14 0 = μ 15 0 := rfl; omega⟩
    have hp := tk_pok_i hI (i := i) ⟨hi0, hi6⟩
    have hps := tk_pls_s (S := tk_hw 1 μ) hi0
    simp [tk_fn, tk_env, tk_sq, tk_sk, tk_if, tk_re, tk_rez, tk_rev, tk_xp, tk_se, tk_pf, tk_pfz, tk_pfo, tk_as, tk_asz, tk_asb, tk_aso, tk_cpy, tk_sw, tk_swc, tk_lit, tk_loc, tk_u1, tk_bin, tk_dv, tk_gf, tk_gr, tk_gn, tk_ald, tk_aldq, tk_aln, tk_unl, tk_una, tk_ter, tk_args, tk_cs, tk_cv, tk_ceq, tk_cne, tk_clt, tk_cge, tk_cgt, tk_cle, tk_zeq, tk_zne, tk_zlt, tk_zge, tk_zgt, tk_zle, tk_and, tk_or, tk_not, tk_ct2, tk_isC, List.headD_cons, tk_up, tk_sca, tk_scl, r0, r2, f45, hi0, hi6, i10, tk_al_2, tk_al_3, tk_al_4, tk_al_5, tk_al_6, tk_al_7, tk_al_8, tk_al_9, tk_al_10, tk_al_11, tk_al_13, tk_al_14, tk_al_16, tk_al_17, tk_al_19, tk_al_20, tk_al_22, tk_al_24, tk_al_25, tk_al_26, tk_al_27, tk_al_28, tk_al_29, tk_al_30, tk_al_32, tk_al_33, tk_al_34, tk_al_35, tk_al_36, tk_al_37, tk_al_38, tk_al_39, tk_al_40, tk_al_41, tk_al_43, tk_al_44, tk_al_46, tk_al_47, tk_al_49, tk_al_50, tk_al_52, tk_al_54, tk_al_55, tk_al_56, tk_al_57, tk_al_58, tk_al_59, tk_al_60, tk_al_62, tk_al_63, tk_al_64, tk_al_65, tk_al_66, tk_al_67, tk_al_68, tk_al_69, tk_al_70, tk_al_71, tk_al_73, tk_al_74, tk_al_76, tk_al_77, tk_al_79, tk_al_80, tk_al_81, tk_al_83, tk_al_85, tk_al_87, tk_al_89, tk_al_91, tk_al_93, tk_al_95, tk_al_97, tk_al_98, tk_al_99, tk_al_100, tk_al_101, tk_al_102, tk_al_103, tk_al_104, tk_al_105, tk_al_106, tk_al_107, tk_al_108, tk_al_109, tk_al_110, tk_al_111, tk_al_112, tk_al_113, tk_al_114, tk_al_115, tk_al_116, tk_al_117, tk_al_118, tk_al_119, tk_al_120, tk_al_121, tk_al_122, tk_al_123, tk_al_124, tk_al_125, tk_al_126, tk_al_127, tk_al_128, tk_al_129, i1, f46, f47]
    refine x_go1 hE hW (by omega) hs hd hp (fun μ2 hf2 hE2 hs2 hd2 => ?_)
    rw [← hps] at hE2 hs2 hd2
    exact hK _ _ ⟨fun o j ho => by rw [hf2 o j ho]; exact hf o j ho, hE2, hs2, hd2, r0, r1, rfl⟩
  · rintro ρ' μ' ⟨hf, hE, hs, hd, r0, r1, r2⟩ X
    have f45 : μ' 45 0 = μ 15 0 := by
      have h : μ' 45 0 = tk_pls (tk_hw 1 μ) (μ 15 0).toNat 14 0 := hE.2.2.2.2.2.1.1
      rw [h, tk_pls_o (by omega)]
      rfl
    simp [tk_fn, tk_env, tk_sq, tk_sk, tk_if, tk_re, tk_rez, tk_rev, tk_xp, tk_se, tk_pf, tk_pfz, tk_pfo, tk_as, tk_asz, tk_asb, tk_aso, tk_cpy, tk_sw, tk_swc, tk_lit, tk_loc, tk_u1, tk_bin, tk_dv, tk_gf, tk_gr, tk_gn, tk_ald, tk_aldq, tk_aln, tk_unl, tk_una, tk_ter, tk_args, tk_cs, tk_cv, tk_ceq, tk_cne, tk_clt, tk_cge, tk_cgt, tk_cle, tk_zeq, tk_zne, tk_zlt, tk_zge, tk_zgt, tk_zle, tk_and, tk_or, tk_not, tk_ct2, tk_isC, List.headD_cons, tk_up, tk_sca, tk_scl, r0, r2, f45]
    exact hQ ρ' μ' r0 r1 hf hE hd
theorem m_ends_l {μ : tk_M} {S : tk_M} (hI : tk_II S) {ρ : tk_L} {Qn : tk_L → tk_M → Prop} {Qr : Int → tk_M → Prop} {m0 : tk_M} (hE0 : tk_EE S (tk_mv m0)) (p0 : ρ 0 = 96) (p2 : ρ 2 = 0) (hQ : ∀ (ρ' : tk_L) m', ρ' 0 = 96 → ρ' 1 = ρ 1 → tk_fp m0 m' → tk_EE (tk_pls S (S 14 0).toNat) (tk_mv m') → Qn ρ' m') : tk_wh (tk_clt (tk_loc 2) (tk_gf 7 18 (tk_loc 0))) (tk_sq (tk_xp (tk_cv 7 tkF_X7_planned [(tk_loc 0), (tk_loc 2)])) (tk_se 2 (tk_bin tk_iadd (tk_loc 2) (tk_lit (1))))) Qn Qr ρ m0 := by
  have hz := hI.2.2.2.2.2.1.1
  have f18 : ∀ i : Nat, ∀ m, tk_EE (tk_pls S i) (tk_mv m) → m 96 18 = S 14 0 := fun i m hE => by
    have h : m 96 18 = tk_pls S i 14 0 := hE.2.2.2.2.2.1.1
    rw [h, tk_pls_o (by omega)]
  refine tk_for (S 14 0) (fun i ρ' m => tk_fp m0 m ∧ tk_EE (tk_pls S i.toNat) (tk_mv m) ∧ ρ' 0 = 96 ∧ ρ' 1 = ρ 1 ∧ ρ' 2 = i) hz.1 ⟨fun _ _ _ => rfl, hE0, p0, rfl, p2⟩ ?_ ?_
  · rintro i ρ' m hi0 hi6 ⟨hf, hE, r0, r1, r2⟩ K hK
    have i1 : tk_iadd i 1 = i + 1 := tk_iadd_id (by omega) (by omega)
    have hlt : i < tk_pls S i.toNat 14 0 := by
      rw [tk_pls_o (by omega)]
      exact hi6
    have hrow := hE.2.2.2.2.2.1.2 i hi0 hlt
    have f109 : m 109 i = S 15 i := by
      have h : m 109 i = tk_pls S i.toNat 15 i := hrow.1
      rw [h, tk_pls_o (by omega)]
    have f110 : m 110 i = S 16 i := by
      have h : m 110 i = tk_pls S i.toNat 16 i := hrow.2
      rw [h, tk_pls_o (by omega)]
    have hW := tk_WW_pls hI (i := i) ⟨hi0, by omega⟩
    have hp := tk_pok_i hI (i := i) ⟨hi0, hi6⟩
    have hps := tk_pls_s (S := S) hi0
    simp [tk_fn, tk_env, tk_sq, tk_sk, tk_if, tk_re, tk_rez, tk_rev, tk_xp, tk_se, tk_pf, tk_pfz, tk_pfo, tk_as, tk_asz, tk_asb, tk_aso, tk_cpy, tk_sw, tk_swc, tk_lit, tk_loc, tk_u1, tk_bin, tk_dv, tk_gf, tk_gr, tk_gn, tk_ald, tk_aldq, tk_aln, tk_unl, tk_una, tk_ter, tk_args, tk_cs, tk_cv, tk_ceq, tk_cne, tk_clt, tk_cge, tk_cgt, tk_cle, tk_zeq, tk_zne, tk_zlt, tk_zge, tk_zgt, tk_zle, tk_and, tk_or, tk_not, tk_ct2, tk_isC, List.headD_cons, tk_up, tk_sca, tk_scl, r0, r2, f18 _ _ hE, hi6, i1]
    refine m_pl1 hE hW (by omega) ⟨hi0, by omega⟩ (by rw [f109, f110]; exact hp) (fun m2 hf2 hE2 => ?_)
    rw [f109, f110, ← hps] at hE2
    exact hK _ _ ⟨fun o j ho => by rw [hf2 o j ho]; exact hf o j ho, hE2, r0, r1, rfl⟩
  · rintro ρ' m ⟨hf, hE, r0, r1, r2⟩ X
    simp [tk_fn, tk_env, tk_sq, tk_sk, tk_if, tk_re, tk_rez, tk_rev, tk_xp, tk_se, tk_pf, tk_pfz, tk_pfo, tk_as, tk_asz, tk_asb, tk_aso, tk_cpy, tk_sw, tk_swc, tk_lit, tk_loc, tk_u1, tk_bin, tk_dv, tk_gf, tk_gr, tk_gn, tk_ald, tk_aldq, tk_aln, tk_unl, tk_una, tk_ter, tk_args, tk_cs, tk_cv, tk_ceq, tk_cne, tk_clt, tk_cge, tk_cgt, tk_cle, tk_zeq, tk_zne, tk_zlt, tk_zge, tk_zgt, tk_zle, tk_and, tk_or, tk_not, tk_ct2, tk_isC, List.headD_cons, tk_up, tk_sca, tk_scl, r0, r2, f18 _ _ hE]
    exact hQ ρ' m r0 r1 hf hE
