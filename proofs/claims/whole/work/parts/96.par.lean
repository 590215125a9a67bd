/-! ===== Layer 2: FUNDS, read by the Model ===== -/
def tk_cn (T : Int → Int) : Nat → Int
  | 0 => 0
  | k + 1 => tk_cn T k + (if tk_az T (k + 1) 0 = 6 then 1 else 0)
theorem tk_cn_s (T : Int → Int) (k : Nat) : tk_cn T (k + 1) = tk_cn T k + (if tk_az T (k + 1) 0 = 6 then 1 else 0) := rfl
theorem tk_cn_n {T : Int → Int} {k : Nat} (h : ¬ tk_az T (k + 1) 0 = 6) : tk_cn T (k + 1) = tk_cn T k := by rw [tk_cn_s, if_neg h]; omega
theorem tk_cn_y {T : Int → Int} {k : Nat} (h : tk_az T (k + 1) 0 = 6) : tk_cn T (k + 1) = tk_cn T k + 1 := by rw [tk_cn_s, if_pos h]
theorem tk_cn_le {T : Int → Int} {j k : Nat} (h : j ≤ k) : tk_cn T j ≤ tk_cn T k := by
  induction k with
  | zero => have : j = 0 := by omega
            subst this; exact Int.le_refl _
  | succ k ih =>
    by_cases hj : j = k + 1
    · subst hj; exact Int.le_refl _
    · have := ih (by omega)
      rw [tk_cn_s]
      split <;> omega
theorem tk_cn_0 (T : Int → Int) (k : Nat) : 0 ≤ tk_cn T k := tk_cn_le (j := 0) (by omega)
theorem tk_cn_bd {T : Int → Int} (p : Nat) (h : tk_acc T p) : 4 * tk_cn T p + (if tk_az T p 0 = 6 then 2 else tk_az T p 0) ≤ p := by
  induction p with
  | zero => simp [tk_cn, tk_az]
  | succ p ih =>
    have h1 := ih (tk_acc_p h (by omega))
    have h2 := h p (by omega)
    have e : tk_az T (p + 1) = tk_ap (T p) (tk_az T p) := rfl
    rw [tk_cn_s, e]
    rcases h2 with ⟨h0, hs⟩ | ⟨h0, hs⟩ | ⟨h0, hs⟩ | ⟨h0, hs⟩ | ⟨h0, hs⟩ | ⟨h0, hs⟩ | ⟨h0, hs⟩
    · simp [tk_ap, h0] at h1 ⊢; omega
    · simp [tk_ap, h0] at h1 ⊢; omega
    · simp [tk_ap, h0] at h1 ⊢; omega
    · simp [tk_ap, h0] at h1 ⊢; omega
    · by_cases h9 : T p = 99
      · simp [tk_ap, h0, h9] at h1 ⊢; omega
      · simp [tk_ap, h0, h9] at h1 ⊢; omega
    · simp [tk_ap, h0] at h1 ⊢; omega
    · by_cases h9 : T p = 43
      · simp [tk_ap, h0, h9] at h1 ⊢; omega
      · simp [tk_ap, h0, h9] at h1 ⊢; omega
/-- what the parser writes -/
def tk_fP (c m : tk_M) : Prop := ∀ o i : Int, ¬ (o = 122 ∨ o = 123 ∨ o = 124 ∨ (o = 96 ∧ (i = 40 ∨ i = 41 ∨ i = 45))) → m o i = c o i
/-- the text -/
def tk_tx (T : Int → Int) (n : Int) (c : tk_M) : Prop := (0 ≤ n ∧ n ≤ 100) ∧ c 96 39 = n ∧ ∀ i : Int, 0 ≤ i → i < n → c 121 i = T i ∧ 0 ≤ T i ∧ T i ≤ 127
def tk_dat (T : Int → Int) (j : Nat) (m : tk_M) : Prop := m 122 (tk_cn T j - 1) = tk_az T j 4 + (if tk_az T j 3 = 1 then 0 else 10) ∧ m 123 (tk_cn T j - 1) = tk_az T j 5 ∧ m 124 (tk_cn T j - 1) = tk_az T j 6
/-- all was right as far as place p, k FUNDS being kept -/
def tk_pg (T : Int → Int) (n : Int) (c : tk_M) (p : Nat) (k : Int) (m : tk_M) : Prop := m 96 41 = 0 ∧ m 96 40 = p ∧ (p : Int) ≤ n ∧ tk_acc T p ∧ m 96 45 = k ∧ tk_fP c m ∧ (0 ≤ k ∧ k ≤ tk_cn T p) ∧ ∀ j : Nat, j ≤ p → tk_az T j 0 = 6 → tk_cn T j ≤ k → tk_dat T j m
/-- a FAULT was found -/
def tk_pb (T : Int → Int) (n : Int) (c : tk_M) (B : Int) (m : tk_M) : Prop := (∃ p : Nat, m 96 41 = 1 ∧ m 96 40 = p ∧ tk_flt T n p) ∧ (0 ≤ m 96 45 ∧ m 96 45 ≤ B) ∧ tk_fP c m
def tk_sd (T : Int → Int) (n : Int) (c : tk_M) (k : Int) (A : Nat → Prop) (m : tk_M) : Prop := (∃ p, tk_pg T n c p k m ∧ A p) ∨ tk_pb T n c 25 m
def tk_hr (T : Int → Int) (n x : Int) : Int := if x < n then T x else -1
theorem tk_sd_f {T : Int → Int} {n k : Int} {c m : tk_M} {A : Nat → Prop} (h : tk_sd T n c k A m) : tk_fP c m ∧ (0 ≤ m 96 40 ∧ m 96 40 ≤ n) ∧ (m 96 41 = 0 ∨ m 96 41 = 1) := by
  rcases h with ⟨p, h, -⟩ | ⟨⟨p, h1, h2, h3⟩, -, h4⟩
  · exact ⟨h.2.2.2.2.2.1, ⟨by rw [h.2.1]; omega, by rw [h.2.1]; exact h.2.2.1⟩, .inl h.1⟩
  · exact ⟨h4, ⟨by rw [h2]; omega, by rw [h2]; exact h3.1⟩, .inr h1⟩
theorem m_here {T : Int → Int} {n : Int} {c m : tk_M} {Q : Int → tk_M → Prop} (hc : tk_tx T n c) (hf : tk_fP c m) (h0 : 0 ≤ m 96 40 ∧ m 96 40 ≤ n) : tkF_X7_here [96] Q m = Q (tk_hr T n (m 96 40)) m := by
  obtain ⟨hn, h39, hT⟩ := hc
  have e39 : m 96 39 = n := by rw [hf _ _ (by omega), h39]
  unfold tk_hr
  by_cases hx : m 96 40 < n
  · have e : m 121 (m 96 40) = T (m 96 40) := by rw [hf _ _ (by omega)]; exact (hT _ h0.1 hx).1
    have h100 : m 96 40 < 100 := by omega
    simp [tk_fn, tk_env, tk_sq, tk_sk, tk_if, tk_re, tk_rez, tk_rev, tk_xp, tk_se, tk_pf, tk_pfz, tk_pfo, tk_as, tk_asz, tk_asb, tk_aso, tk_cpy, tk_sw, tk_swc, tk_lit, tk_loc, tk_u1, tk_bin, tk_dv, tk_gf, tk_gr, tk_gn, tk_ald, tk_aldq, tk_aln, tk_unl, tk_una, tk_ter, tk_args, tk_cs, tk_cv, tk_ceq, tk_cne, tk_clt, tk_cge, tk_cgt, tk_cle, tk_zeq, tk_zne, tk_zlt, tk_zge, tk_zgt, tk_zle, tk_and, tk_or, tk_not, tk_ct2, tk_isC, List.headD_cons, tk_up, tk_sca, tk_scl, tkF_X7_here, tkS_X7_here, e39, hx, h0.1, h100, tk_al_2, tk_al_3, tk_al_4, tk_al_5, tk_al_6, tk_al_7, tk_al_8, tk_al_9, tk_al_10, tk_al_11, tk_al_13, tk_al_14, tk_al_16, tk_al_17, tk_al_19, tk_al_20, tk_al_22, tk_al_24, tk_al_25, tk_al_26, tk_al_27, tk_al_28, tk_al_29, tk_al_30, tk_al_32, tk_al_33, tk_al_34, tk_al_35, tk_al_36, tk_al_37, tk_al_38, tk_al_39, tk_al_40, tk_al_41, tk_al_43, tk_al_44, tk_al_46, tk_al_47, tk_al_49, tk_al_50, tk_al_52, tk_al_54, tk_al_55, tk_al_56, tk_al_57, tk_al_58, tk_al_59, tk_al_60, tk_al_62, tk_al_63, tk_al_64, tk_al_65, tk_al_66, tk_al_67, tk_al_68, tk_al_69, tk_al_70, tk_al_71, tk_al_73, tk_al_74, tk_al_76, tk_al_77, tk_al_79, tk_al_80, tk_al_81, tk_al_83, tk_al_85, tk_al_87, tk_al_89, tk_al_91, tk_al_93, tk_al_95, tk_al_97, tk_al_98, tk_al_99, tk_al_100, tk_al_101, tk_al_102, tk_al_103, tk_al_104, tk_al_105, tk_al_106, tk_al_107, tk_al_108, tk_al_109, tk_al_110, tk_al_111, tk_al_112, tk_al_113, tk_al_114, tk_al_115, tk_al_116, tk_al_117, tk_al_118, tk_al_119, tk_al_120, tk_al_121, tk_al_122, tk_al_123, tk_al_124, tk_al_125, tk_al_126, tk_al_127, tk_al_128, tk_al_129, e]
  · simp [tk_fn, tk_env, tk_sq, tk_sk, tk_if, tk_re, tk_rez, tk_rev, tk_xp, tk_se, tk_pf, tk_pfz, tk_pfo, tk_as, tk_asz, tk_asb, tk_aso, tk_cpy, tk_sw, tk_swc, tk_lit, tk_loc, tk_u1, tk_bin, tk_dv, tk_gf, tk_gr, tk_gn, tk_ald, tk_aldq, tk_aln, tk_unl, tk_una, tk_ter, tk_args, tk_cs, tk_cv, tk_ceq, tk_cne, tk_clt, tk_cge, tk_cgt, tk_cle, tk_zeq, tk_zne, tk_zlt, tk_zge, tk_zgt, tk_zle, tk_and, tk_or, tk_not, tk_ct2, tk_isC, List.headD_cons, tk_up, tk_sca, tk_scl, tkF_X7_here, tkS_X7_here, e39, hx]
theorem m_must {T : Int → Int} {n k b : Int} {c m : tk_M} {A A' : Nat → Prop} {Q : Int → tk_M → Prop} (hc : tk_tx T n c) (h : tk_sd T n c k A m) (hb01 : b = 0 ∨ b = 1) (hb : ∀ p, tk_pg T n c p k m → A p → (b = 1 ∧ (p : Int) < n ∧ tk_aok (T p) (tk_az T p) ∧ A' (p + 1)) ∨ (b = 0 ∧ (((p : Int) < n ∧ ¬ tk_aok (T p) (tk_az T p)) ∨ ((p : Int) = n ∧ ¬ tk_az T p 0 = 6)))) (hQ : ∀ m', tk_sd T n c k A' m' → Q 0 m') : tkF_X7_mustBe [96, b] Q m := by
  obtain ⟨hn, h39, hT⟩ := hc
  rcases h with ⟨p, hg, hA⟩ | hbad
  · have hg' := hg
    obtain ⟨g1, g2, g3, g4, g5, g6, g7, g8⟩ := hg'
    have hcn := tk_cn_bd p g4
    have hab := (tk_ab_az p g4).1
    have hk25 : k ≤ 25 := by
      by_cases h6 : tk_az T p 0 = 6
      · rw [if_pos h6] at hcn; omega
      · rw [if_neg h6] at hcn; omega
    have l1 : tk_iadd (p : Int) 1 = (p : Int) + 1 := tk_iadd_id (by omega) (by omega)
    have l0 : tk_iadd (p : Int) 0 = (p : Int) := by rw [tk_iadd_id (by omega) (by omega), Int.add_zero]
    rcases hb p hg hA with ⟨hb1, h1, h2, h3⟩ | ⟨hb0, h1⟩
    · subst hb1
      simp [tk_fn, tk_env, tk_sq, tk_sk, tk_if, tk_re, tk_rez, tk_rev, tk_xp, tk_se, tk_pf, tk_pfz, tk_pfo, tk_as, tk_asz, tk_asb, tk_aso, tk_cpy, tk_sw, tk_swc, tk_lit, tk_loc, tk_u1, tk_bin, tk_dv, tk_gf, tk_gr, tk_gn, tk_ald, tk_aldq, tk_aln, tk_unl, tk_una, tk_ter, tk_args, tk_cs, tk_cv, tk_ceq, tk_cne, tk_clt, tk_cge, tk_cgt, tk_cle, tk_zeq, tk_zne, tk_zlt, tk_zge, tk_zgt, tk_zle, tk_and, tk_or, tk_not, tk_ct2, tk_isC, List.headD_cons, tk_up, tk_sca, tk_scl, tkF_X7_mustBe, tkS_X7_mustBe, g1, g2, tk_set_j, tk_set_eq, l1]
      refine hQ _ (.inl ⟨p + 1, ⟨by simp [tk_set], by simp [tk_set], by omega, tk_acc_s g4 h2, by simp [tk_set, g5], fun o i ho => ?_, ⟨g7.1, Int.le_trans g7.2 (tk_cn_le (by omega))⟩, fun j h4 h5 h6 => ?_⟩, h3⟩)
      · unfold tk_set
        rw [if_neg (by omega), if_neg (by omega)]
        exact g6 o i ho
      · by_cases hj : j = p + 1
        · subst hj
          rw [tk_cn_y h5] at h6
          omega
        · have h7 := g8 j (by omega) h5 h6
          unfold tk_dat at *
          rw [tk_set_o (by omega), tk_set_o (by omega), tk_set_o (by omega), tk_set_o (by omega), tk_set_o (by omega), tk_set_o (by omega)]
          exact h7
    · subst hb0
      simp [tk_fn, tk_env, tk_sq, tk_sk, tk_if, tk_re, tk_rez, tk_rev, tk_xp, tk_se, tk_pf, tk_pfz, tk_pfo, tk_as, tk_asz, tk_asb, tk_aso, tk_cpy, tk_sw, tk_swc, tk_lit, tk_loc, tk_u1, tk_bin, tk_dv, tk_gf, tk_gr, tk_gn, tk_ald, tk_aldq, tk_aln, tk_unl, tk_una, tk_ter, tk_args, tk_cs, tk_cv, tk_ceq, tk_cne, tk_clt, tk_cge, tk_cgt, tk_cle, tk_zeq, tk_zne, tk_zlt, tk_zge, tk_zgt, tk_zle, tk_and, tk_or, tk_not, tk_ct2, tk_isC, List.headD_cons, tk_up, tk_sca, tk_scl, tkF_X7_mustBe, tkS_X7_mustBe, g1, g2, tk_set_j, tk_set_eq, l0]
      refine hQ _ (.inr ⟨⟨p, by simp [tk_set], by simp [tk_set], g3, g4, h1⟩, ⟨by simp [tk_set, g5]; exact g7.1, by simp [tk_set, g5]; exact hk25⟩, fun o i ho => ?_⟩)
      unfold tk_set
      rw [if_neg (by omega), if_neg (by omega)]
      exact g6 o i ho
  · obtain ⟨⟨p, h1, h2, h3⟩, h4, h5⟩ := hbad
    have hp := h3.1
    have l0 : tk_iadd (p : Int) 0 = (p : Int) := by rw [tk_iadd_id (by omega) (by omega), Int.add_zero]
    have fin : Q 0 (tk_set (tk_set m 96 41 1) 96 40 p) := hQ _ (.inr ⟨⟨p, by simp [tk_set], by simp [tk_set], h3⟩, ⟨by simp [tk_set]; exact h4.1, by simp [tk_set]; exact h4.2⟩, fun o i ho => by
      unfold tk_set
      rw [if_neg (by omega), if_neg (by omega)]
      exact h5 o i ho⟩)
    rcases hb01 with hb0 | hb1
    · simp [tk_fn, tk_env, tk_sq, tk_sk, tk_if, tk_re, tk_rez, tk_rev, tk_xp, tk_se, tk_pf, tk_pfz, tk_pfo, tk_as, tk_asz, tk_asb, tk_aso, tk_cpy, tk_sw, tk_swc, tk_lit, tk_loc, tk_u1, tk_bin, tk_dv, tk_gf, tk_gr, tk_gn, tk_ald, tk_aldq, tk_aln, tk_unl, tk_una, tk_ter, tk_args, tk_cs, tk_cv, tk_ceq, tk_cne, tk_clt, tk_cge, tk_cgt, tk_cle, tk_zeq, tk_zne, tk_zlt, tk_zge, tk_zgt, tk_zle, tk_and, tk_or, tk_not, tk_ct2, tk_isC, List.headD_cons, tk_up, tk_sca, tk_scl, tkF_X7_mustBe, tkS_X7_mustBe, h1, h2, hb0, tk_set_j, tk_set_eq, l0]
      exact fin
    · simp [tk_fn, tk_env, tk_sq, tk_sk, tk_if, tk_re, tk_rez, tk_rev, tk_xp, tk_se, tk_pf, tk_pfz, tk_pfo, tk_as, tk_asz, tk_asb, tk_aso, tk_cpy, tk_sw, tk_swc, tk_lit, tk_loc, tk_u1, tk_bin, tk_dv, tk_gf, tk_gr, tk_gn, tk_ald, tk_aldq, tk_aln, tk_unl, tk_una, tk_ter, tk_args, tk_cs, tk_cv, tk_ceq, tk_cne, tk_clt, tk_cge, tk_cgt, tk_cle, tk_zeq, tk_zne, tk_zlt, tk_zge, tk_zgt, tk_zle, tk_and, tk_or, tk_not, tk_ct2, tk_isC, List.headD_cons, tk_up, tk_sca, tk_scl, tkF_X7_mustBe, tkS_X7_mustBe, h1, h2, hb1, tk_set_j, tk_set_eq, l0]
      exact fin
theorem tk_hr_bd {T : Int → Int} {n x : Int} {c : tk_M} (hc : tk_tx T n c) (h0 : 0 ≤ x) : -1 ≤ tk_hr T n x ∧ tk_hr T n x ≤ 127 := by
  unfold tk_hr
  split
  · rename_i h
    have := (hc.2.2 x h0 h).2
    omega
  · omega
theorem m_digit {T : Int → Int} {n k : Int} {c m : tk_M} {A : Nat → Prop} {A' : Int → Nat → Prop} {Q : Int → tk_M → Prop} (hc : tk_tx T n c) (h : tk_sd T n c k A m) (hA : ∀ p, tk_acc T p → A p → (tk_aok (T p) (tk_az T p) ↔ (48 ≤ T p ∧ T p ≤ 57)) ∧ ¬ tk_az T p 0 = 6) (hA' : ∀ p, tk_acc T p → A p → (p : Int) < n → (48 ≤ T p ∧ T p ≤ 57) → A' (T p - 48) (p + 1)) (hQ : ∀ v m', (-49 ≤ v ∧ v ≤ 79) → tk_sd T n c k (A' v) m' → Q v m') : tkF_X7_digitRead [96] Q m := by
  obtain ⟨hf, h0, -⟩ := tk_sd_f h
  have hx := tk_hr_bd (n := n) hc h0.1
  generalize hxv : tk_hr T n (m 96 40) = x at hx
  have l1 : tk_isub x 48 = x - 48 := tk_isub_id (by omega) (by omega)
  simp only [tk_fn, tk_env, tk_sq, tk_sk, tk_if, tk_re, tk_rez, tk_rev, tk_xp, tk_se, tk_pf, tk_pfz, tk_pfo, tk_as, tk_asz, tk_asb, tk_aso, tk_cpy, tk_sw, tk_swc, tk_lit, tk_loc, tk_u1, tk_bin, tk_dv, tk_gf, tk_gr, tk_gn, tk_ald, tk_aldq, tk_aln, tk_unl, tk_una, tk_ter, tk_args, tk_cs, tk_cv, tk_ceq, tk_cne, tk_clt, tk_cge, tk_cgt, tk_cle, tk_zeq, tk_zne, tk_zlt, tk_zge, tk_zgt, tk_zle, tk_and, tk_or, tk_not, tk_ct2, tk_isC, List.headD_cons, tk_up, tk_sca, tk_scl, tkF_X7_digitRead, tkS_X7_digitRead]
  simp
  rw [m_here hc hf h0, hxv]
  simp [m_in, l1]
  have hq := hQ (x - 48)
  by_cases hd : 48 ≤ x ∧ x ≤ 57
  · rw [tk_bo_t hd]
    refine m_must hc h (.inr rfl) (fun p hg hAp => .inl ?_) (fun m' hm' => hq m' (by omega) hm')
    have e40 : m 96 40 = p := hg.2.1
    rw [e40] at hxv
    unfold tk_hr at hxv
    by_cases hpn : (p : Int) < n
    · rw [if_pos hpn] at hxv
      have hAA := hA p hg.2.2.2.1 hAp
      refine ⟨rfl, hpn, hAA.1.mpr (by rw [hxv]; exact hd), ?_⟩
      have := hA' p hg.2.2.2.1 hAp hpn (by rw [hxv]; exact hd)
      rw [hxv] at this
      exact this
    · rw [if_neg hpn] at hxv
      omega
  · rw [tk_bo_f hd]
    refine m_must hc h (.inl rfl) (fun p hg hAp => .inr ⟨rfl, ?_⟩) (fun m' hm' => hq m' (by omega) hm')
    have e40 : m 96 40 = p := hg.2.1
    rw [e40] at hxv
    unfold tk_hr at hxv
    have hAA := hA p hg.2.2.2.1 hAp
    by_cases hpn : (p : Int) < n
    · rw [if_pos hpn] at hxv
      exact .inl ⟨hpn, fun z => hd (by rw [← hxv]; exact hAA.1.mp z)⟩
    · exact .inr ⟨by have := hg.2.2.1; omega, hAA.2⟩
