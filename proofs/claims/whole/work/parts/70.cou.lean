/-! ===== Layer 2: the coupling, used ===== -/
/-- what a carrying writes -/
def tk_fc (to : Int) (μ μ' : tk_M) : Prop := ∀ o i : Int, ¬ ((97 ≤ o ∧ o ≤ 112) ∨ o = to ∨ (o = 96 ∧ (i = 0 ∨ i = 1 ∨ i = 5 ∨ i = 13 ∨ i = 14 ∨ i = 15 ∨ i = 18 ∨ i = 21 ∨ i = 28 ∨ i = 29 ∨ i = 30))) → μ' o i = μ o i
theorem m_keep {to : Int} {μ : tk_M} {Q : Int → tk_M → Prop} (hto : to = 113 ∨ to = 114) (hQ : ∀ μ', tk_fc to μ μ' → tk_CC (tk_mv μ) (tk_mv μ') → tk_CC (tk_mv μ) (tk_iv to μ') → Q 0 μ') : tkF_X7_carryAll [96, to, 1] Q μ := by
  refine m_carryAll hto (.inr rfl) (fun μ' ⟨μ0, hfr, hc⟩ => ?_)
  have h := tk_cI_1 hfr hc
  exact hQ μ' (fun o i ho => by rw [hc.2.2.2.1 o i (by omega), hfr o i (by omega)]) h.1 h.2
theorem m_lay {to : Int} {μ : tk_M} {Q : Int → tk_M → Prop} (hto : to = 113 ∨ to = 114) (hQ : ∀ μ', tk_fc to μ μ' → tk_CC (tk_iv to μ) (tk_mv μ') → tk_CC (tk_iv to μ) (tk_iv to μ') → Q 0 μ') : tkF_X7_carryAll [96, to, 0] Q μ := by
  refine m_carryAll hto (.inl rfl) (fun μ' ⟨μ0, hfr, hc⟩ => ?_)
  have h := tk_cI_0 (by omega) hfr hc
  exact hQ μ' (fun o i ho => by rw [hc.2.2.2.1 o i (by omega), hfr o i (by omega)]) h.1 h.2
theorem m_open {μ : tk_M} {Q : Int → tk_M → Prop} (hQ : ∀ μ', tk_fc 113 μ μ' → tk_CC (tk_mv μ) (tk_mv μ') → tk_CC (tk_mv μ) (tk_iv 113 μ') → Q 0 μ') : tkF_X7_open [96] Q μ := by
  simp [tk_fn, tk_env, tk_sq, tk_sk, tk_if, tk_re, tk_rez, tk_rev, tk_xp, tk_se, tk_pf, tk_pfz, tk_pfo, tk_as, tk_asz, tk_asb, tk_aso, tk_cpy, tk_sw, tk_swc, tk_lit, tk_loc, tk_u1, tk_bin, tk_dv, tk_gf, tk_gr, tk_gn, tk_ald, tk_aldq, tk_aln, tk_unl, tk_una, tk_ter, tk_args, tk_cs, tk_cv, tk_ceq, tk_cne, tk_clt, tk_cge, tk_cgt, tk_cle, tk_zeq, tk_zne, tk_zlt, tk_zge, tk_zgt, tk_zle, tk_and, tk_or, tk_not, tk_ct2, tk_isC, List.headD_cons, tk_up, tk_sca, tk_scl, tkF_X7_open, tkS_X7_open]
  exact m_keep (.inl rfl) hQ
theorem m_again {μ : tk_M} {Q : Int → tk_M → Prop} (hQ : ∀ μ', tk_fc 113 μ μ' → tk_CC (tk_iv 113 μ) (tk_mv μ') → tk_CC (tk_iv 113 μ) (tk_iv 113 μ') → Q 0 μ') : tkF_X7_again [96] Q μ := by
  simp [tk_fn, tk_env, tk_sq, tk_sk, tk_if, tk_re, tk_rez, tk_rev, tk_xp, tk_se, tk_pf, tk_pfz, tk_pfo, tk_as, tk_asz, tk_asb, tk_aso, tk_cpy, tk_sw, tk_swc, tk_lit, tk_loc, tk_u1, tk_bin, tk_dv, tk_gf, tk_gr, tk_gn, tk_ald, tk_aldq, tk_aln, tk_unl, tk_una, tk_ter, tk_args, tk_cs, tk_cv, tk_ceq, tk_cne, tk_clt, tk_cge, tk_cgt, tk_cle, tk_zeq, tk_zne, tk_zlt, tk_zge, tk_zgt, tk_zle, tk_and, tk_or, tk_not, tk_ct2, tk_isC, List.headD_cons, tk_up, tk_sca, tk_scl, tkF_X7_again, tkS_X7_again]
  exact m_lay (.inl rfl) hQ
theorem tk_CC_t {S T U : tk_M} (h : tk_CC S T) (h' : tk_CC T U) : tk_CC S U := fun f i hc => by rw [h' f i hc, h f i hc]
theorem tk_CC_r {S : tk_M} : tk_CC S S := fun _ _ _ => rfl
theorem tk_CC_s {S T : tk_M} (h : tk_CC S T) : tk_CC T S := fun f i hc => (h f i hc).symm
/-- what a call that only asks may write -/
def tk_sc2 (o i : Int) : Prop := (21 ≤ o ∧ o ≤ 60) ∨ o = 82 ∨ (97 ≤ o ∧ o ≤ 113) ∨ (115 ≤ o ∧ o ≤ 120) ∨ (122 ≤ o ∧ o ≤ 124) ∨ o = 128 ∨ (o = 96 ∧ ¬ i = 27 ∧ ¬ i = 39)
theorem tk_hw_sc {μ μ' : tk_M} (hq : ∀ o i : Int, ¬ tk_sc2 o i → μ' o i = μ o i) : tk_hw 1 μ' = tk_hw 1 μ := by
  funext f i
  unfold tk_hw
  split
  · exact hq _ _ (by unfold tk_sc2; omega)
  · rfl
theorem tk_R_sc {μ μ' : tk_M} (h : tk_R μ) (hq : ∀ o i : Int, ¬ tk_sc2 o i → μ' o i = μ o i) (hc : tk_CC (tk_mv μ) (tk_mv μ')) : tk_R μ' := by
  have hh := tk_hw_sc hq
  refine tk_R_live h ?_ ?_ (fun o i hk => hq o i (by unfold tk_kq at hk; unfold tk_sc2; omega))
  · rw [tk_EE_hw, hh]
    exact tk_EE_CC (tk_ZZ_of (tk_II_hw.mp h.2.1)) (tk_EE_hw.mp h.1) hc
  · rw [tk_II_hw, hh]
    exact tk_II_hw.mp h.2.1
theorem tk_R_S {μ : tk_M} (h : tk_R μ) : tk_EE (tk_hw 1 μ) (tk_mv μ) ∧ tk_II (tk_hw 1 μ) ∧ tk_II (tk_mv μ) := ⟨tk_EE_hw.mp h.1, tk_II_hw.mp h.2.1, tk_II_EE (tk_EE_hw.mp h.1) (tk_II_hw.mp h.2.1)⟩
theorem tk_EQ_of {S T : tk_M} (h : tk_EE S T) : tk_EQ S T := ⟨h.1, h.2.2.1, h.2.2.2.1⟩
theorem tk_shr_EE {S T : tk_M} (h : tk_EE S T) (hI : tk_II S) : tk_shr T = tk_shr S := funext (fun a => tk_shr_eq hI.2.2.1 h.1 h.2.1 h.2.2.1 a)
theorem tk_I5s {S : tk_M} (h : tk_II S) : tk_I0 S ∧ tk_I1 S ∧ tk_I2 S ∧ tk_I7 S ∧ tk_I8 S := ⟨h.1, h.2.1, h.2.2.1, h.2.2.2.2.2.2.2.1, h.2.2.2.2.2.2.2.2⟩
theorem tk_J_w {b c : Int} {S : tk_M} (h : tk_J b S) (hc : b ≤ c) : tk_J c S := ⟨h.1, ⟨h.2.1.1, Int.le_trans h.2.1.2 hc⟩, h.2.2⟩
theorem tk_JL_w {b c : Int} {S : tk_M} (h : tk_JL b S) (hc : b ≤ c) : tk_JL c S := ⟨tk_J_w h.1 hc, h.2⟩
theorem tk_JL_sh {S : tk_M} (h : tk_II S) : tk_JL (S 0 3) S := ⟨⟨h.1.2.2.1, ⟨h.1.2.2.2.1.1, Int.le_refl _⟩, by have := h.1.2.2.2.2; omega, h.2.2.1, h.2.2.2.1⟩, h.1.2.2.2.2.2⟩
/-- QUANTA go, both alike -/
theorem tk_EE_go {S T S' T' : tk_M} (h : tk_EE S T) (hq : tk_EQ S' T') (hS : ∀ f i : Int, ¬ f = 6 → ¬ f = 7 → ¬ f = 8 → ¬ (f = 0 ∧ (i = 3 ∨ i = 4)) → S' f i = S f i) (hT : ∀ f i : Int, ¬ f = 6 → ¬ f = 7 → ¬ f = 8 → ¬ (f = 0 ∧ (i = 3 ∨ i = 4)) → T' f i = T f i) : tk_EE S' T' := by
  obtain ⟨a, b, c, d, ⟨e1, e⟩, ⟨f1, f⟩, ⟨g1, g⟩⟩ := h
  refine ⟨hq.1, fun t h1 h2 => ?_, hq.2.1, hq.2.2, ⟨?_, fun k h1 h2 => ?_⟩, ⟨?_, fun k h1 h2 => ?_⟩, ⟨?_, fun k h1 h2 => ?_⟩⟩
  · rw [hS 0 1 (by omega) (by omega) (by omega) (by omega)] at h2
    rw [hS 1 t (by omega) (by omega) (by omega) (by omega), hS 2 t (by omega) (by omega) (by omega) (by omega), hS 3 t (by omega) (by omega) (by omega) (by omega), hT 1 t (by omega) (by omega) (by omega) (by omega), hT 2 t (by omega) (by omega) (by omega) (by omega), hT 3 t (by omega) (by omega) (by omega) (by omega)]
    exact b t h1 h2
  · rw [hS 11 0 (by omega) (by omega) (by omega) (by omega), hT 11 0 (by omega) (by omega) (by omega) (by omega)]; exact e1
  · rw [hS 11 0 (by omega) (by omega) (by omega) (by omega)] at h2
    rw [hS 12 k (by omega) (by omega) (by omega) (by omega), hS 13 k (by omega) (by omega) (by omega) (by omega), hT 12 k (by omega) (by omega) (by omega) (by omega), hT 13 k (by omega) (by omega) (by omega) (by omega)]
    exact e k h1 h2
  · rw [hS 14 0 (by omega) (by omega) (by omega) (by omega), hT 14 0 (by omega) (by omega) (by omega) (by omega)]; exact f1
  · rw [hS 14 0 (by omega) (by omega) (by omega) (by omega)] at h2
    rw [hS 15 k (by omega) (by omega) (by omega) (by omega), hS 16 k (by omega) (by omega) (by omega) (by omega), hT 15 k (by omega) (by omega) (by omega) (by omega), hT 16 k (by omega) (by omega) (by omega) (by omega)]
    exact f k h1 h2
  · rw [hS 17 0 (by omega) (by omega) (by omega) (by omega), hT 17 0 (by omega) (by omega) (by omega) (by omega)]; exact g1
  · rw [hS 17 0 (by omega) (by omega) (by omega) (by omega)] at h2
    rw [hS 18 k (by omega) (by omega) (by omega) (by omega), hS 19 k (by omega) (by omega) (by omega) (by omega), hT 18 k (by omega) (by omega) (by omega) (by omega), hT 19 k (by omega) (by omega) (by omega) (by omega)]
    exact g k h1 h2
theorem tk_II_go {S S' : tk_M} {b : Int} (h : tk_II S) (hJ : tk_JL b S') (hb : b ≤ 99999) (hS : ∀ f i : Int, ¬ f = 6 → ¬ f = 7 → ¬ f = 8 → ¬ (f = 0 ∧ (i = 3 ∨ i = 4)) → S' f i = S f i) : tk_II S' := by
  obtain ⟨i0, i1, i2, i3, i4, i5, i6, ⟨rk, i7a, i7⟩, ⟨rk8, i8a, i8⟩⟩ := h
  obtain ⟨⟨j0, j1, j2, j3, j4⟩, j5⟩ := hJ
  have e : ∀ f i : Int, ¬ f = 6 → ¬ f = 7 → ¬ f = 8 → ¬ (f = 0 ∧ (i = 3 ∨ i = 4)) → S' f i = S f i := hS
  have e00 := e 0 0 (by omega) (by omega) (by omega) (by omega)
  have e01 := e 0 1 (by omega) (by omega) (by omega) (by omega)
  have e02 := e 0 2 (by omega) (by omega) (by omega) (by omega)
  have e1 := fun t => e 1 t (by omega) (by omega) (by omega) (by omega)
  have e2 := fun t => e 2 t (by omega) (by omega) (by omega) (by omega)
  have e3 := fun t => e 3 t (by omega) (by omega) (by omega) (by omega)
  have e9 := fun t => e 9 t (by omega) (by omega) (by omega) (by omega)
  have e11 := fun t => e 11 t (by omega) (by omega) (by omega) (by omega)
  have e12 := fun t => e 12 t (by omega) (by omega) (by omega) (by omega)
  have e13 := fun t => e 13 t (by omega) (by omega) (by omega) (by omega)
  have e14 := fun t => e 14 t (by omega) (by omega) (by omega) (by omega)
  have e15 := fun t => e 15 t (by omega) (by omega) (by omega) (by omega)
  have e16 := fun t => e 16 t (by omega) (by omega) (by omega) (by omega)
  have e17 := fun t => e 17 t (by omega) (by omega) (by omega) (by omega)
  have e18 := fun t => e 18 t (by omega) (by omega) (by omega) (by omega)
  refine ⟨?_, ?_, j3, j4, ?_, ?_, ?_, ?_, ?_⟩
  · unfold tk_I0 at *
    rw [e00, e01, e02]
    omega
  · unfold tk_I1 at *
    simp only [e00, e01, e02, e1, e2, e3]
    exact i1
  · unfold tk_I4 at *
    simp only [e02, e11, e12, e13]
    exact i4
  · unfold tk_I5 at *
    simp only [e01, e02, e14, e15, e16]
    exact i5
  · unfold tk_I6 at *
    simp only [e02, e17, e18]
    exact ⟨⟨i6.1.1, i6.1.2.1, by omega⟩, i6.2⟩
  · refine ⟨rk, i7a, ?_⟩
    simp only [e01, e1, e3]
    exact i7
  · refine ⟨rk8, i8a, ?_⟩
    simp only [e02, e9]
    exact i8
