/-! ===== Layer 2: the Model's image ===== -/
def tk_fo (q : Nat) : Int := if q < 8 then 96 else if q < 80 then 97 + (((q - 8) % 3 : Nat) : Int) else if q < 144 then (if (q - 80) % 8 < 6 then 100 + (((q - 80) % 8 : Nat) : Int) else 105 + (((q - 80) % 8 : Nat) : Int)) else if q < 176 then 106 else if q < 186 then 107 + (((q - 176) % 2 : Nat) : Int) else 109 + (((q - 186) % 2 : Nat) : Int)
def tk_fs (q : Nat) : Int := if q < 8 then (if q = 0 then 0 else if q = 1 then 1 else if q = 2 then 5 else if q = 3 then 13 else if q = 4 then 14 else if q = 5 then 15 else if q = 6 then 18 else 21) else if q < 80 then (((q - 8) / 3 : Nat) : Int) else if q < 144 then (((q - 80) / 8 : Nat) : Int) else if q < 176 then ((q - 144 : Nat) : Int) else if q < 186 then (((q - 176) / 2 : Nat) : Int) else (((q - 186) / 2 : Nat) : Int)
def tk_pq (o s : Int) : Int := if o = 96 then (if s = 0 then 0 else if s = 1 then 1 else if s = 5 then 2 else if s = 13 then 3 else if s = 14 then 4 else if s = 15 then 5 else if s = 18 then 6 else 7) else if o ≤ 99 then 8 + 3 * s + (o - 97) else if o ≤ 105 then 80 + 8 * s + (o - 100) else if o = 106 then 144 + s else if o ≤ 108 then 176 + 2 * s + (o - 107) else if o ≤ 110 then 186 + 2 * s + (o - 109) else 80 + 8 * s + (o - 105)
theorem tk_pq_i : ∀ q : Fin 206, tk_pq (tk_fo q.val) (tk_fs q.val) = (q.val : Int) ∧ 96 ≤ tk_fo q.val ∧ tk_fo q.val ≤ 112 ∧ 0 ≤ tk_fs q.val ∧ (tk_fo q.val = 96 → tk_fs q.val ≤ 21) := by decide +kernel
theorem tk_fo_in {q q' : Nat} (h : q < 206) (h' : q' < 206) (ho : tk_fo q = tk_fo q') (hs : tk_fs q = tk_fs q') : q = q' := by
  have h1 := (tk_pq_i ⟨q, h⟩).1
  have h2 := (tk_pq_i ⟨q', h'⟩).1
  simp only at h1 h2
  rw [ho, hs, h2] at h1
  omega
/-- what goes to place q -/
def tk_cwv (b to : Int) (μ : tk_M) (q : Nat) : Int := if b = 1 then μ (tk_fo q) (tk_fs q) else μ to q
def tk_cI (b to : Int) (μ : tk_M) (p : Nat) (μ' : tk_M) : Prop := μ' 96 28 = p ∧ μ' 96 29 = b ∧ μ' 96 30 = to ∧ (∀ o i : Int, ¬ ((97 ≤ o ∧ o ≤ 112) ∨ o = to ∨ (o = 96 ∧ (i = 0 ∨ i = 1 ∨ i = 5 ∨ i = 13 ∨ i = 14 ∨ i = 15 ∨ i = 18 ∨ i = 21 ∨ i = 28 ∨ i = 29 ∨ i = 30))) → μ' o i = μ o i) ∧ ∀ q : Nat, q < 206 → (q < p → μ' (tk_fo q) (tk_fs q) = tk_cwv b to μ q ∧ μ' to q = tk_cwv b to μ q) ∧ (p ≤ q → μ' (tk_fo q) (tk_fs q) = μ (tk_fo q) (tk_fs q) ∧ μ' to q = μ to q)
theorem m_carry {b to v : Int} {p : Nat} {μ : tk_M} {Q : Int → tk_M → Prop} (hp : p < 206) (hto : to = 113 ∨ to = 114) (hb : b = 0 ∨ b = 1) (h28 : μ 96 28 = p) (h29 : μ 96 29 = b) (h30 : μ 96 30 = to) (hQ : ∀ w, w = (if b = 1 then v else μ to p) → Q w (tk_set (tk_set μ to p w) 96 28 (p + 1))) : tkF_X7_carry [96, v] Q μ := by
  have i1 : tk_iadd p 1 = (p : Int) + 1 := tk_iadd_id (by omega) (by omega)
  have i2 : tk_isub ((p : Int) + 1) 1 = p := by rw [tk_isub_id (by omega) (by omega)]; omega
  have hp1 : (p : Int) < 210 := by omega
  have hp0 : 0 ≤ (p : Int) := by omega
  rcases hb with rfl | rfl
  · have hQ := hQ (μ to p) (by simp)
    have e : tk_set μ to p (μ to p) = μ := by
      funext o j
      unfold tk_set
      by_cases h : o = to ∧ j = p
      · rw [if_pos h, h.1, h.2]
      · rw [if_neg h]
    rw [e] at hQ
    rcases hto with rfl | rfl <;> simp [tk_fn, tk_env, tk_sq, tk_sk, tk_if, tk_re, tk_rez, tk_rev, tk_xp, tk_se, tk_pf, tk_pfz, tk_pfo, tk_as, tk_asz, tk_asb, tk_aso, tk_cpy, tk_sw, tk_swc, tk_lit, tk_loc, tk_u1, tk_bin, tk_dv, tk_gf, tk_gr, tk_gn, tk_ald, tk_aldq, tk_aln, tk_unl, tk_una, tk_ter, tk_args, tk_cs, tk_cv, tk_ceq, tk_cne, tk_clt, tk_cge, tk_cgt, tk_cle, tk_zeq, tk_zne, tk_zlt, tk_zge, tk_zgt, tk_zle, tk_and, tk_or, tk_not, tk_ct2, tk_isC, List.headD_cons, tk_up, tk_sca, tk_scl, tkF_X7_carry, tkS_X7_carry, tk_al_2, tk_al_3, tk_al_4, tk_al_5, tk_al_6, tk_al_7, tk_al_8, tk_al_9, tk_al_10, tk_al_11, tk_al_13, tk_al_14, tk_al_16, tk_al_17, tk_al_19, tk_al_20, tk_al_22, tk_al_24, tk_al_25, tk_al_26, tk_al_27, tk_al_28, tk_al_29, tk_al_30, tk_al_32, tk_al_33, tk_al_34, tk_al_35, tk_al_36, tk_al_37, tk_al_38, tk_al_39, tk_al_40, tk_al_41, tk_al_43, tk_al_44, tk_al_46, tk_al_47, tk_al_49, tk_al_50, tk_al_52, tk_al_54, tk_al_55, tk_al_56, tk_al_57, tk_al_58, tk_al_59, tk_al_60, tk_al_62, tk_al_63, tk_al_64, tk_al_65, tk_al_66, tk_al_67, tk_al_68, tk_al_69, tk_al_70, tk_al_71, tk_al_73, tk_al_74, tk_al_76, tk_al_77, tk_al_79, tk_al_80, tk_al_81, tk_al_83, tk_al_85, tk_al_87, tk_al_89, tk_al_91, tk_al_93, tk_al_95, tk_al_97, tk_al_98, tk_al_99, tk_al_100, tk_al_101, tk_al_102, tk_al_103, tk_al_104, tk_al_105, tk_al_106, tk_al_107, tk_al_108, tk_al_109, tk_al_110, tk_al_111, tk_al_112, tk_al_113, tk_al_114, tk_al_115, tk_al_116, tk_al_117, tk_al_118, tk_al_119, tk_al_120, tk_al_121, tk_al_122, tk_al_123, tk_al_124, tk_al_125, tk_al_126, tk_al_127, tk_al_128, tk_al_129, h28, h29, h30, i1, i2, tk_set_o, tk_set_j, tk_set_eq, hp1, hp0] <;> exact hQ
  · have hQ := hQ v (by simp)
    rcases hto with rfl | rfl <;> simp [tk_fn, tk_env, tk_sq, tk_sk, tk_if, tk_re, tk_rez, tk_rev, tk_xp, tk_se, tk_pf, tk_pfz, tk_pfo, tk_as, tk_asz, tk_asb, tk_aso, tk_cpy, tk_sw, tk_swc, tk_lit, tk_loc, tk_u1, tk_bin, tk_dv, tk_gf, tk_gr, tk_gn, tk_ald, tk_aldq, tk_aln, tk_unl, tk_una, tk_ter, tk_args, tk_cs, tk_cv, tk_ceq, tk_cne, tk_clt, tk_cge, tk_cgt, tk_cle, tk_zeq, tk_zne, tk_zlt, tk_zge, tk_zgt, tk_zle, tk_and, tk_or, tk_not, tk_ct2, tk_isC, List.headD_cons, tk_up, tk_sca, tk_scl, tkF_X7_carry, tkS_X7_carry, tk_al_2, tk_al_3, tk_al_4, tk_al_5, tk_al_6, tk_al_7, tk_al_8, tk_al_9, tk_al_10, tk_al_11, tk_al_13, tk_al_14, tk_al_16, tk_al_17, tk_al_19, tk_al_20, tk_al_22, tk_al_24, tk_al_25, tk_al_26, tk_al_27, tk_al_28, tk_al_29, tk_al_30, tk_al_32, tk_al_33, tk_al_34, tk_al_35, tk_al_36, tk_al_37, tk_al_38, tk_al_39, tk_al_40, tk_al_41, tk_al_43, tk_al_44, tk_al_46, tk_al_47, tk_al_49, tk_al_50, tk_al_52, tk_al_54, tk_al_55, tk_al_56, tk_al_57, tk_al_58, tk_al_59, tk_al_60, tk_al_62, tk_al_63, tk_al_64, tk_al_65, tk_al_66, tk_al_67, tk_al_68, tk_al_69, tk_al_70, tk_al_71, tk_al_73, tk_al_74, tk_al_76, tk_al_77, tk_al_79, tk_al_80, tk_al_81, tk_al_83, tk_al_85, tk_al_87, tk_al_89, tk_al_91, tk_al_93, tk_al_95, tk_al_97, tk_al_98, tk_al_99, tk_al_100, tk_al_101, tk_al_102, tk_al_103, tk_al_104, tk_al_105, tk_al_106, tk_al_107, tk_al_108, tk_al_109, tk_al_110, tk_al_111, tk_al_112, tk_al_113, tk_al_114, tk_al_115, tk_al_116, tk_al_117, tk_al_118, tk_al_119, tk_al_120, tk_al_121, tk_al_122, tk_al_123, tk_al_124, tk_al_125, tk_al_126, tk_al_127, tk_al_128, tk_al_129, h28, h29, h30, i1, i2, tk_set_o, tk_set_j, tk_set_eq, hp1, hp0] <;> exact hQ
theorem m_cstep {b to x o s : Int} {p : Nat} {μ0 μ : tk_M} {Q : Int → tk_M → Prop} (hI : tk_cI b to μ0 p μ) (hp : p < 206) (hto : to = 113 ∨ to = 114) (hb : b = 0 ∨ b = 1) (ho : tk_fo p = o) (hs : tk_fs p = s) (hx : x = μ o s) (hK : ∀ v μ1, tk_cI b to μ0 (p + 1) (tk_set μ1 o s v) → Q v μ1) : tkF_X7_carry [96, x] Q μ := by
  obtain ⟨h1, h2, h3, h4, h5⟩ := hI
  refine m_carry hp hto hb h1 h2 h3 (fun w hw => hK _ _ ?_)
  obtain ⟨p1, p2, p3, p4, p5⟩ := tk_pq_i ⟨p, hp⟩
  simp only at p1 p2 p3 p4 p5
  rw [ho] at p2 p3 p5
  rw [hs] at p4 p5
  have hpp := (h5 p hp).2 (Nat.le_refl p)
  have hww : w = tk_cwv b to μ0 p := by
    rw [hw, hx]
    unfold tk_cwv
    rw [ho, hs] at *
    rw [hpp.1, hpp.2]
  have hto2 : ¬ to = o := by omega
  have hto3 : ¬ to = 96 := by omega
  refine ⟨?_, ?_, ?_, fun o' i ho' => ?_, fun q hq => ?_⟩
  · unfold tk_set
    rw [if_neg (by omega), if_pos ⟨rfl, rfl⟩]
    omega
  · unfold tk_set
    rw [if_neg (by omega), if_neg (by omega), if_neg (by omega)]
    exact h2
  · unfold tk_set
    rw [if_neg (by omega), if_neg (by omega), if_neg (by omega)]
    exact h3
  · have hne : ¬ (o' = o ∧ i = s) := by
      rintro ⟨rfl, rfl⟩
      by_cases h9 : o' = 96
      · have h7 := p5 h9
        have h6 : ∀ q : Fin 8, tk_fs q.val = 0 ∨ tk_fs q.val = 1 ∨ tk_fs q.val = 5 ∨ tk_fs q.val = 13 ∨ tk_fs q.val = 14 ∨ tk_fs q.val = 15 ∨ tk_fs q.val = 18 ∨ tk_fs q.val = 21 := by decide +kernel
        have h8 : p < 8 := by
          refine Classical.byContradiction (fun z => ?_)
          have h10 : ∀ q : Fin 206, 8 ≤ q.val → ¬ tk_fo q.val = 96 := by decide +kernel
          exact h10 ⟨p, hp⟩ (by simp only; omega) (by simp only; rw [ho]; exact h9)
        have := h6 ⟨p, h8⟩
        simp only [hs] at this
        omega
      · omega
    unfold tk_set
    rw [if_neg hne, if_neg (by omega), if_neg (by omega)]
    exact h4 o' i ho'
  · obtain ⟨q1, q2, q3, q4, q5⟩ := tk_pq_i ⟨q, hq⟩
    simp only at q1 q2 q3 q4 q5
    have e1 : ¬ q = p → tk_set (tk_set (tk_set μ to p w) 96 28 (p + 1)) o s w (tk_fo q) (tk_fs q) = μ (tk_fo q) (tk_fs q) := fun hqp => by
      unfold tk_set
      rw [if_neg (fun z => hqp (tk_fo_in hq hp (by rw [ho]; exact z.1) (by rw [hs]; exact z.2))), if_neg (by omega), if_neg (by omega)]
    have e2 : ¬ q = p → tk_set (tk_set (tk_set μ to p w) 96 28 (p + 1)) o s w to q = μ to q := fun hqp => by
      unfold tk_set
      rw [if_neg (by omega), if_neg (by omega), if_neg (by omega)]
    refine ⟨fun hqp => ?_, fun hqp => ?_⟩
    · by_cases hqe : q = p
      · subst hqe
        rw [ho, hs, tk_set_eq]
        refine ⟨hww, ?_⟩
        unfold tk_set
        rw [if_neg (by omega), if_neg (by omega), if_pos ⟨rfl, rfl⟩]
        exact hww
      · rw [e1 hqe, e2 hqe]
        exact (h5 q hq).1 (by omega)
    · rw [e1 (by omega), e2 (by omega)]
      exact (h5 q hq).2 (by omega)
theorem tk_fo_t : ∀ t : Fin 24, (tk_fo (8 + 3 * t.val) = 97 ∧ tk_fs (8 + 3 * t.val) = t.val) ∧ (tk_fo (8 + 3 * t.val + 1) = 98 ∧ tk_fs (8 + 3 * t.val + 1) = t.val) ∧ (tk_fo (8 + 3 * t.val + 1 + 1) = 99 ∧ tk_fs (8 + 3 * t.val + 1 + 1) = t.val) := by decide +kernel
theorem tk_fo_c : ∀ t : Fin 8, (tk_fo (80 + 8 * t.val) = 100 ∧ tk_fs (80 + 8 * t.val) = t.val) ∧ (tk_fo (80 + 8 * t.val + 1) = 101 ∧ tk_fs (80 + 8 * t.val + 1) = t.val) ∧ (tk_fo (80 + 8 * t.val + 1 + 1) = 102 ∧ tk_fs (80 + 8 * t.val + 1 + 1) = t.val) ∧ (tk_fo (80 + 8 * t.val + 1 + 1 + 1) = 103 ∧ tk_fs (80 + 8 * t.val + 1 + 1 + 1) = t.val) ∧ (tk_fo (80 + 8 * t.val + 1 + 1 + 1 + 1) = 104 ∧ tk_fs (80 + 8 * t.val + 1 + 1 + 1 + 1) = t.val) ∧ (tk_fo (80 + 8 * t.val + 1 + 1 + 1 + 1 + 1) = 105 ∧ tk_fs (80 + 8 * t.val + 1 + 1 + 1 + 1 + 1) = t.val) ∧ (tk_fo (80 + 8 * t.val + 1 + 1 + 1 + 1 + 1 + 1) = 111 ∧ tk_fs (80 + 8 * t.val + 1 + 1 + 1 + 1 + 1 + 1) = t.val) ∧ (tk_fo (80 + 8 * t.val + 1 + 1 + 1 + 1 + 1 + 1 + 1) = 112 ∧ tk_fs (80 + 8 * t.val + 1 + 1 + 1 + 1 + 1 + 1 + 1) = t.val) := by decide +kernel
theorem tk_fo_r : ∀ t : Fin 32, tk_fo (144 + t.val) = 106 ∧ tk_fs (144 + t.val) = t.val := by decide +kernel
theorem tk_fo_e : ∀ t : Fin 5, (tk_fo (176 + 2 * t.val) = 107 ∧ tk_fs (176 + 2 * t.val) = t.val) ∧ (tk_fo (176 + 2 * t.val + 1) = 108 ∧ tk_fs (176 + 2 * t.val + 1) = t.val) := by decide +kernel
theorem tk_fo_p : ∀ t : Fin 10, (tk_fo (186 + 2 * t.val) = 109 ∧ tk_fs (186 + 2 * t.val) = t.val) ∧ (tk_fo (186 + 2 * t.val + 1) = 110 ∧ tk_fs (186 + 2 * t.val + 1) = t.val) := by decide +kernel
theorem m_carryAll {b to : Int} {μ : tk_M} {Q : Int → tk_M → Prop} (hto : to = 113 ∨ to = 114) (hb : b = 0 ∨ b = 1) (hQ : ∀ μ', (∃ μ0, (∀ o i : Int, ¬ (o = 96 ∧ (i = 28 ∨ i = 29 ∨ i = 30)) → μ0 o i = μ o i) ∧ tk_cI b to μ0 206 μ') → Q 0 μ') : tkF_X7_carryAll [96, to, b] Q μ := by
  simp [tk_fn, tk_env, tk_sq, tk_sk, tk_if, tk_re, tk_rez, tk_rev, tk_xp, tk_se, tk_pf, tk_pfz, tk_pfo, tk_as, tk_asz, tk_asb, tk_aso, tk_cpy, tk_sw, tk_swc, tk_lit, tk_loc, tk_u1, tk_bin, tk_dv, tk_gf, tk_gr, tk_gn, tk_ald, tk_aldq, tk_aln, tk_unl, tk_una, tk_ter, tk_args, tk_cs, tk_cv, tk_ceq, tk_cne, tk_clt, tk_cge, tk_cgt, tk_cle, tk_zeq, tk_zne, tk_zlt, tk_zge, tk_zgt, tk_zle, tk_and, tk_or, tk_not, tk_ct2, tk_isC, List.headD_cons, tk_up, tk_sca, tk_scl, tkF_X7_carryAll, tkS_X7_carryAll, hb]
  have hfr : ∀ o i : Int, ¬ (o = 96 ∧ (i = 28 ∨ i = 29 ∨ i = 30)) → (tk_set (tk_set (tk_set μ 96 30 to) 96 29 b) 96 28 0) o i = μ o i := fun o i ho => by
    unfold tk_set
    rw [if_neg (by omega), if_neg (by omega), if_neg (by omega)]
  have hs0 : tk_cI b to (tk_set (tk_set (tk_set μ 96 30 to) 96 29 b) 96 28 0) 0 (tk_set (tk_set (tk_set μ 96 30 to) 96 29 b) 96 28 0) := ⟨by rw [tk_set_eq]; rfl, by rw [tk_set_j (by omega), tk_set_eq], by rw [tk_set_j (by omega), tk_set_j (by omega), tk_set_eq], fun _ _ _ => rfl, fun q hq => ⟨fun z => by omega, fun _ => ⟨rfl, rfl⟩⟩⟩
  generalize tk_set (tk_set (tk_set μ 96 30 to) 96 29 b) 96 28 0 = μ0 at hfr hs0 ⊢
  refine m_cstep (o := 96) (s := 0) hs0 (by omega) hto hb (by decide) (by decide) rfl (fun v1 m1 h1 => ?_)
  refine m_cstep (o := 96) (s := 1) h1 (by omega) hto hb (by decide) (by decide) rfl (fun v2 m2 h2 => ?_)
  refine m_cstep (o := 96) (s := 5) h2 (by omega) hto hb (by decide) (by decide) rfl (fun v3 m3 h3 => ?_)
  refine m_cstep (o := 96) (s := 13) h3 (by omega) hto hb (by decide) (by decide) rfl (fun v4 m4 h4 => ?_)
  refine m_cstep (o := 96) (s := 14) h4 (by omega) hto hb (by decide) (by decide) rfl (fun v5 m5 h5 => ?_)
  refine m_cstep (o := 96) (s := 15) h5 (by omega) hto hb (by decide) (by decide) rfl (fun v6 m6 h6 => ?_)
  refine m_cstep (o := 96) (s := 18) h6 (by omega) hto hb (by decide) (by decide) rfl (fun v7 m7 h7 => ?_)
  refine m_cstep (o := 96) (s := 21) h7 (by omega) hto hb (by decide) (by decide) rfl (fun v8 m8 h8 => ?_)
  refine tk_for 24 (fun i ρ μ' => ρ 0 = 96 ∧ ρ 3 = i ∧ tk_cI b to μ0 (8 + 3 * i.toNat) μ') (by omega) ⟨rfl, rfl, h8⟩ ?_ ?_
  · rintro i ρ μ' hi0 hi6 ⟨r0, r3, hI⟩ K hK
    obtain ⟨t, rfl⟩ := tk_nnt hi0
    have i1 : tk_iadd t 1 = (t : Int) + 1 := tk_iadd_id (by omega) (by omega)
    obtain ⟨f1, f2, f3⟩ := tk_fo_t ⟨t, by omega⟩
    rw [Int.toNat_natCast] at hI
    simp [tk_fn, tk_env, tk_sq, tk_sk, tk_if, tk_re, tk_rez, tk_rev, tk_xp, tk_se, tk_pf, tk_pfz, tk_pfo, tk_as, tk_asz, tk_asb, tk_aso, tk_cpy, tk_sw, tk_swc, tk_lit, tk_loc, tk_u1, tk_bin, tk_dv, tk_gf, tk_gr, tk_gn, tk_ald, tk_aldq, tk_aln, tk_unl, tk_una, tk_ter, tk_args, tk_cs, tk_cv, tk_ceq, tk_cne, tk_clt, tk_cge, tk_cgt, tk_cle, tk_zeq, tk_zne, tk_zlt, tk_zge, tk_zgt, tk_zle, tk_and, tk_or, tk_not, tk_ct2, tk_isC, List.headD_cons, tk_up, tk_sca, tk_scl, r0, r3, hi0, hi6, tk_al_2, tk_al_3, tk_al_4, tk_al_5, tk_al_6, tk_al_7, tk_al_8, tk_al_9, tk_al_10, tk_al_11, tk_al_13, tk_al_14, tk_al_16, tk_al_17, tk_al_19, tk_al_20, tk_al_22, tk_al_24, tk_al_25, tk_al_26, tk_al_27, tk_al_28, tk_al_29, tk_al_30, tk_al_32, tk_al_33, tk_al_34, tk_al_35, tk_al_36, tk_al_37, tk_al_38, tk_al_39, tk_al_40, tk_al_41, tk_al_43, tk_al_44, tk_al_46, tk_al_47, tk_al_49, tk_al_50, tk_al_52, tk_al_54, tk_al_55, tk_al_56, tk_al_57, tk_al_58, tk_al_59, tk_al_60, tk_al_62, tk_al_63, tk_al_64, tk_al_65, tk_al_66, tk_al_67, tk_al_68, tk_al_69, tk_al_70, tk_al_71, tk_al_73, tk_al_74, tk_al_76, tk_al_77, tk_al_79, tk_al_80, tk_al_81, tk_al_83, tk_al_85, tk_al_87, tk_al_89, tk_al_91, tk_al_93, tk_al_95, tk_al_97, tk_al_98, tk_al_99, tk_al_100, tk_al_101, tk_al_102, tk_al_103, tk_al_104, tk_al_105, tk_al_106, tk_al_107, tk_al_108, tk_al_109, tk_al_110, tk_al_111, tk_al_112, tk_al_113, tk_al_114, tk_al_115, tk_al_116, tk_al_117, tk_al_118, tk_al_119, tk_al_120, tk_al_121, tk_al_122, tk_al_123, tk_al_124, tk_al_125, tk_al_126, tk_al_127, tk_al_128, tk_al_129, i1]
    refine m_cstep hI (by omega) hto hb f1.1 f1.2 rfl (fun v1 m1 h1 => ?_)
    refine m_cstep h1 (by omega) hto hb f2.1 f2.2 rfl (fun v2 m2 h2 => ?_)
    refine m_cstep h2 (by omega) hto hb f3.1 f3.2 rfl (fun v3 m3 h3 => ?_)
    refine hK _ _ ⟨r0, rfl, ?_⟩
    rw [show 8 + 3 * ((t : Int) + 1).toNat = 8 + 3 * t + 1 + 1 + 1 by omega]
    exact h3
  rintro ρ μ' ⟨r0, r3, hI⟩ X
  simp [tk_fn, tk_env, tk_sq, tk_sk, tk_if, tk_re, tk_rez, tk_rev, tk_xp, tk_se, tk_pf, tk_pfz, tk_pfo, tk_as, tk_asz, tk_asb, tk_aso, tk_cpy, tk_sw, tk_swc, tk_lit, tk_loc, tk_u1, tk_bin, tk_dv, tk_gf, tk_gr, tk_gn, tk_ald, tk_aldq, tk_aln, tk_unl, tk_una, tk_ter, tk_args, tk_cs, tk_cv, tk_ceq, tk_cne, tk_clt, tk_cge, tk_cgt, tk_cle, tk_zeq, tk_zne, tk_zlt, tk_zge, tk_zgt, tk_zle, tk_and, tk_or, tk_not, tk_ct2, tk_isC, List.headD_cons, tk_up, tk_sca, tk_scl, r0, r3]
  refine tk_for 8 (fun i ρ μ' => ρ 0 = 96 ∧ ρ 3 = i ∧ tk_cI b to μ0 (80 + 8 * i.toNat) μ') (by omega) ⟨r0, rfl, hI⟩ ?_ ?_
  · rintro i ρ μ' hi0 hi6 ⟨r0, r3, hI⟩ K hK
    obtain ⟨t, rfl⟩ := tk_nnt hi0
    have i1 : tk_iadd t 1 = (t : Int) + 1 := tk_iadd_id (by omega) (by omega)
    obtain ⟨f1, f2, f3, f4, f5, f6, f7, f8⟩ := tk_fo_c ⟨t, by omega⟩
    rw [Int.toNat_natCast] at hI
    simp [tk_fn, tk_env, tk_sq, tk_sk, tk_if, tk_re, tk_rez, tk_rev, tk_xp, tk_se, tk_pf, tk_pfz, tk_pfo, tk_as, tk_asz, tk_asb, tk_aso, tk_cpy, tk_sw, tk_swc, tk_lit, tk_loc, tk_u1, tk_bin, tk_dv, tk_gf, tk_gr, tk_gn, tk_ald, tk_aldq, tk_aln, tk_unl, tk_una, tk_ter, tk_args, tk_cs, tk_cv, tk_ceq, tk_cne, tk_clt, tk_cge, tk_cgt, tk_cle, tk_zeq, tk_zne, tk_zlt, tk_zge, tk_zgt, tk_zle, tk_and, tk_or, tk_not, tk_ct2, tk_isC, List.headD_cons, tk_up, tk_sca, tk_scl, r0, r3, hi0, hi6, tk_al_2, tk_al_3, tk_al_4, tk_al_5, tk_al_6, tk_al_7, tk_al_8, tk_al_9, tk_al_10, tk_al_11, tk_al_13, tk_al_14, tk_al_16, tk_al_17, tk_al_19, tk_al_20, tk_al_22, tk_al_24, tk_al_25, tk_al_26, tk_al_27, tk_al_28, tk_al_29, tk_al_30, tk_al_32, tk_al_33, tk_al_34, tk_al_35, tk_al_36, tk_al_37, tk_al_38, tk_al_39, tk_al_40, tk_al_41, tk_al_43, tk_al_44, tk_al_46, tk_al_47, tk_al_49, tk_al_50, tk_al_52, tk_al_54, tk_al_55, tk_al_56, tk_al_57, tk_al_58, tk_al_59, tk_al_60, tk_al_62, tk_al_63, tk_al_64, tk_al_65, tk_al_66, tk_al_67, tk_al_68, tk_al_69, tk_al_70, tk_al_71, tk_al_73, tk_al_74, tk_al_76, tk_al_77, tk_al_79, tk_al_80, tk_al_81, tk_al_83, tk_al_85, tk_al_87, tk_al_89, tk_al_91, tk_al_93, tk_al_95, tk_al_97, tk_al_98, tk_al_99, tk_al_100, tk_al_101, tk_al_102, tk_al_103, tk_al_104, tk_al_105, tk_al_106, tk_al_107, tk_al_108, tk_al_109, tk_al_110, tk_al_111, tk_al_112, tk_al_113, tk_al_114, tk_al_115, tk_al_116, tk_al_117, tk_al_118, tk_al_119, tk_al_120, tk_al_121, tk_al_122, tk_al_123, tk_al_124, tk_al_125, tk_al_126, tk_al_127, tk_al_128, tk_al_129, i1]
    refine m_cstep hI (by omega) hto hb f1.1 f1.2 rfl (fun v1 m1 h1 => ?_)
    refine m_cstep h1 (by omega) hto hb f2.1 f2.2 rfl (fun v2 m2 h2 => ?_)
    refine m_cstep h2 (by omega) hto hb f3.1 f3.2 rfl (fun v3 m3 h3 => ?_)
    refine m_cstep h3 (by omega) hto hb f4.1 f4.2 rfl (fun v4 m4 h4 => ?_)
    refine m_cstep h4 (by omega) hto hb f5.1 f5.2 rfl (fun v5 m5 h5 => ?_)
    refine m_cstep h5 (by omega) hto hb f6.1 f6.2 rfl (fun v6 m6 h6 => ?_)
    refine m_cstep h6 (by omega) hto hb f7.1 f7.2 rfl (fun v7 m7 h7 => ?_)
    refine m_cstep h7 (by omega) hto hb f8.1 f8.2 rfl (fun v8 m8 h8 => ?_)
    refine hK _ _ ⟨r0, rfl, ?_⟩
    rw [show 80 + 8 * ((t : Int) + 1).toNat = 80 + 8 * t + 1 + 1 + 1 + 1 + 1 + 1 + 1 + 1 by omega]
    exact h8
  rintro ρ μ' ⟨r0, r3, hI⟩ X
  simp [tk_fn, tk_env, tk_sq, tk_sk, tk_if, tk_re, tk_rez, tk_rev, tk_xp, tk_se, tk_pf, tk_pfz, tk_pfo, tk_as, tk_asz, tk_asb, tk_aso, tk_cpy, tk_sw, tk_swc, tk_lit, tk_loc, tk_u1, tk_bin, tk_dv, tk_gf, tk_gr, tk_gn, tk_ald, tk_aldq, tk_aln, tk_unl, tk_una, tk_ter, tk_args, tk_cs, tk_cv, tk_ceq, tk_cne, tk_clt, tk_cge, tk_cgt, tk_cle, tk_zeq, tk_zne, tk_zlt, tk_zge, tk_zgt, tk_zle, tk_and, tk_or, tk_not, tk_ct2, tk_isC, List.headD_cons, tk_up, tk_sca, tk_scl, r0, r3]
  refine tk_for 32 (fun i ρ μ' => ρ 0 = 96 ∧ ρ 3 = i ∧ tk_cI b to μ0 (144 + i.toNat) μ') (by omega) ⟨r0, rfl, hI⟩ ?_ ?_
  · rintro i ρ μ' hi0 hi6 ⟨r0, r3, hI⟩ K hK
    obtain ⟨t, rfl⟩ := tk_nnt hi0
    have i1 : tk_iadd t 1 = (t : Int) + 1 := tk_iadd_id (by omega) (by omega)
    have f1 := tk_fo_r ⟨t, by omega⟩
    rw [Int.toNat_natCast] at hI
    simp [tk_fn, tk_env, tk_sq, tk_sk, tk_if, tk_re, tk_rez, tk_rev, tk_xp, tk_se, tk_pf, tk_pfz, tk_pfo, tk_as, tk_asz, tk_asb, tk_aso, tk_cpy, tk_sw, tk_swc, tk_lit, tk_loc, tk_u1, tk_bin, tk_dv, tk_gf, tk_gr, tk_gn, tk_ald, tk_aldq, tk_aln, tk_unl, tk_una, tk_ter, tk_args, tk_cs, tk_cv, tk_ceq, tk_cne, tk_clt, tk_cge, tk_cgt, tk_cle, tk_zeq, tk_zne, tk_zlt, tk_zge, tk_zgt, tk_zle, tk_and, tk_or, tk_not, tk_ct2, tk_isC, List.headD_cons, tk_up, tk_sca, tk_scl, r0, r3, hi0, hi6, tk_al_2, tk_al_3, tk_al_4, tk_al_5, tk_al_6, tk_al_7, tk_al_8, tk_al_9, tk_al_10, tk_al_11, tk_al_13, tk_al_14, tk_al_16, tk_al_17, tk_al_19, tk_al_20, tk_al_22, tk_al_24, tk_al_25, tk_al_26, tk_al_27, tk_al_28, tk_al_29, tk_al_30, tk_al_32, tk_al_33, tk_al_34, tk_al_35, tk_al_36, tk_al_37, tk_al_38, tk_al_39, tk_al_40, tk_al_41, tk_al_43, tk_al_44, tk_al_46, tk_al_47, tk_al_49, tk_al_50, tk_al_52, tk_al_54, tk_al_55, tk_al_56, tk_al_57, tk_al_58, tk_al_59, tk_al_60, tk_al_62, tk_al_63, tk_al_64, tk_al_65, tk_al_66, tk_al_67, tk_al_68, tk_al_69, tk_al_70, tk_al_71, tk_al_73, tk_al_74, tk_al_76, tk_al_77, tk_al_79, tk_al_80, tk_al_81, tk_al_83, tk_al_85, tk_al_87, tk_al_89, tk_al_91, tk_al_93, tk_al_95, tk_al_97, tk_al_98, tk_al_99, tk_al_100, tk_al_101, tk_al_102, tk_al_103, tk_al_104, tk_al_105, tk_al_106, tk_al_107, tk_al_108, tk_al_109, tk_al_110, tk_al_111, tk_al_112, tk_al_113, tk_al_114, tk_al_115, tk_al_116, tk_al_117, tk_al_118, tk_al_119, tk_al_120, tk_al_121, tk_al_122, tk_al_123, tk_al_124, tk_al_125, tk_al_126, tk_al_127, tk_al_128, tk_al_129, i1]
    refine m_cstep hI (by omega) hto hb f1.1 f1.2 rfl (fun v1 m1 h1 => ?_)
    refine hK _ _ ⟨r0, rfl, ?_⟩
    rw [show 144 + ((t : Int) + 1).toNat = 144 + t + 1 by omega]
    exact h1
  rintro ρ μ' ⟨r0, r3, hI⟩ X
  simp [tk_fn, tk_env, tk_sq, tk_sk, tk_if, tk_re, tk_rez, tk_rev, tk_xp, tk_se, tk_pf, tk_pfz, tk_pfo, tk_as, tk_asz, tk_asb, tk_aso, tk_cpy, tk_sw, tk_swc, tk_lit, tk_loc, tk_u1, tk_bin, tk_dv, tk_gf, tk_gr, tk_gn, tk_ald, tk_aldq, tk_aln, tk_unl, tk_una, tk_ter, tk_args, tk_cs, tk_cv, tk_ceq, tk_cne, tk_clt, tk_cge, tk_cgt, tk_cle, tk_zeq, tk_zne, tk_zlt, tk_zge, tk_zgt, tk_zle, tk_and, tk_or, tk_not, tk_ct2, tk_isC, List.headD_cons, tk_up, tk_sca, tk_scl, r0, r3]
  refine tk_for 5 (fun i ρ μ' => ρ 0 = 96 ∧ ρ 3 = i ∧ tk_cI b to μ0 (176 + 2 * i.toNat) μ') (by omega) ⟨r0, rfl, hI⟩ ?_ ?_
  · rintro i ρ μ' hi0 hi6 ⟨r0, r3, hI⟩ K hK
    obtain ⟨t, rfl⟩ := tk_nnt hi0
    have i1 : tk_iadd t 1 = (t : Int) + 1 := tk_iadd_id (by omega) (by omega)
    obtain ⟨f1, f2⟩ := tk_fo_e ⟨t, by omega⟩
    rw [Int.toNat_natCast] at hI
    simp [tk_fn, tk_env, tk_sq, tk_sk, tk_if, tk_re, tk_rez, tk_rev, tk_xp, tk_se, tk_pf, tk_pfz, tk_pfo, tk_as, tk_asz, tk_asb, tk_aso, tk_cpy, tk_sw, tk_swc, tk_lit, tk_loc, tk_u1, tk_bin, tk_dv, tk_gf, tk_gr, tk_gn, tk_ald, tk_aldq, tk_aln, tk_unl, tk_una, tk_ter, tk_args, tk_cs, tk_cv, tk_ceq, tk_cne, tk_clt, tk_cge, tk_cgt, tk_cle, tk_zeq, tk_zne, tk_zlt, tk_zge, tk_zgt, tk_zle, tk_and, tk_or, tk_not, tk_ct2, tk_isC, List.headD_cons, tk_up, tk_sca, tk_scl, r0, r3, hi0, hi6, tk_al_2, tk_al_3, tk_al_4, tk_al_5, tk_al_6, tk_al_7, tk_al_8, tk_al_9, tk_al_10, tk_al_11, tk_al_13, tk_al_14, tk_al_16, tk_al_17, tk_al_19, tk_al_20, tk_al_22, tk_al_24, tk_al_25, tk_al_26, tk_al_27, tk_al_28, tk_al_29, tk_al_30, tk_al_32, tk_al_33, tk_al_34, tk_al_35, tk_al_36, tk_al_37, tk_al_38, tk_al_39, tk_al_40, tk_al_41, tk_al_43, tk_al_44, tk_al_46, tk_al_47, tk_al_49, tk_al_50, tk_al_52, tk_al_54, tk_al_55, tk_al_56, tk_al_57, tk_al_58, tk_al_59, tk_al_60, tk_al_62, tk_al_63, tk_al_64, tk_al_65, tk_al_66, tk_al_67, tk_al_68, tk_al_69, tk_al_70, tk_al_71, tk_al_73, tk_al_74, tk_al_76, tk_al_77, tk_al_79, tk_al_80, tk_al_81, tk_al_83, tk_al_85, tk_al_87, tk_al_89, tk_al_91, tk_al_93, tk_al_95, tk_al_97, tk_al_98, tk_al_99, tk_al_100, tk_al_101, tk_al_102, tk_al_103, tk_al_104, tk_al_105, tk_al_106, tk_al_107, tk_al_108, tk_al_109, tk_al_110, tk_al_111, tk_al_112, tk_al_113, tk_al_114, tk_al_115, tk_al_116, tk_al_117, tk_al_118, tk_al_119, tk_al_120, tk_al_121, tk_al_122, tk_al_123, tk_al_124, tk_al_125, tk_al_126, tk_al_127, tk_al_128, tk_al_129, i1]
    refine m_cstep hI (by omega) hto hb f1.1 f1.2 rfl (fun v1 m1 h1 => ?_)
    refine m_cstep h1 (by omega) hto hb f2.1 f2.2 rfl (fun v2 m2 h2 => ?_)
    refine hK _ _ ⟨r0, rfl, ?_⟩
    rw [show 176 + 2 * ((t : Int) + 1).toNat = 176 + 2 * t + 1 + 1 by omega]
    exact h2
  rintro ρ μ' ⟨r0, r3, hI⟩ X
  simp [tk_fn, tk_env, tk_sq, tk_sk, tk_if, tk_re, tk_rez, tk_rev, tk_xp, tk_se, tk_pf, tk_pfz, tk_pfo, tk_as, tk_asz, tk_asb, tk_aso, tk_cpy, tk_sw, tk_swc, tk_lit, tk_loc, tk_u1, tk_bin, tk_dv, tk_gf, tk_gr, tk_gn, tk_ald, tk_aldq, tk_aln, tk_unl, tk_una, tk_ter, tk_args, tk_cs, tk_cv, tk_ceq, tk_cne, tk_clt, tk_cge, tk_cgt, tk_cle, tk_zeq, tk_zne, tk_zlt, tk_zge, tk_zgt, tk_zle, tk_and, tk_or, tk_not, tk_ct2, tk_isC, List.headD_cons, tk_up, tk_sca, tk_scl, r0, r3]
  refine tk_for 10 (fun i ρ μ' => ρ 0 = 96 ∧ ρ 3 = i ∧ tk_cI b to μ0 (186 + 2 * i.toNat) μ') (by omega) ⟨r0, rfl, hI⟩ ?_ ?_
  · rintro i ρ μ' hi0 hi6 ⟨r0, r3, hI⟩ K hK
    obtain ⟨t, rfl⟩ := tk_nnt hi0
    have i1 : tk_iadd t 1 = (t : Int) + 1 := tk_iadd_id (by omega) (by omega)
    obtain ⟨f1, f2⟩ := tk_fo_p ⟨t, by omega⟩
    rw [Int.toNat_natCast] at hI
    simp [tk_fn, tk_env, tk_sq, tk_sk, tk_if, tk_re, tk_rez, tk_rev, tk_xp, tk_se, tk_pf, tk_pfz, tk_pfo, tk_as, tk_asz, tk_asb, tk_aso, tk_cpy, tk_sw, tk_swc, tk_lit, tk_loc, tk_u1, tk_bin, tk_dv, tk_gf, tk_gr, tk_gn, tk_ald, tk_aldq, tk_aln, tk_unl, tk_una, tk_ter, tk_args, tk_cs, tk_cv, tk_ceq, tk_cne, tk_clt, tk_cge, tk_cgt, tk_cle, tk_zeq, tk_zne, tk_zlt, tk_zge, tk_zgt, tk_zle, tk_and, tk_or, tk_not, tk_ct2, tk_isC, List.headD_cons, tk_up, tk_sca, tk_scl, r0, r3, hi0, hi6, tk_al_2, tk_al_3, tk_al_4, tk_al_5, tk_al_6, tk_al_7, tk_al_8, tk_al_9, tk_al_10, tk_al_11, tk_al_13, tk_al_14, tk_al_16, tk_al_17, tk_al_19, tk_al_20, tk_al_22, tk_al_24, tk_al_25, tk_al_26, tk_al_27, tk_al_28, tk_al_29, tk_al_30, tk_al_32, tk_al_33, tk_al_34, tk_al_35, tk_al_36, tk_al_37, tk_al_38, tk_al_39, tk_al_40, tk_al_41, tk_al_43, tk_al_44, tk_al_46, tk_al_47, tk_al_49, tk_al_50, tk_al_52, tk_al_54, tk_al_55, tk_al_56, tk_al_57, tk_al_58, tk_al_59, tk_al_60, tk_al_62, tk_al_63, tk_al_64, tk_al_65, tk_al_66, tk_al_67, tk_al_68, tk_al_69, tk_al_70, tk_al_71, tk_al_73, tk_al_74, tk_al_76, tk_al_77, tk_al_79, tk_al_80, tk_al_81, tk_al_83, tk_al_85, tk_al_87, tk_al_89, tk_al_91, tk_al_93, tk_al_95, tk_al_97, tk_al_98, tk_al_99, tk_al_100, tk_al_101, tk_al_102, tk_al_103, tk_al_104, tk_al_105, tk_al_106, tk_al_107, tk_al_108, tk_al_109, tk_al_110, tk_al_111, tk_al_112, tk_al_113, tk_al_114, tk_al_115, tk_al_116, tk_al_117, tk_al_118, tk_al_119, tk_al_120, tk_al_121, tk_al_122, tk_al_123, tk_al_124, tk_al_125, tk_al_126, tk_al_127, tk_al_128, tk_al_129, i1]
    refine m_cstep hI (by omega) hto hb f1.1 f1.2 rfl (fun v1 m1 h1 => ?_)
    refine m_cstep h1 (by omega) hto hb f2.1 f2.2 rfl (fun v2 m2 h2 => ?_)
    refine hK _ _ ⟨r0, rfl, ?_⟩
    rw [show 186 + 2 * ((t : Int) + 1).toNat = 186 + 2 * t + 1 + 1 by omega]
    exact h2
  rintro ρ μ' ⟨r0, r3, hI⟩ X
  simp [tk_fn, tk_env, tk_sq, tk_sk, tk_if, tk_re, tk_rez, tk_rev, tk_xp, tk_se, tk_pf, tk_pfz, tk_pfo, tk_as, tk_asz, tk_asb, tk_aso, tk_cpy, tk_sw, tk_swc, tk_lit, tk_loc, tk_u1, tk_bin, tk_dv, tk_gf, tk_gr, tk_gn, tk_ald, tk_aldq, tk_aln, tk_unl, tk_una, tk_ter, tk_args, tk_cs, tk_cv, tk_ceq, tk_cne, tk_clt, tk_cge, tk_cgt, tk_cle, tk_zeq, tk_zne, tk_zlt, tk_zge, tk_zgt, tk_zle, tk_and, tk_or, tk_not, tk_ct2, tk_isC, List.headD_cons, tk_up, tk_sca, tk_scl, r0, r3]
  exact hQ _ ⟨μ0, hfr, hI⟩
/-- the places that an image has -/
def tk_ca (f i : Int) : Prop := (f = 0 ∧ 0 ≤ i ∧ i < 5) ∨ ((1 ≤ f ∧ f ≤ 3) ∧ 0 ≤ i ∧ i < 24) ∨ ((4 ≤ f ∧ f ≤ 9) ∧ 0 ≤ i ∧ i < 8) ∨ (f = 10 ∧ 0 ≤ i ∧ i < 32) ∨ ((f = 11 ∨ f = 14 ∨ f = 17) ∧ i = 0) ∨ ((f = 12 ∨ f = 13) ∧ 0 ≤ i ∧ i < 5) ∨ ((f = 15 ∨ f = 16) ∧ 0 ≤ i ∧ i < 10) ∨ ((f = 18 ∨ f = 19) ∧ 0 ≤ i ∧ i < 8)
