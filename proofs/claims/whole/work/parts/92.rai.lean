/-! ===== Layer 2: what a TICKET must be raised to ===== -/
def tk_rr (P : Int → Prop) (r : Int) : Prop := (r = -5 ∧ ∀ n : Int, 1 ≤ n → n ≤ 200 → ¬ P n) ∨ ((1 ≤ r ∧ r ≤ 200) ∧ P r ∧ ∀ n : Int, 1 ≤ n → n < r → ¬ P n)
theorem tk_rr_u {P : Int → Prop} {r s : Int} (h : tk_rr P r) (h' : tk_rr P s) : r = s := by
  rcases h with ⟨h1, h2⟩ | ⟨h1, h2, h3⟩ <;> rcases h' with ⟨g1, g2⟩ | ⟨g1, g2, g3⟩
  · rw [h1, g1]
  · exact absurd g2 (h2 s g1.1 g1.2)
  · exact absurd h2 (g2 r h1.1 h1.2)
  · rcases Int.lt_trichotomy r s with z | z | z
    · exact absurd h2 (g3 r h1.1 z)
    · exact z
    · exact absurd g2 (h3 s g1.1 z)
theorem tk_rr_c {P P' : Int → Prop} {r : Int} (h : tk_rr P r) (hP : ∀ n : Int, 1 ≤ n → n ≤ 200 → (P n ↔ P' n)) : tk_rr P' r := by
  rcases h with ⟨h1, h2⟩ | ⟨h1, h2, h3⟩
  · exact .inl ⟨h1, fun n h3 h4 z => h2 n h3 h4 ((hP n h3 h4).mpr z)⟩
  · exact .inr ⟨h1, (hP r h1.1 h1.2).mp h2, fun n h4 h5 z => h3 n h4 h5 ((hP n h4 (by omega)).mpr z)⟩
/-- an even chance -/
def tk_ev (S : tk_M) (c : Int) : Prop := tk_rd (tk_shr S) S c = 1 ∧ tk_tot (tk_shr S) S ≤ 2 * tk_we (tk_shr S) S c
theorem tk_ev_eq {S T : tk_M} (hE : tk_EE S T) (hI : tk_II S) {c : Int} (hc : 0 ≤ c ∧ c < S 0 2) : tk_ev T c ↔ tk_ev S c := by
  unfold tk_ev
  rw [tk_shr_EE hE hI, tk_rd_eq (tk_EQ_of hE) hc, tk_tot_eq (tk_EQ_of hE), tk_we_eq (tk_EQ_of hE) hc]
/-- what nobody has counts for nothing -/
theorem tk_shr_2 {S : tk_M} {t v : Int} (h1I : tk_I1 S) (h5 : S 3 t = -5) : tk_shr (tk_set S 2 t v) = tk_shr S := by
  have e1 : ∀ u, tk_set S 2 t v 1 u = S 1 u := fun u => tk_set_o (by omega)
  have e3 : ∀ u, tk_set S 2 t v 3 u = S 3 u := fun u => tk_set_o (by omega)
  have e9 : ∀ u, tk_set S 2 t v 9 u = S 9 u := fun u => tk_set_o (by omega)
  have e0 : ∀ u, tk_set S 2 t v 0 u = S 0 u := fun u => tk_set_o (by omega)
  have e2 : ∀ u, ¬ u = t → tk_set S 2 t v 2 u = S 2 u := fun u hu => tk_set_j hu
  have hisu : ∀ c, tk_isu (tk_set S 2 t v) c = tk_isu S c := fun c => by
    unfold tk_isu
    rw [e0]
    refine tk_sm_congr (fun u h1 h2 => ?_)
    rw [e1, e3]
    by_cases hu : u = t
    · rw [hu, if_neg (fun z => z.2 h5), if_neg (fun z => z.2 h5)]
    · rw [e2 u hu]
  have hwo : ∀ (w w' : Int → Int) u, ¬ u = t → w (S 1 u) = w' (S 1 u) → tk_wo (tk_set S 2 t v) w u = tk_wo S w' u := fun w w' u hu hw => by
    unfold tk_wo
    rw [e1, e2 u hu, hisu, hw]
  have hvl : ∀ (k : Nat) (c : Int), 0 ≤ c → tk_vl (tk_set S 2 t v) k c = tk_vl S k c := by
    intro k
    induction k with
    | zero => intro c hc; rfl
    | succ k ih =>
      intro c hc
      unfold tk_vl
      rw [e0]
      refine tk_sm_congr (fun u h1 h2 => ?_)
      rw [e3]
      by_cases hu : S 3 u = 10 + c
      · rw [if_pos hu, if_pos hu]
        have hut : ¬ u = t := fun z => by rw [z, h5] at hu; omega
        exact hwo _ _ u hut (ih _ (h1I u h1 h2).1.1)
      · rw [if_neg hu, if_neg hu]
  have hhd : ∀ p : Int, 0 ≤ p → tk_hd (tk_set S 2 t v) p = tk_hd S p := fun p hp => by
    unfold tk_hd
    rw [e0]
    refine tk_sm_congr (fun u h1 h2 => ?_)
    rw [e3]
    by_cases hu : S 3 u = p
    · rw [if_pos hu, if_pos hu]
      have hut : ¬ u = t := fun z => by rw [z, h5] at hu; omega
      exact hwo _ _ u hut (hvl 6 _ (h1I u h1 h2).1.1)
    · rw [if_neg hu, if_neg hu]
  have hpth : ∀ (c : Int) (k : Nat), tk_pth (tk_set S 2 t v) c k = tk_pth S c k := fun c k => by
    induction k with
    | zero => rfl
    | succ k ih => unfold tk_pth; rw [ih, e9]
  funext a
  unfold tk_shr
  rw [e0]
  refine tk_sm_congr (fun c h1 h2 => tk_sg_congr (fun k _ _ => ?_))
  rw [hpth, hhd c h1]
theorem tk_sv_2 {S : tk_M} {c v p : Int} : tk_sv (tk_set S 2 c v) p = tk_sv S p := by
  unfold tk_sv
  rw [tk_set_o (by omega)]
  exact tk_sm_congr (fun o _ _ => by rw [tk_set_o (by omega)])
theorem tk_we_2 {sh : Int → Int} {S : tk_M} {c v p : Int} : tk_we sh (tk_set S 2 c v) p = tk_we sh S p := by
  unfold tk_we
  rw [tk_set_o (by omega)]
theorem tk_rd_2 {sh : Int → Int} {S : tk_M} {c v p : Int} : tk_rd sh (tk_set S 2 c v) p = tk_rd sh S p := by
  unfold tk_rd
  rw [tk_we_2, tk_sv_2, tk_set_o (by omega), tk_set_o (by omega)]
theorem tk_tot_2 {sh : Int → Int} {S : tk_M} {c v : Int} : tk_tot sh (tk_set S 2 c v) = tk_tot sh S := by
  unfold tk_tot
  rw [tk_set_o (by omega)]
  exact tk_sm_congr (fun p _ _ => by
    unfold tk_rw
    rw [tk_rd_2, tk_we_2])
theorem tk_ev_2 {S : tk_M} {t v c : Int} (h1I : tk_I1 S) (h5 : S 3 t = -5) : tk_ev (tk_set S 2 t v) c ↔ tk_ev S c := by
  unfold tk_ev
  rw [tk_shr_2 h1I h5, tk_rd_2, tk_tot_2, tk_we_2]
theorem tk_bk_2 {S : tk_M} {t v w u y : Int} : tk_bk (tk_set S 2 t v) w u y ↔ tk_bk S w u y := by
  unfold tk_bk
  rw [tk_set_o (by omega), tk_set_o (by omega)]
theorem tk_aw_2 {S : tk_M} {t v : Int} {al : Int → Int} (h : tk_aw S al) : tk_aw (tk_set S 2 t v) al := by
  have e0 : tk_set S 2 t v 0 1 = S 0 1 := tk_set_o (by omega)
  obtain ⟨a, b, c, d⟩ := h
  unfold tk_aw
  rw [e0]
  exact ⟨a, b, c, fun j h1 h2 u hu => d j h1 h2 u (by rw [tk_set_o (by omega)] at hu; exact tk_bk_2.mp hu)⟩
theorem x_raiseOf {c t : Int} {μ : tk_M} {Q : Int → tk_M → Prop} (hI : tk_II (tk_hw 1 μ)) (hc : 0 ≤ c ∧ c < μ 1 2) (ht : 0 ≤ t ∧ t < μ 1 1) (hQ : ∀ r μ1, tk_f1 31 60 μ μ1 → tk_rr (fun n => tk_ev (tk_set (tk_hw 1 μ) 2 t n) c) r → Q r μ1) : tkF_X6_raiseOf [0, c, t] Q μ := by
  have hn : 0 ≤ μ 1 1 ∧ μ 1 1 ≤ 24 := hI.1.2.1
  have hm : 0 ≤ μ 1 2 ∧ μ 1 2 ≤ 8 := hI.1.2.2.1
  have c8 : c < 8 := by omega
  have t24 : t < 24 := by omega
  simp [tk_fn, tk_env, tk_sq, tk_sk, tk_if, tk_re, tk_rez, tk_rev, tk_xp, tk_se, tk_pf, tk_pfz, tk_pfo, tk_as, tk_asz, tk_asb, tk_aso, tk_cpy, tk_sw, tk_swc, tk_lit, tk_loc, tk_u1, tk_bin, tk_dv, tk_gf, tk_gr, tk_gn, tk_ald, tk_aldq, tk_aln, tk_unl, tk_una, tk_ter, tk_args, tk_cs, tk_cv, tk_ceq, tk_cne, tk_clt, tk_cge, tk_cgt, tk_cle, tk_zeq, tk_zne, tk_zlt, tk_zge, tk_zgt, tk_zle, tk_and, tk_or, tk_not, tk_ct2, tk_isC, List.headD_cons, tk_up, tk_sca, tk_scl, tkF_X6_raiseOf, tkS_X6_raiseOf]
  refine x_begin hI (fun μ0 hf0 hE0 _ _ ha0 => ?_)
  have e34 : μ0 34 t = μ 4 t := (hE0.2.1 t ht.1 ht.2).2.2
  -- the loop, most being any that will do
  have go : ∀ (most : Int) (ρ0 : tk_L), 1 ≤ most → most ≤ 200 → (most = 200 ∨ (most = 1 ∧ μ 4 t = -5)) → ρ0 0 = 0 → ρ0 1 = c → ρ0 2 = t → ρ0 3 = most → ρ0 4 = 1 → tk_wh (tk_cle (tk_loc 4) (tk_loc 3)) (tk_sq (tk_sq (tk_as 0 (tk_gr 2 (2) (tk_gr 6 (31) (tk_loc 0))) (tk_loc 2) (tk_loc 4)) (tk_sq (tk_xp (tk_cv 0 tkF_X0_revalue [(tk_gr 6 (51) (tk_loc 0))])) (tk_if (tk_and (tk_zne (tk_cv 0 tkF_X0_isReady [(tk_gr 6 (51) (tk_loc 0)), (tk_loc 1)])) (tk_cge (tk_bin tk_lmul (tk_lit (2)) (tk_ald 1 (tk_gr 0 (1) (tk_gr 6 (51) (tk_loc 0))) (tk_loc 1))) (tk_gf 0 4 (tk_gr 6 (51) (tk_loc 0))))) (tk_re (tk_loc 4)) tk_sk))) (tk_se 4 (tk_bin tk_iadd (tk_loc 4) (tk_lit (1))))) (fun _ μ2 => Q (-5) μ2) Q ρ0 μ0 := by
    intro most ρ0 hm1 hm2 hm3 p0 p1 p2 p3 p4
    refine tk_for most (fun i ρ μ' => tk_f1 31 60 μ μ' ∧ (∀ n : Int, tk_EE (tk_set (tk_hw 1 μ) 2 t n) (tk_set (tk_hw 31 μ') 2 t n)) ∧ tk_aw (tk_hw 31 μ') (fun j => μ' 55 j) ∧ ρ 0 = 0 ∧ ρ 1 = c ∧ ρ 2 = t ∧ ρ 3 = most ∧ ρ 4 = i + 1 ∧ ∀ n : Int, 1 ≤ n → n ≤ i → ¬ tk_ev (tk_set (tk_hw 1 μ) 2 t n) c) (by omega) ⟨hf0, fun n => tk_EE_2 hE0, ha0, p0, p1, p2, p3, p4, fun n h1 h2 => by omega⟩ ?_ ?_
    · rintro i ρ μ' hi0 hi6 ⟨hf, hE, ha, r0, r1, r2, r3, r4, hb⟩ K hK
      have i1 : tk_iadd (i + 1) 1 = i + 1 + 1 := tk_iadd_id (by omega) (by omega)
      have hle : i + 1 ≤ most := by omega
      have hE2 := hE (i + 1)
      have hI1 := tk_II_2 hI (t := t) (v := i + 1) (by omega)
      have hI2 := tk_II_EE hE2 hI1
      have hh : tk_hw 31 (tk_set μ' 33 t (i + 1)) = tk_set (tk_hw 31 μ') 2 t (i + 1) := tk_hw_set (h := 31) (f := 2) (by omega)
      simp [tk_fn, tk_env, tk_sq, tk_sk, tk_if, tk_re, tk_rez, tk_rev, tk_xp, tk_se, tk_pf, tk_pfz, tk_pfo, tk_as, tk_asz, tk_asb, tk_aso, tk_cpy, tk_sw, tk_swc, tk_lit, tk_loc, tk_u1, tk_bin, tk_dv, tk_gf, tk_gr, tk_gn, tk_ald, tk_aldq, tk_aln, tk_unl, tk_una, tk_ter, tk_args, tk_cs, tk_cv, tk_ceq, tk_cne, tk_clt, tk_cge, tk_cgt, tk_cle, tk_zeq, tk_zne, tk_zlt, tk_zge, tk_zgt, tk_zle, tk_and, tk_or, tk_not, tk_ct2, tk_isC, List.headD_cons, tk_up, tk_sca, tk_scl, r0, r1, r2, r3, r4, hle, ht.1, t24, tk_al_2, tk_al_3, tk_al_4, tk_al_5, tk_al_6, tk_al_7, tk_al_8, tk_al_9, tk_al_10, tk_al_11, tk_al_13, tk_al_14, tk_al_16, tk_al_17, tk_al_19, tk_al_20, tk_al_22, tk_al_24, tk_al_25, tk_al_26, tk_al_27, tk_al_28, tk_al_29, tk_al_30, tk_al_32, tk_al_33, tk_al_34, tk_al_35, tk_al_36, tk_al_37, tk_al_38, tk_al_39, tk_al_40, tk_al_41, tk_al_43, tk_al_44, tk_al_46, tk_al_47, tk_al_49, tk_al_50, tk_al_52, tk_al_54, tk_al_55, tk_al_56, tk_al_57, tk_al_58, tk_al_59, tk_al_60, tk_al_62, tk_al_63, tk_al_64, tk_al_65, tk_al_66, tk_al_67, tk_al_68, tk_al_69, tk_al_70, tk_al_71, tk_al_73, tk_al_74, tk_al_76, tk_al_77, tk_al_79, tk_al_80, tk_al_81, tk_al_83, tk_al_85, tk_al_87, tk_al_89, tk_al_91, tk_al_93, tk_al_95, tk_al_97, tk_al_98, tk_al_99, tk_al_100, tk_al_101, tk_al_102, tk_al_103, tk_al_104, tk_al_105, tk_al_106, tk_al_107, tk_al_108, tk_al_109, tk_al_110, tk_al_111, tk_al_112, tk_al_113, tk_al_114, tk_al_115, tk_al_116, tk_al_117, tk_al_118, tk_al_119, tk_al_120, tk_al_121, tk_al_122, tk_al_123, tk_al_124, tk_al_125, tk_al_126, tk_al_127, tk_al_128, tk_al_129, i1]
      have e55 : (fun j => tk_set μ' 33 t (i + 1) 55 j) = fun j => μ' 55 j := by
        funext j
        exact tk_set_o (by omega)
      refine x_revalue31 (by rw [hh]; exact tk_I5s hI2) (by rw [hh]; exact tk_J_w (tk_J_of hI2).1 (by omega)) (by rw [hh, e55]; exact tk_aw_2 ha) (fun μ2 hf2 hs2 hd2 hw2 => ?_)
      have hh2 : tk_hw 31 μ2 = tk_set (tk_hw 31 μ') 2 t (i + 1) := by
        rw [← hh]
        funext f j
        unfold tk_hw
        split
        · exact hf2 _ _ (by omega)
        · rfl
      have e2 : μ2 31 2 = μ 1 2 := by
        have h1 : μ2 31 2 = tk_hw 31 μ2 0 2 := rfl
        rw [h1, hh2]
        exact hE2.1.2.2.1
      rw [hh] at hd2
      have hrd : tk_rd (tk_shr (tk_set (tk_hw 31 μ') 2 t (i + 1))) (tk_hw 31 μ2) c = tk_rd (tk_shr (tk_set (tk_hw 1 μ) 2 t (i + 1))) (tk_set (tk_hw 1 μ) 2 t (i + 1)) c := by
        rw [hh2, tk_shr_EE hE2 hI1, tk_rd_eq (tk_EQ_of hE2) (by rw [tk_set_o (by omega)]; exact hc)]
      have hwe : μ2 52 c = tk_we (tk_shr (tk_set (tk_hw 1 μ) 2 t (i + 1))) (tk_set (tk_hw 1 μ) 2 t (i + 1)) c := by
        have h1 : μ2 52 c = tk_we (tk_shr (tk_set (tk_hw 31 μ') 2 t (i + 1))) (tk_hw 31 μ2) c := hd2.1 c hc.1 (by rw [e2]; exact hc.2)
        rw [h1, hh2, tk_shr_EE hE2 hI1, tk_we_eq (tk_EQ_of hE2) (by rw [tk_set_o (by omega)]; exact hc)]
      have hto : μ2 51 4 = tk_tot (tk_shr (tk_set (tk_hw 1 μ) 2 t (i + 1))) (tk_set (tk_hw 1 μ) 2 t (i + 1)) := by
        have h1 : μ2 51 4 = tk_tot (tk_shr (tk_set (tk_hw 31 μ') 2 t (i + 1))) (tk_hw 31 μ2) := hd2.2.2.2
        rw [h1, hh2, tk_shr_EE hE2 hI1, tk_tot_eq (tk_EQ_of hE2)]
      have hwb := tk_we_bd (tk_J_of hI1).1 (tk_shr_shb hI1.1 hI1.2.1 (tk_I5s hI1).2.2.2.1) (c := c) (by rw [tk_set_o (by omega)]; exact hc)
      have l2 : tk_lmul 2 (tk_we (tk_shr (tk_set (tk_hw 1 μ) 2 t (i + 1))) (tk_set (tk_hw 1 μ) 2 t (i + 1)) c) = 2 * tk_we (tk_shr (tk_set (tk_hw 1 μ) 2 t (i + 1))) (tk_set (tk_hw 1 μ) 2 t (i + 1)) c := tk_lmul_id (by omega) (by omega)
      have hf3 : tk_f1 31 60 μ μ2 := fun o j ho => by
        rw [hf2 o j (by omega)]
        unfold tk_set
        rw [if_neg (by omega)]
        exact hf o j ho
      rw [x_isReady31 hd2 (by rw [e2]; exact hc) (by rw [e2]; exact hm.2), hrd]
      have no : ¬ tk_ev (tk_set (tk_hw 1 μ) 2 t (i + 1)) c → ∀ ρ2 : tk_L, ρ2 0 = 0 → ρ2 1 = c → ρ2 2 = t → ρ2 3 = most → ρ2 4 = i + 1 + 1 → K ρ2 μ2 := fun hno ρ2 z0 z1 z2 z3 z4 => by
        refine hK _ _ ⟨hf3, fun n => ?_, ?_, z0, z1, z2, z3, z4, fun n h1 h2 => ?_⟩
        · rw [hh2, tk_set_set]
          exact hE n
        · rw [hh2]
          have e : (fun j => μ2 55 j) = fun j => μ' 55 j := by
            funext j
            rw [hf2 _ _ (by omega), tk_set_o (by omega)]
          rw [e]
          exact tk_aw_2 ha
        · by_cases hni : n = i + 1
          · rw [hni]; exact hno
          · exact hb n h1 (by omega)
      unfold tk_ev at no
      by_cases hr : tk_rd (tk_shr (tk_set (tk_hw 1 μ) 2 t (i + 1))) (tk_set (tk_hw 1 μ) 2 t (i + 1)) c = 1
      · by_cases hw : tk_tot (tk_shr (tk_set (tk_hw 1 μ) 2 t (i + 1))) (tk_set (tk_hw 1 μ) 2 t (i + 1)) ≤ 2 * tk_we (tk_shr (tk_set (tk_hw 1 μ) 2 t (i + 1))) (tk_set (tk_hw 1 μ) 2 t (i + 1)) c
        · simp [hr, hc.1, c8, tk_al_2, tk_al_3, tk_al_4, tk_al_5, tk_al_6, tk_al_7, tk_al_8, tk_al_9, tk_al_10, tk_al_11, tk_al_13, tk_al_14, tk_al_16, tk_al_17, tk_al_19, tk_al_20, tk_al_22, tk_al_24, tk_al_25, tk_al_26, tk_al_27, tk_al_28, tk_al_29, tk_al_30, tk_al_32, tk_al_33, tk_al_34, tk_al_35, tk_al_36, tk_al_37, tk_al_38, tk_al_39, tk_al_40, tk_al_41, tk_al_43, tk_al_44, tk_al_46, tk_al_47, tk_al_49, tk_al_50, tk_al_52, tk_al_54, tk_al_55, tk_al_56, tk_al_57, tk_al_58, tk_al_59, tk_al_60, tk_al_62, tk_al_63, tk_al_64, tk_al_65, tk_al_66, tk_al_67, tk_al_68, tk_al_69, tk_al_70, tk_al_71, tk_al_73, tk_al_74, tk_al_76, tk_al_77, tk_al_79, tk_al_80, tk_al_81, tk_al_83, tk_al_85, tk_al_87, tk_al_89, tk_al_91, tk_al_93, tk_al_95, tk_al_97, tk_al_98, tk_al_99, tk_al_100, tk_al_101, tk_al_102, tk_al_103, tk_al_104, tk_al_105, tk_al_106, tk_al_107, tk_al_108, tk_al_109, tk_al_110, tk_al_111, tk_al_112, tk_al_113, tk_al_114, tk_al_115, tk_al_116, tk_al_117, tk_al_118, tk_al_119, tk_al_120, tk_al_121, tk_al_122, tk_al_123, tk_al_124, tk_al_125, tk_al_126, tk_al_127, tk_al_128, tk_al_129, hwe, hto, l2, hw]
          exact hQ _ _ hf3 (.inr ⟨by omega, ⟨hr, hw⟩, fun n h1 h2 => hb n h1 (by omega)⟩)
        · simp [hr, hc.1, c8, tk_al_2, tk_al_3, tk_al_4, tk_al_5, tk_al_6, tk_al_7, tk_al_8, tk_al_9, tk_al_10, tk_al_11, tk_al_13, tk_al_14, tk_al_16, tk_al_17, tk_al_19, tk_al_20, tk_al_22, tk_al_24, tk_al_25, tk_al_26, tk_al_27, tk_al_28, tk_al_29, tk_al_30, tk_al_32, tk_al_33, tk_al_34, tk_al_35, tk_al_36, tk_al_37, tk_al_38, tk_al_39, tk_al_40, tk_al_41, tk_al_43, tk_al_44, tk_al_46, tk_al_47, tk_al_49, tk_al_50, tk_al_52, tk_al_54, tk_al_55, tk_al_56, tk_al_57, tk_al_58, tk_al_59, tk_al_60, tk_al_62, tk_al_63, tk_al_64, tk_al_65, tk_al_66, tk_al_67, tk_al_68, tk_al_69, tk_al_70, tk_al_71, tk_al_73, tk_al_74, tk_al_76, tk_al_77, tk_al_79, tk_al_80, tk_al_81, tk_al_83, tk_al_85, tk_al_87, tk_al_89, tk_al_91, tk_al_93, tk_al_95, tk_al_97, tk_al_98, tk_al_99, tk_al_100, tk_al_101, tk_al_102, tk_al_103, tk_al_104, tk_al_105, tk_al_106, tk_al_107, tk_al_108, tk_al_109, tk_al_110, tk_al_111, tk_al_112, tk_al_113, tk_al_114, tk_al_115, tk_al_116, tk_al_117, tk_al_118, tk_al_119, tk_al_120, tk_al_121, tk_al_122, tk_al_123, tk_al_124, tk_al_125, tk_al_126, tk_al_127, tk_al_128, tk_al_129, hwe, hto, l2, hw]
          exact no (fun z => hw z.2) _ r0 r1 r2 r3 rfl
      · have hr0 : tk_rd (tk_shr (tk_set (tk_hw 1 μ) 2 t (i + 1))) (tk_set (tk_hw 1 μ) 2 t (i + 1)) c = 0 := by
          rcases tk_rd_01 (sh := tk_shr (tk_set (tk_hw 1 μ) 2 t (i + 1))) (S := tk_set (tk_hw 1 μ) 2 t (i + 1)) (c := c) with z | z
          · exact z
          · exact absurd z hr
        simp [hr0]
        exact no (fun z => hr z.1) _ r0 r1 r2 r3 rfl
    · rintro ρ μ' ⟨hf, hE, ha, r0, r1, r2, r3, r4, hb⟩ X
      have q : ¬ most + 1 ≤ most := by omega
      simp [tk_fn, tk_env, tk_sq, tk_sk, tk_if, tk_re, tk_rez, tk_rev, tk_xp, tk_se, tk_pf, tk_pfz, tk_pfo, tk_as, tk_asz, tk_asb, tk_aso, tk_cpy, tk_sw, tk_swc, tk_lit, tk_loc, tk_u1, tk_bin, tk_dv, tk_gf, tk_gr, tk_gn, tk_ald, tk_aldq, tk_aln, tk_unl, tk_una, tk_ter, tk_args, tk_cs, tk_cv, tk_ceq, tk_cne, tk_clt, tk_cge, tk_cgt, tk_cle, tk_zeq, tk_zne, tk_zlt, tk_zge, tk_zgt, tk_zle, tk_and, tk_or, tk_not, tk_ct2, tk_isC, List.headD_cons, tk_up, tk_sca, tk_scl, r3, r4, q]
      refine hQ _ _ hf (.inl ⟨rfl, fun n h1 h2 z => ?_⟩)
      rcases hm3 with hm3 | ⟨hm3, h5⟩
      · exact hb n h1 (by omega) z
      · refine hb 1 (by omega) (by omega) ?_
        have h5' : tk_hw 1 μ 3 t = -5 := h5
        exact (tk_ev_2 hI.2.1 h5').mpr ((tk_ev_2 hI.2.1 h5').mp z)
  by_cases h5 : μ 4 t = -5
  · simp [ht.1, t24, tk_al_2, tk_al_3, tk_al_4, tk_al_5, tk_al_6, tk_al_7, tk_al_8, tk_al_9, tk_al_10, tk_al_11, tk_al_13, tk_al_14, tk_al_16, tk_al_17, tk_al_19, tk_al_20, tk_al_22, tk_al_24, tk_al_25, tk_al_26, tk_al_27, tk_al_28, tk_al_29, tk_al_30, tk_al_32, tk_al_33, tk_al_34, tk_al_35, tk_al_36, tk_al_37, tk_al_38, tk_al_39, tk_al_40, tk_al_41, tk_al_43, tk_al_44, tk_al_46, tk_al_47, tk_al_49, tk_al_50, tk_al_52, tk_al_54, tk_al_55, tk_al_56, tk_al_57, tk_al_58, tk_al_59, tk_al_60, tk_al_62, tk_al_63, tk_al_64, tk_al_65, tk_al_66, tk_al_67, tk_al_68, tk_al_69, tk_al_70, tk_al_71, tk_al_73, tk_al_74, tk_al_76, tk_al_77, tk_al_79, tk_al_80, tk_al_81, tk_al_83, tk_al_85, tk_al_87, tk_al_89, tk_al_91, tk_al_93, tk_al_95, tk_al_97, tk_al_98, tk_al_99, tk_al_100, tk_al_101, tk_al_102, tk_al_103, tk_al_104, tk_al_105, tk_al_106, tk_al_107, tk_al_108, tk_al_109, tk_al_110, tk_al_111, tk_al_112, tk_al_113, tk_al_114, tk_al_115, tk_al_116, tk_al_117, tk_al_118, tk_al_119, tk_al_120, tk_al_121, tk_al_122, tk_al_123, tk_al_124, tk_al_125, tk_al_126, tk_al_127, tk_al_128, tk_al_129, e34, eq_true h5]
    exact go 1 _ (by omega) (by omega) (.inr ⟨rfl, h5⟩) rfl rfl rfl rfl rfl
  · simp [ht.1, t24, tk_al_2, tk_al_3, tk_al_4, tk_al_5, tk_al_6, tk_al_7, tk_al_8, tk_al_9, tk_al_10, tk_al_11, tk_al_13, tk_al_14, tk_al_16, tk_al_17, tk_al_19, tk_al_20, tk_al_22, tk_al_24, tk_al_25, tk_al_26, tk_al_27, tk_al_28, tk_al_29, tk_al_30, tk_al_32, tk_al_33, tk_al_34, tk_al_35, tk_al_36, tk_al_37, tk_al_38, tk_al_39, tk_al_40, tk_al_41, tk_al_43, tk_al_44, tk_al_46, tk_al_47, tk_al_49, tk_al_50, tk_al_52, tk_al_54, tk_al_55, tk_al_56, tk_al_57, tk_al_58, tk_al_59, tk_al_60, tk_al_62, tk_al_63, tk_al_64, tk_al_65, tk_al_66, tk_al_67, tk_al_68, tk_al_69, tk_al_70, tk_al_71, tk_al_73, tk_al_74, tk_al_76, tk_al_77, tk_al_79, tk_al_80, tk_al_81, tk_al_83, tk_al_85, tk_al_87, tk_al_89, tk_al_91, tk_al_93, tk_al_95, tk_al_97, tk_al_98, tk_al_99, tk_al_100, tk_al_101, tk_al_102, tk_al_103, tk_al_104, tk_al_105, tk_al_106, tk_al_107, tk_al_108, tk_al_109, tk_al_110, tk_al_111, tk_al_112, tk_al_113, tk_al_114, tk_al_115, tk_al_116, tk_al_117, tk_al_118, tk_al_119, tk_al_120, tk_al_121, tk_al_122, tk_al_123, tk_al_124, tk_al_125, tk_al_126, tk_al_127, tk_al_128, tk_al_129, e34, h5]
    exact go 200 _ (by omega) (by omega) (.inl rfl) rfl rfl rfl rfl rfl
theorem m_raiseOf {c t : Int} {μ : tk_M} {Q : Int → tk_M → Prop} (hI : tk_II (tk_mv μ)) (hc : 0 ≤ c ∧ c < μ 96 5) (ht : 0 ≤ t ∧ t < μ 96 1) (hQ : ∀ r m1, (∀ o i : Int, ¬ tk_sc2 o i → m1 o i = μ o i) → tk_mv m1 = tk_mv μ → tk_rr (fun n => tk_ev (tk_set (tk_mv μ) 2 t n) c) r → Q r m1) : tkF_X7_raiseOf [96, c, t] Q μ := by
  have hn : 0 ≤ μ 96 1 ∧ μ 96 1 ≤ 24 := hI.1.2.1
  have t24 : t < 24 := by omega
  simp [tk_fn, tk_env, tk_sq, tk_sk, tk_if, tk_re, tk_rez, tk_rev, tk_xp, tk_se, tk_pf, tk_pfz, tk_pfo, tk_as, tk_asz, tk_asb, tk_aso, tk_cpy, tk_sw, tk_swc, tk_lit, tk_loc, tk_u1, tk_bin, tk_dv, tk_gf, tk_gr, tk_gn, tk_ald, tk_aldq, tk_aln, tk_unl, tk_una, tk_ter, tk_args, tk_cs, tk_cv, tk_ceq, tk_cne, tk_clt, tk_cge, tk_cgt, tk_cle, tk_zeq, tk_zne, tk_zlt, tk_zge, tk_zgt, tk_zle, tk_and, tk_or, tk_not, tk_ct2, tk_isC, List.headD_cons, tk_up, tk_sca, tk_scl, tkF_X7_raiseOf, tkS_X7_raiseOf, ht.1, t24, tk_al_2, tk_al_3, tk_al_4, tk_al_5, tk_al_6, tk_al_7, tk_al_8, tk_al_9, tk_al_10, tk_al_11, tk_al_13, tk_al_14, tk_al_16, tk_al_17, tk_al_19, tk_al_20, tk_al_22, tk_al_24, tk_al_25, tk_al_26, tk_al_27, tk_al_28, tk_al_29, tk_al_30, tk_al_32, tk_al_33, tk_al_34, tk_al_35, tk_al_36, tk_al_37, tk_al_38, tk_al_39, tk_al_40, tk_al_41, tk_al_43, tk_al_44, tk_al_46, tk_al_47, tk_al_49, tk_al_50, tk_al_52, tk_al_54, tk_al_55, tk_al_56, tk_al_57, tk_al_58, tk_al_59, tk_al_60, tk_al_62, tk_al_63, tk_al_64, tk_al_65, tk_al_66, tk_al_67, tk_al_68, tk_al_69, tk_al_70, tk_al_71, tk_al_73, tk_al_74, tk_al_76, tk_al_77, tk_al_79, tk_al_80, tk_al_81, tk_al_83, tk_al_85, tk_al_87, tk_al_89, tk_al_91, tk_al_93, tk_al_95, tk_al_97, tk_al_98, tk_al_99, tk_al_100, tk_al_101, tk_al_102, tk_al_103, tk_al_104, tk_al_105, tk_al_106, tk_al_107, tk_al_108, tk_al_109, tk_al_110, tk_al_111, tk_al_112, tk_al_113, tk_al_114, tk_al_115, tk_al_116, tk_al_117, tk_al_118, tk_al_119, tk_al_120, tk_al_121, tk_al_122, tk_al_123, tk_al_124, tk_al_125, tk_al_126, tk_al_127, tk_al_128, tk_al_129]
  have fin : ∀ (r : Int) (m : tk_M), (∀ o i : Int, ¬ tk_sc2 o i → m o i = μ o i) → (∀ n : Int, tk_set (tk_mv m) 2 t n = tk_set (tk_mv μ) 2 t n) → tk_rr (fun n => tk_ev (tk_set (tk_mv μ) 2 t n) c) r → Q r (tk_set m 98 t (μ 98 t)) := fun r m hq hM hr => by
    refine hQ r _ (fun o j ho => ?_) ?_ hr
    · have ho2 := ho
      unfold tk_sc2 at ho2
      unfold tk_set
      rw [if_neg (by omega)]
      exact hq o j ho
    · rw [tk_mv_98, hM]
      have e3 : μ 98 t = tk_mv μ 2 t := rfl
      rw [e3, tk_set_self]
  refine tk_for 200 (fun i ρ m => (∀ o i : Int, ¬ tk_sc2 o i → m o i = μ o i) ∧ (∀ n : Int, tk_set (tk_mv m) 2 t n = tk_set (tk_mv μ) 2 t n) ∧ ρ 0 = 96 ∧ ρ 1 = c ∧ ρ 2 = t ∧ ρ 3 = μ 98 t ∧ ρ 5 = i + 1 ∧ ((ρ 4 = -5 ∧ ∀ n : Int, 1 ≤ n → n ≤ i → ¬ tk_ev (tk_set (tk_mv μ) 2 t n) c) ∨ ((1 ≤ ρ 4 ∧ ρ 4 ≤ 200) ∧ tk_rr (fun n => tk_ev (tk_set (tk_mv μ) 2 t n) c) (ρ 4)))) (by omega) ⟨fun _ _ _ => rfl, fun _ => rfl, rfl, rfl, rfl, rfl, rfl, .inl ⟨rfl, fun n h1 h2 => by omega⟩⟩ ?_ ?_
  · rintro i ρ m hi0 hi6 ⟨hq, hM, r0, r1, r2, r3, r5, h4⟩ K hK
    rcases h4 with ⟨r4, hb⟩ | ⟨h4, h5⟩
    · have i1 : tk_iadd (i + 1) 1 = i + 1 + 1 := tk_iadd_id (by omega) (by omega)
      have hle : i + 1 ≤ 200 := by omega
      have hI2 := tk_II_2 hI (t := t) (v := i + 1) (by omega)
      have hM2 : tk_mv (tk_set m 98 t (i + 1)) = tk_set (tk_mv μ) 2 t (i + 1) := by rw [tk_mv_98, hM]
      simp [tk_fn, tk_env, tk_sq, tk_sk, tk_if, tk_re, tk_rez, tk_rev, tk_xp, tk_se, tk_pf, tk_pfz, tk_pfo, tk_as, tk_asz, tk_asb, tk_aso, tk_cpy, tk_sw, tk_swc, tk_lit, tk_loc, tk_u1, tk_bin, tk_dv, tk_gf, tk_gr, tk_gn, tk_ald, tk_aldq, tk_aln, tk_unl, tk_una, tk_ter, tk_args, tk_cs, tk_cv, tk_ceq, tk_cne, tk_clt, tk_cge, tk_cgt, tk_cle, tk_zeq, tk_zne, tk_zlt, tk_zge, tk_zgt, tk_zle, tk_and, tk_or, tk_not, tk_ct2, tk_isC, List.headD_cons, tk_up, tk_sca, tk_scl, r0, r1, r2, r4, r5, hle, ht.1, t24, tk_al_2, tk_al_3, tk_al_4, tk_al_5, tk_al_6, tk_al_7, tk_al_8, tk_al_9, tk_al_10, tk_al_11, tk_al_13, tk_al_14, tk_al_16, tk_al_17, tk_al_19, tk_al_20, tk_al_22, tk_al_24, tk_al_25, tk_al_26, tk_al_27, tk_al_28, tk_al_29, tk_al_30, tk_al_32, tk_al_33, tk_al_34, tk_al_35, tk_al_36, tk_al_37, tk_al_38, tk_al_39, tk_al_40, tk_al_41, tk_al_43, tk_al_44, tk_al_46, tk_al_47, tk_al_49, tk_al_50, tk_al_52, tk_al_54, tk_al_55, tk_al_56, tk_al_57, tk_al_58, tk_al_59, tk_al_60, tk_al_62, tk_al_63, tk_al_64, tk_al_65, tk_al_66, tk_al_67, tk_al_68, tk_al_69, tk_al_70, tk_al_71, tk_al_73, tk_al_74, tk_al_76, tk_al_77, tk_al_79, tk_al_80, tk_al_81, tk_al_83, tk_al_85, tk_al_87, tk_al_89, tk_al_91, tk_al_93, tk_al_95, tk_al_97, tk_al_98, tk_al_99, tk_al_100, tk_al_101, tk_al_102, tk_al_103, tk_al_104, tk_al_105, tk_al_106, tk_al_107, tk_al_108, tk_al_109, tk_al_110, tk_al_111, tk_al_112, tk_al_113, tk_al_114, tk_al_115, tk_al_116, tk_al_117, tk_al_118, tk_al_119, tk_al_120, tk_al_121, tk_al_122, tk_al_123, tk_al_124, tk_al_125, tk_al_126, tk_al_127, tk_al_128, tk_al_129, i1]
      refine m_layShares (by rw [hM2]; exact tk_I5s hI2) (fun m1 hf1 hL1 => ?_)
      have hM1 : tk_mv m1 = tk_set (tk_mv μ) 2 t (i + 1) := by rw [tk_mv_f1 hf1 (by omega), hM2]
      rw [hM2] at hL1
      have q5 : m1 96 5 = μ 96 5 := by
        have : m1 96 5 = tk_mv m1 0 2 := rfl
        rw [this, hM1, tk_set_o (by omega)]
        rfl
      have hJ : tk_J 99999 (tk_mv m1) := by rw [hM1]; exact (tk_J_of hI2).1
      have hsb := tk_shr_shb hI2.1 hI2.2.1 (tk_I5s hI2).2.2.2.1
      have hwb := tk_we_bd hJ hsb (c := c) (by rw [hM1, tk_set_o (by omega)]; exact hc)
      rw [hM1] at hwb
      have l2 : tk_lmul 2 (tk_we (tk_shr (tk_set (tk_mv μ) 2 t (i + 1))) (tk_set (tk_mv μ) 2 t (i + 1)) c) = 2 * tk_we (tk_shr (tk_set (tk_mv μ) 2 t (i + 1))) (tk_set (tk_mv μ) 2 t (i + 1)) c := tk_lmul_id (by omega) (by omega)
      have hq3 : ∀ o i : Int, ¬ tk_sc2 o i → m1 o i = μ o i := fun o j ho => by
        have ho2 := ho
        unfold tk_sc2 at ho2
        rw [hf1 o j (by omega)]
        unfold tk_set
        rw [if_neg (by omega)]
        exact hq o j ho
      have hM3 : ∀ n : Int, tk_set (tk_mv m1) 2 t n = tk_set (tk_mv μ) 2 t n := fun n => by rw [hM1, tk_set_set]
      have no : ¬ tk_ev (tk_set (tk_mv μ) 2 t (i + 1)) c → ∀ ρ2 : tk_L, ρ2 0 = 96 → ρ2 1 = c → ρ2 2 = t → ρ2 3 = μ 98 t → ρ2 4 = -5 → ρ2 5 = i + 1 + 1 → K ρ2 m1 := fun hno ρ2 z0 z1 z2 z3 z4 z5 => by
        refine hK _ _ ⟨hq3, hM3, z0, z1, z2, z3, z5, .inl ⟨z4, fun n h1 h2 => ?_⟩⟩
        by_cases hni : n = i + 1
        · rw [hni]; exact hno
        · exact hb n h1 (by omega)
      refine m_isReady hJ hL1.2 hsb (by rw [q5]; exact hc) ?_
      rw [hM1]
      by_cases hr : tk_rd (tk_shr (tk_set (tk_mv μ) 2 t (i + 1))) (tk_set (tk_mv μ) 2 t (i + 1)) c = 1
      · simp [hr]
        refine m_weightOf hJ hL1.2 hsb (by rw [q5]; exact hc) ?_
        refine m_total hJ hL1.2 hsb ?_
        rw [hM1, l2]
        by_cases hw : tk_tot (tk_shr (tk_set (tk_mv μ) 2 t (i + 1))) (tk_set (tk_mv μ) 2 t (i + 1)) ≤ 2 * tk_we (tk_shr (tk_set (tk_mv μ) 2 t (i + 1))) (tk_set (tk_mv μ) 2 t (i + 1)) c
        · simp [hw]
          refine hK _ _ ⟨hq3, hM3, r0, r1, r2, r3, rfl, .inr ⟨?_, ?_⟩⟩
          · show 1 ≤ i + 1 ∧ i + 1 ≤ 200
            omega
          · exact .inr ⟨by show 1 ≤ i + 1 ∧ i + 1 ≤ 200; omega, ⟨hr, hw⟩, fun n h1 h2 => hb n h1 (by have h2 : n < i + 1 := h2; omega)⟩
        · simp [hw]
          exact no (fun z => hw z.2) _ r0 r1 r2 r3 rfl rfl
      · have hr0 : tk_rd (tk_shr (tk_set (tk_mv μ) 2 t (i + 1))) (tk_set (tk_mv μ) 2 t (i + 1)) c = 0 := by
          rcases tk_rd_01 (sh := tk_shr (tk_set (tk_mv μ) 2 t (i + 1))) (S := tk_set (tk_mv μ) 2 t (i + 1)) (c := c) with z | z
          · exact z
          · exact absurd z hr
        simp [hr0]
        exact no (fun z => hr z.1) _ r0 r1 r2 r3 rfl rfl
    · have hle : i + 1 ≤ 200 := by omega
      have hneg : ¬ ρ 4 < 0 := by omega
      simp [tk_fn, tk_env, tk_sq, tk_sk, tk_if, tk_re, tk_rez, tk_rev, tk_xp, tk_se, tk_pf, tk_pfz, tk_pfo, tk_as, tk_asz, tk_asb, tk_aso, tk_cpy, tk_sw, tk_swc, tk_lit, tk_loc, tk_u1, tk_bin, tk_dv, tk_gf, tk_gr, tk_gn, tk_ald, tk_aldq, tk_aln, tk_unl, tk_una, tk_ter, tk_args, tk_cs, tk_cv, tk_ceq, tk_cne, tk_clt, tk_cge, tk_cgt, tk_cle, tk_zeq, tk_zne, tk_zlt, tk_zge, tk_zgt, tk_zle, tk_and, tk_or, tk_not, tk_ct2, tk_isC, List.headD_cons, tk_up, tk_sca, tk_scl, r0, r2, r3, r5, hle, hneg, ht.1, t24, tk_al_2, tk_al_3, tk_al_4, tk_al_5, tk_al_6, tk_al_7, tk_al_8, tk_al_9, tk_al_10, tk_al_11, tk_al_13, tk_al_14, tk_al_16, tk_al_17, tk_al_19, tk_al_20, tk_al_22, tk_al_24, tk_al_25, tk_al_26, tk_al_27, tk_al_28, tk_al_29, tk_al_30, tk_al_32, tk_al_33, tk_al_34, tk_al_35, tk_al_36, tk_al_37, tk_al_38, tk_al_39, tk_al_40, tk_al_41, tk_al_43, tk_al_44, tk_al_46, tk_al_47, tk_al_49, tk_al_50, tk_al_52, tk_al_54, tk_al_55, tk_al_56, tk_al_57, tk_al_58, tk_al_59, tk_al_60, tk_al_62, tk_al_63, tk_al_64, tk_al_65, tk_al_66, tk_al_67, tk_al_68, tk_al_69, tk_al_70, tk_al_71, tk_al_73, tk_al_74, tk_al_76, tk_al_77, tk_al_79, tk_al_80, tk_al_81, tk_al_83, tk_al_85, tk_al_87, tk_al_89, tk_al_91, tk_al_93, tk_al_95, tk_al_97, tk_al_98, tk_al_99, tk_al_100, tk_al_101, tk_al_102, tk_al_103, tk_al_104, tk_al_105, tk_al_106, tk_al_107, tk_al_108, tk_al_109, tk_al_110, tk_al_111, tk_al_112, tk_al_113, tk_al_114, tk_al_115, tk_al_116, tk_al_117, tk_al_118, tk_al_119, tk_al_120, tk_al_121, tk_al_122, tk_al_123, tk_al_124, tk_al_125, tk_al_126, tk_al_127, tk_al_128, tk_al_129]
      exact fin _ m hq hM h5
  · rintro ρ m ⟨hq, hM, r0, r1, r2, r3, r5, h4⟩ X
    simp [tk_fn, tk_env, tk_sq, tk_sk, tk_if, tk_re, tk_rez, tk_rev, tk_xp, tk_se, tk_pf, tk_pfz, tk_pfo, tk_as, tk_asz, tk_asb, tk_aso, tk_cpy, tk_sw, tk_swc, tk_lit, tk_loc, tk_u1, tk_bin, tk_dv, tk_gf, tk_gr, tk_gn, tk_ald, tk_aldq, tk_aln, tk_unl, tk_una, tk_ter, tk_args, tk_cs, tk_cv, tk_ceq, tk_cne, tk_clt, tk_cge, tk_cgt, tk_cle, tk_zeq, tk_zne, tk_zlt, tk_zge, tk_zgt, tk_zle, tk_and, tk_or, tk_not, tk_ct2, tk_isC, List.headD_cons, tk_up, tk_sca, tk_scl, r0, r2, r3, r5, ht.1, t24, tk_al_2, tk_al_3, tk_al_4, tk_al_5, tk_al_6, tk_al_7, tk_al_8, tk_al_9, tk_al_10, tk_al_11, tk_al_13, tk_al_14, tk_al_16, tk_al_17, tk_al_19, tk_al_20, tk_al_22, tk_al_24, tk_al_25, tk_al_26, tk_al_27, tk_al_28, tk_al_29, tk_al_30, tk_al_32, tk_al_33, tk_al_34, tk_al_35, tk_al_36, tk_al_37, tk_al_38, tk_al_39, tk_al_40, tk_al_41, tk_al_43, tk_al_44, tk_al_46, tk_al_47, tk_al_49, tk_al_50, tk_al_52, tk_al_54, tk_al_55, tk_al_56, tk_al_57, tk_al_58, tk_al_59, tk_al_60, tk_al_62, tk_al_63, tk_al_64, tk_al_65, tk_al_66, tk_al_67, tk_al_68, tk_al_69, tk_al_70, tk_al_71, tk_al_73, tk_al_74, tk_al_76, tk_al_77, tk_al_79, tk_al_80, tk_al_81, tk_al_83, tk_al_85, tk_al_87, tk_al_89, tk_al_91, tk_al_93, tk_al_95, tk_al_97, tk_al_98, tk_al_99, tk_al_100, tk_al_101, tk_al_102, tk_al_103, tk_al_104, tk_al_105, tk_al_106, tk_al_107, tk_al_108, tk_al_109, tk_al_110, tk_al_111, tk_al_112, tk_al_113, tk_al_114, tk_al_115, tk_al_116, tk_al_117, tk_al_118, tk_al_119, tk_al_120, tk_al_121, tk_al_122, tk_al_123, tk_al_124, tk_al_125, tk_al_126, tk_al_127, tk_al_128, tk_al_129]
    refine fin _ m hq hM ?_
    rcases h4 with ⟨r4, hb⟩ | ⟨h4, h5⟩
    · rw [r4]; exact .inl ⟨rfl, hb⟩
    · exact h5
theorem x_best_0 {F1 F2 : tk_F} {c w : Int} {μ : tk_M} {Q : Int → tk_M → Prop} (hc : 0 ≤ c ∧ c < μ 1 2) (hw : w = 0) (hF : F1 [0, c] Q μ) : (tk_fn [2, 0, 0] (tk_sq (tk_if (tk_or (tk_not (tk_zne (tk_cv 2 tkF_X2_hasClient [(tk_gr 6 (1) (tk_loc 0)), (tk_loc 1)]))) (tk_and (tk_zne (tk_loc 2)) (tk_not (tk_zne (tk_cv 2 tkF_X2_hasTicket [(tk_gr 6 (1) (tk_loc 0)), (tk_bin tk_isub (tk_loc 2) (tk_lit (10)))]))))) (tk_re (tk_lit (-1))) tk_sk) (tk_re (tk_ter (tk_zeq (tk_loc 2)) (tk_cv 6 F1 [(tk_loc 0), (tk_loc 1)]) (tk_cv 6 F2 [(tk_loc 0), (tk_loc 1), (tk_bin tk_isub (tk_loc 2) (tk_lit (10)))]))))) [0, c, w] Q μ := by
  simp [tk_fn, tk_env, tk_sq, tk_sk, tk_if, tk_re, tk_rez, tk_rev, tk_xp, tk_se, tk_pf, tk_pfz, tk_pfo, tk_as, tk_asz, tk_asb, tk_aso, tk_cpy, tk_sw, tk_swc, tk_lit, tk_loc, tk_u1, tk_bin, tk_dv, tk_gf, tk_gr, tk_gn, tk_ald, tk_aldq, tk_aln, tk_unl, tk_una, tk_ter, tk_args, tk_cs, tk_cv, tk_ceq, tk_cne, tk_clt, tk_cge, tk_cgt, tk_cle, tk_zeq, tk_zne, tk_zlt, tk_zge, tk_zgt, tk_zle, tk_and, tk_or, tk_not, tk_ct2, tk_isC, List.headD_cons, tk_up, tk_sca, tk_scl, x_hasClient, tk_bo_0, hc.1, hc.2, show ¬ μ 1 2 ≤ c from by omega, eq_true hw]
  exact hF
theorem x_best_t {F1 F2 : tk_F} {c w v : Int} {μ : tk_M} {Q : Int → tk_M → Prop} (hc : 0 ≤ c ∧ c < μ 1 2) (hw : ¬ w = 0) (hv : tk_isub w 10 = v) (ht : 0 ≤ v ∧ v < μ 1 1) (hF : F2 [0, c, v] Q μ) : (tk_fn [2, 0, 0] (tk_sq (tk_if (tk_or (tk_not (tk_zne (tk_cv 2 tkF_X2_hasClient [(tk_gr 6 (1) (tk_loc 0)), (tk_loc 1)]))) (tk_and (tk_zne (tk_loc 2)) (tk_not (tk_zne (tk_cv 2 tkF_X2_hasTicket [(tk_gr 6 (1) (tk_loc 0)), (tk_bin tk_isub (tk_loc 2) (tk_lit (10)))]))))) (tk_re (tk_lit (-1))) tk_sk) (tk_re (tk_ter (tk_zeq (tk_loc 2)) (tk_cv 6 F1 [(tk_loc 0), (tk_loc 1)]) (tk_cv 6 F2 [(tk_loc 0), (tk_loc 1), (tk_bin tk_isub (tk_loc 2) (tk_lit (10)))]))))) [0, c, w] Q μ := by
  simp [tk_fn, tk_env, tk_sq, tk_sk, tk_if, tk_re, tk_rez, tk_rev, tk_xp, tk_se, tk_pf, tk_pfz, tk_pfo, tk_as, tk_asz, tk_asb, tk_aso, tk_cpy, tk_sw, tk_swc, tk_lit, tk_loc, tk_u1, tk_bin, tk_dv, tk_gf, tk_gr, tk_gn, tk_ald, tk_aldq, tk_aln, tk_unl, tk_una, tk_ter, tk_args, tk_cs, tk_cv, tk_ceq, tk_cne, tk_clt, tk_cge, tk_cgt, tk_cle, tk_zeq, tk_zne, tk_zlt, tk_zge, tk_zgt, tk_zle, tk_and, tk_or, tk_not, tk_ct2, tk_isC, List.headD_cons, tk_up, tk_sca, tk_scl, x_hasClient, x_hasTicket, tk_bo_0, hc.1, hc.2, show ¬ μ 1 2 ≤ c from by omega, hw, hv, ht.1, ht.2, show ¬ μ 1 1 ≤ v from by omega]
  exact hF
theorem m_best_0 {G1 G2 : tk_F} {c w : Int} {μ : tk_M} {Q : Int → tk_M → Prop} (hm : 0 ≤ μ 96 5 ∧ μ 96 5 ≤ 8) (hc : 0 ≤ c ∧ c < μ 96 5) (hw : w = 0) (hF : G1 [96, c] Q (tk_set μ 96 24 0)) : (tk_fn [2, 0, 0] (tk_sq (tk_pf 7 24 (tk_loc 0) (tk_lit (0))) (tk_sq (tk_if (tk_or (tk_not (tk_zne (tk_cv 7 tkF_X7_isClient [(tk_loc 0), (tk_loc 1)]))) (tk_and (tk_zne (tk_loc 2)) (tk_not (tk_zne (tk_cv 7 tkF_X7_isTicket [(tk_loc 0), (tk_bin tk_isub (tk_loc 2) (tk_lit (10)))]))))) (tk_re (tk_lit (-1))) tk_sk) (tk_re (tk_ter (tk_zeq (tk_loc 2)) (tk_cv 7 G1 [(tk_loc 0), (tk_loc 1)]) (tk_cv 7 G2 [(tk_loc 0), (tk_loc 1), (tk_bin tk_isub (tk_loc 2) (tk_lit (10)))])))))) [96, c, w] Q μ := by
  simp [tk_fn, tk_env, tk_sq, tk_sk, tk_if, tk_re, tk_rez, tk_rev, tk_xp, tk_se, tk_pf, tk_pfz, tk_pfo, tk_as, tk_asz, tk_asb, tk_aso, tk_cpy, tk_sw, tk_swc, tk_lit, tk_loc, tk_u1, tk_bin, tk_dv, tk_gf, tk_gr, tk_gn, tk_ald, tk_aldq, tk_aln, tk_unl, tk_una, tk_ter, tk_args, tk_cs, tk_cv, tk_ceq, tk_cne, tk_clt, tk_cge, tk_cgt, tk_cle, tk_zeq, tk_zne, tk_zlt, tk_zge, tk_zgt, tk_zle, tk_and, tk_or, tk_not, tk_ct2, tk_isC, List.headD_cons, tk_up, tk_sca, tk_scl, m_isClient, tk_set_j, hm.1, hm.2, tk_bo_0, hc.1, hc.2, show ¬ μ 96 5 ≤ c from by omega, eq_true hw]
  exact hF
theorem m_best_t {G1 G2 : tk_F} {c w v : Int} {μ : tk_M} {Q : Int → tk_M → Prop} (hm : 0 ≤ μ 96 5 ∧ μ 96 5 ≤ 8) (hn : 0 ≤ μ 96 1 ∧ μ 96 1 ≤ 24) (hc : 0 ≤ c ∧ c < μ 96 5) (hw : ¬ w = 0) (hv : tk_isub w 10 = v) (ht : 0 ≤ v ∧ v < μ 96 1) (hF : G2 [96, c, v] Q (tk_set μ 96 24 0)) : (tk_fn [2, 0, 0] (tk_sq (tk_pf 7 24 (tk_loc 0) (tk_lit (0))) (tk_sq (tk_if (tk_or (tk_not (tk_zne (tk_cv 7 tkF_X7_isClient [(tk_loc 0), (tk_loc 1)]))) (tk_and (tk_zne (tk_loc 2)) (tk_not (tk_zne (tk_cv 7 tkF_X7_isTicket [(tk_loc 0), (tk_bin tk_isub (tk_loc 2) (tk_lit (10)))]))))) (tk_re (tk_lit (-1))) tk_sk) (tk_re (tk_ter (tk_zeq (tk_loc 2)) (tk_cv 7 G1 [(tk_loc 0), (tk_loc 1)]) (tk_cv 7 G2 [(tk_loc 0), (tk_loc 1), (tk_bin tk_isub (tk_loc 2) (tk_lit (10)))])))))) [96, c, w] Q μ := by
  simp [tk_fn, tk_env, tk_sq, tk_sk, tk_if, tk_re, tk_rez, tk_rev, tk_xp, tk_se, tk_pf, tk_pfz, tk_pfo, tk_as, tk_asz, tk_asb, tk_aso, tk_cpy, tk_sw, tk_swc, tk_lit, tk_loc, tk_u1, tk_bin, tk_dv, tk_gf, tk_gr, tk_gn, tk_ald, tk_aldq, tk_aln, tk_unl, tk_una, tk_ter, tk_args, tk_cs, tk_cv, tk_ceq, tk_cne, tk_clt, tk_cge, tk_cgt, tk_cle, tk_zeq, tk_zne, tk_zlt, tk_zge, tk_zgt, tk_zle, tk_and, tk_or, tk_not, tk_ct2, tk_isC, List.headD_cons, tk_up, tk_sca, tk_scl, m_isClient, m_isTicket, tk_set_j, hm.1, hm.2, hn.1, hn.2, tk_bo_0, hc.1, hc.2, show ¬ μ 96 5 ≤ c from by omega, hw, hv, ht.1, ht.2, show ¬ μ 96 1 ≤ v from by omega]
  exact hF
theorem c_best_n {F1 F2 G1 G2 : tk_F} {c w v : Int} {μ : tk_M} {K : Int → Int → tk_M → Prop} (e2 : μ 96 1 = μ 1 1) (e3 : μ 96 5 = μ 1 2) (hm : 0 ≤ μ 1 2 ∧ μ 1 2 ≤ 8) (hn : 0 ≤ μ 1 1 ∧ μ 1 1 ≤ 24) (hv : tk_isub w 10 = v) (hno : ¬ ((0 ≤ c ∧ c < μ 1 2) ∧ (w = 0 ∨ (0 ≤ v ∧ v < μ 1 1)))) (hK : K (-1) (-1) (tk_set μ 96 24 0)) : (tk_fn [2, 0, 0] (tk_sq (tk_if (tk_or (tk_not (tk_zne (tk_cv 2 tkF_X2_hasClient [(tk_gr 6 (1) (tk_loc 0)), (tk_loc 1)]))) (tk_and (tk_zne (tk_loc 2)) (tk_not (tk_zne (tk_cv 2 tkF_X2_hasTicket [(tk_gr 6 (1) (tk_loc 0)), (tk_bin tk_isub (tk_loc 2) (tk_lit (10)))]))))) (tk_re (tk_lit (-1))) tk_sk) (tk_re (tk_ter (tk_zeq (tk_loc 2)) (tk_cv 6 F1 [(tk_loc 0), (tk_loc 1)]) (tk_cv 6 F2 [(tk_loc 0), (tk_loc 1), (tk_bin tk_isub (tk_loc 2) (tk_lit (10)))]))))) [0, c, w] (fun r μ1 => (tk_fn [2, 0, 0] (tk_sq (tk_pf 7 24 (tk_loc 0) (tk_lit (0))) (tk_sq (tk_if (tk_or (tk_not (tk_zne (tk_cv 7 tkF_X7_isClient [(tk_loc 0), (tk_loc 1)]))) (tk_and (tk_zne (tk_loc 2)) (tk_not (tk_zne (tk_cv 7 tkF_X7_isTicket [(tk_loc 0), (tk_bin tk_isub (tk_loc 2) (tk_lit (10)))]))))) (tk_re (tk_lit (-1))) tk_sk) (tk_re (tk_ter (tk_zeq (tk_loc 2)) (tk_cv 7 G1 [(tk_loc 0), (tk_loc 1)]) (tk_cv 7 G2 [(tk_loc 0), (tk_loc 1), (tk_bin tk_isub (tk_loc 2) (tk_lit (10)))])))))) [96, c, w] (fun r' μ2 => K r r' μ2) μ1) μ := by
  by_cases hc : 0 ≤ c ∧ c < μ 1 2
  · have hw : ¬ w = 0 := fun z => hno ⟨hc, .inl z⟩
    have ht : ¬ (0 ≤ v ∧ v < μ 1 1) := fun z => hno ⟨hc, .inr z⟩
    simp [tk_fn, tk_env, tk_sq, tk_sk, tk_if, tk_re, tk_rez, tk_rev, tk_xp, tk_se, tk_pf, tk_pfz, tk_pfo, tk_as, tk_asz, tk_asb, tk_aso, tk_cpy, tk_sw, tk_swc, tk_lit, tk_loc, tk_u1, tk_bin, tk_dv, tk_gf, tk_gr, tk_gn, tk_ald, tk_aldq, tk_aln, tk_unl, tk_una, tk_ter, tk_args, tk_cs, tk_cv, tk_ceq, tk_cne, tk_clt, tk_cge, tk_cgt, tk_cle, tk_zeq, tk_zne, tk_zlt, tk_zge, tk_zgt, tk_zle, tk_and, tk_or, tk_not, tk_ct2, tk_isC, List.headD_cons, tk_up, tk_sca, tk_scl, x_hasClient, x_hasTicket, m_isClient, m_isTicket, tk_set_j, e2, e3, hm.1, hm.2, hn.1, hn.2, tk_bo_0, hc.1, hc.2, show ¬ μ 1 2 ≤ c from by omega, hw, hv, ht, -not_and]
    exact hK
  · simp [tk_fn, tk_env, tk_sq, tk_sk, tk_if, tk_re, tk_rez, tk_rev, tk_xp, tk_se, tk_pf, tk_pfz, tk_pfo, tk_as, tk_asz, tk_asb, tk_aso, tk_cpy, tk_sw, tk_swc, tk_lit, tk_loc, tk_u1, tk_bin, tk_dv, tk_gf, tk_gr, tk_gn, tk_ald, tk_aldq, tk_aln, tk_unl, tk_una, tk_ter, tk_args, tk_cs, tk_cv, tk_ceq, tk_cne, tk_clt, tk_cge, tk_cgt, tk_cle, tk_zeq, tk_zne, tk_zlt, tk_zge, tk_zgt, tk_zle, tk_and, tk_or, tk_not, tk_ct2, tk_isC, List.headD_cons, tk_up, tk_sca, tk_scl, x_hasClient, m_isClient, tk_set_j, e3, hm.1, hm.2, tk_bo_0, hc, -not_and]
    exact hK
theorem c_best (c w : Int) : tk_cp tkF_X6_best tkF_X7_best [c, w] := by
  intro μ hR K hK
  have hT := tk_R_thr (v := 0) hR
  obtain ⟨hE, hI, hIm⟩ := tk_R_S hR
  obtain ⟨e1, e2, e3, e4, e5, e6, e7, e8, e9, hcu, hn, hm, hck⟩ := tk_R_n hR
  generalize hv : tk_isub w 10 = v
  by_cases hok : (0 ≤ c ∧ c < μ 1 2) ∧ (w = 0 ∨ (0 ≤ v ∧ v < μ 1 1))
  · obtain ⟨hc, hw⟩ := hok
    have back : ∀ μ1, tk_f1 31 60 μ μ1 → tk_mv (tk_set μ1 96 24 0) = tk_mv μ ∧ tk_set μ1 96 24 0 96 5 = μ 1 2 ∧ tk_set μ1 96 24 0 96 1 = μ 1 1 ∧ μ1 96 5 = μ 1 2 ∧ μ1 96 1 = μ 1 1 ∧ ∀ m1 : tk_M, (∀ o i : Int, ¬ tk_sc2 o i → m1 o i = tk_set μ1 96 24 0 o i) → tk_mv m1 = tk_mv (tk_set μ1 96 24 0) → tk_R m1 := fun μ1 hf => by
      have hM : tk_mv (tk_set μ1 96 24 0) = tk_mv μ := by rw [tk_mv_ob (by omega), tk_mv_f1 hf (by omega)]
      refine ⟨hM, by rw [tk_set_j (by omega), hf _ _ (by omega), e3], by rw [tk_set_j (by omega), hf _ _ (by omega), e2], by rw [hf _ _ (by omega), e3], by rw [hf _ _ (by omega), e2], fun m1 hq hM1 => ?_⟩
      refine tk_R_sc hR (fun o i ho => ?_) (by rw [hM1, hM]; exact tk_CC_r)
      rw [hq o i ho]
      unfold tk_sc2 at ho
      unfold tk_set
      rw [if_neg (by omega)]
      exact hf o i (by omega)
    by_cases hw0 : w = 0
    · refine x_best_0 hc hw0 ?_
      refine x_lossOf hI hc (fun μ1 hf => ?_)
      obtain ⟨hM, q5, q1, q5', q1', hRb⟩ := back μ1 hf
      refine m_best_0 (by rw [q5']; exact hm) (by rw [q5']; exact hc) hw0 ?_
      refine m_lossOf (W := fun t => tk_we (tk_shr (tk_set (tk_hw 1 μ) 3 t (-5))) (tk_set (tk_hw 1 μ) 3 t (-5)) c) (by rw [hM]; exact hIm) (by rw [q5]; exact hc) (fun t h1 h2 => ?_) (fun m1 hq hM1 => ?_)
      · have hE3 := tk_EE_3 hE (c := t) (v := -5)
        rw [hM, tk_shr_EE hE3 (tk_II_3 hI), tk_we_eq (tk_EQ_of hE3) (by rw [tk_set_o (by omega)]; exact hc)]
      · rw [q1]
        exact hK _ _ (hRb m1 hq hM1)
    · have ht : 0 ≤ v ∧ v < μ 1 1 := hw.elim (fun z => absurd z hw0) id
      refine x_best_t hc hw0 hv ht ?_
      refine x_raiseOf hI hc ht (fun r μ1 hf hr => ?_)
      obtain ⟨hM, q5, q1, q5', q1', hRb⟩ := back μ1 hf
      refine m_best_t (by rw [q5']; exact hm) (by rw [q1']; exact hn) (by rw [q5']; exact hc) hw0 hv (by rw [q1']; exact ht) ?_
      refine m_raiseOf (by rw [hM]; exact hIm) (by rw [q5]; exact hc) (by rw [q1]; exact ht) (fun r2 m1 hq hM1 hr2 => ?_)
      rw [hM] at hr2
      have hr3 := tk_rr_c hr2 (P' := fun n => tk_ev (tk_set (tk_hw 1 μ) 2 v n) c) (fun n h1 h2 => tk_ev_eq (tk_EE_2 hE) (tk_II_2 hI (by omega)) (by rw [tk_set_o (by omega)]; exact hc))
      rw [tk_rr_u hr hr3]
      exact hK _ _ (hRb m1 hq hM1)
  · exact c_best_n e2 e3 hm hn hv hok (hK _ _ hT)
