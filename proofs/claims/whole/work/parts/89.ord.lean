/-! ===== Layer 2: order ===== -/
theorem tk_PL_s {l : Int → Int} {k d : Int} (hk : 0 ≤ k) : tk_PL l (k + 1) d ↔ tk_PL l k d ∨ d = l k := by
  constructor
  · rintro ⟨j, h1, h2⟩
    by_cases hj : j = k
    · rw [hj] at h2; exact .inr h2.symm
    · exact .inl ⟨j, by omega, h2⟩
  · rintro (⟨j, h1, h2⟩ | h)
    · exact ⟨j, by omega, h2⟩
    · exact ⟨k, by omega, h.symm⟩
theorem tk_PL_cnt {l : Int → Int} {n : Int} (hn : 0 ≤ n) (k : Int) (hk : 0 ≤ k) : tk_sm n (fun c => tk_bc (tk_PL l k c)) ≤ k := by
  refine tk_ind (P := fun k => tk_sm n (fun c => tk_bc (tk_PL l k c)) ≤ k) ?_ (fun k hk ih => ?_) k hk
  · rw [tk_sm_z hn (fun c _ _ => tk_bc_f (fun ⟨j, z, _⟩ => by omega))]
    omega
  · by_cases hin : (0 ≤ l k ∧ l k < n) ∧ ¬ tk_PL l k (l k)
    · have h := tk_cnt_add (P := fun c => tk_PL l k c) (P' := fun c => tk_PL l (k + 1) c) hn hin.1 hin.2 ((tk_PL_s hk).mpr (.inr rfl)) (fun d _ _ hne => ⟨fun z => ((tk_PL_s hk).mp z).elim id (fun z => absurd z hne), fun z => (tk_PL_s hk).mpr (.inl z)⟩)
      (try dsimp only at h)
      omega
    · have h : tk_sm n (fun c => tk_bc (tk_PL l (k + 1) c)) = tk_sm n (fun c => tk_bc (tk_PL l k c)) := tk_sm_congr (fun d h1 h2 => by
        have e : tk_PL l (k + 1) d = tk_PL l k d := propext ⟨fun z => ((tk_PL_s hk).mp z).elim id (fun z => by
          rw [z] at h1 h2 ⊢
          exact Classical.byContradiction (fun y => hin ⟨⟨h1, h2⟩, y⟩)), fun z => (tk_PL_s hk).mpr (.inl z)⟩
        rw [e])
      omega
theorem tk_PL_ex {S : tk_M} (h1 : tk_I1 S) (h7 : tk_I7 S) {l : Int → Int} {k : Int} (hk : 0 ≤ k ∧ k < S 0 0) : ∃ c, (0 ≤ c ∧ c < S 0 0) ∧ tk_fre S (tk_PL l k) c := by
  by_cases h : ∃ c, (0 ≤ c ∧ c < S 0 0) ∧ ¬ tk_PL l k c
  · obtain ⟨c, h2, h3⟩ := h
    exact tk_fre_ex h1 h7 h2 h3
  · have h2 := tk_cnt_all (n := S 0 0) (P := fun c => tk_PL l k c) (by omega) (fun c h3 h4 => Classical.byContradiction (fun z => h ⟨c, ⟨h3, h4⟩, z⟩))
    have h3 := tk_PL_cnt (l := l) (n := S 0 0) (by omega) k hk.1
    (try dsimp only at h2)
    omega
theorem tk_ol_in {S : tk_M} (h1 : tk_I1 S) (h7 : tk_I7 S) {l : Int → Int} {n j : Int} (hl : tk_ol S l n) (hn : n ≤ S 0 0) (hj : 0 ≤ j ∧ j < n) : (0 ≤ l j ∧ l j < S 0 0) ∧ tk_fre S (tk_PL l j) (l j) := by
  rcases hl j hj.1 hj.2 with ⟨h2, h3⟩ | ⟨h2, h3, h4, h5⟩
  · obtain ⟨c, h4, h5⟩ := tk_PL_ex h1 h7 (l := l) (k := j) (by omega)
    exact absurd h5 (h3 c h4.1 h4.2)
  · exact ⟨⟨h2, h3⟩, h4⟩
theorem tk_ol_cl {S : tk_M} (h1 : tk_I1 S) (h7 : tk_I7 S) {l : Int → Int} {n t y : Int} (hl : tk_ol S l n) (hn : n ≤ S 0 0) (hy : tk_PL l n y) (ht : tk_bk S (-5) t y) : tk_PL l n (S 1 t) := by
  obtain ⟨j, h2, h3⟩ := hy
  have h4 := (tk_ol_in h1 h7 hl hn h2).2.2 t (by rw [h3]; exact ht)
  obtain ⟨i, h5, h6⟩ := h4
  exact ⟨i, by omega, h6⟩
/-- digits -/
def tk_dg (l : Int → Int) : Nat → Int
  | 0 => 0
  | k + 1 => tk_dg l k * 10 + l k
theorem tk_dg_s {l : Int → Int} {i : Int} (hi : 0 ≤ i) : tk_dg l (i + 1).toNat = tk_dg l i.toNat * 10 + l i := by
  obtain ⟨m, rfl⟩ := tk_nnt hi
  have e : ((m : Int) + 1).toNat = m + 1 := by omega
  rw [e, Int.toNat_natCast]
  rfl
theorem tk_dg_eq {l l' : Int → Int} (k : Nat) (h : ∀ j : Int, 0 ≤ j → j < k → l j = l' j) : tk_dg l k = tk_dg l' k := by
  induction k with
  | zero => rfl
  | succ k ih =>
    unfold tk_dg
    rw [ih (fun j h1 h2 => h j h1 (by omega)), h k (by omega) (by omega)]
def tk_p10 : Nat → Int
  | 0 => 1
  | k + 1 => 10 * tk_p10 k
theorem tk_dg_bd {l : Int → Int} (k : Nat) (h : ∀ j : Int, 0 ≤ j → j < k → 0 ≤ l j ∧ l j ≤ 9) : 0 ≤ tk_dg l k ∧ tk_dg l k < tk_p10 k := by
  induction k with
  | zero => unfold tk_dg tk_p10; omega
  | succ k ih =>
    have h1 := ih (fun j h1 h2 => h j h1 (by omega))
    have h2 := h k (by omega) (by omega)
    unfold tk_dg tk_p10
    omega
theorem tk_p10_5 {k : Nat} (h : k ≤ 5) : tk_p10 k ≤ 100000 := by
  have h2 : k = 0 ∨ k = 1 ∨ k = 2 ∨ k = 3 ∨ k = 4 ∨ k = 5 := by omega
  rcases h2 with rfl | rfl | rfl | rfl | rfl | rfl <;> decide
theorem x_order {μ : tk_M} {Q : Int → tk_M → Prop} (hI : tk_II (tk_hw 1 μ)) (hQ : ∀ (l : Int → Int) μ1, tk_f1 24 25 μ μ1 → tk_ol (tk_hw 1 μ) l (μ 1 0) → Q (tk_dg l (μ 1 0).toNat) μ1) : tkF_X6_order [0] Q μ := by
  have g1 : 1 ≤ μ 1 0 ∧ μ 1 0 ≤ 6 := hI.1.1
  have h7 := hI.2.2.2.2.2.2.2.1
  simp [tk_fn, tk_env, tk_sq, tk_sk, tk_if, tk_re, tk_rez, tk_rev, tk_xp, tk_se, tk_pf, tk_pfz, tk_pfo, tk_as, tk_asz, tk_asb, tk_aso, tk_cpy, tk_sw, tk_swc, tk_lit, tk_loc, tk_u1, tk_bin, tk_dv, tk_gf, tk_gr, tk_gn, tk_ald, tk_aldq, tk_aln, tk_unl, tk_una, tk_ter, tk_args, tk_cs, tk_cv, tk_ceq, tk_cne, tk_clt, tk_cge, tk_cgt, tk_cle, tk_zeq, tk_zne, tk_zlt, tk_zge, tk_zgt, tk_zle, tk_and, tk_or, tk_not, tk_ct2, tk_isC, List.headD_cons, tk_up, tk_sca, tk_scl, tkF_X6_order, tkS_X6_order]
  refine x_arrange1 hI.1 hI.2.1 h7 (fun μ1 hf ha => ?_)
  have hT : tk_hw 1 μ1 = tk_hw 1 μ := tk_hw_f1 hf (by omega)
  have e0 : μ1 1 0 = μ 1 0 := hf _ _ (by omega)
  have hol : tk_ol (tk_hw 1 μ) (fun k => μ1 24 k) (μ 1 0) := by
    have := ha.2
    rw [hT, e0] at this
    exact this
  have hin := fun j h1 h2 => (tk_ol_in (n := μ 1 0) hI.2.1 h7 hol (Int.le_refl _) (j := j) ⟨h1, h2⟩).1
  have hin2 : ∀ j : Int, 0 ≤ j → j < μ 1 0 → 0 ≤ μ1 24 j ∧ μ1 24 j < μ 1 0 := hin
  clear hin
  have hQ := hQ (fun k => μ1 24 k) μ1 hf hol
  refine tk_for (μ 1 0) (fun i ρ μ' => μ' = μ1 ∧ ρ 0 = 0 ∧ ρ 2 = i ∧ ρ 1 = tk_dg (fun k => μ1 24 k) i.toNat) (by omega) ⟨rfl, rfl, rfl, rfl⟩ ?_ ?_
  · rintro i ρ μ' hi0 hi6 ⟨rfl, r0, r2, r1⟩ K hK
    have hb := tk_dg_bd (l := fun k => μ' 24 k) i.toNat (fun j h1 h2 => by have := hin2 j h1 (by omega); exact ⟨this.1, by omega⟩)
    have hp := tk_p10_5 (k := i.toNat) (by omega)
    have hi := hin2 i hi0 hi6
    have hs := tk_dg_s (l := fun k => μ' 24 k) hi0
    have hs : tk_dg (fun k => μ' 24 k) (i + 1).toNat = tk_dg (fun k => μ' 24 k) i.toNat * 10 + μ' 24 i := hs
    have q6 : i < 6 := by omega
    have hdd : 0 ≤ tk_dg (fun k => μ' 24 k) i.toNat ∧ tk_dg (fun k => μ' 24 k) i.toNat < 100000 := by omega
    clear hb hp
    generalize tk_dg (fun k => μ' 24 k) i.toNat = d at r1 hs hdd
    have i1 : tk_iadd i 1 = i + 1 := tk_iadd_id (by clear r1 hs; omega) (by clear r1 hs; omega)
    have l1 : tk_imul d 10 = d * 10 := tk_imul_id (by clear hs; omega) (by clear hs; omega)
    have l2 : tk_iadd (d * 10) (μ' 24 i) = d * 10 + μ' 24 i := tk_iadd_id (by clear hs; omega) (by clear hs; omega)
    simp [tk_fn, tk_env, tk_sq, tk_sk, tk_if, tk_re, tk_rez, tk_rev, tk_xp, tk_se, tk_pf, tk_pfz, tk_pfo, tk_as, tk_asz, tk_asb, tk_aso, tk_cpy, tk_sw, tk_swc, tk_lit, tk_loc, tk_u1, tk_bin, tk_dv, tk_gf, tk_gr, tk_gn, tk_ald, tk_aldq, tk_aln, tk_unl, tk_una, tk_ter, tk_args, tk_cs, tk_cv, tk_ceq, tk_cne, tk_clt, tk_cge, tk_cgt, tk_cle, tk_zeq, tk_zne, tk_zlt, tk_zge, tk_zgt, tk_zle, tk_and, tk_or, tk_not, tk_ct2, tk_isC, List.headD_cons, tk_up, tk_sca, tk_scl, r0, r1, r2, e0, hi0, hi6, q6, i1, l1, l2, tk_al_2, tk_al_3, tk_al_4, tk_al_5, tk_al_6, tk_al_7, tk_al_8, tk_al_9, tk_al_10, tk_al_11, tk_al_13, tk_al_14, tk_al_16, tk_al_17, tk_al_19, tk_al_20, tk_al_22, tk_al_24, tk_al_25, tk_al_26, tk_al_27, tk_al_28, tk_al_29, tk_al_30, tk_al_32, tk_al_33, tk_al_34, tk_al_35, tk_al_36, tk_al_37, tk_al_38, tk_al_39, tk_al_40, tk_al_41, tk_al_43, tk_al_44, tk_al_46, tk_al_47, tk_al_49, tk_al_50, tk_al_52, tk_al_54, tk_al_55, tk_al_56, tk_al_57, tk_al_58, tk_al_59, tk_al_60, tk_al_62, tk_al_63, tk_al_64, tk_al_65, tk_al_66, tk_al_67, tk_al_68, tk_al_69, tk_al_70, tk_al_71, tk_al_73, tk_al_74, tk_al_76, tk_al_77, tk_al_79, tk_al_80, tk_al_81, tk_al_83, tk_al_85, tk_al_87, tk_al_89, tk_al_91, tk_al_93, tk_al_95, tk_al_97, tk_al_98, tk_al_99, tk_al_100, tk_al_101, tk_al_102, tk_al_103, tk_al_104, tk_al_105, tk_al_106, tk_al_107, tk_al_108, tk_al_109, tk_al_110, tk_al_111, tk_al_112, tk_al_113, tk_al_114, tk_al_115, tk_al_116, tk_al_117, tk_al_118, tk_al_119, tk_al_120, tk_al_121, tk_al_122, tk_al_123, tk_al_124, tk_al_125, tk_al_126, tk_al_127, tk_al_128, tk_al_129]
    exact hK _ _ ⟨rfl, r0, rfl, hs.symm⟩
  · rintro ρ μ' ⟨rfl, r0, r2, r1⟩ X
    simp [tk_fn, tk_env, tk_sq, tk_sk, tk_if, tk_re, tk_rez, tk_rev, tk_xp, tk_se, tk_pf, tk_pfz, tk_pfo, tk_as, tk_asz, tk_asb, tk_aso, tk_cpy, tk_sw, tk_swc, tk_lit, tk_loc, tk_u1, tk_bin, tk_dv, tk_gf, tk_gr, tk_gn, tk_ald, tk_aldq, tk_aln, tk_unl, tk_una, tk_ter, tk_args, tk_cs, tk_cv, tk_ceq, tk_cne, tk_clt, tk_cge, tk_cgt, tk_cle, tk_zeq, tk_zne, tk_zlt, tk_zge, tk_zgt, tk_zle, tk_and, tk_or, tk_not, tk_ct2, tk_isC, List.headD_cons, tk_up, tk_sca, tk_scl, r0, r1, r2, e0]
    exact hQ
/-- what the Model takes next -/
def tk_nf (b : Int) (H : Int → Int) (c : Int) : Prop := ¬ tk_bit b c ∧ ∀ d, tk_bit (H c) d → tk_bit b d
theorem m_ordIn {F1 : tk_F} (hF1 : ∀ (x k : Int) (μ : tk_M) (Q : Int → tk_M → Prop), (0 ≤ x ∧ x ≤ 2147483647) → (0 ≤ k ∧ k ≤ 30) → (tk_bit x k → Q 1 μ) → (¬ tk_bit x k → Q 0 μ) → F1 [x, k] Q μ) {n b : Int} {μ : tk_M} {ρ : tk_L} {Qn : tk_L → tk_M → Prop} {Qr : Int → tk_M → Prop} (hn : 1 ≤ n ∧ n ≤ 6) (hb : tk_bs2 6 b) (hH : ∀ c : Int, 0 ≤ c → c < 6 → tk_bs2 6 (μ 115 c)) (p0 : ρ 0 = 96) (p2 : ρ 2 = b) (p4 : ρ 4 = -1) (p5 : ρ 5 = n - 1) (hQ : ∀ ρ' : tk_L, (∀ k : Nat, ¬ k = 4 → ¬ k = 5 → ρ' k = ρ k) → ((ρ' 4 = -1 ∧ ∀ c : Int, 0 ≤ c → c < n → ¬ tk_nf b (fun c => μ 115 c) c) ∨ ((0 ≤ ρ' 4 ∧ ρ' 4 < n) ∧ tk_nf b (fun c => μ 115 c) (ρ' 4) ∧ ∀ c : Int, 0 ≤ c → c < ρ' 4 → ¬ tk_nf b (fun c => μ 115 c) c)) → Qn ρ' μ) : tk_wh (tk_zge (tk_loc 5)) (tk_sq (tk_se 4 (tk_ter (tk_and (tk_not (tk_zne (tk_cs F1 [(tk_loc 2), (tk_loc 5)]))) (tk_zeq (tk_bin tk_iand (tk_ald 0 (tk_gr 7 (19) (tk_loc 0)) (tk_loc 5)) (tk_bin tk_ixor (tk_loc 2) (tk_lit (-1)))))) (tk_loc 5) (tk_loc 4))) (tk_se 5 (tk_bin tk_iadd (tk_loc 5) (tk_lit (-1))))) Qn Qr ρ μ := by
  refine tk_for n (fun i ρ' μ' => μ' = μ ∧ (∀ k : Nat, ¬ k = 4 → ¬ k = 5 → ρ' k = ρ k) ∧ ρ' 5 = n - 1 - i ∧ ((ρ' 4 = -1 ∧ ∀ c : Int, n - 1 - i < c → c < n → ¬ tk_nf b (fun c => μ 115 c) c) ∨ ((n - 1 - i < ρ' 4 ∧ ρ' 4 < n) ∧ tk_nf b (fun c => μ 115 c) (ρ' 4) ∧ ∀ c : Int, n - 1 - i < c → c < ρ' 4 → ¬ tk_nf b (fun c => μ 115 c) c))) (by omega) ⟨rfl, fun _ _ _ => rfl, by rw [p5]; omega, .inl ⟨p4, fun c h1 h2 => by omega⟩⟩ ?_ ?_
  · rintro i ρ' μ' hi0 hi6 ⟨rfl, hr, r5, h4⟩ K hK
    have r0 : ρ' 0 = 96 := (hr 0 (by decide) (by decide)).trans p0
    have r2 : ρ' 2 = b := (hr 2 (by decide) (by decide)).trans p2
    have hj : 0 ≤ n - 1 - i ∧ n - 1 - i < 6 := by omega
    have hj2 : n - 1 - (i + 1) = n - 1 - i - 1 := by omega
    have hjn : n - 1 - i < n := by omega
    have hkk : ∀ (ρ2 : tk_L) , (∀ k : Nat, ¬ k = 4 → ¬ k = 5 → ρ2 k = ρ' k) → ρ2 5 = n - 1 - i - 1 → ((tk_nf b (fun c => μ' 115 c) (n - 1 - i) ∧ ρ2 4 = n - 1 - i) ∨ (¬ tk_nf b (fun c => μ' 115 c) (n - 1 - i) ∧ ρ2 4 = ρ' 4)) → K ρ2 μ' := fun ρ2 z1 z2 z3 => by
      refine hK _ _ ⟨rfl, fun k h5 h6 => by rw [z1 k h5 h6]; exact hr k h5 h6, by rw [z2, hj2], ?_⟩
      rw [hj2]
      rcases z3 with ⟨z3, z4⟩ | ⟨z3, z4⟩
      · right
        rw [z4]
        exact ⟨by omega, z3, fun c h5 h6 => by omega⟩
      · rw [z4]
        rcases h4 with ⟨h5, h6⟩ | ⟨h5, h6, h7⟩
        · left
          refine ⟨h5, fun c h8 h9 => ?_⟩
          by_cases hcj : c = n - 1 - i
          · rw [hcj]; exact z3
          · exact h6 c (by omega) h9
        · right
          refine ⟨by omega, h6, fun c h8 h9 => ?_⟩
          by_cases hcj : c = n - 1 - i
          · rw [hcj]; exact z3
          · exact h7 c (by omega) h9
    have hHj := hH (n - 1 - i) hj.1 hj.2
    clear h4
    generalize n - 1 - i = j at r5 hj hjn hkk hHj
    have hj30 : 0 ≤ j ∧ j ≤ 30 := by clear r5; omega
    have hbr := tk_bs_r (by omega) hb
    have hsub := tk_bit_sub (x := μ' 115 j) (y := b) (tk_bs_r (by omega) hHj) (tk_bs_r (by omega) hb)
    have i1 : tk_iadd j (-1) = j - 1 := by rw [tk_iadd_id (by clear r5; omega) (by clear r5; omega)]; clear r5; omega
    simp [tk_fn, tk_env, tk_sq, tk_sk, tk_if, tk_re, tk_rez, tk_rev, tk_xp, tk_se, tk_pf, tk_pfz, tk_pfo, tk_as, tk_asz, tk_asb, tk_aso, tk_cpy, tk_sw, tk_swc, tk_lit, tk_loc, tk_u1, tk_bin, tk_dv, tk_gf, tk_gr, tk_gn, tk_ald, tk_aldq, tk_aln, tk_unl, tk_una, tk_ter, tk_args, tk_cs, tk_cv, tk_ceq, tk_cne, tk_clt, tk_cge, tk_cgt, tk_cle, tk_zeq, tk_zne, tk_zlt, tk_zge, tk_zgt, tk_zle, tk_and, tk_or, tk_not, tk_ct2, tk_isC, List.headD_cons, tk_up, tk_sca, tk_scl, r0, r2, r5, hj.1, i1]
    refine hF1 _ _ _ _ hbr hj30 (fun hbit => ?_) (fun hbit => ?_)
    · simp
      exact hkk _ (fun k h5 h6 => by show (if k = 5 then _ else if k = 4 then _ else ρ' k) = ρ' k; rw [if_neg h6, if_neg h5]) rfl (.inr ⟨fun z => z.1 hbit, rfl⟩)
    · by_cases hz : tk_iand (μ' 115 j) (tk_ixor b (-1)) = 0
      · have hz2 := hsub.mp hz
        generalize tk_iand (μ' 115 j) (tk_ixor b (-1)) = q at hz ⊢
        simp [hz, hj.1, hj.2, tk_al_2, tk_al_3, tk_al_4, tk_al_5, tk_al_6, tk_al_7, tk_al_8, tk_al_9, tk_al_10, tk_al_11, tk_al_13, tk_al_14, tk_al_16, tk_al_17, tk_al_19, tk_al_20, tk_al_22, tk_al_24, tk_al_25, tk_al_26, tk_al_27, tk_al_28, tk_al_29, tk_al_30, tk_al_32, tk_al_33, tk_al_34, tk_al_35, tk_al_36, tk_al_37, tk_al_38, tk_al_39, tk_al_40, tk_al_41, tk_al_43, tk_al_44, tk_al_46, tk_al_47, tk_al_49, tk_al_50, tk_al_52, tk_al_54, tk_al_55, tk_al_56, tk_al_57, tk_al_58, tk_al_59, tk_al_60, tk_al_62, tk_al_63, tk_al_64, tk_al_65, tk_al_66, tk_al_67, tk_al_68, tk_al_69, tk_al_70, tk_al_71, tk_al_73, tk_al_74, tk_al_76, tk_al_77, tk_al_79, tk_al_80, tk_al_81, tk_al_83, tk_al_85, tk_al_87, tk_al_89, tk_al_91, tk_al_93, tk_al_95, tk_al_97, tk_al_98, tk_al_99, tk_al_100, tk_al_101, tk_al_102, tk_al_103, tk_al_104, tk_al_105, tk_al_106, tk_al_107, tk_al_108, tk_al_109, tk_al_110, tk_al_111, tk_al_112, tk_al_113, tk_al_114, tk_al_115, tk_al_116, tk_al_117, tk_al_118, tk_al_119, tk_al_120, tk_al_121, tk_al_122, tk_al_123, tk_al_124, tk_al_125, tk_al_126, tk_al_127, tk_al_128, tk_al_129]
        exact hkk _ (fun k h5 h6 => by show (if k = 5 then _ else if k = 4 then _ else ρ' k) = ρ' k; rw [if_neg h6, if_neg h5]) rfl (.inl ⟨⟨hbit, hz2⟩, rfl⟩)
      · have hz2 : ¬ ∀ k, tk_bit (μ' 115 j) k → tk_bit b k := fun y => hz (hsub.mpr y)
        generalize tk_iand (μ' 115 j) (tk_ixor b (-1)) = q at hz ⊢
        simp [hz, hj.1, hj.2, tk_al_2, tk_al_3, tk_al_4, tk_al_5, tk_al_6, tk_al_7, tk_al_8, tk_al_9, tk_al_10, tk_al_11, tk_al_13, tk_al_14, tk_al_16, tk_al_17, tk_al_19, tk_al_20, tk_al_22, tk_al_24, tk_al_25, tk_al_26, tk_al_27, tk_al_28, tk_al_29, tk_al_30, tk_al_32, tk_al_33, tk_al_34, tk_al_35, tk_al_36, tk_al_37, tk_al_38, tk_al_39, tk_al_40, tk_al_41, tk_al_43, tk_al_44, tk_al_46, tk_al_47, tk_al_49, tk_al_50, tk_al_52, tk_al_54, tk_al_55, tk_al_56, tk_al_57, tk_al_58, tk_al_59, tk_al_60, tk_al_62, tk_al_63, tk_al_64, tk_al_65, tk_al_66, tk_al_67, tk_al_68, tk_al_69, tk_al_70, tk_al_71, tk_al_73, tk_al_74, tk_al_76, tk_al_77, tk_al_79, tk_al_80, tk_al_81, tk_al_83, tk_al_85, tk_al_87, tk_al_89, tk_al_91, tk_al_93, tk_al_95, tk_al_97, tk_al_98, tk_al_99, tk_al_100, tk_al_101, tk_al_102, tk_al_103, tk_al_104, tk_al_105, tk_al_106, tk_al_107, tk_al_108, tk_al_109, tk_al_110, tk_al_111, tk_al_112, tk_al_113, tk_al_114, tk_al_115, tk_al_116, tk_al_117, tk_al_118, tk_al_119, tk_al_120, tk_al_121, tk_al_122, tk_al_123, tk_al_124, tk_al_125, tk_al_126, tk_al_127, tk_al_128, tk_al_129]
        exact hkk _ (fun k h5 h6 => by show (if k = 5 then _ else if k = 4 then _ else ρ' k) = ρ' k; rw [if_neg h6, if_neg h5]) rfl (.inr ⟨fun z => hz2 z.2, rfl⟩)
  · rintro ρ' μ' ⟨rfl, hr, r5, h4⟩ X
    have r6 : ρ' 5 = -1 := by rw [r5]; omega
    simp [tk_fn, tk_env, tk_sq, tk_sk, tk_if, tk_re, tk_rez, tk_rev, tk_xp, tk_se, tk_pf, tk_pfz, tk_pfo, tk_as, tk_asz, tk_asb, tk_aso, tk_cpy, tk_sw, tk_swc, tk_lit, tk_loc, tk_u1, tk_bin, tk_dv, tk_gf, tk_gr, tk_gn, tk_ald, tk_aldq, tk_aln, tk_unl, tk_una, tk_ter, tk_args, tk_cs, tk_cv, tk_ceq, tk_cne, tk_clt, tk_cge, tk_cgt, tk_cle, tk_zeq, tk_zne, tk_zlt, tk_zge, tk_zgt, tk_zle, tk_and, tk_or, tk_not, tk_ct2, tk_isC, List.headD_cons, tk_up, tk_sca, tk_scl, r6]
    refine hQ ρ' hr ?_
    rw [show n - 1 - n = -1 by omega] at h4
    rcases h4 with ⟨h5, h6⟩ | ⟨h5, h6, h7⟩
    · exact .inl ⟨h5, fun c h8 h9 => h6 c (by omega) h9⟩
    · exact .inr ⟨by omega, h6, fun c h8 h9 => h7 c (by omega) h9⟩
theorem m_order_a {F1 F2 : tk_F} (hF1 : ∀ (x k : Int) (μ : tk_M) (Q : Int → tk_M → Prop), (0 ≤ x ∧ x ≤ 2147483647) → (0 ≤ k ∧ k ≤ 30) → (tk_bit x k → Q 1 μ) → (¬ tk_bit x k → Q 0 μ) → F1 [x, k] Q μ) {μ : tk_M} {Q : Int → tk_M → Prop} (h0 : tk_I0 (tk_mv μ)) (h1 : tk_I1 (tk_mv μ)) (h7 : tk_I7 (tk_mv μ)) (hF2 : ∀ R : Int → tk_M → Prop, (∀ μ', tk_f1 115 115 (tk_set μ 96 24 0) μ' → tk_mH (tk_mv μ) (-1) μ' → R 0 μ') → F2 [96, -1] R (tk_set μ 96 24 0)) (hQ : ∀ (l : Int → Int) μ1, tk_f1 115 115 (tk_set μ 96 24 0) μ1 → tk_ol (tk_mv μ) l (μ 96 0) → Q (tk_dg l (μ 96 0).toNat) μ1) : (tk_fn [2] (tk_sq (tk_pf 7 24 (tk_loc 0) (tk_lit (0))) (tk_sq (tk_xp (tk_cv 7 F2 [(tk_loc 0), (tk_lit (-1))])) (tk_sq (tk_se 1 (tk_lit (0))) (tk_sq (tk_se 2 (tk_lit (0))) (tk_sq (tk_sq (tk_se 3 (tk_lit (0))) (tk_wh (tk_clt (tk_loc 3) (tk_gf 7 0 (tk_loc 0))) (tk_sq (tk_sq (tk_se 4 (tk_lit (-1))) (tk_sq (tk_sq (tk_se 5 (tk_bin tk_isub (tk_gf 7 0 (tk_loc 0)) (tk_lit (1)))) (tk_wh (tk_zge (tk_loc 5)) (tk_sq (tk_se 4 (tk_ter (tk_and (tk_not (tk_zne (tk_cs F1 [(tk_loc 2), (tk_loc 5)]))) (tk_zeq (tk_bin tk_iand (tk_ald 0 (tk_gr 7 (19) (tk_loc 0)) (tk_loc 5)) (tk_bin tk_ixor (tk_loc 2) (tk_lit (-1)))))) (tk_loc 5) (tk_loc 4))) (tk_se 5 (tk_bin tk_iadd (tk_loc 5) (tk_lit (-1))))))) (tk_sq (tk_se 1 (tk_bin tk_iadd (tk_bin tk_imul (tk_lit (10)) (tk_loc 1)) (tk_loc 4))) (tk_se 2 (tk_bin tk_ior (tk_loc 2) (tk_bin tk_ishl (tk_lit (1)) (tk_loc 4))))))) (tk_se 3 (tk_bin tk_iadd (tk_loc 3) (tk_lit (1))))))) (tk_re (tk_loc 1)))))))) [96] Q μ := by
  have g1 : 1 ≤ μ 96 0 ∧ μ 96 0 ≤ 6 := h0.1
  have hS0 : tk_mv μ 0 0 = μ 96 0 := rfl
  simp [tk_fn, tk_env, tk_sq, tk_sk, tk_if, tk_re, tk_rez, tk_rev, tk_xp, tk_se, tk_pf, tk_pfz, tk_pfo, tk_as, tk_asz, tk_asb, tk_aso, tk_cpy, tk_sw, tk_swc, tk_lit, tk_loc, tk_u1, tk_bin, tk_dv, tk_gf, tk_gr, tk_gn, tk_ald, tk_aldq, tk_aln, tk_unl, tk_una, tk_ter, tk_args, tk_cs, tk_cv, tk_ceq, tk_cne, tk_clt, tk_cge, tk_cgt, tk_cle, tk_zeq, tk_zne, tk_zlt, tk_zge, tk_zgt, tk_zle, tk_and, tk_or, tk_not, tk_ct2, tk_isC, List.headD_cons, tk_up, tk_sca, tk_scl]
  refine hF2 _ (fun μ1 hf hH => ?_)
  have e0 : μ1 96 0 = μ 96 0 := by rw [hf _ _ (by omega), tk_set_j (by omega)]
  refine tk_for (μ 96 0) (fun i ρ μ' => μ' = μ1 ∧ ρ 0 = 96 ∧ ρ 3 = i ∧ tk_bs2 6 (ρ 2) ∧ ∃ l : Int → Int, (∀ d, tk_bit (ρ 2) d ↔ tk_PL l i d) ∧ tk_ol (tk_mv μ) l i ∧ ρ 1 = tk_dg l i.toNat) (by omega) ⟨rfl, rfl, rfl, tk_bs_0 6, fun _ => 0, fun d => ⟨fun z => absurd z (tk_bit_z d), fun ⟨j, z, _⟩ => by omega⟩, fun k h2 h3 => by omega, rfl⟩ ?_ ?_
  · rintro i ρ μ' hi0 hi6 ⟨rfl, r0, r3, hs, l, hb, hol, r1⟩ K hK
    have i1 : tk_iadd i 1 = i + 1 := tk_iadd_id (by clear r1; omega) (by clear r1; omega)
    have l1 : tk_isub (μ 96 0) 1 = μ 96 0 - 1 := tk_isub_id (by clear r1; omega) (by clear r1; omega)
    have hin := fun j h1' h2 => (tk_ol_in (n := i) h1 h7 hol (by rw [hS0]; omega) (j := j) ⟨h1', h2⟩).1
    have hbd := tk_dg_bd (l := l) i.toNat (fun j h1' h2 => by have := hin j h1' (by omega); rw [hS0] at this; omega)
    have hp := tk_p10_5 (k := i.toNat) (by clear r1; omega)
    simp [tk_fn, tk_env, tk_sq, tk_sk, tk_if, tk_re, tk_rez, tk_rev, tk_xp, tk_se, tk_pf, tk_pfz, tk_pfo, tk_as, tk_asz, tk_asb, tk_aso, tk_cpy, tk_sw, tk_swc, tk_lit, tk_loc, tk_u1, tk_bin, tk_dv, tk_gf, tk_gr, tk_gn, tk_ald, tk_aldq, tk_aln, tk_unl, tk_una, tk_ter, tk_args, tk_cs, tk_cv, tk_ceq, tk_cne, tk_clt, tk_cge, tk_cgt, tk_cle, tk_zeq, tk_zne, tk_zlt, tk_zge, tk_zgt, tk_zle, tk_and, tk_or, tk_not, tk_ct2, tk_isC, List.headD_cons, tk_up, tk_sca, tk_scl, r0, r3, e0, hi6, l1]
    refine m_ordIn hF1 (n := μ 96 0) (b := ρ 2) g1 hs (fun c h2 h3 => (hH c h2 h3).1) r0 rfl rfl rfl (fun ρ' hr hres => ?_)
    -- what is next
    have heq : ∀ c : Int, 0 ≤ c → c < μ 96 0 → (tk_nf (ρ 2) (fun c => μ' 115 c) c ↔ tk_fre (tk_mv μ) (tk_PL l i) c) := fun c h2 h3 => by
      have hHc := (hH c h2 (by omega)).2
      constructor
      · rintro ⟨z1, z2⟩
        refine ⟨fun z => z1 ((hb c).mpr z), fun t ht => (hb _).mp (z2 _ ?_)⟩
        exact (hHc _).mpr (tk_hg_1 (tk_bk_w (by omega) (by omega) ht))
      · rintro ⟨z1, z2⟩
        refine ⟨fun z => z1 ((hb c).mp z), fun d hd => (hb d).mpr ?_⟩
        exact (hHc d).mp hd (tk_PL l i) (fun t ht => z2 t (tk_bk_w (by omega) (by omega) ht)) (fun t y hy ht => tk_ol_cl h1 h7 hol (by rw [hS0]; omega) hy (tk_bk_w (by omega) (by omega) ht))
    have hff : (0 ≤ ρ' 4 ∧ ρ' 4 < μ 96 0) ∧ tk_ff (μ 96 0) (tk_fre (tk_mv μ) (tk_PL l i)) (ρ' 4) := by
      rcases hres with ⟨z1, z2⟩ | ⟨z1, z2, z3⟩
      · obtain ⟨c, h2, h3⟩ := tk_PL_ex h1 h7 (l := l) (k := i) (by rw [hS0]; omega)
        rw [hS0] at h2
        exact absurd ((heq c h2.1 h2.2).mpr h3) (z2 c h2.1 h2.2)
      · exact ⟨z1, .inr ⟨z1.1, z1.2, (heq _ z1.1 z1.2).mp z2, fun c h2 h3 z => z3 c h2 h3 ((heq c h2 (by omega)).mpr z)⟩⟩
    clear hres heq
    have q0 : ρ' 0 = 96 := (hr 0 (by decide) (by decide)).trans r0
    have q1 : ρ' 1 = tk_dg l i.toNat := (hr 1 (by decide) (by decide)).trans r1
    have q2 : ρ' 2 = ρ 2 := hr 2 (by decide) (by decide)
    have q3 : ρ' 3 = i := (hr 3 (by decide) (by decide)).trans r3
    generalize hx : ρ' 4 = x at hff
    have l2 : tk_imul 10 (tk_dg l i.toNat) = tk_dg l i.toNat * 10 := by rw [tk_imul_id (by clear r1 q1; omega) (by clear r1 q1; omega), Int.mul_comm]
    have l3 : tk_iadd (tk_dg l i.toNat * 10) x = tk_dg l i.toNat * 10 + x := tk_iadd_id (by clear r1 q1 l2; omega) (by clear r1 q1 l2; omega)
    simp [tk_fn, tk_env, tk_sq, tk_sk, tk_if, tk_re, tk_rez, tk_rev, tk_xp, tk_se, tk_pf, tk_pfz, tk_pfo, tk_as, tk_asz, tk_asb, tk_aso, tk_cpy, tk_sw, tk_swc, tk_lit, tk_loc, tk_u1, tk_bin, tk_dv, tk_gf, tk_gr, tk_gn, tk_ald, tk_aldq, tk_aln, tk_unl, tk_una, tk_ter, tk_args, tk_cs, tk_cv, tk_ceq, tk_cne, tk_clt, tk_cge, tk_cgt, tk_cle, tk_zeq, tk_zne, tk_zlt, tk_zge, tk_zgt, tk_zle, tk_and, tk_or, tk_not, tk_ct2, tk_isC, List.headD_cons, tk_up, tk_sca, tk_scl, q0, q1, q2, q3, hx, i1, l2, l3]
    have hsx := tk_bs_sh (n := 6) (j := x) ⟨hff.1.1, by clear r1 q1 l2 l3; omega⟩ (by omega)
    have ek : ∀ k : Int, k ≤ i → tk_PL (fun j => if j = i then x else l j) k = tk_PL l k := fun k hk => by
      funext d
      apply propext
      constructor
      · rintro ⟨j, h5, h6⟩
        refine ⟨j, h5, ?_⟩
        dsimp only at h6
        rwa [if_neg (by clear r1 q1 l2 l3; omega)] at h6
      · rintro ⟨j, h5, h6⟩
        refine ⟨j, h5, ?_⟩
        dsimp only
        rw [if_neg (by clear r1 q1 l2 l3; omega)]
        exact h6
    refine hK _ _ ⟨rfl, q0, rfl, by show tk_bs2 6 (tk_ior (ρ 2) (tk_ishl 1 x)); exact tk_bs_or (by omega) hs hsx, fun j => if j = i then x else l j, fun d => ?_, fun k h5 h6 => ?_, ?_⟩
    · show tk_bit (tk_ior (ρ 2) (tk_ishl 1 x)) d ↔ _
      rw [tk_bit_or (n := 6) (by omega) hs hsx, tk_bit_sh (by clear r1 q1 l2 l3; omega), tk_PL_s hi0, ek i (Int.le_refl _), hb, if_pos rfl]
    · rw [ek k (by clear r1 q1 l2 l3; omega)]
      by_cases hki : k = i
      · rw [hki]
        dsimp only
        rw [if_pos rfl]
        exact hff.2
      · dsimp only
        rw [if_neg hki]
        exact hol k h5 (by clear r1 q1 l2 l3; omega)
    · show tk_dg l i.toNat * 10 + x = _
      rw [tk_dg_s hi0]
      (try dsimp only)
      rw [if_pos rfl, tk_dg_eq (l := l) (l' := fun j => if j = i then x else l j) i.toNat (fun j h5 h6 => by
        (try dsimp only)
        rw [if_neg (by clear r1 q1 l2 l3; omega)])]
  · rintro ρ μ' ⟨rfl, r0, r3, hs, l, hb, hol, r1⟩ X
    simp [tk_fn, tk_env, tk_sq, tk_sk, tk_if, tk_re, tk_rez, tk_rev, tk_xp, tk_se, tk_pf, tk_pfz, tk_pfo, tk_as, tk_asz, tk_asb, tk_aso, tk_cpy, tk_sw, tk_swc, tk_lit, tk_loc, tk_u1, tk_bin, tk_dv, tk_gf, tk_gr, tk_gn, tk_ald, tk_aldq, tk_aln, tk_unl, tk_una, tk_ter, tk_args, tk_cs, tk_cv, tk_ceq, tk_cne, tk_clt, tk_cge, tk_cgt, tk_cle, tk_zeq, tk_zne, tk_zlt, tk_zge, tk_zgt, tk_zle, tk_and, tk_or, tk_not, tk_ct2, tk_isC, List.headD_cons, tk_up, tk_sca, tk_scl, r0, r3, r1, e0]
    exact hQ l _ hf hol
theorem tk_ol_eq {S T : tk_M} (h0 : tk_E0 S T) (h1 : tk_E1 S T) {l : Int → Int} {n : Int} (h : tk_ol T l n) : tk_ol S l n := by
  intro k h2 h3
  have h4 := h k h2 h3
  rw [h0.1] at h4
  refine tk_ff_c h4 (fun c _ _ => ?_)
  constructor
  · rintro ⟨z1, z2⟩
    refine ⟨z1, fun t ht => ?_⟩
    have := z2 t ((tk_bk_eq h0 h1).mpr ht)
    rwa [(h1 t ht.1.1 ht.1.2).1] at this
  · rintro ⟨z1, z2⟩
    refine ⟨z1, fun t ht => ?_⟩
    have ht' := (tk_bk_eq h0 h1).mp ht
    have := z2 t ht'
    rwa [← (h1 t ht'.1.1 ht'.1.2).1] at this
theorem c_order : tk_cp tkF_X6_order tkF_X7_order [] := by
  intro μ hR K hK
  have hT := tk_R_thr (v := 0) hR
  obtain ⟨hE, hI, hIm⟩ := tk_R_S hR
  obtain ⟨e1, e2, e3, e4, e5, e6, e7, e8, e9, hcu, hn, hm, hck⟩ := tk_R_n hR
  refine x_order hI (fun l μ1 hf hol => ?_)
  have hM : tk_mv μ1 = tk_mv μ := tk_mv_f1 hf (by omega)
  have hM2 : tk_mv (tk_set μ1 96 24 0) = tk_mv μ1 := tk_mv_ob (by omega)
  have q0 : μ1 96 0 = μ 1 0 := by rw [hf _ _ (by omega), e1]
  have h7 : tk_I7 (tk_mv μ1) := by rw [hM]; exact hIm.2.2.2.2.2.2.2.1
  refine m_order_a (fun _ _ _ _ hx hk h1 h0 => m_hasBit hx hk h1 h0) (by rw [hM]; exact hIm.1) (by rw [hM]; exact hIm.2.1) h7 (fun R hR2 => ?_) (fun l2 μ2 hf2 hol2 => ?_)
  · refine m_layHangs (by rw [hM2, hM]; exact hIm.1) (by rw [hM2, hM]; exact hIm.2.1) (by rw [hM2]; exact h7) (fun μ' hf hH => ?_)
    rw [hM2] at hH
    exact hR2 μ' hf hH
  · rw [hM] at hol2
    rw [q0] at hol2 ⊢
    have e : tk_dg l (μ 1 0).toNat = tk_dg l2 (μ 1 0).toNat := tk_dg_eq _ (fun j h5 h6 => tk_ol_u (n := μ 1 0) (by omega) hol (tk_ol_eq hE.1 hE.2.1 hol2) j h5 (by omega))
    rw [e]
    refine hK _ _ (tk_R_fr hT (fun o i hk => ?_))
    unfold tk_kp at hk
    rw [hf2 o i (by omega)]
    unfold tk_set
    by_cases h : o = 96 ∧ i = 24
    · rw [if_pos h, if_pos h]
    · rw [if_neg h, if_neg h]
      exact hf o i (by omega)
