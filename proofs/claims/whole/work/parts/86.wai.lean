/-! ===== Layer 2: nothing goes round ===== -/
def tk_tc (E : Int → Int → Prop) (x y : Int) : Prop := ∀ P : Int → Prop, (∀ z, E x z → P z) → (∀ z w, P z → E z w → P w) → P y
theorem tk_tc_1 {E : Int → Int → Prop} {x y : Int} (h : E x y) : tk_tc E x y := fun _ h1 _ => h1 y h
theorem tk_tc_s {E : Int → Int → Prop} {x y z : Int} (h : tk_tc E x y) (h2 : E y z) : tk_tc E x z := fun P h3 h4 => h4 y z (h P h3 h4) h2
theorem tk_tc_t {E : Int → Int → Prop} {x y z : Int} (h : tk_tc E x y) (h2 : tk_tc E y z) : tk_tc E x z := fun P h3 h4 => h2 P (fun w h5 => h4 y w (h P h3 h4) h5) h4
theorem tk_tc_ri {E : Int → Int → Prop} {x y : Int} (h : tk_tc E x y) : ∃ z, E z y := h (fun y => ∃ z, E z y) (fun _ h1 => ⟨x, h1⟩) (fun z _ _ h2 => ⟨z, h2⟩)
theorem tk_sm_le {n : Int} {f g : Int → Int} (hn : 0 ≤ n) (h : ∀ i : Int, 0 ≤ i → i < n → f i ≤ g i) : tk_sm n f ≤ tk_sm n g :=
  tk_ind (P := fun m => m ≤ n → tk_sm m f ≤ tk_sm m g) (fun _ => Int.le_refl _) (fun m hm ih hmn => by
    rw [tk_sm_s hm, tk_sm_s hm]
    have h1 := ih (by omega)
    have h2 := h m hm (by omega)
    omega) n hn (Int.le_refl n)
theorem tk_bc_le {p q : Prop} (h : p → q) : tk_bc p ≤ tk_bc q := by
  by_cases hp : p
  · rw [tk_bc_t hp, tk_bc_t (h hp)]
    omega
  · rw [tk_bc_f hp]
    exact (tk_bc_01 q).1
theorem tk_rank {n N : Int} {E : Int → Int → Prop} (hN : 0 ≤ N) (hn : 0 ≤ n ∧ n ≤ N + 1) (hE : ∀ x y, E x y → (0 ≤ x ∧ x < n) ∧ (0 ≤ y ∧ y < n)) (hi : ∀ x, ¬ tk_tc E x x) : ∃ rk : Int → Int, (∀ c, 0 ≤ rk c ∧ rk c ≤ N) ∧ ∀ x y, E x y → rk x < rk y := by
  refine ⟨fun c => tk_sm n (fun x => tk_bc (tk_tc E x c)), fun c => ?_, fun x y h => ?_⟩
  · have h1 := tk_cnt_le hn.1 (fun x => tk_tc E x c)
    dsimp only at h1 ⊢
    by_cases hc : 0 ≤ c ∧ c < n
    · have h2 := tk_cnt_lt (P := fun x => tk_tc E x c) hn.1 hc (hi c)
      (try dsimp only at h2)
      omega
    · have h2 : tk_sm n (fun x => tk_bc (tk_tc E x c)) = 0 := tk_sm_z hn.1 (fun x _ _ => tk_bc_f (fun z => by
        obtain ⟨u, hu⟩ := tk_tc_ri z
        exact hc (hE u c hu).2))
      omega
  · obtain ⟨hx, hy⟩ := hE x y h
    have h1 := tk_cnt_add (P := fun z => tk_tc E z x) (P' := fun z => tk_tc E z x ∨ z = x) hn.1 hx (hi x) (.inr rfl) (fun i _ _ hne => ⟨fun z => z.elim id (fun z => absurd z hne), fun z => .inl z⟩)
    have h2 : tk_sm n (fun z => tk_bc (tk_tc E z x ∨ z = x)) ≤ tk_sm n (fun z => tk_bc (tk_tc E z y)) := tk_sm_le hn.1 (fun i _ _ => tk_bc_le (fun z => by
      rcases z with z | z
      · exact tk_tc_s z h
      · subst z; exact tk_tc_1 h))
    dsimp only at h1 ⊢
    omega
theorem tk_tc_rk {E : Int → Int → Prop} {rk : Int → Int} (h : ∀ x y, E x y → rk x < rk y) (x : Int) : ¬ tk_tc E x x := fun z => by
  have := z (fun y => rk x < rk y) (fun y h1 => h x y h1) (fun y w h1 h2 => Int.lt_trans h1 (h y w h2))
  exact Int.lt_irrefl _ this
theorem tk_acy {E E' : Int → Int → Prop} {c o : Int} (hs : ∀ x y, E' x y → E x y ∨ (x = c ∧ y = o)) (hi : ∀ x, ¬ tk_tc E x x) (hno : ¬ (o = c ∨ tk_tc E o c)) (x : Int) : ¬ tk_tc E' x x := by
  have key : ∀ x y, tk_tc E' x y → tk_tc E x y ∨ ((x = c ∨ tk_tc E x c) ∧ (y = o ∨ tk_tc E o y)) := by
    intro x y h
    refine h (fun y => tk_tc E x y ∨ ((x = c ∨ tk_tc E x c) ∧ (y = o ∨ tk_tc E o y))) (fun z hz => ?_) (fun z w hz hw => ?_)
    · rcases hs x z hz with h1 | ⟨h1, h2⟩
      · exact .inl (tk_tc_1 h1)
      · exact .inr ⟨.inl h1, .inl h2⟩
    · rcases hs z w hw with h1 | ⟨h1, h2⟩
      · rcases hz with h3 | ⟨h3, h4⟩
        · exact .inl (tk_tc_s h3 h1)
        · refine .inr ⟨h3, .inr ?_⟩
          rcases h4 with h4 | h4
          · rw [← h4]; exact tk_tc_1 h1
          · exact tk_tc_s h4 h1
      · subst h1
        subst h2
        rcases hz with h3 | ⟨h3, h4⟩
        · exact .inr ⟨.inr h3, .inl rfl⟩
        · exact absurd (h4.imp Eq.symm id) hno
  intro h
  rcases key x x h with h1 | ⟨h1, h2⟩
  · exact hi x h1
  · refine hno ?_
    rcases h1 with h1 | h1 <;> rcases h2 with h2 | h2
    · exact .inl (by rw [← h2, h1])
    · rw [h1] at h2; exact .inr h2
    · rw [h2] at h1; exact .inr h1
    · exact .inr (tk_tc_t h2 h1)
/-! ===== Layer 2: waits ===== -/
def tk_wE (S : tk_M) (x y : Int) : Prop := (0 ≤ x ∧ x < S 0 2) ∧ S 9 x = y ∧ 0 ≤ y
theorem tk_I8_w {S S' : tk_M} {c o : Int} (h0 : 0 ≤ S 0 2 ∧ S 0 2 ≤ 8) (h2 : tk_I2 S) (h8 : tk_I8 S) (ho : 0 ≤ o ∧ o < S 0 2) (hno : ∀ k, ¬ tk_pth S o k = c) (e : S' 0 2 = S 0 2) (e9 : ∀ x, S' 9 x = if x = c then o else S 9 x) : tk_I8 S' := by
  obtain ⟨rk, -, hrk⟩ := h8
  have hi : ∀ x, ¬ tk_tc (tk_wE S) x x := tk_tc_rk (rk := rk) (fun x y h => by
    have := hrk x h.1.1 h.1.2 (by rw [h.2.1]; exact h.2.2)
    rw [h.2.1] at this
    exact this)
  have hno' : ¬ (o = c ∨ tk_tc (tk_wE S) o c) := by
    rintro (z | z)
    · exact hno 0 z
    · obtain ⟨k, hk⟩ := z (fun y => ∃ k, tk_pth S o k = y) (fun z hz => ⟨1, by
        show (if 0 ≤ o then S 9 o else -5) = z
        rw [if_pos ho.1]
        exact hz.2.1⟩) (fun z w ⟨k, hk⟩ hw => ⟨k + 1, by
        show (if 0 ≤ tk_pth S o k then S 9 (tk_pth S o k) else -5) = w
        rw [hk, if_pos hw.1.1]
        exact hw.2.1⟩)
      exact hno k hk
  obtain ⟨rk2, h3, h4⟩ := tk_rank (n := S 0 2) (N := 7) (E := tk_wE S') (by omega) (by omega) (fun x y h => by
    obtain ⟨h5, h6, h7⟩ := h
    rw [e] at h5
    refine ⟨h5, ?_⟩
    rw [e9] at h6
    by_cases hx : x = c
    · rw [if_pos hx] at h6
      omega
    · rw [if_neg hx] at h6
      have := (h2 x h5.1 h5.2).2.2.2.2.2
      omega) (tk_acy (E := tk_wE S) (c := c) (o := o) (fun x y h => by
    obtain ⟨h5, h6, h7⟩ := h
    rw [e] at h5
    rw [e9] at h6
    by_cases hx : x = c
    · rw [if_pos hx] at h6
      exact .inr ⟨hx, h6.symm⟩
    · rw [if_neg hx] at h6
      exact .inl ⟨h5, h6, h7⟩) hi hno')
  exact ⟨rk2, h3, fun x h5 h6 h7 => h4 x _ ⟨⟨h5, h6⟩, rfl, h7⟩⟩
theorem tk_pth_s {S : tk_M} {c i : Int} (hi : 0 ≤ i) : tk_pth S c (i + 1).toNat = if 0 ≤ tk_pth S c i.toNat then S 9 (tk_pth S c i.toNat) else -5 := by
  obtain ⟨m, rfl⟩ := tk_nnt hi
  have e : ((m : Int) + 1).toNat = m + 1 := by omega
  rw [e, Int.toNat_natCast]
  rfl
theorem tk_pth_no {S : tk_M} {c a : Int} {i : Nat} (ha : 0 ≤ a) (hlt : ∀ k : Nat, k < i → ¬ tk_pth S c k = a) (hneg : tk_pth S c i < 0) (k : Nat) : ¬ tk_pth S c k = a := by
  by_cases hk : k < i
  · exact hlt k hk
  · have h := tk_pth_end hneg (k - i)
    rw [show i + (k - i) = k by omega] at h
    omega
theorem x_waitsLeadTo {μ : tk_M} {Q : Int → tk_M → Prop} {a b : Int} (h0 : tk_I0 (tk_hw 1 μ)) (h2 : tk_I2 (tk_hw 1 μ)) (h8 : tk_I8 (tk_hw 1 μ)) (ha : 0 ≤ a ∧ a < μ 1 2) (hb : 0 ≤ b) (hy : (∃ k, tk_pth (tk_hw 1 μ) a k = b) → Q 1 μ) (hn : (∀ k, ¬ tk_pth (tk_hw 1 μ) a k = b) → Q 0 μ) : tkF_X2_waitsLeadTo [1, a, b] Q μ := by
  have hz : 0 ≤ μ 1 2 ∧ μ 1 2 ≤ 8 := h0.2.2.1
  simp [tk_fn, tk_env, tk_sq, tk_sk, tk_if, tk_re, tk_rez, tk_rev, tk_xp, tk_se, tk_pf, tk_pfz, tk_pfo, tk_as, tk_asz, tk_asb, tk_aso, tk_cpy, tk_sw, tk_swc, tk_lit, tk_loc, tk_u1, tk_bin, tk_dv, tk_gf, tk_gr, tk_gn, tk_ald, tk_aldq, tk_aln, tk_unl, tk_una, tk_ter, tk_args, tk_cs, tk_cv, tk_ceq, tk_cne, tk_clt, tk_cge, tk_cgt, tk_cle, tk_zeq, tk_zne, tk_zlt, tk_zge, tk_zgt, tk_zle, tk_and, tk_or, tk_not, tk_ct2, tk_isC, List.headD_cons, tk_up, tk_sca, tk_scl, tkF_X2_waitsLeadTo, tkS_X2_waitsLeadTo]
  refine tk_for 8 (fun i ρ μ' => μ' = μ ∧ ρ 0 = 1 ∧ ρ 2 = b ∧ ρ 3 = tk_pth (tk_hw 1 μ) a i.toNat ∧ ρ 4 = i ∧ ∀ k : Nat, k < i.toNat → ¬ tk_pth (tk_hw 1 μ) a k = b) (by omega) ⟨rfl, rfl, rfl, rfl, rfl, fun k hk => by simp at hk⟩ ?_ ?_
  · rintro i ρ μ' hi0 hi6 ⟨rfl, r0, r2, r3, r4, hno⟩ K hK
    have hs := tk_pth_s (S := tk_hw 1 μ') (c := a) hi0
    have hin := tk_pth_in h2 (c := a) (.inr ha) i.toNat
    have hin2 : tk_pth (tk_hw 1 μ') a i.toNat = -5 ∨ (0 ≤ tk_pth (tk_hw 1 μ') a i.toNat ∧ tk_pth (tk_hw 1 μ') a i.toNat < μ' 1 2) := hin
    clear hin
    have i1 : tk_iadd i 1 = i + 1 := tk_iadd_id (by clear r3 hs hin2; omega) (by clear r3 hs hin2; omega)
    have hnx : ∀ p, tk_pth (tk_hw 1 μ') a i.toNat = p → ¬ p = b → ∀ k : Nat, k < (i + 1).toNat → ¬ tk_pth (tk_hw 1 μ') a k = b := fun p hp hpb k hk => by
      by_cases hk2 : k < i.toNat
      · exact hno k hk2
      · have : k = i.toNat := by clear r3 hs hin2 hp; omega
        rw [this, hp]
        exact hpb
    have hnn := fun z => tk_pth_no (S := tk_hw 1 μ') (c := a) (a := b) (i := i.toNat) hb hno z
    have hyy : tk_pth (tk_hw 1 μ') a i.toNat = b → Q 1 μ' := fun z => hy ⟨_, z⟩
    generalize tk_pth (tk_hw 1 μ') a i.toNat = p at r3 hs hin2 hnx hnn hyy
    rcases hin2 with hp | hp
    · subst hp
      simp [tk_fn, tk_env, tk_sq, tk_sk, tk_if, tk_re, tk_rez, tk_rev, tk_xp, tk_se, tk_pf, tk_pfz, tk_pfo, tk_as, tk_asz, tk_asb, tk_aso, tk_cpy, tk_sw, tk_swc, tk_lit, tk_loc, tk_u1, tk_bin, tk_dv, tk_gf, tk_gr, tk_gn, tk_ald, tk_aldq, tk_aln, tk_unl, tk_una, tk_ter, tk_args, tk_cs, tk_cv, tk_ceq, tk_cne, tk_clt, tk_cge, tk_cgt, tk_cle, tk_zeq, tk_zne, tk_zlt, tk_zge, tk_zgt, tk_zle, tk_and, tk_or, tk_not, tk_ct2, tk_isC, List.headD_cons, tk_up, tk_sca, tk_scl, r0, r3, r4, hi6, x_hasClient, tk_bo_0]
      exact hn (hnn (by omega))
    · have hp8 : p < 8 := by clear hs; omega
      by_cases hpb : p = b
      · simp [tk_fn, tk_env, tk_sq, tk_sk, tk_if, tk_re, tk_rez, tk_rev, tk_xp, tk_se, tk_pf, tk_pfz, tk_pfo, tk_as, tk_asz, tk_asb, tk_aso, tk_cpy, tk_sw, tk_swc, tk_lit, tk_loc, tk_u1, tk_bin, tk_dv, tk_gf, tk_gr, tk_gn, tk_ald, tk_aldq, tk_aln, tk_unl, tk_una, tk_ter, tk_args, tk_cs, tk_cv, tk_ceq, tk_cne, tk_clt, tk_cge, tk_cgt, tk_cle, tk_zeq, tk_zne, tk_zlt, tk_zge, tk_zgt, tk_zle, tk_and, tk_or, tk_not, tk_ct2, tk_isC, List.headD_cons, tk_up, tk_sca, tk_scl, r0, r2, r3, r4, hi6, x_hasClient, tk_bo_0, hp.1, hp.2, eq_true hpb]
        exact hyy hpb
      · rw [if_pos hp.1] at hs
        have hs2 : tk_pth (tk_hw 1 μ') a (i + 1).toNat = μ' 10 p := hs
        simp [tk_fn, tk_env, tk_sq, tk_sk, tk_if, tk_re, tk_rez, tk_rev, tk_xp, tk_se, tk_pf, tk_pfz, tk_pfo, tk_as, tk_asz, tk_asb, tk_aso, tk_cpy, tk_sw, tk_swc, tk_lit, tk_loc, tk_u1, tk_bin, tk_dv, tk_gf, tk_gr, tk_gn, tk_ald, tk_aldq, tk_aln, tk_unl, tk_una, tk_ter, tk_args, tk_cs, tk_cv, tk_ceq, tk_cne, tk_clt, tk_cge, tk_cgt, tk_cle, tk_zeq, tk_zne, tk_zlt, tk_zge, tk_zgt, tk_zle, tk_and, tk_or, tk_not, tk_ct2, tk_isC, List.headD_cons, tk_up, tk_sca, tk_scl, r0, r2, r3, r4, hi6, x_hasClient, tk_bo_0, hp.1, hp.2, hp8, hpb, i1, tk_al_2, tk_al_3, tk_al_4, tk_al_5, tk_al_6, tk_al_7, tk_al_8, tk_al_9, tk_al_10, tk_al_11, tk_al_13, tk_al_14, tk_al_16, tk_al_17, tk_al_19, tk_al_20, tk_al_22, tk_al_24, tk_al_25, tk_al_26, tk_al_27, tk_al_28, tk_al_29, tk_al_30, tk_al_32, tk_al_33, tk_al_34, tk_al_35, tk_al_36, tk_al_37, tk_al_38, tk_al_39, tk_al_40, tk_al_41, tk_al_43, tk_al_44, tk_al_46, tk_al_47, tk_al_49, tk_al_50, tk_al_52, tk_al_54, tk_al_55, tk_al_56, tk_al_57, tk_al_58, tk_al_59, tk_al_60, tk_al_62, tk_al_63, tk_al_64, tk_al_65, tk_al_66, tk_al_67, tk_al_68, tk_al_69, tk_al_70, tk_al_71, tk_al_73, tk_al_74, tk_al_76, tk_al_77, tk_al_79, tk_al_80, tk_al_81, tk_al_83, tk_al_85, tk_al_87, tk_al_89, tk_al_91, tk_al_93, tk_al_95, tk_al_97, tk_al_98, tk_al_99, tk_al_100, tk_al_101, tk_al_102, tk_al_103, tk_al_104, tk_al_105, tk_al_106, tk_al_107, tk_al_108, tk_al_109, tk_al_110, tk_al_111, tk_al_112, tk_al_113, tk_al_114, tk_al_115, tk_al_116, tk_al_117, tk_al_118, tk_al_119, tk_al_120, tk_al_121, tk_al_122, tk_al_123, tk_al_124, tk_al_125, tk_al_126, tk_al_127, tk_al_128, tk_al_129]
        exact hK _ _ ⟨rfl, r0, r2, hs2.symm, rfl, hnx p rfl hpb⟩
  · rintro ρ μ' ⟨rfl, r0, r2, r3, r4, hno⟩ X
    simp [tk_fn, tk_env, tk_sq, tk_sk, tk_if, tk_re, tk_rez, tk_rev, tk_xp, tk_se, tk_pf, tk_pfz, tk_pfo, tk_as, tk_asz, tk_asb, tk_aso, tk_cpy, tk_sw, tk_swc, tk_lit, tk_loc, tk_u1, tk_bin, tk_dv, tk_gf, tk_gr, tk_gn, tk_ald, tk_aldq, tk_aln, tk_unl, tk_una, tk_ter, tk_args, tk_cs, tk_cv, tk_ceq, tk_cne, tk_clt, tk_cge, tk_cgt, tk_cle, tk_zeq, tk_zne, tk_zlt, tk_zge, tk_zgt, tk_zle, tk_and, tk_or, tk_not, tk_ct2, tk_isC, List.headD_cons, tk_up, tk_sca, tk_scl, r4]
    refine hn (tk_pth_no (i := 8) hb hno ?_)
    have h := tk_pth_rk h2 h8 (c := a) ha (k := 8)
    by_cases hz : 0 ≤ tk_pth (tk_hw 1 μ') a 8
    · exact absurd (h hz) (by omega)
    · omega
theorem m_waitsLoop {μ : tk_M} {c o : Int} (h0 : tk_I0 (tk_mv μ)) (h2 : tk_I2 (tk_mv μ)) (h8 : tk_I8 (tk_mv μ)) (hc : 0 ≤ c) (ho : o = -1 ∨ (0 ≤ o ∧ o < μ 96 5)) {ρ : tk_L} {Qn : tk_L → tk_M → Prop} {Qr : Int → tk_M → Prop} (p0 : ρ 0 = 96) (p1 : ρ 1 = c) (p2 : ρ 2 = o) (p3 : ρ 3 = 0) (p4 : ρ 4 = o) (p5 : ρ 5 = 0) (hQ : ∀ ρ' : tk_L, ρ' 0 = 96 → ρ' 1 = c → ρ' 2 = o → ρ' 3 = tk_bc (∃ k, tk_pth (tk_mv μ) o k = c) → Qn ρ' (tk_set μ 96 24 0)) : tk_wh (tk_and (tk_clt (tk_loc 5) (tk_lit (9))) (tk_zge (tk_loc 4))) (tk_sq (tk_sq (tk_se 3 (tk_ter (tk_or (tk_zne (tk_loc 3)) (tk_ceq (tk_loc 4) (tk_loc 1))) (tk_lit 1) (tk_lit 0))) (tk_se 4 (tk_ald 0 (tk_gr 7 (9) (tk_loc 0)) (tk_loc 4)))) (tk_se 5 (tk_bin tk_iadd (tk_loc 5) (tk_lit (1))))) Qn Qr ρ (tk_set μ 96 24 0) := by
  have hz : 0 ≤ μ 96 5 ∧ μ 96 5 ≤ 8 := h0.2.2.1
  have hend : ∀ i : Int, 0 ≤ i → tk_pth (tk_mv μ) o i.toNat < 0 → ((∃ k : Nat, k < i.toNat ∧ tk_pth (tk_mv μ) o k = c) ↔ ∃ k, tk_pth (tk_mv μ) o k = c) := fun i hi hneg => by
    refine ⟨fun ⟨k, _, h⟩ => ⟨k, h⟩, fun ⟨k, h⟩ => ?_⟩
    refine Classical.byContradiction (fun z => ?_)
    exact tk_pth_no hc (fun k hk h => z ⟨k, hk, h⟩) hneg k h
  have hin : ∀ k : Nat, tk_pth (tk_mv μ) o k = -1 ∨ tk_pth (tk_mv μ) o k = -5 ∨ (0 ≤ tk_pth (tk_mv μ) o k ∧ tk_pth (tk_mv μ) o k < μ 96 5) := fun k => by
    rcases ho with rfl | ho
    · by_cases hk : k = 0
      · subst hk; exact .inl rfl
      · right; left
        obtain ⟨j, rfl⟩ : ∃ j, k = j + 1 := ⟨k - 1, by omega⟩
        have h := tk_pth_end (S := tk_mv μ) (c := -1) (k := 0) (by show (-1 : Int) < 0; omega) j
        rw [Nat.zero_add] at h
        unfold tk_pth
        rw [if_neg (by omega)]
    · exact .inr (tk_pth_in h2 (c := o) (.inr ho) k)
  refine tk_for 9 (fun i ρ μ' => μ' = tk_set μ 96 24 0 ∧ ρ 0 = 96 ∧ ρ 1 = c ∧ ρ 2 = o ∧ ρ 5 = i ∧ ρ 4 = tk_pth (tk_mv μ) o i.toNat ∧ ρ 3 = tk_bc (∃ k : Nat, k < i.toNat ∧ tk_pth (tk_mv μ) o k = c)) (by omega) ⟨rfl, p0, p1, p2, p5, p4, ?_⟩ ?_ ?_
  · rw [p3, tk_bc_f (fun ⟨k, hk, _⟩ => by simp at hk)]
  · rintro i ρ μ' hi0 hi6 ⟨rfl, r0, r1, r2, r5, r4, r3⟩ K hK
    have i1 : tk_iadd i 1 = i + 1 := tk_iadd_id (by clear r3 r4; omega) (by clear r3 r4; omega)
    have hs := tk_pth_s (S := tk_mv μ) (c := o) hi0
    have hin2 := hin i.toNat
    have hend2 := hend i hi0
    have hstep : ∀ p, tk_pth (tk_mv μ) o i.toNat = p → ((∃ k : Nat, k < (i + 1).toNat ∧ tk_pth (tk_mv μ) o k = c) ↔ (∃ k : Nat, k < i.toNat ∧ tk_pth (tk_mv μ) o k = c) ∨ p = c) := fun p hp => by
      constructor
      · rintro ⟨k, hk, h⟩
        by_cases hk2 : k < i.toNat
        · exact .inl ⟨k, hk2, h⟩
        · have : k = i.toNat := by clear r3 r4 hs hin2 hp h; omega
          rw [this, hp] at h
          exact .inr h
      · rintro (⟨k, hk, h⟩ | h)
        · exact ⟨k, by clear r3 r4 hs hin2 hp h; omega, h⟩
        · exact ⟨i.toNat, by clear r3 r4 hs hin2 hp h; omega, by rw [hp]; exact h⟩
    generalize tk_pth (tk_mv μ) o i.toNat = p at r4 hs hin2 hend2 hstep
    by_cases hp0 : 0 ≤ p
    · have hp : 0 ≤ p ∧ p < μ 96 5 := by clear r3 hs; omega
      have hp8 : p < 8 := by clear r3 hs; omega
      rw [if_pos hp0] at hs
      have hs2 : tk_pth (tk_mv μ) o (i + 1).toNat = μ 105 p := hs
      have hstep := hstep p rfl
      by_cases hx : ∃ k : Nat, k < i.toNat ∧ tk_pth (tk_mv μ) o k = c
      · rw [tk_bc_t hx] at r3
        simp [tk_fn, tk_env, tk_sq, tk_sk, tk_if, tk_re, tk_rez, tk_rev, tk_xp, tk_se, tk_pf, tk_pfz, tk_pfo, tk_as, tk_asz, tk_asb, tk_aso, tk_cpy, tk_sw, tk_swc, tk_lit, tk_loc, tk_u1, tk_bin, tk_dv, tk_gf, tk_gr, tk_gn, tk_ald, tk_aldq, tk_aln, tk_unl, tk_una, tk_ter, tk_args, tk_cs, tk_cv, tk_ceq, tk_cne, tk_clt, tk_cge, tk_cgt, tk_cle, tk_zeq, tk_zne, tk_zlt, tk_zge, tk_zgt, tk_zle, tk_and, tk_or, tk_not, tk_ct2, tk_isC, List.headD_cons, tk_up, tk_sca, tk_scl, r0, r1, r3, r4, r5, hi6, hp0, hp8, i1, tk_set_o, tk_al_2, tk_al_3, tk_al_4, tk_al_5, tk_al_6, tk_al_7, tk_al_8, tk_al_9, tk_al_10, tk_al_11, tk_al_13, tk_al_14, tk_al_16, tk_al_17, tk_al_19, tk_al_20, tk_al_22, tk_al_24, tk_al_25, tk_al_26, tk_al_27, tk_al_28, tk_al_29, tk_al_30, tk_al_32, tk_al_33, tk_al_34, tk_al_35, tk_al_36, tk_al_37, tk_al_38, tk_al_39, tk_al_40, tk_al_41, tk_al_43, tk_al_44, tk_al_46, tk_al_47, tk_al_49, tk_al_50, tk_al_52, tk_al_54, tk_al_55, tk_al_56, tk_al_57, tk_al_58, tk_al_59, tk_al_60, tk_al_62, tk_al_63, tk_al_64, tk_al_65, tk_al_66, tk_al_67, tk_al_68, tk_al_69, tk_al_70, tk_al_71, tk_al_73, tk_al_74, tk_al_76, tk_al_77, tk_al_79, tk_al_80, tk_al_81, tk_al_83, tk_al_85, tk_al_87, tk_al_89, tk_al_91, tk_al_93, tk_al_95, tk_al_97, tk_al_98, tk_al_99, tk_al_100, tk_al_101, tk_al_102, tk_al_103, tk_al_104, tk_al_105, tk_al_106, tk_al_107, tk_al_108, tk_al_109, tk_al_110, tk_al_111, tk_al_112, tk_al_113, tk_al_114, tk_al_115, tk_al_116, tk_al_117, tk_al_118, tk_al_119, tk_al_120, tk_al_121, tk_al_122, tk_al_123, tk_al_124, tk_al_125, tk_al_126, tk_al_127, tk_al_128, tk_al_129]
        exact hK _ _ ⟨rfl, r0, r1, r2, rfl, hs2.symm, (tk_bc_t (hstep.mpr (.inl hx))).symm⟩
      · rw [tk_bc_f hx] at r3
        by_cases hpc : p = c
        · simp [tk_fn, tk_env, tk_sq, tk_sk, tk_if, tk_re, tk_rez, tk_rev, tk_xp, tk_se, tk_pf, tk_pfz, tk_pfo, tk_as, tk_asz, tk_asb, tk_aso, tk_cpy, tk_sw, tk_swc, tk_lit, tk_loc, tk_u1, tk_bin, tk_dv, tk_gf, tk_gr, tk_gn, tk_ald, tk_aldq, tk_aln, tk_unl, tk_una, tk_ter, tk_args, tk_cs, tk_cv, tk_ceq, tk_cne, tk_clt, tk_cge, tk_cgt, tk_cle, tk_zeq, tk_zne, tk_zlt, tk_zge, tk_zgt, tk_zle, tk_and, tk_or, tk_not, tk_ct2, tk_isC, List.headD_cons, tk_up, tk_sca, tk_scl, r0, r1, r3, r4, r5, hi6, hp0, hp8, i1, eq_true hpc, tk_set_o, tk_al_2, tk_al_3, tk_al_4, tk_al_5, tk_al_6, tk_al_7, tk_al_8, tk_al_9, tk_al_10, tk_al_11, tk_al_13, tk_al_14, tk_al_16, tk_al_17, tk_al_19, tk_al_20, tk_al_22, tk_al_24, tk_al_25, tk_al_26, tk_al_27, tk_al_28, tk_al_29, tk_al_30, tk_al_32, tk_al_33, tk_al_34, tk_al_35, tk_al_36, tk_al_37, tk_al_38, tk_al_39, tk_al_40, tk_al_41, tk_al_43, tk_al_44, tk_al_46, tk_al_47, tk_al_49, tk_al_50, tk_al_52, tk_al_54, tk_al_55, tk_al_56, tk_al_57, tk_al_58, tk_al_59, tk_al_60, tk_al_62, tk_al_63, tk_al_64, tk_al_65, tk_al_66, tk_al_67, tk_al_68, tk_al_69, tk_al_70, tk_al_71, tk_al_73, tk_al_74, tk_al_76, tk_al_77, tk_al_79, tk_al_80, tk_al_81, tk_al_83, tk_al_85, tk_al_87, tk_al_89, tk_al_91, tk_al_93, tk_al_95, tk_al_97, tk_al_98, tk_al_99, tk_al_100, tk_al_101, tk_al_102, tk_al_103, tk_al_104, tk_al_105, tk_al_106, tk_al_107, tk_al_108, tk_al_109, tk_al_110, tk_al_111, tk_al_112, tk_al_113, tk_al_114, tk_al_115, tk_al_116, tk_al_117, tk_al_118, tk_al_119, tk_al_120, tk_al_121, tk_al_122, tk_al_123, tk_al_124, tk_al_125, tk_al_126, tk_al_127, tk_al_128, tk_al_129]
          exact hK _ _ ⟨rfl, r0, r1, r2, rfl, hs2.symm, (tk_bc_t (hstep.mpr (.inr hpc))).symm⟩
        · simp [tk_fn, tk_env, tk_sq, tk_sk, tk_if, tk_re, tk_rez, tk_rev, tk_xp, tk_se, tk_pf, tk_pfz, tk_pfo, tk_as, tk_asz, tk_asb, tk_aso, tk_cpy, tk_sw, tk_swc, tk_lit, tk_loc, tk_u1, tk_bin, tk_dv, tk_gf, tk_gr, tk_gn, tk_ald, tk_aldq, tk_aln, tk_unl, tk_una, tk_ter, tk_args, tk_cs, tk_cv, tk_ceq, tk_cne, tk_clt, tk_cge, tk_cgt, tk_cle, tk_zeq, tk_zne, tk_zlt, tk_zge, tk_zgt, tk_zle, tk_and, tk_or, tk_not, tk_ct2, tk_isC, List.headD_cons, tk_up, tk_sca, tk_scl, r0, r1, r3, r4, r5, hi6, hp0, hp8, i1, hpc, tk_set_o, tk_al_2, tk_al_3, tk_al_4, tk_al_5, tk_al_6, tk_al_7, tk_al_8, tk_al_9, tk_al_10, tk_al_11, tk_al_13, tk_al_14, tk_al_16, tk_al_17, tk_al_19, tk_al_20, tk_al_22, tk_al_24, tk_al_25, tk_al_26, tk_al_27, tk_al_28, tk_al_29, tk_al_30, tk_al_32, tk_al_33, tk_al_34, tk_al_35, tk_al_36, tk_al_37, tk_al_38, tk_al_39, tk_al_40, tk_al_41, tk_al_43, tk_al_44, tk_al_46, tk_al_47, tk_al_49, tk_al_50, tk_al_52, tk_al_54, tk_al_55, tk_al_56, tk_al_57, tk_al_58, tk_al_59, tk_al_60, tk_al_62, tk_al_63, tk_al_64, tk_al_65, tk_al_66, tk_al_67, tk_al_68, tk_al_69, tk_al_70, tk_al_71, tk_al_73, tk_al_74, tk_al_76, tk_al_77, tk_al_79, tk_al_80, tk_al_81, tk_al_83, tk_al_85, tk_al_87, tk_al_89, tk_al_91, tk_al_93, tk_al_95, tk_al_97, tk_al_98, tk_al_99, tk_al_100, tk_al_101, tk_al_102, tk_al_103, tk_al_104, tk_al_105, tk_al_106, tk_al_107, tk_al_108, tk_al_109, tk_al_110, tk_al_111, tk_al_112, tk_al_113, tk_al_114, tk_al_115, tk_al_116, tk_al_117, tk_al_118, tk_al_119, tk_al_120, tk_al_121, tk_al_122, tk_al_123, tk_al_124, tk_al_125, tk_al_126, tk_al_127, tk_al_128, tk_al_129]
          exact hK _ _ ⟨rfl, r0, r1, r2, rfl, hs2.symm, (tk_bc_f (fun z => (hstep.mp z).elim hx hpc)).symm⟩
    · simp [tk_fn, tk_env, tk_sq, tk_sk, tk_if, tk_re, tk_rez, tk_rev, tk_xp, tk_se, tk_pf, tk_pfz, tk_pfo, tk_as, tk_asz, tk_asb, tk_aso, tk_cpy, tk_sw, tk_swc, tk_lit, tk_loc, tk_u1, tk_bin, tk_dv, tk_gf, tk_gr, tk_gn, tk_ald, tk_aldq, tk_aln, tk_unl, tk_una, tk_ter, tk_args, tk_cs, tk_cv, tk_ceq, tk_cne, tk_clt, tk_cge, tk_cgt, tk_cle, tk_zeq, tk_zne, tk_zlt, tk_zge, tk_zgt, tk_zle, tk_and, tk_or, tk_not, tk_ct2, tk_isC, List.headD_cons, tk_up, tk_sca, tk_scl, r4, r5, hi6, hp0]
      refine hQ ρ r0 r1 r2 ?_
      rw [r3]
      have hh := hend2 (by clear r3 hs; omega)
      by_cases hx : ∃ k : Nat, k < i.toNat ∧ tk_pth (tk_mv μ) o k = c
      · rw [tk_bc_t hx, tk_bc_t (hh.mp hx)]
      · rw [tk_bc_f hx, tk_bc_f (fun z => hx (hh.mpr z))]
  · rintro ρ μ' ⟨rfl, r0, r1, r2, r5, r4, r3⟩ X
    simp [tk_fn, tk_env, tk_sq, tk_sk, tk_if, tk_re, tk_rez, tk_rev, tk_xp, tk_se, tk_pf, tk_pfz, tk_pfo, tk_as, tk_asz, tk_asb, tk_aso, tk_cpy, tk_sw, tk_swc, tk_lit, tk_loc, tk_u1, tk_bin, tk_dv, tk_gf, tk_gr, tk_gn, tk_ald, tk_aldq, tk_aln, tk_unl, tk_una, tk_ter, tk_args, tk_cs, tk_cv, tk_ceq, tk_cne, tk_clt, tk_cge, tk_cgt, tk_cle, tk_zeq, tk_zne, tk_zlt, tk_zge, tk_zgt, tk_zle, tk_and, tk_or, tk_not, tk_ct2, tk_isC, List.headD_cons, tk_up, tk_sca, tk_scl, r5]
    refine hQ ρ r0 r1 r2 ?_
    rw [r3]
    have hneg : tk_pth (tk_mv μ) o (9 : Int).toNat < 0 := by
      rcases ho with rfl | ho
      · exact tk_pth_end (S := tk_mv μ) (c := -1) (k := 0) (by show (-1 : Int) < 0; omega) 9
      · have h := tk_pth_rk h2 h8 (c := o) ho (k := 9)
        by_cases hz : 0 ≤ tk_pth (tk_mv μ) o 9
        · exact absurd (h hz) (by omega)
        · exact Int.lt_of_not_ge hz
    have hh := hend 9 (by omega) hneg
    by_cases hx : ∃ k : Nat, k < (9 : Int).toNat ∧ tk_pth (tk_mv μ) o k = c
    · rw [tk_bc_t hx, tk_bc_t (hh.mp hx)]
    · rw [tk_bc_f hx, tk_bc_f (fun z => hx (hh.mpr z))]
theorem c_waits_R {c o : Int} {μ : tk_M} (hR : tk_R μ) (hc : 0 ≤ c ∧ c < μ 1 2) (ho : o = -5 ∨ ((0 ≤ o ∧ o < μ 1 2) ∧ ∀ k, ¬ tk_pth (tk_hw 1 μ) o k = c)) : tk_R (tk_set (tk_set (tk_set μ 10 c o) 96 24 0) 105 c o) := by
  have hI := tk_II_hw.mp hR.2.1
  refine tk_R_live hR ?_ ?_ ?_
  · obtain ⟨⟨a1, a2, a3, a4, a5, a6, a7⟩, -⟩ := hR
    unfold tk_EE tk_E0 tk_E1 tk_E2 tk_E3 tk_E4 tk_E5 tk_E6 at *
    simp [tk_hv, tk_mv, tk_set] at *
    refine ⟨a1, a2, fun k h3 h4 => ?_, a4, a5, a6, a7⟩
    by_cases hi : k = c
    · have := a3 k h3 h4
      simp [hi] at this ⊢
      exact ⟨this.1, this.2.1, this.2.2.1, this.2.2.2.1, this.2.2.2.2.1⟩
    · have := a3 k h3 h4
      simpa [hi] using this
  · have h8 : tk_I8 (tk_hv 1 (tk_set (tk_set (tk_set μ 10 c o) 96 24 0) 105 c o)) := by
      rcases ho with rfl | ⟨ho, hno⟩
      · obtain ⟨rk, h1, h2⟩ := hR.2.1.2.2.2.2.2.2.2.2
        refine ⟨rk, h1, fun x h3 h4 h5 => ?_⟩
        simp [tk_hv, tk_set] at h2 h4 h5 ⊢
        by_cases hx : x = c
        · rw [if_pos hx] at h5; omega
        · rw [if_neg hx] at h5 ⊢
          exact h2 x h3 h4 h5
      · refine tk_I8_w (S := tk_hw 1 μ) (c := c) (o := o) hI.1.2.2.1 hI.2.2.1 hI.2.2.2.2.2.2.2.2 ho hno ?_ (fun x => ?_)
        · simp [tk_hv, tk_hw, tk_set]
        · simp [tk_hv, tk_hw, tk_set]
    obtain ⟨-, ⟨b0, b1, b2, b3, b4, b5, b6, b7, -⟩, -⟩ := hR
    refine ⟨?_, ?_, ?_, ?_, ?_, ?_, ?_, ?_, h8⟩
    · unfold tk_I0 at *; simp [tk_hv, tk_set] at *; exact b0
    · unfold tk_I1 at *; simp [tk_hv, tk_set] at *; exact b1
    · unfold tk_I2 at *
      simp [tk_hv, tk_set] at *
      intro k h3 h4
      have := b2 k h3 h4
      by_cases hi : k = c
      · simp [hi] at this ⊢
        exact ⟨this.1, this.2.1, this.2.2.1, this.2.2.2.1, this.2.2.2.2.1, by omega⟩
      · simpa [hi] using this
    · unfold tk_I3 at *; simp [tk_hv, tk_set] at *; exact b3
    · unfold tk_I4 at *; simp [tk_hv, tk_set] at *; exact b4
    · unfold tk_I5 at *; simp [tk_hv, tk_set] at *; exact b5
    · unfold tk_I6 at *; simp [tk_hv, tk_set] at *; exact b6
    · unfold tk_I7 at *; simp [tk_hv, tk_set] at *; exact b7
  · intro o' i hk
    unfold tk_kq at hk
    simp only [tk_set_if]
    repeat rw [if_neg (by omega)]
theorem m_waits_ok {μ : tk_M} {Q : Int → tk_M → Prop} {c o : Int} (h0 : tk_I0 (tk_mv μ)) (h2 : tk_I2 (tk_mv μ)) (h8 : tk_I8 (tk_mv μ)) (hc : 0 ≤ c ∧ c < μ 96 5) (ho : o = -1 ∨ (0 ≤ o ∧ o < μ 96 5)) (hy : (∃ k, tk_pth (tk_mv μ) o k = c) → Q (-3) (tk_set μ 96 24 0)) (hn : (∀ k, ¬ tk_pth (tk_mv μ) o k = c) → Q (μ 105 c) (tk_set (tk_set μ 96 24 0) 105 c (if o = -1 then -5 else o))) : tkF_X7_waits [96, c, o] Q μ := by
  have hz : 0 ≤ μ 96 5 ∧ μ 96 5 ≤ 8 := h0.2.2.1
  have hc8 : c < 8 := by omega
  have hc5 : ¬ μ 96 5 ≤ c := by omega
  have fin : ∀ ρ' : tk_L, ρ' 0 = 96 → ρ' 1 = c → ρ' 2 = o → ρ' 3 = tk_bc (∃ k, tk_pth (tk_mv μ) o k = c) → (tk_sq (tk_if (tk_zne (tk_loc 3)) (tk_re (tk_lit (-3))) tk_sk) (tk_sq (tk_se 5 (tk_ald 0 (tk_gr 7 (9) (tk_loc 0)) (tk_loc 1))) (tk_sq (tk_as 0 (tk_gr 7 (9) (tk_loc 0)) (tk_loc 1) (tk_ter (tk_ceq (tk_loc 2) (tk_lit (-1))) (tk_lit (-5)) (tk_loc 2))) (tk_re (tk_loc 5))))) (fun _ _ => False) Q ρ' (tk_set μ 96 24 0) := by
    intro ρ' r0 r1 r2 r3
    by_cases hx : ∃ k, tk_pth (tk_mv μ) o k = c
    · rw [tk_bc_t hx] at r3
      simp [tk_fn, tk_env, tk_sq, tk_sk, tk_if, tk_re, tk_rez, tk_rev, tk_xp, tk_se, tk_pf, tk_pfz, tk_pfo, tk_as, tk_asz, tk_asb, tk_aso, tk_cpy, tk_sw, tk_swc, tk_lit, tk_loc, tk_u1, tk_bin, tk_dv, tk_gf, tk_gr, tk_gn, tk_ald, tk_aldq, tk_aln, tk_unl, tk_una, tk_ter, tk_args, tk_cs, tk_cv, tk_ceq, tk_cne, tk_clt, tk_cge, tk_cgt, tk_cle, tk_zeq, tk_zne, tk_zlt, tk_zge, tk_zgt, tk_zle, tk_and, tk_or, tk_not, tk_ct2, tk_isC, List.headD_cons, tk_up, tk_sca, tk_scl, r3]
      exact hy hx
    · rw [tk_bc_f hx] at r3
      have hn := hn (fun k z => hx ⟨k, z⟩)
      by_cases h1 : o = -1
      · rw [if_pos h1] at hn
        simp [tk_fn, tk_env, tk_sq, tk_sk, tk_if, tk_re, tk_rez, tk_rev, tk_xp, tk_se, tk_pf, tk_pfz, tk_pfo, tk_as, tk_asz, tk_asb, tk_aso, tk_cpy, tk_sw, tk_swc, tk_lit, tk_loc, tk_u1, tk_bin, tk_dv, tk_gf, tk_gr, tk_gn, tk_ald, tk_aldq, tk_aln, tk_unl, tk_una, tk_ter, tk_args, tk_cs, tk_cv, tk_ceq, tk_cne, tk_clt, tk_cge, tk_cgt, tk_cle, tk_zeq, tk_zne, tk_zlt, tk_zge, tk_zgt, tk_zle, tk_and, tk_or, tk_not, tk_ct2, tk_isC, List.headD_cons, tk_up, tk_sca, tk_scl, r0, r1, r2, r3, hc.1, hc8, tk_set_o, tk_al_2, tk_al_3, tk_al_4, tk_al_5, tk_al_6, tk_al_7, tk_al_8, tk_al_9, tk_al_10, tk_al_11, tk_al_13, tk_al_14, tk_al_16, tk_al_17, tk_al_19, tk_al_20, tk_al_22, tk_al_24, tk_al_25, tk_al_26, tk_al_27, tk_al_28, tk_al_29, tk_al_30, tk_al_32, tk_al_33, tk_al_34, tk_al_35, tk_al_36, tk_al_37, tk_al_38, tk_al_39, tk_al_40, tk_al_41, tk_al_43, tk_al_44, tk_al_46, tk_al_47, tk_al_49, tk_al_50, tk_al_52, tk_al_54, tk_al_55, tk_al_56, tk_al_57, tk_al_58, tk_al_59, tk_al_60, tk_al_62, tk_al_63, tk_al_64, tk_al_65, tk_al_66, tk_al_67, tk_al_68, tk_al_69, tk_al_70, tk_al_71, tk_al_73, tk_al_74, tk_al_76, tk_al_77, tk_al_79, tk_al_80, tk_al_81, tk_al_83, tk_al_85, tk_al_87, tk_al_89, tk_al_91, tk_al_93, tk_al_95, tk_al_97, tk_al_98, tk_al_99, tk_al_100, tk_al_101, tk_al_102, tk_al_103, tk_al_104, tk_al_105, tk_al_106, tk_al_107, tk_al_108, tk_al_109, tk_al_110, tk_al_111, tk_al_112, tk_al_113, tk_al_114, tk_al_115, tk_al_116, tk_al_117, tk_al_118, tk_al_119, tk_al_120, tk_al_121, tk_al_122, tk_al_123, tk_al_124, tk_al_125, tk_al_126, tk_al_127, tk_al_128, tk_al_129, eq_true h1]
        exact hn
      · rw [if_neg h1] at hn
        simp [tk_fn, tk_env, tk_sq, tk_sk, tk_if, tk_re, tk_rez, tk_rev, tk_xp, tk_se, tk_pf, tk_pfz, tk_pfo, tk_as, tk_asz, tk_asb, tk_aso, tk_cpy, tk_sw, tk_swc, tk_lit, tk_loc, tk_u1, tk_bin, tk_dv, tk_gf, tk_gr, tk_gn, tk_ald, tk_aldq, tk_aln, tk_unl, tk_una, tk_ter, tk_args, tk_cs, tk_cv, tk_ceq, tk_cne, tk_clt, tk_cge, tk_cgt, tk_cle, tk_zeq, tk_zne, tk_zlt, tk_zge, tk_zgt, tk_zle, tk_and, tk_or, tk_not, tk_ct2, tk_isC, List.headD_cons, tk_up, tk_sca, tk_scl, r0, r1, r2, r3, hc.1, hc8, tk_set_o, tk_al_2, tk_al_3, tk_al_4, tk_al_5, tk_al_6, tk_al_7, tk_al_8, tk_al_9, tk_al_10, tk_al_11, tk_al_13, tk_al_14, tk_al_16, tk_al_17, tk_al_19, tk_al_20, tk_al_22, tk_al_24, tk_al_25, tk_al_26, tk_al_27, tk_al_28, tk_al_29, tk_al_30, tk_al_32, tk_al_33, tk_al_34, tk_al_35, tk_al_36, tk_al_37, tk_al_38, tk_al_39, tk_al_40, tk_al_41, tk_al_43, tk_al_44, tk_al_46, tk_al_47, tk_al_49, tk_al_50, tk_al_52, tk_al_54, tk_al_55, tk_al_56, tk_al_57, tk_al_58, tk_al_59, tk_al_60, tk_al_62, tk_al_63, tk_al_64, tk_al_65, tk_al_66, tk_al_67, tk_al_68, tk_al_69, tk_al_70, tk_al_71, tk_al_73, tk_al_74, tk_al_76, tk_al_77, tk_al_79, tk_al_80, tk_al_81, tk_al_83, tk_al_85, tk_al_87, tk_al_89, tk_al_91, tk_al_93, tk_al_95, tk_al_97, tk_al_98, tk_al_99, tk_al_100, tk_al_101, tk_al_102, tk_al_103, tk_al_104, tk_al_105, tk_al_106, tk_al_107, tk_al_108, tk_al_109, tk_al_110, tk_al_111, tk_al_112, tk_al_113, tk_al_114, tk_al_115, tk_al_116, tk_al_117, tk_al_118, tk_al_119, tk_al_120, tk_al_121, tk_al_122, tk_al_123, tk_al_124, tk_al_125, tk_al_126, tk_al_127, tk_al_128, tk_al_129, h1]
        exact hn
  by_cases h1 : o = -1
  · simp [tk_fn, tk_env, tk_sq, tk_sk, tk_if, tk_re, tk_rez, tk_rev, tk_xp, tk_se, tk_pf, tk_pfz, tk_pfo, tk_as, tk_asz, tk_asb, tk_aso, tk_cpy, tk_sw, tk_swc, tk_lit, tk_loc, tk_u1, tk_bin, tk_dv, tk_gf, tk_gr, tk_gn, tk_ald, tk_aldq, tk_aln, tk_unl, tk_una, tk_ter, tk_args, tk_cs, tk_cv, tk_ceq, tk_cne, tk_clt, tk_cge, tk_cgt, tk_cle, tk_zeq, tk_zne, tk_zlt, tk_zge, tk_zgt, tk_zle, tk_and, tk_or, tk_not, tk_ct2, tk_isC, List.headD_cons, tk_up, tk_sca, tk_scl, tkF_X7_waits, tkS_X7_waits, m_isClient, tk_set_j, hz.1, hz.2, tk_bo_0, hc.1, hc.2, hc5, eq_true h1]
    refine m_waitsLoop h0 h2 h8 hc.1 ho rfl rfl rfl rfl rfl rfl (fun ρ' r0 r1 r2 r3 => ?_)
    have := fin ρ' r0 r1 r2 r3
    simp [tk_fn, tk_env, tk_sq, tk_sk, tk_if, tk_re, tk_rez, tk_rev, tk_xp, tk_se, tk_pf, tk_pfz, tk_pfo, tk_as, tk_asz, tk_asb, tk_aso, tk_cpy, tk_sw, tk_swc, tk_lit, tk_loc, tk_u1, tk_bin, tk_dv, tk_gf, tk_gr, tk_gn, tk_ald, tk_aldq, tk_aln, tk_unl, tk_una, tk_ter, tk_args, tk_cs, tk_cv, tk_ceq, tk_cne, tk_clt, tk_cge, tk_cgt, tk_cle, tk_zeq, tk_zne, tk_zlt, tk_zge, tk_zgt, tk_zle, tk_and, tk_or, tk_not, tk_ct2, tk_isC, List.headD_cons, tk_up, tk_sca, tk_scl] at this
    exact this
  · have ho' : 0 ≤ o ∧ o < μ 96 5 := by omega
    simp [tk_fn, tk_env, tk_sq, tk_sk, tk_if, tk_re, tk_rez, tk_rev, tk_xp, tk_se, tk_pf, tk_pfz, tk_pfo, tk_as, tk_asz, tk_asb, tk_aso, tk_cpy, tk_sw, tk_swc, tk_lit, tk_loc, tk_u1, tk_bin, tk_dv, tk_gf, tk_gr, tk_gn, tk_ald, tk_aldq, tk_aln, tk_unl, tk_una, tk_ter, tk_args, tk_cs, tk_cv, tk_ceq, tk_cne, tk_clt, tk_cge, tk_cgt, tk_cle, tk_zeq, tk_zne, tk_zlt, tk_zge, tk_zgt, tk_zle, tk_and, tk_or, tk_not, tk_ct2, tk_isC, List.headD_cons, tk_up, tk_sca, tk_scl, tkF_X7_waits, tkS_X7_waits, m_isClient, tk_set_j, hz.1, hz.2, tk_bo_0, hc.1, hc.2, hc5, h1, ho'.1, ho'.2, show ¬ μ 96 5 ≤ o from by omega]
    refine m_waitsLoop h0 h2 h8 hc.1 ho rfl rfl rfl rfl rfl rfl (fun ρ' r0 r1 r2 r3 => ?_)
    have := fin ρ' r0 r1 r2 r3
    simp [tk_fn, tk_env, tk_sq, tk_sk, tk_if, tk_re, tk_rez, tk_rev, tk_xp, tk_se, tk_pf, tk_pfz, tk_pfo, tk_as, tk_asz, tk_asb, tk_aso, tk_cpy, tk_sw, tk_swc, tk_lit, tk_loc, tk_u1, tk_bin, tk_dv, tk_gf, tk_gr, tk_gn, tk_ald, tk_aldq, tk_aln, tk_unl, tk_una, tk_ter, tk_args, tk_cs, tk_cv, tk_ceq, tk_cne, tk_clt, tk_cge, tk_cgt, tk_cle, tk_zeq, tk_zne, tk_zlt, tk_zge, tk_zgt, tk_zle, tk_and, tk_or, tk_not, tk_ct2, tk_isC, List.headD_cons, tk_up, tk_sca, tk_scl] at this
    exact this
theorem c_waits (c o : Int) : tk_cp tkF_X6_waits tkF_X7_waits [c, o] := by
  intro μ hR K hK
  have hT := tk_R_thr (v := 0) hR
  obtain ⟨hE, hI, hIm⟩ := tk_R_S hR
  obtain ⟨e1, e2, e3, e4, e5, e6, e7, e8, e9, hcu, hn, hm, hck⟩ := tk_R_n hR
  by_cases hc : 0 ≤ c ∧ c < μ 1 2
  · have hc8 : c < 8 := by omega
    have hcn : ¬ μ 1 2 ≤ c := by omega
    have e9 : μ 105 c = μ 10 c := (hR.1.2.2.1 c hc.1 hc.2).2.2.2.2.2
    have hMo : ∀ v, tk_mv (tk_set μ 10 c v) = tk_mv μ := fun v => tk_mv_ob (by omega)
    have hMc : ∀ v, tk_set μ 10 c v 96 5 = μ 1 2 := fun v => by rw [tk_set_o (by omega), e3]
    by_cases h1 : o = -1
    · subst h1
      simp [tk_fn, tk_env, tk_sq, tk_sk, tk_if, tk_re, tk_rez, tk_rev, tk_xp, tk_se, tk_pf, tk_pfz, tk_pfo, tk_as, tk_asz, tk_asb, tk_aso, tk_cpy, tk_sw, tk_swc, tk_lit, tk_loc, tk_u1, tk_bin, tk_dv, tk_gf, tk_gr, tk_gn, tk_ald, tk_aldq, tk_aln, tk_unl, tk_una, tk_ter, tk_args, tk_cs, tk_cv, tk_ceq, tk_cne, tk_clt, tk_cge, tk_cgt, tk_cle, tk_zeq, tk_zne, tk_zlt, tk_zge, tk_zgt, tk_zle, tk_and, tk_or, tk_not, tk_ct2, tk_isC, List.headD_cons, tk_up, tk_sca, tk_scl, tkF_X6_waits, tkS_X6_waits, x_hasClient, tk_bo_0, hc.1, hc.2, hc8, hcn, tk_al_2, tk_al_3, tk_al_4, tk_al_5, tk_al_6, tk_al_7, tk_al_8, tk_al_9, tk_al_10, tk_al_11, tk_al_13, tk_al_14, tk_al_16, tk_al_17, tk_al_19, tk_al_20, tk_al_22, tk_al_24, tk_al_25, tk_al_26, tk_al_27, tk_al_28, tk_al_29, tk_al_30, tk_al_32, tk_al_33, tk_al_34, tk_al_35, tk_al_36, tk_al_37, tk_al_38, tk_al_39, tk_al_40, tk_al_41, tk_al_43, tk_al_44, tk_al_46, tk_al_47, tk_al_49, tk_al_50, tk_al_52, tk_al_54, tk_al_55, tk_al_56, tk_al_57, tk_al_58, tk_al_59, tk_al_60, tk_al_62, tk_al_63, tk_al_64, tk_al_65, tk_al_66, tk_al_67, tk_al_68, tk_al_69, tk_al_70, tk_al_71, tk_al_73, tk_al_74, tk_al_76, tk_al_77, tk_al_79, tk_al_80, tk_al_81, tk_al_83, tk_al_85, tk_al_87, tk_al_89, tk_al_91, tk_al_93, tk_al_95, tk_al_97, tk_al_98, tk_al_99, tk_al_100, tk_al_101, tk_al_102, tk_al_103, tk_al_104, tk_al_105, tk_al_106, tk_al_107, tk_al_108, tk_al_109, tk_al_110, tk_al_111, tk_al_112, tk_al_113, tk_al_114, tk_al_115, tk_al_116, tk_al_117, tk_al_118, tk_al_119, tk_al_120, tk_al_121, tk_al_122, tk_al_123, tk_al_124, tk_al_125, tk_al_126, tk_al_127, tk_al_128, tk_al_129]
      refine m_waits_ok (by rw [hMo]; exact hIm.1) (by rw [hMo]; exact hIm.2.2.1) (by rw [hMo]; exact hIm.2.2.2.2.2.2.2.2) (by rw [hMc]; exact hc) (.inl rfl) (fun ⟨k, hk⟩ => ?_) (fun _ => ?_)
      · have h := tk_pth_end (S := tk_mv (tk_set μ 10 c (-5))) (c := -1) (k := 0) (by show (-1 : Int) < 0; omega) k
        rw [Nat.zero_add] at h
        omega
      · rw [tk_set_o (by omega), e9, if_pos rfl]
        exact hK _ _ (c_waits_R hR hc (.inl rfl))
    by_cases ho : 0 ≤ o ∧ o < μ 1 2
    · have hon : ¬ μ 1 2 ≤ o := by omega
      have hpe := fun k => tk_pth_eq hI.2.2.1 hE.2.2.1 (c := o) (.inr ho) k
      simp [tk_fn, tk_env, tk_sq, tk_sk, tk_if, tk_re, tk_rez, tk_rev, tk_xp, tk_se, tk_pf, tk_pfz, tk_pfo, tk_as, tk_asz, tk_asb, tk_aso, tk_cpy, tk_sw, tk_swc, tk_lit, tk_loc, tk_u1, tk_bin, tk_dv, tk_gf, tk_gr, tk_gn, tk_ald, tk_aldq, tk_aln, tk_unl, tk_una, tk_ter, tk_args, tk_cs, tk_cv, tk_ceq, tk_cne, tk_clt, tk_cge, tk_cgt, tk_cle, tk_zeq, tk_zne, tk_zlt, tk_zge, tk_zgt, tk_zle, tk_and, tk_or, tk_not, tk_ct2, tk_isC, List.headD_cons, tk_up, tk_sca, tk_scl, tkF_X6_waits, tkS_X6_waits, x_hasClient, tk_bo_0, hc.1, hc.2, hcn, h1, ho.1, ho.2, hon]
      refine x_waitsLeadTo hI.1 hI.2.2.1 hI.2.2.2.2.2.2.2.2 ho hc.1 (fun hy => ?_) (fun hno => ?_)
      · simp
        refine m_waits_ok hIm.1 hIm.2.2.1 hIm.2.2.2.2.2.2.2.2 (by rw [e3]; exact hc) (.inr (by rw [e3]; exact ho)) (fun _ => hK _ _ hT) (fun z => ?_)
        obtain ⟨k, hk⟩ := hy
        exact absurd (by rw [hpe]; exact hk) (z k)
      · simp [hc.1, hc8, tk_al_2, tk_al_3, tk_al_4, tk_al_5, tk_al_6, tk_al_7, tk_al_8, tk_al_9, tk_al_10, tk_al_11, tk_al_13, tk_al_14, tk_al_16, tk_al_17, tk_al_19, tk_al_20, tk_al_22, tk_al_24, tk_al_25, tk_al_26, tk_al_27, tk_al_28, tk_al_29, tk_al_30, tk_al_32, tk_al_33, tk_al_34, tk_al_35, tk_al_36, tk_al_37, tk_al_38, tk_al_39, tk_al_40, tk_al_41, tk_al_43, tk_al_44, tk_al_46, tk_al_47, tk_al_49, tk_al_50, tk_al_52, tk_al_54, tk_al_55, tk_al_56, tk_al_57, tk_al_58, tk_al_59, tk_al_60, tk_al_62, tk_al_63, tk_al_64, tk_al_65, tk_al_66, tk_al_67, tk_al_68, tk_al_69, tk_al_70, tk_al_71, tk_al_73, tk_al_74, tk_al_76, tk_al_77, tk_al_79, tk_al_80, tk_al_81, tk_al_83, tk_al_85, tk_al_87, tk_al_89, tk_al_91, tk_al_93, tk_al_95, tk_al_97, tk_al_98, tk_al_99, tk_al_100, tk_al_101, tk_al_102, tk_al_103, tk_al_104, tk_al_105, tk_al_106, tk_al_107, tk_al_108, tk_al_109, tk_al_110, tk_al_111, tk_al_112, tk_al_113, tk_al_114, tk_al_115, tk_al_116, tk_al_117, tk_al_118, tk_al_119, tk_al_120, tk_al_121, tk_al_122, tk_al_123, tk_al_124, tk_al_125, tk_al_126, tk_al_127, tk_al_128, tk_al_129, h1]
        refine m_waits_ok (by rw [hMo]; exact hIm.1) (by rw [hMo]; exact hIm.2.2.1) (by rw [hMo]; exact hIm.2.2.2.2.2.2.2.2) (by rw [hMc]; exact hc) (.inr (by rw [hMc]; exact ho)) (fun ⟨k, hk⟩ => ?_) (fun _ => ?_)
        · rw [hMo, hpe] at hk
          exact absurd hk (hno k)
        · rw [tk_set_o (by omega), e9, if_neg h1]
          exact hK _ _ (c_waits_R hR hc (.inr ⟨ho, hno⟩))
    · simp [tk_fn, tk_env, tk_sq, tk_sk, tk_if, tk_re, tk_rez, tk_rev, tk_xp, tk_se, tk_pf, tk_pfz, tk_pfo, tk_as, tk_asz, tk_asb, tk_aso, tk_cpy, tk_sw, tk_swc, tk_lit, tk_loc, tk_u1, tk_bin, tk_dv, tk_gf, tk_gr, tk_gn, tk_ald, tk_aldq, tk_aln, tk_unl, tk_una, tk_ter, tk_args, tk_cs, tk_cv, tk_ceq, tk_cne, tk_clt, tk_cge, tk_cgt, tk_cle, tk_zeq, tk_zne, tk_zlt, tk_zge, tk_zgt, tk_zle, tk_and, tk_or, tk_not, tk_ct2, tk_isC, List.headD_cons, tk_up, tk_sca, tk_scl, tkF_X6_waits, tkS_X6_waits, tkF_X7_waits, tkS_X7_waits, x_hasClient, m_isClient, tk_set_j, e3, hm.1, hm.2, tk_bo_0, hc.1, hc.2, hcn, h1, ho, -not_and]
      exact hK _ _ hT
  · simp [tk_fn, tk_env, tk_sq, tk_sk, tk_if, tk_re, tk_rez, tk_rev, tk_xp, tk_se, tk_pf, tk_pfz, tk_pfo, tk_as, tk_asz, tk_asb, tk_aso, tk_cpy, tk_sw, tk_swc, tk_lit, tk_loc, tk_u1, tk_bin, tk_dv, tk_gf, tk_gr, tk_gn, tk_ald, tk_aldq, tk_aln, tk_unl, tk_una, tk_ter, tk_args, tk_cs, tk_cv, tk_ceq, tk_cne, tk_clt, tk_cge, tk_cgt, tk_cle, tk_zeq, tk_zne, tk_zlt, tk_zge, tk_zgt, tk_zle, tk_and, tk_or, tk_not, tk_ct2, tk_isC, List.headD_cons, tk_up, tk_sca, tk_scl, tkF_X6_waits, tkS_X6_waits, tkF_X7_waits, tkS_X7_waits, x_hasClient, m_isClient, tk_set_j, e3, hm.1, hm.2, tk_bo_0, hc, -not_and]
    exact hK _ _ hT
