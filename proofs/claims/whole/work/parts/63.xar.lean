/-! ===== Layer 2: ORDER; the TICKETS along it ===== -/
noncomputable def tk_bc (p : Prop) : Int := @ite Int p (Classical.propDecidable p) 1 0
theorem tk_bc_t {p : Prop} (h : p) : tk_bc p = 1 := @if_pos p (Classical.propDecidable p) h Int 1 0
theorem tk_bc_f {p : Prop} (h : ¬ p) : tk_bc p = 0 := @if_neg p (Classical.propDecidable p) h Int 1 0
theorem tk_bc_01 (p : Prop) : 0 ≤ tk_bc p ∧ tk_bc p ≤ 1 := by
  by_cases h : p
  · rw [tk_bc_t h]; omega
  · rw [tk_bc_f h]; omega
theorem tk_cnt_le {n : Int} (hn : 0 ≤ n) (P : Int → Prop) : 0 ≤ tk_sm n (fun t => tk_bc (P t)) ∧ tk_sm n (fun t => tk_bc (P t)) ≤ n := by
  have h := tk_sm_bd (n := n) (B := 1) (f := fun t => tk_bc (P t)) hn (fun t _ _ => tk_bc_01 (P t))
  omega
theorem tk_cnt_add {n j : Int} (hn : 0 ≤ n) {P P' : Int → Prop} (hj : 0 ≤ j ∧ j < n) (h0 : ¬ P j) (h1 : P' j) (h : ∀ i : Int, 0 ≤ i → i < n → ¬ i = j → (P' i ↔ P i)) : tk_sm n (fun t => tk_bc (P' t)) = tk_sm n (fun t => tk_bc (P t)) + 1 := by
  have e := tk_sm_pt (n := n) (j := j) (f := fun t => tk_bc (P t)) (g := fun t => tk_bc (P' t)) hn hj (fun i h2 h3 h4 => by
    have := propext (h i h2 h3 h4)
    show tk_bc (P' i) = tk_bc (P i)
    rw [this])
  rw [e, tk_bc_t h1, tk_bc_f h0]
  omega
theorem tk_cnt_all {n : Int} (hn : 0 ≤ n) {P : Int → Prop} (h : ∀ i : Int, 0 ≤ i → i < n → P i) : tk_sm n (fun t => tk_bc (P t)) = n := by
  have h2 : tk_sm n (fun t => tk_bc (P t)) = tk_sm n (fun _ => 1) := tk_sm_congr (fun i h1 h2 => tk_bc_t (h i h1 h2))
  rw [h2]
  exact tk_ind (P := fun m => tk_sm m (fun _ => 1) = m) rfl (fun m hm ih => by rw [tk_sm_s hm, ih]) n hn
theorem tk_cnt_lt {n j : Int} (hn : 0 ≤ n) {P : Int → Prop} (hj : 0 ≤ j ∧ j < n) (h0 : ¬ P j) : tk_sm n (fun t => tk_bc (P t)) + 1 ≤ n := by
  have e := tk_cnt_add (n := n) (j := j) (P := P) (P' := fun t => P t ∨ t = j) hn hj h0 (.inr rfl) (fun i _ _ h => ⟨fun z => by rcases z with z | z; exact z; exact absurd z h, .inl⟩)
  have := (tk_cnt_le hn (fun t => P t ∨ t = j)).2
  omega
/-- may come next, if P are there -/
def tk_fre (S : tk_M) (P : Int → Prop) (c : Int) : Prop := ¬ P c ∧ ∀ t, tk_bk S (-5) t c → P (S 1 t)
theorem tk_fre_ex {S : tk_M} (h1 : tk_I1 S) (h7 : tk_I7 S) {P : Int → Prop} {c : Int} (hc : 0 ≤ c ∧ c < S 0 0) (hP : ¬ P c) : ∃ c, (0 ≤ c ∧ c < S 0 0) ∧ tk_fre S P c := by
  obtain ⟨rk, hr5, hrk⟩ := tk_I7_bk h7 (-5)
  have key : ∀ (n : Nat) (c : Int), (0 ≤ c ∧ c < S 0 0) → ¬ P c → rk c ≤ n → ∃ c, (0 ≤ c ∧ c < S 0 0) ∧ tk_fre S P c := by
    intro n
    induction n with
    | zero =>
      intro c hc hP hr
      refine ⟨c, hc, hP, fun t ht => ?_⟩
      have := hrk t c ht
      have := (hr5 (S 1 t)).1
      omega
    | succ n ih =>
      intro c hc hP hr
      by_cases h : ∀ t, tk_bk S (-5) t c → P (S 1 t)
      · exact ⟨c, hc, hP, h⟩
      · obtain ⟨t, ht⟩ := Classical.not_forall.mp h
        have ht1 : tk_bk S (-5) t c := Classical.byContradiction (fun z => ht (fun y => absurd y z))
        have ht2 : ¬ P (S 1 t) := fun z => ht (fun _ => z)
        have := hrk t c ht1
        exact ih (S 1 t) (h1 t ht1.1.1 ht1.1.2).1 ht2 (by omega)
  exact key 5 c hc hP (hr5 c).2
/-- the ones that stand ahead of place k -/
def tk_PL (l : Int → Int) (k : Int) (c : Int) : Prop := ∃ j, (0 ≤ j ∧ j < k) ∧ l j = c
/-- l is ORDER, up to place n -/
def tk_ol (S : tk_M) (l : Int → Int) (n : Int) : Prop := ∀ k : Int, 0 ≤ k → k < n → tk_ff (S 0 0) (tk_fre S (tk_PL l k)) (l k)
theorem tk_ff_c {n : Int} {B B' : Int → Prop} {r : Int} (h : tk_ff n B r) (hB : ∀ k : Int, 0 ≤ k → k < n → (B k ↔ B' k)) : tk_ff n B' r := by
  rcases h with ⟨h1, h2⟩ | ⟨h1, h2, h3, h4⟩
  · exact .inl ⟨h1, fun k h5 h6 z => h2 k h5 h6 ((hB k h5 h6).mpr z)⟩
  · exact .inr ⟨h1, h2, (hB r h1 h2).mp h3, fun k h5 h6 z => h4 k h5 h6 ((hB k h5 (by omega)).mpr z)⟩
theorem tk_ol_u {S : tk_M} {l l' : Int → Int} {n : Int} (hn : 0 ≤ n) (h : tk_ol S l n) (h' : tk_ol S l' n) : ∀ j : Int, 0 ≤ j → j < n → l j = l' j := by
  refine tk_ind (P := fun m => m ≤ n → ∀ j : Int, 0 ≤ j → j < m → l j = l' j) (fun _ j h1 h2 => by omega) (fun m hm ih hmn j h1 h2 => ?_) n hn (Int.le_refl n)
  have ih := ih (by omega)
  by_cases hj : j = m
  · subst hj
    have e : tk_PL l j = tk_PL l' j := by
      funext c
      apply propext
      constructor
      · rintro ⟨i, h3, h4⟩; exact ⟨i, h3, by rw [← ih i h3.1 h3.2]; exact h4⟩
      · rintro ⟨i, h3, h4⟩; exact ⟨i, h3, by rw [ih i h3.1 h3.2]; exact h4⟩
    have h3 := h j hm (by omega)
    have h4 := h' j hm (by omega)
    rw [e] at h3
    exact tk_ff_u h3 h4
  · exact ih j h1 (by omega)
/-- the TICKETS stand so that what backs a CURRENCY stands ahead of what is in it -/
def tk_aw (S : tk_M) (al : Int → Int) : Prop := (∀ j : Int, 0 ≤ j → j < S 0 1 → 0 ≤ al j ∧ al j < S 0 1) ∧ (∀ i j : Int, 0 ≤ i → i < j → j < S 0 1 → ¬ al i = al j) ∧ (∀ t : Int, 0 ≤ t → t < S 0 1 → ∃ j, (0 ≤ j ∧ j < S 0 1) ∧ al j = t) ∧ (∀ j : Int, 0 ≤ j → j < S 0 1 → ∀ t, tk_bk S (-5) t (S 1 (al j)) → ∃ i, (0 ≤ i ∧ i < j) ∧ al i = t)
/-- the same for the first n of them, which are D -/
def tk_an (S : tk_M) (al : Int → Int) (n : Int) (D : Int → Prop) : Prop := (∀ j : Int, 0 ≤ j → j < n → (0 ≤ al j ∧ al j < S 0 1) ∧ D (al j)) ∧ (∀ i j : Int, 0 ≤ i → i < j → j < n → ¬ al i = al j) ∧ (∀ t : Int, 0 ≤ t → t < S 0 1 → D t → ∃ j, (0 ≤ j ∧ j < n) ∧ al j = t) ∧ (∀ j : Int, 0 ≤ j → j < n → ∀ t, tk_bk S (-5) t (S 1 (al j)) → ∃ i, (0 ≤ i ∧ i < j) ∧ al i = t) ∧ n = tk_sm (S 0 1) (fun t => tk_bc (D t))
theorem tk_an_c {S : tk_M} {al : Int → Int} {n : Int} {D D' : Int → Prop} (h : tk_an S al n D) (hD : ∀ t : Int, 0 ≤ t → t < S 0 1 → (D t ↔ D' t)) : tk_an S al n D' := by
  obtain ⟨h1, h2, h3, h4, h5⟩ := h
  refine ⟨fun j a b => ⟨(h1 j a b).1, (hD _ (h1 j a b).1.1 (h1 j a b).1.2).mp (h1 j a b).2⟩, h2, fun t a b c => h3 t a b ((hD t a b).mpr c), h4, ?_⟩
  rw [h5]
  exact tk_sm_congr (fun t a b => by rw [propext (hD t a b)])
theorem tk_an_s {S : tk_M} {al al' : Int → Int} {n i : Int} {D D' : Int → Prop} (h0 : 0 ≤ S 0 1) (h : tk_an S al n D) (hi : 0 ≤ i ∧ i < S 0 1) (hn : ¬ D i) (hb : ∀ t, tk_bk S (-5) t (S 1 i) → D t) (ha : ∀ j, al' j = if j = n then i else al j) (hD : ∀ t, D' t ↔ D t ∨ t = i) : tk_an S al' (n + 1) D' := by
  obtain ⟨h1, h2, h3, h4, h5⟩ := h
  have hn0 := (tk_cnt_le h0 D).1
  rw [← h5] at hn0
  refine ⟨fun j a b => ?_, fun k j a b c => ?_, fun t a b c => ?_, fun j a b t ht => ?_, ?_⟩
  · rw [ha]
    by_cases hj : j = n
    · rw [if_pos hj]; exact ⟨hi, (hD _).mpr (.inr rfl)⟩
    · rw [if_neg hj]
      exact ⟨(h1 j a (by omega)).1, (hD _).mpr (.inl (h1 j a (by omega)).2)⟩
  · rw [ha, ha]
    by_cases hj : j = n
    · rw [if_pos hj, if_neg (show ¬ k = n by omega)]
      intro z
      have := (h1 k a (by omega)).2
      rw [z] at this
      exact hn this
    · rw [if_neg hj, if_neg (show ¬ k = n by omega)]
      exact h2 k j a b (by omega)
  · rcases (hD t).mp c with c | c
    · obtain ⟨j, h6, h7⟩ := h3 t a b c
      exact ⟨j, by omega, by rw [ha, if_neg (show ¬ j = n by omega)]; exact h7⟩
    · exact ⟨n, by omega, by rw [ha, if_pos rfl]; exact c.symm⟩
  · rw [ha] at ht
    by_cases hj : j = n
    · rw [if_pos hj] at ht
      obtain ⟨k, h6, h7⟩ := h3 t ht.1.1 ht.1.2 (hb t ht)
      exact ⟨k, by omega, by rw [ha, if_neg (show ¬ k = n by omega)]; exact h7⟩
    · rw [if_neg hj] at ht
      obtain ⟨k, h6, h7⟩ := h4 j a (by omega) t ht
      exact ⟨k, h6, by rw [ha, if_neg (show ¬ k = n by omega)]; exact h7⟩
  · rw [h5]
    exact (tk_cnt_add h0 hi hn ((hD i).mpr (.inr rfl)) (fun k _ _ h => ⟨fun z => by rcases (hD k).mp z with z | z; exact z; exact absurd z h, fun z => (hD k).mpr (.inl z)⟩)).symm
theorem tk_an_w {S : tk_M} {al : Int → Int} {n : Int} {D : Int → Prop} (h0 : 0 ≤ S 0 1) (h : tk_an S al n D) (hD : ∀ t : Int, 0 ≤ t → t < S 0 1 → D t) : tk_aw S al := by
  obtain ⟨h1, h2, h3, h4, h5⟩ := h
  rw [tk_cnt_all h0 hD] at h5
  subst h5
  exact ⟨fun j a b => (h1 j a b).1, h2, fun t a b => h3 t a b (hD t a b), h4⟩
theorem tk_an_al {S : tk_M} {al al' : Int → Int} {n : Int} {D : Int → Prop} (h : tk_an S al n D) (he : ∀ j : Int, 0 ≤ j → j < n → al' j = al j) : tk_an S al' n D := by
  obtain ⟨h1, h2, h3, h4, h5⟩ := h
  refine ⟨fun j a b => by rw [he j a b]; exact h1 j a b, fun i j a b c => by rw [he i a (by omega), he j (by omega) c]; exact h2 i j a b c, fun t a b c => ?_, fun j a b t ht => ?_, h5⟩
  · obtain ⟨j, h6, h7⟩ := h3 t a b c
    exact ⟨j, h6, by rw [he j h6.1 h6.2]; exact h7⟩
  · rw [he j a b] at ht
    obtain ⟨k, h6, h7⟩ := h4 j a b t ht
    exact ⟨k, h6, by rw [he k h6.1 (by omega)]; exact h7⟩
theorem x_firstFree1 {μ : tk_M} {Q : Int → tk_M → Prop} {x : Int} (h0 : tk_I0 (tk_hw 1 μ)) (h1 : tk_I1 (tk_hw 1 μ)) (hx : tk_bs2 6 x) (hex : ∃ c, (0 ≤ c ∧ c < μ 1 0) ∧ tk_fre (tk_hw 1 μ) (tk_bit x) c) (hQ : ∀ r, tk_ff (μ 1 0) (tk_fre (tk_hw 1 μ) (tk_bit x)) r → Q r μ) : tkF_X5_firstFree [23, x] Q μ := by
  obtain ⟨g1, g2, g3, -⟩ := x_hI1 h0
  have hxr := tk_bs_r (by omega) hx
  simp [tk_fn, tk_env, tk_sq, tk_sk, tk_if, tk_re, tk_rez, tk_rev, tk_xp, tk_se, tk_pf, tk_pfz, tk_pfo, tk_as, tk_asz, tk_asb, tk_aso, tk_cpy, tk_sw, tk_swc, tk_lit, tk_loc, tk_u1, tk_bin, tk_dv, tk_gf, tk_gr, tk_gn, tk_ald, tk_aldq, tk_aln, tk_unl, tk_una, tk_ter, tk_args, tk_cs, tk_cv, tk_ceq, tk_cne, tk_clt, tk_cge, tk_cgt, tk_cle, tk_zeq, tk_zne, tk_zlt, tk_zge, tk_zgt, tk_zle, tk_and, tk_or, tk_not, tk_ct2, tk_isC, List.headD_cons, tk_up, tk_sca, tk_scl, tkF_X5_firstFree, tkS_X5_firstFree]
  refine tk_for (μ 1 0) (fun i ρ μ' => μ' = μ ∧ ρ 0 = 23 ∧ ρ 1 = x ∧ ρ 2 = i ∧ ∀ c : Int, 0 ≤ c → c < i → ¬ tk_fre (tk_hw 1 μ) (tk_bit x) c) (by omega) ⟨rfl, rfl, rfl, rfl, fun c h2 h3 => by omega⟩ ?_ ?_
  · rintro i ρ μ' hi0 hi6 ⟨rfl, r0, r1, r2, hno⟩ K hK
    have i1 : tk_iadd i 1 = i + 1 := tk_iadd_id (by omega) (by omega)
    have hb := tk_bit_0 hxr (k := i) (by omega)
    have no : ¬ tk_fre (tk_hw 1 μ') (tk_bit x) i → ∀ ρ2 : tk_L, ρ2 0 = 23 → ρ2 1 = x → ρ2 2 = i + 1 → K ρ2 μ' := fun hn ρ2 q0 q1 q2 => by
      refine hK _ _ ⟨rfl, q0, q1, q2, fun c h2 h3 => ?_⟩
      by_cases hc : c = i
      · subst hc; exact hn
      · exact hno c h2 (by omega)
    by_cases hbt : tk_bit x i
    · have h3 : ¬ tk_iand (tk_ishr x i) 1 = 0 := by rw [hb]; exact fun z => z hbt
      simp [tk_fn, tk_env, tk_sq, tk_sk, tk_if, tk_re, tk_rez, tk_rev, tk_xp, tk_se, tk_pf, tk_pfz, tk_pfo, tk_as, tk_asz, tk_asb, tk_aso, tk_cpy, tk_sw, tk_swc, tk_lit, tk_loc, tk_u1, tk_bin, tk_dv, tk_gf, tk_gr, tk_gn, tk_ald, tk_aldq, tk_aln, tk_unl, tk_una, tk_ter, tk_args, tk_cs, tk_cv, tk_ceq, tk_cne, tk_clt, tk_cge, tk_cgt, tk_cle, tk_zeq, tk_zne, tk_zlt, tk_zge, tk_zgt, tk_zle, tk_and, tk_or, tk_not, tk_ct2, tk_isC, List.headD_cons, tk_up, tk_sca, tk_scl, r0, r1, r2, hi6, i1, h3]
      exact no (fun z => z.1 hbt) _ r0 r1 rfl
    · have h3 : tk_iand (tk_ishr x i) 1 = 0 := by rw [hb]; exact hbt
      simp [tk_fn, tk_env, tk_sq, tk_sk, tk_if, tk_re, tk_rez, tk_rev, tk_xp, tk_se, tk_pf, tk_pfz, tk_pfo, tk_as, tk_asz, tk_asb, tk_aso, tk_cpy, tk_sw, tk_swc, tk_lit, tk_loc, tk_u1, tk_bin, tk_dv, tk_gf, tk_gr, tk_gn, tk_ald, tk_aldq, tk_aln, tk_unl, tk_una, tk_ter, tk_args, tk_cs, tk_cv, tk_ceq, tk_cne, tk_clt, tk_cge, tk_cgt, tk_cle, tk_zeq, tk_zne, tk_zlt, tk_zge, tk_zgt, tk_zle, tk_and, tk_or, tk_not, tk_ct2, tk_isC, List.headD_cons, tk_up, tk_sca, tk_scl, r0, r1, r2, hi6, i1, h3]
      refine x_backersOf1 h0 h1 (tk_bs_sh (n := 6) ⟨hi0, by omega⟩ (by omega)) (fun r hr hrb => ?_)
      have hsub := tk_bit_sub (tk_bs_r (by omega) hr) hxr
      have hfr : (tk_iand r (tk_ixor x (-1)) = 0) ↔ tk_fre (tk_hw 1 μ') (tk_bit x) i := by
        rw [hsub]
        constructor
        · intro h
          refine ⟨hbt, fun t ht => h _ ((hrb _).mpr ⟨t, i, ht, (tk_bit_sh (by omega)).mpr rfl, rfl⟩)⟩
        · intro h k hk
          obtain ⟨t, y, z1, z2, z3⟩ := (hrb k).mp hk
          rw [tk_bit_sh (by omega)] at z2
          subst z2
          rw [← z3]
          exact h.2 t z1
      by_cases hf : tk_fre (tk_hw 1 μ') (tk_bit x) i
      · rw [if_pos (hfr.mpr hf)]
        exact hQ i (.inr ⟨hi0, hi6, hf, hno⟩)
      · rw [if_neg (fun z => hf (hfr.mp z))]
        exact no hf _ r0 r1 rfl
  · rintro ρ μ' ⟨rfl, r0, r1, r2, hno⟩ X
    obtain ⟨c, hc, hf⟩ := hex
    exact absurd hf (hno c hc.1 hc.2)
/-- what arrange() leaves -/
def tk_ar1 (μ : tk_M) : Prop := tk_aw (tk_hw 1 μ) (fun j => μ 25 j) ∧ tk_ol (tk_hw 1 μ) (fun k => μ 24 k) (μ 1 0)
theorem x_arrange1 {μ : tk_M} {Q : Int → tk_M → Prop} (h0 : tk_I0 (tk_hw 1 μ)) (h1 : tk_I1 (tk_hw 1 μ)) (h7 : tk_I7 (tk_hw 1 μ)) (hQ : ∀ μ', tk_f1 24 25 μ μ' → tk_ar1 μ' → Q 0 μ') : tkF_X5_arrange [23] Q μ := by
  obtain ⟨g1, g2, g3, -⟩ := x_hI1 h0
  have g := x_hT1 h1
  have hnT : tk_hw 1 μ 0 1 = μ 1 1 := rfl
  have hnC : tk_hw 1 μ 0 0 = μ 1 0 := rfl
  have hS1 : ∀ t, tk_hw 1 μ 1 t = μ 2 t := fun _ => rfl
  simp [tk_fn, tk_env, tk_sq, tk_sk, tk_if, tk_re, tk_rez, tk_rev, tk_xp, tk_se, tk_pf, tk_pfz, tk_pfo, tk_as, tk_asz, tk_asb, tk_aso, tk_cpy, tk_sw, tk_swc, tk_lit, tk_loc, tk_u1, tk_bin, tk_dv, tk_gf, tk_gr, tk_gn, tk_ald, tk_aldq, tk_aln, tk_unl, tk_una, tk_ter, tk_args, tk_cs, tk_cv, tk_ceq, tk_cne, tk_clt, tk_cge, tk_cgt, tk_cle, tk_zeq, tk_zne, tk_zlt, tk_zge, tk_zgt, tk_zle, tk_and, tk_or, tk_not, tk_ct2, tk_isC, List.headD_cons, tk_up, tk_sca, tk_scl, tkF_X5_arrange, tkS_X5_arrange]
  refine tk_for (μ 1 0) (fun k ρ μ' => ρ 0 = 23 ∧ ρ 3 = k ∧ tk_f1 24 25 μ μ' ∧ tk_bs2 6 (ρ 1) ∧ (∀ c, tk_bit (ρ 1) c ↔ tk_PL (fun j => μ' 24 j) k c) ∧ k = tk_sm (μ 1 0) (fun c => tk_bc (tk_bit (ρ 1) c)) ∧ tk_ol (tk_hw 1 μ) (fun j => μ' 24 j) k ∧ tk_an (tk_hw 1 μ) (fun j => μ' 25 j) (ρ 2) (fun t => tk_bit (ρ 1) (μ 2 t))) (by omega) ⟨rfl, rfl, tk_f1_r, tk_bs_0 6, fun c => ⟨fun z => absurd z (tk_bit_z c), fun ⟨j, z, _⟩ => by omega⟩, ?_, fun k h2 h3 => by omega, ⟨fun j h2 h3 => ?_, fun i j h2 h3 h4 => ?_, fun t h2 h3 h4 => absurd h4 (tk_bit_z _), fun j h2 h3 => ?_, ?_⟩⟩ ?_ ?_
  · exact (tk_sm_z (by omega) (fun c _ _ => tk_bc_f (tk_bit_z c))).symm
  · exact absurd h3 (by show ¬ j < 0; omega)
  · exact absurd h4 (by show ¬ j < 0; omega)
  · exact absurd h3 (by show ¬ j < 0; omega)
  · exact (tk_sm_z (by omega) (fun c _ _ => tk_bc_f (tk_bit_z _))).symm
  · rintro k ρ μ' hk0 hk6 ⟨r0, r3, hf, hs, hPL, hcnt, hol, han⟩ K hK
    have k1 : tk_iadd k 1 = k + 1 := tk_iadd_id (by omega) (by omega)
    have e0 : μ' 1 0 = μ 1 0 := hf _ _ (by omega)
    have hT : tk_hw 1 μ' = tk_hw 1 μ := tk_hw_f1 hf (by omega)
    have hex : ∃ c, (0 ≤ c ∧ c < μ 1 0) ∧ tk_fre (tk_hw 1 μ) (tk_bit (ρ 1)) c := by
      by_cases h : ∃ c, (0 ≤ c ∧ c < μ 1 0) ∧ ¬ tk_bit (ρ 1) c
      · obtain ⟨c, h2, h3⟩ := h
        exact tk_fre_ex h1 h7 h2 h3
      · have h2 := tk_cnt_all (n := μ 1 0) (P := fun c => tk_bit (ρ 1) c) (by omega) (fun c h3 h4 => Classical.byContradiction (fun z => h ⟨c, ⟨h3, h4⟩, z⟩))
        omega
    have hPe : tk_bit (ρ 1) = tk_PL (fun j => μ' 24 j) k := by funext c; exact propext (hPL c)
    have k6 : k < 6 := by omega
    simp [tk_fn, tk_env, tk_sq, tk_sk, tk_if, tk_re, tk_rez, tk_rev, tk_xp, tk_se, tk_pf, tk_pfz, tk_pfo, tk_as, tk_asz, tk_asb, tk_aso, tk_cpy, tk_sw, tk_swc, tk_lit, tk_loc, tk_u1, tk_bin, tk_dv, tk_gf, tk_gr, tk_gn, tk_ald, tk_aldq, tk_aln, tk_unl, tk_una, tk_ter, tk_args, tk_cs, tk_cv, tk_ceq, tk_cne, tk_clt, tk_cge, tk_cgt, tk_cle, tk_zeq, tk_zne, tk_zlt, tk_zge, tk_zgt, tk_zle, tk_and, tk_or, tk_not, tk_ct2, tk_isC, List.headD_cons, tk_up, tk_sca, tk_scl, r0, r3, hk6, e0]
    refine x_firstFree1 (by rw [hT]; exact h0) (by rw [hT]; exact h1) hs (by rw [hT, e0]; exact hex) (fun c hff => ?_)
    rw [hT, e0] at hff
    have hc : (0 ≤ c ∧ c < μ 1 0) ∧ tk_fre (tk_hw 1 μ) (tk_bit (ρ 1)) c := by
      rcases hff with ⟨h2, h3⟩ | ⟨h2, h3, h4, h5⟩
      · obtain ⟨d, h4, h5⟩ := hex
        exact absurd h5 (h3 d h4.1 h4.2)
      · exact ⟨⟨h2, h3⟩, h4⟩
    have hsh := tk_bs_sh (n := 6) (j := c) ⟨hc.1.1, by omega⟩ (by omega)
    have hbit : ∀ d, tk_bit (tk_ior (ρ 1) (tk_ishl 1 c)) d ↔ tk_bit (ρ 1) d ∨ d = c := fun d => by
      rw [tk_bit_or (n := 6) (by omega) hs hsh, tk_bit_sh (by omega)]
    have hPL2 : ∀ μ2 : tk_M, (∀ j, μ2 24 j = if j = k then c else μ' 24 j) → ∀ d, tk_bit (tk_ior (ρ 1) (tk_ishl 1 c)) d ↔ tk_PL (fun j => μ2 24 j) (k + 1) d := fun μ2 h2 d => by
      rw [hbit, hPL]
      constructor
      · rintro (⟨j, h3, h4⟩ | h3)
        · exact ⟨j, by omega, by show μ2 24 j = d; rw [h2, if_neg (by omega)]; exact h4⟩
        · exact ⟨k, by omega, by show μ2 24 k = d; rw [h2, if_pos rfl]; exact h3.symm⟩
      · rintro ⟨j, h3, h4⟩
        have h4 : μ2 24 j = d := h4
        rw [h2] at h4
        by_cases hj : j = k
        · rw [if_pos hj] at h4; exact .inr h4.symm
        · rw [if_neg hj] at h4; exact .inl ⟨j, by omega, h4⟩
    have hol2 : ∀ μ2 : tk_M, (∀ j, μ2 24 j = if j = k then c else μ' 24 j) → tk_ol (tk_hw 1 μ) (fun j => μ2 24 j) (k + 1) := fun μ2 h2 j h3 h4 => by
      have e : tk_PL (fun j => μ2 24 j) j = tk_PL (fun j => μ' 24 j) j := by
        funext d
        apply propext
        constructor
        · rintro ⟨i, h5, h6⟩
          refine ⟨i, h5, ?_⟩
          have h6 : μ2 24 i = d := h6
          rwa [h2, if_neg (by omega)] at h6
        · rintro ⟨i, h5, h6⟩
          refine ⟨i, h5, ?_⟩
          show μ2 24 i = d
          rw [h2, if_neg (by omega)]
          exact h6
      show tk_ff _ _ (μ2 24 j)
      rw [e, h2]
      by_cases hj : j = k
      · subst hj
        rw [if_pos rfl, ← hPe]
        exact hff
      · rw [if_neg hj]
        exact hol j h3 (by omega)
    have hcnt2 : k + 1 = tk_sm (μ 1 0) (fun d => tk_bc (tk_bit (tk_ior (ρ 1) (tk_ishl 1 c)) d)) := by
      rw [tk_cnt_add (P := fun d => tk_bit (ρ 1) d) (by omega) hc.1 hc.2.1 ((hbit c).mpr (.inr rfl)) (fun d _ _ h => ⟨fun z => by rcases (hbit d).mp z with z | z; exact z; exact absurd z h, fun z => (hbit d).mpr (.inl z)⟩)]
      omega
    -- the TICKETS in it
    have fin : ∀ (ρ2 : tk_L) (μ2 : tk_M), ρ2 0 = 23 → ρ2 1 = tk_ior (ρ 1) (tk_ishl 1 c) → ρ2 3 = k → tk_f1 24 25 μ μ2 → (∀ j, μ2 24 j = if j = k then c else μ' 24 j) → tk_an (tk_hw 1 μ) (fun j => μ2 25 j) (ρ2 2) (fun t => tk_bit (ρ 1) (μ 2 t) ∨ (μ 2 t = c ∧ t < μ 1 1)) → K (tk_up ρ2 3 (k + 1)) μ2 := fun ρ2 μ2 q0 q1 q3 hf2 hl2 han2 => by
      refine hK _ _ ⟨q0, rfl, hf2, by show tk_bs2 6 (ρ2 1); rw [q1]; exact tk_bs_or (by omega) hs hsh, fun d => ?_, ?_, hol2 μ2 hl2, ?_⟩
      · show tk_bit (ρ2 1) d ↔ _
        rw [q1]; exact hPL2 μ2 hl2 d
      · show k + 1 = tk_sm (μ 1 0) (fun d => tk_bc (tk_bit (ρ2 1) d))
        rw [q1]; exact hcnt2
      · refine tk_an_c han2 (fun t h2 h3 => ?_)
        show _ ↔ tk_bit (ρ2 1) (μ 2 t)
        rw [q1, hbit]
        constructor
        · rintro (z | z)
          · exact .inl z
          · exact .inr z.1
        · rintro (z | z)
          · exact .inl z
          · exact .inr ⟨z, h3⟩
    simp [tk_al_2, tk_al_3, tk_al_4, tk_al_5, tk_al_6, tk_al_7, tk_al_8, tk_al_9, tk_al_10, tk_al_11, tk_al_13, tk_al_14, tk_al_16, tk_al_17, tk_al_19, tk_al_20, tk_al_22, tk_al_24, tk_al_25, tk_al_26, tk_al_27, tk_al_28, tk_al_29, tk_al_30, tk_al_32, tk_al_33, tk_al_34, tk_al_35, tk_al_36, tk_al_37, tk_al_38, tk_al_39, tk_al_40, tk_al_41, tk_al_43, tk_al_44, tk_al_46, tk_al_47, tk_al_49, tk_al_50, tk_al_52, tk_al_54, tk_al_55, tk_al_56, tk_al_57, tk_al_58, tk_al_59, tk_al_60, tk_al_62, tk_al_63, tk_al_64, tk_al_65, tk_al_66, tk_al_67, tk_al_68, tk_al_69, tk_al_70, tk_al_71, tk_al_73, tk_al_74, tk_al_76, tk_al_77, tk_al_79, tk_al_80, tk_al_81, tk_al_83, tk_al_85, tk_al_87, tk_al_89, tk_al_91, tk_al_93, tk_al_95, tk_al_97, tk_al_98, tk_al_99, tk_al_100, tk_al_101, tk_al_102, tk_al_103, tk_al_104, tk_al_105, tk_al_106, tk_al_107, tk_al_108, tk_al_109, tk_al_110, tk_al_111, tk_al_112, tk_al_113, tk_al_114, tk_al_115, tk_al_116, tk_al_117, tk_al_118, tk_al_119, tk_al_120, tk_al_121, tk_al_122, tk_al_123, tk_al_124, tk_al_125, tk_al_126, tk_al_127, tk_al_128, tk_al_129, hk0, k6]
    refine tk_for (μ 1 1) (fun i ρ2 μ2 => ρ2 0 = 23 ∧ ρ2 1 = tk_ior (ρ 1) (tk_ishl 1 c) ∧ ρ2 3 = k ∧ ρ2 4 = c ∧ ρ2 5 = i ∧ tk_f1 24 25 μ μ2 ∧ (∀ j, μ2 24 j = if j = k then c else μ' 24 j) ∧ tk_an (tk_hw 1 μ) (fun j => μ2 25 j) (ρ2 2) (fun t => tk_bit (ρ 1) (μ 2 t) ∨ (μ 2 t = c ∧ t < i))) g2.1 ⟨r0, rfl, r3, rfl, rfl, tk_f1_s hf (by omega), fun j => ?_, ?_⟩ ?_ ?_
    · unfold tk_set
      by_cases hj : j = k <;> simp [hj]
    · refine tk_an_al (al := fun j => μ' 25 j) (tk_an_c han (fun t h2 h3 => ⟨.inl, fun z => by rcases z with z | z; exact z; omega⟩)) (fun j _ _ => ?_)
      show tk_set μ' 24 k c 25 j = _
      rw [tk_set_o (by omega)]
    · rintro i ρ2 μ2 hi0 hi6 ⟨q0, q1, q3, q4, q5, hf2, hl2, han2⟩ K2 hK2
      have i1 : tk_iadd i 1 = i + 1 := tk_iadd_id (by omega) (by omega)
      have e1 : μ2 1 1 = μ 1 1 := hf2 _ _ (by omega)
      have e2 : μ2 2 i = μ 2 i := hf2 _ _ (by omega)
      have h24 : i < 24 := by omega
      have hn := han2.2.2.2.2
      have hn0 := tk_cnt_le (n := μ 1 1) g2.1 (fun t => tk_bit (ρ 1) (μ 2 t) ∨ (μ 2 t = c ∧ t < i))
      have hnn : ρ2 2 = tk_sm (μ 1 1) (fun t => tk_bc (tk_bit (ρ 1) (μ 2 t) ∨ (μ 2 t = c ∧ t < i))) := hn
      rw [← hnn] at hn0
      by_cases hfull : ρ2 2 < 24
      · have n1 : tk_iadd (ρ2 2) 1 = ρ2 2 + 1 := tk_iadd_id (by omega) (by omega)
        by_cases hic : μ 2 i = c
        · simp [tk_fn, tk_env, tk_sq, tk_sk, tk_if, tk_re, tk_rez, tk_rev, tk_xp, tk_se, tk_pf, tk_pfz, tk_pfo, tk_as, tk_asz, tk_asb, tk_aso, tk_cpy, tk_sw, tk_swc, tk_lit, tk_loc, tk_u1, tk_bin, tk_dv, tk_gf, tk_gr, tk_gn, tk_ald, tk_aldq, tk_aln, tk_unl, tk_una, tk_ter, tk_args, tk_cs, tk_cv, tk_ceq, tk_cne, tk_clt, tk_cge, tk_cgt, tk_cle, tk_zeq, tk_zne, tk_zlt, tk_zge, tk_zgt, tk_zle, tk_and, tk_or, tk_not, tk_ct2, tk_isC, List.headD_cons, tk_up, tk_sca, tk_scl, q0, q4, q5, hi0, hi6, h24, tk_al_2, tk_al_3, tk_al_4, tk_al_5, tk_al_6, tk_al_7, tk_al_8, tk_al_9, tk_al_10, tk_al_11, tk_al_13, tk_al_14, tk_al_16, tk_al_17, tk_al_19, tk_al_20, tk_al_22, tk_al_24, tk_al_25, tk_al_26, tk_al_27, tk_al_28, tk_al_29, tk_al_30, tk_al_32, tk_al_33, tk_al_34, tk_al_35, tk_al_36, tk_al_37, tk_al_38, tk_al_39, tk_al_40, tk_al_41, tk_al_43, tk_al_44, tk_al_46, tk_al_47, tk_al_49, tk_al_50, tk_al_52, tk_al_54, tk_al_55, tk_al_56, tk_al_57, tk_al_58, tk_al_59, tk_al_60, tk_al_62, tk_al_63, tk_al_64, tk_al_65, tk_al_66, tk_al_67, tk_al_68, tk_al_69, tk_al_70, tk_al_71, tk_al_73, tk_al_74, tk_al_76, tk_al_77, tk_al_79, tk_al_80, tk_al_81, tk_al_83, tk_al_85, tk_al_87, tk_al_89, tk_al_91, tk_al_93, tk_al_95, tk_al_97, tk_al_98, tk_al_99, tk_al_100, tk_al_101, tk_al_102, tk_al_103, tk_al_104, tk_al_105, tk_al_106, tk_al_107, tk_al_108, tk_al_109, tk_al_110, tk_al_111, tk_al_112, tk_al_113, tk_al_114, tk_al_115, tk_al_116, tk_al_117, tk_al_118, tk_al_119, tk_al_120, tk_al_121, tk_al_122, tk_al_123, tk_al_124, tk_al_125, tk_al_126, tk_al_127, tk_al_128, tk_al_129, e1, e2, hic, hfull, i1, n1, hn0.1]
          have hnD : ¬ (tk_bit (ρ 1) (μ 2 i) ∨ (μ 2 i = c ∧ i < i)) := by
            rintro (z | z)
            · rw [hic] at z; exact hc.2.1 z
            · omega
          refine hK2 _ _ ⟨q0, q1, q3, q4, rfl, tk_f1_s hf2 (by omega), fun j => by rw [tk_set_o (by omega)]; exact hl2 j, ?_⟩
          refine tk_an_s (i := i) g2.1 han2 ⟨hi0, hi6⟩ hnD (fun t ht => .inl (hc.2.2 t (by rw [hS1, hic] at ht; exact ht))) (fun j => ?_) (fun t => ?_)
          · show tk_set μ2 25 (ρ2 2) i 25 j = _
            unfold tk_set
            by_cases hj : j = ρ2 2 <;> simp [hj]
          · constructor
            · rintro (z | z)
              · exact .inl (.inl z)
              · by_cases hti : t = i
                · exact .inr hti
                · exact .inl (.inr ⟨z.1, by omega⟩)
            · rintro ((z | z) | z)
              · exact .inl z
              · exact .inr ⟨z.1, by omega⟩
              · subst z; exact .inr ⟨hic, by omega⟩
        · simp [tk_fn, tk_env, tk_sq, tk_sk, tk_if, tk_re, tk_rez, tk_rev, tk_xp, tk_se, tk_pf, tk_pfz, tk_pfo, tk_as, tk_asz, tk_asb, tk_aso, tk_cpy, tk_sw, tk_swc, tk_lit, tk_loc, tk_u1, tk_bin, tk_dv, tk_gf, tk_gr, tk_gn, tk_ald, tk_aldq, tk_aln, tk_unl, tk_una, tk_ter, tk_args, tk_cs, tk_cv, tk_ceq, tk_cne, tk_clt, tk_cge, tk_cgt, tk_cle, tk_zeq, tk_zne, tk_zlt, tk_zge, tk_zgt, tk_zle, tk_and, tk_or, tk_not, tk_ct2, tk_isC, List.headD_cons, tk_up, tk_sca, tk_scl, q0, q4, q5, hi0, hi6, h24, tk_al_2, tk_al_3, tk_al_4, tk_al_5, tk_al_6, tk_al_7, tk_al_8, tk_al_9, tk_al_10, tk_al_11, tk_al_13, tk_al_14, tk_al_16, tk_al_17, tk_al_19, tk_al_20, tk_al_22, tk_al_24, tk_al_25, tk_al_26, tk_al_27, tk_al_28, tk_al_29, tk_al_30, tk_al_32, tk_al_33, tk_al_34, tk_al_35, tk_al_36, tk_al_37, tk_al_38, tk_al_39, tk_al_40, tk_al_41, tk_al_43, tk_al_44, tk_al_46, tk_al_47, tk_al_49, tk_al_50, tk_al_52, tk_al_54, tk_al_55, tk_al_56, tk_al_57, tk_al_58, tk_al_59, tk_al_60, tk_al_62, tk_al_63, tk_al_64, tk_al_65, tk_al_66, tk_al_67, tk_al_68, tk_al_69, tk_al_70, tk_al_71, tk_al_73, tk_al_74, tk_al_76, tk_al_77, tk_al_79, tk_al_80, tk_al_81, tk_al_83, tk_al_85, tk_al_87, tk_al_89, tk_al_91, tk_al_93, tk_al_95, tk_al_97, tk_al_98, tk_al_99, tk_al_100, tk_al_101, tk_al_102, tk_al_103, tk_al_104, tk_al_105, tk_al_106, tk_al_107, tk_al_108, tk_al_109, tk_al_110, tk_al_111, tk_al_112, tk_al_113, tk_al_114, tk_al_115, tk_al_116, tk_al_117, tk_al_118, tk_al_119, tk_al_120, tk_al_121, tk_al_122, tk_al_123, tk_al_124, tk_al_125, tk_al_126, tk_al_127, tk_al_128, tk_al_129, e1, e2, hic, hfull, i1]
          refine hK2 _ _ ⟨q0, q1, q3, q4, rfl, hf2, hl2, tk_an_c han2 (fun t h3 h4 => ?_)⟩
          constructor
          · rintro (z | z)
            · exact .inl z
            · exact .inr ⟨z.1, by omega⟩
          · rintro (z | z)
            · exact .inl z
            · by_cases hti : t = i
              · subst hti; exact absurd z.1 hic
              · exact .inr ⟨z.1, by omega⟩
      · simp [tk_fn, tk_env, tk_sq, tk_sk, tk_if, tk_re, tk_rez, tk_rev, tk_xp, tk_se, tk_pf, tk_pfz, tk_pfo, tk_as, tk_asz, tk_asb, tk_aso, tk_cpy, tk_sw, tk_swc, tk_lit, tk_loc, tk_u1, tk_bin, tk_dv, tk_gf, tk_gr, tk_gn, tk_ald, tk_aldq, tk_aln, tk_unl, tk_una, tk_ter, tk_args, tk_cs, tk_cv, tk_ceq, tk_cne, tk_clt, tk_cge, tk_cgt, tk_cle, tk_zeq, tk_zne, tk_zlt, tk_zge, tk_zgt, tk_zle, tk_and, tk_or, tk_not, tk_ct2, tk_isC, List.headD_cons, tk_up, tk_sca, tk_scl, q0, q3, q5, hi6, e1, hfull, k1]
        refine fin _ _ q0 q1 q3 hf2 hl2 (tk_an_c han2 (fun t h3 h4 => ?_))
        constructor
        · rintro (z | z)
          · exact .inl z
          · exact .inr ⟨z.1, h4⟩
        · rintro (z | z)
          · exact .inl z
          · by_cases hti : t < i
            · exact .inr ⟨z.1, hti⟩
            · exfalso
              have := tk_cnt_lt (n := μ 1 1) (j := t) (P := fun t => tk_bit (ρ 1) (μ 2 t) ∨ (μ 2 t = c ∧ t < i)) g2.1 ⟨h3, h4⟩ (fun y => y.elim (fun y => hc.2.1 (by rw [z.1] at y; exact y)) (fun y => hti y.2))
              omega
    · rintro ρ2 μ2 ⟨q0, q1, q3, q4, q5, hf2, hl2, han2⟩ X
      have e1 : μ2 1 1 = μ 1 1 := hf2 _ _ (by omega)
      simp [tk_fn, tk_env, tk_sq, tk_sk, tk_if, tk_re, tk_rez, tk_rev, tk_xp, tk_se, tk_pf, tk_pfz, tk_pfo, tk_as, tk_asz, tk_asb, tk_aso, tk_cpy, tk_sw, tk_swc, tk_lit, tk_loc, tk_u1, tk_bin, tk_dv, tk_gf, tk_gr, tk_gn, tk_ald, tk_aldq, tk_aln, tk_unl, tk_una, tk_ter, tk_args, tk_cs, tk_cv, tk_ceq, tk_cne, tk_clt, tk_cge, tk_cgt, tk_cle, tk_zeq, tk_zne, tk_zlt, tk_zge, tk_zgt, tk_zle, tk_and, tk_or, tk_not, tk_ct2, tk_isC, List.headD_cons, tk_up, tk_sca, tk_scl, q0, q3, q5, e1, k1]
      exact fin _ _ q0 q1 q3 hf2 hl2 han2
  · rintro ρ μ' ⟨r0, r3, hf, hs, hPL, hcnt, hol, han⟩ X
    have e0 : μ' 1 0 = μ 1 0 := hf _ _ (by omega)
    have hT : tk_hw 1 μ' = tk_hw 1 μ := tk_hw_f1 hf (by omega)
    simp [tk_fn, tk_env, tk_sq, tk_sk, tk_if, tk_re, tk_rez, tk_rev, tk_xp, tk_se, tk_pf, tk_pfz, tk_pfo, tk_as, tk_asz, tk_asb, tk_aso, tk_cpy, tk_sw, tk_swc, tk_lit, tk_loc, tk_u1, tk_bin, tk_dv, tk_gf, tk_gr, tk_gn, tk_ald, tk_aldq, tk_aln, tk_unl, tk_una, tk_ter, tk_args, tk_cs, tk_cv, tk_ceq, tk_cne, tk_clt, tk_cge, tk_cgt, tk_cle, tk_zeq, tk_zne, tk_zlt, tk_zge, tk_zgt, tk_zle, tk_and, tk_or, tk_not, tk_ct2, tk_isC, List.headD_cons, tk_up, tk_sca, tk_scl, r0, r3, e0]
    refine hQ _ hf ?_
    unfold tk_ar1
    rw [hT, e0]
    refine ⟨tk_an_w g2.1 han (fun t h2 h3 => ?_), hol⟩
    refine Classical.byContradiction (fun z => ?_)
    have h4 := (g t h2 h3).1
    have := tk_cnt_lt (n := μ 1 0) (j := μ 2 t) (P := fun c => tk_bit (ρ 1) c) (by omega) h4 z
    omega
theorem x_firstFree31 {μ : tk_M} {Q : Int → tk_M → Prop} {x : Int} (h0 : tk_I0 (tk_hw 31 μ)) (h1 : tk_I1 (tk_hw 31 μ)) (hx : tk_bs2 6 x) (hex : ∃ c, (0 ≤ c ∧ c < μ 31 0) ∧ tk_fre (tk_hw 31 μ) (tk_bit x) c) (hQ : ∀ r, tk_ff (μ 31 0) (tk_fre (tk_hw 31 μ) (tk_bit x)) r → Q r μ) : tkF_X5_firstFree [53, x] Q μ := by
  obtain ⟨g1, g2, g3, -⟩ := x_hI31 h0
  have hxr := tk_bs_r (by omega) hx
  simp [tk_fn, tk_env, tk_sq, tk_sk, tk_if, tk_re, tk_rez, tk_rev, tk_xp, tk_se, tk_pf, tk_pfz, tk_pfo, tk_as, tk_asz, tk_asb, tk_aso, tk_cpy, tk_sw, tk_swc, tk_lit, tk_loc, tk_u1, tk_bin, tk_dv, tk_gf, tk_gr, tk_gn, tk_ald, tk_aldq, tk_aln, tk_unl, tk_una, tk_ter, tk_args, tk_cs, tk_cv, tk_ceq, tk_cne, tk_clt, tk_cge, tk_cgt, tk_cle, tk_zeq, tk_zne, tk_zlt, tk_zge, tk_zgt, tk_zle, tk_and, tk_or, tk_not, tk_ct2, tk_isC, List.headD_cons, tk_up, tk_sca, tk_scl, tkF_X5_firstFree, tkS_X5_firstFree]
  refine tk_for (μ 31 0) (fun i ρ μ' => μ' = μ ∧ ρ 0 = 53 ∧ ρ 1 = x ∧ ρ 2 = i ∧ ∀ c : Int, 0 ≤ c → c < i → ¬ tk_fre (tk_hw 31 μ) (tk_bit x) c) (by omega) ⟨rfl, rfl, rfl, rfl, fun c h2 h3 => by omega⟩ ?_ ?_
  · rintro i ρ μ' hi0 hi6 ⟨rfl, r0, r1, r2, hno⟩ K hK
    have i1 : tk_iadd i 1 = i + 1 := tk_iadd_id (by omega) (by omega)
    have hb := tk_bit_0 hxr (k := i) (by omega)
    have no : ¬ tk_fre (tk_hw 31 μ') (tk_bit x) i → ∀ ρ2 : tk_L, ρ2 0 = 53 → ρ2 1 = x → ρ2 2 = i + 1 → K ρ2 μ' := fun hn ρ2 q0 q1 q2 => by
      refine hK _ _ ⟨rfl, q0, q1, q2, fun c h2 h3 => ?_⟩
      by_cases hc : c = i
      · subst hc; exact hn
      · exact hno c h2 (by omega)
    by_cases hbt : tk_bit x i
    · have h3 : ¬ tk_iand (tk_ishr x i) 1 = 0 := by rw [hb]; exact fun z => z hbt
      simp [tk_fn, tk_env, tk_sq, tk_sk, tk_if, tk_re, tk_rez, tk_rev, tk_xp, tk_se, tk_pf, tk_pfz, tk_pfo, tk_as, tk_asz, tk_asb, tk_aso, tk_cpy, tk_sw, tk_swc, tk_lit, tk_loc, tk_u1, tk_bin, tk_dv, tk_gf, tk_gr, tk_gn, tk_ald, tk_aldq, tk_aln, tk_unl, tk_una, tk_ter, tk_args, tk_cs, tk_cv, tk_ceq, tk_cne, tk_clt, tk_cge, tk_cgt, tk_cle, tk_zeq, tk_zne, tk_zlt, tk_zge, tk_zgt, tk_zle, tk_and, tk_or, tk_not, tk_ct2, tk_isC, List.headD_cons, tk_up, tk_sca, tk_scl, r0, r1, r2, hi6, i1, h3]
      exact no (fun z => z.1 hbt) _ r0 r1 rfl
    · have h3 : tk_iand (tk_ishr x i) 1 = 0 := by rw [hb]; exact hbt
      simp [tk_fn, tk_env, tk_sq, tk_sk, tk_if, tk_re, tk_rez, tk_rev, tk_xp, tk_se, tk_pf, tk_pfz, tk_pfo, tk_as, tk_asz, tk_asb, tk_aso, tk_cpy, tk_sw, tk_swc, tk_lit, tk_loc, tk_u1, tk_bin, tk_dv, tk_gf, tk_gr, tk_gn, tk_ald, tk_aldq, tk_aln, tk_unl, tk_una, tk_ter, tk_args, tk_cs, tk_cv, tk_ceq, tk_cne, tk_clt, tk_cge, tk_cgt, tk_cle, tk_zeq, tk_zne, tk_zlt, tk_zge, tk_zgt, tk_zle, tk_and, tk_or, tk_not, tk_ct2, tk_isC, List.headD_cons, tk_up, tk_sca, tk_scl, r0, r1, r2, hi6, i1, h3]
      refine x_backersOf31 h0 h1 (tk_bs_sh (n := 6) ⟨hi0, by omega⟩ (by omega)) (fun r hr hrb => ?_)
      have hsub := tk_bit_sub (tk_bs_r (by omega) hr) hxr
      have hfr : (tk_iand r (tk_ixor x (-1)) = 0) ↔ tk_fre (tk_hw 31 μ') (tk_bit x) i := by
        rw [hsub]
        constructor
        · intro h
          refine ⟨hbt, fun t ht => h _ ((hrb _).mpr ⟨t, i, ht, (tk_bit_sh (by omega)).mpr rfl, rfl⟩)⟩
        · intro h k hk
          obtain ⟨t, y, z1, z2, z3⟩ := (hrb k).mp hk
          rw [tk_bit_sh (by omega)] at z2
          subst z2
          rw [← z3]
          exact h.2 t z1
      by_cases hf : tk_fre (tk_hw 31 μ') (tk_bit x) i
      · rw [if_pos (hfr.mpr hf)]
        exact hQ i (.inr ⟨hi0, hi6, hf, hno⟩)
      · rw [if_neg (fun z => hf (hfr.mp z))]
        exact no hf _ r0 r1 rfl
  · rintro ρ μ' ⟨rfl, r0, r1, r2, hno⟩ X
    obtain ⟨c, hc, hf⟩ := hex
    exact absurd hf (hno c hc.1 hc.2)
/-- what arrange() leaves -/
def tk_ar31 (μ : tk_M) : Prop := tk_aw (tk_hw 31 μ) (fun j => μ 55 j) ∧ tk_ol (tk_hw 31 μ) (fun k => μ 54 k) (μ 31 0)
theorem x_arrange31 {μ : tk_M} {Q : Int → tk_M → Prop} (h0 : tk_I0 (tk_hw 31 μ)) (h1 : tk_I1 (tk_hw 31 μ)) (h7 : tk_I7 (tk_hw 31 μ)) (hQ : ∀ μ', tk_f1 54 55 μ μ' → tk_ar31 μ' → Q 0 μ') : tkF_X5_arrange [53] Q μ := by
  obtain ⟨g1, g2, g3, -⟩ := x_hI31 h0
  have g := x_hT31 h1
  have hnT : tk_hw 31 μ 0 1 = μ 31 1 := rfl
  have hnC : tk_hw 31 μ 0 0 = μ 31 0 := rfl
  have hS1 : ∀ t, tk_hw 31 μ 1 t = μ 32 t := fun _ => rfl
  simp [tk_fn, tk_env, tk_sq, tk_sk, tk_if, tk_re, tk_rez, tk_rev, tk_xp, tk_se, tk_pf, tk_pfz, tk_pfo, tk_as, tk_asz, tk_asb, tk_aso, tk_cpy, tk_sw, tk_swc, tk_lit, tk_loc, tk_u1, tk_bin, tk_dv, tk_gf, tk_gr, tk_gn, tk_ald, tk_aldq, tk_aln, tk_unl, tk_una, tk_ter, tk_args, tk_cs, tk_cv, tk_ceq, tk_cne, tk_clt, tk_cge, tk_cgt, tk_cle, tk_zeq, tk_zne, tk_zlt, tk_zge, tk_zgt, tk_zle, tk_and, tk_or, tk_not, tk_ct2, tk_isC, List.headD_cons, tk_up, tk_sca, tk_scl, tkF_X5_arrange, tkS_X5_arrange]
  refine tk_for (μ 31 0) (fun k ρ μ' => ρ 0 = 53 ∧ ρ 3 = k ∧ tk_f1 54 55 μ μ' ∧ tk_bs2 6 (ρ 1) ∧ (∀ c, tk_bit (ρ 1) c ↔ tk_PL (fun j => μ' 54 j) k c) ∧ k = tk_sm (μ 31 0) (fun c => tk_bc (tk_bit (ρ 1) c)) ∧ tk_ol (tk_hw 31 μ) (fun j => μ' 54 j) k ∧ tk_an (tk_hw 31 μ) (fun j => μ' 55 j) (ρ 2) (fun t => tk_bit (ρ 1) (μ 32 t))) (by omega) ⟨rfl, rfl, tk_f1_r, tk_bs_0 6, fun c => ⟨fun z => absurd z (tk_bit_z c), fun ⟨j, z, _⟩ => by omega⟩, ?_, fun k h2 h3 => by omega, ⟨fun j h2 h3 => ?_, fun i j h2 h3 h4 => ?_, fun t h2 h3 h4 => absurd h4 (tk_bit_z _), fun j h2 h3 => ?_, ?_⟩⟩ ?_ ?_
  · exact (tk_sm_z (by omega) (fun c _ _ => tk_bc_f (tk_bit_z c))).symm
  · exact absurd h3 (by show ¬ j < 0; omega)
  · exact absurd h4 (by show ¬ j < 0; omega)
  · exact absurd h3 (by show ¬ j < 0; omega)
  · exact (tk_sm_z (by omega) (fun c _ _ => tk_bc_f (tk_bit_z _))).symm
  · rintro k ρ μ' hk0 hk6 ⟨r0, r3, hf, hs, hPL, hcnt, hol, han⟩ K hK
    have k1 : tk_iadd k 1 = k + 1 := tk_iadd_id (by omega) (by omega)
    have e0 : μ' 31 0 = μ 31 0 := hf _ _ (by omega)
    have hT : tk_hw 31 μ' = tk_hw 31 μ := tk_hw_f1 hf (by omega)
    have hex : ∃ c, (0 ≤ c ∧ c < μ 31 0) ∧ tk_fre (tk_hw 31 μ) (tk_bit (ρ 1)) c := by
      by_cases h : ∃ c, (0 ≤ c ∧ c < μ 31 0) ∧ ¬ tk_bit (ρ 1) c
      · obtain ⟨c, h2, h3⟩ := h
        exact tk_fre_ex h1 h7 h2 h3
      · have h2 := tk_cnt_all (n := μ 31 0) (P := fun c => tk_bit (ρ 1) c) (by omega) (fun c h3 h4 => Classical.byContradiction (fun z => h ⟨c, ⟨h3, h4⟩, z⟩))
        omega
    have hPe : tk_bit (ρ 1) = tk_PL (fun j => μ' 54 j) k := by funext c; exact propext (hPL c)
    have k6 : k < 6 := by omega
    simp [tk_fn, tk_env, tk_sq, tk_sk, tk_if, tk_re, tk_rez, tk_rev, tk_xp, tk_se, tk_pf, tk_pfz, tk_pfo, tk_as, tk_asz, tk_asb, tk_aso, tk_cpy, tk_sw, tk_swc, tk_lit, tk_loc, tk_u1, tk_bin, tk_dv, tk_gf, tk_gr, tk_gn, tk_ald, tk_aldq, tk_aln, tk_unl, tk_una, tk_ter, tk_args, tk_cs, tk_cv, tk_ceq, tk_cne, tk_clt, tk_cge, tk_cgt, tk_cle, tk_zeq, tk_zne, tk_zlt, tk_zge, tk_zgt, tk_zle, tk_and, tk_or, tk_not, tk_ct2, tk_isC, List.headD_cons, tk_up, tk_sca, tk_scl, r0, r3, hk6, e0]
    refine x_firstFree31 (by rw [hT]; exact h0) (by rw [hT]; exact h1) hs (by rw [hT, e0]; exact hex) (fun c hff => ?_)
    rw [hT, e0] at hff
    have hc : (0 ≤ c ∧ c < μ 31 0) ∧ tk_fre (tk_hw 31 μ) (tk_bit (ρ 1)) c := by
      rcases hff with ⟨h2, h3⟩ | ⟨h2, h3, h4, h5⟩
      · obtain ⟨d, h4, h5⟩ := hex
        exact absurd h5 (h3 d h4.1 h4.2)
      · exact ⟨⟨h2, h3⟩, h4⟩
    have hsh := tk_bs_sh (n := 6) (j := c) ⟨hc.1.1, by omega⟩ (by omega)
    have hbit : ∀ d, tk_bit (tk_ior (ρ 1) (tk_ishl 1 c)) d ↔ tk_bit (ρ 1) d ∨ d = c := fun d => by
      rw [tk_bit_or (n := 6) (by omega) hs hsh, tk_bit_sh (by omega)]
    have hPL2 : ∀ μ2 : tk_M, (∀ j, μ2 54 j = if j = k then c else μ' 54 j) → ∀ d, tk_bit (tk_ior (ρ 1) (tk_ishl 1 c)) d ↔ tk_PL (fun j => μ2 54 j) (k + 1) d := fun μ2 h2 d => by
      rw [hbit, hPL]
      constructor
      · rintro (⟨j, h3, h4⟩ | h3)
        · exact ⟨j, by omega, by show μ2 54 j = d; rw [h2, if_neg (by omega)]; exact h4⟩
        · exact ⟨k, by omega, by show μ2 54 k = d; rw [h2, if_pos rfl]; exact h3.symm⟩
      · rintro ⟨j, h3, h4⟩
        have h4 : μ2 54 j = d := h4
        rw [h2] at h4
        by_cases hj : j = k
        · rw [if_pos hj] at h4; exact .inr h4.symm
        · rw [if_neg hj] at h4; exact .inl ⟨j, by omega, h4⟩
    have hol2 : ∀ μ2 : tk_M, (∀ j, μ2 54 j = if j = k then c else μ' 54 j) → tk_ol (tk_hw 31 μ) (fun j => μ2 54 j) (k + 1) := fun μ2 h2 j h3 h4 => by
      have e : tk_PL (fun j => μ2 54 j) j = tk_PL (fun j => μ' 54 j) j := by
        funext d
        apply propext
        constructor
        · rintro ⟨i, h5, h6⟩
          refine ⟨i, h5, ?_⟩
          have h6 : μ2 54 i = d := h6
          rwa [h2, if_neg (by omega)] at h6
        · rintro ⟨i, h5, h6⟩
          refine ⟨i, h5, ?_⟩
          show μ2 54 i = d
          rw [h2, if_neg (by omega)]
          exact h6
      show tk_ff _ _ (μ2 54 j)
      rw [e, h2]
      by_cases hj : j = k
      · subst hj
        rw [if_pos rfl, ← hPe]
        exact hff
      · rw [if_neg hj]
        exact hol j h3 (by omega)
    have hcnt2 : k + 1 = tk_sm (μ 31 0) (fun d => tk_bc (tk_bit (tk_ior (ρ 1) (tk_ishl 1 c)) d)) := by
      rw [tk_cnt_add (P := fun d => tk_bit (ρ 1) d) (by omega) hc.1 hc.2.1 ((hbit c).mpr (.inr rfl)) (fun d _ _ h => ⟨fun z => by rcases (hbit d).mp z with z | z; exact z; exact absurd z h, fun z => (hbit d).mpr (.inl z)⟩)]
      omega
    -- the TICKETS in it
    have fin : ∀ (ρ2 : tk_L) (μ2 : tk_M), ρ2 0 = 53 → ρ2 1 = tk_ior (ρ 1) (tk_ishl 1 c) → ρ2 3 = k → tk_f1 54 55 μ μ2 → (∀ j, μ2 54 j = if j = k then c else μ' 54 j) → tk_an (tk_hw 31 μ) (fun j => μ2 55 j) (ρ2 2) (fun t => tk_bit (ρ 1) (μ 32 t) ∨ (μ 32 t = c ∧ t < μ 31 1)) → K (tk_up ρ2 3 (k + 1)) μ2 := fun ρ2 μ2 q0 q1 q3 hf2 hl2 han2 => by
      refine hK _ _ ⟨q0, rfl, hf2, by show tk_bs2 6 (ρ2 1); rw [q1]; exact tk_bs_or (by omega) hs hsh, fun d => ?_, ?_, hol2 μ2 hl2, ?_⟩
      · show tk_bit (ρ2 1) d ↔ _
        rw [q1]; exact hPL2 μ2 hl2 d
      · show k + 1 = tk_sm (μ 31 0) (fun d => tk_bc (tk_bit (ρ2 1) d))
        rw [q1]; exact hcnt2
      · refine tk_an_c han2 (fun t h2 h3 => ?_)
        show _ ↔ tk_bit (ρ2 1) (μ 32 t)
        rw [q1, hbit]
        constructor
        · rintro (z | z)
          · exact .inl z
          · exact .inr z.1
        · rintro (z | z)
          · exact .inl z
          · exact .inr ⟨z, h3⟩
    simp [tk_al_2, tk_al_3, tk_al_4, tk_al_5, tk_al_6, tk_al_7, tk_al_8, tk_al_9, tk_al_10, tk_al_11, tk_al_13, tk_al_14, tk_al_16, tk_al_17, tk_al_19, tk_al_20, tk_al_22, tk_al_24, tk_al_25, tk_al_26, tk_al_27, tk_al_28, tk_al_29, tk_al_30, tk_al_32, tk_al_33, tk_al_34, tk_al_35, tk_al_36, tk_al_37, tk_al_38, tk_al_39, tk_al_40, tk_al_41, tk_al_43, tk_al_44, tk_al_46, tk_al_47, tk_al_49, tk_al_50, tk_al_52, tk_al_54, tk_al_55, tk_al_56, tk_al_57, tk_al_58, tk_al_59, tk_al_60, tk_al_62, tk_al_63, tk_al_64, tk_al_65, tk_al_66, tk_al_67, tk_al_68, tk_al_69, tk_al_70, tk_al_71, tk_al_73, tk_al_74, tk_al_76, tk_al_77, tk_al_79, tk_al_80, tk_al_81, tk_al_83, tk_al_85, tk_al_87, tk_al_89, tk_al_91, tk_al_93, tk_al_95, tk_al_97, tk_al_98, tk_al_99, tk_al_100, tk_al_101, tk_al_102, tk_al_103, tk_al_104, tk_al_105, tk_al_106, tk_al_107, tk_al_108, tk_al_109, tk_al_110, tk_al_111, tk_al_112, tk_al_113, tk_al_114, tk_al_115, tk_al_116, tk_al_117, tk_al_118, tk_al_119, tk_al_120, tk_al_121, tk_al_122, tk_al_123, tk_al_124, tk_al_125, tk_al_126, tk_al_127, tk_al_128, tk_al_129, hk0, k6]
    refine tk_for (μ 31 1) (fun i ρ2 μ2 => ρ2 0 = 53 ∧ ρ2 1 = tk_ior (ρ 1) (tk_ishl 1 c) ∧ ρ2 3 = k ∧ ρ2 4 = c ∧ ρ2 5 = i ∧ tk_f1 54 55 μ μ2 ∧ (∀ j, μ2 54 j = if j = k then c else μ' 54 j) ∧ tk_an (tk_hw 31 μ) (fun j => μ2 55 j) (ρ2 2) (fun t => tk_bit (ρ 1) (μ 32 t) ∨ (μ 32 t = c ∧ t < i))) g2.1 ⟨r0, rfl, r3, rfl, rfl, tk_f1_s hf (by omega), fun j => ?_, ?_⟩ ?_ ?_
    · unfold tk_set
      by_cases hj : j = k <;> simp [hj]
    · refine tk_an_al (al := fun j => μ' 55 j) (tk_an_c han (fun t h2 h3 => ⟨.inl, fun z => by rcases z with z | z; exact z; omega⟩)) (fun j _ _ => ?_)
      show tk_set μ' 54 k c 55 j = _
      rw [tk_set_o (by omega)]
    · rintro i ρ2 μ2 hi0 hi6 ⟨q0, q1, q3, q4, q5, hf2, hl2, han2⟩ K2 hK2
      have i1 : tk_iadd i 1 = i + 1 := tk_iadd_id (by omega) (by omega)
      have e1 : μ2 31 1 = μ 31 1 := hf2 _ _ (by omega)
      have e2 : μ2 32 i = μ 32 i := hf2 _ _ (by omega)
      have h24 : i < 24 := by omega
      have hn := han2.2.2.2.2
      have hn0 := tk_cnt_le (n := μ 31 1) g2.1 (fun t => tk_bit (ρ 1) (μ 32 t) ∨ (μ 32 t = c ∧ t < i))
      have hnn : ρ2 2 = tk_sm (μ 31 1) (fun t => tk_bc (tk_bit (ρ 1) (μ 32 t) ∨ (μ 32 t = c ∧ t < i))) := hn
      rw [← hnn] at hn0
      by_cases hfull : ρ2 2 < 24
      · have n1 : tk_iadd (ρ2 2) 1 = ρ2 2 + 1 := tk_iadd_id (by omega) (by omega)
        by_cases hic : μ 32 i = c
        · simp [tk_fn, tk_env, tk_sq, tk_sk, tk_if, tk_re, tk_rez, tk_rev, tk_xp, tk_se, tk_pf, tk_pfz, tk_pfo, tk_as, tk_asz, tk_asb, tk_aso, tk_cpy, tk_sw, tk_swc, tk_lit, tk_loc, tk_u1, tk_bin, tk_dv, tk_gf, tk_gr, tk_gn, tk_ald, tk_aldq, tk_aln, tk_unl, tk_una, tk_ter, tk_args, tk_cs, tk_cv, tk_ceq, tk_cne, tk_clt, tk_cge, tk_cgt, tk_cle, tk_zeq, tk_zne, tk_zlt, tk_zge, tk_zgt, tk_zle, tk_and, tk_or, tk_not, tk_ct2, tk_isC, List.headD_cons, tk_up, tk_sca, tk_scl, q0, q4, q5, hi0, hi6, h24, tk_al_2, tk_al_3, tk_al_4, tk_al_5, tk_al_6, tk_al_7, tk_al_8, tk_al_9, tk_al_10, tk_al_11, tk_al_13, tk_al_14, tk_al_16, tk_al_17, tk_al_19, tk_al_20, tk_al_22, tk_al_24, tk_al_25, tk_al_26, tk_al_27, tk_al_28, tk_al_29, tk_al_30, tk_al_32, tk_al_33, tk_al_34, tk_al_35, tk_al_36, tk_al_37, tk_al_38, tk_al_39, tk_al_40, tk_al_41, tk_al_43, tk_al_44, tk_al_46, tk_al_47, tk_al_49, tk_al_50, tk_al_52, tk_al_54, tk_al_55, tk_al_56, tk_al_57, tk_al_58, tk_al_59, tk_al_60, tk_al_62, tk_al_63, tk_al_64, tk_al_65, tk_al_66, tk_al_67, tk_al_68, tk_al_69, tk_al_70, tk_al_71, tk_al_73, tk_al_74, tk_al_76, tk_al_77, tk_al_79, tk_al_80, tk_al_81, tk_al_83, tk_al_85, tk_al_87, tk_al_89, tk_al_91, tk_al_93, tk_al_95, tk_al_97, tk_al_98, tk_al_99, tk_al_100, tk_al_101, tk_al_102, tk_al_103, tk_al_104, tk_al_105, tk_al_106, tk_al_107, tk_al_108, tk_al_109, tk_al_110, tk_al_111, tk_al_112, tk_al_113, tk_al_114, tk_al_115, tk_al_116, tk_al_117, tk_al_118, tk_al_119, tk_al_120, tk_al_121, tk_al_122, tk_al_123, tk_al_124, tk_al_125, tk_al_126, tk_al_127, tk_al_128, tk_al_129, e1, e2, hic, hfull, i1, n1, hn0.1]
          have hnD : ¬ (tk_bit (ρ 1) (μ 32 i) ∨ (μ 32 i = c ∧ i < i)) := by
            rintro (z | z)
            · rw [hic] at z; exact hc.2.1 z
            · omega
          refine hK2 _ _ ⟨q0, q1, q3, q4, rfl, tk_f1_s hf2 (by omega), fun j => by rw [tk_set_o (by omega)]; exact hl2 j, ?_⟩
          refine tk_an_s (i := i) g2.1 han2 ⟨hi0, hi6⟩ hnD (fun t ht => .inl (hc.2.2 t (by rw [hS1, hic] at ht; exact ht))) (fun j => ?_) (fun t => ?_)
          · show tk_set μ2 55 (ρ2 2) i 55 j = _
            unfold tk_set
            by_cases hj : j = ρ2 2 <;> simp [hj]
          · constructor
            · rintro (z | z)
              · exact .inl (.inl z)
              · by_cases hti : t = i
                · exact .inr hti
                · exact .inl (.inr ⟨z.1, by omega⟩)
            · rintro ((z | z) | z)
              · exact .inl z
              · exact .inr ⟨z.1, by omega⟩
              · subst z; exact .inr ⟨hic, by omega⟩
        · simp [tk_fn, tk_env, tk_sq, tk_sk, tk_if, tk_re, tk_rez, tk_rev, tk_xp, tk_se, tk_pf, tk_pfz, tk_pfo, tk_as, tk_asz, tk_asb, tk_aso, tk_cpy, tk_sw, tk_swc, tk_lit, tk_loc, tk_u1, tk_bin, tk_dv, tk_gf, tk_gr, tk_gn, tk_ald, tk_aldq, tk_aln, tk_unl, tk_una, tk_ter, tk_args, tk_cs, tk_cv, tk_ceq, tk_cne, tk_clt, tk_cge, tk_cgt, tk_cle, tk_zeq, tk_zne, tk_zlt, tk_zge, tk_zgt, tk_zle, tk_and, tk_or, tk_not, tk_ct2, tk_isC, List.headD_cons, tk_up, tk_sca, tk_scl, q0, q4, q5, hi0, hi6, h24, tk_al_2, tk_al_3, tk_al_4, tk_al_5, tk_al_6, tk_al_7, tk_al_8, tk_al_9, tk_al_10, tk_al_11, tk_al_13, tk_al_14, tk_al_16, tk_al_17, tk_al_19, tk_al_20, tk_al_22, tk_al_24, tk_al_25, tk_al_26, tk_al_27, tk_al_28, tk_al_29, tk_al_30, tk_al_32, tk_al_33, tk_al_34, tk_al_35, tk_al_36, tk_al_37, tk_al_38, tk_al_39, tk_al_40, tk_al_41, tk_al_43, tk_al_44, tk_al_46, tk_al_47, tk_al_49, tk_al_50, tk_al_52, tk_al_54, tk_al_55, tk_al_56, tk_al_57, tk_al_58, tk_al_59, tk_al_60, tk_al_62, tk_al_63, tk_al_64, tk_al_65, tk_al_66, tk_al_67, tk_al_68, tk_al_69, tk_al_70, tk_al_71, tk_al_73, tk_al_74, tk_al_76, tk_al_77, tk_al_79, tk_al_80, tk_al_81, tk_al_83, tk_al_85, tk_al_87, tk_al_89, tk_al_91, tk_al_93, tk_al_95, tk_al_97, tk_al_98, tk_al_99, tk_al_100, tk_al_101, tk_al_102, tk_al_103, tk_al_104, tk_al_105, tk_al_106, tk_al_107, tk_al_108, tk_al_109, tk_al_110, tk_al_111, tk_al_112, tk_al_113, tk_al_114, tk_al_115, tk_al_116, tk_al_117, tk_al_118, tk_al_119, tk_al_120, tk_al_121, tk_al_122, tk_al_123, tk_al_124, tk_al_125, tk_al_126, tk_al_127, tk_al_128, tk_al_129, e1, e2, hic, hfull, i1]
          refine hK2 _ _ ⟨q0, q1, q3, q4, rfl, hf2, hl2, tk_an_c han2 (fun t h3 h4 => ?_)⟩
          constructor
          · rintro (z | z)
            · exact .inl z
            · exact .inr ⟨z.1, by omega⟩
          · rintro (z | z)
            · exact .inl z
            · by_cases hti : t = i
              · subst hti; exact absurd z.1 hic
              · exact .inr ⟨z.1, by omega⟩
      · simp [tk_fn, tk_env, tk_sq, tk_sk, tk_if, tk_re, tk_rez, tk_rev, tk_xp, tk_se, tk_pf, tk_pfz, tk_pfo, tk_as, tk_asz, tk_asb, tk_aso, tk_cpy, tk_sw, tk_swc, tk_lit, tk_loc, tk_u1, tk_bin, tk_dv, tk_gf, tk_gr, tk_gn, tk_ald, tk_aldq, tk_aln, tk_unl, tk_una, tk_ter, tk_args, tk_cs, tk_cv, tk_ceq, tk_cne, tk_clt, tk_cge, tk_cgt, tk_cle, tk_zeq, tk_zne, tk_zlt, tk_zge, tk_zgt, tk_zle, tk_and, tk_or, tk_not, tk_ct2, tk_isC, List.headD_cons, tk_up, tk_sca, tk_scl, q0, q3, q5, hi6, e1, hfull, k1]
        refine fin _ _ q0 q1 q3 hf2 hl2 (tk_an_c han2 (fun t h3 h4 => ?_))
        constructor
        · rintro (z | z)
          · exact .inl z
          · exact .inr ⟨z.1, h4⟩
        · rintro (z | z)
          · exact .inl z
          · by_cases hti : t < i
            · exact .inr ⟨z.1, hti⟩
            · exfalso
              have := tk_cnt_lt (n := μ 31 1) (j := t) (P := fun t => tk_bit (ρ 1) (μ 32 t) ∨ (μ 32 t = c ∧ t < i)) g2.1 ⟨h3, h4⟩ (fun y => y.elim (fun y => hc.2.1 (by rw [z.1] at y; exact y)) (fun y => hti y.2))
              omega
    · rintro ρ2 μ2 ⟨q0, q1, q3, q4, q5, hf2, hl2, han2⟩ X
      have e1 : μ2 31 1 = μ 31 1 := hf2 _ _ (by omega)
      simp [tk_fn, tk_env, tk_sq, tk_sk, tk_if, tk_re, tk_rez, tk_rev, tk_xp, tk_se, tk_pf, tk_pfz, tk_pfo, tk_as, tk_asz, tk_asb, tk_aso, tk_cpy, tk_sw, tk_swc, tk_lit, tk_loc, tk_u1, tk_bin, tk_dv, tk_gf, tk_gr, tk_gn, tk_ald, tk_aldq, tk_aln, tk_unl, tk_una, tk_ter, tk_args, tk_cs, tk_cv, tk_ceq, tk_cne, tk_clt, tk_cge, tk_cgt, tk_cle, tk_zeq, tk_zne, tk_zlt, tk_zge, tk_zgt, tk_zle, tk_and, tk_or, tk_not, tk_ct2, tk_isC, List.headD_cons, tk_up, tk_sca, tk_scl, q0, q3, q5, e1, k1]
      exact fin _ _ q0 q1 q3 hf2 hl2 han2
  · rintro ρ μ' ⟨r0, r3, hf, hs, hPL, hcnt, hol, han⟩ X
    have e0 : μ' 31 0 = μ 31 0 := hf _ _ (by omega)
    have hT : tk_hw 31 μ' = tk_hw 31 μ := tk_hw_f1 hf (by omega)
    simp [tk_fn, tk_env, tk_sq, tk_sk, tk_if, tk_re, tk_rez, tk_rev, tk_xp, tk_se, tk_pf, tk_pfz, tk_pfo, tk_as, tk_asz, tk_asb, tk_aso, tk_cpy, tk_sw, tk_swc, tk_lit, tk_loc, tk_u1, tk_bin, tk_dv, tk_gf, tk_gr, tk_gn, tk_ald, tk_aldq, tk_aln, tk_unl, tk_una, tk_ter, tk_args, tk_cs, tk_cv, tk_ceq, tk_cne, tk_clt, tk_cge, tk_cgt, tk_cle, tk_zeq, tk_zne, tk_zlt, tk_zge, tk_zgt, tk_zle, tk_and, tk_or, tk_not, tk_ct2, tk_isC, List.headD_cons, tk_up, tk_sca, tk_scl, r0, r3, e0]
    refine hQ _ hf ?_
    unfold tk_ar31
    rw [hT, e0]
    refine ⟨tk_an_w g2.1 han (fun t h2 h3 => ?_), hol⟩
    refine Classical.byContradiction (fun z => ?_)
    have h4 := (g t h2 h3).1
    have := tk_cnt_lt (n := μ 31 0) (j := μ 32 t) (P := fun c => tk_bit (ρ 1) c) (by omega) h4 z
    omega
