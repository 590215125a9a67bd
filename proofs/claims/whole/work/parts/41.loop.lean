/-! ===== Layer 2: loops ===== -/
theorem tk_loop {C : tk_Cn} {B : tk_Sm} {Qn : tk_L → tk_M → Prop} {Qr : Int → tk_M → Prop} (I : Nat → tk_L → tk_M → Prop) (h : ∀ (i : Nat) (ρ : tk_L) (μ : tk_M), I i ρ μ → ∀ K : tk_L → tk_M → Prop, (∀ (j : Nat) (ρ2 : tk_L) (μ2 : tk_M), j < i → I j ρ2 μ2 → K ρ2 μ2) → C (fun μ1 => B K Qr ρ μ1) (fun μ1 => Qn ρ μ1) ρ μ) (n : Nat) {ρ : tk_L} {μ : tk_M} (hI : I n ρ μ) : tk_wh C B Qn Qr ρ μ := by
  have key : ∀ (N i : Nat) (ρ : tk_L) (μ : tk_M), i < N → I i ρ μ → tk_wN C B N Qn Qr ρ μ := by
    intro N
    induction N with
    | zero => intro i ρ μ hi; omega
    | succ N ih => intro i ρ μ hi hI; exact h i ρ μ hI _ (fun j ρ2 μ2 hj hI2 => ih j ρ2 μ2 (by omega) hI2)
  exact ⟨n + 1, key (n + 1) n ρ μ (by omega) hI⟩
/-- sums over places 0 .. n - 1 -/
def tk_sg (n : Nat) (f : Int → Int) : Int := match n with
  | 0 => 0
  | k + 1 => tk_sg k f + f k
theorem tk_sg_s (n : Nat) (f : Int → Int) : tk_sg (n + 1) f = tk_sg n f + f n := rfl
theorem tk_sg_congr {n : Nat} {f g : Int → Int} (h : ∀ i : Int, 0 ≤ i → i < n → f i = g i) : tk_sg n f = tk_sg n g := by
  induction n with
  | zero => rfl
  | succ n ih => rw [tk_sg_s, tk_sg_s, ih (fun i h1 h2 => h i h1 (by omega)), h n (by omega) (by omega)]
theorem tk_set_eq {μ : tk_M} {o j v : Int} : tk_set μ o j v o j = v := by simp [tk_set]
theorem tk_set_o {μ : tk_M} {o j v o' j' : Int} (h : ¬ o' = o) : tk_set μ o j v o' j' = μ o' j' := by simp [tk_set, h]
theorem tk_set_j {μ : tk_M} {o j v j' : Int} (h : ¬ j' = j) : tk_set μ o j v o j' = μ o j' := by simp [tk_set, h]
/-! the Model's small ones -/
def tk_bo (p : Prop) [Decidable p] : Int := if p then 1 else 0
theorem tk_bo_or (p : Prop) [Decidable p] : (tk_bo p = 0 ∨ tk_bo p = 1) = True := by
  unfold tk_bo
  split <;> simp
theorem tk_bo_0 (p : Prop) [Decidable p] : (tk_bo p = 0) = ¬ p := by
  unfold tk_bo
  split <;> simp [*]
theorem tk_bo_e {p q : Prop} [Decidable p] [Decidable q] (h : p ↔ q) : tk_bo p = tk_bo q := by
  unfold tk_bo
  simp [h]
theorem tk_bo_i (p : Prop) [Decidable p] {P : Int → Prop} : (if p then P 1 else P 0) = P (tk_bo p) := by
  unfold tk_bo
  split <;> rfl
theorem m_in (a b c : Int) (Q : Int → tk_M → Prop) (μ : tk_M) : tkF_X7_in [a, b, c] Q μ = Q (tk_bo (b ≤ a ∧ a ≤ c)) μ := by
  simp only [tk_fn, tk_env, tk_sq, tk_sk, tk_if, tk_re, tk_rez, tk_rev, tk_xp, tk_se, tk_pf, tk_pfz, tk_pfo, tk_as, tk_asz, tk_asb, tk_aso, tk_cpy, tk_sw, tk_swc, tk_lit, tk_loc, tk_u1, tk_bin, tk_dv, tk_gf, tk_gr, tk_gn, tk_ald, tk_aldq, tk_aln, tk_unl, tk_una, tk_ter, tk_args, tk_cs, tk_cv, tk_ceq, tk_cne, tk_clt, tk_cge, tk_cgt, tk_cle, tk_zeq, tk_zne, tk_zlt, tk_zge, tk_zgt, tk_zle, tk_and, tk_or, tk_not, tk_ct2, tk_isC, List.headD_cons, tk_up, tk_sca, tk_scl, tkF_X7_in, tkS_X7_in, tk_bo]
  by_cases h1 : b ≤ a <;> by_cases h2 : a ≤ c <;> simp [h1, h2]
theorem m_isClient (c : Int) (Q : Int → tk_M → Prop) (μ : tk_M) (h : 0 ≤ μ 96 5 ∧ μ 96 5 ≤ 8) : tkF_X7_isClient [96, c] Q μ = Q (tk_bo (0 ≤ c ∧ c < μ 96 5)) μ := by
  have e : tk_isub (μ 96 5) 1 = μ 96 5 - 1 := tk_isub_id (by omega) (by omega)
  have e2 : tk_bo (0 ≤ c ∧ c ≤ μ 96 5 - 1) = tk_bo (0 ≤ c ∧ c < μ 96 5) := tk_bo_e (by omega)
  simp [tk_fn, tk_env, tk_sq, tk_sk, tk_if, tk_re, tk_rez, tk_rev, tk_xp, tk_se, tk_pf, tk_pfz, tk_pfo, tk_as, tk_asz, tk_asb, tk_aso, tk_cpy, tk_sw, tk_swc, tk_lit, tk_loc, tk_u1, tk_bin, tk_dv, tk_gf, tk_gr, tk_gn, tk_ald, tk_aldq, tk_aln, tk_unl, tk_una, tk_ter, tk_args, tk_cs, tk_cv, tk_ceq, tk_cne, tk_clt, tk_cge, tk_cgt, tk_cle, tk_zeq, tk_zne, tk_zlt, tk_zge, tk_zgt, tk_zle, tk_and, tk_or, tk_not, tk_ct2, tk_isC, List.headD_cons, tk_up, tk_sca, tk_scl, tkF_X7_isClient, tkS_X7_isClient, m_in, e, e2, tk_bo_or]
theorem m_isTicket (c : Int) (Q : Int → tk_M → Prop) (μ : tk_M) (h : 0 ≤ μ 96 1 ∧ μ 96 1 ≤ 24) : tkF_X7_isTicket [96, c] Q μ = Q (tk_bo (0 ≤ c ∧ c < μ 96 1)) μ := by
  have e : tk_isub (μ 96 1) 1 = μ 96 1 - 1 := tk_isub_id (by omega) (by omega)
  have e2 : tk_bo (0 ≤ c ∧ c ≤ μ 96 1 - 1) = tk_bo (0 ≤ c ∧ c < μ 96 1) := tk_bo_e (by omega)
  simp [tk_fn, tk_env, tk_sq, tk_sk, tk_if, tk_re, tk_rez, tk_rev, tk_xp, tk_se, tk_pf, tk_pfz, tk_pfo, tk_as, tk_asz, tk_asb, tk_aso, tk_cpy, tk_sw, tk_swc, tk_lit, tk_loc, tk_u1, tk_bin, tk_dv, tk_gf, tk_gr, tk_gn, tk_ald, tk_aldq, tk_aln, tk_unl, tk_una, tk_ter, tk_args, tk_cs, tk_cv, tk_ceq, tk_cne, tk_clt, tk_cge, tk_cgt, tk_cle, tk_zeq, tk_zne, tk_zlt, tk_zge, tk_zgt, tk_zle, tk_and, tk_or, tk_not, tk_ct2, tk_isC, List.headD_cons, tk_up, tk_sca, tk_scl, tkF_X7_isTicket, tkS_X7_isTicket, m_in, e, e2, tk_bo_or]
theorem m_isCurrency (c : Int) (Q : Int → tk_M → Prop) (μ : tk_M) (h : 0 ≤ μ 96 0 ∧ μ 96 0 ≤ 6) : tkF_X7_isCurrency [96, c] Q μ = Q (tk_bo (0 ≤ c ∧ c < μ 96 0)) μ := by
  have e : tk_isub (μ 96 0) 1 = μ 96 0 - 1 := tk_isub_id (by omega) (by omega)
  have e2 : tk_bo (0 ≤ c ∧ c ≤ μ 96 0 - 1) = tk_bo (0 ≤ c ∧ c < μ 96 0) := tk_bo_e (by omega)
  simp [tk_fn, tk_env, tk_sq, tk_sk, tk_if, tk_re, tk_rez, tk_rev, tk_xp, tk_se, tk_pf, tk_pfz, tk_pfo, tk_as, tk_asz, tk_asb, tk_aso, tk_cpy, tk_sw, tk_swc, tk_lit, tk_loc, tk_u1, tk_bin, tk_dv, tk_gf, tk_gr, tk_gn, tk_ald, tk_aldq, tk_aln, tk_unl, tk_una, tk_ter, tk_args, tk_cs, tk_cv, tk_ceq, tk_cne, tk_clt, tk_cge, tk_cgt, tk_cle, tk_zeq, tk_zne, tk_zlt, tk_zge, tk_zgt, tk_zle, tk_and, tk_or, tk_not, tk_ct2, tk_isC, List.headD_cons, tk_up, tk_sca, tk_scl, tkF_X7_isCurrency, tkS_X7_isCurrency, m_in, e, e2, tk_bo_or]
theorem m_isTape (t : Int) (Q : Int → tk_M → Prop) (μ : tk_M) : tkF_X7_isTape [96, t] Q μ = Q (tk_bo (0 ≤ t ∧ t ≤ 5)) μ := by
  simp [tk_fn, tk_env, tk_sq, tk_sk, tk_if, tk_re, tk_rez, tk_rev, tk_xp, tk_se, tk_pf, tk_pfz, tk_pfo, tk_as, tk_asz, tk_asb, tk_aso, tk_cpy, tk_sw, tk_swc, tk_lit, tk_loc, tk_u1, tk_bin, tk_dv, tk_gf, tk_gr, tk_gn, tk_ald, tk_aldq, tk_aln, tk_unl, tk_una, tk_ter, tk_args, tk_cs, tk_cv, tk_ceq, tk_cne, tk_clt, tk_cge, tk_cgt, tk_cle, tk_zeq, tk_zne, tk_zlt, tk_zge, tk_zgt, tk_zle, tk_and, tk_or, tk_not, tk_ct2, tk_isC, List.headD_cons, tk_up, tk_sca, tk_scl, tkF_X7_isTape, tkS_X7_isTape, m_in, tk_bo_or]
theorem m_atLeast (v l : Int) (Q : Int → tk_M → Prop) (μ : tk_M) : tkF_X7_atLeast [v, l] Q μ = Q (if v < l then l else tk_l2i v) μ := by
  simp only [tk_fn, tk_env, tk_sq, tk_sk, tk_if, tk_re, tk_rez, tk_rev, tk_xp, tk_se, tk_pf, tk_pfz, tk_pfo, tk_as, tk_asz, tk_asb, tk_aso, tk_cpy, tk_sw, tk_swc, tk_lit, tk_loc, tk_u1, tk_bin, tk_dv, tk_gf, tk_gr, tk_gn, tk_ald, tk_aldq, tk_aln, tk_unl, tk_una, tk_ter, tk_args, tk_cs, tk_cv, tk_ceq, tk_cne, tk_clt, tk_cge, tk_cgt, tk_cle, tk_zeq, tk_zne, tk_zlt, tk_zge, tk_zgt, tk_zle, tk_and, tk_or, tk_not, tk_ct2, tk_isC, List.headD_cons, tk_up, tk_sca, tk_scl, tkF_X7_atLeast, tkS_X7_atLeast]
  by_cases h : v < l <;> simp [h]
theorem m_aboveOf (k : Int) (Q : Int → tk_M → Prop) (μ : tk_M) : tkF_X7_aboveOf [k] Q μ = Q (if k = 0 then -1 else if k < 4 then 0 else tk_isub k 3) μ := by
  simp only [tk_fn, tk_env, tk_sq, tk_sk, tk_if, tk_re, tk_rez, tk_rev, tk_xp, tk_se, tk_pf, tk_pfz, tk_pfo, tk_as, tk_asz, tk_asb, tk_aso, tk_cpy, tk_sw, tk_swc, tk_lit, tk_loc, tk_u1, tk_bin, tk_dv, tk_gf, tk_gr, tk_gn, tk_ald, tk_aldq, tk_aln, tk_unl, tk_una, tk_ter, tk_args, tk_cs, tk_cv, tk_ceq, tk_cne, tk_clt, tk_cge, tk_cgt, tk_cle, tk_zeq, tk_zne, tk_zlt, tk_zge, tk_zgt, tk_zle, tk_and, tk_or, tk_not, tk_ct2, tk_isC, List.headD_cons, tk_up, tk_sca, tk_scl, tkF_X7_aboveOf, tkS_X7_aboveOf]
  by_cases h : k = 0 <;> by_cases h2 : k < 4 <;> simp [h, h2]
/-! the class's small ones -/
theorem x_isAmount (n : Int) (Q : Int → tk_M → Prop) (μ : tk_M) : tkF_X6_isAmount [n] Q μ = Q (tk_bo (1 ≤ n ∧ n ≤ 9999)) μ := by
  simp only [tk_fn, tk_env, tk_sq, tk_sk, tk_if, tk_re, tk_rez, tk_rev, tk_xp, tk_se, tk_pf, tk_pfz, tk_pfo, tk_as, tk_asz, tk_asb, tk_aso, tk_cpy, tk_sw, tk_swc, tk_lit, tk_loc, tk_u1, tk_bin, tk_dv, tk_gf, tk_gr, tk_gn, tk_ald, tk_aldq, tk_aln, tk_unl, tk_una, tk_ter, tk_args, tk_cs, tk_cv, tk_ceq, tk_cne, tk_clt, tk_cge, tk_cgt, tk_cle, tk_zeq, tk_zne, tk_zlt, tk_zge, tk_zgt, tk_zle, tk_and, tk_or, tk_not, tk_ct2, tk_isC, List.headD_cons, tk_up, tk_sca, tk_scl, tkF_X6_isAmount, tkS_X6_isAmount, tk_bo]
  by_cases h1 : 1 ≤ n <;> by_cases h2 : n ≤ 9999 <;> simp [h1, h2]
theorem x_isDigit (n : Int) (Q : Int → tk_M → Prop) (μ : tk_M) : tkF_X6_isDigit [n] Q μ = Q (tk_bo (0 ≤ n ∧ n ≤ 9)) μ := by
  simp only [tk_fn, tk_env, tk_sq, tk_sk, tk_if, tk_re, tk_rez, tk_rev, tk_xp, tk_se, tk_pf, tk_pfz, tk_pfo, tk_as, tk_asz, tk_asb, tk_aso, tk_cpy, tk_sw, tk_swc, tk_lit, tk_loc, tk_u1, tk_bin, tk_dv, tk_gf, tk_gr, tk_gn, tk_ald, tk_aldq, tk_aln, tk_unl, tk_una, tk_ter, tk_args, tk_cs, tk_cv, tk_ceq, tk_cne, tk_clt, tk_cge, tk_cgt, tk_cle, tk_zeq, tk_zne, tk_zlt, tk_zge, tk_zgt, tk_zle, tk_and, tk_or, tk_not, tk_ct2, tk_isC, List.headD_cons, tk_up, tk_sca, tk_scl, tkF_X6_isDigit, tkS_X6_isDigit, tk_bo]
  by_cases h1 : 0 ≤ n <;> by_cases h2 : n ≤ 9 <;> simp [h1, h2]
theorem x_isKind (n : Int) (Q : Int → tk_M → Prop) (μ : tk_M) : tkF_X6_isKind [n] Q μ = Q (tk_bo (0 ≤ n ∧ n ≤ 6)) μ := by
  simp only [tk_fn, tk_env, tk_sq, tk_sk, tk_if, tk_re, tk_rez, tk_rev, tk_xp, tk_se, tk_pf, tk_pfz, tk_pfo, tk_as, tk_asz, tk_asb, tk_aso, tk_cpy, tk_sw, tk_swc, tk_lit, tk_loc, tk_u1, tk_bin, tk_dv, tk_gf, tk_gr, tk_gn, tk_ald, tk_aldq, tk_aln, tk_unl, tk_una, tk_ter, tk_args, tk_cs, tk_cv, tk_ceq, tk_cne, tk_clt, tk_cge, tk_cgt, tk_cle, tk_zeq, tk_zne, tk_zlt, tk_zge, tk_zgt, tk_zle, tk_and, tk_or, tk_not, tk_ct2, tk_isC, List.headD_cons, tk_up, tk_sca, tk_scl, tkF_X6_isKind, tkS_X6_isKind, tk_bo]
  by_cases h1 : 0 ≤ n <;> by_cases h2 : n ≤ 6 <;> simp [h1, h2]
theorem x_isRun (n : Int) (Q : Int → tk_M → Prop) (μ : tk_M) : tkF_X6_isRun [n] Q μ = Q (tk_bo (0 ≤ n ∧ n ≤ 40)) μ := by
  simp only [tk_fn, tk_env, tk_sq, tk_sk, tk_if, tk_re, tk_rez, tk_rev, tk_xp, tk_se, tk_pf, tk_pfz, tk_pfo, tk_as, tk_asz, tk_asb, tk_aso, tk_cpy, tk_sw, tk_swc, tk_lit, tk_loc, tk_u1, tk_bin, tk_dv, tk_gf, tk_gr, tk_gn, tk_ald, tk_aldq, tk_aln, tk_unl, tk_una, tk_ter, tk_args, tk_cs, tk_cv, tk_ceq, tk_cne, tk_clt, tk_cge, tk_cgt, tk_cle, tk_zeq, tk_zne, tk_zlt, tk_zge, tk_zgt, tk_zle, tk_and, tk_or, tk_not, tk_ct2, tk_isC, List.headD_cons, tk_up, tk_sca, tk_scl, tkF_X6_isRun, tkS_X6_isRun, tk_bo]
  by_cases h1 : 0 ≤ n <;> by_cases h2 : n ≤ 40 <;> simp [h1, h2]
theorem x_isPart (n : Int) (Q : Int → tk_M → Prop) (μ : tk_M) : tkF_X6_isPart [n] Q μ = Q (tk_bo (n = 0 ∨ n = 1)) μ := by
  simp only [tk_fn, tk_env, tk_sq, tk_sk, tk_if, tk_re, tk_rez, tk_rev, tk_xp, tk_se, tk_pf, tk_pfz, tk_pfo, tk_as, tk_asz, tk_asb, tk_aso, tk_cpy, tk_sw, tk_swc, tk_lit, tk_loc, tk_u1, tk_bin, tk_dv, tk_gf, tk_gr, tk_gn, tk_ald, tk_aldq, tk_aln, tk_unl, tk_una, tk_ter, tk_args, tk_cs, tk_cv, tk_ceq, tk_cne, tk_clt, tk_cge, tk_cgt, tk_cle, tk_zeq, tk_zne, tk_zlt, tk_zge, tk_zgt, tk_zle, tk_and, tk_or, tk_not, tk_ct2, tk_isC, List.headD_cons, tk_up, tk_sca, tk_scl, tkF_X6_isPart, tkS_X6_isPart, tk_bo]
  by_cases h1 : n = 0 <;> by_cases h2 : n = 1 <;> simp [h1, h2]
theorem x_isTape (n : Int) (Q : Int → tk_M → Prop) (μ : tk_M) : tkF_X6_isTape [n] Q μ = Q (tk_bo (0 ≤ n ∧ n < 6)) μ := by
  simp only [tk_fn, tk_env, tk_sq, tk_sk, tk_if, tk_re, tk_rez, tk_rev, tk_xp, tk_se, tk_pf, tk_pfz, tk_pfo, tk_as, tk_asz, tk_asb, tk_aso, tk_cpy, tk_sw, tk_swc, tk_lit, tk_loc, tk_u1, tk_bin, tk_dv, tk_gf, tk_gr, tk_gn, tk_ald, tk_aldq, tk_aln, tk_unl, tk_una, tk_ter, tk_args, tk_cs, tk_cv, tk_ceq, tk_cne, tk_clt, tk_cge, tk_cgt, tk_cle, tk_zeq, tk_zne, tk_zlt, tk_zge, tk_zgt, tk_zle, tk_and, tk_or, tk_not, tk_ct2, tk_isC, List.headD_cons, tk_up, tk_sca, tk_scl, tkF_X6_isTape, tkS_X6_isTape, tk_bo]
  by_cases h1 : 0 ≤ n <;> by_cases h2 : n < 6 <;> simp [h1, h2]
theorem x_cutBy (a b : Int) (Q : Int → tk_M → Prop) (μ : tk_M) : tkF_X6_cutBy [a, b] Q μ = Q (if 0 < b then tk_ldiv a b else 0) μ := by
  simp only [tk_fn, tk_env, tk_sq, tk_sk, tk_if, tk_re, tk_rez, tk_rev, tk_xp, tk_se, tk_pf, tk_pfz, tk_pfo, tk_as, tk_asz, tk_asb, tk_aso, tk_cpy, tk_sw, tk_swc, tk_lit, tk_loc, tk_u1, tk_bin, tk_dv, tk_gf, tk_gr, tk_gn, tk_ald, tk_aldq, tk_aln, tk_unl, tk_una, tk_ter, tk_args, tk_cs, tk_cv, tk_ceq, tk_cne, tk_clt, tk_cge, tk_cgt, tk_cle, tk_zeq, tk_zne, tk_zlt, tk_zge, tk_zgt, tk_zle, tk_and, tk_or, tk_not, tk_ct2, tk_isC, List.headD_cons, tk_up, tk_sca, tk_scl, tkF_X6_cutBy, tkS_X6_cutBy]
  by_cases h1 : 0 < b
  · have h2 : ¬ b = 0 := by omega
    simp [h1, h2]
  · simp [h1]
theorem x_hasCurrency (h n : Int) (Q : Int → tk_M → Prop) (μ : tk_M) (hh : h = 1 ∨ h = 31 ∨ h = 61) : tkF_X2_hasCurrency [h, n] Q μ = Q (tk_bo (0 ≤ n ∧ n < μ h 0)) μ := by
  simp only [tk_fn, tk_env, tk_sq, tk_sk, tk_if, tk_re, tk_rez, tk_rev, tk_xp, tk_se, tk_pf, tk_pfz, tk_pfo, tk_as, tk_asz, tk_asb, tk_aso, tk_cpy, tk_sw, tk_swc, tk_lit, tk_loc, tk_u1, tk_bin, tk_dv, tk_gf, tk_gr, tk_gn, tk_ald, tk_aldq, tk_aln, tk_unl, tk_una, tk_ter, tk_args, tk_cs, tk_cv, tk_ceq, tk_cne, tk_clt, tk_cge, tk_cgt, tk_cle, tk_zeq, tk_zne, tk_zlt, tk_zge, tk_zgt, tk_zle, tk_and, tk_or, tk_not, tk_ct2, tk_isC, List.headD_cons, tk_up, tk_sca, tk_scl, tkF_X2_hasCurrency, tkS_X2_hasCurrency, tk_bo]
  by_cases h1 : 0 ≤ n <;> by_cases h2 : n < μ h 0 <;> simp [h1, h2, hh]
theorem x_hasTicket (h n : Int) (Q : Int → tk_M → Prop) (μ : tk_M) (hh : h = 1 ∨ h = 31 ∨ h = 61) : tkF_X2_hasTicket [h, n] Q μ = Q (tk_bo (0 ≤ n ∧ n < μ h 1)) μ := by
  simp only [tk_fn, tk_env, tk_sq, tk_sk, tk_if, tk_re, tk_rez, tk_rev, tk_xp, tk_se, tk_pf, tk_pfz, tk_pfo, tk_as, tk_asz, tk_asb, tk_aso, tk_cpy, tk_sw, tk_swc, tk_lit, tk_loc, tk_u1, tk_bin, tk_dv, tk_gf, tk_gr, tk_gn, tk_ald, tk_aldq, tk_aln, tk_unl, tk_una, tk_ter, tk_args, tk_cs, tk_cv, tk_ceq, tk_cne, tk_clt, tk_cge, tk_cgt, tk_cle, tk_zeq, tk_zne, tk_zlt, tk_zge, tk_zgt, tk_zle, tk_and, tk_or, tk_not, tk_ct2, tk_isC, List.headD_cons, tk_up, tk_sca, tk_scl, tkF_X2_hasTicket, tkS_X2_hasTicket, tk_bo]
  by_cases h1 : 0 ≤ n <;> by_cases h2 : n < μ h 1 <;> simp [h1, h2, hh]
theorem x_hasClient (h n : Int) (Q : Int → tk_M → Prop) (μ : tk_M) (hh : h = 1 ∨ h = 31 ∨ h = 61) : tkF_X2_hasClient [h, n] Q μ = Q (tk_bo (0 ≤ n ∧ n < μ h 2)) μ := by
  simp only [tk_fn, tk_env, tk_sq, tk_sk, tk_if, tk_re, tk_rez, tk_rev, tk_xp, tk_se, tk_pf, tk_pfz, tk_pfo, tk_as, tk_asz, tk_asb, tk_aso, tk_cpy, tk_sw, tk_swc, tk_lit, tk_loc, tk_u1, tk_bin, tk_dv, tk_gf, tk_gr, tk_gn, tk_ald, tk_aldq, tk_aln, tk_unl, tk_una, tk_ter, tk_args, tk_cs, tk_cv, tk_ceq, tk_cne, tk_clt, tk_cge, tk_cgt, tk_cle, tk_zeq, tk_zne, tk_zlt, tk_zge, tk_zgt, tk_zle, tk_and, tk_or, tk_not, tk_ct2, tk_isC, List.headD_cons, tk_up, tk_sca, tk_scl, tkF_X2_hasClient, tkS_X2_hasClient, tk_bo]
  by_cases h1 : 0 ≤ n <;> by_cases h2 : n < μ h 2 <;> simp [h1, h2, hh]
