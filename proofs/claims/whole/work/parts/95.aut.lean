/-! ===== Layer 2: FUNDS, read sign by sign ===== -/
def tk_aok (s : Int) (a : Int → Int) : Prop := (a 0 = 0 ∧ (s = 112 ∨ s = 99)) ∨ (a 0 = 1 ∧ (48 ≤ s ∧ s ≤ 57)) ∨ (a 0 = 2 ∧ s = 60) ∨ (a 0 = 3 ∧ (48 ≤ s ∧ s ≤ 57)) ∨ (a 0 = 4 ∧ (s = 99 ∨ ((48 ≤ s ∧ s ≤ 57) ∧ a 2 < 4))) ∨ (a 0 = 5 ∧ (48 ≤ s ∧ s ≤ 57)) ∨ (a 0 = 6 ∧ (s = 43 ∨ (s = 59 ∧ a 1 < 8)))
def tk_ap (s : Int) (a : Int → Int) : Int → Int := fun f =>
  if a 0 = 0 then (if f = 0 then 1 else if f = 3 then (if s = 112 then 1 else 0) else a f)
  else if a 0 = 1 then (if f = 0 then 2 else if f = 4 then s - 48 else a f)
  else if a 0 = 2 then (if f = 0 then 3 else a f)
  else if a 0 = 3 then (if f = 0 then 4 else if f = 5 then s - 48 else if f = 2 then 1 else a f)
  else if a 0 = 4 then (if s = 99 then (if f = 0 then 5 else a f) else (if f = 5 then a 5 * 10 + s - 48 else if f = 2 then a 2 + 1 else a f))
  else if a 0 = 5 then (if f = 0 then 6 else if f = 6 then s - 48 else a f)
  else (if s = 43 then (if f = 0 then 3 else a f) else (if f = 0 then 0 else if f = 1 then a 1 + 1 else a f))
def tk_az (T : Int → Int) : Nat → Int → Int
  | 0 => fun f => if f = 1 then 1 else 0
  | k + 1 => tk_ap (T k) (tk_az T k)
def tk_acc (T : Int → Int) (p : Nat) : Prop := ∀ j : Nat, j < p → tk_aok (T j) (tk_az T j)
theorem tk_acc_s {T : Int → Int} {p : Nat} (h : tk_acc T p) (h2 : tk_aok (T p) (tk_az T p)) : tk_acc T (p + 1) := fun j hj => by
  by_cases hjp : j = p
  · subst hjp; exact h2
  · exact h j (by omega)
theorem tk_acc_p {T : Int → Int} {p q : Nat} (h : tk_acc T p) (hq : q ≤ p) : tk_acc T q := fun j hj => h j (by omega)
/-- what holds of how far it is -/
def tk_abq (a : Int → Int) : Prop := (0 ≤ a 0 ∧ a 0 ≤ 6) ∧ (1 ≤ a 1 ∧ a 1 ≤ 8) ∧ (a 3 = 0 ∨ a 3 = 1) ∧ (0 ≤ a 4 ∧ a 4 ≤ 9) ∧ (0 ≤ a 2 ∧ a 2 ≤ 4) ∧ (0 ≤ a 5 ∧ a 5 ≤ 9999) ∧ (a 2 = 1 → a 5 ≤ 9) ∧ (a 2 = 2 → a 5 ≤ 99) ∧ (a 2 = 3 → a 5 ≤ 999) ∧ (a 0 = 4 → 1 ≤ a 2) ∧ (0 ≤ a 6 ∧ a 6 ≤ 9)
theorem tk_ab_s {s : Int} {a : Int → Int} (h : tk_abq a) (hk : tk_aok s a) : tk_abq (tk_ap s a) := by
  unfold tk_abq at *
  rcases hk with ⟨h0, hs⟩ | ⟨h0, hs⟩ | ⟨h0, hs⟩ | ⟨h0, hs⟩ | ⟨h0, hs⟩ | ⟨h0, hs⟩ | ⟨h0, hs⟩
  · simp [tk_ap, h0]
    refine ⟨by omega, ?_, by omega, by omega, by omega, by omega, by omega, by omega, by omega⟩
    by_cases h5 : s = 112 <;> simp [h5]
  · simp [tk_ap, h0]; omega
  · simp [tk_ap, h0]; omega
  · simp [tk_ap, h0]; omega
  · by_cases h9 : s = 99
    · simp [tk_ap, h0, h9]; omega
    · simp [tk_ap, h0, h9]; omega
  · simp [tk_ap, h0]; omega
  · by_cases h9 : s = 43
    · simp [tk_ap, h0, h9]; omega
    · simp [tk_ap, h0, h9]; omega
theorem tk_ab_az {T : Int → Int} (p : Nat) (h : tk_acc T p) : tk_abq (tk_az T p) := by
  induction p with
  | zero => unfold tk_abq tk_az; simp
  | succ p ih => exact tk_ab_s (ih (tk_acc_p h (by omega))) (h p (by omega))
/-- alike as far as it matters -/
def tk_raq (a b : Int → Int) : Prop := a 0 = b 0 ∧ a 1 = b 1 ∧ (1 ≤ b 0 → a 3 = b 3) ∧ (2 ≤ b 0 → a 4 = b 4) ∧ (4 ≤ b 0 → a 5 = b 5 ∧ a 2 = b 2) ∧ (6 ≤ b 0 → a 6 = b 6)
theorem x_takes_0 {s : Int} {b : Int → Int} {μ : tk_M} {Q : Int → tk_M → Prop} (hs : 0 ≤ s ∧ s ≤ 127) (hb : tk_abq b) (hr : tk_raq (fun f => μ 82 f) b) (h1 : tk_aok s b → ∀ μ', (∀ o i : Int, ¬ o = 82 → μ' o i = μ o i) → tk_raq (fun f => μ' 82 f) (tk_ap s b) → Q 1 μ') (h0 : ¬ tk_aok s b → ∀ μ', (∀ o i : Int, ¬ o = 82 → μ' o i = μ o i) → Q 0 μ') (hp : b 0 = 0) : tkF_X1_takes [82, s] Q μ := by
  obtain ⟨r0, r1, r3, r4, r5, r6⟩ := hr
  dsimp only at r0 r1 r3 r4 r5 r6
  have e0 : μ 82 0 = 0 := by rw [r0, hp]
  by_cases ha : s = 112
  · simp [tk_fn, tk_env, tk_sq, tk_sk, tk_if, tk_re, tk_rez, tk_rev, tk_xp, tk_se, tk_pf, tk_pfz, tk_pfo, tk_as, tk_asz, tk_asb, tk_aso, tk_cpy, tk_sw, tk_swc, tk_lit, tk_loc, tk_u1, tk_bin, tk_dv, tk_gf, tk_gr, tk_gn, tk_ald, tk_aldq, tk_aln, tk_unl, tk_una, tk_ter, tk_args, tk_cs, tk_cv, tk_ceq, tk_cne, tk_clt, tk_cge, tk_cgt, tk_cle, tk_zeq, tk_zne, tk_zlt, tk_zge, tk_zgt, tk_zle, tk_and, tk_or, tk_not, tk_ct2, tk_isC, List.headD_cons, tk_up, tk_sca, tk_scl, tkF_X1_takes, tkS_X1_takes, tkF_X1_goesOn, tkS_X1_goesOn, tkF_X1_takesWho, tkS_X1_takesWho, tkF_X1_takesWhoDigit, tkS_X1_takesWhoDigit, tkF_X1_takesFirstDigit, tkS_X1_takesFirstDigit, tkF_X1_takesDigitOrSign, tkS_X1_takesDigitOrSign, tkF_X1_takesCurrency, tkS_X1_takesCurrency, tkF_X1_takesBehind, tkS_X1_takesBehind, tk_set_j, tk_set_o, tk_set_eq, e0, eq_true ha]
    refine h1 (.inl ⟨hp, .inl ha⟩) _ (fun o i ho => by simp [tk_set, ho]) ?_
    unfold tk_raq tk_ap
    simp [tk_set, hp, ha, r1]
  by_cases hc : s = 99
  · simp [tk_fn, tk_env, tk_sq, tk_sk, tk_if, tk_re, tk_rez, tk_rev, tk_xp, tk_se, tk_pf, tk_pfz, tk_pfo, tk_as, tk_asz, tk_asb, tk_aso, tk_cpy, tk_sw, tk_swc, tk_lit, tk_loc, tk_u1, tk_bin, tk_dv, tk_gf, tk_gr, tk_gn, tk_ald, tk_aldq, tk_aln, tk_unl, tk_una, tk_ter, tk_args, tk_cs, tk_cv, tk_ceq, tk_cne, tk_clt, tk_cge, tk_cgt, tk_cle, tk_zeq, tk_zne, tk_zlt, tk_zge, tk_zgt, tk_zle, tk_and, tk_or, tk_not, tk_ct2, tk_isC, List.headD_cons, tk_up, tk_sca, tk_scl, tkF_X1_takes, tkS_X1_takes, tkF_X1_goesOn, tkS_X1_goesOn, tkF_X1_takesWho, tkS_X1_takesWho, tkF_X1_takesWhoDigit, tkS_X1_takesWhoDigit, tkF_X1_takesFirstDigit, tkS_X1_takesFirstDigit, tkF_X1_takesDigitOrSign, tkS_X1_takesDigitOrSign, tkF_X1_takesCurrency, tkS_X1_takesCurrency, tkF_X1_takesBehind, tkS_X1_takesBehind, tk_set_j, tk_set_o, tk_set_eq, e0, ha, eq_true hc]
    refine h1 (.inl ⟨hp, .inr hc⟩) _ (fun o i ho => by simp [tk_set, ho]) ?_
    unfold tk_raq tk_ap
    simp [tk_set, hp, ha, r1]
  · simp [tk_fn, tk_env, tk_sq, tk_sk, tk_if, tk_re, tk_rez, tk_rev, tk_xp, tk_se, tk_pf, tk_pfz, tk_pfo, tk_as, tk_asz, tk_asb, tk_aso, tk_cpy, tk_sw, tk_swc, tk_lit, tk_loc, tk_u1, tk_bin, tk_dv, tk_gf, tk_gr, tk_gn, tk_ald, tk_aldq, tk_aln, tk_unl, tk_una, tk_ter, tk_args, tk_cs, tk_cv, tk_ceq, tk_cne, tk_clt, tk_cge, tk_cgt, tk_cle, tk_zeq, tk_zne, tk_zlt, tk_zge, tk_zgt, tk_zle, tk_and, tk_or, tk_not, tk_ct2, tk_isC, List.headD_cons, tk_up, tk_sca, tk_scl, tkF_X1_takes, tkS_X1_takes, tkF_X1_goesOn, tkS_X1_goesOn, tkF_X1_takesWho, tkS_X1_takesWho, tkF_X1_takesWhoDigit, tkS_X1_takesWhoDigit, tkF_X1_takesFirstDigit, tkS_X1_takesFirstDigit, tkF_X1_takesDigitOrSign, tkS_X1_takesDigitOrSign, tkF_X1_takesCurrency, tkS_X1_takesCurrency, tkF_X1_takesBehind, tkS_X1_takesBehind, tk_set_j, tk_set_o, tk_set_eq, e0, ha, hc]
    refine h0 ?_ _ (fun o i ho => by simp [tk_set, ho])
    unfold tk_aok
    omega
theorem x_takes_1 {s : Int} {b : Int → Int} {μ : tk_M} {Q : Int → tk_M → Prop} (hs : 0 ≤ s ∧ s ≤ 127) (hb : tk_abq b) (hr : tk_raq (fun f => μ 82 f) b) (h1 : tk_aok s b → ∀ μ', (∀ o i : Int, ¬ o = 82 → μ' o i = μ o i) → tk_raq (fun f => μ' 82 f) (tk_ap s b) → Q 1 μ') (h0 : ¬ tk_aok s b → ∀ μ', (∀ o i : Int, ¬ o = 82 → μ' o i = μ o i) → Q 0 μ') (hp : b 0 = 1) : tkF_X1_takes [82, s] Q μ := by
  obtain ⟨r0, r1, r3, r4, r5, r6⟩ := hr
  dsimp only at r0 r1 r3 r4 r5 r6
  have e0 : μ 82 0 = 1 := by rw [r0, hp]
  have l1 : tk_isub s 48 = s - 48 := tk_isub_id (by omega) (by omega)
  by_cases ha : 0 ≤ s - 48 ∧ s - 48 ≤ 9
  · have hd : ∀ (R : Int → tk_M → Prop) (m : tk_M), tkF_X6_isDigit [s - 48] R m = R 1 m := fun R m => by rw [x_isDigit, tk_bo_t ha]
    simp [tk_fn, tk_env, tk_sq, tk_sk, tk_if, tk_re, tk_rez, tk_rev, tk_xp, tk_se, tk_pf, tk_pfz, tk_pfo, tk_as, tk_asz, tk_asb, tk_aso, tk_cpy, tk_sw, tk_swc, tk_lit, tk_loc, tk_u1, tk_bin, tk_dv, tk_gf, tk_gr, tk_gn, tk_ald, tk_aldq, tk_aln, tk_unl, tk_una, tk_ter, tk_args, tk_cs, tk_cv, tk_ceq, tk_cne, tk_clt, tk_cge, tk_cgt, tk_cle, tk_zeq, tk_zne, tk_zlt, tk_zge, tk_zgt, tk_zle, tk_and, tk_or, tk_not, tk_ct2, tk_isC, List.headD_cons, tk_up, tk_sca, tk_scl, tkF_X1_takes, tkS_X1_takes, tkF_X1_goesOn, tkS_X1_goesOn, tkF_X1_takesWho, tkS_X1_takesWho, tkF_X1_takesWhoDigit, tkS_X1_takesWhoDigit, tkF_X1_takesFirstDigit, tkS_X1_takesFirstDigit, tkF_X1_takesDigitOrSign, tkS_X1_takesDigitOrSign, tkF_X1_takesCurrency, tkS_X1_takesCurrency, tkF_X1_takesBehind, tkS_X1_takesBehind, tk_set_j, tk_set_o, tk_set_eq, e0, l1, hd]
    refine h1 (by unfold tk_aok; omega) _ (fun o i ho => by simp [tk_set, ho]) ?_
    unfold tk_raq tk_ap
    simp [tk_set, hp, r1, r3 (by omega)]
  · have hd : ∀ (R : Int → tk_M → Prop) (m : tk_M), tkF_X6_isDigit [s - 48] R m = R 0 m := fun R m => by rw [x_isDigit, tk_bo_f ha]
    simp [tk_fn, tk_env, tk_sq, tk_sk, tk_if, tk_re, tk_rez, tk_rev, tk_xp, tk_se, tk_pf, tk_pfz, tk_pfo, tk_as, tk_asz, tk_asb, tk_aso, tk_cpy, tk_sw, tk_swc, tk_lit, tk_loc, tk_u1, tk_bin, tk_dv, tk_gf, tk_gr, tk_gn, tk_ald, tk_aldq, tk_aln, tk_unl, tk_una, tk_ter, tk_args, tk_cs, tk_cv, tk_ceq, tk_cne, tk_clt, tk_cge, tk_cgt, tk_cle, tk_zeq, tk_zne, tk_zlt, tk_zge, tk_zgt, tk_zle, tk_and, tk_or, tk_not, tk_ct2, tk_isC, List.headD_cons, tk_up, tk_sca, tk_scl, tkF_X1_takes, tkS_X1_takes, tkF_X1_goesOn, tkS_X1_goesOn, tkF_X1_takesWho, tkS_X1_takesWho, tkF_X1_takesWhoDigit, tkS_X1_takesWhoDigit, tkF_X1_takesFirstDigit, tkS_X1_takesFirstDigit, tkF_X1_takesDigitOrSign, tkS_X1_takesDigitOrSign, tkF_X1_takesCurrency, tkS_X1_takesCurrency, tkF_X1_takesBehind, tkS_X1_takesBehind, tk_set_j, tk_set_o, tk_set_eq, e0, l1, hd]
    refine h0 ?_ _ (fun o i ho => by simp [tk_set, ho])
    unfold tk_aok
    omega
theorem x_takes_2 {s : Int} {b : Int → Int} {μ : tk_M} {Q : Int → tk_M → Prop} (hs : 0 ≤ s ∧ s ≤ 127) (hb : tk_abq b) (hr : tk_raq (fun f => μ 82 f) b) (h1 : tk_aok s b → ∀ μ', (∀ o i : Int, ¬ o = 82 → μ' o i = μ o i) → tk_raq (fun f => μ' 82 f) (tk_ap s b) → Q 1 μ') (h0 : ¬ tk_aok s b → ∀ μ', (∀ o i : Int, ¬ o = 82 → μ' o i = μ o i) → Q 0 μ') (hp : b 0 = 2) : tkF_X1_takes [82, s] Q μ := by
  obtain ⟨r0, r1, r3, r4, r5, r6⟩ := hr
  dsimp only at r0 r1 r3 r4 r5 r6
  have e0 : μ 82 0 = 2 := by rw [r0, hp]
  by_cases ha : s = 60
  · simp [tk_fn, tk_env, tk_sq, tk_sk, tk_if, tk_re, tk_rez, tk_rev, tk_xp, tk_se, tk_pf, tk_pfz, tk_pfo, tk_as, tk_asz, tk_asb, tk_aso, tk_cpy, tk_sw, tk_swc, tk_lit, tk_loc, tk_u1, tk_bin, tk_dv, tk_gf, tk_gr, tk_gn, tk_ald, tk_aldq, tk_aln, tk_unl, tk_una, tk_ter, tk_args, tk_cs, tk_cv, tk_ceq, tk_cne, tk_clt, tk_cge, tk_cgt, tk_cle, tk_zeq, tk_zne, tk_zlt, tk_zge, tk_zgt, tk_zle, tk_and, tk_or, tk_not, tk_ct2, tk_isC, List.headD_cons, tk_up, tk_sca, tk_scl, tkF_X1_takes, tkS_X1_takes, tkF_X1_goesOn, tkS_X1_goesOn, tkF_X1_takesWho, tkS_X1_takesWho, tkF_X1_takesWhoDigit, tkS_X1_takesWhoDigit, tkF_X1_takesFirstDigit, tkS_X1_takesFirstDigit, tkF_X1_takesDigitOrSign, tkS_X1_takesDigitOrSign, tkF_X1_takesCurrency, tkS_X1_takesCurrency, tkF_X1_takesBehind, tkS_X1_takesBehind, tk_set_j, tk_set_o, tk_set_eq, e0, eq_true ha]
    refine h1 (by unfold tk_aok; omega) _ (fun o i ho => by simp [tk_set, ho]) ?_
    unfold tk_raq tk_ap
    simp [tk_set, hp, r1, r3 (by omega), r4 (by omega)]
  · simp [tk_fn, tk_env, tk_sq, tk_sk, tk_if, tk_re, tk_rez, tk_rev, tk_xp, tk_se, tk_pf, tk_pfz, tk_pfo, tk_as, tk_asz, tk_asb, tk_aso, tk_cpy, tk_sw, tk_swc, tk_lit, tk_loc, tk_u1, tk_bin, tk_dv, tk_gf, tk_gr, tk_gn, tk_ald, tk_aldq, tk_aln, tk_unl, tk_una, tk_ter, tk_args, tk_cs, tk_cv, tk_ceq, tk_cne, tk_clt, tk_cge, tk_cgt, tk_cle, tk_zeq, tk_zne, tk_zlt, tk_zge, tk_zgt, tk_zle, tk_and, tk_or, tk_not, tk_ct2, tk_isC, List.headD_cons, tk_up, tk_sca, tk_scl, tkF_X1_takes, tkS_X1_takes, tkF_X1_goesOn, tkS_X1_goesOn, tkF_X1_takesWho, tkS_X1_takesWho, tkF_X1_takesWhoDigit, tkS_X1_takesWhoDigit, tkF_X1_takesFirstDigit, tkS_X1_takesFirstDigit, tkF_X1_takesDigitOrSign, tkS_X1_takesDigitOrSign, tkF_X1_takesCurrency, tkS_X1_takesCurrency, tkF_X1_takesBehind, tkS_X1_takesBehind, tk_set_j, tk_set_o, tk_set_eq, e0, ha]
    refine h0 ?_ _ (fun o i ho => by simp [tk_set, ho])
    unfold tk_aok
    omega
theorem x_takes_3 {s : Int} {b : Int → Int} {μ : tk_M} {Q : Int → tk_M → Prop} (hs : 0 ≤ s ∧ s ≤ 127) (hb : tk_abq b) (hr : tk_raq (fun f => μ 82 f) b) (h1 : tk_aok s b → ∀ μ', (∀ o i : Int, ¬ o = 82 → μ' o i = μ o i) → tk_raq (fun f => μ' 82 f) (tk_ap s b) → Q 1 μ') (h0 : ¬ tk_aok s b → ∀ μ', (∀ o i : Int, ¬ o = 82 → μ' o i = μ o i) → Q 0 μ') (hp : b 0 = 3) : tkF_X1_takes [82, s] Q μ := by
  obtain ⟨r0, r1, r3, r4, r5, r6⟩ := hr
  dsimp only at r0 r1 r3 r4 r5 r6
  have e0 : μ 82 0 = 3 := by rw [r0, hp]
  have l1 : tk_isub s 48 = s - 48 := tk_isub_id (by omega) (by omega)
  by_cases ha : 0 ≤ s - 48 ∧ s - 48 ≤ 9
  · have hd : ∀ (R : Int → tk_M → Prop) (m : tk_M), tkF_X6_isDigit [s - 48] R m = R 1 m := fun R m => by rw [x_isDigit, tk_bo_t ha]
    simp [tk_fn, tk_env, tk_sq, tk_sk, tk_if, tk_re, tk_rez, tk_rev, tk_xp, tk_se, tk_pf, tk_pfz, tk_pfo, tk_as, tk_asz, tk_asb, tk_aso, tk_cpy, tk_sw, tk_swc, tk_lit, tk_loc, tk_u1, tk_bin, tk_dv, tk_gf, tk_gr, tk_gn, tk_ald, tk_aldq, tk_aln, tk_unl, tk_una, tk_ter, tk_args, tk_cs, tk_cv, tk_ceq, tk_cne, tk_clt, tk_cge, tk_cgt, tk_cle, tk_zeq, tk_zne, tk_zlt, tk_zge, tk_zgt, tk_zle, tk_and, tk_or, tk_not, tk_ct2, tk_isC, List.headD_cons, tk_up, tk_sca, tk_scl, tkF_X1_takes, tkS_X1_takes, tkF_X1_goesOn, tkS_X1_goesOn, tkF_X1_takesWho, tkS_X1_takesWho, tkF_X1_takesWhoDigit, tkS_X1_takesWhoDigit, tkF_X1_takesFirstDigit, tkS_X1_takesFirstDigit, tkF_X1_takesDigitOrSign, tkS_X1_takesDigitOrSign, tkF_X1_takesCurrency, tkS_X1_takesCurrency, tkF_X1_takesBehind, tkS_X1_takesBehind, tk_set_j, tk_set_o, tk_set_eq, e0, l1, hd]
    refine h1 (by unfold tk_aok; omega) _ (fun o i ho => by simp [tk_set, ho]) ?_
    unfold tk_raq tk_ap
    simp [tk_set, hp, r1, r3 (by omega), r4 (by omega)]
  · have hd : ∀ (R : Int → tk_M → Prop) (m : tk_M), tkF_X6_isDigit [s - 48] R m = R 0 m := fun R m => by rw [x_isDigit, tk_bo_f ha]
    simp [tk_fn, tk_env, tk_sq, tk_sk, tk_if, tk_re, tk_rez, tk_rev, tk_xp, tk_se, tk_pf, tk_pfz, tk_pfo, tk_as, tk_asz, tk_asb, tk_aso, tk_cpy, tk_sw, tk_swc, tk_lit, tk_loc, tk_u1, tk_bin, tk_dv, tk_gf, tk_gr, tk_gn, tk_ald, tk_aldq, tk_aln, tk_unl, tk_una, tk_ter, tk_args, tk_cs, tk_cv, tk_ceq, tk_cne, tk_clt, tk_cge, tk_cgt, tk_cle, tk_zeq, tk_zne, tk_zlt, tk_zge, tk_zgt, tk_zle, tk_and, tk_or, tk_not, tk_ct2, tk_isC, List.headD_cons, tk_up, tk_sca, tk_scl, tkF_X1_takes, tkS_X1_takes, tkF_X1_goesOn, tkS_X1_goesOn, tkF_X1_takesWho, tkS_X1_takesWho, tkF_X1_takesWhoDigit, tkS_X1_takesWhoDigit, tkF_X1_takesFirstDigit, tkS_X1_takesFirstDigit, tkF_X1_takesDigitOrSign, tkS_X1_takesDigitOrSign, tkF_X1_takesCurrency, tkS_X1_takesCurrency, tkF_X1_takesBehind, tkS_X1_takesBehind, tk_set_j, tk_set_o, tk_set_eq, e0, l1, hd]
    refine h0 ?_ _ (fun o i ho => by simp [tk_set, ho])
    unfold tk_aok
    omega
theorem x_takes_4 {s : Int} {b : Int → Int} {μ : tk_M} {Q : Int → tk_M → Prop} (hs : 0 ≤ s ∧ s ≤ 127) (hb : tk_abq b) (hr : tk_raq (fun f => μ 82 f) b) (h1 : tk_aok s b → ∀ μ', (∀ o i : Int, ¬ o = 82 → μ' o i = μ o i) → tk_raq (fun f => μ' 82 f) (tk_ap s b) → Q 1 μ') (h0 : ¬ tk_aok s b → ∀ μ', (∀ o i : Int, ¬ o = 82 → μ' o i = μ o i) → Q 0 μ') (hp : b 0 = 4) : tkF_X1_takes [82, s] Q μ := by
  obtain ⟨r0, r1, r3, r4, r5, r6⟩ := hr
  dsimp only at r0 r1 r3 r4 r5 r6
  obtain ⟨b0, b1, b3, b4, b2, b5, -⟩ := hb
  have e0 : μ 82 0 = 4 := by rw [r0, hp]
  have e2 : μ 82 2 = b 2 := (r5 (by omega)).2
  have e5 : μ 82 5 = b 5 := (r5 (by omega)).1
  have l1 : tk_isub s 48 = s - 48 := tk_isub_id (by omega) (by omega)
  by_cases hc : s = 99
  · simp [tk_fn, tk_env, tk_sq, tk_sk, tk_if, tk_re, tk_rez, tk_rev, tk_xp, tk_se, tk_pf, tk_pfz, tk_pfo, tk_as, tk_asz, tk_asb, tk_aso, tk_cpy, tk_sw, tk_swc, tk_lit, tk_loc, tk_u1, tk_bin, tk_dv, tk_gf, tk_gr, tk_gn, tk_ald, tk_aldq, tk_aln, tk_unl, tk_una, tk_ter, tk_args, tk_cs, tk_cv, tk_ceq, tk_cne, tk_clt, tk_cge, tk_cgt, tk_cle, tk_zeq, tk_zne, tk_zlt, tk_zge, tk_zgt, tk_zle, tk_and, tk_or, tk_not, tk_ct2, tk_isC, List.headD_cons, tk_up, tk_sca, tk_scl, tkF_X1_takes, tkS_X1_takes, tkF_X1_goesOn, tkS_X1_goesOn, tkF_X1_takesWho, tkS_X1_takesWho, tkF_X1_takesWhoDigit, tkS_X1_takesWhoDigit, tkF_X1_takesFirstDigit, tkS_X1_takesFirstDigit, tkF_X1_takesDigitOrSign, tkS_X1_takesDigitOrSign, tkF_X1_takesCurrency, tkS_X1_takesCurrency, tkF_X1_takesBehind, tkS_X1_takesBehind, tk_set_j, tk_set_o, tk_set_eq, e0, eq_true hc]
    refine h1 (by unfold tk_aok; omega) _ (fun o i ho => by simp [tk_set, ho]) ?_
    unfold tk_raq tk_ap
    simp [tk_set, hp, hc, r1, r3 (by omega), r4 (by omega), e2, e5]
  by_cases ha : 0 ≤ s - 48 ∧ s - 48 ≤ 9
  · have hd : ∀ (R : Int → tk_M → Prop) (m : tk_M), tkF_X6_isDigit [s - 48] R m = R 1 m := fun R m => by rw [x_isDigit, tk_bo_t ha]
    by_cases h4 : 4 ≤ b 2
    · simp [tk_fn, tk_env, tk_sq, tk_sk, tk_if, tk_re, tk_rez, tk_rev, tk_xp, tk_se, tk_pf, tk_pfz, tk_pfo, tk_as, tk_asz, tk_asb, tk_aso, tk_cpy, tk_sw, tk_swc, tk_lit, tk_loc, tk_u1, tk_bin, tk_dv, tk_gf, tk_gr, tk_gn, tk_ald, tk_aldq, tk_aln, tk_unl, tk_una, tk_ter, tk_args, tk_cs, tk_cv, tk_ceq, tk_cne, tk_clt, tk_cge, tk_cgt, tk_cle, tk_zeq, tk_zne, tk_zlt, tk_zge, tk_zgt, tk_zle, tk_and, tk_or, tk_not, tk_ct2, tk_isC, List.headD_cons, tk_up, tk_sca, tk_scl, tkF_X1_takes, tkS_X1_takes, tkF_X1_goesOn, tkS_X1_goesOn, tkF_X1_takesWho, tkS_X1_takesWho, tkF_X1_takesWhoDigit, tkS_X1_takesWhoDigit, tkF_X1_takesFirstDigit, tkS_X1_takesFirstDigit, tkF_X1_takesDigitOrSign, tkS_X1_takesDigitOrSign, tkF_X1_takesCurrency, tkS_X1_takesCurrency, tkF_X1_takesBehind, tkS_X1_takesBehind, tk_set_j, tk_set_o, tk_set_eq, e0, hc, l1, hd, e2, h4]
      refine h0 ?_ _ (fun o i ho => by simp [tk_set, ho])
      unfold tk_aok
      omega
    · have l2 : tk_imul (b 5) 10 = b 5 * 10 := tk_imul_id (by omega) (by omega)
      have l3 : tk_iadd (b 5 * 10) s = b 5 * 10 + s := tk_iadd_id (by omega) (by omega)
      have l4 : tk_isub (b 5 * 10 + s) 48 = b 5 * 10 + s - 48 := tk_isub_id (by omega) (by omega)
      have l5 : tk_iadd (b 2) 1 = b 2 + 1 := tk_iadd_id (by omega) (by omega)
      simp [tk_fn, tk_env, tk_sq, tk_sk, tk_if, tk_re, tk_rez, tk_rev, tk_xp, tk_se, tk_pf, tk_pfz, tk_pfo, tk_as, tk_asz, tk_asb, tk_aso, tk_cpy, tk_sw, tk_swc, tk_lit, tk_loc, tk_u1, tk_bin, tk_dv, tk_gf, tk_gr, tk_gn, tk_ald, tk_aldq, tk_aln, tk_unl, tk_una, tk_ter, tk_args, tk_cs, tk_cv, tk_ceq, tk_cne, tk_clt, tk_cge, tk_cgt, tk_cle, tk_zeq, tk_zne, tk_zlt, tk_zge, tk_zgt, tk_zle, tk_and, tk_or, tk_not, tk_ct2, tk_isC, List.headD_cons, tk_up, tk_sca, tk_scl, tkF_X1_takes, tkS_X1_takes, tkF_X1_goesOn, tkS_X1_goesOn, tkF_X1_takesWho, tkS_X1_takesWho, tkF_X1_takesWhoDigit, tkS_X1_takesWhoDigit, tkF_X1_takesFirstDigit, tkS_X1_takesFirstDigit, tkF_X1_takesDigitOrSign, tkS_X1_takesDigitOrSign, tkF_X1_takesCurrency, tkS_X1_takesCurrency, tkF_X1_takesBehind, tkS_X1_takesBehind, tk_set_j, tk_set_o, tk_set_eq, e0, hc, l1, hd, e2, e5, h4, l2, l3, l4, l5]
      refine h1 (by unfold tk_aok; omega) _ (fun o i ho => by simp [tk_set, ho]) ?_
      unfold tk_raq tk_ap
      simp [tk_set, hp, hc, r1, r3 (by omega), r4 (by omega), e0]
  · have hd : ∀ (R : Int → tk_M → Prop) (m : tk_M), tkF_X6_isDigit [s - 48] R m = R 0 m := fun R m => by rw [x_isDigit, tk_bo_f ha]
    simp [tk_fn, tk_env, tk_sq, tk_sk, tk_if, tk_re, tk_rez, tk_rev, tk_xp, tk_se, tk_pf, tk_pfz, tk_pfo, tk_as, tk_asz, tk_asb, tk_aso, tk_cpy, tk_sw, tk_swc, tk_lit, tk_loc, tk_u1, tk_bin, tk_dv, tk_gf, tk_gr, tk_gn, tk_ald, tk_aldq, tk_aln, tk_unl, tk_una, tk_ter, tk_args, tk_cs, tk_cv, tk_ceq, tk_cne, tk_clt, tk_cge, tk_cgt, tk_cle, tk_zeq, tk_zne, tk_zlt, tk_zge, tk_zgt, tk_zle, tk_and, tk_or, tk_not, tk_ct2, tk_isC, List.headD_cons, tk_up, tk_sca, tk_scl, tkF_X1_takes, tkS_X1_takes, tkF_X1_goesOn, tkS_X1_goesOn, tkF_X1_takesWho, tkS_X1_takesWho, tkF_X1_takesWhoDigit, tkS_X1_takesWhoDigit, tkF_X1_takesFirstDigit, tkS_X1_takesFirstDigit, tkF_X1_takesDigitOrSign, tkS_X1_takesDigitOrSign, tkF_X1_takesCurrency, tkS_X1_takesCurrency, tkF_X1_takesBehind, tkS_X1_takesBehind, tk_set_j, tk_set_o, tk_set_eq, e0, hc, l1, hd]
    refine h0 ?_ _ (fun o i ho => by simp [tk_set, ho])
    unfold tk_aok
    omega
theorem x_takes_5 {s : Int} {b : Int → Int} {μ : tk_M} {Q : Int → tk_M → Prop} (hs : 0 ≤ s ∧ s ≤ 127) (hb : tk_abq b) (hr : tk_raq (fun f => μ 82 f) b) (h1 : tk_aok s b → ∀ μ', (∀ o i : Int, ¬ o = 82 → μ' o i = μ o i) → tk_raq (fun f => μ' 82 f) (tk_ap s b) → Q 1 μ') (h0 : ¬ tk_aok s b → ∀ μ', (∀ o i : Int, ¬ o = 82 → μ' o i = μ o i) → Q 0 μ') (hp : b 0 = 5) : tkF_X1_takes [82, s] Q μ := by
  obtain ⟨r0, r1, r3, r4, r5, r6⟩ := hr
  dsimp only at r0 r1 r3 r4 r5 r6
  have e0 : μ 82 0 = 5 := by rw [r0, hp]
  have l1 : tk_isub s 48 = s - 48 := tk_isub_id (by omega) (by omega)
  by_cases ha : 0 ≤ s - 48 ∧ s - 48 ≤ 9
  · have hd : ∀ (R : Int → tk_M → Prop) (m : tk_M), tkF_X6_isDigit [s - 48] R m = R 1 m := fun R m => by rw [x_isDigit, tk_bo_t ha]
    simp [tk_fn, tk_env, tk_sq, tk_sk, tk_if, tk_re, tk_rez, tk_rev, tk_xp, tk_se, tk_pf, tk_pfz, tk_pfo, tk_as, tk_asz, tk_asb, tk_aso, tk_cpy, tk_sw, tk_swc, tk_lit, tk_loc, tk_u1, tk_bin, tk_dv, tk_gf, tk_gr, tk_gn, tk_ald, tk_aldq, tk_aln, tk_unl, tk_una, tk_ter, tk_args, tk_cs, tk_cv, tk_ceq, tk_cne, tk_clt, tk_cge, tk_cgt, tk_cle, tk_zeq, tk_zne, tk_zlt, tk_zge, tk_zgt, tk_zle, tk_and, tk_or, tk_not, tk_ct2, tk_isC, List.headD_cons, tk_up, tk_sca, tk_scl, tkF_X1_takes, tkS_X1_takes, tkF_X1_goesOn, tkS_X1_goesOn, tkF_X1_takesWho, tkS_X1_takesWho, tkF_X1_takesWhoDigit, tkS_X1_takesWhoDigit, tkF_X1_takesFirstDigit, tkS_X1_takesFirstDigit, tkF_X1_takesDigitOrSign, tkS_X1_takesDigitOrSign, tkF_X1_takesCurrency, tkS_X1_takesCurrency, tkF_X1_takesBehind, tkS_X1_takesBehind, tk_set_j, tk_set_o, tk_set_eq, e0, l1, hd]
    refine h1 (by unfold tk_aok; omega) _ (fun o i ho => by simp [tk_set, ho]) ?_
    unfold tk_raq tk_ap
    simp [tk_set, hp, r1, r3 (by omega), r4 (by omega), r5 (by omega)]
  · have hd : ∀ (R : Int → tk_M → Prop) (m : tk_M), tkF_X6_isDigit [s - 48] R m = R 0 m := fun R m => by rw [x_isDigit, tk_bo_f ha]
    simp [tk_fn, tk_env, tk_sq, tk_sk, tk_if, tk_re, tk_rez, tk_rev, tk_xp, tk_se, tk_pf, tk_pfz, tk_pfo, tk_as, tk_asz, tk_asb, tk_aso, tk_cpy, tk_sw, tk_swc, tk_lit, tk_loc, tk_u1, tk_bin, tk_dv, tk_gf, tk_gr, tk_gn, tk_ald, tk_aldq, tk_aln, tk_unl, tk_una, tk_ter, tk_args, tk_cs, tk_cv, tk_ceq, tk_cne, tk_clt, tk_cge, tk_cgt, tk_cle, tk_zeq, tk_zne, tk_zlt, tk_zge, tk_zgt, tk_zle, tk_and, tk_or, tk_not, tk_ct2, tk_isC, List.headD_cons, tk_up, tk_sca, tk_scl, tkF_X1_takes, tkS_X1_takes, tkF_X1_goesOn, tkS_X1_goesOn, tkF_X1_takesWho, tkS_X1_takesWho, tkF_X1_takesWhoDigit, tkS_X1_takesWhoDigit, tkF_X1_takesFirstDigit, tkS_X1_takesFirstDigit, tkF_X1_takesDigitOrSign, tkS_X1_takesDigitOrSign, tkF_X1_takesCurrency, tkS_X1_takesCurrency, tkF_X1_takesBehind, tkS_X1_takesBehind, tk_set_j, tk_set_o, tk_set_eq, e0, l1, hd]
    refine h0 ?_ _ (fun o i ho => by simp [tk_set, ho])
    unfold tk_aok
    omega
theorem x_takes_6 {s : Int} {b : Int → Int} {μ : tk_M} {Q : Int → tk_M → Prop} (hs : 0 ≤ s ∧ s ≤ 127) (hb : tk_abq b) (hr : tk_raq (fun f => μ 82 f) b) (h1 : tk_aok s b → ∀ μ', (∀ o i : Int, ¬ o = 82 → μ' o i = μ o i) → tk_raq (fun f => μ' 82 f) (tk_ap s b) → Q 1 μ') (h0 : ¬ tk_aok s b → ∀ μ', (∀ o i : Int, ¬ o = 82 → μ' o i = μ o i) → Q 0 μ') (hp : b 0 = 6) : tkF_X1_takes [82, s] Q μ := by
  obtain ⟨r0, r1, r3, r4, r5, r6⟩ := hr
  dsimp only at r0 r1 r3 r4 r5 r6
  have e0 : μ 82 0 = 6 := by rw [r0, hp]
  have hb1 := hb.2.1
  have l5 : tk_iadd (b 1) 1 = b 1 + 1 := tk_iadd_id (by omega) (by omega)
  by_cases hc : s = 43
  · simp [tk_fn, tk_env, tk_sq, tk_sk, tk_if, tk_re, tk_rez, tk_rev, tk_xp, tk_se, tk_pf, tk_pfz, tk_pfo, tk_as, tk_asz, tk_asb, tk_aso, tk_cpy, tk_sw, tk_swc, tk_lit, tk_loc, tk_u1, tk_bin, tk_dv, tk_gf, tk_gr, tk_gn, tk_ald, tk_aldq, tk_aln, tk_unl, tk_una, tk_ter, tk_args, tk_cs, tk_cv, tk_ceq, tk_cne, tk_clt, tk_cge, tk_cgt, tk_cle, tk_zeq, tk_zne, tk_zlt, tk_zge, tk_zgt, tk_zle, tk_and, tk_or, tk_not, tk_ct2, tk_isC, List.headD_cons, tk_up, tk_sca, tk_scl, tkF_X1_takes, tkS_X1_takes, tkF_X1_goesOn, tkS_X1_goesOn, tkF_X1_takesWho, tkS_X1_takesWho, tkF_X1_takesWhoDigit, tkS_X1_takesWhoDigit, tkF_X1_takesFirstDigit, tkS_X1_takesFirstDigit, tkF_X1_takesDigitOrSign, tkS_X1_takesDigitOrSign, tkF_X1_takesCurrency, tkS_X1_takesCurrency, tkF_X1_takesBehind, tkS_X1_takesBehind, tk_set_j, tk_set_o, tk_set_eq, e0, eq_true hc]
    refine h1 (by unfold tk_aok; omega) _ (fun o i ho => by simp [tk_set, ho]) ?_
    unfold tk_raq tk_ap
    simp [tk_set, hp, hc, r1, r3 (by omega), r4 (by omega)]
  by_cases ha : s = 59
  · by_cases h8 : b 1 < 8
    · simp [tk_fn, tk_env, tk_sq, tk_sk, tk_if, tk_re, tk_rez, tk_rev, tk_xp, tk_se, tk_pf, tk_pfz, tk_pfo, tk_as, tk_asz, tk_asb, tk_aso, tk_cpy, tk_sw, tk_swc, tk_lit, tk_loc, tk_u1, tk_bin, tk_dv, tk_gf, tk_gr, tk_gn, tk_ald, tk_aldq, tk_aln, tk_unl, tk_una, tk_ter, tk_args, tk_cs, tk_cv, tk_ceq, tk_cne, tk_clt, tk_cge, tk_cgt, tk_cle, tk_zeq, tk_zne, tk_zlt, tk_zge, tk_zgt, tk_zle, tk_and, tk_or, tk_not, tk_ct2, tk_isC, List.headD_cons, tk_up, tk_sca, tk_scl, tkF_X1_takes, tkS_X1_takes, tkF_X1_goesOn, tkS_X1_goesOn, tkF_X1_takesWho, tkS_X1_takesWho, tkF_X1_takesWhoDigit, tkS_X1_takesWhoDigit, tkF_X1_takesFirstDigit, tkS_X1_takesFirstDigit, tkF_X1_takesDigitOrSign, tkS_X1_takesDigitOrSign, tkF_X1_takesCurrency, tkS_X1_takesCurrency, tkF_X1_takesBehind, tkS_X1_takesBehind, tk_set_j, tk_set_o, tk_set_eq, e0, hc, eq_true ha, r1, h8, l5]
      refine h1 (by unfold tk_aok; omega) _ (fun o i ho => by simp [tk_set, ho]) ?_
      unfold tk_raq tk_ap
      simp [tk_set, hp, hc]
    · simp [tk_fn, tk_env, tk_sq, tk_sk, tk_if, tk_re, tk_rez, tk_rev, tk_xp, tk_se, tk_pf, tk_pfz, tk_pfo, tk_as, tk_asz, tk_asb, tk_aso, tk_cpy, tk_sw, tk_swc, tk_lit, tk_loc, tk_u1, tk_bin, tk_dv, tk_gf, tk_gr, tk_gn, tk_ald, tk_aldq, tk_aln, tk_unl, tk_una, tk_ter, tk_args, tk_cs, tk_cv, tk_ceq, tk_cne, tk_clt, tk_cge, tk_cgt, tk_cle, tk_zeq, tk_zne, tk_zlt, tk_zge, tk_zgt, tk_zle, tk_and, tk_or, tk_not, tk_ct2, tk_isC, List.headD_cons, tk_up, tk_sca, tk_scl, tkF_X1_takes, tkS_X1_takes, tkF_X1_goesOn, tkS_X1_goesOn, tkF_X1_takesWho, tkS_X1_takesWho, tkF_X1_takesWhoDigit, tkS_X1_takesWhoDigit, tkF_X1_takesFirstDigit, tkS_X1_takesFirstDigit, tkF_X1_takesDigitOrSign, tkS_X1_takesDigitOrSign, tkF_X1_takesCurrency, tkS_X1_takesCurrency, tkF_X1_takesBehind, tkS_X1_takesBehind, tk_set_j, tk_set_o, tk_set_eq, e0, hc, eq_true ha, r1, h8, l5]
      refine h0 ?_ _ (fun o i ho => by simp [tk_set, ho])
      unfold tk_aok
      omega
  · simp [tk_fn, tk_env, tk_sq, tk_sk, tk_if, tk_re, tk_rez, tk_rev, tk_xp, tk_se, tk_pf, tk_pfz, tk_pfo, tk_as, tk_asz, tk_asb, tk_aso, tk_cpy, tk_sw, tk_swc, tk_lit, tk_loc, tk_u1, tk_bin, tk_dv, tk_gf, tk_gr, tk_gn, tk_ald, tk_aldq, tk_aln, tk_unl, tk_una, tk_ter, tk_args, tk_cs, tk_cv, tk_ceq, tk_cne, tk_clt, tk_cge, tk_cgt, tk_cle, tk_zeq, tk_zne, tk_zlt, tk_zge, tk_zgt, tk_zle, tk_and, tk_or, tk_not, tk_ct2, tk_isC, List.headD_cons, tk_up, tk_sca, tk_scl, tkF_X1_takes, tkS_X1_takes, tkF_X1_goesOn, tkS_X1_goesOn, tkF_X1_takesWho, tkS_X1_takesWho, tkF_X1_takesWhoDigit, tkS_X1_takesWhoDigit, tkF_X1_takesFirstDigit, tkS_X1_takesFirstDigit, tkF_X1_takesDigitOrSign, tkS_X1_takesDigitOrSign, tkF_X1_takesCurrency, tkS_X1_takesCurrency, tkF_X1_takesBehind, tkS_X1_takesBehind, tk_set_j, tk_set_o, tk_set_eq, e0, hc, ha, r1, l5]
    refine h0 ?_ _ (fun o i ho => by simp [tk_set, ho])
    unfold tk_aok
    omega
theorem x_takes {s : Int} {b : Int → Int} {μ : tk_M} {Q : Int → tk_M → Prop} (hs : 0 ≤ s ∧ s ≤ 127) (hb : tk_abq b) (hr : tk_raq (fun f => μ 82 f) b) (h1 : tk_aok s b → ∀ μ', (∀ o i : Int, ¬ o = 82 → μ' o i = μ o i) → tk_raq (fun f => μ' 82 f) (tk_ap s b) → Q 1 μ') (h0 : ¬ tk_aok s b → ∀ μ', (∀ o i : Int, ¬ o = 82 → μ' o i = μ o i) → Q 0 μ') : tkF_X1_takes [82, s] Q μ := by
  have h := hb.1
  have h7 : b 0 = 0 ∨ b 0 = 1 ∨ b 0 = 2 ∨ b 0 = 3 ∨ b 0 = 4 ∨ b 0 = 5 ∨ b 0 = 6 := by omega
  rcases h7 with hp | hp | hp | hp | hp | hp | hp
  · exact x_takes_0 hs hb hr h1 h0 hp
  · exact x_takes_1 hs hb hr h1 h0 hp
  · exact x_takes_2 hs hb hr h1 h0 hp
  · exact x_takes_3 hs hb hr h1 h0 hp
  · exact x_takes_4 hs hb hr h1 h0 hp
  · exact x_takes_5 hs hb hr h1 h0 hp
  · exact x_takes_6 hs hb hr h1 h0 hp
/-- where the FAULT is -/
def tk_flt (T : Int → Int) (n : Int) (p : Nat) : Prop := (p : Int) ≤ n ∧ tk_acc T p ∧ (((p : Int) < n ∧ ¬ tk_aok (T p) (tk_az T p)) ∨ ((p : Int) = n ∧ ¬ tk_az T p 0 = 6))
theorem tk_flt_u {T : Int → Int} {n : Int} {p q : Nat} (h : tk_flt T n p) (h' : tk_flt T n q) : p = q := by
  obtain ⟨h1, h2, h3⟩ := h
  obtain ⟨g1, g2, g3⟩ := h'
  rcases Nat.lt_trichotomy p q with z | z | z
  · rcases h3 with h3 | h3
    · exact absurd (g2 p z) h3.2
    · omega
  · exact z
  · rcases g3 with g3 | g3
    · exact absurd (h2 q z) g3.2
    · omega
theorem tk_flt_g {T : Int → Int} {n : Int} {p m : Nat} (h : tk_flt T n p) (hn : (m : Int) = n) (hm : tk_acc T m) (h6 : tk_az T m 0 = 6) : False := by
  obtain ⟨h1, h2, h3⟩ := h
  rcases h3 with h3 | h3
  · exact h3.2 (hm p (by omega))
  · have : p = m := by omega
    subst this
    exact h3.2 h6
theorem x_fault {T : Int → Int} {μ : tk_M} {Q : Int → tk_M → Prop} (hn : 0 ≤ μ 0 7 ∧ μ 0 7 ≤ 100) (hT : ∀ i : Int, 0 ≤ i → i < μ 0 7 → μ 81 i = T i ∧ 0 ≤ T i ∧ T i ≤ 127) (h1 : ∀ μ', (∀ o i : Int, ¬ o = 82 → μ' o i = μ o i) → tk_acc T (μ 0 7).toNat → tk_az T (μ 0 7).toNat 0 = 6 → Q (-1) μ') (h0 : ∀ (p : Nat) μ', (∀ o i : Int, ¬ o = 82 → μ' o i = μ o i) → tk_flt T (μ 0 7) p → Q p μ') : tkF_X6_faultOfText [0] Q μ := by
  simp [tk_fn, tk_env, tk_sq, tk_sk, tk_if, tk_re, tk_rez, tk_rev, tk_xp, tk_se, tk_pf, tk_pfz, tk_pfo, tk_as, tk_asz, tk_asb, tk_aso, tk_cpy, tk_sw, tk_swc, tk_lit, tk_loc, tk_u1, tk_bin, tk_dv, tk_gf, tk_gr, tk_gn, tk_ald, tk_aldq, tk_aln, tk_unl, tk_una, tk_ter, tk_args, tk_cs, tk_cv, tk_ceq, tk_cne, tk_clt, tk_cge, tk_cgt, tk_cle, tk_zeq, tk_zne, tk_zlt, tk_zge, tk_zgt, tk_zle, tk_and, tk_or, tk_not, tk_ct2, tk_isC, List.headD_cons, tk_up, tk_sca, tk_scl, tkF_X6_faultOfText, tkS_X6_faultOfText, tkF_X1_begin, tkS_X1_begin]
  refine tk_for (μ 0 7) (fun i ρ μ' => (∀ o i : Int, ¬ o = 82 → μ' o i = μ o i) ∧ tk_acc T i.toNat ∧ tk_raq (fun f => μ' 82 f) (tk_az T i.toNat) ∧ ρ 0 = 0 ∧ ρ 1 = i) hn.1 ⟨fun o i ho => by simp [tk_set, ho], fun j hj => by simp at hj, ?_, rfl, rfl⟩ ?_ ?_
  · unfold tk_raq tk_az
    simp [tk_set]
  · rintro i ρ μ' hi0 hi6 ⟨hf, hacc, hra, r0, r1⟩ K hK
    obtain ⟨k, rfl⟩ := tk_nnt hi0
    rw [Int.toNat_natCast] at hacc hra
    have i1 : tk_iadd (k : Int) 1 = (k : Int) + 1 := tk_iadd_id (by omega) (by omega)
    have e7 : μ' 0 7 = μ 0 7 := hf _ _ (by omega)
    have hTk := hT k hi0 hi6
    have e81 : μ' 81 k = T k := by rw [hf _ _ (by omega)]; exact hTk.1
    have k100 : (k : Int) < 100 := by omega
    simp [tk_fn, tk_env, tk_sq, tk_sk, tk_if, tk_re, tk_rez, tk_rev, tk_xp, tk_se, tk_pf, tk_pfz, tk_pfo, tk_as, tk_asz, tk_asb, tk_aso, tk_cpy, tk_sw, tk_swc, tk_lit, tk_loc, tk_u1, tk_bin, tk_dv, tk_gf, tk_gr, tk_gn, tk_ald, tk_aldq, tk_aln, tk_unl, tk_una, tk_ter, tk_args, tk_cs, tk_cv, tk_ceq, tk_cne, tk_clt, tk_cge, tk_cgt, tk_cle, tk_zeq, tk_zne, tk_zlt, tk_zge, tk_zgt, tk_zle, tk_and, tk_or, tk_not, tk_ct2, tk_isC, List.headD_cons, tk_up, tk_sca, tk_scl, r0, r1, e7, hi6, k100, tk_al_2, tk_al_3, tk_al_4, tk_al_5, tk_al_6, tk_al_7, tk_al_8, tk_al_9, tk_al_10, tk_al_11, tk_al_13, tk_al_14, tk_al_16, tk_al_17, tk_al_19, tk_al_20, tk_al_22, tk_al_24, tk_al_25, tk_al_26, tk_al_27, tk_al_28, tk_al_29, tk_al_30, tk_al_32, tk_al_33, tk_al_34, tk_al_35, tk_al_36, tk_al_37, tk_al_38, tk_al_39, tk_al_40, tk_al_41, tk_al_43, tk_al_44, tk_al_46, tk_al_47, tk_al_49, tk_al_50, tk_al_52, tk_al_54, tk_al_55, tk_al_56, tk_al_57, tk_al_58, tk_al_59, tk_al_60, tk_al_62, tk_al_63, tk_al_64, tk_al_65, tk_al_66, tk_al_67, tk_al_68, tk_al_69, tk_al_70, tk_al_71, tk_al_73, tk_al_74, tk_al_76, tk_al_77, tk_al_79, tk_al_80, tk_al_81, tk_al_83, tk_al_85, tk_al_87, tk_al_89, tk_al_91, tk_al_93, tk_al_95, tk_al_97, tk_al_98, tk_al_99, tk_al_100, tk_al_101, tk_al_102, tk_al_103, tk_al_104, tk_al_105, tk_al_106, tk_al_107, tk_al_108, tk_al_109, tk_al_110, tk_al_111, tk_al_112, tk_al_113, tk_al_114, tk_al_115, tk_al_116, tk_al_117, tk_al_118, tk_al_119, tk_al_120, tk_al_121, tk_al_122, tk_al_123, tk_al_124, tk_al_125, tk_al_126, tk_al_127, tk_al_128, tk_al_129, e81, i1]
    refine x_takes hTk.2 (tk_ab_az k hacc) hra (fun hok μ2 hf2 hr2 => ?_) (fun hno μ2 hf2 => ?_)
    · simp [r1, i1]
      refine hK _ _ ⟨fun o i ho => by rw [hf2 o i ho]; exact hf o i ho, ?_, ?_, r0, rfl⟩
      · rw [show ((k : Int) + 1).toNat = k + 1 by omega]
        exact tk_acc_s hacc hok
      · rw [show ((k : Int) + 1).toNat = k + 1 by omega]
        exact hr2
    · simp [r1]
      exact h0 k μ2 (fun o i ho => by rw [hf2 o i ho]; exact hf o i ho) ⟨by omega, hacc, .inl ⟨hi6, hno⟩⟩
  · rintro ρ μ' ⟨hf, hacc, hra, r0, r1⟩ X
    have e7 : μ' 0 7 = μ 0 7 := hf _ _ (by omega)
    have h82 : μ' 82 0 = tk_az T (μ 0 7).toNat 0 := hra.1
    by_cases h6 : tk_az T (μ 0 7).toNat 0 = 6
    · simp [tk_fn, tk_env, tk_sq, tk_sk, tk_if, tk_re, tk_rez, tk_rev, tk_xp, tk_se, tk_pf, tk_pfz, tk_pfo, tk_as, tk_asz, tk_asb, tk_aso, tk_cpy, tk_sw, tk_swc, tk_lit, tk_loc, tk_u1, tk_bin, tk_dv, tk_gf, tk_gr, tk_gn, tk_ald, tk_aldq, tk_aln, tk_unl, tk_una, tk_ter, tk_args, tk_cs, tk_cv, tk_ceq, tk_cne, tk_clt, tk_cge, tk_cgt, tk_cle, tk_zeq, tk_zne, tk_zlt, tk_zge, tk_zgt, tk_zle, tk_and, tk_or, tk_not, tk_ct2, tk_isC, List.headD_cons, tk_up, tk_sca, tk_scl, r0, r1, e7, tkF_X1_atFundsEnd, tkS_X1_atFundsEnd, h82, h6]
      exact h1 μ' hf hacc h6
    · have hq := h0 (μ 0 7).toNat μ' hf ⟨by omega, hacc, .inr ⟨by omega, h6⟩⟩
      rw [show (((μ 0 7).toNat : Nat) : Int) = μ 0 7 by omega] at hq
      simp [tk_fn, tk_env, tk_sq, tk_sk, tk_if, tk_re, tk_rez, tk_rev, tk_xp, tk_se, tk_pf, tk_pfz, tk_pfo, tk_as, tk_asz, tk_asb, tk_aso, tk_cpy, tk_sw, tk_swc, tk_lit, tk_loc, tk_u1, tk_bin, tk_dv, tk_gf, tk_gr, tk_gn, tk_ald, tk_aldq, tk_aln, tk_unl, tk_una, tk_ter, tk_args, tk_cs, tk_cv, tk_ceq, tk_cne, tk_clt, tk_cge, tk_cgt, tk_cle, tk_zeq, tk_zne, tk_zlt, tk_zge, tk_zgt, tk_zle, tk_and, tk_or, tk_not, tk_ct2, tk_isC, List.headD_cons, tk_up, tk_sca, tk_scl, r0, r1, e7, tkF_X1_atFundsEnd, tkS_X1_atFundsEnd, h82, h6]
      exact hq
