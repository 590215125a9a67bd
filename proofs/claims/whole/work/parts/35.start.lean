/-! ===== the start: the world, the two objects, the law's body ===== -/
def tk_ρ0 : tk_L := fun k => if k = 2 then 96 else 0
/-- the memory when both are made -/
def tk_m0 : tk_M := fun o j => if (o = 1 ∨ o = 31 ∨ o = 61) ∧ j = 0 then 1 else if (o = 84 ∨ o = 86 ∨ o = 88 ∨ o = 90 ∨ o = 92 ∨ o = 94) ∧ j = 0 then -1 else if o = 96 ∧ j = 0 then 1 else if o = 96 ∧ j = 30 then -1 else 0
theorem tk_m0_r (o j : Int) : -1 ≤ tk_m0 o j ∧ tk_m0 o j ≤ 1 := by
  unfold tk_m0
  split
  · omega
  · split
    · omega
    · split
      · omega
      · split <;> omega
theorem tk_m0_n {o j : Int} (h : tk_m0 o j < 0) : (j = 0 ∧ (o = 84 ∨ o = 86 ∨ o = 88 ∨ o = 90 ∨ o = 92 ∨ o = 94)) ∨ (o = 96 ∧ j = 30) := by
  unfold tk_m0 at h
  split at h
  · omega
  · split at h
    · rename_i h1; exact Or.inl ⟨h1.2, h1.1⟩
    · split at h
      · omega
      · split at h
        · rename_i h1; exact Or.inr h1
        · omega
theorem tk_m0_z {o j : Nat} {k : Nat ⊕ (Nat × Nat)} (hk : tk_lay[o]? = some k) (h : tk_m0 o j < 0) : (k = .inl 4 ∧ j = 0) ∨ (k = .inl 7 ∧ j = 30) := by
  have e : ∀ q : Nat, q = 84 ∨ q = 86 ∨ q = 88 ∨ q = 90 ∨ q = 92 ∨ q = 94 → tk_lay[q]? = some (.inl 4) := by
    intro q hq
    rcases hq with rfl | rfl | rfl | rfl | rfl | rfl <;> decide +kernel
  have e2 : tk_lay[96]? = some (.inl 7) := by decide +kernel
  rcases tk_m0_n h with ⟨h1, h2⟩ | ⟨h1, h2⟩
  · rw [e o (by omega)] at hk
    exact Or.inl ⟨(Option.some.inj hk).symm, by omega⟩
  · have h3 : o = 96 := by omega
    subst h3
    rw [e2] at hk
    exact Or.inr ⟨(Option.some.inj hk).symm, by omega⟩
theorem tk_m0_f {t v : Int} (h : -1 ≤ v ∧ v ≤ 1) (h4 : t = 4 → ¬ v < 0) : tk_fr t v := by
  unfold tk_fr
  split
  · exact ⟨by omega, by omega⟩
  · split
    · rename_i h5; have := h4 h5; omega
    · split
      · omega
      · split
        · exact ⟨by omega, by omega⟩
        · trivial
theorem tk_m0_in : tk_in tk_m0 := by
  intro o k hk
  cases k with
  | inl ci =>
    intro j t hj
    refine tk_m0_f (tk_m0_r _ _) (fun ht hn => ?_)
    subst ht
    rcases tk_m0_z hk hn with ⟨h1, h2⟩ | ⟨h1, h2⟩
    · cases h1; subst h2; revert hj; decide
    · cases h1; subst h2; revert hj; decide
  | inr q =>
    obtain ⟨t, n⟩ := q
    intro j hj
    refine tk_m0_f (tk_m0_r _ _) (fun ht hn => ?_)
    rcases tk_m0_z hk hn with ⟨h1, -⟩ | ⟨h1, -⟩ <;> cases h1
theorem tk_arrK {s : State} {args : Array Value} {ty : FieldType} (hp : ∀ (U : State) (cA : ClassId), U.vm.findClass ("[" ++ ty.toString) = some cA → va_RA U cA ty) (h : (Cond.arrayClass ty).before args s = true) : ∃ cA : ClassId, ArrOfT s cA ty ∧ va_RA s cA ty := by
  obtain ⟨cA, kA, comp, h1, h2, h3⟩ := Cond.arrayClass_spec h
  exact ⟨cA, fun n z => ⟨fun k h => (by cases h), kA, h2, comp, h3⟩, hp s cA h1⟩
theorem tk_arrO {s : State} {args : Array Value} {C : String} (h : (Cond.arrayOver (.object C)).before args s = true) : ∃ cA : ClassId, ArrOfT s cA (.object C) ∧ va_RA s cA (.object C) := by
  obtain ⟨comp, cA, kA, h1, h2, h3, h4, h5⟩ := Cond.arrayOver_spec h
  exact ⟨cA, fun n z => ⟨fun k h => (by cases h), kA, h3, comp, h4⟩, kA, comp, h3, h4, h1, h5⟩
theorem tk_nw_of {A : Array Value} {U : State} {w : Cond} (hw : w ∈ tk_nw) (h : w.before A U = true) : va_Nw w U := by
  have hn := (List.mem_filter.mp hw).2
  cases w <;> first | (simp [tk_isN] at hn; done) | exact va_Nw.of rfl h
theorem tk_un7 {s : State} {args : Array Value} {tm : Term} (h0 : (Cond.eq (.elem tm (.int 0)) (.int (-1))).before args s = true) (h1 : (Cond.eq (.elem tm (.int 1)) (.int 0)).before args s = true) (h2 : (Cond.eq (.elem tm (.int 2)) (.int 0)).before args s = true) (h3 : (Cond.eq (.elem tm (.int 3)) (.int 0)).before args s = true) (h4 : (Cond.eq (.elem tm (.int 4)) (.int 1)).before args s = true) (h5 : (Cond.eq (.elem tm (.int 5)) (.int 2)).before args s = true) (h6 : (Cond.eq (.elem tm (.int 6)) (.int 3)).before args s = true) : ∀ j : Nat, j < 7 → (Term.elem tm (.int (Int32.ofNat j))).eval args s none [] s = some (.int (Int32.ofInt (tk_un j))) := by
  intro j hj
  match j, hj with
  | 0, _ => exact va_eqt h0
  | 1, _ => exact va_eqt h1
  | 2, _ => exact va_eqt h2
  | 3, _ => exact va_eqt h3
  | 4, _ => exact va_eqt h4
  | 5, _ => exact va_eqt h5
  | 6, _ => exact va_eqt h6
theorem tk_arrE {cA : ClassId} {n : Nat} {f g : Nat → Value} (h : ∀ j, j < n → f j = g j) : arrV cA n f = arrV cA n g := by
  unfold arrV
  congr 1
  apply Array.ext
  · simp
  · intro i h1 h2
    simp at h1
    simp [h i h1]
def tk_tp (ω : tk_O) : va_E := .inl (tk_cA ω 4, 6, .inr (.inr (.inr (.inr (fun j => some (tk_bs ω + (83 + 1 + 2 * j)))))))
theorem tk_ini_a {ω : tk_O} {o n : Nat} (h : ∀ j : Int, tk_m0 o j = 0) : tk_ce ω tk_m0 o (.inr (0, n)) = .inl (tk_cA ω 0, n, .inl (fun _ => 0)) := by
  simp only [tk_ce, h]
  rfl
theorem tk_ini_l {ω : tk_O} {o n : Nat} (h : ∀ j : Int, tk_m0 o j = 0) : tk_ce ω tk_m0 o (.inr (1, n)) = .inl (tk_cA ω 3, n, .inr (.inl (fun _ => 0))) := by
  simp only [tk_ce, h]
  rfl
theorem tk_ini_b {ω : tk_O} {o n : Nat} (h : ∀ j : Int, tk_m0 o j = 0) : tk_ce ω tk_m0 o (.inr (5, n)) = .inl (tk_cA ω 1, n, .inl (fun _ => 0)) := by
  simp only [tk_ce, h]
  rfl
theorem tk_ini_z {ω : tk_O} {o n : Nat} (h : ∀ j : Int, tk_m0 o j = 0) : tk_ce ω tk_m0 o (.inr (4, n)) = .inl (tk_cA ω 2, n, .inl (fun _ => 0)) := by
  simp only [tk_ce, h]
  rfl
theorem tk_m0_0 {o : Nat} (h : ¬ (o = 1 ∨ o = 31 ∨ o = 61 ∨ o = 84 ∨ o = 86 ∨ o = 88 ∨ o = 90 ∨ o = 92 ∨ o = 94 ∨ o = 96)) (j : Int) : tk_m0 o j = 0 := by
  unfold tk_m0
  rw [if_neg (by omega), if_neg (by omega), if_neg (by omega), if_neg (by omega)]
theorem tk_ini_0 (ω : tk_O) : tk_ce ω tk_m0 0 (.inl 6) = .inr (6, [.ref (tk_bs ω + (0 + 1)), .ref (tk_bs ω + (0 + 21)), .ref (tk_bs ω + (0 + 31)), .ref (tk_bs ω + (0 + 51)), .ref (tk_bs ω + (0 + 61)), .int 0, .ref (tk_bs ω + (0 + 81)), .int 0, .ref (tk_bs ω + (0 + 82)), .ref (tk_bs ω + (0 + 83))]) := by
  simp [tk_ce, tk_ct, tk_fv, tk_m0, tk_v]
  try rfl
theorem tk_ini_1 (ω : tk_O) : tk_ce ω tk_m0 1 (.inl 2) = .inr (2, [.int 1, .int 0, .int 0, .int 0, .int 0, .ref (tk_bs ω + (0 + 2)), .ref (tk_bs ω + (0 + 3)), .ref (tk_bs ω + (0 + 4)), .ref (tk_bs ω + (0 + 5)), .ref (tk_bs ω + (0 + 6)), .ref (tk_bs ω + (0 + 7)), .ref (tk_bs ω + (0 + 8)), .ref (tk_bs ω + (0 + 9)), .ref (tk_bs ω + (0 + 10)), .ref (tk_bs ω + (0 + 11)), .ref (tk_bs ω + (0 + 12)), .ref (tk_bs ω + (0 + 15)), .ref (tk_bs ω + (0 + 18))]) := by
  simp [tk_ce, tk_ct, tk_fv, tk_m0, tk_v]
  try rfl
theorem tk_ini_2 (ω : tk_O) : tk_ce ω tk_m0 2 (.inr (0, 24)) = .inl (tk_cA ω 0, 24, .inl (fun _ => 0)) := tk_ini_a (tk_m0_0 (by decide))
theorem tk_ini_3 (ω : tk_O) : tk_ce ω tk_m0 3 (.inr (0, 24)) = .inl (tk_cA ω 0, 24, .inl (fun _ => 0)) := tk_ini_a (tk_m0_0 (by decide))
theorem tk_ini_4 (ω : tk_O) : tk_ce ω tk_m0 4 (.inr (0, 24)) = .inl (tk_cA ω 0, 24, .inl (fun _ => 0)) := tk_ini_a (tk_m0_0 (by decide))
theorem tk_ini_5 (ω : tk_O) : tk_ce ω tk_m0 5 (.inr (0, 8)) = .inl (tk_cA ω 0, 8, .inl (fun _ => 0)) := tk_ini_a (tk_m0_0 (by decide))
theorem tk_ini_6 (ω : tk_O) : tk_ce ω tk_m0 6 (.inr (0, 8)) = .inl (tk_cA ω 0, 8, .inl (fun _ => 0)) := tk_ini_a (tk_m0_0 (by decide))
theorem tk_ini_7 (ω : tk_O) : tk_ce ω tk_m0 7 (.inr (0, 8)) = .inl (tk_cA ω 0, 8, .inl (fun _ => 0)) := tk_ini_a (tk_m0_0 (by decide))
theorem tk_ini_8 (ω : tk_O) : tk_ce ω tk_m0 8 (.inr (0, 8)) = .inl (tk_cA ω 0, 8, .inl (fun _ => 0)) := tk_ini_a (tk_m0_0 (by decide))
theorem tk_ini_9 (ω : tk_O) : tk_ce ω tk_m0 9 (.inr (0, 8)) = .inl (tk_cA ω 0, 8, .inl (fun _ => 0)) := tk_ini_a (tk_m0_0 (by decide))
theorem tk_ini_10 (ω : tk_O) : tk_ce ω tk_m0 10 (.inr (0, 8)) = .inl (tk_cA ω 0, 8, .inl (fun _ => 0)) := tk_ini_a (tk_m0_0 (by decide))
theorem tk_ini_11 (ω : tk_O) : tk_ce ω tk_m0 11 (.inr (0, 32)) = .inl (tk_cA ω 0, 32, .inl (fun _ => 0)) := tk_ini_a (tk_m0_0 (by decide))
theorem tk_ini_12 (ω : tk_O) : tk_ce ω tk_m0 12 (.inl 3) = .inr (3, [.int 0, .ref (tk_bs ω + (0 + 13)), .ref (tk_bs ω + (0 + 14))]) := by
  simp [tk_ce, tk_ct, tk_fv, tk_m0, tk_v]
  try rfl
theorem tk_ini_13 (ω : tk_O) : tk_ce ω tk_m0 13 (.inr (0, 5)) = .inl (tk_cA ω 0, 5, .inl (fun _ => 0)) := tk_ini_a (tk_m0_0 (by decide))
theorem tk_ini_14 (ω : tk_O) : tk_ce ω tk_m0 14 (.inr (0, 5)) = .inl (tk_cA ω 0, 5, .inl (fun _ => 0)) := tk_ini_a (tk_m0_0 (by decide))
theorem tk_ini_15 (ω : tk_O) : tk_ce ω tk_m0 15 (.inl 3) = .inr (3, [.int 0, .ref (tk_bs ω + (0 + 16)), .ref (tk_bs ω + (0 + 17))]) := by
  simp [tk_ce, tk_ct, tk_fv, tk_m0, tk_v]
  try rfl
theorem tk_ini_16 (ω : tk_O) : tk_ce ω tk_m0 16 (.inr (0, 10)) = .inl (tk_cA ω 0, 10, .inl (fun _ => 0)) := tk_ini_a (tk_m0_0 (by decide))
theorem tk_ini_17 (ω : tk_O) : tk_ce ω tk_m0 17 (.inr (0, 10)) = .inl (tk_cA ω 0, 10, .inl (fun _ => 0)) := tk_ini_a (tk_m0_0 (by decide))
theorem tk_ini_18 (ω : tk_O) : tk_ce ω tk_m0 18 (.inl 3) = .inr (3, [.int 0, .ref (tk_bs ω + (0 + 19)), .ref (tk_bs ω + (0 + 20))]) := by
  simp [tk_ce, tk_ct, tk_fv, tk_m0, tk_v]
  try rfl
theorem tk_ini_19 (ω : tk_O) : tk_ce ω tk_m0 19 (.inr (0, 8)) = .inl (tk_cA ω 0, 8, .inl (fun _ => 0)) := tk_ini_a (tk_m0_0 (by decide))
theorem tk_ini_20 (ω : tk_O) : tk_ce ω tk_m0 20 (.inr (0, 8)) = .inl (tk_cA ω 0, 8, .inl (fun _ => 0)) := tk_ini_a (tk_m0_0 (by decide))
theorem tk_ini_21 (ω : tk_O) : tk_ce ω tk_m0 21 (.inl 0) = .inr (0, [.ref (tk_bs ω + (0 + 1)), .ref (tk_bs ω + (0 + 23)), .ref (tk_bs ω + (0 + 22)), .int 0, .long 0]) := by
  simp [tk_ce, tk_ct, tk_fv, tk_m0, tk_v]
  try rfl
theorem tk_ini_22 (ω : tk_O) : tk_ce ω tk_m0 22 (.inr (1, 8)) = .inl (tk_cA ω 3, 8, .inr (.inl (fun _ => 0))) := tk_ini_l (tk_m0_0 (by decide))
theorem tk_ini_23 (ω : tk_O) : tk_ce ω tk_m0 23 (.inl 5) = .inr (5, [.ref (tk_bs ω + (0 + 1)), .ref (tk_bs ω + (0 + 24)), .ref (tk_bs ω + (0 + 25)), .ref (tk_bs ω + (0 + 26)), .ref (tk_bs ω + (0 + 27)), .ref (tk_bs ω + (0 + 28)), .ref (tk_bs ω + (0 + 29)), .ref (tk_bs ω + (0 + 30)), .int 0]) := by
  simp [tk_ce, tk_ct, tk_fv, tk_m0, tk_v]
  try rfl
theorem tk_ini_24 (ω : tk_O) : tk_ce ω tk_m0 24 (.inr (0, 6)) = .inl (tk_cA ω 0, 6, .inl (fun _ => 0)) := tk_ini_a (tk_m0_0 (by decide))
theorem tk_ini_25 (ω : tk_O) : tk_ce ω tk_m0 25 (.inr (0, 24)) = .inl (tk_cA ω 0, 24, .inl (fun _ => 0)) := tk_ini_a (tk_m0_0 (by decide))
theorem tk_ini_26 (ω : tk_O) : tk_ce ω tk_m0 26 (.inr (1, 6)) = .inl (tk_cA ω 3, 6, .inr (.inl (fun _ => 0))) := tk_ini_l (tk_m0_0 (by decide))
theorem tk_ini_27 (ω : tk_O) : tk_ce ω tk_m0 27 (.inr (1, 6)) = .inl (tk_cA ω 3, 6, .inr (.inl (fun _ => 0))) := tk_ini_l (tk_m0_0 (by decide))
theorem tk_ini_28 (ω : tk_O) : tk_ce ω tk_m0 28 (.inr (1, 24)) = .inl (tk_cA ω 3, 24, .inr (.inl (fun _ => 0))) := tk_ini_l (tk_m0_0 (by decide))
theorem tk_ini_29 (ω : tk_O) : tk_ce ω tk_m0 29 (.inr (1, 8)) = .inl (tk_cA ω 3, 8, .inr (.inl (fun _ => 0))) := tk_ini_l (tk_m0_0 (by decide))
theorem tk_ini_30 (ω : tk_O) : tk_ce ω tk_m0 30 (.inr (1, 8)) = .inl (tk_cA ω 3, 8, .inr (.inl (fun _ => 0))) := tk_ini_l (tk_m0_0 (by decide))
theorem tk_ini_31 (ω : tk_O) : tk_ce ω tk_m0 31 (.inl 2) = .inr (2, [.int 1, .int 0, .int 0, .int 0, .int 0, .ref (tk_bs ω + (0 + 32)), .ref (tk_bs ω + (0 + 33)), .ref (tk_bs ω + (0 + 34)), .ref (tk_bs ω + (0 + 35)), .ref (tk_bs ω + (0 + 36)), .ref (tk_bs ω + (0 + 37)), .ref (tk_bs ω + (0 + 38)), .ref (tk_bs ω + (0 + 39)), .ref (tk_bs ω + (0 + 40)), .ref (tk_bs ω + (0 + 41)), .ref (tk_bs ω + (0 + 42)), .ref (tk_bs ω + (0 + 45)), .ref (tk_bs ω + (0 + 48))]) := by
  simp [tk_ce, tk_ct, tk_fv, tk_m0, tk_v]
  try rfl
theorem tk_ini_32 (ω : tk_O) : tk_ce ω tk_m0 32 (.inr (0, 24)) = .inl (tk_cA ω 0, 24, .inl (fun _ => 0)) := tk_ini_a (tk_m0_0 (by decide))
theorem tk_ini_33 (ω : tk_O) : tk_ce ω tk_m0 33 (.inr (0, 24)) = .inl (tk_cA ω 0, 24, .inl (fun _ => 0)) := tk_ini_a (tk_m0_0 (by decide))
theorem tk_ini_34 (ω : tk_O) : tk_ce ω tk_m0 34 (.inr (0, 24)) = .inl (tk_cA ω 0, 24, .inl (fun _ => 0)) := tk_ini_a (tk_m0_0 (by decide))
theorem tk_ini_35 (ω : tk_O) : tk_ce ω tk_m0 35 (.inr (0, 8)) = .inl (tk_cA ω 0, 8, .inl (fun _ => 0)) := tk_ini_a (tk_m0_0 (by decide))
theorem tk_ini_36 (ω : tk_O) : tk_ce ω tk_m0 36 (.inr (0, 8)) = .inl (tk_cA ω 0, 8, .inl (fun _ => 0)) := tk_ini_a (tk_m0_0 (by decide))
theorem tk_ini_37 (ω : tk_O) : tk_ce ω tk_m0 37 (.inr (0, 8)) = .inl (tk_cA ω 0, 8, .inl (fun _ => 0)) := tk_ini_a (tk_m0_0 (by decide))
theorem tk_ini_38 (ω : tk_O) : tk_ce ω tk_m0 38 (.inr (0, 8)) = .inl (tk_cA ω 0, 8, .inl (fun _ => 0)) := tk_ini_a (tk_m0_0 (by decide))
theorem tk_ini_39 (ω : tk_O) : tk_ce ω tk_m0 39 (.inr (0, 8)) = .inl (tk_cA ω 0, 8, .inl (fun _ => 0)) := tk_ini_a (tk_m0_0 (by decide))
theorem tk_ini_40 (ω : tk_O) : tk_ce ω tk_m0 40 (.inr (0, 8)) = .inl (tk_cA ω 0, 8, .inl (fun _ => 0)) := tk_ini_a (tk_m0_0 (by decide))
theorem tk_ini_41 (ω : tk_O) : tk_ce ω tk_m0 41 (.inr (0, 32)) = .inl (tk_cA ω 0, 32, .inl (fun _ => 0)) := tk_ini_a (tk_m0_0 (by decide))
theorem tk_ini_42 (ω : tk_O) : tk_ce ω tk_m0 42 (.inl 3) = .inr (3, [.int 0, .ref (tk_bs ω + (0 + 43)), .ref (tk_bs ω + (0 + 44))]) := by
  simp [tk_ce, tk_ct, tk_fv, tk_m0, tk_v]
  try rfl
theorem tk_ini_43 (ω : tk_O) : tk_ce ω tk_m0 43 (.inr (0, 5)) = .inl (tk_cA ω 0, 5, .inl (fun _ => 0)) := tk_ini_a (tk_m0_0 (by decide))
theorem tk_ini_44 (ω : tk_O) : tk_ce ω tk_m0 44 (.inr (0, 5)) = .inl (tk_cA ω 0, 5, .inl (fun _ => 0)) := tk_ini_a (tk_m0_0 (by decide))
theorem tk_ini_45 (ω : tk_O) : tk_ce ω tk_m0 45 (.inl 3) = .inr (3, [.int 0, .ref (tk_bs ω + (0 + 46)), .ref (tk_bs ω + (0 + 47))]) := by
  simp [tk_ce, tk_ct, tk_fv, tk_m0, tk_v]
  try rfl
theorem tk_ini_46 (ω : tk_O) : tk_ce ω tk_m0 46 (.inr (0, 10)) = .inl (tk_cA ω 0, 10, .inl (fun _ => 0)) := tk_ini_a (tk_m0_0 (by decide))
theorem tk_ini_47 (ω : tk_O) : tk_ce ω tk_m0 47 (.inr (0, 10)) = .inl (tk_cA ω 0, 10, .inl (fun _ => 0)) := tk_ini_a (tk_m0_0 (by decide))
theorem tk_ini_48 (ω : tk_O) : tk_ce ω tk_m0 48 (.inl 3) = .inr (3, [.int 0, .ref (tk_bs ω + (0 + 49)), .ref (tk_bs ω + (0 + 50))]) := by
  simp [tk_ce, tk_ct, tk_fv, tk_m0, tk_v]
  try rfl
theorem tk_ini_49 (ω : tk_O) : tk_ce ω tk_m0 49 (.inr (0, 8)) = .inl (tk_cA ω 0, 8, .inl (fun _ => 0)) := tk_ini_a (tk_m0_0 (by decide))
theorem tk_ini_50 (ω : tk_O) : tk_ce ω tk_m0 50 (.inr (0, 8)) = .inl (tk_cA ω 0, 8, .inl (fun _ => 0)) := tk_ini_a (tk_m0_0 (by decide))
theorem tk_ini_51 (ω : tk_O) : tk_ce ω tk_m0 51 (.inl 0) = .inr (0, [.ref (tk_bs ω + (0 + 31)), .ref (tk_bs ω + (0 + 53)), .ref (tk_bs ω + (0 + 52)), .int 0, .long 0]) := by
  simp [tk_ce, tk_ct, tk_fv, tk_m0, tk_v]
  try rfl
theorem tk_ini_52 (ω : tk_O) : tk_ce ω tk_m0 52 (.inr (1, 8)) = .inl (tk_cA ω 3, 8, .inr (.inl (fun _ => 0))) := tk_ini_l (tk_m0_0 (by decide))
theorem tk_ini_53 (ω : tk_O) : tk_ce ω tk_m0 53 (.inl 5) = .inr (5, [.ref (tk_bs ω + (0 + 31)), .ref (tk_bs ω + (0 + 54)), .ref (tk_bs ω + (0 + 55)), .ref (tk_bs ω + (0 + 56)), .ref (tk_bs ω + (0 + 57)), .ref (tk_bs ω + (0 + 58)), .ref (tk_bs ω + (0 + 59)), .ref (tk_bs ω + (0 + 60)), .int 0]) := by
  simp [tk_ce, tk_ct, tk_fv, tk_m0, tk_v]
  try rfl
theorem tk_ini_54 (ω : tk_O) : tk_ce ω tk_m0 54 (.inr (0, 6)) = .inl (tk_cA ω 0, 6, .inl (fun _ => 0)) := tk_ini_a (tk_m0_0 (by decide))
theorem tk_ini_55 (ω : tk_O) : tk_ce ω tk_m0 55 (.inr (0, 24)) = .inl (tk_cA ω 0, 24, .inl (fun _ => 0)) := tk_ini_a (tk_m0_0 (by decide))
theorem tk_ini_56 (ω : tk_O) : tk_ce ω tk_m0 56 (.inr (1, 6)) = .inl (tk_cA ω 3, 6, .inr (.inl (fun _ => 0))) := tk_ini_l (tk_m0_0 (by decide))
theorem tk_ini_57 (ω : tk_O) : tk_ce ω tk_m0 57 (.inr (1, 6)) = .inl (tk_cA ω 3, 6, .inr (.inl (fun _ => 0))) := tk_ini_l (tk_m0_0 (by decide))
theorem tk_ini_58 (ω : tk_O) : tk_ce ω tk_m0 58 (.inr (1, 24)) = .inl (tk_cA ω 3, 24, .inr (.inl (fun _ => 0))) := tk_ini_l (tk_m0_0 (by decide))
theorem tk_ini_59 (ω : tk_O) : tk_ce ω tk_m0 59 (.inr (1, 8)) = .inl (tk_cA ω 3, 8, .inr (.inl (fun _ => 0))) := tk_ini_l (tk_m0_0 (by decide))
theorem tk_ini_60 (ω : tk_O) : tk_ce ω tk_m0 60 (.inr (1, 8)) = .inl (tk_cA ω 3, 8, .inr (.inl (fun _ => 0))) := tk_ini_l (tk_m0_0 (by decide))
theorem tk_ini_61 (ω : tk_O) : tk_ce ω tk_m0 61 (.inl 2) = .inr (2, [.int 1, .int 0, .int 0, .int 0, .int 0, .ref (tk_bs ω + (0 + 62)), .ref (tk_bs ω + (0 + 63)), .ref (tk_bs ω + (0 + 64)), .ref (tk_bs ω + (0 + 65)), .ref (tk_bs ω + (0 + 66)), .ref (tk_bs ω + (0 + 67)), .ref (tk_bs ω + (0 + 68)), .ref (tk_bs ω + (0 + 69)), .ref (tk_bs ω + (0 + 70)), .ref (tk_bs ω + (0 + 71)), .ref (tk_bs ω + (0 + 72)), .ref (tk_bs ω + (0 + 75)), .ref (tk_bs ω + (0 + 78))]) := by
  simp [tk_ce, tk_ct, tk_fv, tk_m0, tk_v]
  try rfl
theorem tk_ini_62 (ω : tk_O) : tk_ce ω tk_m0 62 (.inr (0, 24)) = .inl (tk_cA ω 0, 24, .inl (fun _ => 0)) := tk_ini_a (tk_m0_0 (by decide))
theorem tk_ini_63 (ω : tk_O) : tk_ce ω tk_m0 63 (.inr (0, 24)) = .inl (tk_cA ω 0, 24, .inl (fun _ => 0)) := tk_ini_a (tk_m0_0 (by decide))
theorem tk_ini_64 (ω : tk_O) : tk_ce ω tk_m0 64 (.inr (0, 24)) = .inl (tk_cA ω 0, 24, .inl (fun _ => 0)) := tk_ini_a (tk_m0_0 (by decide))
theorem tk_ini_65 (ω : tk_O) : tk_ce ω tk_m0 65 (.inr (0, 8)) = .inl (tk_cA ω 0, 8, .inl (fun _ => 0)) := tk_ini_a (tk_m0_0 (by decide))
theorem tk_ini_66 (ω : tk_O) : tk_ce ω tk_m0 66 (.inr (0, 8)) = .inl (tk_cA ω 0, 8, .inl (fun _ => 0)) := tk_ini_a (tk_m0_0 (by decide))
theorem tk_ini_67 (ω : tk_O) : tk_ce ω tk_m0 67 (.inr (0, 8)) = .inl (tk_cA ω 0, 8, .inl (fun _ => 0)) := tk_ini_a (tk_m0_0 (by decide))
theorem tk_ini_68 (ω : tk_O) : tk_ce ω tk_m0 68 (.inr (0, 8)) = .inl (tk_cA ω 0, 8, .inl (fun _ => 0)) := tk_ini_a (tk_m0_0 (by decide))
theorem tk_ini_69 (ω : tk_O) : tk_ce ω tk_m0 69 (.inr (0, 8)) = .inl (tk_cA ω 0, 8, .inl (fun _ => 0)) := tk_ini_a (tk_m0_0 (by decide))
theorem tk_ini_70 (ω : tk_O) : tk_ce ω tk_m0 70 (.inr (0, 8)) = .inl (tk_cA ω 0, 8, .inl (fun _ => 0)) := tk_ini_a (tk_m0_0 (by decide))
theorem tk_ini_71 (ω : tk_O) : tk_ce ω tk_m0 71 (.inr (0, 32)) = .inl (tk_cA ω 0, 32, .inl (fun _ => 0)) := tk_ini_a (tk_m0_0 (by decide))
theorem tk_ini_72 (ω : tk_O) : tk_ce ω tk_m0 72 (.inl 3) = .inr (3, [.int 0, .ref (tk_bs ω + (0 + 73)), .ref (tk_bs ω + (0 + 74))]) := by
  simp [tk_ce, tk_ct, tk_fv, tk_m0, tk_v]
  try rfl
theorem tk_ini_73 (ω : tk_O) : tk_ce ω tk_m0 73 (.inr (0, 5)) = .inl (tk_cA ω 0, 5, .inl (fun _ => 0)) := tk_ini_a (tk_m0_0 (by decide))
theorem tk_ini_74 (ω : tk_O) : tk_ce ω tk_m0 74 (.inr (0, 5)) = .inl (tk_cA ω 0, 5, .inl (fun _ => 0)) := tk_ini_a (tk_m0_0 (by decide))
theorem tk_ini_75 (ω : tk_O) : tk_ce ω tk_m0 75 (.inl 3) = .inr (3, [.int 0, .ref (tk_bs ω + (0 + 76)), .ref (tk_bs ω + (0 + 77))]) := by
  simp [tk_ce, tk_ct, tk_fv, tk_m0, tk_v]
  try rfl
theorem tk_ini_76 (ω : tk_O) : tk_ce ω tk_m0 76 (.inr (0, 10)) = .inl (tk_cA ω 0, 10, .inl (fun _ => 0)) := tk_ini_a (tk_m0_0 (by decide))
theorem tk_ini_77 (ω : tk_O) : tk_ce ω tk_m0 77 (.inr (0, 10)) = .inl (tk_cA ω 0, 10, .inl (fun _ => 0)) := tk_ini_a (tk_m0_0 (by decide))
theorem tk_ini_78 (ω : tk_O) : tk_ce ω tk_m0 78 (.inl 3) = .inr (3, [.int 0, .ref (tk_bs ω + (0 + 79)), .ref (tk_bs ω + (0 + 80))]) := by
  simp [tk_ce, tk_ct, tk_fv, tk_m0, tk_v]
  try rfl
theorem tk_ini_79 (ω : tk_O) : tk_ce ω tk_m0 79 (.inr (0, 8)) = .inl (tk_cA ω 0, 8, .inl (fun _ => 0)) := tk_ini_a (tk_m0_0 (by decide))
theorem tk_ini_80 (ω : tk_O) : tk_ce ω tk_m0 80 (.inr (0, 8)) = .inl (tk_cA ω 0, 8, .inl (fun _ => 0)) := tk_ini_a (tk_m0_0 (by decide))
theorem tk_ini_81 (ω : tk_O) : tk_ce ω tk_m0 81 (.inr (5, 100)) = .inl (tk_cA ω 1, 100, .inl (fun _ => 0)) := tk_ini_b (tk_m0_0 (by decide))
theorem tk_ini_82 (ω : tk_O) : tk_ce ω tk_m0 82 (.inl 1) = .inr (1, [.int 0, .int 0, .int 0, .int 0, .int 0, .int 0, .int 0]) := by
  simp [tk_ce, tk_ct, tk_fv, tk_m0, tk_v]
  try rfl
theorem tk_ini_83 (ω : tk_O) : tk_ce ω tk_m0 83 (.inr (9, 6)) = tk_tp ω := rfl
theorem tk_ini_84 (ω : tk_O) : tk_ce ω tk_m0 84 (.inl 4) = .inr (4, [.int (-1), .int 0, .ref (tk_bs ω + (0 + 85))]) := by
  simp [tk_ce, tk_ct, tk_fv, tk_m0, tk_v]
  try rfl
theorem tk_ini_85 (ω : tk_O) : tk_ce ω tk_m0 85 (.inr (1, 60)) = .inl (tk_cA ω 3, 60, .inr (.inl (fun _ => 0))) := tk_ini_l (tk_m0_0 (by decide))
theorem tk_ini_86 (ω : tk_O) : tk_ce ω tk_m0 86 (.inl 4) = .inr (4, [.int (-1), .int 0, .ref (tk_bs ω + (0 + 87))]) := by
  simp [tk_ce, tk_ct, tk_fv, tk_m0, tk_v]
  try rfl
theorem tk_ini_87 (ω : tk_O) : tk_ce ω tk_m0 87 (.inr (1, 60)) = .inl (tk_cA ω 3, 60, .inr (.inl (fun _ => 0))) := tk_ini_l (tk_m0_0 (by decide))
theorem tk_ini_88 (ω : tk_O) : tk_ce ω tk_m0 88 (.inl 4) = .inr (4, [.int (-1), .int 0, .ref (tk_bs ω + (0 + 89))]) := by
  simp [tk_ce, tk_ct, tk_fv, tk_m0, tk_v]
  try rfl
theorem tk_ini_89 (ω : tk_O) : tk_ce ω tk_m0 89 (.inr (1, 60)) = .inl (tk_cA ω 3, 60, .inr (.inl (fun _ => 0))) := tk_ini_l (tk_m0_0 (by decide))
theorem tk_ini_90 (ω : tk_O) : tk_ce ω tk_m0 90 (.inl 4) = .inr (4, [.int (-1), .int 0, .ref (tk_bs ω + (0 + 91))]) := by
  simp [tk_ce, tk_ct, tk_fv, tk_m0, tk_v]
  try rfl
theorem tk_ini_91 (ω : tk_O) : tk_ce ω tk_m0 91 (.inr (1, 60)) = .inl (tk_cA ω 3, 60, .inr (.inl (fun _ => 0))) := tk_ini_l (tk_m0_0 (by decide))
theorem tk_ini_92 (ω : tk_O) : tk_ce ω tk_m0 92 (.inl 4) = .inr (4, [.int (-1), .int 0, .ref (tk_bs ω + (0 + 93))]) := by
  simp [tk_ce, tk_ct, tk_fv, tk_m0, tk_v]
  try rfl
theorem tk_ini_93 (ω : tk_O) : tk_ce ω tk_m0 93 (.inr (1, 60)) = .inl (tk_cA ω 3, 60, .inr (.inl (fun _ => 0))) := tk_ini_l (tk_m0_0 (by decide))
theorem tk_ini_94 (ω : tk_O) : tk_ce ω tk_m0 94 (.inl 4) = .inr (4, [.int (-1), .int 0, .ref (tk_bs ω + (0 + 95))]) := by
  simp [tk_ce, tk_ct, tk_fv, tk_m0, tk_v]
  try rfl
theorem tk_ini_95 (ω : tk_O) : tk_ce ω tk_m0 95 (.inr (1, 60)) = .inl (tk_cA ω 3, 60, .inr (.inl (fun _ => 0))) := tk_ini_l (tk_m0_0 (by decide))
theorem tk_ini_96 (ω : tk_O) : tk_ce ω tk_m0 96 (.inl 7) = .inr (7, [.int 1, .int 0, .ref (tk_bs ω + (96 + 1)), .ref (tk_bs ω + (96 + 2)), .ref (tk_bs ω + (96 + 3)), .int 0, .ref (tk_bs ω + (96 + 4)), .ref (tk_bs ω + (96 + 5)), .ref (tk_bs ω + (96 + 6)), .ref (tk_bs ω + (96 + 7)), .ref (tk_bs ω + (96 + 8)), .ref (tk_bs ω + (96 + 9)), .ref (tk_bs ω + (96 + 10)), .int 0, .int 0, .int 0, .ref (tk_bs ω + (96 + 11)), .ref (tk_bs ω + (96 + 12)), .int 0, .ref (tk_bs ω + (96 + 13)), .ref (tk_bs ω + (96 + 14)), .int 0, .ref (tk_bs ω + (96 + 15)), .ref (tk_bs ω + (96 + 16)), .int 0, .ref (tk_bs ω + (96 + 17)), .ref (tk_bs ω + (96 + 18)), .int 0, .int 0, .int 0, .null, .ref (tk_bs ω + (96 + 19)), .ref (tk_bs ω + (96 + 20)), .ref (tk_bs ω + (96 + 21)), .ref (tk_bs ω + (96 + 22)), .ref (tk_bs ω + (96 + 23)), .ref (tk_bs ω + (96 + 24)), .int 0, .ref (tk_bs ω + (96 + 25)), .int 0, .int 0, .int 0, .ref (tk_bs ω + (96 + 26)), .ref (tk_bs ω + (96 + 27)), .ref (tk_bs ω + (96 + 28)), .int 0, .ref (tk_bs ω + (96 + 29)), .ref (tk_bs ω + (96 + 30)), .ref (tk_bs ω + (96 + 31)), .ref (tk_bs ω + (96 + 32)), .ref (tk_bs ω + (96 + 33))]) := by
  simp [tk_ce, tk_ct, tk_fv, tk_m0, tk_v]
  try rfl
theorem tk_ini_97 (ω : tk_O) : tk_ce ω tk_m0 97 (.inr (0, 24)) = .inl (tk_cA ω 0, 24, .inl (fun _ => 0)) := tk_ini_a (tk_m0_0 (by decide))
theorem tk_ini_98 (ω : tk_O) : tk_ce ω tk_m0 98 (.inr (0, 24)) = .inl (tk_cA ω 0, 24, .inl (fun _ => 0)) := tk_ini_a (tk_m0_0 (by decide))
theorem tk_ini_99 (ω : tk_O) : tk_ce ω tk_m0 99 (.inr (0, 24)) = .inl (tk_cA ω 0, 24, .inl (fun _ => 0)) := tk_ini_a (tk_m0_0 (by decide))
theorem tk_ini_100 (ω : tk_O) : tk_ce ω tk_m0 100 (.inr (0, 8)) = .inl (tk_cA ω 0, 8, .inl (fun _ => 0)) := tk_ini_a (tk_m0_0 (by decide))
theorem tk_ini_101 (ω : tk_O) : tk_ce ω tk_m0 101 (.inr (0, 8)) = .inl (tk_cA ω 0, 8, .inl (fun _ => 0)) := tk_ini_a (tk_m0_0 (by decide))
theorem tk_ini_102 (ω : tk_O) : tk_ce ω tk_m0 102 (.inr (0, 8)) = .inl (tk_cA ω 0, 8, .inl (fun _ => 0)) := tk_ini_a (tk_m0_0 (by decide))
theorem tk_ini_103 (ω : tk_O) : tk_ce ω tk_m0 103 (.inr (0, 8)) = .inl (tk_cA ω 0, 8, .inl (fun _ => 0)) := tk_ini_a (tk_m0_0 (by decide))
theorem tk_ini_104 (ω : tk_O) : tk_ce ω tk_m0 104 (.inr (0, 8)) = .inl (tk_cA ω 0, 8, .inl (fun _ => 0)) := tk_ini_a (tk_m0_0 (by decide))
theorem tk_ini_105 (ω : tk_O) : tk_ce ω tk_m0 105 (.inr (0, 8)) = .inl (tk_cA ω 0, 8, .inl (fun _ => 0)) := tk_ini_a (tk_m0_0 (by decide))
theorem tk_ini_106 (ω : tk_O) : tk_ce ω tk_m0 106 (.inr (0, 32)) = .inl (tk_cA ω 0, 32, .inl (fun _ => 0)) := tk_ini_a (tk_m0_0 (by decide))
theorem tk_ini_107 (ω : tk_O) : tk_ce ω tk_m0 107 (.inr (0, 5)) = .inl (tk_cA ω 0, 5, .inl (fun _ => 0)) := tk_ini_a (tk_m0_0 (by decide))
theorem tk_ini_108 (ω : tk_O) : tk_ce ω tk_m0 108 (.inr (0, 5)) = .inl (tk_cA ω 0, 5, .inl (fun _ => 0)) := tk_ini_a (tk_m0_0 (by decide))
theorem tk_ini_109 (ω : tk_O) : tk_ce ω tk_m0 109 (.inr (0, 10)) = .inl (tk_cA ω 0, 10, .inl (fun _ => 0)) := tk_ini_a (tk_m0_0 (by decide))
theorem tk_ini_110 (ω : tk_O) : tk_ce ω tk_m0 110 (.inr (0, 10)) = .inl (tk_cA ω 0, 10, .inl (fun _ => 0)) := tk_ini_a (tk_m0_0 (by decide))
theorem tk_ini_111 (ω : tk_O) : tk_ce ω tk_m0 111 (.inr (0, 8)) = .inl (tk_cA ω 0, 8, .inl (fun _ => 0)) := tk_ini_a (tk_m0_0 (by decide))
theorem tk_ini_112 (ω : tk_O) : tk_ce ω tk_m0 112 (.inr (0, 8)) = .inl (tk_cA ω 0, 8, .inl (fun _ => 0)) := tk_ini_a (tk_m0_0 (by decide))
theorem tk_ini_113 (ω : tk_O) : tk_ce ω tk_m0 113 (.inr (0, 210)) = .inl (tk_cA ω 0, 210, .inl (fun _ => 0)) := tk_ini_a (tk_m0_0 (by decide))
theorem tk_ini_114 (ω : tk_O) : tk_ce ω tk_m0 114 (.inr (0, 210)) = .inl (tk_cA ω 0, 210, .inl (fun _ => 0)) := tk_ini_a (tk_m0_0 (by decide))
theorem tk_ini_115 (ω : tk_O) : tk_ce ω tk_m0 115 (.inr (0, 6)) = .inl (tk_cA ω 0, 6, .inl (fun _ => 0)) := tk_ini_a (tk_m0_0 (by decide))
theorem tk_ini_116 (ω : tk_O) : tk_ce ω tk_m0 116 (.inr (1, 6)) = .inl (tk_cA ω 3, 6, .inr (.inl (fun _ => 0))) := tk_ini_l (tk_m0_0 (by decide))
theorem tk_ini_117 (ω : tk_O) : tk_ce ω tk_m0 117 (.inr (1, 6)) = .inl (tk_cA ω 3, 6, .inr (.inl (fun _ => 0))) := tk_ini_l (tk_m0_0 (by decide))
theorem tk_ini_118 (ω : tk_O) : tk_ce ω tk_m0 118 (.inr (1, 6)) = .inl (tk_cA ω 3, 6, .inr (.inl (fun _ => 0))) := tk_ini_l (tk_m0_0 (by decide))
theorem tk_ini_119 (ω : tk_O) : tk_ce ω tk_m0 119 (.inr (1, 8)) = .inl (tk_cA ω 3, 8, .inr (.inl (fun _ => 0))) := tk_ini_l (tk_m0_0 (by decide))
theorem tk_ini_120 (ω : tk_O) : tk_ce ω tk_m0 120 (.inr (1, 8)) = .inl (tk_cA ω 3, 8, .inr (.inl (fun _ => 0))) := tk_ini_l (tk_m0_0 (by decide))
theorem tk_ini_121 (ω : tk_O) : tk_ce ω tk_m0 121 (.inr (0, 100)) = .inl (tk_cA ω 0, 100, .inl (fun _ => 0)) := tk_ini_a (tk_m0_0 (by decide))
theorem tk_ini_122 (ω : tk_O) : tk_ce ω tk_m0 122 (.inr (0, 51)) = .inl (tk_cA ω 0, 51, .inl (fun _ => 0)) := tk_ini_a (tk_m0_0 (by decide))
theorem tk_ini_123 (ω : tk_O) : tk_ce ω tk_m0 123 (.inr (0, 51)) = .inl (tk_cA ω 0, 51, .inl (fun _ => 0)) := tk_ini_a (tk_m0_0 (by decide))
theorem tk_ini_124 (ω : tk_O) : tk_ce ω tk_m0 124 (.inr (0, 51)) = .inl (tk_cA ω 0, 51, .inl (fun _ => 0)) := tk_ini_a (tk_m0_0 (by decide))
theorem tk_ini_125 (ω : tk_O) : tk_ce ω tk_m0 125 (.inr (0, 6)) = .inl (tk_cA ω 0, 6, .inl (fun _ => 0)) := tk_ini_a (tk_m0_0 (by decide))
theorem tk_ini_126 (ω : tk_O) : tk_ce ω tk_m0 126 (.inr (0, 6)) = .inl (tk_cA ω 0, 6, .inl (fun _ => 0)) := tk_ini_a (tk_m0_0 (by decide))
theorem tk_ini_127 (ω : tk_O) : tk_ce ω tk_m0 127 (.inr (1, 360)) = .inl (tk_cA ω 3, 360, .inr (.inl (fun _ => 0))) := tk_ini_l (tk_m0_0 (by decide))
theorem tk_ini_128 (ω : tk_O) : tk_ce ω tk_m0 128 (.inr (1, 60)) = .inl (tk_cA ω 3, 60, .inr (.inl (fun _ => 0))) := tk_ini_l (tk_m0_0 (by decide))
theorem tk_ini_129 (ω : tk_O) : tk_ce ω tk_m0 129 (.inr (4, 6)) = .inl (tk_cA ω 2, 6, .inl (fun _ => 0)) := tk_ini_z (tk_m0_0 (by decide))
theorem tk_wsx (ω : tk_O) (μ : tk_M) : tk_ws ω μ = tk_wx ω (tk_lay.mapIdx (fun o k => tk_ce ω μ o k)) := by
  apply List.ext_getElem?
  intro i
  unfold tk_ws tk_wx
  rw [List.getElem?_mapIdx, List.getElem?_mapIdx, List.getElem?_mapIdx]
  cases tk_lay[i]? <;> rfl
def tk_L0 (ω : tk_O) : List va_E := (tko_TicketHall ω 0 ++ tko_Model ω 96).set 83 (tk_tp ω)
set_option maxRecDepth 100000 in
theorem tk_iniM_0 (ω : tk_O) : ∀ (o : Nat) (k : Nat ⊕ (Nat × Nat)), 0 ≤ o → o < 10 → tk_lay[o]? = some k → (tk_L0 ω)[o]? = some (tk_ce ω tk_m0 o k) := by
  intro o k h1 h2 h
  obtain ⟨i, rfl⟩ : ∃ i, o = 0 + i := ⟨o - 0, by omega⟩
  match i, h, h2 with
  | 0, h, _ => cases h; exact congrArg some (tk_ini_0 ω).symm
  | 1, h, _ => cases h; exact congrArg some (tk_ini_1 ω).symm
  | 2, h, _ => cases h; exact congrArg some (tk_ini_2 ω).symm
  | 3, h, _ => cases h; exact congrArg some (tk_ini_3 ω).symm
  | 4, h, _ => cases h; exact congrArg some (tk_ini_4 ω).symm
  | 5, h, _ => cases h; exact congrArg some (tk_ini_5 ω).symm
  | 6, h, _ => cases h; exact congrArg some (tk_ini_6 ω).symm
  | 7, h, _ => cases h; exact congrArg some (tk_ini_7 ω).symm
  | 8, h, _ => cases h; exact congrArg some (tk_ini_8 ω).symm
  | 9, h, _ => cases h; exact congrArg some (tk_ini_9 ω).symm
  | i + 10, _, h2 => omega
set_option maxRecDepth 100000 in
theorem tk_iniM_10 (ω : tk_O) : ∀ (o : Nat) (k : Nat ⊕ (Nat × Nat)), 10 ≤ o → o < 20 → tk_lay[o]? = some k → (tk_L0 ω)[o]? = some (tk_ce ω tk_m0 o k) := by
  intro o k h1 h2 h
  obtain ⟨i, rfl⟩ : ∃ i, o = 10 + i := ⟨o - 10, by omega⟩
  match i, h, h2 with
  | 0, h, _ => cases h; exact congrArg some (tk_ini_10 ω).symm
  | 1, h, _ => cases h; exact congrArg some (tk_ini_11 ω).symm
  | 2, h, _ => cases h; exact congrArg some (tk_ini_12 ω).symm
  | 3, h, _ => cases h; exact congrArg some (tk_ini_13 ω).symm
  | 4, h, _ => cases h; exact congrArg some (tk_ini_14 ω).symm
  | 5, h, _ => cases h; exact congrArg some (tk_ini_15 ω).symm
  | 6, h, _ => cases h; exact congrArg some (tk_ini_16 ω).symm
  | 7, h, _ => cases h; exact congrArg some (tk_ini_17 ω).symm
  | 8, h, _ => cases h; exact congrArg some (tk_ini_18 ω).symm
  | 9, h, _ => cases h; exact congrArg some (tk_ini_19 ω).symm
  | i + 10, _, h2 => omega
set_option maxRecDepth 100000 in
theorem tk_iniM_20 (ω : tk_O) : ∀ (o : Nat) (k : Nat ⊕ (Nat × Nat)), 20 ≤ o → o < 30 → tk_lay[o]? = some k → (tk_L0 ω)[o]? = some (tk_ce ω tk_m0 o k) := by
  intro o k h1 h2 h
  obtain ⟨i, rfl⟩ : ∃ i, o = 20 + i := ⟨o - 20, by omega⟩
  match i, h, h2 with
  | 0, h, _ => cases h; exact congrArg some (tk_ini_20 ω).symm
  | 1, h, _ => cases h; exact congrArg some (tk_ini_21 ω).symm
  | 2, h, _ => cases h; exact congrArg some (tk_ini_22 ω).symm
  | 3, h, _ => cases h; exact congrArg some (tk_ini_23 ω).symm
  | 4, h, _ => cases h; exact congrArg some (tk_ini_24 ω).symm
  | 5, h, _ => cases h; exact congrArg some (tk_ini_25 ω).symm
  | 6, h, _ => cases h; exact congrArg some (tk_ini_26 ω).symm
  | 7, h, _ => cases h; exact congrArg some (tk_ini_27 ω).symm
  | 8, h, _ => cases h; exact congrArg some (tk_ini_28 ω).symm
  | 9, h, _ => cases h; exact congrArg some (tk_ini_29 ω).symm
  | i + 10, _, h2 => omega
set_option maxRecDepth 100000 in
theorem tk_iniM_30 (ω : tk_O) : ∀ (o : Nat) (k : Nat ⊕ (Nat × Nat)), 30 ≤ o → o < 40 → tk_lay[o]? = some k → (tk_L0 ω)[o]? = some (tk_ce ω tk_m0 o k) := by
  intro o k h1 h2 h
  obtain ⟨i, rfl⟩ : ∃ i, o = 30 + i := ⟨o - 30, by omega⟩
  match i, h, h2 with
  | 0, h, _ => cases h; exact congrArg some (tk_ini_30 ω).symm
  | 1, h, _ => cases h; exact congrArg some (tk_ini_31 ω).symm
  | 2, h, _ => cases h; exact congrArg some (tk_ini_32 ω).symm
  | 3, h, _ => cases h; exact congrArg some (tk_ini_33 ω).symm
  | 4, h, _ => cases h; exact congrArg some (tk_ini_34 ω).symm
  | 5, h, _ => cases h; exact congrArg some (tk_ini_35 ω).symm
  | 6, h, _ => cases h; exact congrArg some (tk_ini_36 ω).symm
  | 7, h, _ => cases h; exact congrArg some (tk_ini_37 ω).symm
  | 8, h, _ => cases h; exact congrArg some (tk_ini_38 ω).symm
  | 9, h, _ => cases h; exact congrArg some (tk_ini_39 ω).symm
  | i + 10, _, h2 => omega
set_option maxRecDepth 100000 in
theorem tk_iniM_40 (ω : tk_O) : ∀ (o : Nat) (k : Nat ⊕ (Nat × Nat)), 40 ≤ o → o < 50 → tk_lay[o]? = some k → (tk_L0 ω)[o]? = some (tk_ce ω tk_m0 o k) := by
  intro o k h1 h2 h
  obtain ⟨i, rfl⟩ : ∃ i, o = 40 + i := ⟨o - 40, by omega⟩
  match i, h, h2 with
  | 0, h, _ => cases h; exact congrArg some (tk_ini_40 ω).symm
  | 1, h, _ => cases h; exact congrArg some (tk_ini_41 ω).symm
  | 2, h, _ => cases h; exact congrArg some (tk_ini_42 ω).symm
  | 3, h, _ => cases h; exact congrArg some (tk_ini_43 ω).symm
  | 4, h, _ => cases h; exact congrArg some (tk_ini_44 ω).symm
  | 5, h, _ => cases h; exact congrArg some (tk_ini_45 ω).symm
  | 6, h, _ => cases h; exact congrArg some (tk_ini_46 ω).symm
  | 7, h, _ => cases h; exact congrArg some (tk_ini_47 ω).symm
  | 8, h, _ => cases h; exact congrArg some (tk_ini_48 ω).symm
  | 9, h, _ => cases h; exact congrArg some (tk_ini_49 ω).symm
  | i + 10, _, h2 => omega
set_option maxRecDepth 100000 in
theorem tk_iniM_50 (ω : tk_O) : ∀ (o : Nat) (k : Nat ⊕ (Nat × Nat)), 50 ≤ o → o < 60 → tk_lay[o]? = some k → (tk_L0 ω)[o]? = some (tk_ce ω tk_m0 o k) := by
  intro o k h1 h2 h
  obtain ⟨i, rfl⟩ : ∃ i, o = 50 + i := ⟨o - 50, by omega⟩
  match i, h, h2 with
  | 0, h, _ => cases h; exact congrArg some (tk_ini_50 ω).symm
  | 1, h, _ => cases h; exact congrArg some (tk_ini_51 ω).symm
  | 2, h, _ => cases h; exact congrArg some (tk_ini_52 ω).symm
  | 3, h, _ => cases h; exact congrArg some (tk_ini_53 ω).symm
  | 4, h, _ => cases h; exact congrArg some (tk_ini_54 ω).symm
  | 5, h, _ => cases h; exact congrArg some (tk_ini_55 ω).symm
  | 6, h, _ => cases h; exact congrArg some (tk_ini_56 ω).symm
  | 7, h, _ => cases h; exact congrArg some (tk_ini_57 ω).symm
  | 8, h, _ => cases h; exact congrArg some (tk_ini_58 ω).symm
  | 9, h, _ => cases h; exact congrArg some (tk_ini_59 ω).symm
  | i + 10, _, h2 => omega
set_option maxRecDepth 100000 in
theorem tk_iniM_60 (ω : tk_O) : ∀ (o : Nat) (k : Nat ⊕ (Nat × Nat)), 60 ≤ o → o < 70 → tk_lay[o]? = some k → (tk_L0 ω)[o]? = some (tk_ce ω tk_m0 o k) := by
  intro o k h1 h2 h
  obtain ⟨i, rfl⟩ : ∃ i, o = 60 + i := ⟨o - 60, by omega⟩
  match i, h, h2 with
  | 0, h, _ => cases h; exact congrArg some (tk_ini_60 ω).symm
  | 1, h, _ => cases h; exact congrArg some (tk_ini_61 ω).symm
  | 2, h, _ => cases h; exact congrArg some (tk_ini_62 ω).symm
  | 3, h, _ => cases h; exact congrArg some (tk_ini_63 ω).symm
  | 4, h, _ => cases h; exact congrArg some (tk_ini_64 ω).symm
  | 5, h, _ => cases h; exact congrArg some (tk_ini_65 ω).symm
  | 6, h, _ => cases h; exact congrArg some (tk_ini_66 ω).symm
  | 7, h, _ => cases h; exact congrArg some (tk_ini_67 ω).symm
  | 8, h, _ => cases h; exact congrArg some (tk_ini_68 ω).symm
  | 9, h, _ => cases h; exact congrArg some (tk_ini_69 ω).symm
  | i + 10, _, h2 => omega
set_option maxRecDepth 100000 in
theorem tk_iniM_70 (ω : tk_O) : ∀ (o : Nat) (k : Nat ⊕ (Nat × Nat)), 70 ≤ o → o < 80 → tk_lay[o]? = some k → (tk_L0 ω)[o]? = some (tk_ce ω tk_m0 o k) := by
  intro o k h1 h2 h
  obtain ⟨i, rfl⟩ : ∃ i, o = 70 + i := ⟨o - 70, by omega⟩
  match i, h, h2 with
  | 0, h, _ => cases h; exact congrArg some (tk_ini_70 ω).symm
  | 1, h, _ => cases h; exact congrArg some (tk_ini_71 ω).symm
  | 2, h, _ => cases h; exact congrArg some (tk_ini_72 ω).symm
  | 3, h, _ => cases h; exact congrArg some (tk_ini_73 ω).symm
  | 4, h, _ => cases h; exact congrArg some (tk_ini_74 ω).symm
  | 5, h, _ => cases h; exact congrArg some (tk_ini_75 ω).symm
  | 6, h, _ => cases h; exact congrArg some (tk_ini_76 ω).symm
  | 7, h, _ => cases h; exact congrArg some (tk_ini_77 ω).symm
  | 8, h, _ => cases h; exact congrArg some (tk_ini_78 ω).symm
  | 9, h, _ => cases h; exact congrArg some (tk_ini_79 ω).symm
  | i + 10, _, h2 => omega
set_option maxRecDepth 100000 in
theorem tk_iniM_80 (ω : tk_O) : ∀ (o : Nat) (k : Nat ⊕ (Nat × Nat)), 80 ≤ o → o < 90 → tk_lay[o]? = some k → (tk_L0 ω)[o]? = some (tk_ce ω tk_m0 o k) := by
  intro o k h1 h2 h
  obtain ⟨i, rfl⟩ : ∃ i, o = 80 + i := ⟨o - 80, by omega⟩
  match i, h, h2 with
  | 0, h, _ => cases h; exact congrArg some (tk_ini_80 ω).symm
  | 1, h, _ => cases h; exact congrArg some (tk_ini_81 ω).symm
  | 2, h, _ => cases h; exact congrArg some (tk_ini_82 ω).symm
  | 3, h, _ => cases h; exact congrArg some (tk_ini_83 ω).symm
  | 4, h, _ => cases h; exact congrArg some (tk_ini_84 ω).symm
  | 5, h, _ => cases h; exact congrArg some (tk_ini_85 ω).symm
  | 6, h, _ => cases h; exact congrArg some (tk_ini_86 ω).symm
  | 7, h, _ => cases h; exact congrArg some (tk_ini_87 ω).symm
  | 8, h, _ => cases h; exact congrArg some (tk_ini_88 ω).symm
  | 9, h, _ => cases h; exact congrArg some (tk_ini_89 ω).symm
  | i + 10, _, h2 => omega
set_option maxRecDepth 100000 in
theorem tk_iniM_90 (ω : tk_O) : ∀ (o : Nat) (k : Nat ⊕ (Nat × Nat)), 90 ≤ o → o < 100 → tk_lay[o]? = some k → (tk_L0 ω)[o]? = some (tk_ce ω tk_m0 o k) := by
  intro o k h1 h2 h
  obtain ⟨i, rfl⟩ : ∃ i, o = 90 + i := ⟨o - 90, by omega⟩
  match i, h, h2 with
  | 0, h, _ => cases h; exact congrArg some (tk_ini_90 ω).symm
  | 1, h, _ => cases h; exact congrArg some (tk_ini_91 ω).symm
  | 2, h, _ => cases h; exact congrArg some (tk_ini_92 ω).symm
  | 3, h, _ => cases h; exact congrArg some (tk_ini_93 ω).symm
  | 4, h, _ => cases h; exact congrArg some (tk_ini_94 ω).symm
  | 5, h, _ => cases h; exact congrArg some (tk_ini_95 ω).symm
  | 6, h, _ => cases h; exact congrArg some (tk_ini_96 ω).symm
  | 7, h, _ => cases h; exact congrArg some (tk_ini_97 ω).symm
  | 8, h, _ => cases h; exact congrArg some (tk_ini_98 ω).symm
  | 9, h, _ => cases h; exact congrArg some (tk_ini_99 ω).symm
  | i + 10, _, h2 => omega
set_option maxRecDepth 100000 in
theorem tk_iniM_100 (ω : tk_O) : ∀ (o : Nat) (k : Nat ⊕ (Nat × Nat)), 100 ≤ o → o < 110 → tk_lay[o]? = some k → (tk_L0 ω)[o]? = some (tk_ce ω tk_m0 o k) := by
  intro o k h1 h2 h
  obtain ⟨i, rfl⟩ : ∃ i, o = 100 + i := ⟨o - 100, by omega⟩
  match i, h, h2 with
  | 0, h, _ => cases h; exact congrArg some (tk_ini_100 ω).symm
  | 1, h, _ => cases h; exact congrArg some (tk_ini_101 ω).symm
  | 2, h, _ => cases h; exact congrArg some (tk_ini_102 ω).symm
  | 3, h, _ => cases h; exact congrArg some (tk_ini_103 ω).symm
  | 4, h, _ => cases h; exact congrArg some (tk_ini_104 ω).symm
  | 5, h, _ => cases h; exact congrArg some (tk_ini_105 ω).symm
  | 6, h, _ => cases h; exact congrArg some (tk_ini_106 ω).symm
  | 7, h, _ => cases h; exact congrArg some (tk_ini_107 ω).symm
  | 8, h, _ => cases h; exact congrArg some (tk_ini_108 ω).symm
  | 9, h, _ => cases h; exact congrArg some (tk_ini_109 ω).symm
  | i + 10, _, h2 => omega
set_option maxRecDepth 100000 in
theorem tk_iniM_110 (ω : tk_O) : ∀ (o : Nat) (k : Nat ⊕ (Nat × Nat)), 110 ≤ o → o < 120 → tk_lay[o]? = some k → (tk_L0 ω)[o]? = some (tk_ce ω tk_m0 o k) := by
  intro o k h1 h2 h
  obtain ⟨i, rfl⟩ : ∃ i, o = 110 + i := ⟨o - 110, by omega⟩
  match i, h, h2 with
  | 0, h, _ => cases h; exact congrArg some (tk_ini_110 ω).symm
  | 1, h, _ => cases h; exact congrArg some (tk_ini_111 ω).symm
  | 2, h, _ => cases h; exact congrArg some (tk_ini_112 ω).symm
  | 3, h, _ => cases h; exact congrArg some (tk_ini_113 ω).symm
  | 4, h, _ => cases h; exact congrArg some (tk_ini_114 ω).symm
  | 5, h, _ => cases h; exact congrArg some (tk_ini_115 ω).symm
  | 6, h, _ => cases h; exact congrArg some (tk_ini_116 ω).symm
  | 7, h, _ => cases h; exact congrArg some (tk_ini_117 ω).symm
  | 8, h, _ => cases h; exact congrArg some (tk_ini_118 ω).symm
  | 9, h, _ => cases h; exact congrArg some (tk_ini_119 ω).symm
  | i + 10, _, h2 => omega
set_option maxRecDepth 100000 in
theorem tk_iniM_120 (ω : tk_O) : ∀ (o : Nat) (k : Nat ⊕ (Nat × Nat)), 120 ≤ o → o < 130 → tk_lay[o]? = some k → (tk_L0 ω)[o]? = some (tk_ce ω tk_m0 o k) := by
  intro o k h1 h2 h
  obtain ⟨i, rfl⟩ : ∃ i, o = 120 + i := ⟨o - 120, by omega⟩
  match i, h, h2 with
  | 0, h, _ => cases h; exact congrArg some (tk_ini_120 ω).symm
  | 1, h, _ => cases h; exact congrArg some (tk_ini_121 ω).symm
  | 2, h, _ => cases h; exact congrArg some (tk_ini_122 ω).symm
  | 3, h, _ => cases h; exact congrArg some (tk_ini_123 ω).symm
  | 4, h, _ => cases h; exact congrArg some (tk_ini_124 ω).symm
  | 5, h, _ => cases h; exact congrArg some (tk_ini_125 ω).symm
  | 6, h, _ => cases h; exact congrArg some (tk_ini_126 ω).symm
  | 7, h, _ => cases h; exact congrArg some (tk_ini_127 ω).symm
  | 8, h, _ => cases h; exact congrArg some (tk_ini_128 ω).symm
  | 9, h, _ => cases h; exact congrArg some (tk_ini_129 ω).symm
  | i + 10, _, h2 => omega
set_option maxRecDepth 100000 in
theorem tk_iniLen (ω : tk_O) : (tk_L0 ω).length = 130 := rfl
theorem tk_iniL (ω : tk_O) : tk_lay.mapIdx (fun o k => tk_ce ω tk_m0 o k) = tk_L0 ω := by
  apply List.ext_getElem?
  intro i
  rw [List.getElem?_mapIdx]
  by_cases hi : i < 130
  · cases hk : tk_lay[i]? with
    | none =>
      have hl : tk_lay.length = 130 := rfl
      have := List.getElem?_eq_none_iff.mp hk
      omega
    | some k =>
      refine Eq.symm ?_
      have h : ∀ lo, lo ≤ i → i < lo + 10 → lo ∈ [0, 10, 20, 30, 40, 50, 60, 70, 80, 90, 100, 110, 120] → (tk_L0 ω)[i]? = some (tk_ce ω tk_m0 i k) := by
        intro lo h1 h2 hm
        simp only [List.mem_cons, List.not_mem_nil, or_false] at hm
        rcases hm with rfl | rfl | rfl | rfl | rfl | rfl | rfl | rfl | rfl | rfl | rfl | rfl | rfl
        · exact tk_iniM_0 ω i k h1 h2 hk
        · exact tk_iniM_10 ω i k h1 h2 hk
        · exact tk_iniM_20 ω i k h1 h2 hk
        · exact tk_iniM_30 ω i k h1 h2 hk
        · exact tk_iniM_40 ω i k h1 h2 hk
        · exact tk_iniM_50 ω i k h1 h2 hk
        · exact tk_iniM_60 ω i k h1 h2 hk
        · exact tk_iniM_70 ω i k h1 h2 hk
        · exact tk_iniM_80 ω i k h1 h2 hk
        · exact tk_iniM_90 ω i k h1 h2 hk
        · exact tk_iniM_100 ω i k h1 h2 hk
        · exact tk_iniM_110 ω i k h1 h2 hk
        · exact tk_iniM_120 ω i k h1 h2 hk
      refine h (10 * (i / 10)) (by omega) (by omega) ?_
      have h3 : i / 10 < 13 := by omega
      generalize i / 10 = j at h3
      match j, h3 with
      | 0, _ => decide
      | 1, _ => decide
      | 2, _ => decide
      | 3, _ => decide
      | 4, _ => decide
      | 5, _ => decide
      | 6, _ => decide
      | 7, _ => decide
      | 8, _ => decide
      | 9, _ => decide
      | 10, _ => decide
      | 11, _ => decide
      | 12, _ => decide
  · have hl : tk_lay.length = 130 := rfl
    rw [List.getElem?_eq_none (by omega), List.getElem?_eq_none (by rw [tk_iniLen]; omega)]
    rfl
theorem tk_iniE (ω : tk_O) : (tk_wx ω (tko_TicketHall ω 0 ++ tko_Model ω 96)).set 83 (tk_bs ω + 83, tk_tp ω) = tk_ws ω tk_m0 := by
  rw [tk_wx_set, tk_wsx, tk_iniL]
  rfl
