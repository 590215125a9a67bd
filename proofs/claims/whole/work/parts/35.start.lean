/-! ===== the start: the world, the two objects, the law's body ===== -/
def tk_ρ0 : tk_L := fun k => if k = 2 then 96 else 0
/-- the memory when both are made -/
def tk_m0 : tk_M := fun o j => if (o = 1 ∨ o = 31 ∨ o = 61) ∧ j = 0 then 1 else if (o = 84 ∨ o = 86 ∨ o = 88 ∨ o = 90 ∨ o = 92 ∨ o = 94) ∧ j = 0 then -1 else if o = 96 ∧ j = 0 then 1 else if o = 96 ∧ j = 30 then -1 else 0
theorem tk_m0_r (o j : Int) : -1 ≤ tk_m0 o j ∧ tk_m0 o j ≤ 1 := by
  unfold tk_m0
  split
  · omega
  · split
    · omega
    · split
      · omega
      · split <;> omega
theorem tk_m0_n {o j : Int} (h : tk_m0 o j < 0) : (j = 0 ∧ (o = 84 ∨ o = 86 ∨ o = 88 ∨ o = 90 ∨ o = 92 ∨ o = 94)) ∨ (o = 96 ∧ j = 30) := by
  unfold tk_m0 at h
  split at h
  · omega
  · split at h
    · rename_i h1; exact Or.inl ⟨h1.2, h1.1⟩
    · split at h
      · omega
      · split at h
        · rename_i h1; exact Or.inr h1
        · omega
theorem tk_m0_z {o j : Nat} {k : Nat ⊕ (Nat × Nat)} (hk : tk_lay[o]? = some k) (h : tk_m0 o j < 0) : (k = .inl 4 ∧ j = 0) ∨ (k = .inl 7 ∧ j = 30) := by
  have e : ∀ q : Nat, q = 84 ∨ q = 86 ∨ q = 88 ∨ q = 90 ∨ q = 92 ∨ q = 94 → tk_lay[q]? = some (.inl 4) := by
    intro q hq
    rcases hq with rfl | rfl | rfl | rfl | rfl | rfl <;> decide +kernel
  have e2 : tk_lay[96]? = some (.inl 7) := by decide +kernel
  rcases tk_m0_n h with ⟨h1, h2⟩ | ⟨h1, h2⟩
  · rw [e o (by omega)] at hk
    exact Or.inl ⟨(Option.some.inj hk).symm, by omega⟩
  · have h3 : o = 96 := by omega
    subst h3
    rw [e2] at hk
    exact Or.inr ⟨(Option.some.inj hk).symm, by omega⟩
theorem tk_m0_f {t v : Int} (h : -1 ≤ v ∧ v ≤ 1) (h4 : t = 4 → ¬ v < 0) : tk_fr t v := by
  unfold tk_fr
  split
  · exact ⟨by omega, by omega⟩
  · split
    · rename_i h5; have := h4 h5; omega
    · split
      · omega
      · split
        · exact ⟨by omega, by omega⟩
        · trivial
theorem tk_m0_in : tk_in tk_m0 := by
  intro o k hk
  cases k with
  | inl ci =>
    intro j t hj
    refine tk_m0_f (tk_m0_r _ _) (fun ht hn => ?_)
    subst ht
    rcases tk_m0_z hk hn with ⟨h1, h2⟩ | ⟨h1, h2⟩
    · cases h1; subst h2; revert hj; decide
    · cases h1; subst h2; revert hj; decide
  | inr q =>
    obtain ⟨t, n⟩ := q
    intro j hj
    refine tk_m0_f (tk_m0_r _ _) (fun ht hn => ?_)
    rcases tk_m0_z hk hn with ⟨h1, -⟩ | ⟨h1, -⟩ <;> cases h1
theorem tk_arrK {s : State} {args : Array Value} {ty : FieldType} (hp : ∀ (U : State) (cA : ClassId), U.vm.findClass ("[" ++ ty.toString) = some cA → va_RA U cA ty) (h : (Cond.arrayClass ty).before args s = true) : ∃ cA : ClassId, ArrOfT s cA ty ∧ va_RA s cA ty := by
  obtain ⟨cA, kA, comp, h1, h2, h3⟩ := Cond.arrayClass_spec h
  exact ⟨cA, fun n z => ⟨fun k h => (by cases h), kA, h2, comp, h3⟩, hp s cA h1⟩
theorem tk_arrO {s : State} {args : Array Value} {C : String} (h : (Cond.arrayOver (.object C)).before args s = true) : ∃ cA : ClassId, ArrOfT s cA (.object C) ∧ va_RA s cA (.object C) := by
  obtain ⟨comp, cA, kA, h1, h2, h3, h4, h5⟩ := Cond.arrayOver_spec h
  exact ⟨cA, fun n z => ⟨fun k h => (by cases h), kA, h3, comp, h4⟩, kA, comp, h3, h4, h1, h5⟩
theorem tk_nw_of {A : Array Value} {U : State} {w : Cond} (hw : w ∈ tk_nw) (h : w.before A U = true) : va_Nw w U := by
  have hn := (List.mem_filter.mp hw).2
  cases w <;> first | (simp [tk_isN] at hn; done) | exact va_Nw.of rfl h
theorem tk_un7 {s : State} {args : Array Value} {tm : Term} (h0 : (Cond.eq (.elem tm (.int 0)) (.int (-1))).before args s = true) (h1 : (Cond.eq (.elem tm (.int 1)) (.int 0)).before args s = true) (h2 : (Cond.eq (.elem tm (.int 2)) (.int 0)).before args s = true) (h3 : (Cond.eq (.elem tm (.int 3)) (.int 0)).before args s = true) (h4 : (Cond.eq (.elem tm (.int 4)) (.int 1)).before args s = true) (h5 : (Cond.eq (.elem tm (.int 5)) (.int 2)).before args s = true) (h6 : (Cond.eq (.elem tm (.int 6)) (.int 3)).before args s = true) : ∀ j : Nat, j < 7 → (Term.elem tm (.int (Int32.ofNat j))).eval args s none [] s = some (.int (Int32.ofInt (tk_un j))) := by
  intro j hj
  match j, hj with
  | 0, _ => exact va_eqt h0
  | 1, _ => exact va_eqt h1
  | 2, _ => exact va_eqt h2
  | 3, _ => exact va_eqt h3
  | 4, _ => exact va_eqt h4
  | 5, _ => exact va_eqt h5
  | 6, _ => exact va_eqt h6
theorem tk_arrE {cA : ClassId} {n : Nat} {f g : Nat → Value} (h : ∀ j, j < n → f j = g j) : arrV cA n f = arrV cA n g := by
  unfold arrV
  congr 1
  apply Array.ext
  · simp
  · intro i h1 h2
    simp at h1
    simp [h i h1]
def tk_tp (ω : tk_O) : va_E := .inl (tk_cA ω 4, 6, .inr (.inr (.inr (.inr (fun j => some (tk_bs ω + (83 + 1 + 2 * j)))))))
set_option maxRecDepth 100000 in
set_option maxHeartbeats 4000000 in
theorem tk_iniE (ω : tk_O) : (tk_wx ω (tko_TicketHall ω 0 ++ tko_Model ω 96)).set 83 (tk_bs ω + 83, tk_tp ω) = tk_ws ω tk_m0 := rfl
set_option maxRecDepth 100000 in
set_option maxHeartbeats 4000000 in
theorem tk_ini {ω : tk_O} {H : Heap} (h : tk_Y ω ([] ++ (tko_TicketHall ω (0 + 0) ++ tko_Model ω (0 + 96))) H) : tk_P ω tk_m0 H := by
  refine ⟨?_, ?_⟩
  · rw [← tk_iniE]
    have h1 : va_P (tk_D ω) vwCl (tk_wx ω (tko_TicketHall ω 0 ++ tko_Model ω 96)) H := h.1
    have hp : ∃ f : Nat → Option Nat, (tk_wx ω (tko_TicketHall ω 0 ++ tko_Model ω 96))[83]? = some (tk_bs ω + 83, .inl (tk_cA ω 4, 6, .inr (.inr (.inr (.inr f))))) ∧ ∀ j, j < 6 → f j = some (tk_bs ω + (83 + 1 + 2 * j)) := by
      refine ⟨_, rfl, fun j hj => ?_⟩
      match j, hj with
      | 0, _ => rfl
      | 1, _ => rfl
      | 2, _ => rfl
      | 3, _ => rfl
      | 4, _ => rfl
      | 5, _ => rfl
    obtain ⟨f, hf, hf2⟩ := hp
    refine h1.set tk_wxD hf ?_ (fun _ _ => rfl)
    have h2 := h1 _ _ hf
    show H[tk_bs ω + 83]? = some (vp_cell (tk_cA ω 4) _)
    have h3 : H[tk_bs ω + 83]? = some (vp_cell (tk_cA ω 4) (6, .inr (.inr (.inr (.inr f))))) := h2
    rw [h3, vp_cell_q, vp_cell_q]
    congr 1
    exact tk_arrE (fun j hj => by rw [hf2 j hj])
  · exact tk_m0_in
