/-- what the fields of a class are -/
def tk_ct (ci : Nat) : List Int := match ci with
  | 0 => [980, 1002, 1001, 0, 1]
  | 1 => [0, 0, 0, 4, 0, 0, 0]
  | 2 => [0, 0, 0, 0, 0, 1001, 1002, 1003, 1004, 1005, 1006, 1007, 1008, 1009, 1010, 1011, 1014, 1017]
  | 3 => [0, 1001, 1002]
  | 4 => [0, 0, 1001]
  | 5 => [978, 1001, 1002, 1003, 1004, 1005, 1006, 1007, 0]
  | 6 => [1001, 1021, 1031, 1051, 1061, 4, 1081, 0, 1082, 1083]
  | 7 => [0, 0, 1001, 1002, 1003, 0, 1004, 1005, 1006, 1007, 1008, 1009, 1010, 0, 0, 0, 1011, 1012, 0, 1013, 1014, 0, 1015, 1016, 0, 1017, 1018, 4, 0, 4, 2, 1019, 1020, 1021, 1022, 1023, 1024, 0, 1025, 0, 0, 4, 1026, 1027, 1028, 0, 1029, 1030, 1031, 1032, 1033]
  | _ => []
/-- the cells, in the order in which they come: an object of a class, or an array of a type and a length -/
def tk_lay : List (Nat ⊕ (Nat × Nat)) := [.inl 6, .inl 2, .inr (0, 24), .inr (0, 24), .inr (0, 24), .inr (0, 8), .inr (0, 8), .inr (0, 8), .inr (0, 8), .inr (0, 8), .inr (0, 8), .inr (0, 32), .inl 3, .inr (0, 5), .inr (0, 5), .inl 3, .inr (0, 10), .inr (0, 10), .inl 3, .inr (0, 8), .inr (0, 8), .inl 0, .inr (1, 8), .inl 5, .inr (0, 6), .inr (0, 24), .inr (1, 6), .inr (1, 6), .inr (1, 24), .inr (1, 8), .inr (1, 8), .inl 2, .inr (0, 24), .inr (0, 24), .inr (0, 24), .inr (0, 8), .inr (0, 8), .inr (0, 8), .inr (0, 8), .inr (0, 8), .inr (0, 8), .inr (0, 32), .inl 3, .inr (0, 5), .inr (0, 5), .inl 3, .inr (0, 10), .inr (0, 10), .inl 3, .inr (0, 8), .inr (0, 8), .inl 0, .inr (1, 8), .inl 5, .inr (0, 6), .inr (0, 24), .inr (1, 6), .inr (1, 6), .inr (1, 24), .inr (1, 8), .inr (1, 8), .inl 2, .inr (0, 24), .inr (0, 24), .inr (0, 24), .inr (0, 8), .inr (0, 8), .inr (0, 8), .inr (0, 8), .inr (0, 8), .inr (0, 8), .inr (0, 32), .inl 3, .inr (0, 5), .inr (0, 5), .inl 3, .inr (0, 10), .inr (0, 10), .inl 3, .inr (0, 8), .inr (0, 8), .inr (5, 100), .inl 1, .inr (9, 6), .inl 4, .inr (1, 60), .inl 4, .inr (1, 60), .inl 4, .inr (1, 60), .inl 4, .inr (1, 60), .inl 4, .inr (1, 60), .inl 4, .inr (1, 60), .inl 7, .inr (0, 24), .inr (0, 24), .inr (0, 24), .inr (0, 8), .inr (0, 8), .inr (0, 8), .inr (0, 8), .inr (0, 8), .inr (0, 8), .inr (0, 32), .inr (0, 5), .inr (0, 5), .inr (0, 10), .inr (0, 10), .inr (0, 8), .inr (0, 8), .inr (0, 210), .inr (0, 210), .inr (0, 6), .inr (1, 6), .inr (1, 6), .inr (1, 6), .inr (1, 8), .inr (1, 8), .inr (0, 100), .inr (0, 51), .inr (0, 51), .inr (0, 51), .inr (0, 6), .inr (0, 6), .inr (1, 360), .inr (1, 60), .inr (4, 6)]
def tk_un (j : Nat) : Int := match j with
  | 0 => -1
  | 1 => 0
  | 2 => 0
  | 3 => 0
  | 4 => 1
  | 5 => 2
  | _ => 3
/-- of which class a cell is -/
def tk_isC (ci : Nat) (o : Int) : Prop := match ci with
  | 0 => o = 21 ∨ o = 51
  | 1 => o = 82
  | 2 => o = 1 ∨ o = 31 ∨ o = 61
  | 3 => o = 12 ∨ o = 15 ∨ o = 18 ∨ o = 42 ∨ o = 45 ∨ o = 48 ∨ o = 72 ∨ o = 75 ∨ o = 78
  | 4 => o = 84 ∨ o = 86 ∨ o = 88 ∨ o = 90 ∨ o = 92 ∨ o = 94
  | 5 => o = 23 ∨ o = 53
  | 6 => o = 0
  | 7 => o = 96
  | _ => False
theorem tk_isC_lay {ci : Nat} {o : Int} (h : tk_isC ci o) : 0 ≤ o ∧ tk_lay[o.toNat]? = some (.inl ci) := by
  unfold tk_isC at h
  split at h
  · rcases h with rfl | rfl <;> exact ⟨by decide, by decide +kernel⟩
  · subst h; exact ⟨by decide, by decide +kernel⟩
  · rcases h with rfl | rfl | rfl <;> exact ⟨by decide, by decide +kernel⟩
  · rcases h with rfl | rfl | rfl | rfl | rfl | rfl | rfl | rfl | rfl <;> exact ⟨by decide, by decide +kernel⟩
  · rcases h with rfl | rfl | rfl | rfl | rfl | rfl <;> exact ⟨by decide, by decide +kernel⟩
  · rcases h with rfl | rfl <;> exact ⟨by decide, by decide +kernel⟩
  · subst h; exact ⟨by decide, by decide +kernel⟩
  · subst h; exact ⟨by decide, by decide +kernel⟩
  · exact h.elim
/-- how long an array of a type is; 0 where there is none -/
def tk_al (t : Nat) (o : Int) : Int := if o < 0 then 0 else match tk_lay[o.toNat]? with
  | some (.inr (t', n)) => if t' = t then (n : Int) else 0
  | _ => 0
theorem tk_al_lay {t : Nat} {o i : Int} (h0 : 0 ≤ i) (h : i < tk_al t o) : 0 ≤ o ∧ ∃ n : Nat, tk_al t o = n ∧ tk_lay[o.toNat]? = some (.inr (t, n)) := by
  unfold tk_al at h ⊢
  by_cases ho : o < 0
  · rw [if_pos ho] at h; omega
  · rw [if_neg ho] at h ⊢
    refine ⟨by omega, ?_⟩
    revert h
    cases hk : tk_lay[o.toNat]? with
    | none => intro h; simp at h; omega
    | some k =>
      cases k with
      | inl c => intro h; simp at h; omega
      | inr q =>
        obtain ⟨t', n⟩ := q
        by_cases ht : t' = t
        · subst ht; intro h; exact ⟨n, by simp, rfl⟩
        · intro h; simp [ht] at h; omega
theorem tk_al_2 : tk_al 0 2 = 24 := by decide +kernel
theorem tk_al_3 : tk_al 0 3 = 24 := by decide +kernel
theorem tk_al_4 : tk_al 0 4 = 24 := by decide +kernel
theorem tk_al_5 : tk_al 0 5 = 8 := by decide +kernel
theorem tk_al_6 : tk_al 0 6 = 8 := by decide +kernel
theorem tk_al_7 : tk_al 0 7 = 8 := by decide +kernel
theorem tk_al_8 : tk_al 0 8 = 8 := by decide +kernel
theorem tk_al_9 : tk_al 0 9 = 8 := by decide +kernel
theorem tk_al_10 : tk_al 0 10 = 8 := by decide +kernel
theorem tk_al_11 : tk_al 0 11 = 32 := by decide +kernel
theorem tk_al_13 : tk_al 0 13 = 5 := by decide +kernel
theorem tk_al_14 : tk_al 0 14 = 5 := by decide +kernel
theorem tk_al_16 : tk_al 0 16 = 10 := by decide +kernel
theorem tk_al_17 : tk_al 0 17 = 10 := by decide +kernel
theorem tk_al_19 : tk_al 0 19 = 8 := by decide +kernel
theorem tk_al_20 : tk_al 0 20 = 8 := by decide +kernel
theorem tk_al_22 : tk_al 1 22 = 8 := by decide +kernel
theorem tk_al_24 : tk_al 0 24 = 6 := by decide +kernel
theorem tk_al_25 : tk_al 0 25 = 24 := by decide +kernel
theorem tk_al_26 : tk_al 1 26 = 6 := by decide +kernel
theorem tk_al_27 : tk_al 1 27 = 6 := by decide +kernel
theorem tk_al_28 : tk_al 1 28 = 24 := by decide +kernel
theorem tk_al_29 : tk_al 1 29 = 8 := by decide +kernel
theorem tk_al_30 : tk_al 1 30 = 8 := by decide +kernel
theorem tk_al_32 : tk_al 0 32 = 24 := by decide +kernel
theorem tk_al_33 : tk_al 0 33 = 24 := by decide +kernel
theorem tk_al_34 : tk_al 0 34 = 24 := by decide +kernel
theorem tk_al_35 : tk_al 0 35 = 8 := by decide +kernel
theorem tk_al_36 : tk_al 0 36 = 8 := by decide +kernel
theorem tk_al_37 : tk_al 0 37 = 8 := by decide +kernel
theorem tk_al_38 : tk_al 0 38 = 8 := by decide +kernel
theorem tk_al_39 : tk_al 0 39 = 8 := by decide +kernel
theorem tk_al_40 : tk_al 0 40 = 8 := by decide +kernel
theorem tk_al_41 : tk_al 0 41 = 32 := by decide +kernel
theorem tk_al_43 : tk_al 0 43 = 5 := by decide +kernel
theorem tk_al_44 : tk_al 0 44 = 5 := by decide +kernel
theorem tk_al_46 : tk_al 0 46 = 10 := by decide +kernel
theorem tk_al_47 : tk_al 0 47 = 10 := by decide +kernel
theorem tk_al_49 : tk_al 0 49 = 8 := by decide +kernel
theorem tk_al_50 : tk_al 0 50 = 8 := by decide +kernel
theorem tk_al_52 : tk_al 1 52 = 8 := by decide +kernel
theorem tk_al_54 : tk_al 0 54 = 6 := by decide +kernel
theorem tk_al_55 : tk_al 0 55 = 24 := by decide +kernel
theorem tk_al_56 : tk_al 1 56 = 6 := by decide +kernel
theorem tk_al_57 : tk_al 1 57 = 6 := by decide +kernel
theorem tk_al_58 : tk_al 1 58 = 24 := by decide +kernel
theorem tk_al_59 : tk_al 1 59 = 8 := by decide +kernel
theorem tk_al_60 : tk_al 1 60 = 8 := by decide +kernel
theorem tk_al_62 : tk_al 0 62 = 24 := by decide +kernel
theorem tk_al_63 : tk_al 0 63 = 24 := by decide +kernel
theorem tk_al_64 : tk_al 0 64 = 24 := by decide +kernel
theorem tk_al_65 : tk_al 0 65 = 8 := by decide +kernel
theorem tk_al_66 : tk_al 0 66 = 8 := by decide +kernel
theorem tk_al_67 : tk_al 0 67 = 8 := by decide +kernel
theorem tk_al_68 : tk_al 0 68 = 8 := by decide +kernel
theorem tk_al_69 : tk_al 0 69 = 8 := by decide +kernel
theorem tk_al_70 : tk_al 0 70 = 8 := by decide +kernel
theorem tk_al_71 : tk_al 0 71 = 32 := by decide +kernel
theorem tk_al_73 : tk_al 0 73 = 5 := by decide +kernel
theorem tk_al_74 : tk_al 0 74 = 5 := by decide +kernel
theorem tk_al_76 : tk_al 0 76 = 10 := by decide +kernel
theorem tk_al_77 : tk_al 0 77 = 10 := by decide +kernel
theorem tk_al_79 : tk_al 0 79 = 8 := by decide +kernel
theorem tk_al_80 : tk_al 0 80 = 8 := by decide +kernel
theorem tk_al_81 : tk_al 5 81 = 100 := by decide +kernel
theorem tk_al_83 : tk_al 9 83 = 6 := by decide +kernel
theorem tk_al_85 : tk_al 1 85 = 60 := by decide +kernel
theorem tk_al_87 : tk_al 1 87 = 60 := by decide +kernel
theorem tk_al_89 : tk_al 1 89 = 60 := by decide +kernel
theorem tk_al_91 : tk_al 1 91 = 60 := by decide +kernel
theorem tk_al_93 : tk_al 1 93 = 60 := by decide +kernel
theorem tk_al_95 : tk_al 1 95 = 60 := by decide +kernel
theorem tk_al_97 : tk_al 0 97 = 24 := by decide +kernel
theorem tk_al_98 : tk_al 0 98 = 24 := by decide +kernel
theorem tk_al_99 : tk_al 0 99 = 24 := by decide +kernel
theorem tk_al_100 : tk_al 0 100 = 8 := by decide +kernel
theorem tk_al_101 : tk_al 0 101 = 8 := by decide +kernel
theorem tk_al_102 : tk_al 0 102 = 8 := by decide +kernel
theorem tk_al_103 : tk_al 0 103 = 8 := by decide +kernel
theorem tk_al_104 : tk_al 0 104 = 8 := by decide +kernel
theorem tk_al_105 : tk_al 0 105 = 8 := by decide +kernel
theorem tk_al_106 : tk_al 0 106 = 32 := by decide +kernel
theorem tk_al_107 : tk_al 0 107 = 5 := by decide +kernel
theorem tk_al_108 : tk_al 0 108 = 5 := by decide +kernel
theorem tk_al_109 : tk_al 0 109 = 10 := by decide +kernel
theorem tk_al_110 : tk_al 0 110 = 10 := by decide +kernel
theorem tk_al_111 : tk_al 0 111 = 8 := by decide +kernel
theorem tk_al_112 : tk_al 0 112 = 8 := by decide +kernel
theorem tk_al_113 : tk_al 0 113 = 210 := by decide +kernel
theorem tk_al_114 : tk_al 0 114 = 210 := by decide +kernel
theorem tk_al_115 : tk_al 0 115 = 6 := by decide +kernel
theorem tk_al_116 : tk_al 1 116 = 6 := by decide +kernel
theorem tk_al_117 : tk_al 1 117 = 6 := by decide +kernel
theorem tk_al_118 : tk_al 1 118 = 6 := by decide +kernel
theorem tk_al_119 : tk_al 1 119 = 8 := by decide +kernel
theorem tk_al_120 : tk_al 1 120 = 8 := by decide +kernel
theorem tk_al_121 : tk_al 0 121 = 100 := by decide +kernel
theorem tk_al_122 : tk_al 0 122 = 51 := by decide +kernel
theorem tk_al_123 : tk_al 0 123 = 51 := by decide +kernel
theorem tk_al_124 : tk_al 0 124 = 51 := by decide +kernel
theorem tk_al_125 : tk_al 0 125 = 6 := by decide +kernel
theorem tk_al_126 : tk_al 0 126 = 6 := by decide +kernel
theorem tk_al_127 : tk_al 1 127 = 360 := by decide +kernel
theorem tk_al_128 : tk_al 1 128 = 60 := by decide +kernel
theorem tk_al_129 : tk_al 4 129 = 6 := by decide +kernel
/-! ===== the abstract machine: a memory of ints by (object, slot), locals by number; what a piece of code does is a predicate transformer ===== -/
abbrev tk_M : Type := Int → Int → Int
abbrev tk_L : Type := Nat → Int
/-- the world's cells: base, the script's cell, the cell of UNDER, the script's length, the script, the tables' numbers, the arrays' classes -/
abbrev tk_O : Type := Nat × Nat × Nat × Nat × (Nat → Int32) × va_G × (Nat → ClassId)
abbrev tk_bs (ω : tk_O) : Nat := ω.1
abbrev tk_sc (ω : tk_O) : Nat := ω.2.1
abbrev tk_tU (ω : tk_O) : Nat := ω.2.2.1
abbrev tk_Ls (ω : tk_O) : Nat := ω.2.2.2.1
abbrev tk_xs (ω : tk_O) : Nat → Int32 := ω.2.2.2.2.1
abbrev tk_D (ω : tk_O) : va_G := ω.2.2.2.2.2.1
abbrev tk_cA (ω : tk_O) : Nat → ClassId := ω.2.2.2.2.2.2
abbrev tk_A (ω : tk_O) : Nat → Prop := fun q => tk_bs ω ≤ q
def tk_up (ρ : tk_L) (k : Nat) (v : Int) : tk_L := fun j => if j = k then v else ρ j
def tk_set (μ : tk_M) (o j v : Int) : tk_M := fun o' j' => if o' = o ∧ j' = j then v else μ o' j'
/-- a value of a type: 0 an int, 1 a long, 2 a cell of the world (below 0: null), 3 the script -/
def tk_v (ω : tk_O) (t : Nat) (v : Int) : Value := match t with
  | 0 => .int (Int32.ofInt v)
  | 1 => .long (Int64.ofInt v)
  | 2 => if v < 0 then .null else .ref (tk_bs ω + v.toNat)
  | _ => .ref (tk_sc ω)
def tk_r (t : Nat) (v : Int) : Prop := match t with
  | 0 => -2147483648 ≤ v ∧ v ≤ 2147483647
  | 1 => -9223372036854775808 ≤ v ∧ v ≤ 9223372036854775807
  | 2 => 0 ≤ v
  | _ => True
/-- what a field or an item may be: 0 an int, 1 a long, 2 a cell or null, 4 a boolean, 5 a byte; from 500 on: the cell so many (less 1000) behind its object -/
def tk_fr (t : Int) (v : Int) : Prop := if t = 1 then tk_r 1 v else if t = 4 then 0 ≤ v ∧ v ≤ 1 else if t = 5 then -128 ≤ v ∧ v ≤ 127 else if t = 0 then tk_r 0 v else True
def tk_fv (ω : tk_O) (μ : tk_M) (o j : Nat) (t : Int) : Value :=
  if 500 ≤ t then .ref (tk_bs ω + ((o : Int) + (t - 1000)).toNat) else if t = 1 then .long (Int64.ofInt (μ o j)) else if t = 2 then tk_v ω 2 (μ o j) else .int (Int32.ofInt (μ o j))
def tk_ce (ω : tk_O) (μ : tk_M) (o : Nat) (k : Nat ⊕ (Nat × Nat)) : va_E := match k with
  | .inl ci => .inr (ci, (tk_ct ci).mapIdx (fun j t => tk_fv ω μ o j t))
  | .inr (t, n) => if t = 9 then .inl (tk_cA ω 4, n, .inr (.inr (.inr (.inr (fun j => some (tk_bs ω + (o + 1 + 2 * j)))))))
    else if t = 1 then .inl (tk_cA ω 3, n, .inr (.inl (fun j => Int64.ofInt (μ o j))))
    else .inl (tk_cA ω (if t = 5 then 1 else if t = 4 then 2 else 0), n, .inl (fun j => Int32.ofInt (μ o j)))
def tk_ws (ω : tk_O) (μ : tk_M) : va_W := tk_lay.mapIdx (fun o k => (tk_bs ω + o, tk_ce ω μ o k))
def tk_ty (ω : tk_O) : List (ClassId × FieldType) := [(tk_cA ω 0, .int), (tk_cA ω 1, .byte), (tk_cA ω 2, .boolean), (tk_cA ω 3, .long), (tk_cA ω 4, .object "TicketHall$Tape")]
def tk_ok (μ : tk_M) (o : Nat) (k : Nat ⊕ (Nat × Nat)) : Prop := match k with
  | .inl ci => ∀ (j : Nat) (t : Int), (tk_ct ci)[j]? = some t → tk_fr t (μ o j)
  | .inr (t, n) => ∀ j : Nat, j < n → tk_fr t (μ o j)
def tk_in (μ : tk_M) : Prop := ∀ (o : Nat) (k : Nat ⊕ (Nat × Nat)), tk_lay[o]? = some k → tk_ok μ o k
def tk_P (ω : tk_O) (μ : tk_M) (H : Heap) : Prop := va_P (tk_D ω) vwCl (tk_ws ω μ) H ∧ tk_in μ
/-- what stays: the tables, UNDER, the script -/
def tk_S (ω : tk_O) (U : State) : Prop := va_K (tk_D ω) vwCl (tk_ty ω) U ∧ va_Z "TicketHall" "UNDER" "[I" (.ref (tk_tU ω)) (tk_A ω) U U.heap ∧ va_T .int (tk_tU ω) 7 (fun j => .int (Int32.ofInt (tk_un j))) (tk_A ω) U U.heap ∧ va_X (tk_sc ω) (tk_Ls ω) (tk_xs ω) U U.heap ∧ ¬ tk_A ω (tk_sc ω) ∧ ∀ w ∈ tk_nw, va_Nw w U
theorem tk_S.to {ω : tk_O} {u U : State} (h : tk_S ω u) (hvm : u.vm.Alike U.vm) (hnw : ∀ w ∈ tk_nw, va_Nw w u → va_Nw w U) (hq : ∀ a : Nat, a < u.heap.size → ¬ tk_A ω a → U.heap[a]? = u.heap[a]?) : tk_S ω U := by
  obtain ⟨h1, h2, h3, h4, h5, h6⟩ := h
  have hs : tk_sc ω < u.heap.size := by
    obtain ⟨scr, g1, -⟩ := h4
    exact (Array.getElem?_eq_some_iff.mp g1).1
  exact ⟨h1.moved hvm, (h2.kept hq).moved hvm, (h3.kept hq).moved hvm, (h4.kept (hq _ hs h5)).moved hvm, h5, fun w hw => hnw w hw (h6 w hw)⟩
theorem tk_ws_at {ω : tk_O} {μ : tk_M} {o : Nat} {k : Nat ⊕ (Nat × Nat)} (h : tk_lay[o]? = some k) : (tk_ws ω μ)[o]? = some (tk_bs ω + o, tk_ce ω μ o k) := by
  unfold tk_ws
  rw [List.getElem?_mapIdx, h]
  rfl
theorem tk_ws_of {ω : tk_O} {μ : tk_M} {o : Nat} {q : Nat × va_E} (h : (tk_ws ω μ)[o]? = some q) : ∃ k, tk_lay[o]? = some k ∧ q = (tk_bs ω + o, tk_ce ω μ o k) := by
  unfold tk_ws at h
  rw [List.getElem?_mapIdx] at h
  cases hk : tk_lay[o]? with
  | none => rw [hk] at h; cases h
  | some k => rw [hk] at h; exact ⟨k, rfl, (Option.some.inj h).symm⟩
theorem tk_wD {ω : tk_O} {μ : tk_M} : va_D (tk_A ω) (tk_ws ω μ) := by
  refine ⟨fun i j p q hi hj hpq => ?_, fun k q hk => ?_⟩
  · obtain ⟨_, -, rfl⟩ := tk_ws_of hi
    obtain ⟨_, -, rfl⟩ := tk_ws_of hj
    have h2 : tk_bs ω + i = tk_bs ω + j := hpq
    omega
  · obtain ⟨_, -, rfl⟩ := tk_ws_of hk
    exact Nat.le_add_right _ _
/-- a world in which one cell was set is the world of the new memory -/
theorem tk_ws_put {ω : tk_O} {μ μ' : tk_M} {o : Nat} {k : Nat ⊕ (Nat × Nat)} {e : va_E} (h : tk_lay[o]? = some k) (he : e = tk_ce ω μ' o k) (hne : ∀ o' : Nat, o' ≠ o → ∀ j, μ' o' j = μ o' j) : (tk_ws ω μ).set o (tk_bs ω + o, e) = tk_ws ω μ' := by
  apply List.ext_getElem?
  intro i
  have hl := (List.getElem?_eq_some_iff.mp (tk_ws_at (ω := ω) (μ := μ) h)).1
  by_cases hi : i = o
  · subst hi
    rw [List.getElem?_set_self hl, tk_ws_at h, he]
  · rw [List.getElem?_set_ne (Ne.symm hi)]
    unfold tk_ws
    rw [List.getElem?_mapIdx, List.getElem?_mapIdx]
    cases tk_lay[i]? with
    | none => rfl
    | some k' =>
      have h3 : ∀ j, μ' (i : Int) j = μ i j := hne i hi
      have h4 : tk_ce ω μ i k' = tk_ce ω μ' i k' := by
        cases k' with
        | inl ci => simp only [tk_ce, tk_fv, h3]
        | inr q => obtain ⟨t, n⟩ := q; simp only [tk_ce, h3]
      simp only [Option.map_some, h4]
theorem tk_in_put {μ μ' : tk_M} {o : Nat} {k : Nat ⊕ (Nat × Nat)} (hin : tk_in μ) (h : tk_lay[o]? = some k) (hk : tk_ok μ' o k) (hne : ∀ o' : Nat, o' ≠ o → ∀ j, μ' o' j = μ o' j) : tk_in μ' := by
  intro o' k' h'
  by_cases ho : o' = o
  · subst ho
    rw [h] at h'
    cases h'
    exact hk
  · have h3 : ∀ j, μ' (o' : Int) j = μ o' j := hne o' ho
    have h0 := hin o' k' h'
    cases k' with
    | inl ci => intro j t hj; rw [h3]; exact h0 j t hj
    | inr q => obtain ⟨t, n⟩ := q; intro j hj; rw [h3]; exact h0 j hj
