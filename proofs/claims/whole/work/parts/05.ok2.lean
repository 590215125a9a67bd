/-- what the tables say of a class -/
def tk_Cl (ci : Nat) (C : String) (T : u_T) (N : Nat) (ty : Nat → FieldType) : Prop := vwCl[ci]? = some (C, T, N) ∧ (∀ w ∈ u_ws C T N, w ∈ tk_tbl) ∧ (∀ k, k < N → parseFieldDescriptor (T k).2.2.1 = some (ty k)) ∧ (∀ a, a < N → ∀ b, b < N → a ≠ b → (T a).2.1 ≠ (T b).2.1) ∧ (tk_ct ci).length = N
theorem tk_C0 : tk_Cl 0 RX0 TX0 5 tyX0 := ⟨rfl, tk_inX0, tyX0_ok, nmX0, by decide +kernel⟩
theorem tk_C1 : tk_Cl 1 RX1 TX1 7 tyX1 := ⟨rfl, tk_inX1, tyX1_ok, nmX1, by decide +kernel⟩
theorem tk_C2 : tk_Cl 2 RX2 TX2 18 tyX2 := ⟨rfl, tk_inX2, tyX2_ok, nmX2, by decide +kernel⟩
theorem tk_C3 : tk_Cl 3 RX3 TX3 3 tyX3 := ⟨rfl, tk_inX3, tyX3_ok, nmX3, by decide +kernel⟩
theorem tk_C4 : tk_Cl 4 RX4 TX4 3 tyX4 := ⟨rfl, tk_inX4, tyX4_ok, nmX4, by decide +kernel⟩
theorem tk_C5 : tk_Cl 5 RX5 TX5 9 tyX5 := ⟨rfl, tk_inX5, tyX5_ok, nmX5, by decide +kernel⟩
theorem tk_C6 : tk_Cl 6 RX6 TX6 10 tyX6 := ⟨rfl, tk_inX6, tyX6_ok, nmX6, by decide +kernel⟩
theorem tk_C7 : tk_Cl 7 RX7 TX7 51 tyX7 := ⟨rfl, tk_inX7, tyX7_ok, nmX7, by decide +kernel⟩
theorem tk_nat {o : Int} (h : 0 ≤ o) : ((o.toNat : Nat) : Int) = o := Int.toNat_of_nonneg h
/-- a field's link: of the class itself, or of a nest mate -/
def tk_lk (own : String) (ix : Nat) (T : u_T) (j : Nat) : Prop := Cond.fieldLink own ix (T j).1 (T j).2.1 (T j).2.2.1 ∈ tk_tbl ∨ Cond.fieldLinkNest own ix (T j).1 (T j).2.1 (T j).2.2.1 "TicketHall" ∈ tk_nw
theorem tk_get {κ : tk_K} {ν : tk_N} {H : Heap} {locs : List Loc} {ls : Array Slot} {pc : Nat} {st : List Value} {μ : tk_M} {ci j ix N : Nat} {C : String} {T : u_T} {ty : Nat → FieldType} {tc : Int} {x : Int} (X : tk_X κ ν) (hP : tk_P (tk_ω κ) μ H) (hC : tk_Cl ci C T N ty) (hj : j < N) (hl : tk_lk ν.2.1 ix T j) (ht : (tk_ct ci)[j]? = some tc) (hx : tk_isC ci x) (hd : decode ν.1 pc = .ok (.getfield ix, 3))
    (kk : tk_W κ ν H locs (pc + 3) ls (tk_fv (tk_ω κ) μ x.toNat j tc :: st)) : tk_W κ ν H locs pc ls (tk_v (tk_ω κ) 2 x :: st) := by
  obtain ⟨h0, hlay⟩ := tk_isC_lay hx
  have he := tk_ws_at (ω := tk_ω κ) (μ := μ) hlay
  have hv : ((tk_ct ci).mapIdx (fun i t => tk_fv (tk_ω κ) μ x.toNat i t))[j]? = some (tk_fv (tk_ω κ) μ x.toNat j tc) := by
    rw [List.getElem?_mapIdx, ht]; rfl
  rw [tk_v2 h0]
  rcases hl with hl | hl
  · exact va_get X.1 X.2.1 X.2.2.2.2.1 hC.2.1 X.2.2.2.1 X.2.2.2.2.2.1.1 hP.1 x.toNat he hC.1 j hj (X.2.2.2.2.1 _ hl) (fun _ h => h) hv hd kk
  · exact va_getN X.1 X.2.1 X.2.2.2.2.1 hC.2.1 X.2.2.2.1 X.2.2.2.2.2.1.1 hP.1 x.toNat he hC.1 j hj (tk_Xn X hl) (fun _ h => h) hv hd kk
theorem tk_in_f {μ : tk_M} {ci j : Nat} {tc x : Int} (h : tk_in μ) (ht : (tk_ct ci)[j]? = some tc) (hx : tk_isC ci x) : tk_fr tc (μ x j) := by
  obtain ⟨h0, hlay⟩ := tk_isC_lay hx
  have h1 := h _ _ hlay j tc ht
  rwa [tk_nat h0] at h1
theorem tk_in_a {μ : tk_M} {t : Nat} {x i : Int} (h : tk_in μ) (hi : 0 ≤ i ∧ i < tk_al t x) : tk_fr t (μ x i) := by
  obtain ⟨h0, n, hn, hlay⟩ := tk_al_lay hi.1 hi.2
  have h1 := h _ _ hlay i.toNat (by have := hi.2; omega)
  rwa [tk_nat h0, tk_nat hi.1] at h1
theorem tk_tl {κ : tk_K} {ν : tk_N} (X : tk_X κ ν) {w : Cond} (h : w ∈ tk_tbl) : w.before (tk_ar κ) (tk_s κ) = true := X.2.2.2.2.1 _ h
theorem tk_ok_gi {ν : tk_N} {Γ : List (Nat × Nat)} {d pc p1 : Nat} {a : tk_Ex} {ci j ix N : Nat} {C : String} {T : u_T} {ty : Nat → FieldType} (ha : tk_E ν Γ d a 2 pc p1) (hC : tk_Cl ci C T N ty) (hd : decode ν.1 p1 = .ok (.getfield ix, 3)) (hj : j < N) (hl : tk_lk ν.2.1 ix T j) (ht : (tk_ct ci)[j]? = some 0) : tk_E ν Γ d (tk_gf ci j a) 0 pc (p1 + 3) := by
  intro κ X st hst ρ μ Q hr h k
  refine ha κ X st hst ρ μ _ hr h (fun x μ1 h1 _ H ls locs hP hS hl' => ?_)
  have hf := tk_in_f hP.2 ht h1.1
  simp only [tk_fr] at hf
  have h3 := k _ μ1 h1.2 (by simpa using hf) H ls locs hP hS hl'
  refine tk_get X hP hC hj hl ht h1.1 hd ?_
  have h4 : tk_fv (tk_ω κ) μ1 x.toNat j 0 = tk_v (tk_ω κ) 0 (μ1 x j) := by simp [tk_fv, tk_v, tk_nat (tk_isC_lay h1.1).1]
  rw [h4]
  exact h3
theorem tk_ok_gz {ν : tk_N} {Γ : List (Nat × Nat)} {d pc p1 : Nat} {a : tk_Ex} {ci j ix N : Nat} {C : String} {T : u_T} {ty : Nat → FieldType} (ha : tk_E ν Γ d a 2 pc p1) (hC : tk_Cl ci C T N ty) (hd : decode ν.1 p1 = .ok (.getfield ix, 3)) (hj : j < N) (hl : tk_lk ν.2.1 ix T j) (ht : (tk_ct ci)[j]? = some 4) : tk_E ν Γ d (tk_gf ci j a) 0 pc (p1 + 3) := by
  intro κ X st hst ρ μ Q hr h k
  refine ha κ X st hst ρ μ _ hr h (fun x μ1 h1 _ H ls locs hP hS hl' => ?_)
  have hf := tk_in_f hP.2 ht h1.1
  simp only [tk_fr] at hf
  have h3 := k _ μ1 h1.2 (by simp at hf; exact ⟨by omega, by omega⟩) H ls locs hP hS hl'
  refine tk_get X hP hC hj hl ht h1.1 hd ?_
  have h4 : tk_fv (tk_ω κ) μ1 x.toNat j 4 = tk_v (tk_ω κ) 0 (μ1 x j) := by simp [tk_fv, tk_v, tk_nat (tk_isC_lay h1.1).1]
  rw [h4]
  exact h3
theorem tk_ok_gl {ν : tk_N} {Γ : List (Nat × Nat)} {d pc p1 : Nat} {a : tk_Ex} {ci j ix N : Nat} {C : String} {T : u_T} {ty : Nat → FieldType} (ha : tk_E ν Γ d a 2 pc p1) (hC : tk_Cl ci C T N ty) (hd : decode ν.1 p1 = .ok (.getfield ix, 3)) (hj : j < N) (hl : tk_lk ν.2.1 ix T j) (ht : (tk_ct ci)[j]? = some 1) : tk_E ν Γ d (tk_gf ci j a) 1 pc (p1 + 3) := by
  intro κ X st hst ρ μ Q hr h k
  refine ha κ X st hst ρ μ _ hr h (fun x μ1 h1 _ H ls locs hP hS hl' => ?_)
  have hf := tk_in_f hP.2 ht h1.1
  simp only [tk_fr] at hf
  have h3 := k _ μ1 h1.2 (by simpa using hf) H ls locs hP hS hl'
  refine tk_get X hP hC hj hl ht h1.1 hd ?_
  have h4 : tk_fv (tk_ω κ) μ1 x.toNat j 1 = tk_v (tk_ω κ) 1 (μ1 x j) := by simp [tk_fv, tk_v, tk_nat (tk_isC_lay h1.1).1]
  rw [h4]
  exact h3
theorem tk_ok_gr {ν : tk_N} {Γ : List (Nat × Nat)} {d pc p1 : Nat} {a : tk_Ex} {ci j ix N : Nat} {C : String} {T : u_T} {ty : Nat → FieldType} {dl : Int} (ha : tk_E ν Γ d a 2 pc p1) (hC : tk_Cl ci C T N ty) (hd : decode ν.1 p1 = .ok (.getfield ix, 3)) (hj : j < N) (hl : tk_lk ν.2.1 ix T j) (ht : (tk_ct ci)[j]? = some (1000 + dl)) (hb : -500 ≤ dl) (hn : ∀ o : Int, tk_isC ci o → 0 ≤ o + dl) : tk_E ν Γ d (tk_gr ci dl a) 2 pc (p1 + 3) := by
  intro κ X st hst ρ μ Q hr h k
  refine ha κ X st hst ρ μ _ hr h (fun x μ1 h1 _ H ls locs hP hS hl' => ?_)
  have h0 := (tk_isC_lay h1.1).1
  have h3 := k _ μ1 h1.2 (hn x h1.1) H ls locs hP hS hl'
  refine tk_get X hP hC hj hl ht h1.1 hd ?_
  have h4 : tk_fv (tk_ω κ) μ1 x.toNat j (1000 + dl) = tk_v (tk_ω κ) 2 (x + dl) := by
    rw [tk_v2 (hn x h1.1)]
    unfold tk_fv
    rw [if_pos (by omega), tk_nat h0]
    congr 3
    omega
  rw [h4]
  exact h3
theorem tk_ok_gn {ν : tk_N} {Γ : List (Nat × Nat)} {d pc p1 : Nat} {a : tk_Ex} {ci j ix N : Nat} {C : String} {T : u_T} {ty : Nat → FieldType} (ha : tk_E ν Γ d a 2 pc p1) (hC : tk_Cl ci C T N ty) (hd : decode ν.1 p1 = .ok (.getfield ix, 3)) (hj : j < N) (hl : tk_lk ν.2.1 ix T j) (ht : (tk_ct ci)[j]? = some 2) : tk_E ν Γ d (tk_gn ci j a) 2 pc (p1 + 3) := by
  intro κ X st hst ρ μ Q hr h k
  refine ha κ X st hst ρ μ _ hr h (fun x μ1 h1 _ H ls locs hP hS hl' => ?_)
  have h3 := k _ μ1 h1.2.2 h1.2.1 H ls locs hP hS hl'
  refine tk_get X hP hC hj hl ht h1.1 hd ?_
  have h4 : tk_fv (tk_ω κ) μ1 x.toNat j 2 = tk_v (tk_ω κ) 2 (μ1 x j) := by simp [tk_fv, tk_nat (tk_isC_lay h1.1).1]
  rw [h4]
  exact h3
theorem tk_vin {i : Int} {n : Nat} (hr : tk_r 0 i) (h0 : 0 ≤ i) (h : i < n) : vp_in (Int32.ofInt i) n := vp_in_iff.mpr ⟨by rw [tk_ofI hr]; exact h0, by rw [tk_ofI hr]; exact h⟩
theorem tk_ncn {i : Int} (hr : tk_r 0 i) : (Int32.ofInt i).toNatClampNeg = i.toNat := by
  show (Int32.ofInt i).toInt.toNat = i.toNat
  rw [tk_ofI hr]
theorem tk_ok_iald {ν : tk_N} {Γ : List (Nat × Nat)} {d pc p1 p2 : Nat} {a b : tk_Ex} (ha : tk_E ν Γ d a 2 pc p1) (hb : tk_E ν Γ (d + 1) b 0 p1 p2) (hd : decode ν.1 p2 = .ok (.iaload, 1)) : tk_E ν Γ d (tk_ald 0 a b) 0 pc (p2 + 1) := by
  intro κ X st hst ρ μ Q hr h k
  refine ha κ X st hst ρ μ _ hr h (fun x μ1 h1 hx => ?_)
  refine hb κ X _ (tk_sum2 hst) ρ μ1 _ hr h1 (fun i μ2 h2 hi H ls locs hP hS hl => ?_)
  have hf := tk_in_a hP.2 h2.1
  have h3 := k _ μ2 h2.2 (by simpa [tk_fr] using hf) H ls locs hP hS hl
  obtain ⟨h0, n, hn, hlay⟩ := tk_al_lay h2.1.1 h2.1.2
  have he := tk_ws_at (ω := tk_ω κ) (μ := μ2) hlay
  rw [tk_v2 hx]
  refine va_iald X.1 X.2.1 X.2.2.2.2.2.1.1 hP.1 x.toNat 0 (n := n) (f := fun j => Int32.ofInt (μ2 x.toNat j)) he rfl (tk_vin hi h2.1.1 (by have := h2.1.2; omega)) hd ?_
  rw [tk_ncn hi]
  simp only [tk_nat h0, tk_nat h2.1.1]
  exact h3
theorem tk_ok_bald {ν : tk_N} {Γ : List (Nat × Nat)} {d pc p1 p2 : Nat} {a b : tk_Ex} (ha : tk_E ν Γ d a 2 pc p1) (hb : tk_E ν Γ (d + 1) b 0 p1 p2) (hd : decode ν.1 p2 = .ok (.baload, 1)) : tk_E ν Γ d (tk_ald 5 a b) 0 pc (p2 + 1) := by
  intro κ X st hst ρ μ Q hr h k
  refine ha κ X st hst ρ μ _ hr h (fun x μ1 h1 hx => ?_)
  refine hb κ X _ (tk_sum2 hst) ρ μ1 _ hr h1 (fun i μ2 h2 hi H ls locs hP hS hl => ?_)
  have hf := tk_in_a hP.2 h2.1
  have h3 := k _ μ2 h2.2 (by simp [tk_fr] at hf; exact ⟨by omega, by omega⟩) H ls locs hP hS hl
  obtain ⟨h0, n, hn, hlay⟩ := tk_al_lay h2.1.1 h2.1.2
  have he := tk_ws_at (ω := tk_ω κ) (μ := μ2) hlay
  rw [tk_v2 hx]
  refine va_bald X.1 X.2.1 X.2.2.2.2.2.1.1 hP.1 x.toNat 1 (n := n) (f := fun j => Int32.ofInt (μ2 x.toNat j)) he rfl (tk_vin hi h2.1.1 (by have := h2.1.2; omega)) hd ?_
  rw [tk_ncn hi]
  simp only [tk_nat h0, tk_nat h2.1.1]
  exact h3
theorem tk_ok_zald {ν : tk_N} {Γ : List (Nat × Nat)} {d pc p1 p2 : Nat} {a b : tk_Ex} (ha : tk_E ν Γ d a 2 pc p1) (hb : tk_E ν Γ (d + 1) b 0 p1 p2) (hd : decode ν.1 p2 = .ok (.baload, 1)) : tk_E ν Γ d (tk_ald 4 a b) 0 pc (p2 + 1) := by
  intro κ X st hst ρ μ Q hr h k
  refine ha κ X st hst ρ μ _ hr h (fun x μ1 h1 hx => ?_)
  refine hb κ X _ (tk_sum2 hst) ρ μ1 _ hr h1 (fun i μ2 h2 hi H ls locs hP hS hl => ?_)
  have hf := tk_in_a hP.2 h2.1
  have h3 := k _ μ2 h2.2 (by simp [tk_fr] at hf; exact ⟨by omega, by omega⟩) H ls locs hP hS hl
  obtain ⟨h0, n, hn, hlay⟩ := tk_al_lay h2.1.1 h2.1.2
  have he := tk_ws_at (ω := tk_ω κ) (μ := μ2) hlay
  rw [tk_v2 hx]
  refine va_zald X.1 X.2.1 X.2.2.2.2.2.1.1 hP.1 x.toNat 2 (n := n) (f := fun j => Int32.ofInt (μ2 x.toNat j)) he rfl (tk_vin hi h2.1.1 (by have := h2.1.2; omega)) hd ?_
  rw [tk_ncn hi]
  simp only [tk_nat h0, tk_nat h2.1.1]
  exact h3
theorem tk_ok_lald {ν : tk_N} {Γ : List (Nat × Nat)} {d pc p1 p2 : Nat} {a b : tk_Ex} (ha : tk_E ν Γ d a 2 pc p1) (hb : tk_E ν Γ (d + 1) b 0 p1 p2) (hd : decode ν.1 p2 = .ok (.laload, 1)) : tk_E ν Γ d (tk_ald 1 a b) 1 pc (p2 + 1) := by
  intro κ X st hst ρ μ Q hr h k
  refine ha κ X st hst ρ μ _ hr h (fun x μ1 h1 hx => ?_)
  refine hb κ X _ (tk_sum2 hst) ρ μ1 _ hr h1 (fun i μ2 h2 hi H ls locs hP hS hl => ?_)
  have hf := tk_in_a hP.2 h2.1
  have h3 := k _ μ2 h2.2 (by simpa [tk_fr] using hf) H ls locs hP hS hl
  obtain ⟨h0, n, hn, hlay⟩ := tk_al_lay h2.1.1 h2.1.2
  have he := tk_ws_at (ω := tk_ω κ) (μ := μ2) hlay
  rw [tk_v2 hx]
  refine va_lald X.1 X.2.1 X.2.2.2.2.2.1.1 hP.1 x.toNat 3 (n := n) (f := fun j => Int64.ofInt (μ2 x.toNat j)) he rfl (tk_vin hi h2.1.1 (by have := h2.1.2; omega)) hd ?_
  rw [tk_ncn hi]
  simp only [tk_nat h0, tk_nat h2.1.1]
  exact h3
theorem tk_ok_aldq {ν : tk_N} {Γ : List (Nat × Nat)} {d pc p1 p2 : Nat} {a b : tk_Ex} (ha : tk_E ν Γ d a 2 pc p1) (hb : tk_E ν Γ (d + 1) b 0 p1 p2) (hd : decode ν.1 p2 = .ok (.aaload, 1)) : tk_E ν Γ d (tk_aldq a b) 2 pc (p2 + 1) := by
  intro κ X st hst ρ μ Q hr h k
  refine ha κ X st hst ρ μ _ hr h (fun x μ1 h1 hx => ?_)
  refine hb κ X _ (tk_sum2 hst) ρ μ1 _ hr h1 (fun i μ2 h2 hi H ls locs hP hS hl => ?_)
  obtain ⟨h0, n, hn, hlay⟩ := tk_al_lay h2.1.1 h2.1.2
  have hp : 0 ≤ x + 1 + 2 * i := by have := h2.1.1; omega
  have h3 := k _ μ2 h2.2 hp H ls locs hP hS hl
  have he := tk_ws_at (ω := tk_ω κ) (μ := μ2) hlay
  rw [tk_v2 hx]
  refine va_aldq X.1 X.2.1 X.2.2.2.2.2.1.1 hP.1 x.toNat 4 (n := n) (f := fun j => some (tk_bs (tk_ω κ) + (x.toNat + 1 + 2 * j))) he rfl (tk_vin hi h2.1.1 (by have := h2.1.2; omega)) hd ?_
  rw [tk_ncn hi]
  rw [tk_v2 hp] at h3
  have h5 : (x + 1 + 2 * i).toNat = x.toNat + 1 + 2 * i.toNat := by have := h2.1.1; omega
  rw [h5] at h3
  exact h3
theorem tk_ok_aln {ν : tk_N} {Γ : List (Nat × Nat)} {d pc p1 : Nat} {a : tk_Ex} (t : Nat) (ht : t = 0 ∨ t = 1) (ha : tk_E ν Γ d a 2 pc p1) (hd : decode ν.1 p1 = .ok (.arraylength, 1)) : tk_E ν Γ d (tk_aln t a) 0 pc (p1 + 1) := by
  intro κ X st hst ρ μ Q hr h k
  refine ha κ X st hst ρ μ _ hr h (fun x μ1 h1 hx H ls locs hP hS hl => ?_)
  obtain ⟨h0, n, hn, hlay⟩ := tk_al_lay (Int.le_refl 0) h1.1
  have hm : n ≤ 360 := by
    have h9 : ∀ q ∈ tk_lay, (match q with | .inl _ => true | .inr (_, m) => decide (m ≤ 360)) = true := by decide +kernel
    have := h9 _ (List.mem_of_getElem? hlay)
    simpa using this
  have h3 := k _ μ1 h1.2 (by rw [hn]; exact ⟨by omega, by omega⟩) H ls locs hP hS hl
  have he := tk_ws_at (ω := tk_ω κ) (μ := μ1) hlay
  rw [tk_v2 hx]
  rw [hn] at h3
  rcases ht with rfl | rfl
  · exact va_alen X.1 X.2.1 X.2.2.2.2.2.1.1 hP.1 x.toNat 0 (x := (n, .inl (fun j => Int32.ofInt (μ1 x.toNat j)))) he rfl (Int32.toInt_inj.mp (by rw [Int32.toInt_ofNat_small (by omega), tk_ofI ⟨by omega, by omega⟩])) hd h3
  · exact va_alen X.1 X.2.1 X.2.2.2.2.2.1.1 hP.1 x.toNat 3 (x := (n, .inr (.inl (fun j => Int64.ofInt (μ1 x.toNat j))))) he rfl (Int32.toInt_inj.mp (by rw [Int32.toInt_ofNat_small (by omega), tk_ofI ⟨by omega, by omega⟩])) hd h3
theorem tk_ok_unl {ν : tk_N} {Γ : List (Nat × Nat)} {d pc ix : Nat} (hd : decode ν.1 pc = .ok (.getstatic ix, 3)) (hl : Cond.fieldLink ν.2.1 ix "TicketHall" "UNDER" "[I" ∈ tk_tbl ∨ Cond.fieldLinkNest ν.2.1 ix "TicketHall" "UNDER" "[I" "TicketHall" ∈ tk_nw) (hd2 : decode ν.1 (pc + 3) = .ok (.arraylength, 1)) : tk_E ν Γ d tk_unl 0 pc (pc + 4) := by
  intro κ X st hst ρ μ Q hr h k H ls locs hP hS hl'
  have h3 := k _ μ h ⟨by omega, by omega⟩ H ls locs hP hS hl'
  obtain ⟨-, hZ, hT, -⟩ := X.2.2.2.2.2.1
  obtain ⟨cell, t1, t2, t3, t4, t5, t6, t7⟩ := hT
  have g : tk_W κ ν H locs (pc + 3) ls (.ref (tk_tU (tk_ω κ)) :: st) := W.alen (n := Int32.ofNat 7) X.1 X.2.1 (by rw [hS.2.1 _ (Array.getElem?_eq_some_iff.mp t1).1 t7]; exact t1) t2 t5 rfl rfl hd2 h3
  rcases hl with hl | hl
  · exact va_gets X.1 X.2.1 hZ hS X.2.2.2.1 (tk_tl X hl) (fun _ h => h) hd g
  · exact va_getsN X.1 X.2.1 hZ hS X.2.2.2.1 (tk_Xn X hl) (fun _ h => h) hd g
theorem tk_ok_una {ν : tk_N} {Γ : List (Nat × Nat)} {d pc ix p1 : Nat} {a : tk_Ex} (hd : decode ν.1 pc = .ok (.getstatic ix, 3)) (hl : Cond.fieldLink ν.2.1 ix "TicketHall" "UNDER" "[I" ∈ tk_tbl ∨ Cond.fieldLinkNest ν.2.1 ix "TicketHall" "UNDER" "[I" "TicketHall" ∈ tk_nw) (ha : tk_E ν Γ (d + 1) a 0 (pc + 3) p1) (hd2 : decode ν.1 p1 = .ok (.iaload, 1)) : tk_E ν Γ d (tk_una a) 0 pc (p1 + 1) := by
  intro κ X st hst ρ μ Q hr h k
  have hc : tk_sum (.ref (tk_tU (tk_ω κ)) :: st) ≤ d + 1 := by
    simp only [tk_sum, List.map_cons, List.sum_cons, Value.category] at hst ⊢
    omega
  have g : tk_G κ ν Γ ρ (pc + 3) μ (.ref (tk_tU (tk_ω κ)) :: st) := by
    refine ha κ X _ hc ρ μ _ hr h (fun i μ1 h1 hi H ls locs hP hS hl' => ?_)
    have h3 := k _ μ1 h1.2 (by unfold tk_un; split <;> exact ⟨by omega, by omega⟩) H ls locs hP hS hl'
    obtain ⟨-, hZ, hT, -⟩ := X.2.2.2.2.2.1
    exact va_ti X.1 X.2.1 hT hS (tk_vin hi h1.1.1 h1.1.2) (by rw [tk_ncn hi]; rfl) hd2 h3
  intro H ls locs hP hS hl'
  obtain ⟨-, hZ, hT, -⟩ := X.2.2.2.2.2.1
  rcases hl with hl | hl
  · exact va_gets X.1 X.2.1 hZ hS X.2.2.2.1 (tk_tl X hl) (fun _ h => h) hd (g H ls locs hP hS hl')
  · exact va_getsN X.1 X.2.1 hZ hS X.2.2.2.1 (tk_Xn X hl) (fun _ h => h) hd (g H ls locs hP hS hl')
theorem tk_ok_ter {ν : tk_N} {Γ : List (Nat × Nat)} {d t pc T F L : Nat} {C : tk_Cn} {a b : tk_Ex} (hc : tk_Ck ν Γ d C pc T F) (ha : tk_E ν Γ d a t T L) (hb : tk_E ν Γ d b t F L) : tk_E ν Γ d (tk_ter C a b) t pc L := by
  intro κ X st hst ρ μ Q hr h k
  exact hc κ X st hst ρ μ _ _ hr h (fun μ1 h1 => ha κ X st hst ρ μ1 Q hr h1 k) (fun μ1 h1 => hb κ X st hst ρ μ1 Q hr h1 k)
theorem tk_go {κ : tk_K} {ν : tk_N} {Γ : List (Nat × Nat)} {ρ : tk_L} {μ : tk_M} {st : List Value} {pc L : Nat} {off : Int} (X : tk_X κ ν) (hd : decode ν.1 pc = .ok (.goto off, 3)) (ht : (pc : Int) + off = (L : Int)) (h : tk_G κ ν Γ ρ L μ st) : tk_G κ ν Γ ρ pc μ st := fun H ls locs hP hS hl => lv_goto X.1 X.2.1 hd ht (h H ls locs hP hS hl)
theorem tk_ok_ego {ν : tk_N} {Γ : List (Nat × Nat)} {d t pc p1 L : Nat} {off : Int} {a : tk_Ex} (ha : tk_E ν Γ d a t pc p1) (hd : decode ν.1 p1 = .ok (.goto off, 3)) (ht : (p1 : Int) + off = (L : Int)) : tk_E ν Γ d a t pc L := by
  intro κ X st hst ρ μ Q hr h k
  exact ha κ X st hst ρ μ Q hr h (fun v μ1 h1 hv => tk_go X hd ht (k v μ1 h1 hv))
