/-! ===== the host's own: max, min, abs, arraycopy; the script ===== -/
def tk_mx (x y : Int) : Int := if x < y then y else x
def tk_mn (x y : Int) : Int := if x > y then y else x
def tk_ab (x : Int) : Int := (if 0 < (Int64.ofInt x) then (Int64.ofInt x) else -(Int64.ofInt x)).toInt
theorem tk_ok_mmax {ν : tk_N} {Γ : List (Nat × Nat)} {d pc p1 p2 ix : Nat} {a b : tk_Ex} (ha : tk_E ν Γ d a 0 pc p1) (hb : tk_E ν Γ (d + 1) b 0 p1 p2) (hd : decode ν.1 p2 = .ok (.invokestatic ix, 3)) (h1 : Cond.methodLink ν.2.1 ix Lib.Math.max.name ∈ tk_tbl) (h2 : Cond.static Lib.Math.max.name ∈ tk_tbl) (h3 : Cond.initialized "java/lang/Math" ∈ tk_tbl) (h4 : Cond.code Lib.Math.max.name Lib.Math.max.code 2 (some .int) ∈ tk_tbl) (hf : 1 ≤ ν.2.2.2.1.frames) (hlo : d + 13 ≤ ν.2.2.2.1.locals) : tk_E ν Γ d (tk_bin tk_mx a b) 0 pc (p2 + 3) := by
  intro κ X st hst ρ μ Q hr h k
  refine ha κ X st hst ρ μ _ hr h (fun x μ1 g1 hx => ?_)
  refine hb κ X _ (tk_sum0 hst) ρ μ1 _ hr g1 (fun y μ2 g2 hy H ls locs hP hS hl => ?_)
  have hc := k _ μ2 g2 (by unfold tk_mx; split <;> assumption) H ls locs hP hS hl
  refine va_mmax X.1 X.2.1 (by rw [X.2.2.1, hl.1]) X.2.2.2.1 (tk_tl X h1) (tk_tl X h2) (tk_tl X h3) (tk_tl X h4) hf (by unfold tk_sum at hst; omega) X.2.2.2.2.2.2.1 X.2.2.2.2.2.2.2.1 hd ?_
  have e1 : (if Int32.ofInt x < Int32.ofInt y then Int32.ofInt y else Int32.ofInt x) = Int32.ofInt (tk_mx x y) := by
    unfold tk_mx
    by_cases hxy : x < y
    · rw [if_pos ((tk_ltI hx hy).mpr hxy), if_pos hxy]
    · rw [if_neg (fun z => hxy ((tk_ltI hx hy).mp z)), if_neg hxy]
  rw [e1]
  exact hc
theorem tk_ok_mmin {ν : tk_N} {Γ : List (Nat × Nat)} {d pc p1 p2 ix : Nat} {a b : tk_Ex} (ha : tk_E ν Γ d a 0 pc p1) (hb : tk_E ν Γ (d + 1) b 0 p1 p2) (hd : decode ν.1 p2 = .ok (.invokestatic ix, 3)) (h1 : Cond.methodLink ν.2.1 ix Lib.Math.min.name ∈ tk_tbl) (h2 : Cond.static Lib.Math.min.name ∈ tk_tbl) (h3 : Cond.initialized "java/lang/Math" ∈ tk_tbl) (h4 : Cond.code Lib.Math.min.name Lib.Math.min.code 2 (some .int) ∈ tk_tbl) (hf : 1 ≤ ν.2.2.2.1.frames) (hlo : d + 13 ≤ ν.2.2.2.1.locals) : tk_E ν Γ d (tk_bin tk_mn a b) 0 pc (p2 + 3) := by
  intro κ X st hst ρ μ Q hr h k
  refine ha κ X st hst ρ μ _ hr h (fun x μ1 g1 hx => ?_)
  refine hb κ X _ (tk_sum0 hst) ρ μ1 _ hr g1 (fun y μ2 g2 hy H ls locs hP hS hl => ?_)
  have hc := k _ μ2 g2 (by unfold tk_mn; split <;> assumption) H ls locs hP hS hl
  refine va_mmin X.1 X.2.1 (by rw [X.2.2.1, hl.1]) X.2.2.2.1 (tk_tl X h1) (tk_tl X h2) (tk_tl X h3) (tk_tl X h4) hf (by unfold tk_sum at hst; omega) X.2.2.2.2.2.2.1 X.2.2.2.2.2.2.2.1 hd ?_
  have e1 : (if (Int32.ofInt y) < (Int32.ofInt x) then (Int32.ofInt y) else (Int32.ofInt x)) = Int32.ofInt (tk_mn x y) := by
    unfold tk_mn
    by_cases hxy : x > y
    · first | rw [if_pos ((tk_ltI hy hx).mpr hxy), if_pos hxy] | rw [if_neg (fun z => absurd ((tk_leI hx hy).mp z) (by omega)), if_pos hxy]
    · first | rw [if_neg (fun z => hxy ((tk_ltI hy hx).mp z)), if_neg hxy] | rw [if_pos ((tk_leI hx hy).mpr (by omega)), if_neg hxy]
  rw [e1]
  exact hc
theorem tk_ok_xmax {ν : tk_N} {Γ : List (Nat × Nat)} {d pc p1 p2 ix : Nat} {a b : tk_Ex} (ha : tk_E ν Γ d a 1 pc p1) (hb : tk_E ν Γ (d + 2) b 1 p1 p2) (hd : decode ν.1 p2 = .ok (.invokestatic ix, 3)) (h1 : Cond.methodLink ν.2.1 ix Lib.MathLoose.max_long.x ∈ tk_tbl) (h2 : Cond.static Lib.MathLoose.max_long.x ∈ tk_tbl) (h3 : Cond.initialized "java/lang/Math" ∈ tk_tbl) (h4 : Cond.code Lib.MathLoose.max_long.x Lib.MathLoose.max_long.code 4 (some .long) ∈ tk_tbl) (hf : 1 ≤ ν.2.2.2.1.frames) (hlo : d + 15 ≤ ν.2.2.2.1.locals) : tk_E ν Γ d (tk_bin tk_mx a b) 1 pc (p2 + 3) := by
  intro κ X st hst ρ μ Q hr h k
  refine ha κ X st hst ρ μ _ hr h (fun x μ1 g1 hx => ?_)
  refine hb κ X _ (tk_sum1 hst) ρ μ1 _ hr g1 (fun y μ2 g2 hy H ls locs hP hS hl => ?_)
  have hc := k _ μ2 g2 (by unfold tk_mx; split <;> assumption) H ls locs hP hS hl
  refine va_mmax_long X.1 X.2.1 (by rw [X.2.2.1, hl.1]) X.2.2.2.1 (tk_tl X h1) (tk_tl X h2) (tk_tl X h3) (tk_tl X h4) hf (by unfold tk_sum at hst; omega) X.2.2.2.2.2.2.1 X.2.2.2.2.2.2.2.1 hd ?_
  have e1 : (if Int64.ofInt y < Int64.ofInt x then Int64.ofInt x else Int64.ofInt y) = Int64.ofInt (tk_mx x y) := by
    unfold tk_mx
    by_cases hxy : x < y
    · rw [if_neg (fun z => absurd ((tk_ltL hy hx).mp z) (by omega)), if_pos hxy]
    · by_cases hyx : y < x
      · rw [if_pos ((tk_ltL hy hx).mpr hyx), if_neg hxy]
      · have : x = y := by omega
        subst this
        rw [if_neg hxy, ite_self]
  rw [e1]
  exact hc
theorem tk_ok_mabs {ν : tk_N} {Γ : List (Nat × Nat)} {d pc p1 ix : Nat} {a : tk_Ex} (ha : tk_E ν Γ d a 1 pc p1) (hd : decode ν.1 p1 = .ok (.invokestatic ix, 3)) (h1 : Cond.methodLink ν.2.1 ix Lib.MathLoose.abs_long.x ∈ tk_tbl) (h2 : Cond.static Lib.MathLoose.abs_long.x ∈ tk_tbl) (h3 : Cond.initialized "java/lang/Math" ∈ tk_tbl) (h4 : Cond.code Lib.MathLoose.abs_long.x Lib.MathLoose.abs_long.code 2 (some .long) ∈ tk_tbl) (hf : 1 ≤ ν.2.2.2.1.frames) (hlo : d + 13 ≤ ν.2.2.2.1.locals) : tk_E ν Γ d (tk_u1 tk_ab a) 1 pc (p1 + 3) := by
  intro κ X st hst ρ μ Q hr h k
  refine ha κ X st hst ρ μ _ hr h (fun x μ1 g1 hx H ls locs hP hS hl => ?_)
  have hc := k _ μ1 g1 (tk_r1 _) H ls locs hP hS hl
  rw [tk_ab, tk_v1] at hc
  exact va_mabs_long X.1 X.2.1 (by rw [X.2.2.1, hl.1]) X.2.2.2.1 (tk_tl X h1) (tk_tl X h2) (tk_tl X h3) (tk_tl X h4) hf (by unfold tk_sum at hst; omega) X.2.2.2.2.2.2.1 X.2.2.2.2.2.2.2.1 hd hc
theorem tk_blk_ne {μ : tk_M} {x i y j k : Int} {o : Nat} (h0 : 0 ≤ y) (h : o ≠ y.toNat) (q : Int) : tk_blk μ x i y j k o q = μ o q := by
  unfold tk_blk
  rw [if_neg (by omega)]
theorem tk_ok_cpy0 {ν : tk_N} {t' pc p1 ix : Nat} {Γ : List (Nat × Nat)} {a sp b dp n : tk_Ex} (hes : tk_Ea ν Γ 0 [a, sp, b, dp, n] [2, 0, 2, 0, 0] pc p1) (hd : decode ν.1 p1 = .ok (.invokestatic ix, 3)) (h1 : Cond.methodLink ν.2.1 ix arraycopyName ∈ tk_tbl) (h2 : Cond.native arraycopyName ∈ tk_tbl) (h3 : Cond.static arraycopyName ∈ tk_tbl) (h4 : Cond.initialized "java/lang/System" ∈ tk_tbl) (hf : 1 ≤ ν.2.2.2.1.frames) (hlo : nativeFrameWords "java/lang/System" "arraycopy" 5 + 11 ≤ ν.2.2.2.1.locals) : tk_St ν t' Γ Γ (tk_cpy 0 a sp b dp n) pc (p1 + 3) := by
  intro κ X ρ μ Qn Qr hr h kn kr
  refine hes κ X [] (Nat.le_refl 0) ρ μ _ hr h (fun vs μ1 g1 hvs H ls locs hP hS hl => ?_)
  match vs, hvs, g1 with
  | [x, i, y, j, k], ⟨hx, hi, hy, hj, hk, _⟩, g1 =>
    obtain ⟨⟨c1, c2, c3, c4, c5, c6, c7⟩, hq⟩ := g1
    obtain ⟨-, nx, ex, lx⟩ := tk_al_lay (Int.le_refl 0) c4
    obtain ⟨-, ny, ey, ly⟩ := tk_al_lay (Int.le_refl 0) c5
    have wx := tk_ws_at (ω := tk_ω κ) (μ := μ1) lx
    have wy := tk_ws_at (ω := tk_ω κ) (μ := μ1) ly
    show tk_W κ ν H locs p1 ls [.int (Int32.ofInt k), .int (Int32.ofInt j), tk_v (tk_ω κ) 2 y, .int (Int32.ofInt i), tk_v (tk_ω κ) 2 x]
    rw [tk_v2 hx, tk_v2 hy]
    have n0 : ∀ {z : Int}, tk_r 0 z → 0 ≤ z → ¬ Int32.ofInt z < 0 := fun {z} hz h0 hlt => by
      have e := (tk_ltI hz (show tk_r 0 0 from ⟨by omega, by omega⟩)).mp hlt
      omega
    refine va_copyi X.1 X.2.1 (by rw [X.2.2.1, hl.1]) X.2.2.2.1 (tk_tl X h1) (tk_tl X h2) (tk_tl X h3) (tk_tl X h4) X.2.2.2.2.2.1.1 hP.1 tk_wD hS x.toNat y.toNat 0 0 (n0 := nx) (n1 := ny) (f := fun j => Int32.ofInt (μ1 x.toNat j)) (g := fun j => Int32.ofInt (μ1 y.toNat j)) (ty := .int) wx wy rfl rfl rfl (n0 hi c1) (n0 hj c2) (n0 hk c3) (by rw [tk_ncn hi, tk_ncn hk]; omega) (by rw [tk_ncn hj, tk_ncn hk]; omega) (fun _ _ => rfl) hf (by simpa using hlo) hd (fun H1 l1 q1 _ q3 => ?_)
    rw [tk_ncn hi, tk_ncn hj, tk_ncn hk] at q1
    have e1 : va_cpy (fun j : Nat => Int32.ofInt (μ1 x.toNat j)) (fun j : Nat => Int32.ofInt (μ1 y.toNat j)) i.toNat j.toNat k.toNat = fun q : Nat => Int32.ofInt (tk_blk μ1 x i y j k y.toNat q) := by
      funext q
      unfold va_cpy tk_blk
      have hx0 : 0 ≤ x := hx
      have hy0 : 0 ≤ y := hy
      by_cases hq' : j.toNat ≤ q ∧ q < j.toNat + k.toNat
      · rw [if_pos hq', if_pos (by omega)]
        have e3 : ((i.toNat + (q - j.toNat) : Nat) : Int) = i + ((q : Int) - j) := by omega
        dsimp only
        rw [e3, tk_nat hx0]
      · rw [if_neg hq', if_neg (by omega)]
    rw [e1] at q1
    have e5 := tk_ws_put (ω := tk_ω κ) (μ := μ1) (μ' := tk_blk μ1 x i y j k) ly rfl (fun o' ho' z => tk_blk_ne hy ho' z)
    refine kn ρ _ hq hr H1 ls l1 ⟨by rw [← e5]; exact q1, tk_in_put hP.2 ly (fun z hz => ?_) (fun o' ho' z => tk_blk_ne hy ho' z)⟩ q3 hl
    unfold tk_blk
    split
    · rename_i hc
      have hz2 : 0 ≤ i + ((z : Int) - j) ∧ i + ((z : Int) - j) < tk_al 0 x := by omega
      exact tk_in_a hP.2 hz2
    · exact hP.2 _ _ ly z hz
theorem tk_ok_cpy1 {ν : tk_N} {t' pc p1 ix : Nat} {Γ : List (Nat × Nat)} {a sp b dp n : tk_Ex} (hes : tk_Ea ν Γ 0 [a, sp, b, dp, n] [2, 0, 2, 0, 0] pc p1) (hd : decode ν.1 p1 = .ok (.invokestatic ix, 3)) (h1 : Cond.methodLink ν.2.1 ix arraycopyName ∈ tk_tbl) (h2 : Cond.native arraycopyName ∈ tk_tbl) (h3 : Cond.static arraycopyName ∈ tk_tbl) (h4 : Cond.initialized "java/lang/System" ∈ tk_tbl) (hf : 1 ≤ ν.2.2.2.1.frames) (hlo : nativeFrameWords "java/lang/System" "arraycopy" 5 + 11 ≤ ν.2.2.2.1.locals) : tk_St ν t' Γ Γ (tk_cpy 1 a sp b dp n) pc (p1 + 3) := by
  intro κ X ρ μ Qn Qr hr h kn kr
  refine hes κ X [] (Nat.le_refl 0) ρ μ _ hr h (fun vs μ1 g1 hvs H ls locs hP hS hl => ?_)
  match vs, hvs, g1 with
  | [x, i, y, j, k], ⟨hx, hi, hy, hj, hk, _⟩, g1 =>
    obtain ⟨⟨c1, c2, c3, c4, c5, c6, c7⟩, hq⟩ := g1
    obtain ⟨-, nx, ex, lx⟩ := tk_al_lay (Int.le_refl 0) c4
    obtain ⟨-, ny, ey, ly⟩ := tk_al_lay (Int.le_refl 0) c5
    have wx := tk_ws_at (ω := tk_ω κ) (μ := μ1) lx
    have wy := tk_ws_at (ω := tk_ω κ) (μ := μ1) ly
    show tk_W κ ν H locs p1 ls [.int (Int32.ofInt k), .int (Int32.ofInt j), tk_v (tk_ω κ) 2 y, .int (Int32.ofInt i), tk_v (tk_ω κ) 2 x]
    rw [tk_v2 hx, tk_v2 hy]
    have n0 : ∀ {z : Int}, tk_r 0 z → 0 ≤ z → ¬ Int32.ofInt z < 0 := fun {z} hz h0 hlt => by
      have e := (tk_ltI hz (show tk_r 0 0 from ⟨by omega, by omega⟩)).mp hlt
      omega
    refine va_copyl X.1 X.2.1 (by rw [X.2.2.1, hl.1]) X.2.2.2.1 (tk_tl X h1) (tk_tl X h2) (tk_tl X h3) (tk_tl X h4) X.2.2.2.2.2.1.1 hP.1 tk_wD hS x.toNat y.toNat 3 3 (n0 := nx) (n1 := ny) (f := fun j => Int64.ofInt (μ1 x.toNat j)) (g := fun j => Int64.ofInt (μ1 y.toNat j)) (ty := .long) wx wy rfl rfl rfl (n0 hi c1) (n0 hj c2) (n0 hk c3) (by rw [tk_ncn hi, tk_ncn hk]; omega) (by rw [tk_ncn hj, tk_ncn hk]; omega) (fun _ _ => rfl) hf (by simpa using hlo) hd (fun H1 l1 q1 _ q3 => ?_)
    rw [tk_ncn hi, tk_ncn hj, tk_ncn hk] at q1
    have e1 : va_cpy (fun j : Nat => Int64.ofInt (μ1 x.toNat j)) (fun j : Nat => Int64.ofInt (μ1 y.toNat j)) i.toNat j.toNat k.toNat = fun q : Nat => Int64.ofInt (tk_blk μ1 x i y j k y.toNat q) := by
      funext q
      unfold va_cpy tk_blk
      have hx0 : 0 ≤ x := hx
      have hy0 : 0 ≤ y := hy
      by_cases hq' : j.toNat ≤ q ∧ q < j.toNat + k.toNat
      · rw [if_pos hq', if_pos (by omega)]
        have e3 : ((i.toNat + (q - j.toNat) : Nat) : Int) = i + ((q : Int) - j) := by omega
        dsimp only
        rw [e3, tk_nat hx0]
      · rw [if_neg hq', if_neg (by omega)]
    rw [e1] at q1
    have e5 := tk_ws_put (ω := tk_ω κ) (μ := μ1) (μ' := tk_blk μ1 x i y j k) ly rfl (fun o' ho' z => tk_blk_ne hy ho' z)
    refine kn ρ _ hq hr H1 ls l1 ⟨by rw [← e5]; exact q1, tk_in_put hP.2 ly (fun z hz => ?_) (fun o' ho' z => tk_blk_ne hy ho' z)⟩ q3 hl
    unfold tk_blk
    split
    · rename_i hc
      have hz2 : 0 ≤ i + ((z : Int) - j) ∧ i + ((z : Int) - j) < tk_al 1 x := by omega
      exact tk_in_a hP.2 hz2
    · exact hP.2 _ _ ly z hz
/-- the script's length, an item of it -/
def tk_scl (q : Nat × (Nat → Int32)) : tk_Ex := fun Q _ μ => Q (q.1 : Int) μ
def tk_sca (q : Nat × (Nat → Int32)) (a : tk_Ex) : tk_Ex := fun Q ρ μ => a (fun i μ1 => (0 ≤ i ∧ i < (q.1 : Int)) ∧ Q (q.2 i.toNat).toInt μ1) ρ μ
theorem tk_ok_scl {ν : tk_N} {Γ : List (Nat × Nat)} {d pc : Nat} {q : Nat × (Nat → Int32)} (hν : ν.2.2.2.2 = some q) (hq : q.1 ≤ 3072) (hd : decode ν.1 pc = .ok (.aload_n 0, 1)) (hk : (0, 3) ∈ Γ) (hd2 : decode ν.1 (pc + 1) = .ok (.arraylength, 1)) : tk_E ν Γ d (tk_scl q) 0 pc (pc + 2) := by
  intro κ X st hst ρ μ Q hr h k H ls locs hP hS hl
  have h3 := k _ μ h ⟨by omega, by omega⟩ H ls locs hP hS hl
  obtain ⟨-, -, -, hX, hA, -⟩ := X.2.2.2.2.2.1
  obtain ⟨e1, e2⟩ := X.2.2.2.2.2.2.2.2 q hν
  refine lv_aload_n X.1 X.2.1 hd rfl (tk_lv_at hl hk) ?_
  refine va_slen X.1 X.2.1 hX (by obtain ⟨scr, g1, -⟩ := hX; exact (Array.getElem?_eq_some_iff.mp g1).1) hA hS hd2 ?_
  rw [e1]
  have e3 : Int32.ofNat q.1 = Int32.ofInt (q.1 : Int) := Int32.toInt_inj.mp (by rw [Int32.toInt_ofNat_small (by omega), tk_ofI ⟨by omega, by omega⟩])
  rw [e3]
  exact h3
theorem tk_ok_sca {ν : tk_N} {Γ : List (Nat × Nat)} {d pc p1 : Nat} {q : Nat × (Nat → Int32)} {a : tk_Ex} (hν : ν.2.2.2.2 = some q) (hd : decode ν.1 pc = .ok (.aload_n 0, 1)) (hk : (0, 3) ∈ Γ) (ha : tk_E ν Γ (d + 1) a 0 (pc + 1) p1) (hd2 : decode ν.1 p1 = .ok (.iaload, 1)) : tk_E ν Γ d (tk_sca q a) 0 pc (p1 + 1) := by
  intro κ X st hst ρ μ Q hr h k
  have hc : tk_sum (.ref (tk_sc (tk_ω κ)) :: st) ≤ d + 1 := by
    simp only [tk_sum, List.map_cons, List.sum_cons, Value.category] at hst ⊢
    omega
  have g : tk_G κ ν Γ ρ (pc + 1) μ (.ref (tk_sc (tk_ω κ)) :: st) := by
    refine ha κ X _ hc ρ μ _ hr h (fun i μ1 h1 hi H ls locs hP hS hl' => ?_)
    have h3 := k _ μ1 h1.2 (tk_r0 _) H ls locs hP hS hl'
    obtain ⟨-, -, -, hX, hA, -⟩ := X.2.2.2.2.2.1
    obtain ⟨e1, e2⟩ := X.2.2.2.2.2.2.2.2 q hν
    rw [e1, e2] at hX
    refine va_sld X.1 X.2.1 hX (by obtain ⟨scr, g1, -⟩ := hX; exact (Array.getElem?_eq_some_iff.mp g1).1) hA hS (tk_vin hi h1.1.1 h1.1.2) hd2 ?_
    rw [tk_ncn hi, ← tk_toI (q.2 i.toNat)]
    exact h3
  intro H ls locs hP hS hl'
  exact lv_aload_n X.1 X.2.1 hd rfl (tk_lv_at hl' hk) (g H ls locs hP hS hl')
