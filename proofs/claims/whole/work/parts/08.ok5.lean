/-- an item is put: the world behind it -/
theorem tk_apos {ω : tk_O} {μ : tk_M} {t n : Nat} {x i v : Int} (h0 : 0 ≤ x) (hi : 0 ≤ i) (hlay : tk_lay[x.toNat]? = some (.inr (t, n))) (hv : tk_fr t v) (hin : tk_in μ) {e : va_E} (he : e = tk_ce ω (tk_set μ x i v) x.toNat (.inr (t, n))) : (tk_ws ω μ).set x.toNat (tk_bs ω + x.toNat, e) = tk_ws ω (tk_set μ x i v) ∧ tk_in (tk_set μ x i v) := by
  refine ⟨tk_ws_put hlay he (fun o' ho' j => tk_set_ne h0 ho' j), tk_in_put hin hlay (fun j hj => ?_) (fun o' ho' j => tk_set_ne h0 ho' j)⟩
  unfold tk_set
  split
  · exact hv
  · exact hin _ _ hlay j hj
theorem tk_updI {μ : tk_M} {x i v : Int} {y : Int32} (h0 : 0 ≤ x) (hi : 0 ≤ i) (hy : Int32.ofInt v = y) : (fun j : Nat => Int32.ofInt (tk_set μ x i v x.toNat j)) = upd (fun j : Nat => Int32.ofInt (μ x.toNat j)) i.toNat y := by
  funext j
  simp only [tk_set, upd]
  rw [tk_nat h0]
  by_cases hj : j = i.toNat
  · rw [if_pos ⟨rfl, by omega⟩, if_pos hj, hy]
  · rw [if_neg (by omega), if_neg hj]
theorem tk_updL {μ : tk_M} {x i v : Int} {y : Int64} (h0 : 0 ≤ x) (hi : 0 ≤ i) (hy : Int64.ofInt v = y) : (fun j : Nat => Int64.ofInt (tk_set μ x i v x.toNat j)) = vp_updL (fun j : Nat => Int64.ofInt (μ x.toNat j)) i.toNat y := by
  funext j
  simp only [tk_set, vp_updL]
  rw [tk_nat h0]
  by_cases hj : j = i.toNat
  · rw [if_pos ⟨rfl, by omega⟩, if_pos hj, hy]
  · rw [if_neg (by omega), if_neg hj]
theorem tk_ist {κ : tk_K} {ν : tk_N} {H : Heap} {locs : List Loc} {ls : Array Slot} {pc : Nat} {st : List Value} {μ : tk_M} {x i v : Int} (X : tk_X κ ν) (hP : tk_P (tk_ω κ) μ H) (hS : va_S (tk_A (tk_ω κ)) (tk_s κ).heap H locs) (hi : tk_r 0 i) (hv : tk_r 0 v) (hb : 0 ≤ i ∧ i < tk_al 0 x) (hd : decode ν.1 pc = .ok (.iastore, 1)) (kk : ∀ (H1 : Heap) (locs1 : List Loc), tk_P (tk_ω κ) (tk_set μ x i v) H1 → va_S (tk_A (tk_ω κ)) (tk_s κ).heap H1 locs1 → tk_W κ ν H1 locs1 (pc + 1) ls st) : tk_W κ ν H locs pc ls (.int (Int32.ofInt v) :: .int (Int32.ofInt i) :: tk_v (tk_ω κ) 2 x :: st) := by
  obtain ⟨h0, n, hn, hlay⟩ := tk_al_lay hb.1 hb.2
  have he := tk_ws_at (ω := tk_ω κ) (μ := μ) hlay
  rw [tk_v2 h0]
  refine va_iast X.1 X.2.1 X.2.2.2.2.2.1.1 hP.1 tk_wD hS x.toNat 0 (n := n) (f := fun j => Int32.ofInt (μ x.toNat j)) he rfl (tk_vin hi hb.1 (by have := hb.2; omega)) hd (fun H1 locs1 g1 _ g3 => ?_)
  rw [tk_ncn hi, ← tk_updI h0 hb.1 rfl] at g1
  have g4 := tk_apos (ω := tk_ω κ) (t := 0) h0 hb.1 hlay (v := v) (by simpa [tk_fr] using hv) hP.2 rfl
  exact kk H1 locs1 ⟨by rw [← g4.1]; exact g1, g4.2⟩ g3
theorem tk_lst {κ : tk_K} {ν : tk_N} {H : Heap} {locs : List Loc} {ls : Array Slot} {pc : Nat} {st : List Value} {μ : tk_M} {x i v : Int} (X : tk_X κ ν) (hP : tk_P (tk_ω κ) μ H) (hS : va_S (tk_A (tk_ω κ)) (tk_s κ).heap H locs) (hi : tk_r 0 i) (hv : tk_r 1 v) (hb : 0 ≤ i ∧ i < tk_al 1 x) (hd : decode ν.1 pc = .ok (.lastore, 1)) (kk : ∀ (H1 : Heap) (locs1 : List Loc), tk_P (tk_ω κ) (tk_set μ x i v) H1 → va_S (tk_A (tk_ω κ)) (tk_s κ).heap H1 locs1 → tk_W κ ν H1 locs1 (pc + 1) ls st) : tk_W κ ν H locs pc ls (.long (Int64.ofInt v) :: .int (Int32.ofInt i) :: tk_v (tk_ω κ) 2 x :: st) := by
  obtain ⟨h0, n, hn, hlay⟩ := tk_al_lay hb.1 hb.2
  have he := tk_ws_at (ω := tk_ω κ) (μ := μ) hlay
  rw [tk_v2 h0]
  refine va_last X.1 X.2.1 X.2.2.2.2.2.1.1 hP.1 tk_wD hS x.toNat 3 (n := n) (f := fun j => Int64.ofInt (μ x.toNat j)) he rfl (tk_vin hi hb.1 (by have := hb.2; omega)) hd (fun H1 locs1 g1 _ g3 => ?_)
  rw [tk_ncn hi, ← tk_updL h0 hb.1 rfl] at g1
  have g4 := tk_apos (ω := tk_ω κ) (t := 1) h0 hb.1 hlay (v := v) (by simpa [tk_fr] using hv) hP.2 rfl
  exact kk H1 locs1 ⟨by rw [← g4.1]; exact g1, g4.2⟩ g3
theorem tk_zst {κ : tk_K} {ν : tk_N} {H : Heap} {locs : List Loc} {ls : Array Slot} {pc : Nat} {st : List Value} {μ : tk_M} {x i v : Int} (X : tk_X κ ν) (hP : tk_P (tk_ω κ) μ H) (hS : va_S (tk_A (tk_ω κ)) (tk_s κ).heap H locs) (hi : tk_r 0 i) (hv : v = 0 ∨ v = 1) (hb : 0 ≤ i ∧ i < tk_al 4 x) (hd : decode ν.1 pc = .ok (.bastore, 1)) (kk : ∀ (H1 : Heap) (locs1 : List Loc), tk_P (tk_ω κ) (tk_set μ x i v) H1 → va_S (tk_A (tk_ω κ)) (tk_s κ).heap H1 locs1 → tk_W κ ν H1 locs1 (pc + 1) ls st) : tk_W κ ν H locs pc ls (.int (Int32.ofInt v) :: .int (Int32.ofInt i) :: tk_v (tk_ω κ) 2 x :: st) := by
  obtain ⟨h0, n, hn, hlay⟩ := tk_al_lay hb.1 hb.2
  have he := tk_ws_at (ω := tk_ω κ) (μ := μ) hlay
  rw [tk_v2 h0]
  refine va_zast X.1 X.2.1 X.2.2.2.2.2.1.1 hP.1 tk_wD hS x.toNat 2 (n := n) (f := fun j => Int32.ofInt (μ x.toNat j)) he rfl (tk_vin hi hb.1 (by have := hb.2; omega)) hd (fun H1 locs1 g1 _ g3 => ?_)
  have e1 : vp_nar .boolean (Int32.ofInt v) = Int32.ofInt v := by rcases hv with rfl | rfl <;> rfl
  rw [e1, tk_ncn hi, ← tk_updI h0 hb.1 rfl] at g1
  have g4 := tk_apos (ω := tk_ω κ) (t := 4) h0 hb.1 hlay (v := v) (by simp [tk_fr]; omega) hP.2 rfl
  exact kk H1 locs1 ⟨by rw [← g4.1]; exact g1, g4.2⟩ g3
theorem tk_i2b_r (v : Int) : -128 ≤ tk_i2b v ∧ tk_i2b v ≤ 127 := by
  unfold tk_i2b
  rw [Int8.toInt_toInt32]
  have h1 := Int8.le_toInt (Int32.ofInt v).toInt8
  have h2 := Int8.toInt_lt (Int32.ofInt v).toInt8
  omega
theorem tk_bst {κ : tk_K} {ν : tk_N} {H : Heap} {locs : List Loc} {ls : Array Slot} {pc : Nat} {st : List Value} {μ : tk_M} {x i v : Int} (X : tk_X κ ν) (hP : tk_P (tk_ω κ) μ H) (hS : va_S (tk_A (tk_ω κ)) (tk_s κ).heap H locs) (hi : tk_r 0 i) (hb : 0 ≤ i ∧ i < tk_al 5 x) (hd : decode ν.1 pc = .ok (.bastore, 1)) (kk : ∀ (H1 : Heap) (locs1 : List Loc), tk_P (tk_ω κ) (tk_set μ x i (tk_i2b v)) H1 → va_S (tk_A (tk_ω κ)) (tk_s κ).heap H1 locs1 → tk_W κ ν H1 locs1 (pc + 1) ls st) : tk_W κ ν H locs pc ls (.int (Int32.ofInt v) :: .int (Int32.ofInt i) :: tk_v (tk_ω κ) 2 x :: st) := by
  obtain ⟨h0, n, hn, hlay⟩ := tk_al_lay hb.1 hb.2
  have he := tk_ws_at (ω := tk_ω κ) (μ := μ) hlay
  rw [tk_v2 h0]
  refine va_bast X.1 X.2.1 X.2.2.2.2.2.1.1 hP.1 tk_wD hS x.toNat 1 (n := n) (f := fun j => Int32.ofInt (μ x.toNat j)) he rfl (tk_vin hi hb.1 (by have := hb.2; omega)) hd (fun H1 locs1 g1 _ g3 => ?_)
  have e1 : Int32.ofInt (tk_i2b v) = vp_nar .byte (Int32.ofInt v) := by rw [vp_nar_byte, tk_i2b, tk_toI]
  rw [tk_ncn hi, ← tk_updI h0 hb.1 e1] at g1
  have hr := tk_i2b_r v
  have g4 := tk_apos (ω := tk_ω κ) (t := 5) h0 hb.1 hlay (v := tk_i2b v) (by simp [tk_fr]; omega) hP.2 rfl
  exact kk H1 locs1 ⟨by rw [← g4.1]; exact g1, g4.2⟩ g3
theorem tk_ok_as0 {ν : tk_N} {t pc p1 p2 p3 : Nat} {Γ : List (Nat × Nat)} {a b e : tk_Ex} (ha : tk_E ν Γ 0 a 2 pc p1) (hb : tk_E ν Γ 1 b 0 p1 p2) (he : tk_E ν Γ 2 e 0 p2 p3) (hd : decode ν.1 p3 = .ok (.iastore, 1)) : tk_St ν t Γ Γ (tk_as 0 a b e) pc (p3 + 1) := by
  intro κ X ρ μ Qn Qr hr h kn kr
  refine ha κ X [] (Nat.le_refl 0) ρ μ _ hr h (fun x μ1 h1 hx => ?_)
  refine hb κ X _ (tk_sum2 (st := []) (Nat.le_refl 0)) ρ μ1 _ hr h1 (fun i μ2 h2 hi => ?_)
  refine he κ X _ (tk_sum0 (tk_sum2 (st := []) (Nat.le_refl 0))) ρ μ2 _ hr h2 (fun v μ3 h3 hv H ls locs hP hS hl => ?_)
  exact tk_ist X hP hS hi hv h3.1 hd (fun H1 l1 g1 g2 => kn ρ _ h3.2 hr H1 ls l1 g1 g2 hl)
theorem tk_ok_as1 {ν : tk_N} {t pc p1 p2 p3 : Nat} {Γ : List (Nat × Nat)} {a b e : tk_Ex} (ha : tk_E ν Γ 0 a 2 pc p1) (hb : tk_E ν Γ 1 b 0 p1 p2) (he : tk_E ν Γ 2 e 1 p2 p3) (hd : decode ν.1 p3 = .ok (.lastore, 1)) : tk_St ν t Γ Γ (tk_as 1 a b e) pc (p3 + 1) := by
  intro κ X ρ μ Qn Qr hr h kn kr
  refine ha κ X [] (Nat.le_refl 0) ρ μ _ hr h (fun x μ1 h1 hx => ?_)
  refine hb κ X _ (tk_sum2 (st := []) (Nat.le_refl 0)) ρ μ1 _ hr h1 (fun i μ2 h2 hi => ?_)
  refine he κ X _ (tk_sum0 (tk_sum2 (st := []) (Nat.le_refl 0))) ρ μ2 _ hr h2 (fun v μ3 h3 hv H ls locs hP hS hl => ?_)
  exact tk_lst X hP hS hi hv h3.1 hd (fun H1 l1 g1 g2 => kn ρ _ h3.2 hr H1 ls l1 g1 g2 hl)
theorem tk_ok_asz {ν : tk_N} {t pc p1 p2 p3 : Nat} {Γ : List (Nat × Nat)} {a b e : tk_Ex} (ha : tk_E ν Γ 0 a 2 pc p1) (hb : tk_E ν Γ 1 b 0 p1 p2) (he : tk_E ν Γ 2 e 0 p2 p3) (hd : decode ν.1 p3 = .ok (.bastore, 1)) : tk_St ν t Γ Γ (tk_asz a b e) pc (p3 + 1) := by
  intro κ X ρ μ Qn Qr hr h kn kr
  refine ha κ X [] (Nat.le_refl 0) ρ μ _ hr h (fun x μ1 h1 hx => ?_)
  refine hb κ X _ (tk_sum2 (st := []) (Nat.le_refl 0)) ρ μ1 _ hr h1 (fun i μ2 h2 hi => ?_)
  refine he κ X _ (tk_sum0 (tk_sum2 (st := []) (Nat.le_refl 0))) ρ μ2 _ hr h2 (fun v μ3 h3 hv H ls locs hP hS hl => ?_)
  exact tk_zst X hP hS hi h3.2.1 h3.1 hd (fun H1 l1 g1 g2 => kn ρ _ h3.2.2 hr H1 ls l1 g1 g2 hl)
theorem tk_ok_asb {ν : tk_N} {t pc p1 p2 p3 : Nat} {Γ : List (Nat × Nat)} {a b e : tk_Ex} (ha : tk_E ν Γ 0 a 2 pc p1) (hb : tk_E ν Γ 1 b 0 p1 p2) (he : tk_E ν Γ 2 e 0 p2 p3) (hd : decode ν.1 p3 = .ok (.bastore, 1)) : tk_St ν t Γ Γ (tk_asb a b e) pc (p3 + 1) := by
  intro κ X ρ μ Qn Qr hr h kn kr
  refine ha κ X [] (Nat.le_refl 0) ρ μ _ hr h (fun x μ1 h1 hx => ?_)
  refine hb κ X _ (tk_sum2 (st := []) (Nat.le_refl 0)) ρ μ1 _ hr h1 (fun i μ2 h2 hi => ?_)
  refine he κ X _ (tk_sum0 (tk_sum2 (st := []) (Nat.le_refl 0))) ρ μ2 _ hr h2 (fun v μ3 h3 hv H ls locs hP hS hl => ?_)
  exact tk_bst X hP hS hi h3.1 hd (fun H1 l1 g1 g2 => kn ρ _ h3.2 hr H1 ls l1 g1 g2 hl)
/-- a step on two numbers -/
def tk_op (ν : tk_N) (t : Nat) (f : Int → Int → Int) (pc : Nat) : Prop := ∀ (κ : tk_K), tk_X κ ν → ∀ (H : Heap) (locs : List Loc) (ls : Array Slot) (x y : Int) (st : List Value), (tk_r t (f x y) → tk_W κ ν H locs (pc + 1) ls (tk_v (tk_ω κ) t (f x y) :: st)) → tk_W κ ν H locs pc ls (tk_v (tk_ω κ) t y :: tk_v (tk_ω κ) t x :: st)
theorem tk_op_iadd {ν : tk_N} {pc : Nat} (hd : decode ν.1 pc = .ok (.iadd, 1)) : tk_op ν 0 tk_iadd pc := by
  intro κ X H locs ls x y st h
  have h3 := h (tk_r0 _)
  rw [tk_iadd, tk_v0] at h3
  exact lv_iadd X.1 X.2.1 hd h3
theorem tk_op_isub {ν : tk_N} {pc : Nat} (hd : decode ν.1 pc = .ok (.isub, 1)) : tk_op ν 0 tk_isub pc := by
  intro κ X H locs ls x y st h
  have h3 := h (tk_r0 _)
  rw [tk_isub, tk_v0] at h3
  exact lv_isub X.1 X.2.1 hd h3
theorem tk_op_ior {ν : tk_N} {pc : Nat} (hd : decode ν.1 pc = .ok (.ior, 1)) : tk_op ν 0 tk_ior pc := by
  intro κ X H locs ls x y st h
  have h3 := h (tk_r0 _)
  rw [tk_ior, tk_v0] at h3
  exact lv_ior X.1 X.2.1 hd h3
theorem tk_op_ladd {ν : tk_N} {pc : Nat} (hd : decode ν.1 pc = .ok (.ladd, 1)) : tk_op ν 1 tk_ladd pc := by
  intro κ X H locs ls x y st h
  have h3 := h (tk_r1 _)
  rw [tk_ladd, tk_v1] at h3
  exact lv_ladd X.1 X.2.1 hd h3
theorem tk_ok_aso0 {ν : tk_N} {t pc p1 p2 p3 : Nat} {Γ : List (Nat × Nat)} {a b e : tk_Ex} {f : Int → Int → Int} (ha : tk_E ν Γ 0 a 2 pc p1) (hb : tk_E ν Γ 1 b 0 p1 p2) (hd1 : decode ν.1 p2 = .ok (.dup2, 1)) (hd2 : decode ν.1 (p2 + 1) = .ok (.iaload, 1)) (he : tk_E ν Γ 3 e 0 (p2 + 2) p3) (hf : tk_op ν 0 f p3) (hd : decode ν.1 (p3 + 1) = .ok (.iastore, 1)) : tk_St ν t Γ Γ (tk_aso 0 f a b e) pc (p3 + 2) := by
  intro κ X ρ μ Qn Qr hr h kn kr
  refine ha κ X [] (Nat.le_refl 0) ρ μ _ hr h (fun x μ1 h1 hx => ?_)
  refine hb κ X _ (tk_sum2 (st := []) (Nat.le_refl 0)) ρ μ1 _ hr h1 (fun i μ2 h2 hi => ?_)
  have hin := h2.1
  have key : tk_G κ ν Γ ρ (p2 + 2) μ2 (tk_v (tk_ω κ) 0 (μ2 x i) :: tk_v (tk_ω κ) 0 i :: tk_v (tk_ω κ) 2 x :: []) := by
    refine he κ X _ (tk_sum0 (tk_sum0 (tk_sum2 (st := []) (Nat.le_refl 0)))) ρ μ2 _ hr h2.2 (fun v μ3 h3 hv H ls locs hP hS hl => ?_)
    exact hf κ X H locs ls _ v _ (fun hw => tk_ist X hP hS hi hw hin hd (fun H1 l1 g1 g2 => kn ρ _ h3 hr H1 ls l1 g1 g2 hl))
  intro H ls locs hP hS hl
  obtain ⟨h0, n, hn, hlay⟩ := tk_al_lay hin.1 hin.2
  have hw := tk_ws_at (ω := tk_ω κ) (μ := μ2) hlay
  refine lv_dup2_11 X.1 X.2.1 hd1 (by rw [tk_cat]; rfl) (by rw [tk_cat]; rfl) ?_
  rw [tk_v2 hx]
  refine va_iald X.1 X.2.1 X.2.2.2.2.2.1.1 hP.1 x.toNat 0 (n := n) (f := fun j => Int32.ofInt (μ2 x.toNat j)) hw rfl (tk_vin hi hin.1 (by have := hin.2; omega)) hd2 ?_
  rw [tk_ncn hi]
  simp only [tk_nat h0, tk_nat hin.1]
  have h4 := key H ls locs hP hS hl
  rw [tk_v2 hx] at h4
  exact h4
theorem tk_ok_aso1 {ν : tk_N} {t pc p1 p2 p3 : Nat} {Γ : List (Nat × Nat)} {a b e : tk_Ex} {f : Int → Int → Int} (ha : tk_E ν Γ 0 a 2 pc p1) (hb : tk_E ν Γ 1 b 0 p1 p2) (hd1 : decode ν.1 p2 = .ok (.dup2, 1)) (hd2 : decode ν.1 (p2 + 1) = .ok (.laload, 1)) (he : tk_E ν Γ 4 e 1 (p2 + 2) p3) (hf : tk_op ν 1 f p3) (hd : decode ν.1 (p3 + 1) = .ok (.lastore, 1)) : tk_St ν t Γ Γ (tk_aso 1 f a b e) pc (p3 + 2) := by
  intro κ X ρ μ Qn Qr hr h kn kr
  refine ha κ X [] (Nat.le_refl 0) ρ μ _ hr h (fun x μ1 h1 hx => ?_)
  refine hb κ X _ (tk_sum2 (st := []) (Nat.le_refl 0)) ρ μ1 _ hr h1 (fun i μ2 h2 hi => ?_)
  have hin := h2.1
  have key : tk_G κ ν Γ ρ (p2 + 2) μ2 (tk_v (tk_ω κ) 1 (μ2 x i) :: tk_v (tk_ω κ) 0 i :: tk_v (tk_ω κ) 2 x :: []) := by
    refine he κ X _ (tk_sum1 (tk_sum0 (tk_sum2 (st := []) (Nat.le_refl 0)))) ρ μ2 _ hr h2.2 (fun v μ3 h3 hv H ls locs hP hS hl => ?_)
    exact hf κ X H locs ls _ v _ (fun hw => tk_lst X hP hS hi hw hin hd (fun H1 l1 g1 g2 => kn ρ _ h3 hr H1 ls l1 g1 g2 hl))
  intro H ls locs hP hS hl
  obtain ⟨h0, n, hn, hlay⟩ := tk_al_lay hin.1 hin.2
  have hw := tk_ws_at (ω := tk_ω κ) (μ := μ2) hlay
  refine lv_dup2_11 X.1 X.2.1 hd1 (by rw [tk_cat]; rfl) (by rw [tk_cat]; rfl) ?_
  rw [tk_v2 hx]
  refine va_lald X.1 X.2.1 X.2.2.2.2.2.1.1 hP.1 x.toNat 3 (n := n) (f := fun j => Int64.ofInt (μ2 x.toNat j)) hw rfl (tk_vin hi hin.1 (by have := hin.2; omega)) hd2 ?_
  rw [tk_ncn hi]
  simp only [tk_nat h0, tk_nat hin.1]
  have h4 := key H ls locs hP hS hl
  rw [tk_v2 hx] at h4
  exact h4
theorem tk_ok_pfo {ν : tk_N} {t pc p1 p2 : Nat} {Γ : List (Nat × Nat)} {a e : tk_Ex} {ci j ix N : Nat} {C : String} {T : u_T} {ty : Nat → FieldType} {f : Int → Int → Int} (ha : tk_E ν Γ 0 a 2 pc p1) (hd1 : decode ν.1 p1 = .ok (.dup, 1)) (hd2 : decode ν.1 (p1 + 1) = .ok (.getfield ix, 3)) (he : tk_E ν Γ 2 e 0 (p1 + 4) p2) (hf : tk_op ν 0 f p2) (hd : decode ν.1 (p2 + 1) = .ok (.putfield ix, 3)) (hC : tk_Cl ci C T N ty) (hj : j < N) (hl : tk_lk ν.2.1 ix T j) (ht : (tk_ct ci)[j]? = some 0) (hfin : (T j).2.2.2 = false) (hty : ty j = .int) : tk_St ν t Γ Γ (tk_pfo f ci j a e) pc (p2 + 4) := by
  intro κ X ρ μ Qn Qr hr h kn kr
  refine ha κ X [] (Nat.le_refl 0) ρ μ _ hr h (fun x μ1 h1 hx => ?_)
  have h0 := (tk_isC_lay h1.1).1
  have key : tk_G κ ν Γ ρ (p1 + 4) μ1 (tk_v (tk_ω κ) 0 (μ1 x j) :: tk_v (tk_ω κ) 2 x :: []) := by
    refine he κ X _ (tk_sum0 (tk_sum2 (st := []) (Nat.le_refl 0))) ρ μ1 _ hr h1.2 (fun v μ3 h3 hv H ls locs hP hS hl' => ?_)
    refine hf κ X H locs ls _ v _ (fun hw => ?_)
    exact tk_put X hP hS hC hj hl ht h1.1 hfin (by rw [hty]; rfl) (by rw [hty]; rfl) (by simp [tk_fv, tk_set, tk_nat h0, tk_v]) (by simpa [tk_fr] using hw) hd (fun H1 locs1 hP1 hS1 => kn ρ _ h3 hr H1 ls locs1 hP1 hS1 hl')
  intro H ls locs hP hS hl'
  refine lv_dup X.1 X.2.1 hd1 (by rw [tk_cat]; rfl) ?_
  refine tk_get X hP hC hj hl ht h1.1 hd2 ?_
  have h4 : tk_fv (tk_ω κ) μ1 x.toNat j 0 = tk_v (tk_ω κ) 0 (μ1 x j) := by simp [tk_fv, tk_v, tk_nat h0]
  rw [h4]
  exact key H ls locs hP hS hl'
theorem tk_ok_pfol {ν : tk_N} {t pc p1 p2 : Nat} {Γ : List (Nat × Nat)} {a e : tk_Ex} {ci j ix N : Nat} {C : String} {T : u_T} {ty : Nat → FieldType} {f : Int → Int → Int} (ha : tk_E ν Γ 0 a 2 pc p1) (hd1 : decode ν.1 p1 = .ok (.dup, 1)) (hd2 : decode ν.1 (p1 + 1) = .ok (.getfield ix, 3)) (he : tk_E ν Γ 3 e 1 (p1 + 4) p2) (hf : tk_op ν 1 f p2) (hd : decode ν.1 (p2 + 1) = .ok (.putfield ix, 3)) (hC : tk_Cl ci C T N ty) (hj : j < N) (hl : tk_lk ν.2.1 ix T j) (ht : (tk_ct ci)[j]? = some 1) (hfin : (T j).2.2.2 = false) (hty : ty j = .long) : tk_St ν t Γ Γ (tk_pfo f ci j a e) pc (p2 + 4) := by
  intro κ X ρ μ Qn Qr hr h kn kr
  refine ha κ X [] (Nat.le_refl 0) ρ μ _ hr h (fun x μ1 h1 hx => ?_)
  have h0 := (tk_isC_lay h1.1).1
  have key : tk_G κ ν Γ ρ (p1 + 4) μ1 (tk_v (tk_ω κ) 1 (μ1 x j) :: tk_v (tk_ω κ) 2 x :: []) := by
    refine he κ X _ (tk_sum1 (tk_sum2 (st := []) (Nat.le_refl 0))) ρ μ1 _ hr h1.2 (fun v μ3 h3 hv H ls locs hP hS hl' => ?_)
    refine hf κ X H locs ls _ v _ (fun hw => ?_)
    exact tk_put X hP hS hC hj hl ht h1.1 hfin (by rw [hty]; rfl) (by rw [hty]; rfl) (by simp [tk_fv, tk_set, tk_nat h0, tk_v]) (by simpa [tk_fr] using hw) hd (fun H1 locs1 hP1 hS1 => kn ρ _ h3 hr H1 ls locs1 hP1 hS1 hl')
  intro H ls locs hP hS hl'
  refine lv_dup X.1 X.2.1 hd1 (by rw [tk_cat]; rfl) ?_
  refine tk_get X hP hC hj hl ht h1.1 hd2 ?_
  have h4 : tk_fv (tk_ω κ) μ1 x.toNat j 1 = tk_v (tk_ω κ) 1 (μ1 x j) := by simp [tk_fv, tk_v, tk_nat h0]
  rw [h4]
  exact key H ls locs hP hS hl'
/-! ===== arguments, calls, contracts ===== -/
def tk_ra : List Nat → List Int → Prop
  | [], [] => True
  | t :: ts, v :: vs => tk_r t v ∧ tk_ra ts vs
  | _, _ => False
def tk_zip (ω : tk_O) (ts : List Nat) (vs : List Int) : List Value := List.zipWith (tk_v ω) ts vs
def tk_wd : List Nat → Nat
  | [] => 0
  | t :: ts => (if t = 1 then 2 else 1) + tk_wd ts
/-- the code from pc on puts the arguments on the stack -/
def tk_Ea (ν : tk_N) (Γ : List (Nat × Nat)) (d : Nat) (es : List tk_Ex) (ts : List Nat) (pc p1 : Nat) : Prop :=
  ∀ (κ : tk_K), tk_X κ ν → ∀ (st : List Value), tk_sum st ≤ d → ∀ (ρ : tk_L) (μ : tk_M) (Q : List Int → tk_M → Prop), tk_rs Γ ρ → tk_args es Q ρ μ →
    (∀ vs μ', Q vs μ' → tk_ra ts vs → tk_G κ ν Γ ρ p1 μ' ((tk_zip (tk_ω κ) ts vs).reverse ++ st)) → tk_G κ ν Γ ρ pc μ st
theorem tk_ea0 {ν : tk_N} {Γ : List (Nat × Nat)} {d pc : Nat} : tk_Ea ν Γ d [] [] pc pc := fun κ X st hst ρ μ Q hr h k => k [] μ h trivial
theorem tk_ea1 {ν : tk_N} {Γ : List (Nat × Nat)} {d t pc p1 p2 : Nat} {e : tk_Ex} {es : List tk_Ex} {ts : List Nat} (he : tk_E ν Γ d e t pc p1) (hes : tk_Ea ν Γ (d + (if t = 1 then 2 else 1)) es ts p1 p2) : tk_Ea ν Γ d (e :: es) (t :: ts) pc p2 := by
  intro κ X st hst ρ μ Q hr h k
  refine he κ X st hst ρ μ _ hr h (fun v μ1 h1 hv => ?_)
  refine hes κ X _ (tk_sumg hst) ρ μ1 _ hr h1 (fun vs μ2 h2 hvs => ?_)
  have h3 := k (v :: vs) μ2 h2 ⟨hv, hvs⟩
  simp only [tk_zip, List.zipWith_cons_cons, List.reverse_cons, List.append_assoc, List.singleton_append] at h3
  exact h3
def tk_Qc (ω : tk_O) (t : Nat) (Q : Int → tk_M → Prop) : Array Value → State → Outcome → State → Prop := fun _ st oc u => (∃ (v : Int) (μ' : tk_M), oc = .returned (tk_ov ω t v) ∧ tk_rt t v ∧ Q v μ' ∧ tk_P ω μ' u.heap) ∧ va_F (tk_A ω) st u
def tk_Pc (ω : tk_O) (ts : List Nat) (vs : List Int) (μ : tk_M) : Array Value → State → Prop := fun a U => a = (tk_zip ω ts vs).toArray ∧ tk_P ω μ U.heap ∧ tk_S ω U
def tk_wy (y : MethodName) (cc : ByteArray) (nL : Nat) (ret : Option FieldType) : List Cond := .code y cc nL ret :: tk_tbl
/-- a method's contract: whatever follows for its predicate transformer holds behind it -/
def tk_Met (y : MethodName) (cc : ByteArray) (nL : Nat) (ret : Option FieldType) (rm : Room) (ts : List Nat) (t : Nat) (F : tk_F) : Prop :=
  ∀ (l : Launch) (ω : tk_O) (vs : List Int) (Q : Int → tk_M → Prop) (μ : tk_M), tk_ra ts vs → F vs Q μ → Met l y (tk_wy y cc nL ret) rm (tk_Pc ω ts vs μ) (tk_Qc ω t Q) 0 0 (tk_A ω)
def tk_ga (k : Nat) : List Nat → List (Nat × Nat)
  | [] => []
  | t :: ts => (k, t) :: tk_ga (k + (if t = 1 then 2 else 1)) ts
def tk_env (k : Nat) : List Nat → List Int → tk_L
  | t :: ts, v :: vs => tk_up (tk_env (k + (if t = 1 then 2 else 1)) ts vs) k v
  | _, _ => fun _ => 0
theorem tk_ga_ge {ts : List Nat} : ∀ {k : Nat} {q : Nat × Nat}, q ∈ tk_ga k ts → k ≤ q.1 := by
  induction ts with
  | nil => intro k q h; cases h
  | cons t ts ih =>
    intro k q h
    rcases List.mem_cons.mp h with rfl | h
    · exact Nat.le_refl _
    · have := ih h
      omega
theorem tk_lv_up {ω : tk_O} {ρ : tk_L} {k : Nat} {x : Int} {Γ : List (Nat × Nat)} (h : ∀ q ∈ Γ, q.1 ≠ k) : tk_lv ω Γ (tk_up ρ k x) = tk_lv ω Γ ρ := by
  unfold tk_lv
  refine List.map_congr_left (fun q hq => ?_)
  simp only [tk_up, if_neg (h q hq)]
theorem tk_env_lv {ω : tk_O} {ts : List Nat} : ∀ {k : Nat} {vs : List Int}, tk_ra ts vs → tk_lv ω (tk_ga k ts) (tk_env k ts vs) = lv_args k (tk_zip ω ts vs) := by
  induction ts with
  | nil => intro k vs h; cases vs with
    | nil => rfl
    | cons v vs => exact h.elim
  | cons t ts ih => intro k vs h; cases vs with
    | nil => exact h.elim
    | cons v vs =>
      have h1 := ih (k := k + (if t = 1 then 2 else 1)) h.2
      have h2 : tk_lv ω (tk_ga (k + (if t = 1 then 2 else 1)) ts) (tk_up (tk_env (k + (if t = 1 then 2 else 1)) ts vs) k v) = lv_args (k + (if t = 1 then 2 else 1)) (tk_zip ω ts vs) := by
        rw [tk_lv_up (fun q hq => by have := tk_ga_ge hq; split at this <;> omega), h1]
      show (k, tk_v ω t (tk_up (tk_env (k + (if t = 1 then 2 else 1)) ts vs) k v k)) :: _ = (k, tk_v ω t v) :: lv_args (if (tk_v ω t v).category = 2 then k + 2 else k + 1) (tk_zip ω ts vs)
      have h3 : (if (tk_v ω t v).category = 2 then k + 2 else k + 1) = k + (if t = 1 then 2 else 1) := by
        rw [tk_cat]; by_cases ht : t = 1
        · simp [ht]
        · simp [ht]
      have h5 : tk_up (tk_env (k + (if t = 1 then 2 else 1)) ts vs) k v k = v := by simp [tk_up]
      rw [h3, ← h2, h5]
      rfl
theorem tk_env_rs {ts : List Nat} : ∀ {k : Nat} {vs : List Int}, tk_ra ts vs → tk_rs (tk_ga k ts) (tk_env k ts vs) := by
  induction ts with
  | nil => intro k vs h q hq; cases hq
  | cons t ts ih => intro k vs h; cases vs with
    | nil => exact h.elim
    | cons v vs =>
      intro q hq
      rcases List.mem_cons.mp hq with rfl | hq
      · simp only [tk_env, tk_up, if_true]; exact h.1
      · have h1 := tk_ga_ge hq
        have h2 := ih h.2 q hq
        simp only [tk_env, tk_up]
        rw [if_neg (by split at h1 <;> omega)]
        exact h2
theorem tk_sl_len {ω : tk_O} {ts : List Nat} : ∀ {vs : List Int}, tk_ra ts vs → (lg_sl (tk_zip ω ts vs)).length = tk_wd ts := by
  induction ts with
  | nil => intro vs h; cases vs with
    | nil => rfl
    | cons v vs => exact h.elim
  | cons t ts ih => intro vs h; cases vs with
    | nil => exact h.elim
    | cons v vs =>
      have h1 := ih h.2
      simp only [tk_zip, List.zipWith_cons_cons, lg_sl, List.flatMap_cons, List.length_append, tk_cat] at h1 ⊢
      rw [h1]
      by_cases ht : t = 1 <;> simp [ht, tk_wd]
def tk_rty (t : Nat) : Option FieldType := match t with
  | 0 => some .int
  | 1 => some .long
  | 4 => some .boolean
  | _ => none
/-- a method's predicate transformer out of its body's -/
def tk_fn (ts : List Nat) (S : tk_Sm) : tk_F := fun vs Q μ => S (fun _ _ => False) Q (tk_env 0 ts vs) μ
theorem tk_met {y : MethodName} {cc : ByteArray} {nL : Nat} {rm : Room} {ts : List Nat} {t L : Nat} {Γ' : List (Nat × Nat)} {S : tk_Sm} (ht : t = 0 ∨ t = 1 ∨ t = 4 ∨ t = 9) (hy : plainName y.cls = true) (hw : tk_wd ts ≤ nL) (hb : tk_St (cc, y.cls, nL, rm, none) t (tk_ga 0 ts) Γ' S 0 L) : tk_Met y cc nL (tk_rty t) rm ts t (tk_fn ts S) := by
  intro l ω vs Q μ hr hF
  refine Met.ofW (cc := cc) (maxL := nL) (ret := tk_rty t) hy rfl ?_
  intro p e s m args below meth c s₁ B hml hv
  obtain ⟨rfl, hP, hS⟩ := hv
  have hts := atoms_spec (ws := tk_wy y cc nL (tk_rty t)) B.pre
  have hown : s.vm.findClass y.cls = some m.cls := findClass_of_methodNamed B.named
  have hx := B.exec
  have hbb := B.bytes
  have hrt := B.returns
  have hlocks := B.notSynchronized
  have hl := lv_entry (tk_zip ω ts vs) (n := nL) (by rw [tk_sl_len hr]; exact hw)
  rw [lg_entry_eq]
  rw [← tk_env_lv hr] at hl
  generalize hκ : ((p, l, e, s, m, (tk_zip ω ts vs).toArray, below, meth, c, 0, 0, MQ below (tk_Qc ω t Q) (tk_zip ω ts vs).toArray s 0 0 (tk_A ω), ω) : tk_K) = κ
  have X : tk_X κ (cc, y.cls, nL, rm, none) := by
    subst hκ
    exact ⟨hx, hbb, hml, hown, fun w h => hts w (List.mem_cons_of_mem _ h), hS, Nat.zero_le _, Nat.zero_le _, fun q h => by cases h⟩
  have kr : tk_Rt κ (cc, y.cls, nL, rm, none) t Q := by
    intro v μ' H ls locs pc hq ht' hP' hS' hd
    subst hκ
    have fin : ∀ u : State, u.heap = H → tk_Qc ω t Q (tk_zip ω ts vs).toArray s (.returned (tk_ov ω t v)) u := fun u hu => ⟨⟨v, μ', rfl, ht', hq, by rw [hu]; exact hP'⟩, hS'.F hu⟩
    rcases ht with rfl | rfl | rfl | rfl
    · exact W.iret (v := Int32.ofInt v) hx hbb hrt (fun u hu _ => fin u hu) hS'.2.2 hd
    · exact W.lret (v := Int64.ofInt v) hx hbb hrt (fun u hu _ => fin u hu) hS'.2.2 hd
    · exact W.zret (v := Int32.ofInt v) (ty := .boolean) hx hbb hrt (by rcases ht' with rfl | rfl <;> rfl) (fun u hu _ => fin u hu) hS'.2.2 hd
    · exact W.vret hx hbb hrt (fun u hu _ => fin u hu) hS'.2.2 hd
  have h1 := hb κ X (tk_env 0 ts vs) μ (fun _ _ => False) Q (tk_env_rs hr) hF (fun _ _ h => h.elim) kr
  subst hκ
  exact h1 s.heap _ [] hP va_S.rf hl
/-- behind a call -/
theorem tk_cont {κ : tk_K} {ν : tk_N} {H : Heap} {locs : List Loc} {ls : Array Slot} {pc : Nat} {st0 rest : List Value} {t : Nat} {Q : Int → tk_M → Prop} {a : Array Value} (hr : va_Run κ.1 κ.2.1 κ.2.2.1 ν.2.2.2.1 (tk_s κ) (tk_m κ) (tk_ar κ) (tk_be κ) (tk_me κ) (tk_c κ) H locs (tk_ce1 κ) (tk_sl κ) 0 0 (F0 (tk_m κ) pc ls st0) rest (tk_Qc (tk_ω κ) t Q a) (tk_A (tk_ω κ))) (hS : va_S (tk_A (tk_ω κ)) (tk_s κ).heap H locs)
    (kk : ∀ (v : Int) (μ' : tk_M) (H1 : Heap) (locs1 : List Loc), Q v μ' → tk_rt t v → tk_P (tk_ω κ) μ' H1 → va_S (tk_A (tk_ω κ)) (tk_s κ).heap H1 locs1 → tk_W κ ν H1 locs1 (pc + 3) ls (tk_rv (tk_ω κ) t v ++ rest)) : tk_W κ ν H locs pc ls st0 := by
  intro T hT X
  obtain ⟨v, st₀, t', T', L, h0, X', hL, e1, e2, ⟨⟨r, μ', hv, hrt, hq, hP⟩, hz, hk⟩, st⟩ := hr T hT X
  cases hv
  rw [h0] at hz hk
  have h3 := kk r μ' T'.heap (locs ++ L) hq hrt (by rw [e1]; exact hP)
    ⟨Nat.le_trans hS.1 (by rw [e1]; exact hz), fun q h1 h2 => by rw [e1, hk q (Nat.lt_of_lt_of_le h1 hS.1) h2]; exact hS.2.1 q h1 h2, fun q hq => by
      rcases List.mem_append.mp hq with h | h
      · exact hS.2.2 q h
      · exact hL q h⟩
  obtain ⟨t2, a1, b1⟩ := h3 T' rfl X'
  exact ⟨t2, st t2 a1, b1⟩
/-- what a call needs of the tables and of the room -/
def tk_cw (ν : tk_N) (ix : Nat) (y : MethodName) (cc : ByteArray) (nL : Nat) (ret : Option FieldType) (rm : Room) (n : Nat) : Prop :=
  (Cond.methodLink ν.2.1 ix y ∈ tk_tbl ∨ Cond.methodLinkNest ν.2.1 ix y "TicketHall" ∈ tk_nw) ∧ Cond.initialized y.cls ∈ tk_tbl ∧ Cond.code y cc nL ret ∈ tk_tbl ∧ (y.cls ≠ "java/lang/invoke/MethodHandle" ∧ y.cls ≠ "java/lang/invoke/VarHandle" ∧ (parseMethodDescriptor y.desc).map (fun d => d.parameters.length) = some n) ∧ rm.cells = 0 ∧ rm.slots = 0 ∧ rm.frames + 1 ≤ ν.2.2.2.1.frames ∧ 8 + (nL + 11) + rm.locals ≤ ν.2.2.2.1.locals
theorem tk_wy_good {y : MethodName} {cc : ByteArray} {nL : Nat} {ret : Option FieldType} (h : Cond.code y cc nL ret ∈ tk_tbl) : GoodIn tk_tbl (tk_wy y cc nL ret) := by
  have h1 : ∀ w ∈ tk_wy y cc nL ret, w ∈ tk_tbl := fun w hw => by
    rcases List.mem_cons.mp hw with rfl | hw
    · exact h
    · exact hw
  exact tk_goodIn h1 (fun w hw => tk_tbl_good w (h1 w hw))
theorem tk_blind {ω : tk_O} {ts : List Nat} {vs : List Int} {μ : tk_M} : FrameBlind (tk_Pc ω ts vs μ) := fun a U g mk h => ⟨h.1, h.2.1, h.2.2.to (Vm.Alike.refl U.vm) (tk_nw_same rfl) (fun _ _ _ => rfl)⟩
theorem tk_ra_len {ts : List Nat} : ∀ {vs : List Int}, tk_ra ts vs → vs.length = ts.length := by
  induction ts with
  | nil => intro vs h; cases vs with
    | nil => rfl
    | cons v vs => exact h.elim
  | cons t ts ih => intro vs h; cases vs with
    | nil => exact h.elim
    | cons v vs => simp [ih h.2]
theorem tk_pre {κ : tk_K} {ν : tk_N} {H : Heap} {locs : List Loc} {ts : List Nat} {vs : List Int} {μ : tk_M} (X : tk_X κ ν) (hP : tk_P (tk_ω κ) μ H) (hS : va_S (tk_A (tk_ω κ)) (tk_s κ).heap H locs) : ∀ U : State, U.heap = H → (tk_s κ).WarmedH U.vm → tk_Pc (tk_ω κ) ts vs μ (tk_zip (tk_ω κ) ts vs).toArray U := fun U hU hW => ⟨rfl, by rw [hU]; exact hP, X.2.2.2.2.2.1.to hW.alike (tk_nw_warm hW) (fun a h1 h2 => by rw [hU]; exact hS.2.1 a h1 h2)⟩
theorem tk_callV {κ : tk_K} {ν : tk_N} {H : Heap} {locs : List Loc} {ls : Array Slot} {pc ix nL t ci N : Nat} {st : List Value} {y : MethodName} {cc : ByteArray} {rm : Room} {ts : List Nat} {T : u_T} {ty : Nat → FieldType} {F : tk_F} {vs : List Int} {x : Int} {μ : tk_M} {Q : Int → tk_M → Prop} {Γ : List (Nat × Nat)} {ρ : tk_L} (X : tk_X κ ν) (hM : tk_Met y cc nL (tk_rty t) rm (2 :: ts) t F) (hc : tk_cw ν ix y cc nL (tk_rty t) rm ts.length) (hi : Cond.instanceMethod y ∈ tk_tbl) (hse : Cond.selects y.cls y y ∈ tk_tbl) (hC : tk_Cl ci y.cls T N ty) (hd : decode ν.1 pc = .ok (.invokevirtual ix, 3)) (hst : tk_sum st ≤ 8) (hx : tk_isC ci x) (hr : tk_ra ts vs) (hF : F (x :: vs) Q μ) (hP : tk_P (tk_ω κ) μ H) (hS : va_S (tk_A (tk_ω κ)) (tk_s κ).heap H locs) (hl : lv_has ls ν.2.2.1 (tk_lv (tk_ω κ) Γ ρ))
    (kk : ∀ (v : Int) (μ' : tk_M) (H1 : Heap) (locs1 : List Loc), Q v μ' → tk_rt t v → tk_P (tk_ω κ) μ' H1 → va_S (tk_A (tk_ω κ)) (tk_s κ).heap H1 locs1 → tk_W κ ν H1 locs1 (pc + 3) ls (tk_rv (tk_ω κ) t v ++ st)) : tk_W κ ν H locs pc ls ((tk_zip (tk_ω κ) (2 :: ts) (x :: vs)).reverse ++ st) := by
  obtain ⟨hlk, hin, hcd, hdn, hrc, hrs, hfr, hlo⟩ := hc
  obtain ⟨h0, hlay⟩ := tk_isC_lay hx
  have hz : tk_zip (tk_ω κ) (2 :: ts) (x :: vs) = .ref (tk_bs (tk_ω κ) + x.toNat) :: tk_zip (tk_ω κ) ts vs := by
    show tk_v (tk_ω κ) 2 x :: _ = _
    rw [tk_v2 h0]
    rfl
  have hMl := hM κ.2.1 (tk_ω κ) (x :: vs) Q μ ⟨h0, hr⟩ hF
  have hpre := tk_pre (ts := 2 :: ts) (vs := x :: vs) X hP hS
  rw [hz] at hpre ⊢
  have hrecv := va_recv X.2.2.2.2.2.1.1 hP.1 hC.1 (tk_ws_at (ω := tk_ω κ) (μ := μ) hlay)
  have hn : (tk_zip (tk_ω κ) ts vs).length = ts.length := by simp [tk_zip, tk_ra_len hr]
  have hstk : (Value.ref (tk_bs (tk_ω κ) + x.toNat) :: tk_zip (tk_ω κ) ts vs).reverse ++ st = (tk_zip (tk_ω κ) ts vs).reverse ++ .ref (tk_bs (tk_ω κ) + x.toNat) :: st := by simp
  have hfix : CallFix κ.1 (tk_m κ) (tk_c κ) ν.1 ν.2.2.1 (tk_s κ) (tk_ar κ) tk_tbl ν.2.1 := ⟨X.1, X.2.1, X.2.2.1, X.2.2.2.1, X.2.2.2.2.1⟩
  rcases hlk with hlk | hlk
  · have hg : GoodIn tk_tbl (wsV ν.2.1 ix y.cls y (tk_wy y cc nL (tk_rty t))) := by
      refine tk_goodIn (fun w hw => ?_) (fun w hw => ?_)
      all_goals
        unfold wsV at hw
        rcases List.mem_append.mp hw with hw | hw
        · simp only [List.mem_cons, List.not_mem_nil, or_false] at hw
          rcases hw with rfl | rfl | rfl | rfl <;> first | assumption | (apply tk_tbl_good; assumption)
        · first | exact ((tk_wy_good hcd) w hw).1 | exact tk_tbl_good w ((tk_wy_good hcd) w hw).1
    refine tk_cont (va_runV hfix hMl (cwV ts.length X.2.2.2.2.1 hg rfl hrc hrs ⟨rfl, hdn.1, hdn.2.1, hdn.2.2⟩ ⟨hfr, hlo⟩) ⟨tk_blind, hrecv, hpre⟩ rfl hn hl.1 hstk (lv_room hst) hd ⟨X.2.2.2.2.2.2.1, X.2.2.2.2.2.2.2.1⟩) hS kk
  · refine tk_cont (va_runVN hfix hMl ⟨va_cnB ts.length X.2.2.2.2.1 (tk_wy_good hcd) rfl hrc hrs (X.2.2.2.2.2.1.2.2.2.2.2 _ hlk) (X.2.2.2.2.1 _ hin) hdn ⟨hfr, hlo⟩, X.2.2.2.2.1 _ hi, X.2.2.2.2.1 _ hse⟩ ⟨tk_blind, hrecv, hpre⟩ rfl hn hl.1 hstk (lv_room hst) hd ⟨X.2.2.2.2.2.2.1, X.2.2.2.2.2.2.2.1⟩) hS kk
theorem tk_callS {κ : tk_K} {ν : tk_N} {H : Heap} {locs : List Loc} {ls : Array Slot} {pc ix nL t : Nat} {st : List Value} {y : MethodName} {cc : ByteArray} {rm : Room} {ts : List Nat} {F : tk_F} {vs : List Int} {μ : tk_M} {Q : Int → tk_M → Prop} {Γ : List (Nat × Nat)} {ρ : tk_L} (X : tk_X κ ν) (hM : tk_Met y cc nL (tk_rty t) rm ts t F) (hc : tk_cw ν ix y cc nL (tk_rty t) rm ts.length) (hi : Cond.static y ∈ tk_tbl) (hd : decode ν.1 pc = .ok (.invokestatic ix, 3)) (hst : tk_sum st ≤ 8) (hr : tk_ra ts vs) (hF : F vs Q μ) (hP : tk_P (tk_ω κ) μ H) (hS : va_S (tk_A (tk_ω κ)) (tk_s κ).heap H locs) (hl : lv_has ls ν.2.2.1 (tk_lv (tk_ω κ) Γ ρ))
    (kk : ∀ (v : Int) (μ' : tk_M) (H1 : Heap) (locs1 : List Loc), Q v μ' → tk_rt t v → tk_P (tk_ω κ) μ' H1 → va_S (tk_A (tk_ω κ)) (tk_s κ).heap H1 locs1 → tk_W κ ν H1 locs1 (pc + 3) ls (tk_rv (tk_ω κ) t v ++ st)) : tk_W κ ν H locs pc ls ((tk_zip (tk_ω κ) ts vs).reverse ++ st) := by
  obtain ⟨hlk, hin, hcd, hdn, hrc, hrs, hfr, hlo⟩ := hc
  have hMl := hM κ.2.1 (tk_ω κ) vs Q μ hr hF
  have hpre := tk_pre (ts := ts) (vs := vs) X hP hS
  have hn : (tk_zip (tk_ω κ) ts vs).length = ts.length := by simp [tk_zip, tk_ra_len hr]
  have hfix : CallFix κ.1 (tk_m κ) (tk_c κ) ν.1 ν.2.2.1 (tk_s κ) (tk_ar κ) tk_tbl ν.2.1 := ⟨X.1, X.2.1, X.2.2.1, X.2.2.2.1, X.2.2.2.2.1⟩
  rcases hlk with hlk | hlk
  · have hg : GoodIn tk_tbl (va_wsS ν.2.1 ix y (tk_wy y cc nL (tk_rty t))) := by
      refine tk_goodIn (fun w hw => ?_) (fun w hw => ?_)
      all_goals
        unfold va_wsS at hw
        rcases List.mem_append.mp hw with hw | hw
        · simp only [List.mem_cons, List.not_mem_nil, or_false] at hw
          rcases hw with rfl | rfl | rfl <;> first | assumption | (apply tk_tbl_good; assumption)
        · first | exact ((tk_wy_good hcd) w hw).1 | exact tk_tbl_good w ((tk_wy_good hcd) w hw).1
    refine tk_cont (va_runS hfix hMl (va_cwS ts.length X.2.2.2.2.1 hg rfl hrc hrs hdn ⟨hfr, hlo⟩) ⟨tk_blind, hpre⟩ rfl hn hl.1 rfl (lv_room hst) hd ⟨X.2.2.2.2.2.2.1, X.2.2.2.2.2.2.2.1⟩) hS kk
  · refine tk_cont (va_runSN hfix hMl ⟨va_cnB ts.length X.2.2.2.2.1 (tk_wy_good hcd) rfl hrc hrs (X.2.2.2.2.2.1.2.2.2.2.2 _ hlk) (X.2.2.2.2.1 _ hin) hdn ⟨hfr, hlo⟩, X.2.2.2.2.1 _ hi, trivial⟩ ⟨tk_blind, hpre⟩ rfl hn hl.1 rfl (lv_room hst) hd ⟨X.2.2.2.2.2.2.1, X.2.2.2.2.2.2.2.1⟩) hS kk
theorem tk_ok_cvi {ν : tk_N} {Γ : List (Nat × Nat)} {d pc p1 ix nL t ci N : Nat} {y : MethodName} {cc : ByteArray} {rm : Room} {ts : List Nat} {T : u_T} {ty : Nat → FieldType} {F : tk_F} {es : List tk_Ex} (hes : tk_Ea ν Γ d es (2 :: ts) pc p1) (hM : tk_Met y cc nL (tk_rty t) rm (2 :: ts) t F) (hc : tk_cw ν ix y cc nL (tk_rty t) rm ts.length) (hi : Cond.instanceMethod y ∈ tk_tbl) (hse : Cond.selects y.cls y y ∈ tk_tbl) (hC : tk_Cl ci y.cls T N ty) (hd : decode ν.1 p1 = .ok (.invokevirtual ix, 3)) (hd8 : d ≤ 8) (ht : t = 0 ∨ t = 4) : tk_E ν Γ d (tk_cv ci F es) 0 pc (p1 + 3) := by
  intro κ X st hst ρ μ Q hr h k
  refine hes κ X st hst ρ μ _ hr h (fun vs μ1 h1 hvs => ?_)
  cases vs with
  | nil => exact hvs.elim
  | cons x vs =>
    intro H ls locs hP hS hl
    refine tk_callV X hM hc hi hse hC hd (Nat.le_trans hst hd8) h1.1 hvs.2 h1.2 hP hS hl (fun v μ2 H1 l1 g1 g2 g3 g4 => ?_)
    · rcases ht with rfl | rfl
      · exact k v μ2 g1 g2 H1 ls l1 g3 g4 hl
      · exact k v μ2 g1 (by rcases g2 with rfl | rfl <;> exact ⟨by omega, by omega⟩) H1 ls l1 g3 g4 hl
theorem tk_ok_csi {ν : tk_N} {Γ : List (Nat × Nat)} {d pc p1 ix nL t : Nat} {y : MethodName} {cc : ByteArray} {rm : Room} {ts : List Nat} {F : tk_F} {es : List tk_Ex} (hes : tk_Ea ν Γ d es ts pc p1) (hM : tk_Met y cc nL (tk_rty t) rm ts t F) (hc : tk_cw ν ix y cc nL (tk_rty t) rm ts.length) (hi : Cond.static y ∈ tk_tbl) (hd : decode ν.1 p1 = .ok (.invokestatic ix, 3)) (hd8 : d ≤ 8) (ht : t = 0 ∨ t = 4) : tk_E ν Γ d (tk_cs F es) 0 pc (p1 + 3) := by
  intro κ X st hst ρ μ Q hr h k
  refine hes κ X st hst ρ μ _ hr h (fun vs μ1 h1 hvs H ls locs hP hS hl => ?_)
  refine tk_callS X hM hc hi hd (Nat.le_trans hst hd8) hvs h1 hP hS hl (fun v μ2 H1 l1 g1 g2 g3 g4 => ?_)
  rcases ht with rfl | rfl
  · exact k v μ2 g1 g2 H1 ls l1 g3 g4 hl
  · exact k v μ2 g1 (by rcases g2 with rfl | rfl <;> exact ⟨by omega, by omega⟩) H1 ls l1 g3 g4 hl
theorem tk_ok_cvl {ν : tk_N} {Γ : List (Nat × Nat)} {d pc p1 ix nL t ci N : Nat} {y : MethodName} {cc : ByteArray} {rm : Room} {ts : List Nat} {T : u_T} {ty : Nat → FieldType} {F : tk_F} {es : List tk_Ex} (hes : tk_Ea ν Γ d es (2 :: ts) pc p1) (hM : tk_Met y cc nL (tk_rty t) rm (2 :: ts) t F) (hc : tk_cw ν ix y cc nL (tk_rty t) rm ts.length) (hi : Cond.instanceMethod y ∈ tk_tbl) (hse : Cond.selects y.cls y y ∈ tk_tbl) (hC : tk_Cl ci y.cls T N ty) (hd : decode ν.1 p1 = .ok (.invokevirtual ix, 3)) (hd8 : d ≤ 8) (ht : t = 1) : tk_E ν Γ d (tk_cv ci F es) 1 pc (p1 + 3) := by
  intro κ X st hst ρ μ Q hr h k
  refine hes κ X st hst ρ μ _ hr h (fun vs μ1 h1 hvs => ?_)
  cases vs with
  | nil => exact hvs.elim
  | cons x vs =>
    intro H ls locs hP hS hl
    refine tk_callV X hM hc hi hse hC hd (Nat.le_trans hst hd8) h1.1 hvs.2 h1.2 hP hS hl (fun v μ2 H1 l1 g1 g2 g3 g4 => ?_)
    · subst ht
      exact k v μ2 g1 g2 H1 ls l1 g3 g4 hl
theorem tk_ok_csl {ν : tk_N} {Γ : List (Nat × Nat)} {d pc p1 ix nL t : Nat} {y : MethodName} {cc : ByteArray} {rm : Room} {ts : List Nat} {F : tk_F} {es : List tk_Ex} (hes : tk_Ea ν Γ d es ts pc p1) (hM : tk_Met y cc nL (tk_rty t) rm ts t F) (hc : tk_cw ν ix y cc nL (tk_rty t) rm ts.length) (hi : Cond.static y ∈ tk_tbl) (hd : decode ν.1 p1 = .ok (.invokestatic ix, 3)) (hd8 : d ≤ 8) (ht : t = 1) : tk_E ν Γ d (tk_cs F es) 1 pc (p1 + 3) := by
  intro κ X st hst ρ μ Q hr h k
  refine hes κ X st hst ρ μ _ hr h (fun vs μ1 h1 hvs H ls locs hP hS hl => ?_)
  refine tk_callS X hM hc hi hd (Nat.le_trans hst hd8) hvs h1 hP hS hl (fun v μ2 H1 l1 g1 g2 g3 g4 => ?_)
  subst ht
  exact k v μ2 g1 g2 H1 ls l1 g3 g4 hl
theorem tk_ok_cvv {ν : tk_N} {Γ : List (Nat × Nat)} {t' pc p1 ix nL ci N : Nat} {y : MethodName} {cc : ByteArray} {rm : Room} {ts : List Nat} {T : u_T} {ty : Nat → FieldType} {F : tk_F} {es : List tk_Ex} (hes : tk_Ea ν Γ 0 es (2 :: ts) pc p1) (hM : tk_Met y cc nL (tk_rty 9) rm (2 :: ts) 9 F) (hc : tk_cw ν ix y cc nL (tk_rty 9) rm ts.length) (hi : Cond.instanceMethod y ∈ tk_tbl) (hse : Cond.selects y.cls y y ∈ tk_tbl) (hC : tk_Cl ci y.cls T N ty) (hd : decode ν.1 p1 = .ok (.invokevirtual ix, 3)) : tk_St ν t' Γ Γ (tk_xp (tk_cv ci F es)) pc (p1 + 3) := by
  intro κ X ρ μ Qn Qr hr h kn kr
  refine hes κ X [] (Nat.le_refl 0) ρ μ _ hr h (fun vs μ1 h1 hvs => ?_)
  cases vs with
  | nil => exact hvs.elim
  | cons x vs =>
    intro H ls locs hP hS hl
    exact tk_callV X hM hc hi hse hC hd (Nat.zero_le 8) h1.1 hvs.2 h1.2 hP hS hl (fun v μ2 H1 l1 g1 g2 g3 g4 => kn ρ μ2 g1 hr H1 ls l1 g3 g4 hl)
theorem tk_ok_csv {ν : tk_N} {Γ : List (Nat × Nat)} {t' pc p1 ix nL : Nat} {y : MethodName} {cc : ByteArray} {rm : Room} {ts : List Nat} {F : tk_F} {es : List tk_Ex} (hes : tk_Ea ν Γ 0 es ts pc p1) (hM : tk_Met y cc nL (tk_rty 9) rm ts 9 F) (hc : tk_cw ν ix y cc nL (tk_rty 9) rm ts.length) (hi : Cond.static y ∈ tk_tbl) (hd : decode ν.1 p1 = .ok (.invokestatic ix, 3)) : tk_St ν t' Γ Γ (tk_xp (tk_cs F es)) pc (p1 + 3) := by
  intro κ X ρ μ Qn Qr hr h kn kr
  refine hes κ X [] (Nat.le_refl 0) ρ μ _ hr h (fun vs μ1 h1 hvs H ls locs hP hS hl => ?_)
  exact tk_callS X hM hc hi hd (Nat.zero_le 8) hvs h1 hP hS hl (fun v μ2 H1 l1 g1 g2 g3 g4 => kn ρ μ2 g1 hr H1 ls l1 g3 g4 hl)
