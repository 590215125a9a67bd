/-! ===== statements ===== -/
def tk_sk : tk_Sm := fun Qn _ ρ μ => Qn ρ μ
def tk_sq (A B : tk_Sm) : tk_Sm := fun Qn Qr ρ μ => A (fun ρ1 μ1 => B Qn Qr ρ1 μ1) Qr ρ μ
def tk_if (C : tk_Cn) (A B : tk_Sm) : tk_Sm := fun Qn Qr ρ μ => C (fun μ1 => A Qn Qr ρ μ1) (fun μ1 => B Qn Qr ρ μ1) ρ μ
def tk_wN (C : tk_Cn) (B : tk_Sm) : Nat → tk_Sm
  | 0 => fun _ _ _ _ => False
  | n + 1 => fun Qn Qr ρ μ => C (fun μ1 => B (fun ρ2 μ2 => tk_wN C B n Qn Qr ρ2 μ2) Qr ρ μ1) (fun μ1 => Qn ρ μ1) ρ μ
def tk_wh (C : tk_Cn) (B : tk_Sm) : tk_Sm := fun Qn Qr ρ μ => ∃ n : Nat, tk_wN C B n Qn Qr ρ μ
def tk_swc (lo : Int) (D : tk_Sm) : List tk_Sm → Int → tk_Sm
  | [], _ => D
  | S :: r, v => fun Qn Qr ρ μ => if v = lo then S Qn Qr ρ μ else tk_swc (lo + 1) D r v Qn Qr ρ μ
def tk_sw (e : tk_Ex) (lo : Int) (Ss : List tk_Sm) (D : tk_Sm) : tk_Sm := fun Qn Qr ρ μ => e (fun v μ1 => tk_swc lo D Ss v Qn Qr ρ μ1) ρ μ
def tk_re (e : tk_Ex) : tk_Sm := fun _ Qr ρ μ => e Qr ρ μ
def tk_rez (e : tk_Ex) : tk_Sm := fun _ Qr ρ μ => e (fun v μ1 => (v = 0 ∨ v = 1) ∧ Qr v μ1) ρ μ
def tk_rev : tk_Sm := fun _ Qr _ μ => Qr 0 μ
def tk_xp (e : tk_Ex) : tk_Sm := fun Qn _ ρ μ => e (fun _ μ1 => Qn ρ μ1) ρ μ
def tk_se (k : Nat) (e : tk_Ex) : tk_Sm := fun Qn _ ρ μ => e (fun v μ1 => Qn (tk_up ρ k v) μ1) ρ μ
def tk_pf (ci : Nat) (j : Int) (a e : tk_Ex) : tk_Sm := fun Qn _ ρ μ => a (fun x μ1 => e (fun v μ2 => tk_isC ci x ∧ Qn ρ (tk_set μ2 x j v)) ρ μ1) ρ μ
def tk_pfz (ci : Nat) (j : Int) (a e : tk_Ex) : tk_Sm := fun Qn _ ρ μ => a (fun x μ1 => e (fun v μ2 => tk_isC ci x ∧ (v = 0 ∨ v = 1) ∧ Qn ρ (tk_set μ2 x j v)) ρ μ1) ρ μ
/-- x.f op= e -/
def tk_pfo (f : Int → Int → Int) (ci : Nat) (j : Int) (a e : tk_Ex) : tk_Sm := fun Qn _ ρ μ => a (fun x μ1 => tk_isC ci x ∧ e (fun v μ2 => Qn ρ (tk_set μ2 x j (f (μ1 x j) v))) ρ μ1) ρ μ
def tk_as (t : Nat) (a b e : tk_Ex) : tk_Sm := fun Qn _ ρ μ => a (fun x μ1 => b (fun i μ2 => e (fun v μ3 => (0 ≤ i ∧ i < tk_al t x) ∧ Qn ρ (tk_set μ3 x i v)) ρ μ2) ρ μ1) ρ μ
def tk_asz (a b e : tk_Ex) : tk_Sm := fun Qn _ ρ μ => a (fun x μ1 => b (fun i μ2 => e (fun v μ3 => (0 ≤ i ∧ i < tk_al 4 x) ∧ (v = 0 ∨ v = 1) ∧ Qn ρ (tk_set μ3 x i v)) ρ μ2) ρ μ1) ρ μ
def tk_asb (a b e : tk_Ex) : tk_Sm := fun Qn _ ρ μ => a (fun x μ1 => b (fun i μ2 => e (fun v μ3 => (0 ≤ i ∧ i < tk_al 5 x) ∧ Qn ρ (tk_set μ3 x i (tk_i2b v))) ρ μ2) ρ μ1) ρ μ
/-- a[i] op= e -/
def tk_aso (t : Nat) (f : Int → Int → Int) (a b e : tk_Ex) : tk_Sm := fun Qn _ ρ μ => a (fun x μ1 => b (fun i μ2 => (0 ≤ i ∧ i < tk_al t x) ∧ e (fun v μ3 => Qn ρ (tk_set μ3 x i (f (μ2 x i) v))) ρ μ2) ρ μ1) ρ μ
/-- items of one array to another's -/
def tk_blk (μ : tk_M) (a sp b dp n : Int) : tk_M := fun o j => if o = b ∧ dp ≤ j ∧ j < dp + n then μ a (sp + (j - dp)) else μ o j
def tk_cpy (t : Nat) (a sp b dp n : tk_Ex) : tk_Sm := fun Qn _ ρ μ => tk_args [a, sp, b, dp, n] (fun vs μ1 => match vs with
  | [x, i, y, j, k] => (0 ≤ i ∧ 0 ≤ j ∧ 0 ≤ k ∧ 0 < tk_al t x ∧ 0 < tk_al t y ∧ i + k ≤ tk_al t x ∧ j + k ≤ tk_al t y) ∧ Qn ρ (tk_blk μ1 x i y j k)
  | _ => False) ρ μ
theorem tk_ok_sk {ν : tk_N} {t pc : Nat} {Γ : List (Nat × Nat)} : tk_St ν t Γ Γ tk_sk pc pc := fun κ X ρ μ Qn Qr hr h kn _ => kn ρ μ h hr
theorem tk_ok_sgo {ν : tk_N} {t pc p1 L : Nat} {off : Int} {Γ Γ' : List (Nat × Nat)} {S : tk_Sm} (h : tk_St ν t Γ Γ' S pc p1) (hd : decode ν.1 p1 = .ok (.goto off, 3)) (ht : (p1 : Int) + off = (L : Int)) : tk_St ν t Γ Γ' S pc L := fun κ X ρ μ Qn Qr hr hs kn kr => h κ X ρ μ Qn Qr hr hs (fun ρ1 μ1 q1 r1 => tk_go X hd ht (kn ρ1 μ1 q1 r1)) kr
theorem tk_ok_sub {ν : tk_N} {t pc L : Nat} {Γ Γ1 Γ2 : List (Nat × Nat)} {S : tk_Sm} (h : tk_St ν t Γ Γ1 S pc L) (hs : ∀ q ∈ Γ2, q ∈ Γ1) : tk_St ν t Γ Γ2 S pc L := by
  intro κ X ρ μ Qn Qr hr h' kn kr
  refine h κ X ρ μ Qn Qr hr h' (fun ρ1 μ1 q1 r1 H ls locs hP hS hl => ?_) kr
  refine kn ρ1 μ1 q1 (fun q hq => r1 q (hs q hq)) H ls locs hP hS ⟨hl.1, hl.2.1, fun q hq => ?_⟩
  obtain ⟨q0, h0, rfl⟩ := List.mem_map.mp hq
  exact hl.2.2 _ (List.mem_map.mpr ⟨q0, hs q0 h0, rfl⟩)
theorem tk_ok_sq {ν : tk_N} {t pc p1 L : Nat} {Γ Γ1 Γ2 : List (Nat × Nat)} {A B : tk_Sm} (ha : tk_St ν t Γ Γ1 A pc p1) (hb : tk_St ν t Γ1 Γ2 B p1 L) : tk_St ν t Γ Γ2 (tk_sq A B) pc L := fun κ X ρ μ Qn Qr hr h kn kr => ha κ X ρ μ _ Qr hr h (fun ρ1 μ1 h1 r1 => hb κ X ρ1 μ1 Qn Qr r1 h1 kn kr) kr
theorem tk_ok_if {ν : tk_N} {t pc T F L : Nat} {Γ Γ' : List (Nat × Nat)} {C : tk_Cn} {A B : tk_Sm} (hc : tk_Ck ν Γ 0 C pc T F) (ha : tk_St ν t Γ Γ' A T L) (hb : tk_St ν t Γ Γ' B F L) : tk_St ν t Γ Γ' (tk_if C A B) pc L := fun κ X ρ μ Qn Qr hr h kn kr => hc κ X [] (Nat.le_refl 0) ρ μ _ _ hr h (fun μ1 h1 => ha κ X ρ μ1 Qn Qr hr h1 kn kr) (fun μ1 h1 => hb κ X ρ μ1 Qn Qr hr h1 kn kr)
theorem tk_ok_wh {ν : tk_N} {t pc T F : Nat} {Γ : List (Nat × Nat)} {C : tk_Cn} {B : tk_Sm} (hc : tk_Ck ν Γ 0 C pc T F) (hb : tk_St ν t Γ Γ B T pc) : tk_St ν t Γ Γ (tk_wh C B) pc F := by
  intro κ X ρ μ Qn Qr hr h kn kr
  obtain ⟨n, h⟩ := h
  induction n generalizing ρ μ with
  | zero => exact h.elim
  | succ n ih => exact hc κ X [] (Nat.le_refl 0) ρ μ _ _ hr h (fun μ1 h1 => hb κ X ρ μ1 _ Qr hr h1 (fun ρ2 μ2 h2 r2 => ih ρ2 μ2 r2 h2) kr) (fun μ1 h1 => kn ρ μ1 h1 hr)
def tk_swo (ν : tk_N) (t : Nat) (Γ Γ' : List (Nat × Nat)) (L : Nat) : List tk_Sm → List Nat → Prop
  | [], [] => True
  | S :: Ss, p :: ps => tk_St ν t Γ Γ' S p L ∧ tk_swo ν t Γ Γ' L Ss ps
  | _, _ => False
theorem tk_swl {κ : tk_K} {ν : tk_N} {t L pd : Nat} {Γ Γ' : List (Nat × Nat)} {D : tk_Sm} (X : tk_X κ ν) {ρ : tk_L} {μ : tk_M} {Qn : tk_L → tk_M → Prop} {Qr : Int → tk_M → Prop} (hr : tk_rs Γ ρ) (kn : ∀ ρ' μ', Qn ρ' μ' → tk_rs Γ' ρ' → tk_G κ ν Γ' ρ' L μ' []) (kr : tk_Rt κ ν t Qr) (hD : tk_St ν t Γ Γ' D pd L) :
    ∀ (Ss : List tk_Sm) (ps : List Nat) (lo v : Int), tk_swo ν t Γ Γ' L Ss ps → tk_swc lo D Ss v Qn Qr ρ μ → (∃ (k p : Nat), ps[k]? = some p ∧ v = lo + (k : Int) ∧ tk_G κ ν Γ ρ p μ []) ∨ ((v < lo ∨ lo + (ps.length : Int) ≤ v) ∧ tk_G κ ν Γ ρ pd μ [])
  | [], [], lo, v, _, h => Or.inr ⟨by simp; omega, hD κ X ρ μ Qn Qr hr h kn kr⟩
  | [], _ :: _, _, _, h, _ => h.elim
  | _ :: _, [], _, _, h, _ => h.elim
  | S :: Ss, p :: ps, lo, v, ho, h => by
    simp only [tk_swc] at h
    by_cases hv : v = lo
    · rw [if_pos hv] at h
      exact Or.inl ⟨0, p, rfl, by simp [hv], ho.1 κ X ρ μ Qn Qr hr h kn kr⟩
    · rw [if_neg hv] at h
      rcases tk_swl X hr kn kr hD Ss ps (lo + 1) v ho.2 h with ⟨k, q, h1, h2, h3⟩ | ⟨h1, h2⟩
      · exact Or.inl ⟨k + 1, q, h1, by rw [h2]; push_cast; omega, h3⟩
      · exact Or.inr ⟨by rw [List.length_cons]; push_cast; omega, h2⟩
theorem tk_ok_sw {ν : tk_N} {t pc p1 pd L len : Nat} {Γ Γ' : List (Nat × Nat)} {e : tk_Ex} {lo hi doff : Int} {offs : Array Int} {Ss : List tk_Sm} {D : tk_Sm} (ps : List Nat) (he : tk_E ν Γ 0 e 0 pc p1) (hd : decode ν.1 p1 = .ok (.tableswitch doff lo hi offs, len)) (hps : offs.toList.map (fun z => (p1 : Int) + z) = ps.map (fun (n : Nat) => (n : Int))) (hpd : (p1 : Int) + doff = (pd : Int)) (hhi : lo + (ps.length : Int) = hi + 1) (ho : tk_swo ν t Γ Γ' L Ss ps) (hD : tk_St ν t Γ Γ' D pd L) : tk_St ν t Γ Γ' (tk_sw e lo Ss D) pc L := by
  intro κ X ρ μ Qn Qr hr h kn kr
  refine he κ X [] (Nat.le_refl 0) ρ μ _ hr h (fun v μ1 h1 hv H ls locs hP hS hl => ?_)
  rcases tk_swl X hr kn kr hD Ss ps lo v ho h1 with ⟨k, p, g1, g2, g3⟩ | ⟨g1, g2⟩
  · have hk : k < ps.length := (List.getElem?_eq_some_iff.mp g1).1
    have e1 : (offs.toList.map (fun z => (p1 : Int) + z))[k]? = some (p : Int) := by rw [hps, List.getElem?_map, g1]; rfl
    rw [List.getElem?_map] at e1
    cases ho' : offs.toList[k]? with
    | none => rw [ho'] at e1; cases e1
    | some z =>
      rw [ho'] at e1
      refine lv_tableIn X.1 X.2.1 (off := z) (tgt := p) hd (by rw [tk_ofI hv]; omega) (by rw [tk_ofI hv]; omega) ?_ (Option.some.inj e1) (g3 H ls locs hP hS hl)
      rw [tk_ofI hv, show (v - lo).toNat = k by omega, ← Array.getElem?_toList]
      exact ho'
  · exact lv_tableOut X.1 X.2.1 (tgt := pd) hd (by rw [tk_ofI hv]; omega) hpd (g2 H ls locs hP hS hl)
theorem tk_ok_re {ν : tk_N} {t pc p1 L : Nat} {Γ Γ' : List (Nat × Nat)} {e : tk_Ex} (ht : t = 0 ∨ t = 1) (he : tk_E ν Γ 0 e t pc p1) (hd : decode ν.1 p1 = .ok (tk_ri t, 1)) : tk_St ν t Γ Γ' (tk_re e) pc L := by
  intro κ X ρ μ Qn Qr hr h kn kr
  refine he κ X [] (Nat.le_refl 0) ρ μ _ hr h (fun v μ1 h1 hv H ls locs hP hS hl => ?_)
  rcases ht with rfl | rfl
  · exact kr v μ1 H ls locs p1 h1 hv hP hS hd
  · exact kr v μ1 H ls locs p1 h1 hv hP hS hd
theorem tk_ok_rez {ν : tk_N} {pc p1 L : Nat} {Γ Γ' : List (Nat × Nat)} {e : tk_Ex} (he : tk_E ν Γ 0 e 0 pc p1) (hd : decode ν.1 p1 = .ok (.ireturn, 1)) : tk_St ν 4 Γ Γ' (tk_rez e) pc L := by
  intro κ X ρ μ Qn Qr hr h kn kr
  refine he κ X [] (Nat.le_refl 0) ρ μ _ hr h (fun v μ1 h1 hv H ls locs hP hS hl => ?_)
  exact kr v μ1 H ls locs p1 h1.2 h1.1 hP hS hd
theorem tk_ok_rev {ν : tk_N} {pc L : Nat} {Γ Γ' : List (Nat × Nat)} (hd : decode ν.1 pc = .ok (.return_, 1)) : tk_St ν 9 Γ Γ' tk_rev pc L := by
  intro κ X ρ μ Qn Qr hr h kn kr H ls locs hP hS hl
  exact kr 0 μ H ls locs pc h trivial hP hS hd
/-- an answer that nobody wants -/
theorem tk_ok_xs {ν : tk_N} {t pc p1 : Nat} {Γ : List (Nat × Nat)} {e : tk_Ex} (he : tk_E ν Γ 0 e 0 pc p1) (hd : decode ν.1 p1 = .ok (.pop, 1)) : tk_St ν t Γ Γ (tk_xp e) pc (p1 + 1) := by
  intro κ X ρ μ Qn Qr hr h kn kr
  exact he κ X [] (Nat.le_refl 0) ρ μ _ hr h (fun v μ1 h1 hv H ls locs hP hS hl => lv_pop X.1 X.2.1 hd rfl (kn ρ μ1 h1 hr H ls locs hP hS hl))
abbrev tk_sb (k t : Nat) (Γ Γ' : List (Nat × Nat)) : Prop := ∀ q ∈ Γ', q = (k, t) ∨ (q ∈ Γ ∧ q.1 ≠ k ∧ ¬ (q.1 + 1 = k ∧ q.2 = 1) ∧ (t = 1 → q.1 ≠ k + 1))
theorem tk_sb_r {k t : Nat} {Γ Γ' : List (Nat × Nat)} {ρ : tk_L} {x : Int} (h : tk_sb k t Γ Γ') (hr : tk_rs Γ ρ) (hx : tk_r t x) : tk_rs Γ' (tk_up ρ k x) := by
  intro q hq
  rcases h q hq with rfl | ⟨h1, h2, -⟩
  · simpa [tk_up] using hx
  · simp only [tk_up, if_neg h2]
    exact hr q h1
theorem tk_sb_1 {ω : tk_O} {k t nL : Nat} {Γ Γ' : List (Nat × Nat)} {ρ : tk_L} {x : Int} {v : Value} {ls : Array Slot} (h : tk_sb k t Γ Γ') (hv : tk_v ω t x = v) (hl : lv_has ls nL ((k, v) :: (tk_lv ω Γ ρ).filter (fun q => !(q.1 == k) && !(q.1 + 1 == k && q.2.category == 2)))) : lv_has ls nL (tk_lv ω Γ' (tk_up ρ k x)) := by
  refine ⟨hl.1, hl.2.1, fun q hq => ?_⟩
  obtain ⟨q0, h0, rfl⟩ := List.mem_map.mp hq
  rcases h q0 h0 with rfl | ⟨h1, h2, h3, -⟩
  · have := hl.2.2 (k, v) List.mem_cons_self
    simpa [tk_up, hv] using this
  · simp only [tk_up, if_neg h2]
    refine hl.2.2 (q0.1, tk_v ω q0.2 (ρ q0.1)) (List.mem_cons_of_mem _ (List.mem_filter.mpr ⟨List.mem_map.mpr ⟨q0, h1, rfl⟩, ?_⟩))
    have h4 : (tk_v ω q0.2 (ρ q0.1)).category = 2 → q0.2 = 1 := by
      rw [tk_cat]; intro z; by_cases hz : q0.2 = 1
      · exact hz
      · rw [if_neg hz] at z; omega
    by_cases h5 : q0.1 + 1 = k
    · have h6 : ¬ (tk_v ω q0.2 (ρ q0.1)).category = 2 := fun z => h3 ⟨h5, h4 z⟩
      simp [h2, h6]
    · simp [h2, h5]
theorem tk_sb_2 {ω : tk_O} {k nL : Nat} {Γ Γ' : List (Nat × Nat)} {ρ : tk_L} {x : Int} {v : Value} {ls : Array Slot} (h : tk_sb k 1 Γ Γ') (hv : tk_v ω 1 x = v) (hl : lv_has ls nL ((k, v) :: (tk_lv ω Γ ρ).filter (fun q => !(q.1 == k) && (!(q.1 == k + 1) && !(q.1 + 1 == k && q.2.category == 2))))) : lv_has ls nL (tk_lv ω Γ' (tk_up ρ k x)) := by
  refine ⟨hl.1, hl.2.1, fun q hq => ?_⟩
  obtain ⟨q0, h0, rfl⟩ := List.mem_map.mp hq
  rcases h q0 h0 with rfl | ⟨h1, h2, h3, h7⟩
  · have := hl.2.2 (k, v) List.mem_cons_self
    simpa [tk_up, hv] using this
  · simp only [tk_up, if_neg h2]
    refine hl.2.2 (q0.1, tk_v ω q0.2 (ρ q0.1)) (List.mem_cons_of_mem _ (List.mem_filter.mpr ⟨List.mem_map.mpr ⟨q0, h1, rfl⟩, ?_⟩))
    have h4 : (tk_v ω q0.2 (ρ q0.1)).category = 2 → q0.2 = 1 := by
      rw [tk_cat]; intro z; by_cases hz : q0.2 = 1
      · exact hz
      · rw [if_neg hz] at z; omega
    have h8 := h7 rfl
    by_cases h5 : q0.1 + 1 = k
    · have h6 : ¬ (tk_v ω q0.2 (ρ q0.1)).category = 2 := fun z => h3 ⟨h5, h4 z⟩
      simp [h2, h6, h8]
    · simp [h2, h5, h8]
theorem tk_ok_istore {ν : tk_N} {t pc p1 : Nat} {Γ Γ' : List (Nat × Nat)} {e : tk_Ex} (k : Nat) (he : tk_E ν Γ 0 e 0 pc p1) (hd : decode ν.1 p1 = .ok (.istore k, 2)) (hn : k < ν.2.2.1) (hs : tk_sb k 0 Γ Γ') : tk_St ν t Γ Γ' (tk_se k e) pc (p1 + 2) := by
  intro κ X ρ μ Qn Qr hr h kn kr
  refine he κ X [] (Nat.le_refl 0) ρ μ _ hr h (fun v μ1 h1 hv H ls locs hP hS hl => ?_)
  exact lv_istore X.1 X.2.1 hd hl hn rfl (fun ls' hl' => kn _ μ1 h1 (tk_sb_r hs hr hv) H ls' locs hP hS (tk_sb_1 hs rfl hl'))
theorem tk_ok_istore_n {ν : tk_N} {t pc p1 : Nat} {Γ Γ' : List (Nat × Nat)} {e : tk_Ex} (i : Fin 4) (k : Nat) (he : tk_E ν Γ 0 e 0 pc p1) (hd : decode ν.1 p1 = .ok (.istore_n i, 1)) (hi : (i : Nat) = k) (hn : k < ν.2.2.1) (hs : tk_sb k 0 Γ Γ') : tk_St ν t Γ Γ' (tk_se k e) pc (p1 + 1) := by
  intro κ X ρ μ Qn Qr hr h kn kr
  refine he κ X [] (Nat.le_refl 0) ρ μ _ hr h (fun v μ1 h1 hv H ls locs hP hS hl => ?_)
  exact lv_istore_n X.1 X.2.1 hd hi hl hn rfl (fun ls' hl' => kn _ μ1 h1 (tk_sb_r hs hr hv) H ls' locs hP hS (tk_sb_1 hs rfl hl'))
theorem tk_ok_lstore {ν : tk_N} {t pc p1 : Nat} {Γ Γ' : List (Nat × Nat)} {e : tk_Ex} (k : Nat) (he : tk_E ν Γ 0 e 1 pc p1) (hd : decode ν.1 p1 = .ok (.lstore k, 2)) (hn : k + 1 < ν.2.2.1) (hs : tk_sb k 1 Γ Γ') : tk_St ν t Γ Γ' (tk_se k e) pc (p1 + 2) := by
  intro κ X ρ μ Qn Qr hr h kn kr
  refine he κ X [] (Nat.le_refl 0) ρ μ _ hr h (fun v μ1 h1 hv H ls locs hP hS hl => ?_)
  exact lv_lstore X.1 X.2.1 hd hl hn rfl (fun ls' hl' => kn _ μ1 h1 (tk_sb_r hs hr hv) H ls' locs hP hS (tk_sb_2 hs rfl hl'))
theorem tk_ok_lstore_n {ν : tk_N} {t pc p1 : Nat} {Γ Γ' : List (Nat × Nat)} {e : tk_Ex} (i : Fin 4) (k : Nat) (he : tk_E ν Γ 0 e 1 pc p1) (hd : decode ν.1 p1 = .ok (.lstore_n i, 1)) (hi : (i : Nat) = k) (hn : k + 1 < ν.2.2.1) (hs : tk_sb k 1 Γ Γ') : tk_St ν t Γ Γ' (tk_se k e) pc (p1 + 1) := by
  intro κ X ρ μ Qn Qr hr h kn kr
  refine he κ X [] (Nat.le_refl 0) ρ μ _ hr h (fun v μ1 h1 hv H ls locs hP hS hl => ?_)
  exact lv_lstore_n X.1 X.2.1 hd hi hl hn rfl (fun ls' hl' => kn _ μ1 h1 (tk_sb_r hs hr hv) H ls' locs hP hS (tk_sb_2 hs rfl hl'))
theorem tk_ok_astore {ν : tk_N} {t pc p1 : Nat} {Γ Γ' : List (Nat × Nat)} {e : tk_Ex} (k : Nat) (he : tk_E ν Γ 0 e 2 pc p1) (hd : decode ν.1 p1 = .ok (.astore k, 2)) (hn : k < ν.2.2.1) (hs : tk_sb k 2 Γ Γ') : tk_St ν t Γ Γ' (tk_se k e) pc (p1 + 2) := by
  intro κ X ρ μ Qn Qr hr h kn kr
  refine he κ X [] (Nat.le_refl 0) ρ μ _ hr h (fun v μ1 h1 hv H ls locs hP hS hl => ?_)
  rw [tk_v2 hv]
  exact lv_astore X.1 X.2.1 hd hl hn rfl (fun ls' hl' => kn _ μ1 h1 (tk_sb_r hs hr hv) H ls' locs hP hS (tk_sb_1 hs (tk_v2 hv) hl'))
theorem tk_ok_astore_n {ν : tk_N} {t pc p1 : Nat} {Γ Γ' : List (Nat × Nat)} {e : tk_Ex} (i : Fin 4) (k : Nat) (he : tk_E ν Γ 0 e 2 pc p1) (hd : decode ν.1 p1 = .ok (.astore_n i, 1)) (hi : (i : Nat) = k) (hn : k < ν.2.2.1) (hs : tk_sb k 2 Γ Γ') : tk_St ν t Γ Γ' (tk_se k e) pc (p1 + 1) := by
  intro κ X ρ μ Qn Qr hr h kn kr
  refine he κ X [] (Nat.le_refl 0) ρ μ _ hr h (fun v μ1 h1 hv H ls locs hP hS hl => ?_)
  rw [tk_v2 hv]
  exact lv_astore_n X.1 X.2.1 hd hi hl hn rfl (fun ls' hl' => kn _ μ1 h1 (tk_sb_r hs hr hv) H ls' locs hP hS (tk_sb_1 hs (tk_v2 hv) hl'))
theorem tk_ok_iinc {ν : tk_N} {t pc : Nat} {Γ : List (Nat × Nat)} (k : Nat) (n : Int) (hd : decode ν.1 pc = .ok (.iinc k n, 3)) (hk : (k, 0) ∈ Γ) (hn : k < ν.2.2.1) (hs : tk_sb k 0 Γ Γ) : tk_St ν t Γ Γ (tk_se k (tk_bin tk_iadd (tk_loc k) (tk_lit n))) pc (pc + 3) := by
  intro κ X ρ μ Qn Qr hr h kn kr H ls locs hP hS hl
  obtain ⟨i, hi⟩ := List.getElem?_of_mem (l := tk_lv (tk_ω κ) Γ ρ) (List.mem_map.mpr ⟨(k, 0), hk, rfl⟩)
  have e1 : Int32.ofInt (ρ k) + Int32.ofInt n = Int32.ofInt (tk_iadd (ρ k) n) := by rw [tk_iadd, tk_toI]
  exact lv_iinc X.1 X.2.1 hd hl (k := i) hi e1 hn rfl (fun ls' hl' => kn _ μ h (tk_sb_r hs hr (tk_r0 _)) H ls' locs hP hS (tk_sb_1 hs rfl hl'))
theorem tk_set_ne {μ : tk_M} {x j v : Int} {o : Nat} (h0 : 0 ≤ x) (h : o ≠ x.toNat) (i : Int) : tk_set μ x j v o i = μ o i := by
  unfold tk_set
  rw [if_neg (by omega)]
/-- a field is put -/
theorem tk_put {κ : tk_K} {ν : tk_N} {H : Heap} {locs : List Loc} {ls : Array Slot} {pc : Nat} {st : List Value} {μ : tk_M} {ci j ix N : Nat} {C : String} {T : u_T} {ty : Nat → FieldType} {tc : Int} {x v : Int} {w : Value} (X : tk_X κ ν) (hP : tk_P (tk_ω κ) μ H) (hS : va_S (tk_A (tk_ω κ)) (tk_s κ).heap H locs) (hC : tk_Cl ci C T N ty) (hj : j < N) (hl : tk_lk ν.2.1 ix T j) (ht : (tk_ct ci)[j]? = some tc) (hx : tk_isC ci x) (hfin : (T j).2.2.2 = false) (hn : narrow (ty j) w = w) (hfit : fits (ty j) w = true) (hw : tk_fv (tk_ω κ) (tk_set μ x j v) x.toNat j tc = w) (hv : tk_fr tc v) (hd : decode ν.1 pc = .ok (.putfield ix, 3))
    (kk : ∀ (H1 : Heap) (locs1 : List Loc), tk_P (tk_ω κ) (tk_set μ x j v) H1 → va_S (tk_A (tk_ω κ)) (tk_s κ).heap H1 locs1 → tk_W κ ν H1 locs1 (pc + 3) ls st) : tk_W κ ν H locs pc ls (w :: tk_v (tk_ω κ) 2 x :: st) := by
  obtain ⟨h0, hlay⟩ := tk_isC_lay hx
  have he := tk_ws_at (ω := tk_ω κ) (μ := μ) hlay
  have hln : ((tk_ct ci).mapIdx (fun i t => tk_fv (tk_ω κ) μ x.toNat i t)).length = N := by rw [List.length_mapIdx]; exact hC.2.2.2.2
  have hset : (tk_ct ci).mapIdx (fun i t => tk_fv (tk_ω κ) (tk_set μ x j v) x.toNat i t) = ((tk_ct ci).mapIdx (fun i t => tk_fv (tk_ω κ) μ x.toNat i t)).set j w := by
    apply List.ext_getElem?
    intro i
    by_cases hi : i = j
    · subst hi
      rw [List.getElem?_set_self (by rw [hln]; exact hj), List.getElem?_mapIdx, ht, ← hw]
      rfl
    · rw [List.getElem?_set_ne (Ne.symm hi), List.getElem?_mapIdx, List.getElem?_mapIdx]
      have e1 : tk_set μ x j v (x.toNat : Int) (i : Int) = μ (x.toNat : Int) (i : Int) := by
        unfold tk_set
        rw [if_neg (by omega)]
      cases (tk_ct ci)[i]? with
      | none => rfl
      | some t' => simp only [Option.map_some, tk_fv, e1]
  have key : ∀ (H1 : Heap) (locs1 : List Loc), va_P (tk_D (tk_ω κ)) vwCl ((tk_ws (tk_ω κ) μ).set x.toNat (tk_bs (tk_ω κ) + x.toNat, .inr (ci, ((tk_ct ci).mapIdx (fun i t => tk_fv (tk_ω κ) μ x.toNat i t)).set j w))) H1 → va_D (tk_A (tk_ω κ)) ((tk_ws (tk_ω κ) μ).set x.toNat (tk_bs (tk_ω κ) + x.toNat, .inr (ci, ((tk_ct ci).mapIdx (fun i t => tk_fv (tk_ω κ) μ x.toNat i t)).set j w))) → va_S (tk_A (tk_ω κ)) (tk_s κ).heap H1 locs1 → tk_W κ ν H1 locs1 (pc + 3) ls st := by
    intro H1 locs1 g1 _ g3
    rw [← hset, tk_ws_put (ω := tk_ω κ) (μ := μ) (μ' := tk_set μ x j v) (e := .inr (ci, (tk_ct ci).mapIdx (fun i t => tk_fv (tk_ω κ) (tk_set μ x j v) x.toNat i t))) hlay rfl (fun o' ho' i => tk_set_ne h0 ho' i)] at g1
    refine kk H1 locs1 ⟨g1, tk_in_put hP.2 hlay (fun i t' hi => ?_) (fun o' ho' i => tk_set_ne h0 ho' i)⟩ g3
    by_cases hij : i = j
    · subst hij
      rw [ht] at hi
      cases hi
      simp only [tk_set, tk_nat h0, and_self, if_true]
      exact hv
    · have e1 : tk_set μ x j v (x.toNat : Int) (i : Int) = μ (x.toNat : Int) (i : Int) := by
        unfold tk_set
        rw [if_neg (by omega)]
      rw [e1]
      exact hP.2 _ _ hlay i t' hi
  rw [tk_v2 h0]
  rcases hl with hl | hl
  · exact va_put X.1 X.2.1 X.2.2.2.2.1 hC.2.1 ty hC.2.2.1 hC.2.2.2.1 X.2.2.2.1 X.2.2.2.2.2.1.1 hP.1 tk_wD hS x.toNat he hC.1 j hj (X.2.2.2.2.1 _ hl) (fun _ h => h) hfin (hC.2.2.1 j hj) hn hfit (by rw [hln]; exact hj) hd key
  · exact va_putN X.1 X.2.1 X.2.2.2.2.1 hC.2.1 ty hC.2.2.1 hC.2.2.2.1 X.2.2.2.1 X.2.2.2.2.2.1.1 hP.1 tk_wD hS x.toNat he hC.1 j hj (tk_Xn X hl) (fun _ h => h) hfin (hC.2.2.1 j hj) hn hfit (by rw [hln]; exact hj) hd key
theorem tk_ok_pi {ν : tk_N} {t pc p1 p2 : Nat} {Γ : List (Nat × Nat)} {a e : tk_Ex} {ci j ix N : Nat} {C : String} {T : u_T} {ty : Nat → FieldType} (ha : tk_E ν Γ 0 a 2 pc p1) (he : tk_E ν Γ 1 e 0 p1 p2) (hC : tk_Cl ci C T N ty) (hd : decode ν.1 p2 = .ok (.putfield ix, 3)) (hj : j < N) (hl : tk_lk ν.2.1 ix T j) (ht : (tk_ct ci)[j]? = some 0) (hfin : (T j).2.2.2 = false) (hty : ty j = .int) : tk_St ν t Γ Γ (tk_pf ci j a e) pc (p2 + 3) := by
  intro κ X ρ μ Qn Qr hr h kn kr
  refine ha κ X [] (Nat.le_refl 0) ρ μ _ hr h (fun x μ1 h1 hx => ?_)
  refine he κ X _ (tk_sum2 (st := []) (Nat.le_refl 0)) ρ μ1 _ hr h1 (fun v μ2 h2 hv H ls locs hP hS hl' => ?_)
  exact tk_put X hP hS hC hj hl ht h2.1 hfin (by rw [hty]; rfl) (by rw [hty]; rfl) (by have h0 := (tk_isC_lay h2.1).1; simp [tk_fv, tk_set, tk_nat h0, tk_v]) (by simpa [tk_fr] using hv) hd (fun H1 locs1 hP1 hS1 => kn ρ _ h2.2 hr H1 ls locs1 hP1 hS1 hl')
theorem tk_ok_pl {ν : tk_N} {t pc p1 p2 : Nat} {Γ : List (Nat × Nat)} {a e : tk_Ex} {ci j ix N : Nat} {C : String} {T : u_T} {ty : Nat → FieldType} (ha : tk_E ν Γ 0 a 2 pc p1) (he : tk_E ν Γ 1 e 1 p1 p2) (hC : tk_Cl ci C T N ty) (hd : decode ν.1 p2 = .ok (.putfield ix, 3)) (hj : j < N) (hl : tk_lk ν.2.1 ix T j) (ht : (tk_ct ci)[j]? = some 1) (hfin : (T j).2.2.2 = false) (hty : ty j = .long) : tk_St ν t Γ Γ (tk_pf ci j a e) pc (p2 + 3) := by
  intro κ X ρ μ Qn Qr hr h kn kr
  refine ha κ X [] (Nat.le_refl 0) ρ μ _ hr h (fun x μ1 h1 hx => ?_)
  refine he κ X _ (tk_sum2 (st := []) (Nat.le_refl 0)) ρ μ1 _ hr h1 (fun v μ2 h2 hv H ls locs hP hS hl' => ?_)
  exact tk_put X hP hS hC hj hl ht h2.1 hfin (by rw [hty]; rfl) (by rw [hty]; rfl) (by have h0 := (tk_isC_lay h2.1).1; simp [tk_fv, tk_set, tk_nat h0, tk_v]) (by simpa [tk_fr] using hv) hd (fun H1 locs1 hP1 hS1 => kn ρ _ h2.2 hr H1 ls locs1 hP1 hS1 hl')
theorem tk_ok_pz {ν : tk_N} {t pc p1 p2 : Nat} {Γ : List (Nat × Nat)} {a e : tk_Ex} {ci j ix N : Nat} {C : String} {T : u_T} {ty : Nat → FieldType} (ha : tk_E ν Γ 0 a 2 pc p1) (he : tk_E ν Γ 1 e 0 p1 p2) (hC : tk_Cl ci C T N ty) (hd : decode ν.1 p2 = .ok (.putfield ix, 3)) (hj : j < N) (hl : tk_lk ν.2.1 ix T j) (ht : (tk_ct ci)[j]? = some 4) (hfin : (T j).2.2.2 = false) (hty : ty j = .boolean) : tk_St ν t Γ Γ (tk_pfz ci j a e) pc (p2 + 3) := by
  intro κ X ρ μ Qn Qr hr h kn kr
  refine ha κ X [] (Nat.le_refl 0) ρ μ _ hr h (fun x μ1 h1 hx => ?_)
  refine he κ X _ (tk_sum2 (st := []) (Nat.le_refl 0)) ρ μ1 _ hr h1 (fun v μ2 h2 hv H ls locs hP hS hl' => ?_)
  exact tk_put X hP hS hC hj hl ht h2.1 hfin (by rw [hty]; rcases h2.2.1 with rfl | rfl <;> rfl) (by rw [hty]; rcases h2.2.1 with rfl | rfl <;> rfl) (by have h0 := (tk_isC_lay h2.1).1; simp [tk_fv, tk_set, tk_nat h0, tk_v]) (by simp [tk_fr]; omega) hd (fun H1 locs1 hP1 hS1 => kn ρ _ h2.2.2 hr H1 ls locs1 hP1 hS1 hl')
theorem tk_ok_pr {ν : tk_N} {t pc p1 p2 : Nat} {Γ : List (Nat × Nat)} {a e : tk_Ex} {ci j ix N : Nat} {C : String} {T : u_T} {ty : Nat → FieldType} {n : FieldType} (ha : tk_E ν Γ 0 a 2 pc p1) (he : tk_E ν Γ 1 e 2 p1 p2) (hC : tk_Cl ci C T N ty) (hd : decode ν.1 p2 = .ok (.putfield ix, 3)) (hj : j < N) (hl : tk_lk ν.2.1 ix T j) (ht : (tk_ct ci)[j]? = some 2) (hfin : (T j).2.2.2 = false) (hty : ty j = .array n) : tk_St ν t Γ Γ (tk_pf ci j a e) pc (p2 + 3) := by
  intro κ X ρ μ Qn Qr hr h kn kr
  refine ha κ X [] (Nat.le_refl 0) ρ μ _ hr h (fun x μ1 h1 hx => ?_)
  refine he κ X _ (tk_sum2 (st := []) (Nat.le_refl 0)) ρ μ1 _ hr h1 (fun v μ2 h2 hv H ls locs hP hS hl' => ?_)
  exact tk_put X hP hS hC hj hl ht h2.1 hfin (by rw [hty, tk_v2 hv]; rfl) (by rw [hty, tk_v2 hv]; rfl) (by have h0 := (tk_isC_lay h2.1).1; simp [tk_fv, tk_set, tk_nat h0]) (by simp [tk_fr]) hd (fun H1 locs1 hP1 hS1 => kn ρ _ h2.2 hr H1 ls locs1 hP1 hS1 hl')
