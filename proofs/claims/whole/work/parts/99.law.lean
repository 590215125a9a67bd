/-! ===== Layer 2: THE LAW ===== -/
/-- an int of the script -/
def tk_sqv (q : Nat × (Nat → Int32)) (i : Int) : Int := (q.2 i.toNat).toInt
theorem tk_sca_v (q : Nat × (Nat → Int32)) (a : tk_Ex) : tk_sca q a = fun Q ρ μ => a (fun i μ1 => (0 ≤ i ∧ i < (q.1 : Int)) ∧ Q (tk_sqv q i) μ1) ρ μ := rfl
theorem tk_sqv_r (q : Nat × (Nat → Int32)) (i : Int) : tk_r 0 (tk_sqv q i) := by
  have h1 := Int32.le_toInt (q.2 i.toNat)
  have h2 := Int32.toInt_lt (q.2 i.toNat)
  unfold tk_sqv
  exact ⟨by omega, by omega⟩
/-- an expression that only has a value -/
def tk_pv (e : tk_Ex) (ρ : tk_L) (v : Int) : Prop := ∀ (Q : Int → tk_M → Prop) (μ : tk_M), e Q ρ μ = Q v μ
def tk_pvs (es : List tk_Ex) (ρ : tk_L) (vs : List Int) : Prop := ∀ (Q : List Int → tk_M → Prop) (μ : tk_M), tk_args es Q ρ μ = Q vs μ
theorem tk_pv_l {ρ : tk_L} {k : Nat} {v : Int} (h : ρ k = v) : tk_pv (tk_loc k) ρ v := fun Q μ => by
  subst h
  rfl
theorem tk_pv_s {q : Nat × (Nat → Int32)} {ρ : tk_L} {i j : Int} (hq : q.1 ≤ 3072) (h3 : ρ 3 = i) (hi : 0 ≤ i ∧ i + 6 ≤ (q.1 : Int)) (hj : 1 ≤ j ∧ j ≤ 5) : tk_pv (tk_sca q (tk_bin tk_iadd (tk_loc 3) (tk_lit j))) ρ (tk_sqv q (i + j)) := fun Q μ => by
  have l : tk_iadd (ρ 3) j = i + j := by rw [h3]; exact tk_iadd_id (by omega) (by omega)
  show ((0 ≤ tk_iadd (ρ 3) j ∧ tk_iadd (ρ 3) j < (q.1 : Int)) ∧ Q (tk_sqv q (tk_iadd (ρ 3) j)) μ) = _
  rw [l]
  exact propext ⟨And.right, fun h => ⟨⟨by omega, by omega⟩, h⟩⟩
theorem tk_pv_b {f : Int → Int → Int} {a b : tk_Ex} {ρ : tk_L} {x y : Int} (ha : tk_pv a ρ x) (hb : tk_pv b ρ y) : tk_pv (tk_bin f a b) ρ (f x y) := fun Q μ => by
  show a (fun x μ1 => b (fun y μ2 => Q (f x y) μ2) ρ μ1) ρ μ = _
  rw [ha, hb]
theorem tk_pv_c {ρ : tk_L} {v : Int} : tk_pv (tk_lit v) ρ v := fun _ _ => rfl
theorem tk_pvs_n {ρ : tk_L} : tk_pvs [] ρ [] := fun _ _ => rfl
theorem tk_pvs_c {e : tk_Ex} {es : List tk_Ex} {ρ : tk_L} {v : Int} {vs : List Int} (h : tk_pv e ρ v) (hs : tk_pvs es ρ vs) : tk_pvs (e :: es) ρ (v :: vs) := fun Q μ => by
  show e (fun x μ1 => tk_args es (fun ys μ2 => Q (x :: ys) μ2) ρ μ1) ρ μ = _
  rw [h, hs]
theorem tk_lawg {F G : tk_F} {es es' : List tk_Ex} {as : List Int} {Qn : tk_L → tk_M → Prop} {Qr : Int → tk_M → Prop} {ρ : tk_L} {μ : tk_M} (hp : tk_pvs es ρ (0 :: as)) (hp' : tk_pvs es' ρ (96 :: as)) (hR : tk_R μ) (hQ : ∀ μ', tk_R μ' → Qn ρ μ') (hcp : tk_cp F G as) : (tk_if (tk_cne (tk_cv 6 F es) (tk_cv 7 G es')) (tk_rez (tk_lit (0))) tk_sk) Qn Qr ρ μ := by
  have h := hcp μ hR (fun r r' μ2 => if ¬ r = r' then ((0 : Int) = 0 ∨ (0 : Int) = 1) ∧ Qr 0 μ2 else Qn ρ μ2) (fun r μ' h => by rw [if_neg (not_not_intro rfl)]; exact hQ μ' h)
  show tk_args es (fun vs μ1 => tk_isC 6 (vs.headD 0) ∧ F vs (fun x μ1 => tk_args es' (fun vs μ2 => tk_isC 7 (vs.headD 0) ∧ G vs (fun y μ3 => if ¬ x = y then ((0 : Int) = 0 ∨ (0 : Int) = 1) ∧ Qr 0 μ3 else Qn ρ μ3) μ2) ρ μ1) μ1) ρ μ
  rw [hp]
  refine ⟨rfl, ?_⟩
  have e : (fun (x : Int) (μ1 : tk_M) => tk_args es' (fun vs μ2 => tk_isC 7 (vs.headD 0) ∧ G vs (fun y μ3 => if ¬ x = y then ((0 : Int) = 0 ∨ (0 : Int) = 1) ∧ Qr 0 μ3 else Qn ρ μ3) μ2) ρ μ1) = fun x μ1 => G (96 :: as) (fun y μ3 => if ¬ x = y then ((0 : Int) = 0 ∨ (0 : Int) = 1) ∧ Qr 0 μ3 else Qn ρ μ3) μ1 := by
    funext x μ1
    rw [hp']
    exact propext ⟨And.right, fun h => ⟨rfl, h⟩⟩
  rw [e]
  exact h
theorem tk_law_0 {q : Nat × (Nat → Int32)} {i : Int} {Qn : tk_L → tk_M → Prop} {Qr : Int → tk_M → Prop} {ρ : tk_L} {μ : tk_M} (hq : q.1 ≤ 3072) (h1 : ρ 1 = 0) (h2 : ρ 2 = 96) (h3 : ρ 3 = i) (hi : 0 ≤ i ∧ i + 6 ≤ (q.1 : Int)) (hR : tk_R μ) (hQ : ∀ μ', tk_R μ' → Qn ρ μ') : tkS_law_0 q Qn Qr ρ μ := by
  unfold tkS_law_0
  exact tk_lawg (tk_pvs_c (tk_pv_l h1) tk_pvs_n) (tk_pvs_c (tk_pv_l h2) tk_pvs_n) hR hQ (c_currency)
theorem tk_law_1 {q : Nat × (Nat → Int32)} {i : Int} {Qn : tk_L → tk_M → Prop} {Qr : Int → tk_M → Prop} {ρ : tk_L} {μ : tk_M} (hq : q.1 ≤ 3072) (h1 : ρ 1 = 0) (h2 : ρ 2 = 96) (h3 : ρ 3 = i) (hi : 0 ≤ i ∧ i + 6 ≤ (q.1 : Int)) (hR : tk_R μ) (hQ : ∀ μ', tk_R μ' → Qn ρ μ') : tkS_law_1 q Qn Qr ρ μ := by
  unfold tkS_law_1
  exact tk_lawg (tk_pvs_c (tk_pv_l h1) (tk_pvs_c (tk_pv_s hq h3 hi (by omega)) (tk_pvs_c (tk_pv_s hq h3 hi (by omega)) tk_pvs_n))) (tk_pvs_c (tk_pv_l h2) (tk_pvs_c (tk_pv_s hq h3 hi (by omega)) (tk_pvs_c (tk_pv_s hq h3 hi (by omega)) tk_pvs_n))) hR hQ (c_ticket _ _)
theorem tk_law_2 {q : Nat × (Nat → Int32)} {i : Int} {Qn : tk_L → tk_M → Prop} {Qr : Int → tk_M → Prop} {ρ : tk_L} {μ : tk_M} (hq : q.1 ≤ 3072) (h1 : ρ 1 = 0) (h2 : ρ 2 = 96) (h3 : ρ 3 = i) (hi : 0 ≤ i ∧ i + 6 ≤ (q.1 : Int)) (hR : tk_R μ) (hQ : ∀ μ', tk_R μ' → Qn ρ μ') : tkS_law_2 q Qn Qr ρ μ := by
  unfold tkS_law_2
  exact tk_lawg (tk_pvs_c (tk_pv_l h1) (tk_pvs_c (tk_pv_s hq h3 hi (by omega)) (tk_pvs_c (tk_pv_s hq h3 hi (by omega)) tk_pvs_n))) (tk_pvs_c (tk_pv_l h2) (tk_pvs_c (tk_pv_s hq h3 hi (by omega)) (tk_pvs_c (tk_pv_s hq h3 hi (by omega)) tk_pvs_n))) hR hQ (c_client _ _)
theorem tk_law_3 {q : Nat × (Nat → Int32)} {i : Int} {Qn : tk_L → tk_M → Prop} {Qr : Int → tk_M → Prop} {ρ : tk_L} {μ : tk_M} (hq : q.1 ≤ 3072) (h1 : ρ 1 = 0) (h2 : ρ 2 = 96) (h3 : ρ 3 = i) (hi : 0 ≤ i ∧ i + 6 ≤ (q.1 : Int)) (hR : tk_R μ) (hQ : ∀ μ', tk_R μ' → Qn ρ μ') : tkS_law_3 q Qn Qr ρ μ := by
  unfold tkS_law_3
  exact tk_lawg (tk_pvs_c (tk_pv_l h1) (tk_pvs_c (tk_pv_s hq h3 hi (by omega)) (tk_pvs_c (tk_pv_s hq h3 hi (by omega)) tk_pvs_n))) (tk_pvs_c (tk_pv_l h2) (tk_pvs_c (tk_pv_s hq h3 hi (by omega)) (tk_pvs_c (tk_pv_s hq h3 hi (by omega)) tk_pvs_n))) hR hQ (c_amount _ _)
theorem tk_law_4 {q : Nat × (Nat → Int32)} {i : Int} {Qn : tk_L → tk_M → Prop} {Qr : Int → tk_M → Prop} {ρ : tk_L} {μ : tk_M} (hq : q.1 ≤ 3072) (h1 : ρ 1 = 0) (h2 : ρ 2 = 96) (h3 : ρ 3 = i) (hi : 0 ≤ i ∧ i + 6 ≤ (q.1 : Int)) (hR : tk_R μ) (hQ : ∀ μ', tk_R μ' → Qn ρ μ') : tkS_law_4 q Qn Qr ρ μ := by
  unfold tkS_law_4
  exact tk_lawg (tk_pvs_c (tk_pv_l h1) (tk_pvs_c (tk_pv_s hq h3 hi (by omega)) (tk_pvs_c (tk_pv_s hq h3 hi (by omega)) tk_pvs_n))) (tk_pvs_c (tk_pv_l h2) (tk_pvs_c (tk_pv_s hq h3 hi (by omega)) (tk_pvs_c (tk_pv_s hq h3 hi (by omega)) tk_pvs_n))) hR hQ (c_give _ _)
theorem tk_law_5 {q : Nat × (Nat → Int32)} {i : Int} {Qn : tk_L → tk_M → Prop} {Qr : Int → tk_M → Prop} {ρ : tk_L} {μ : tk_M} (hq : q.1 ≤ 3072) (h1 : ρ 1 = 0) (h2 : ρ 2 = 96) (h3 : ρ 3 = i) (hi : 0 ≤ i ∧ i + 6 ≤ (q.1 : Int)) (hR : tk_R μ) (hQ : ∀ μ', tk_R μ' → Qn ρ μ') : tkS_law_5 q Qn Qr ρ μ := by
  unfold tkS_law_5
  exact tk_lawg (tk_pvs_c (tk_pv_l h1) (tk_pvs_c (tk_pv_s hq h3 hi (by omega)) (tk_pvs_c (tk_pv_s hq h3 hi (by omega)) tk_pvs_n))) (tk_pvs_c (tk_pv_l h2) (tk_pvs_c (tk_pv_s hq h3 hi (by omega)) (tk_pvs_c (tk_pv_s hq h3 hi (by omega)) tk_pvs_n))) hR hQ (c_back _ _)
theorem tk_law_6 {q : Nat × (Nat → Int32)} {i : Int} {Qn : tk_L → tk_M → Prop} {Qr : Int → tk_M → Prop} {ρ : tk_L} {μ : tk_M} (hq : q.1 ≤ 3072) (h1 : ρ 1 = 0) (h2 : ρ 2 = 96) (h3 : ρ 3 = i) (hi : 0 ≤ i ∧ i + 6 ≤ (q.1 : Int)) (hR : tk_R μ) (hQ : ∀ μ', tk_R μ' → Qn ρ μ') : tkS_law_6 q Qn Qr ρ μ := by
  unfold tkS_law_6
  exact tk_lawg (tk_pvs_c (tk_pv_l h1) (tk_pvs_c (tk_pv_s hq h3 hi (by omega)) (tk_pvs_c (tk_pv_s hq h3 hi (by omega)) tk_pvs_n))) (tk_pvs_c (tk_pv_l h2) (tk_pvs_c (tk_pv_s hq h3 hi (by omega)) (tk_pvs_c (tk_pv_s hq h3 hi (by omega)) tk_pvs_n))) hR hQ (c_waits _ _)
theorem tk_law_7 {q : Nat × (Nat → Int32)} {i : Int} {Qn : tk_L → tk_M → Prop} {Qr : Int → tk_M → Prop} {ρ : tk_L} {μ : tk_M} (hq : q.1 ≤ 3072) (h1 : ρ 1 = 0) (h2 : ρ 2 = 96) (h3 : ρ 3 = i) (hi : 0 ≤ i ∧ i + 6 ≤ (q.1 : Int)) (hR : tk_R μ) (hQ : ∀ μ', tk_R μ' → Qn ρ μ') : tkS_law_7 q Qn Qr ρ μ := by
  unfold tkS_law_7
  exact tk_lawg (tk_pvs_c (tk_pv_l h1) (tk_pvs_c (tk_pv_s hq h3 hi (by omega)) (tk_pvs_c (tk_pv_s hq h3 hi (by omega)) (tk_pvs_c (tk_pv_s hq h3 hi (by omega)) tk_pvs_n)))) (tk_pvs_c (tk_pv_l h2) (tk_pvs_c (tk_pv_s hq h3 hi (by omega)) (tk_pvs_c (tk_pv_s hq h3 hi (by omega)) (tk_pvs_c (tk_pv_s hq h3 hi (by omega)) tk_pvs_n)))) hR hQ (c_row _ _ _)
theorem tk_law_8 {q : Nat × (Nat → Int32)} {i : Int} {Qn : tk_L → tk_M → Prop} {Qr : Int → tk_M → Prop} {ρ : tk_L} {μ : tk_M} (hq : q.1 ≤ 3072) (h1 : ρ 1 = 0) (h2 : ρ 2 = 96) (h3 : ρ 3 = i) (hi : 0 ≤ i ∧ i + 6 ≤ (q.1 : Int)) (hR : tk_R μ) (hQ : ∀ μ', tk_R μ' → Qn ρ μ') : tkS_law_8 q Qn Qr ρ μ := by
  unfold tkS_law_8
  exact tk_lawg (tk_pvs_c (tk_pv_l h1) (tk_pvs_c (tk_pv_s hq h3 hi (by omega)) (tk_pvs_c (tk_pv_s hq h3 hi (by omega)) tk_pvs_n))) (tk_pvs_c (tk_pv_l h2) (tk_pvs_c (tk_pv_s hq h3 hi (by omega)) (tk_pvs_c (tk_pv_s hq h3 hi (by omega)) tk_pvs_n))) hR hQ (c_of _ _)
theorem tk_law_9 {q : Nat × (Nat → Int32)} {i : Int} {Qn : tk_L → tk_M → Prop} {Qr : Int → tk_M → Prop} {ρ : tk_L} {μ : tk_M} (hq : q.1 ≤ 3072) (h1 : ρ 1 = 0) (h2 : ρ 2 = 96) (h3 : ρ 3 = i) (hi : 0 ≤ i ∧ i + 6 ≤ (q.1 : Int)) (hR : tk_R μ) (hQ : ∀ μ', tk_R μ' → Qn ρ μ') : tkS_law_9 q Qn Qr ρ μ := by
  unfold tkS_law_9
  exact tk_lawg (tk_pvs_c (tk_pv_l h1) (tk_pvs_c (tk_pv_s hq h3 hi (by omega)) (tk_pvs_c (tk_pv_s hq h3 hi (by omega)) tk_pvs_n))) (tk_pvs_c (tk_pv_l h2) (tk_pvs_c (tk_pv_s hq h3 hi (by omega)) (tk_pvs_c (tk_pv_s hq h3 hi (by omega)) tk_pvs_n))) hR hQ (c_card _ _)
theorem tk_law_10 {q : Nat × (Nat → Int32)} {i : Int} {Qn : tk_L → tk_M → Prop} {Qr : Int → tk_M → Prop} {ρ : tk_L} {μ : tk_M} (hq : q.1 ≤ 3072) (h1 : ρ 1 = 0) (h2 : ρ 2 = 96) (h3 : ρ 3 = i) (hi : 0 ≤ i ∧ i + 6 ≤ (q.1 : Int)) (hR : tk_R μ) (hQ : ∀ μ', tk_R μ' → Qn ρ μ') : tkS_law_10 q Qn Qr ρ μ := by
  unfold tkS_law_10
  exact tk_lawg (tk_pvs_c (tk_pv_l h1) (tk_pvs_c (tk_pv_s hq h3 hi (by omega)) (tk_pvs_c (tk_pv_s hq h3 hi (by omega)) tk_pvs_n))) (tk_pvs_c (tk_pv_l h2) (tk_pvs_c (tk_pv_s hq h3 hi (by omega)) (tk_pvs_c (tk_pv_s hq h3 hi (by omega)) tk_pvs_n))) hR hQ (c_worth _ _)
theorem tk_law_11 {q : Nat × (Nat → Int32)} {i : Int} {Qn : tk_L → tk_M → Prop} {Qr : Int → tk_M → Prop} {ρ : tk_L} {μ : tk_M} (hq : q.1 ≤ 3072) (h1 : ρ 1 = 0) (h2 : ρ 2 = 96) (h3 : ρ 3 = i) (hi : 0 ≤ i ∧ i + 6 ≤ (q.1 : Int)) (hR : tk_R μ) (hQ : ∀ μ', tk_R μ' → Qn ρ μ') : tkS_law_11 q Qn Qr ρ μ := by
  unfold tkS_law_11
  exact tk_lawg (tk_pvs_c (tk_pv_l h1) (tk_pvs_c (tk_pv_s hq h3 hi (by omega)) (tk_pvs_c (tk_pv_s hq h3 hi (by omega)) tk_pvs_n))) (tk_pvs_c (tk_pv_l h2) (tk_pvs_c (tk_pv_s hq h3 hi (by omega)) (tk_pvs_c (tk_pv_s hq h3 hi (by omega)) tk_pvs_n))) hR hQ (c_needs _ _)
theorem tk_law_12 {q : Nat × (Nat → Int32)} {i : Int} {Qn : tk_L → tk_M → Prop} {Qr : Int → tk_M → Prop} {ρ : tk_L} {μ : tk_M} (hq : q.1 ≤ 3072) (h1 : ρ 1 = 0) (h2 : ρ 2 = 96) (h3 : ρ 3 = i) (hi : 0 ≤ i ∧ i + 6 ≤ (q.1 : Int)) (hR : tk_R μ) (hQ : ∀ μ', tk_R μ' → Qn ρ μ') : tkS_law_12 q Qn Qr ρ μ := by
  unfold tkS_law_12
  exact tk_lawg (tk_pvs_c (tk_pv_l h1) tk_pvs_n) (tk_pvs_c (tk_pv_l h2) tk_pvs_n) hR hQ (c_order)
theorem tk_law_13 {q : Nat × (Nat → Int32)} {i : Int} {Qn : tk_L → tk_M → Prop} {Qr : Int → tk_M → Prop} {ρ : tk_L} {μ : tk_M} (hq : q.1 ≤ 3072) (h1 : ρ 1 = 0) (h2 : ρ 2 = 96) (h3 : ρ 3 = i) (hi : 0 ≤ i ∧ i + 6 ≤ (q.1 : Int)) (hR : tk_R μ) (hQ : ∀ μ', tk_R μ' → Qn ρ μ') : tkS_law_13 q Qn Qr ρ μ := by
  unfold tkS_law_13
  exact tk_lawg (tk_pvs_c (tk_pv_l h1) (tk_pvs_c (tk_pv_s hq h3 hi (by omega)) tk_pvs_n)) (tk_pvs_c (tk_pv_l h2) (tk_pvs_c (tk_pv_s hq h3 hi (by omega)) tk_pvs_n)) hR hQ (c_feed _)
theorem tk_law_14 {q : Nat × (Nat → Int32)} {i : Int} {Qn : tk_L → tk_M → Prop} {Qr : Int → tk_M → Prop} {ρ : tk_L} {μ : tk_M} (hq : q.1 ≤ 3072) (h1 : ρ 1 = 0) (h2 : ρ 2 = 96) (h3 : ρ 3 = i) (hi : 0 ≤ i ∧ i + 6 ≤ (q.1 : Int)) (hR : tk_R μ) (hQ : ∀ μ', tk_R μ' → Qn ρ μ') : tkS_law_14 q Qn Qr ρ μ := by
  unfold tkS_law_14
  exact tk_lawg (tk_pvs_c (tk_pv_l h1) tk_pvs_n) (tk_pvs_c (tk_pv_l h2) tk_pvs_n) hR hQ (c_fund)
theorem tk_law_15 {q : Nat × (Nat → Int32)} {i : Int} {Qn : tk_L → tk_M → Prop} {Qr : Int → tk_M → Prop} {ρ : tk_L} {μ : tk_M} (hq : q.1 ≤ 3072) (h1 : ρ 1 = 0) (h2 : ρ 2 = 96) (h3 : ρ 3 = i) (hi : 0 ≤ i ∧ i + 6 ≤ (q.1 : Int)) (hR : tk_R μ) (hQ : ∀ μ', tk_R μ' → Qn ρ μ') : tkS_law_15 q Qn Qr ρ μ := by
  unfold tkS_law_15
  exact tk_lawg (tk_pvs_c (tk_pv_l h1) (tk_pvs_c (tk_pv_s hq h3 hi (by omega)) (tk_pvs_c (tk_pv_s hq h3 hi (by omega)) tk_pvs_n))) (tk_pvs_c (tk_pv_l h2) (tk_pvs_c (tk_pv_s hq h3 hi (by omega)) (tk_pvs_c (tk_pv_s hq h3 hi (by omega)) tk_pvs_n))) hR hQ (c_draw _ _)
theorem tk_law_16 {q : Nat × (Nat → Int32)} {i : Int} {Qn : tk_L → tk_M → Prop} {Qr : Int → tk_M → Prop} {ρ : tk_L} {μ : tk_M} (hq : q.1 ≤ 3072) (h1 : ρ 1 = 0) (h2 : ρ 2 = 96) (h3 : ρ 3 = i) (hi : 0 ≤ i ∧ i + 6 ≤ (q.1 : Int)) (hR : tk_R μ) (hQ : ∀ μ', tk_R μ' → Qn ρ μ') : tkS_law_16 q Qn Qr ρ μ := by
  unfold tkS_law_16
  exact tk_lawg (tk_pvs_c (tk_pv_l h1) (tk_pvs_c (tk_pv_s hq h3 hi (by omega)) tk_pvs_n)) (tk_pvs_c (tk_pv_l h2) (tk_pvs_c (tk_pv_s hq h3 hi (by omega)) tk_pvs_n)) hR hQ (c_stride _)
theorem tk_law_17 {q : Nat × (Nat → Int32)} {i : Int} {Qn : tk_L → tk_M → Prop} {Qr : Int → tk_M → Prop} {ρ : tk_L} {μ : tk_M} (hq : q.1 ≤ 3072) (h1 : ρ 1 = 0) (h2 : ρ 2 = 96) (h3 : ρ 3 = i) (hi : 0 ≤ i ∧ i + 6 ≤ (q.1 : Int)) (hR : tk_R μ) (hQ : ∀ μ', tk_R μ' → Qn ρ μ') : tkS_law_17 q Qn Qr ρ μ := by
  unfold tkS_law_17
  exact tk_lawg (tk_pvs_c (tk_pv_l h1) (tk_pvs_c (tk_pv_s hq h3 hi (by omega)) tk_pvs_n)) (tk_pvs_c (tk_pv_l h2) (tk_pvs_c (tk_pv_s hq h3 hi (by omega)) tk_pvs_n)) hR hQ (c_told _)
theorem tk_law_18 {q : Nat × (Nat → Int32)} {i : Int} {Qn : tk_L → tk_M → Prop} {Qr : Int → tk_M → Prop} {ρ : tk_L} {μ : tk_M} (hq : q.1 ≤ 3072) (h1 : ρ 1 = 0) (h2 : ρ 2 = 96) (h3 : ρ 3 = i) (hi : 0 ≤ i ∧ i + 6 ≤ (q.1 : Int)) (hR : tk_R μ) (hQ : ∀ μ', tk_R μ' → Qn ρ μ') : tkS_law_18 q Qn Qr ρ μ := by
  unfold tkS_law_18
  exact tk_lawg (tk_pvs_c (tk_pv_l h1) (tk_pvs_c (tk_pv_s hq h3 hi (by omega)) (tk_pvs_c (tk_pv_s hq h3 hi (by omega)) (tk_pvs_c (tk_pv_s hq h3 hi (by omega)) tk_pvs_n)))) (tk_pvs_c (tk_pv_l h2) (tk_pvs_c (tk_pv_s hq h3 hi (by omega)) (tk_pvs_c (tk_pv_s hq h3 hi (by omega)) (tk_pvs_c (tk_pv_s hq h3 hi (by omega)) tk_pvs_n)))) hR hQ (c_on _ _ _)
theorem tk_law_19 {q : Nat × (Nat → Int32)} {i : Int} {Qn : tk_L → tk_M → Prop} {Qr : Int → tk_M → Prop} {ρ : tk_L} {μ : tk_M} (hq : q.1 ≤ 3072) (h1 : ρ 1 = 0) (h2 : ρ 2 = 96) (h3 : ρ 3 = i) (hi : 0 ≤ i ∧ i + 6 ≤ (q.1 : Int)) (hR : tk_R μ) (hQ : ∀ μ', tk_R μ' → Qn ρ μ') : tkS_law_19 q Qn Qr ρ μ := by
  unfold tkS_law_19
  exact tk_lawg (tk_pvs_c (tk_pv_l h1) (tk_pvs_c (tk_pv_s hq h3 hi (by omega)) (tk_pvs_c (tk_pv_s hq h3 hi (by omega)) tk_pvs_n))) (tk_pvs_c (tk_pv_l h2) (tk_pvs_c (tk_pv_s hq h3 hi (by omega)) (tk_pvs_c (tk_pv_s hq h3 hi (by omega)) tk_pvs_n))) hR hQ (c_by _ _ (tk_sqv_r q _))
theorem tk_law_20 {q : Nat × (Nat → Int32)} {i : Int} {Qn : tk_L → tk_M → Prop} {Qr : Int → tk_M → Prop} {ρ : tk_L} {μ : tk_M} (hq : q.1 ≤ 3072) (h1 : ρ 1 = 0) (h2 : ρ 2 = 96) (h3 : ρ 3 = i) (hi : 0 ≤ i ∧ i + 6 ≤ (q.1 : Int)) (hR : tk_R μ) (hQ : ∀ μ', tk_R μ' → Qn ρ μ') : tkS_law_20 q Qn Qr ρ μ := by
  unfold tkS_law_20
  exact tk_lawg (tk_pvs_c (tk_pv_l h1) (tk_pvs_c (tk_pv_s hq h3 hi (by omega)) (tk_pvs_c (tk_pv_s hq h3 hi (by omega)) (tk_pvs_c (tk_pv_s hq h3 hi (by omega)) tk_pvs_n)))) (tk_pvs_c (tk_pv_l h2) (tk_pvs_c (tk_pv_s hq h3 hi (by omega)) (tk_pvs_c (tk_pv_s hq h3 hi (by omega)) (tk_pvs_c (tk_pv_s hq h3 hi (by omega)) tk_pvs_n)))) hR hQ (c_lag _ _ _)
theorem tk_law_21 {q : Nat × (Nat → Int32)} {i : Int} {Qn : tk_L → tk_M → Prop} {Qr : Int → tk_M → Prop} {ρ : tk_L} {μ : tk_M} (hq : q.1 ≤ 3072) (h1 : ρ 1 = 0) (h2 : ρ 2 = 96) (h3 : ρ 3 = i) (hi : 0 ≤ i ∧ i + 6 ≤ (q.1 : Int)) (hR : tk_R μ) (hQ : ∀ μ', tk_R μ' → Qn ρ μ') : tkS_law_21 q Qn Qr ρ μ := by
  unfold tkS_law_21
  exact tk_lawg (tk_pvs_c (tk_pv_l h1) (tk_pvs_c (tk_pv_s hq h3 hi (by omega)) (tk_pvs_c (tk_pv_s hq h3 hi (by omega)) tk_pvs_n))) (tk_pvs_c (tk_pv_l h2) (tk_pvs_c (tk_pv_s hq h3 hi (by omega)) (tk_pvs_c (tk_pv_s hq h3 hi (by omega)) tk_pvs_n))) hR hQ (c_best _ _)
theorem tk_law_22 {q : Nat × (Nat → Int32)} {i : Int} {Qn : tk_L → tk_M → Prop} {Qr : Int → tk_M → Prop} {ρ : tk_L} {μ : tk_M} (hq : q.1 ≤ 3072) (h1 : ρ 1 = 0) (h2 : ρ 2 = 96) (h3 : ρ 3 = i) (hi : 0 ≤ i ∧ i + 6 ≤ (q.1 : Int)) (hR : tk_R μ) (hQ : ∀ μ', tk_R μ' → Qn ρ μ') : tkS_law_22 q Qn Qr ρ μ := by
  unfold tkS_law_22
  exact tk_lawg (tk_pvs_c (tk_pv_l h1) (tk_pvs_c (tk_pv_s hq h3 hi (by omega)) (tk_pvs_c (tk_pv_s hq h3 hi (by omega)) tk_pvs_n))) (tk_pvs_c (tk_pv_l h2) (tk_pvs_c (tk_pv_s hq h3 hi (by omega)) (tk_pvs_c (tk_pv_s hq h3 hi (by omega)) tk_pvs_n))) hR hQ (c_see _ _)
theorem tk_law_23 {q : Nat × (Nat → Int32)} {i : Int} {Qn : tk_L → tk_M → Prop} {Qr : Int → tk_M → Prop} {ρ : tk_L} {μ : tk_M} (hq : q.1 ≤ 3072) (h1 : ρ 1 = 0) (h2 : ρ 2 = 96) (h3 : ρ 3 = i) (hi : 0 ≤ i ∧ i + 6 ≤ (q.1 : Int)) (hR : tk_R μ) (hQ : ∀ μ', tk_R μ' → Qn ρ μ') : tkS_law_23 q Qn Qr ρ μ := by
  unfold tkS_law_23
  exact tk_lawg (tk_pvs_c (tk_pv_l h1) tk_pvs_n) (tk_pvs_c (tk_pv_l h2) tk_pvs_n) hR hQ (c_seeds)
theorem tk_law_24 {q : Nat × (Nat → Int32)} {i : Int} {Qn : tk_L → tk_M → Prop} {Qr : Int → tk_M → Prop} {ρ : tk_L} {μ : tk_M} (hq : q.1 ≤ 3072) (h1 : ρ 1 = 0) (h2 : ρ 2 = 96) (h3 : ρ 3 = i) (hi : 0 ≤ i ∧ i + 6 ≤ (q.1 : Int)) (hR : tk_R μ) (hQ : ∀ μ', tk_R μ' → Qn ρ μ') : tkS_law_24 q Qn Qr ρ μ := by
  unfold tkS_law_24
  exact tk_lawg (tk_pvs_c (tk_pv_l h1) (tk_pvs_c (tk_pv_s hq h3 hi (by omega)) (tk_pvs_c (tk_pv_s hq h3 hi (by omega)) (tk_pvs_c (tk_pv_s hq h3 hi (by omega)) tk_pvs_n)))) (tk_pvs_c (tk_pv_l h2) (tk_pvs_c (tk_pv_s hq h3 hi (by omega)) (tk_pvs_c (tk_pv_s hq h3 hi (by omega)) (tk_pvs_c (tk_pv_s hq h3 hi (by omega)) tk_pvs_n)))) hR hQ (c_can _ _ _)
theorem tk_law_25 {q : Nat × (Nat → Int32)} {i : Int} {Qn : tk_L → tk_M → Prop} {Qr : Int → tk_M → Prop} {ρ : tk_L} {μ : tk_M} (hq : q.1 ≤ 3072) (h1 : ρ 1 = 0) (h2 : ρ 2 = 96) (h3 : ρ 3 = i) (hi : 0 ≤ i ∧ i + 6 ≤ (q.1 : Int)) (hR : tk_R μ) (hQ : ∀ μ', tk_R μ' → Qn ρ μ') : tkS_law_25 q Qn Qr ρ μ := by
  unfold tkS_law_25
  exact tk_lawg (tk_pvs_c (tk_pv_l h1) (tk_pvs_c (tk_pv_s hq h3 hi (by omega)) (tk_pvs_c (tk_pv_s hq h3 hi (by omega)) tk_pvs_n))) (tk_pvs_c (tk_pv_l h2) (tk_pvs_c (tk_pv_s hq h3 hi (by omega)) (tk_pvs_c (tk_pv_s hq h3 hi (by omega)) tk_pvs_n))) hR hQ (c_odds _ _)
theorem tk_law_26 {q : Nat × (Nat → Int32)} {i : Int} {Qn : tk_L → tk_M → Prop} {Qr : Int → tk_M → Prop} {ρ : tk_L} {μ : tk_M} (hq : q.1 ≤ 3072) (h1 : ρ 1 = 0) (h2 : ρ 2 = 96) (h3 : ρ 3 = i) (hi : 0 ≤ i ∧ i + 6 ≤ (q.1 : Int)) (hR : tk_R μ) (hQ : ∀ μ', tk_R μ' → Qn ρ μ') : tkS_law_26 q Qn Qr ρ μ := by
  unfold tkS_law_26
  exact tk_lawg (tk_pvs_c (tk_pv_l h1) (tk_pvs_c (tk_pv_s hq h3 hi (by omega)) tk_pvs_n)) (tk_pvs_c (tk_pv_l h2) (tk_pvs_c (tk_pv_s hq h3 hi (by omega)) tk_pvs_n)) hR hQ (c_mean _)
theorem tk_law_27 {q : Nat × (Nat → Int32)} {i : Int} {Qn : tk_L → tk_M → Prop} {Qr : Int → tk_M → Prop} {ρ : tk_L} {μ : tk_M} (hq : q.1 ≤ 3072) (h1 : ρ 1 = 0) (h2 : ρ 2 = 96) (h3 : ρ 3 = i) (hi : 0 ≤ i ∧ i + 6 ≤ (q.1 : Int)) (hR : tk_R μ) (hQ : ∀ μ', tk_R μ' → Qn ρ μ') : tkS_law_27 q Qn Qr ρ μ := by
  unfold tkS_law_27
  exact tk_lawg (tk_pvs_c (tk_pv_l h1) (tk_pvs_c (tk_pv_s hq h3 hi (by omega)) (tk_pvs_c (tk_pv_s hq h3 hi (by omega)) tk_pvs_n))) (tk_pvs_c (tk_pv_l h2) (tk_pvs_c (tk_pv_s hq h3 hi (by omega)) (tk_pvs_c (tk_pv_s hq h3 hi (by omega)) tk_pvs_n))) hR hQ (c_plan _ _)
theorem tk_law_28 {q : Nat × (Nat → Int32)} {i : Int} {Qn : tk_L → tk_M → Prop} {Qr : Int → tk_M → Prop} {ρ : tk_L} {μ : tk_M} (hq : q.1 ≤ 3072) (h1 : ρ 1 = 0) (h2 : ρ 2 = 96) (h3 : ρ 3 = i) (hi : 0 ≤ i ∧ i + 6 ≤ (q.1 : Int)) (hR : tk_R μ) (hQ : ∀ μ', tk_R μ' → Qn ρ μ') : tkS_law_28 q Qn Qr ρ μ := by
  unfold tkS_law_28
  exact tk_lawg (tk_pvs_c (tk_pv_l h1) (tk_pvs_c (tk_pv_s hq h3 hi (by omega)) tk_pvs_n)) (tk_pvs_c (tk_pv_l h2) (tk_pvs_c (tk_pv_s hq h3 hi (by omega)) tk_pvs_n)) hR hQ (c_ends _)
theorem tk_law_29 {q : Nat × (Nat → Int32)} {i : Int} {Qn : tk_L → tk_M → Prop} {Qr : Int → tk_M → Prop} {ρ : tk_L} {μ : tk_M} (hq : q.1 ≤ 3072) (h1 : ρ 1 = 0) (h2 : ρ 2 = 96) (h3 : ρ 3 = i) (hi : 0 ≤ i ∧ i + 6 ≤ (q.1 : Int)) (hR : tk_R μ) (hQ : ∀ μ', tk_R μ' → Qn ρ μ') : tkS_law_29 q Qn Qr ρ μ := by
  unfold tkS_law_29
  exact tk_lawg (tk_pvs_c (tk_pv_l h1) (tk_pvs_c (tk_pv_s hq h3 hi (by omega)) (tk_pvs_c (tk_pv_s hq h3 hi (by omega)) tk_pvs_n))) (tk_pvs_c (tk_pv_l h2) (tk_pvs_c (tk_pv_s hq h3 hi (by omega)) (tk_pvs_c (tk_pv_s hq h3 hi (by omega)) tk_pvs_n))) hR hQ (c_book _ _)
theorem tk_law_30 {q : Nat × (Nat → Int32)} {i : Int} {Qn : tk_L → tk_M → Prop} {Qr : Int → tk_M → Prop} {ρ : tk_L} {μ : tk_M} (hq : q.1 ≤ 3072) (h1 : ρ 1 = 0) (h2 : ρ 2 = 96) (h3 : ρ 3 = i) (hi : 0 ≤ i ∧ i + 6 ≤ (q.1 : Int)) (hR : tk_R μ) (hQ : ∀ μ', tk_R μ' → Qn ρ μ') : tkS_law_30 q Qn Qr ρ μ := by
  unfold tkS_law_30
  exact tk_lawg (tk_pvs_c (tk_pv_l h1) tk_pvs_n) (tk_pvs_c (tk_pv_l h2) tk_pvs_n) hR hQ (c_looked)
theorem tk_law_31 {q : Nat × (Nat → Int32)} {i : Int} {Qn : tk_L → tk_M → Prop} {Qr : Int → tk_M → Prop} {ρ : tk_L} {μ : tk_M} (hq : q.1 ≤ 3072) (h1 : ρ 1 = 0) (h2 : ρ 2 = 96) (h3 : ρ 3 = i) (hi : 0 ≤ i ∧ i + 6 ≤ (q.1 : Int)) (hR : tk_R μ) (hQ : ∀ μ', tk_R μ' → Qn ρ μ') : tkS_law_31 q Qn Qr ρ μ := by
  unfold tkS_law_31
  exact tk_lawg (tk_pvs_c (tk_pv_l h1) (tk_pvs_c (tk_pv_s hq h3 hi (by omega)) (tk_pvs_c (tk_pv_s hq h3 hi (by omega)) tk_pvs_n))) (tk_pvs_c (tk_pv_l h2) (tk_pvs_c (tk_pv_s hq h3 hi (by omega)) (tk_pvs_c (tk_pv_s hq h3 hi (by omega)) tk_pvs_n))) hR hQ (c_judge _ _ (tk_sqv_r q _))
theorem tk_law_32 {q : Nat × (Nat → Int32)} {i : Int} {Qn : tk_L → tk_M → Prop} {Qr : Int → tk_M → Prop} {ρ : tk_L} {μ : tk_M} (hq : q.1 ≤ 3072) (h1 : ρ 1 = 0) (h2 : ρ 2 = 96) (h3 : ρ 3 = i) (hi : 0 ≤ i ∧ i + 6 ≤ (q.1 : Int)) (hR : tk_R μ) (hQ : ∀ μ', tk_R μ' → Qn ρ μ') : tkS_law_32 q Qn Qr ρ μ := by
  unfold tkS_law_32
  exact tk_lawg (tk_pvs_c (tk_pv_l h1) tk_pvs_n) (tk_pvs_c (tk_pv_l h2) tk_pvs_n) hR hQ (c_image)
theorem tk_law_33 {q : Nat × (Nat → Int32)} {i : Int} {Qn : tk_L → tk_M → Prop} {Qr : Int → tk_M → Prop} {ρ : tk_L} {μ : tk_M} (hq : q.1 ≤ 3072) (h1 : ρ 1 = 0) (h2 : ρ 2 = 96) (h3 : ρ 3 = i) (hi : 0 ≤ i ∧ i + 6 ≤ (q.1 : Int)) (hR : tk_R μ) (hQ : ∀ μ', tk_R μ' → Qn ρ μ') : tkS_law_33 q Qn Qr ρ μ := by
  unfold tkS_law_33
  exact tk_lawg (tk_pvs_c (tk_pv_l h1) tk_pvs_n) (tk_pvs_c (tk_pv_l h2) tk_pvs_n) hR hQ (c_undo)
theorem tk_law_34 {q : Nat × (Nat → Int32)} {i : Int} {Qn : tk_L → tk_M → Prop} {Qr : Int → tk_M → Prop} {ρ : tk_L} {μ : tk_M} (hq : q.1 ≤ 3072) (h1 : ρ 1 = 0) (h2 : ρ 2 = 96) (h3 : ρ 3 = i) (hi : 0 ≤ i ∧ i + 6 ≤ (q.1 : Int)) (hR : tk_R μ) (hQ : ∀ μ', tk_R μ' → Qn ρ μ') : tkS_law_34 q Qn Qr ρ μ := by
  unfold tkS_law_34
  exact tk_lawg (tk_pvs_c (tk_pv_l h1) (tk_pvs_c (tk_pv_s hq h3 hi (by omega)) (tk_pvs_c (tk_pv_s hq h3 hi (by omega)) tk_pvs_n))) (tk_pvs_c (tk_pv_l h2) (tk_pvs_c (tk_pv_s hq h3 hi (by omega)) (tk_pvs_c (tk_pv_s hq h3 hi (by omega)) tk_pvs_n))) hR hQ (c_taken _ _)
theorem tk_law_35 {q : Nat × (Nat → Int32)} {i : Int} {Qn : tk_L → tk_M → Prop} {Qr : Int → tk_M → Prop} {ρ : tk_L} {μ : tk_M} (hq : q.1 ≤ 3072) (h1 : ρ 1 = 0) (h2 : ρ 2 = 96) (h3 : ρ 3 = i) (hi : 0 ≤ i ∧ i + 6 ≤ (q.1 : Int)) (hR : tk_R μ) (hQ : ∀ μ', tk_R μ' → Qn ρ μ') : tkS_law_35 q Qn Qr ρ μ := by
  unfold tkS_law_35
  exact tk_lawg (tk_pvs_c (tk_pv_l h1) (tk_pvs_c (tk_pv_s hq h3 hi (by omega)) tk_pvs_n)) (tk_pvs_c (tk_pv_l h2) (tk_pvs_c (tk_pv_s hq h3 hi (by omega)) tk_pvs_n)) hR hQ (c_count _)
theorem tk_law_36 {q : Nat × (Nat → Int32)} {i : Int} {Qn : tk_L → tk_M → Prop} {Qr : Int → tk_M → Prop} {ρ : tk_L} {μ : tk_M} (hq : q.1 ≤ 3072) (h1 : ρ 1 = 0) (h2 : ρ 2 = 96) (h3 : ρ 3 = i) (hi : 0 ≤ i ∧ i + 6 ≤ (q.1 : Int)) (hR : tk_R μ) (hQ : ∀ μ', tk_R μ' → Qn ρ μ') : tkS_law_36 q Qn Qr ρ μ := by
  unfold tkS_law_36
  exact tk_lawg (tk_pvs_c (tk_pv_l h1) (tk_pvs_c (tk_pv_s hq h3 hi (by omega)) (tk_pvs_c (tk_pv_s hq h3 hi (by omega)) (tk_pvs_c (tk_pv_s hq h3 hi (by omega)) tk_pvs_n)))) (tk_pvs_c (tk_pv_l h2) (tk_pvs_c (tk_pv_s hq h3 hi (by omega)) (tk_pvs_c (tk_pv_s hq h3 hi (by omega)) (tk_pvs_c (tk_pv_s hq h3 hi (by omega)) tk_pvs_n)))) hR hQ (c_tape _ _ _)
theorem tk_law_37 {q : Nat × (Nat → Int32)} {i : Int} {Qn : tk_L → tk_M → Prop} {Qr : Int → tk_M → Prop} {ρ : tk_L} {μ : tk_M} (hq : q.1 ≤ 3072) (h1 : ρ 1 = 0) (h2 : ρ 2 = 96) (h3 : ρ 3 = i) (hi : 0 ≤ i ∧ i + 6 ≤ (q.1 : Int)) (hR : tk_R μ) (hQ : ∀ μ', tk_R μ' → Qn ρ μ') : tkS_law_37 q Qn Qr ρ μ := by
  unfold tkS_law_37
  exact tk_lawg (tk_pvs_c (tk_pv_l h1) (tk_pvs_c (tk_pv_s hq h3 hi (by omega)) (tk_pvs_c (tk_pv_s hq h3 hi (by omega)) (tk_pvs_c (tk_pv_b (tk_pv_b (tk_pv_s hq h3 hi (by omega)) tk_pv_c) (tk_pv_b (tk_pv_s hq h3 hi (by omega)) tk_pv_c)) tk_pvs_n)))) (tk_pvs_c (tk_pv_l h2) (tk_pvs_c (tk_pv_s hq h3 hi (by omega)) (tk_pvs_c (tk_pv_s hq h3 hi (by omega)) (tk_pvs_c (tk_pv_b (tk_pv_b (tk_pv_s hq h3 hi (by omega)) tk_pv_c) (tk_pv_b (tk_pv_s hq h3 hi (by omega)) tk_pv_c)) tk_pvs_n)))) hR hQ (c_item _ _ _)
theorem tk_law_38 {q : Nat × (Nat → Int32)} {i : Int} {Qn : tk_L → tk_M → Prop} {Qr : Int → tk_M → Prop} {ρ : tk_L} {μ : tk_M} (hq : q.1 ≤ 3072) (h1 : ρ 1 = 0) (h2 : ρ 2 = 96) (h3 : ρ 3 = i) (hi : 0 ≤ i ∧ i + 6 ≤ (q.1 : Int)) (hR : tk_R μ) (hQ : ∀ μ', tk_R μ' → Qn ρ μ') : tkS_law_38 q Qn Qr ρ μ := by
  unfold tkS_law_38
  exact tk_lawg (tk_pvs_c (tk_pv_l h1) (tk_pvs_c (tk_pv_s hq h3 hi (by omega)) (tk_pvs_c (tk_pv_s hq h3 hi (by omega)) tk_pvs_n))) (tk_pvs_c (tk_pv_l h2) (tk_pvs_c (tk_pv_s hq h3 hi (by omega)) (tk_pvs_c (tk_pv_s hq h3 hi (by omega)) tk_pvs_n))) hR hQ (c_read _ _)
theorem tk_law_39 {q : Nat × (Nat → Int32)} {i : Int} {Qn : tk_L → tk_M → Prop} {Qr : Int → tk_M → Prop} {ρ : tk_L} {μ : tk_M} (hq : q.1 ≤ 3072) (h1 : ρ 1 = 0) (h2 : ρ 2 = 96) (h3 : ρ 3 = i) (hi : 0 ≤ i ∧ i + 6 ≤ (q.1 : Int)) (hR : tk_R μ) (hQ : ∀ μ', tk_R μ' → Qn ρ μ') : tkS_law_39 q Qn Qr ρ μ := by
  unfold tkS_law_39
  exact tk_lawg (tk_pvs_c (tk_pv_l h1) (tk_pvs_c (tk_pv_s hq h3 hi (by omega)) (tk_pvs_c (tk_pv_s hq h3 hi (by omega)) (tk_pvs_c (tk_pv_s hq h3 hi (by omega)) (tk_pvs_c (tk_pv_s hq h3 hi (by omega)) (tk_pvs_c (tk_pv_s hq h3 hi (by omega)) tk_pvs_n)))))) (tk_pvs_c (tk_pv_l h2) (tk_pvs_c (tk_pv_s hq h3 hi (by omega)) (tk_pvs_c (tk_pv_s hq h3 hi (by omega)) (tk_pvs_c (tk_pv_s hq h3 hi (by omega)) (tk_pvs_c (tk_pv_s hq h3 hi (by omega)) (tk_pvs_c (tk_pv_s hq h3 hi (by omega)) tk_pvs_n)))))) hR hQ (c_shift _ _ _ _ _ (tk_sqv_r q _) (tk_sqv_r q _) (tk_sqv_r q _))
theorem tk_swc_all {D : tk_Sm} {Qn : tk_L → tk_M → Prop} {Qr : Int → tk_M → Prop} {ρ : tk_L} {μ : tk_M} {v : Int} (Ss : List tk_Sm) : ∀ lo : Int, (∀ S ∈ Ss, S Qn Qr ρ μ) → D Qn Qr ρ μ → tk_swc lo D Ss v Qn Qr ρ μ := by
  induction Ss with
  | nil => intro lo _ hD; exact hD
  | cons S r ih =>
    intro lo h hD
    unfold tk_swc
    split
    · exact h S (List.mem_cons_self)
    · exact ih (lo + 1) (fun S' hS' => h S' (List.mem_cons_of_mem _ hS')) hD
theorem tk_R_m0 : tk_R tk_m0 := by
  refine ⟨?_, ?_, ?_, ?_, ?_⟩
  · unfold tk_EE tk_E0 tk_E1 tk_E2 tk_E3 tk_E4 tk_E5 tk_E6
    simp [tk_hv, tk_mv, tk_m0]
  · refine ⟨?_, ?_, ?_, ?_, ?_, ?_, ?_, ⟨fun _ => 0, fun c => ⟨Int.le_refl 0, by show (0 : Int) ≤ 5; omega⟩, ?_⟩, ⟨fun _ => 0, fun c => ⟨Int.le_refl 0, by show (0 : Int) ≤ 7; omega⟩, ?_⟩⟩
    · unfold tk_I0
      simp [tk_hv, tk_m0]
    · unfold tk_I1
      simp [tk_hv, tk_m0]
    · unfold tk_I2
      simp [tk_hv, tk_m0]
    · unfold tk_I3
      simp [tk_hv, tk_m0]
    · unfold tk_I4
      simp [tk_hv, tk_m0]
    · unfold tk_I5
      simp [tk_hv, tk_m0]
    · unfold tk_I6
      simp [tk_hv, tk_m0]
    · simp [tk_hv, tk_m0]
    · simp [tk_hv, tk_m0]
  · unfold tk_RT
    simp [tk_m0]
  · intro t h0 h6
    have h2 : t = 0 ∨ t = 1 ∨ t = 2 ∨ t = 3 ∨ t = 4 ∨ t = 5 := by omega
    rcases h2 with rfl | rfl | rfl | rfl | rfl | rfl <;> simp [tk_m0, tk_bo]
  · unfold tk_RI
    simp [tk_m0]
theorem tk_law_all {q : Nat × (Nat → Int32)} {i : Int} {Qn : tk_L → tk_M → Prop} {Qr : Int → tk_M → Prop} {ρ : tk_L} {μ : tk_M} (hq : q.1 ≤ 3072) (h1 : ρ 1 = 0) (h2 : ρ 2 = 96) (h3 : ρ 3 = i) (hi : 0 ≤ i ∧ i + 6 ≤ (q.1 : Int)) (hR : tk_R μ) (hQ : ∀ μ', tk_R μ' → Qn ρ μ') : ∀ S ∈ [(tkS_law_0 q), (tkS_law_1 q), (tkS_law_2 q), (tkS_law_3 q), (tkS_law_4 q), (tkS_law_5 q), (tkS_law_6 q), (tkS_law_7 q), (tkS_law_8 q), (tkS_law_9 q), (tkS_law_10 q), (tkS_law_11 q), (tkS_law_12 q), (tkS_law_13 q), (tkS_law_14 q), (tkS_law_15 q), (tkS_law_16 q), (tkS_law_17 q), (tkS_law_18 q), (tkS_law_19 q), (tkS_law_20 q), (tkS_law_21 q), (tkS_law_22 q), (tkS_law_23 q), (tkS_law_24 q), (tkS_law_25 q), (tkS_law_26 q), (tkS_law_27 q), (tkS_law_28 q), (tkS_law_29 q), (tkS_law_30 q), (tkS_law_31 q), (tkS_law_32 q), (tkS_law_33 q), (tkS_law_34 q), (tkS_law_35 q), (tkS_law_36 q), (tkS_law_37 q), (tkS_law_38 q), (tkS_law_39 q)], S Qn Qr ρ μ := by
  refine List.forall_mem_cons.mpr ⟨tk_law_0 hq h1 h2 h3 hi hR hQ, ?_⟩
  refine List.forall_mem_cons.mpr ⟨tk_law_1 hq h1 h2 h3 hi hR hQ, ?_⟩
  refine List.forall_mem_cons.mpr ⟨tk_law_2 hq h1 h2 h3 hi hR hQ, ?_⟩
  refine List.forall_mem_cons.mpr ⟨tk_law_3 hq h1 h2 h3 hi hR hQ, ?_⟩
  refine List.forall_mem_cons.mpr ⟨tk_law_4 hq h1 h2 h3 hi hR hQ, ?_⟩
  refine List.forall_mem_cons.mpr ⟨tk_law_5 hq h1 h2 h3 hi hR hQ, ?_⟩
  refine List.forall_mem_cons.mpr ⟨tk_law_6 hq h1 h2 h3 hi hR hQ, ?_⟩
  refine List.forall_mem_cons.mpr ⟨tk_law_7 hq h1 h2 h3 hi hR hQ, ?_⟩
  refine List.forall_mem_cons.mpr ⟨tk_law_8 hq h1 h2 h3 hi hR hQ, ?_⟩
  refine List.forall_mem_cons.mpr ⟨tk_law_9 hq h1 h2 h3 hi hR hQ, ?_⟩
  refine List.forall_mem_cons.mpr ⟨tk_law_10 hq h1 h2 h3 hi hR hQ, ?_⟩
  refine List.forall_mem_cons.mpr ⟨tk_law_11 hq h1 h2 h3 hi hR hQ, ?_⟩
  refine List.forall_mem_cons.mpr ⟨tk_law_12 hq h1 h2 h3 hi hR hQ, ?_⟩
  refine List.forall_mem_cons.mpr ⟨tk_law_13 hq h1 h2 h3 hi hR hQ, ?_⟩
  refine List.forall_mem_cons.mpr ⟨tk_law_14 hq h1 h2 h3 hi hR hQ, ?_⟩
  refine List.forall_mem_cons.mpr ⟨tk_law_15 hq h1 h2 h3 hi hR hQ, ?_⟩
  refine List.forall_mem_cons.mpr ⟨tk_law_16 hq h1 h2 h3 hi hR hQ, ?_⟩
  refine List.forall_mem_cons.mpr ⟨tk_law_17 hq h1 h2 h3 hi hR hQ, ?_⟩
  refine List.forall_mem_cons.mpr ⟨tk_law_18 hq h1 h2 h3 hi hR hQ, ?_⟩
  refine List.forall_mem_cons.mpr ⟨tk_law_19 hq h1 h2 h3 hi hR hQ, ?_⟩
  refine List.forall_mem_cons.mpr ⟨tk_law_20 hq h1 h2 h3 hi hR hQ, ?_⟩
  refine List.forall_mem_cons.mpr ⟨tk_law_21 hq h1 h2 h3 hi hR hQ, ?_⟩
  refine List.forall_mem_cons.mpr ⟨tk_law_22 hq h1 h2 h3 hi hR hQ, ?_⟩
  refine List.forall_mem_cons.mpr ⟨tk_law_23 hq h1 h2 h3 hi hR hQ, ?_⟩
  refine List.forall_mem_cons.mpr ⟨tk_law_24 hq h1 h2 h3 hi hR hQ, ?_⟩
  refine List.forall_mem_cons.mpr ⟨tk_law_25 hq h1 h2 h3 hi hR hQ, ?_⟩
  refine List.forall_mem_cons.mpr ⟨tk_law_26 hq h1 h2 h3 hi hR hQ, ?_⟩
  refine List.forall_mem_cons.mpr ⟨tk_law_27 hq h1 h2 h3 hi hR hQ, ?_⟩
  refine List.forall_mem_cons.mpr ⟨tk_law_28 hq h1 h2 h3 hi hR hQ, ?_⟩
  refine List.forall_mem_cons.mpr ⟨tk_law_29 hq h1 h2 h3 hi hR hQ, ?_⟩
  refine List.forall_mem_cons.mpr ⟨tk_law_30 hq h1 h2 h3 hi hR hQ, ?_⟩
  refine List.forall_mem_cons.mpr ⟨tk_law_31 hq h1 h2 h3 hi hR hQ, ?_⟩
  refine List.forall_mem_cons.mpr ⟨tk_law_32 hq h1 h2 h3 hi hR hQ, ?_⟩
  refine List.forall_mem_cons.mpr ⟨tk_law_33 hq h1 h2 h3 hi hR hQ, ?_⟩
  refine List.forall_mem_cons.mpr ⟨tk_law_34 hq h1 h2 h3 hi hR hQ, ?_⟩
  refine List.forall_mem_cons.mpr ⟨tk_law_35 hq h1 h2 h3 hi hR hQ, ?_⟩
  refine List.forall_mem_cons.mpr ⟨tk_law_36 hq h1 h2 h3 hi hR hQ, ?_⟩
  refine List.forall_mem_cons.mpr ⟨tk_law_37 hq h1 h2 h3 hi hR hQ, ?_⟩
  refine List.forall_mem_cons.mpr ⟨tk_law_38 hq h1 h2 h3 hi hR hQ, ?_⟩
  refine List.forall_mem_cons.mpr ⟨tk_law_39 hq h1 h2 h3 hi hR hQ, ?_⟩
  intro S hS
  cases hS
theorem tk_law_ok (q : Nat × (Nat → Int32)) (hq : q.1 ≤ 3072) : tkS_law q (fun _ _ => False) (fun r _ => r = 1) tk_ρ0 tk_m0 := by
  unfold tkS_law
  show tk_wh _ _ (fun _ _ => ((1 : Int) = 0 ∨ (1 : Int) = 1) ∧ (1 : Int) = 1) (fun r _ => r = 1) (tk_up tk_ρ0 3 0) tk_m0
  refine tk_loop (fun j ρ μ => ρ 1 = 0 ∧ ρ 2 = 96 ∧ (0 ≤ ρ 3 ∧ (j : Int) = q.1 + 6 - ρ 3) ∧ tk_R μ) ?_ (q.1 + 6) ⟨rfl, rfl, ⟨by simp [tk_up], by simp [tk_up]⟩, tk_R_m0⟩
  rintro j ρ μ ⟨h1, h2, ⟨h3, hj⟩, hR⟩ K hK
  have l6 : tk_isub (q.1 : Int) 6 = (q.1 : Int) - 6 := tk_isub_id (by omega) (by omega)
  by_cases hc : ρ 3 ≤ (q.1 : Int) - 6
  · have a6 : tk_iadd (ρ 3) 6 = ρ 3 + 6 := tk_iadd_id (by omega) (by omega)
    show (if ρ 3 ≤ tk_isub (q.1 : Int) 6 then _ else _)
    rw [l6, if_pos hc]
    show (0 ≤ ρ 3 ∧ ρ 3 < (q.1 : Int)) ∧ tk_swc 0 tk_sk _ _ _ _ ρ μ
    refine ⟨⟨h3, by omega⟩, tk_swc_all _ 0 (tk_law_all hq h1 h2 rfl ⟨h3, by omega⟩ hR (fun μ' hR' => ?_)) ?_⟩
    · show K (tk_up ρ 3 (tk_iadd (ρ 3) 6)) μ'
      rw [a6]
      exact hK (j - 6) _ _ (by omega) ⟨h1, h2, ⟨by simp [tk_up]; omega, by simp [tk_up]; omega⟩, hR'⟩
    · show K (tk_up ρ 3 (tk_iadd (ρ 3) 6)) μ
      rw [a6]
      exact hK (j - 6) _ _ (by omega) ⟨h1, h2, ⟨by simp [tk_up]; omega, by simp [tk_up]; omega⟩, hR⟩
  · show (if ρ 3 ≤ tk_isub (q.1 : Int) 6 then _ else _)
    rw [l6, if_neg hc]
    exact ⟨.inr rfl, rfl⟩
