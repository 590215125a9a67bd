/-! ===== the context of a walk, and what it is that a piece of code does ===== -/
abbrev tk_K : Type := Program × Launch × Env × State × MethodId × Array Value × List Frame × Method × Code × Nat × Nat × (State → Prop) × tk_O
abbrev tk_N : Type := ByteArray × String × Nat × Room × Option (Nat × (Nat → Int32))
abbrev tk_s (κ : tk_K) : State := κ.2.2.2.1
abbrev tk_m (κ : tk_K) : MethodId := κ.2.2.2.2.1
abbrev tk_ar (κ : tk_K) : Array Value := κ.2.2.2.2.2.1
abbrev tk_be (κ : tk_K) : List Frame := κ.2.2.2.2.2.2.1
abbrev tk_me (κ : tk_K) : Method := κ.2.2.2.2.2.2.2.1
abbrev tk_c (κ : tk_K) : Code := κ.2.2.2.2.2.2.2.2.1
abbrev tk_ce1 (κ : tk_K) : Nat := κ.2.2.2.2.2.2.2.2.2.1
abbrev tk_sl (κ : tk_K) : Nat := κ.2.2.2.2.2.2.2.2.2.2.1
abbrev tk_Z (κ : tk_K) : State → Prop := κ.2.2.2.2.2.2.2.2.2.2.2.1
abbrev tk_ω (κ : tk_K) : tk_O := κ.2.2.2.2.2.2.2.2.2.2.2.2
abbrev tk_W (κ : tk_K) (ν : tk_N) (H : Heap) (locs : List Loc) (pc : Nat) (ls : Array Slot) (st : List Value) : Prop :=
  W κ.1 κ.2.1 κ.2.2.1 ν.2.2.2.1 (tk_s κ) (tk_m κ) (tk_ar κ) (tk_be κ) (tk_me κ) (tk_c κ) H locs (tk_ce1 κ) (tk_sl κ) (tk_Z κ) (F0 (tk_m κ) pc ls st)
def tk_X (κ : tk_K) (ν : tk_N) : Prop := κ.1.tables.exec = Jvm.exec ∧ (tk_c κ).code = ν.1 ∧ (tk_c κ).maxLocals = ν.2.2.1 ∧ (tk_s κ).vm.findClass ν.2.1 = some (tk_m κ).cls ∧ (∀ w ∈ tk_tbl, w.before (tk_ar κ) (tk_s κ) = true) ∧ tk_S (tk_ω κ) (tk_s κ) ∧ tk_ce1 κ ≤ ν.2.2.2.1.cells ∧ tk_sl κ ≤ ν.2.2.2.1.slots ∧ ∀ q, ν.2.2.2.2 = some q → tk_Ls (tk_ω κ) = q.1 ∧ tk_xs (tk_ω κ) = q.2
def tk_lv (ω : tk_O) (Γ : List (Nat × Nat)) (ρ : tk_L) : List (Nat × Value) := Γ.map (fun q => (q.1, tk_v ω q.2 (ρ q.1)))
def tk_rs (Γ : List (Nat × Nat)) (ρ : tk_L) : Prop := ∀ q ∈ Γ, tk_r q.2 (ρ q.1)
def tk_G (κ : tk_K) (ν : tk_N) (Γ : List (Nat × Nat)) (ρ : tk_L) (pc : Nat) (μ : tk_M) (st : List Value) : Prop :=
  ∀ (H : Heap) (ls : Array Slot) (locs : List Loc), tk_P (tk_ω κ) μ H → va_S (tk_A (tk_ω κ)) (tk_s κ).heap H locs → lv_has ls ν.2.2.1 (tk_lv (tk_ω κ) Γ ρ) → tk_W κ ν H locs pc ls st
abbrev tk_sum (st : List Value) : Nat := (st.map fun v => v.category).sum
abbrev tk_Ex : Type := (Int → tk_M → Prop) → tk_L → tk_M → Prop
abbrev tk_Cn : Type := (tk_M → Prop) → (tk_M → Prop) → tk_L → tk_M → Prop
abbrev tk_Sm : Type := (tk_L → tk_M → Prop) → (Int → tk_M → Prop) → tk_L → tk_M → Prop
/-- the code from pc on puts the expression's value on the stack and comes to p1 -/
def tk_E (ν : tk_N) (Γ : List (Nat × Nat)) (d : Nat) (e : tk_Ex) (t pc p1 : Nat) : Prop :=
  ∀ (κ : tk_K), tk_X κ ν → ∀ (st : List Value), tk_sum st ≤ d → ∀ (ρ : tk_L) (μ : tk_M) (Q : Int → tk_M → Prop), tk_rs Γ ρ → e Q ρ μ →
    (∀ v μ', Q v μ' → tk_r t v → tk_G κ ν Γ ρ p1 μ' (tk_v (tk_ω κ) t v :: st)) → tk_G κ ν Γ ρ pc μ st
/-- the code from pc on comes to T where the condition holds, to F where not -/
def tk_Ck (ν : tk_N) (Γ : List (Nat × Nat)) (d : Nat) (C : tk_Cn) (pc T F : Nat) : Prop :=
  ∀ (κ : tk_K), tk_X κ ν → ∀ (st : List Value), tk_sum st ≤ d → ∀ (ρ : tk_L) (μ : tk_M) (Qt Qf : tk_M → Prop), tk_rs Γ ρ → C Qt Qf ρ μ →
    (∀ μ', Qt μ' → tk_G κ ν Γ ρ T μ' st) → (∀ μ', Qf μ' → tk_G κ ν Γ ρ F μ' st) → tk_G κ ν Γ ρ pc μ st
def tk_rt (t : Nat) (v : Int) : Prop := match t with
  | 0 => tk_r 0 v
  | 1 => tk_r 1 v
  | 4 => v = 0 ∨ v = 1
  | _ => True
def tk_ov (ω : tk_O) (t : Nat) (v : Int) : Option Value := match t with
  | 9 => none
  | 1 => some (tk_v ω 1 v)
  | _ => some (tk_v ω 0 v)
def tk_rv (ω : tk_O) (t : Nat) (v : Int) : List Value := (tk_ov ω t v).toList
theorem tk_Xn {κ : tk_K} {ν : tk_N} (X : tk_X κ ν) {w : Cond} (h : w ∈ tk_nw) : w.before (tk_ar κ) (tk_s κ) = true := tk_nw_use h (X.2.2.2.2.2.1.2.2.2.2.2 w h)
def tk_ri (t : Nat) : Instr := match t with
  | 9 => .return_
  | 1 => .lreturn
  | _ => .ireturn
def tk_Rt (κ : tk_K) (ν : tk_N) (t : Nat) (Q : Int → tk_M → Prop) : Prop :=
  ∀ (v : Int) (μ : tk_M) (H : Heap) (ls : Array Slot) (locs : List Loc) (pc : Nat), Q v μ → tk_rt t v → tk_P (tk_ω κ) μ H → va_S (tk_A (tk_ω κ)) (tk_s κ).heap H locs → decode ν.1 pc = .ok (tk_ri t, 1) → tk_W κ ν H locs pc ls (tk_rv (tk_ω κ) t v)
/-- the code from pc on does the statement and comes to L, or returns -/
def tk_St (ν : tk_N) (t : Nat) (Γ Γ' : List (Nat × Nat)) (S : tk_Sm) (pc L : Nat) : Prop :=
  ∀ (κ : tk_K), tk_X κ ν → ∀ (ρ : tk_L) (μ : tk_M) (Qn : tk_L → tk_M → Prop) (Qr : Int → tk_M → Prop), tk_rs Γ ρ → S Qn Qr ρ μ →
    (∀ ρ' μ', Qn ρ' μ' → tk_rs Γ' ρ' → tk_G κ ν Γ' ρ' L μ' []) → tk_Rt κ ν t Qr → tk_G κ ν Γ ρ pc μ []
theorem tk_toI (x : Int32) : Int32.ofInt x.toInt = x := by simp
theorem tk_toL (x : Int64) : Int64.ofInt x.toInt = x := by simp
theorem tk_ofI {x : Int} (h : tk_r 0 x) : (Int32.ofInt x).toInt = x := by
  obtain ⟨h1, h2⟩ := h
  exact Int32.toInt_ofInt_of_le (by simpa using h1) (by show x < 2147483648; omega)
theorem tk_ofL {x : Int} (h : tk_r 1 x) : (Int64.ofInt x).toInt = x := by
  obtain ⟨h1, h2⟩ := h
  exact Int64.toInt_ofInt_of_le (by simpa using h1) (by show x < 9223372036854775808; omega)
theorem tk_r0 (x : Int32) : tk_r 0 x.toInt := by
  have h1 := Int32.le_toInt x
  have h2 := Int32.toInt_lt x
  constructor <;> omega
theorem tk_r1 (x : Int64) : tk_r 1 x.toInt := by
  have h1 := Int64.le_toInt x
  have h2 := Int64.toInt_lt x
  constructor <;> omega
theorem tk_v0 {ω : tk_O} (x : Int32) : tk_v ω 0 x.toInt = .int x := by simp [tk_v]
theorem tk_v1 {ω : tk_O} (x : Int64) : tk_v ω 1 x.toInt = .long x := by simp [tk_v]
theorem tk_sum0 {ω : tk_O} {v : Int} {st : List Value} {d : Nat} (h : tk_sum st ≤ d) : tk_sum (tk_v ω 0 v :: st) ≤ d + 1 := by
  simp only [tk_sum, List.map_cons, List.sum_cons, tk_v, Value.category] at h ⊢
  omega
theorem tk_sum1 {ω : tk_O} {v : Int} {st : List Value} {d : Nat} (h : tk_sum st ≤ d) : tk_sum (tk_v ω 1 v :: st) ≤ d + 2 := by
  simp only [tk_sum, List.map_cons, List.sum_cons, tk_v, Value.category] at h ⊢
  omega
theorem tk_cat {ω : tk_O} {t : Nat} {v : Int} : (tk_v ω t v).category = if t = 1 then 2 else 1 := by
  unfold tk_v
  split
  · rfl
  · rfl
  · split <;> rfl
  · rename_i h1 _
    rw [if_neg (fun z => h1 z)]
    rfl
theorem tk_sumg {ω : tk_O} {t : Nat} {v : Int} {st : List Value} {d : Nat} (h : tk_sum st ≤ d) : tk_sum (tk_v ω t v :: st) ≤ d + (if t = 1 then 2 else 1) := by
  unfold tk_sum at h ⊢
  rw [List.map_cons, List.sum_cons, tk_cat]
  omega
theorem tk_sum2 {ω : tk_O} {v : Int} {st : List Value} {d : Nat} (h : tk_sum st ≤ d) : tk_sum (tk_v ω 2 v :: st) ≤ d + 1 := tk_sumg (t := 2) h
/-! ===== expressions ===== -/
def tk_lit (n : Int) : tk_Ex := fun Q _ μ => Q n μ
def tk_loc (k : Nat) : tk_Ex := fun Q ρ μ => Q (ρ k) μ
def tk_u1 (f : Int → Int) (a : tk_Ex) : tk_Ex := fun Q ρ μ => a (fun x μ1 => Q (f x) μ1) ρ μ
def tk_bin (f : Int → Int → Int) (a b : tk_Ex) : tk_Ex := fun Q ρ μ => a (fun x μ1 => b (fun y μ2 => Q (f x y) μ2) ρ μ1) ρ μ
/-- a division: not by 0 -/
def tk_dv (f : Int → Int → Int) (a b : tk_Ex) : tk_Ex := fun Q ρ μ => a (fun x μ1 => b (fun y μ2 => ¬ y = 0 ∧ Q (f x y) μ2) ρ μ1) ρ μ
def tk_gf (ci : Nat) (j : Int) (a : tk_Ex) : tk_Ex := fun Q ρ μ => a (fun x μ1 => tk_isC ci x ∧ Q (μ1 x j) μ1) ρ μ
def tk_gr (ci : Nat) (dl : Int) (a : tk_Ex) : tk_Ex := fun Q ρ μ => a (fun x μ1 => tk_isC ci x ∧ Q (x + dl) μ1) ρ μ
/-- a field that holds a cell or null: a cell must be there -/
def tk_gn (ci : Nat) (j : Int) (a : tk_Ex) : tk_Ex := fun Q ρ μ => a (fun x μ1 => tk_isC ci x ∧ 0 ≤ μ1 x j ∧ Q (μ1 x j) μ1) ρ μ
def tk_ald (t : Nat) (a b : tk_Ex) : tk_Ex := fun Q ρ μ => a (fun x μ1 => b (fun i μ2 => (0 ≤ i ∧ i < tk_al t x) ∧ Q (μ2 x i) μ2) ρ μ1) ρ μ
def tk_aldq (a b : tk_Ex) : tk_Ex := fun Q ρ μ => a (fun x μ1 => b (fun i μ2 => (0 ≤ i ∧ i < tk_al 9 x) ∧ Q (x + 1 + 2 * i) μ2) ρ μ1) ρ μ
def tk_aln (t : Nat) (a : tk_Ex) : tk_Ex := fun Q ρ μ => a (fun x μ1 => 0 < tk_al t x ∧ Q (tk_al t x) μ1) ρ μ
def tk_unl : tk_Ex := fun Q _ μ => Q 7 μ
def tk_una (a : tk_Ex) : tk_Ex := fun Q ρ μ => a (fun i μ1 => (0 ≤ i ∧ i < 7) ∧ Q (tk_un i.toNat) μ1) ρ μ
def tk_ter (C : tk_Cn) (a b : tk_Ex) : tk_Ex := fun Q ρ μ => C (fun μ1 => a Q ρ μ1) (fun μ1 => b Q ρ μ1) ρ μ
def tk_args : List tk_Ex → (List Int → tk_M → Prop) → tk_L → tk_M → Prop
  | [], Q, _, μ => Q [] μ
  | e :: es, Q, ρ, μ => e (fun v μ1 => tk_args es (fun vs μ2 => Q (v :: vs) μ2) ρ μ1) ρ μ
abbrev tk_F : Type := List Int → (Int → tk_M → Prop) → tk_M → Prop
def tk_cs (F : tk_F) (es : List tk_Ex) : tk_Ex := fun Q ρ μ => tk_args es (fun vs μ1 => F vs Q μ1) ρ μ
def tk_cv (ci : Nat) (F : tk_F) (es : List tk_Ex) : tk_Ex := fun Q ρ μ => tk_args es (fun vs μ1 => tk_isC ci (vs.headD 0) ∧ F vs Q μ1) ρ μ

def tk_iadd (x y : Int) : Int := ((Int32.ofInt x) + (Int32.ofInt y)).toInt
theorem tk_ok_iadd {ν : tk_N} {Γ : List (Nat × Nat)} {d pc p1 p2 : Nat} {a b : tk_Ex} (ha : tk_E ν Γ d a 0 pc p1) (hb : tk_E ν Γ (d + 1) b 0 p1 p2) (hd : decode ν.1 p2 = .ok (.iadd, 1)) : tk_E ν Γ d (tk_bin tk_iadd a b) 0 pc (p2 + 1) := by
  intro κ X st hst ρ μ Q hr h k
  refine ha κ X st hst ρ μ _ hr h (fun x μ1 h1 _ => ?_)
  refine hb κ X _ (tk_sum0 hst) ρ μ1 _ hr h1 (fun y μ2 h2 _ H ls locs hP hS hl => ?_)
  have h3 := k _ μ2 h2 (tk_r0 _) H ls locs hP hS hl
  rw [tk_iadd, tk_v0] at h3
  exact lv_iadd X.1 X.2.1 hd h3
def tk_isub (x y : Int) : Int := ((Int32.ofInt x) - (Int32.ofInt y)).toInt
theorem tk_ok_isub {ν : tk_N} {Γ : List (Nat × Nat)} {d pc p1 p2 : Nat} {a b : tk_Ex} (ha : tk_E ν Γ d a 0 pc p1) (hb : tk_E ν Γ (d + 1) b 0 p1 p2) (hd : decode ν.1 p2 = .ok (.isub, 1)) : tk_E ν Γ d (tk_bin tk_isub a b) 0 pc (p2 + 1) := by
  intro κ X st hst ρ μ Q hr h k
  refine ha κ X st hst ρ μ _ hr h (fun x μ1 h1 _ => ?_)
  refine hb κ X _ (tk_sum0 hst) ρ μ1 _ hr h1 (fun y μ2 h2 _ H ls locs hP hS hl => ?_)
  have h3 := k _ μ2 h2 (tk_r0 _) H ls locs hP hS hl
  rw [tk_isub, tk_v0] at h3
  exact lv_isub X.1 X.2.1 hd h3
def tk_imul (x y : Int) : Int := ((Int32.ofInt x) * (Int32.ofInt y)).toInt
theorem tk_ok_imul {ν : tk_N} {Γ : List (Nat × Nat)} {d pc p1 p2 : Nat} {a b : tk_Ex} (ha : tk_E ν Γ d a 0 pc p1) (hb : tk_E ν Γ (d + 1) b 0 p1 p2) (hd : decode ν.1 p2 = .ok (.imul, 1)) : tk_E ν Γ d (tk_bin tk_imul a b) 0 pc (p2 + 1) := by
  intro κ X st hst ρ μ Q hr h k
  refine ha κ X st hst ρ μ _ hr h (fun x μ1 h1 _ => ?_)
  refine hb κ X _ (tk_sum0 hst) ρ μ1 _ hr h1 (fun y μ2 h2 _ H ls locs hP hS hl => ?_)
  have h3 := k _ μ2 h2 (tk_r0 _) H ls locs hP hS hl
  rw [tk_imul, tk_v0] at h3
  exact lv_imul X.1 X.2.1 hd h3
def tk_iand (x y : Int) : Int := ((Int32.ofInt x) &&& (Int32.ofInt y)).toInt
theorem tk_ok_iand {ν : tk_N} {Γ : List (Nat × Nat)} {d pc p1 p2 : Nat} {a b : tk_Ex} (ha : tk_E ν Γ d a 0 pc p1) (hb : tk_E ν Γ (d + 1) b 0 p1 p2) (hd : decode ν.1 p2 = .ok (.iand, 1)) : tk_E ν Γ d (tk_bin tk_iand a b) 0 pc (p2 + 1) := by
  intro κ X st hst ρ μ Q hr h k
  refine ha κ X st hst ρ μ _ hr h (fun x μ1 h1 _ => ?_)
  refine hb κ X _ (tk_sum0 hst) ρ μ1 _ hr h1 (fun y μ2 h2 _ H ls locs hP hS hl => ?_)
  have h3 := k _ μ2 h2 (tk_r0 _) H ls locs hP hS hl
  rw [tk_iand, tk_v0] at h3
  exact lv_iand X.1 X.2.1 hd h3
def tk_ior (x y : Int) : Int := ((Int32.ofInt x) ||| (Int32.ofInt y)).toInt
theorem tk_ok_ior {ν : tk_N} {Γ : List (Nat × Nat)} {d pc p1 p2 : Nat} {a b : tk_Ex} (ha : tk_E ν Γ d a 0 pc p1) (hb : tk_E ν Γ (d + 1) b 0 p1 p2) (hd : decode ν.1 p2 = .ok (.ior, 1)) : tk_E ν Γ d (tk_bin tk_ior a b) 0 pc (p2 + 1) := by
  intro κ X st hst ρ μ Q hr h k
  refine ha κ X st hst ρ μ _ hr h (fun x μ1 h1 _ => ?_)
  refine hb κ X _ (tk_sum0 hst) ρ μ1 _ hr h1 (fun y μ2 h2 _ H ls locs hP hS hl => ?_)
  have h3 := k _ μ2 h2 (tk_r0 _) H ls locs hP hS hl
  rw [tk_ior, tk_v0] at h3
  exact lv_ior X.1 X.2.1 hd h3
def tk_ixor (x y : Int) : Int := ((Int32.ofInt x) ^^^ (Int32.ofInt y)).toInt
theorem tk_ok_ixor {ν : tk_N} {Γ : List (Nat × Nat)} {d pc p1 p2 : Nat} {a b : tk_Ex} (ha : tk_E ν Γ d a 0 pc p1) (hb : tk_E ν Γ (d + 1) b 0 p1 p2) (hd : decode ν.1 p2 = .ok (.ixor, 1)) : tk_E ν Γ d (tk_bin tk_ixor a b) 0 pc (p2 + 1) := by
  intro κ X st hst ρ μ Q hr h k
  refine ha κ X st hst ρ μ _ hr h (fun x μ1 h1 _ => ?_)
  refine hb κ X _ (tk_sum0 hst) ρ μ1 _ hr h1 (fun y μ2 h2 _ H ls locs hP hS hl => ?_)
  have h3 := k _ μ2 h2 (tk_r0 _) H ls locs hP hS hl
  rw [tk_ixor, tk_v0] at h3
  exact lv_ixor X.1 X.2.1 hd h3
def tk_ishl (x y : Int) : Int := ((Int32.ofInt x) <<< ((Int32.ofInt y) &&& 31)).toInt
theorem tk_ok_ishl {ν : tk_N} {Γ : List (Nat × Nat)} {d pc p1 p2 : Nat} {a b : tk_Ex} (ha : tk_E ν Γ d a 0 pc p1) (hb : tk_E ν Γ (d + 1) b 0 p1 p2) (hd : decode ν.1 p2 = .ok (.ishl, 1)) : tk_E ν Γ d (tk_bin tk_ishl a b) 0 pc (p2 + 1) := by
  intro κ X st hst ρ μ Q hr h k
  refine ha κ X st hst ρ μ _ hr h (fun x μ1 h1 _ => ?_)
  refine hb κ X _ (tk_sum0 hst) ρ μ1 _ hr h1 (fun y μ2 h2 _ H ls locs hP hS hl => ?_)
  have h3 := k _ μ2 h2 (tk_r0 _) H ls locs hP hS hl
  rw [tk_ishl, tk_v0] at h3
  exact lv_ishl X.1 X.2.1 hd h3
def tk_ishr (x y : Int) : Int := ((Int32.ofInt x) >>> ((Int32.ofInt y) &&& 31)).toInt
theorem tk_ok_ishr {ν : tk_N} {Γ : List (Nat × Nat)} {d pc p1 p2 : Nat} {a b : tk_Ex} (ha : tk_E ν Γ d a 0 pc p1) (hb : tk_E ν Γ (d + 1) b 0 p1 p2) (hd : decode ν.1 p2 = .ok (.ishr, 1)) : tk_E ν Γ d (tk_bin tk_ishr a b) 0 pc (p2 + 1) := by
  intro κ X st hst ρ μ Q hr h k
  refine ha κ X st hst ρ μ _ hr h (fun x μ1 h1 _ => ?_)
  refine hb κ X _ (tk_sum0 hst) ρ μ1 _ hr h1 (fun y μ2 h2 _ H ls locs hP hS hl => ?_)
  have h3 := k _ μ2 h2 (tk_r0 _) H ls locs hP hS hl
  rw [tk_ishr, tk_v0] at h3
  exact lv_ishr X.1 X.2.1 hd h3
def tk_iushr (x y : Int) : Int := (((Int32.ofInt x).toUInt32 >>> ((Int32.ofInt y).toUInt32 &&& Int32.toUInt32 31)).toInt32).toInt
theorem tk_ok_iushr {ν : tk_N} {Γ : List (Nat × Nat)} {d pc p1 p2 : Nat} {a b : tk_Ex} (ha : tk_E ν Γ d a 0 pc p1) (hb : tk_E ν Γ (d + 1) b 0 p1 p2) (hd : decode ν.1 p2 = .ok (.iushr, 1)) : tk_E ν Γ d (tk_bin tk_iushr a b) 0 pc (p2 + 1) := by
  intro κ X st hst ρ μ Q hr h k
  refine ha κ X st hst ρ μ _ hr h (fun x μ1 h1 _ => ?_)
  refine hb κ X _ (tk_sum0 hst) ρ μ1 _ hr h1 (fun y μ2 h2 _ H ls locs hP hS hl => ?_)
  have h3 := k _ μ2 h2 (tk_r0 _) H ls locs hP hS hl
  rw [tk_iushr, tk_v0] at h3
  exact lv_iushr X.1 X.2.1 hd rfl h3
def tk_ladd (x y : Int) : Int := ((Int64.ofInt x) + (Int64.ofInt y)).toInt
theorem tk_ok_ladd {ν : tk_N} {Γ : List (Nat × Nat)} {d pc p1 p2 : Nat} {a b : tk_Ex} (ha : tk_E ν Γ d a 1 pc p1) (hb : tk_E ν Γ (d + 2) b 1 p1 p2) (hd : decode ν.1 p2 = .ok (.ladd, 1)) : tk_E ν Γ d (tk_bin tk_ladd a b) 1 pc (p2 + 1) := by
  intro κ X st hst ρ μ Q hr h k
  refine ha κ X st hst ρ μ _ hr h (fun x μ1 h1 _ => ?_)
  refine hb κ X _ (tk_sum1 hst) ρ μ1 _ hr h1 (fun y μ2 h2 _ H ls locs hP hS hl => ?_)
  have h3 := k _ μ2 h2 (tk_r1 _) H ls locs hP hS hl
  rw [tk_ladd, tk_v1] at h3
  exact lv_ladd X.1 X.2.1 hd h3
def tk_lsub (x y : Int) : Int := ((Int64.ofInt x) - (Int64.ofInt y)).toInt
theorem tk_ok_lsub {ν : tk_N} {Γ : List (Nat × Nat)} {d pc p1 p2 : Nat} {a b : tk_Ex} (ha : tk_E ν Γ d a 1 pc p1) (hb : tk_E ν Γ (d + 2) b 1 p1 p2) (hd : decode ν.1 p2 = .ok (.lsub, 1)) : tk_E ν Γ d (tk_bin tk_lsub a b) 1 pc (p2 + 1) := by
  intro κ X st hst ρ μ Q hr h k
  refine ha κ X st hst ρ μ _ hr h (fun x μ1 h1 _ => ?_)
  refine hb κ X _ (tk_sum1 hst) ρ μ1 _ hr h1 (fun y μ2 h2 _ H ls locs hP hS hl => ?_)
  have h3 := k _ μ2 h2 (tk_r1 _) H ls locs hP hS hl
  rw [tk_lsub, tk_v1] at h3
  exact lv_lsub X.1 X.2.1 hd h3
def tk_lmul (x y : Int) : Int := ((Int64.ofInt x) * (Int64.ofInt y)).toInt
theorem tk_ok_lmul {ν : tk_N} {Γ : List (Nat × Nat)} {d pc p1 p2 : Nat} {a b : tk_Ex} (ha : tk_E ν Γ d a 1 pc p1) (hb : tk_E ν Γ (d + 2) b 1 p1 p2) (hd : decode ν.1 p2 = .ok (.lmul, 1)) : tk_E ν Γ d (tk_bin tk_lmul a b) 1 pc (p2 + 1) := by
  intro κ X st hst ρ μ Q hr h k
  refine ha κ X st hst ρ μ _ hr h (fun x μ1 h1 _ => ?_)
  refine hb κ X _ (tk_sum1 hst) ρ μ1 _ hr h1 (fun y μ2 h2 _ H ls locs hP hS hl => ?_)
  have h3 := k _ μ2 h2 (tk_r1 _) H ls locs hP hS hl
  rw [tk_lmul, tk_v1] at h3
  exact lv_lmul X.1 X.2.1 hd h3
def tk_land (x y : Int) : Int := ((Int64.ofInt x) &&& (Int64.ofInt y)).toInt
theorem tk_ok_land {ν : tk_N} {Γ : List (Nat × Nat)} {d pc p1 p2 : Nat} {a b : tk_Ex} (ha : tk_E ν Γ d a 1 pc p1) (hb : tk_E ν Γ (d + 2) b 1 p1 p2) (hd : decode ν.1 p2 = .ok (.land, 1)) : tk_E ν Γ d (tk_bin tk_land a b) 1 pc (p2 + 1) := by
  intro κ X st hst ρ μ Q hr h k
  refine ha κ X st hst ρ μ _ hr h (fun x μ1 h1 _ => ?_)
  refine hb κ X _ (tk_sum1 hst) ρ μ1 _ hr h1 (fun y μ2 h2 _ H ls locs hP hS hl => ?_)
  have h3 := k _ μ2 h2 (tk_r1 _) H ls locs hP hS hl
  rw [tk_land, tk_v1] at h3
  exact lv_land X.1 X.2.1 hd h3
def tk_lor (x y : Int) : Int := ((Int64.ofInt x) ||| (Int64.ofInt y)).toInt
theorem tk_ok_lor {ν : tk_N} {Γ : List (Nat × Nat)} {d pc p1 p2 : Nat} {a b : tk_Ex} (ha : tk_E ν Γ d a 1 pc p1) (hb : tk_E ν Γ (d + 2) b 1 p1 p2) (hd : decode ν.1 p2 = .ok (.lor, 1)) : tk_E ν Γ d (tk_bin tk_lor a b) 1 pc (p2 + 1) := by
  intro κ X st hst ρ μ Q hr h k
  refine ha κ X st hst ρ μ _ hr h (fun x μ1 h1 _ => ?_)
  refine hb κ X _ (tk_sum1 hst) ρ μ1 _ hr h1 (fun y μ2 h2 _ H ls locs hP hS hl => ?_)
  have h3 := k _ μ2 h2 (tk_r1 _) H ls locs hP hS hl
  rw [tk_lor, tk_v1] at h3
  exact lv_lor X.1 X.2.1 hd h3
def tk_lshl (x y : Int) : Int := ((Int64.ofInt x) <<< ((Int32.ofInt y).toInt64 &&& 63)).toInt
theorem tk_ok_lshl {ν : tk_N} {Γ : List (Nat × Nat)} {d pc p1 p2 : Nat} {a b : tk_Ex} (ha : tk_E ν Γ d a 1 pc p1) (hb : tk_E ν Γ (d + 2) b 0 p1 p2) (hd : decode ν.1 p2 = .ok (.lshl, 1)) : tk_E ν Γ d (tk_bin tk_lshl a b) 1 pc (p2 + 1) := by
  intro κ X st hst ρ μ Q hr h k
  refine ha κ X st hst ρ μ _ hr h (fun x μ1 h1 _ => ?_)
  refine hb κ X _ (tk_sum1 hst) ρ μ1 _ hr h1 (fun y μ2 h2 _ H ls locs hP hS hl => ?_)
  have h3 := k _ μ2 h2 (tk_r1 _) H ls locs hP hS hl
  rw [tk_lshl, tk_v1] at h3
  exact lv_lshl X.1 X.2.1 hd rfl h3
def tk_idiv (x y : Int) : Int := ((Int32.ofInt x) / (Int32.ofInt y)).toInt
theorem tk_ok_idiv {ν : tk_N} {Γ : List (Nat × Nat)} {d pc p1 p2 : Nat} {a b : tk_Ex} (ha : tk_E ν Γ d a 0 pc p1) (hb : tk_E ν Γ (d + 1) b 0 p1 p2) (hd : decode ν.1 p2 = .ok (.idiv, 1)) : tk_E ν Γ d (tk_dv tk_idiv a b) 0 pc (p2 + 1) := by
  intro κ X st hst ρ μ Q hr h k
  refine ha κ X st hst ρ μ _ hr h (fun x μ1 h1 _ => ?_)
  refine hb κ X _ (tk_sum0 hst) ρ μ1 _ hr h1 (fun y μ2 h2 hy H ls locs hP hS hl => ?_)
  have h3 := k _ μ2 h2.2 (tk_r0 _) H ls locs hP hS hl
  rw [tk_idiv, tk_v0] at h3
  refine lv_idiv X.1 X.2.1 hd (fun z => h2.1 ?_) h3
  have h4 := tk_ofI hy
  rw [z] at h4
  rw [← h4]
  rfl
def tk_irem (x y : Int) : Int := ((Int32.ofInt x) - (Int32.ofInt x) / (Int32.ofInt y) * (Int32.ofInt y)).toInt
theorem tk_ok_irem {ν : tk_N} {Γ : List (Nat × Nat)} {d pc p1 p2 : Nat} {a b : tk_Ex} (ha : tk_E ν Γ d a 0 pc p1) (hb : tk_E ν Γ (d + 1) b 0 p1 p2) (hd : decode ν.1 p2 = .ok (.irem, 1)) : tk_E ν Γ d (tk_dv tk_irem a b) 0 pc (p2 + 1) := by
  intro κ X st hst ρ μ Q hr h k
  refine ha κ X st hst ρ μ _ hr h (fun x μ1 h1 _ => ?_)
  refine hb κ X _ (tk_sum0 hst) ρ μ1 _ hr h1 (fun y μ2 h2 hy H ls locs hP hS hl => ?_)
  have h3 := k _ μ2 h2.2 (tk_r0 _) H ls locs hP hS hl
  rw [tk_irem, tk_v0] at h3
  refine lv_irem X.1 X.2.1 hd (fun z => h2.1 ?_) h3
  have h4 := tk_ofI hy
  rw [z] at h4
  rw [← h4]
  rfl
def tk_ldiv (x y : Int) : Int := ((Int64.ofInt x) / (Int64.ofInt y)).toInt
theorem tk_ok_ldiv {ν : tk_N} {Γ : List (Nat × Nat)} {d pc p1 p2 : Nat} {a b : tk_Ex} (ha : tk_E ν Γ d a 1 pc p1) (hb : tk_E ν Γ (d + 2) b 1 p1 p2) (hd : decode ν.1 p2 = .ok (.ldiv, 1)) : tk_E ν Γ d (tk_dv tk_ldiv a b) 1 pc (p2 + 1) := by
  intro κ X st hst ρ μ Q hr h k
  refine ha κ X st hst ρ μ _ hr h (fun x μ1 h1 _ => ?_)
  refine hb κ X _ (tk_sum1 hst) ρ μ1 _ hr h1 (fun y μ2 h2 hy H ls locs hP hS hl => ?_)
  have h3 := k _ μ2 h2.2 (tk_r1 _) H ls locs hP hS hl
  rw [tk_ldiv, tk_v1] at h3
  refine lv_ldiv X.1 X.2.1 hd (fun z => h2.1 ?_) h3
  have h4 := tk_ofL hy
  rw [z] at h4
  rw [← h4]
  rfl
def tk_lrem (x y : Int) : Int := ((Int64.ofInt x) - (Int64.ofInt x) / (Int64.ofInt y) * (Int64.ofInt y)).toInt
theorem tk_ok_lrem {ν : tk_N} {Γ : List (Nat × Nat)} {d pc p1 p2 : Nat} {a b : tk_Ex} (ha : tk_E ν Γ d a 1 pc p1) (hb : tk_E ν Γ (d + 2) b 1 p1 p2) (hd : decode ν.1 p2 = .ok (.lrem, 1)) : tk_E ν Γ d (tk_dv tk_lrem a b) 1 pc (p2 + 1) := by
  intro κ X st hst ρ μ Q hr h k
  refine ha κ X st hst ρ μ _ hr h (fun x μ1 h1 _ => ?_)
  refine hb κ X _ (tk_sum1 hst) ρ μ1 _ hr h1 (fun y μ2 h2 hy H ls locs hP hS hl => ?_)
  have h3 := k _ μ2 h2.2 (tk_r1 _) H ls locs hP hS hl
  rw [tk_lrem, tk_v1] at h3
  refine lv_lrem X.1 X.2.1 hd (fun z => h2.1 ?_) h3
  have h4 := tk_ofL hy
  rw [z] at h4
  rw [← h4]
  rfl
def tk_ineg (x : Int) : Int := (-(Int32.ofInt x)).toInt
theorem tk_ok_ineg {ν : tk_N} {Γ : List (Nat × Nat)} {d pc p1 : Nat} {a : tk_Ex} (ha : tk_E ν Γ d a 0 pc p1) (hd : decode ν.1 p1 = .ok (.ineg, 1)) : tk_E ν Γ d (tk_u1 tk_ineg a) 0 pc (p1 + 1) := by
  intro κ X st hst ρ μ Q hr h k
  refine ha κ X st hst ρ μ _ hr h (fun x μ1 h1 _ H ls locs hP hS hl => ?_)
  have h3 := k _ μ1 h1 (tk_r0 _) H ls locs hP hS hl
  rw [tk_ineg, tk_v0] at h3
  exact lv_ineg X.1 X.2.1 hd h3
def tk_lneg (x : Int) : Int := (-(Int64.ofInt x)).toInt
theorem tk_ok_lneg {ν : tk_N} {Γ : List (Nat × Nat)} {d pc p1 : Nat} {a : tk_Ex} (ha : tk_E ν Γ d a 1 pc p1) (hd : decode ν.1 p1 = .ok (.lneg, 1)) : tk_E ν Γ d (tk_u1 tk_lneg a) 1 pc (p1 + 1) := by
  intro κ X st hst ρ μ Q hr h k
  refine ha κ X st hst ρ μ _ hr h (fun x μ1 h1 _ H ls locs hP hS hl => ?_)
  have h3 := k _ μ1 h1 (tk_r1 _) H ls locs hP hS hl
  rw [tk_lneg, tk_v1] at h3
  exact lv_lneg X.1 X.2.1 hd h3
def tk_i2b (x : Int) : Int := ((Int32.ofInt x).toInt8.toInt32).toInt
theorem tk_ok_i2b {ν : tk_N} {Γ : List (Nat × Nat)} {d pc p1 : Nat} {a : tk_Ex} (ha : tk_E ν Γ d a 0 pc p1) (hd : decode ν.1 p1 = .ok (.i2b, 1)) : tk_E ν Γ d (tk_u1 tk_i2b a) 0 pc (p1 + 1) := by
  intro κ X st hst ρ μ Q hr h k
  refine ha κ X st hst ρ μ _ hr h (fun x μ1 h1 _ H ls locs hP hS hl => ?_)
  have h3 := k _ μ1 h1 (tk_r0 _) H ls locs hP hS hl
  rw [tk_i2b, tk_v0] at h3
  exact lv_i2b X.1 X.2.1 hd rfl h3
def tk_i2s (x : Int) : Int := ((Int32.ofInt x).toInt16.toInt32).toInt
theorem tk_ok_i2s {ν : tk_N} {Γ : List (Nat × Nat)} {d pc p1 : Nat} {a : tk_Ex} (ha : tk_E ν Γ d a 0 pc p1) (hd : decode ν.1 p1 = .ok (.i2s, 1)) : tk_E ν Γ d (tk_u1 tk_i2s a) 0 pc (p1 + 1) := by
  intro κ X st hst ρ μ Q hr h k
  refine ha κ X st hst ρ μ _ hr h (fun x μ1 h1 _ H ls locs hP hS hl => ?_)
  have h3 := k _ μ1 h1 (tk_r0 _) H ls locs hP hS hl
  rw [tk_i2s, tk_v0] at h3
  exact lv_i2s X.1 X.2.1 hd rfl h3
def tk_l2i (x : Int) : Int := ((Int64.ofInt x).toInt32).toInt
theorem tk_ok_l2i {ν : tk_N} {Γ : List (Nat × Nat)} {d pc p1 : Nat} {a : tk_Ex} (ha : tk_E ν Γ d a 1 pc p1) (hd : decode ν.1 p1 = .ok (.l2i, 1)) : tk_E ν Γ d (tk_u1 tk_l2i a) 0 pc (p1 + 1) := by
  intro κ X st hst ρ μ Q hr h k
  refine ha κ X st hst ρ μ _ hr h (fun x μ1 h1 _ H ls locs hP hS hl => ?_)
  have h3 := k _ μ1 h1 (tk_r0 _) H ls locs hP hS hl
  rw [tk_l2i, tk_v0] at h3
  exact lv_l2i X.1 X.2.1 hd rfl h3
theorem tk_i64 {x : Int} (h : tk_r 0 x) : (Int32.ofInt x).toInt64 = Int64.ofInt x := by
  apply Int64.toInt_inj.mp
  rw [Int32.toInt_toInt64, tk_ofI h, tk_ofL (by obtain ⟨h1, h2⟩ := h; exact ⟨by omega, by omega⟩)]
theorem tk_ok_i2l {ν : tk_N} {Γ : List (Nat × Nat)} {d pc p1 : Nat} {a : tk_Ex} (ha : tk_E ν Γ d a 0 pc p1) (hd : decode ν.1 p1 = .ok (.i2l, 1)) : tk_E ν Γ d a 1 pc (p1 + 1) := by
  intro κ X st hst ρ μ Q hr h k
  refine ha κ X st hst ρ μ _ hr h (fun x μ1 h1 hx H ls locs hP hS hl => ?_)
  have h3 := k _ μ1 h1 (by obtain ⟨h1, h2⟩ := hx; exact ⟨by omega, by omega⟩) H ls locs hP hS hl
  exact lv_i2l X.1 X.2.1 hd (tk_i64 hx) h3
theorem tk_ok_iconst {ν : tk_N} {Γ : List (Nat × Nat)} {d pc : Nat} (n : Int) (hd : decode ν.1 pc = .ok (.iconst n, 1)) (hv : Int32.ofInt n = Int32.ofInt n) (hr : (Int32.ofInt n).toInt = n) : tk_E ν Γ d (tk_lit n) 0 pc (pc + 1) := by
  intro κ X st hst ρ μ Q _ h k H ls locs hP hS hl
  exact lv_iconst X.1 X.2.1 hd hv (k _ μ h (by rw [← hr]; exact tk_r0 _) H ls locs hP hS hl)
theorem tk_ok_bipush {ν : tk_N} {Γ : List (Nat × Nat)} {d pc : Nat} (n : Int) (hd : decode ν.1 pc = .ok (.bipush n, 2)) (hv : (Int8.ofInt n).toInt32 = Int32.ofInt n) (hr : (Int32.ofInt n).toInt = n) : tk_E ν Γ d (tk_lit n) 0 pc (pc + 2) := by
  intro κ X st hst ρ μ Q _ h k H ls locs hP hS hl
  exact lv_bipush X.1 X.2.1 hd hv (k _ μ h (by rw [← hr]; exact tk_r0 _) H ls locs hP hS hl)
theorem tk_ok_sipush {ν : tk_N} {Γ : List (Nat × Nat)} {d pc : Nat} (n : Int) (hd : decode ν.1 pc = .ok (.sipush n, 3)) (hv : (Int16.ofInt n).toInt32 = Int32.ofInt n) (hr : (Int32.ofInt n).toInt = n) : tk_E ν Γ d (tk_lit n) 0 pc (pc + 3) := by
  intro κ X st hst ρ μ Q _ h k H ls locs hP hS hl
  exact lv_sipush X.1 X.2.1 hd hv (k _ μ h (by rw [← hr]; exact tk_r0 _) H ls locs hP hS hl)
theorem tk_ok_lconst {ν : tk_N} {Γ : List (Nat × Nat)} {d pc : Nat} (n : Fin 2) (m : Int) (hd : decode ν.1 pc = .ok (.lconst n, 1)) (hv : Int64.ofNat (n : Nat) = Int64.ofInt m) (hr : (Int64.ofInt m).toInt = m) : tk_E ν Γ d (tk_lit m) 1 pc (pc + 1) := by
  intro κ X st hst ρ μ Q _ h k H ls locs hP hS hl
  exact lv_lconst X.1 X.2.1 hd hv (k _ μ h (by rw [← hr]; exact tk_r1 _) H ls locs hP hS hl)
theorem tk_ok_ldc {ν : tk_N} {Γ : List (Nat × Nat)} {d pc : Nat} (n : Int) (ix : Nat) (hd : decode ν.1 pc = .ok (.ldc ix, 2)) (hw : Cond.constant ν.2.1 ix (Int32.ofInt n) ∈ tk_tbl) (hr : (Int32.ofInt n).toInt = n) : tk_E ν Γ d (tk_lit n) 0 pc (pc + 2) := by
  intro κ X st hst ρ μ Q _ h k H ls locs hP hS hl
  exact lv_ldc X.1 X.2.1 X.2.2.2.1 (X.2.2.2.2.1 _ hw) hd (k _ μ h (by rw [← hr]; exact tk_r0 _) H ls locs hP hS hl)
theorem tk_ok_ldcw {ν : tk_N} {Γ : List (Nat × Nat)} {d pc : Nat} (n : Int) (ix : Nat) (hd : decode ν.1 pc = .ok (.ldc_w ix, 3)) (hw : Cond.constant ν.2.1 ix (Int32.ofInt n) ∈ tk_tbl) (hr : (Int32.ofInt n).toInt = n) : tk_E ν Γ d (tk_lit n) 0 pc (pc + 3) := by
  intro κ X st hst ρ μ Q _ h k H ls locs hP hS hl
  exact lv_ldcw X.1 X.2.1 X.2.2.2.1 (X.2.2.2.2.1 _ hw) hd (k _ μ h (by rw [← hr]; exact tk_r0 _) H ls locs hP hS hl)
theorem tk_ok_ldc2 {ν : tk_N} {Γ : List (Nat × Nat)} {d pc : Nat} (n : Int) (ix : Nat) (hd : decode ν.1 pc = .ok (.ldc2_w ix, 3)) (hw : Cond.constantLong ν.2.1 ix (Int64.ofInt n) ∈ tk_tbl) (hr : (Int64.ofInt n).toInt = n) : tk_E ν Γ d (tk_lit n) 1 pc (pc + 3) := by
  intro κ X st hst ρ μ Q _ h k H ls locs hP hS hl
  exact lv_ldc2 X.1 X.2.1 X.2.2.2.1 (X.2.2.2.2.1 _ hw) hd (k _ μ h (by rw [← hr]; exact tk_r1 _) H ls locs hP hS hl)
theorem tk_lv_at {ω : tk_O} {ls : Array Slot} {nL k t : Nat} {Γ : List (Nat × Nat)} {ρ : tk_L} (h : lv_has ls nL (tk_lv ω Γ ρ)) (hk : (k, t) ∈ Γ) : ls[k]? = some (.val (tk_v ω t (ρ k))) := h.2.2 (k, tk_v ω t (ρ k)) (List.mem_map.mpr ⟨(k, t), hk, rfl⟩)
theorem tk_ok_iload_n {ν : tk_N} {Γ : List (Nat × Nat)} {d pc : Nat} (i : Fin 4) (k : Nat) (hd : decode ν.1 pc = .ok (.iload_n i, 1)) (hi : (i : Nat) = k) (hk : (k, 0) ∈ Γ) : tk_E ν Γ d (tk_loc k) 0 pc (pc + 1) := by
  intro κ X st hst ρ μ Q hr h kk H ls locs hP hS hl
  exact lv_iload_n X.1 X.2.1 hd hi (tk_lv_at hl hk) (kk _ μ h (hr _ hk) H ls locs hP hS hl)
theorem tk_ok_iload {ν : tk_N} {Γ : List (Nat × Nat)} {d pc : Nat} (k : Nat) (hd : decode ν.1 pc = .ok (.iload k, 2)) (hk : (k, 0) ∈ Γ) : tk_E ν Γ d (tk_loc k) 0 pc (pc + 2) := by
  intro κ X st hst ρ μ Q hr h kk H ls locs hP hS hl
  exact lv_iload X.1 X.2.1 hd (tk_lv_at hl hk) (kk _ μ h (hr _ hk) H ls locs hP hS hl)
theorem tk_ok_lload_n {ν : tk_N} {Γ : List (Nat × Nat)} {d pc : Nat} (i : Fin 4) (k : Nat) (hd : decode ν.1 pc = .ok (.lload_n i, 1)) (hi : (i : Nat) = k) (hk : (k, 1) ∈ Γ) : tk_E ν Γ d (tk_loc k) 1 pc (pc + 1) := by
  intro κ X st hst ρ μ Q hr h kk H ls locs hP hS hl
  exact lv_lload_n X.1 X.2.1 hd hi (tk_lv_at hl hk) (kk _ μ h (hr _ hk) H ls locs hP hS hl)
theorem tk_ok_lload {ν : tk_N} {Γ : List (Nat × Nat)} {d pc : Nat} (k : Nat) (hd : decode ν.1 pc = .ok (.lload k, 2)) (hk : (k, 1) ∈ Γ) : tk_E ν Γ d (tk_loc k) 1 pc (pc + 2) := by
  intro κ X st hst ρ μ Q hr h kk H ls locs hP hS hl
  exact lv_lload X.1 X.2.1 hd (tk_lv_at hl hk) (kk _ μ h (hr _ hk) H ls locs hP hS hl)
theorem tk_v2 {ω : tk_O} {v : Int} (h : 0 ≤ v) : tk_v ω 2 v = .ref (tk_bs ω + v.toNat) := by
  simp only [tk_v]
  rw [if_neg (by omega)]
theorem tk_ok_aload_n2 {ν : tk_N} {Γ : List (Nat × Nat)} {d pc : Nat} (i : Fin 4) (k : Nat) (hd : decode ν.1 pc = .ok (.aload_n i, 1)) (hi : (i : Nat) = k) (hk : (k, 2) ∈ Γ) : tk_E ν Γ d (tk_loc k) 2 pc (pc + 1) := by
  intro κ X st hst ρ μ Q hr h kk H ls locs hP hS hl
  have h1 := tk_lv_at hl hk
  have h2 := kk _ μ h (hr _ hk) H ls locs hP hS hl
  rw [tk_v2 (hr _ hk)] at h1 h2
  exact lv_aload_n X.1 X.2.1 hd hi h1 h2
theorem tk_ok_aload2 {ν : tk_N} {Γ : List (Nat × Nat)} {d pc : Nat} (k : Nat) (hd : decode ν.1 pc = .ok (.aload k, 2)) (hk : (k, 2) ∈ Γ) : tk_E ν Γ d (tk_loc k) 2 pc (pc + 2) := by
  intro κ X st hst ρ μ Q hr h kk H ls locs hP hS hl
  have h1 := tk_lv_at hl hk
  have h2 := kk _ μ h (hr _ hk) H ls locs hP hS hl
  rw [tk_v2 (hr _ hk)] at h1 h2
  exact lv_aload X.1 X.2.1 hd h1 h2
theorem tk_ok_aload_n3 {ν : tk_N} {Γ : List (Nat × Nat)} {d pc : Nat} (i : Fin 4) (k : Nat) (hd : decode ν.1 pc = .ok (.aload_n i, 1)) (hi : (i : Nat) = k) (hk : (k, 3) ∈ Γ) : tk_E ν Γ d (tk_loc k) 3 pc (pc + 1) := by
  intro κ X st hst ρ μ Q hr h kk H ls locs hP hS hl
  have h1 := tk_lv_at hl hk
  have h2 := kk _ μ h (hr _ hk) H ls locs hP hS hl
  exact lv_aload_n X.1 X.2.1 hd hi h1 h2
theorem tk_ok_aload3 {ν : tk_N} {Γ : List (Nat × Nat)} {d pc : Nat} (k : Nat) (hd : decode ν.1 pc = .ok (.aload k, 2)) (hk : (k, 3) ∈ Γ) : tk_E ν Γ d (tk_loc k) 3 pc (pc + 2) := by
  intro κ X st hst ρ μ Q hr h kk H ls locs hP hS hl
  have h1 := tk_lv_at hl hk
  have h2 := kk _ μ h (hr _ hk) H ls locs hP hS hl
  exact lv_aload X.1 X.2.1 hd h1 h2
