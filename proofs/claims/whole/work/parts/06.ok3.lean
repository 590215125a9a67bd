/-! ===== conditions ===== -/
def tk_ceq (a b : tk_Ex) : tk_Cn := fun Qt Qf ρ μ => a (fun x μ1 => b (fun y μ2 => if x = y then Qt μ2 else Qf μ2) ρ μ1) ρ μ
def tk_zeq (a : tk_Ex) : tk_Cn := fun Qt Qf ρ μ => a (fun x μ1 => if x = 0 then Qt μ1 else Qf μ1) ρ μ
def tk_cne (a b : tk_Ex) : tk_Cn := fun Qt Qf ρ μ => a (fun x μ1 => b (fun y μ2 => if ¬ x = y then Qt μ2 else Qf μ2) ρ μ1) ρ μ
def tk_zne (a : tk_Ex) : tk_Cn := fun Qt Qf ρ μ => a (fun x μ1 => if ¬ x = 0 then Qt μ1 else Qf μ1) ρ μ
def tk_clt (a b : tk_Ex) : tk_Cn := fun Qt Qf ρ μ => a (fun x μ1 => b (fun y μ2 => if x < y then Qt μ2 else Qf μ2) ρ μ1) ρ μ
def tk_zlt (a : tk_Ex) : tk_Cn := fun Qt Qf ρ μ => a (fun x μ1 => if x < 0 then Qt μ1 else Qf μ1) ρ μ
def tk_cge (a b : tk_Ex) : tk_Cn := fun Qt Qf ρ μ => a (fun x μ1 => b (fun y μ2 => if y ≤ x then Qt μ2 else Qf μ2) ρ μ1) ρ μ
def tk_zge (a : tk_Ex) : tk_Cn := fun Qt Qf ρ μ => a (fun x μ1 => if 0 ≤ x then Qt μ1 else Qf μ1) ρ μ
def tk_cgt (a b : tk_Ex) : tk_Cn := fun Qt Qf ρ μ => a (fun x μ1 => b (fun y μ2 => if y < x then Qt μ2 else Qf μ2) ρ μ1) ρ μ
def tk_zgt (a : tk_Ex) : tk_Cn := fun Qt Qf ρ μ => a (fun x μ1 => if 0 < x then Qt μ1 else Qf μ1) ρ μ
def tk_cle (a b : tk_Ex) : tk_Cn := fun Qt Qf ρ μ => a (fun x μ1 => b (fun y μ2 => if x ≤ y then Qt μ2 else Qf μ2) ρ μ1) ρ μ
def tk_zle (a : tk_Ex) : tk_Cn := fun Qt Qf ρ μ => a (fun x μ1 => if x ≤ 0 then Qt μ1 else Qf μ1) ρ μ
def tk_and (A B : tk_Cn) : tk_Cn := fun Qt Qf ρ μ => A (fun μ1 => B Qt Qf ρ μ1) Qf ρ μ
def tk_or (A B : tk_Cn) : tk_Cn := fun Qt Qf ρ μ => A Qt (fun μ1 => B Qt Qf ρ μ1) ρ μ
def tk_not (A : tk_Cn) : tk_Cn := fun Qt Qf ρ μ => A Qf Qt ρ μ
theorem tk_ok_and {ν : tk_N} {Γ : List (Nat × Nat)} {d pc p1 T F : Nat} {A B : tk_Cn} (ha : tk_Ck ν Γ d A pc p1 F) (hb : tk_Ck ν Γ d B p1 T F) : tk_Ck ν Γ d (tk_and A B) pc T F := by
  intro κ X st hst ρ μ Qt Qf hr h kt kf
  exact ha κ X st hst ρ μ _ _ hr h (fun μ1 h1 => hb κ X st hst ρ μ1 _ _ hr h1 kt kf) kf
theorem tk_ok_or {ν : tk_N} {Γ : List (Nat × Nat)} {d pc p1 T F : Nat} {A B : tk_Cn} (ha : tk_Ck ν Γ d A pc T p1) (hb : tk_Ck ν Γ d B p1 T F) : tk_Ck ν Γ d (tk_or A B) pc T F := by
  intro κ X st hst ρ μ Qt Qf hr h kt kf
  exact ha κ X st hst ρ μ _ _ hr h kt (fun μ1 h1 => hb κ X st hst ρ μ1 _ _ hr h1 kt kf)
theorem tk_ok_not {ν : tk_N} {Γ : List (Nat × Nat)} {d pc T F : Nat} {A : tk_Cn} (ha : tk_Ck ν Γ d A pc F T) : tk_Ck ν Γ d (tk_not A) pc T F := by
  intro κ X st hst ρ μ Qt Qf hr h kt kf
  exact ha κ X st hst ρ μ _ _ hr h kf kt
theorem tk_eqI {x y : Int} (hx : tk_r 0 x) (hy : tk_r 0 y) : (Int32.ofInt x = Int32.ofInt y) ↔ x = y := ⟨fun h => by rw [← tk_ofI hx, ← tk_ofI hy, h], fun h => by rw [h]⟩
theorem tk_ltI {x y : Int} (hx : tk_r 0 x) (hy : tk_r 0 y) : (Int32.ofInt x < Int32.ofInt y) ↔ x < y := by rw [Int32.lt_iff_toInt_lt, tk_ofI hx, tk_ofI hy]
theorem tk_leI {x y : Int} (hx : tk_r 0 x) (hy : tk_r 0 y) : (Int32.ofInt x ≤ Int32.ofInt y) ↔ x ≤ y := by rw [Int32.le_iff_toInt_le, tk_ofI hx, tk_ofI hy]
theorem tk_eqL {x y : Int} (hx : tk_r 1 x) (hy : tk_r 1 y) : (Int64.ofInt x = Int64.ofInt y) ↔ x = y := ⟨fun h => by rw [← tk_ofL hx, ← tk_ofL hy, h], fun h => by rw [h]⟩
theorem tk_ltL {x y : Int} (hx : tk_r 1 x) (hy : tk_r 1 y) : (Int64.ofInt x < Int64.ofInt y) ↔ x < y := by rw [Int64.lt_iff_toInt_lt, tk_ofL hx, tk_ofL hy]
theorem tk_cmp {x y : Int} (hx : tk_r 1 x) (hy : tk_r 1 y) : lg_cmp (Int64.ofInt x) (Int64.ofInt y) = Int32.ofInt (if y < x then 1 else if x = y then 0 else -1) := by
  have e1 : (Int64.ofInt x > Int64.ofInt y) ↔ y < x := tk_ltL hy hx
  have e2 := tk_eqL hx hy
  unfold lg_cmp
  by_cases h1 : y < x
  · rw [if_pos (e1.mpr h1), if_pos h1]; rfl
  · rw [if_neg (fun z => h1 (e1.mp z)), if_neg h1]
    by_cases h2 : x = y
    · rw [if_pos (e2.mpr h2), if_pos h2]; rfl
    · rw [if_neg (fun z => h2 (e2.mp z)), if_neg h2]; rfl
/-- the six jumps on two ints, in ints -/
def tk_rl (r : Nat) (x y : Int) : Prop := match r with
  | 0 => x = y
  | 1 => ¬ x = y
  | 2 => x < y
  | 3 => y ≤ x
  | 4 => y < x
  | _ => x ≤ y
theorem tk_j2eq {κ : tk_K} {ν : tk_N} {H : Heap} {locs : List Loc} {ls : Array Slot} {pc tgt : Nat} {st : List Value} {off : Int} (X : tk_X κ ν) {x y : Int} (hx : tk_r 0 x) (hy : tk_r 0 y) (hd : decode ν.1 pc = .ok (.if_icmp .eq off, 3)) (ht : (pc : Int) + off = (tgt : Int)) (kt : x = y → tk_W κ ν H locs tgt ls st) (kf : ¬ (x = y) → tk_W κ ν H locs (pc + 3) ls st) : tk_W κ ν H locs pc ls (.int (Int32.ofInt y) :: .int (Int32.ofInt x) :: st) := by
  refine lv_icmp_eq X.1 X.2.1 hd ht (fun z => kt ?_) (fun z => kf ?_)
  · first | exact (tk_eqI hx hy).mp z
  · first | exact fun w => z ((tk_eqI hx hy).mpr w)
theorem tk_j1eq {κ : tk_K} {ν : tk_N} {H : Heap} {locs : List Loc} {ls : Array Slot} {pc tgt : Nat} {st : List Value} {off : Int} (X : tk_X κ ν) {x : Int} (hx : tk_r 0 x) (hd : decode ν.1 pc = .ok (.ifCond .eq off, 3)) (ht : (pc : Int) + off = (tgt : Int)) (kt : x = 0 → tk_W κ ν H locs tgt ls st) (kf : ¬ (x = 0) → tk_W κ ν H locs (pc + 3) ls st) : tk_W κ ν H locs pc ls (.int (Int32.ofInt x) :: st) := by
  have hy : tk_r 0 0 := ⟨by omega, by omega⟩
  refine lv_if_eq X.1 X.2.1 hd ht (fun z => kt ?_) (fun z => kf ?_)
  · first | exact (tk_eqI hx hy).mp z
  · first | exact fun w => z ((tk_eqI hx hy).mpr w)
theorem tk_j2ne {κ : tk_K} {ν : tk_N} {H : Heap} {locs : List Loc} {ls : Array Slot} {pc tgt : Nat} {st : List Value} {off : Int} (X : tk_X κ ν) {x y : Int} (hx : tk_r 0 x) (hy : tk_r 0 y) (hd : decode ν.1 pc = .ok (.if_icmp .ne off, 3)) (ht : (pc : Int) + off = (tgt : Int)) (kt : ¬ x = y → tk_W κ ν H locs tgt ls st) (kf : ¬ (¬ x = y) → tk_W κ ν H locs (pc + 3) ls st) : tk_W κ ν H locs pc ls (.int (Int32.ofInt y) :: .int (Int32.ofInt x) :: st) := by
  refine lv_icmp_ne X.1 X.2.1 hd ht (fun z => kt ?_) (fun z => kf ?_)
  · first | exact fun w => z ((tk_eqI hx hy).mpr w)
  · first | exact fun w => w ((tk_eqI hx hy).mp z)
theorem tk_j1ne {κ : tk_K} {ν : tk_N} {H : Heap} {locs : List Loc} {ls : Array Slot} {pc tgt : Nat} {st : List Value} {off : Int} (X : tk_X κ ν) {x : Int} (hx : tk_r 0 x) (hd : decode ν.1 pc = .ok (.ifCond .ne off, 3)) (ht : (pc : Int) + off = (tgt : Int)) (kt : ¬ x = 0 → tk_W κ ν H locs tgt ls st) (kf : ¬ (¬ x = 0) → tk_W κ ν H locs (pc + 3) ls st) : tk_W κ ν H locs pc ls (.int (Int32.ofInt x) :: st) := by
  have hy : tk_r 0 0 := ⟨by omega, by omega⟩
  refine lv_if_ne X.1 X.2.1 hd ht (fun z => kt ?_) (fun z => kf ?_)
  · first | exact fun w => z ((tk_eqI hx hy).mpr w)
  · first | exact fun w => w ((tk_eqI hx hy).mp z)
theorem tk_j2lt {κ : tk_K} {ν : tk_N} {H : Heap} {locs : List Loc} {ls : Array Slot} {pc tgt : Nat} {st : List Value} {off : Int} (X : tk_X κ ν) {x y : Int} (hx : tk_r 0 x) (hy : tk_r 0 y) (hd : decode ν.1 pc = .ok (.if_icmp .lt off, 3)) (ht : (pc : Int) + off = (tgt : Int)) (kt : x < y → tk_W κ ν H locs tgt ls st) (kf : ¬ (x < y) → tk_W κ ν H locs (pc + 3) ls st) : tk_W κ ν H locs pc ls (.int (Int32.ofInt y) :: .int (Int32.ofInt x) :: st) := by
  refine lv_icmp_lt X.1 X.2.1 hd ht (fun z => kt ?_) (fun z => kf ?_)
  · first | exact (tk_ltI hx hy).mp z | exact Int.not_le.mp fun w => absurd ((tk_leI hy hx).mpr w) (by simpa using z)
  · first | exact fun w => z ((tk_ltI hx hy).mpr w) | exact fun w => absurd ((tk_ltI hx hy).mpr w) (by simpa using z)
theorem tk_j1lt {κ : tk_K} {ν : tk_N} {H : Heap} {locs : List Loc} {ls : Array Slot} {pc tgt : Nat} {st : List Value} {off : Int} (X : tk_X κ ν) {x : Int} (hx : tk_r 0 x) (hd : decode ν.1 pc = .ok (.ifCond .lt off, 3)) (ht : (pc : Int) + off = (tgt : Int)) (kt : x < 0 → tk_W κ ν H locs tgt ls st) (kf : ¬ (x < 0) → tk_W κ ν H locs (pc + 3) ls st) : tk_W κ ν H locs pc ls (.int (Int32.ofInt x) :: st) := by
  have hy : tk_r 0 0 := ⟨by omega, by omega⟩
  refine lv_if_lt X.1 X.2.1 hd ht (fun z => kt ?_) (fun z => kf ?_)
  · first | exact (tk_ltI hx hy).mp z | exact Int.not_le.mp fun w => absurd ((tk_leI hy hx).mpr w) (by simpa using z)
  · first | exact fun w => z ((tk_ltI hx hy).mpr w) | exact fun w => absurd ((tk_ltI hx hy).mpr w) (by simpa using z)
theorem tk_j2ge {κ : tk_K} {ν : tk_N} {H : Heap} {locs : List Loc} {ls : Array Slot} {pc tgt : Nat} {st : List Value} {off : Int} (X : tk_X κ ν) {x y : Int} (hx : tk_r 0 x) (hy : tk_r 0 y) (hd : decode ν.1 pc = .ok (.if_icmp .ge off, 3)) (ht : (pc : Int) + off = (tgt : Int)) (kt : y ≤ x → tk_W κ ν H locs tgt ls st) (kf : ¬ (y ≤ x) → tk_W κ ν H locs (pc + 3) ls st) : tk_W κ ν H locs pc ls (.int (Int32.ofInt y) :: .int (Int32.ofInt x) :: st) := by
  refine lv_icmp_ge X.1 X.2.1 hd ht (fun z => kt ?_) (fun z => kf ?_)
  · first | exact (tk_leI hy hx).mp z | exact (tk_leI hy hx).mp (by simpa using z)
  · first | exact fun w => z ((tk_leI hy hx).mpr w) | exact fun w => absurd ((tk_leI hy hx).mpr w) (by simpa using z)
theorem tk_j1ge {κ : tk_K} {ν : tk_N} {H : Heap} {locs : List Loc} {ls : Array Slot} {pc tgt : Nat} {st : List Value} {off : Int} (X : tk_X κ ν) {x : Int} (hx : tk_r 0 x) (hd : decode ν.1 pc = .ok (.ifCond .ge off, 3)) (ht : (pc : Int) + off = (tgt : Int)) (kt : 0 ≤ x → tk_W κ ν H locs tgt ls st) (kf : ¬ (0 ≤ x) → tk_W κ ν H locs (pc + 3) ls st) : tk_W κ ν H locs pc ls (.int (Int32.ofInt x) :: st) := by
  have hy : tk_r 0 0 := ⟨by omega, by omega⟩
  refine lv_if_ge X.1 X.2.1 hd ht (fun z => kt ?_) (fun z => kf ?_)
  · first | exact (tk_leI hy hx).mp z | exact (tk_leI hy hx).mp (by simpa using z)
  · first | exact fun w => z ((tk_leI hy hx).mpr w) | exact fun w => absurd ((tk_leI hy hx).mpr w) (by simpa using z)
theorem tk_j2gt {κ : tk_K} {ν : tk_N} {H : Heap} {locs : List Loc} {ls : Array Slot} {pc tgt : Nat} {st : List Value} {off : Int} (X : tk_X κ ν) {x y : Int} (hx : tk_r 0 x) (hy : tk_r 0 y) (hd : decode ν.1 pc = .ok (.if_icmp .gt off, 3)) (ht : (pc : Int) + off = (tgt : Int)) (kt : y < x → tk_W κ ν H locs tgt ls st) (kf : ¬ (y < x) → tk_W κ ν H locs (pc + 3) ls st) : tk_W κ ν H locs pc ls (.int (Int32.ofInt y) :: .int (Int32.ofInt x) :: st) := by
  refine lv_icmp_gt X.1 X.2.1 hd ht (fun z => kt ?_) (fun z => kf ?_)
  · first | exact (tk_ltI hy hx).mp z | exact (tk_ltI hy hx).mp (by simpa using z)
  · first | exact fun w => z ((tk_ltI hy hx).mpr w) | exact fun w => absurd ((tk_ltI hy hx).mpr w) (by simpa using z)
theorem tk_j1gt {κ : tk_K} {ν : tk_N} {H : Heap} {locs : List Loc} {ls : Array Slot} {pc tgt : Nat} {st : List Value} {off : Int} (X : tk_X κ ν) {x : Int} (hx : tk_r 0 x) (hd : decode ν.1 pc = .ok (.ifCond .gt off, 3)) (ht : (pc : Int) + off = (tgt : Int)) (kt : 0 < x → tk_W κ ν H locs tgt ls st) (kf : ¬ (0 < x) → tk_W κ ν H locs (pc + 3) ls st) : tk_W κ ν H locs pc ls (.int (Int32.ofInt x) :: st) := by
  have hy : tk_r 0 0 := ⟨by omega, by omega⟩
  refine lv_if_gt X.1 X.2.1 hd ht (fun z => kt ?_) (fun z => kf ?_)
  · first | exact (tk_ltI hy hx).mp z | exact (tk_ltI hy hx).mp (by simpa using z)
  · first | exact fun w => z ((tk_ltI hy hx).mpr w) | exact fun w => absurd ((tk_ltI hy hx).mpr w) (by simpa using z)
theorem tk_j2le {κ : tk_K} {ν : tk_N} {H : Heap} {locs : List Loc} {ls : Array Slot} {pc tgt : Nat} {st : List Value} {off : Int} (X : tk_X κ ν) {x y : Int} (hx : tk_r 0 x) (hy : tk_r 0 y) (hd : decode ν.1 pc = .ok (.if_icmp .le off, 3)) (ht : (pc : Int) + off = (tgt : Int)) (kt : x ≤ y → tk_W κ ν H locs tgt ls st) (kf : ¬ (x ≤ y) → tk_W κ ν H locs (pc + 3) ls st) : tk_W κ ν H locs pc ls (.int (Int32.ofInt y) :: .int (Int32.ofInt x) :: st) := by
  refine lv_icmp_le X.1 X.2.1 hd ht (fun z => kt ?_) (fun z => kf ?_)
  · first | exact (tk_leI hx hy).mp z | exact (tk_leI hx hy).mp (by simpa using z)
  · first | exact fun w => z ((tk_leI hx hy).mpr w) | exact fun w => absurd ((tk_leI hx hy).mpr w) (by simpa using z)
theorem tk_j1le {κ : tk_K} {ν : tk_N} {H : Heap} {locs : List Loc} {ls : Array Slot} {pc tgt : Nat} {st : List Value} {off : Int} (X : tk_X κ ν) {x : Int} (hx : tk_r 0 x) (hd : decode ν.1 pc = .ok (.ifCond .le off, 3)) (ht : (pc : Int) + off = (tgt : Int)) (kt : x ≤ 0 → tk_W κ ν H locs tgt ls st) (kf : ¬ (x ≤ 0) → tk_W κ ν H locs (pc + 3) ls st) : tk_W κ ν H locs pc ls (.int (Int32.ofInt x) :: st) := by
  have hy : tk_r 0 0 := ⟨by omega, by omega⟩
  refine lv_if_le X.1 X.2.1 hd ht (fun z => kt ?_) (fun z => kf ?_)
  · first | exact (tk_leI hx hy).mp z | exact (tk_leI hx hy).mp (by simpa using z)
  · first | exact fun w => z ((tk_leI hx hy).mpr w) | exact fun w => absurd ((tk_leI hx hy).mpr w) (by simpa using z)
theorem tk_ok_ceqT {ν : tk_N} {Γ : List (Nat × Nat)} {d pc p1 p2 tgt : Nat} {off : Int} {a b : tk_Ex} (ha : tk_E ν Γ d a 0 pc p1) (hb : tk_E ν Γ (d + 1) b 0 p1 p2) (hd : decode ν.1 p2 = .ok (.if_icmp .eq off, 3)) (ht : (p2 : Int) + off = (tgt : Int)) : tk_Ck ν Γ d (tk_ceq a b) pc tgt (p2 + 3) := by
  intro κ X st hst ρ μ Qt Qf hr h kt kf
  refine ha κ X st hst ρ μ _ hr h (fun x μ1 h1 hx => ?_)
  refine hb κ X _ (tk_sum0 hst) ρ μ1 _ hr h1 (fun y μ2 h2 hy H ls locs hP hS hl => ?_)
  exact tk_j2eq X hx hy hd ht (fun z => kt _ (by rw [if_pos z] at h2; exact h2) H ls locs hP hS hl) (fun z => kf _ (by rw [if_neg z] at h2; exact h2) H ls locs hP hS hl)
theorem tk_ok_zeqT {ν : tk_N} {Γ : List (Nat × Nat)} {d pc p2 tgt : Nat} {off : Int} {a : tk_Ex} (ha : tk_E ν Γ d a 0 pc p2) (hd : decode ν.1 p2 = .ok (.ifCond .eq off, 3)) (ht : (p2 : Int) + off = (tgt : Int)) : tk_Ck ν Γ d (tk_zeq a) pc tgt (p2 + 3) := by
  intro κ X st hst ρ μ Qt Qf hr h kt kf
  refine ha κ X st hst ρ μ _ hr h (fun x μ2 h2 hx H ls locs hP hS hl => ?_)
  exact tk_j1eq X hx hd ht (fun z => kt _ (by rw [if_pos z] at h2; exact h2) H ls locs hP hS hl) (fun z => kf _ (by rw [if_neg z] at h2; exact h2) H ls locs hP hS hl)
theorem tk_ok_leqT {ν : tk_N} {Γ : List (Nat × Nat)} {d pc p1 p2 tgt : Nat} {off : Int} {a b : tk_Ex} (ha : tk_E ν Γ d a 1 pc p1) (hb : tk_E ν Γ (d + 2) b 1 p1 p2) (hd0 : decode ν.1 p2 = .ok (.lcmp, 1)) (hd : decode ν.1 (p2 + 1) = .ok (.ifCond .eq off, 3)) (ht : ((p2 + 1 : Nat) : Int) + off = (tgt : Int)) : tk_Ck ν Γ d (tk_ceq a b) pc tgt (p2 + 4) := by
  intro κ X st hst ρ μ Qt Qf hr h kt kf
  refine ha κ X st hst ρ μ _ hr h (fun x μ1 h1 hx => ?_)
  refine hb κ X _ (tk_sum1 hst) ρ μ1 _ hr h1 (fun y μ2 h2 hy H ls locs hP hS hl => ?_)
  refine W.lcmp X.1 X.2.1 hd0 ?_
  rw [tk_cmp hx hy]
  have hz : tk_r 0 (if y < x then 1 else if x = y then 0 else -1) := by split <;> first | exact ⟨by omega, by omega⟩ | (split <;> exact ⟨by omega, by omega⟩)
  refine tk_j1eq X hz hd ht (fun z => ?_) (fun z => ?_)
  · have z1 : x = y := by
      revert z; split <;> first | (intro z; omega) | (split <;> intro z <;> omega)
    exact kt _ (by rw [if_pos z1] at h2; exact h2) H ls locs hP hS hl
  · have z1 : ¬ (x = y) := by
      revert z; split <;> first | (intro z; omega) | (split <;> intro z <;> omega)
    exact kf _ (by rw [if_neg z1] at h2; exact h2) H ls locs hP hS hl
theorem tk_ok_ceqF {ν : tk_N} {Γ : List (Nat × Nat)} {d pc p1 p2 tgt : Nat} {off : Int} {a b : tk_Ex} (ha : tk_E ν Γ d a 0 pc p1) (hb : tk_E ν Γ (d + 1) b 0 p1 p2) (hd : decode ν.1 p2 = .ok (.if_icmp .ne off, 3)) (ht : (p2 : Int) + off = (tgt : Int)) : tk_Ck ν Γ d (tk_ceq a b) pc (p2 + 3) tgt := by
  intro κ X st hst ρ μ Qt Qf hr h kt kf
  refine ha κ X st hst ρ μ _ hr h (fun x μ1 h1 hx => ?_)
  refine hb κ X _ (tk_sum0 hst) ρ μ1 _ hr h1 (fun y μ2 h2 hy H ls locs hP hS hl => ?_)
  exact tk_j2ne X hx hy hd ht (fun z => kf _ (by rw [if_neg z] at h2; exact h2) H ls locs hP hS hl) (fun z => kt _ (by rw [if_pos (Decidable.not_not.mp z)] at h2; exact h2) H ls locs hP hS hl)
theorem tk_ok_zeqF {ν : tk_N} {Γ : List (Nat × Nat)} {d pc p2 tgt : Nat} {off : Int} {a : tk_Ex} (ha : tk_E ν Γ d a 0 pc p2) (hd : decode ν.1 p2 = .ok (.ifCond .ne off, 3)) (ht : (p2 : Int) + off = (tgt : Int)) : tk_Ck ν Γ d (tk_zeq a) pc (p2 + 3) tgt := by
  intro κ X st hst ρ μ Qt Qf hr h kt kf
  refine ha κ X st hst ρ μ _ hr h (fun x μ2 h2 hx H ls locs hP hS hl => ?_)
  exact tk_j1ne X hx hd ht (fun z => kf _ (by rw [if_neg z] at h2; exact h2) H ls locs hP hS hl) (fun z => kt _ (by rw [if_pos (Decidable.not_not.mp z)] at h2; exact h2) H ls locs hP hS hl)
theorem tk_ok_leqF {ν : tk_N} {Γ : List (Nat × Nat)} {d pc p1 p2 tgt : Nat} {off : Int} {a b : tk_Ex} (ha : tk_E ν Γ d a 1 pc p1) (hb : tk_E ν Γ (d + 2) b 1 p1 p2) (hd0 : decode ν.1 p2 = .ok (.lcmp, 1)) (hd : decode ν.1 (p2 + 1) = .ok (.ifCond .ne off, 3)) (ht : ((p2 + 1 : Nat) : Int) + off = (tgt : Int)) : tk_Ck ν Γ d (tk_ceq a b) pc (p2 + 4) tgt := by
  intro κ X st hst ρ μ Qt Qf hr h kt kf
  refine ha κ X st hst ρ μ _ hr h (fun x μ1 h1 hx => ?_)
  refine hb κ X _ (tk_sum1 hst) ρ μ1 _ hr h1 (fun y μ2 h2 hy H ls locs hP hS hl => ?_)
  refine W.lcmp X.1 X.2.1 hd0 ?_
  rw [tk_cmp hx hy]
  have hz : tk_r 0 (if y < x then 1 else if x = y then 0 else -1) := by split <;> first | exact ⟨by omega, by omega⟩ | (split <;> exact ⟨by omega, by omega⟩)
  refine tk_j1ne X hz hd ht (fun z => ?_) (fun z => ?_)
  · have z1 : ¬ (x = y) := by
      revert z; split <;> first | (intro z; omega) | (split <;> intro z <;> omega)
    exact kf _ (by rw [if_neg z1] at h2; exact h2) H ls locs hP hS hl
  · have z1 : x = y := by
      revert z; split <;> first | (intro z; omega) | (split <;> intro z <;> omega)
    exact kt _ (by rw [if_pos z1] at h2; exact h2) H ls locs hP hS hl
theorem tk_ok_cneT {ν : tk_N} {Γ : List (Nat × Nat)} {d pc p1 p2 tgt : Nat} {off : Int} {a b : tk_Ex} (ha : tk_E ν Γ d a 0 pc p1) (hb : tk_E ν Γ (d + 1) b 0 p1 p2) (hd : decode ν.1 p2 = .ok (.if_icmp .ne off, 3)) (ht : (p2 : Int) + off = (tgt : Int)) : tk_Ck ν Γ d (tk_cne a b) pc tgt (p2 + 3) := by
  intro κ X st hst ρ μ Qt Qf hr h kt kf
  refine ha κ X st hst ρ μ _ hr h (fun x μ1 h1 hx => ?_)
  refine hb κ X _ (tk_sum0 hst) ρ μ1 _ hr h1 (fun y μ2 h2 hy H ls locs hP hS hl => ?_)
  exact tk_j2ne X hx hy hd ht (fun z => kt _ (by rw [if_pos z] at h2; exact h2) H ls locs hP hS hl) (fun z => kf _ (by rw [if_neg z] at h2; exact h2) H ls locs hP hS hl)
theorem tk_ok_zneT {ν : tk_N} {Γ : List (Nat × Nat)} {d pc p2 tgt : Nat} {off : Int} {a : tk_Ex} (ha : tk_E ν Γ d a 0 pc p2) (hd : decode ν.1 p2 = .ok (.ifCond .ne off, 3)) (ht : (p2 : Int) + off = (tgt : Int)) : tk_Ck ν Γ d (tk_zne a) pc tgt (p2 + 3) := by
  intro κ X st hst ρ μ Qt Qf hr h kt kf
  refine ha κ X st hst ρ μ _ hr h (fun x μ2 h2 hx H ls locs hP hS hl => ?_)
  exact tk_j1ne X hx hd ht (fun z => kt _ (by rw [if_pos z] at h2; exact h2) H ls locs hP hS hl) (fun z => kf _ (by rw [if_neg z] at h2; exact h2) H ls locs hP hS hl)
theorem tk_ok_lneT {ν : tk_N} {Γ : List (Nat × Nat)} {d pc p1 p2 tgt : Nat} {off : Int} {a b : tk_Ex} (ha : tk_E ν Γ d a 1 pc p1) (hb : tk_E ν Γ (d + 2) b 1 p1 p2) (hd0 : decode ν.1 p2 = .ok (.lcmp, 1)) (hd : decode ν.1 (p2 + 1) = .ok (.ifCond .ne off, 3)) (ht : ((p2 + 1 : Nat) : Int) + off = (tgt : Int)) : tk_Ck ν Γ d (tk_cne a b) pc tgt (p2 + 4) := by
  intro κ X st hst ρ μ Qt Qf hr h kt kf
  refine ha κ X st hst ρ μ _ hr h (fun x μ1 h1 hx => ?_)
  refine hb κ X _ (tk_sum1 hst) ρ μ1 _ hr h1 (fun y μ2 h2 hy H ls locs hP hS hl => ?_)
  refine W.lcmp X.1 X.2.1 hd0 ?_
  rw [tk_cmp hx hy]
  have hz : tk_r 0 (if y < x then 1 else if x = y then 0 else -1) := by split <;> first | exact ⟨by omega, by omega⟩ | (split <;> exact ⟨by omega, by omega⟩)
  refine tk_j1ne X hz hd ht (fun z => ?_) (fun z => ?_)
  · have z1 : ¬ x = y := by
      revert z; split <;> first | (intro z; omega) | (split <;> intro z <;> omega)
    exact kt _ (by rw [if_pos z1] at h2; exact h2) H ls locs hP hS hl
  · have z1 : ¬ (¬ x = y) := by
      revert z; split <;> first | (intro z; omega) | (split <;> intro z <;> omega)
    exact kf _ (by rw [if_neg z1] at h2; exact h2) H ls locs hP hS hl
theorem tk_ok_cneF {ν : tk_N} {Γ : List (Nat × Nat)} {d pc p1 p2 tgt : Nat} {off : Int} {a b : tk_Ex} (ha : tk_E ν Γ d a 0 pc p1) (hb : tk_E ν Γ (d + 1) b 0 p1 p2) (hd : decode ν.1 p2 = .ok (.if_icmp .eq off, 3)) (ht : (p2 : Int) + off = (tgt : Int)) : tk_Ck ν Γ d (tk_cne a b) pc (p2 + 3) tgt := by
  intro κ X st hst ρ μ Qt Qf hr h kt kf
  refine ha κ X st hst ρ μ _ hr h (fun x μ1 h1 hx => ?_)
  refine hb κ X _ (tk_sum0 hst) ρ μ1 _ hr h1 (fun y μ2 h2 hy H ls locs hP hS hl => ?_)
  exact tk_j2eq X hx hy hd ht (fun z => kf _ (by rw [if_neg (fun w => w z)] at h2; exact h2) H ls locs hP hS hl) (fun z => kt _ (by rw [if_pos z] at h2; exact h2) H ls locs hP hS hl)
theorem tk_ok_zneF {ν : tk_N} {Γ : List (Nat × Nat)} {d pc p2 tgt : Nat} {off : Int} {a : tk_Ex} (ha : tk_E ν Γ d a 0 pc p2) (hd : decode ν.1 p2 = .ok (.ifCond .eq off, 3)) (ht : (p2 : Int) + off = (tgt : Int)) : tk_Ck ν Γ d (tk_zne a) pc (p2 + 3) tgt := by
  intro κ X st hst ρ μ Qt Qf hr h kt kf
  refine ha κ X st hst ρ μ _ hr h (fun x μ2 h2 hx H ls locs hP hS hl => ?_)
  exact tk_j1eq X hx hd ht (fun z => kf _ (by rw [if_neg (fun w => w z)] at h2; exact h2) H ls locs hP hS hl) (fun z => kt _ (by rw [if_pos z] at h2; exact h2) H ls locs hP hS hl)
theorem tk_ok_lneF {ν : tk_N} {Γ : List (Nat × Nat)} {d pc p1 p2 tgt : Nat} {off : Int} {a b : tk_Ex} (ha : tk_E ν Γ d a 1 pc p1) (hb : tk_E ν Γ (d + 2) b 1 p1 p2) (hd0 : decode ν.1 p2 = .ok (.lcmp, 1)) (hd : decode ν.1 (p2 + 1) = .ok (.ifCond .eq off, 3)) (ht : ((p2 + 1 : Nat) : Int) + off = (tgt : Int)) : tk_Ck ν Γ d (tk_cne a b) pc (p2 + 4) tgt := by
  intro κ X st hst ρ μ Qt Qf hr h kt kf
  refine ha κ X st hst ρ μ _ hr h (fun x μ1 h1 hx => ?_)
  refine hb κ X _ (tk_sum1 hst) ρ μ1 _ hr h1 (fun y μ2 h2 hy H ls locs hP hS hl => ?_)
  refine W.lcmp X.1 X.2.1 hd0 ?_
  rw [tk_cmp hx hy]
  have hz : tk_r 0 (if y < x then 1 else if x = y then 0 else -1) := by split <;> first | exact ⟨by omega, by omega⟩ | (split <;> exact ⟨by omega, by omega⟩)
  refine tk_j1eq X hz hd ht (fun z => ?_) (fun z => ?_)
  · have z1 : ¬ (¬ x = y) := by
      revert z; split <;> first | (intro z; omega) | (split <;> intro z <;> omega)
    exact kf _ (by rw [if_neg z1] at h2; exact h2) H ls locs hP hS hl
  · have z1 : ¬ x = y := by
      revert z; split <;> first | (intro z; omega) | (split <;> intro z <;> omega)
    exact kt _ (by rw [if_pos z1] at h2; exact h2) H ls locs hP hS hl
theorem tk_ok_cltT {ν : tk_N} {Γ : List (Nat × Nat)} {d pc p1 p2 tgt : Nat} {off : Int} {a b : tk_Ex} (ha : tk_E ν Γ d a 0 pc p1) (hb : tk_E ν Γ (d + 1) b 0 p1 p2) (hd : decode ν.1 p2 = .ok (.if_icmp .lt off, 3)) (ht : (p2 : Int) + off = (tgt : Int)) : tk_Ck ν Γ d (tk_clt a b) pc tgt (p2 + 3) := by
  intro κ X st hst ρ μ Qt Qf hr h kt kf
  refine ha κ X st hst ρ μ _ hr h (fun x μ1 h1 hx => ?_)
  refine hb κ X _ (tk_sum0 hst) ρ μ1 _ hr h1 (fun y μ2 h2 hy H ls locs hP hS hl => ?_)
  exact tk_j2lt X hx hy hd ht (fun z => kt _ (by rw [if_pos z] at h2; exact h2) H ls locs hP hS hl) (fun z => kf _ (by rw [if_neg z] at h2; exact h2) H ls locs hP hS hl)
theorem tk_ok_zltT {ν : tk_N} {Γ : List (Nat × Nat)} {d pc p2 tgt : Nat} {off : Int} {a : tk_Ex} (ha : tk_E ν Γ d a 0 pc p2) (hd : decode ν.1 p2 = .ok (.ifCond .lt off, 3)) (ht : (p2 : Int) + off = (tgt : Int)) : tk_Ck ν Γ d (tk_zlt a) pc tgt (p2 + 3) := by
  intro κ X st hst ρ μ Qt Qf hr h kt kf
  refine ha κ X st hst ρ μ _ hr h (fun x μ2 h2 hx H ls locs hP hS hl => ?_)
  exact tk_j1lt X hx hd ht (fun z => kt _ (by rw [if_pos z] at h2; exact h2) H ls locs hP hS hl) (fun z => kf _ (by rw [if_neg z] at h2; exact h2) H ls locs hP hS hl)
theorem tk_ok_lltT {ν : tk_N} {Γ : List (Nat × Nat)} {d pc p1 p2 tgt : Nat} {off : Int} {a b : tk_Ex} (ha : tk_E ν Γ d a 1 pc p1) (hb : tk_E ν Γ (d + 2) b 1 p1 p2) (hd0 : decode ν.1 p2 = .ok (.lcmp, 1)) (hd : decode ν.1 (p2 + 1) = .ok (.ifCond .lt off, 3)) (ht : ((p2 + 1 : Nat) : Int) + off = (tgt : Int)) : tk_Ck ν Γ d (tk_clt a b) pc tgt (p2 + 4) := by
  intro κ X st hst ρ μ Qt Qf hr h kt kf
  refine ha κ X st hst ρ μ _ hr h (fun x μ1 h1 hx => ?_)
  refine hb κ X _ (tk_sum1 hst) ρ μ1 _ hr h1 (fun y μ2 h2 hy H ls locs hP hS hl => ?_)
  refine W.lcmp X.1 X.2.1 hd0 ?_
  rw [tk_cmp hx hy]
  have hz : tk_r 0 (if y < x then 1 else if x = y then 0 else -1) := by split <;> first | exact ⟨by omega, by omega⟩ | (split <;> exact ⟨by omega, by omega⟩)
  refine tk_j1lt X hz hd ht (fun z => ?_) (fun z => ?_)
  · have z1 : x < y := by
      revert z; split <;> first | (intro z; omega) | (split <;> intro z <;> omega)
    exact kt _ (by rw [if_pos z1] at h2; exact h2) H ls locs hP hS hl
  · have z1 : ¬ (x < y) := by
      revert z; split <;> first | (intro z; omega) | (split <;> intro z <;> omega)
    exact kf _ (by rw [if_neg z1] at h2; exact h2) H ls locs hP hS hl
theorem tk_ok_cltF {ν : tk_N} {Γ : List (Nat × Nat)} {d pc p1 p2 tgt : Nat} {off : Int} {a b : tk_Ex} (ha : tk_E ν Γ d a 0 pc p1) (hb : tk_E ν Γ (d + 1) b 0 p1 p2) (hd : decode ν.1 p2 = .ok (.if_icmp .ge off, 3)) (ht : (p2 : Int) + off = (tgt : Int)) : tk_Ck ν Γ d (tk_clt a b) pc (p2 + 3) tgt := by
  intro κ X st hst ρ μ Qt Qf hr h kt kf
  refine ha κ X st hst ρ μ _ hr h (fun x μ1 h1 hx => ?_)
  refine hb κ X _ (tk_sum0 hst) ρ μ1 _ hr h1 (fun y μ2 h2 hy H ls locs hP hS hl => ?_)
  exact tk_j2ge X hx hy hd ht (fun z => kf _ (by rw [if_neg (by omega)] at h2; exact h2) H ls locs hP hS hl) (fun z => kt _ (by rw [if_pos (by omega)] at h2; exact h2) H ls locs hP hS hl)
theorem tk_ok_zltF {ν : tk_N} {Γ : List (Nat × Nat)} {d pc p2 tgt : Nat} {off : Int} {a : tk_Ex} (ha : tk_E ν Γ d a 0 pc p2) (hd : decode ν.1 p2 = .ok (.ifCond .ge off, 3)) (ht : (p2 : Int) + off = (tgt : Int)) : tk_Ck ν Γ d (tk_zlt a) pc (p2 + 3) tgt := by
  intro κ X st hst ρ μ Qt Qf hr h kt kf
  refine ha κ X st hst ρ μ _ hr h (fun x μ2 h2 hx H ls locs hP hS hl => ?_)
  exact tk_j1ge X hx hd ht (fun z => kf _ (by rw [if_neg (by omega)] at h2; exact h2) H ls locs hP hS hl) (fun z => kt _ (by rw [if_pos (by omega)] at h2; exact h2) H ls locs hP hS hl)
theorem tk_ok_lltF {ν : tk_N} {Γ : List (Nat × Nat)} {d pc p1 p2 tgt : Nat} {off : Int} {a b : tk_Ex} (ha : tk_E ν Γ d a 1 pc p1) (hb : tk_E ν Γ (d + 2) b 1 p1 p2) (hd0 : decode ν.1 p2 = .ok (.lcmp, 1)) (hd : decode ν.1 (p2 + 1) = .ok (.ifCond .ge off, 3)) (ht : ((p2 + 1 : Nat) : Int) + off = (tgt : Int)) : tk_Ck ν Γ d (tk_clt a b) pc (p2 + 4) tgt := by
  intro κ X st hst ρ μ Qt Qf hr h kt kf
  refine ha κ X st hst ρ μ _ hr h (fun x μ1 h1 hx => ?_)
  refine hb κ X _ (tk_sum1 hst) ρ μ1 _ hr h1 (fun y μ2 h2 hy H ls locs hP hS hl => ?_)
  refine W.lcmp X.1 X.2.1 hd0 ?_
  rw [tk_cmp hx hy]
  have hz : tk_r 0 (if y < x then 1 else if x = y then 0 else -1) := by split <;> first | exact ⟨by omega, by omega⟩ | (split <;> exact ⟨by omega, by omega⟩)
  refine tk_j1ge X hz hd ht (fun z => ?_) (fun z => ?_)
  · have z1 : ¬ (x < y) := by
      revert z; split <;> first | (intro z; omega) | (split <;> intro z <;> omega)
    exact kf _ (by rw [if_neg z1] at h2; exact h2) H ls locs hP hS hl
  · have z1 : x < y := by
      revert z; split <;> first | (intro z; omega) | (split <;> intro z <;> omega)
    exact kt _ (by rw [if_pos z1] at h2; exact h2) H ls locs hP hS hl
theorem tk_ok_cgeT {ν : tk_N} {Γ : List (Nat × Nat)} {d pc p1 p2 tgt : Nat} {off : Int} {a b : tk_Ex} (ha : tk_E ν Γ d a 0 pc p1) (hb : tk_E ν Γ (d + 1) b 0 p1 p2) (hd : decode ν.1 p2 = .ok (.if_icmp .ge off, 3)) (ht : (p2 : Int) + off = (tgt : Int)) : tk_Ck ν Γ d (tk_cge a b) pc tgt (p2 + 3) := by
  intro κ X st hst ρ μ Qt Qf hr h kt kf
  refine ha κ X st hst ρ μ _ hr h (fun x μ1 h1 hx => ?_)
  refine hb κ X _ (tk_sum0 hst) ρ μ1 _ hr h1 (fun y μ2 h2 hy H ls locs hP hS hl => ?_)
  exact tk_j2ge X hx hy hd ht (fun z => kt _ (by rw [if_pos z] at h2; exact h2) H ls locs hP hS hl) (fun z => kf _ (by rw [if_neg z] at h2; exact h2) H ls locs hP hS hl)
theorem tk_ok_zgeT {ν : tk_N} {Γ : List (Nat × Nat)} {d pc p2 tgt : Nat} {off : Int} {a : tk_Ex} (ha : tk_E ν Γ d a 0 pc p2) (hd : decode ν.1 p2 = .ok (.ifCond .ge off, 3)) (ht : (p2 : Int) + off = (tgt : Int)) : tk_Ck ν Γ d (tk_zge a) pc tgt (p2 + 3) := by
  intro κ X st hst ρ μ Qt Qf hr h kt kf
  refine ha κ X st hst ρ μ _ hr h (fun x μ2 h2 hx H ls locs hP hS hl => ?_)
  exact tk_j1ge X hx hd ht (fun z => kt _ (by rw [if_pos z] at h2; exact h2) H ls locs hP hS hl) (fun z => kf _ (by rw [if_neg z] at h2; exact h2) H ls locs hP hS hl)
theorem tk_ok_lgeT {ν : tk_N} {Γ : List (Nat × Nat)} {d pc p1 p2 tgt : Nat} {off : Int} {a b : tk_Ex} (ha : tk_E ν Γ d a 1 pc p1) (hb : tk_E ν Γ (d + 2) b 1 p1 p2) (hd0 : decode ν.1 p2 = .ok (.lcmp, 1)) (hd : decode ν.1 (p2 + 1) = .ok (.ifCond .ge off, 3)) (ht : ((p2 + 1 : Nat) : Int) + off = (tgt : Int)) : tk_Ck ν Γ d (tk_cge a b) pc tgt (p2 + 4) := by
  intro κ X st hst ρ μ Qt Qf hr h kt kf
  refine ha κ X st hst ρ μ _ hr h (fun x μ1 h1 hx => ?_)
  refine hb κ X _ (tk_sum1 hst) ρ μ1 _ hr h1 (fun y μ2 h2 hy H ls locs hP hS hl => ?_)
  refine W.lcmp X.1 X.2.1 hd0 ?_
  rw [tk_cmp hx hy]
  have hz : tk_r 0 (if y < x then 1 else if x = y then 0 else -1) := by split <;> first | exact ⟨by omega, by omega⟩ | (split <;> exact ⟨by omega, by omega⟩)
  refine tk_j1ge X hz hd ht (fun z => ?_) (fun z => ?_)
  · have z1 : y ≤ x := by
      revert z; split <;> first | (intro z; omega) | (split <;> intro z <;> omega)
    exact kt _ (by rw [if_pos z1] at h2; exact h2) H ls locs hP hS hl
  · have z1 : ¬ (y ≤ x) := by
      revert z; split <;> first | (intro z; omega) | (split <;> intro z <;> omega)
    exact kf _ (by rw [if_neg z1] at h2; exact h2) H ls locs hP hS hl
theorem tk_ok_cgeF {ν : tk_N} {Γ : List (Nat × Nat)} {d pc p1 p2 tgt : Nat} {off : Int} {a b : tk_Ex} (ha : tk_E ν Γ d a 0 pc p1) (hb : tk_E ν Γ (d + 1) b 0 p1 p2) (hd : decode ν.1 p2 = .ok (.if_icmp .lt off, 3)) (ht : (p2 : Int) + off = (tgt : Int)) : tk_Ck ν Γ d (tk_cge a b) pc (p2 + 3) tgt := by
  intro κ X st hst ρ μ Qt Qf hr h kt kf
  refine ha κ X st hst ρ μ _ hr h (fun x μ1 h1 hx => ?_)
  refine hb κ X _ (tk_sum0 hst) ρ μ1 _ hr h1 (fun y μ2 h2 hy H ls locs hP hS hl => ?_)
  exact tk_j2lt X hx hy hd ht (fun z => kf _ (by rw [if_neg (by omega)] at h2; exact h2) H ls locs hP hS hl) (fun z => kt _ (by rw [if_pos (by omega)] at h2; exact h2) H ls locs hP hS hl)
theorem tk_ok_zgeF {ν : tk_N} {Γ : List (Nat × Nat)} {d pc p2 tgt : Nat} {off : Int} {a : tk_Ex} (ha : tk_E ν Γ d a 0 pc p2) (hd : decode ν.1 p2 = .ok (.ifCond .lt off, 3)) (ht : (p2 : Int) + off = (tgt : Int)) : tk_Ck ν Γ d (tk_zge a) pc (p2 + 3) tgt := by
  intro κ X st hst ρ μ Qt Qf hr h kt kf
  refine ha κ X st hst ρ μ _ hr h (fun x μ2 h2 hx H ls locs hP hS hl => ?_)
  exact tk_j1lt X hx hd ht (fun z => kf _ (by rw [if_neg (by omega)] at h2; exact h2) H ls locs hP hS hl) (fun z => kt _ (by rw [if_pos (by omega)] at h2; exact h2) H ls locs hP hS hl)
theorem tk_ok_lgeF {ν : tk_N} {Γ : List (Nat × Nat)} {d pc p1 p2 tgt : Nat} {off : Int} {a b : tk_Ex} (ha : tk_E ν Γ d a 1 pc p1) (hb : tk_E ν Γ (d + 2) b 1 p1 p2) (hd0 : decode ν.1 p2 = .ok (.lcmp, 1)) (hd : decode ν.1 (p2 + 1) = .ok (.ifCond .lt off, 3)) (ht : ((p2 + 1 : Nat) : Int) + off = (tgt : Int)) : tk_Ck ν Γ d (tk_cge a b) pc (p2 + 4) tgt := by
  intro κ X st hst ρ μ Qt Qf hr h kt kf
  refine ha κ X st hst ρ μ _ hr h (fun x μ1 h1 hx => ?_)
  refine hb κ X _ (tk_sum1 hst) ρ μ1 _ hr h1 (fun y μ2 h2 hy H ls locs hP hS hl => ?_)
  refine W.lcmp X.1 X.2.1 hd0 ?_
  rw [tk_cmp hx hy]
  have hz : tk_r 0 (if y < x then 1 else if x = y then 0 else -1) := by split <;> first | exact ⟨by omega, by omega⟩ | (split <;> exact ⟨by omega, by omega⟩)
  refine tk_j1lt X hz hd ht (fun z => ?_) (fun z => ?_)
  · have z1 : ¬ (y ≤ x) := by
      revert z; split <;> first | (intro z; omega) | (split <;> intro z <;> omega)
    exact kf _ (by rw [if_neg z1] at h2; exact h2) H ls locs hP hS hl
  · have z1 : y ≤ x := by
      revert z; split <;> first | (intro z; omega) | (split <;> intro z <;> omega)
    exact kt _ (by rw [if_pos z1] at h2; exact h2) H ls locs hP hS hl
theorem tk_ok_cgtT {ν : tk_N} {Γ : List (Nat × Nat)} {d pc p1 p2 tgt : Nat} {off : Int} {a b : tk_Ex} (ha : tk_E ν Γ d a 0 pc p1) (hb : tk_E ν Γ (d + 1) b 0 p1 p2) (hd : decode ν.1 p2 = .ok (.if_icmp .gt off, 3)) (ht : (p2 : Int) + off = (tgt : Int)) : tk_Ck ν Γ d (tk_cgt a b) pc tgt (p2 + 3) := by
  intro κ X st hst ρ μ Qt Qf hr h kt kf
  refine ha κ X st hst ρ μ _ hr h (fun x μ1 h1 hx => ?_)
  refine hb κ X _ (tk_sum0 hst) ρ μ1 _ hr h1 (fun y μ2 h2 hy H ls locs hP hS hl => ?_)
  exact tk_j2gt X hx hy hd ht (fun z => kt _ (by rw [if_pos z] at h2; exact h2) H ls locs hP hS hl) (fun z => kf _ (by rw [if_neg z] at h2; exact h2) H ls locs hP hS hl)
theorem tk_ok_zgtT {ν : tk_N} {Γ : List (Nat × Nat)} {d pc p2 tgt : Nat} {off : Int} {a : tk_Ex} (ha : tk_E ν Γ d a 0 pc p2) (hd : decode ν.1 p2 = .ok (.ifCond .gt off, 3)) (ht : (p2 : Int) + off = (tgt : Int)) : tk_Ck ν Γ d (tk_zgt a) pc tgt (p2 + 3) := by
  intro κ X st hst ρ μ Qt Qf hr h kt kf
  refine ha κ X st hst ρ μ _ hr h (fun x μ2 h2 hx H ls locs hP hS hl => ?_)
  exact tk_j1gt X hx hd ht (fun z => kt _ (by rw [if_pos z] at h2; exact h2) H ls locs hP hS hl) (fun z => kf _ (by rw [if_neg z] at h2; exact h2) H ls locs hP hS hl)
theorem tk_ok_lgtT {ν : tk_N} {Γ : List (Nat × Nat)} {d pc p1 p2 tgt : Nat} {off : Int} {a b : tk_Ex} (ha : tk_E ν Γ d a 1 pc p1) (hb : tk_E ν Γ (d + 2) b 1 p1 p2) (hd0 : decode ν.1 p2 = .ok (.lcmp, 1)) (hd : decode ν.1 (p2 + 1) = .ok (.ifCond .gt off, 3)) (ht : ((p2 + 1 : Nat) : Int) + off = (tgt : Int)) : tk_Ck ν Γ d (tk_cgt a b) pc tgt (p2 + 4) := by
  intro κ X st hst ρ μ Qt Qf hr h kt kf
  refine ha κ X st hst ρ μ _ hr h (fun x μ1 h1 hx => ?_)
  refine hb κ X _ (tk_sum1 hst) ρ μ1 _ hr h1 (fun y μ2 h2 hy H ls locs hP hS hl => ?_)
  refine W.lcmp X.1 X.2.1 hd0 ?_
  rw [tk_cmp hx hy]
  have hz : tk_r 0 (if y < x then 1 else if x = y then 0 else -1) := by split <;> first | exact ⟨by omega, by omega⟩ | (split <;> exact ⟨by omega, by omega⟩)
  refine tk_j1gt X hz hd ht (fun z => ?_) (fun z => ?_)
  · have z1 : y < x := by
      revert z; split <;> first | (intro z; omega) | (split <;> intro z <;> omega)
    exact kt _ (by rw [if_pos z1] at h2; exact h2) H ls locs hP hS hl
  · have z1 : ¬ (y < x) := by
      revert z; split <;> first | (intro z; omega) | (split <;> intro z <;> omega)
    exact kf _ (by rw [if_neg z1] at h2; exact h2) H ls locs hP hS hl
theorem tk_ok_cgtF {ν : tk_N} {Γ : List (Nat × Nat)} {d pc p1 p2 tgt : Nat} {off : Int} {a b : tk_Ex} (ha : tk_E ν Γ d a 0 pc p1) (hb : tk_E ν Γ (d + 1) b 0 p1 p2) (hd : decode ν.1 p2 = .ok (.if_icmp .le off, 3)) (ht : (p2 : Int) + off = (tgt : Int)) : tk_Ck ν Γ d (tk_cgt a b) pc (p2 + 3) tgt := by
  intro κ X st hst ρ μ Qt Qf hr h kt kf
  refine ha κ X st hst ρ μ _ hr h (fun x μ1 h1 hx => ?_)
  refine hb κ X _ (tk_sum0 hst) ρ μ1 _ hr h1 (fun y μ2 h2 hy H ls locs hP hS hl => ?_)
  exact tk_j2le X hx hy hd ht (fun z => kf _ (by rw [if_neg (by omega)] at h2; exact h2) H ls locs hP hS hl) (fun z => kt _ (by rw [if_pos (by omega)] at h2; exact h2) H ls locs hP hS hl)
theorem tk_ok_zgtF {ν : tk_N} {Γ : List (Nat × Nat)} {d pc p2 tgt : Nat} {off : Int} {a : tk_Ex} (ha : tk_E ν Γ d a 0 pc p2) (hd : decode ν.1 p2 = .ok (.ifCond .le off, 3)) (ht : (p2 : Int) + off = (tgt : Int)) : tk_Ck ν Γ d (tk_zgt a) pc (p2 + 3) tgt := by
  intro κ X st hst ρ μ Qt Qf hr h kt kf
  refine ha κ X st hst ρ μ _ hr h (fun x μ2 h2 hx H ls locs hP hS hl => ?_)
  exact tk_j1le X hx hd ht (fun z => kf _ (by rw [if_neg (by omega)] at h2; exact h2) H ls locs hP hS hl) (fun z => kt _ (by rw [if_pos (by omega)] at h2; exact h2) H ls locs hP hS hl)
theorem tk_ok_lgtF {ν : tk_N} {Γ : List (Nat × Nat)} {d pc p1 p2 tgt : Nat} {off : Int} {a b : tk_Ex} (ha : tk_E ν Γ d a 1 pc p1) (hb : tk_E ν Γ (d + 2) b 1 p1 p2) (hd0 : decode ν.1 p2 = .ok (.lcmp, 1)) (hd : decode ν.1 (p2 + 1) = .ok (.ifCond .le off, 3)) (ht : ((p2 + 1 : Nat) : Int) + off = (tgt : Int)) : tk_Ck ν Γ d (tk_cgt a b) pc (p2 + 4) tgt := by
  intro κ X st hst ρ μ Qt Qf hr h kt kf
  refine ha κ X st hst ρ μ _ hr h (fun x μ1 h1 hx => ?_)
  refine hb κ X _ (tk_sum1 hst) ρ μ1 _ hr h1 (fun y μ2 h2 hy H ls locs hP hS hl => ?_)
  refine W.lcmp X.1 X.2.1 hd0 ?_
  rw [tk_cmp hx hy]
  have hz : tk_r 0 (if y < x then 1 else if x = y then 0 else -1) := by split <;> first | exact ⟨by omega, by omega⟩ | (split <;> exact ⟨by omega, by omega⟩)
  refine tk_j1le X hz hd ht (fun z => ?_) (fun z => ?_)
  · have z1 : ¬ (y < x) := by
      revert z; split <;> first | (intro z; omega) | (split <;> intro z <;> omega)
    exact kf _ (by rw [if_neg z1] at h2; exact h2) H ls locs hP hS hl
  · have z1 : y < x := by
      revert z; split <;> first | (intro z; omega) | (split <;> intro z <;> omega)
    exact kt _ (by rw [if_pos z1] at h2; exact h2) H ls locs hP hS hl
theorem tk_ok_cleT {ν : tk_N} {Γ : List (Nat × Nat)} {d pc p1 p2 tgt : Nat} {off : Int} {a b : tk_Ex} (ha : tk_E ν Γ d a 0 pc p1) (hb : tk_E ν Γ (d + 1) b 0 p1 p2) (hd : decode ν.1 p2 = .ok (.if_icmp .le off, 3)) (ht : (p2 : Int) + off = (tgt : Int)) : tk_Ck ν Γ d (tk_cle a b) pc tgt (p2 + 3) := by
  intro κ X st hst ρ μ Qt Qf hr h kt kf
  refine ha κ X st hst ρ μ _ hr h (fun x μ1 h1 hx => ?_)
  refine hb κ X _ (tk_sum0 hst) ρ μ1 _ hr h1 (fun y μ2 h2 hy H ls locs hP hS hl => ?_)
  exact tk_j2le X hx hy hd ht (fun z => kt _ (by rw [if_pos z] at h2; exact h2) H ls locs hP hS hl) (fun z => kf _ (by rw [if_neg z] at h2; exact h2) H ls locs hP hS hl)
theorem tk_ok_zleT {ν : tk_N} {Γ : List (Nat × Nat)} {d pc p2 tgt : Nat} {off : Int} {a : tk_Ex} (ha : tk_E ν Γ d a 0 pc p2) (hd : decode ν.1 p2 = .ok (.ifCond .le off, 3)) (ht : (p2 : Int) + off = (tgt : Int)) : tk_Ck ν Γ d (tk_zle a) pc tgt (p2 + 3) := by
  intro κ X st hst ρ μ Qt Qf hr h kt kf
  refine ha κ X st hst ρ μ _ hr h (fun x μ2 h2 hx H ls locs hP hS hl => ?_)
  exact tk_j1le X hx hd ht (fun z => kt _ (by rw [if_pos z] at h2; exact h2) H ls locs hP hS hl) (fun z => kf _ (by rw [if_neg z] at h2; exact h2) H ls locs hP hS hl)
theorem tk_ok_lleT {ν : tk_N} {Γ : List (Nat × Nat)} {d pc p1 p2 tgt : Nat} {off : Int} {a b : tk_Ex} (ha : tk_E ν Γ d a 1 pc p1) (hb : tk_E ν Γ (d + 2) b 1 p1 p2) (hd0 : decode ν.1 p2 = .ok (.lcmp, 1)) (hd : decode ν.1 (p2 + 1) = .ok (.ifCond .le off, 3)) (ht : ((p2 + 1 : Nat) : Int) + off = (tgt : Int)) : tk_Ck ν Γ d (tk_cle a b) pc tgt (p2 + 4) := by
  intro κ X st hst ρ μ Qt Qf hr h kt kf
  refine ha κ X st hst ρ μ _ hr h (fun x μ1 h1 hx => ?_)
  refine hb κ X _ (tk_sum1 hst) ρ μ1 _ hr h1 (fun y μ2 h2 hy H ls locs hP hS hl => ?_)
  refine W.lcmp X.1 X.2.1 hd0 ?_
  rw [tk_cmp hx hy]
  have hz : tk_r 0 (if y < x then 1 else if x = y then 0 else -1) := by split <;> first | exact ⟨by omega, by omega⟩ | (split <;> exact ⟨by omega, by omega⟩)
  refine tk_j1le X hz hd ht (fun z => ?_) (fun z => ?_)
  · have z1 : x ≤ y := by
      revert z; split <;> first | (intro z; omega) | (split <;> intro z <;> omega)
    exact kt _ (by rw [if_pos z1] at h2; exact h2) H ls locs hP hS hl
  · have z1 : ¬ (x ≤ y) := by
      revert z; split <;> first | (intro z; omega) | (split <;> intro z <;> omega)
    exact kf _ (by rw [if_neg z1] at h2; exact h2) H ls locs hP hS hl
theorem tk_ok_cleF {ν : tk_N} {Γ : List (Nat × Nat)} {d pc p1 p2 tgt : Nat} {off : Int} {a b : tk_Ex} (ha : tk_E ν Γ d a 0 pc p1) (hb : tk_E ν Γ (d + 1) b 0 p1 p2) (hd : decode ν.1 p2 = .ok (.if_icmp .gt off, 3)) (ht : (p2 : Int) + off = (tgt : Int)) : tk_Ck ν Γ d (tk_cle a b) pc (p2 + 3) tgt := by
  intro κ X st hst ρ μ Qt Qf hr h kt kf
  refine ha κ X st hst ρ μ _ hr h (fun x μ1 h1 hx => ?_)
  refine hb κ X _ (tk_sum0 hst) ρ μ1 _ hr h1 (fun y μ2 h2 hy H ls locs hP hS hl => ?_)
  exact tk_j2gt X hx hy hd ht (fun z => kf _ (by rw [if_neg (by omega)] at h2; exact h2) H ls locs hP hS hl) (fun z => kt _ (by rw [if_pos (by omega)] at h2; exact h2) H ls locs hP hS hl)
theorem tk_ok_zleF {ν : tk_N} {Γ : List (Nat × Nat)} {d pc p2 tgt : Nat} {off : Int} {a : tk_Ex} (ha : tk_E ν Γ d a 0 pc p2) (hd : decode ν.1 p2 = .ok (.ifCond .gt off, 3)) (ht : (p2 : Int) + off = (tgt : Int)) : tk_Ck ν Γ d (tk_zle a) pc (p2 + 3) tgt := by
  intro κ X st hst ρ μ Qt Qf hr h kt kf
  refine ha κ X st hst ρ μ _ hr h (fun x μ2 h2 hx H ls locs hP hS hl => ?_)
  exact tk_j1gt X hx hd ht (fun z => kf _ (by rw [if_neg (by omega)] at h2; exact h2) H ls locs hP hS hl) (fun z => kt _ (by rw [if_pos (by omega)] at h2; exact h2) H ls locs hP hS hl)
theorem tk_ok_lleF {ν : tk_N} {Γ : List (Nat × Nat)} {d pc p1 p2 tgt : Nat} {off : Int} {a b : tk_Ex} (ha : tk_E ν Γ d a 1 pc p1) (hb : tk_E ν Γ (d + 2) b 1 p1 p2) (hd0 : decode ν.1 p2 = .ok (.lcmp, 1)) (hd : decode ν.1 (p2 + 1) = .ok (.ifCond .gt off, 3)) (ht : ((p2 + 1 : Nat) : Int) + off = (tgt : Int)) : tk_Ck ν Γ d (tk_cle a b) pc (p2 + 4) tgt := by
  intro κ X st hst ρ μ Qt Qf hr h kt kf
  refine ha κ X st hst ρ μ _ hr h (fun x μ1 h1 hx => ?_)
  refine hb κ X _ (tk_sum1 hst) ρ μ1 _ hr h1 (fun y μ2 h2 hy H ls locs hP hS hl => ?_)
  refine W.lcmp X.1 X.2.1 hd0 ?_
  rw [tk_cmp hx hy]
  have hz : tk_r 0 (if y < x then 1 else if x = y then 0 else -1) := by split <;> first | exact ⟨by omega, by omega⟩ | (split <;> exact ⟨by omega, by omega⟩)
  refine tk_j1gt X hz hd ht (fun z => ?_) (fun z => ?_)
  · have z1 : ¬ (x ≤ y) := by
      revert z; split <;> first | (intro z; omega) | (split <;> intro z <;> omega)
    exact kf _ (by rw [if_neg z1] at h2; exact h2) H ls locs hP hS hl
  · have z1 : x ≤ y := by
      revert z; split <;> first | (intro z; omega) | (split <;> intro z <;> omega)
    exact kt _ (by rw [if_pos z1] at h2; exact h2) H ls locs hP hS hl
def tk_ct2 (C A B : tk_Cn) : tk_Cn := fun Qt Qf ρ μ => C (fun μ1 => A Qt Qf ρ μ1) (fun μ1 => B Qt Qf ρ μ1) ρ μ
theorem tk_ok_ct2 {ν : tk_N} {Γ : List (Nat × Nat)} {d pc T1 F1 Ta T F : Nat} {off : Int} {C A B : tk_Cn} (hc : tk_Ck ν Γ d C pc T1 F1) (ha : tk_Ck ν Γ d A T1 Ta F) (hd : decode ν.1 Ta = .ok (.goto off, 3)) (ht : (Ta : Int) + off = (T : Int)) (hb : tk_Ck ν Γ d B F1 T F) : tk_Ck ν Γ d (tk_ct2 C A B) pc T F := by
  intro κ X st hst ρ μ Qt Qf hr h kt kf
  exact hc κ X st hst ρ μ _ _ hr h (fun μ1 h1 => ha κ X st hst ρ μ1 _ _ hr h1 (fun μ2 h2 => tk_go X hd ht (kt μ2 h2)) kf) (fun μ1 h1 => hb κ X st hst ρ μ1 _ _ hr h1 kt kf)
