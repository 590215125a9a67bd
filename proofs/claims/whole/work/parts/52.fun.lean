/-! ===== Layer 2: sums; what all is worth, as numbers ===== -/
def tk_sm (n : Int) (f : Int → Int) : Int := tk_sg n.toNat f
theorem tk_sm_0 {f : Int → Int} : tk_sm 0 f = 0 := rfl
theorem tk_sm_s {n : Int} {f : Int → Int} (h : 0 ≤ n) : tk_sm (n + 1) f = tk_sm n f + f n := by
  obtain ⟨m, rfl⟩ := tk_nnt h
  rfl
theorem tk_sm_congr {n : Int} {f g : Int → Int} (h : ∀ i : Int, 0 ≤ i → i < n → f i = g i) : tk_sm n f = tk_sm n g := by
  unfold tk_sm
  exact tk_sg_congr (fun i h1 h2 => h i h1 (by omega))
theorem tk_ind {P : Int → Prop} (h0 : P 0) (hs : ∀ n : Int, 0 ≤ n → P n → P (n + 1)) (n : Int) (hn : 0 ≤ n) : P n := by
  obtain ⟨k, rfl⟩ := tk_nnt hn
  clear hn
  induction k with
  | zero => exact h0
  | succ k ih => exact_mod_cast hs k (by omega) ih
theorem tk_sm_bd {n B : Int} {f : Int → Int} (hn : 0 ≤ n) (h : ∀ i : Int, 0 ≤ i → i < n → 0 ≤ f i ∧ f i ≤ B) : 0 ≤ tk_sm n f ∧ tk_sm n f ≤ n * B := by
  refine tk_ind (P := fun m => m ≤ n → 0 ≤ tk_sm m f ∧ tk_sm m f ≤ m * B) (fun _ => by simp [tk_sm_0]) (fun m hm ih hmn => ?_) n hn (Int.le_refl n)
  have e : (m + 1) * B = m * B + B := by rw [Int.add_mul, Int.one_mul]
  have h1 := ih (by omega)
  have h2 := h m hm (by omega)
  rw [tk_sm_s hm]
  omega
theorem tk_sm_pt {n j : Int} {f g : Int → Int} (hn : 0 ≤ n) (hj : 0 ≤ j ∧ j < n) (h : ∀ i : Int, 0 ≤ i → i < n → ¬ i = j → g i = f i) : tk_sm n g = tk_sm n f + (g j - f j) := by
  have key := tk_ind (P := fun m => m ≤ n → tk_sm m g = tk_sm m f + (if j < m then g j - f j else 0)) (fun _ => by rw [if_neg (by omega)]; rfl) (fun m hm ih hmn => by
    rw [tk_sm_s hm, tk_sm_s hm, ih (by omega)]
    by_cases hjm : j = m
    · subst hjm
      rw [if_neg (by omega), if_pos (by omega)]
      omega
    · rw [h m hm (by omega) (fun z => hjm z.symm)]
      by_cases h2 : j < m
      · rw [if_pos h2, if_pos (by omega)]; omega
      · rw [if_neg h2, if_neg (by omega)]; omega) n hn (Int.le_refl n)
  rw [key, if_pos hj.2]
theorem tk_sm_z {n : Int} {f : Int → Int} (hn : 0 ≤ n) (h : ∀ i : Int, 0 ≤ i → i < n → f i = 0) : tk_sm n f = 0 := by
  rw [tk_sm_congr (g := fun _ => 0) h]
  exact tk_ind (P := fun m => tk_sm m (fun _ => 0) = 0) rfl (fun m hm ih => by rw [tk_sm_s hm, ih]; rfl) n hn
theorem tk_sm_ge {n j : Int} {f : Int → Int} (hn : 0 ≤ n) (hj : 0 ≤ j ∧ j < n) (h : ∀ i : Int, 0 ≤ i → i < n → 0 ≤ f i) : f j ≤ tk_sm n f := by
  have key := tk_ind (P := fun m => m ≤ n → 0 ≤ tk_sm m f ∧ (j < m → f j ≤ tk_sm m f)) (fun _ => ⟨by simp [tk_sm_0], fun z => by omega⟩) (fun m hm ih hmn => by
    have h1 := ih (by omega)
    have h2 := h m hm (by omega)
    rw [tk_sm_s hm]
    refine ⟨by omega, fun h3 => ?_⟩
    by_cases hjm : j = m
    · subst hjm; omega
    · have := h1.2 (by omega); omega) n hn (Int.le_refl n)
  exact key.2 hj.2
/-- ISSUED -/
def tk_isu (S : tk_M) (c : Int) : Int := tk_sm (S 0 1) (fun t => if S 1 t = c ∧ ¬ S 3 t = -5 then S 2 t else 0)
/-- WORTH of a TICKET by VALUES v -/
def tk_wo (S : tk_M) (v : Int → Int) (t : Int) : Int := if S 1 t = 0 then S 2 t else if tk_isu S (S 1 t) = 0 then 0 else S 2 t * v (S 1 t) / tk_isu S (S 1 t)
/-- VALUES, round by round -/
def tk_vl (S : tk_M) : Nat → Int → Int
  | 0 => fun _ => 0
  | k + 1 => fun c => tk_sm (S 0 1) (fun t => if S 3 t = 10 + c then tk_wo S (tk_vl S k) t else 0)
def tk_V (S : tk_M) : Int → Int := tk_vl S 6
def tk_Wt (S : tk_M) (t : Int) : Int := tk_wo S (tk_V S) t
def tk_hd (S : tk_M) (p : Int) : Int := tk_sm (S 0 1) (fun t => if S 3 t = p then tk_Wt S t else 0)
/-- for whom one waits, and whom that waits for, and so on -/
def tk_pth (S : tk_M) (c : Int) : Nat → Int
  | 0 => c
  | k + 1 => if 0 ≤ tk_pth S c k then S 9 (tk_pth S c k) else -5
def tk_shr (S : tk_M) (a : Int) : Int := tk_sm (S 0 2) (fun c => tk_sg 8 (fun k => if tk_pth S c k.toNat = a then tk_hd S c else 0))
/-! the two readers agree on these -/
theorem tk_isu_eq {S T : tk_M} (h0 : tk_E0 S T) (h1 : tk_E1 S T) (c : Int) : tk_isu T c = tk_isu S c := by
  unfold tk_isu
  rw [h0.2.1]
  refine tk_sm_congr (fun t h2 h3 => ?_)
  obtain ⟨a, b, d⟩ := h1 t h2 h3
  rw [a, b, d]
theorem tk_wo_eq {S T : tk_M} (h0 : tk_E0 S T) (h1 : tk_E1 S T) {v w : Int → Int} (hv : ∀ c, w c = v c) (t : Int) (ht : 0 ≤ t ∧ t < S 0 1) : tk_wo T w t = tk_wo S v t := by
  obtain ⟨a, b, d⟩ := h1 t ht.1 ht.2
  unfold tk_wo
  rw [a, b, tk_isu_eq h0 h1, hv]
theorem tk_vl_eq {S T : tk_M} (h0 : tk_E0 S T) (h1 : tk_E1 S T) (k : Nat) (c : Int) : tk_vl T k c = tk_vl S k c := by
  induction k generalizing c with
  | zero => rfl
  | succ k ih =>
    unfold tk_vl
    rw [h0.2.1]
    refine tk_sm_congr (fun t h2 h3 => ?_)
    rw [(h1 t h2 h3).2.2, tk_wo_eq h0 h1 ih t ⟨h2, h3⟩]
theorem tk_V_eq {S T : tk_M} (h0 : tk_E0 S T) (h1 : tk_E1 S T) (c : Int) : tk_V T c = tk_V S c := tk_vl_eq h0 h1 6 c
theorem tk_Wt_eq {S T : tk_M} (h0 : tk_E0 S T) (h1 : tk_E1 S T) (t : Int) (ht : 0 ≤ t ∧ t < S 0 1) : tk_Wt T t = tk_Wt S t := tk_wo_eq h0 h1 (tk_V_eq h0 h1) t ht
theorem tk_hd_eq {S T : tk_M} (h0 : tk_E0 S T) (h1 : tk_E1 S T) (p : Int) : tk_hd T p = tk_hd S p := by
  unfold tk_hd
  rw [h0.2.1]
  refine tk_sm_congr (fun t h2 h3 => ?_)
  rw [(h1 t h2 h3).2.2, tk_Wt_eq h0 h1 t ⟨h2, h3⟩]
theorem tk_pth_in {S : tk_M} (h2 : tk_I2 S) {c : Int} (hc : c = -5 ∨ (0 ≤ c ∧ c < S 0 2)) (k : Nat) : tk_pth S c k = -5 ∨ (0 ≤ tk_pth S c k ∧ tk_pth S c k < S 0 2) := by
  induction k with
  | zero => exact hc
  | succ k ih =>
    unfold tk_pth
    rcases ih with h | h
    · rw [if_neg (by omega)]; exact .inl rfl
    · rw [if_pos h.1]
      exact (h2 _ h.1 h.2).2.2.2.2.2
theorem tk_pth_eq {S T : tk_M} (hi : tk_I2 S) (h2 : tk_E2 S T) {c : Int} (hc : c = -5 ∨ (0 ≤ c ∧ c < S 0 2)) (k : Nat) : tk_pth T c k = tk_pth S c k := by
  induction k with
  | zero => rfl
  | succ k ih =>
    unfold tk_pth
    rw [ih]
    rcases tk_pth_in hi hc k with h | h
    · rw [if_neg (by omega), if_neg (by omega)]
    · rw [if_pos h.1, if_pos h.1]
      exact (h2 _ h.1 h.2).2.2.2.2.2
theorem tk_shr_eq {S T : tk_M} (hi : tk_I2 S) (h0 : tk_E0 S T) (h1 : tk_E1 S T) (h2 : tk_E2 S T) (a : Int) : tk_shr T a = tk_shr S a := by
  unfold tk_shr
  rw [h0.2.2.1]
  refine tk_sm_congr (fun c h3 h4 => tk_sg_congr (fun k _ _ => ?_))
  rw [tk_pth_eq hi h2 (.inr ⟨h3, h4⟩), tk_hd_eq h0 h1]
/-! bounds -/
theorem tk_isu_bd {S : tk_M} (h0 : tk_I0 S) (h1 : tk_I1 S) (c : Int) : 0 ≤ tk_isu S c ∧ tk_isu S c ≤ 239976 := by
  have h2 := tk_sm_bd (n := S 0 1) (B := 9999) (f := fun t => if S 1 t = c ∧ ¬ S 3 t = -5 then S 2 t else 0) h0.2.1.1 (fun t h2 h3 => by
    have := (h1 t h2 h3).2.1
    (try dsimp only)
    split <;> omega)
  have := h0.2.1.2
  unfold tk_isu
  omega
theorem tk_isu_ge {S : tk_M} (h0 : tk_I0 S) (h1 : tk_I1 S) {t : Int} (ht : 0 ≤ t ∧ t < S 0 1) (hh : ¬ S 3 t = -5) : S 2 t ≤ tk_isu S (S 1 t) := by
  have h := tk_sm_ge (n := S 0 1) (j := t) (f := fun u => if S 1 u = S 1 t ∧ ¬ S 3 u = -5 then S 2 u else 0) h0.2.1.1 ht (fun u h2 h3 => by
    have := (h1 u h2 h3).2.1
    (try dsimp only)
    split <;> omega)
  simp [hh] at h
  unfold tk_isu
  simpa using h
theorem tk_dle {a v b : Int} (ha : 0 ≤ a ∧ a ≤ b) (hv : 0 ≤ v) (hb : 0 < b) : 0 ≤ a * v / b ∧ a * v / b ≤ v := by
  have h1 : 0 ≤ a * v := Int.mul_nonneg ha.1 hv
  refine ⟨Int.ediv_nonneg h1 (by omega), ?_⟩
  have h2 : a * v ≤ v * b := by
    rw [Int.mul_comm v b]
    exact Int.mul_le_mul_of_nonneg_right ha.2 hv
  exact Int.ediv_le_of_le_mul hb h2
theorem tk_wo_bd {S : tk_M} (h0 : tk_I0 S) (h1 : tk_I1 S) {v : Int → Int} {B : Int} (hB : 9999 ≤ B) {t : Int} (ht : 0 ≤ t ∧ t < S 0 1) (hh : ¬ S 3 t = -5) (hv : 0 ≤ v (S 1 t) ∧ v (S 1 t) ≤ B) : 0 ≤ tk_wo S v t ∧ tk_wo S v t ≤ B := by
  have h2 := (h1 t ht.1 ht.2).2.1
  have h3 := tk_isu_ge h0 h1 ht hh
  unfold tk_wo
  split
  · omega
  · rw [if_neg (by omega)]
    have := tk_dle (a := S 2 t) (v := v (S 1 t)) (b := tk_isu S (S 1 t)) ⟨by omega, h3⟩ hv.1 (by omega)
    omega
def tk_BB : Nat → Int
  | 0 => 9999
  | k + 1 => 24 * tk_BB k
theorem tk_BB_ge (k : Nat) : 9999 ≤ tk_BB k := by
  induction k with
  | zero => decide
  | succ k ih => unfold tk_BB; omega
theorem tk_vl_bd {S : tk_M} (h0 : tk_I0 S) (h1 : tk_I1 S) (h7 : tk_I7 S) (k : Nat) (c : Int) (hc : 0 ≤ c) : 0 ≤ tk_vl S k c ∧ tk_vl S k c ≤ 79618277376 := by
  obtain ⟨rk, hr, hm⟩ := h7
  have key : ∀ (r : Nat) (k : Nat) (c : Int), 0 ≤ c → rk c ≤ r → 0 ≤ tk_vl S k c ∧ tk_vl S k c ≤ tk_BB r := by
    intro r
    induction r with
    | zero =>
      intro k c hc hr2
      have hz : tk_vl S k c = 0 := by
        cases k with
        | zero => rfl
        | succ k =>
          unfold tk_vl
          refine tk_sm_z h0.2.1.1 (fun t h2 h3 => ?_)
          rw [if_neg (fun z => ?_)]
          have := hm t h2 h3 (by omega)
          have h5 := (hr (S 1 t)).1
          rw [show S 3 t - 10 = c by omega] at this
          omega
      rw [hz]
      exact ⟨by omega, by decide⟩
    | succ r ih =>
      intro k c hc hr2
      cases k with
      | zero => exact ⟨Int.le_refl 0, by have := tk_BB_ge (r + 1); show 0 ≤ _; omega⟩
      | succ k =>
        have h2 := tk_sm_bd (n := S 0 1) (B := tk_BB r) (f := fun t => if S 3 t = 10 + c then tk_wo S (tk_vl S k) t else 0) h0.2.1.1 (fun t h2 h3 => by
          have hB := tk_BB_ge r
          (try dsimp only)
          split
          · rename_i h4
            have h5 := hm t h2 h3 (by omega)
            rw [show S 3 t - 10 = c by omega] at h5
            exact tk_wo_bd h0 h1 hB ⟨h2, h3⟩ (by omega) (ih k (S 1 t) (h1 t h2 h3).1.1 (by omega))
          · omega)
        have h3 : S 0 1 * tk_BB r ≤ 24 * tk_BB r := Int.mul_le_mul_of_nonneg_right h0.2.1.2 (by have := tk_BB_ge r; omega)
        have e : tk_BB (r + 1) = 24 * tk_BB r := rfl
        have e2 : tk_vl S (k + 1) c = tk_sm (S 0 1) (fun t => if S 3 t = 10 + c then tk_wo S (tk_vl S k) t else 0) := rfl
        rw [e, e2]
        omega
  have h2 := key 5 k c hc (hr c).2
  have e : tk_BB 5 = 79618277376 := by decide
  omega
theorem tk_V_fix {S : tk_M} (h1 : tk_I1 S) (h7 : tk_I7 S) (c : Int) (hc : 0 ≤ c) : tk_V S c = tk_sm (S 0 1) (fun t => if S 3 t = 10 + c then tk_Wt S t else 0) := by
  obtain ⟨rk, hr, hm⟩ := h7
  have key : ∀ (k : Nat) (c : Int), 0 ≤ c → rk c < k → tk_vl S k c = tk_vl S (k + 1) c := by
    intro k
    induction k with
    | zero => intro c hc h; have := (hr c).1; omega
    | succ k ih =>
      intro c hc h
      have e1 : tk_vl S (k + 1) c = tk_sm (S 0 1) (fun t => if S 3 t = 10 + c then tk_wo S (tk_vl S k) t else 0) := rfl
      have e2 : tk_vl S (k + 1 + 1) c = tk_sm (S 0 1) (fun t => if S 3 t = 10 + c then tk_wo S (tk_vl S (k + 1)) t else 0) := rfl
      rw [e1, e2]
      refine tk_sm_congr (fun t h2 h3 => ?_)
      split
      · rename_i h4
        have h5 := hm t h2 h3 (by omega)
        rw [show S 3 t - 10 = c by omega] at h5
        unfold tk_wo
        rw [ih (S 1 t) (h1 t h2 h3).1.1 (by omega)]
      · rfl
  have := (hr c).2
  exact key 6 c hc (by omega)
theorem tk_V_bd {S : tk_M} (h0 : tk_I0 S) (h1 : tk_I1 S) (h7 : tk_I7 S) (c : Int) (hc : 0 ≤ c) : 0 ≤ tk_V S c ∧ tk_V S c ≤ 79618277376 := tk_vl_bd h0 h1 h7 6 c hc
theorem tk_Wt_bd {S : tk_M} (h0 : tk_I0 S) (h1 : tk_I1 S) (h7 : tk_I7 S) {t : Int} (ht : 0 ≤ t ∧ t < S 0 1) (hh : ¬ S 3 t = -5) : 0 ≤ tk_Wt S t ∧ tk_Wt S t ≤ 79618277376 :=
  tk_wo_bd h0 h1 (by omega) ht hh (tk_V_bd h0 h1 h7 _ (h1 t ht.1 ht.2).1.1)
theorem tk_hd_bd {S : tk_M} (h0 : tk_I0 S) (h1 : tk_I1 S) (h7 : tk_I7 S) (p : Int) (hp : 0 ≤ p) : 0 ≤ tk_hd S p ∧ tk_hd S p ≤ 1910838657024 := by
  have h2 := tk_sm_bd (n := S 0 1) (B := 79618277376) (f := fun t => if S 3 t = p then tk_Wt S t else 0) h0.2.1.1 (fun t h2 h3 => by
    (try dsimp only)
    split
    · exact tk_Wt_bd h0 h1 h7 ⟨h2, h3⟩ (by omega)
    · omega)
  have := h0.2.1.2
  unfold tk_hd
  omega
theorem tk_sg_bd {n : Nat} {B : Int} {f : Int → Int} (h : ∀ i : Int, 0 ≤ i → i < n → 0 ≤ f i ∧ f i ≤ B) : 0 ≤ tk_sg n f ∧ tk_sg n f ≤ n * B := tk_sm_bd (n := n) (by omega) h
theorem tk_shr_bd {S : tk_M} (h0 : tk_I0 S) (h1 : tk_I1 S) (h7 : tk_I7 S) (a : Int) : 0 ≤ tk_shr S a ∧ tk_shr S a ≤ 122293674049536 := by
  have h2 := tk_sm_bd (n := S 0 2) (B := 15286709256192) (f := fun c => tk_sg 8 (fun k => if tk_pth S c k.toNat = a then tk_hd S c else 0)) h0.2.2.1.1 (fun c h2 h3 => by
    have h4 := tk_sg_bd (n := 8) (B := 1910838657024) (f := fun k => if tk_pth S c k.toNat = a then tk_hd S c else 0) (fun k _ _ => by
      have := tk_hd_bd h0 h1 h7 c h2
      (try dsimp only)
      split <;> omega)
    (try dsimp only)
    omega)
  have := h0.2.2.1.2
  unfold tk_shr
  omega
