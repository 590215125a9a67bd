/-! ===== Layer 2: sets as bits ===== -/
def tk_bit (x k : Int) : Prop := 0 ≤ k ∧ x.toNat.testBit k.toNat = true
theorem tk_ior_n {a b : Nat} (ha : a < 2147483648) (hb : b < 2147483648) : tk_ior (a : Int) (b : Int) = ((a ||| b : Nat) : Int) := by
  unfold tk_ior
  have h : a ||| b < 2 ^ 31 := Nat.or_lt_two_pow (by omega) (by omega)
  rw [← Int32.toInt_toBitVec, Int32.toBitVec_or, Int32.toBitVec_ofInt, Int32.toBitVec_ofInt, BitVec.ofInt_natCast, BitVec.ofInt_natCast]
  have e : (BitVec.ofNat 32 a ||| BitVec.ofNat 32 b).toNat = a ||| b := by
    rw [BitVec.toNat_or, BitVec.toNat_ofNat, BitVec.toNat_ofNat, Nat.mod_eq_of_lt (by omega), Nat.mod_eq_of_lt (by omega)]
  rw [BitVec.toInt_eq_toNat_of_lt (by rw [e]; omega), e]
theorem tk_iand_n {a b : Nat} (ha : a < 2147483648) (hb : b < 2147483648) : tk_iand (a : Int) (b : Int) = ((a &&& b : Nat) : Int) := by
  unfold tk_iand
  have h : a &&& b ≤ a := Nat.and_le_left
  rw [← Int32.toInt_toBitVec, Int32.toBitVec_and, Int32.toBitVec_ofInt, Int32.toBitVec_ofInt, BitVec.ofInt_natCast, BitVec.ofInt_natCast]
  have e : (BitVec.ofNat 32 a &&& BitVec.ofNat 32 b).toNat = a &&& b := by
    rw [BitVec.toNat_and, BitVec.toNat_ofNat, BitVec.toNat_ofNat, Nat.mod_eq_of_lt (by omega), Nat.mod_eq_of_lt (by omega)]
  rw [BitVec.toInt_eq_toNat_of_lt (by rw [e]; omega), e]
theorem tk_shl_n (k : Fin 31) : tk_ishl 1 ((k.val : Nat) : Int) = ((2 ^ k.val : Nat) : Int) := by
  revert k
  decide +kernel
theorem tk_sm32 (k : Fin 31) : ((Int32.ofInt ((k.val : Nat) : Int) &&& 31).toBitVec.smod 32).toNat = k.val := by
  revert k
  decide +kernel
theorem tk_ishr_n {a : Nat} (k : Fin 31) (ha : a < 2147483648) : tk_ishr (a : Int) ((k.val : Nat) : Int) = ((a >>> k.val : Nat) : Int) := by
  unfold tk_ishr
  rw [← Int32.toInt_toBitVec, Int32.toBitVec_shiftRight, BitVec.sshiftRight_eq', BitVec.toInt_sshiftRight, tk_sm32, Int32.toBitVec_ofInt, BitVec.ofInt_natCast]
  have e : (BitVec.ofNat 32 a).toNat = a := by rw [BitVec.toNat_ofNat, Nat.mod_eq_of_lt (by omega)]
  rw [BitVec.toInt_eq_toNat_of_lt (by rw [e]; omega), e]
  rfl
theorem tk_nnt {x : Int} (h : 0 ≤ x) : ∃ n : Nat, x = (n : Int) := ⟨x.toNat, by omega⟩
theorem tk_bit_v {x k : Int} (hx : 0 ≤ x ∧ x ≤ 2147483647) (hk : 0 ≤ k ∧ k ≤ 30) : tk_iand (tk_ishr x k) 1 = tk_bo (x.toNat.testBit k.toNat = true) := by
  obtain ⟨n, rfl⟩ := tk_nnt hx.1
  obtain ⟨j, rfl⟩ := tk_nnt hk.1
  have e := tk_ishr_n (a := n) ⟨j, by omega⟩ (by omega)
  simp only at e
  rw [e]
  have h1 : n >>> j ≤ n := by rw [Nat.shiftRight_eq_div_pow]; exact Nat.div_le_self _ _
  have e1 := tk_iand_n (a := n >>> j) (b := 1) (by omega) (by omega)
  rw [show (1 : Int) = ((1 : Nat) : Int) from rfl, e1, Nat.and_one_is_mod, Int.toNat_natCast, Int.toNat_natCast, Nat.testBit_eq_decide_div_mod_eq, Nat.shiftRight_eq_div_pow]
  unfold tk_bo
  by_cases h : n / 2 ^ j % 2 = 1
  · simp [h]
  · have : n / 2 ^ j % 2 = 0 := by omega
    simp [this]
theorem tk_bit_0 {x k : Int} (hx : 0 ≤ x ∧ x ≤ 2147483647) (hk : 0 ≤ k ∧ k ≤ 30) : (tk_iand (tk_ishr x k) 1 = 0) = ¬ tk_bit x k := by
  rw [tk_bit_v hx hk, tk_bo_0]
  unfold tk_bit
  simp [hk.1]
theorem tk_bit_1 {x k : Int} (hx : 0 ≤ x ∧ x ≤ 2147483647) (hk : 0 ≤ k ∧ k ≤ 30) : (tk_iand (tk_ishr x k) 1 = 1) = tk_bit x k := by
  rw [tk_bit_v hx hk]
  unfold tk_bit tk_bo
  by_cases h : x.toNat.testBit k.toNat = true <;> simp [h, hk.1]
theorem tk_bit_z (k : Int) : ¬ tk_bit 0 k := by
  unfold tk_bit
  simp
/-- x is a set of places below n -/
def tk_bs2 (n : Nat) (x : Int) : Prop := 0 ≤ x ∧ x < 2 ^ n
theorem tk_bs_0 (n : Nat) : tk_bs2 n 0 := ⟨by omega, Int.pow_pos (by omega)⟩
theorem tk_bs_r {n : Nat} {x : Int} (hn : n ≤ 31) (h : tk_bs2 n x) : 0 ≤ x ∧ x ≤ 2147483647 := by
  have h1 : (2 : Nat) ^ n ≤ 2 ^ 31 := Nat.pow_le_pow_right (by omega) hn
  have h2 : (2 : Int) ^ n ≤ 2 ^ 31 := by exact_mod_cast h1
  have := h.2
  exact ⟨h.1, by omega⟩
theorem tk_bs_lt {n : Nat} {x k : Int} (h : tk_bs2 n x) (hb : tk_bit x k) : k < n := by
  obtain ⟨m, rfl⟩ := tk_nnt h.1
  obtain ⟨j, rfl⟩ := tk_nnt hb.1
  have h2 := h.2
  have h3 : m < 2 ^ n := by exact_mod_cast h2
  by_cases hj : j < n
  · omega
  · have h4 : m < 2 ^ j := Nat.lt_of_lt_of_le h3 (Nat.pow_le_pow_right (by omega) (by omega))
    have := hb.2
    rw [Int.toNat_natCast, Int.toNat_natCast, Nat.testBit_lt_two_pow h4] at this
    cases this
theorem tk_bit_or {n : Nat} {x y k : Int} (hn : n ≤ 31) (hx : tk_bs2 n x) (hy : tk_bs2 n y) : tk_bit (tk_ior x y) k ↔ tk_bit x k ∨ tk_bit y k := by
  have a := tk_bs_r hn hx
  have b := tk_bs_r hn hy
  obtain ⟨m, rfl⟩ := tk_nnt hx.1
  obtain ⟨j, rfl⟩ := tk_nnt hy.1
  rw [tk_ior_n (by omega) (by omega)]
  unfold tk_bit
  simp only [Int.toNat_natCast, Nat.testBit_or, Bool.or_eq_true]
  constructor
  · rintro ⟨h1, h2 | h2⟩
    · exact .inl ⟨h1, h2⟩
    · exact .inr ⟨h1, h2⟩
  · rintro (⟨h1, h2⟩ | ⟨h1, h2⟩)
    · exact ⟨h1, .inl h2⟩
    · exact ⟨h1, .inr h2⟩
theorem tk_bs_or {n : Nat} {x y : Int} (hn : n ≤ 31) (hx : tk_bs2 n x) (hy : tk_bs2 n y) : tk_bs2 n (tk_ior x y) := by
  have a := tk_bs_r hn hx
  have b := tk_bs_r hn hy
  obtain ⟨m, rfl⟩ := tk_nnt hx.1
  obtain ⟨j, rfl⟩ := tk_nnt hy.1
  rw [tk_ior_n (by omega) (by omega)]
  have h1 : m < 2 ^ n := by exact_mod_cast hx.2
  have h2 : j < 2 ^ n := by exact_mod_cast hy.2
  exact ⟨by omega, by exact_mod_cast Nat.or_lt_two_pow h1 h2⟩
theorem tk_bit_sh {j k : Int} (hj : 0 ≤ j ∧ j ≤ 30) : tk_bit (tk_ishl 1 j) k ↔ k = j := by
  obtain ⟨m, rfl⟩ := tk_nnt hj.1
  have e := tk_shl_n ⟨m, by omega⟩
  simp only at e
  rw [e]
  unfold tk_bit
  rw [Int.toNat_natCast, Nat.testBit_two_pow]
  simp
  omega
theorem tk_bs_sh {n : Nat} {j : Int} (hj : 0 ≤ j ∧ j < n) (hn : n ≤ 31) : tk_bs2 n (tk_ishl 1 j) := by
  obtain ⟨m, rfl⟩ := tk_nnt hj.1
  have e := tk_shl_n ⟨m, by omega⟩
  simp only at e
  rw [e]
  have h : (2 : Nat) ^ m < 2 ^ n := Nat.pow_lt_pow_right (by omega) (by omega)
  exact ⟨Int.natCast_nonneg _, by exact_mod_cast h⟩
theorem tk_bit_ext {n : Nat} {x y : Int} (hx : tk_bs2 n x) (hy : tk_bs2 n y) (h : ∀ k : Int, 0 ≤ k → k < n → (tk_bit x k ↔ tk_bit y k)) : x = y := by
  obtain ⟨m, rfl⟩ := tk_nnt hx.1
  obtain ⟨j, rfl⟩ := tk_nnt hy.1
  have h1 : m < 2 ^ n := by exact_mod_cast hx.2
  have h2 : j < 2 ^ n := by exact_mod_cast hy.2
  congr 1
  apply Nat.eq_of_testBit_eq
  intro i
  by_cases hi : i < n
  · have := h (i : Int) (by omega) (by omega)
    unfold tk_bit at this
    simp only [Int.toNat_natCast] at this
    have h3 : m.testBit i = true ↔ j.testBit i = true := ⟨fun z => (this.mp ⟨by omega, z⟩).2, fun z => (this.mpr ⟨by omega, z⟩).2⟩
    cases ha : m.testBit i <;> cases hb : j.testBit i <;> simp_all
  · have h4 : (2 : Nat) ^ n ≤ 2 ^ i := Nat.pow_le_pow_right (by omega) (by omega)
    rw [Nat.testBit_lt_two_pow (Nat.lt_of_lt_of_le h1 h4), Nat.testBit_lt_two_pow (Nat.lt_of_lt_of_le h2 h4)]
theorem tk_bit_sub {x y : Int} (hx : 0 ≤ x ∧ x ≤ 2147483647) (hy : 0 ≤ y ∧ y ≤ 2147483647) : tk_iand x (tk_ixor y (-1)) = 0 ↔ ∀ k : Int, tk_bit x k → tk_bit y k := by
  obtain ⟨a, rfl⟩ := tk_nnt hx.1
  obtain ⟨b, rfl⟩ := tk_nnt hy.1
  have e : tk_iand (a : Int) (tk_ixor (b : Int) (-1)) = ((a &&& (b ^^^ 4294967295) : Nat) : Int) := by
    unfold tk_iand tk_ixor
    rw [Int32.ofInt_toInt, ← Int32.toInt_toBitVec, Int32.toBitVec_and, Int32.toBitVec_xor, Int32.toBitVec_ofInt, Int32.toBitVec_ofInt, Int32.toBitVec_ofInt, BitVec.ofInt_natCast, BitVec.ofInt_natCast]
    have h : a &&& (b ^^^ 4294967295) ≤ a := Nat.and_le_left
    have h1 : (BitVec.ofInt 32 (-1)).toNat = 4294967295 := by decide +kernel
    have e : (BitVec.ofNat 32 a &&& (BitVec.ofNat 32 b ^^^ BitVec.ofInt 32 (-1))).toNat = a &&& (b ^^^ 4294967295) := by
      rw [BitVec.toNat_and, BitVec.toNat_xor, h1, BitVec.toNat_ofNat, BitVec.toNat_ofNat, Nat.mod_eq_of_lt (by omega), Nat.mod_eq_of_lt (by omega)]
    rw [BitVec.toInt_eq_toNat_of_lt (by rw [e]; omega), e]
  rw [e]
  have hq : ∀ i : Nat, (4294967295 : Nat).testBit i = decide (i < 32) := fun i => by
    rw [show (4294967295 : Nat) = 2 ^ 32 - 1 from rfl, Nat.testBit_two_pow_sub_one]
  constructor
  · rintro h k ⟨h1, h2⟩
    refine ⟨h1, ?_⟩
    have h3 : a &&& (b ^^^ 4294967295) = 0 := by exact_mod_cast h
    have h4 : (a &&& (b ^^^ 4294967295)).testBit k.toNat = false := by rw [h3]; simp
    have hk : k.toNat < 32 := by
      by_cases hk : k.toNat < 32
      · exact hk
      · have h5 : a < 2 ^ k.toNat := Nat.lt_of_lt_of_le (show a < 2 ^ 32 by omega) (Nat.pow_le_pow_right (by omega) (by omega))
        rw [Int.toNat_natCast, Nat.testBit_lt_two_pow h5] at h2
        cases h2
    rw [Nat.testBit_and, Nat.testBit_xor, hq] at h4
    rw [Int.toNat_natCast] at h2 ⊢
    simpa [h2, hk] using h4
  · intro h
    have h3 : a &&& (b ^^^ 4294967295) = 0 := by
      apply Nat.eq_of_testBit_eq
      intro i
      rw [Nat.testBit_and, Nat.testBit_xor, hq]
      have := h (i : Int)
      unfold tk_bit at this
      simp only [Int.toNat_natCast] at this
      by_cases ha : a.testBit i = true
      · have hb := (this ⟨by omega, ha⟩).2
        have hk : i < 32 := by
          by_cases hk : i < 32
          · exact hk
          · have h5 : a < 2 ^ i := Nat.lt_of_lt_of_le (show a < 2 ^ 32 by omega) (Nat.pow_le_pow_right (by omega) (by omega))
            rw [Nat.testBit_lt_two_pow h5] at ha
            cases ha
        simp [ha, hb, hk]
      · simp [ha]
    exact_mod_cast h3
/-! a loop that counts -/
theorem tk_for {C : tk_Cn} {B : tk_Sm} {Qn : tk_L → tk_M → Prop} {Qr : Int → tk_M → Prop} (n : Int) (I : Int → tk_L → tk_M → Prop) {ρ : tk_L} {μ : tk_M} (h0 : 0 ≤ n) (hI : I 0 ρ μ) (hs : ∀ (i : Int) (ρ : tk_L) (μ : tk_M), 0 ≤ i → i < n → I i ρ μ → ∀ K : tk_L → tk_M → Prop, (∀ (ρ2 : tk_L) (μ2 : tk_M), I (i + 1) ρ2 μ2 → K ρ2 μ2) → C (fun μ1 => B K Qr ρ μ1) (fun μ1 => Qn ρ μ1) ρ μ) (he : ∀ (ρ : tk_L) (μ : tk_M), I n ρ μ → ∀ X : tk_M → Prop, C X (fun μ1 => Qn ρ μ1) ρ μ) : tk_wh C B Qn Qr ρ μ := by
  refine tk_loop (fun k ρ μ => ∃ i : Int, (k : Int) = n - i ∧ 0 ≤ i ∧ i ≤ n ∧ I i ρ μ) ?_ n.toNat ⟨0, by omega, by omega, h0, hI⟩
  rintro k ρ μ ⟨i, h1, h2, h3, h4⟩ K hK
  by_cases hi : i < n
  · exact hs i ρ μ h2 hi h4 K (fun ρ2 μ2 h5 => hK (k - 1) ρ2 μ2 (by omega) ⟨i + 1, by omega, by omega, by omega, h5⟩)
  · have : i = n := by omega
    subst this
    exact he ρ μ h4 _
