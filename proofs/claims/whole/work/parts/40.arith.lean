/-! ===== Layer 2: numbers ===== -/
theorem tk_iadd_id {x y : Int} (h1 : -2147483648 ≤ x + y) (h2 : x + y ≤ 2147483647) : tk_iadd x y = x + y := by
  unfold tk_iadd
  rw [← Int32.ofInt_add]
  exact tk_ofI ⟨h1, h2⟩
theorem tk_isub_id {x y : Int} (h1 : -2147483648 ≤ x - y) (h2 : x - y ≤ 2147483647) : tk_isub x y = x - y := by
  unfold tk_isub
  rw [← Int32.ofInt_sub]
  exact tk_ofI ⟨h1, h2⟩
theorem tk_imul_id {x y : Int} (h1 : -2147483648 ≤ x * y) (h2 : x * y ≤ 2147483647) : tk_imul x y = x * y := by
  unfold tk_imul
  rw [← Int32.ofInt_mul]
  exact tk_ofI ⟨h1, h2⟩
theorem tk_ineg_id {x : Int} (h1 : -2147483647 ≤ x) (h2 : x ≤ 2147483647) : tk_ineg x = -x := by
  unfold tk_ineg
  rw [← Int32.ofInt_neg]
  exact tk_ofI ⟨by omega, by omega⟩
theorem tk_ladd_id {x y : Int} (h1 : -9223372036854775808 ≤ x + y) (h2 : x + y ≤ 9223372036854775807) : tk_ladd x y = x + y := by
  unfold tk_ladd
  rw [← Int64.ofInt_add]
  exact tk_ofL ⟨h1, h2⟩
theorem tk_lsub_id {x y : Int} (h1 : -9223372036854775808 ≤ x - y) (h2 : x - y ≤ 9223372036854775807) : tk_lsub x y = x - y := by
  unfold tk_lsub
  rw [← Int64.ofInt_sub]
  exact tk_ofL ⟨h1, h2⟩
theorem tk_lmul_id {x y : Int} (h1 : -9223372036854775808 ≤ x * y) (h2 : x * y ≤ 9223372036854775807) : tk_lmul x y = x * y := by
  unfold tk_lmul
  rw [← Int64.ofInt_mul]
  exact tk_ofL ⟨h1, h2⟩
theorem tk_lneg_id {x : Int} (h1 : -9223372036854775807 ≤ x) (h2 : x ≤ 9223372036854775807) : tk_lneg x = -x := by
  unfold tk_lneg
  rw [← Int64.ofInt_neg]
  exact tk_ofL ⟨by omega, by omega⟩
theorem tk_l2i_id {x : Int} (h : tk_r 0 x) : tk_l2i x = x := by
  unfold tk_l2i
  have h1 : tk_r 1 x := by obtain ⟨a, b⟩ := h; exact ⟨by omega, by omega⟩
  rw [← tk_i64 h, Int32.toInt32_toInt64]
  exact tk_ofI h
theorem tk_ab_id {x : Int} (h1 : -9223372036854775807 ≤ x) (h2 : x ≤ 9223372036854775807) : tk_ab x = if x < 0 then -x else x := by
  have hr : tk_r 1 x := ⟨by omega, by omega⟩
  have h0 : (0 : Int64) = Int64.ofInt 0 := rfl
  unfold tk_ab
  rw [h0]
  have e := tk_ltL (x := 0) (y := x) ⟨by omega, by omega⟩ hr
  by_cases hx : 0 < x
  · rw [if_pos (e.mpr hx), if_neg (by omega)]
    exact tk_ofL hr
  · rw [if_neg (fun z => hx (e.mp z)), ← Int64.ofInt_neg, tk_ofL ⟨by omega, by omega⟩]
    split <;> omega
