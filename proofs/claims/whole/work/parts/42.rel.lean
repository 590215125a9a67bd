/-! ===== Layer 2: readers, the coupling ===== -/
/-- a Hall -/
def tk_hv (h : Int) (μ : tk_M) : tk_M := fun f i => μ (h + f) i
/-- the Model's own numbers, in a Hall's places -/
def tk_mv (μ : tk_M) : tk_M := fun f i =>
  if f = 0 then (if i = 0 then μ 96 0 else if i = 1 then μ 96 1 else if i = 2 then μ 96 5 else if i = 3 then μ 96 13 else if i = 4 then μ 96 14 else 0)
  else if f = 1 then μ 97 i else if f = 2 then μ 98 i else if f = 3 then μ 99 i
  else if f = 4 then μ 100 i else if f = 5 then μ 101 i else if f = 6 then μ 102 i else if f = 7 then μ 103 i else if f = 8 then μ 104 i else if f = 9 then μ 105 i
  else if f = 10 then μ 106 i else if f = 11 then μ 96 15 else if f = 12 then μ 107 i else if f = 13 then μ 108 i
  else if f = 14 then μ 96 18 else if f = 15 then μ 109 i else if f = 16 then μ 110 i
  else if f = 17 then μ 96 21 else if f = 18 then μ 111 i else μ 112 i
/-- its image, in a Hall's places -/
def tk_iv (a : Int) (μ : tk_M) : tk_M := fun f i =>
  if f = 0 then μ a i
  else if f = 1 then μ a (8 + 3 * i) else if f = 2 then μ a (9 + 3 * i) else if f = 3 then μ a (10 + 3 * i)
  else if f = 4 then μ a (80 + 8 * i) else if f = 5 then μ a (81 + 8 * i) else if f = 6 then μ a (82 + 8 * i) else if f = 7 then μ a (83 + 8 * i) else if f = 8 then μ a (84 + 8 * i) else if f = 9 then μ a (85 + 8 * i)
  else if f = 10 then μ a (144 + i) else if f = 11 then μ a 5 else if f = 12 then μ a (176 + 2 * i) else if f = 13 then μ a (177 + 2 * i)
  else if f = 14 then μ a 6 else if f = 15 then μ a (186 + 2 * i) else if f = 16 then μ a (187 + 2 * i)
  else if f = 17 then μ a 7 else if f = 18 then μ a (86 + 8 * i) else μ a (87 + 8 * i)
/-- two readers agree where there is something -/
def tk_E0 (S T : tk_M) : Prop := T 0 0 = S 0 0 ∧ T 0 1 = S 0 1 ∧ T 0 2 = S 0 2 ∧ T 0 3 = S 0 3 ∧ T 0 4 = S 0 4
def tk_E1 (S T : tk_M) : Prop := ∀ t : Int, 0 ≤ t → t < S 0 1 → T 1 t = S 1 t ∧ T 2 t = S 2 t ∧ T 3 t = S 3 t
def tk_E2 (S T : tk_M) : Prop := ∀ c : Int, 0 ≤ c → c < S 0 2 → T 4 c = S 4 c ∧ T 5 c = S 5 c ∧ T 6 c = S 6 c ∧ T 7 c = S 7 c ∧ T 8 c = S 8 c ∧ T 9 c = S 9 c
def tk_E3 (S T : tk_M) : Prop := ∀ k : Int, 0 ≤ k → k < 4 * S 0 2 → T 10 k = S 10 k
def tk_E4 (S T : tk_M) : Prop := T 11 0 = S 11 0 ∧ ∀ k : Int, 0 ≤ k → k < S 11 0 → T 12 k = S 12 k ∧ T 13 k = S 13 k
def tk_E5 (S T : tk_M) : Prop := T 14 0 = S 14 0 ∧ ∀ k : Int, 0 ≤ k → k < S 14 0 → T 15 k = S 15 k ∧ T 16 k = S 16 k
def tk_E6 (S T : tk_M) : Prop := T 17 0 = S 17 0 ∧ ∀ k : Int, 0 ≤ k → k < S 17 0 → T 18 k = S 18 k ∧ T 19 k = S 19 k
def tk_EE (S T : tk_M) : Prop := tk_E0 S T ∧ tk_E1 S T ∧ tk_E2 S T ∧ tk_E3 S T ∧ tk_E4 S T ∧ tk_E5 S T ∧ tk_E6 S T
/-- what holds of a Hall at any time between calls -/
def tk_I0 (S : tk_M) : Prop := (1 ≤ S 0 0 ∧ S 0 0 ≤ 6) ∧ (0 ≤ S 0 1 ∧ S 0 1 ≤ 24) ∧ (0 ≤ S 0 2 ∧ S 0 2 ≤ 8) ∧ (0 ≤ S 0 3 ∧ S 0 3 ≤ 999999) ∧ (0 ≤ S 0 4 ∧ S 0 4 ≤ S 0 3)
def tk_I1 (S : tk_M) : Prop := ∀ t : Int, 0 ≤ t → t < S 0 1 → (0 ≤ S 1 t ∧ S 1 t < S 0 0) ∧ (1 ≤ S 2 t ∧ S 2 t ≤ 9999) ∧ (S 3 t = -5 ∨ (0 ≤ S 3 t ∧ S 3 t < S 0 2) ∨ (11 ≤ S 3 t ∧ S 3 t < 10 + S 0 0))
def tk_I2 (S : tk_M) : Prop := ∀ c : Int, 0 ≤ c → c < S 0 2 → (0 ≤ S 4 c ∧ S 4 c ≤ 6) ∧ (0 ≤ S 5 c ∧ S 5 c ≤ 9) ∧ (0 ≤ S 6 c ∧ S 6 c ≤ S 0 3) ∧ (1 ≤ S 7 c ∧ S 7 c ≤ 10) ∧ (0 ≤ S 8 c ∧ S 8 c ≤ 2147483647) ∧ (S 9 c = -5 ∨ (0 ≤ S 9 c ∧ S 9 c < S 0 2))
def tk_I3 (S : tk_M) : Prop := ∀ k : Int, 0 ≤ k → k < 4 * S 0 2 → 0 ≤ S 10 k ∧ S 10 k ≤ 9
def tk_I4 (S : tk_M) : Prop := (0 ≤ S 11 0 ∧ S 11 0 ≤ 5) ∧ ∀ k : Int, 0 ≤ k → k < S 11 0 → (0 ≤ S 12 k ∧ S 12 k < S 0 2) ∧ (1 ≤ S 13 k ∧ S 13 k ≤ 12)
def tk_I5 (S : tk_M) : Prop := (0 ≤ S 14 0 ∧ S 14 0 ≤ 10) ∧ ∀ k : Int, 0 ≤ k → k < S 14 0 → S 15 k = 0 ∨ ((S 15 k = 1 ∨ S 15 k = 3) ∧ 0 ≤ S 16 k ∧ S 16 k < S 0 1) ∨ (S 15 k = 2 ∧ 0 ≤ S 16 k ∧ S 16 k < S 0 2)
def tk_I6 (S : tk_M) : Prop := (0 ≤ S 17 0 ∧ S 17 0 ≤ 8 ∧ S 0 3 ≤ 99999) ∧ ∀ k : Int, 0 ≤ k → k < S 17 0 → 0 ≤ S 18 k ∧ S 18 k < S 0 2
/-- no CURRENCY hangs on itself: a rank that grows -/
def tk_I7 (S : tk_M) : Prop := ∃ rk : Int → Int, (∀ c, 0 ≤ rk c ∧ rk c ≤ 5) ∧ ∀ t : Int, 0 ≤ t → t < S 0 1 → 10 ≤ S 3 t → rk (S 1 t) < rk (S 3 t - 10)
/-- nobody waits for itself -/
def tk_I8 (S : tk_M) : Prop := ∃ rk : Int → Int, (∀ c, 0 ≤ rk c ∧ rk c ≤ 7) ∧ ∀ c : Int, 0 ≤ c → c < S 0 2 → 0 ≤ S 9 c → rk c < rk (S 9 c)
def tk_II (S : tk_M) : Prop := tk_I0 S ∧ tk_I1 S ∧ tk_I2 S ∧ tk_I3 S ∧ tk_I4 S ∧ tk_I5 S ∧ tk_I6 S ∧ tk_I7 S ∧ tk_I8 S
/-- THE TEXT -/
def tk_RT (μ : tk_M) : Prop := μ 96 39 = μ 0 7 ∧ (0 ≤ μ 0 7 ∧ μ 0 7 ≤ 100) ∧ ∀ i : Int, 0 ≤ i → i < μ 0 7 → μ 121 i = μ 81 i ∧ 0 ≤ μ 81 i ∧ μ 81 i ≤ 127
/-- the TAPES -/
def tk_RP (μ : tk_M) : Prop := ∀ t : Int, 0 ≤ t → t < 6 → (-1 ≤ μ (84 + 2 * t) 0 ∧ μ (84 + 2 * t) 0 ≤ 4) ∧ (0 ≤ μ (84 + 2 * t) 1 ∧ μ (84 + 2 * t) 1 ≤ 60) ∧ (μ (84 + 2 * t) 0 = -1 → μ (84 + 2 * t) 1 = 0) ∧ μ 129 t = tk_bo (0 ≤ μ (84 + 2 * t) 0) ∧ (0 ≤ μ (84 + 2 * t) 0 → μ 125 t = μ (84 + 2 * t) 0 ∧ μ 126 t = μ (84 + 2 * t) 1) ∧ ∀ i : Int, 0 ≤ i → i < 60 → μ 127 (60 * t + i) = μ (85 + 2 * t) i
/-- THE IMAGE -/
def tk_RI (μ : tk_M) : Prop := (μ 0 5 = 0 ∨ μ 0 5 = 1) ∧ μ 96 27 = μ 0 5 ∧ (μ 0 5 = 1 → tk_EE (tk_hv 61 μ) (tk_iv 114 μ) ∧ tk_II (tk_hv 61 μ))
def tk_R (μ : tk_M) : Prop := tk_EE (tk_hv 1 μ) (tk_mv μ) ∧ tk_II (tk_hv 1 μ) ∧ tk_RT μ ∧ tk_RP μ ∧ tk_RI μ
/-- a call of both, alike -/
def tk_cp (F G : tk_F) (as : List Int) : Prop := ∀ (μ : tk_M), tk_R μ → ∀ K : Int → Int → tk_M → Prop, (∀ r μ', tk_R μ' → K r r μ') → F (0 :: as) (fun r μ1 => G (96 :: as) (fun r' μ2 => K r r' μ2) μ1) μ
/-! frames: what a part looks at -/
theorem tk_RP_fr {μ μ' : tk_M} (h : tk_RP μ) (hq : ∀ o i : Int, (84 ≤ o ∧ o ≤ 95) ∨ o = 125 ∨ o = 126 ∨ o = 127 ∨ o = 129 → μ' o i = μ o i) : tk_RP μ' := by
  intro t h0 h6
  obtain ⟨h1, h2, h3, h4, h5, h7⟩ := h t h0 h6
  have e1 : ∀ i, μ' (84 + 2 * t) i = μ (84 + 2 * t) i := fun i => hq _ _ (by omega)
  have e2 : ∀ i, μ' (85 + 2 * t) i = μ (85 + 2 * t) i := fun i => hq _ _ (by omega)
  have e3 : ∀ i, μ' 125 i = μ 125 i := fun i => hq _ _ (by omega)
  have e4 : ∀ i, μ' 126 i = μ 126 i := fun i => hq _ _ (by omega)
  have e5 : ∀ i, μ' 127 i = μ 127 i := fun i => hq _ _ (by omega)
  have e6 : ∀ i, μ' 129 i = μ 129 i := fun i => hq _ _ (by omega)
  simp only [e1, e2, e3, e4, e5, e6]
  exact ⟨h1, h2, h3, h4, h5, h7⟩
theorem tk_RT_fr {μ μ' : tk_M} (h : tk_RT μ) (h0 : μ' 0 7 = μ 0 7) (h1 : μ' 96 39 = μ 96 39) (hq : ∀ i : Int, μ' 81 i = μ 81 i ∧ μ' 121 i = μ 121 i) : tk_RT μ' := by
  obtain ⟨a, b, c⟩ := h
  unfold tk_RT
  rw [h0, h1]
  refine ⟨a, b, fun i h1 h2 => ?_⟩
  rw [(hq i).1, (hq i).2]
  exact c i h1 h2
theorem tk_hv_fr {μ μ' : tk_M} {h : Int} (hq : ∀ o i : Int, h ≤ o → o ≤ h + 19 → μ' o i = μ o i) : ∀ f i : Int, 0 ≤ f → f ≤ 19 → tk_hv h μ' f i = tk_hv h μ f i := fun f i h1 h2 => hq _ _ (by omega) (by omega)
theorem tk_EE_fr {S S' T T' : tk_M} (h : tk_EE S T) (hS : ∀ f i : Int, 0 ≤ f → f ≤ 19 → S' f i = S f i) (hT : ∀ f i : Int, 0 ≤ f → f ≤ 19 → T' f i = T f i) : tk_EE S' T' := by
  unfold tk_EE tk_E0 tk_E1 tk_E2 tk_E3 tk_E4 tk_E5 tk_E6 at h ⊢
  have e : ∀ (f : Int), 0 ≤ f → f ≤ 19 → ∀ i, S' f i = S f i := fun f h1 h2 i => hS f i h1 h2
  have e' : ∀ (f : Int), 0 ≤ f → f ≤ 19 → ∀ i, T' f i = T f i := fun f h1 h2 i => hT f i h1 h2
  simp only [e 0 (by omega) (by omega), e 1 (by omega) (by omega), e 2 (by omega) (by omega), e 3 (by omega) (by omega), e 4 (by omega) (by omega), e 5 (by omega) (by omega), e 6 (by omega) (by omega), e 7 (by omega) (by omega), e 8 (by omega) (by omega), e 9 (by omega) (by omega), e 10 (by omega) (by omega), e 11 (by omega) (by omega), e 12 (by omega) (by omega), e 13 (by omega) (by omega), e 14 (by omega) (by omega), e 15 (by omega) (by omega), e 16 (by omega) (by omega), e 17 (by omega) (by omega), e 18 (by omega) (by omega), e 19 (by omega) (by omega), e' 0 (by omega) (by omega), e' 1 (by omega) (by omega), e' 2 (by omega) (by omega), e' 3 (by omega) (by omega), e' 4 (by omega) (by omega), e' 5 (by omega) (by omega), e' 6 (by omega) (by omega), e' 7 (by omega) (by omega), e' 8 (by omega) (by omega), e' 9 (by omega) (by omega), e' 10 (by omega) (by omega), e' 11 (by omega) (by omega), e' 12 (by omega) (by omega), e' 13 (by omega) (by omega), e' 14 (by omega) (by omega), e' 15 (by omega) (by omega), e' 16 (by omega) (by omega), e' 17 (by omega) (by omega), e' 18 (by omega) (by omega), e' 19 (by omega) (by omega)]
  exact h
theorem tk_II_fr {S S' : tk_M} (h : tk_II S) (hS : ∀ f i : Int, 0 ≤ f → f ≤ 19 → S' f i = S f i) : tk_II S' := by
  unfold tk_II tk_I0 tk_I1 tk_I2 tk_I3 tk_I4 tk_I5 tk_I6 tk_I7 tk_I8 at h ⊢
  have e : ∀ (f : Int), 0 ≤ f → f ≤ 19 → ∀ i, S' f i = S f i := fun f h1 h2 i => hS f i h1 h2
  simp only [e 0 (by omega) (by omega), e 1 (by omega) (by omega), e 2 (by omega) (by omega), e 3 (by omega) (by omega), e 4 (by omega) (by omega), e 5 (by omega) (by omega), e 6 (by omega) (by omega), e 7 (by omega) (by omega), e 8 (by omega) (by omega), e 9 (by omega) (by omega), e 10 (by omega) (by omega), e 11 (by omega) (by omega), e 12 (by omega) (by omega), e 13 (by omega) (by omega), e 14 (by omega) (by omega), e 15 (by omega) (by omega), e 16 (by omega) (by omega), e 17 (by omega) (by omega), e 18 (by omega) (by omega), e 19 (by omega) (by omega)]
  exact h
theorem tk_RI_fr {μ μ' : tk_M} (h : tk_RI μ) (h0 : μ' 0 5 = μ 0 5) (h1 : μ' 96 27 = μ 96 27) (hq : ∀ o i : Int, 61 ≤ o → o ≤ 80 → μ' o i = μ o i) (h2 : ∀ i : Int, μ' 114 i = μ 114 i) : tk_RI μ' := by
  obtain ⟨a, b, c⟩ := h
  unfold tk_RI
  rw [h0, h1]
  refine ⟨a, b, fun hi => ?_⟩
  obtain ⟨c1, c2⟩ := c hi
  have hS := tk_hv_fr (h := 61) (μ := μ) (μ' := μ') (fun o i h3 h4 => hq o i h3 (by omega))
  exact ⟨tk_EE_fr c1 hS (fun f i _ _ => by unfold tk_iv; simp only [h2]), tk_II_fr c2 hS⟩
