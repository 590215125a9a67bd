/-! ===== Layer 2: QUANTA, as numbers ===== -/
def tk_we (sh : Int → Int) (S : tk_M) (p : Int) : Int := 10 * sh p / S 7 p
def tk_sv (S : tk_M) (p : Int) : Int := tk_sm (S 0 2) (fun o => if S 9 o = p then 1 else 0)
def tk_rd (sh : Int → Int) (S : tk_M) (p : Int) : Int := tk_bo (S 9 p = -5 ∧ 0 < tk_we sh S p ∧ ((¬ S 4 p = 2 ∧ ¬ S 4 p = 5) ∨ 0 < tk_sv S p))
def tk_rw (sh : Int → Int) (S : tk_M) (p : Int) : Int := if tk_rd sh S p = 1 then tk_we sh S p else 0
def tk_tot (sh : Int → Int) (S : tk_M) : Int := tk_sm (S 0 2) (tk_rw sh S)
def tk_std (sh : Int → Int) (S : tk_M) (p : Int) : Int := if 0 < tk_we sh S p then (if 100000000 / tk_we sh S p < 1 then 1 else 100000000 / tk_we sh S p) else -5
def tk_bu (S : tk_M) : Int := if S 0 3 / 10 % 2 = 1 then 5 else 10
def tk_mx1 (v : Int) : Int := if v < 1 then 1 else v
def tk_prt (S : tk_M) (c : Int) : Int := if S 4 c = 1 then S 5 c + 1 else if S 4 c = 3 then tk_bu S else if S 4 c = 4 then tk_mx1 ((S 5 c + 1) / 2) else if S 4 c = 5 then 10 - S 5 c else if S 4 c = 6 then tk_mx1 (tk_bu S - S 10 (4 * c + S 0 3 % 4)) else 10
def tk_nx (sh : Int → Int) (S : tk_M) : Nat → Int
  | 0 => -5
  | k + 1 => if tk_rd sh S k = 1 ∧ (tk_nx sh S k < 0 ∨ S 8 k < S 8 (tk_nx sh S k)) then k else tk_nx sh S k
def tk_nxt (sh : Int → Int) (S : tk_M) : Int := tk_nx sh S (S 0 2).toNat
def tk_spn (S : tk_M) (c : Int) : tk_M := if c < 0 then tk_set S 0 3 (S 0 3 + 10) else tk_set (tk_set (tk_set S 6 c (S 6 c + tk_prt S c)) 7 c (tk_prt S c)) 0 3 (S 0 3 + tk_prt S c)
def tk_low (S : tk_M) (b : Int) : tk_M := fun f i => if f = 8 ∧ 0 ≤ i ∧ i < S 0 2 then (if S 8 i < b then 0 else S 8 i - b) else if f = 0 ∧ i = 4 then S 0 4 + 1 else S f i
def tk_lwd (S : tk_M) (c st : Int) : tk_M := if 2147483647 < S 8 c + st then tk_low S (S 8 c) else S
def tk_gro (S : tk_M) (c st : Int) : tk_M := tk_set (tk_lwd S c st) 8 c (tk_lwd S c st 8 c + st)
def tk_qp (sh : Int → Int) (S : tk_M) : tk_M := tk_spn (if tk_nxt sh S < 0 then S else tk_gro S (tk_nxt sh S) (tk_std sh S (tk_nxt sh S))) (tk_nxt sh S)
/-- the first k of n with P k = 1; -5: none -/
def tk_fd (P : Int → Prop) (f : Int → Int) : Nat → Int
  | 0 => -5
  | k + 1 => if tk_fd P f k < 0 ∧ f k = 1 then k else tk_fd P f k
def tk_zz (z : Int) : Int := tk_iadd (tk_imul z 1103515245) 12345
def tk_drw (sh : Int → Int) (S : tk_M) (z : Int) : Int := if 0 < tk_tot sh S then tk_fd (fun _ => True) (fun p => tk_bo (tk_lrem (tk_iushr z 1) (tk_tot sh S) < tk_sm (p + 1) (tk_rw sh S))) (S 0 2).toNat else -5
theorem tk_fd_ff {P : Int → Prop} {f : Int → Int} (n : Int) (hn : 0 ≤ n) : tk_ff n (fun k => f k = 1) (tk_fd P f n.toNat) := by
  refine tk_ind (P := fun n => tk_ff n (fun k => f k = 1) (tk_fd P f n.toNat)) (.inl ⟨rfl, fun k h1 h2 => by omega⟩) (fun n hn ih => ?_) n hn
  obtain ⟨m, rfl⟩ := tk_nnt hn
  have e : ((m : Int) + 1).toNat = m + 1 := by omega
  rw [e]
  rw [Int.toNat_natCast] at ih
  unfold tk_fd
  rcases ih with ⟨h1, h2⟩ | ⟨h1, h2, h3, h4⟩
  · by_cases hf : f m = 1
    · rw [if_pos ⟨by omega, hf⟩]
      exact .inr ⟨by omega, by omega, hf, h2⟩
    · rw [if_neg (fun z => hf z.2)]
      refine .inl ⟨h1, fun k h3 h4 => ?_⟩
      by_cases hk : k = m
      · subst hk; exact hf
      · exact h2 k h3 (by omega)
  · rw [if_neg (fun z => by omega)]
    exact .inr ⟨h1, by omega, h3, h4⟩
theorem tk_fd_in {P : Int → Prop} {f : Int → Int} (n : Int) (hn : 0 ≤ n) : tk_fd P f n.toNat = -5 ∨ (0 ≤ tk_fd P f n.toNat ∧ tk_fd P f n.toNat < n) := by
  rcases tk_fd_ff (P := P) (f := f) n hn with h | h
  · exact .inl h.1
  · exact .inr ⟨h.1, h.2.1⟩
theorem tk_nx_in {sh : Int → Int} {S : tk_M} (k : Nat) : tk_nx sh S k = -5 ∨ (0 ≤ tk_nx sh S k ∧ tk_nx sh S k < k ∧ tk_rd sh S (tk_nx sh S k) = 1) := by
  induction k with
  | zero => exact .inl rfl
  | succ k ih =>
    unfold tk_nx
    split
    · rename_i h
      exact .inr ⟨by omega, by omega, h.1⟩
    · rcases ih with h | h
      · exact .inl h
      · exact .inr ⟨h.1, by omega, h.2.2⟩
theorem tk_nxt_in {sh : Int → Int} {S : tk_M} (h : 0 ≤ S 0 2) : tk_nxt sh S = -5 ∨ (0 ≤ tk_nxt sh S ∧ tk_nxt sh S < S 0 2 ∧ tk_rd sh S (tk_nxt sh S) = 1) := by
  rcases tk_nx_in (sh := sh) (S := S) (S 0 2).toNat with h1 | h1
  · exact .inl h1
  · exact .inr ⟨h1.1, by have := h1.2.1; unfold tk_nxt; omega, h1.2.2⟩
theorem tk_drw_in {sh : Int → Int} {S : tk_M} {z : Int} (h : 0 ≤ S 0 2) : tk_drw sh S z = -5 ∨ (0 ≤ tk_drw sh S z ∧ tk_drw sh S z < S 0 2) := by
  unfold tk_drw
  split
  · exact tk_fd_in _ h
  · exact .inl rfl
/-- what holds of a Hall while QUANTA go, CLOCK being b at most -/
def tk_J (b : Int) (S : tk_M) : Prop := (0 ≤ S 0 2 ∧ S 0 2 ≤ 8) ∧ (0 ≤ S 0 3 ∧ S 0 3 ≤ b) ∧ (0 ≤ S 0 4 ∧ S 0 4 ≤ S 0 3 + 1) ∧ tk_I2 S ∧ tk_I3 S
/-- between two QUANTA -/
def tk_JL (b : Int) (S : tk_M) : Prop := tk_J b S ∧ S 0 4 ≤ S 0 3
theorem tk_J_of {S : tk_M} (h : tk_II S) : tk_JL 99999 S := ⟨⟨h.1.2.2.1, ⟨h.1.2.2.2.1.1, h.2.2.2.2.2.2.1.1.2.2⟩, by have := h.1.2.2.2.2; omega, h.2.2.1, h.2.2.2.1⟩, h.1.2.2.2.2.2⟩
theorem tk_prt_bd {b : Int} {S : tk_M} (h : tk_J b S) {c : Int} (hc : 0 ≤ c ∧ c < S 0 2) : 1 ≤ tk_prt S c ∧ tk_prt S c ≤ 10 := by
  obtain ⟨h0, h1, h2, h3, h4⟩ := h
  have := h3 c hc.1 hc.2
  have hb : tk_bu S = 5 ∨ tk_bu S = 10 := by unfold tk_bu; split <;> simp
  have hm : 0 ≤ S 0 3 % 4 ∧ S 0 3 % 4 < 4 := ⟨Int.emod_nonneg _ (by omega), Int.emod_lt_of_pos _ (by omega)⟩
  have h5 := h4 (4 * c + S 0 3 % 4) (by omega) (by omega)
  unfold tk_prt tk_mx1
  repeat' split
  all_goals omega
theorem tk_spn_o {S : tk_M} {c f i : Int} (h6 : ¬ f = 6) (h7 : ¬ f = 7) (h0 : ¬ (f = 0 ∧ i = 3)) : tk_spn S c f i = S f i := by
  unfold tk_spn tk_set
  split
  · simp [h0]
  · simp [h0, h6, h7]
theorem tk_gro_o {S : tk_M} {c st f i : Int} (h8 : ¬ f = 8) (h0 : ¬ (f = 0 ∧ i = 4)) : tk_gro S c st f i = S f i := by
  have e : tk_gro S c st f i = tk_lwd S c st f i := tk_set_o h8
  rw [e]
  unfold tk_lwd
  split
  · unfold tk_low
    rw [if_neg (by omega), if_neg h0]
  · rfl
theorem tk_J_spn {b : Int} {S : tk_M} (h : tk_J b S) {c : Int} (hc : c = -5 ∨ (0 ≤ c ∧ c < S 0 2)) : tk_JL (b + 10) (tk_spn S c) := by
  have hp := fun h2 => tk_prt_bd h (c := c) h2
  obtain ⟨h0, h1, h2, h3, h4⟩ := h
  rcases hc with rfl | hc
  · unfold tk_JL tk_J tk_I2 tk_I3 tk_spn
    rw [if_pos (by omega)]
    simp only [tk_set]
    simp
    refine ⟨⟨h0, by omega, by omega, fun c h5 h6 => ?_, h4⟩, by omega⟩
    have := h3 c h5 h6
    omega
  · have hp := hp hc
    unfold tk_JL tk_J tk_I2 tk_I3 tk_spn
    rw [if_neg (by omega)]
    generalize tk_prt S c = q at hp
    simp only [tk_set]
    simp
    refine ⟨⟨h0, by omega, by omega, fun d h5 h6 => ?_, h4⟩, by omega⟩
    have := h3 d h5 h6
    by_cases hd : d = c
    · subst hd
      simp
      omega
    · simp [hd]
      omega
theorem tk_std_bd {sh : Int → Int} {S : tk_M} {p : Int} (h : 0 < tk_we sh S p) : 1 ≤ tk_std sh S p ∧ tk_std sh S p ≤ 100000000 := by
  unfold tk_std
  rw [if_pos h]
  have h2 : 100000000 / tk_we sh S p ≤ 100000000 := Int.ediv_le_self _ (by omega)
  split <;> omega
theorem tk_rd_1 {sh : Int → Int} {S : tk_M} {p : Int} (h : tk_rd sh S p = 1) : S 9 p = -5 ∧ 0 < tk_we sh S p ∧ ((¬ S 4 p = 2 ∧ ¬ S 4 p = 5) ∨ 0 < tk_sv S p) := by
  unfold tk_rd tk_bo at h
  split at h
  · assumption
  · cases h
theorem tk_gro_pass {b : Int} {S : tk_M} {c st : Int} (hJ : tk_J b S) (hc : 0 ≤ c ∧ c < S 0 2) (hs : 1 ≤ st ∧ st ≤ 100000000) : (0 ≤ tk_lwd S c st 8 c ∧ tk_lwd S c st 8 c + st ≤ 2147483647) ∧ (tk_lwd S c st 0 4 = S 0 4 ∨ tk_lwd S c st 0 4 = S 0 4 + 1) := by
  have h := (hJ.2.2.2.1 c hc.1 hc.2).2.2.2.2.1
  unfold tk_lwd
  by_cases hb : 2147483647 < S 8 c + st
  · rw [if_pos hb]
    unfold tk_low
    simp [hc]
    omega
  · rw [if_neg hb]
    omega
/-- behind the growing LOWERED may be one above CLOCK -/
theorem tk_J_gro {b : Int} {S : tk_M} (h : tk_JL b S) {c st : Int} (hc : 0 ≤ c ∧ c < S 0 2) (hs : 1 ≤ st ∧ st ≤ 100000000) : tk_J b (tk_gro S c st) := by
  have hp := tk_gro_pass h.1 hc hs
  obtain ⟨⟨h0, h1, h2, h3, h4⟩, hl⟩ := h
  have e : ∀ f i : Int, ¬ f = 8 → ¬ (f = 0 ∧ i = 4) → tk_gro S c st f i = S f i := fun f i h8 h0 => tk_gro_o h8 h0
  have e4 : tk_gro S c st 0 4 = tk_lwd S c st 0 4 := tk_set_o (by omega)
  unfold tk_J tk_I2 tk_I3
  rw [e 0 2 (by omega) (by omega), e 0 3 (by omega) (by omega), e4]
  refine ⟨h0, h1, by omega, fun d h5 h6 => ?_, fun k h5 h6 => ?_⟩
  · rw [e 4 d (by omega) (by omega), e 5 d (by omega) (by omega), e 6 d (by omega) (by omega), e 7 d (by omega) (by omega), e 9 d (by omega) (by omega)]
    have h7 := h3 d h5 h6
    refine ⟨h7.1, h7.2.1, h7.2.2.1, h7.2.2.2.1, ?_, h7.2.2.2.2.2⟩
    have h8 := h7.2.2.2.2.1
    unfold tk_gro
    by_cases hd : d = c
    · subst hd
      rw [tk_set_eq]
      omega
    · rw [tk_set_j hd]
      unfold tk_lwd
      split
      · unfold tk_low
        simp [h5, h6]
        have := (h3 c hc.1 hc.2).2.2.2.2.1
        split <;> omega
      · exact h8
  · rw [e 10 k (by omega) (by omega)]
    exact h4 k h5 h6
theorem tk_gro_02 {S : tk_M} {c st : Int} : tk_gro S c st 0 2 = S 0 2 := tk_gro_o (by omega) (by omega)
theorem tk_J_qp {b : Int} {sh : Int → Int} {S : tk_M} (h : tk_JL b S) : tk_JL (b + 10) (tk_qp sh S) := by
  unfold tk_qp
  rcases tk_nxt_in (sh := sh) (S := S) h.1.1.1 with h1 | ⟨h1, h2, h3⟩
  · rw [h1, if_pos (by omega)]
    exact tk_J_spn h.1 (.inl rfl)
  · rw [if_neg (by omega)]
    exact tk_J_spn (tk_J_gro h ⟨h1, h2⟩ (tk_std_bd (tk_rd_1 h3).2.1)) (.inr ⟨h1, by rw [tk_gro_02]; exact h2⟩)
/-! the two readers agree -/
def tk_EQ (S T : tk_M) : Prop := tk_E0 S T ∧ tk_E2 S T ∧ tk_E3 S T
theorem tk_we_eq {sh : Int → Int} {S T : tk_M} (h : tk_EQ S T) {p : Int} (hp : 0 ≤ p ∧ p < S 0 2) : tk_we sh T p = tk_we sh S p := by
  unfold tk_we
  rw [(h.2.1 p hp.1 hp.2).2.2.2.1]
theorem tk_sv_eq {S T : tk_M} (h : tk_EQ S T) (p : Int) : tk_sv T p = tk_sv S p := by
  unfold tk_sv
  rw [h.1.2.2.1]
  refine tk_sm_congr (fun o h2 h3 => ?_)
  rw [(h.2.1 o h2 h3).2.2.2.2.2]
theorem tk_rd_eq {sh : Int → Int} {S T : tk_M} (h : tk_EQ S T) {p : Int} (hp : 0 ≤ p ∧ p < S 0 2) : tk_rd sh T p = tk_rd sh S p := by
  have e := h.2.1 p hp.1 hp.2
  unfold tk_rd
  rw [tk_we_eq h hp, tk_sv_eq h, e.1, e.2.2.2.2.2]
theorem tk_rw_eq {sh : Int → Int} {S T : tk_M} (h : tk_EQ S T) {p : Int} (hp : 0 ≤ p ∧ p < S 0 2) : tk_rw sh T p = tk_rw sh S p := by
  unfold tk_rw
  rw [tk_we_eq h hp, tk_rd_eq h hp]
theorem tk_tot_eq {sh : Int → Int} {S T : tk_M} (h : tk_EQ S T) : tk_tot sh T = tk_tot sh S := by
  unfold tk_tot
  rw [h.1.2.2.1]
  exact tk_sm_congr (fun p h2 h3 => tk_rw_eq h ⟨h2, h3⟩)
theorem tk_std_eq {sh : Int → Int} {S T : tk_M} (h : tk_EQ S T) {p : Int} (hp : 0 ≤ p ∧ p < S 0 2) : tk_std sh T p = tk_std sh S p := by
  unfold tk_std
  rw [tk_we_eq h hp]
theorem tk_prt_eq {S T : tk_M} (h : tk_EQ S T) {p : Int} (hp : 0 ≤ p ∧ p < S 0 2) : tk_prt T p = tk_prt S p := by
  have e := h.2.1 p hp.1 hp.2
  have e3 := h.1.2.2.2.1
  have hm : 0 ≤ S 0 3 % 4 ∧ S 0 3 % 4 < 4 := ⟨Int.emod_nonneg _ (by omega), Int.emod_lt_of_pos _ (by omega)⟩
  unfold tk_prt tk_bu
  rw [e3, e.1, e.2.1, h.2.2 (4 * p + S 0 3 % 4) (by omega) (by omega)]
theorem tk_nx_eq {sh : Int → Int} {S T : tk_M} (h : tk_EQ S T) (k : Nat) (hk : (k : Int) ≤ S 0 2) : tk_nx sh T k = tk_nx sh S k := by
  induction k with
  | zero => rfl
  | succ k ih =>
    unfold tk_nx
    rw [ih (by omega), tk_rd_eq h ⟨by omega, by omega⟩, (h.2.1 k (by omega) (by omega)).2.2.2.2.1]
    rcases tk_nx_in (sh := sh) (S := S) k with h1 | h1
    · simp [h1]
    · rw [(h.2.1 (tk_nx sh S k) (by omega) (by omega)).2.2.2.2.1]
theorem tk_nxt_eq {sh : Int → Int} {S T : tk_M} (h0 : 0 ≤ S 0 2) (h : tk_EQ S T) : tk_nxt sh T = tk_nxt sh S := by
  unfold tk_nxt
  rw [h.1.2.2.1]
  exact tk_nx_eq h _ (by omega)
theorem tk_fd_eq {P : Int → Prop} {f g : Int → Int} (k : Nat) (h : ∀ i : Int, 0 ≤ i → i < k → g i = f i) : tk_fd P g k = tk_fd P f k := by
  induction k with
  | zero => rfl
  | succ k ih =>
    unfold tk_fd
    rw [ih (fun i h1 h2 => h i h1 (by omega)), h k (by omega) (by omega)]
theorem tk_drw_eq {sh : Int → Int} {S T : tk_M} (h0 : 0 ≤ S 0 2) (h : tk_EQ S T) (z : Int) : tk_drw sh T z = tk_drw sh S z := by
  unfold tk_drw
  rw [tk_tot_eq h, h.1.2.2.1, tk_fd_eq (g := fun p => tk_bo (tk_lrem (tk_iushr z 1) (tk_tot sh S) < tk_sm (p + 1) (tk_rw sh T)))]
  intro i h1 h2
  rw [tk_sm_congr (f := tk_rw sh T) (g := tk_rw sh S) (fun p h3 h4 => tk_rw_eq h ⟨h3, by omega⟩)]
theorem tk_EQ_spn {S T : tk_M} (h : tk_EQ S T) {c : Int} (hc : c = -5 ∨ (0 ≤ c ∧ c < S 0 2)) : tk_EQ (tk_spn S c) (tk_spn T c) := by
  rcases hc with rfl | hc
  · obtain ⟨h0, h2, h3⟩ := h
    unfold tk_EQ tk_E0 tk_E2 tk_E3 tk_spn at *
    rw [if_pos (show (-5 : Int) < 0 by omega), if_pos (show (-5 : Int) < 0 by omega)]
    simp only [tk_set]
    simp
    exact ⟨⟨h0.1, h0.2.1, h0.2.2.1, by omega, h0.2.2.2.2⟩, h2, h3⟩
  · have ep := tk_prt_eq h hc
    obtain ⟨h0, h2, h3⟩ := h
    have ec := h2 c hc.1 hc.2
    unfold tk_EQ tk_E0 tk_E2 tk_E3 tk_spn at *
    rw [ep, if_neg (by omega), if_neg (by omega)]
    simp only [tk_set]
    simp
    refine ⟨⟨h0.1, h0.2.1, h0.2.2.1, by omega, h0.2.2.2.2⟩, fun d h4 h5 => ?_, h3⟩
    have := h2 d h4 h5
    by_cases hd : d = c
    · subst hd
      simp
      omega
    · simp [hd]
      exact this
theorem tk_EQ_gro {S T : tk_M} (h : tk_EQ S T) {c st : Int} (hc : 0 ≤ c ∧ c < S 0 2) : tk_EQ (tk_gro S c st) (tk_gro T c st) := by
  obtain ⟨h0, h2, h3⟩ := h
  have ec := (h2 c hc.1 hc.2).2.2.2.2.1
  unfold tk_EQ tk_E0 tk_E2 tk_E3 tk_gro tk_lwd at *
  rw [ec]
  by_cases hb : 2147483647 < S 8 c + st
  · rw [if_pos hb, if_pos hb]
    simp only [tk_set, tk_low]
    simp
    refine ⟨⟨h0.1, h0.2.1, h0.2.2.1, h0.2.2.2.1, by omega⟩, fun d h4 h5 => ?_, h3⟩
    have := h2 d h4 h5
    by_cases hd : d = c
    · subst hd
      simp [h4, h5, h0.2.2.1]
      simp [this]
    · simp [hd, h4, h5, h0.2.2.1]
      simp [this]
  · rw [if_neg hb, if_neg hb]
    simp only [tk_set]
    simp
    refine ⟨h0, fun d h4 h5 => ?_, h3⟩
    have := h2 d h4 h5
    by_cases hd : d = c
    · subst hd
      simp [this]
    · simp [hd]
      exact this
theorem tk_EQ_qp {sh : Int → Int} {S T : tk_M} (h0 : 0 ≤ S 0 2) (h : tk_EQ S T) : tk_EQ (tk_qp sh S) (tk_qp sh T) := by
  unfold tk_qp
  rw [tk_nxt_eq h0 h]
  rcases tk_nxt_in (sh := sh) (S := S) h0 with h1 | ⟨h1, h2, h3⟩
  · rw [h1, if_pos (by omega), if_pos (by omega)]
    exact tk_EQ_spn h (.inl rfl)
  · rw [if_neg (by omega), if_neg (by omega), tk_std_eq h ⟨h1, h2⟩]
    exact tk_EQ_spn (tk_EQ_gro h ⟨h1, h2⟩) (.inr ⟨h1, by rw [tk_gro_02]; exact h2⟩)
/-! many QUANTA -/
def tk_gp (sh : Int → Int) (S : tk_M) : Nat → tk_M
  | 0 => S
  | k + 1 => tk_qp sh (tk_gp sh S k)
def tk_gpl (sh : Int → Int) (S : tk_M) : Nat → Int
  | 0 => -5
  | k + 1 => tk_nxt sh (tk_gp sh S k)
def tk_zk (z : Int) : Nat → Int
  | 0 => z
  | k + 1 => tk_zz (tk_zk z k)
def tk_gd (sh : Int → Int) (S : tk_M) (z : Int) : Nat → tk_M
  | 0 => S
  | k + 1 => tk_spn (tk_gd sh S z k) (tk_drw sh (tk_gd sh S z k) (tk_zk z (k + 1)))
def tk_gdl (sh : Int → Int) (S : tk_M) (z : Int) : Nat → Int
  | 0 => -5
  | k + 1 => tk_drw sh (tk_gd sh S z k) (tk_zk z (k + 1))
theorem tk_spn_02 {S : tk_M} {c : Int} : tk_spn S c 0 2 = S 0 2 := tk_spn_o (by omega) (by omega) (by omega)
theorem tk_qp_o {sh : Int → Int} {S : tk_M} {f i : Int} (h6 : ¬ f = 6) (h7 : ¬ f = 7) (h8 : ¬ f = 8) (h0 : ¬ (f = 0 ∧ (i = 3 ∨ i = 4))) : tk_qp sh S f i = S f i := by
  unfold tk_qp
  rw [tk_spn_o h6 h7 (by omega)]
  split
  · rfl
  · exact tk_gro_o h8 (by omega)
theorem tk_gp_o {sh : Int → Int} {S : tk_M} {f i : Int} (h6 : ¬ f = 6) (h7 : ¬ f = 7) (h8 : ¬ f = 8) (h0 : ¬ (f = 0 ∧ (i = 3 ∨ i = 4))) (k : Nat) : tk_gp sh S k f i = S f i := by
  induction k with
  | zero => rfl
  | succ k ih => unfold tk_gp; rw [tk_qp_o h6 h7 h8 h0, ih]
theorem tk_gd_o {sh : Int → Int} {S : tk_M} {z f i : Int} (h6 : ¬ f = 6) (h7 : ¬ f = 7) (h0 : ¬ (f = 0 ∧ i = 3)) (k : Nat) : tk_gd sh S z k f i = S f i := by
  induction k with
  | zero => rfl
  | succ k ih => unfold tk_gd; rw [tk_spn_o h6 h7 h0, ih]
theorem tk_gp_J {b : Int} {sh : Int → Int} {S : tk_M} (h : tk_JL b S) (k : Nat) : tk_JL (b + 10 * k) (tk_gp sh S k) := by
  induction k with
  | zero => simpa [tk_gp] using h
  | succ k ih =>
    have := tk_J_qp (sh := sh) ih
    unfold tk_gp
    rw [show b + 10 * ((k + 1 : Nat) : Int) = b + 10 * (k : Int) + 10 by omega]
    exact this
theorem tk_gd_J {b z : Int} {sh : Int → Int} {S : tk_M} (h : tk_JL b S) (k : Nat) : tk_JL (b + 10 * k) (tk_gd sh S z k) := by
  induction k with
  | zero => simpa [tk_gd] using h
  | succ k ih =>
    have := tk_J_spn ih.1 (tk_drw_in (sh := sh) (z := tk_zk z (k + 1)) ih.1.1.1)
    unfold tk_gd
    rw [show b + 10 * ((k + 1 : Nat) : Int) = b + 10 * (k : Int) + 10 by omega]
    exact this
theorem tk_gp_EQ {sh : Int → Int} {S T : tk_M} (h0 : 0 ≤ S 0 2) (h : tk_EQ S T) (k : Nat) : tk_EQ (tk_gp sh S k) (tk_gp sh T k) := by
  induction k with
  | zero => exact h
  | succ k ih =>
    unfold tk_gp
    exact tk_EQ_qp (by rw [tk_gp_o (by omega) (by omega) (by omega) (by omega)]; exact h0) ih
theorem tk_gpl_eq {sh : Int → Int} {S T : tk_M} (h0 : 0 ≤ S 0 2) (h : tk_EQ S T) (k : Nat) : tk_gpl sh T k = tk_gpl sh S k := by
  cases k with
  | zero => rfl
  | succ k =>
    unfold tk_gpl
    exact tk_nxt_eq (by rw [tk_gp_o (by omega) (by omega) (by omega) (by omega)]; exact h0) (tk_gp_EQ h0 h k)
theorem tk_gd_EQ {z : Int} {sh : Int → Int} {S T : tk_M} (h0 : 0 ≤ S 0 2) (h : tk_EQ S T) (k : Nat) : tk_EQ (tk_gd sh S z k) (tk_gd sh T z k) := by
  induction k with
  | zero => exact h
  | succ k ih =>
    have h2 : 0 ≤ tk_gd sh S z k 0 2 := by rw [tk_gd_o (by omega) (by omega) (by omega)]; exact h0
    unfold tk_gd
    rw [tk_drw_eq h2 ih]
    exact tk_EQ_spn ih (tk_drw_in h2)
theorem tk_gdl_eq {z : Int} {sh : Int → Int} {S T : tk_M} (h0 : 0 ≤ S 0 2) (h : tk_EQ S T) (k : Nat) : tk_gdl sh T z k = tk_gdl sh S z k := by
  cases k with
  | zero => rfl
  | succ k =>
    unfold tk_gdl
    exact tk_drw_eq (by rw [tk_gd_o (by omega) (by omega) (by omega)]; exact h0) (tk_gd_EQ h0 h k) _
