/-! ===== Layer 2: images ===== -/
theorem tk_ca_q {f i : Int} (h : tk_ca f i) : ∃ q : Nat, q < 206 ∧ ∀ m : tk_M, tk_mv m f i = m (tk_fo q) (tk_fs q) ∧ ∀ a, tk_iv a m f i = m a q := by
  rcases h with ⟨rfl, h1, h2⟩ | ⟨⟨h0, h0'⟩, h1, h2⟩ | ⟨⟨h0, h0'⟩, h1, h2⟩ | ⟨rfl, h1, h2⟩ | ⟨h0, rfl⟩ | ⟨h0, h1, h2⟩ | ⟨h0, h1, h2⟩ | ⟨h0, h1, h2⟩
  · have h3 : i = 0 ∨ i = 1 ∨ i = 2 ∨ i = 3 ∨ i = 4 := by omega
    rcases h3 with rfl | rfl | rfl | rfl | rfl
    · exact ⟨0, by omega, fun m => ⟨by simp [tk_mv, tk_fo, tk_fs], fun a => by simp [tk_iv]⟩⟩
    · exact ⟨1, by omega, fun m => ⟨by simp [tk_mv, tk_fo, tk_fs], fun a => by simp [tk_iv]⟩⟩
    · exact ⟨2, by omega, fun m => ⟨by simp [tk_mv, tk_fo, tk_fs], fun a => by simp [tk_iv]⟩⟩
    · exact ⟨3, by omega, fun m => ⟨by simp [tk_mv, tk_fo, tk_fs], fun a => by simp [tk_iv]⟩⟩
    · exact ⟨4, by omega, fun m => ⟨by simp [tk_mv, tk_fo, tk_fs], fun a => by simp [tk_iv]⟩⟩
  · obtain ⟨t, rfl⟩ := tk_nnt h1
    obtain ⟨f1, f2, f3⟩ := tk_fo_t ⟨t, by omega⟩
    simp only at f1 f2 f3
    have h3 : f = 1 ∨ f = 2 ∨ f = 3 := by omega
    rcases h3 with rfl | rfl | rfl
    · exact ⟨8 + 3 * t, by omega, fun m => ⟨by rw [f1.1, f1.2]; simp [tk_mv], fun a => by simp [tk_iv]⟩⟩
    · exact ⟨8 + 3 * t + 1, by omega, fun m => ⟨by rw [f2.1, f2.2]; simp [tk_mv], fun a => by simp [tk_iv]; rw [show 8 + 3 * (t : Int) + 1 = 9 + 3 * t by omega]⟩⟩
    · exact ⟨8 + 3 * t + 1 + 1, by omega, fun m => ⟨by rw [f3.1, f3.2]; simp [tk_mv], fun a => by simp [tk_iv]; rw [show 8 + 3 * (t : Int) + 1 + 1 = 10 + 3 * t by omega]⟩⟩
  · obtain ⟨t, rfl⟩ := tk_nnt h1
    obtain ⟨f1, f2, f3, f4, f5, f6, f7, f8⟩ := tk_fo_c ⟨t, by omega⟩
    simp only at f1 f2 f3 f4 f5 f6 f7 f8
    have h3 : f = 4 ∨ f = 5 ∨ f = 6 ∨ f = 7 ∨ f = 8 ∨ f = 9 := by omega
    rcases h3 with rfl | rfl | rfl | rfl | rfl | rfl
    · exact ⟨80 + 8 * t, by omega, fun m => ⟨by rw [f1.1, f1.2]; simp [tk_mv], fun a => by simp [tk_iv]⟩⟩
    · exact ⟨80 + 8 * t + 1, by omega, fun m => ⟨by rw [f2.1, f2.2]; simp [tk_mv], fun a => by simp [tk_iv]; rw [show 80 + 8 * (t : Int) + 1 = 81 + 8 * t by omega]⟩⟩
    · exact ⟨80 + 8 * t + 1 + 1, by omega, fun m => ⟨by rw [f3.1, f3.2]; simp [tk_mv], fun a => by simp [tk_iv]; rw [show 80 + 8 * (t : Int) + 1 + 1 = 82 + 8 * t by omega]⟩⟩
    · exact ⟨80 + 8 * t + 1 + 1 + 1, by omega, fun m => ⟨by rw [f4.1, f4.2]; simp [tk_mv], fun a => by simp [tk_iv]; rw [show 80 + 8 * (t : Int) + 1 + 1 + 1 = 83 + 8 * t by omega]⟩⟩
    · exact ⟨80 + 8 * t + 1 + 1 + 1 + 1, by omega, fun m => ⟨by rw [f5.1, f5.2]; simp [tk_mv], fun a => by simp [tk_iv]; rw [show 80 + 8 * (t : Int) + 1 + 1 + 1 + 1 = 84 + 8 * t by omega]⟩⟩
    · exact ⟨80 + 8 * t + 1 + 1 + 1 + 1 + 1, by omega, fun m => ⟨by rw [f6.1, f6.2]; simp [tk_mv], fun a => by simp [tk_iv]; rw [show 80 + 8 * (t : Int) + 1 + 1 + 1 + 1 + 1 = 85 + 8 * t by omega]⟩⟩
  · obtain ⟨t, rfl⟩ := tk_nnt h1
    obtain ⟨f1, f2⟩ := tk_fo_r ⟨t, by omega⟩
    simp only at f1 f2
    exact ⟨144 + t, by omega, fun m => ⟨by rw [f1, f2]; simp [tk_mv], fun a => by simp [tk_iv]⟩⟩
  · rcases h0 with rfl | rfl | rfl
    · exact ⟨5, by omega, fun m => ⟨by simp [tk_mv, tk_fo, tk_fs], fun a => by simp [tk_iv]⟩⟩
    · exact ⟨6, by omega, fun m => ⟨by simp [tk_mv, tk_fo, tk_fs], fun a => by simp [tk_iv]⟩⟩
    · exact ⟨7, by omega, fun m => ⟨by simp [tk_mv, tk_fo, tk_fs], fun a => by simp [tk_iv]⟩⟩
  · obtain ⟨t, rfl⟩ := tk_nnt h1
    obtain ⟨f1, f2⟩ := tk_fo_e ⟨t, by omega⟩
    simp only at f1 f2
    rcases h0 with rfl | rfl
    · exact ⟨176 + 2 * t, by omega, fun m => ⟨by rw [f1.1, f1.2]; simp [tk_mv], fun a => by simp [tk_iv]⟩⟩
    · exact ⟨176 + 2 * t + 1, by omega, fun m => ⟨by rw [f2.1, f2.2]; simp [tk_mv], fun a => by simp [tk_iv]; rw [show 176 + 2 * (t : Int) + 1 = 177 + 2 * t by omega]⟩⟩
  · obtain ⟨t, rfl⟩ := tk_nnt h1
    obtain ⟨f1, f2⟩ := tk_fo_p ⟨t, by omega⟩
    simp only at f1 f2
    rcases h0 with rfl | rfl
    · exact ⟨186 + 2 * t, by omega, fun m => ⟨by rw [f1.1, f1.2]; simp [tk_mv], fun a => by simp [tk_iv]⟩⟩
    · exact ⟨186 + 2 * t + 1, by omega, fun m => ⟨by rw [f2.1, f2.2]; simp [tk_mv], fun a => by simp [tk_iv]; rw [show 186 + 2 * (t : Int) + 1 = 187 + 2 * t by omega]⟩⟩
  · obtain ⟨t, rfl⟩ := tk_nnt h1
    obtain ⟨f1, f2, f3, f4, f5, f6, f7, f8⟩ := tk_fo_c ⟨t, by omega⟩
    simp only at f7 f8
    rcases h0 with rfl | rfl
    · exact ⟨80 + 8 * t + 1 + 1 + 1 + 1 + 1 + 1, by omega, fun m => ⟨by rw [f7.1, f7.2]; simp [tk_mv], fun a => by simp [tk_iv]; rw [show 80 + 8 * (t : Int) + 1 + 1 + 1 + 1 + 1 + 1 = 86 + 8 * t by omega]⟩⟩
    · exact ⟨80 + 8 * t + 1 + 1 + 1 + 1 + 1 + 1 + 1, by omega, fun m => ⟨by rw [f8.1, f8.2]; simp [tk_mv], fun a => by simp [tk_iv]; rw [show 80 + 8 * (t : Int) + 1 + 1 + 1 + 1 + 1 + 1 + 1 = 87 + 8 * t by omega]⟩⟩
/-- two readers agree wherever an image has a place -/
def tk_CC (S T : tk_M) : Prop := ∀ f i : Int, tk_ca f i → T f i = S f i
theorem tk_cI_1 {to : Int} {μ μ0 μ' : tk_M} (hfr : ∀ o i : Int, ¬ (o = 96 ∧ (i = 28 ∨ i = 29 ∨ i = 30)) → μ0 o i = μ o i) (h : tk_cI 1 to μ0 206 μ') : tk_CC (tk_mv μ) (tk_mv μ') ∧ tk_CC (tk_mv μ) (tk_iv to μ') := by
  have key : ∀ f i, tk_ca f i → tk_mv μ' f i = tk_mv μ f i ∧ tk_iv to μ' f i = tk_mv μ f i := fun f i hc => by
    obtain ⟨q, hq, hm⟩ := tk_ca_q hc
    have h5 := (h.2.2.2.2 q hq).1 hq
    have hp := tk_pq_i ⟨q, hq⟩
    simp only at hp
    rw [(hm μ').1, (hm μ').2, (hm μ).1, h5.1, h5.2]
    unfold tk_cwv
    rw [if_pos rfl, hfr _ _ (by omega)]
    exact ⟨rfl, rfl⟩
  exact ⟨fun f i hc => (key f i hc).1, fun f i hc => (key f i hc).2⟩
theorem tk_cI_0 {to : Int} {μ μ0 μ' : tk_M} (hto : ¬ to = 96) (hfr : ∀ o i : Int, ¬ (o = 96 ∧ (i = 28 ∨ i = 29 ∨ i = 30)) → μ0 o i = μ o i) (h : tk_cI 0 to μ0 206 μ') : tk_CC (tk_iv to μ) (tk_mv μ') ∧ tk_CC (tk_iv to μ) (tk_iv to μ') := by
  have key : ∀ f i, tk_ca f i → tk_mv μ' f i = tk_iv to μ f i ∧ tk_iv to μ' f i = tk_iv to μ f i := fun f i hc => by
    obtain ⟨q, hq, hm⟩ := tk_ca_q hc
    have h5 := (h.2.2.2.2 q hq).1 hq
    rw [(hm μ').1, (hm μ').2, (hm μ).2, h5.1, h5.2]
    unfold tk_cwv
    rw [if_neg (by omega), hfr _ _ (by omega)]
    exact ⟨rfl, rfl⟩
  exact ⟨fun f i hc => (key f i hc).1, fun f i hc => (key f i hc).2⟩
/-- the sizes that a Hall may have -/
def tk_ZZ (S : tk_M) : Prop := (0 ≤ S 0 1 ∧ S 0 1 ≤ 24) ∧ (0 ≤ S 0 2 ∧ S 0 2 ≤ 8) ∧ (0 ≤ S 11 0 ∧ S 11 0 ≤ 5) ∧ (0 ≤ S 14 0 ∧ S 14 0 ≤ 10) ∧ (0 ≤ S 17 0 ∧ S 17 0 ≤ 8)
theorem tk_ZZ_of {S : tk_M} (h : tk_II S) : tk_ZZ S := ⟨h.1.2.1, h.1.2.2.1, h.2.2.2.2.1.1, h.2.2.2.2.2.1.1, ⟨h.2.2.2.2.2.2.1.1.1, h.2.2.2.2.2.2.1.1.2.1⟩⟩
theorem tk_EE_CC {S T U : tk_M} (hZ : tk_ZZ S) (h : tk_EE S T) (hc : tk_CC T U) : tk_EE S U := by
  obtain ⟨⟨a1, a2, a3, a4, a5⟩, b, c, d, ⟨e1, e⟩, ⟨f1, f⟩, ⟨g1, g⟩⟩ := h
  obtain ⟨z1, z2, z3, z4, z5⟩ := hZ
  have hc' : ∀ f i, tk_ca f i → U f i = T f i := hc
  unfold tk_ca at hc'
  refine ⟨⟨by rw [hc' 0 0 (by omega)]; exact a1, by rw [hc' 0 1 (by omega)]; exact a2, by rw [hc' 0 2 (by omega)]; exact a3, by rw [hc' 0 3 (by omega)]; exact a4, by rw [hc' 0 4 (by omega)]; exact a5⟩, fun t h1 h2 => ?_, fun p h1 h2 => ?_, fun k h1 h2 => ?_, ⟨by rw [hc' 11 0 (by omega)]; exact e1, fun k h1 h2 => ?_⟩, ⟨by rw [hc' 14 0 (by omega)]; exact f1, fun k h1 h2 => ?_⟩, ⟨by rw [hc' 17 0 (by omega)]; exact g1, fun k h1 h2 => ?_⟩⟩
  · rw [hc' 1 t (by omega), hc' 2 t (by omega), hc' 3 t (by omega)]; exact b t h1 h2
  · rw [hc' 4 p (by omega), hc' 5 p (by omega), hc' 6 p (by omega), hc' 7 p (by omega), hc' 8 p (by omega), hc' 9 p (by omega)]; exact c p h1 h2
  · rw [hc' 10 k (by omega)]; exact d k h1 h2
  · rw [hc' 12 k (by omega), hc' 13 k (by omega)]; exact e k h1 h2
  · rw [hc' 15 k (by omega), hc' 16 k (by omega)]; exact f k h1 h2
  · rw [hc' 18 k (by omega), hc' 19 k (by omega)]; exact g k h1 h2
theorem tk_EE_tr {S T U : tk_M} (h : tk_EE S T) (h' : tk_EE S U) : tk_EE T U := by
  obtain ⟨⟨a1, a2, a3, a4, a5⟩, b, c, d, ⟨e1, e⟩, ⟨f1, f⟩, ⟨g1, g⟩⟩ := h
  obtain ⟨⟨a1', a2', a3', a4', a5'⟩, b', c', d', ⟨e1', e'⟩, ⟨f1', f'⟩, ⟨g1', g'⟩⟩ := h'
  refine ⟨⟨by omega, by omega, by omega, by omega, by omega⟩, fun t h1 h2 => ?_, fun p h1 h2 => ?_, fun k h1 h2 => ?_, ⟨by omega, fun k h1 h2 => ?_⟩, ⟨by omega, fun k h1 h2 => ?_⟩, ⟨by omega, fun k h1 h2 => ?_⟩⟩
  · have := b t h1 (by omega); have := b' t h1 (by omega); omega
  · have := c p h1 (by omega); have := c' p h1 (by omega); omega
  · have := d k h1 (by omega); have := d' k h1 (by omega); omega
  · have := e k h1 (by omega); have := e' k h1 (by omega); omega
  · have := f k h1 (by omega); have := f' k h1 (by omega); omega
  · have := g k h1 (by omega); have := g' k h1 (by omega); omega
theorem tk_EE_r {S : tk_M} : tk_EE S S := ⟨⟨rfl, rfl, rfl, rfl, rfl⟩, fun _ _ _ => ⟨rfl, rfl, rfl⟩, fun _ _ _ => ⟨rfl, rfl, rfl, rfl, rfl, rfl⟩, fun _ _ _ => rfl, ⟨rfl, fun _ _ _ => ⟨rfl, rfl⟩⟩, ⟨rfl, fun _ _ _ => ⟨rfl, rfl⟩⟩, ⟨rfl, fun _ _ _ => ⟨rfl, rfl⟩⟩⟩
theorem tk_EE_sy {S T : tk_M} (h : tk_EE S T) : tk_EE T S := tk_EE_tr h tk_EE_r
theorem tk_EE_t {S T U : tk_M} (h : tk_EE S T) (h' : tk_EE T U) : tk_EE S U := tk_EE_tr (tk_EE_sy h) h'
theorem tk_II_EE {S T : tk_M} (h : tk_EE S T) (hI : tk_II S) : tk_II T := by
  obtain ⟨⟨a1, a2, a3, a4, a5⟩, b, c, d, ⟨e1, e⟩, ⟨f1, f⟩, ⟨g1, g⟩⟩ := h
  obtain ⟨i0, i1, i2, i3, i4, i5, i6, ⟨rk, i7a, i7⟩, ⟨rk8, i8a, i8⟩⟩ := hI
  unfold tk_I0 tk_I1 tk_I2 tk_I3 tk_I4 tk_I5 tk_I6 at *
  refine ⟨by unfold tk_I0; omega, fun t h1 h2 => ?_, fun p h1 h2 => ?_, fun k h1 h2 => ?_, ⟨by omega, fun k h1 h2 => ?_⟩, ⟨by omega, fun k h1 h2 => ?_⟩, ⟨by omega, fun k h1 h2 => ?_⟩, ⟨rk, i7a, fun t h1 h2 h3 => ?_⟩, ⟨rk8, i8a, fun p h1 h2 h3 => ?_⟩⟩
  · have := b t h1 (by omega); have := i1 t h1 (by omega); omega
  · have := c p h1 (by omega); have := i2 p h1 (by omega); omega
  · have := d k h1 (by omega); have := i3 k h1 (by omega); omega
  · have := e k h1 (by omega); have := i4.2 k h1 (by omega); omega
  · have := f k h1 (by omega); have := i5.2 k h1 (by omega); omega
  · have := g k h1 (by omega); have := i6.2 k h1 (by omega); omega
  · have h4 := b t h1 (by omega)
    have h5 := i7 t h1 (by omega) (by omega)
    rw [h4.1, h4.2.2]
    exact h5
  · have h4 := c p h1 (by omega)
    have h5 := i8 p h1 (by omega) (by omega)
    rw [h4.2.2.2.2.2]
    exact h5
theorem tk_EE_hw {h : Int} {μ T : tk_M} : tk_EE (tk_hv h μ) T ↔ tk_EE (tk_hw h μ) T := ⟨fun z => tk_EE_fr z (fun f i h0 h1 => tk_hw_hv f i h0 h1) (fun _ _ _ _ => rfl), fun z => tk_EE_fr z (fun f i h0 h1 => (tk_hw_hv f i h0 h1).symm) (fun _ _ _ _ => rfl)⟩
theorem tk_II_hw {h : Int} {μ : tk_M} : tk_II (tk_hv h μ) ↔ tk_II (tk_hw h μ) := ⟨fun z => tk_II_fr z (fun f i h0 h1 => tk_hw_hv f i h0 h1), fun z => tk_II_fr z (fun f i h0 h1 => (tk_hw_hv f i h0 h1).symm)⟩
