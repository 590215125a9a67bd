set_option maxRecDepth 100000 in
theorem tk_ini83 (ω : tk_O) : ∃ f : Nat → Option Nat, (tko_TicketHall ω 0 ++ tko_Model ω 96)[83]? = some (.inl (tk_cA ω 4, 6, .inr (.inr (.inr (.inr f))))) ∧ ∀ j, j < 6 → f j = some (tk_bs ω + (83 + 1 + 2 * j)) := by
  refine ⟨va_up (va_up (va_up (va_up (va_up (va_up (fun _ => none) 0 (some (tk_bs ω + (0 + 84)))) 1 (some (tk_bs ω + (0 + 86)))) 2 (some (tk_bs ω + (0 + 88)))) 3 (some (tk_bs ω + (0 + 90)))) 4 (some (tk_bs ω + (0 + 92)))) 5 (some (tk_bs ω + (0 + 94))), rfl, fun j hj => ?_⟩
  match j, hj with
  | 0, _ => rfl
  | 1, _ => rfl
  | 2, _ => rfl
  | 3, _ => rfl
  | 4, _ => rfl
  | 5, _ => rfl
theorem tk_ini {ω : tk_O} {H : Heap} (h : tk_Y ω ([] ++ (tko_TicketHall ω (0 + 0) ++ tko_Model ω (0 + 96))) H) : tk_P ω tk_m0 H := by
  refine ⟨?_, tk_m0_in⟩
  rw [← tk_iniE]
  have h1 : va_P (tk_D ω) vwCl (tk_wx ω (tko_TicketHall ω 0 ++ tko_Model ω 96)) H := h.1
  generalize hL : tko_TicketHall ω 0 ++ tko_Model ω 96 = L at h1
  obtain ⟨f, hc, hf2⟩ := tk_ini83 ω
  rw [hL] at hc
  have hf := tk_wx_at (ω := ω) hc
  refine h1.set tk_wxD hf ?_ (fun _ _ => rfl)
  have h2 := h1 _ _ hf
  show H[tk_bs ω + 83]? = some (vp_cell (tk_cA ω 4) _)
  have h3 : H[tk_bs ω + 83]? = some (vp_cell (tk_cA ω 4) (6, .inr (.inr (.inr (.inr f))))) := h2
  rw [h3, vp_cell_q, vp_cell_q]
  congr 1
  exact tk_arrE (fun j hj => by rw [hf2 j hj])
