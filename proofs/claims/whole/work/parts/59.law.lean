theorem tk_law_ok (q : Nat × (Nat → Int32)) (hq : q.1 ≤ 3072) : tkS_law q (fun _ _ => False) (fun r _ => r = 1) tk_ρ0 tk_m0 := by
  sorry
