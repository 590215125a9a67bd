/-! ===== Layer 2: clauses and all FUNDS, read by the Model ===== -/
theorem tk_pb_w {T : Int → Int} {n B B' : Int} {c m : tk_M} (h : tk_pb T n c B m) (hB : B ≤ B') : tk_pb T n c B' m := ⟨h.1, ⟨h.2.1.1, Int.le_trans h.2.1.2 hB⟩, h.2.2⟩
theorem tk_pg_sd {T : Int → Int} {n : Int} {c m : tk_M} {q : Nat} (h : tk_pg T n c q (tk_cn T q) m) : tk_sd T n c (tk_cn T q) (fun r => r = q) m := .inl ⟨q, h, rfl⟩
theorem m_readClause {T : Int → Int} {n : Int} {p : Nat} {c m : tk_M} {Q : Int → tk_M → Prop} (hc : tk_tx T n c) (h : tk_pg T n c p (tk_cn T p) m) (h0 : tk_az T p 0 = 0) (hQ : ∀ m', (∃ q, tk_pg T n c q (tk_cn T q) m' ∧ tk_az T q 0 = 6 ∧ tk_az T q 1 = tk_az T p 1 ∧ ¬ ((q : Int) < n ∧ T q = 43) ∧ p < q) ∨ tk_pb T n c 26 m' → Q 0 m') : tkF_X7_readClause [96] Q m := by
  have hsd := tk_pg_sd h
  obtain ⟨hf, h040, -⟩ := tk_sd_f hsd
  have e40 : m 96 40 = p := h.2.1
  simp [tk_fn, tk_env, tk_sq, tk_sk, tk_if, tk_re, tk_rez, tk_rev, tk_xp, tk_se, tk_pf, tk_pfz, tk_pfo, tk_as, tk_asz, tk_asb, tk_aso, tk_cpy, tk_sw, tk_swc, tk_lit, tk_loc, tk_u1, tk_bin, tk_dv, tk_gf, tk_gr, tk_gn, tk_ald, tk_aldq, tk_aln, tk_unl, tk_una, tk_ter, tk_args, tk_cs, tk_cv, tk_ceq, tk_cne, tk_clt, tk_cge, tk_cgt, tk_cle, tk_zeq, tk_zne, tk_zlt, tk_zge, tk_zgt, tk_zle, tk_and, tk_or, tk_not, tk_ct2, tk_isC, List.headD_cons, tk_up, tk_sca, tk_scl, tkF_X7_readClause, tkS_X7_readClause]
  rw [m_here hc hf h040, e40]
  generalize hx : tk_hr T n p = x
  have hxn : x = 112 ∨ x = 99 → (p : Int) < n ∧ T p = x := fun z => by
    unfold tk_hr at hx
    by_cases hpn : (p : Int) < n
    · rw [if_pos hpn] at hx; exact ⟨hpn, hx⟩
    · rw [if_neg hpn] at hx; omega
  have ea : tk_az T (p + 1) = tk_ap (T p) (tk_az T p) := rfl
  have eb : tk_az T (p + 2) = tk_ap (T (p + 1 : Nat)) (tk_az T (p + 1)) := rfl
  have ec : tk_az T (p + 3) = tk_ap (T (p + 2 : Nat)) (tk_az T (p + 2)) := rfl
  have a0 : tk_az T (p + 1) 0 = 1 := by rw [ea]; simp [tk_ap, h0]
  have b0 : tk_az T (p + 2) 0 = 2 := by rw [eb]; simp [tk_ap, a0]
  have c0 : tk_az T (p + 3) 0 = 3 := by rw [ec]; simp [tk_ap, b0]
  have k1 : tk_cn T (p + 1) = tk_cn T p := tk_cn_n (by omega)
  have k2 : tk_cn T (p + 2) = tk_cn T p := by rw [← k1]; exact tk_cn_n (by show ¬ tk_az T (p + 2) 0 = 6; omega)
  have k3 : tk_cn T (p + 3) = tk_cn T p := by rw [← k2]; exact tk_cn_n (by show ¬ tk_az T (p + 3) 0 = 6; omega)
  have c1 : tk_az T (p + 3) 1 = tk_az T p 1 := by rw [ec]; simp [tk_ap, b0]; rw [eb]; simp [tk_ap, a0]; rw [ea]; simp [tk_ap, h0]
  have c3 : tk_az T (p + 3) 3 = if T p = 112 then 1 else 0 := by rw [ec]; simp [tk_ap, b0]; rw [eb]; simp [tk_ap, a0]; rw [ea]; simp [tk_ap, h0]
  have c4 : tk_az T (p + 3) 4 = T (p + 1 : Nat) - 48 := by rw [ec]; simp [tk_ap, b0]; rw [eb]; simp [tk_ap, a0]
  -- the first sign
  have s1 : ∀ b : Int, (b = 1 ↔ x = 112 ∨ x = 99) → (b = 0 ∨ b = 1) → ∀ R : Int → tk_M → Prop, (∀ m1, tk_sd T n c (tk_cn T p) (fun r => r = p + 1 ∧ T p = x) m1 → R 0 m1) → tkF_X7_mustBe [96, b] R m := by
    intro b hb1 hb01 R hR
    refine m_must hc hsd hb01 (fun r hg hr => ?_) hR
    subst hr
    by_cases hx2 : x = 112 ∨ x = 99
    · obtain ⟨hpn, hTx⟩ := hxn hx2
      exact .inl ⟨hb1.mpr hx2, hpn, .inl ⟨h0, by rw [hTx]; exact hx2⟩, rfl, hTx⟩
    · right
      refine ⟨by rcases hb01 with z | z; exact z; exact absurd (hb1.mp z) hx2, ?_⟩
      by_cases hpn : (r : Int) < n
      · unfold tk_hr at hx
        rw [if_pos hpn] at hx
        refine .inl ⟨hpn, fun z => ?_⟩
        unfold tk_aok at z
        omega
      · exact .inr ⟨by have := hg.2.2.1; omega, by omega⟩
  -- the digit, the sign behind it
  have s2 : ∀ m1, tk_sd T n c (tk_cn T p) (fun r => r = p + 1 ∧ T p = x) m1 → ∀ R : Int → tk_M → Prop, (∀ v m2, (-49 ≤ v ∧ v ≤ 79) → tk_sd T n c (tk_cn T p) (fun r => (r = p + 2 ∧ v = T (p + 1 : Nat) - 48) ∧ T p = x) m2 → R v m2) → tkF_X7_digitRead [96] R m1 := by
    intro m1 hm1 R hR
    refine m_digit (A' := fun v r => (r = p + 2 ∧ v = T (p + 1 : Nat) - 48) ∧ T p = x) hc hm1 (fun r hacc ⟨hr, hTx⟩ => ?_) (fun r hacc ⟨hr, hTx⟩ hrn hrd => ?_) hR
    · subst hr
      refine ⟨⟨fun z => ?_, fun z => .inr (.inl ⟨a0, z⟩)⟩, by omega⟩
      unfold tk_aok at z
      omega
    · subst hr
      exact ⟨⟨rfl, rfl⟩, hTx⟩
  have s3 : ∀ (v : Int) m2, tk_sd T n c (tk_cn T p) (fun r => (r = p + 2 ∧ v = T (p + 1 : Nat) - 48) ∧ T p = x) m2 → ∀ b : Int, (b = 1 ↔ tk_hr T n (m2 96 40) = 60) → (b = 0 ∨ b = 1) → ∀ R : Int → tk_M → Prop, (∀ m3, tk_sd T n c (tk_cn T p) (fun r => (r = p + 3 ∧ v = T (p + 1 : Nat) - 48) ∧ T p = x) m3 → R 0 m3) → tkF_X7_mustBe [96, b] R m2 := by
    intro v m2 hm2 b hb1 hb01 R hR
    refine m_must hc hm2 hb01 (fun r hg ⟨⟨hr, hv⟩, hTx⟩ => ?_) hR
    subst hr
    have e40 : m2 96 40 = (p + 2 : Nat) := hg.2.1
    rw [e40] at hb1
    unfold tk_hr at hb1
    by_cases hpn : ((p + 2 : Nat) : Int) < n
    · rw [if_pos hpn] at hb1
      by_cases h60 : T (p + 2 : Nat) = 60
      · exact .inl ⟨hb1.mpr h60, hpn, .inr (.inr (.inl ⟨b0, h60⟩)), ⟨rfl, hv⟩, hTx⟩
      · right
        refine ⟨by rcases hb01 with z | z; exact z; exact absurd (hb1.mp z) h60, .inl ⟨hpn, fun z => ?_⟩⟩
        unfold tk_aok at z
        omega
    · right
      rw [if_neg hpn] at hb1
      refine ⟨by rcases hb01 with z | z; exact z; have := hb1.mp z; omega, .inr ⟨by have := hg.2.2.1; omega, by omega⟩⟩
  -- the FUNDS of it
  have s5 : ∀ (w : Int) (ρ : tk_L) (Qn : tk_L → tk_M → Prop) (Qr : Int → tk_M → Prop) m4, ρ 0 = 96 → ρ 2 = w → ((∃ q, tk_pg T n c q (tk_cn T q) m4 ∧ tk_bf T (p + 3) q w) ∨ tk_pb T n c 26 m4) → (∀ ρ' m', ((∃ q, tk_pg T n c q (tk_cn T q) m' ∧ tk_az T q 0 = 6 ∧ tk_az T q 1 = tk_az T p 1 ∧ ¬ ((q : Int) < n ∧ T q = 43) ∧ p < q) ∨ tk_pb T n c 26 m') → Qn ρ' m') → tk_wh (tk_and (tk_not (tk_zne (tk_gf 7 41 (tk_loc 0)))) (tk_ceq (tk_cv 7 tkF_X7_here [(tk_loc 0)]) (tk_lit (43)))) (tk_sq (tk_xp (tk_cv 7 tkF_X7_mustBe [(tk_loc 0), (tk_lit (1))])) (tk_xp (tk_cv 7 tkF_X7_readFund [(tk_loc 0), (tk_loc 2)]))) Qn Qr ρ m4 := by
    intro w ρ Qn Qr m4 p0 p2 hm4 hQn
    refine tk_loop (fun j ρ m => ρ 0 = 96 ∧ ρ 2 = w ∧ ((∃ q : Nat, (j : Int) = n - q ∧ tk_pg T n c q (tk_cn T q) m ∧ tk_bf T (p + 3) q w) ∨ tk_pb T n c 26 m)) ?_ (n - m4 96 40).toNat ⟨p0, p2, ?_⟩
    · rintro j ρ m ⟨r0, r2, hm⟩ K hK
      rcases hm with ⟨q, hj, hg, hbf⟩ | hbad
      · have e41 : m 96 41 = 0 := hg.1
        have e40 : m 96 40 = q := hg.2.1
        obtain ⟨hf, h040, -⟩ := tk_sd_f (tk_pg_sd hg)
        obtain ⟨b6, kk1, kk3, kk4, kk5, kkw⟩ := hbf
        simp [tk_fn, tk_env, tk_sq, tk_sk, tk_if, tk_re, tk_rez, tk_rev, tk_xp, tk_se, tk_pf, tk_pfz, tk_pfo, tk_as, tk_asz, tk_asb, tk_aso, tk_cpy, tk_sw, tk_swc, tk_lit, tk_loc, tk_u1, tk_bin, tk_dv, tk_gf, tk_gr, tk_gn, tk_ald, tk_aldq, tk_aln, tk_unl, tk_una, tk_ter, tk_args, tk_cs, tk_cv, tk_ceq, tk_cne, tk_clt, tk_cge, tk_cgt, tk_cle, tk_zeq, tk_zne, tk_zlt, tk_zge, tk_zgt, tk_zle, tk_and, tk_or, tk_not, tk_ct2, tk_isC, List.headD_cons, tk_up, tk_sca, tk_scl, r0, r2, e41]
        rw [m_here hc hf h040, e40]
        by_cases h43 : tk_hr T n q = 43
        · have hqn : (q : Int) < n ∧ T q = 43 := by
            unfold tk_hr at h43
            by_cases hqn : (q : Int) < n
            · rw [if_pos hqn] at h43; exact ⟨hqn, h43⟩
            · rw [if_neg hqn] at h43; omega
          have e : tk_az T (q + 1) = tk_ap (T q) (tk_az T q) := rfl
          have z0 : tk_az T (q + 1) 0 = 3 := by rw [e]; simp [tk_ap, b6, hqn.2]
          have z1 : tk_az T (q + 1) 1 = tk_az T q 1 := by rw [e]; simp [tk_ap, b6, hqn.2]
          have z3 : tk_az T (q + 1) 3 = tk_az T q 3 := by rw [e]; simp [tk_ap, b6, hqn.2]
          have z4 : tk_az T (q + 1) 4 = tk_az T q 4 := by rw [e]; simp [tk_ap, b6, hqn.2]
          have zk : tk_cn T (q + 1) = tk_cn T q := tk_cn_n (by omega)
          simp [h43]
          refine m_must (A' := fun r => r = q + 1) hc (tk_pg_sd hg) (.inr rfl) (fun r hg2 hr => ?_) (fun m5 hm5 => ?_)
          · subst hr
            exact .inl ⟨rfl, hqn.1, .inr (.inr (.inr (.inr (.inr (.inr ⟨b6, .inl hqn.2⟩))))), rfl⟩
          · refine m_readFund (p := q + 1) hc ?_ (fun m6 hm6 => ?_)
            · rcases hm5 with ⟨r, hg5, hr⟩ | hbad
              · subst hr
                rw [← zk] at hg5
                exact .inl ⟨q + 1, rfl, hg5, z0, by rw [z3, z4, kk3, kk4]; exact kkw⟩
              · exact .inr hbad
            · rcases hm6 with ⟨r, hg6, b6', k1', k3', k4', k5', kw'⟩ | hbad
              · have hrn := hg6.2.2.1
                refine hK (n - r).toNat _ _ (by omega) ⟨r0, r2, .inl ⟨r, by omega, hg6, b6', ?_, ?_, ?_, by omega, kkw⟩⟩
                · rw [k1', z1, kk1]
                · rw [k3', z3, kk3]
                · rw [k4', z4, kk4]
              · exact hK 0 _ _ (by omega) ⟨r0, r2, .inr hbad⟩
        · simp [h43]
          refine hQn ρ m (.inl ⟨q, hg, b6, by rw [kk1, c1], fun z => h43 ?_, by omega⟩)
          unfold tk_hr
          rw [if_pos z.1]
          exact z.2
      · have e41 : m 96 41 = 1 := by obtain ⟨⟨q, h1, -⟩, -⟩ := hbad; exact h1
        simp [tk_fn, tk_env, tk_sq, tk_sk, tk_if, tk_re, tk_rez, tk_rev, tk_xp, tk_se, tk_pf, tk_pfz, tk_pfo, tk_as, tk_asz, tk_asb, tk_aso, tk_cpy, tk_sw, tk_swc, tk_lit, tk_loc, tk_u1, tk_bin, tk_dv, tk_gf, tk_gr, tk_gn, tk_ald, tk_aldq, tk_aln, tk_unl, tk_una, tk_ter, tk_args, tk_cs, tk_cv, tk_ceq, tk_cne, tk_clt, tk_cge, tk_cgt, tk_cle, tk_zeq, tk_zne, tk_zlt, tk_zge, tk_zgt, tk_zle, tk_and, tk_or, tk_not, tk_ct2, tk_isC, List.headD_cons, tk_up, tk_sca, tk_scl, r0, e41]
        exact hQn ρ m (.inr hbad)
    · rcases hm4 with ⟨q, hg, hbf⟩ | hbad
      · have e40 : m4 96 40 = q := hg.2.1
        have hqn := hg.2.2.1
        exact .inl ⟨q, by rw [e40]; omega, hg, hbf⟩
      · exact .inr hbad
  -- all of it
  have tail : ∀ (d : Int), (d = 0 ∨ d = 10) → (T p = x → d = if x = 99 then 10 else 0) → ∀ (v : Int) m2 (ρ : tk_L), (-49 ≤ v ∧ v ≤ 79) → ρ 0 = 96 → ρ 2 = v + d → tk_sd T n c (tk_cn T p) (fun r => (r = p + 2 ∧ v = T (p + 1 : Nat) - 48) ∧ T p = x) m2 → ∀ (Qn : tk_L → tk_M → Prop) (Qr : Int → tk_M → Prop), (∀ ρ' m', ((∃ q, tk_pg T n c q (tk_cn T q) m' ∧ tk_az T q 0 = 6 ∧ tk_az T q 1 = tk_az T p 1 ∧ ¬ ((q : Int) < n ∧ T q = 43) ∧ p < q) ∨ tk_pb T n c 26 m') → Qn ρ' m') → tkF_X7_here [96] (fun y m3 => if y = 60 then tkF_X7_mustBe [96, 1] (fun _ m4 => tkF_X7_readFund [96, v + d] (fun _ m5 => (tk_wh (tk_and (tk_not (tk_zne (tk_gf 7 41 (tk_loc 0)))) (tk_ceq (tk_cv 7 tkF_X7_here [(tk_loc 0)]) (tk_lit (43)))) (tk_sq (tk_xp (tk_cv 7 tkF_X7_mustBe [(tk_loc 0), (tk_lit (1))])) (tk_xp (tk_cv 7 tkF_X7_readFund [(tk_loc 0), (tk_loc 2)]))) Qn Qr ρ m5)) m4) m3 else tkF_X7_mustBe [96, 0] (fun _ m4 => tkF_X7_readFund [96, v + d] (fun _ m5 => (tk_wh (tk_and (tk_not (tk_zne (tk_gf 7 41 (tk_loc 0)))) (tk_ceq (tk_cv 7 tkF_X7_here [(tk_loc 0)]) (tk_lit (43)))) (tk_sq (tk_xp (tk_cv 7 tkF_X7_mustBe [(tk_loc 0), (tk_lit (1))])) (tk_xp (tk_cv 7 tkF_X7_readFund [(tk_loc 0), (tk_loc 2)]))) Qn Qr ρ m5)) m4) m3) m2 := by
    intro d hd hdx v m2 ρ hv p0 p2 hm2 Qn Qr hQn
    obtain ⟨hf2, h02, -⟩ := tk_sd_f hm2
    rw [m_here hc hf2 h02]
    have fin : ∀ m3, tk_sd T n c (tk_cn T p) (fun r => (r = p + 3 ∧ v = T (p + 1 : Nat) - 48) ∧ T p = x) m3 → tkF_X7_readFund [96, v + d] (fun _ m5 => (tk_wh (tk_and (tk_not (tk_zne (tk_gf 7 41 (tk_loc 0)))) (tk_ceq (tk_cv 7 tkF_X7_here [(tk_loc 0)]) (tk_lit (43)))) (tk_sq (tk_xp (tk_cv 7 tkF_X7_mustBe [(tk_loc 0), (tk_lit (1))])) (tk_xp (tk_cv 7 tkF_X7_readFund [(tk_loc 0), (tk_loc 2)]))) Qn Qr ρ m5)) m3 := fun m3 hm3 => by
      refine m_readFund (p := p + 3) hc ?_ (fun m5 hm5 => ?_)
      · rcases hm3 with ⟨r, hg3, ⟨hr, hv3⟩, hTx⟩ | hbad
        · subst hr
          refine .inl ⟨p + 3, rfl, by rw [k3]; exact hg3, c0, ?_⟩
          have hx2 : T p = 112 ∨ T p = 99 := by
            have := hg3.2.2.2.1 p (by omega)
            unfold tk_aok at this
            omega
          rw [c4, c3, hv3, hdx hTx]
          rcases hx2 with z | z
          · rw [← hTx, z]; simp
          · rw [← hTx, z]; simp
        · exact .inr hbad
      · exact s5 (v + d) ρ Qn Qr m5 p0 p2 hm5 hQn
    by_cases h60 : tk_hr T n (m2 96 40) = 60
    · rw [if_pos h60]
      exact s3 v m2 hm2 1 ⟨fun _ => h60, fun _ => rfl⟩ (.inr rfl) _ fin
    · rw [if_neg h60]
      exact s3 v m2 hm2 0 ⟨fun z => by omega, fun z => absurd z h60⟩ (.inl rfl) _ fin
  by_cases hx1 : x = 112
  · simp [hx1]
    refine s1 1 ⟨fun _ => .inl hx1, fun _ => rfl⟩ (.inr rfl) _ (fun m1 hm1 => ?_)
    refine s2 m1 hm1 _ (fun v m2 hv hm2 => ?_)
    have l1 : tk_iadd v 0 = v := by rw [tk_iadd_id (by omega) (by omega), Int.add_zero]
    have ht := fun ρ z0 z2 => tail 0 (.inl rfl) (fun _ => by rw [if_neg (by omega)]) v m2 ρ hv z0 z2 hm2
    simp only [Int.add_zero] at ht
    rw [l1]
    refine ht _ ?_ ?_ _ _ (fun ρ' m' h => hQ m' h) <;> rfl
  by_cases hx2 : x = 99
  · simp [hx2]
    refine s1 1 ⟨fun _ => .inr hx2, fun _ => rfl⟩ (.inr rfl) _ (fun m1 hm1 => ?_)
    refine s2 m1 hm1 _ (fun v m2 hv hm2 => ?_)
    have l1 : tk_iadd v 10 = v + 10 := tk_iadd_id (by omega) (by omega)
    rw [l1]
    refine tail 10 (.inr rfl) (fun _ => by rw [if_pos hx2]) v m2 _ hv ?_ ?_ hm2 _ _ (fun ρ' m' h => hQ m' h) <;> rfl
  · simp [hx1, hx2]
    refine s1 0 ⟨fun z => by omega, fun z => absurd z (fun y => y.elim hx1 hx2)⟩ (.inl rfl) _ (fun m1 hm1 => ?_)
    refine s2 m1 hm1 _ (fun v m2 hv hm2 => ?_)
    have l1 : tk_iadd v 0 = v := by rw [tk_iadd_id (by omega) (by omega), Int.add_zero]
    have ht := fun ρ z0 z2 => tail 0 (.inl rfl) (fun _ => by rw [if_neg hx2]) v m2 ρ hv z0 z2 hm2
    simp only [Int.add_zero] at ht
    rw [l1]
    refine ht _ ?_ ?_ _ _ (fun ρ' m' h => hQ m' h) <;> rfl
