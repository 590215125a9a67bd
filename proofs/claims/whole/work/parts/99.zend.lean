def R_law : String := "TicketHallLaw"
def lw_P (b : Addr) (xs : List Int32) (args : Array Value) (s : State) : Prop := args = #[.ref b] ∧ s.IntsAt b xs ∧ xs.length ≤ 3072 ∧ (Jvm.Cond.and given_1 narrow_1).before args s = true
def lw_Q (_ : Array Value) (s : State) (o : Outcome) (t : State) : Prop := o = .returned (some (.int 1)) ∧ Framed s o t [] 600000 7302250
def lw_Z (below : List Frame) (a : Array Value) (s : State) : State → Prop := fun t => ∃ o, t.status = .running ∧ Ended t below o ∧ lw_Q a s o t
/-- the law's own end, with 1 on the stack, nothing written that was there before, its room as the claim has it -/
theorem lw_ret {p : Program} {l : Launch} {e : Env} {s : State} {m : MethodId} {below : List Frame} {meth : Method} {c : Code} {b : Nat} (hx : p.tables.exec = Jvm.exec) (hb : c.code = code) (hr : meth.sig.returnType = ret) (hlocks : meth.locks = false) {pc : Nat} {H : Heap} {ls : Array Slot} (hdg : decode code pc = .ok (.ireturn, 1)) : W p l e room_1 s m #[Value.ref b] below meth c H [] 600000 7302250 (lw_Z below #[Value.ref b] s) (F0 m pc ls [.int 1]) := by
  intro T hT X
  obtain ⟨fs, hret, hrun, hended, hW, hframe⟩ := X.leave (v := some (.int 1)) (hlocks := hlocks) (fun h => by rw [hr] at h; cases h)
  have hmeth' : T.vm.method? m = some meth := X.method'
  refine ⟨T.setFrames fs, ?_, .returned (some (.int 1)), hrun, hended, rfl, ⟨_, rfl⟩, hW, hframe⟩
  jvm_step X.here [X.here.top, hx, hb, hdg, hmeth', hr, ret, narrow_b1]
  (try refine ⟨rfl, ?_⟩); (try refine ⟨rfl, ?_⟩)
  first | (intro acts; rw [hret _ acts rfl rfl rfl]) | rw [hret _ _ rfl rfl rfl]
  exact Steps.refl _
/-- what holds at the law's entry: the machine, the code, the tables' words (any of lw_tbl by 'hts w (by decide +kernel)'), the script of L ints xs at the cell b, what the Statement gives of the start (any of its parts by flat_of_before) -/
def lw_At (p : Program) (s : State) (m : MethodId) (meth : Method) (c : Code) (b L : Nat) (xs : Nat → Int32) : Prop :=
  p.tables.exec = Jvm.exec ∧ c.code = code ∧ meth.sig.returnType = ret ∧ c.maxLocals = 4 ∧ s.vm.findClass R_law = some m.cls ∧ (∀ w ∈ lw_tbl, w.before #[Value.ref b] s = true) ∧ va_X b L xs s s.heap ∧ b < s.heap.size ∧ meth.locks = false ∧ (Jvm.Cond.and given_1 narrow_1).before #[Value.ref b] s = true
set_option maxHeartbeats 4000000 in
set_option maxRecDepth 100000 in
/-- what the tables and the start give: the world's numbers -/
theorem tk_world {s : State} {b L : Nat} {xs : Nat → Int32} (hts : ∀ w ∈ lw_tbl, w.before #[Value.ref b] s = true) (hX : va_X b L xs s s.heap) (hbl : b < s.heap.size) (hgv : (Jvm.Cond.and given_1 narrow_1).before #[Value.ref b] s = true) : ∃ ω : tk_O, tk_bs ω = s.heap.size ∧ tk_sc ω = b ∧ tk_Ls ω = L ∧ tk_xs ω = xs ∧ tk_S ω s ∧ tk_Sc ω s := by
  have htk : ∀ w ∈ tk_tbl, w.before #[Value.ref b] s = true := fun w h => hts w (List.mem_filter.mp h).1
  obtain ⟨c0, iS0, hK0⟩ := u_known (C := RX0) (T := TX0) (N := 5) (n := 5) htk tk_inX0 (hts _ (List.mem_of_getElem? (i := 201) rfl))
  obtain ⟨c1, iS1, hK1⟩ := u_known (C := RX1) (T := TX1) (N := 7) (n := 7) htk tk_inX1 (hts _ (List.mem_of_getElem? (i := 269) rfl))
  obtain ⟨c2, iS2, hK2⟩ := u_known (C := RX2) (T := TX2) (N := 18) (n := 18) htk tk_inX2 (hts _ (List.mem_of_getElem? (i := 88) rfl))
  obtain ⟨c3, iS3, hK3⟩ := u_known (C := RX3) (T := TX3) (N := 3) (n := 3) htk tk_inX3 (hts _ (List.mem_of_getElem? (i := 94) rfl))
  obtain ⟨c4, iS4, hK4⟩ := u_known (C := RX4) (T := TX4) (N := 3) (n := 3) htk tk_inX4 (hts _ (List.mem_of_getElem? (i := 303) rfl))
  obtain ⟨c5, iS5, hK5⟩ := u_known (C := RX5) (T := TX5) (N := 9) (n := 9) htk tk_inX5 (hts _ (List.mem_of_getElem? (i := 207) rfl))
  obtain ⟨c6, iS6, hK6⟩ := u_known (C := RX6) (T := TX6) (N := 10) (n := 10) htk tk_inX6 (hts _ (List.mem_of_getElem? (i := 80) rfl))
  obtain ⟨c7, iS7, hK7⟩ := u_known (C := RX7) (T := TX7) (N := 51) (n := 51) htk tk_inX7 (hts _ (List.mem_of_getElem? (i := 836) rfl))
  obtain ⟨a0, hA0, hR0⟩ := tk_arrK (s := s) (ty := .int) (fun _ _ h => h) (hts _ (List.mem_of_getElem? (i := 115) rfl))
  obtain ⟨a1, hA1, hR1⟩ := tk_arrK (s := s) (ty := .byte) (fun _ _ h => h) (hts _ (List.mem_of_getElem? (i := 300) rfl))
  obtain ⟨a2, hA2, hR2⟩ := tk_arrK (s := s) (ty := .boolean) (fun _ _ h => h) (hts _ (List.mem_of_getElem? (i := 995) rfl))
  obtain ⟨a3, hA3, hR3⟩ := tk_arrK (s := s) (ty := .long) (fun _ _ h => h) (hts _ (List.mem_of_getElem? (i := 247) rfl))
  obtain ⟨a4, hA4, hR4⟩ := tk_arrO (s := s) (C := "TicketHall$Tape") (hts _ (List.mem_of_getElem? (i := 302) rfl))
  have hs := flat_of_before _ hgv
  have hAq : ∀ a : Nat, a < s.heap.size → ¬ (fun q : Nat => s.heap.size ≤ q) a := fun a h => Nat.not_le.mpr h
  have hun := tk_un7 (s := s) (args := #[Value.ref b]) (tm := .static "TicketHall" "UNDER" "[I") (hs _ (by decide +kernel)) (hs _ (by decide +kernel)) (hs _ (by decide +kernel)) (hs _ (by decide +kernel)) (hs _ (by decide +kernel)) (hs _ (by decide +kernel)) (hs _ (by decide +kernel))
  have hlen : (Term.length (.static "TicketHall" "UNDER" "[I")).eval #[Value.ref b] s none [] s = some (.int (Int32.ofNat 7)) := va_eqt (hs (Cond.eq (.length (.static "TicketHall" "UNDER" "[I")) (.int 7)) (by decide +kernel))
  obtain ⟨tU, hev, hT⟩ := va_Tof (A := fun q : Nat => s.heap.size ≤ q) (by decide) (hs (Cond.arrayOf (.static "TicketHall" "UNDER" "[I") .int) (by decide +kernel)) hlen hun hAq
  have hZ := va_Zref (A := fun q : Nat => s.heap.size ≤ q) (hts _ (List.mem_of_getElem? (i := 509) rfl)) (hts _ (List.mem_of_getElem? (i := 68) rfl)) hev hAq
  have hKK : va_K ((fun k => if k = 0 then c0 else if k = 1 then c1 else if k = 2 then c2 else if k = 3 then c3 else if k = 4 then c4 else if k = 5 then c5 else if k = 6 then c6 else c7), (fun k => if k = 0 then iS0 else if k = 1 then iS1 else if k = 2 then iS2 else if k = 3 then iS3 else if k = 4 then iS4 else if k = 5 then iS5 else if k = 6 then iS6 else iS7)) vwCl [(a0, .int), (a1, .byte), (a2, .boolean), (a3, .long), (a4, .object "TicketHall$Tape")] s := by
    refine ⟨fun k q hq => ?_, fun k q hq => ?_⟩
    · match k, hq with
      | 0, hq => cases hq; exact hK0
      | 1, hq => cases hq; exact hK1
      | 2, hq => cases hq; exact hK2
      | 3, hq => cases hq; exact hK3
      | 4, hq => cases hq; exact hK4
      | 5, hq => cases hq; exact hK5
      | 6, hq => cases hq; exact hK6
      | 7, hq => cases hq; exact hK7
      | k + 8, hq => simp [vwCl] at hq
    · match k, hq with
      | 0, hq => cases hq; exact ⟨hA0, hR0⟩
      | 1, hq => cases hq; exact ⟨hA1, hR1⟩
      | 2, hq => cases hq; exact ⟨hA2, hR2⟩
      | 3, hq => cases hq; exact ⟨hA3, hR3⟩
      | 4, hq => cases hq; exact ⟨hA4, hR4⟩
      | k + 5, hq => simp at hq
  have hnw : ∀ w ∈ tk_nw, va_Nw w s := fun w h => tk_nw_of h (hts w (List.mem_filter.mp h).1)
  refine ⟨(s.heap.size, b, tU, L, xs, ((fun k => if k = 0 then c0 else if k = 1 then c1 else if k = 2 then c2 else if k = 3 then c3 else if k = 4 then c4 else if k = 5 then c5 else if k = 6 then c6 else c7), (fun k => if k = 0 then iS0 else if k = 1 then iS1 else if k = 2 then iS2 else if k = 3 then iS3 else if k = 4 then iS4 else if k = 5 then iS5 else if k = 6 then iS6 else iS7)), (fun k => if k = 0 then a0 else if k = 1 then a1 else if k = 2 then a2 else if k = 3 then a3 else a4)), rfl, rfl, rfl, rfl, ⟨hKK, hZ, hT, hX, Nat.not_le.mpr hbl, hnw⟩, ⟨hKK, va_AO.of (hts _ (List.mem_of_getElem? (i := 302) rfl)), hnw⟩⟩
set_option maxHeartbeats 4000000 in
set_option maxRecDepth 100000 in
/-- THE LAW, from its entry -/
theorem whole_start {p : Program} {e : Env} {s : State} {m : MethodId} {below : List Frame} {meth : Method} {c : Code} (l : Launch) (hflags : l.flags = flags0) {b L : Nat} {xs : Nat → Int32} (hL : L ≤ 3072) (C0 : lw_At p s m meth c b L xs) : W p l e room_1 s m #[Value.ref b] below meth c s.heap [] 0 0 (lw_Z below #[Value.ref b] s) (entryFrame m ([Value.ref b] : List Value).toArray 4) := by
  obtain ⟨hx, hb, hr, hml, hown, hts, hX, hbl, hlocks, hgv⟩ := id C0
  obtain ⟨ω, e1, e2, e3, e4, hSS, hK⟩ := tk_world hts hX hbl hgv
  have htk : ∀ w ∈ tk_tbl, w.before #[Value.ref b] s = true := fun w h => hts w (List.mem_filter.mp h).1
  have hl := lv_entry ([.ref b]) (n := 4) (Nat.le_of_ble_eq_true rfl)
  rw [lg_entry_eq]
  generalize (lg_sl ([.ref b]) ++ List.replicate (4 - (lg_sl ([.ref b])).length) Slot.unset).toArray = ls at hl ⊢
  have hl : lv_has ls 4 [(0, .ref b)] := hl
  have hS : va_S (tk_A ω) s.heap s.heap [] := va_S.rf
  have hY : tk_Y ω ([] ++ []) s.heap := ⟨fun k q h => by simp [tk_wx] at h, by simp [e1]⟩
  refine tk_y_new (index := 7) (ci := 6) (n := 0) (fs := [.null, .null, .null, .null, .null, .int 0, .null, .int 0, .null, .null]) (own := "TicketHallLaw") (pre := []) (li := []) hx hb htk tk_C6 hown (tk_at 79 rfl rfl) (tk_at 80 rfl rfl) (tk_at 68 rfl rfl) hK hY hS rfl (by decide +kernel) (Nat.le_of_ble_eq_true rfl) (Nat.le_of_ble_eq_true rfl) (by decide +kernel) (fun H hY hS => ?_)
  refine W.widen (k := 1) (n := 10) (by omega) (by omega) ?_
  refine lv_dup hx hb (by decide +kernel) rfl ?_
  refine tk_y_init (index := 9) (n := 0) (np := 0) (pre := []) (li := []) (rest := [.ref (tk_bs ω + (([] : List va_E).length + 0))]) (nL := 4) (own := "TicketHallLaw") hx hb hml hl.1 htk hown tkct_TicketHall rfl (tk_at 82 rfl rfl) (tk_at 83 rfl rfl) (tk_at 68 rfl rfl) (.inl (tk_at 81 rfl rfl)) ⟨by decide +kernel, by decide +kernel, by decide +kernel⟩ rfl ⟨(Nat.le_of_ble_eq_true rfl), (Nat.le_of_ble_eq_true rfl)⟩ rfl rfl hK hY hS rfl rfl (Nat.le_of_ble_eq_true rfl) ⟨(Nat.le_of_ble_eq_true rfl), (Nat.le_of_ble_eq_true rfl)⟩ (by decide +kernel) (fun H locs hY hS => ?_)
  refine W.widen (k := 96) (n := 1384) (by omega) (by omega) ?_
  refine lv_astore_n (k := 1) (i := 1) (lv' := [(1, .ref (tk_bs ω + (([] : List va_E).length + 0))), (0, .ref b)]) hx hb (by decide +kernel) rfl hl (by decide) rfl (fun ls hl => ?_)
  have hY : tk_Y ω ([] ++ tko_TicketHall ω (0 + 0)) H := hY
  refine tk_y_new (index := 10) (ci := 7) (n := 96) (fs := [.int 0, .int 0, .null, .null, .null, .int 0, .null, .null, .null, .null, .null, .null, .null, .int 0, .int 0, .int 0, .null, .null, .int 0, .null, .null, .int 0, .null, .null, .int 0, .null, .null, .int 0, .int 0, .int 0, .null, .null, .null, .null, .null, .null, .null, .int 0, .null, .int 0, .int 0, .int 0, .null, .null, .null, .int 0, .null, .null, .null, .null, .null]) (own := "TicketHallLaw") (pre := []) (li := tko_TicketHall ω (0 + 0)) hx hb htk tk_C7 hown (tk_at 835 rfl rfl) (tk_at 836 rfl rfl) (tk_at 75 rfl rfl) hK hY hS rfl (by decide +kernel) (Nat.le_of_ble_eq_true rfl) (Nat.le_of_ble_eq_true rfl) (by decide +kernel) (fun H hY hS => ?_)
  refine W.widen (k := 97) (n := 1435) (by omega) (by omega) ?_
  refine lv_dup hx hb (by decide +kernel) rfl ?_
  refine tk_y_init (index := 12) (n := 96) (np := 0) (pre := []) (li := tko_TicketHall ω (0 + 0)) (rest := [.ref (tk_bs ω + (([] : List va_E).length + 96))]) (nL := 4) (own := "TicketHallLaw") hx hb hml hl.1 htk hown tkct_Model rfl (tk_at 838 rfl rfl) (tk_at 839 rfl rfl) (tk_at 75 rfl rfl) (.inl (tk_at 837 rfl rfl)) ⟨by decide +kernel, by decide +kernel, by decide +kernel⟩ rfl ⟨(Nat.le_of_ble_eq_true rfl), (Nat.le_of_ble_eq_true rfl)⟩ rfl rfl hK hY hS rfl rfl (Nat.le_of_ble_eq_true rfl) ⟨(Nat.le_of_ble_eq_true rfl), (Nat.le_of_ble_eq_true rfl)⟩ (by decide +kernel) (fun H locs hY hS => ?_)
  refine W.widen (k := 130) (n := 2784) (by omega) (by omega) ?_
  refine lv_astore_n (k := 2) (i := 2) (lv' := [(2, .ref (tk_bs ω + (([] : List va_E).length + 96))), (1, .ref (tk_bs ω + (([] : List va_E).length + 0))), (0, .ref b)]) hx hb (by decide +kernel) rfl hl (by decide) rfl (fun ls hl => ?_)
  have hP : tk_P ω tk_m0 H := tk_ini hY
  generalize hκ : ((p, l, e, s, m, (#[Value.ref b] : Array Value), below, meth, c, 130, 2784, lw_Z below #[Value.ref b] s, ω) : tk_K) = κ
  have X : tk_X κ (tk_νL (L, xs)) := by
    subst hκ
    exact ⟨hx, hb, hml, hown, htk, hSS, (Nat.le_of_ble_eq_true rfl), (Nat.le_of_ble_eq_true rfl), fun q h => by cases h; exact ⟨e3, e4⟩⟩
  have kr : tk_Rt κ (tk_νL (L, xs)) 4 (fun r _ => r = 1) := by
    intro v μ' H ls locs pc hq _ hP' hS' hd
    subst hκ
    subst hq
    refine va_forget (fun q hq => by rw [← e1]; exact hS'.2.2 q hq) ?_
    refine W.widen (k := 600000) (n := 7302250) (Nat.le_of_ble_eq_true rfl) (Nat.le_of_ble_eq_true rfl) ?_
    exact lw_ret hx hb hr hlocks hd
  have hrs : tk_rs [(0, 3), (1, 2), (2, 2)] tk_ρ0 := by
    intro q hq
    simp only [List.mem_cons, List.not_mem_nil, or_false] at hq
    rcases hq with rfl | rfl | rfl <;> simp [tk_r, tk_ρ0]
  have h1 := tko_law (L, xs) hL κ X tk_ρ0 tk_m0 (fun _ _ => False) (fun r _ => r = 1) hrs (tk_law_ok (L, xs) hL) (fun _ _ h => h.elim) kr
  subst hκ
  refine h1 H ls locs hP hS ?_
  have e5 : tk_lv ω [(0, 3), (1, 2), (2, 2)] tk_ρ0 = [(0, .ref b), (1, .ref (tk_bs ω + 0)), (2, .ref (tk_bs ω + 96))] := by
    simp [tk_lv, tk_v, tk_ρ0, e2]
  show lv_has ls 4 (tk_lv ω _ _)
  rw [e5]
  exact lv_sub hl [2, 1, 0] rfl
set_option maxHeartbeats 4000000 in
theorem lw_walk (l : Launch) (hflags : l.flags = flags0) (b : Addr) (xs : List Int32) : MetFree l x (headSpec (Jvm.Cond.code x code maxLocals ret :: tables_1) room_1) (lw_P b xs) (fun _ _ _ _ _ => True) lw_Q := by
  refine MetFree.of_bodyS (code := code) (maxLocals := maxLocals) (ret := ret) (by decide) ?_ ?_
  · intro args s m h hn
    obtain ⟨meth, c, h1, h2, h3, h4, h5, h6, -, -⟩ := Cond.code_spec hn (atoms_spec (ws := Jvm.Cond.code x code maxLocals ret :: tables_1) h _ List.mem_cons_self)
    exact ⟨meth, c, h1, h2, h3, h4, h5, h6⟩
  · intro p e s m args below meth c s₁ B hml0 hP _
    obtain ⟨rfl, hx, hbd, hgv⟩ := hP
    obtain ⟨scr, harrAt, hlist, hof, hsmall⟩ := hx
    obtain ⟨hcb, hkn, -, -⟩ := State.arrayAt?_spec harrAt
    have hown : s.vm.findClass R_law = some m.cls := findClass_of_methodNamed B.named
    have hts0 : ∀ c ∈ (Jvm.Cond.code x code maxLocals ret :: tables_1), c.before #[Value.ref b] s = true := atoms_spec (ws := Jvm.Cond.code x code maxLocals ret :: tables_1) B.pre
    have hts : ∀ w ∈ lw_tbl, w.before #[Value.ref b] s = true := k2_hts_sels lw_privs (fun w hw => hts0 w (List.mem_cons_of_mem _ hw)) lw_privs_ok
    have hml : c.maxLocals = 4 := B.maxLocals_eq (hts0 _ List.mem_cons_self)
    have X₀ : Stand p l e room_1 s m #[Value.ref b] below meth c s₁ [] 0 0 := Stand.of_body B
    have hh0 : s₁.heap = s.heap := by rw [B.state]; rfl
    have hsz : scr.slots.size = xs.length := by rw [← Array.length_toList, hlist, List.length_map]
    have hval : ∀ j : Nat, j < xs.length → scr.slots[j]? = some (.int (xs.getD j 0)) := fun j hj => by
      rw [← Array.getElem?_toList, hlist]
      simp [hj]
    have hbl : b < s.heap.size := (Array.getElem?_eq_some_iff.mp hcb).1
    have hX : va_X b xs.length (fun j => xs.getD j 0) s s.heap := ⟨scr, hcb, hof, hkn, hsz, hval⟩
    have K : W p l e room_1 s m #[Value.ref b] below meth c s₁.heap [] 0 0 (lw_Z below #[Value.ref b] s) (entryFrame m ([Value.ref b] : List Value).toArray 4) := by
      rw [hh0]
      exact whole_start l hflags hbd ⟨B.exec, B.bytes, B.returns, hml, hown, hts, hX, hbl, B.notSynchronized, hgv⟩
    obtain ⟨t, a1, o, b1, b2, b3⟩ := K s₁ rfl X₀
    exact ⟨t, o, a1, b1, b2, b3⟩
theorem lw_pre_spec {args : Array Value} {s : State} (h : (Jvm.Cond.and given_1 narrow_1).before args s = true) (hr : rest_1_c.before args s = true) : ∃ (b : Addr) (xs : List Int32), lw_P b xs args s := by
  have hs := flat_of_before _ h
  have hq := flat_of_before _ hr
  have hc : (Cond.count 1).before args s = true := hs _ (by decide +kernel)
  have harr : (Cond.arrayOf (.arg 0) .int).before args s = true := hs _ (by decide +kernel)
  have hle : (Cond.le (.length (.arg 0)) (.int 3072)).before args s = true := hs _ (by decide +kernel)
  have hlen : (Cond.isInt (.length (.arg 0))).before args s = true := hq _ (by decide +kernel)
  have hall : (Cond.all (.arg 0) (.isInt (.elem (.arg 0) (.index 0)))).before args s = true := hq _ (by decide +kernel)
  obtain ⟨b, xs, hb, hx⟩ := State.ints_of_pre rfl harr hlen hall
  have hsm : xs.length < 2 ^ 31 := hx.choose_spec.2.2.2
  have hev : (Term.length (.arg 0)).eval args s none [] s = some (.int xs.length.toInt32) := hx.length_eval hb
  have hv := Cond.le_ints hev (show (Term.int 3072).eval args s none [] s = some (.int 3072) from rfl)
  have hd : xs.length.toInt32 ≤ 3072 := by
    simpa [Cond.before, Cond.holds, hv] using hle
  have hN : xs.length ≤ 3072 := (Int32.ofNat_le_ofNat hsm (by decide)).mp (show Int32.ofNat xs.length ≤ Int32.ofNat 3072 from hd)
  exact ⟨b, xs, Cond.one_arg hc (show args[0]? = some (.ref b) from hb), hx, hN, h⟩
theorem lw_comes (l : Launch) (hflags : l.flags = flags0) : Comes l x (Jvm.Cond.code x code maxLocals ret :: tables_1) room_1 (fun tb e args s => Calls_1 tb e args s ∧ rest_1 tb e args s ∧ Pre_1 tb e args s)
    (fun _ _ args s o t => lw_Q args s o t) := by
  intro p e ha hc hk s m args below hf hfit hheap happ hpre
  obtain ⟨b, xs, hP⟩ := lw_pre_spec hpre.2.2 hpre.2.1
  obtain ⟨k, o, h1, h2, h3, hQ⟩ := lw_walk l hflags b xs p e ha hc hk s m args below hf ((Spec.applies_iff_loose hf).mp happ).1 hP trivial
  exact ⟨k, o, h1, h2, h3, hQ⟩
theorem lw_frame {s t : State} {o : Outcome} {args : Array Value} (h : Framed s o t [] 600000 7302250) :
    Framed s o t (fieldLocs frame_1_writes args s ++ arrayLocs frame_1_arrays args s ++ staticLocs frame_1_statics s) 600000 7302250 := h
theorem lw_limb (L : Cond) (hL : ∀ (args : Array Value) (s t : State), L.after args s (.returned (some (.int 1))) t = true) :
    ArmFor flags0 classFile x code maxLocals ret World_1 tables_1 room_1 Calls_1 rest_1 Pre_1
      (fun tb e a s o t => postC L tb e a s o t ∧ Framed s o t (fieldLocs frame_1_writes a s ++ arrayLocs frame_1_arrays a s ++ staticLocs frame_1_statics s) 600000 7302250) := by
  intro l hflags _ _ p e ha hc hk s m args below hf hfit hheap happ hpre
  obtain ⟨k, o, h1, h2, h3, rfl, hF⟩ := lw_comes l hflags p e ha hc hk s m args below hf hfit hheap happ hpre
  exact ⟨k, _, h1, h2, h3, hL args s _, lw_frame hF⟩
theorem i_vc : Claimed_1_1 ∧ Claimed_1_2 := ⟨lw_limb limb_1_1 (fun args s t => by simp [limb_1_1, Cond.after, Cond.holds, Cond.value]), lw_limb limb_1_2 (fun args s t => Cond.after_iff.mpr (by
  first | (rw [show limb_1_2 = Cond.eq .result (.int 1) from rfl, Cond.eq_ints (x := 1) (y := 1) rfl rfl]; simp; done) | (simp [limb_1_2, Cond.value, Term.eval]; done)))⟩
