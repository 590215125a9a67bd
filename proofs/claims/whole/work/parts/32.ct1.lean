/-! ===== printed by wip/whole/gen_ctor.py: the constructors ===== -/
def tko_HandRows5 (ω : tk_O) (h : Nat) : List va_E := [.inr (3, [.int 0, .ref (tk_bs ω + (h + 1)), .ref (tk_bs ω + (h + 2))]), .inl (tk_cA ω 0, 5, .inl (fun _ => 0)), .inl (tk_cA ω 0, 5, .inl (fun _ => 0))]
set_option maxRecDepth 100000 in
set_option maxHeartbeats 4000000 in
theorem tkct_HandRows5 : tk_Ct yX3_init cX3_init 2 { frames := 1, cells := 2, slots := 10, locals := 13 } (.inr (3, [.int 0, .null, .null])) [.int 5] (tko_HandRows5) 2 10 := by
  intro l ω pre
  refine Met.ofW (cc := cX3_init) (maxL := 2) (ret := none) (by decide +kernel) rfl ?_
  intro p e s m args below meth c s₁ B hml hv
  obtain ⟨rfl, hY, hK⟩ := hv
  have hx := B.exec
  have hb := B.bytes
  have hr := B.returns
  have hts0 := atoms_spec (ws := tk_wy yX3_init cX3_init 2 none) B.pre
  have hts : ∀ w ∈ tk_tbl, w.before _ s = true := fun w h => hts0 w (List.mem_cons_of_mem _ h)
  have hown : s.vm.findClass RX3 = some m.cls := findClass_of_methodNamed B.named
  have hlocks := B.notSynchronized
  have hin : meth.name = "<init>" := (name_of_methodNamed B.named B.method).1
  have hS : va_S (tk_A ω) s.heap s.heap [] := va_S.rf
  have hl := lv_entry ([.ref (tk_bs ω + (pre.length + 0)), .int 5]) (n := 2) (Nat.le_of_ble_eq_true rfl)
  rw [lg_entry_eq]
  generalize (lg_sl ([.ref (tk_bs ω + (pre.length + 0)), .int 5]) ++ List.replicate (2 - (lg_sl ([.ref (tk_bs ω + (pre.length + 0)), .int 5])).length) Slot.unset).toArray = ls at hl ⊢
  have hl : lv_has ls 2 [(0, .ref (tk_bs ω + (pre.length + 0))), (1, .int 5)] := hl
  refine lv_aload_n (k := 0) (i := 0) hx hb (by decide +kernel) rfl (lv_at hl 0 rfl) ?_
  refine W.objInit (idx := 3) hx hb hown (hts _ (tk_at 98 rfl rfl)) (hts _ (tk_at 85 rfl rfl)) (hts _ (tk_at 86 rfl rfl)) rfl (by rw [hml]; exact hl.1) rfl (by show decode cX3_init 1 = _; decide +kernel) (Nat.le_of_ble_eq_true rfl) (Nat.le_of_ble_eq_true rfl) ?_
  refine W.eq (g2 := F0 m 4 ls []) rfl ?_
  refine lv_aload_n (k := 0) (i := 0) hx hb (by decide +kernel) rfl (lv_at hl 0 rfl) ?_
  refine lv_iload_n (k := 1) (i := 1) hx hb (by decide +kernel) rfl (lv_at hl 1 rfl) ?_
  refine tk_y_newa (atype := .int) (ty := .int) (t0 := 0) (N' := 5) (a0 := (5, .inl (fun _ => 0))) (n := 1) hx hb rfl hts (tk_at 115 rfl rfl) hK rfl (fun _ h => h) hY hS rfl (fun _ => rfl) (by decide) (by decide) (Nat.le_of_ble_eq_true rfl) (Nat.le_of_ble_eq_true rfl) (Nat.le_of_ble_eq_true rfl) (by decide +kernel) (fun H hY hS => ?_)
  have hY : tk_Y ω (pre ++ [.inr (3, [.int 0, .null, .null]), .inl (tk_cA ω 0, 5, .inl (fun _ => 0))]) H := hY
  refine W.widen (k := 1) (n := 5) (by omega) (by omega) ?_
  refine tk_y_put (index := 9) (ci := 3) (j := 1) (k := 0) (fs := [.int 0, .null, .null]) (own := RX3) hx hb hts tk_C3 hown hin hK hY hS rfl (by decide) (tk_at 102 rfl rfl) rfl rfl rfl (Nat.le_of_ble_eq_true rfl) (by decide +kernel) (fun H locs hY hS => ?_)
  have hY : tk_Y ω (pre ++ [.inr (3, [.int 0, .ref (tk_bs ω + (pre.length + 1)), .null]), .inl (tk_cA ω 0, 5, .inl (fun _ => 0))]) H := hY
  refine lv_aload_n (k := 0) (i := 0) hx hb (by decide +kernel) rfl (lv_at hl 0 rfl) ?_
  refine lv_iload_n (k := 1) (i := 1) hx hb (by decide +kernel) rfl (lv_at hl 1 rfl) ?_
  refine tk_y_newa (atype := .int) (ty := .int) (t0 := 0) (N' := 5) (a0 := (5, .inl (fun _ => 0))) (n := 2) hx hb rfl hts (tk_at 115 rfl rfl) hK rfl (fun _ h => h) hY hS rfl (fun _ => rfl) (by decide) (by decide) (Nat.le_of_ble_eq_true rfl) (Nat.le_of_ble_eq_true rfl) (Nat.le_of_ble_eq_true rfl) (by decide +kernel) (fun H hY hS => ?_)
  have hY : tk_Y ω (pre ++ [.inr (3, [.int 0, .ref (tk_bs ω + (pre.length + 1)), .null]), .inl (tk_cA ω 0, 5, .inl (fun _ => 0)), .inl (tk_cA ω 0, 5, .inl (fun _ => 0))]) H := hY
  refine W.widen (k := 2) (n := 10) (by omega) (by omega) ?_
  refine tk_y_put (index := 15) (ci := 3) (j := 2) (k := 0) (fs := [.int 0, .ref (tk_bs ω + (pre.length + 1)), .null]) (own := RX3) hx hb hts tk_C3 hown hin hK hY hS rfl (by decide) (tk_at 105 rfl rfl) rfl rfl rfl (Nat.le_of_ble_eq_true rfl) (by decide +kernel) (fun H locs hY hS => ?_)
  have hY : tk_Y ω (pre ++ [.inr (3, [.int 0, .ref (tk_bs ω + (pre.length + 1)), .ref (tk_bs ω + (pre.length + 2))]), .inl (tk_cA ω 0, 5, .inl (fun _ => 0)), .inl (tk_cA ω 0, 5, .inl (fun _ => 0))]) H := hY
  exact W.vret hx hb hr (fun t ht hW => ⟨⟨rfl, by rw [ht]; exact hY⟩, hS.F ht⟩) hS.2.2 (by decide +kernel)
def tko_HandRows10 (ω : tk_O) (h : Nat) : List va_E := [.inr (3, [.int 0, .ref (tk_bs ω + (h + 1)), .ref (tk_bs ω + (h + 2))]), .inl (tk_cA ω 0, 10, .inl (fun _ => 0)), .inl (tk_cA ω 0, 10, .inl (fun _ => 0))]
set_option maxRecDepth 100000 in
set_option maxHeartbeats 4000000 in
theorem tkct_HandRows10 : tk_Ct yX3_init cX3_init 2 { frames := 1, cells := 2, slots := 20, locals := 13 } (.inr (3, [.int 0, .null, .null])) [.int 10] (tko_HandRows10) 2 20 := by
  intro l ω pre
  refine Met.ofW (cc := cX3_init) (maxL := 2) (ret := none) (by decide +kernel) rfl ?_
  intro p e s m args below meth c s₁ B hml hv
  obtain ⟨rfl, hY, hK⟩ := hv
  have hx := B.exec
  have hb := B.bytes
  have hr := B.returns
  have hts0 := atoms_spec (ws := tk_wy yX3_init cX3_init 2 none) B.pre
  have hts : ∀ w ∈ tk_tbl, w.before _ s = true := fun w h => hts0 w (List.mem_cons_of_mem _ h)
  have hown : s.vm.findClass RX3 = some m.cls := findClass_of_methodNamed B.named
  have hlocks := B.notSynchronized
  have hin : meth.name = "<init>" := (name_of_methodNamed B.named B.method).1
  have hS : va_S (tk_A ω) s.heap s.heap [] := va_S.rf
  have hl := lv_entry ([.ref (tk_bs ω + (pre.length + 0)), .int 10]) (n := 2) (Nat.le_of_ble_eq_true rfl)
  rw [lg_entry_eq]
  generalize (lg_sl ([.ref (tk_bs ω + (pre.length + 0)), .int 10]) ++ List.replicate (2 - (lg_sl ([.ref (tk_bs ω + (pre.length + 0)), .int 10])).length) Slot.unset).toArray = ls at hl ⊢
  have hl : lv_has ls 2 [(0, .ref (tk_bs ω + (pre.length + 0))), (1, .int 10)] := hl
  refine lv_aload_n (k := 0) (i := 0) hx hb (by decide +kernel) rfl (lv_at hl 0 rfl) ?_
  refine W.objInit (idx := 3) hx hb hown (hts _ (tk_at 98 rfl rfl)) (hts _ (tk_at 85 rfl rfl)) (hts _ (tk_at 86 rfl rfl)) rfl (by rw [hml]; exact hl.1) rfl (by show decode cX3_init 1 = _; decide +kernel) (Nat.le_of_ble_eq_true rfl) (Nat.le_of_ble_eq_true rfl) ?_
  refine W.eq (g2 := F0 m 4 ls []) rfl ?_
  refine lv_aload_n (k := 0) (i := 0) hx hb (by decide +kernel) rfl (lv_at hl 0 rfl) ?_
  refine lv_iload_n (k := 1) (i := 1) hx hb (by decide +kernel) rfl (lv_at hl 1 rfl) ?_
  refine tk_y_newa (atype := .int) (ty := .int) (t0 := 0) (N' := 10) (a0 := (10, .inl (fun _ => 0))) (n := 1) hx hb rfl hts (tk_at 115 rfl rfl) hK rfl (fun _ h => h) hY hS rfl (fun _ => rfl) (by decide) (by decide) (Nat.le_of_ble_eq_true rfl) (Nat.le_of_ble_eq_true rfl) (Nat.le_of_ble_eq_true rfl) (by decide +kernel) (fun H hY hS => ?_)
  have hY : tk_Y ω (pre ++ [.inr (3, [.int 0, .null, .null]), .inl (tk_cA ω 0, 10, .inl (fun _ => 0))]) H := hY
  refine W.widen (k := 1) (n := 10) (by omega) (by omega) ?_
  refine tk_y_put (index := 9) (ci := 3) (j := 1) (k := 0) (fs := [.int 0, .null, .null]) (own := RX3) hx hb hts tk_C3 hown hin hK hY hS rfl (by decide) (tk_at 102 rfl rfl) rfl rfl rfl (Nat.le_of_ble_eq_true rfl) (by decide +kernel) (fun H locs hY hS => ?_)
  have hY : tk_Y ω (pre ++ [.inr (3, [.int 0, .ref (tk_bs ω + (pre.length + 1)), .null]), .inl (tk_cA ω 0, 10, .inl (fun _ => 0))]) H := hY
  refine lv_aload_n (k := 0) (i := 0) hx hb (by decide +kernel) rfl (lv_at hl 0 rfl) ?_
  refine lv_iload_n (k := 1) (i := 1) hx hb (by decide +kernel) rfl (lv_at hl 1 rfl) ?_
  refine tk_y_newa (atype := .int) (ty := .int) (t0 := 0) (N' := 10) (a0 := (10, .inl (fun _ => 0))) (n := 2) hx hb rfl hts (tk_at 115 rfl rfl) hK rfl (fun _ h => h) hY hS rfl (fun _ => rfl) (by decide) (by decide) (Nat.le_of_ble_eq_true rfl) (Nat.le_of_ble_eq_true rfl) (Nat.le_of_ble_eq_true rfl) (by decide +kernel) (fun H hY hS => ?_)
  have hY : tk_Y ω (pre ++ [.inr (3, [.int 0, .ref (tk_bs ω + (pre.length + 1)), .null]), .inl (tk_cA ω 0, 10, .inl (fun _ => 0)), .inl (tk_cA ω 0, 10, .inl (fun _ => 0))]) H := hY
  refine W.widen (k := 2) (n := 20) (by omega) (by omega) ?_
  refine tk_y_put (index := 15) (ci := 3) (j := 2) (k := 0) (fs := [.int 0, .ref (tk_bs ω + (pre.length + 1)), .null]) (own := RX3) hx hb hts tk_C3 hown hin hK hY hS rfl (by decide) (tk_at 105 rfl rfl) rfl rfl rfl (Nat.le_of_ble_eq_true rfl) (by decide +kernel) (fun H locs hY hS => ?_)
  have hY : tk_Y ω (pre ++ [.inr (3, [.int 0, .ref (tk_bs ω + (pre.length + 1)), .ref (tk_bs ω + (pre.length + 2))]), .inl (tk_cA ω 0, 10, .inl (fun _ => 0)), .inl (tk_cA ω 0, 10, .inl (fun _ => 0))]) H := hY
  exact W.vret hx hb hr (fun t ht hW => ⟨⟨rfl, by rw [ht]; exact hY⟩, hS.F ht⟩) hS.2.2 (by decide +kernel)
def tko_HandRows8 (ω : tk_O) (h : Nat) : List va_E := [.inr (3, [.int 0, .ref (tk_bs ω + (h + 1)), .ref (tk_bs ω + (h + 2))]), .inl (tk_cA ω 0, 8, .inl (fun _ => 0)), .inl (tk_cA ω 0, 8, .inl (fun _ => 0))]
set_option maxRecDepth 100000 in
set_option maxHeartbeats 4000000 in
theorem tkct_HandRows8 : tk_Ct yX3_init cX3_init 2 { frames := 1, cells := 2, slots := 16, locals := 13 } (.inr (3, [.int 0, .null, .null])) [.int 8] (tko_HandRows8) 2 16 := by
  intro l ω pre
  refine Met.ofW (cc := cX3_init) (maxL := 2) (ret := none) (by decide +kernel) rfl ?_
  intro p e s m args below meth c s₁ B hml hv
  obtain ⟨rfl, hY, hK⟩ := hv
  have hx := B.exec
  have hb := B.bytes
  have hr := B.returns
  have hts0 := atoms_spec (ws := tk_wy yX3_init cX3_init 2 none) B.pre
  have hts : ∀ w ∈ tk_tbl, w.before _ s = true := fun w h => hts0 w (List.mem_cons_of_mem _ h)
  have hown : s.vm.findClass RX3 = some m.cls := findClass_of_methodNamed B.named
  have hlocks := B.notSynchronized
  have hin : meth.name = "<init>" := (name_of_methodNamed B.named B.method).1
  have hS : va_S (tk_A ω) s.heap s.heap [] := va_S.rf
  have hl := lv_entry ([.ref (tk_bs ω + (pre.length + 0)), .int 8]) (n := 2) (Nat.le_of_ble_eq_true rfl)
  rw [lg_entry_eq]
  generalize (lg_sl ([.ref (tk_bs ω + (pre.length + 0)), .int 8]) ++ List.replicate (2 - (lg_sl ([.ref (tk_bs ω + (pre.length + 0)), .int 8])).length) Slot.unset).toArray = ls at hl ⊢
  have hl : lv_has ls 2 [(0, .ref (tk_bs ω + (pre.length + 0))), (1, .int 8)] := hl
  refine lv_aload_n (k := 0) (i := 0) hx hb (by decide +kernel) rfl (lv_at hl 0 rfl) ?_
  refine W.objInit (idx := 3) hx hb hown (hts _ (tk_at 98 rfl rfl)) (hts _ (tk_at 85 rfl rfl)) (hts _ (tk_at 86 rfl rfl)) rfl (by rw [hml]; exact hl.1) rfl (by show decode cX3_init 1 = _; decide +kernel) (Nat.le_of_ble_eq_true rfl) (Nat.le_of_ble_eq_true rfl) ?_
  refine W.eq (g2 := F0 m 4 ls []) rfl ?_
  refine lv_aload_n (k := 0) (i := 0) hx hb (by decide +kernel) rfl (lv_at hl 0 rfl) ?_
  refine lv_iload_n (k := 1) (i := 1) hx hb (by decide +kernel) rfl (lv_at hl 1 rfl) ?_
  refine tk_y_newa (atype := .int) (ty := .int) (t0 := 0) (N' := 8) (a0 := (8, .inl (fun _ => 0))) (n := 1) hx hb rfl hts (tk_at 115 rfl rfl) hK rfl (fun _ h => h) hY hS rfl (fun _ => rfl) (by decide) (by decide) (Nat.le_of_ble_eq_true rfl) (Nat.le_of_ble_eq_true rfl) (Nat.le_of_ble_eq_true rfl) (by decide +kernel) (fun H hY hS => ?_)
  have hY : tk_Y ω (pre ++ [.inr (3, [.int 0, .null, .null]), .inl (tk_cA ω 0, 8, .inl (fun _ => 0))]) H := hY
  refine W.widen (k := 1) (n := 8) (by omega) (by omega) ?_
  refine tk_y_put (index := 9) (ci := 3) (j := 1) (k := 0) (fs := [.int 0, .null, .null]) (own := RX3) hx hb hts tk_C3 hown hin hK hY hS rfl (by decide) (tk_at 102 rfl rfl) rfl rfl rfl (Nat.le_of_ble_eq_true rfl) (by decide +kernel) (fun H locs hY hS => ?_)
  have hY : tk_Y ω (pre ++ [.inr (3, [.int 0, .ref (tk_bs ω + (pre.length + 1)), .null]), .inl (tk_cA ω 0, 8, .inl (fun _ => 0))]) H := hY
  refine lv_aload_n (k := 0) (i := 0) hx hb (by decide +kernel) rfl (lv_at hl 0 rfl) ?_
  refine lv_iload_n (k := 1) (i := 1) hx hb (by decide +kernel) rfl (lv_at hl 1 rfl) ?_
  refine tk_y_newa (atype := .int) (ty := .int) (t0 := 0) (N' := 8) (a0 := (8, .inl (fun _ => 0))) (n := 2) hx hb rfl hts (tk_at 115 rfl rfl) hK rfl (fun _ h => h) hY hS rfl (fun _ => rfl) (by decide) (by decide) (Nat.le_of_ble_eq_true rfl) (Nat.le_of_ble_eq_true rfl) (Nat.le_of_ble_eq_true rfl) (by decide +kernel) (fun H hY hS => ?_)
  have hY : tk_Y ω (pre ++ [.inr (3, [.int 0, .ref (tk_bs ω + (pre.length + 1)), .null]), .inl (tk_cA ω 0, 8, .inl (fun _ => 0)), .inl (tk_cA ω 0, 8, .inl (fun _ => 0))]) H := hY
  refine W.widen (k := 2) (n := 16) (by omega) (by omega) ?_
  refine tk_y_put (index := 15) (ci := 3) (j := 2) (k := 0) (fs := [.int 0, .ref (tk_bs ω + (pre.length + 1)), .null]) (own := RX3) hx hb hts tk_C3 hown hin hK hY hS rfl (by decide) (tk_at 105 rfl rfl) rfl rfl rfl (Nat.le_of_ble_eq_true rfl) (by decide +kernel) (fun H locs hY hS => ?_)
  have hY : tk_Y ω (pre ++ [.inr (3, [.int 0, .ref (tk_bs ω + (pre.length + 1)), .ref (tk_bs ω + (pre.length + 2))]), .inl (tk_cA ω 0, 8, .inl (fun _ => 0)), .inl (tk_cA ω 0, 8, .inl (fun _ => 0))]) H := hY
  exact W.vret hx hb hr (fun t ht hW => ⟨⟨rfl, by rw [ht]; exact hY⟩, hS.F ht⟩) hS.2.2 (by decide +kernel)
def tko_Tape (ω : tk_O) (h : Nat) : List va_E := [.inr (4, [.int (-1), .int 0, .ref (tk_bs ω + (h + 1))]), .inl (tk_cA ω 3, 60, .inr (.inl (fun _ => 0)))]
set_option maxRecDepth 100000 in
set_option maxHeartbeats 4000000 in
theorem tkct_Tape : tk_Ct yX4_init cX4_init 1 { frames := 1, cells := 1, slots := 60, locals := 13 } (.inr (4, [.int 0, .int 0, .null])) [] (tko_Tape) 1 60 := by
  intro l ω pre
  refine Met.ofW (cc := cX4_init) (maxL := 1) (ret := none) (by decide +kernel) rfl ?_
  intro p e s m args below meth c s₁ B hml hv
  obtain ⟨rfl, hY, hK⟩ := hv
  have hx := B.exec
  have hb := B.bytes
  have hr := B.returns
  have hts0 := atoms_spec (ws := tk_wy yX4_init cX4_init 1 none) B.pre
  have hts : ∀ w ∈ tk_tbl, w.before _ s = true := fun w h => hts0 w (List.mem_cons_of_mem _ h)
  have hown : s.vm.findClass RX4 = some m.cls := findClass_of_methodNamed B.named
  have hlocks := B.notSynchronized
  have hin : meth.name = "<init>" := (name_of_methodNamed B.named B.method).1
  have hS : va_S (tk_A ω) s.heap s.heap [] := va_S.rf
  have hl := lv_entry ([.ref (tk_bs ω + (pre.length + 0))]) (n := 1) (Nat.le_of_ble_eq_true rfl)
  rw [lg_entry_eq]
  generalize (lg_sl ([.ref (tk_bs ω + (pre.length + 0))]) ++ List.replicate (1 - (lg_sl ([.ref (tk_bs ω + (pre.length + 0))])).length) Slot.unset).toArray = ls at hl ⊢
  have hl : lv_has ls 1 [(0, .ref (tk_bs ω + (pre.length + 0)))] := hl
  refine lv_aload_n (k := 0) (i := 0) hx hb (by decide +kernel) rfl (lv_at hl 0 rfl) ?_
  refine W.objInit (idx := 3) hx hb hown (hts _ (tk_at 307 rfl rfl)) (hts _ (tk_at 85 rfl rfl)) (hts _ (tk_at 86 rfl rfl)) rfl (by rw [hml]; exact hl.1) rfl (by show decode cX4_init 1 = _; decide +kernel) (Nat.le_of_ble_eq_true rfl) (Nat.le_of_ble_eq_true rfl) ?_
  refine W.eq (g2 := F0 m 4 ls []) rfl ?_
  refine lv_aload_n (k := 0) (i := 0) hx hb (by decide +kernel) rfl (lv_at hl 0 rfl) ?_
  refine lv_iconst (n := (-1)) (v := (-1)) hx hb (by decide +kernel) (by decide) ?_
  refine tk_y_put (index := 9) (ci := 4) (j := 0) (k := 0) (fs := [.int 0, .int 0, .null]) (own := RX4) hx hb hts tk_C4 hown hin hK hY hS rfl (by decide) (tk_at 308 rfl rfl) rfl rfl rfl (Nat.le_of_ble_eq_true rfl) (by decide +kernel) (fun H locs hY hS => ?_)
  have hY : tk_Y ω (pre ++ [.inr (4, [.int (-1), .int 0, .null])]) H := hY
  refine lv_aload_n (k := 0) (i := 0) hx hb (by decide +kernel) rfl (lv_at hl 0 rfl) ?_
  refine lv_bipush (n := (60)) (v := (60)) hx hb (by decide +kernel) (by decide) ?_
  refine tk_y_newa (atype := .long) (ty := .long) (t0 := 3) (N' := 60) (a0 := (60, .inr (.inl (fun _ => 0)))) (n := 1) hx hb rfl hts (tk_at 247 rfl rfl) hK rfl (fun _ h => h) hY hS rfl (fun _ => rfl) (by decide) (by decide) (Nat.le_of_ble_eq_true rfl) (Nat.le_of_ble_eq_true rfl) (Nat.le_of_ble_eq_true rfl) (by decide +kernel) (fun H hY hS => ?_)
  have hY : tk_Y ω (pre ++ [.inr (4, [.int (-1), .int 0, .null]), .inl (tk_cA ω 3, 60, .inr (.inl (fun _ => 0)))]) H := hY
  refine W.widen (k := 1) (n := 60) (by omega) (by omega) ?_
  refine tk_y_put (index := 15) (ci := 4) (j := 2) (k := 0) (fs := [.int (-1), .int 0, .null]) (own := RX4) hx hb hts tk_C4 hown hin hK hY hS rfl (by decide) (tk_at 312 rfl rfl) rfl rfl rfl (Nat.le_of_ble_eq_true rfl) (by decide +kernel) (fun H locs hY hS => ?_)
  have hY : tk_Y ω (pre ++ [.inr (4, [.int (-1), .int 0, .ref (tk_bs ω + (pre.length + 1))]), .inl (tk_cA ω 3, 60, .inr (.inl (fun _ => 0)))]) H := hY
  exact W.vret hx hb hr (fun t ht hW => ⟨⟨rfl, by rw [ht]; exact hY⟩, hS.F ht⟩) hS.2.2 (by decide +kernel)
def tko_FundReader (ω : tk_O) (h : Nat) : List va_E := [.inr (1, [.int 0, .int 0, .int 0, .int 0, .int 0, .int 0, .int 0])]
set_option maxRecDepth 100000 in
set_option maxHeartbeats 4000000 in
theorem tkct_FundReader : tk_Ct yX1_init cX1_init 1 { frames := 1, cells := 0, slots := 0, locals := 13 } (.inr (1, [.int 0, .int 0, .int 0, .int 0, .int 0, .int 0, .int 0])) [] (tko_FundReader) 0 0 := by
  intro l ω pre
  refine Met.ofW (cc := cX1_init) (maxL := 1) (ret := none) (by decide +kernel) rfl ?_
  intro p e s m args below meth c s₁ B hml hv
  obtain ⟨rfl, hY, hK⟩ := hv
  have hx := B.exec
  have hb := B.bytes
  have hr := B.returns
  have hts0 := atoms_spec (ws := tk_wy yX1_init cX1_init 1 none) B.pre
  have hts : ∀ w ∈ tk_tbl, w.before _ s = true := fun w h => hts0 w (List.mem_cons_of_mem _ h)
  have hown : s.vm.findClass RX1 = some m.cls := findClass_of_methodNamed B.named
  have hlocks := B.notSynchronized
  have hin : meth.name = "<init>" := (name_of_methodNamed B.named B.method).1
  have hS : va_S (tk_A ω) s.heap s.heap [] := va_S.rf
  have hl := lv_entry ([.ref (tk_bs ω + (pre.length + 0))]) (n := 1) (Nat.le_of_ble_eq_true rfl)
  rw [lg_entry_eq]
  generalize (lg_sl ([.ref (tk_bs ω + (pre.length + 0))]) ++ List.replicate (1 - (lg_sl ([.ref (tk_bs ω + (pre.length + 0))])).length) Slot.unset).toArray = ls at hl ⊢
  have hl : lv_has ls 1 [(0, .ref (tk_bs ω + (pre.length + 0)))] := hl
  refine lv_aload_n (k := 0) (i := 0) hx hb (by decide +kernel) rfl (lv_at hl 0 rfl) ?_
  refine W.objInit (idx := 1) hx hb hown (hts _ (tk_at 273 rfl rfl)) (hts _ (tk_at 85 rfl rfl)) (hts _ (tk_at 86 rfl rfl)) rfl (by rw [hml]; exact hl.1) rfl (by show decode cX1_init 1 = _; decide +kernel) (Nat.le_of_ble_eq_true rfl) (Nat.le_of_ble_eq_true rfl) ?_
  refine W.eq (g2 := F0 m 4 ls []) rfl ?_
  exact W.vret hx hb hr (fun t ht hW => ⟨⟨rfl, by rw [ht]; exact hY⟩, hS.F ht⟩) hS.2.2 (by decide +kernel)
def tko_Hall (ω : tk_O) (h : Nat) : List va_E := [.inr (2, [.int 1, .int 0, .int 0, .int 0, .int 0, .ref (tk_bs ω + (h + 1)), .ref (tk_bs ω + (h + 2)), .ref (tk_bs ω + (h + 3)), .ref (tk_bs ω + (h + 4)), .ref (tk_bs ω + (h + 5)), .ref (tk_bs ω + (h + 6)), .ref (tk_bs ω + (h + 7)), .ref (tk_bs ω + (h + 8)), .ref (tk_bs ω + (h + 9)), .ref (tk_bs ω + (h + 10)), .ref (tk_bs ω + (h + 11)), .ref (tk_bs ω + (h + 14)), .ref (tk_bs ω + (h + 17))]), .inl (tk_cA ω 0, 24, .inl (fun _ => 0)), .inl (tk_cA ω 0, 24, .inl (fun _ => 0)), .inl (tk_cA ω 0, 24, .inl (fun _ => 0)), .inl (tk_cA ω 0, 8, .inl (fun _ => 0)), .inl (tk_cA ω 0, 8, .inl (fun _ => 0)), .inl (tk_cA ω 0, 8, .inl (fun _ => 0)), .inl (tk_cA ω 0, 8, .inl (fun _ => 0)), .inl (tk_cA ω 0, 8, .inl (fun _ => 0)), .inl (tk_cA ω 0, 8, .inl (fun _ => 0)), .inl (tk_cA ω 0, 32, .inl (fun _ => 0)), .inr (3, [.int 0, .ref (tk_bs ω + (h + 12)), .ref (tk_bs ω + (h + 13))]), .inl (tk_cA ω 0, 5, .inl (fun _ => 0)), .inl (tk_cA ω 0, 5, .inl (fun _ => 0)), .inr (3, [.int 0, .ref (tk_bs ω + (h + 15)), .ref (tk_bs ω + (h + 16))]), .inl (tk_cA ω 0, 10, .inl (fun _ => 0)), .inl (tk_cA ω 0, 10, .inl (fun _ => 0)), .inr (3, [.int 0, .ref (tk_bs ω + (h + 18)), .ref (tk_bs ω + (h + 19))]), .inl (tk_cA ω 0, 8, .inl (fun _ => 0)), .inl (tk_cA ω 0, 8, .inl (fun _ => 0))]
set_option maxRecDepth 100000 in
set_option maxHeartbeats 4000000 in
theorem tkct_Hall : tk_Ct yX2_init cX2_init 1 { frames := 2, cells := 19, slots := 207, locals := 34 } (.inr (2, [.int 0, .int 0, .int 0, .int 0, .int 0, .null, .null, .null, .null, .null, .null, .null, .null, .null, .null, .null, .null, .null])) [] (tko_Hall) 19 207 := by
  intro l ω pre
  refine Met.ofW (cc := cX2_init) (maxL := 1) (ret := none) (by decide +kernel) rfl ?_
  intro p e s m args below meth c s₁ B hml hv
  obtain ⟨rfl, hY, hK⟩ := hv
  have hx := B.exec
  have hb := B.bytes
  have hr := B.returns
  have hts0 := atoms_spec (ws := tk_wy yX2_init cX2_init 1 none) B.pre
  have hts : ∀ w ∈ tk_tbl, w.before _ s = true := fun w h => hts0 w (List.mem_cons_of_mem _ h)
  have hown : s.vm.findClass RX2 = some m.cls := findClass_of_methodNamed B.named
  have hlocks := B.notSynchronized
  have hin : meth.name = "<init>" := (name_of_methodNamed B.named B.method).1
  have hS : va_S (tk_A ω) s.heap s.heap [] := va_S.rf
  have hl := lv_entry ([.ref (tk_bs ω + (pre.length + 0))]) (n := 1) (Nat.le_of_ble_eq_true rfl)
  rw [lg_entry_eq]
  generalize (lg_sl ([.ref (tk_bs ω + (pre.length + 0))]) ++ List.replicate (1 - (lg_sl ([.ref (tk_bs ω + (pre.length + 0))])).length) Slot.unset).toArray = ls at hl ⊢
  have hl : lv_has ls 1 [(0, .ref (tk_bs ω + (pre.length + 0)))] := hl
  refine lv_aload_n (k := 0) (i := 0) hx hb (by decide +kernel) rfl (lv_at hl 0 rfl) ?_
  refine W.objInit (idx := 3) hx hb hown (hts _ (tk_at 92 rfl rfl)) (hts _ (tk_at 85 rfl rfl)) (hts _ (tk_at 86 rfl rfl)) rfl (by rw [hml]; exact hl.1) rfl (by show decode cX2_init 1 = _; decide +kernel) (Nat.le_of_ble_eq_true rfl) (Nat.le_of_ble_eq_true rfl) ?_
  refine W.eq (g2 := F0 m 4 ls []) rfl ?_
  refine lv_aload_n (k := 0) (i := 0) hx hb (by decide +kernel) rfl (lv_at hl 0 rfl) ?_
  refine lv_iconst (n := (1)) (v := (1)) hx hb (by decide +kernel) (by decide) ?_
  refine tk_y_put (index := 9) (ci := 2) (j := 0) (k := 0) (fs := [.int 0, .int 0, .int 0, .int 0, .int 0, .null, .null, .null, .null, .null, .null, .null, .null, .null, .null, .null, .null, .null]) (own := RX2) hx hb hts tk_C2 hown hin hK hY hS rfl (by decide) (tk_at 116 rfl rfl) rfl rfl rfl (Nat.le_of_ble_eq_true rfl) (by decide +kernel) (fun H locs hY hS => ?_)
  have hY : tk_Y ω (pre ++ [.inr (2, [.int 1, .int 0, .int 0, .int 0, .int 0, .null, .null, .null, .null, .null, .null, .null, .null, .null, .null, .null, .null, .null])]) H := hY
  refine lv_aload_n (k := 0) (i := 0) hx hb (by decide +kernel) rfl (lv_at hl 0 rfl) ?_
  refine lv_bipush (n := (24)) (v := (24)) hx hb (by decide +kernel) (by decide) ?_
  refine tk_y_newa (atype := .int) (ty := .int) (t0 := 0) (N' := 24) (a0 := (24, .inl (fun _ => 0))) (n := 1) hx hb rfl hts (tk_at 115 rfl rfl) hK rfl (fun _ h => h) hY hS rfl (fun _ => rfl) (by decide) (by decide) (Nat.le_of_ble_eq_true rfl) (Nat.le_of_ble_eq_true rfl) (Nat.le_of_ble_eq_true rfl) (by decide +kernel) (fun H hY hS => ?_)
  have hY : tk_Y ω (pre ++ [.inr (2, [.int 1, .int 0, .int 0, .int 0, .int 0, .null, .null, .null, .null, .null, .null, .null, .null, .null, .null, .null, .null, .null]), .inl (tk_cA ω 0, 24, .inl (fun _ => 0))]) H := hY
  refine W.widen (k := 1) (n := 24) (by omega) (by omega) ?_
  refine tk_y_put (index := 15) (ci := 2) (j := 5) (k := 0) (fs := [.int 1, .int 0, .int 0, .int 0, .int 0, .null, .null, .null, .null, .null, .null, .null, .null, .null, .null, .null, .null, .null]) (own := RX2) hx hb hts tk_C2 hown hin hK hY hS rfl (by decide) (tk_at 130 rfl rfl) rfl rfl rfl (Nat.le_of_ble_eq_true rfl) (by decide +kernel) (fun H locs hY hS => ?_)
  have hY : tk_Y ω (pre ++ [.inr (2, [.int 1, .int 0, .int 0, .int 0, .int 0, .ref (tk_bs ω + (pre.length + 1)), .null, .null, .null, .null, .null, .null, .null, .null, .null, .null, .null, .null]), .inl (tk_cA ω 0, 24, .inl (fun _ => 0))]) H := hY
  refine lv_aload_n (k := 0) (i := 0) hx hb (by decide +kernel) rfl (lv_at hl 0 rfl) ?_
  refine lv_bipush (n := (24)) (v := (24)) hx hb (by decide +kernel) (by decide) ?_
  refine tk_y_newa (atype := .int) (ty := .int) (t0 := 0) (N' := 24) (a0 := (24, .inl (fun _ => 0))) (n := 2) hx hb rfl hts (tk_at 115 rfl rfl) hK rfl (fun _ h => h) hY hS rfl (fun _ => rfl) (by decide) (by decide) (Nat.le_of_ble_eq_true rfl) (Nat.le_of_ble_eq_true rfl) (Nat.le_of_ble_eq_true rfl) (by decide +kernel) (fun H hY hS => ?_)
  have hY : tk_Y ω (pre ++ [.inr (2, [.int 1, .int 0, .int 0, .int 0, .int 0, .ref (tk_bs ω + (pre.length + 1)), .null, .null, .null, .null, .null, .null, .null, .null, .null, .null, .null, .null]), .inl (tk_cA ω 0, 24, .inl (fun _ => 0)), .inl (tk_cA ω 0, 24, .inl (fun _ => 0))]) H := hY
  refine W.widen (k := 2) (n := 48) (by omega) (by omega) ?_
  refine tk_y_put (index := 19) (ci := 2) (j := 6) (k := 0) (fs := [.int 1, .int 0, .int 0, .int 0, .int 0, .ref (tk_bs ω + (pre.length + 1)), .null, .null, .null, .null, .null, .null, .null, .null, .null, .null, .null, .null]) (own := RX2) hx hb hts tk_C2 hown hin hK hY hS rfl (by decide) (tk_at 133 rfl rfl) rfl rfl rfl (Nat.le_of_ble_eq_true rfl) (by decide +kernel) (fun H locs hY hS => ?_)
  have hY : tk_Y ω (pre ++ [.inr (2, [.int 1, .int 0, .int 0, .int 0, .int 0, .ref (tk_bs ω + (pre.length + 1)), .ref (tk_bs ω + (pre.length + 2)), .null, .null, .null, .null, .null, .null, .null, .null, .null, .null, .null]), .inl (tk_cA ω 0, 24, .inl (fun _ => 0)), .inl (tk_cA ω 0, 24, .inl (fun _ => 0))]) H := hY
  refine lv_aload_n (k := 0) (i := 0) hx hb (by decide +kernel) rfl (lv_at hl 0 rfl) ?_
  refine lv_bipush (n := (24)) (v := (24)) hx hb (by decide +kernel) (by decide) ?_
  refine tk_y_newa (atype := .int) (ty := .int) (t0 := 0) (N' := 24) (a0 := (24, .inl (fun _ => 0))) (n := 3) hx hb rfl hts (tk_at 115 rfl rfl) hK rfl (fun _ h => h) hY hS rfl (fun _ => rfl) (by decide) (by decide) (Nat.le_of_ble_eq_true rfl) (Nat.le_of_ble_eq_true rfl) (Nat.le_of_ble_eq_true rfl) (by decide +kernel) (fun H hY hS => ?_)
  have hY : tk_Y ω (pre ++ [.inr (2, [.int 1, .int 0, .int 0, .int 0, .int 0, .ref (tk_bs ω + (pre.length + 1)), .ref (tk_bs ω + (pre.length + 2)), .null, .null, .null, .null, .null, .null, .null, .null, .null, .null, .null]), .inl (tk_cA ω 0, 24, .inl (fun _ => 0)), .inl (tk_cA ω 0, 24, .inl (fun _ => 0)), .inl (tk_cA ω 0, 24, .inl (fun _ => 0))]) H := hY
  refine W.widen (k := 3) (n := 72) (by omega) (by omega) ?_
  refine tk_y_put (index := 22) (ci := 2) (j := 7) (k := 0) (fs := [.int 1, .int 0, .int 0, .int 0, .int 0, .ref (tk_bs ω + (pre.length + 1)), .ref (tk_bs ω + (pre.length + 2)), .null, .null, .null, .null, .null, .null, .null, .null, .null, .null, .null]) (own := RX2) hx hb hts tk_C2 hown hin hK hY hS rfl (by decide) (tk_at 136 rfl rfl) rfl rfl rfl (Nat.le_of_ble_eq_true rfl) (by decide +kernel) (fun H locs hY hS => ?_)
  have hY : tk_Y ω (pre ++ [.inr (2, [.int 1, .int 0, .int 0, .int 0, .int 0, .ref (tk_bs ω + (pre.length + 1)), .ref (tk_bs ω + (pre.length + 2)), .ref (tk_bs ω + (pre.length + 3)), .null, .null, .null, .null, .null, .null, .null, .null, .null, .null]), .inl (tk_cA ω 0, 24, .inl (fun _ => 0)), .inl (tk_cA ω 0, 24, .inl (fun _ => 0)), .inl (tk_cA ω 0, 24, .inl (fun _ => 0))]) H := hY
  refine lv_aload_n (k := 0) (i := 0) hx hb (by decide +kernel) rfl (lv_at hl 0 rfl) ?_
  refine lv_bipush (n := (8)) (v := (8)) hx hb (by decide +kernel) (by decide) ?_
  refine tk_y_newa (atype := .int) (ty := .int) (t0 := 0) (N' := 8) (a0 := (8, .inl (fun _ => 0))) (n := 4) hx hb rfl hts (tk_at 115 rfl rfl) hK rfl (fun _ h => h) hY hS rfl (fun _ => rfl) (by decide) (by decide) (Nat.le_of_ble_eq_true rfl) (Nat.le_of_ble_eq_true rfl) (Nat.le_of_ble_eq_true rfl) (by decide +kernel) (fun H hY hS => ?_)
  have hY : tk_Y ω (pre ++ [.inr (2, [.int 1, .int 0, .int 0, .int 0, .int 0, .ref (tk_bs ω + (pre.length + 1)), .ref (tk_bs ω + (pre.length + 2)), .ref (tk_bs ω + (pre.length + 3)), .null, .null, .null, .null, .null, .null, .null, .null, .null, .null]), .inl (tk_cA ω 0, 24, .inl (fun _ => 0)), .inl (tk_cA ω 0, 24, .inl (fun _ => 0)), .inl (tk_cA ω 0, 24, .inl (fun _ => 0)), .inl (tk_cA ω 0, 8, .inl (fun _ => 0))]) H := hY
  refine W.widen (k := 4) (n := 80) (by omega) (by omega) ?_
  refine tk_y_put (index := 25) (ci := 2) (j := 8) (k := 0) (fs := [.int 1, .int 0, .int 0, .int 0, .int 0, .ref (tk_bs ω + (pre.length + 1)), .ref (tk_bs ω + (pre.length + 2)), .ref (tk_bs ω + (pre.length + 3)), .null, .null, .null, .null, .null, .null, .null, .null, .null, .null]) (own := RX2) hx hb hts tk_C2 hown hin hK hY hS rfl (by decide) (tk_at 139 rfl rfl) rfl rfl rfl (Nat.le_of_ble_eq_true rfl) (by decide +kernel) (fun H locs hY hS => ?_)
  have hY : tk_Y ω (pre ++ [.inr (2, [.int 1, .int 0, .int 0, .int 0, .int 0, .ref (tk_bs ω + (pre.length + 1)), .ref (tk_bs ω + (pre.length + 2)), .ref (tk_bs ω + (pre.length + 3)), .ref (tk_bs ω + (pre.length + 4)), .null, .null, .null, .null, .null, .null, .null, .null, .null]), .inl (tk_cA ω 0, 24, .inl (fun _ => 0)), .inl (tk_cA ω 0, 24, .inl (fun _ => 0)), .inl (tk_cA ω 0, 24, .inl (fun _ => 0)), .inl (tk_cA ω 0, 8, .inl (fun _ => 0))]) H := hY
  refine lv_aload_n (k := 0) (i := 0) hx hb (by decide +kernel) rfl (lv_at hl 0 rfl) ?_
  refine lv_bipush (n := (8)) (v := (8)) hx hb (by decide +kernel) (by decide) ?_
  refine tk_y_newa (atype := .int) (ty := .int) (t0 := 0) (N' := 8) (a0 := (8, .inl (fun _ => 0))) (n := 5) hx hb rfl hts (tk_at 115 rfl rfl) hK rfl (fun _ h => h) hY hS rfl (fun _ => rfl) (by decide) (by decide) (Nat.le_of_ble_eq_true rfl) (Nat.le_of_ble_eq_true rfl) (Nat.le_of_ble_eq_true rfl) (by decide +kernel) (fun H hY hS => ?_)
  have hY : tk_Y ω (pre ++ [.inr (2, [.int 1, .int 0, .int 0, .int 0, .int 0, .ref (tk_bs ω + (pre.length + 1)), .ref (tk_bs ω + (pre.length + 2)), .ref (tk_bs ω + (pre.length + 3)), .ref (tk_bs ω + (pre.length + 4)), .null, .null, .null, .null, .null, .null, .null, .null, .null]), .inl (tk_cA ω 0, 24, .inl (fun _ => 0)), .inl (tk_cA ω 0, 24, .inl (fun _ => 0)), .inl (tk_cA ω 0, 24, .inl (fun _ => 0)), .inl (tk_cA ω 0, 8, .inl (fun _ => 0)), .inl (tk_cA ω 0, 8, .inl (fun _ => 0))]) H := hY
  refine W.widen (k := 5) (n := 88) (by omega) (by omega) ?_
  refine tk_y_put (index := 28) (ci := 2) (j := 9) (k := 0) (fs := [.int 1, .int 0, .int 0, .int 0, .int 0, .ref (tk_bs ω + (pre.length + 1)), .ref (tk_bs ω + (pre.length + 2)), .ref (tk_bs ω + (pre.length + 3)), .ref (tk_bs ω + (pre.length + 4)), .null, .null, .null, .null, .null, .null, .null, .null, .null]) (own := RX2) hx hb hts tk_C2 hown hin hK hY hS rfl (by decide) (tk_at 141 rfl rfl) rfl rfl rfl (Nat.le_of_ble_eq_true rfl) (by decide +kernel) (fun H locs hY hS => ?_)
  have hY : tk_Y ω (pre ++ [.inr (2, [.int 1, .int 0, .int 0, .int 0, .int 0, .ref (tk_bs ω + (pre.length + 1)), .ref (tk_bs ω + (pre.length + 2)), .ref (tk_bs ω + (pre.length + 3)), .ref (tk_bs ω + (pre.length + 4)), .ref (tk_bs ω + (pre.length + 5)), .null, .null, .null, .null, .null, .null, .null, .null]), .inl (tk_cA ω 0, 24, .inl (fun _ => 0)), .inl (tk_cA ω 0, 24, .inl (fun _ => 0)), .inl (tk_cA ω 0, 24, .inl (fun _ => 0)), .inl (tk_cA ω 0, 8, .inl (fun _ => 0)), .inl (tk_cA ω 0, 8, .inl (fun _ => 0))]) H := hY
  refine lv_aload_n (k := 0) (i := 0) hx hb (by decide +kernel) rfl (lv_at hl 0 rfl) ?_
  refine lv_bipush (n := (8)) (v := (8)) hx hb (by decide +kernel) (by decide) ?_
  refine tk_y_newa (atype := .int) (ty := .int) (t0 := 0) (N' := 8) (a0 := (8, .inl (fun _ => 0))) (n := 6) hx hb rfl hts (tk_at 115 rfl rfl) hK rfl (fun _ h => h) hY hS rfl (fun _ => rfl) (by decide) (by decide) (Nat.le_of_ble_eq_true rfl) (Nat.le_of_ble_eq_true rfl) (Nat.le_of_ble_eq_true rfl) (by decide +kernel) (fun H hY hS => ?_)
  have hY : tk_Y ω (pre ++ [.inr (2, [.int 1, .int 0, .int 0, .int 0, .int 0, .ref (tk_bs ω + (pre.length + 1)), .ref (tk_bs ω + (pre.length + 2)), .ref (tk_bs ω + (pre.length + 3)), .ref (tk_bs ω + (pre.length + 4)), .ref (tk_bs ω + (pre.length + 5)), .null, .null, .null, .null, .null, .null, .null, .null]), .inl (tk_cA ω 0, 24, .inl (fun _ => 0)), .inl (tk_cA ω 0, 24, .inl (fun _ => 0)), .inl (tk_cA ω 0, 24, .inl (fun _ => 0)), .inl (tk_cA ω 0, 8, .inl (fun _ => 0)), .inl (tk_cA ω 0, 8, .inl (fun _ => 0)), .inl (tk_cA ω 0, 8, .inl (fun _ => 0))]) H := hY
  refine W.widen (k := 6) (n := 96) (by omega) (by omega) ?_
  refine tk_y_put (index := 31) (ci := 2) (j := 10) (k := 0) (fs := [.int 1, .int 0, .int 0, .int 0, .int 0, .ref (tk_bs ω + (pre.length + 1)), .ref (tk_bs ω + (pre.length + 2)), .ref (tk_bs ω + (pre.length + 3)), .ref (tk_bs ω + (pre.length + 4)), .ref (tk_bs ω + (pre.length + 5)), .null, .null, .null, .null, .null, .null, .null, .null]) (own := RX2) hx hb hts tk_C2 hown hin hK hY hS rfl (by decide) (tk_at 143 rfl rfl) rfl rfl rfl (Nat.le_of_ble_eq_true rfl) (by decide +kernel) (fun H locs hY hS => ?_)
  have hY : tk_Y ω (pre ++ [.inr (2, [.int 1, .int 0, .int 0, .int 0, .int 0, .ref (tk_bs ω + (pre.length + 1)), .ref (tk_bs ω + (pre.length + 2)), .ref (tk_bs ω + (pre.length + 3)), .ref (tk_bs ω + (pre.length + 4)), .ref (tk_bs ω + (pre.length + 5)), .ref (tk_bs ω + (pre.length + 6)), .null, .null, .null, .null, .null, .null, .null]), .inl (tk_cA ω 0, 24, .inl (fun _ => 0)), .inl (tk_cA ω 0, 24, .inl (fun _ => 0)), .inl (tk_cA ω 0, 24, .inl (fun _ => 0)), .inl (tk_cA ω 0, 8, .inl (fun _ => 0)), .inl (tk_cA ω 0, 8, .inl (fun _ => 0)), .inl (tk_cA ω 0, 8, .inl (fun _ => 0))]) H := hY
  refine lv_aload_n (k := 0) (i := 0) hx hb (by decide +kernel) rfl (lv_at hl 0 rfl) ?_
  refine lv_bipush (n := (8)) (v := (8)) hx hb (by decide +kernel) (by decide) ?_
  refine tk_y_newa (atype := .int) (ty := .int) (t0 := 0) (N' := 8) (a0 := (8, .inl (fun _ => 0))) (n := 7) hx hb rfl hts (tk_at 115 rfl rfl) hK rfl (fun _ h => h) hY hS rfl (fun _ => rfl) (by decide) (by decide) (Nat.le_of_ble_eq_true rfl) (Nat.le_of_ble_eq_true rfl) (Nat.le_of_ble_eq_true rfl) (by decide +kernel) (fun H hY hS => ?_)
  have hY : tk_Y ω (pre ++ [.inr (2, [.int 1, .int 0, .int 0, .int 0, .int 0, .ref (tk_bs ω + (pre.length + 1)), .ref (tk_bs ω + (pre.length + 2)), .ref (tk_bs ω + (pre.length + 3)), .ref (tk_bs ω + (pre.length + 4)), .ref (tk_bs ω + (pre.length + 5)), .ref (tk_bs ω + (pre.length + 6)), .null, .null, .null, .null, .null, .null, .null]), .inl (tk_cA ω 0, 24, .inl (fun _ => 0)), .inl (tk_cA ω 0, 24, .inl (fun _ => 0)), .inl (tk_cA ω 0, 24, .inl (fun _ => 0)), .inl (tk_cA ω 0, 8, .inl (fun _ => 0)), .inl (tk_cA ω 0, 8, .inl (fun _ => 0)), .inl (tk_cA ω 0, 8, .inl (fun _ => 0)), .inl (tk_cA ω 0, 8, .inl (fun _ => 0))]) H := hY
  refine W.widen (k := 7) (n := 104) (by omega) (by omega) ?_
  refine tk_y_put (index := 34) (ci := 2) (j := 11) (k := 0) (fs := [.int 1, .int 0, .int 0, .int 0, .int 0, .ref (tk_bs ω + (pre.length + 1)), .ref (tk_bs ω + (pre.length + 2)), .ref (tk_bs ω + (pre.length + 3)), .ref (tk_bs ω + (pre.length + 4)), .ref (tk_bs ω + (pre.length + 5)), .ref (tk_bs ω + (pre.length + 6)), .null, .null, .null, .null, .null, .null, .null]) (own := RX2) hx hb hts tk_C2 hown hin hK hY hS rfl (by decide) (tk_at 145 rfl rfl) rfl rfl rfl (Nat.le_of_ble_eq_true rfl) (by decide +kernel) (fun H locs hY hS => ?_)
  have hY : tk_Y ω (pre ++ [.inr (2, [.int 1, .int 0, .int 0, .int 0, .int 0, .ref (tk_bs ω + (pre.length + 1)), .ref (tk_bs ω + (pre.length + 2)), .ref (tk_bs ω + (pre.length + 3)), .ref (tk_bs ω + (pre.length + 4)), .ref (tk_bs ω + (pre.length + 5)), .ref (tk_bs ω + (pre.length + 6)), .ref (tk_bs ω + (pre.length + 7)), .null, .null, .null, .null, .null, .null]), .inl (tk_cA ω 0, 24, .inl (fun _ => 0)), .inl (tk_cA ω 0, 24, .inl (fun _ => 0)), .inl (tk_cA ω 0, 24, .inl (fun _ => 0)), .inl (tk_cA ω 0, 8, .inl (fun _ => 0)), .inl (tk_cA ω 0, 8, .inl (fun _ => 0)), .inl (tk_cA ω 0, 8, .inl (fun _ => 0)), .inl (tk_cA ω 0, 8, .inl (fun _ => 0))]) H := hY
  refine lv_aload_n (k := 0) (i := 0) hx hb (by decide +kernel) rfl (lv_at hl 0 rfl) ?_
  refine lv_bipush (n := (8)) (v := (8)) hx hb (by decide +kernel) (by decide) ?_
  refine tk_y_newa (atype := .int) (ty := .int) (t0 := 0) (N' := 8) (a0 := (8, .inl (fun _ => 0))) (n := 8) hx hb rfl hts (tk_at 115 rfl rfl) hK rfl (fun _ h => h) hY hS rfl (fun _ => rfl) (by decide) (by decide) (Nat.le_of_ble_eq_true rfl) (Nat.le_of_ble_eq_true rfl) (Nat.le_of_ble_eq_true rfl) (by decide +kernel) (fun H hY hS => ?_)
  have hY : tk_Y ω (pre ++ [.inr (2, [.int 1, .int 0, .int 0, .int 0, .int 0, .ref (tk_bs ω + (pre.length + 1)), .ref (tk_bs ω + (pre.length + 2)), .ref (tk_bs ω + (pre.length + 3)), .ref (tk_bs ω + (pre.length + 4)), .ref (tk_bs ω + (pre.length + 5)), .ref (tk_bs ω + (pre.length + 6)), .ref (tk_bs ω + (pre.length + 7)), .null, .null, .null, .null, .null, .null]), .inl (tk_cA ω 0, 24, .inl (fun _ => 0)), .inl (tk_cA ω 0, 24, .inl (fun _ => 0)), .inl (tk_cA ω 0, 24, .inl (fun _ => 0)), .inl (tk_cA ω 0, 8, .inl (fun _ => 0)), .inl (tk_cA ω 0, 8, .inl (fun _ => 0)), .inl (tk_cA ω 0, 8, .inl (fun _ => 0)), .inl (tk_cA ω 0, 8, .inl (fun _ => 0)), .inl (tk_cA ω 0, 8, .inl (fun _ => 0))]) H := hY
  refine W.widen (k := 8) (n := 112) (by omega) (by omega) ?_
  refine tk_y_put (index := 37) (ci := 2) (j := 12) (k := 0) (fs := [.int 1, .int 0, .int 0, .int 0, .int 0, .ref (tk_bs ω + (pre.length + 1)), .ref (tk_bs ω + (pre.length + 2)), .ref (tk_bs ω + (pre.length + 3)), .ref (tk_bs ω + (pre.length + 4)), .ref (tk_bs ω + (pre.length + 5)), .ref (tk_bs ω + (pre.length + 6)), .ref (tk_bs ω + (pre.length + 7)), .null, .null, .null, .null, .null, .null]) (own := RX2) hx hb hts tk_C2 hown hin hK hY hS rfl (by decide) (tk_at 148 rfl rfl) rfl rfl rfl (Nat.le_of_ble_eq_true rfl) (by decide +kernel) (fun H locs hY hS => ?_)
  have hY : tk_Y ω (pre ++ [.inr (2, [.int 1, .int 0, .int 0, .int 0, .int 0, .ref (tk_bs ω + (pre.length + 1)), .ref (tk_bs ω + (pre.length + 2)), .ref (tk_bs ω + (pre.length + 3)), .ref (tk_bs ω + (pre.length + 4)), .ref (tk_bs ω + (pre.length + 5)), .ref (tk_bs ω + (pre.length + 6)), .ref (tk_bs ω + (pre.length + 7)), .ref (tk_bs ω + (pre.length + 8)), .null, .null, .null, .null, .null]), .inl (tk_cA ω 0, 24, .inl (fun _ => 0)), .inl (tk_cA ω 0, 24, .inl (fun _ => 0)), .inl (tk_cA ω 0, 24, .inl (fun _ => 0)), .inl (tk_cA ω 0, 8, .inl (fun _ => 0)), .inl (tk_cA ω 0, 8, .inl (fun _ => 0)), .inl (tk_cA ω 0, 8, .inl (fun _ => 0)), .inl (tk_cA ω 0, 8, .inl (fun _ => 0)), .inl (tk_cA ω 0, 8, .inl (fun _ => 0))]) H := hY
  refine lv_aload_n (k := 0) (i := 0) hx hb (by decide +kernel) rfl (lv_at hl 0 rfl) ?_
  refine lv_bipush (n := (8)) (v := (8)) hx hb (by decide +kernel) (by decide) ?_
  refine tk_y_newa (atype := .int) (ty := .int) (t0 := 0) (N' := 8) (a0 := (8, .inl (fun _ => 0))) (n := 9) hx hb rfl hts (tk_at 115 rfl rfl) hK rfl (fun _ h => h) hY hS rfl (fun _ => rfl) (by decide) (by decide) (Nat.le_of_ble_eq_true rfl) (Nat.le_of_ble_eq_true rfl) (Nat.le_of_ble_eq_true rfl) (by decide +kernel) (fun H hY hS => ?_)
  have hY : tk_Y ω (pre ++ [.inr (2, [.int 1, .int 0, .int 0, .int 0, .int 0, .ref (tk_bs ω + (pre.length + 1)), .ref (tk_bs ω + (pre.length + 2)), .ref (tk_bs ω + (pre.length + 3)), .ref (tk_bs ω + (pre.length + 4)), .ref (tk_bs ω + (pre.length + 5)), .ref (tk_bs ω + (pre.length + 6)), .ref (tk_bs ω + (pre.length + 7)), .ref (tk_bs ω + (pre.length + 8)), .null, .null, .null, .null, .null]), .inl (tk_cA ω 0, 24, .inl (fun _ => 0)), .inl (tk_cA ω 0, 24, .inl (fun _ => 0)), .inl (tk_cA ω 0, 24, .inl (fun _ => 0)), .inl (tk_cA ω 0, 8, .inl (fun _ => 0)), .inl (tk_cA ω 0, 8, .inl (fun _ => 0)), .inl (tk_cA ω 0, 8, .inl (fun _ => 0)), .inl (tk_cA ω 0, 8, .inl (fun _ => 0)), .inl (tk_cA ω 0, 8, .inl (fun _ => 0)), .inl (tk_cA ω 0, 8, .inl (fun _ => 0))]) H := hY
  refine W.widen (k := 9) (n := 120) (by omega) (by omega) ?_
  refine tk_y_put (index := 40) (ci := 2) (j := 13) (k := 0) (fs := [.int 1, .int 0, .int 0, .int 0, .int 0, .ref (tk_bs ω + (pre.length + 1)), .ref (tk_bs ω + (pre.length + 2)), .ref (tk_bs ω + (pre.length + 3)), .ref (tk_bs ω + (pre.length + 4)), .ref (tk_bs ω + (pre.length + 5)), .ref (tk_bs ω + (pre.length + 6)), .ref (tk_bs ω + (pre.length + 7)), .ref (tk_bs ω + (pre.length + 8)), .null, .null, .null, .null, .null]) (own := RX2) hx hb hts tk_C2 hown hin hK hY hS rfl (by decide) (tk_at 151 rfl rfl) rfl rfl rfl (Nat.le_of_ble_eq_true rfl) (by decide +kernel) (fun H locs hY hS => ?_)
  have hY : tk_Y ω (pre ++ [.inr (2, [.int 1, .int 0, .int 0, .int 0, .int 0, .ref (tk_bs ω + (pre.length + 1)), .ref (tk_bs ω + (pre.length + 2)), .ref (tk_bs ω + (pre.length + 3)), .ref (tk_bs ω + (pre.length + 4)), .ref (tk_bs ω + (pre.length + 5)), .ref (tk_bs ω + (pre.length + 6)), .ref (tk_bs ω + (pre.length + 7)), .ref (tk_bs ω + (pre.length + 8)), .ref (tk_bs ω + (pre.length + 9)), .null, .null, .null, .null]), .inl (tk_cA ω 0, 24, .inl (fun _ => 0)), .inl (tk_cA ω 0, 24, .inl (fun _ => 0)), .inl (tk_cA ω 0, 24, .inl (fun _ => 0)), .inl (tk_cA ω 0, 8, .inl (fun _ => 0)), .inl (tk_cA ω 0, 8, .inl (fun _ => 0)), .inl (tk_cA ω 0, 8, .inl (fun _ => 0)), .inl (tk_cA ω 0, 8, .inl (fun _ => 0)), .inl (tk_cA ω 0, 8, .inl (fun _ => 0)), .inl (tk_cA ω 0, 8, .inl (fun _ => 0))]) H := hY
  refine lv_aload_n (k := 0) (i := 0) hx hb (by decide +kernel) rfl (lv_at hl 0 rfl) ?_
  refine lv_bipush (n := (32)) (v := (32)) hx hb (by decide +kernel) (by decide) ?_
  refine tk_y_newa (atype := .int) (ty := .int) (t0 := 0) (N' := 32) (a0 := (32, .inl (fun _ => 0))) (n := 10) hx hb rfl hts (tk_at 115 rfl rfl) hK rfl (fun _ h => h) hY hS rfl (fun _ => rfl) (by decide) (by decide) (Nat.le_of_ble_eq_true rfl) (Nat.le_of_ble_eq_true rfl) (Nat.le_of_ble_eq_true rfl) (by decide +kernel) (fun H hY hS => ?_)
  have hY : tk_Y ω (pre ++ [.inr (2, [.int 1, .int 0, .int 0, .int 0, .int 0, .ref (tk_bs ω + (pre.length + 1)), .ref (tk_bs ω + (pre.length + 2)), .ref (tk_bs ω + (pre.length + 3)), .ref (tk_bs ω + (pre.length + 4)), .ref (tk_bs ω + (pre.length + 5)), .ref (tk_bs ω + (pre.length + 6)), .ref (tk_bs ω + (pre.length + 7)), .ref (tk_bs ω + (pre.length + 8)), .ref (tk_bs ω + (pre.length + 9)), .null, .null, .null, .null]), .inl (tk_cA ω 0, 24, .inl (fun _ => 0)), .inl (tk_cA ω 0, 24, .inl (fun _ => 0)), .inl (tk_cA ω 0, 24, .inl (fun _ => 0)), .inl (tk_cA ω 0, 8, .inl (fun _ => 0)), .inl (tk_cA ω 0, 8, .inl (fun _ => 0)), .inl (tk_cA ω 0, 8, .inl (fun _ => 0)), .inl (tk_cA ω 0, 8, .inl (fun _ => 0)), .inl (tk_cA ω 0, 8, .inl (fun _ => 0)), .inl (tk_cA ω 0, 8, .inl (fun _ => 0)), .inl (tk_cA ω 0, 32, .inl (fun _ => 0))]) H := hY
  refine W.widen (k := 10) (n := 152) (by omega) (by omega) ?_
  refine tk_y_put (index := 43) (ci := 2) (j := 14) (k := 0) (fs := [.int 1, .int 0, .int 0, .int 0, .int 0, .ref (tk_bs ω + (pre.length + 1)), .ref (tk_bs ω + (pre.length + 2)), .ref (tk_bs ω + (pre.length + 3)), .ref (tk_bs ω + (pre.length + 4)), .ref (tk_bs ω + (pre.length + 5)), .ref (tk_bs ω + (pre.length + 6)), .ref (tk_bs ω + (pre.length + 7)), .ref (tk_bs ω + (pre.length + 8)), .ref (tk_bs ω + (pre.length + 9)), .null, .null, .null, .null]) (own := RX2) hx hb hts tk_C2 hown hin hK hY hS rfl (by decide) (tk_at 155 rfl rfl) rfl rfl rfl (Nat.le_of_ble_eq_true rfl) (by decide +kernel) (fun H locs hY hS => ?_)
  have hY : tk_Y ω (pre ++ [.inr (2, [.int 1, .int 0, .int 0, .int 0, .int 0, .ref (tk_bs ω + (pre.length + 1)), .ref (tk_bs ω + (pre.length + 2)), .ref (tk_bs ω + (pre.length + 3)), .ref (tk_bs ω + (pre.length + 4)), .ref (tk_bs ω + (pre.length + 5)), .ref (tk_bs ω + (pre.length + 6)), .ref (tk_bs ω + (pre.length + 7)), .ref (tk_bs ω + (pre.length + 8)), .ref (tk_bs ω + (pre.length + 9)), .ref (tk_bs ω + (pre.length + 10)), .null, .null, .null]), .inl (tk_cA ω 0, 24, .inl (fun _ => 0)), .inl (tk_cA ω 0, 24, .inl (fun _ => 0)), .inl (tk_cA ω 0, 24, .inl (fun _ => 0)), .inl (tk_cA ω 0, 8, .inl (fun _ => 0)), .inl (tk_cA ω 0, 8, .inl (fun _ => 0)), .inl (tk_cA ω 0, 8, .inl (fun _ => 0)), .inl (tk_cA ω 0, 8, .inl (fun _ => 0)), .inl (tk_cA ω 0, 8, .inl (fun _ => 0)), .inl (tk_cA ω 0, 8, .inl (fun _ => 0)), .inl (tk_cA ω 0, 32, .inl (fun _ => 0))]) H := hY
  refine lv_aload_n (k := 0) (i := 0) hx hb (by decide +kernel) rfl (lv_at hl 0 rfl) ?_
  refine tk_y_new (index := 46) (ci := 3) (n := 11) (fs := [.int 0, .null, .null]) (own := RX2) hx hb hts tk_C3 hown (tk_at 93 rfl rfl) (tk_at 94 rfl rfl) (tk_at 70 rfl rfl) hK hY hS rfl (by decide +kernel) (Nat.le_of_ble_eq_true rfl) (Nat.le_of_ble_eq_true rfl) (by decide +kernel) (fun H hY hS => ?_)
  have hY : tk_Y ω (pre ++ [.inr (2, [.int 1, .int 0, .int 0, .int 0, .int 0, .ref (tk_bs ω + (pre.length + 1)), .ref (tk_bs ω + (pre.length + 2)), .ref (tk_bs ω + (pre.length + 3)), .ref (tk_bs ω + (pre.length + 4)), .ref (tk_bs ω + (pre.length + 5)), .ref (tk_bs ω + (pre.length + 6)), .ref (tk_bs ω + (pre.length + 7)), .ref (tk_bs ω + (pre.length + 8)), .ref (tk_bs ω + (pre.length + 9)), .ref (tk_bs ω + (pre.length + 10)), .null, .null, .null]), .inl (tk_cA ω 0, 24, .inl (fun _ => 0)), .inl (tk_cA ω 0, 24, .inl (fun _ => 0)), .inl (tk_cA ω 0, 24, .inl (fun _ => 0)), .inl (tk_cA ω 0, 8, .inl (fun _ => 0)), .inl (tk_cA ω 0, 8, .inl (fun _ => 0)), .inl (tk_cA ω 0, 8, .inl (fun _ => 0)), .inl (tk_cA ω 0, 8, .inl (fun _ => 0)), .inl (tk_cA ω 0, 8, .inl (fun _ => 0)), .inl (tk_cA ω 0, 8, .inl (fun _ => 0)), .inl (tk_cA ω 0, 32, .inl (fun _ => 0)), .inr (3, [.int 0, .null, .null])]) H := hY
  refine W.widen (k := 11) (n := 155) (by omega) (by omega) ?_
  refine lv_dup hx hb (by decide +kernel) rfl ?_
  refine lv_iconst (n := (5)) (v := (5)) hx hb (by decide +kernel) (by decide) ?_
  refine tk_y_init (index := 48) (n := 11) (np := 1) (li := [.inr (2, [.int 1, .int 0, .int 0, .int 0, .int 0, .ref (tk_bs ω + (pre.length + 1)), .ref (tk_bs ω + (pre.length + 2)), .ref (tk_bs ω + (pre.length + 3)), .ref (tk_bs ω + (pre.length + 4)), .ref (tk_bs ω + (pre.length + 5)), .ref (tk_bs ω + (pre.length + 6)), .ref (tk_bs ω + (pre.length + 7)), .ref (tk_bs ω + (pre.length + 8)), .ref (tk_bs ω + (pre.length + 9)), .ref (tk_bs ω + (pre.length + 10)), .null, .null, .null]), .inl (tk_cA ω 0, 24, .inl (fun _ => 0)), .inl (tk_cA ω 0, 24, .inl (fun _ => 0)), .inl (tk_cA ω 0, 24, .inl (fun _ => 0)), .inl (tk_cA ω 0, 8, .inl (fun _ => 0)), .inl (tk_cA ω 0, 8, .inl (fun _ => 0)), .inl (tk_cA ω 0, 8, .inl (fun _ => 0)), .inl (tk_cA ω 0, 8, .inl (fun _ => 0)), .inl (tk_cA ω 0, 8, .inl (fun _ => 0)), .inl (tk_cA ω 0, 8, .inl (fun _ => 0)), .inl (tk_cA ω 0, 32, .inl (fun _ => 0))]) (rest := [.ref (tk_bs ω + (pre.length + 11)), .ref (tk_bs ω + (pre.length + 0))]) (nL := 1) (own := RX2) hx hb hml hl.1 hts hown (tkct_HandRows5) rfl (tk_at 96 rfl rfl) (tk_at 97 rfl rfl) (tk_at 70 rfl rfl) (.inl (tk_at 95 rfl rfl)) ⟨by decide +kernel, by decide +kernel, by decide +kernel⟩ rfl ⟨(Nat.le_of_ble_eq_true rfl), (Nat.le_of_ble_eq_true rfl)⟩ rfl rfl hK hY hS rfl rfl (by decide) ⟨(Nat.le_of_ble_eq_true rfl), (Nat.le_of_ble_eq_true rfl)⟩ (by decide +kernel) (fun H locs hY hS => ?_)
  have hY : tk_Y ω (pre ++ [.inr (2, [.int 1, .int 0, .int 0, .int 0, .int 0, .ref (tk_bs ω + (pre.length + 1)), .ref (tk_bs ω + (pre.length + 2)), .ref (tk_bs ω + (pre.length + 3)), .ref (tk_bs ω + (pre.length + 4)), .ref (tk_bs ω + (pre.length + 5)), .ref (tk_bs ω + (pre.length + 6)), .ref (tk_bs ω + (pre.length + 7)), .ref (tk_bs ω + (pre.length + 8)), .ref (tk_bs ω + (pre.length + 9)), .ref (tk_bs ω + (pre.length + 10)), .null, .null, .null]), .inl (tk_cA ω 0, 24, .inl (fun _ => 0)), .inl (tk_cA ω 0, 24, .inl (fun _ => 0)), .inl (tk_cA ω 0, 24, .inl (fun _ => 0)), .inl (tk_cA ω 0, 8, .inl (fun _ => 0)), .inl (tk_cA ω 0, 8, .inl (fun _ => 0)), .inl (tk_cA ω 0, 8, .inl (fun _ => 0)), .inl (tk_cA ω 0, 8, .inl (fun _ => 0)), .inl (tk_cA ω 0, 8, .inl (fun _ => 0)), .inl (tk_cA ω 0, 8, .inl (fun _ => 0)), .inl (tk_cA ω 0, 32, .inl (fun _ => 0)), .inr (3, [.int 0, .ref (tk_bs ω + (pre.length + 12)), .ref (tk_bs ω + (pre.length + 13))]), .inl (tk_cA ω 0, 5, .inl (fun _ => 0)), .inl (tk_cA ω 0, 5, .inl (fun _ => 0))]) H := hY
  refine W.widen (k := 13) (n := 165) (by omega) (by omega) ?_
  refine tk_y_put (index := 51) (ci := 2) (j := 15) (k := 0) (fs := [.int 1, .int 0, .int 0, .int 0, .int 0, .ref (tk_bs ω + (pre.length + 1)), .ref (tk_bs ω + (pre.length + 2)), .ref (tk_bs ω + (pre.length + 3)), .ref (tk_bs ω + (pre.length + 4)), .ref (tk_bs ω + (pre.length + 5)), .ref (tk_bs ω + (pre.length + 6)), .ref (tk_bs ω + (pre.length + 7)), .ref (tk_bs ω + (pre.length + 8)), .ref (tk_bs ω + (pre.length + 9)), .ref (tk_bs ω + (pre.length + 10)), .null, .null, .null]) (own := RX2) hx hb hts tk_C2 hown hin hK hY hS rfl (by decide) (tk_at 157 rfl rfl) rfl rfl rfl (Nat.le_of_ble_eq_true rfl) (by decide +kernel) (fun H locs hY hS => ?_)
  have hY : tk_Y ω (pre ++ [.inr (2, [.int 1, .int 0, .int 0, .int 0, .int 0, .ref (tk_bs ω + (pre.length + 1)), .ref (tk_bs ω + (pre.length + 2)), .ref (tk_bs ω + (pre.length + 3)), .ref (tk_bs ω + (pre.length + 4)), .ref (tk_bs ω + (pre.length + 5)), .ref (tk_bs ω + (pre.length + 6)), .ref (tk_bs ω + (pre.length + 7)), .ref (tk_bs ω + (pre.length + 8)), .ref (tk_bs ω + (pre.length + 9)), .ref (tk_bs ω + (pre.length + 10)), .ref (tk_bs ω + (pre.length + 11)), .null, .null]), .inl (tk_cA ω 0, 24, .inl (fun _ => 0)), .inl (tk_cA ω 0, 24, .inl (fun _ => 0)), .inl (tk_cA ω 0, 24, .inl (fun _ => 0)), .inl (tk_cA ω 0, 8, .inl (fun _ => 0)), .inl (tk_cA ω 0, 8, .inl (fun _ => 0)), .inl (tk_cA ω 0, 8, .inl (fun _ => 0)), .inl (tk_cA ω 0, 8, .inl (fun _ => 0)), .inl (tk_cA ω 0, 8, .inl (fun _ => 0)), .inl (tk_cA ω 0, 8, .inl (fun _ => 0)), .inl (tk_cA ω 0, 32, .inl (fun _ => 0)), .inr (3, [.int 0, .ref (tk_bs ω + (pre.length + 12)), .ref (tk_bs ω + (pre.length + 13))]), .inl (tk_cA ω 0, 5, .inl (fun _ => 0)), .inl (tk_cA ω 0, 5, .inl (fun _ => 0))]) H := hY
  refine lv_aload_n (k := 0) (i := 0) hx hb (by decide +kernel) rfl (lv_at hl 0 rfl) ?_
  refine tk_y_new (index := 46) (ci := 3) (n := 14) (fs := [.int 0, .null, .null]) (own := RX2) hx hb hts tk_C3 hown (tk_at 93 rfl rfl) (tk_at 94 rfl rfl) (tk_at 70 rfl rfl) hK hY hS rfl (by decide +kernel) (Nat.le_of_ble_eq_true rfl) (Nat.le_of_ble_eq_true rfl) (by decide +kernel) (fun H hY hS => ?_)
  have hY : tk_Y ω (pre ++ [.inr (2, [.int 1, .int 0, .int 0, .int 0, .int 0, .ref (tk_bs ω + (pre.length + 1)), .ref (tk_bs ω + (pre.length + 2)), .ref (tk_bs ω + (pre.length + 3)), .ref (tk_bs ω + (pre.length + 4)), .ref (tk_bs ω + (pre.length + 5)), .ref (tk_bs ω + (pre.length + 6)), .ref (tk_bs ω + (pre.length + 7)), .ref (tk_bs ω + (pre.length + 8)), .ref (tk_bs ω + (pre.length + 9)), .ref (tk_bs ω + (pre.length + 10)), .ref (tk_bs ω + (pre.length + 11)), .null, .null]), .inl (tk_cA ω 0, 24, .inl (fun _ => 0)), .inl (tk_cA ω 0, 24, .inl (fun _ => 0)), .inl (tk_cA ω 0, 24, .inl (fun _ => 0)), .inl (tk_cA ω 0, 8, .inl (fun _ => 0)), .inl (tk_cA ω 0, 8, .inl (fun _ => 0)), .inl (tk_cA ω 0, 8, .inl (fun _ => 0)), .inl (tk_cA ω 0, 8, .inl (fun _ => 0)), .inl (tk_cA ω 0, 8, .inl (fun _ => 0)), .inl (tk_cA ω 0, 8, .inl (fun _ => 0)), .inl (tk_cA ω 0, 32, .inl (fun _ => 0)), .inr (3, [.int 0, .ref (tk_bs ω + (pre.length + 12)), .ref (tk_bs ω + (pre.length + 13))]), .inl (tk_cA ω 0, 5, .inl (fun _ => 0)), .inl (tk_cA ω 0, 5, .inl (fun _ => 0)), .inr (3, [.int 0, .null, .null])]) H := hY
  refine W.widen (k := 14) (n := 168) (by omega) (by omega) ?_
  refine lv_dup hx hb (by decide +kernel) rfl ?_
  refine lv_bipush (n := (10)) (v := (10)) hx hb (by decide +kernel) (by decide) ?_
  refine tk_y_init (index := 48) (n := 14) (np := 1) (li := [.inr (2, [.int 1, .int 0, .int 0, .int 0, .int 0, .ref (tk_bs ω + (pre.length + 1)), .ref (tk_bs ω + (pre.length + 2)), .ref (tk_bs ω + (pre.length + 3)), .ref (tk_bs ω + (pre.length + 4)), .ref (tk_bs ω + (pre.length + 5)), .ref (tk_bs ω + (pre.length + 6)), .ref (tk_bs ω + (pre.length + 7)), .ref (tk_bs ω + (pre.length + 8)), .ref (tk_bs ω + (pre.length + 9)), .ref (tk_bs ω + (pre.length + 10)), .ref (tk_bs ω + (pre.length + 11)), .null, .null]), .inl (tk_cA ω 0, 24, .inl (fun _ => 0)), .inl (tk_cA ω 0, 24, .inl (fun _ => 0)), .inl (tk_cA ω 0, 24, .inl (fun _ => 0)), .inl (tk_cA ω 0, 8, .inl (fun _ => 0)), .inl (tk_cA ω 0, 8, .inl (fun _ => 0)), .inl (tk_cA ω 0, 8, .inl (fun _ => 0)), .inl (tk_cA ω 0, 8, .inl (fun _ => 0)), .inl (tk_cA ω 0, 8, .inl (fun _ => 0)), .inl (tk_cA ω 0, 8, .inl (fun _ => 0)), .inl (tk_cA ω 0, 32, .inl (fun _ => 0)), .inr (3, [.int 0, .ref (tk_bs ω + (pre.length + 12)), .ref (tk_bs ω + (pre.length + 13))]), .inl (tk_cA ω 0, 5, .inl (fun _ => 0)), .inl (tk_cA ω 0, 5, .inl (fun _ => 0))]) (rest := [.ref (tk_bs ω + (pre.length + 14)), .ref (tk_bs ω + (pre.length + 0))]) (nL := 1) (own := RX2) hx hb hml hl.1 hts hown (tkct_HandRows10) rfl (tk_at 96 rfl rfl) (tk_at 97 rfl rfl) (tk_at 70 rfl rfl) (.inl (tk_at 95 rfl rfl)) ⟨by decide +kernel, by decide +kernel, by decide +kernel⟩ rfl ⟨(Nat.le_of_ble_eq_true rfl), (Nat.le_of_ble_eq_true rfl)⟩ rfl rfl hK hY hS rfl rfl (by decide) ⟨(Nat.le_of_ble_eq_true rfl), (Nat.le_of_ble_eq_true rfl)⟩ (by decide +kernel) (fun H locs hY hS => ?_)
  have hY : tk_Y ω (pre ++ [.inr (2, [.int 1, .int 0, .int 0, .int 0, .int 0, .ref (tk_bs ω + (pre.length + 1)), .ref (tk_bs ω + (pre.length + 2)), .ref (tk_bs ω + (pre.length + 3)), .ref (tk_bs ω + (pre.length + 4)), .ref (tk_bs ω + (pre.length + 5)), .ref (tk_bs ω + (pre.length + 6)), .ref (tk_bs ω + (pre.length + 7)), .ref (tk_bs ω + (pre.length + 8)), .ref (tk_bs ω + (pre.length + 9)), .ref (tk_bs ω + (pre.length + 10)), .ref (tk_bs ω + (pre.length + 11)), .null, .null]), .inl (tk_cA ω 0, 24, .inl (fun _ => 0)), .inl (tk_cA ω 0, 24, .inl (fun _ => 0)), .inl (tk_cA ω 0, 24, .inl (fun _ => 0)), .inl (tk_cA ω 0, 8, .inl (fun _ => 0)), .inl (tk_cA ω 0, 8, .inl (fun _ => 0)), .inl (tk_cA ω 0, 8, .inl (fun _ => 0)), .inl (tk_cA ω 0, 8, .inl (fun _ => 0)), .inl (tk_cA ω 0, 8, .inl (fun _ => 0)), .inl (tk_cA ω 0, 8, .inl (fun _ => 0)), .inl (tk_cA ω 0, 32, .inl (fun _ => 0)), .inr (3, [.int 0, .ref (tk_bs ω + (pre.length + 12)), .ref (tk_bs ω + (pre.length + 13))]), .inl (tk_cA ω 0, 5, .inl (fun _ => 0)), .inl (tk_cA ω 0, 5, .inl (fun _ => 0)), .inr (3, [.int 0, .ref (tk_bs ω + (pre.length + 15)), .ref (tk_bs ω + (pre.length + 16))]), .inl (tk_cA ω 0, 10, .inl (fun _ => 0)), .inl (tk_cA ω 0, 10, .inl (fun _ => 0))]) H := hY
  refine W.widen (k := 16) (n := 188) (by omega) (by omega) ?_
  refine tk_y_put (index := 55) (ci := 2) (j := 16) (k := 0) (fs := [.int 1, .int 0, .int 0, .int 0, .int 0, .ref (tk_bs ω + (pre.length + 1)), .ref (tk_bs ω + (pre.length + 2)), .ref (tk_bs ω + (pre.length + 3)), .ref (tk_bs ω + (pre.length + 4)), .ref (tk_bs ω + (pre.length + 5)), .ref (tk_bs ω + (pre.length + 6)), .ref (tk_bs ω + (pre.length + 7)), .ref (tk_bs ω + (pre.length + 8)), .ref (tk_bs ω + (pre.length + 9)), .ref (tk_bs ω + (pre.length + 10)), .ref (tk_bs ω + (pre.length + 11)), .null, .null]) (own := RX2) hx hb hts tk_C2 hown hin hK hY hS rfl (by decide) (tk_at 159 rfl rfl) rfl rfl rfl (Nat.le_of_ble_eq_true rfl) (by decide +kernel) (fun H locs hY hS => ?_)
  have hY : tk_Y ω (pre ++ [.inr (2, [.int 1, .int 0, .int 0, .int 0, .int 0, .ref (tk_bs ω + (pre.length + 1)), .ref (tk_bs ω + (pre.length + 2)), .ref (tk_bs ω + (pre.length + 3)), .ref (tk_bs ω + (pre.length + 4)), .ref (tk_bs ω + (pre.length + 5)), .ref (tk_bs ω + (pre.length + 6)), .ref (tk_bs ω + (pre.length + 7)), .ref (tk_bs ω + (pre.length + 8)), .ref (tk_bs ω + (pre.length + 9)), .ref (tk_bs ω + (pre.length + 10)), .ref (tk_bs ω + (pre.length + 11)), .ref (tk_bs ω + (pre.length + 14)), .null]), .inl (tk_cA ω 0, 24, .inl (fun _ => 0)), .inl (tk_cA ω 0, 24, .inl (fun _ => 0)), .inl (tk_cA ω 0, 24, .inl (fun _ => 0)), .inl (tk_cA ω 0, 8, .inl (fun _ => 0)), .inl (tk_cA ω 0, 8, .inl (fun _ => 0)), .inl (tk_cA ω 0, 8, .inl (fun _ => 0)), .inl (tk_cA ω 0, 8, .inl (fun _ => 0)), .inl (tk_cA ω 0, 8, .inl (fun _ => 0)), .inl (tk_cA ω 0, 8, .inl (fun _ => 0)), .inl (tk_cA ω 0, 32, .inl (fun _ => 0)), .inr (3, [.int 0, .ref (tk_bs ω + (pre.length + 12)), .ref (tk_bs ω + (pre.length + 13))]), .inl (tk_cA ω 0, 5, .inl (fun _ => 0)), .inl (tk_cA ω 0, 5, .inl (fun _ => 0)), .inr (3, [.int 0, .ref (tk_bs ω + (pre.length + 15)), .ref (tk_bs ω + (pre.length + 16))]), .inl (tk_cA ω 0, 10, .inl (fun _ => 0)), .inl (tk_cA ω 0, 10, .inl (fun _ => 0))]) H := hY
  refine lv_aload_n (k := 0) (i := 0) hx hb (by decide +kernel) rfl (lv_at hl 0 rfl) ?_
  refine tk_y_new (index := 46) (ci := 3) (n := 17) (fs := [.int 0, .null, .null]) (own := RX2) hx hb hts tk_C3 hown (tk_at 93 rfl rfl) (tk_at 94 rfl rfl) (tk_at 70 rfl rfl) hK hY hS rfl (by decide +kernel) (Nat.le_of_ble_eq_true rfl) (Nat.le_of_ble_eq_true rfl) (by decide +kernel) (fun H hY hS => ?_)
  have hY : tk_Y ω (pre ++ [.inr (2, [.int 1, .int 0, .int 0, .int 0, .int 0, .ref (tk_bs ω + (pre.length + 1)), .ref (tk_bs ω + (pre.length + 2)), .ref (tk_bs ω + (pre.length + 3)), .ref (tk_bs ω + (pre.length + 4)), .ref (tk_bs ω + (pre.length + 5)), .ref (tk_bs ω + (pre.length + 6)), .ref (tk_bs ω + (pre.length + 7)), .ref (tk_bs ω + (pre.length + 8)), .ref (tk_bs ω + (pre.length + 9)), .ref (tk_bs ω + (pre.length + 10)), .ref (tk_bs ω + (pre.length + 11)), .ref (tk_bs ω + (pre.length + 14)), .null]), .inl (tk_cA ω 0, 24, .inl (fun _ => 0)), .inl (tk_cA ω 0, 24, .inl (fun _ => 0)), .inl (tk_cA ω 0, 24, .inl (fun _ => 0)), .inl (tk_cA ω 0, 8, .inl (fun _ => 0)), .inl (tk_cA ω 0, 8, .inl (fun _ => 0)), .inl (tk_cA ω 0, 8, .inl (fun _ => 0)), .inl (tk_cA ω 0, 8, .inl (fun _ => 0)), .inl (tk_cA ω 0, 8, .inl (fun _ => 0)), .inl (tk_cA ω 0, 8, .inl (fun _ => 0)), .inl (tk_cA ω 0, 32, .inl (fun _ => 0)), .inr (3, [.int 0, .ref (tk_bs ω + (pre.length + 12)), .ref (tk_bs ω + (pre.length + 13))]), .inl (tk_cA ω 0, 5, .inl (fun _ => 0)), .inl (tk_cA ω 0, 5, .inl (fun _ => 0)), .inr (3, [.int 0, .ref (tk_bs ω + (pre.length + 15)), .ref (tk_bs ω + (pre.length + 16))]), .inl (tk_cA ω 0, 10, .inl (fun _ => 0)), .inl (tk_cA ω 0, 10, .inl (fun _ => 0)), .inr (3, [.int 0, .null, .null])]) H := hY
  refine W.widen (k := 17) (n := 191) (by omega) (by omega) ?_
  refine lv_dup hx hb (by decide +kernel) rfl ?_
  refine lv_bipush (n := (8)) (v := (8)) hx hb (by decide +kernel) (by decide) ?_
  refine tk_y_init (index := 48) (n := 17) (np := 1) (li := [.inr (2, [.int 1, .int 0, .int 0, .int 0, .int 0, .ref (tk_bs ω + (pre.length + 1)), .ref (tk_bs ω + (pre.length + 2)), .ref (tk_bs ω + (pre.length + 3)), .ref (tk_bs ω + (pre.length + 4)), .ref (tk_bs ω + (pre.length + 5)), .ref (tk_bs ω + (pre.length + 6)), .ref (tk_bs ω + (pre.length + 7)), .ref (tk_bs ω + (pre.length + 8)), .ref (tk_bs ω + (pre.length + 9)), .ref (tk_bs ω + (pre.length + 10)), .ref (tk_bs ω + (pre.length + 11)), .ref (tk_bs ω + (pre.length + 14)), .null]), .inl (tk_cA ω 0, 24, .inl (fun _ => 0)), .inl (tk_cA ω 0, 24, .inl (fun _ => 0)), .inl (tk_cA ω 0, 24, .inl (fun _ => 0)), .inl (tk_cA ω 0, 8, .inl (fun _ => 0)), .inl (tk_cA ω 0, 8, .inl (fun _ => 0)), .inl (tk_cA ω 0, 8, .inl (fun _ => 0)), .inl (tk_cA ω 0, 8, .inl (fun _ => 0)), .inl (tk_cA ω 0, 8, .inl (fun _ => 0)), .inl (tk_cA ω 0, 8, .inl (fun _ => 0)), .inl (tk_cA ω 0, 32, .inl (fun _ => 0)), .inr (3, [.int 0, .ref (tk_bs ω + (pre.length + 12)), .ref (tk_bs ω + (pre.length + 13))]), .inl (tk_cA ω 0, 5, .inl (fun _ => 0)), .inl (tk_cA ω 0, 5, .inl (fun _ => 0)), .inr (3, [.int 0, .ref (tk_bs ω + (pre.length + 15)), .ref (tk_bs ω + (pre.length + 16))]), .inl (tk_cA ω 0, 10, .inl (fun _ => 0)), .inl (tk_cA ω 0, 10, .inl (fun _ => 0))]) (rest := [.ref (tk_bs ω + (pre.length + 17)), .ref (tk_bs ω + (pre.length + 0))]) (nL := 1) (own := RX2) hx hb hml hl.1 hts hown (tkct_HandRows8) rfl (tk_at 96 rfl rfl) (tk_at 97 rfl rfl) (tk_at 70 rfl rfl) (.inl (tk_at 95 rfl rfl)) ⟨by decide +kernel, by decide +kernel, by decide +kernel⟩ rfl ⟨(Nat.le_of_ble_eq_true rfl), (Nat.le_of_ble_eq_true rfl)⟩ rfl rfl hK hY hS rfl rfl (by decide) ⟨(Nat.le_of_ble_eq_true rfl), (Nat.le_of_ble_eq_true rfl)⟩ (by decide +kernel) (fun H locs hY hS => ?_)
  have hY : tk_Y ω (pre ++ [.inr (2, [.int 1, .int 0, .int 0, .int 0, .int 0, .ref (tk_bs ω + (pre.length + 1)), .ref (tk_bs ω + (pre.length + 2)), .ref (tk_bs ω + (pre.length + 3)), .ref (tk_bs ω + (pre.length + 4)), .ref (tk_bs ω + (pre.length + 5)), .ref (tk_bs ω + (pre.length + 6)), .ref (tk_bs ω + (pre.length + 7)), .ref (tk_bs ω + (pre.length + 8)), .ref (tk_bs ω + (pre.length + 9)), .ref (tk_bs ω + (pre.length + 10)), .ref (tk_bs ω + (pre.length + 11)), .ref (tk_bs ω + (pre.length + 14)), .null]), .inl (tk_cA ω 0, 24, .inl (fun _ => 0)), .inl (tk_cA ω 0, 24, .inl (fun _ => 0)), .inl (tk_cA ω 0, 24, .inl (fun _ => 0)), .inl (tk_cA ω 0, 8, .inl (fun _ => 0)), .inl (tk_cA ω 0, 8, .inl (fun _ => 0)), .inl (tk_cA ω 0, 8, .inl (fun _ => 0)), .inl (tk_cA ω 0, 8, .inl (fun _ => 0)), .inl (tk_cA ω 0, 8, .inl (fun _ => 0)), .inl (tk_cA ω 0, 8, .inl (fun _ => 0)), .inl (tk_cA ω 0, 32, .inl (fun _ => 0)), .inr (3, [.int 0, .ref (tk_bs ω + (pre.length + 12)), .ref (tk_bs ω + (pre.length + 13))]), .inl (tk_cA ω 0, 5, .inl (fun _ => 0)), .inl (tk_cA ω 0, 5, .inl (fun _ => 0)), .inr (3, [.int 0, .ref (tk_bs ω + (pre.length + 15)), .ref (tk_bs ω + (pre.length + 16))]), .inl (tk_cA ω 0, 10, .inl (fun _ => 0)), .inl (tk_cA ω 0, 10, .inl (fun _ => 0)), .inr (3, [.int 0, .ref (tk_bs ω + (pre.length + 18)), .ref (tk_bs ω + (pre.length + 19))]), .inl (tk_cA ω 0, 8, .inl (fun _ => 0)), .inl (tk_cA ω 0, 8, .inl (fun _ => 0))]) H := hY
  refine W.widen (k := 19) (n := 207) (by omega) (by omega) ?_
  refine tk_y_put (index := 58) (ci := 2) (j := 17) (k := 0) (fs := [.int 1, .int 0, .int 0, .int 0, .int 0, .ref (tk_bs ω + (pre.length + 1)), .ref (tk_bs ω + (pre.length + 2)), .ref (tk_bs ω + (pre.length + 3)), .ref (tk_bs ω + (pre.length + 4)), .ref (tk_bs ω + (pre.length + 5)), .ref (tk_bs ω + (pre.length + 6)), .ref (tk_bs ω + (pre.length + 7)), .ref (tk_bs ω + (pre.length + 8)), .ref (tk_bs ω + (pre.length + 9)), .ref (tk_bs ω + (pre.length + 10)), .ref (tk_bs ω + (pre.length + 11)), .ref (tk_bs ω + (pre.length + 14)), .null]) (own := RX2) hx hb hts tk_C2 hown hin hK hY hS rfl (by decide) (tk_at 161 rfl rfl) rfl rfl rfl (Nat.le_of_ble_eq_true rfl) (by decide +kernel) (fun H locs hY hS => ?_)
  have hY : tk_Y ω (pre ++ [.inr (2, [.int 1, .int 0, .int 0, .int 0, .int 0, .ref (tk_bs ω + (pre.length + 1)), .ref (tk_bs ω + (pre.length + 2)), .ref (tk_bs ω + (pre.length + 3)), .ref (tk_bs ω + (pre.length + 4)), .ref (tk_bs ω + (pre.length + 5)), .ref (tk_bs ω + (pre.length + 6)), .ref (tk_bs ω + (pre.length + 7)), .ref (tk_bs ω + (pre.length + 8)), .ref (tk_bs ω + (pre.length + 9)), .ref (tk_bs ω + (pre.length + 10)), .ref (tk_bs ω + (pre.length + 11)), .ref (tk_bs ω + (pre.length + 14)), .ref (tk_bs ω + (pre.length + 17))]), .inl (tk_cA ω 0, 24, .inl (fun _ => 0)), .inl (tk_cA ω 0, 24, .inl (fun _ => 0)), .inl (tk_cA ω 0, 24, .inl (fun _ => 0)), .inl (tk_cA ω 0, 8, .inl (fun _ => 0)), .inl (tk_cA ω 0, 8, .inl (fun _ => 0)), .inl (tk_cA ω 0, 8, .inl (fun _ => 0)), .inl (tk_cA ω 0, 8, .inl (fun _ => 0)), .inl (tk_cA ω 0, 8, .inl (fun _ => 0)), .inl (tk_cA ω 0, 8, .inl (fun _ => 0)), .inl (tk_cA ω 0, 32, .inl (fun _ => 0)), .inr (3, [.int 0, .ref (tk_bs ω + (pre.length + 12)), .ref (tk_bs ω + (pre.length + 13))]), .inl (tk_cA ω 0, 5, .inl (fun _ => 0)), .inl (tk_cA ω 0, 5, .inl (fun _ => 0)), .inr (3, [.int 0, .ref (tk_bs ω + (pre.length + 15)), .ref (tk_bs ω + (pre.length + 16))]), .inl (tk_cA ω 0, 10, .inl (fun _ => 0)), .inl (tk_cA ω 0, 10, .inl (fun _ => 0)), .inr (3, [.int 0, .ref (tk_bs ω + (pre.length + 18)), .ref (tk_bs ω + (pre.length + 19))]), .inl (tk_cA ω 0, 8, .inl (fun _ => 0)), .inl (tk_cA ω 0, 8, .inl (fun _ => 0))]) H := hY
  exact W.vret hx hb hr (fun t ht hW => ⟨⟨rfl, by rw [ht]; exact hY⟩, hS.F ht⟩) hS.2.2 (by decide +kernel)
def tko_Worths (hh : Nat) (ω : tk_O) (h : Nat) : List va_E := [.inr (5, [.ref hh, .ref (tk_bs ω + (h + 1)), .ref (tk_bs ω + (h + 2)), .ref (tk_bs ω + (h + 3)), .ref (tk_bs ω + (h + 4)), .ref (tk_bs ω + (h + 5)), .ref (tk_bs ω + (h + 6)), .ref (tk_bs ω + (h + 7)), .int 0]), .inl (tk_cA ω 0, 6, .inl (fun _ => 0)), .inl (tk_cA ω 0, 24, .inl (fun _ => 0)), .inl (tk_cA ω 3, 6, .inr (.inl (fun _ => 0))), .inl (tk_cA ω 3, 6, .inr (.inl (fun _ => 0))), .inl (tk_cA ω 3, 24, .inr (.inl (fun _ => 0))), .inl (tk_cA ω 3, 8, .inr (.inl (fun _ => 0))), .inl (tk_cA ω 3, 8, .inr (.inl (fun _ => 0)))]
set_option maxRecDepth 100000 in
set_option maxHeartbeats 4000000 in
theorem tkct_Worths (hh : Nat) : tk_Ct yX5_init cX5_init 2 { frames := 1, cells := 7, slots := 82, locals := 13 } (.inr (5, [.null, .null, .null, .null, .null, .null, .null, .null, .int 0])) [.ref hh] (tko_Worths hh) 7 82 := by
  intro l ω pre
  refine Met.ofW (cc := cX5_init) (maxL := 2) (ret := none) (by decide +kernel) rfl ?_
  intro p e s m args below meth c s₁ B hml hv
  obtain ⟨rfl, hY, hK⟩ := hv
  have hx := B.exec
  have hb := B.bytes
  have hr := B.returns
  have hts0 := atoms_spec (ws := tk_wy yX5_init cX5_init 2 none) B.pre
  have hts : ∀ w ∈ tk_tbl, w.before _ s = true := fun w h => hts0 w (List.mem_cons_of_mem _ h)
  have hown : s.vm.findClass RX5 = some m.cls := findClass_of_methodNamed B.named
  have hlocks := B.notSynchronized
  have hin : meth.name = "<init>" := (name_of_methodNamed B.named B.method).1
  have hS : va_S (tk_A ω) s.heap s.heap [] := va_S.rf
  have hl := lv_entry ([.ref (tk_bs ω + (pre.length + 0)), .ref hh]) (n := 2) (Nat.le_of_ble_eq_true rfl)
  rw [lg_entry_eq]
  generalize (lg_sl ([.ref (tk_bs ω + (pre.length + 0)), .ref hh]) ++ List.replicate (2 - (lg_sl ([.ref (tk_bs ω + (pre.length + 0)), .ref hh])).length) Slot.unset).toArray = ls at hl ⊢
  have hl : lv_has ls 2 [(0, .ref (tk_bs ω + (pre.length + 0))), (1, .ref hh)] := hl
  refine lv_aload_n (k := 0) (i := 0) hx hb (by decide +kernel) rfl (lv_at hl 0 rfl) ?_
  refine W.objInit (idx := 3) hx hb hown (hts _ (tk_at 211 rfl rfl)) (hts _ (tk_at 85 rfl rfl)) (hts _ (tk_at 86 rfl rfl)) rfl (by rw [hml]; exact hl.1) rfl (by show decode cX5_init 1 = _; decide +kernel) (Nat.le_of_ble_eq_true rfl) (Nat.le_of_ble_eq_true rfl) ?_
  refine W.eq (g2 := F0 m 4 ls []) rfl ?_
  refine lv_aload_n (k := 0) (i := 0) hx hb (by decide +kernel) rfl (lv_at hl 0 rfl) ?_
  refine lv_bipush (n := (6)) (v := (6)) hx hb (by decide +kernel) (by decide) ?_
  refine tk_y_newa (atype := .int) (ty := .int) (t0 := 0) (N' := 6) (a0 := (6, .inl (fun _ => 0))) (n := 1) hx hb rfl hts (tk_at 115 rfl rfl) hK rfl (fun _ h => h) hY hS rfl (fun _ => rfl) (by decide) (by decide) (Nat.le_of_ble_eq_true rfl) (Nat.le_of_ble_eq_true rfl) (Nat.le_of_ble_eq_true rfl) (by decide +kernel) (fun H hY hS => ?_)
  have hY : tk_Y ω (pre ++ [.inr (5, [.null, .null, .null, .null, .null, .null, .null, .null, .int 0]), .inl (tk_cA ω 0, 6, .inl (fun _ => 0))]) H := hY
  refine W.widen (k := 1) (n := 6) (by omega) (by omega) ?_
  refine tk_y_put (index := 9) (ci := 5) (j := 1) (k := 0) (fs := [.null, .null, .null, .null, .null, .null, .null, .null, .int 0]) (own := RX5) hx hb hts tk_C5 hown hin hK hY hS rfl (by decide) (tk_at 213 rfl rfl) rfl rfl rfl (Nat.le_of_ble_eq_true rfl) (by decide +kernel) (fun H locs hY hS => ?_)
  have hY : tk_Y ω (pre ++ [.inr (5, [.null, .ref (tk_bs ω + (pre.length + 1)), .null, .null, .null, .null, .null, .null, .int 0]), .inl (tk_cA ω 0, 6, .inl (fun _ => 0))]) H := hY
  refine lv_aload_n (k := 0) (i := 0) hx hb (by decide +kernel) rfl (lv_at hl 0 rfl) ?_
  refine lv_bipush (n := (24)) (v := (24)) hx hb (by decide +kernel) (by decide) ?_
  refine tk_y_newa (atype := .int) (ty := .int) (t0 := 0) (N' := 24) (a0 := (24, .inl (fun _ => 0))) (n := 2) hx hb rfl hts (tk_at 115 rfl rfl) hK rfl (fun _ h => h) hY hS rfl (fun _ => rfl) (by decide) (by decide) (Nat.le_of_ble_eq_true rfl) (Nat.le_of_ble_eq_true rfl) (Nat.le_of_ble_eq_true rfl) (by decide +kernel) (fun H hY hS => ?_)
  have hY : tk_Y ω (pre ++ [.inr (5, [.null, .ref (tk_bs ω + (pre.length + 1)), .null, .null, .null, .null, .null, .null, .int 0]), .inl (tk_cA ω 0, 6, .inl (fun _ => 0)), .inl (tk_cA ω 0, 24, .inl (fun _ => 0))]) H := hY
  refine W.widen (k := 2) (n := 30) (by omega) (by omega) ?_
  refine tk_y_put (index := 15) (ci := 5) (j := 2) (k := 0) (fs := [.null, .ref (tk_bs ω + (pre.length + 1)), .null, .null, .null, .null, .null, .null, .int 0]) (own := RX5) hx hb hts tk_C5 hown hin hK hY hS rfl (by decide) (tk_at 215 rfl rfl) rfl rfl rfl (Nat.le_of_ble_eq_true rfl) (by decide +kernel) (fun H locs hY hS => ?_)
  have hY : tk_Y ω (pre ++ [.inr (5, [.null, .ref (tk_bs ω + (pre.length + 1)), .ref (tk_bs ω + (pre.length + 2)), .null, .null, .null, .null, .null, .int 0]), .inl (tk_cA ω 0, 6, .inl (fun _ => 0)), .inl (tk_cA ω 0, 24, .inl (fun _ => 0))]) H := hY
  refine lv_aload_n (k := 0) (i := 0) hx hb (by decide +kernel) rfl (lv_at hl 0 rfl) ?_
  refine lv_bipush (n := (6)) (v := (6)) hx hb (by decide +kernel) (by decide) ?_
  refine tk_y_newa (atype := .long) (ty := .long) (t0 := 3) (N' := 6) (a0 := (6, .inr (.inl (fun _ => 0)))) (n := 3) hx hb rfl hts (tk_at 247 rfl rfl) hK rfl (fun _ h => h) hY hS rfl (fun _ => rfl) (by decide) (by decide) (Nat.le_of_ble_eq_true rfl) (Nat.le_of_ble_eq_true rfl) (Nat.le_of_ble_eq_true rfl) (by decide +kernel) (fun H hY hS => ?_)
  have hY : tk_Y ω (pre ++ [.inr (5, [.null, .ref (tk_bs ω + (pre.length + 1)), .ref (tk_bs ω + (pre.length + 2)), .null, .null, .null, .null, .null, .int 0]), .inl (tk_cA ω 0, 6, .inl (fun _ => 0)), .inl (tk_cA ω 0, 24, .inl (fun _ => 0)), .inl (tk_cA ω 3, 6, .inr (.inl (fun _ => 0)))]) H := hY
  refine W.widen (k := 3) (n := 36) (by omega) (by omega) ?_
  refine tk_y_put (index := 18) (ci := 5) (j := 3) (k := 0) (fs := [.null, .ref (tk_bs ω + (pre.length + 1)), .ref (tk_bs ω + (pre.length + 2)), .null, .null, .null, .null, .null, .int 0]) (own := RX5) hx hb hts tk_C5 hown hin hK hY hS rfl (by decide) (tk_at 216 rfl rfl) rfl rfl rfl (Nat.le_of_ble_eq_true rfl) (by decide +kernel) (fun H locs hY hS => ?_)
  have hY : tk_Y ω (pre ++ [.inr (5, [.null, .ref (tk_bs ω + (pre.length + 1)), .ref (tk_bs ω + (pre.length + 2)), .ref (tk_bs ω + (pre.length + 3)), .null, .null, .null, .null, .int 0]), .inl (tk_cA ω 0, 6, .inl (fun _ => 0)), .inl (tk_cA ω 0, 24, .inl (fun _ => 0)), .inl (tk_cA ω 3, 6, .inr (.inl (fun _ => 0)))]) H := hY
  refine lv_aload_n (k := 0) (i := 0) hx hb (by decide +kernel) rfl (lv_at hl 0 rfl) ?_
  refine lv_bipush (n := (6)) (v := (6)) hx hb (by decide +kernel) (by decide) ?_
  refine tk_y_newa (atype := .long) (ty := .long) (t0 := 3) (N' := 6) (a0 := (6, .inr (.inl (fun _ => 0)))) (n := 4) hx hb rfl hts (tk_at 247 rfl rfl) hK rfl (fun _ h => h) hY hS rfl (fun _ => rfl) (by decide) (by decide) (Nat.le_of_ble_eq_true rfl) (Nat.le_of_ble_eq_true rfl) (Nat.le_of_ble_eq_true rfl) (by decide +kernel) (fun H hY hS => ?_)
  have hY : tk_Y ω (pre ++ [.inr (5, [.null, .ref (tk_bs ω + (pre.length + 1)), .ref (tk_bs ω + (pre.length + 2)), .ref (tk_bs ω + (pre.length + 3)), .null, .null, .null, .null, .int 0]), .inl (tk_cA ω 0, 6, .inl (fun _ => 0)), .inl (tk_cA ω 0, 24, .inl (fun _ => 0)), .inl (tk_cA ω 3, 6, .inr (.inl (fun _ => 0))), .inl (tk_cA ω 3, 6, .inr (.inl (fun _ => 0)))]) H := hY
  refine W.widen (k := 4) (n := 42) (by omega) (by omega) ?_
  refine tk_y_put (index := 22) (ci := 5) (j := 4) (k := 0) (fs := [.null, .ref (tk_bs ω + (pre.length + 1)), .ref (tk_bs ω + (pre.length + 2)), .ref (tk_bs ω + (pre.length + 3)), .null, .null, .null, .null, .int 0]) (own := RX5) hx hb hts tk_C5 hown hin hK hY hS rfl (by decide) (tk_at 218 rfl rfl) rfl rfl rfl (Nat.le_of_ble_eq_true rfl) (by decide +kernel) (fun H locs hY hS => ?_)
  have hY : tk_Y ω (pre ++ [.inr (5, [.null, .ref (tk_bs ω + (pre.length + 1)), .ref (tk_bs ω + (pre.length + 2)), .ref (tk_bs ω + (pre.length + 3)), .ref (tk_bs ω + (pre.length + 4)), .null, .null, .null, .int 0]), .inl (tk_cA ω 0, 6, .inl (fun _ => 0)), .inl (tk_cA ω 0, 24, .inl (fun _ => 0)), .inl (tk_cA ω 3, 6, .inr (.inl (fun _ => 0))), .inl (tk_cA ω 3, 6, .inr (.inl (fun _ => 0)))]) H := hY
  refine lv_aload_n (k := 0) (i := 0) hx hb (by decide +kernel) rfl (lv_at hl 0 rfl) ?_
  refine lv_bipush (n := (24)) (v := (24)) hx hb (by decide +kernel) (by decide) ?_
  refine tk_y_newa (atype := .long) (ty := .long) (t0 := 3) (N' := 24) (a0 := (24, .inr (.inl (fun _ => 0)))) (n := 5) hx hb rfl hts (tk_at 247 rfl rfl) hK rfl (fun _ h => h) hY hS rfl (fun _ => rfl) (by decide) (by decide) (Nat.le_of_ble_eq_true rfl) (Nat.le_of_ble_eq_true rfl) (Nat.le_of_ble_eq_true rfl) (by decide +kernel) (fun H hY hS => ?_)
  have hY : tk_Y ω (pre ++ [.inr (5, [.null, .ref (tk_bs ω + (pre.length + 1)), .ref (tk_bs ω + (pre.length + 2)), .ref (tk_bs ω + (pre.length + 3)), .ref (tk_bs ω + (pre.length + 4)), .null, .null, .null, .int 0]), .inl (tk_cA ω 0, 6, .inl (fun _ => 0)), .inl (tk_cA ω 0, 24, .inl (fun _ => 0)), .inl (tk_cA ω 3, 6, .inr (.inl (fun _ => 0))), .inl (tk_cA ω 3, 6, .inr (.inl (fun _ => 0))), .inl (tk_cA ω 3, 24, .inr (.inl (fun _ => 0)))]) H := hY
  refine W.widen (k := 5) (n := 66) (by omega) (by omega) ?_
  refine tk_y_put (index := 25) (ci := 5) (j := 5) (k := 0) (fs := [.null, .ref (tk_bs ω + (pre.length + 1)), .ref (tk_bs ω + (pre.length + 2)), .ref (tk_bs ω + (pre.length + 3)), .ref (tk_bs ω + (pre.length + 4)), .null, .null, .null, .int 0]) (own := RX5) hx hb hts tk_C5 hown hin hK hY hS rfl (by decide) (tk_at 220 rfl rfl) rfl rfl rfl (Nat.le_of_ble_eq_true rfl) (by decide +kernel) (fun H locs hY hS => ?_)
  have hY : tk_Y ω (pre ++ [.inr (5, [.null, .ref (tk_bs ω + (pre.length + 1)), .ref (tk_bs ω + (pre.length + 2)), .ref (tk_bs ω + (pre.length + 3)), .ref (tk_bs ω + (pre.length + 4)), .ref (tk_bs ω + (pre.length + 5)), .null, .null, .int 0]), .inl (tk_cA ω 0, 6, .inl (fun _ => 0)), .inl (tk_cA ω 0, 24, .inl (fun _ => 0)), .inl (tk_cA ω 3, 6, .inr (.inl (fun _ => 0))), .inl (tk_cA ω 3, 6, .inr (.inl (fun _ => 0))), .inl (tk_cA ω 3, 24, .inr (.inl (fun _ => 0)))]) H := hY
  refine lv_aload_n (k := 0) (i := 0) hx hb (by decide +kernel) rfl (lv_at hl 0 rfl) ?_
  refine lv_bipush (n := (8)) (v := (8)) hx hb (by decide +kernel) (by decide) ?_
  refine tk_y_newa (atype := .long) (ty := .long) (t0 := 3) (N' := 8) (a0 := (8, .inr (.inl (fun _ => 0)))) (n := 6) hx hb rfl hts (tk_at 247 rfl rfl) hK rfl (fun _ h => h) hY hS rfl (fun _ => rfl) (by decide) (by decide) (Nat.le_of_ble_eq_true rfl) (Nat.le_of_ble_eq_true rfl) (Nat.le_of_ble_eq_true rfl) (by decide +kernel) (fun H hY hS => ?_)
  have hY : tk_Y ω (pre ++ [.inr (5, [.null, .ref (tk_bs ω + (pre.length + 1)), .ref (tk_bs ω + (pre.length + 2)), .ref (tk_bs ω + (pre.length + 3)), .ref (tk_bs ω + (pre.length + 4)), .ref (tk_bs ω + (pre.length + 5)), .null, .null, .int 0]), .inl (tk_cA ω 0, 6, .inl (fun _ => 0)), .inl (tk_cA ω 0, 24, .inl (fun _ => 0)), .inl (tk_cA ω 3, 6, .inr (.inl (fun _ => 0))), .inl (tk_cA ω 3, 6, .inr (.inl (fun _ => 0))), .inl (tk_cA ω 3, 24, .inr (.inl (fun _ => 0))), .inl (tk_cA ω 3, 8, .inr (.inl (fun _ => 0)))]) H := hY
  refine W.widen (k := 6) (n := 74) (by omega) (by omega) ?_
  refine tk_y_put (index := 28) (ci := 5) (j := 6) (k := 0) (fs := [.null, .ref (tk_bs ω + (pre.length + 1)), .ref (tk_bs ω + (pre.length + 2)), .ref (tk_bs ω + (pre.length + 3)), .ref (tk_bs ω + (pre.length + 4)), .ref (tk_bs ω + (pre.length + 5)), .null, .null, .int 0]) (own := RX5) hx hb hts tk_C5 hown hin hK hY hS rfl (by decide) (tk_at 222 rfl rfl) rfl rfl rfl (Nat.le_of_ble_eq_true rfl) (by decide +kernel) (fun H locs hY hS => ?_)
  have hY : tk_Y ω (pre ++ [.inr (5, [.null, .ref (tk_bs ω + (pre.length + 1)), .ref (tk_bs ω + (pre.length + 2)), .ref (tk_bs ω + (pre.length + 3)), .ref (tk_bs ω + (pre.length + 4)), .ref (tk_bs ω + (pre.length + 5)), .ref (tk_bs ω + (pre.length + 6)), .null, .int 0]), .inl (tk_cA ω 0, 6, .inl (fun _ => 0)), .inl (tk_cA ω 0, 24, .inl (fun _ => 0)), .inl (tk_cA ω 3, 6, .inr (.inl (fun _ => 0))), .inl (tk_cA ω 3, 6, .inr (.inl (fun _ => 0))), .inl (tk_cA ω 3, 24, .inr (.inl (fun _ => 0))), .inl (tk_cA ω 3, 8, .inr (.inl (fun _ => 0)))]) H := hY
  refine lv_aload_n (k := 0) (i := 0) hx hb (by decide +kernel) rfl (lv_at hl 0 rfl) ?_
  refine lv_bipush (n := (8)) (v := (8)) hx hb (by decide +kernel) (by decide) ?_
  refine tk_y_newa (atype := .long) (ty := .long) (t0 := 3) (N' := 8) (a0 := (8, .inr (.inl (fun _ => 0)))) (n := 7) hx hb rfl hts (tk_at 247 rfl rfl) hK rfl (fun _ h => h) hY hS rfl (fun _ => rfl) (by decide) (by decide) (Nat.le_of_ble_eq_true rfl) (Nat.le_of_ble_eq_true rfl) (Nat.le_of_ble_eq_true rfl) (by decide +kernel) (fun H hY hS => ?_)
  have hY : tk_Y ω (pre ++ [.inr (5, [.null, .ref (tk_bs ω + (pre.length + 1)), .ref (tk_bs ω + (pre.length + 2)), .ref (tk_bs ω + (pre.length + 3)), .ref (tk_bs ω + (pre.length + 4)), .ref (tk_bs ω + (pre.length + 5)), .ref (tk_bs ω + (pre.length + 6)), .null, .int 0]), .inl (tk_cA ω 0, 6, .inl (fun _ => 0)), .inl (tk_cA ω 0, 24, .inl (fun _ => 0)), .inl (tk_cA ω 3, 6, .inr (.inl (fun _ => 0))), .inl (tk_cA ω 3, 6, .inr (.inl (fun _ => 0))), .inl (tk_cA ω 3, 24, .inr (.inl (fun _ => 0))), .inl (tk_cA ω 3, 8, .inr (.inl (fun _ => 0))), .inl (tk_cA ω 3, 8, .inr (.inl (fun _ => 0)))]) H := hY
  refine W.widen (k := 7) (n := 82) (by omega) (by omega) ?_
  refine tk_y_put (index := 31) (ci := 5) (j := 7) (k := 0) (fs := [.null, .ref (tk_bs ω + (pre.length + 1)), .ref (tk_bs ω + (pre.length + 2)), .ref (tk_bs ω + (pre.length + 3)), .ref (tk_bs ω + (pre.length + 4)), .ref (tk_bs ω + (pre.length + 5)), .ref (tk_bs ω + (pre.length + 6)), .null, .int 0]) (own := RX5) hx hb hts tk_C5 hown hin hK hY hS rfl (by decide) (tk_at 223 rfl rfl) rfl rfl rfl (Nat.le_of_ble_eq_true rfl) (by decide +kernel) (fun H locs hY hS => ?_)
  have hY : tk_Y ω (pre ++ [.inr (5, [.null, .ref (tk_bs ω + (pre.length + 1)), .ref (tk_bs ω + (pre.length + 2)), .ref (tk_bs ω + (pre.length + 3)), .ref (tk_bs ω + (pre.length + 4)), .ref (tk_bs ω + (pre.length + 5)), .ref (tk_bs ω + (pre.length + 6)), .ref (tk_bs ω + (pre.length + 7)), .int 0]), .inl (tk_cA ω 0, 6, .inl (fun _ => 0)), .inl (tk_cA ω 0, 24, .inl (fun _ => 0)), .inl (tk_cA ω 3, 6, .inr (.inl (fun _ => 0))), .inl (tk_cA ω 3, 6, .inr (.inl (fun _ => 0))), .inl (tk_cA ω 3, 24, .inr (.inl (fun _ => 0))), .inl (tk_cA ω 3, 8, .inr (.inl (fun _ => 0))), .inl (tk_cA ω 3, 8, .inr (.inl (fun _ => 0)))]) H := hY
  refine lv_aload_n (k := 0) (i := 0) hx hb (by decide +kernel) rfl (lv_at hl 0 rfl) ?_
  refine lv_aload_n (k := 1) (i := 1) hx hb (by decide +kernel) rfl (lv_at hl 1 rfl) ?_
  refine tk_y_put (index := 34) (ci := 5) (j := 0) (k := 0) (fs := [.null, .ref (tk_bs ω + (pre.length + 1)), .ref (tk_bs ω + (pre.length + 2)), .ref (tk_bs ω + (pre.length + 3)), .ref (tk_bs ω + (pre.length + 4)), .ref (tk_bs ω + (pre.length + 5)), .ref (tk_bs ω + (pre.length + 6)), .ref (tk_bs ω + (pre.length + 7)), .int 0]) (own := RX5) hx hb hts tk_C5 hown hin hK hY hS rfl (by decide) (tk_at 212 rfl rfl) rfl rfl rfl (Nat.le_of_ble_eq_true rfl) (by decide +kernel) (fun H locs hY hS => ?_)
  have hY : tk_Y ω (pre ++ [.inr (5, [.ref hh, .ref (tk_bs ω + (pre.length + 1)), .ref (tk_bs ω + (pre.length + 2)), .ref (tk_bs ω + (pre.length + 3)), .ref (tk_bs ω + (pre.length + 4)), .ref (tk_bs ω + (pre.length + 5)), .ref (tk_bs ω + (pre.length + 6)), .ref (tk_bs ω + (pre.length + 7)), .int 0]), .inl (tk_cA ω 0, 6, .inl (fun _ => 0)), .inl (tk_cA ω 0, 24, .inl (fun _ => 0)), .inl (tk_cA ω 3, 6, .inr (.inl (fun _ => 0))), .inl (tk_cA ω 3, 6, .inr (.inl (fun _ => 0))), .inl (tk_cA ω 3, 24, .inr (.inl (fun _ => 0))), .inl (tk_cA ω 3, 8, .inr (.inl (fun _ => 0))), .inl (tk_cA ω 3, 8, .inr (.inl (fun _ => 0)))]) H := hY
  exact W.vret hx hb hr (fun t ht hW => ⟨⟨rfl, by rw [ht]; exact hY⟩, hS.F ht⟩) hS.2.2 (by decide +kernel)
def tko_Dealer (hh : Nat) (ω : tk_O) (h : Nat) : List va_E := [.inr (0, [.ref hh, .ref (tk_bs ω + (h + 2)), .ref (tk_bs ω + (h + 1)), .int 0, .long 0]), .inl (tk_cA ω 3, 8, .inr (.inl (fun _ => 0))), .inr (5, [.ref hh, .ref (tk_bs ω + (h + 3)), .ref (tk_bs ω + (h + 4)), .ref (tk_bs ω + (h + 5)), .ref (tk_bs ω + (h + 6)), .ref (tk_bs ω + (h + 7)), .ref (tk_bs ω + (h + 8)), .ref (tk_bs ω + (h + 9)), .int 0]), .inl (tk_cA ω 0, 6, .inl (fun _ => 0)), .inl (tk_cA ω 0, 24, .inl (fun _ => 0)), .inl (tk_cA ω 3, 6, .inr (.inl (fun _ => 0))), .inl (tk_cA ω 3, 6, .inr (.inl (fun _ => 0))), .inl (tk_cA ω 3, 24, .inr (.inl (fun _ => 0))), .inl (tk_cA ω 3, 8, .inr (.inl (fun _ => 0))), .inl (tk_cA ω 3, 8, .inr (.inl (fun _ => 0)))]
set_option maxRecDepth 100000 in
set_option maxHeartbeats 4000000 in
theorem tkct_Dealer (hh : Nat) : tk_Ct yX0_init cX0_init 2 { frames := 2, cells := 9, slots := 99, locals := 34 } (.inr (0, [.null, .null, .null, .int 0, .long 0])) [.ref hh] (tko_Dealer hh) 9 99 := by
  intro l ω pre
  refine Met.ofW (cc := cX0_init) (maxL := 2) (ret := none) (by decide +kernel) rfl ?_
  intro p e s m args below meth c s₁ B hml hv
  obtain ⟨rfl, hY, hK⟩ := hv
  have hx := B.exec
  have hb := B.bytes
  have hr := B.returns
  have hts0 := atoms_spec (ws := tk_wy yX0_init cX0_init 2 none) B.pre
  have hts : ∀ w ∈ tk_tbl, w.before _ s = true := fun w h => hts0 w (List.mem_cons_of_mem _ h)
  have hown : s.vm.findClass RX0 = some m.cls := findClass_of_methodNamed B.named
  have hlocks := B.notSynchronized
  have hin : meth.name = "<init>" := (name_of_methodNamed B.named B.method).1
  have hS : va_S (tk_A ω) s.heap s.heap [] := va_S.rf
  have hl := lv_entry ([.ref (tk_bs ω + (pre.length + 0)), .ref hh]) (n := 2) (Nat.le_of_ble_eq_true rfl)
  rw [lg_entry_eq]
  generalize (lg_sl ([.ref (tk_bs ω + (pre.length + 0)), .ref hh]) ++ List.replicate (2 - (lg_sl ([.ref (tk_bs ω + (pre.length + 0)), .ref hh])).length) Slot.unset).toArray = ls at hl ⊢
  have hl : lv_has ls 2 [(0, .ref (tk_bs ω + (pre.length + 0))), (1, .ref hh)] := hl
  refine lv_aload_n (k := 0) (i := 0) hx hb (by decide +kernel) rfl (lv_at hl 0 rfl) ?_
  refine W.objInit (idx := 3) hx hb hown (hts _ (tk_at 205 rfl rfl)) (hts _ (tk_at 85 rfl rfl)) (hts _ (tk_at 86 rfl rfl)) rfl (by rw [hml]; exact hl.1) rfl (by show decode cX0_init 1 = _; decide +kernel) (Nat.le_of_ble_eq_true rfl) (Nat.le_of_ble_eq_true rfl) ?_
  refine W.eq (g2 := F0 m 4 ls []) rfl ?_
  refine lv_aload_n (k := 0) (i := 0) hx hb (by decide +kernel) rfl (lv_at hl 0 rfl) ?_
  refine lv_bipush (n := (8)) (v := (8)) hx hb (by decide +kernel) (by decide) ?_
  refine tk_y_newa (atype := .long) (ty := .long) (t0 := 3) (N' := 8) (a0 := (8, .inr (.inl (fun _ => 0)))) (n := 1) hx hb rfl hts (tk_at 247 rfl rfl) hK rfl (fun _ h => h) hY hS rfl (fun _ => rfl) (by decide) (by decide) (Nat.le_of_ble_eq_true rfl) (Nat.le_of_ble_eq_true rfl) (Nat.le_of_ble_eq_true rfl) (by decide +kernel) (fun H hY hS => ?_)
  have hY : tk_Y ω (pre ++ [.inr (0, [.null, .null, .null, .int 0, .long 0]), .inl (tk_cA ω 3, 8, .inr (.inl (fun _ => 0)))]) H := hY
  refine W.widen (k := 1) (n := 8) (by omega) (by omega) ?_
  refine tk_y_put (index := 9) (ci := 0) (j := 2) (k := 0) (fs := [.null, .null, .null, .int 0, .long 0]) (own := RX0) hx hb hts tk_C0 hown hin hK hY hS rfl (by decide) (tk_at 251 rfl rfl) rfl rfl rfl (Nat.le_of_ble_eq_true rfl) (by decide +kernel) (fun H locs hY hS => ?_)
  have hY : tk_Y ω (pre ++ [.inr (0, [.null, .null, .ref (tk_bs ω + (pre.length + 1)), .int 0, .long 0]), .inl (tk_cA ω 3, 8, .inr (.inl (fun _ => 0)))]) H := hY
  refine lv_aload_n (k := 0) (i := 0) hx hb (by decide +kernel) rfl (lv_at hl 0 rfl) ?_
  refine lv_aload_n (k := 1) (i := 1) hx hb (by decide +kernel) rfl (lv_at hl 1 rfl) ?_
  refine tk_y_put (index := 15) (ci := 0) (j := 0) (k := 0) (fs := [.null, .null, .ref (tk_bs ω + (pre.length + 1)), .int 0, .long 0]) (own := RX0) hx hb hts tk_C0 hown hin hK hY hS rfl (by decide) (tk_at 248 rfl rfl) rfl rfl rfl (Nat.le_of_ble_eq_true rfl) (by decide +kernel) (fun H locs hY hS => ?_)
  have hY : tk_Y ω (pre ++ [.inr (0, [.ref hh, .null, .ref (tk_bs ω + (pre.length + 1)), .int 0, .long 0]), .inl (tk_cA ω 3, 8, .inr (.inl (fun _ => 0)))]) H := hY
  refine lv_aload_n (k := 0) (i := 0) hx hb (by decide +kernel) rfl (lv_at hl 0 rfl) ?_
  refine tk_y_new (index := 19) (ci := 5) (n := 2) (fs := [.null, .null, .null, .null, .null, .null, .null, .null, .int 0]) (own := RX0) hx hb hts tk_C5 hown (tk_at 206 rfl rfl) (tk_at 207 rfl rfl) (tk_at 72 rfl rfl) hK hY hS rfl (by decide +kernel) (Nat.le_of_ble_eq_true rfl) (Nat.le_of_ble_eq_true rfl) (by decide +kernel) (fun H hY hS => ?_)
  have hY : tk_Y ω (pre ++ [.inr (0, [.ref hh, .null, .ref (tk_bs ω + (pre.length + 1)), .int 0, .long 0]), .inl (tk_cA ω 3, 8, .inr (.inl (fun _ => 0))), .inr (5, [.null, .null, .null, .null, .null, .null, .null, .null, .int 0])]) H := hY
  refine W.widen (k := 2) (n := 17) (by omega) (by omega) ?_
  refine lv_dup hx hb (by decide +kernel) rfl ?_
  refine lv_aload_n (k := 1) (i := 1) hx hb (by decide +kernel) rfl (lv_at hl 1 rfl) ?_
  refine tk_y_init (index := 21) (n := 2) (np := 1) (li := [.inr (0, [.ref hh, .null, .ref (tk_bs ω + (pre.length + 1)), .int 0, .long 0]), .inl (tk_cA ω 3, 8, .inr (.inl (fun _ => 0)))]) (rest := [.ref (tk_bs ω + (pre.length + 2)), .ref (tk_bs ω + (pre.length + 0))]) (nL := 2) (own := RX0) hx hb hml hl.1 hts hown (tkct_Worths hh) rfl (tk_at 209 rfl rfl) (tk_at 210 rfl rfl) (tk_at 72 rfl rfl) (.inl (tk_at 208 rfl rfl)) ⟨by decide +kernel, by decide +kernel, by decide +kernel⟩ rfl ⟨(Nat.le_of_ble_eq_true rfl), (Nat.le_of_ble_eq_true rfl)⟩ rfl rfl hK hY hS rfl rfl (by decide) ⟨(Nat.le_of_ble_eq_true rfl), (Nat.le_of_ble_eq_true rfl)⟩ (by decide +kernel) (fun H locs hY hS => ?_)
  have hY : tk_Y ω (pre ++ [.inr (0, [.ref hh, .null, .ref (tk_bs ω + (pre.length + 1)), .int 0, .long 0]), .inl (tk_cA ω 3, 8, .inr (.inl (fun _ => 0))), .inr (5, [.ref hh, .ref (tk_bs ω + (pre.length + 3)), .ref (tk_bs ω + (pre.length + 4)), .ref (tk_bs ω + (pre.length + 5)), .ref (tk_bs ω + (pre.length + 6)), .ref (tk_bs ω + (pre.length + 7)), .ref (tk_bs ω + (pre.length + 8)), .ref (tk_bs ω + (pre.length + 9)), .int 0]), .inl (tk_cA ω 0, 6, .inl (fun _ => 0)), .inl (tk_cA ω 0, 24, .inl (fun _ => 0)), .inl (tk_cA ω 3, 6, .inr (.inl (fun _ => 0))), .inl (tk_cA ω 3, 6, .inr (.inl (fun _ => 0))), .inl (tk_cA ω 3, 24, .inr (.inl (fun _ => 0))), .inl (tk_cA ω 3, 8, .inr (.inl (fun _ => 0))), .inl (tk_cA ω 3, 8, .inr (.inl (fun _ => 0)))]) H := hY
  refine W.widen (k := 9) (n := 99) (by omega) (by omega) ?_
  refine tk_y_put (index := 24) (ci := 0) (j := 1) (k := 0) (fs := [.ref hh, .null, .ref (tk_bs ω + (pre.length + 1)), .int 0, .long 0]) (own := RX0) hx hb hts tk_C0 hown hin hK hY hS rfl (by decide) (tk_at 249 rfl rfl) rfl rfl rfl (Nat.le_of_ble_eq_true rfl) (by decide +kernel) (fun H locs hY hS => ?_)
  have hY : tk_Y ω (pre ++ [.inr (0, [.ref hh, .ref (tk_bs ω + (pre.length + 2)), .ref (tk_bs ω + (pre.length + 1)), .int 0, .long 0]), .inl (tk_cA ω 3, 8, .inr (.inl (fun _ => 0))), .inr (5, [.ref hh, .ref (tk_bs ω + (pre.length + 3)), .ref (tk_bs ω + (pre.length + 4)), .ref (tk_bs ω + (pre.length + 5)), .ref (tk_bs ω + (pre.length + 6)), .ref (tk_bs ω + (pre.length + 7)), .ref (tk_bs ω + (pre.length + 8)), .ref (tk_bs ω + (pre.length + 9)), .int 0]), .inl (tk_cA ω 0, 6, .inl (fun _ => 0)), .inl (tk_cA ω 0, 24, .inl (fun _ => 0)), .inl (tk_cA ω 3, 6, .inr (.inl (fun _ => 0))), .inl (tk_cA ω 3, 6, .inr (.inl (fun _ => 0))), .inl (tk_cA ω 3, 24, .inr (.inl (fun _ => 0))), .inl (tk_cA ω 3, 8, .inr (.inl (fun _ => 0))), .inl (tk_cA ω 3, 8, .inr (.inl (fun _ => 0)))]) H := hY
  exact W.vret hx hb hr (fun t ht hW => ⟨⟨rfl, by rw [ht]; exact hY⟩, hS.F ht⟩) hS.2.2 (by decide +kernel)
