/-! ===== constructors: the world as it comes, cell behind cell ===== -/
def tk_wx (ω : tk_O) (cs : List va_E) : va_W := cs.mapIdx (fun o c => (tk_bs ω + o, c))
def tk_Y (ω : tk_O) (cs : List va_E) (H : Heap) : Prop := va_P (tk_D ω) vwCl (tk_wx ω cs) H ∧ H.size = tk_bs ω + cs.length
theorem tk_wx_at {ω : tk_O} {cs : List va_E} {o : Nat} {c : va_E} (h : cs[o]? = some c) : (tk_wx ω cs)[o]? = some (tk_bs ω + o, c) := by
  unfold tk_wx
  rw [List.getElem?_mapIdx, h]
  rfl
theorem tk_wx_of {ω : tk_O} {cs : List va_E} {o : Nat} {q : Nat × va_E} (h : (tk_wx ω cs)[o]? = some q) : ∃ c, cs[o]? = some c ∧ q = (tk_bs ω + o, c) := by
  unfold tk_wx at h
  rw [List.getElem?_mapIdx] at h
  cases hk : cs[o]? with
  | none => rw [hk] at h; cases h
  | some k => rw [hk] at h; exact ⟨k, rfl, (Option.some.inj h).symm⟩
theorem tk_wxD {ω : tk_O} {cs : List va_E} : va_D (tk_A ω) (tk_wx ω cs) := by
  refine ⟨fun i j p q hi hj hpq => ?_, fun k q hk => ?_⟩
  · obtain ⟨_, -, rfl⟩ := tk_wx_of hi
    obtain ⟨_, -, rfl⟩ := tk_wx_of hj
    have h2 : tk_bs ω + i = tk_bs ω + j := hpq
    omega
  · obtain ⟨_, -, rfl⟩ := tk_wx_of hk
    exact Nat.le_add_right _ _
theorem tk_wx_set {ω : tk_O} {cs : List va_E} {o : Nat} {e : va_E} : (tk_wx ω cs).set o (tk_bs ω + o, e) = tk_wx ω (cs.set o e) := by
  apply List.ext_getElem?
  intro i
  unfold tk_wx
  rw [List.getElem?_mapIdx]
  by_cases hi : o = i
  · subst hi
    by_cases hl : o < cs.length
    · rw [List.getElem?_set_self (by rw [List.length_mapIdx]; exact hl), List.getElem?_set_self hl]
      rfl
    · rw [List.getElem?_eq_none (by simp; omega), List.getElem?_eq_none (by simp; omega)]
      rfl
  · rw [List.getElem?_set_ne hi, List.getElem?_set_ne hi, List.getElem?_mapIdx]
theorem tk_wx_app {ω : tk_O} {cs : List va_E} {e : va_E} : tk_wx ω (cs ++ [e]) = tk_wx ω cs ++ [(tk_bs ω + cs.length, e)] := by
  unfold tk_wx
  rw [List.mapIdx_append]
  simp
theorem tk_Y_push {ω : tk_O} {cs : List va_E} {e : va_E} {H H1 : Heap} (hY : tk_Y ω cs H) (o1 : ∀ q, q < H.size → H1[q]? = H[q]?) (z1 : H1.size = H.size + 1) (he : va_at (tk_D ω) vwCl (H.size, e) H1) : tk_Y ω (cs ++ [e]) H1 := by
  refine ⟨?_, by rw [z1, hY.2, List.length_append]; rfl⟩
  rw [tk_wx_app]
  refine va_P.app (hY.1.kept (fun k x hx => o1 x.1 (hY.1 k x hx).lt)) (fun k x hx => ?_)
  have hz : k < 1 := (List.getElem?_eq_some_iff.mp hx).1
  rw [show k = 0 by omega] at hx
  cases hx
  rw [← hY.2]
  exact he
/-- what a constructor needs of a state -/
def tk_Sc (ω : tk_O) (U : State) : Prop := va_K (tk_D ω) vwCl (tk_ty ω) U ∧ va_AO "TicketHall$Tape" U ∧ ∀ w ∈ tk_nw, va_Nw w U
theorem tk_Sc.to {ω : tk_O} {u U : State} (h : tk_Sc ω u) (hvm : u.vm.Alike U.vm) (hnw : ∀ w ∈ tk_nw, va_Nw w u → va_Nw w U) : tk_Sc ω U := ⟨h.1.moved hvm, h.2.1.moved hvm, fun w hw => hnw w hw (h.2.2 w hw)⟩
section TKY
variable {p : Program} {l : Launch} {e : Env} {R : Room} {s : State} {m : MethodId} {args : Array Value} {below : List Frame} {meth : Method} {c : Code} {H : Heap} {locs : List Loc} {cells slots : Nat} {Q : State → Prop}
variable {cc : ByteArray} {pc : Nat} {ls : Array Slot} {rest : List Value} {ω : tk_O} {pre li : List va_E} {H0 : Heap} {own : String}
theorem tk_app_at {pre li : List va_E} {k : Nat} : (pre ++ li)[pre.length + k]? = li[k]? := by
  rw [List.getElem?_append_right (by omega)]
  congr 1
  omega
theorem tk_app_set {pre li : List va_E} {k : Nat} {x : va_E} : (pre ++ li).set (pre.length + k) x = pre ++ li.set k x := by
  rw [List.set_append_right _ _ (by omega)]
  congr 2
  omega
theorem tk_y_new (hx : p.tables.exec = Jvm.exec) (hb : c.code = cc) {C : String} {T : u_T} {N ci index n : Nat} {ty : Nat → FieldType} {fs : List Value} (hts : ∀ w ∈ tk_tbl, w.before args s = true) (hC : tk_Cl ci C T N ty) (hown : s.vm.findClass own = some m.cls) (hcl : Cond.classLink own index C ∈ tk_tbl) (hinst : Cond.instantiable C N ∈ tk_tbl) (hini : Cond.initialized C ∈ tk_tbl) (hK : tk_Sc ω s) (hY : tk_Y ω (pre ++ li) H) (hS : va_S (tk_A ω) H0 H locs) (hn : li.length = n) (hfs : ∀ j, j < N → defaultValue (ty j) = vp_V fs j) (hcells : cells + 1 ≤ R.cells) (hslots : slots + N ≤ R.slots) (hd : decode cc pc = .ok (.new index, 3))
    (kk : ∀ (H1 : Heap), tk_Y ω (pre ++ (li ++ [.inr (ci, fs)])) H1 → va_S (tk_A ω) H0 H1 locs → W p l e R s m args below meth c H1 locs (cells + 1) (slots + N) Q (F0 m (pc + 3) ls (.ref (tk_bs ω + (pre.length + n)) :: rest))) : W p l e R s m args below meth c H locs cells slots Q (F0 m pc ls rest) := by
  have hKn := hK.1.1 ci _ hC.1
  refine W.newcK hx hb hown (hts _ hcl) (hts _ hinst) (hts _ hini) rfl hd hcells hslots hKn.2.1 rfl fun H1 kC hkC e1 z1 o1 => ?_
  have h2 := kk H1 (by rw [← List.append_assoc]; exact tk_Y_push hY o1 z1 ⟨_, hC.1, (u_born ty hts hC.2.1 hKn hkC e1 hC.2.2.1).to hfs⟩) ⟨Nat.le_trans hS.1 (by omega), fun x h1 h2 => (o1 x (Nat.lt_of_lt_of_le h1 hS.1)).trans (hS.2.1 x h1 h2), hS.2.2⟩
  rw [hY.2, List.length_append, hn]
  exact h2
theorem tk_y_newa (hx : p.tables.exec = Jvm.exec) (hb : c.code = cc) {atype : ArrayType} {ty : FieldType} (hty : newarray.typeOf atype = ty) {n N' t0 : Nat} {i : Int32} {cA : ClassId} {a0 : vp_A} (hts : ∀ w ∈ tk_tbl, w.before args s = true) (harr : Cond.arrayClass ty ∈ tk_tbl) (hK : tk_Sc ω s) (ht0 : (tk_ty ω)[t0]? = some (cA, ty)) (hpr : ∀ U : State, va_RA U cA ty → U.vm.findClass ("[" ++ ty.toString) = some cA) (hY : tk_Y ω (pre ++ li) H) (hS : va_S (tk_A ω) H0 H locs) (hn : li.length = n) (ha : ∀ cA : ClassId, vp_cell cA a0 = arrV cA N' (fun _ => defaultValue ty)) (hn0 : ¬ i < 0) (hN : i.toNatClampNeg = N') (hbytes : N' * componentBytes ty ≤ 536870912) (hcells : cells + 1 ≤ R.cells) (hslots : slots + N' ≤ R.slots) (hd : decode cc pc = .ok (.newarray atype, 2))
    (kk : ∀ (H1 : Heap), tk_Y ω (pre ++ (li ++ [.inl (cA, a0)])) H1 → va_S (tk_A ω) H0 H1 locs → W p l e R s m args below meth c H1 locs (cells + 1) (slots + N') Q (F0 m (pc + 2) ls (.ref (tk_bs ω + (pre.length + n)) :: rest))) : W p l e R s m args below meth c H locs cells slots Q (F0 m pc ls (.int i :: rest)) := by
  subst hty
  refine va_newaK hx hb (hts _ harr) rfl hd rfl hn0 hN hbytes hcells hslots rfl fun H1 cA' e1 z1 o1 _ hNm => ?_
  have hcA : cA' = cA := Option.some.inj (hNm.symm.trans (hpr s (hK.1.2 t0 _ ht0).2))
  subst hcA
  have h2 := kk H1 (by rw [← List.append_assoc]; exact tk_Y_push hY o1 z1 (by show H1[H.size]? = some (vp_cell _ _); rw [ha]; exact e1)) ⟨Nat.le_trans hS.1 (by omega), fun x h1 h2 => (o1 x (Nat.lt_of_lt_of_le h1 hS.1)).trans (hS.2.1 x h1 h2), hS.2.2⟩
  rw [hY.2, List.length_append, hn]
  exact h2
theorem tk_y_newq (hx : p.tables.exec = Jvm.exec) (hb : c.code = cc) {index n N' : Nat} {i : Int32} (hts : ∀ w ∈ tk_tbl, w.before args s = true) (hown : s.vm.findClass own = some m.cls) (hcl : Cond.classLink own index "TicketHall$Tape" ∈ tk_tbl) (hK : tk_Sc ω s) (hY : tk_Y ω (pre ++ li) H) (hS : va_S (tk_A ω) H0 H locs) (hn : li.length = n) (hn0 : ¬ i < 0) (hN : i.toNatClampNeg = N') (hbytes : N' * 4 ≤ 536870912) (hcells : cells + 1 ≤ R.cells) (hslots : slots + N' ≤ R.slots) (hd : decode cc pc = .ok (.anewarray index, 3))
    (kk : ∀ (H1 : Heap), tk_Y ω (pre ++ (li ++ [.inl (tk_cA ω 4, N', .inr (.inr (.inr (.inr (fun _ => none)))))])) H1 → va_S (tk_A ω) H0 H1 locs → W p l e R s m args below meth c H1 locs (cells + 1) (slots + N') Q (F0 m (pc + 3) ls (.ref (tk_bs ω + (pre.length + n)) :: rest))) : W p l e R s m args below meth c H locs cells slots Q (F0 m pc ls (.int i :: rest)) := by
  subst hN
  refine W.anew hx hb hown (hts _ hcl) (va_AO.use hK.2.1) rfl hd rfl hn0 hbytes hcells hslots fun cA kA comp f1 f2 f3 f4 => ?_
  obtain ⟨_, _, _, _, _, g4⟩ := (hK.1.2 4 (tk_cA ω 4, .object "TicketHall$Tape") rfl).2
  have hcA : cA = tk_cA ω 4 := Option.some.inj (f1.symm.trans g4)
  subst hcA
  generalize hH1 : H.push ({ cls := tk_cA ω 4, slots := Array.replicate i.toNatClampNeg .null, vm := .none } : Cell) = H1
  have z1 : H1.size = H.size + 1 := by rw [← hH1, Array.size_push]
  have e1 : H1[H.size]? = some (arrV (tk_cA ω 4) i.toNatClampNeg (fun _ => .null)) := by rw [← hH1, Array.getElem?_push_size, ← arrV_new]
  have o1 : ∀ q : Nat, q < H.size → H1[q]? = H[q]? := fun q hq => by rw [← hH1, Array.getElem?_push, if_neg (Nat.ne_of_lt hq)]
  have h2 := kk H1 (by rw [← List.append_assoc]; exact tk_Y_push hY o1 z1 (by show H1[H.size]? = some (vp_cell _ _); rw [vp_cell_q]; exact e1)) ⟨Nat.le_trans hS.1 (by omega), fun x h1 h2 => (o1 x (Nat.lt_of_lt_of_le h1 hS.1)).trans (hS.2.1 x h1 h2), hS.2.2⟩
  rw [hY.2, List.length_append, hn]
  exact h2
/-- a field is put, in the constructor of its class -/
theorem tk_y_put (hx : p.tables.exec = Jvm.exec) (hb : c.code = cc) {C : String} {T : u_T} {N ci index j k : Nat} {ty : Nat → FieldType} {fs : List Value} {v : Value} (hts : ∀ w ∈ tk_tbl, w.before args s = true) (hC : tk_Cl ci C T N ty) (hown : s.vm.findClass own = some m.cls) (hin : meth.name = "<init>") (hK : tk_Sc ω s) (hY : tk_Y ω (pre ++ li) H) (hS : va_S (tk_A ω) H0 H locs) (he : li[k]? = some (.inr (ci, fs))) (hj : j < N) (hl : Cond.fieldLink own index (T j).1 (T j).2.1 (T j).2.2.1 ∈ tk_tbl) (hdc : (T j).1 = own) (hn : narrow (ty j) v = v) (hfit : fits (ty j) v = true) (hln : j < fs.length) (hd : decode cc pc = .ok (.putfield index, 3))
    (kk : ∀ (H1 : Heap) (locs1 : List Loc), tk_Y ω (pre ++ li.set k (.inr (ci, fs.set j v))) H1 → va_S (tk_A ω) H0 H1 locs1 → W p l e R s m args below meth c H1 locs1 cells slots Q (F0 m (pc + 3) ls rest)) : W p l e R s m args below meth c H locs cells slots Q (F0 m pc ls (v :: .ref (tk_bs ω + (pre.length + k)) :: rest)) := by
  have hw := tk_wx_at (ω := ω) (show (pre ++ li)[pre.length + k]? = some (.inr (ci, fs)) by rw [tk_app_at]; exact he)
  have key : ∀ (H1 : Heap) (locs1 : List Loc), H1.size = H.size → va_P (tk_D ω) vwCl ((tk_wx ω (pre ++ li)).set (pre.length + k) (tk_bs ω + (pre.length + k), .inr (ci, fs.set j v))) H1 → va_S (tk_A ω) H0 H1 locs1 → W p l e R s m args below meth c H1 locs1 cells slots Q (F0 m (pc + 3) ls rest) := by
    intro H1 locs1 z g1 g3
    rw [tk_wx_set, tk_app_set] at g1
    exact kk H1 locs1 ⟨g1, by rw [z, hY.2]; simp⟩ g3
  by_cases hfin : (T j).2.2.2 = true
  · have hst := hts _ hl
    have hap := va_apart (own := own) hts hC.2.1 ty hC.2.2.1 hC.2.2.2.1 hK.1 hC.1
    obtain ⟨r, h1, cell, q1, q2, q3, q4⟩ := hY.1 _ _ hw
    have hr : r = (C, T, N) := Option.some.inj (h1.symm.trans hC.1)
    subst hr
    obtain ⟨hSl, hfc, kC, hkC, hkind⟩ := hK.1.1 ci _ hC.1
    obtain ⟨cf, kf, fi, f, hi, hsl⟩ := hSl j hj
    have hlay := hts _ (hC.2.1 _ (u_in_lay hj))
    unfold u_lay at hlay
    rw [if_pos hfin] at hlay
    have hst := (u_facts hfc hkC (u_lays hts hC.2.1 hj) hi).1
    have hcf : m.cls = cf := by
      obtain ⟨_, _, c', _, _, _, -, -, hf', -, -, -, hown2, -⟩ := Cond.laysFinal_spec hlay
      have e1 : c' = cf := by have := hi.symm.trans hf'; simp at this; exact this.1.symm
      rw [hdc] at hown2
      rw [← e1]; exact Option.some.inj (hown.symm.trans hown2)
    have h6 := u_fits hfc hkC hkind (Or.inr hlay) hi (hC.2.2.1 j hj) hn hfit
    refine W.putFinK hx hb hown (hts _ hl) hi hst hcf hin (by rw [q2]; exact h6) q1 q3 (by rw [hsl]; exact k2_hasslot (q4 j hj)) rfl rfl hd fun H' e1 e2 e3 => ?_
    rw [hsl] at e1 ⊢
    exact key H' _ e2 (hY.1.set tk_wxD hw ⟨_, hC.1, t_OB.to (V := updV (vp_V fs) j v) ⟨_, e1, q2, q3, t_set q4 hap hj v⟩ (fun j _ => vp_updV_set hln v j)⟩ e3) (hS.put e2 e3 (Nat.le_add_right _ _))
  · have hfin : (T j).2.2.2 = false := by simpa using hfin
    have hap := va_apart (own := own) hts hC.2.1 ty hC.2.2.1 hC.2.2.2.1 hK.1 hC.1
    obtain ⟨r, h1, cell, q1, q2, q3, q4⟩ := hY.1 _ _ hw
    have hr : r = (C, T, N) := Option.some.inj (h1.symm.trans hC.1)
    subst hr
    obtain ⟨hSl, hfc, kC, hkC, hkind⟩ := hK.1.1 ci _ hC.1
    obtain ⟨cf, kf, fi, f, hi, hsl⟩ := hSl j hj
    have hlay := hts _ (hC.2.1 _ (u_in_lay hj))
    unfold u_lay at hlay
    rw [if_neg (by rw [hfin]; decide)] at hlay
    have hst := (u_facts hfc hkC (u_lays hts hC.2.1 hj) hi).1
    have h6 := u_store hfc hkC hkind hlay hi (hC.2.2.1 j hj) hn hfit
    refine W.putK hx hb (f := f) ⟨hown, hts _ hl, ⟨_, _, _, hi⟩, hst⟩ (by rw [q2]; exact h6) q1 q3 (by rw [hsl]; exact k2_hasslot (q4 j hj)) rfl rfl hd fun H' e1 e2 e3 => ?_
    rw [hsl] at e1 ⊢
    exact key H' _ e2 (hY.1.set tk_wxD hw ⟨_, hC.1, t_OB.to (V := updV (vp_V fs) j v) ⟨_, e1, q2, q3, t_set q4 hap hj v⟩ (fun j _ => vp_updV_set hln v j)⟩ e3) (hS.put e2 e3 (Nat.le_add_right _ _))
/-- a field of an object of the world -/
theorem tk_y_get (hx : p.tables.exec = Jvm.exec) (hb : c.code = cc) {C : String} {T : u_T} {N ci index j k : Nat} {ty : Nat → FieldType} {fs : List Value} {v : Value} (hts : ∀ w ∈ tk_tbl, w.before args s = true) (hC : tk_Cl ci C T N ty) (hown : s.vm.findClass own = some m.cls) (hK : tk_Sc ω s) (hY : tk_Y ω (pre ++ li) H) (he : li[k]? = some (.inr (ci, fs))) (hj : j < N) (hl : Cond.fieldLink own index (T j).1 (T j).2.1 (T j).2.2.1 ∈ tk_tbl) (hv : fs[j]? = some v) (hd : decode cc pc = .ok (.getfield index, 3))
    (kk : W p l e R s m args below meth c H locs cells slots Q (F0 m (pc + 3) ls (v :: rest))) : W p l e R s m args below meth c H locs cells slots Q (F0 m pc ls (.ref (tk_bs ω + (pre.length + k)) :: rest)) := by
  have hw := tk_wx_at (ω := ω) (show (pre ++ li)[pre.length + k]? = some (.inr (ci, fs)) by rw [tk_app_at]; exact he)
  exact va_get hx hb hts hC.2.1 hown hK.1 hY.1 _ hw hC.1 j hj (hts _ hl) (fun _ h => h) hv hd kk
theorem tk_y_astq (hx : p.tables.exec = Jvm.exec) (hb : c.code = cc) {k kv n : Nat} {i : Int32} {vs : List Value} {f : Nat → Option Nat} (hK : tk_Sc ω s) (hY : tk_Y ω (pre ++ li) H) (hS : va_S (tk_A ω) H0 H locs) (he : li[k]? = some (.inl (tk_cA ω 4, n, .inr (.inr (.inr (.inr f)))))) (hv : li[kv]? = some (.inr (4, vs))) (hin : vp_in i n) (hd : decode cc pc = .ok (.aastore, 1))
    (kk : ∀ (H1 : Heap) (locs1 : List Loc), tk_Y ω (pre ++ li.set k (.inl (tk_cA ω 4, n, .inr (.inr (.inr (.inr (va_up f i.toNatClampNeg (some (tk_bs ω + (pre.length + kv)))))))))) H1 → va_S (tk_A ω) H0 H1 locs1 → W p l e R s m args below meth c H1 locs1 cells slots Q (F0 m (pc + 1) ls rest)) : W p l e R s m args below meth c H locs cells slots Q (F0 m pc ls (.ref (tk_bs ω + (pre.length + kv)) :: .int i :: .ref (tk_bs ω + (pre.length + k)) :: rest)) := by
  have hw := tk_wx_at (ω := ω) (show (pre ++ li)[pre.length + k]? = _ by rw [tk_app_at]; exact he)
  have hw2 := tk_wx_at (ω := ω) (show (pre ++ li)[pre.length + kv]? = _ by rw [tk_app_at]; exact hv)
  have hlt : i.toNatClampNeg < n := Nat.not_le.mp fun q => hin (Or.inr q)
  have h0 : ¬ i < 0 := fun q => hin (Or.inl q)
  obtain ⟨r', hr', cellV, g1, g2, g3, -⟩ := hY.1 _ _ hw2
  have hcls := (hK.1.1 4 (RX4, TX4, 3) rfl).2
  obtain ⟨kA, comp, k1, k2, k3, -⟩ := (hK.1.2 4 (tk_cA ω 4, .object "TicketHall$Tape") rfl).2
  have hcomp : comp = (tk_D ω).1 4 := Option.some.inj (k3.symm.trans hcls.1)
  subst hcomp
  obtain ⟨kC, hkC, -⟩ := hcls.2
  refine W.aast hx hb (hY.1 _ _ hw) (fun q h => by cases h) (fun h => by cases h) k1 k2 rfl hkC ⟨h0, by show _ < (arrV _ _ _).slots.size; rw [arrV_size]; exact hlt⟩ g1 (fun q h => by rw [g3] at h; cases h) (by rw [g2]; exact hkC) (by rw [g2]; exact va_assign hcls) rfl rfl hd fun H1 e1 z oq => ?_
  have hP1 := hY.1.set (e := .inl (tk_cA ω 4, n, .inr (.inr (.inr (.inr (va_up f i.toNatClampNeg (some (tk_bs ω + (pre.length + kv))))))))) (H1 := H1) tk_wxD hw (by
    show H1[tk_bs ω + (pre.length + k)]? = some (vp_cell _ _)
    rw [e1]
    rw [vp_cell_q, vp_cell_q, arrV_store]
    congr 2
    funext q
    by_cases hq : q = i.toNatClampNeg
    · subst hq
      simp [updV, va_up, va_rf]
    · simp [updV, va_up, hq]) oq
  rw [tk_wx_set, tk_app_set] at hP1
  exact kk H1 _ ⟨hP1, by rw [z, hY.2]; simp⟩ (hS.put z oq (Nat.le_add_right _ _))
/-- a constructor's contract: behind what there is ('pre') stands its object, fresh; what comes is 'out' -/
def tk_Ct (y : MethodName) (cc : ByteArray) (nL : Nat) (rm : Room) (o0 : va_E) (vals : List Value) (out : tk_O → Nat → List va_E) (mc ms : Nat) : Prop :=
  ∀ (l : Launch) (ω : tk_O) (pre : List va_E), Met l y (tk_wy y cc nL none) rm (fun a U => a = (Value.ref (tk_bs ω + (pre.length + 0)) :: vals).toArray ∧ tk_Y ω (pre ++ [o0]) U.heap ∧ tk_Sc ω U) (fun _ st oc t => (oc = .returned none ∧ tk_Y ω (pre ++ out ω pre.length) t.heap) ∧ va_F (tk_A ω) st t) mc ms (tk_A ω)
theorem tk_y_init (hx : p.tables.exec = Jvm.exec) (hb : c.code = cc) {nL nL' index n mc ms np : Nat} {y : MethodName} {cy : ByteArray} {rm : Room} {o0 : va_E} {vals : List Value} {out : tk_O → Nat → List va_E} {st0 : List Value} (hml : c.maxLocals = nL) (hls : ls.size = nL) (hts : ∀ w ∈ tk_tbl, w.before args s = true) (hown : s.vm.findClass own = some m.cls) (hM : tk_Ct y cy nL' rm o0 vals out mc ms) (hy1 : y.name = "<init>") (hin : Cond.instanceMethod y ∈ tk_tbl) (hcd : Cond.code y cy nL' none ∈ tk_tbl) (hini : Cond.initialized y.cls ∈ tk_tbl) (hlk : Cond.methodLink own index y ∈ tk_tbl ∨ Cond.methodLinkNest own index y "TicketHall" ∈ tk_nw) (hdn : y.cls ≠ "java/lang/invoke/MethodHandle" ∧ y.cls ≠ "java/lang/invoke/VarHandle" ∧ (parseMethodDescriptor y.desc).map (fun d => d.parameters.length) = some np) (hnp : vals.length = np) (hR : rm.frames + 1 ≤ R.frames ∧ 8 + (nL' + 11) + rm.locals ≤ R.locals) (hrc : rm.cells = mc) (hrs : rm.slots = ms) (hK : tk_Sc ω s) (hY : tk_Y ω (pre ++ (li ++ [o0])) H) (hS : va_S (tk_A ω) H0 H locs) (hn : li.length = n) (hst0 : st0 = vals.reverse ++ .ref (tk_bs ω + (pre.length + n)) :: rest) (hsum : (rest.map fun v => v.category).sum ≤ 8) (hf : cells + mc ≤ R.cells ∧ slots + ms ≤ R.slots) (hd : decode cc pc = .ok (.invokespecial index, 3))
    (kk : ∀ (H1 : Heap) (locs1 : List Loc), tk_Y ω (pre ++ (li ++ out ω (pre.length + n))) H1 → va_S (tk_A ω) H0 H1 locs1 → W p l e R s m args below meth c H1 locs1 (cells + mc) (slots + ms) Q (F0 m (pc + 3) ls rest)) : W p l e R s m args below meth c H locs cells slots Q (F0 m pc ls st0) := by
  have hMl := hM l ω (pre ++ li)
  rw [← List.append_assoc] at hY
  have hlen : (pre ++ li).length = pre.length + n := by rw [List.length_append, hn]
  have hfix : CallFix p m c cc nL s args tk_tbl own := ⟨hx, hb, hml, hown, hts⟩
  have hps : PreS s H (fun a U => a = (Value.ref (tk_bs ω + ((pre ++ li).length + 0)) :: vals).toArray ∧ tk_Y ω ((pre ++ li) ++ [o0]) U.heap ∧ tk_Sc ω U) (.ref (tk_bs ω + ((pre ++ li).length + 0)) :: vals) := ⟨fun a U g mk h => ⟨h.1, h.2.1, h.2.2.to (Vm.Alike.refl U.vm) (tk_nw_same rfl)⟩, fun U hU hW => ⟨rfl, by rw [hU]; exact hY, hK.to hW.alike (tk_nw_warm hW)⟩⟩
  have hstk : st0 = vals.reverse ++ Value.ref (tk_bs ω + ((pre ++ li).length + 0)) :: rest := by rw [hst0, hlen]; rfl
  have fin : ∀ a : Array Value, va_Run p l e R s m args below meth c H locs cells slots mc ms (F0 m pc ls st0) rest ((fun (_ : Array Value) (st : State) (oc : Outcome) (t : State) => (oc = .returned none ∧ tk_Y ω (pre ++ li ++ out ω (pre ++ li).length) t.heap) ∧ va_F (tk_A ω) st t) a) (tk_A ω) → W p l e R s m args below meth c H locs cells slots Q (F0 m pc ls st0) := by
    intro a hr T hT X
    obtain ⟨v, st₀, t', T', L, h0, X', hL, e1, e2, ⟨⟨hv, hq⟩, hz, hk⟩, st⟩ := hr T hT X
    cases hv
    rw [h0] at hz hk
    rw [hlen, List.append_assoc] at hq
    obtain ⟨t2, a1, b1⟩ := kk T'.heap (locs ++ L) (by rw [e1]; exact hq) ⟨Nat.le_trans hS.1 (by rw [e1]; exact hz), fun q h1 h2 => by rw [e1, hk q (Nat.lt_of_lt_of_le h1 hS.1) h2]; exact hS.2.1 q h1 h2, fun q hq => by
      rcases List.mem_append.mp hq with h | h
      · exact hS.2.2 q h
      · exact hL q h⟩ T' rfl X'
    exact ⟨t2, st t2 a1, b1⟩
  rcases hlk with hlk | hlk
  · exact fin #[] (va_runI hfix hMl (cwI np hts (tk_wy_good hcd) rfl hrc hrs (hts _ hini) (hts _ hlk) (hts _ hin) hy1 hdn hR) hps rfl hnp hls hstk (lv_room hsum) hd hf)
  · exact fin #[] (va_runIN hfix hMl ⟨va_cnB np hts (tk_wy_good hcd) rfl hrc hrs (hK.2.2 _ hlk) (hts _ hini) hdn hR, hy1, hts _ hin⟩ hps rfl hnp hls hstk (lv_room hsum) hd hf)
end TKY
