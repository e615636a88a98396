set_option maxHeartbeats 4000000 in
set_option maxRecDepth 100000 in
theorem c_Cs_slotOf (l : Launch) (G : va_G) (cI cZ cJ : ClassId) (q : Nat) (i : Nat)  : Met l y_Cs_slotOf (w_Cs_slotOf) ({ frames := 0, cells := 0, slots := 0, locals := 0 }) (va_Pc [.int (nI q), .int (nI i)] (kR G vwCl [(cI, .int), (cZ, .boolean), (cJ, .long)] [])) (QcRead ((nI (q * 6 + i)))) 0 0 (fun _ => False) := by
  refine Met.ofW (cc := b_Cs_slotOf) (maxL := 2) (ret := (some .int)) (by decide) rfl ?_
  intro p e s m args below meth c s₁ B hml hv
  obtain ⟨rfl, hP, hK⟩ := hv
  have hx := B.exec
  have hb := B.bytes
  have hr := B.returns
  have hts : ∀ w ∈ TT, w.before _ s = true := fun w h => atoms_spec (ws := (w_Cs_slotOf)) B.pre w (List.mem_cons_of_mem _ h)
  have hown : s.vm.findClass R_Cs = some m.cls := findClass_of_methodNamed B.named
  have hlocks := B.notSynchronized
  have hP : va_P G vwCl [] s.heap := hP
  have hl := lv_entry ([.int (nI q), .int (nI i)]) (n := 2) (Nat.le_of_ble_eq_true rfl)
  rw [lg_entry_eq]
  generalize (lg_sl ([.int (nI q), .int (nI i)]) ++ List.replicate (2 - (lg_sl ([.int (nI q), .int (nI i)])).length) Slot.unset).toArray = ls at hl ⊢
  have hl : lv_has ls 2 [(0, .int (nI q)), (1, .int (nI i))] := hl
  refine lv_iload_n hx hb d_Cs_slotOf_0 rfl (lv_at hl 0 rfl) ?_
  refine lv_bipush (v := (nI 6)) hx hb d_Cs_slotOf_1 (by decide +kernel) ?_
  refine lv_imul hx hb d_Cs_slotOf_3 ?_
  refine k_top (y := (nI (q * 6))) (pk_mul q 6) ?_
  refine lv_iload_n hx hb d_Cs_slotOf_4 rfl (lv_at hl 1 rfl) ?_
  refine lv_iadd hx hb d_Cs_slotOf_5 ?_
  refine k_top (y := (nI ((q * 6) + i))) (nI_add (q * 6) i) ?_
  exact k_ri hx hb hr hlocks (rfl) d_Cs_slotOf_6
set_option maxHeartbeats 4000000 in
set_option maxRecDepth 100000 in
theorem c_Cs_routineAt (l : Launch) (G : va_G) (cI cZ cJ : ClassId) (y : Nat) (hy : y < 1000) : Met l y_Cs_routineAt (w_Cs_routineAt) ({ frames := 0, cells := 0, slots := 0, locals := 0 }) (va_Pc [.int (nI y)] (kR G vwCl [(cI, .int), (cZ, .boolean), (cJ, .long)] [])) (QcRead ((nI (y / 6)))) 0 0 (fun _ => False) := by
  refine Met.ofW (cc := b_Cs_routineAt) (maxL := 1) (ret := (some .int)) (by decide) rfl ?_
  intro p e s m args below meth c s₁ B hml hv
  obtain ⟨rfl, hP, hK⟩ := hv
  have hx := B.exec
  have hb := B.bytes
  have hr := B.returns
  have hts : ∀ w ∈ TT, w.before _ s = true := fun w h => atoms_spec (ws := (w_Cs_routineAt)) B.pre w (List.mem_cons_of_mem _ h)
  have hown : s.vm.findClass R_Cs = some m.cls := findClass_of_methodNamed B.named
  have hlocks := B.notSynchronized
  have hP : va_P G vwCl [] s.heap := hP
  have hl := lv_entry ([.int (nI y)]) (n := 1) (Nat.le_of_ble_eq_true rfl)
  rw [lg_entry_eq]
  generalize (lg_sl ([.int (nI y)]) ++ List.replicate (1 - (lg_sl ([.int (nI y)])).length) Slot.unset).toArray = ls at hl ⊢
  have hl : lv_has ls 1 [(0, .int (nI y))] := hl
  refine lv_iload_n hx hb d_Cs_routineAt_0 rfl (lv_at hl 0 rfl) ?_
  refine lv_bipush (v := (nI 6)) hx hb d_Cs_routineAt_1 (by decide +kernel) ?_
  refine lv_idiv hx hb d_Cs_routineAt_3 (by decide +kernel) ?_
  refine k_top (y := (nI (y / 6))) (pk_div (by omega) (by omega) (by omega)) ?_
  exact k_ri hx hb hr hlocks (rfl) d_Cs_routineAt_4
set_option maxHeartbeats 4000000 in
set_option maxRecDepth 100000 in
theorem c_Cs_numberAt (l : Launch) (G : va_G) (cI cZ cJ : ClassId) (y : Nat) (hy : y < 1000) : Met l y_Cs_numberAt (w_Cs_numberAt) ({ frames := 0, cells := 0, slots := 0, locals := 0 }) (va_Pc [.int (nI y)] (kR G vwCl [(cI, .int), (cZ, .boolean), (cJ, .long)] [])) (QcRead ((nI (y % 6)))) 0 0 (fun _ => False) := by
  refine Met.ofW (cc := b_Cs_numberAt) (maxL := 1) (ret := (some .int)) (by decide) rfl ?_
  intro p e s m args below meth c s₁ B hml hv
  obtain ⟨rfl, hP, hK⟩ := hv
  have hx := B.exec
  have hb := B.bytes
  have hr := B.returns
  have hts : ∀ w ∈ TT, w.before _ s = true := fun w h => atoms_spec (ws := (w_Cs_numberAt)) B.pre w (List.mem_cons_of_mem _ h)
  have hown : s.vm.findClass R_Cs = some m.cls := findClass_of_methodNamed B.named
  have hlocks := B.notSynchronized
  have hP : va_P G vwCl [] s.heap := hP
  have hl := lv_entry ([.int (nI y)]) (n := 1) (Nat.le_of_ble_eq_true rfl)
  rw [lg_entry_eq]
  generalize (lg_sl ([.int (nI y)]) ++ List.replicate (1 - (lg_sl ([.int (nI y)])).length) Slot.unset).toArray = ls at hl ⊢
  have hl : lv_has ls 1 [(0, .int (nI y))] := hl
  refine lv_iload_n hx hb d_Cs_numberAt_0 rfl (lv_at hl 0 rfl) ?_
  refine lv_bipush (v := (nI 6)) hx hb d_Cs_numberAt_1 (by decide +kernel) ?_
  refine lv_irem hx hb d_Cs_numberAt_3 (by decide +kernel) ?_
  refine k_top (y := (nI (y % 6))) (pk_rem (by omega) (by omega) (by omega)) ?_
  exact k_ri hx hb hr hlocks (rfl) d_Cs_numberAt_4
set_option maxHeartbeats 4000000 in
set_option maxRecDepth 100000 in
theorem c_Cs_forget (l : Launch) (G : va_G) (cI cZ cJ : ClassId) (sz : Nat) (a_cs : Nat) (a_cn : Nat) (a_cc : Nat) (a_cw : Nat) (a_cv : Nat) (cnum : Nat → Nat) (q : Nat) (hq : q < 16) : Met l y_Cs_forget (w_Cs_forget) ({ frames := 0, cells := 0, slots := 0, locals := 0 }) (va_Pc [.ref a_cs, .int (nI q)] (kW G vwCl [(cI, .int), (cZ, .boolean), (cJ, .long)] [(a_cs, .inr (0, [.ref a_cn, .ref a_cc, .ref a_cw, .ref a_cv])), (a_cn, .inl (cI, 16, .inl (fun j => nI (cnum j))))] sz)) (va_Qv (fun (u : Unit) => True) (fun u t => va_P G vwCl [(a_cs, .inr (0, [.ref a_cn, .ref a_cc, .ref a_cw, .ref a_cv])), (a_cn, .inl (cI, 16, .inl (fun j => nI ((va_up cnum q 0) j))))] t.heap) (va_A [(a_cs, .inr (0, [.ref a_cn, .ref a_cc, .ref a_cw, .ref a_cv])), (a_cn, .inl (cI, 16, .inl (fun j => nI (cnum j))))] sz)) 0 0 (va_A [(a_cs, .inr (0, [.ref a_cn, .ref a_cc, .ref a_cw, .ref a_cv])), (a_cn, .inl (cI, 16, .inl (fun j => nI (cnum j))))] sz) := by
  refine Met.ofW (cc := b_Cs_forget) (maxL := 2) (ret := none) (by decide) rfl ?_
  intro p e s m args below meth c s₁ B hml hv
  obtain ⟨rfl, hsz, hP, hK, hD0⟩ := hv
  have hx := B.exec
  have hb := B.bytes
  have hr := B.returns
  have hts : ∀ w ∈ TT, w.before _ s = true := fun w h => atoms_spec (ws := (w_Cs_forget)) B.pre w (List.mem_cons_of_mem _ h)
  have hown : s.vm.findClass R_Cs = some m.cls := findClass_of_methodNamed B.named
  have hlocks := B.notSynchronized
  subst hsz
  have hD := hD0.self (sz := s.heap.size)
  generalize hAe : va_A [(a_cs, .inr (0, [.ref a_cn, .ref a_cc, .ref a_cw, .ref a_cv])), (a_cn, .inl (cI, 16, .inl (fun j => nI (cnum j))))] s.heap.size = A at hD ⊢
  have hA : ∀ q : Nat, s.heap.size ≤ q → A q := fun q h => by rw [← hAe]; exact Or.inr h
  have hS : va_S A s.heap s.heap [] := va_S.rf
  have hP : va_P G vwCl [(a_cs, .inr (0, [.ref a_cn, .ref a_cc, .ref a_cw, .ref a_cv])), (a_cn, .inl (cI, 16, .inl (fun j => nI (cnum j))))] s.heap := hP
  have hl := lv_entry ([.ref a_cs, .int (nI q)]) (n := 2) (Nat.le_of_ble_eq_true rfl)
  rw [lg_entry_eq]
  generalize (lg_sl ([.ref a_cs, .int (nI q)]) ++ List.replicate (2 - (lg_sl ([.ref a_cs, .int (nI q)])).length) Slot.unset).toArray = ls at hl ⊢
  have hl : lv_has ls 2 [(0, .ref a_cs), (1, .int (nI q))] := hl
  refine lv_aload_n hx hb d_Cs_forget_0 rfl (lv_at hl 0 rfl) ?_
  refine va_get (D := G) (ci := 0) (v := .ref a_cn) (C := R_Cs) (T := T_Cs) (N := 4) hx hb hts uw_Cs hown hK hP 0 rfl rfl 0 (by decide) (hts _ t_69) (fun _ h9 => h9) rfl d_Cs_forget_1 ?_
  refine lv_iload_n hx hb d_Cs_forget_4 rfl (lv_at hl 1 rfl) ?_
  refine lv_iconst (v := (nI 0)) hx hb d_Cs_forget_5 (by decide +kernel) ?_
  refine k_iastN hx hb hK hP hD hS 1 0 rfl rfl (by omega) (by decide) d_Cs_forget_6 (fun H locs hP hD hS => ?_)
  have hP : va_P G vwCl [(a_cs, .inr (0, [.ref a_cn, .ref a_cc, .ref a_cw, .ref a_cv])), (a_cn, .inl (cI, 16, .inl (fun j => nI ((va_up cnum q 0) j))))] H := hP
  have hD : va_D A [(a_cs, .inr (0, [.ref a_cn, .ref a_cc, .ref a_cw, .ref a_cv])), (a_cn, .inl (cI, 16, .inl (fun j => nI ((va_up cnum q 0) j))))] := hD
  exact k_wv hx hb hr hlocks hP hS () (rfl) (trivial) d_Cs_forget_7
set_option maxHeartbeats 4000000 in
set_option maxRecDepth 100000 in
theorem c_Cs_numberOf (l : Launch) (G : va_G) (cI cZ cJ : ClassId) (a_cs : Nat) (a_cn : Nat) (a_cc : Nat) (a_cw : Nat) (a_cv : Nat) (cnum : Nat → Nat) (cch : Nat → Nat) (cway : Nat → Nat) (cval : Nat → Int32) (cs : Nat → List Kase) (q : Nat) (hq : q < 16) (hC : RelC cnum cch cway cval cs) : Met l y_Cs_numberOf (w_Cs_numberOf) ({ frames := 0, cells := 0, slots := 0, locals := 0 }) (va_Pc [.ref a_cs, .int (nI q)] (kR G vwCl [(cI, .int), (cZ, .boolean), (cJ, .long)] [(a_cs, .inr (0, [.ref a_cn, .ref a_cc, .ref a_cw, .ref a_cv])), (a_cn, .inl (cI, 16, .inl (fun j => nI (cnum j))))])) (QcRead ((nI ((cs q).length)))) 0 0 (fun _ => False) := by
  refine Met.ofW (cc := b_Cs_numberOf) (maxL := 2) (ret := (some .int)) (by decide) rfl ?_
  intro p e s m args below meth c s₁ B hml hv
  obtain ⟨rfl, hP, hK⟩ := hv
  have hx := B.exec
  have hb := B.bytes
  have hr := B.returns
  have hts : ∀ w ∈ TT, w.before _ s = true := fun w h => atoms_spec (ws := (w_Cs_numberOf)) B.pre w (List.mem_cons_of_mem _ h)
  have hown : s.vm.findClass R_Cs = some m.cls := findClass_of_methodNamed B.named
  have hlocks := B.notSynchronized
  have hP : va_P G vwCl [(a_cs, .inr (0, [.ref a_cn, .ref a_cc, .ref a_cw, .ref a_cv])), (a_cn, .inl (cI, 16, .inl (fun j => nI (cnum j))))] s.heap := hP
  have hl := lv_entry ([.ref a_cs, .int (nI q)]) (n := 2) (Nat.le_of_ble_eq_true rfl)
  rw [lg_entry_eq]
  generalize (lg_sl ([.ref a_cs, .int (nI q)]) ++ List.replicate (2 - (lg_sl ([.ref a_cs, .int (nI q)])).length) Slot.unset).toArray = ls at hl ⊢
  have hl : lv_has ls 2 [(0, .ref a_cs), (1, .int (nI q))] := hl
  refine lv_aload_n hx hb d_Cs_numberOf_0 rfl (lv_at hl 0 rfl) ?_
  refine va_get (D := G) (ci := 0) (v := .ref a_cn) (C := R_Cs) (T := T_Cs) (N := 4) hx hb hts uw_Cs hown hK hP 0 rfl rfl 0 (by decide) (hts _ t_69) (fun _ h9 => h9) rfl d_Cs_numberOf_1 ?_
  refine lv_iload_n hx hb d_Cs_numberOf_4 rfl (lv_at hl 1 rfl) ?_
  refine k_iald hx hb hK hP 1 0 rfl rfl (by omega) (by decide) d_Cs_numberOf_5 ?_
  exact k_ri hx hb hr hlocks (congrArg nI (hC q hq).1) d_Cs_numberOf_6
set_option maxHeartbeats 4000000 in
set_option maxRecDepth 100000 in
theorem c_Cs_append (l : Launch) (G : va_G) (cI cZ cJ : ClassId) (sz : Nat) (a_cs : Nat) (a_cn : Nat) (a_cc : Nat) (a_cw : Nat) (a_cv : Nat) (cnum : Nat → Nat) (cch : Nat → Nat) (cway : Nat → Nat) (cval : Nat → Int32) (cs : Nat → List Kase) (q : Nat) (x : Nat) (w : Nat) (v : Int32) (hq : q < 16) (hx0 : x < 40) (hw0 : w < 2) (hC : RelC cnum cch cway cval cs) : Met l y_Cs_append (w_Cs_append) ({ frames := 1, cells := 0, slots := 0, locals := 21 }) (va_Pc [.ref a_cs, .int (nI q), .int (nI x), .int (nI w), .int v] (kW G vwCl [(cI, .int), (cZ, .boolean), (cJ, .long)] [(a_cs, .inr (0, [.ref a_cn, .ref a_cc, .ref a_cw, .ref a_cv])), (a_cn, .inl (cI, 16, .inl (fun j => nI (cnum j)))), (a_cc, .inl (cI, 96, .inl (fun j => nI (cch j)))), (a_cw, .inl (cI, 96, .inl (fun j => nI (cway j)))), (a_cv, .inl (cI, 96, .inl cval))] sz)) (va_Qi (fun (r : Int32) (u : (Nat → Nat) × (Nat → Nat) × (Nat → Nat) × (Nat → Int32)) => r = (if (cs q).length < 6 then nI ((cs q).length + 1) else -1) ∧ RelC u.1 u.2.1 u.2.2.1 u.2.2.2 (addC cs q (x, w, v))) (fun u t => va_P G vwCl [(a_cs, .inr (0, [.ref a_cn, .ref a_cc, .ref a_cw, .ref a_cv])), (a_cn, .inl (cI, 16, .inl (fun j => nI (u.1 j)))), (a_cc, .inl (cI, 96, .inl (fun j => nI (u.2.1 j)))), (a_cw, .inl (cI, 96, .inl (fun j => nI (u.2.2.1 j)))), (a_cv, .inl (cI, 96, .inl u.2.2.2))] t.heap) (va_A [(a_cs, .inr (0, [.ref a_cn, .ref a_cc, .ref a_cw, .ref a_cv])), (a_cn, .inl (cI, 16, .inl (fun j => nI (cnum j)))), (a_cc, .inl (cI, 96, .inl (fun j => nI (cch j)))), (a_cw, .inl (cI, 96, .inl (fun j => nI (cway j)))), (a_cv, .inl (cI, 96, .inl cval))] sz)) 0 0 (va_A [(a_cs, .inr (0, [.ref a_cn, .ref a_cc, .ref a_cw, .ref a_cv])), (a_cn, .inl (cI, 16, .inl (fun j => nI (cnum j)))), (a_cc, .inl (cI, 96, .inl (fun j => nI (cch j)))), (a_cw, .inl (cI, 96, .inl (fun j => nI (cway j)))), (a_cv, .inl (cI, 96, .inl cval))] sz) := by
  refine Met.ofW (cc := b_Cs_append) (maxL := 6) (ret := (some .int)) (by decide) rfl ?_
  intro p e s m args below meth c s₁ B hml hv
  obtain ⟨rfl, hsz, hP, hK, hD0⟩ := hv
  have hx := B.exec
  have hb := B.bytes
  have hr := B.returns
  have hts : ∀ w ∈ TT, w.before _ s = true := fun w h => atoms_spec (ws := (w_Cs_append)) B.pre w (List.mem_cons_of_mem _ h)
  have hown : s.vm.findClass R_Cs = some m.cls := findClass_of_methodNamed B.named
  have hlocks := B.notSynchronized
  subst hsz
  have hD := hD0.self (sz := s.heap.size)
  generalize hAe : va_A [(a_cs, .inr (0, [.ref a_cn, .ref a_cc, .ref a_cw, .ref a_cv])), (a_cn, .inl (cI, 16, .inl (fun j => nI (cnum j)))), (a_cc, .inl (cI, 96, .inl (fun j => nI (cch j)))), (a_cw, .inl (cI, 96, .inl (fun j => nI (cway j)))), (a_cv, .inl (cI, 96, .inl cval))] s.heap.size = A at hD ⊢
  have hA : ∀ q : Nat, s.heap.size ≤ q → A q := fun q h => by rw [← hAe]; exact Or.inr h
  have hS : va_S A s.heap s.heap [] := va_S.rf
  have hP : va_P G vwCl [(a_cs, .inr (0, [.ref a_cn, .ref a_cc, .ref a_cw, .ref a_cv])), (a_cn, .inl (cI, 16, .inl (fun j => nI (cnum j)))), (a_cc, .inl (cI, 96, .inl (fun j => nI (cch j)))), (a_cw, .inl (cI, 96, .inl (fun j => nI (cway j)))), (a_cv, .inl (cI, 96, .inl cval))] s.heap := hP
  have hl := lv_entry ([.ref a_cs, .int (nI q), .int (nI x), .int (nI w), .int v]) (n := 6) (Nat.le_of_ble_eq_true rfl)
  rw [lg_entry_eq]
  generalize (lg_sl ([.ref a_cs, .int (nI q), .int (nI x), .int (nI w), .int v]) ++ List.replicate (6 - (lg_sl ([.ref a_cs, .int (nI q), .int (nI x), .int (nI w), .int v])).length) Slot.unset).toArray = ls at hl ⊢
  have hl : lv_has ls 6 [(0, .ref a_cs), (1, .int (nI q)), (2, .int (nI x)), (3, .int (nI w)), (4, .int v)] := hl
  obtain ⟨hh, hh2, hh3⟩ := hC q hq
  refine lv_aload_n hx hb d_Cs_append_0 rfl (lv_at hl 0 rfl) ?_
  refine va_get (D := G) (ci := 0) (v := .ref a_cn) (C := R_Cs) (T := T_Cs) (N := 4) hx hb hts uw_Cs hown hK hP 0 rfl rfl 0 (by decide) (hts _ t_69) (fun _ h9 => h9) rfl d_Cs_append_1 ?_
  refine lv_iload_n hx hb d_Cs_append_4 rfl (lv_at hl 1 rfl) ?_
  refine k_iald hx hb hK hP 1 0 rfl rfl (by omega) (by decide) d_Cs_append_5 ?_
  refine lv_bipush (v := (nI 6)) hx hb d_Cs_append_6 (by decide +kernel) ?_
  refine n_icmp_lt (tgt := 13) hx hb d_Cs_append_8 (by decide) (by omega) (by decide) (fun c_a => ?_) (fun c_a => ?_)
  · refine lv_iload_n hx hb d_Cs_append_13 rfl (lv_at hl 1 rfl) ?_
    refine lv_aload_n hx hb d_Cs_append_14 rfl (lv_at hl 0 rfl) ?_
    refine va_get (D := G) (ci := 0) (v := .ref a_cn) (C := R_Cs) (T := T_Cs) (N := 4) hx hb hts uw_Cs hown hK hP 0 rfl rfl 0 (by decide) (hts _ t_69) (fun _ h9 => h9) rfl d_Cs_append_15 ?_
    refine lv_iload_n hx hb d_Cs_append_18 rfl (lv_at hl 1 rfl) ?_
    refine k_iald hx hb hK hP 1 0 rfl rfl (by omega) (by decide) d_Cs_append_19 ?_
    refine k_ro (va_runS (As := [.int (nI q), .int (nI (cnum q))]) (rest := []) ⟨hx, hb, hml, hown, hts⟩ (c_Cs_slotOf l G cI cZ cJ q (cnum q)) (va_cwS 2 hts (gS t_180 t_181 t_34 t_182) rfl rfl rfl (by decide +kernel) ⟨Nat.le_of_ble_eq_true rfl, Nat.le_of_ble_eq_true rfl⟩) (kR_S hK hP [] rfl) rfl rfl hl.1 rfl (lv_room (Nat.le_of_ble_eq_true rfl)) d_Cs_append_20 ⟨Nat.le_of_ble_eq_true rfl, Nat.le_of_ble_eq_true rfl⟩) ?_
    refine lv_istore (lv' := [(5, .int (nI (q * 6 + (cnum q)))), (0, .ref a_cs), (1, .int (nI q)), (2, .int (nI x)), (3, .int (nI w)), (4, .int v)]) hx hb d_Cs_append_23 hl (by decide) rfl (fun ls hl => ?_)
    refine lv_aload_n hx hb d_Cs_append_25 rfl (lv_at hl 1 rfl) ?_
    refine va_get (D := G) (ci := 0) (v := .ref a_cc) (C := R_Cs) (T := T_Cs) (N := 4) hx hb hts uw_Cs hown hK hP 0 rfl rfl 1 (by decide) (hts _ t_70) (fun _ h9 => h9) rfl d_Cs_append_26 ?_
    refine lv_iload hx hb d_Cs_append_29 (lv_at hl 0 rfl) ?_
    refine lv_iload_n hx hb d_Cs_append_31 rfl (lv_at hl 3 rfl) ?_
    refine k_iastN hx hb hK hP hD hS 2 0 rfl rfl (by omega) (by decide) d_Cs_append_32 (fun H locs hP hD hS => ?_)
    have hP : va_P G vwCl [(a_cs, .inr (0, [.ref a_cn, .ref a_cc, .ref a_cw, .ref a_cv])), (a_cn, .inl (cI, 16, .inl (fun j => nI (cnum j)))), (a_cc, .inl (cI, 96, .inl (fun j => nI ((va_up cch (q * 6 + (cnum q)) x) j)))), (a_cw, .inl (cI, 96, .inl (fun j => nI (cway j)))), (a_cv, .inl (cI, 96, .inl cval))] H := hP
    have hD : va_D A [(a_cs, .inr (0, [.ref a_cn, .ref a_cc, .ref a_cw, .ref a_cv])), (a_cn, .inl (cI, 16, .inl (fun j => nI (cnum j)))), (a_cc, .inl (cI, 96, .inl (fun j => nI ((va_up cch (q * 6 + (cnum q)) x) j)))), (a_cw, .inl (cI, 96, .inl (fun j => nI (cway j)))), (a_cv, .inl (cI, 96, .inl cval))] := hD
    refine lv_aload_n hx hb d_Cs_append_33 rfl (lv_at hl 1 rfl) ?_
    refine va_get (D := G) (ci := 0) (v := .ref a_cw) (C := R_Cs) (T := T_Cs) (N := 4) hx hb hts uw_Cs hown hK hP 0 rfl rfl 2 (by decide) (hts _ t_71) (fun _ h9 => h9) rfl d_Cs_append_34 ?_
    refine lv_iload hx hb d_Cs_append_37 (lv_at hl 0 rfl) ?_
    refine lv_iload_n hx hb d_Cs_append_39 rfl (lv_at hl 4 rfl) ?_
    refine k_iastN hx hb hK hP hD hS 3 0 rfl rfl (by omega) (by decide) d_Cs_append_40 (fun H locs hP hD hS => ?_)
    have hP : va_P G vwCl [(a_cs, .inr (0, [.ref a_cn, .ref a_cc, .ref a_cw, .ref a_cv])), (a_cn, .inl (cI, 16, .inl (fun j => nI (cnum j)))), (a_cc, .inl (cI, 96, .inl (fun j => nI ((va_up cch (q * 6 + (cnum q)) x) j)))), (a_cw, .inl (cI, 96, .inl (fun j => nI ((va_up cway (q * 6 + (cnum q)) w) j)))), (a_cv, .inl (cI, 96, .inl cval))] H := hP
    have hD : va_D A [(a_cs, .inr (0, [.ref a_cn, .ref a_cc, .ref a_cw, .ref a_cv])), (a_cn, .inl (cI, 16, .inl (fun j => nI (cnum j)))), (a_cc, .inl (cI, 96, .inl (fun j => nI ((va_up cch (q * 6 + (cnum q)) x) j)))), (a_cw, .inl (cI, 96, .inl (fun j => nI ((va_up cway (q * 6 + (cnum q)) w) j)))), (a_cv, .inl (cI, 96, .inl cval))] := hD
    refine lv_aload_n hx hb d_Cs_append_41 rfl (lv_at hl 1 rfl) ?_
    refine va_get (D := G) (ci := 0) (v := .ref a_cv) (C := R_Cs) (T := T_Cs) (N := 4) hx hb hts uw_Cs hown hK hP 0 rfl rfl 3 (by decide) (hts _ t_72) (fun _ h9 => h9) rfl d_Cs_append_42 ?_
    refine lv_iload hx hb d_Cs_append_45 (lv_at hl 0 rfl) ?_
    refine lv_iload hx hb d_Cs_append_47 (lv_at hl 5 rfl) ?_
    refine k_iast hx hb hK hP hD hS 4 0 rfl rfl (by omega) (by decide) d_Cs_append_49 (fun H locs hP hD hS => ?_)
    have hP : va_P G vwCl [(a_cs, .inr (0, [.ref a_cn, .ref a_cc, .ref a_cw, .ref a_cv])), (a_cn, .inl (cI, 16, .inl (fun j => nI (cnum j)))), (a_cc, .inl (cI, 96, .inl (fun j => nI ((va_up cch (q * 6 + (cnum q)) x) j)))), (a_cw, .inl (cI, 96, .inl (fun j => nI ((va_up cway (q * 6 + (cnum q)) w) j)))), (a_cv, .inl (cI, 96, .inl (va_up cval (q * 6 + (cnum q)) v)))] H := hP
    have hD : va_D A [(a_cs, .inr (0, [.ref a_cn, .ref a_cc, .ref a_cw, .ref a_cv])), (a_cn, .inl (cI, 16, .inl (fun j => nI (cnum j)))), (a_cc, .inl (cI, 96, .inl (fun j => nI ((va_up cch (q * 6 + (cnum q)) x) j)))), (a_cw, .inl (cI, 96, .inl (fun j => nI ((va_up cway (q * 6 + (cnum q)) w) j)))), (a_cv, .inl (cI, 96, .inl (va_up cval (q * 6 + (cnum q)) v)))] := hD
    refine lv_aload_n hx hb d_Cs_append_50 rfl (lv_at hl 1 rfl) ?_
    refine va_get (D := G) (ci := 0) (v := .ref a_cn) (C := R_Cs) (T := T_Cs) (N := 4) hx hb hts uw_Cs hown hK hP 0 rfl rfl 0 (by decide) (hts _ t_69) (fun _ h9 => h9) rfl d_Cs_append_51 ?_
    refine lv_iload_n hx hb d_Cs_append_54 rfl (lv_at hl 2 rfl) ?_
    refine lv_dup2_11 hx hb d_Cs_append_55 rfl rfl ?_
    refine k_iald hx hb hK hP 1 0 rfl rfl (by omega) (by decide) d_Cs_append_56 ?_
    refine lv_iconst (v := (nI 1)) hx hb d_Cs_append_57 (by decide +kernel) ?_
    refine lv_iadd hx hb d_Cs_append_58 ?_
    refine k_top (y := (nI ((cnum q) + 1))) (nI_add (cnum q) 1) ?_
    refine k_iastN hx hb hK hP hD hS 1 0 rfl rfl (by omega) (by decide) d_Cs_append_59 (fun H locs hP hD hS => ?_)
    have hP : va_P G vwCl [(a_cs, .inr (0, [.ref a_cn, .ref a_cc, .ref a_cw, .ref a_cv])), (a_cn, .inl (cI, 16, .inl (fun j => nI ((va_up cnum q ((cnum q) + 1)) j)))), (a_cc, .inl (cI, 96, .inl (fun j => nI ((va_up cch (q * 6 + (cnum q)) x) j)))), (a_cw, .inl (cI, 96, .inl (fun j => nI ((va_up cway (q * 6 + (cnum q)) w) j)))), (a_cv, .inl (cI, 96, .inl (va_up cval (q * 6 + (cnum q)) v)))] H := hP
    have hD : va_D A [(a_cs, .inr (0, [.ref a_cn, .ref a_cc, .ref a_cw, .ref a_cv])), (a_cn, .inl (cI, 16, .inl (fun j => nI ((va_up cnum q ((cnum q) + 1)) j)))), (a_cc, .inl (cI, 96, .inl (fun j => nI ((va_up cch (q * 6 + (cnum q)) x) j)))), (a_cw, .inl (cI, 96, .inl (fun j => nI ((va_up cway (q * 6 + (cnum q)) w) j)))), (a_cv, .inl (cI, 96, .inl (va_up cval (q * 6 + (cnum q)) v)))] := hD
    refine lv_aload_n hx hb d_Cs_append_60 rfl (lv_at hl 1 rfl) ?_
    refine va_get (D := G) (ci := 0) (v := .ref a_cn) (C := R_Cs) (T := T_Cs) (N := 4) hx hb hts uw_Cs hown hK hP 0 rfl rfl 0 (by decide) (hts _ t_69) (fun _ h9 => h9) rfl d_Cs_append_61 ?_
    refine lv_iload_n hx hb d_Cs_append_64 rfl (lv_at hl 2 rfl) ?_
    refine k_iald hx hb hK hP 1 0 rfl rfl (by omega) (by decide) d_Cs_append_65 ?_
    exact k_wi hx hb hr hlocks hP hS (va_up cnum q ((cnum q) + 1), va_up cch (q * 6 + (cnum q)) x, va_up cway (q * 6 + (cnum q)) w, va_up cval (q * 6 + (cnum q)) v) (rfl) (⟨by rw [if_pos (show (cs q).length < 6 by omega), va_up_self, hh], by rw [addC, if_pos (show (cs q).length < 6 by omega)]; exact hC.add hq v hx0 hw0 (by omega)⟩) d_Cs_append_66
  · refine lv_iconst (v := (-1)) hx hb d_Cs_append_11 (by decide +kernel) ?_
    exact k_wi hx hb hr hlocks hP hS (cnum, cch, cway, cval) (rfl) (⟨by rw [if_neg (show ¬ (cs q).length < 6 by omega)], by rw [addC, if_neg (show ¬ (cs q).length < 6 by omega)]; exact hC⟩) d_Cs_append_12
set_option maxHeartbeats 4000000 in
set_option maxRecDepth 100000 in
theorem c_Cs_channelAt (l : Launch) (G : va_G) (cI cZ cJ : ClassId) (a_cs : Nat) (a_cn : Nat) (a_cc : Nat) (a_cw : Nat) (a_cv : Nat) (cch : Nat → Nat) (cnum : Nat → Nat) (cway : Nat → Nat) (cval : Nat → Int32) (cs : Nat → List Kase) (q : Nat) (i : Nat) (hq : q < 16) (hC : RelC cnum cch cway cval cs) (hi : i < (cs q).length) : Met l y_Cs_channelAt (w_Cs_channelAt) ({ frames := 0, cells := 0, slots := 0, locals := 0 }) (va_Pc [.ref a_cs, .int (nI (q * 6 + i))] (kR G vwCl [(cI, .int), (cZ, .boolean), (cJ, .long)] [(a_cs, .inr (0, [.ref a_cn, .ref a_cc, .ref a_cw, .ref a_cv])), (a_cc, .inl (cI, 96, .inl (fun j => nI (cch j))))])) (QcRead ((nI ((kAt cs q i).1)))) 0 0 (fun _ => False) := by
  refine Met.ofW (cc := b_Cs_channelAt) (maxL := 2) (ret := (some .int)) (by decide) rfl ?_
  intro p e s m args below meth c s₁ B hml hv
  obtain ⟨rfl, hP, hK⟩ := hv
  have hx := B.exec
  have hb := B.bytes
  have hr := B.returns
  have hts : ∀ w ∈ TT, w.before _ s = true := fun w h => atoms_spec (ws := (w_Cs_channelAt)) B.pre w (List.mem_cons_of_mem _ h)
  have hown : s.vm.findClass R_Cs = some m.cls := findClass_of_methodNamed B.named
  have hlocks := B.notSynchronized
  have hP : va_P G vwCl [(a_cs, .inr (0, [.ref a_cn, .ref a_cc, .ref a_cw, .ref a_cv])), (a_cc, .inl (cI, 96, .inl (fun j => nI (cch j))))] s.heap := hP
  have hl := lv_entry ([.ref a_cs, .int (nI (q * 6 + i))]) (n := 2) (Nat.le_of_ble_eq_true rfl)
  rw [lg_entry_eq]
  generalize (lg_sl ([.ref a_cs, .int (nI (q * 6 + i))]) ++ List.replicate (2 - (lg_sl ([.ref a_cs, .int (nI (q * 6 + i))])).length) Slot.unset).toArray = ls at hl ⊢
  have hl : lv_has ls 2 [(0, .ref a_cs), (1, .int (nI (q * 6 + i)))] := hl
  obtain ⟨hh, hh2, hh3⟩ := hC q hq
  refine lv_aload_n hx hb d_Cs_channelAt_0 rfl (lv_at hl 0 rfl) ?_
  refine va_get (D := G) (ci := 0) (v := .ref a_cc) (C := R_Cs) (T := T_Cs) (N := 4) hx hb hts uw_Cs hown hK hP 0 rfl rfl 1 (by decide) (hts _ t_70) (fun _ h9 => h9) rfl d_Cs_channelAt_1 ?_
  refine lv_iload_n hx hb d_Cs_channelAt_4 rfl (lv_at hl 1 rfl) ?_
  refine k_iald hx hb hK hP 1 0 rfl rfl (by omega) (by decide) d_Cs_channelAt_5 ?_
  exact k_ri hx hb hr hlocks (by rw [kAt, List.getD_eq_getElem?_getD, List.getElem?_eq_getElem hi]; exact congrArg nI (hh3 i hi).1) d_Cs_channelAt_6
set_option maxHeartbeats 4000000 in
set_option maxRecDepth 100000 in
theorem c_Cs_wayAt (l : Launch) (G : va_G) (cI cZ cJ : ClassId) (a_cs : Nat) (a_cn : Nat) (a_cc : Nat) (a_cw : Nat) (a_cv : Nat) (cway : Nat → Nat) (cnum : Nat → Nat) (cch : Nat → Nat) (cval : Nat → Int32) (cs : Nat → List Kase) (q : Nat) (i : Nat) (hq : q < 16) (hC : RelC cnum cch cway cval cs) (hi : i < (cs q).length) : Met l y_Cs_wayAt (w_Cs_wayAt) ({ frames := 0, cells := 0, slots := 0, locals := 0 }) (va_Pc [.ref a_cs, .int (nI (q * 6 + i))] (kR G vwCl [(cI, .int), (cZ, .boolean), (cJ, .long)] [(a_cs, .inr (0, [.ref a_cn, .ref a_cc, .ref a_cw, .ref a_cv])), (a_cw, .inl (cI, 96, .inl (fun j => nI (cway j))))])) (QcRead ((nI ((kAt cs q i).2.1)))) 0 0 (fun _ => False) := by
  refine Met.ofW (cc := b_Cs_wayAt) (maxL := 2) (ret := (some .int)) (by decide) rfl ?_
  intro p e s m args below meth c s₁ B hml hv
  obtain ⟨rfl, hP, hK⟩ := hv
  have hx := B.exec
  have hb := B.bytes
  have hr := B.returns
  have hts : ∀ w ∈ TT, w.before _ s = true := fun w h => atoms_spec (ws := (w_Cs_wayAt)) B.pre w (List.mem_cons_of_mem _ h)
  have hown : s.vm.findClass R_Cs = some m.cls := findClass_of_methodNamed B.named
  have hlocks := B.notSynchronized
  have hP : va_P G vwCl [(a_cs, .inr (0, [.ref a_cn, .ref a_cc, .ref a_cw, .ref a_cv])), (a_cw, .inl (cI, 96, .inl (fun j => nI (cway j))))] s.heap := hP
  have hl := lv_entry ([.ref a_cs, .int (nI (q * 6 + i))]) (n := 2) (Nat.le_of_ble_eq_true rfl)
  rw [lg_entry_eq]
  generalize (lg_sl ([.ref a_cs, .int (nI (q * 6 + i))]) ++ List.replicate (2 - (lg_sl ([.ref a_cs, .int (nI (q * 6 + i))])).length) Slot.unset).toArray = ls at hl ⊢
  have hl : lv_has ls 2 [(0, .ref a_cs), (1, .int (nI (q * 6 + i)))] := hl
  obtain ⟨hh, hh2, hh3⟩ := hC q hq
  refine lv_aload_n hx hb d_Cs_wayAt_0 rfl (lv_at hl 0 rfl) ?_
  refine va_get (D := G) (ci := 0) (v := .ref a_cw) (C := R_Cs) (T := T_Cs) (N := 4) hx hb hts uw_Cs hown hK hP 0 rfl rfl 2 (by decide) (hts _ t_71) (fun _ h9 => h9) rfl d_Cs_wayAt_1 ?_
  refine lv_iload_n hx hb d_Cs_wayAt_4 rfl (lv_at hl 1 rfl) ?_
  refine k_iald hx hb hK hP 1 0 rfl rfl (by omega) (by decide) d_Cs_wayAt_5 ?_
  exact k_ri hx hb hr hlocks (by rw [kAt, List.getD_eq_getElem?_getD, List.getElem?_eq_getElem hi]; exact congrArg nI (hh3 i hi).2.1) d_Cs_wayAt_6
set_option maxHeartbeats 4000000 in
set_option maxRecDepth 100000 in
theorem c_Cs_valueAt (l : Launch) (G : va_G) (cI cZ cJ : ClassId) (a_cs : Nat) (a_cn : Nat) (a_cc : Nat) (a_cw : Nat) (a_cv : Nat) (cval : Nat → Int32) (cnum : Nat → Nat) (cch : Nat → Nat) (cway : Nat → Nat) (cs : Nat → List Kase) (q : Nat) (i : Nat) (hq : q < 16) (hC : RelC cnum cch cway cval cs) (hi : i < (cs q).length) : Met l y_Cs_valueAt (w_Cs_valueAt) ({ frames := 0, cells := 0, slots := 0, locals := 0 }) (va_Pc [.ref a_cs, .int (nI (q * 6 + i))] (kR G vwCl [(cI, .int), (cZ, .boolean), (cJ, .long)] [(a_cs, .inr (0, [.ref a_cn, .ref a_cc, .ref a_cw, .ref a_cv])), (a_cv, .inl (cI, 96, .inl cval))])) (QcRead (((kAt cs q i).2.2))) 0 0 (fun _ => False) := by
  refine Met.ofW (cc := b_Cs_valueAt) (maxL := 2) (ret := (some .int)) (by decide) rfl ?_
  intro p e s m args below meth c s₁ B hml hv
  obtain ⟨rfl, hP, hK⟩ := hv
  have hx := B.exec
  have hb := B.bytes
  have hr := B.returns
  have hts : ∀ w ∈ TT, w.before _ s = true := fun w h => atoms_spec (ws := (w_Cs_valueAt)) B.pre w (List.mem_cons_of_mem _ h)
  have hown : s.vm.findClass R_Cs = some m.cls := findClass_of_methodNamed B.named
  have hlocks := B.notSynchronized
  have hP : va_P G vwCl [(a_cs, .inr (0, [.ref a_cn, .ref a_cc, .ref a_cw, .ref a_cv])), (a_cv, .inl (cI, 96, .inl cval))] s.heap := hP
  have hl := lv_entry ([.ref a_cs, .int (nI (q * 6 + i))]) (n := 2) (Nat.le_of_ble_eq_true rfl)
  rw [lg_entry_eq]
  generalize (lg_sl ([.ref a_cs, .int (nI (q * 6 + i))]) ++ List.replicate (2 - (lg_sl ([.ref a_cs, .int (nI (q * 6 + i))])).length) Slot.unset).toArray = ls at hl ⊢
  have hl : lv_has ls 2 [(0, .ref a_cs), (1, .int (nI (q * 6 + i)))] := hl
  obtain ⟨hh, hh2, hh3⟩ := hC q hq
  refine lv_aload_n hx hb d_Cs_valueAt_0 rfl (lv_at hl 0 rfl) ?_
  refine va_get (D := G) (ci := 0) (v := .ref a_cv) (C := R_Cs) (T := T_Cs) (N := 4) hx hb hts uw_Cs hown hK hP 0 rfl rfl 3 (by decide) (hts _ t_72) (fun _ h9 => h9) rfl d_Cs_valueAt_1 ?_
  refine lv_iload_n hx hb d_Cs_valueAt_4 rfl (lv_at hl 1 rfl) ?_
  refine k_iald hx hb hK hP 1 0 rfl rfl (by omega) (by decide) d_Cs_valueAt_5 ?_
  exact k_ri hx hb hr hlocks (by rw [kAt, List.getD_eq_getElem?_getD, List.getElem?_eq_getElem hi]; exact (hh3 i hi).2.2.1) d_Cs_valueAt_6
set_option maxHeartbeats 4000000 in
set_option maxRecDepth 100000 in
theorem c_Ln_empty (l : Launch) (G : va_G) (cI cZ cJ : ClassId) (sz : Nat) (a_ln : Nat) (a_mm : Nat) (len : Nat)  : Met l y_Ln_empty (w_Ln_empty) ({ frames := 0, cells := 0, slots := 0, locals := 0 }) (va_Pc [.ref a_ln] (kW G vwCl [(cI, .int), (cZ, .boolean), (cJ, .long)] [(a_ln, .inr (2, [.ref a_mm, .int (nI len)]))] sz)) (va_Qv (fun (u : Unit) => True) (fun u t => va_P G vwCl [(a_ln, .inr (2, [.ref a_mm, .int (nI 0)]))] t.heap) (va_A [(a_ln, .inr (2, [.ref a_mm, .int (nI len)]))] sz)) 0 0 (va_A [(a_ln, .inr (2, [.ref a_mm, .int (nI len)]))] sz) := by
  refine Met.ofW (cc := b_Ln_empty) (maxL := 1) (ret := none) (by decide) rfl ?_
  intro p e s m args below meth c s₁ B hml hv
  obtain ⟨rfl, hsz, hP, hK, hD0⟩ := hv
  have hx := B.exec
  have hb := B.bytes
  have hr := B.returns
  have hts : ∀ w ∈ TT, w.before _ s = true := fun w h => atoms_spec (ws := (w_Ln_empty)) B.pre w (List.mem_cons_of_mem _ h)
  have hown : s.vm.findClass R_Ln = some m.cls := findClass_of_methodNamed B.named
  have hlocks := B.notSynchronized
  subst hsz
  have hD := hD0.self (sz := s.heap.size)
  generalize hAe : va_A [(a_ln, .inr (2, [.ref a_mm, .int (nI len)]))] s.heap.size = A at hD ⊢
  have hA : ∀ q : Nat, s.heap.size ≤ q → A q := fun q h => by rw [← hAe]; exact Or.inr h
  have hS : va_S A s.heap s.heap [] := va_S.rf
  have hP : va_P G vwCl [(a_ln, .inr (2, [.ref a_mm, .int (nI len)]))] s.heap := hP
  have hl := lv_entry ([.ref a_ln]) (n := 1) (Nat.le_of_ble_eq_true rfl)
  rw [lg_entry_eq]
  generalize (lg_sl ([.ref a_ln]) ++ List.replicate (1 - (lg_sl ([.ref a_ln])).length) Slot.unset).toArray = ls at hl ⊢
  have hl : lv_has ls 1 [(0, .ref a_ln)] := hl
  refine lv_aload_n hx hb d_Ln_empty_0 rfl (lv_at hl 0 rfl) ?_
  refine lv_iconst (v := (nI 0)) hx hb d_Ln_empty_1 (by decide +kernel) ?_
  refine va_put (D := G) (ci := 2) (v := .int (nI 0)) (ty := .int) (C := R_Ln) (T := T_Ln) (N := 2) hx hb hts uw_Ln ty_Ln tyok_Ln nm_Ln hown hK hP hD hS 0 rfl rfl 1 (by decide) (hts _ t_83) (fun _ h9 => h9) rfl (by decide +kernel) rfl rfl (Nat.le_of_ble_eq_true rfl) d_Ln_empty_2 (fun H locs hP hD hS => ?_)
  have hP : va_P G vwCl [(a_ln, .inr (2, [.ref a_mm, .int (nI 0)]))] H := hP
  have hD : va_D A [(a_ln, .inr (2, [.ref a_mm, .int (nI 0)]))] := hD
  exact k_wv hx hb hr hlocks hP hS () (rfl) (trivial) d_Ln_empty_5
set_option maxHeartbeats 4000000 in
set_option maxRecDepth 100000 in
theorem c_Ln_length (l : Launch) (G : va_G) (cI cZ cJ : ClassId) (a_ln : Nat) (a_mm : Nat) (len : Nat) (mem : Nat → Nat) (line : List Nat) (hL : RelL len mem line) : Met l y_Ln_length (w_Ln_length) ({ frames := 0, cells := 0, slots := 0, locals := 0 }) (va_Pc [.ref a_ln] (kR G vwCl [(cI, .int), (cZ, .boolean), (cJ, .long)] [(a_ln, .inr (2, [.ref a_mm, .int (nI len)]))])) (QcRead ((nI line.length))) 0 0 (fun _ => False) := by
  refine Met.ofW (cc := b_Ln_length) (maxL := 1) (ret := (some .int)) (by decide) rfl ?_
  intro p e s m args below meth c s₁ B hml hv
  obtain ⟨rfl, hP, hK⟩ := hv
  have hx := B.exec
  have hb := B.bytes
  have hr := B.returns
  have hts : ∀ w ∈ TT, w.before _ s = true := fun w h => atoms_spec (ws := (w_Ln_length)) B.pre w (List.mem_cons_of_mem _ h)
  have hown : s.vm.findClass R_Ln = some m.cls := findClass_of_methodNamed B.named
  have hlocks := B.notSynchronized
  have hP : va_P G vwCl [(a_ln, .inr (2, [.ref a_mm, .int (nI len)]))] s.heap := hP
  have hl := lv_entry ([.ref a_ln]) (n := 1) (Nat.le_of_ble_eq_true rfl)
  rw [lg_entry_eq]
  generalize (lg_sl ([.ref a_ln]) ++ List.replicate (1 - (lg_sl ([.ref a_ln])).length) Slot.unset).toArray = ls at hl ⊢
  have hl : lv_has ls 1 [(0, .ref a_ln)] := hl
  refine lv_aload_n hx hb d_Ln_length_0 rfl (lv_at hl 0 rfl) ?_
  refine va_get (D := G) (ci := 2) (v := .int (nI len)) (C := R_Ln) (T := T_Ln) (N := 2) hx hb hts uw_Ln hown hK hP 0 rfl rfl 1 (by decide) (hts _ t_83) (fun _ h9 => h9) rfl d_Ln_length_1 ?_
  exact k_ri hx hb hr hlocks (congrArg nI hL.1) d_Ln_length_4
set_option maxHeartbeats 4000000 in
set_option maxRecDepth 100000 in
theorem c_Ln_memberAt (l : Launch) (G : va_G) (cI cZ cJ : ClassId) (a_ln : Nat) (a_mm : Nat) (len : Nat) (mem : Nat → Nat) (line : List Nat) (i : Nat) (hL : RelL len mem line) (hi : i < line.length) : Met l y_Ln_memberAt (w_Ln_memberAt) ({ frames := 0, cells := 0, slots := 0, locals := 0 }) (va_Pc [.ref a_ln, .int (nI i)] (kR G vwCl [(cI, .int), (cZ, .boolean), (cJ, .long)] [(a_ln, .inr (2, [.ref a_mm, .int (nI len)])), (a_mm, .inl (cI, 16, .inl (fun j => nI (mem j))))])) (QcRead ((nI (line.getD i 0)))) 0 0 (fun _ => False) := by
  refine Met.ofW (cc := b_Ln_memberAt) (maxL := 2) (ret := (some .int)) (by decide) rfl ?_
  intro p e s m args below meth c s₁ B hml hv
  obtain ⟨rfl, hP, hK⟩ := hv
  have hx := B.exec
  have hb := B.bytes
  have hr := B.returns
  have hts : ∀ w ∈ TT, w.before _ s = true := fun w h => atoms_spec (ws := (w_Ln_memberAt)) B.pre w (List.mem_cons_of_mem _ h)
  have hown : s.vm.findClass R_Ln = some m.cls := findClass_of_methodNamed B.named
  have hlocks := B.notSynchronized
  have hP : va_P G vwCl [(a_ln, .inr (2, [.ref a_mm, .int (nI len)])), (a_mm, .inl (cI, 16, .inl (fun j => nI (mem j))))] s.heap := hP
  have hl := lv_entry ([.ref a_ln, .int (nI i)]) (n := 2) (Nat.le_of_ble_eq_true rfl)
  rw [lg_entry_eq]
  generalize (lg_sl ([.ref a_ln, .int (nI i)]) ++ List.replicate (2 - (lg_sl ([.ref a_ln, .int (nI i)])).length) Slot.unset).toArray = ls at hl ⊢
  have hl : lv_has ls 2 [(0, .ref a_ln), (1, .int (nI i))] := hl
  have hh := hL.2.1
  refine lv_aload_n hx hb d_Ln_memberAt_0 rfl (lv_at hl 0 rfl) ?_
  refine va_get (D := G) (ci := 2) (v := .ref a_mm) (C := R_Ln) (T := T_Ln) (N := 2) hx hb hts uw_Ln hown hK hP 0 rfl rfl 0 (by decide) (hts _ t_82) (fun _ h9 => h9) rfl d_Ln_memberAt_1 ?_
  refine lv_iload_n hx hb d_Ln_memberAt_4 rfl (lv_at hl 1 rfl) ?_
  refine k_iald hx hb hK hP 1 0 rfl rfl (by omega) (by decide) d_Ln_memberAt_5 ?_
  exact k_ri hx hb hr hlocks (by rw [List.getD_eq_getElem?_getD, List.getElem?_eq_getElem hi]; exact congrArg nI (hL.2.2 i hi).1) d_Ln_memberAt_6
set_option maxHeartbeats 4000000 in
set_option maxRecDepth 100000 in
theorem c_Ln_join (l : Launch) (G : va_G) (cI cZ cJ : ClassId) (sz : Nat) (a_ln : Nat) (a_mm : Nat) (len : Nat) (mem : Nat → Nat) (line : List Nat) (q : Nat) (hq : q < 16) (hL : RelL len mem line) (hlt : line.length < 16) : Met l y_Ln_join (w_Ln_join) ({ frames := 0, cells := 0, slots := 0, locals := 0 }) (va_Pc [.ref a_ln, .int (nI q)] (kW G vwCl [(cI, .int), (cZ, .boolean), (cJ, .long)] [(a_ln, .inr (2, [.ref a_mm, .int (nI len)])), (a_mm, .inl (cI, 16, .inl (fun j => nI (mem j))))] sz)) (va_Qv (fun (u : Nat × (Nat → Nat)) => RelL u.1 u.2 (line ++ [q])) (fun u t => va_P G vwCl [(a_ln, .inr (2, [.ref a_mm, .int (nI u.1)])), (a_mm, .inl (cI, 16, .inl (fun j => nI (u.2 j))))] t.heap) (va_A [(a_ln, .inr (2, [.ref a_mm, .int (nI len)])), (a_mm, .inl (cI, 16, .inl (fun j => nI (mem j))))] sz)) 0 0 (va_A [(a_ln, .inr (2, [.ref a_mm, .int (nI len)])), (a_mm, .inl (cI, 16, .inl (fun j => nI (mem j))))] sz) := by
  refine Met.ofW (cc := b_Ln_join) (maxL := 2) (ret := none) (by decide) rfl ?_
  intro p e s m args below meth c s₁ B hml hv
  obtain ⟨rfl, hsz, hP, hK, hD0⟩ := hv
  have hx := B.exec
  have hb := B.bytes
  have hr := B.returns
  have hts : ∀ w ∈ TT, w.before _ s = true := fun w h => atoms_spec (ws := (w_Ln_join)) B.pre w (List.mem_cons_of_mem _ h)
  have hown : s.vm.findClass R_Ln = some m.cls := findClass_of_methodNamed B.named
  have hlocks := B.notSynchronized
  subst hsz
  have hD := hD0.self (sz := s.heap.size)
  generalize hAe : va_A [(a_ln, .inr (2, [.ref a_mm, .int (nI len)])), (a_mm, .inl (cI, 16, .inl (fun j => nI (mem j))))] s.heap.size = A at hD ⊢
  have hA : ∀ q : Nat, s.heap.size ≤ q → A q := fun q h => by rw [← hAe]; exact Or.inr h
  have hS : va_S A s.heap s.heap [] := va_S.rf
  have hP : va_P G vwCl [(a_ln, .inr (2, [.ref a_mm, .int (nI len)])), (a_mm, .inl (cI, 16, .inl (fun j => nI (mem j))))] s.heap := hP
  have hl := lv_entry ([.ref a_ln, .int (nI q)]) (n := 2) (Nat.le_of_ble_eq_true rfl)
  rw [lg_entry_eq]
  generalize (lg_sl ([.ref a_ln, .int (nI q)]) ++ List.replicate (2 - (lg_sl ([.ref a_ln, .int (nI q)])).length) Slot.unset).toArray = ls at hl ⊢
  have hl : lv_has ls 2 [(0, .ref a_ln), (1, .int (nI q))] := hl
  have hh := hL.1
  refine lv_aload_n hx hb d_Ln_join_0 rfl (lv_at hl 0 rfl) ?_
  refine va_get (D := G) (ci := 2) (v := .int (nI len)) (C := R_Ln) (T := T_Ln) (N := 2) hx hb hts uw_Ln hown hK hP 0 rfl rfl 1 (by decide) (hts _ t_83) (fun _ h9 => h9) rfl d_Ln_join_1 ?_
  refine lv_bipush (v := (nI 16)) hx hb d_Ln_join_4 (by decide +kernel) ?_
  refine n_icmp_ge (tgt := 29) hx hb d_Ln_join_6 (by decide) (by omega) (by decide) (fun c_a => absurd c_a (Nat.not_le.mpr (show len < 16 by omega))) (fun c_a => ?_)
  refine lv_aload_n hx hb d_Ln_join_9 rfl (lv_at hl 0 rfl) ?_
  refine va_get (D := G) (ci := 2) (v := .ref a_mm) (C := R_Ln) (T := T_Ln) (N := 2) hx hb hts uw_Ln hown hK hP 0 rfl rfl 0 (by decide) (hts _ t_82) (fun _ h9 => h9) rfl d_Ln_join_10 ?_
  refine lv_aload_n hx hb d_Ln_join_13 rfl (lv_at hl 0 rfl) ?_
  refine va_get (D := G) (ci := 2) (v := .int (nI len)) (C := R_Ln) (T := T_Ln) (N := 2) hx hb hts uw_Ln hown hK hP 0 rfl rfl 1 (by decide) (hts _ t_83) (fun _ h9 => h9) rfl d_Ln_join_14 ?_
  refine lv_iload_n hx hb d_Ln_join_17 rfl (lv_at hl 1 rfl) ?_
  refine k_iastN hx hb hK hP hD hS 1 0 rfl rfl (by omega) (by decide) d_Ln_join_18 (fun H locs hP hD hS => ?_)
  have hP : va_P G vwCl [(a_ln, .inr (2, [.ref a_mm, .int (nI len)])), (a_mm, .inl (cI, 16, .inl (fun j => nI ((va_up mem len q) j))))] H := hP
  have hD : va_D A [(a_ln, .inr (2, [.ref a_mm, .int (nI len)])), (a_mm, .inl (cI, 16, .inl (fun j => nI ((va_up mem len q) j))))] := hD
  refine lv_aload_n hx hb d_Ln_join_19 rfl (lv_at hl 0 rfl) ?_
  refine lv_dup hx hb d_Ln_join_20 rfl ?_
  refine va_get (D := G) (ci := 2) (v := .int (nI len)) (C := R_Ln) (T := T_Ln) (N := 2) hx hb hts uw_Ln hown hK hP 0 rfl rfl 1 (by decide) (hts _ t_83) (fun _ h9 => h9) rfl d_Ln_join_21 ?_
  refine lv_iconst (v := (nI 1)) hx hb d_Ln_join_24 (by decide +kernel) ?_
  refine lv_iadd hx hb d_Ln_join_25 ?_
  refine k_top (y := (nI (len + 1))) (nI_add len 1) ?_
  refine va_put (D := G) (ci := 2) (v := .int (nI (len + 1))) (ty := .int) (C := R_Ln) (T := T_Ln) (N := 2) hx hb hts uw_Ln ty_Ln tyok_Ln nm_Ln hown hK hP hD hS 0 rfl rfl 1 (by decide) (hts _ t_83) (fun _ h9 => h9) rfl (by decide +kernel) rfl rfl (Nat.le_of_ble_eq_true rfl) d_Ln_join_26 (fun H locs hP hD hS => ?_)
  have hP : va_P G vwCl [(a_ln, .inr (2, [.ref a_mm, .int (nI (len + 1))])), (a_mm, .inl (cI, 16, .inl (fun j => nI ((va_up mem len q) j))))] H := hP
  have hD : va_D A [(a_ln, .inr (2, [.ref a_mm, .int (nI (len + 1))])), (a_mm, .inl (cI, 16, .inl (fun j => nI ((va_up mem len q) j))))] := hD
  exact k_wv hx hb hr hlocks hP hS (len + 1, va_up mem len q) (rfl) (hL.join hq hlt) d_Ln_join_29
