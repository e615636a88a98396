set_option maxHeartbeats 4000000 in
set_option maxRecDepth 100000 in
theorem c_Ch_init (l : Launch) (G : va_G) (cI cZ cJ : ClassId) (sz : Nat) (a_ch : Nat) : Met l y_Ch_init (w_Ch_init) ({ frames := 1, cells := 4, slots := 440, locals := 14 }) (va_Pc [.ref a_ch] (kW G vwCl [(cI, .int), (cZ, .boolean), (cJ, .long)] [(a_ch, .inr (1, [.null, .null, .null, .null, .int (nI 0)]))] sz)) (va_Qv (fun (u : Nat × Nat × Nat × Nat) => True) (fun u t => va_P G vwCl [(a_ch, .inr (1, [.ref u.1, .ref u.2.1, .ref u.2.2.1, .ref u.2.2.2, .int (nI 0)])), (u.1, .inl (cI, 40, .inl (fun j => nI ((fun _ => 0) j)))), (u.2.1, .inl (cI, 40, .inl (fun j => nI ((fun _ => 0) j)))), (u.2.2.1, .inl (cZ, 40, .inl (fun j => bI ((fun _ => false) j)))), (u.2.2.2, .inl (cI, 320, .inl (fun _ => nI 0)))] t.heap ∧ va_D (va_A [(a_ch, .inr (1, [.null, .null, .null, .null, .int (nI 0)]))] sz) [(a_ch, .inr (1, [.ref u.1, .ref u.2.1, .ref u.2.2.1, .ref u.2.2.2, .int (nI 0)])), (u.1, .inl (cI, 40, .inl (fun j => nI ((fun _ => 0) j)))), (u.2.1, .inl (cI, 40, .inl (fun j => nI ((fun _ => 0) j)))), (u.2.2.1, .inl (cZ, 40, .inl (fun j => bI ((fun _ => false) j)))), (u.2.2.2, .inl (cI, 320, .inl (fun _ => nI 0)))]) (va_A [(a_ch, .inr (1, [.null, .null, .null, .null, .int (nI 0)]))] sz)) 4 440 (va_A [(a_ch, .inr (1, [.null, .null, .null, .null, .int (nI 0)]))] sz) := by
  refine Met.ofW (cc := b_Ch_init) (maxL := 1) (ret := none) (by decide) rfl ?_
  intro p e s m args below meth c s₁ B hml hv
  obtain ⟨rfl, hsz, hP, hK, hD0⟩ := hv
  have hx := B.exec
  have hb := B.bytes
  have hr := B.returns
  have hts : ∀ w ∈ TT, w.before _ s = true := fun w h => atoms_spec (ws := (w_Ch_init)) B.pre w (List.mem_cons_of_mem _ h)
  have hown : s.vm.findClass R_Ch = some m.cls := findClass_of_methodNamed B.named
  have hlocks := B.notSynchronized
  have hin : meth.name = "<init>" := (name_of_methodNamed B.named B.method).1
  subst hsz
  have hD := hD0.self (sz := s.heap.size)
  generalize hAe : va_A [(a_ch, .inr (1, [.null, .null, .null, .null, .int (nI 0)]))] s.heap.size = A at hD ⊢
  have hA : ∀ q : Nat, s.heap.size ≤ q → A q := fun q h => by rw [← hAe]; exact Or.inr h
  have hS : va_S A s.heap s.heap [] := va_S.rf
  have hP : va_P G vwCl [(a_ch, .inr (1, [.null, .null, .null, .null, .int (nI 0)]))] s.heap := hP
  have hl := lv_entry ([.ref a_ch]) (n := 1) (Nat.le_of_ble_eq_true rfl)
  rw [lg_entry_eq]
  generalize (lg_sl ([.ref a_ch]) ++ List.replicate (1 - (lg_sl ([.ref a_ch])).length) Slot.unset).toArray = ls at hl ⊢
  have hl : lv_has ls 1 [(0, .ref a_ch)] := hl
  refine lv_aload_n hx hb d_Ch_init_0 rfl (lv_at hl 0 rfl) ?_
  refine W.objInit hx hb hown (hts _ t_51) (hts _ t_45) (hts _ t_46) rfl (by rw [hml]; exact hl.1) rfl d_Ch_init_1 (Nat.le_of_ble_eq_true rfl) (Nat.le_of_ble_eq_true rfl) ?_
  refine W.eq (g2 := F0 m 4 ls []) rfl ?_
  refine lv_aload_n hx hb d_Ch_init_4 rfl (lv_at hl 0 rfl) ?_
  refine lv_bipush (v := nI 40) hx hb d_Ch_init_5 (by decide +kernel) ?_
  refine k_newa (atype := .int) (ty := .int) (a0 := (40, .inl (fun j => nI ((fun _ => 0) j)))) hx hb (hts _ t_62) rfl hK hP hD hS hA 0 rfl (fun cA => rfl) (by decide) rfl (by decide) (Nat.le_of_ble_eq_true rfl) (Nat.le_of_ble_eq_true rfl) d_Ch_init_7 (fun a_rm H hP hD hS => ?_)
  have hP : va_P G vwCl [(a_ch, .inr (1, [.null, .null, .null, .null, .int (nI 0)])), (a_rm, .inl (cI, 40, .inl (fun j => nI ((fun _ => 0) j))))] H := hP
  have hD : va_D A [(a_ch, .inr (1, [.null, .null, .null, .null, .int (nI 0)])), (a_rm, .inl (cI, 40, .inl (fun j => nI ((fun _ => 0) j))))] := hD
  refine W.widen (k := 1) (n := 40) (Nat.le_of_ble_eq_true rfl) (Nat.le_of_ble_eq_true rfl) ?_
  refine va_putF (D := G) (ci := 1) (v := .ref a_rm) (ty := .array .int) (C := R_Ch) (T := T_Ch) (N := 5) hx hb hts uw_Ch ty_Ch tyok_Ch nm_Ch hown hK hP hD hS 0 rfl rfl 0 (by decide) (hts _ t_52) (fun _ h9 => h9) rfl hin rfl (by decide +kernel) rfl rfl (Nat.le_of_ble_eq_true rfl) d_Ch_init_9 (fun H locs hP hD hS => ?_)
  have hP : va_P G vwCl [(a_ch, .inr (1, [.ref a_rm, .null, .null, .null, .int (nI 0)])), (a_rm, .inl (cI, 40, .inl (fun j => nI ((fun _ => 0) j))))] H := hP
  have hD : va_D A [(a_ch, .inr (1, [.ref a_rm, .null, .null, .null, .int (nI 0)])), (a_rm, .inl (cI, 40, .inl (fun j => nI ((fun _ => 0) j))))] := hD
  refine lv_aload_n hx hb d_Ch_init_12 rfl (lv_at hl 0 rfl) ?_
  refine lv_bipush (v := nI 40) hx hb d_Ch_init_13 (by decide +kernel) ?_
  refine k_newa (atype := .int) (ty := .int) (a0 := (40, .inl (fun j => nI ((fun _ => 0) j)))) hx hb (hts _ t_62) rfl hK hP hD hS hA 0 rfl (fun cA => rfl) (by decide) rfl (by decide) (Nat.le_of_ble_eq_true rfl) (Nat.le_of_ble_eq_true rfl) d_Ch_init_15 (fun a_hd H hP hD hS => ?_)
  have hP : va_P G vwCl [(a_ch, .inr (1, [.ref a_rm, .null, .null, .null, .int (nI 0)])), (a_rm, .inl (cI, 40, .inl (fun j => nI ((fun _ => 0) j)))), (a_hd, .inl (cI, 40, .inl (fun j => nI ((fun _ => 0) j))))] H := hP
  have hD : va_D A [(a_ch, .inr (1, [.ref a_rm, .null, .null, .null, .int (nI 0)])), (a_rm, .inl (cI, 40, .inl (fun j => nI ((fun _ => 0) j)))), (a_hd, .inl (cI, 40, .inl (fun j => nI ((fun _ => 0) j))))] := hD
  refine W.widen (k := 2) (n := 80) (Nat.le_of_ble_eq_true rfl) (Nat.le_of_ble_eq_true rfl) ?_
  refine va_putF (D := G) (ci := 1) (v := .ref a_hd) (ty := .array .int) (C := R_Ch) (T := T_Ch) (N := 5) hx hb hts uw_Ch ty_Ch tyok_Ch nm_Ch hown hK hP hD hS 0 rfl rfl 1 (by decide) (hts _ t_53) (fun _ h9 => h9) rfl hin rfl (by decide +kernel) rfl rfl (Nat.le_of_ble_eq_true rfl) d_Ch_init_17 (fun H locs hP hD hS => ?_)
  have hP : va_P G vwCl [(a_ch, .inr (1, [.ref a_rm, .ref a_hd, .null, .null, .int (nI 0)])), (a_rm, .inl (cI, 40, .inl (fun j => nI ((fun _ => 0) j)))), (a_hd, .inl (cI, 40, .inl (fun j => nI ((fun _ => 0) j))))] H := hP
  have hD : va_D A [(a_ch, .inr (1, [.ref a_rm, .ref a_hd, .null, .null, .int (nI 0)])), (a_rm, .inl (cI, 40, .inl (fun j => nI ((fun _ => 0) j)))), (a_hd, .inl (cI, 40, .inl (fun j => nI ((fun _ => 0) j))))] := hD
  refine lv_aload_n hx hb d_Ch_init_20 rfl (lv_at hl 0 rfl) ?_
  refine lv_bipush (v := nI 40) hx hb d_Ch_init_21 (by decide +kernel) ?_
  refine k_newa (atype := .boolean) (ty := .boolean) (a0 := (40, .inl (fun j => bI ((fun _ => false) j)))) hx hb (hts _ t_63) rfl hK hP hD hS hA 1 rfl (fun cA => rfl) (by decide) rfl (by decide) (Nat.le_of_ble_eq_true rfl) (Nat.le_of_ble_eq_true rfl) d_Ch_init_23 (fun a_sh H hP hD hS => ?_)
  have hP : va_P G vwCl [(a_ch, .inr (1, [.ref a_rm, .ref a_hd, .null, .null, .int (nI 0)])), (a_rm, .inl (cI, 40, .inl (fun j => nI ((fun _ => 0) j)))), (a_hd, .inl (cI, 40, .inl (fun j => nI ((fun _ => 0) j)))), (a_sh, .inl (cZ, 40, .inl (fun j => bI ((fun _ => false) j))))] H := hP
  have hD : va_D A [(a_ch, .inr (1, [.ref a_rm, .ref a_hd, .null, .null, .int (nI 0)])), (a_rm, .inl (cI, 40, .inl (fun j => nI ((fun _ => 0) j)))), (a_hd, .inl (cI, 40, .inl (fun j => nI ((fun _ => 0) j)))), (a_sh, .inl (cZ, 40, .inl (fun j => bI ((fun _ => false) j))))] := hD
  refine W.widen (k := 3) (n := 120) (Nat.le_of_ble_eq_true rfl) (Nat.le_of_ble_eq_true rfl) ?_
  refine va_putF (D := G) (ci := 1) (v := .ref a_sh) (ty := .array .boolean) (C := R_Ch) (T := T_Ch) (N := 5) hx hb hts uw_Ch ty_Ch tyok_Ch nm_Ch hown hK hP hD hS 0 rfl rfl 2 (by decide) (hts _ t_54) (fun _ h9 => h9) rfl hin rfl (by decide +kernel) rfl rfl (Nat.le_of_ble_eq_true rfl) d_Ch_init_25 (fun H locs hP hD hS => ?_)
  have hP : va_P G vwCl [(a_ch, .inr (1, [.ref a_rm, .ref a_hd, .ref a_sh, .null, .int (nI 0)])), (a_rm, .inl (cI, 40, .inl (fun j => nI ((fun _ => 0) j)))), (a_hd, .inl (cI, 40, .inl (fun j => nI ((fun _ => 0) j)))), (a_sh, .inl (cZ, 40, .inl (fun j => bI ((fun _ => false) j))))] H := hP
  have hD : va_D A [(a_ch, .inr (1, [.ref a_rm, .ref a_hd, .ref a_sh, .null, .int (nI 0)])), (a_rm, .inl (cI, 40, .inl (fun j => nI ((fun _ => 0) j)))), (a_hd, .inl (cI, 40, .inl (fun j => nI ((fun _ => 0) j)))), (a_sh, .inl (cZ, 40, .inl (fun j => bI ((fun _ => false) j))))] := hD
  refine lv_aload_n hx hb d_Ch_init_28 rfl (lv_at hl 0 rfl) ?_
  refine lv_sipush (v := nI 320) hx hb d_Ch_init_29 (by decide +kernel) ?_
  refine k_newa (atype := .int) (ty := .int) (a0 := (320, .inl (fun _ => nI 0))) hx hb (hts _ t_62) rfl hK hP hD hS hA 0 rfl (fun cA => rfl) (by decide) rfl (by decide) (Nat.le_of_ble_eq_true rfl) (Nat.le_of_ble_eq_true rfl) d_Ch_init_32 (fun a_vl H hP hD hS => ?_)
  have hP : va_P G vwCl [(a_ch, .inr (1, [.ref a_rm, .ref a_hd, .ref a_sh, .null, .int (nI 0)])), (a_rm, .inl (cI, 40, .inl (fun j => nI ((fun _ => 0) j)))), (a_hd, .inl (cI, 40, .inl (fun j => nI ((fun _ => 0) j)))), (a_sh, .inl (cZ, 40, .inl (fun j => bI ((fun _ => false) j)))), (a_vl, .inl (cI, 320, .inl (fun _ => nI 0)))] H := hP
  have hD : va_D A [(a_ch, .inr (1, [.ref a_rm, .ref a_hd, .ref a_sh, .null, .int (nI 0)])), (a_rm, .inl (cI, 40, .inl (fun j => nI ((fun _ => 0) j)))), (a_hd, .inl (cI, 40, .inl (fun j => nI ((fun _ => 0) j)))), (a_sh, .inl (cZ, 40, .inl (fun j => bI ((fun _ => false) j)))), (a_vl, .inl (cI, 320, .inl (fun _ => nI 0)))] := hD
  refine W.widen (k := 4) (n := 440) (Nat.le_of_ble_eq_true rfl) (Nat.le_of_ble_eq_true rfl) ?_
  refine va_putF (D := G) (ci := 1) (v := .ref a_vl) (ty := .array .int) (C := R_Ch) (T := T_Ch) (N := 5) hx hb hts uw_Ch ty_Ch tyok_Ch nm_Ch hown hK hP hD hS 0 rfl rfl 3 (by decide) (hts _ t_55) (fun _ h9 => h9) rfl hin rfl (by decide +kernel) rfl rfl (Nat.le_of_ble_eq_true rfl) d_Ch_init_34 (fun H locs hP hD hS => ?_)
  have hP : va_P G vwCl [(a_ch, .inr (1, [.ref a_rm, .ref a_hd, .ref a_sh, .ref a_vl, .int (nI 0)])), (a_rm, .inl (cI, 40, .inl (fun j => nI ((fun _ => 0) j)))), (a_hd, .inl (cI, 40, .inl (fun j => nI ((fun _ => 0) j)))), (a_sh, .inl (cZ, 40, .inl (fun j => bI ((fun _ => false) j)))), (a_vl, .inl (cI, 320, .inl (fun _ => nI 0)))] H := hP
  have hD : va_D A [(a_ch, .inr (1, [.ref a_rm, .ref a_hd, .ref a_sh, .ref a_vl, .int (nI 0)])), (a_rm, .inl (cI, 40, .inl (fun j => nI ((fun _ => 0) j)))), (a_hd, .inl (cI, 40, .inl (fun j => nI ((fun _ => 0) j)))), (a_sh, .inl (cZ, 40, .inl (fun j => bI ((fun _ => false) j)))), (a_vl, .inl (cI, 320, .inl (fun _ => nI 0)))] := hD
  exact k_cv hx hb hr hlocks hP hD hS (a_rm, a_hd, a_sh, a_vl) rfl trivial d_Ch_init_37
set_option maxHeartbeats 4000000 in
set_option maxRecDepth 100000 in
theorem c_Cs_init (l : Launch) (G : va_G) (cI cZ cJ : ClassId) (sz : Nat) (a_cs : Nat) : Met l y_Cs_init (w_Cs_init) ({ frames := 1, cells := 4, slots := 304, locals := 14 }) (va_Pc [.ref a_cs] (kW G vwCl [(cI, .int), (cZ, .boolean), (cJ, .long)] [(a_cs, .inr (0, [.null, .null, .null, .null]))] sz)) (va_Qv (fun (u : Nat × Nat × Nat × Nat) => True) (fun u t => va_P G vwCl [(a_cs, .inr (0, [.ref u.1, .ref u.2.1, .ref u.2.2.1, .ref u.2.2.2])), (u.1, .inl (cI, 16, .inl (fun j => nI ((fun _ => 0) j)))), (u.2.1, .inl (cI, 96, .inl (fun j => nI ((fun _ => 0) j)))), (u.2.2.1, .inl (cI, 96, .inl (fun j => nI ((fun _ => 0) j)))), (u.2.2.2, .inl (cI, 96, .inl (fun _ => nI 0)))] t.heap ∧ va_D (va_A [(a_cs, .inr (0, [.null, .null, .null, .null]))] sz) [(a_cs, .inr (0, [.ref u.1, .ref u.2.1, .ref u.2.2.1, .ref u.2.2.2])), (u.1, .inl (cI, 16, .inl (fun j => nI ((fun _ => 0) j)))), (u.2.1, .inl (cI, 96, .inl (fun j => nI ((fun _ => 0) j)))), (u.2.2.1, .inl (cI, 96, .inl (fun j => nI ((fun _ => 0) j)))), (u.2.2.2, .inl (cI, 96, .inl (fun _ => nI 0)))]) (va_A [(a_cs, .inr (0, [.null, .null, .null, .null]))] sz)) 4 304 (va_A [(a_cs, .inr (0, [.null, .null, .null, .null]))] sz) := by
  refine Met.ofW (cc := b_Cs_init) (maxL := 1) (ret := none) (by decide) rfl ?_
  intro p e s m args below meth c s₁ B hml hv
  obtain ⟨rfl, hsz, hP, hK, hD0⟩ := hv
  have hx := B.exec
  have hb := B.bytes
  have hr := B.returns
  have hts : ∀ w ∈ TT, w.before _ s = true := fun w h => atoms_spec (ws := (w_Cs_init)) B.pre w (List.mem_cons_of_mem _ h)
  have hown : s.vm.findClass R_Cs = some m.cls := findClass_of_methodNamed B.named
  have hlocks := B.notSynchronized
  have hin : meth.name = "<init>" := (name_of_methodNamed B.named B.method).1
  subst hsz
  have hD := hD0.self (sz := s.heap.size)
  generalize hAe : va_A [(a_cs, .inr (0, [.null, .null, .null, .null]))] s.heap.size = A at hD ⊢
  have hA : ∀ q : Nat, s.heap.size ≤ q → A q := fun q h => by rw [← hAe]; exact Or.inr h
  have hS : va_S A s.heap s.heap [] := va_S.rf
  have hP : va_P G vwCl [(a_cs, .inr (0, [.null, .null, .null, .null]))] s.heap := hP
  have hl := lv_entry ([.ref a_cs]) (n := 1) (Nat.le_of_ble_eq_true rfl)
  rw [lg_entry_eq]
  generalize (lg_sl ([.ref a_cs]) ++ List.replicate (1 - (lg_sl ([.ref a_cs])).length) Slot.unset).toArray = ls at hl ⊢
  have hl : lv_has ls 1 [(0, .ref a_cs)] := hl
  refine lv_aload_n hx hb d_Cs_init_0 rfl (lv_at hl 0 rfl) ?_
  refine W.objInit hx hb hown (hts _ t_68) (hts _ t_45) (hts _ t_46) rfl (by rw [hml]; exact hl.1) rfl d_Cs_init_1 (Nat.le_of_ble_eq_true rfl) (Nat.le_of_ble_eq_true rfl) ?_
  refine W.eq (g2 := F0 m 4 ls []) rfl ?_
  refine lv_aload_n hx hb d_Cs_init_4 rfl (lv_at hl 0 rfl) ?_
  refine lv_bipush (v := nI 16) hx hb d_Cs_init_5 (by decide +kernel) ?_
  refine k_newa (atype := .int) (ty := .int) (a0 := (16, .inl (fun j => nI ((fun _ => 0) j)))) hx hb (hts _ t_62) rfl hK hP hD hS hA 0 rfl (fun cA => rfl) (by decide) rfl (by decide) (Nat.le_of_ble_eq_true rfl) (Nat.le_of_ble_eq_true rfl) d_Cs_init_7 (fun a_cn H hP hD hS => ?_)
  have hP : va_P G vwCl [(a_cs, .inr (0, [.null, .null, .null, .null])), (a_cn, .inl (cI, 16, .inl (fun j => nI ((fun _ => 0) j))))] H := hP
  have hD : va_D A [(a_cs, .inr (0, [.null, .null, .null, .null])), (a_cn, .inl (cI, 16, .inl (fun j => nI ((fun _ => 0) j))))] := hD
  refine W.widen (k := 1) (n := 16) (Nat.le_of_ble_eq_true rfl) (Nat.le_of_ble_eq_true rfl) ?_
  refine va_putF (D := G) (ci := 0) (v := .ref a_cn) (ty := .array .int) (C := R_Cs) (T := T_Cs) (N := 4) hx hb hts uw_Cs ty_Cs tyok_Cs nm_Cs hown hK hP hD hS 0 rfl rfl 0 (by decide) (hts _ t_69) (fun _ h9 => h9) rfl hin rfl (by decide +kernel) rfl rfl (Nat.le_of_ble_eq_true rfl) d_Cs_init_9 (fun H locs hP hD hS => ?_)
  have hP : va_P G vwCl [(a_cs, .inr (0, [.ref a_cn, .null, .null, .null])), (a_cn, .inl (cI, 16, .inl (fun j => nI ((fun _ => 0) j))))] H := hP
  have hD : va_D A [(a_cs, .inr (0, [.ref a_cn, .null, .null, .null])), (a_cn, .inl (cI, 16, .inl (fun j => nI ((fun _ => 0) j))))] := hD
  refine lv_aload_n hx hb d_Cs_init_12 rfl (lv_at hl 0 rfl) ?_
  refine lv_bipush (v := nI 96) hx hb d_Cs_init_13 (by decide +kernel) ?_
  refine k_newa (atype := .int) (ty := .int) (a0 := (96, .inl (fun j => nI ((fun _ => 0) j)))) hx hb (hts _ t_62) rfl hK hP hD hS hA 0 rfl (fun cA => rfl) (by decide) rfl (by decide) (Nat.le_of_ble_eq_true rfl) (Nat.le_of_ble_eq_true rfl) d_Cs_init_15 (fun a_cc H hP hD hS => ?_)
  have hP : va_P G vwCl [(a_cs, .inr (0, [.ref a_cn, .null, .null, .null])), (a_cn, .inl (cI, 16, .inl (fun j => nI ((fun _ => 0) j)))), (a_cc, .inl (cI, 96, .inl (fun j => nI ((fun _ => 0) j))))] H := hP
  have hD : va_D A [(a_cs, .inr (0, [.ref a_cn, .null, .null, .null])), (a_cn, .inl (cI, 16, .inl (fun j => nI ((fun _ => 0) j)))), (a_cc, .inl (cI, 96, .inl (fun j => nI ((fun _ => 0) j))))] := hD
  refine W.widen (k := 2) (n := 112) (Nat.le_of_ble_eq_true rfl) (Nat.le_of_ble_eq_true rfl) ?_
  refine va_putF (D := G) (ci := 0) (v := .ref a_cc) (ty := .array .int) (C := R_Cs) (T := T_Cs) (N := 4) hx hb hts uw_Cs ty_Cs tyok_Cs nm_Cs hown hK hP hD hS 0 rfl rfl 1 (by decide) (hts _ t_70) (fun _ h9 => h9) rfl hin rfl (by decide +kernel) rfl rfl (Nat.le_of_ble_eq_true rfl) d_Cs_init_17 (fun H locs hP hD hS => ?_)
  have hP : va_P G vwCl [(a_cs, .inr (0, [.ref a_cn, .ref a_cc, .null, .null])), (a_cn, .inl (cI, 16, .inl (fun j => nI ((fun _ => 0) j)))), (a_cc, .inl (cI, 96, .inl (fun j => nI ((fun _ => 0) j))))] H := hP
  have hD : va_D A [(a_cs, .inr (0, [.ref a_cn, .ref a_cc, .null, .null])), (a_cn, .inl (cI, 16, .inl (fun j => nI ((fun _ => 0) j)))), (a_cc, .inl (cI, 96, .inl (fun j => nI ((fun _ => 0) j))))] := hD
  refine lv_aload_n hx hb d_Cs_init_20 rfl (lv_at hl 0 rfl) ?_
  refine lv_bipush (v := nI 96) hx hb d_Cs_init_21 (by decide +kernel) ?_
  refine k_newa (atype := .int) (ty := .int) (a0 := (96, .inl (fun j => nI ((fun _ => 0) j)))) hx hb (hts _ t_62) rfl hK hP hD hS hA 0 rfl (fun cA => rfl) (by decide) rfl (by decide) (Nat.le_of_ble_eq_true rfl) (Nat.le_of_ble_eq_true rfl) d_Cs_init_23 (fun a_cw H hP hD hS => ?_)
  have hP : va_P G vwCl [(a_cs, .inr (0, [.ref a_cn, .ref a_cc, .null, .null])), (a_cn, .inl (cI, 16, .inl (fun j => nI ((fun _ => 0) j)))), (a_cc, .inl (cI, 96, .inl (fun j => nI ((fun _ => 0) j)))), (a_cw, .inl (cI, 96, .inl (fun j => nI ((fun _ => 0) j))))] H := hP
  have hD : va_D A [(a_cs, .inr (0, [.ref a_cn, .ref a_cc, .null, .null])), (a_cn, .inl (cI, 16, .inl (fun j => nI ((fun _ => 0) j)))), (a_cc, .inl (cI, 96, .inl (fun j => nI ((fun _ => 0) j)))), (a_cw, .inl (cI, 96, .inl (fun j => nI ((fun _ => 0) j))))] := hD
  refine W.widen (k := 3) (n := 208) (Nat.le_of_ble_eq_true rfl) (Nat.le_of_ble_eq_true rfl) ?_
  refine va_putF (D := G) (ci := 0) (v := .ref a_cw) (ty := .array .int) (C := R_Cs) (T := T_Cs) (N := 4) hx hb hts uw_Cs ty_Cs tyok_Cs nm_Cs hown hK hP hD hS 0 rfl rfl 2 (by decide) (hts _ t_71) (fun _ h9 => h9) rfl hin rfl (by decide +kernel) rfl rfl (Nat.le_of_ble_eq_true rfl) d_Cs_init_25 (fun H locs hP hD hS => ?_)
  have hP : va_P G vwCl [(a_cs, .inr (0, [.ref a_cn, .ref a_cc, .ref a_cw, .null])), (a_cn, .inl (cI, 16, .inl (fun j => nI ((fun _ => 0) j)))), (a_cc, .inl (cI, 96, .inl (fun j => nI ((fun _ => 0) j)))), (a_cw, .inl (cI, 96, .inl (fun j => nI ((fun _ => 0) j))))] H := hP
  have hD : va_D A [(a_cs, .inr (0, [.ref a_cn, .ref a_cc, .ref a_cw, .null])), (a_cn, .inl (cI, 16, .inl (fun j => nI ((fun _ => 0) j)))), (a_cc, .inl (cI, 96, .inl (fun j => nI ((fun _ => 0) j)))), (a_cw, .inl (cI, 96, .inl (fun j => nI ((fun _ => 0) j))))] := hD
  refine lv_aload_n hx hb d_Cs_init_28 rfl (lv_at hl 0 rfl) ?_
  refine lv_bipush (v := nI 96) hx hb d_Cs_init_29 (by decide +kernel) ?_
  refine k_newa (atype := .int) (ty := .int) (a0 := (96, .inl (fun _ => nI 0))) hx hb (hts _ t_62) rfl hK hP hD hS hA 0 rfl (fun cA => rfl) (by decide) rfl (by decide) (Nat.le_of_ble_eq_true rfl) (Nat.le_of_ble_eq_true rfl) d_Cs_init_31 (fun a_cv H hP hD hS => ?_)
  have hP : va_P G vwCl [(a_cs, .inr (0, [.ref a_cn, .ref a_cc, .ref a_cw, .null])), (a_cn, .inl (cI, 16, .inl (fun j => nI ((fun _ => 0) j)))), (a_cc, .inl (cI, 96, .inl (fun j => nI ((fun _ => 0) j)))), (a_cw, .inl (cI, 96, .inl (fun j => nI ((fun _ => 0) j)))), (a_cv, .inl (cI, 96, .inl (fun _ => nI 0)))] H := hP
  have hD : va_D A [(a_cs, .inr (0, [.ref a_cn, .ref a_cc, .ref a_cw, .null])), (a_cn, .inl (cI, 16, .inl (fun j => nI ((fun _ => 0) j)))), (a_cc, .inl (cI, 96, .inl (fun j => nI ((fun _ => 0) j)))), (a_cw, .inl (cI, 96, .inl (fun j => nI ((fun _ => 0) j)))), (a_cv, .inl (cI, 96, .inl (fun _ => nI 0)))] := hD
  refine W.widen (k := 4) (n := 304) (Nat.le_of_ble_eq_true rfl) (Nat.le_of_ble_eq_true rfl) ?_
  refine va_putF (D := G) (ci := 0) (v := .ref a_cv) (ty := .array .int) (C := R_Cs) (T := T_Cs) (N := 4) hx hb hts uw_Cs ty_Cs tyok_Cs nm_Cs hown hK hP hD hS 0 rfl rfl 3 (by decide) (hts _ t_72) (fun _ h9 => h9) rfl hin rfl (by decide +kernel) rfl rfl (Nat.le_of_ble_eq_true rfl) d_Cs_init_33 (fun H locs hP hD hS => ?_)
  have hP : va_P G vwCl [(a_cs, .inr (0, [.ref a_cn, .ref a_cc, .ref a_cw, .ref a_cv])), (a_cn, .inl (cI, 16, .inl (fun j => nI ((fun _ => 0) j)))), (a_cc, .inl (cI, 96, .inl (fun j => nI ((fun _ => 0) j)))), (a_cw, .inl (cI, 96, .inl (fun j => nI ((fun _ => 0) j)))), (a_cv, .inl (cI, 96, .inl (fun _ => nI 0)))] H := hP
  have hD : va_D A [(a_cs, .inr (0, [.ref a_cn, .ref a_cc, .ref a_cw, .ref a_cv])), (a_cn, .inl (cI, 16, .inl (fun j => nI ((fun _ => 0) j)))), (a_cc, .inl (cI, 96, .inl (fun j => nI ((fun _ => 0) j)))), (a_cw, .inl (cI, 96, .inl (fun j => nI ((fun _ => 0) j)))), (a_cv, .inl (cI, 96, .inl (fun _ => nI 0)))] := hD
  exact k_cv hx hb hr hlocks hP hD hS (a_cn, a_cc, a_cw, a_cv) rfl trivial d_Cs_init_36
set_option maxHeartbeats 4000000 in
set_option maxRecDepth 100000 in
theorem c_Ln_init (l : Launch) (G : va_G) (cI cZ cJ : ClassId) (sz : Nat) (a_ln : Nat) : Met l y_Ln_init (w_Ln_init) ({ frames := 1, cells := 1, slots := 16, locals := 14 }) (va_Pc [.ref a_ln] (kW G vwCl [(cI, .int), (cZ, .boolean), (cJ, .long)] [(a_ln, .inr (2, [.null, .int (nI 0)]))] sz)) (va_Qv (fun (u : Nat) => True) (fun u t => va_P G vwCl [(a_ln, .inr (2, [.ref u, .int (nI 0)])), (u, .inl (cI, 16, .inl (fun j => nI ((fun _ => 0) j))))] t.heap ∧ va_D (va_A [(a_ln, .inr (2, [.null, .int (nI 0)]))] sz) [(a_ln, .inr (2, [.ref u, .int (nI 0)])), (u, .inl (cI, 16, .inl (fun j => nI ((fun _ => 0) j))))]) (va_A [(a_ln, .inr (2, [.null, .int (nI 0)]))] sz)) 1 16 (va_A [(a_ln, .inr (2, [.null, .int (nI 0)]))] sz) := by
  refine Met.ofW (cc := b_Ln_init) (maxL := 1) (ret := none) (by decide) rfl ?_
  intro p e s m args below meth c s₁ B hml hv
  obtain ⟨rfl, hsz, hP, hK, hD0⟩ := hv
  have hx := B.exec
  have hb := B.bytes
  have hr := B.returns
  have hts : ∀ w ∈ TT, w.before _ s = true := fun w h => atoms_spec (ws := (w_Ln_init)) B.pre w (List.mem_cons_of_mem _ h)
  have hown : s.vm.findClass R_Ln = some m.cls := findClass_of_methodNamed B.named
  have hlocks := B.notSynchronized
  have hin : meth.name = "<init>" := (name_of_methodNamed B.named B.method).1
  subst hsz
  have hD := hD0.self (sz := s.heap.size)
  generalize hAe : va_A [(a_ln, .inr (2, [.null, .int (nI 0)]))] s.heap.size = A at hD ⊢
  have hA : ∀ q : Nat, s.heap.size ≤ q → A q := fun q h => by rw [← hAe]; exact Or.inr h
  have hS : va_S A s.heap s.heap [] := va_S.rf
  have hP : va_P G vwCl [(a_ln, .inr (2, [.null, .int (nI 0)]))] s.heap := hP
  have hl := lv_entry ([.ref a_ln]) (n := 1) (Nat.le_of_ble_eq_true rfl)
  rw [lg_entry_eq]
  generalize (lg_sl ([.ref a_ln]) ++ List.replicate (1 - (lg_sl ([.ref a_ln])).length) Slot.unset).toArray = ls at hl ⊢
  have hl : lv_has ls 1 [(0, .ref a_ln)] := hl
  refine lv_aload_n hx hb d_Ln_init_0 rfl (lv_at hl 0 rfl) ?_
  refine W.objInit hx hb hown (hts _ t_81) (hts _ t_45) (hts _ t_46) rfl (by rw [hml]; exact hl.1) rfl d_Ln_init_1 (Nat.le_of_ble_eq_true rfl) (Nat.le_of_ble_eq_true rfl) ?_
  refine W.eq (g2 := F0 m 4 ls []) rfl ?_
  refine lv_aload_n hx hb d_Ln_init_4 rfl (lv_at hl 0 rfl) ?_
  refine lv_bipush (v := nI 16) hx hb d_Ln_init_5 (by decide +kernel) ?_
  refine k_newa (atype := .int) (ty := .int) (a0 := (16, .inl (fun j => nI ((fun _ => 0) j)))) hx hb (hts _ t_62) rfl hK hP hD hS hA 0 rfl (fun cA => rfl) (by decide) rfl (by decide) (Nat.le_of_ble_eq_true rfl) (Nat.le_of_ble_eq_true rfl) d_Ln_init_7 (fun a_mm H hP hD hS => ?_)
  have hP : va_P G vwCl [(a_ln, .inr (2, [.null, .int (nI 0)])), (a_mm, .inl (cI, 16, .inl (fun j => nI ((fun _ => 0) j))))] H := hP
  have hD : va_D A [(a_ln, .inr (2, [.null, .int (nI 0)])), (a_mm, .inl (cI, 16, .inl (fun j => nI ((fun _ => 0) j))))] := hD
  refine W.widen (k := 1) (n := 16) (Nat.le_of_ble_eq_true rfl) (Nat.le_of_ble_eq_true rfl) ?_
  refine va_putF (D := G) (ci := 2) (v := .ref a_mm) (ty := .array .int) (C := R_Ln) (T := T_Ln) (N := 2) hx hb hts uw_Ln ty_Ln tyok_Ln nm_Ln hown hK hP hD hS 0 rfl rfl 0 (by decide) (hts _ t_82) (fun _ h9 => h9) rfl hin rfl (by decide +kernel) rfl rfl (Nat.le_of_ble_eq_true rfl) d_Ln_init_9 (fun H locs hP hD hS => ?_)
  have hP : va_P G vwCl [(a_ln, .inr (2, [.ref a_mm, .int (nI 0)])), (a_mm, .inl (cI, 16, .inl (fun j => nI ((fun _ => 0) j))))] H := hP
  have hD : va_D A [(a_ln, .inr (2, [.ref a_mm, .int (nI 0)])), (a_mm, .inl (cI, 16, .inl (fun j => nI ((fun _ => 0) j))))] := hD
  exact k_cv hx hb hr hlocks hP hD hS (a_mm) rfl trivial d_Ln_init_12
