set_option maxHeartbeats 4000000 in
set_option maxRecDepth 100000 in
theorem c_Md_ready0 (l : Launch) (G : va_G) (cI cZ cJ : ClassId) (sz : Nat) (a_md : Nat) (a_mrm : Nat) (a_mcl : Nat) (a_mmn : Nat) (a_mvl : Nat) (a_mst : Nat) (a_msi : Nat) (a_mpl : Nat) (a_mof : Nat) (a_mgt : Nat) (a_msn : Nat) (a_mdn : Nat) (a_mca : Nat) (a_mcc : Nat) (a_mcw : Nat) (a_mcv : Nat) (kn : Nat) (kmo : Nat) (kmt : Int32) (kft : Int32) (kst : Nat → Nat) (kca : Nat → Nat) (q : Nat) (hq : q < 16) : Met l y_Md_ready (w_Md_ready) ({ frames := 0, cells := 0, slots := 0, locals := 0 }) (va_Pc [.ref a_md, .int (nI q), .int (nI 0)] (kW G vwCl [(cI, .int), (cZ, .boolean), (cJ, .long)] [(a_md, .inr (4, [.int (nI kn), .ref a_mrm, .ref a_mcl, .ref a_mmn, .ref a_mvl, .ref a_mst, .ref a_msi, .ref a_mpl, .ref a_mof, .ref a_mgt, .ref a_msn, .ref a_mdn, .ref a_mca, .ref a_mcc, .ref a_mcw, .ref a_mcv, .long (lN kmo), .int kmt, .int kft])), (a_mst, .inl (cI, 16, .inl (fun j => nI (kst j)))), (a_mca, .inl (cI, 16, .inl (fun j => nI (kca j))))] sz)) (va_Qv (fun (u : Unit) => True) (fun u t => va_P G vwCl [(a_md, .inr (4, [.int (nI kn), .ref a_mrm, .ref a_mcl, .ref a_mmn, .ref a_mvl, .ref a_mst, .ref a_msi, .ref a_mpl, .ref a_mof, .ref a_mgt, .ref a_msn, .ref a_mdn, .ref a_mca, .ref a_mcc, .ref a_mcw, .ref a_mcv, .long (lN kmo), .int kmt, .int kft])), (a_mst, .inl (cI, 16, .inl (fun j => nI ((va_up kst q 0) j)))), (a_mca, .inl (cI, 16, .inl (fun j => nI ((va_up kca q 0) j))))] t.heap) (va_A [(a_md, .inr (4, [.int (nI kn), .ref a_mrm, .ref a_mcl, .ref a_mmn, .ref a_mvl, .ref a_mst, .ref a_msi, .ref a_mpl, .ref a_mof, .ref a_mgt, .ref a_msn, .ref a_mdn, .ref a_mca, .ref a_mcc, .ref a_mcw, .ref a_mcv, .long (lN kmo), .int kmt, .int kft])), (a_mst, .inl (cI, 16, .inl (fun j => nI (kst j)))), (a_mca, .inl (cI, 16, .inl (fun j => nI (kca j))))] sz)) 0 0 (va_A [(a_md, .inr (4, [.int (nI kn), .ref a_mrm, .ref a_mcl, .ref a_mmn, .ref a_mvl, .ref a_mst, .ref a_msi, .ref a_mpl, .ref a_mof, .ref a_mgt, .ref a_msn, .ref a_mdn, .ref a_mca, .ref a_mcc, .ref a_mcw, .ref a_mcv, .long (lN kmo), .int kmt, .int kft])), (a_mst, .inl (cI, 16, .inl (fun j => nI (kst j)))), (a_mca, .inl (cI, 16, .inl (fun j => nI (kca j))))] sz) := by
  refine Met.ofW (cc := b_Md_ready) (maxL := 3) (ret := none) (by decide) rfl ?_
  intro p e s m args below meth c s₁ B hml hv
  obtain ⟨rfl, hsz, hP, hK, hD0⟩ := hv
  have hx := B.exec
  have hb := B.bytes
  have hr := B.returns
  have hts : ∀ w ∈ TT, w.before _ s = true := fun w h => atoms_spec (ws := (w_Md_ready)) B.pre w (List.mem_cons_of_mem _ h)
  have hown : s.vm.findClass R_Md = some m.cls := findClass_of_methodNamed B.named
  have hlocks := B.notSynchronized
  subst hsz
  have hD := hD0.self (sz := s.heap.size)
  generalize hAe : va_A [(a_md, .inr (4, [.int (nI kn), .ref a_mrm, .ref a_mcl, .ref a_mmn, .ref a_mvl, .ref a_mst, .ref a_msi, .ref a_mpl, .ref a_mof, .ref a_mgt, .ref a_msn, .ref a_mdn, .ref a_mca, .ref a_mcc, .ref a_mcw, .ref a_mcv, .long (lN kmo), .int kmt, .int kft])), (a_mst, .inl (cI, 16, .inl (fun j => nI (kst j)))), (a_mca, .inl (cI, 16, .inl (fun j => nI (kca j))))] s.heap.size = A at hD ⊢
  have hA : ∀ q : Nat, s.heap.size ≤ q → A q := fun q h => by rw [← hAe]; exact Or.inr h
  have hS : va_S A s.heap s.heap [] := va_S.rf
  have hP : va_P G vwCl [(a_md, .inr (4, [.int (nI kn), .ref a_mrm, .ref a_mcl, .ref a_mmn, .ref a_mvl, .ref a_mst, .ref a_msi, .ref a_mpl, .ref a_mof, .ref a_mgt, .ref a_msn, .ref a_mdn, .ref a_mca, .ref a_mcc, .ref a_mcw, .ref a_mcv, .long (lN kmo), .int kmt, .int kft])), (a_mst, .inl (cI, 16, .inl (fun j => nI (kst j)))), (a_mca, .inl (cI, 16, .inl (fun j => nI (kca j))))] s.heap := hP
  have hl := lv_entry ([.ref a_md, .int (nI q), .int (nI 0)]) (n := 3) (Nat.le_of_ble_eq_true rfl)
  rw [lg_entry_eq]
  generalize (lg_sl ([.ref a_md, .int (nI q), .int (nI 0)]) ++ List.replicate (3 - (lg_sl ([.ref a_md, .int (nI q), .int (nI 0)])).length) Slot.unset).toArray = ls at hl ⊢
  have hl : lv_has ls 3 [(0, .ref a_md), (1, .int (nI q)), (2, .int (nI 0))] := hl
  refine lv_aload_n hx hb d_Md_ready_0 rfl (lv_at hl 0 rfl) ?_
  refine va_get (D := G) (ci := 4) (v := .ref a_mst) (C := R_Md) (T := T_Md) (N := 19) hx hb hts uw_Md hown hK hP 0 rfl rfl 5 (by decide) (hts _ t_342) (fun _ h9 => h9) rfl d_Md_ready_1 ?_
  refine lv_iload_n hx hb d_Md_ready_4 rfl (lv_at hl 1 rfl) ?_
  refine lv_iload_n hx hb d_Md_ready_5 rfl (lv_at hl 2 rfl) ?_
  refine k_iastN hx hb hK hP hD hS 1 0 rfl rfl (by omega) (by decide) d_Md_ready_6 (fun H locs hP hD hS => ?_)
  have hP : va_P G vwCl [(a_md, .inr (4, [.int (nI kn), .ref a_mrm, .ref a_mcl, .ref a_mmn, .ref a_mvl, .ref a_mst, .ref a_msi, .ref a_mpl, .ref a_mof, .ref a_mgt, .ref a_msn, .ref a_mdn, .ref a_mca, .ref a_mcc, .ref a_mcw, .ref a_mcv, .long (lN kmo), .int kmt, .int kft])), (a_mst, .inl (cI, 16, .inl (fun j => nI ((va_up kst q 0) j)))), (a_mca, .inl (cI, 16, .inl (fun j => nI (kca j))))] H := hP
  have hD : va_D A [(a_md, .inr (4, [.int (nI kn), .ref a_mrm, .ref a_mcl, .ref a_mmn, .ref a_mvl, .ref a_mst, .ref a_msi, .ref a_mpl, .ref a_mof, .ref a_mgt, .ref a_msn, .ref a_mdn, .ref a_mca, .ref a_mcc, .ref a_mcw, .ref a_mcv, .long (lN kmo), .int kmt, .int kft])), (a_mst, .inl (cI, 16, .inl (fun j => nI ((va_up kst q 0) j)))), (a_mca, .inl (cI, 16, .inl (fun j => nI (kca j))))] := hD
  refine lv_aload_n hx hb d_Md_ready_7 rfl (lv_at hl 0 rfl) ?_
  refine va_get (D := G) (ci := 4) (v := .ref a_mca) (C := R_Md) (T := T_Md) (N := 19) hx hb hts uw_Md hown hK hP 0 rfl rfl 12 (by decide) (hts _ t_349) (fun _ h9 => h9) rfl d_Md_ready_8 ?_
  refine lv_iload_n hx hb d_Md_ready_11 rfl (lv_at hl 1 rfl) ?_
  refine lv_iconst (v := (nI 0)) hx hb d_Md_ready_12 (by decide +kernel) ?_
  refine k_iastN hx hb hK hP hD hS 2 0 rfl rfl (by omega) (by decide) d_Md_ready_13 (fun H locs hP hD hS => ?_)
  have hP : va_P G vwCl [(a_md, .inr (4, [.int (nI kn), .ref a_mrm, .ref a_mcl, .ref a_mmn, .ref a_mvl, .ref a_mst, .ref a_msi, .ref a_mpl, .ref a_mof, .ref a_mgt, .ref a_msn, .ref a_mdn, .ref a_mca, .ref a_mcc, .ref a_mcw, .ref a_mcv, .long (lN kmo), .int kmt, .int kft])), (a_mst, .inl (cI, 16, .inl (fun j => nI ((va_up kst q 0) j)))), (a_mca, .inl (cI, 16, .inl (fun j => nI ((va_up kca q 0) j))))] H := hP
  have hD : va_D A [(a_md, .inr (4, [.int (nI kn), .ref a_mrm, .ref a_mcl, .ref a_mmn, .ref a_mvl, .ref a_mst, .ref a_msi, .ref a_mpl, .ref a_mof, .ref a_mgt, .ref a_msn, .ref a_mdn, .ref a_mca, .ref a_mcc, .ref a_mcw, .ref a_mcv, .long (lN kmo), .int kmt, .int kft])), (a_mst, .inl (cI, 16, .inl (fun j => nI ((va_up kst q 0) j)))), (a_mca, .inl (cI, 16, .inl (fun j => nI ((va_up kca q 0) j))))] := hD
  refine lv_aload_n hx hb d_Md_ready_14 rfl (lv_at hl 0 rfl) ?_
  refine lv_iload_n hx hb d_Md_ready_15 rfl (lv_at hl 2 rfl) ?_
  refine lv_iconst (v := (nI 4)) hx hb d_Md_ready_16 (by decide +kernel) ?_
  refine n_icmp_ne (tgt := 29) hx hb d_Md_ready_17 (by decide) (by decide) (by decide) (fun c_1 => ?_) (fun c_1 => absurd c_1 (by decide))
  refine lv_aload_n hx hb d_Md_ready_29 rfl (lv_at hl 0 rfl) ?_
  refine va_get (D := G) (ci := 4) (v := .int kft) (C := R_Md) (T := T_Md) (N := 19) hx hb hts uw_Md hown hK hP 0 rfl rfl 18 (by decide) (hts _ t_355) (fun _ h9 => h9) rfl d_Md_ready_30 ?_
  refine va_put (D := G) (ci := 4) (v := .int kft) (ty := .int) (C := R_Md) (T := T_Md) (N := 19) hx hb hts uw_Md ty_Md tyok_Md nm_Md hown hK hP hD hS 0 rfl rfl 18 (by decide) (hts _ t_355) (fun _ h9 => h9) rfl (by decide +kernel) rfl rfl (Nat.le_of_ble_eq_true rfl) d_Md_ready_33 (fun H locs hP hD hS => ?_)
  have hP : va_P G vwCl [(a_md, .inr (4, [.int (nI kn), .ref a_mrm, .ref a_mcl, .ref a_mmn, .ref a_mvl, .ref a_mst, .ref a_msi, .ref a_mpl, .ref a_mof, .ref a_mgt, .ref a_msn, .ref a_mdn, .ref a_mca, .ref a_mcc, .ref a_mcw, .ref a_mcv, .long (lN kmo), .int kmt, .int kft])), (a_mst, .inl (cI, 16, .inl (fun j => nI ((va_up kst q 0) j)))), (a_mca, .inl (cI, 16, .inl (fun j => nI ((va_up kca q 0) j))))] H := hP
  have hD : va_D A [(a_md, .inr (4, [.int (nI kn), .ref a_mrm, .ref a_mcl, .ref a_mmn, .ref a_mvl, .ref a_mst, .ref a_msi, .ref a_mpl, .ref a_mof, .ref a_mgt, .ref a_msn, .ref a_mdn, .ref a_mca, .ref a_mcc, .ref a_mcw, .ref a_mcv, .long (lN kmo), .int kmt, .int kft])), (a_mst, .inl (cI, 16, .inl (fun j => nI ((va_up kst q 0) j)))), (a_mca, .inl (cI, 16, .inl (fun j => nI ((va_up kca q 0) j))))] := hD
  exact k_wv hx hb hr hlocks hP hS () (rfl) (trivial) d_Md_ready_36
set_option maxHeartbeats 4000000 in
set_option maxRecDepth 100000 in
theorem c_Md_ready4 (l : Launch) (G : va_G) (cI cZ cJ : ClassId) (sz : Nat) (a_md : Nat) (a_mrm : Nat) (a_mcl : Nat) (a_mmn : Nat) (a_mvl : Nat) (a_mst : Nat) (a_msi : Nat) (a_mpl : Nat) (a_mof : Nat) (a_mgt : Nat) (a_msn : Nat) (a_mdn : Nat) (a_mca : Nat) (a_mcc : Nat) (a_mcw : Nat) (a_mcv : Nat) (kn : Nat) (kmo : Nat) (kmt : Int32) (kft : Int32) (kst : Nat → Nat) (kca : Nat → Nat) (q : Nat) (hq : q < 16) : Met l y_Md_ready (w_Md_ready) ({ frames := 0, cells := 0, slots := 0, locals := 0 }) (va_Pc [.ref a_md, .int (nI q), .int (nI 4)] (kW G vwCl [(cI, .int), (cZ, .boolean), (cJ, .long)] [(a_md, .inr (4, [.int (nI kn), .ref a_mrm, .ref a_mcl, .ref a_mmn, .ref a_mvl, .ref a_mst, .ref a_msi, .ref a_mpl, .ref a_mof, .ref a_mgt, .ref a_msn, .ref a_mdn, .ref a_mca, .ref a_mcc, .ref a_mcw, .ref a_mcv, .long (lN kmo), .int kmt, .int kft])), (a_mst, .inl (cI, 16, .inl (fun j => nI (kst j)))), (a_mca, .inl (cI, 16, .inl (fun j => nI (kca j))))] sz)) (va_Qv (fun (u : Unit) => True) (fun u t => va_P G vwCl [(a_md, .inr (4, [.int (nI kn), .ref a_mrm, .ref a_mcl, .ref a_mmn, .ref a_mvl, .ref a_mst, .ref a_msi, .ref a_mpl, .ref a_mof, .ref a_mgt, .ref a_msn, .ref a_mdn, .ref a_mca, .ref a_mcc, .ref a_mcw, .ref a_mcv, .long (lN kmo), .int kmt, .int (kft + nI 1)])), (a_mst, .inl (cI, 16, .inl (fun j => nI ((va_up kst q 4) j)))), (a_mca, .inl (cI, 16, .inl (fun j => nI ((va_up kca q 0) j))))] t.heap) (va_A [(a_md, .inr (4, [.int (nI kn), .ref a_mrm, .ref a_mcl, .ref a_mmn, .ref a_mvl, .ref a_mst, .ref a_msi, .ref a_mpl, .ref a_mof, .ref a_mgt, .ref a_msn, .ref a_mdn, .ref a_mca, .ref a_mcc, .ref a_mcw, .ref a_mcv, .long (lN kmo), .int kmt, .int kft])), (a_mst, .inl (cI, 16, .inl (fun j => nI (kst j)))), (a_mca, .inl (cI, 16, .inl (fun j => nI (kca j))))] sz)) 0 0 (va_A [(a_md, .inr (4, [.int (nI kn), .ref a_mrm, .ref a_mcl, .ref a_mmn, .ref a_mvl, .ref a_mst, .ref a_msi, .ref a_mpl, .ref a_mof, .ref a_mgt, .ref a_msn, .ref a_mdn, .ref a_mca, .ref a_mcc, .ref a_mcw, .ref a_mcv, .long (lN kmo), .int kmt, .int kft])), (a_mst, .inl (cI, 16, .inl (fun j => nI (kst j)))), (a_mca, .inl (cI, 16, .inl (fun j => nI (kca j))))] sz) := by
  refine Met.ofW (cc := b_Md_ready) (maxL := 3) (ret := none) (by decide) rfl ?_
  intro p e s m args below meth c s₁ B hml hv
  obtain ⟨rfl, hsz, hP, hK, hD0⟩ := hv
  have hx := B.exec
  have hb := B.bytes
  have hr := B.returns
  have hts : ∀ w ∈ TT, w.before _ s = true := fun w h => atoms_spec (ws := (w_Md_ready)) B.pre w (List.mem_cons_of_mem _ h)
  have hown : s.vm.findClass R_Md = some m.cls := findClass_of_methodNamed B.named
  have hlocks := B.notSynchronized
  subst hsz
  have hD := hD0.self (sz := s.heap.size)
  generalize hAe : va_A [(a_md, .inr (4, [.int (nI kn), .ref a_mrm, .ref a_mcl, .ref a_mmn, .ref a_mvl, .ref a_mst, .ref a_msi, .ref a_mpl, .ref a_mof, .ref a_mgt, .ref a_msn, .ref a_mdn, .ref a_mca, .ref a_mcc, .ref a_mcw, .ref a_mcv, .long (lN kmo), .int kmt, .int kft])), (a_mst, .inl (cI, 16, .inl (fun j => nI (kst j)))), (a_mca, .inl (cI, 16, .inl (fun j => nI (kca j))))] s.heap.size = A at hD ⊢
  have hA : ∀ q : Nat, s.heap.size ≤ q → A q := fun q h => by rw [← hAe]; exact Or.inr h
  have hS : va_S A s.heap s.heap [] := va_S.rf
  have hP : va_P G vwCl [(a_md, .inr (4, [.int (nI kn), .ref a_mrm, .ref a_mcl, .ref a_mmn, .ref a_mvl, .ref a_mst, .ref a_msi, .ref a_mpl, .ref a_mof, .ref a_mgt, .ref a_msn, .ref a_mdn, .ref a_mca, .ref a_mcc, .ref a_mcw, .ref a_mcv, .long (lN kmo), .int kmt, .int kft])), (a_mst, .inl (cI, 16, .inl (fun j => nI (kst j)))), (a_mca, .inl (cI, 16, .inl (fun j => nI (kca j))))] s.heap := hP
  have hl := lv_entry ([.ref a_md, .int (nI q), .int (nI 4)]) (n := 3) (Nat.le_of_ble_eq_true rfl)
  rw [lg_entry_eq]
  generalize (lg_sl ([.ref a_md, .int (nI q), .int (nI 4)]) ++ List.replicate (3 - (lg_sl ([.ref a_md, .int (nI q), .int (nI 4)])).length) Slot.unset).toArray = ls at hl ⊢
  have hl : lv_has ls 3 [(0, .ref a_md), (1, .int (nI q)), (2, .int (nI 4))] := hl
  refine lv_aload_n hx hb d_Md_ready_0 rfl (lv_at hl 0 rfl) ?_
  refine va_get (D := G) (ci := 4) (v := .ref a_mst) (C := R_Md) (T := T_Md) (N := 19) hx hb hts uw_Md hown hK hP 0 rfl rfl 5 (by decide) (hts _ t_342) (fun _ h9 => h9) rfl d_Md_ready_1 ?_
  refine lv_iload_n hx hb d_Md_ready_4 rfl (lv_at hl 1 rfl) ?_
  refine lv_iload_n hx hb d_Md_ready_5 rfl (lv_at hl 2 rfl) ?_
  refine k_iastN hx hb hK hP hD hS 1 0 rfl rfl (by omega) (by decide) d_Md_ready_6 (fun H locs hP hD hS => ?_)
  have hP : va_P G vwCl [(a_md, .inr (4, [.int (nI kn), .ref a_mrm, .ref a_mcl, .ref a_mmn, .ref a_mvl, .ref a_mst, .ref a_msi, .ref a_mpl, .ref a_mof, .ref a_mgt, .ref a_msn, .ref a_mdn, .ref a_mca, .ref a_mcc, .ref a_mcw, .ref a_mcv, .long (lN kmo), .int kmt, .int kft])), (a_mst, .inl (cI, 16, .inl (fun j => nI ((va_up kst q 4) j)))), (a_mca, .inl (cI, 16, .inl (fun j => nI (kca j))))] H := hP
  have hD : va_D A [(a_md, .inr (4, [.int (nI kn), .ref a_mrm, .ref a_mcl, .ref a_mmn, .ref a_mvl, .ref a_mst, .ref a_msi, .ref a_mpl, .ref a_mof, .ref a_mgt, .ref a_msn, .ref a_mdn, .ref a_mca, .ref a_mcc, .ref a_mcw, .ref a_mcv, .long (lN kmo), .int kmt, .int kft])), (a_mst, .inl (cI, 16, .inl (fun j => nI ((va_up kst q 4) j)))), (a_mca, .inl (cI, 16, .inl (fun j => nI (kca j))))] := hD
  refine lv_aload_n hx hb d_Md_ready_7 rfl (lv_at hl 0 rfl) ?_
  refine va_get (D := G) (ci := 4) (v := .ref a_mca) (C := R_Md) (T := T_Md) (N := 19) hx hb hts uw_Md hown hK hP 0 rfl rfl 12 (by decide) (hts _ t_349) (fun _ h9 => h9) rfl d_Md_ready_8 ?_
  refine lv_iload_n hx hb d_Md_ready_11 rfl (lv_at hl 1 rfl) ?_
  refine lv_iconst (v := (nI 0)) hx hb d_Md_ready_12 (by decide +kernel) ?_
  refine k_iastN hx hb hK hP hD hS 2 0 rfl rfl (by omega) (by decide) d_Md_ready_13 (fun H locs hP hD hS => ?_)
  have hP : va_P G vwCl [(a_md, .inr (4, [.int (nI kn), .ref a_mrm, .ref a_mcl, .ref a_mmn, .ref a_mvl, .ref a_mst, .ref a_msi, .ref a_mpl, .ref a_mof, .ref a_mgt, .ref a_msn, .ref a_mdn, .ref a_mca, .ref a_mcc, .ref a_mcw, .ref a_mcv, .long (lN kmo), .int kmt, .int kft])), (a_mst, .inl (cI, 16, .inl (fun j => nI ((va_up kst q 4) j)))), (a_mca, .inl (cI, 16, .inl (fun j => nI ((va_up kca q 0) j))))] H := hP
  have hD : va_D A [(a_md, .inr (4, [.int (nI kn), .ref a_mrm, .ref a_mcl, .ref a_mmn, .ref a_mvl, .ref a_mst, .ref a_msi, .ref a_mpl, .ref a_mof, .ref a_mgt, .ref a_msn, .ref a_mdn, .ref a_mca, .ref a_mcc, .ref a_mcw, .ref a_mcv, .long (lN kmo), .int kmt, .int kft])), (a_mst, .inl (cI, 16, .inl (fun j => nI ((va_up kst q 4) j)))), (a_mca, .inl (cI, 16, .inl (fun j => nI ((va_up kca q 0) j))))] := hD
  refine lv_aload_n hx hb d_Md_ready_14 rfl (lv_at hl 0 rfl) ?_
  refine lv_iload_n hx hb d_Md_ready_15 rfl (lv_at hl 2 rfl) ?_
  refine lv_iconst (v := (nI 4)) hx hb d_Md_ready_16 (by decide +kernel) ?_
  refine n_icmp_ne (tgt := 29) hx hb d_Md_ready_17 (by decide) (by decide) (by decide) (fun c_1 => absurd c_1 (by decide)) (fun c_1 => ?_)
  refine lv_aload_n hx hb d_Md_ready_20 rfl (lv_at hl 0 rfl) ?_
  refine va_get (D := G) (ci := 4) (v := .int kft) (C := R_Md) (T := T_Md) (N := 19) hx hb hts uw_Md hown hK hP 0 rfl rfl 18 (by decide) (hts _ t_355) (fun _ h9 => h9) rfl d_Md_ready_21 ?_
  refine lv_iconst (v := (nI 1)) hx hb d_Md_ready_24 (by decide +kernel) ?_
  refine lv_iadd hx hb d_Md_ready_25 ?_
  refine lv_goto (tgt := 33) hx hb d_Md_ready_26 (by decide) ?_
  refine va_put (D := G) (ci := 4) (v := .int (kft + (nI 1))) (ty := .int) (C := R_Md) (T := T_Md) (N := 19) hx hb hts uw_Md ty_Md tyok_Md nm_Md hown hK hP hD hS 0 rfl rfl 18 (by decide) (hts _ t_355) (fun _ h9 => h9) rfl (by decide +kernel) rfl rfl (Nat.le_of_ble_eq_true rfl) d_Md_ready_33 (fun H locs hP hD hS => ?_)
  have hP : va_P G vwCl [(a_md, .inr (4, [.int (nI kn), .ref a_mrm, .ref a_mcl, .ref a_mmn, .ref a_mvl, .ref a_mst, .ref a_msi, .ref a_mpl, .ref a_mof, .ref a_mgt, .ref a_msn, .ref a_mdn, .ref a_mca, .ref a_mcc, .ref a_mcw, .ref a_mcv, .long (lN kmo), .int kmt, .int (kft + (nI 1))])), (a_mst, .inl (cI, 16, .inl (fun j => nI ((va_up kst q 4) j)))), (a_mca, .inl (cI, 16, .inl (fun j => nI ((va_up kca q 0) j))))] H := hP
  have hD : va_D A [(a_md, .inr (4, [.int (nI kn), .ref a_mrm, .ref a_mcl, .ref a_mmn, .ref a_mvl, .ref a_mst, .ref a_msi, .ref a_mpl, .ref a_mof, .ref a_mgt, .ref a_msn, .ref a_mdn, .ref a_mca, .ref a_mcc, .ref a_mcw, .ref a_mcv, .long (lN kmo), .int kmt, .int (kft + (nI 1))])), (a_mst, .inl (cI, 16, .inl (fun j => nI ((va_up kst q 4) j)))), (a_mca, .inl (cI, 16, .inl (fun j => nI ((va_up kca q 0) j))))] := hD
  exact k_wv hx hb hr hlocks hP hS () (rfl) (trivial) d_Md_ready_36
set_option maxHeartbeats 4000000 in
set_option maxRecDepth 100000 in
theorem c_Md_waits (l : Launch) (G : va_G) (cI cZ cJ : ClassId) (sz : Nat) (a_md : Nat) (a_mrm : Nat) (a_mcl : Nat) (a_mmn : Nat) (a_mvl : Nat) (a_mst : Nat) (a_msi : Nat) (a_mpl : Nat) (a_mof : Nat) (a_mgt : Nat) (a_msn : Nat) (a_mdn : Nat) (a_mca : Nat) (a_mcc : Nat) (a_mcw : Nat) (a_mcv : Nat) (kn : Nat) (kmo : Nat) (kmt : Int32) (kft : Int32) (kst : Nat → Nat) (ksi : Nat → Nat) (q : Nat) (h : Nat) (hq : q < 16) : Met l y_Md_waits (w_Md_waits) ({ frames := 0, cells := 0, slots := 0, locals := 0 }) (va_Pc [.ref a_md, .int (nI q), .int (nI h)] (kW G vwCl [(cI, .int), (cZ, .boolean), (cJ, .long)] [(a_md, .inr (4, [.int (nI kn), .ref a_mrm, .ref a_mcl, .ref a_mmn, .ref a_mvl, .ref a_mst, .ref a_msi, .ref a_mpl, .ref a_mof, .ref a_mgt, .ref a_msn, .ref a_mdn, .ref a_mca, .ref a_mcc, .ref a_mcw, .ref a_mcv, .long (lN kmo), .int kmt, .int kft])), (a_mst, .inl (cI, 16, .inl (fun j => nI (kst j)))), (a_msi, .inl (cJ, 16, .inr (.inl (fun j => lN (ksi j)))))] sz)) (va_Qv (fun (u : Unit) => True) (fun u t => va_P G vwCl [(a_md, .inr (4, [.int (nI kn), .ref a_mrm, .ref a_mcl, .ref a_mmn, .ref a_mvl, .ref a_mst, .ref a_msi, .ref a_mpl, .ref a_mof, .ref a_mgt, .ref a_msn, .ref a_mdn, .ref a_mca, .ref a_mcc, .ref a_mcw, .ref a_mcv, .long (lN (kmo + 1)), .int kmt, .int kft])), (a_mst, .inl (cI, 16, .inl (fun j => nI ((va_up kst q h) j)))), (a_msi, .inl (cJ, 16, .inr (.inl (fun j => lN ((va_up ksi q kmo) j)))))] t.heap) (va_A [(a_md, .inr (4, [.int (nI kn), .ref a_mrm, .ref a_mcl, .ref a_mmn, .ref a_mvl, .ref a_mst, .ref a_msi, .ref a_mpl, .ref a_mof, .ref a_mgt, .ref a_msn, .ref a_mdn, .ref a_mca, .ref a_mcc, .ref a_mcw, .ref a_mcv, .long (lN kmo), .int kmt, .int kft])), (a_mst, .inl (cI, 16, .inl (fun j => nI (kst j)))), (a_msi, .inl (cJ, 16, .inr (.inl (fun j => lN (ksi j)))))] sz)) 0 0 (va_A [(a_md, .inr (4, [.int (nI kn), .ref a_mrm, .ref a_mcl, .ref a_mmn, .ref a_mvl, .ref a_mst, .ref a_msi, .ref a_mpl, .ref a_mof, .ref a_mgt, .ref a_msn, .ref a_mdn, .ref a_mca, .ref a_mcc, .ref a_mcw, .ref a_mcv, .long (lN kmo), .int kmt, .int kft])), (a_mst, .inl (cI, 16, .inl (fun j => nI (kst j)))), (a_msi, .inl (cJ, 16, .inr (.inl (fun j => lN (ksi j)))))] sz) := by
  refine Met.ofW (cc := b_Md_waits) (maxL := 3) (ret := none) (by decide) rfl ?_
  intro p e s m args below meth c s₁ B hml hv
  obtain ⟨rfl, hsz, hP, hK, hD0⟩ := hv
  have hx := B.exec
  have hb := B.bytes
  have hr := B.returns
  have hts : ∀ w ∈ TT, w.before _ s = true := fun w h => atoms_spec (ws := (w_Md_waits)) B.pre w (List.mem_cons_of_mem _ h)
  have hown : s.vm.findClass R_Md = some m.cls := findClass_of_methodNamed B.named
  have hlocks := B.notSynchronized
  subst hsz
  have hD := hD0.self (sz := s.heap.size)
  generalize hAe : va_A [(a_md, .inr (4, [.int (nI kn), .ref a_mrm, .ref a_mcl, .ref a_mmn, .ref a_mvl, .ref a_mst, .ref a_msi, .ref a_mpl, .ref a_mof, .ref a_mgt, .ref a_msn, .ref a_mdn, .ref a_mca, .ref a_mcc, .ref a_mcw, .ref a_mcv, .long (lN kmo), .int kmt, .int kft])), (a_mst, .inl (cI, 16, .inl (fun j => nI (kst j)))), (a_msi, .inl (cJ, 16, .inr (.inl (fun j => lN (ksi j)))))] s.heap.size = A at hD ⊢
  have hA : ∀ q : Nat, s.heap.size ≤ q → A q := fun q h => by rw [← hAe]; exact Or.inr h
  have hS : va_S A s.heap s.heap [] := va_S.rf
  have hP : va_P G vwCl [(a_md, .inr (4, [.int (nI kn), .ref a_mrm, .ref a_mcl, .ref a_mmn, .ref a_mvl, .ref a_mst, .ref a_msi, .ref a_mpl, .ref a_mof, .ref a_mgt, .ref a_msn, .ref a_mdn, .ref a_mca, .ref a_mcc, .ref a_mcw, .ref a_mcv, .long (lN kmo), .int kmt, .int kft])), (a_mst, .inl (cI, 16, .inl (fun j => nI (kst j)))), (a_msi, .inl (cJ, 16, .inr (.inl (fun j => lN (ksi j)))))] s.heap := hP
  have hl := lv_entry ([.ref a_md, .int (nI q), .int (nI h)]) (n := 3) (Nat.le_of_ble_eq_true rfl)
  rw [lg_entry_eq]
  generalize (lg_sl ([.ref a_md, .int (nI q), .int (nI h)]) ++ List.replicate (3 - (lg_sl ([.ref a_md, .int (nI q), .int (nI h)])).length) Slot.unset).toArray = ls at hl ⊢
  have hl : lv_has ls 3 [(0, .ref a_md), (1, .int (nI q)), (2, .int (nI h))] := hl
  refine lv_aload_n hx hb d_Md_waits_0 rfl (lv_at hl 0 rfl) ?_
  refine va_get (D := G) (ci := 4) (v := .ref a_mst) (C := R_Md) (T := T_Md) (N := 19) hx hb hts uw_Md hown hK hP 0 rfl rfl 5 (by decide) (hts _ t_342) (fun _ h9 => h9) rfl d_Md_waits_1 ?_
  refine lv_iload_n hx hb d_Md_waits_4 rfl (lv_at hl 1 rfl) ?_
  refine lv_iload_n hx hb d_Md_waits_5 rfl (lv_at hl 2 rfl) ?_
  refine k_iastN hx hb hK hP hD hS 1 0 rfl rfl (by omega) (by decide) d_Md_waits_6 (fun H locs hP hD hS => ?_)
  have hP : va_P G vwCl [(a_md, .inr (4, [.int (nI kn), .ref a_mrm, .ref a_mcl, .ref a_mmn, .ref a_mvl, .ref a_mst, .ref a_msi, .ref a_mpl, .ref a_mof, .ref a_mgt, .ref a_msn, .ref a_mdn, .ref a_mca, .ref a_mcc, .ref a_mcw, .ref a_mcv, .long (lN kmo), .int kmt, .int kft])), (a_mst, .inl (cI, 16, .inl (fun j => nI ((va_up kst q h) j)))), (a_msi, .inl (cJ, 16, .inr (.inl (fun j => lN (ksi j)))))] H := hP
  have hD : va_D A [(a_md, .inr (4, [.int (nI kn), .ref a_mrm, .ref a_mcl, .ref a_mmn, .ref a_mvl, .ref a_mst, .ref a_msi, .ref a_mpl, .ref a_mof, .ref a_mgt, .ref a_msn, .ref a_mdn, .ref a_mca, .ref a_mcc, .ref a_mcw, .ref a_mcv, .long (lN kmo), .int kmt, .int kft])), (a_mst, .inl (cI, 16, .inl (fun j => nI ((va_up kst q h) j)))), (a_msi, .inl (cJ, 16, .inr (.inl (fun j => lN (ksi j)))))] := hD
  refine lv_aload_n hx hb d_Md_waits_7 rfl (lv_at hl 0 rfl) ?_
  refine va_get (D := G) (ci := 4) (v := .ref a_msi) (C := R_Md) (T := T_Md) (N := 19) hx hb hts uw_Md hown hK hP 0 rfl rfl 6 (by decide) (hts _ t_343) (fun _ h9 => h9) rfl d_Md_waits_8 ?_
  refine lv_iload_n hx hb d_Md_waits_11 rfl (lv_at hl 1 rfl) ?_
  refine lv_aload_n hx hb d_Md_waits_12 rfl (lv_at hl 0 rfl) ?_
  refine va_get (D := G) (ci := 4) (v := .long (lN kmo)) (C := R_Md) (T := T_Md) (N := 19) hx hb hts uw_Md hown hK hP 0 rfl rfl 16 (by decide) (hts _ t_353) (fun _ h9 => h9) rfl d_Md_waits_13 ?_
  refine k_last hx hb hK hP hD hS 2 2 rfl rfl (by omega) (by decide) d_Md_waits_16 (fun H locs hP hD hS => ?_)
  have hP : va_P G vwCl [(a_md, .inr (4, [.int (nI kn), .ref a_mrm, .ref a_mcl, .ref a_mmn, .ref a_mvl, .ref a_mst, .ref a_msi, .ref a_mpl, .ref a_mof, .ref a_mgt, .ref a_msn, .ref a_mdn, .ref a_mca, .ref a_mcc, .ref a_mcw, .ref a_mcv, .long (lN kmo), .int kmt, .int kft])), (a_mst, .inl (cI, 16, .inl (fun j => nI ((va_up kst q h) j)))), (a_msi, .inl (cJ, 16, .inr (.inl (fun j => lN ((va_up ksi q kmo) j)))))] H := hP
  have hD : va_D A [(a_md, .inr (4, [.int (nI kn), .ref a_mrm, .ref a_mcl, .ref a_mmn, .ref a_mvl, .ref a_mst, .ref a_msi, .ref a_mpl, .ref a_mof, .ref a_mgt, .ref a_msn, .ref a_mdn, .ref a_mca, .ref a_mcc, .ref a_mcw, .ref a_mcv, .long (lN kmo), .int kmt, .int kft])), (a_mst, .inl (cI, 16, .inl (fun j => nI ((va_up kst q h) j)))), (a_msi, .inl (cJ, 16, .inr (.inl (fun j => lN ((va_up ksi q kmo) j)))))] := hD
  refine lv_aload_n hx hb d_Md_waits_17 rfl (lv_at hl 0 rfl) ?_
  refine lv_aload_n hx hb d_Md_waits_18 rfl (lv_at hl 0 rfl) ?_
  refine va_get (D := G) (ci := 4) (v := .long (lN kmo)) (C := R_Md) (T := T_Md) (N := 19) hx hb hts uw_Md hown hK hP 0 rfl rfl 16 (by decide) (hts _ t_353) (fun _ h9 => h9) rfl d_Md_waits_19 ?_
  refine lv_lconst (v := lN 1) hx hb d_Md_waits_22 (by decide +kernel) ?_
  refine lv_ladd hx hb d_Md_waits_23 ?_
  refine k_topl (y := lN (kmo + 1)) (lN_add kmo 1) ?_
  refine va_put (D := G) (ci := 4) (v := .long (lN (kmo + 1))) (ty := .long) (C := R_Md) (T := T_Md) (N := 19) hx hb hts uw_Md ty_Md tyok_Md nm_Md hown hK hP hD hS 0 rfl rfl 16 (by decide) (hts _ t_353) (fun _ h9 => h9) rfl (by decide +kernel) rfl rfl (Nat.le_of_ble_eq_true rfl) d_Md_waits_24 (fun H locs hP hD hS => ?_)
  have hP : va_P G vwCl [(a_md, .inr (4, [.int (nI kn), .ref a_mrm, .ref a_mcl, .ref a_mmn, .ref a_mvl, .ref a_mst, .ref a_msi, .ref a_mpl, .ref a_mof, .ref a_mgt, .ref a_msn, .ref a_mdn, .ref a_mca, .ref a_mcc, .ref a_mcw, .ref a_mcv, .long (lN (kmo + 1)), .int kmt, .int kft])), (a_mst, .inl (cI, 16, .inl (fun j => nI ((va_up kst q h) j)))), (a_msi, .inl (cJ, 16, .inr (.inl (fun j => lN ((va_up ksi q kmo) j)))))] H := hP
  have hD : va_D A [(a_md, .inr (4, [.int (nI kn), .ref a_mrm, .ref a_mcl, .ref a_mmn, .ref a_mvl, .ref a_mst, .ref a_msi, .ref a_mpl, .ref a_mof, .ref a_mgt, .ref a_msn, .ref a_mdn, .ref a_mca, .ref a_mcc, .ref a_mcw, .ref a_mcv, .long (lN (kmo + 1)), .int kmt, .int kft])), (a_mst, .inl (cI, 16, .inl (fun j => nI ((va_up kst q h) j)))), (a_msi, .inl (cJ, 16, .inr (.inl (fun j => lN ((va_up ksi q kmo) j)))))] := hD
  exact k_wv hx hb hr hlocks hP hS () (rfl) (trivial) d_Md_waits_27
set_option maxHeartbeats 4000000 in
set_option maxRecDepth 100000 in
theorem c_Md_push (l : Launch) (G : va_G) (cI cZ cJ : ClassId) (sz : Nat) (a_md : Nat) (a_mrm : Nat) (a_mcl : Nat) (a_mmn : Nat) (a_mvl : Nat) (a_mst : Nat) (a_msi : Nat) (a_mpl : Nat) (a_mof : Nat) (a_mgt : Nat) (a_msn : Nat) (a_mdn : Nat) (a_mca : Nat) (a_mcc : Nat) (a_mcw : Nat) (a_mcv : Nat) (kn : Nat) (kmo : Nat) (kmt : Int32) (kft : Int32) (kmany : Nat → Nat) (kvals : Nat → Int32) (x : Nat) (v : Int32) (hx1 : x < 40) (hm8 : kmany x < 8) : Met l y_Md_push (w_Md_push) ({ frames := 0, cells := 0, slots := 0, locals := 0 }) (va_Pc [.ref a_md, .int (nI x), .int v] (kW G vwCl [(cI, .int), (cZ, .boolean), (cJ, .long)] [(a_md, .inr (4, [.int (nI kn), .ref a_mrm, .ref a_mcl, .ref a_mmn, .ref a_mvl, .ref a_mst, .ref a_msi, .ref a_mpl, .ref a_mof, .ref a_mgt, .ref a_msn, .ref a_mdn, .ref a_mca, .ref a_mcc, .ref a_mcw, .ref a_mcv, .long (lN kmo), .int kmt, .int kft])), (a_mmn, .inl (cI, 40, .inl (fun j => nI (kmany j)))), (a_mvl, .inl (cI, 320, .inl kvals))] sz)) (va_Qv (fun (u : Unit) => True) (fun u t => va_P G vwCl [(a_md, .inr (4, [.int (nI kn), .ref a_mrm, .ref a_mcl, .ref a_mmn, .ref a_mvl, .ref a_mst, .ref a_msi, .ref a_mpl, .ref a_mof, .ref a_mgt, .ref a_msn, .ref a_mdn, .ref a_mca, .ref a_mcc, .ref a_mcw, .ref a_mcv, .long (lN kmo), .int kmt, .int kft])), (a_mmn, .inl (cI, 40, .inl (fun j => nI ((va_up kmany x (kmany x + 1)) j)))), (a_mvl, .inl (cI, 320, .inl (va_up kvals (8 * x + kmany x) v)))] t.heap) (va_A [(a_md, .inr (4, [.int (nI kn), .ref a_mrm, .ref a_mcl, .ref a_mmn, .ref a_mvl, .ref a_mst, .ref a_msi, .ref a_mpl, .ref a_mof, .ref a_mgt, .ref a_msn, .ref a_mdn, .ref a_mca, .ref a_mcc, .ref a_mcw, .ref a_mcv, .long (lN kmo), .int kmt, .int kft])), (a_mmn, .inl (cI, 40, .inl (fun j => nI (kmany j)))), (a_mvl, .inl (cI, 320, .inl kvals))] sz)) 0 0 (va_A [(a_md, .inr (4, [.int (nI kn), .ref a_mrm, .ref a_mcl, .ref a_mmn, .ref a_mvl, .ref a_mst, .ref a_msi, .ref a_mpl, .ref a_mof, .ref a_mgt, .ref a_msn, .ref a_mdn, .ref a_mca, .ref a_mcc, .ref a_mcw, .ref a_mcv, .long (lN kmo), .int kmt, .int kft])), (a_mmn, .inl (cI, 40, .inl (fun j => nI (kmany j)))), (a_mvl, .inl (cI, 320, .inl kvals))] sz) := by
  refine Met.ofW (cc := b_Md_push) (maxL := 3) (ret := none) (by decide) rfl ?_
  intro p e s m args below meth c s₁ B hml hv
  obtain ⟨rfl, hsz, hP, hK, hD0⟩ := hv
  have hx := B.exec
  have hb := B.bytes
  have hr := B.returns
  have hts : ∀ w ∈ TT, w.before _ s = true := fun w h => atoms_spec (ws := (w_Md_push)) B.pre w (List.mem_cons_of_mem _ h)
  have hown : s.vm.findClass R_Md = some m.cls := findClass_of_methodNamed B.named
  have hlocks := B.notSynchronized
  subst hsz
  have hD := hD0.self (sz := s.heap.size)
  generalize hAe : va_A [(a_md, .inr (4, [.int (nI kn), .ref a_mrm, .ref a_mcl, .ref a_mmn, .ref a_mvl, .ref a_mst, .ref a_msi, .ref a_mpl, .ref a_mof, .ref a_mgt, .ref a_msn, .ref a_mdn, .ref a_mca, .ref a_mcc, .ref a_mcw, .ref a_mcv, .long (lN kmo), .int kmt, .int kft])), (a_mmn, .inl (cI, 40, .inl (fun j => nI (kmany j)))), (a_mvl, .inl (cI, 320, .inl kvals))] s.heap.size = A at hD ⊢
  have hA : ∀ q : Nat, s.heap.size ≤ q → A q := fun q h => by rw [← hAe]; exact Or.inr h
  have hS : va_S A s.heap s.heap [] := va_S.rf
  have hP : va_P G vwCl [(a_md, .inr (4, [.int (nI kn), .ref a_mrm, .ref a_mcl, .ref a_mmn, .ref a_mvl, .ref a_mst, .ref a_msi, .ref a_mpl, .ref a_mof, .ref a_mgt, .ref a_msn, .ref a_mdn, .ref a_mca, .ref a_mcc, .ref a_mcw, .ref a_mcv, .long (lN kmo), .int kmt, .int kft])), (a_mmn, .inl (cI, 40, .inl (fun j => nI (kmany j)))), (a_mvl, .inl (cI, 320, .inl kvals))] s.heap := hP
  have hl := lv_entry ([.ref a_md, .int (nI x), .int v]) (n := 3) (Nat.le_of_ble_eq_true rfl)
  rw [lg_entry_eq]
  generalize (lg_sl ([.ref a_md, .int (nI x), .int v]) ++ List.replicate (3 - (lg_sl ([.ref a_md, .int (nI x), .int v])).length) Slot.unset).toArray = ls at hl ⊢
  have hl : lv_has ls 3 [(0, .ref a_md), (1, .int (nI x)), (2, .int v)] := hl
  refine lv_aload_n hx hb d_Md_push_0 rfl (lv_at hl 0 rfl) ?_
  refine va_get (D := G) (ci := 4) (v := .ref a_mvl) (C := R_Md) (T := T_Md) (N := 19) hx hb hts uw_Md hown hK hP 0 rfl rfl 4 (by decide) (hts _ t_341) (fun _ h9 => h9) rfl d_Md_push_1 ?_
  refine lv_bipush (v := (nI 8)) hx hb d_Md_push_4 (by decide +kernel) ?_
  refine lv_iload_n hx hb d_Md_push_6 rfl (lv_at hl 1 rfl) ?_
  refine lv_imul hx hb d_Md_push_7 ?_
  refine k_top (y := (nI (8 * x))) (pk_mul 8 x) ?_
  refine lv_aload_n hx hb d_Md_push_8 rfl (lv_at hl 0 rfl) ?_
  refine va_get (D := G) (ci := 4) (v := .ref a_mmn) (C := R_Md) (T := T_Md) (N := 19) hx hb hts uw_Md hown hK hP 0 rfl rfl 3 (by decide) (hts _ t_340) (fun _ h9 => h9) rfl d_Md_push_9 ?_
  refine lv_iload_n hx hb d_Md_push_12 rfl (lv_at hl 1 rfl) ?_
  refine k_iald hx hb hK hP 1 0 rfl rfl (by omega) (by decide) d_Md_push_13 ?_
  refine lv_iadd hx hb d_Md_push_14 ?_
  refine k_top (y := (nI ((8 * x) + (kmany x)))) (nI_add (8 * x) (kmany x)) ?_
  refine lv_iload_n hx hb d_Md_push_15 rfl (lv_at hl 2 rfl) ?_
  refine k_iast hx hb hK hP hD hS 2 0 rfl rfl (by omega) (by decide) d_Md_push_16 (fun H locs hP hD hS => ?_)
  have hP : va_P G vwCl [(a_md, .inr (4, [.int (nI kn), .ref a_mrm, .ref a_mcl, .ref a_mmn, .ref a_mvl, .ref a_mst, .ref a_msi, .ref a_mpl, .ref a_mof, .ref a_mgt, .ref a_msn, .ref a_mdn, .ref a_mca, .ref a_mcc, .ref a_mcw, .ref a_mcv, .long (lN kmo), .int kmt, .int kft])), (a_mmn, .inl (cI, 40, .inl (fun j => nI (kmany j)))), (a_mvl, .inl (cI, 320, .inl (va_up kvals ((8 * x) + (kmany x)) v)))] H := hP
  have hD : va_D A [(a_md, .inr (4, [.int (nI kn), .ref a_mrm, .ref a_mcl, .ref a_mmn, .ref a_mvl, .ref a_mst, .ref a_msi, .ref a_mpl, .ref a_mof, .ref a_mgt, .ref a_msn, .ref a_mdn, .ref a_mca, .ref a_mcc, .ref a_mcw, .ref a_mcv, .long (lN kmo), .int kmt, .int kft])), (a_mmn, .inl (cI, 40, .inl (fun j => nI (kmany j)))), (a_mvl, .inl (cI, 320, .inl (va_up kvals ((8 * x) + (kmany x)) v)))] := hD
  refine lv_aload_n hx hb d_Md_push_17 rfl (lv_at hl 0 rfl) ?_
  refine va_get (D := G) (ci := 4) (v := .ref a_mmn) (C := R_Md) (T := T_Md) (N := 19) hx hb hts uw_Md hown hK hP 0 rfl rfl 3 (by decide) (hts _ t_340) (fun _ h9 => h9) rfl d_Md_push_18 ?_
  refine lv_iload_n hx hb d_Md_push_21 rfl (lv_at hl 1 rfl) ?_
  refine lv_aload_n hx hb d_Md_push_22 rfl (lv_at hl 0 rfl) ?_
  refine va_get (D := G) (ci := 4) (v := .ref a_mmn) (C := R_Md) (T := T_Md) (N := 19) hx hb hts uw_Md hown hK hP 0 rfl rfl 3 (by decide) (hts _ t_340) (fun _ h9 => h9) rfl d_Md_push_23 ?_
  refine lv_iload_n hx hb d_Md_push_26 rfl (lv_at hl 1 rfl) ?_
  refine k_iald hx hb hK hP 1 0 rfl rfl (by omega) (by decide) d_Md_push_27 ?_
  refine lv_iconst (v := (nI 1)) hx hb d_Md_push_28 (by decide +kernel) ?_
  refine lv_iadd hx hb d_Md_push_29 ?_
  refine k_top (y := (nI ((kmany x) + 1))) (nI_add (kmany x) 1) ?_
  refine k_iastN hx hb hK hP hD hS 1 0 rfl rfl (by omega) (by decide) d_Md_push_30 (fun H locs hP hD hS => ?_)
  have hP : va_P G vwCl [(a_md, .inr (4, [.int (nI kn), .ref a_mrm, .ref a_mcl, .ref a_mmn, .ref a_mvl, .ref a_mst, .ref a_msi, .ref a_mpl, .ref a_mof, .ref a_mgt, .ref a_msn, .ref a_mdn, .ref a_mca, .ref a_mcc, .ref a_mcw, .ref a_mcv, .long (lN kmo), .int kmt, .int kft])), (a_mmn, .inl (cI, 40, .inl (fun j => nI ((va_up kmany x ((kmany x) + 1)) j)))), (a_mvl, .inl (cI, 320, .inl (va_up kvals ((8 * x) + (kmany x)) v)))] H := hP
  have hD : va_D A [(a_md, .inr (4, [.int (nI kn), .ref a_mrm, .ref a_mcl, .ref a_mmn, .ref a_mvl, .ref a_mst, .ref a_msi, .ref a_mpl, .ref a_mof, .ref a_mgt, .ref a_msn, .ref a_mdn, .ref a_mca, .ref a_mcc, .ref a_mcw, .ref a_mcv, .long (lN kmo), .int kmt, .int kft])), (a_mmn, .inl (cI, 40, .inl (fun j => nI ((va_up kmany x ((kmany x) + 1)) j)))), (a_mvl, .inl (cI, 320, .inl (va_up kvals ((8 * x) + (kmany x)) v)))] := hD
  exact k_wv hx hb hr hlocks hP hS () (rfl) (trivial) d_Md_push_31
set_option maxHeartbeats 4000000 in
set_option maxRecDepth 100000 in
theorem c_Md_take (l : Launch) (G : va_G) (cI cZ cJ : ClassId) (sz : Nat) (a_md : Nat) (a_mrm : Nat) (a_mcl : Nat) (a_mmn : Nat) (a_mvl : Nat) (a_mst : Nat) (a_msi : Nat) (a_mpl : Nat) (a_mof : Nat) (a_mgt : Nat) (a_msn : Nat) (a_mdn : Nat) (a_mca : Nat) (a_mcc : Nat) (a_mcw : Nat) (a_mcv : Nat) (kn : Nat) (kmo : Nat) (kmt : Int32) (kft : Int32) (kmany : Nat → Nat) (kvals : Nat → Int32) (x : Nat) (hx1 : x < 40) (hm8 : kmany x ≤ 8) (hm0 : 0 < kmany x) : Met l y_Md_take (w_Md_take) ({ frames := 0, cells := 0, slots := 0, locals := 0 }) (va_Pc [.ref a_md, .int (nI x)] (kW G vwCl [(cI, .int), (cZ, .boolean), (cJ, .long)] [(a_md, .inr (4, [.int (nI kn), .ref a_mrm, .ref a_mcl, .ref a_mmn, .ref a_mvl, .ref a_mst, .ref a_msi, .ref a_mpl, .ref a_mof, .ref a_mgt, .ref a_msn, .ref a_mdn, .ref a_mca, .ref a_mcc, .ref a_mcw, .ref a_mcv, .long (lN kmo), .int kmt, .int kft])), (a_mmn, .inl (cI, 40, .inl (fun j => nI (kmany j)))), (a_mvl, .inl (cI, 320, .inl kvals))] sz)) (va_Qi (fun (r : Int32) (u : Unit) => r = (kvals (8 * x))) (fun u t => va_P G vwCl [(a_md, .inr (4, [.int (nI kn), .ref a_mrm, .ref a_mcl, .ref a_mmn, .ref a_mvl, .ref a_mst, .ref a_msi, .ref a_mpl, .ref a_mof, .ref a_mgt, .ref a_msn, .ref a_mdn, .ref a_mca, .ref a_mcc, .ref a_mcw, .ref a_mcv, .long (lN kmo), .int kmt, .int kft])), (a_mmn, .inl (cI, 40, .inl (fun j => nI ((va_up kmany x (kmany x - 1)) j)))), (a_mvl, .inl (cI, 320, .inl (va_cpy kvals kvals (8 * x + 1) (8 * x) (kmany x - 1))))] t.heap) (va_A [(a_md, .inr (4, [.int (nI kn), .ref a_mrm, .ref a_mcl, .ref a_mmn, .ref a_mvl, .ref a_mst, .ref a_msi, .ref a_mpl, .ref a_mof, .ref a_mgt, .ref a_msn, .ref a_mdn, .ref a_mca, .ref a_mcc, .ref a_mcw, .ref a_mcv, .long (lN kmo), .int kmt, .int kft])), (a_mmn, .inl (cI, 40, .inl (fun j => nI (kmany j)))), (a_mvl, .inl (cI, 320, .inl kvals))] sz)) 0 0 (va_A [(a_md, .inr (4, [.int (nI kn), .ref a_mrm, .ref a_mcl, .ref a_mmn, .ref a_mvl, .ref a_mst, .ref a_msi, .ref a_mpl, .ref a_mof, .ref a_mgt, .ref a_msn, .ref a_mdn, .ref a_mca, .ref a_mcc, .ref a_mcw, .ref a_mcv, .long (lN kmo), .int kmt, .int kft])), (a_mmn, .inl (cI, 40, .inl (fun j => nI (kmany j)))), (a_mvl, .inl (cI, 320, .inl kvals))] sz) := by
  refine Met.ofW (cc := b_Md_take) (maxL := 4) (ret := (some .int)) (by decide) rfl ?_
  intro p e s m args below meth c s₁ B hml hv
  obtain ⟨rfl, hsz, hP, hK, hD0⟩ := hv
  have hx := B.exec
  have hb := B.bytes
  have hr := B.returns
  have hts : ∀ w ∈ TT, w.before _ s = true := fun w h => atoms_spec (ws := (w_Md_take)) B.pre w (List.mem_cons_of_mem _ h)
  have hown : s.vm.findClass R_Md = some m.cls := findClass_of_methodNamed B.named
  have hlocks := B.notSynchronized
  subst hsz
  have hD := hD0.self (sz := s.heap.size)
  generalize hAe : va_A [(a_md, .inr (4, [.int (nI kn), .ref a_mrm, .ref a_mcl, .ref a_mmn, .ref a_mvl, .ref a_mst, .ref a_msi, .ref a_mpl, .ref a_mof, .ref a_mgt, .ref a_msn, .ref a_mdn, .ref a_mca, .ref a_mcc, .ref a_mcw, .ref a_mcv, .long (lN kmo), .int kmt, .int kft])), (a_mmn, .inl (cI, 40, .inl (fun j => nI (kmany j)))), (a_mvl, .inl (cI, 320, .inl kvals))] s.heap.size = A at hD ⊢
  have hA : ∀ q : Nat, s.heap.size ≤ q → A q := fun q h => by rw [← hAe]; exact Or.inr h
  have hS : va_S A s.heap s.heap [] := va_S.rf
  have hP : va_P G vwCl [(a_md, .inr (4, [.int (nI kn), .ref a_mrm, .ref a_mcl, .ref a_mmn, .ref a_mvl, .ref a_mst, .ref a_msi, .ref a_mpl, .ref a_mof, .ref a_mgt, .ref a_msn, .ref a_mdn, .ref a_mca, .ref a_mcc, .ref a_mcw, .ref a_mcv, .long (lN kmo), .int kmt, .int kft])), (a_mmn, .inl (cI, 40, .inl (fun j => nI (kmany j)))), (a_mvl, .inl (cI, 320, .inl kvals))] s.heap := hP
  have hl := lv_entry ([.ref a_md, .int (nI x)]) (n := 4) (Nat.le_of_ble_eq_true rfl)
  rw [lg_entry_eq]
  generalize (lg_sl ([.ref a_md, .int (nI x)]) ++ List.replicate (4 - (lg_sl ([.ref a_md, .int (nI x)])).length) Slot.unset).toArray = ls at hl ⊢
  have hl : lv_has ls 4 [(0, .ref a_md), (1, .int (nI x))] := hl
  refine lv_aload_n hx hb d_Md_take_0 rfl (lv_at hl 0 rfl) ?_
  refine va_get (D := G) (ci := 4) (v := .ref a_mvl) (C := R_Md) (T := T_Md) (N := 19) hx hb hts uw_Md hown hK hP 0 rfl rfl 4 (by decide) (hts _ t_341) (fun _ h9 => h9) rfl d_Md_take_1 ?_
  refine lv_bipush (v := (nI 8)) hx hb d_Md_take_4 (by decide +kernel) ?_
  refine lv_iload_n hx hb d_Md_take_6 rfl (lv_at hl 1 rfl) ?_
  refine lv_imul hx hb d_Md_take_7 ?_
  refine k_top (y := (nI (8 * x))) (pk_mul 8 x) ?_
  refine k_iald hx hb hK hP 2 0 rfl rfl (by omega) (by decide) d_Md_take_8 ?_
  refine lv_istore_n (lv' := [(2, .int (kvals (8 * x))), (0, .ref a_md), (1, .int (nI x))]) hx hb d_Md_take_9 rfl hl (by decide) rfl (fun ls hl => ?_)
  refine lv_aload_n hx hb d_Md_take_10 rfl (lv_at hl 1 rfl) ?_
  refine va_get (D := G) (ci := 4) (v := .ref a_mmn) (C := R_Md) (T := T_Md) (N := 19) hx hb hts uw_Md hown hK hP 0 rfl rfl 3 (by decide) (hts _ t_340) (fun _ h9 => h9) rfl d_Md_take_11 ?_
  refine lv_iload_n hx hb d_Md_take_14 rfl (lv_at hl 2 rfl) ?_
  refine lv_aload_n hx hb d_Md_take_15 rfl (lv_at hl 1 rfl) ?_
  refine va_get (D := G) (ci := 4) (v := .ref a_mmn) (C := R_Md) (T := T_Md) (N := 19) hx hb hts uw_Md hown hK hP 0 rfl rfl 3 (by decide) (hts _ t_340) (fun _ h9 => h9) rfl d_Md_take_16 ?_
  refine lv_iload_n hx hb d_Md_take_19 rfl (lv_at hl 2 rfl) ?_
  refine k_iald hx hb hK hP 1 0 rfl rfl (by omega) (by decide) d_Md_take_20 ?_
  refine lv_iconst (v := (nI 1)) hx hb d_Md_take_21 (by decide +kernel) ?_
  refine lv_isub hx hb d_Md_take_22 ?_
  refine k_top (y := (nI ((kmany x) - 1))) (pk_sub (by omega)) ?_
  refine k_iastN hx hb hK hP hD hS 1 0 rfl rfl (by omega) (by decide) d_Md_take_23 (fun H locs hP hD hS => ?_)
  have hP : va_P G vwCl [(a_md, .inr (4, [.int (nI kn), .ref a_mrm, .ref a_mcl, .ref a_mmn, .ref a_mvl, .ref a_mst, .ref a_msi, .ref a_mpl, .ref a_mof, .ref a_mgt, .ref a_msn, .ref a_mdn, .ref a_mca, .ref a_mcc, .ref a_mcw, .ref a_mcv, .long (lN kmo), .int kmt, .int kft])), (a_mmn, .inl (cI, 40, .inl (fun j => nI ((va_up kmany x ((kmany x) - 1)) j)))), (a_mvl, .inl (cI, 320, .inl kvals))] H := hP
  have hD : va_D A [(a_md, .inr (4, [.int (nI kn), .ref a_mrm, .ref a_mcl, .ref a_mmn, .ref a_mvl, .ref a_mst, .ref a_msi, .ref a_mpl, .ref a_mof, .ref a_mgt, .ref a_msn, .ref a_mdn, .ref a_mca, .ref a_mcc, .ref a_mcw, .ref a_mcv, .long (lN kmo), .int kmt, .int kft])), (a_mmn, .inl (cI, 40, .inl (fun j => nI ((va_up kmany x ((kmany x) - 1)) j)))), (a_mvl, .inl (cI, 320, .inl kvals))] := hD
  refine lv_iconst (v := (nI 0)) hx hb d_Md_take_24 (by decide +kernel) ?_
  refine lv_istore_n (lv' := [(3, .int (nI 0)), (2, .int (kvals (8 * x))), (0, .ref a_md), (1, .int (nI x))]) hx hb d_Md_take_25 rfl hl (by decide) rfl (fun ls hl => ?_)
  have loop_26 : ∀ (k : Nat) (i : Nat) (kv1 : Nat → Int32) (H : Heap) (locs : List Loc) (ls : Array Slot), i ≤ kmany x - 1 → kv1 = va_cpy kvals kvals (8 * x + 1) (8 * x) i → kmany x - 1 - i < k → va_P G vwCl [(a_md, .inr (4, [.int (nI kn), .ref a_mrm, .ref a_mcl, .ref a_mmn, .ref a_mvl, .ref a_mst, .ref a_msi, .ref a_mpl, .ref a_mof, .ref a_mgt, .ref a_msn, .ref a_mdn, .ref a_mca, .ref a_mcc, .ref a_mcw, .ref a_mcv, .long (lN kmo), .int kmt, .int kft])), (a_mmn, .inl (cI, 40, .inl (fun j => nI ((va_up kmany x (kmany x - 1)) j)))), (a_mvl, .inl (cI, 320, .inl kv1))] H → va_D A [(a_md, .inr (4, [.int (nI kn), .ref a_mrm, .ref a_mcl, .ref a_mmn, .ref a_mvl, .ref a_mst, .ref a_msi, .ref a_mpl, .ref a_mof, .ref a_mgt, .ref a_msn, .ref a_mdn, .ref a_mca, .ref a_mcc, .ref a_mcw, .ref a_mcv, .long (lN kmo), .int kmt, .int kft])), (a_mmn, .inl (cI, 40, .inl (fun j => nI ((va_up kmany x (kmany x - 1)) j)))), (a_mvl, .inl (cI, 320, .inl kv1))] → va_S A s.heap H locs → lv_has ls 4 [(0, .ref a_md), (1, .int (nI x)), (2, .int (kvals (8 * x))), (3, .int (nI i))] → W p l e (headSpec (w_Md_take) ({ frames := 0, cells := 0, slots := 0, locals := 0 })).room s m (List.toArray [.ref a_md, .int (nI x)]) below meth c H locs 0 0 (MQ below (va_Qi (fun (r : Int32) (u : Unit) => r = (kvals (8 * x))) (fun u t => va_P G vwCl [(a_md, .inr (4, [.int (nI kn), .ref a_mrm, .ref a_mcl, .ref a_mmn, .ref a_mvl, .ref a_mst, .ref a_msi, .ref a_mpl, .ref a_mof, .ref a_mgt, .ref a_msn, .ref a_mdn, .ref a_mca, .ref a_mcc, .ref a_mcw, .ref a_mcv, .long (lN kmo), .int kmt, .int kft])), (a_mmn, .inl (cI, 40, .inl (fun j => nI ((va_up kmany x (kmany x - 1)) j)))), (a_mvl, .inl (cI, 320, .inl (va_cpy kvals kvals (8 * x + 1) (8 * x) (kmany x - 1))))] t.heap) A) (List.toArray [.ref a_md, .int (nI x)]) s 0 0 A) (F0 m 26 ls []) := by
    intro k
    induction k with
    | zero => intro i kv1 H locs ls hi hk1 hk; exact absurd hk (Nat.not_lt_zero _)
    | succ k ih_26 =>
      intro i kv1 H locs ls hi hk1 hk hP hD hS hl
      refine lv_iload_n hx hb d_Md_take_26 rfl (lv_at hl 3 rfl) ?_
      refine lv_aload_n hx hb d_Md_take_27 rfl (lv_at hl 0 rfl) ?_
      refine va_get (D := G) (ci := 4) (v := .ref a_mmn) (C := R_Md) (T := T_Md) (N := 19) hx hb hts uw_Md hown hK hP 0 rfl rfl 3 (by decide) (hts _ t_340) (fun _ h9 => h9) rfl d_Md_take_28 ?_
      refine lv_iload_n hx hb d_Md_take_31 rfl (lv_at hl 1 rfl) ?_
      refine k_iald hx hb hK hP 1 0 rfl rfl (by omega) (by decide) d_Md_take_32 ?_
      refine k_top (y := (nI (kmany x - 1))) (congrArg nI (va_up_self _ _ _)) ?_
      refine n_icmp_ge (tgt := 66) hx hb d_Md_take_33 (by decide) (by omega) (by omega) (fun c_a => ?_) (fun c_a => ?_)
      · refine lv_iload_n hx hb d_Md_take_66 rfl (lv_at hl 2 rfl) ?_
        exact k_wi hx hb hr hlocks hP hS () (by rw [hk1, show i = kmany x - 1 by omega]) (rfl) d_Md_take_67
      · refine lv_aload_n hx hb d_Md_take_36 rfl (lv_at hl 0 rfl) ?_
        refine va_get (D := G) (ci := 4) (v := .ref a_mvl) (C := R_Md) (T := T_Md) (N := 19) hx hb hts uw_Md hown hK hP 0 rfl rfl 4 (by decide) (hts _ t_341) (fun _ h9 => h9) rfl d_Md_take_37 ?_
        refine lv_bipush (v := (nI 8)) hx hb d_Md_take_40 (by decide +kernel) ?_
        refine lv_iload_n hx hb d_Md_take_42 rfl (lv_at hl 1 rfl) ?_
        refine lv_imul hx hb d_Md_take_43 ?_
        refine k_top (y := (nI (8 * x))) (pk_mul 8 x) ?_
        refine lv_iload_n hx hb d_Md_take_44 rfl (lv_at hl 3 rfl) ?_
        refine lv_iadd hx hb d_Md_take_45 ?_
        refine k_top (y := (nI ((8 * x) + i))) (nI_add (8 * x) i) ?_
        refine lv_aload_n hx hb d_Md_take_46 rfl (lv_at hl 0 rfl) ?_
        refine va_get (D := G) (ci := 4) (v := .ref a_mvl) (C := R_Md) (T := T_Md) (N := 19) hx hb hts uw_Md hown hK hP 0 rfl rfl 4 (by decide) (hts _ t_341) (fun _ h9 => h9) rfl d_Md_take_47 ?_
        refine lv_bipush (v := (nI 8)) hx hb d_Md_take_50 (by decide +kernel) ?_
        refine lv_iload_n hx hb d_Md_take_52 rfl (lv_at hl 1 rfl) ?_
        refine lv_imul hx hb d_Md_take_53 ?_
        refine k_top (y := (nI (8 * x))) (pk_mul 8 x) ?_
        refine lv_iload_n hx hb d_Md_take_54 rfl (lv_at hl 3 rfl) ?_
        refine lv_iadd hx hb d_Md_take_55 ?_
        refine k_top (y := (nI ((8 * x) + i))) (nI_add (8 * x) i) ?_
        refine lv_iconst (v := (nI 1)) hx hb d_Md_take_56 (by decide +kernel) ?_
        refine lv_iadd hx hb d_Md_take_57 ?_
        refine k_top (y := (nI (((8 * x) + i) + 1))) (nI_add ((8 * x) + i) 1) ?_
        refine k_iald hx hb hK hP 2 0 rfl rfl (by omega) (by decide) d_Md_take_58 ?_
        refine k_iast hx hb hK hP hD hS 2 0 rfl rfl (by omega) (by decide) d_Md_take_59 (fun H locs hP hD hS => ?_)
        have hP : va_P G vwCl [(a_md, .inr (4, [.int (nI kn), .ref a_mrm, .ref a_mcl, .ref a_mmn, .ref a_mvl, .ref a_mst, .ref a_msi, .ref a_mpl, .ref a_mof, .ref a_mgt, .ref a_msn, .ref a_mdn, .ref a_mca, .ref a_mcc, .ref a_mcw, .ref a_mcv, .long (lN kmo), .int kmt, .int kft])), (a_mmn, .inl (cI, 40, .inl (fun j => nI ((va_up kmany x (kmany x - 1)) j)))), (a_mvl, .inl (cI, 320, .inl (va_up kv1 ((8 * x) + i) (kv1 (((8 * x) + i) + 1)))))] H := hP
        have hD : va_D A [(a_md, .inr (4, [.int (nI kn), .ref a_mrm, .ref a_mcl, .ref a_mmn, .ref a_mvl, .ref a_mst, .ref a_msi, .ref a_mpl, .ref a_mof, .ref a_mgt, .ref a_msn, .ref a_mdn, .ref a_mca, .ref a_mcc, .ref a_mcw, .ref a_mcv, .long (lN kmo), .int kmt, .int kft])), (a_mmn, .inl (cI, 40, .inl (fun j => nI ((va_up kmany x (kmany x - 1)) j)))), (a_mvl, .inl (cI, 320, .inl (va_up kv1 ((8 * x) + i) (kv1 (((8 * x) + i) + 1)))))] := hD
        refine lv_iinc (v := (nI (i + 1))) (lv' := [(3, .int (nI (i + 1))), (0, .ref a_md), (1, .int (nI x)), (2, .int (kvals (8 * x)))]) hx hb d_Md_take_60 hl (k := 3) rfl (nI_add i 1) (by decide) rfl (fun ls hl => ?_)
        refine lv_goto (tgt := 26) hx hb d_Md_take_63 (by decide) ?_
        exact ih_26 (i + 1) (va_up kv1 ((8 * x) + i) (kv1 (((8 * x) + i) + 1))) _ _ ls (by omega) (cpy_succ hk1) (by omega) (hP.sub [0, 1, 2] rfl) (hD.sub [0, 1, 2] (by decide) rfl) hS (lv_sub hl [1, 2, 3, 0] rfl)
  exact loop_26 ((kmany x - 1 - 0) + 1) 0 kvals _ _ ls (Nat.zero_le _) (cpy_0 _ _ _) (Nat.lt_succ_self _) (hP.sub [0, 1, 2] rfl) (hD.sub [0, 1, 2] (by decide) rfl) hS (lv_sub hl [2, 3, 1, 0] rfl)
set_option maxHeartbeats 4000000 in
set_option maxRecDepth 100000 in
theorem c_Md_receives (l : Launch) (G : va_G) (cI cZ cJ : ClassId) (sz : Nat) (a_md : Nat) (a_mrm : Nat) (a_mcl : Nat) (a_mmn : Nat) (a_mvl : Nat) (a_mst : Nat) (a_msi : Nat) (a_mpl : Nat) (a_mof : Nat) (a_mgt : Nat) (a_msn : Nat) (a_mdn : Nat) (a_mca : Nat) (a_mcc : Nat) (a_mcw : Nat) (a_mcv : Nat) (kn : Nat) (kmo : Nat) (kmt : Int32) (kft : Int32) (kst : Nat → Nat) (kgot : Nat → Int32) (ksent : Nat → Bool) (kdone : Nat → Int32) (kca : Nat → Nat) (kcc : Nat → Nat) (kcw : Nat → Nat) (kpl : Nat → Nat) (kof : Nat → Int32) (kcv : Nat → Int32) (cs : Nat → List Kase) (q : Nat) (x : Nat) (v : Int32) (b : Bool) (i : Nat) (hq : q < 16) (hx1 : x < 40) (hn : kn ≤ 40) (hf : fa (cs q) x 1 = some i) (hR : KR kn kst kpl kof kca kcc kcw kcv cs) : Met l y_Md_receives (w_Md_receives) ({ frames := 1, cells := 0, slots := 0, locals := 24 }) (va_Pc [.ref a_md, .int (nI q), .int (nI x), .int v, .int (bI b)] (kW G vwCl [(cI, .int), (cZ, .boolean), (cJ, .long)] [(a_md, .inr (4, [.int (nI kn), .ref a_mrm, .ref a_mcl, .ref a_mmn, .ref a_mvl, .ref a_mst, .ref a_msi, .ref a_mpl, .ref a_mof, .ref a_mgt, .ref a_msn, .ref a_mdn, .ref a_mca, .ref a_mcc, .ref a_mcw, .ref a_mcv, .long (lN kmo), .int kmt, .int kft])), (a_mst, .inl (cI, 16, .inl (fun j => nI (kst j)))), (a_mgt, .inl (cI, 16, .inl kgot)), (a_msn, .inl (cZ, 16, .inl (fun j => bI (ksent j)))), (a_mdn, .inl (cI, 16, .inl kdone)), (a_mca, .inl (cI, 16, .inl (fun j => nI (kca j)))), (a_mcc, .inl (cI, 96, .inl (fun j => nI (kcc j)))), (a_mcw, .inl (cI, 96, .inl (fun j => nI (kcw j))))] sz)) (va_Qv (fun (u : Unit) => True) (fun u t => va_P G vwCl [(a_md, .inr (4, [.int (nI kn), .ref a_mrm, .ref a_mcl, .ref a_mmn, .ref a_mvl, .ref a_mst, .ref a_msi, .ref a_mpl, .ref a_mof, .ref a_mgt, .ref a_msn, .ref a_mdn, .ref a_mca, .ref a_mcc, .ref a_mcw, .ref a_mcv, .long (lN kmo), .int kmt, .int kft])), (a_mst, .inl (cI, 16, .inl (fun j => nI ((va_up kst q 0) j)))), (a_mgt, .inl (cI, 16, .inl (va_up kgot q v))), (a_msn, .inl (cZ, 16, .inl (fun j => bI ((va_up ksent q b) j)))), (a_mdn, .inl (cI, 16, .inl (cdE kst kdone q i))), (a_mca, .inl (cI, 16, .inl (fun j => nI ((va_up kca q 0) j)))), (a_mcc, .inl (cI, 96, .inl (fun j => nI (kcc j)))), (a_mcw, .inl (cI, 96, .inl (fun j => nI (kcw j))))] t.heap) (va_A [(a_md, .inr (4, [.int (nI kn), .ref a_mrm, .ref a_mcl, .ref a_mmn, .ref a_mvl, .ref a_mst, .ref a_msi, .ref a_mpl, .ref a_mof, .ref a_mgt, .ref a_msn, .ref a_mdn, .ref a_mca, .ref a_mcc, .ref a_mcw, .ref a_mcv, .long (lN kmo), .int kmt, .int kft])), (a_mst, .inl (cI, 16, .inl (fun j => nI (kst j)))), (a_mgt, .inl (cI, 16, .inl kgot)), (a_msn, .inl (cZ, 16, .inl (fun j => bI (ksent j)))), (a_mdn, .inl (cI, 16, .inl kdone)), (a_mca, .inl (cI, 16, .inl (fun j => nI (kca j)))), (a_mcc, .inl (cI, 96, .inl (fun j => nI (kcc j)))), (a_mcw, .inl (cI, 96, .inl (fun j => nI (kcw j))))] sz)) 0 0 (va_A [(a_md, .inr (4, [.int (nI kn), .ref a_mrm, .ref a_mcl, .ref a_mmn, .ref a_mvl, .ref a_mst, .ref a_msi, .ref a_mpl, .ref a_mof, .ref a_mgt, .ref a_msn, .ref a_mdn, .ref a_mca, .ref a_mcc, .ref a_mcw, .ref a_mcv, .long (lN kmo), .int kmt, .int kft])), (a_mst, .inl (cI, 16, .inl (fun j => nI (kst j)))), (a_mgt, .inl (cI, 16, .inl kgot)), (a_msn, .inl (cZ, 16, .inl (fun j => bI (ksent j)))), (a_mdn, .inl (cI, 16, .inl kdone)), (a_mca, .inl (cI, 16, .inl (fun j => nI (kca j)))), (a_mcc, .inl (cI, 96, .inl (fun j => nI (kcc j)))), (a_mcw, .inl (cI, 96, .inl (fun j => nI (kcw j))))] sz) := by
  refine Met.ofW (cc := b_Md_receives) (maxL := 5) (ret := none) (by decide) rfl ?_
  intro p e s m args below meth c s₁ B hml hv
  obtain ⟨rfl, hsz, hP, hK, hD0⟩ := hv
  have hx := B.exec
  have hb := B.bytes
  have hr := B.returns
  have hts : ∀ w ∈ TT, w.before _ s = true := fun w h => atoms_spec (ws := (w_Md_receives)) B.pre w (List.mem_cons_of_mem _ h)
  have hown : s.vm.findClass R_Md = some m.cls := findClass_of_methodNamed B.named
  have hlocks := B.notSynchronized
  subst hsz
  have hD := hD0.self (sz := s.heap.size)
  generalize hAe : va_A [(a_md, .inr (4, [.int (nI kn), .ref a_mrm, .ref a_mcl, .ref a_mmn, .ref a_mvl, .ref a_mst, .ref a_msi, .ref a_mpl, .ref a_mof, .ref a_mgt, .ref a_msn, .ref a_mdn, .ref a_mca, .ref a_mcc, .ref a_mcw, .ref a_mcv, .long (lN kmo), .int kmt, .int kft])), (a_mst, .inl (cI, 16, .inl (fun j => nI (kst j)))), (a_mgt, .inl (cI, 16, .inl kgot)), (a_msn, .inl (cZ, 16, .inl (fun j => bI (ksent j)))), (a_mdn, .inl (cI, 16, .inl kdone)), (a_mca, .inl (cI, 16, .inl (fun j => nI (kca j)))), (a_mcc, .inl (cI, 96, .inl (fun j => nI (kcc j)))), (a_mcw, .inl (cI, 96, .inl (fun j => nI (kcw j))))] s.heap.size = A at hD ⊢
  have hA : ∀ q : Nat, s.heap.size ≤ q → A q := fun q h => by rw [← hAe]; exact Or.inr h
  have hS : va_S A s.heap s.heap [] := va_S.rf
  have hP : va_P G vwCl [(a_md, .inr (4, [.int (nI kn), .ref a_mrm, .ref a_mcl, .ref a_mmn, .ref a_mvl, .ref a_mst, .ref a_msi, .ref a_mpl, .ref a_mof, .ref a_mgt, .ref a_msn, .ref a_mdn, .ref a_mca, .ref a_mcc, .ref a_mcw, .ref a_mcv, .long (lN kmo), .int kmt, .int kft])), (a_mst, .inl (cI, 16, .inl (fun j => nI (kst j)))), (a_mgt, .inl (cI, 16, .inl kgot)), (a_msn, .inl (cZ, 16, .inl (fun j => bI (ksent j)))), (a_mdn, .inl (cI, 16, .inl kdone)), (a_mca, .inl (cI, 16, .inl (fun j => nI (kca j)))), (a_mcc, .inl (cI, 96, .inl (fun j => nI (kcc j)))), (a_mcw, .inl (cI, 96, .inl (fun j => nI (kcw j))))] s.heap := hP
  have hl := lv_entry ([.ref a_md, .int (nI q), .int (nI x), .int v, .int (bI b)]) (n := 5) (Nat.le_of_ble_eq_true rfl)
  rw [lg_entry_eq]
  generalize (lg_sl ([.ref a_md, .int (nI q), .int (nI x), .int v, .int (bI b)]) ++ List.replicate (5 - (lg_sl ([.ref a_md, .int (nI q), .int (nI x), .int v, .int (bI b)])).length) Slot.unset).toArray = ls at hl ⊢
  have hl : lv_has ls 5 [(0, .ref a_md), (1, .int (nI q)), (2, .int (nI x)), (3, .int v), (4, .int (bI b))] := hl
  have hs5 := (hR q hq).1
  refine lv_aload_n hx hb d_Md_receives_0 rfl (lv_at hl 0 rfl) ?_
  refine va_get (D := G) (ci := 4) (v := .ref a_mst) (C := R_Md) (T := T_Md) (N := 19) hx hb hts uw_Md hown hK hP 0 rfl rfl 5 (by decide) (hts _ t_342) (fun _ h9 => h9) rfl d_Md_receives_1 ?_
  refine lv_iload_n hx hb d_Md_receives_4 rfl (lv_at hl 1 rfl) ?_
  refine k_iald hx hb hK hP 1 0 rfl rfl (by omega) (by decide) d_Md_receives_5 ?_
  refine lv_iconst (v := (nI 3)) hx hb d_Md_receives_6 (by decide +kernel) ?_
  refine n_icmp_ne (tgt := 23) hx hb d_Md_receives_7 (by decide) (by omega) (by decide) (fun c_a => ?_) (fun c_a => ?_)
  · refine lv_aload_n hx hb d_Md_receives_23 rfl (lv_at hl 0 rfl) ?_
    refine va_get (D := G) (ci := 4) (v := .ref a_mgt) (C := R_Md) (T := T_Md) (N := 19) hx hb hts uw_Md hown hK hP 0 rfl rfl 9 (by decide) (hts _ t_346) (fun _ h9 => h9) rfl d_Md_receives_24 ?_
    refine lv_iload_n hx hb d_Md_receives_27 rfl (lv_at hl 1 rfl) ?_
    refine lv_iload_n hx hb d_Md_receives_28 rfl (lv_at hl 3 rfl) ?_
    refine k_iast hx hb hK hP hD hS 2 0 rfl rfl (by omega) (by decide) d_Md_receives_29 (fun H locs hP hD hS => ?_)
    have hP : va_P G vwCl [(a_md, .inr (4, [.int (nI kn), .ref a_mrm, .ref a_mcl, .ref a_mmn, .ref a_mvl, .ref a_mst, .ref a_msi, .ref a_mpl, .ref a_mof, .ref a_mgt, .ref a_msn, .ref a_mdn, .ref a_mca, .ref a_mcc, .ref a_mcw, .ref a_mcv, .long (lN kmo), .int kmt, .int kft])), (a_mst, .inl (cI, 16, .inl (fun j => nI (kst j)))), (a_mgt, .inl (cI, 16, .inl (va_up kgot q v))), (a_msn, .inl (cZ, 16, .inl (fun j => bI (ksent j)))), (a_mdn, .inl (cI, 16, .inl kdone)), (a_mca, .inl (cI, 16, .inl (fun j => nI (kca j)))), (a_mcc, .inl (cI, 96, .inl (fun j => nI (kcc j)))), (a_mcw, .inl (cI, 96, .inl (fun j => nI (kcw j))))] H := hP
    have hD : va_D A [(a_md, .inr (4, [.int (nI kn), .ref a_mrm, .ref a_mcl, .ref a_mmn, .ref a_mvl, .ref a_mst, .ref a_msi, .ref a_mpl, .ref a_mof, .ref a_mgt, .ref a_msn, .ref a_mdn, .ref a_mca, .ref a_mcc, .ref a_mcw, .ref a_mcv, .long (lN kmo), .int kmt, .int kft])), (a_mst, .inl (cI, 16, .inl (fun j => nI (kst j)))), (a_mgt, .inl (cI, 16, .inl (va_up kgot q v))), (a_msn, .inl (cZ, 16, .inl (fun j => bI (ksent j)))), (a_mdn, .inl (cI, 16, .inl kdone)), (a_mca, .inl (cI, 16, .inl (fun j => nI (kca j)))), (a_mcc, .inl (cI, 96, .inl (fun j => nI (kcc j)))), (a_mcw, .inl (cI, 96, .inl (fun j => nI (kcw j))))] := hD
    refine lv_aload_n hx hb d_Md_receives_30 rfl (lv_at hl 0 rfl) ?_
    refine va_get (D := G) (ci := 4) (v := .ref a_msn) (C := R_Md) (T := T_Md) (N := 19) hx hb hts uw_Md hown hK hP 0 rfl rfl 10 (by decide) (hts _ t_347) (fun _ h9 => h9) rfl d_Md_receives_31 ?_
    refine lv_iload_n hx hb d_Md_receives_34 rfl (lv_at hl 1 rfl) ?_
    refine lv_iload hx hb d_Md_receives_35 (lv_at hl 4 rfl) ?_
    refine k_zast hx hb hK hP hD hS 3 1 rfl rfl (by omega) (by decide) d_Md_receives_37 (fun H locs hP hD hS => ?_)
    have hP : va_P G vwCl [(a_md, .inr (4, [.int (nI kn), .ref a_mrm, .ref a_mcl, .ref a_mmn, .ref a_mvl, .ref a_mst, .ref a_msi, .ref a_mpl, .ref a_mof, .ref a_mgt, .ref a_msn, .ref a_mdn, .ref a_mca, .ref a_mcc, .ref a_mcw, .ref a_mcv, .long (lN kmo), .int kmt, .int kft])), (a_mst, .inl (cI, 16, .inl (fun j => nI (kst j)))), (a_mgt, .inl (cI, 16, .inl (va_up kgot q v))), (a_msn, .inl (cZ, 16, .inl (fun j => bI ((va_up ksent q b) j)))), (a_mdn, .inl (cI, 16, .inl kdone)), (a_mca, .inl (cI, 16, .inl (fun j => nI (kca j)))), (a_mcc, .inl (cI, 96, .inl (fun j => nI (kcc j)))), (a_mcw, .inl (cI, 96, .inl (fun j => nI (kcw j))))] H := hP
    have hD : va_D A [(a_md, .inr (4, [.int (nI kn), .ref a_mrm, .ref a_mcl, .ref a_mmn, .ref a_mvl, .ref a_mst, .ref a_msi, .ref a_mpl, .ref a_mof, .ref a_mgt, .ref a_msn, .ref a_mdn, .ref a_mca, .ref a_mcc, .ref a_mcw, .ref a_mcv, .long (lN kmo), .int kmt, .int kft])), (a_mst, .inl (cI, 16, .inl (fun j => nI (kst j)))), (a_mgt, .inl (cI, 16, .inl (va_up kgot q v))), (a_msn, .inl (cZ, 16, .inl (fun j => bI ((va_up ksent q b) j)))), (a_mdn, .inl (cI, 16, .inl kdone)), (a_mca, .inl (cI, 16, .inl (fun j => nI (kca j)))), (a_mcc, .inl (cI, 96, .inl (fun j => nI (kcc j)))), (a_mcw, .inl (cI, 96, .inl (fun j => nI (kcw j))))] := hD
    refine lv_aload_n hx hb d_Md_receives_38 rfl (lv_at hl 0 rfl) ?_
    refine lv_iload_n hx hb d_Md_receives_39 rfl (lv_at hl 1 rfl) ?_
    refine lv_iconst (v := (nI 0)) hx hb d_Md_receives_40 (by decide +kernel) ?_
    refine k_rwv (va_runV (As := [.int (nI q), .int (nI 0)]) (rest := []) ⟨hx, hb, hml, hown, hts⟩ (c_Md_ready0 l G cI cZ cJ H.size a_md a_mrm a_mcl a_mmn a_mvl a_mst a_msi a_mpl a_mof a_mgt a_msn a_mdn a_mca a_mcc a_mcw a_mcv kn kmo kmt kft kst kca q hq) (cwV 2 hts (gV t_393 t_394 t_19 t_37 t_395) rfl rfl rfl (by decide +kernel) ⟨Nat.le_of_ble_eq_true rfl, Nat.le_of_ble_eq_true rfl⟩) (kW_V (ci := 4) (q0 := 0) hK hP hD rfl rfl [0, 1, 5] rfl (by decide) rfl) rfl rfl hl.1 rfl (lv_room (Nat.le_of_ble_eq_true rfl)) d_Md_receives_41 ⟨Nat.le_of_ble_eq_true rfl, Nat.le_of_ble_eq_true rfl⟩) hP hD hS hA [0, 1, 5] rfl (fun _ => rfl) (fun u H locs hw hP hD hS => ?_)
    have hP : va_P G vwCl [(a_md, .inr (4, [.int (nI kn), .ref a_mrm, .ref a_mcl, .ref a_mmn, .ref a_mvl, .ref a_mst, .ref a_msi, .ref a_mpl, .ref a_mof, .ref a_mgt, .ref a_msn, .ref a_mdn, .ref a_mca, .ref a_mcc, .ref a_mcw, .ref a_mcv, .long (lN kmo), .int kmt, .int kft])), (a_mst, .inl (cI, 16, .inl (fun j => nI ((va_up kst q 0) j)))), (a_mgt, .inl (cI, 16, .inl (va_up kgot q v))), (a_msn, .inl (cZ, 16, .inl (fun j => bI ((va_up ksent q b) j)))), (a_mdn, .inl (cI, 16, .inl kdone)), (a_mca, .inl (cI, 16, .inl (fun j => nI ((va_up kca q 0) j)))), (a_mcc, .inl (cI, 96, .inl (fun j => nI (kcc j)))), (a_mcw, .inl (cI, 96, .inl (fun j => nI (kcw j))))] H := hP
    have hD : va_D A [(a_md, .inr (4, [.int (nI kn), .ref a_mrm, .ref a_mcl, .ref a_mmn, .ref a_mvl, .ref a_mst, .ref a_msi, .ref a_mpl, .ref a_mof, .ref a_mgt, .ref a_msn, .ref a_mdn, .ref a_mca, .ref a_mcc, .ref a_mcw, .ref a_mcv, .long (lN kmo), .int kmt, .int kft])), (a_mst, .inl (cI, 16, .inl (fun j => nI ((va_up kst q 0) j)))), (a_mgt, .inl (cI, 16, .inl (va_up kgot q v))), (a_msn, .inl (cZ, 16, .inl (fun j => bI ((va_up ksent q b) j)))), (a_mdn, .inl (cI, 16, .inl kdone)), (a_mca, .inl (cI, 16, .inl (fun j => nI ((va_up kca q 0) j)))), (a_mcc, .inl (cI, 96, .inl (fun j => nI (kcc j)))), (a_mcw, .inl (cI, 96, .inl (fun j => nI (kcw j))))] := hD
    exact k_wv hx hb hr hlocks hP hS () (by simp only [cdE, if_neg c_a]) (trivial) d_Md_receives_44
  · refine lv_aload_n hx hb d_Md_receives_10 rfl (lv_at hl 0 rfl) ?_
    refine va_get (D := G) (ci := 4) (v := .ref a_mdn) (C := R_Md) (T := T_Md) (N := 19) hx hb hts uw_Md hown hK hP 0 rfl rfl 11 (by decide) (hts _ t_348) (fun _ h9 => h9) rfl d_Md_receives_11 ?_
    refine lv_iload_n hx hb d_Md_receives_14 rfl (lv_at hl 1 rfl) ?_
    refine lv_aload_n hx hb d_Md_receives_15 rfl (lv_at hl 0 rfl) ?_
    refine lv_iload_n hx hb d_Md_receives_16 rfl (lv_at hl 1 rfl) ?_
    refine lv_iload_n hx hb d_Md_receives_17 rfl (lv_at hl 2 rfl) ?_
    refine lv_iconst (v := (nI 1)) hx hb d_Md_receives_18 (by decide +kernel) ?_
    refine k_ro (va_runV (As := [.int (nI q), .int (nI x), .int (nI 1)]) (rest := [.int (nI q), .ref a_mdn]) ⟨hx, hb, hml, hown, hts⟩ (c_Md_caseAt0 l G cI cZ cJ a_md a_mrm a_mcl a_mmn a_mvl a_mst a_msi a_mpl a_mof a_mgt a_msn a_mdn a_mca a_mcc a_mcw a_mcv kn kmo kmt kft kca kcc kcw kst kpl kof kcv cs q x 1 hq hx1 hn c_a (by omega) hR) (cwV 3 hts (gV t_405 t_406 t_23 t_37 t_407) rfl rfl rfl (by decide +kernel) ⟨Nat.le_of_ble_eq_true rfl, Nat.le_of_ble_eq_true rfl⟩) (kR_V (ci := 4) (q0 := 0) hK hP rfl rfl [0, 5, 6, 7] rfl) rfl rfl hl.1 rfl (lv_room (Nat.le_of_ble_eq_true rfl)) d_Md_receives_19 ⟨Nat.le_of_ble_eq_true rfl, Nat.le_of_ble_eq_true rfl⟩) ?_
    refine k_top (y := (nI i)) (by rw [hf]; rfl) ?_
    refine k_iast hx hb hK hP hD hS 4 0 rfl rfl (by omega) (by decide) d_Md_receives_22 (fun H locs hP hD hS => ?_)
    have hP : va_P G vwCl [(a_md, .inr (4, [.int (nI kn), .ref a_mrm, .ref a_mcl, .ref a_mmn, .ref a_mvl, .ref a_mst, .ref a_msi, .ref a_mpl, .ref a_mof, .ref a_mgt, .ref a_msn, .ref a_mdn, .ref a_mca, .ref a_mcc, .ref a_mcw, .ref a_mcv, .long (lN kmo), .int kmt, .int kft])), (a_mst, .inl (cI, 16, .inl (fun j => nI (kst j)))), (a_mgt, .inl (cI, 16, .inl kgot)), (a_msn, .inl (cZ, 16, .inl (fun j => bI (ksent j)))), (a_mdn, .inl (cI, 16, .inl (va_up kdone q (nI i)))), (a_mca, .inl (cI, 16, .inl (fun j => nI (kca j)))), (a_mcc, .inl (cI, 96, .inl (fun j => nI (kcc j)))), (a_mcw, .inl (cI, 96, .inl (fun j => nI (kcw j))))] H := hP
    have hD : va_D A [(a_md, .inr (4, [.int (nI kn), .ref a_mrm, .ref a_mcl, .ref a_mmn, .ref a_mvl, .ref a_mst, .ref a_msi, .ref a_mpl, .ref a_mof, .ref a_mgt, .ref a_msn, .ref a_mdn, .ref a_mca, .ref a_mcc, .ref a_mcw, .ref a_mcv, .long (lN kmo), .int kmt, .int kft])), (a_mst, .inl (cI, 16, .inl (fun j => nI (kst j)))), (a_mgt, .inl (cI, 16, .inl kgot)), (a_msn, .inl (cZ, 16, .inl (fun j => bI (ksent j)))), (a_mdn, .inl (cI, 16, .inl (va_up kdone q (nI i)))), (a_mca, .inl (cI, 16, .inl (fun j => nI (kca j)))), (a_mcc, .inl (cI, 96, .inl (fun j => nI (kcc j)))), (a_mcw, .inl (cI, 96, .inl (fun j => nI (kcw j))))] := hD
    refine lv_aload_n hx hb d_Md_receives_23 rfl (lv_at hl 0 rfl) ?_
    refine va_get (D := G) (ci := 4) (v := .ref a_mgt) (C := R_Md) (T := T_Md) (N := 19) hx hb hts uw_Md hown hK hP 0 rfl rfl 9 (by decide) (hts _ t_346) (fun _ h9 => h9) rfl d_Md_receives_24 ?_
    refine lv_iload_n hx hb d_Md_receives_27 rfl (lv_at hl 1 rfl) ?_
    refine lv_iload_n hx hb d_Md_receives_28 rfl (lv_at hl 3 rfl) ?_
    refine k_iast hx hb hK hP hD hS 2 0 rfl rfl (by omega) (by decide) d_Md_receives_29 (fun H locs hP hD hS => ?_)
    have hP : va_P G vwCl [(a_md, .inr (4, [.int (nI kn), .ref a_mrm, .ref a_mcl, .ref a_mmn, .ref a_mvl, .ref a_mst, .ref a_msi, .ref a_mpl, .ref a_mof, .ref a_mgt, .ref a_msn, .ref a_mdn, .ref a_mca, .ref a_mcc, .ref a_mcw, .ref a_mcv, .long (lN kmo), .int kmt, .int kft])), (a_mst, .inl (cI, 16, .inl (fun j => nI (kst j)))), (a_mgt, .inl (cI, 16, .inl (va_up kgot q v))), (a_msn, .inl (cZ, 16, .inl (fun j => bI (ksent j)))), (a_mdn, .inl (cI, 16, .inl (va_up kdone q (nI i)))), (a_mca, .inl (cI, 16, .inl (fun j => nI (kca j)))), (a_mcc, .inl (cI, 96, .inl (fun j => nI (kcc j)))), (a_mcw, .inl (cI, 96, .inl (fun j => nI (kcw j))))] H := hP
    have hD : va_D A [(a_md, .inr (4, [.int (nI kn), .ref a_mrm, .ref a_mcl, .ref a_mmn, .ref a_mvl, .ref a_mst, .ref a_msi, .ref a_mpl, .ref a_mof, .ref a_mgt, .ref a_msn, .ref a_mdn, .ref a_mca, .ref a_mcc, .ref a_mcw, .ref a_mcv, .long (lN kmo), .int kmt, .int kft])), (a_mst, .inl (cI, 16, .inl (fun j => nI (kst j)))), (a_mgt, .inl (cI, 16, .inl (va_up kgot q v))), (a_msn, .inl (cZ, 16, .inl (fun j => bI (ksent j)))), (a_mdn, .inl (cI, 16, .inl (va_up kdone q (nI i)))), (a_mca, .inl (cI, 16, .inl (fun j => nI (kca j)))), (a_mcc, .inl (cI, 96, .inl (fun j => nI (kcc j)))), (a_mcw, .inl (cI, 96, .inl (fun j => nI (kcw j))))] := hD
    refine lv_aload_n hx hb d_Md_receives_30 rfl (lv_at hl 0 rfl) ?_
    refine va_get (D := G) (ci := 4) (v := .ref a_msn) (C := R_Md) (T := T_Md) (N := 19) hx hb hts uw_Md hown hK hP 0 rfl rfl 10 (by decide) (hts _ t_347) (fun _ h9 => h9) rfl d_Md_receives_31 ?_
    refine lv_iload_n hx hb d_Md_receives_34 rfl (lv_at hl 1 rfl) ?_
    refine lv_iload hx hb d_Md_receives_35 (lv_at hl 4 rfl) ?_
    refine k_zast hx hb hK hP hD hS 3 1 rfl rfl (by omega) (by decide) d_Md_receives_37 (fun H locs hP hD hS => ?_)
    have hP : va_P G vwCl [(a_md, .inr (4, [.int (nI kn), .ref a_mrm, .ref a_mcl, .ref a_mmn, .ref a_mvl, .ref a_mst, .ref a_msi, .ref a_mpl, .ref a_mof, .ref a_mgt, .ref a_msn, .ref a_mdn, .ref a_mca, .ref a_mcc, .ref a_mcw, .ref a_mcv, .long (lN kmo), .int kmt, .int kft])), (a_mst, .inl (cI, 16, .inl (fun j => nI (kst j)))), (a_mgt, .inl (cI, 16, .inl (va_up kgot q v))), (a_msn, .inl (cZ, 16, .inl (fun j => bI ((va_up ksent q b) j)))), (a_mdn, .inl (cI, 16, .inl (va_up kdone q (nI i)))), (a_mca, .inl (cI, 16, .inl (fun j => nI (kca j)))), (a_mcc, .inl (cI, 96, .inl (fun j => nI (kcc j)))), (a_mcw, .inl (cI, 96, .inl (fun j => nI (kcw j))))] H := hP
    have hD : va_D A [(a_md, .inr (4, [.int (nI kn), .ref a_mrm, .ref a_mcl, .ref a_mmn, .ref a_mvl, .ref a_mst, .ref a_msi, .ref a_mpl, .ref a_mof, .ref a_mgt, .ref a_msn, .ref a_mdn, .ref a_mca, .ref a_mcc, .ref a_mcw, .ref a_mcv, .long (lN kmo), .int kmt, .int kft])), (a_mst, .inl (cI, 16, .inl (fun j => nI (kst j)))), (a_mgt, .inl (cI, 16, .inl (va_up kgot q v))), (a_msn, .inl (cZ, 16, .inl (fun j => bI ((va_up ksent q b) j)))), (a_mdn, .inl (cI, 16, .inl (va_up kdone q (nI i)))), (a_mca, .inl (cI, 16, .inl (fun j => nI (kca j)))), (a_mcc, .inl (cI, 96, .inl (fun j => nI (kcc j)))), (a_mcw, .inl (cI, 96, .inl (fun j => nI (kcw j))))] := hD
    refine lv_aload_n hx hb d_Md_receives_38 rfl (lv_at hl 0 rfl) ?_
    refine lv_iload_n hx hb d_Md_receives_39 rfl (lv_at hl 1 rfl) ?_
    refine lv_iconst (v := (nI 0)) hx hb d_Md_receives_40 (by decide +kernel) ?_
    refine k_rwv (va_runV (As := [.int (nI q), .int (nI 0)]) (rest := []) ⟨hx, hb, hml, hown, hts⟩ (c_Md_ready0 l G cI cZ cJ H.size a_md a_mrm a_mcl a_mmn a_mvl a_mst a_msi a_mpl a_mof a_mgt a_msn a_mdn a_mca a_mcc a_mcw a_mcv kn kmo kmt kft kst kca q hq) (cwV 2 hts (gV t_393 t_394 t_19 t_37 t_395) rfl rfl rfl (by decide +kernel) ⟨Nat.le_of_ble_eq_true rfl, Nat.le_of_ble_eq_true rfl⟩) (kW_V (ci := 4) (q0 := 0) hK hP hD rfl rfl [0, 1, 5] rfl (by decide) rfl) rfl rfl hl.1 rfl (lv_room (Nat.le_of_ble_eq_true rfl)) d_Md_receives_41 ⟨Nat.le_of_ble_eq_true rfl, Nat.le_of_ble_eq_true rfl⟩) hP hD hS hA [0, 1, 5] rfl (fun _ => rfl) (fun u H locs hw hP hD hS => ?_)
    have hP : va_P G vwCl [(a_md, .inr (4, [.int (nI kn), .ref a_mrm, .ref a_mcl, .ref a_mmn, .ref a_mvl, .ref a_mst, .ref a_msi, .ref a_mpl, .ref a_mof, .ref a_mgt, .ref a_msn, .ref a_mdn, .ref a_mca, .ref a_mcc, .ref a_mcw, .ref a_mcv, .long (lN kmo), .int kmt, .int kft])), (a_mst, .inl (cI, 16, .inl (fun j => nI ((va_up kst q 0) j)))), (a_mgt, .inl (cI, 16, .inl (va_up kgot q v))), (a_msn, .inl (cZ, 16, .inl (fun j => bI ((va_up ksent q b) j)))), (a_mdn, .inl (cI, 16, .inl (va_up kdone q (nI i)))), (a_mca, .inl (cI, 16, .inl (fun j => nI ((va_up kca q 0) j)))), (a_mcc, .inl (cI, 96, .inl (fun j => nI (kcc j)))), (a_mcw, .inl (cI, 96, .inl (fun j => nI (kcw j))))] H := hP
    have hD : va_D A [(a_md, .inr (4, [.int (nI kn), .ref a_mrm, .ref a_mcl, .ref a_mmn, .ref a_mvl, .ref a_mst, .ref a_msi, .ref a_mpl, .ref a_mof, .ref a_mgt, .ref a_msn, .ref a_mdn, .ref a_mca, .ref a_mcc, .ref a_mcw, .ref a_mcv, .long (lN kmo), .int kmt, .int kft])), (a_mst, .inl (cI, 16, .inl (fun j => nI ((va_up kst q 0) j)))), (a_mgt, .inl (cI, 16, .inl (va_up kgot q v))), (a_msn, .inl (cZ, 16, .inl (fun j => bI ((va_up ksent q b) j)))), (a_mdn, .inl (cI, 16, .inl (va_up kdone q (nI i)))), (a_mca, .inl (cI, 16, .inl (fun j => nI ((va_up kca q 0) j)))), (a_mcc, .inl (cI, 96, .inl (fun j => nI (kcc j)))), (a_mcw, .inl (cI, 96, .inl (fun j => nI (kcw j))))] := hD
    exact k_wv hx hb hr hlocks hP hS () (by simp only [cdE, if_pos c_a]) (trivial) d_Md_receives_44
set_option maxHeartbeats 4000000 in
set_option maxRecDepth 100000 in
theorem c_Md_sends (l : Launch) (G : va_G) (cI cZ cJ : ClassId) (sz : Nat) (a_md : Nat) (a_mrm : Nat) (a_mcl : Nat) (a_mmn : Nat) (a_mvl : Nat) (a_mst : Nat) (a_msi : Nat) (a_mpl : Nat) (a_mof : Nat) (a_mgt : Nat) (a_msn : Nat) (a_mdn : Nat) (a_mca : Nat) (a_mcc : Nat) (a_mcw : Nat) (a_mcv : Nat) (kn : Nat) (kmo : Nat) (kmt : Int32) (kft : Int32) (kst : Nat → Nat) (kof : Nat → Int32) (kdone : Nat → Int32) (kca : Nat → Nat) (kcc : Nat → Nat) (kcw : Nat → Nat) (kcv : Nat → Int32) (kpl : Nat → Nat) (cs : Nat → List Kase) (q : Nat) (x : Nat) (i : Nat) (hq : q < 16) (hx1 : x < 40) (hn : kn ≤ 40) (hs : kst q = 1 ∨ kst q = 3) (hf : fa (cs q) x 0 = some i) (hR : KR kn kst kpl kof kca kcc kcw kcv cs) : Met l y_Md_sends (w_Md_sends) ({ frames := 1, cells := 0, slots := 0, locals := 24 }) (va_Pc [.ref a_md, .int (nI q), .int (nI x)] (kW G vwCl [(cI, .int), (cZ, .boolean), (cJ, .long)] [(a_md, .inr (4, [.int (nI kn), .ref a_mrm, .ref a_mcl, .ref a_mmn, .ref a_mvl, .ref a_mst, .ref a_msi, .ref a_mpl, .ref a_mof, .ref a_mgt, .ref a_msn, .ref a_mdn, .ref a_mca, .ref a_mcc, .ref a_mcw, .ref a_mcv, .long (lN kmo), .int kmt, .int kft])), (a_mst, .inl (cI, 16, .inl (fun j => nI (kst j)))), (a_mof, .inl (cI, 16, .inl kof)), (a_mdn, .inl (cI, 16, .inl kdone)), (a_mca, .inl (cI, 16, .inl (fun j => nI (kca j)))), (a_mcc, .inl (cI, 96, .inl (fun j => nI (kcc j)))), (a_mcw, .inl (cI, 96, .inl (fun j => nI (kcw j)))), (a_mcv, .inl (cI, 96, .inl kcv))] sz)) (va_Qi (fun (r : Int32) (u : Unit) => r = ((kAt cs q i).2.2)) (fun u t => va_P G vwCl [(a_md, .inr (4, [.int (nI kn), .ref a_mrm, .ref a_mcl, .ref a_mmn, .ref a_mvl, .ref a_mst, .ref a_msi, .ref a_mpl, .ref a_mof, .ref a_mgt, .ref a_msn, .ref a_mdn, .ref a_mca, .ref a_mcc, .ref a_mcw, .ref a_mcv, .long (lN kmo), .int (kmt + nI 1), .int kft])), (a_mst, .inl (cI, 16, .inl (fun j => nI ((va_up kst q 0) j)))), (a_mof, .inl (cI, 16, .inl kof)), (a_mdn, .inl (cI, 16, .inl (cdE kst kdone q i))), (a_mca, .inl (cI, 16, .inl (fun j => nI ((va_up kca q 0) j)))), (a_mcc, .inl (cI, 96, .inl (fun j => nI (kcc j)))), (a_mcw, .inl (cI, 96, .inl (fun j => nI (kcw j)))), (a_mcv, .inl (cI, 96, .inl kcv))] t.heap) (va_A [(a_md, .inr (4, [.int (nI kn), .ref a_mrm, .ref a_mcl, .ref a_mmn, .ref a_mvl, .ref a_mst, .ref a_msi, .ref a_mpl, .ref a_mof, .ref a_mgt, .ref a_msn, .ref a_mdn, .ref a_mca, .ref a_mcc, .ref a_mcw, .ref a_mcv, .long (lN kmo), .int kmt, .int kft])), (a_mst, .inl (cI, 16, .inl (fun j => nI (kst j)))), (a_mof, .inl (cI, 16, .inl kof)), (a_mdn, .inl (cI, 16, .inl kdone)), (a_mca, .inl (cI, 16, .inl (fun j => nI (kca j)))), (a_mcc, .inl (cI, 96, .inl (fun j => nI (kcc j)))), (a_mcw, .inl (cI, 96, .inl (fun j => nI (kcw j)))), (a_mcv, .inl (cI, 96, .inl kcv))] sz)) 0 0 (va_A [(a_md, .inr (4, [.int (nI kn), .ref a_mrm, .ref a_mcl, .ref a_mmn, .ref a_mvl, .ref a_mst, .ref a_msi, .ref a_mpl, .ref a_mof, .ref a_mgt, .ref a_msn, .ref a_mdn, .ref a_mca, .ref a_mcc, .ref a_mcw, .ref a_mcv, .long (lN kmo), .int kmt, .int kft])), (a_mst, .inl (cI, 16, .inl (fun j => nI (kst j)))), (a_mof, .inl (cI, 16, .inl kof)), (a_mdn, .inl (cI, 16, .inl kdone)), (a_mca, .inl (cI, 16, .inl (fun j => nI (kca j)))), (a_mcc, .inl (cI, 96, .inl (fun j => nI (kcc j)))), (a_mcw, .inl (cI, 96, .inl (fun j => nI (kcw j)))), (a_mcv, .inl (cI, 96, .inl kcv))] sz) := by
  refine Met.ofW (cc := b_Md_sends) (maxL := 5) (ret := (some .int)) (by decide) rfl ?_
  intro p e s m args below meth c s₁ B hml hv
  obtain ⟨rfl, hsz, hP, hK, hD0⟩ := hv
  have hx := B.exec
  have hb := B.bytes
  have hr := B.returns
  have hts : ∀ w ∈ TT, w.before _ s = true := fun w h => atoms_spec (ws := (w_Md_sends)) B.pre w (List.mem_cons_of_mem _ h)
  have hown : s.vm.findClass R_Md = some m.cls := findClass_of_methodNamed B.named
  have hlocks := B.notSynchronized
  subst hsz
  have hD := hD0.self (sz := s.heap.size)
  generalize hAe : va_A [(a_md, .inr (4, [.int (nI kn), .ref a_mrm, .ref a_mcl, .ref a_mmn, .ref a_mvl, .ref a_mst, .ref a_msi, .ref a_mpl, .ref a_mof, .ref a_mgt, .ref a_msn, .ref a_mdn, .ref a_mca, .ref a_mcc, .ref a_mcw, .ref a_mcv, .long (lN kmo), .int kmt, .int kft])), (a_mst, .inl (cI, 16, .inl (fun j => nI (kst j)))), (a_mof, .inl (cI, 16, .inl kof)), (a_mdn, .inl (cI, 16, .inl kdone)), (a_mca, .inl (cI, 16, .inl (fun j => nI (kca j)))), (a_mcc, .inl (cI, 96, .inl (fun j => nI (kcc j)))), (a_mcw, .inl (cI, 96, .inl (fun j => nI (kcw j)))), (a_mcv, .inl (cI, 96, .inl kcv))] s.heap.size = A at hD ⊢
  have hA : ∀ q : Nat, s.heap.size ≤ q → A q := fun q h => by rw [← hAe]; exact Or.inr h
  have hS : va_S A s.heap s.heap [] := va_S.rf
  have hP : va_P G vwCl [(a_md, .inr (4, [.int (nI kn), .ref a_mrm, .ref a_mcl, .ref a_mmn, .ref a_mvl, .ref a_mst, .ref a_msi, .ref a_mpl, .ref a_mof, .ref a_mgt, .ref a_msn, .ref a_mdn, .ref a_mca, .ref a_mcc, .ref a_mcw, .ref a_mcv, .long (lN kmo), .int kmt, .int kft])), (a_mst, .inl (cI, 16, .inl (fun j => nI (kst j)))), (a_mof, .inl (cI, 16, .inl kof)), (a_mdn, .inl (cI, 16, .inl kdone)), (a_mca, .inl (cI, 16, .inl (fun j => nI (kca j)))), (a_mcc, .inl (cI, 96, .inl (fun j => nI (kcc j)))), (a_mcw, .inl (cI, 96, .inl (fun j => nI (kcw j)))), (a_mcv, .inl (cI, 96, .inl kcv))] s.heap := hP
  have hl := lv_entry ([.ref a_md, .int (nI q), .int (nI x)]) (n := 5) (Nat.le_of_ble_eq_true rfl)
  rw [lg_entry_eq]
  generalize (lg_sl ([.ref a_md, .int (nI q), .int (nI x)]) ++ List.replicate (5 - (lg_sl ([.ref a_md, .int (nI q), .int (nI x)])).length) Slot.unset).toArray = ls at hl ⊢
  have hl : lv_has ls 5 [(0, .ref a_md), (1, .int (nI q)), (2, .int (nI x))] := hl
  have hs5 := (hR q hq).1
  have hi9 := fa_lt hf
  rcases hs with hs | hs
  · obtain ⟨hc9, hp9⟩ := (hR q hq).2.2.1 hs
    refine lv_aload_n hx hb d_Md_sends_0 rfl (lv_at hl 0 rfl) ?_
    refine va_get (D := G) (ci := 4) (v := .ref a_mst) (C := R_Md) (T := T_Md) (N := 19) hx hb hts uw_Md hown hK hP 0 rfl rfl 5 (by decide) (hts _ t_342) (fun _ h9 => h9) rfl d_Md_sends_1 ?_
    refine lv_iload_n hx hb d_Md_sends_4 rfl (lv_at hl 1 rfl) ?_
    refine k_iald hx hb hK hP 1 0 rfl rfl (by omega) (by decide) d_Md_sends_5 ?_
    refine lv_iconst (v := (nI 3)) hx hb d_Md_sends_6 (by decide +kernel) ?_
    refine n_icmp_ne (tgt := 20) hx hb d_Md_sends_7 (by decide) (by omega) (by decide) (fun c_1 => ?_) (fun c_1 => absurd c_1 (by omega))
    refine lv_iconst (v := (-1)) hx hb d_Md_sends_20 (by decide +kernel) ?_
    refine lv_istore_n (lv' := [(3, .int (-1)), (0, .ref a_md), (1, .int (nI q)), (2, .int (nI x))]) hx hb d_Md_sends_21 rfl hl (by decide) rfl (fun ls hl => ?_)
    refine lv_iload_n hx hb d_Md_sends_22 rfl (lv_at hl 0 rfl) ?_
    refine lv_if_lt (tgt := 40) hx hb d_Md_sends_23 (by decide) (fun c_2 => ?_) (fun c_2 => absurd (by decide +kernel) c_2)
    refine lv_aload_n hx hb d_Md_sends_40 rfl (lv_at hl 1 rfl) ?_
    refine va_get (D := G) (ci := 4) (v := .ref a_mof) (C := R_Md) (T := T_Md) (N := 19) hx hb hts uw_Md hown hK hP 0 rfl rfl 8 (by decide) (hts _ t_345) (fun _ h9 => h9) rfl d_Md_sends_41 ?_
    refine lv_iload_n hx hb d_Md_sends_44 rfl (lv_at hl 2 rfl) ?_
    refine k_iald hx hb hK hP 2 0 rfl rfl (by omega) (by decide) d_Md_sends_45 ?_
    refine lv_istore (lv' := [(4, .int (kof q)), (3, .int (-1)), (0, .ref a_md), (1, .int (nI q)), (2, .int (nI x))]) hx hb d_Md_sends_46 hl (by decide) rfl (fun ls hl => ?_)
    refine lv_iload_n hx hb d_Md_sends_48 rfl (lv_at hl 1 rfl) ?_
    refine lv_if_lt (tgt := 59) hx hb d_Md_sends_49 (by decide) (fun c_3 => ?_) (fun c_3 => absurd (by decide +kernel) c_3)
    refine lv_aload_n hx hb d_Md_sends_59 rfl (lv_at hl 2 rfl) ?_
    refine lv_iload_n hx hb d_Md_sends_60 rfl (lv_at hl 3 rfl) ?_
    refine lv_iconst (v := (nI 0)) hx hb d_Md_sends_61 (by decide +kernel) ?_
    refine k_rwv (va_runV (As := [.int (nI q), .int (nI 0)]) (rest := []) ⟨hx, hb, hml, hown, hts⟩ (c_Md_ready0 l G cI cZ cJ s.heap.size a_md a_mrm a_mcl a_mmn a_mvl a_mst a_msi a_mpl a_mof a_mgt a_msn a_mdn a_mca a_mcc a_mcw a_mcv kn kmo kmt kft kst kca q hq) (cwV 2 hts (gV t_393 t_394 t_19 t_37 t_395) rfl rfl rfl (by decide +kernel) ⟨Nat.le_of_ble_eq_true rfl, Nat.le_of_ble_eq_true rfl⟩) (kW_V (ci := 4) (q0 := 0) hK hP hD rfl rfl [0, 1, 4] rfl (by decide) rfl) rfl rfl hl.1 rfl (lv_room (Nat.le_of_ble_eq_true rfl)) d_Md_sends_62 ⟨Nat.le_of_ble_eq_true rfl, Nat.le_of_ble_eq_true rfl⟩) hP hD hS hA [0, 1, 4] rfl (fun _ => rfl) (fun u H locs hw hP hD hS => ?_)
    have hP : va_P G vwCl [(a_md, .inr (4, [.int (nI kn), .ref a_mrm, .ref a_mcl, .ref a_mmn, .ref a_mvl, .ref a_mst, .ref a_msi, .ref a_mpl, .ref a_mof, .ref a_mgt, .ref a_msn, .ref a_mdn, .ref a_mca, .ref a_mcc, .ref a_mcw, .ref a_mcv, .long (lN kmo), .int kmt, .int kft])), (a_mst, .inl (cI, 16, .inl (fun j => nI ((va_up kst q 0) j)))), (a_mof, .inl (cI, 16, .inl kof)), (a_mdn, .inl (cI, 16, .inl kdone)), (a_mca, .inl (cI, 16, .inl (fun j => nI ((va_up kca q 0) j)))), (a_mcc, .inl (cI, 96, .inl (fun j => nI (kcc j)))), (a_mcw, .inl (cI, 96, .inl (fun j => nI (kcw j)))), (a_mcv, .inl (cI, 96, .inl kcv))] H := hP
    have hD : va_D A [(a_md, .inr (4, [.int (nI kn), .ref a_mrm, .ref a_mcl, .ref a_mmn, .ref a_mvl, .ref a_mst, .ref a_msi, .ref a_mpl, .ref a_mof, .ref a_mgt, .ref a_msn, .ref a_mdn, .ref a_mca, .ref a_mcc, .ref a_mcw, .ref a_mcv, .long (lN kmo), .int kmt, .int kft])), (a_mst, .inl (cI, 16, .inl (fun j => nI ((va_up kst q 0) j)))), (a_mof, .inl (cI, 16, .inl kof)), (a_mdn, .inl (cI, 16, .inl kdone)), (a_mca, .inl (cI, 16, .inl (fun j => nI ((va_up kca q 0) j)))), (a_mcc, .inl (cI, 96, .inl (fun j => nI (kcc j)))), (a_mcw, .inl (cI, 96, .inl (fun j => nI (kcw j)))), (a_mcv, .inl (cI, 96, .inl kcv))] := hD
    refine lv_aload_n hx hb d_Md_sends_65 rfl (lv_at hl 2 rfl) ?_
    refine lv_aload_n hx hb d_Md_sends_66 rfl (lv_at hl 2 rfl) ?_
    refine va_get (D := G) (ci := 4) (v := .int kmt) (C := R_Md) (T := T_Md) (N := 19) hx hb hts uw_Md hown hK hP 0 rfl rfl 17 (by decide) (hts _ t_354) (fun _ h9 => h9) rfl d_Md_sends_67 ?_
    refine lv_iconst (v := (nI 1)) hx hb d_Md_sends_70 (by decide +kernel) ?_
    refine lv_iadd hx hb d_Md_sends_71 ?_
    refine va_put (D := G) (ci := 4) (v := .int (kmt + (nI 1))) (ty := .int) (C := R_Md) (T := T_Md) (N := 19) hx hb hts uw_Md ty_Md tyok_Md nm_Md hown hK hP hD hS 0 rfl rfl 17 (by decide) (hts _ t_354) (fun _ h9 => h9) rfl (by decide +kernel) rfl rfl (Nat.le_of_ble_eq_true rfl) d_Md_sends_72 (fun H locs hP hD hS => ?_)
    have hP : va_P G vwCl [(a_md, .inr (4, [.int (nI kn), .ref a_mrm, .ref a_mcl, .ref a_mmn, .ref a_mvl, .ref a_mst, .ref a_msi, .ref a_mpl, .ref a_mof, .ref a_mgt, .ref a_msn, .ref a_mdn, .ref a_mca, .ref a_mcc, .ref a_mcw, .ref a_mcv, .long (lN kmo), .int (kmt + (nI 1)), .int kft])), (a_mst, .inl (cI, 16, .inl (fun j => nI ((va_up kst q 0) j)))), (a_mof, .inl (cI, 16, .inl kof)), (a_mdn, .inl (cI, 16, .inl kdone)), (a_mca, .inl (cI, 16, .inl (fun j => nI ((va_up kca q 0) j)))), (a_mcc, .inl (cI, 96, .inl (fun j => nI (kcc j)))), (a_mcw, .inl (cI, 96, .inl (fun j => nI (kcw j)))), (a_mcv, .inl (cI, 96, .inl kcv))] H := hP
    have hD : va_D A [(a_md, .inr (4, [.int (nI kn), .ref a_mrm, .ref a_mcl, .ref a_mmn, .ref a_mvl, .ref a_mst, .ref a_msi, .ref a_mpl, .ref a_mof, .ref a_mgt, .ref a_msn, .ref a_mdn, .ref a_mca, .ref a_mcc, .ref a_mcw, .ref a_mcv, .long (lN kmo), .int (kmt + (nI 1)), .int kft])), (a_mst, .inl (cI, 16, .inl (fun j => nI ((va_up kst q 0) j)))), (a_mof, .inl (cI, 16, .inl kof)), (a_mdn, .inl (cI, 16, .inl kdone)), (a_mca, .inl (cI, 16, .inl (fun j => nI ((va_up kca q 0) j)))), (a_mcc, .inl (cI, 96, .inl (fun j => nI (kcc j)))), (a_mcw, .inl (cI, 96, .inl (fun j => nI (kcw j)))), (a_mcv, .inl (cI, 96, .inl kcv))] := hD
    refine lv_iload hx hb d_Md_sends_75 (lv_at hl 0 rfl) ?_
    exact k_wi hx hb hr hlocks hP hS () (by simp only [cdE, if_neg (show ¬ kst q = 3 by omega)]) ((by rw [(one_val hc9 hf).2.1])) d_Md_sends_77
  · obtain ⟨hh, hh2, hh3⟩ := (hR q hq).2.1 (by omega) (by omega)
    obtain ⟨g1, g2, g3, g4, g5⟩ := hh3 i hi9
    refine lv_aload_n hx hb d_Md_sends_0 rfl (lv_at hl 0 rfl) ?_
    refine va_get (D := G) (ci := 4) (v := .ref a_mst) (C := R_Md) (T := T_Md) (N := 19) hx hb hts uw_Md hown hK hP 0 rfl rfl 5 (by decide) (hts _ t_342) (fun _ h9 => h9) rfl d_Md_sends_1 ?_
    refine lv_iload_n hx hb d_Md_sends_4 rfl (lv_at hl 1 rfl) ?_
    refine k_iald hx hb hK hP 1 0 rfl rfl (by omega) (by decide) d_Md_sends_5 ?_
    refine lv_iconst (v := (nI 3)) hx hb d_Md_sends_6 (by decide +kernel) ?_
    refine n_icmp_ne (tgt := 20) hx hb d_Md_sends_7 (by decide) (by omega) (by decide) (fun c_5 => absurd c_5 (by omega)) (fun c_5 => ?_)
    refine lv_aload_n hx hb d_Md_sends_10 rfl (lv_at hl 0 rfl) ?_
    refine lv_iload_n hx hb d_Md_sends_11 rfl (lv_at hl 1 rfl) ?_
    refine lv_iload_n hx hb d_Md_sends_12 rfl (lv_at hl 2 rfl) ?_
    refine lv_iconst (v := (nI 0)) hx hb d_Md_sends_13 (by decide +kernel) ?_
    refine k_ro (va_runV (As := [.int (nI q), .int (nI x), .int (nI 0)]) (rest := []) ⟨hx, hb, hml, hown, hts⟩ (c_Md_caseAt0 l G cI cZ cJ a_md a_mrm a_mcl a_mmn a_mvl a_mst a_msi a_mpl a_mof a_mgt a_msn a_mdn a_mca a_mcc a_mcw a_mcv kn kmo kmt kft kca kcc kcw kst kpl kof kcv cs q x 0 hq hx1 hn hs (by omega) hR) (cwV 3 hts (gV t_405 t_406 t_23 t_37 t_407) rfl rfl rfl (by decide +kernel) ⟨Nat.le_of_ble_eq_true rfl, Nat.le_of_ble_eq_true rfl⟩) (kR_V (ci := 4) (q0 := 0) hK hP rfl rfl [0, 4, 5, 6] rfl) rfl rfl hl.1 rfl (lv_room (Nat.le_of_ble_eq_true rfl)) d_Md_sends_14 ⟨Nat.le_of_ble_eq_true rfl, Nat.le_of_ble_eq_true rfl⟩) ?_
    refine k_top (y := (nI i)) (by rw [hf]; rfl) ?_
    refine lv_goto (tgt := 21) hx hb d_Md_sends_17 (by decide) ?_
    refine lv_istore_n (lv' := [(3, .int (nI i)), (0, .ref a_md), (1, .int (nI q)), (2, .int (nI x))]) hx hb d_Md_sends_21 rfl hl (by decide) rfl (fun ls hl => ?_)
    refine lv_iload_n hx hb d_Md_sends_22 rfl (lv_at hl 0 rfl) ?_
    refine n_if_lt (tgt := 40) hx hb d_Md_sends_23 (by decide) (by omega) ?_
    refine lv_aload_n hx hb d_Md_sends_26 rfl (lv_at hl 1 rfl) ?_
    refine va_get (D := G) (ci := 4) (v := .ref a_mcv) (C := R_Md) (T := T_Md) (N := 19) hx hb hts uw_Md hown hK hP 0 rfl rfl 15 (by decide) (hts _ t_352) (fun _ h9 => h9) rfl d_Md_sends_27 ?_
    refine lv_bipush (v := (nI 6)) hx hb d_Md_sends_30 (by decide +kernel) ?_
    refine lv_iload_n hx hb d_Md_sends_32 rfl (lv_at hl 2 rfl) ?_
    refine lv_imul hx hb d_Md_sends_33 ?_
    refine k_top (y := (nI (6 * q))) (pk_mul 6 q) ?_
    refine lv_iload_n hx hb d_Md_sends_34 rfl (lv_at hl 0 rfl) ?_
    refine lv_iadd hx hb d_Md_sends_35 ?_
    refine k_top (y := (nI ((6 * q) + i))) (nI_add (6 * q) i) ?_
    refine k_iald hx hb hK hP 7 0 rfl rfl (by omega) (by decide) d_Md_sends_36 ?_
    refine lv_goto (tgt := 46) hx hb d_Md_sends_37 (by decide) ?_
    refine lv_istore (lv' := [(4, .int (kcv ((6 * q) + i))), (3, .int (nI i)), (0, .ref a_md), (1, .int (nI q)), (2, .int (nI x))]) hx hb d_Md_sends_46 hl (by decide) rfl (fun ls hl => ?_)
    refine lv_iload_n hx hb d_Md_sends_48 rfl (lv_at hl 1 rfl) ?_
    refine n_if_lt (tgt := 59) hx hb d_Md_sends_49 (by decide) (by omega) ?_
    refine lv_aload_n hx hb d_Md_sends_52 rfl (lv_at hl 2 rfl) ?_
    refine va_get (D := G) (ci := 4) (v := .ref a_mdn) (C := R_Md) (T := T_Md) (N := 19) hx hb hts uw_Md hown hK hP 0 rfl rfl 11 (by decide) (hts _ t_348) (fun _ h9 => h9) rfl d_Md_sends_53 ?_
    refine lv_iload_n hx hb d_Md_sends_56 rfl (lv_at hl 3 rfl) ?_
    refine lv_iload_n hx hb d_Md_sends_57 rfl (lv_at hl 1 rfl) ?_
    refine k_iast hx hb hK hP hD hS 3 0 rfl rfl (by omega) (by decide) d_Md_sends_58 (fun H locs hP hD hS => ?_)
    have hP : va_P G vwCl [(a_md, .inr (4, [.int (nI kn), .ref a_mrm, .ref a_mcl, .ref a_mmn, .ref a_mvl, .ref a_mst, .ref a_msi, .ref a_mpl, .ref a_mof, .ref a_mgt, .ref a_msn, .ref a_mdn, .ref a_mca, .ref a_mcc, .ref a_mcw, .ref a_mcv, .long (lN kmo), .int kmt, .int kft])), (a_mst, .inl (cI, 16, .inl (fun j => nI (kst j)))), (a_mof, .inl (cI, 16, .inl kof)), (a_mdn, .inl (cI, 16, .inl (va_up kdone q (nI i)))), (a_mca, .inl (cI, 16, .inl (fun j => nI (kca j)))), (a_mcc, .inl (cI, 96, .inl (fun j => nI (kcc j)))), (a_mcw, .inl (cI, 96, .inl (fun j => nI (kcw j)))), (a_mcv, .inl (cI, 96, .inl kcv))] H := hP
    have hD : va_D A [(a_md, .inr (4, [.int (nI kn), .ref a_mrm, .ref a_mcl, .ref a_mmn, .ref a_mvl, .ref a_mst, .ref a_msi, .ref a_mpl, .ref a_mof, .ref a_mgt, .ref a_msn, .ref a_mdn, .ref a_mca, .ref a_mcc, .ref a_mcw, .ref a_mcv, .long (lN kmo), .int kmt, .int kft])), (a_mst, .inl (cI, 16, .inl (fun j => nI (kst j)))), (a_mof, .inl (cI, 16, .inl kof)), (a_mdn, .inl (cI, 16, .inl (va_up kdone q (nI i)))), (a_mca, .inl (cI, 16, .inl (fun j => nI (kca j)))), (a_mcc, .inl (cI, 96, .inl (fun j => nI (kcc j)))), (a_mcw, .inl (cI, 96, .inl (fun j => nI (kcw j)))), (a_mcv, .inl (cI, 96, .inl kcv))] := hD
    refine lv_aload_n hx hb d_Md_sends_59 rfl (lv_at hl 2 rfl) ?_
    refine lv_iload_n hx hb d_Md_sends_60 rfl (lv_at hl 3 rfl) ?_
    refine lv_iconst (v := (nI 0)) hx hb d_Md_sends_61 (by decide +kernel) ?_
    refine k_rwv (va_runV (As := [.int (nI q), .int (nI 0)]) (rest := []) ⟨hx, hb, hml, hown, hts⟩ (c_Md_ready0 l G cI cZ cJ H.size a_md a_mrm a_mcl a_mmn a_mvl a_mst a_msi a_mpl a_mof a_mgt a_msn a_mdn a_mca a_mcc a_mcw a_mcv kn kmo kmt kft kst kca q hq) (cwV 2 hts (gV t_393 t_394 t_19 t_37 t_395) rfl rfl rfl (by decide +kernel) ⟨Nat.le_of_ble_eq_true rfl, Nat.le_of_ble_eq_true rfl⟩) (kW_V (ci := 4) (q0 := 0) hK hP hD rfl rfl [0, 1, 4] rfl (by decide) rfl) rfl rfl hl.1 rfl (lv_room (Nat.le_of_ble_eq_true rfl)) d_Md_sends_62 ⟨Nat.le_of_ble_eq_true rfl, Nat.le_of_ble_eq_true rfl⟩) hP hD hS hA [0, 1, 4] rfl (fun _ => rfl) (fun u H locs hw hP hD hS => ?_)
    have hP : va_P G vwCl [(a_md, .inr (4, [.int (nI kn), .ref a_mrm, .ref a_mcl, .ref a_mmn, .ref a_mvl, .ref a_mst, .ref a_msi, .ref a_mpl, .ref a_mof, .ref a_mgt, .ref a_msn, .ref a_mdn, .ref a_mca, .ref a_mcc, .ref a_mcw, .ref a_mcv, .long (lN kmo), .int kmt, .int kft])), (a_mst, .inl (cI, 16, .inl (fun j => nI ((va_up kst q 0) j)))), (a_mof, .inl (cI, 16, .inl kof)), (a_mdn, .inl (cI, 16, .inl (va_up kdone q (nI i)))), (a_mca, .inl (cI, 16, .inl (fun j => nI ((va_up kca q 0) j)))), (a_mcc, .inl (cI, 96, .inl (fun j => nI (kcc j)))), (a_mcw, .inl (cI, 96, .inl (fun j => nI (kcw j)))), (a_mcv, .inl (cI, 96, .inl kcv))] H := hP
    have hD : va_D A [(a_md, .inr (4, [.int (nI kn), .ref a_mrm, .ref a_mcl, .ref a_mmn, .ref a_mvl, .ref a_mst, .ref a_msi, .ref a_mpl, .ref a_mof, .ref a_mgt, .ref a_msn, .ref a_mdn, .ref a_mca, .ref a_mcc, .ref a_mcw, .ref a_mcv, .long (lN kmo), .int kmt, .int kft])), (a_mst, .inl (cI, 16, .inl (fun j => nI ((va_up kst q 0) j)))), (a_mof, .inl (cI, 16, .inl kof)), (a_mdn, .inl (cI, 16, .inl (va_up kdone q (nI i)))), (a_mca, .inl (cI, 16, .inl (fun j => nI ((va_up kca q 0) j)))), (a_mcc, .inl (cI, 96, .inl (fun j => nI (kcc j)))), (a_mcw, .inl (cI, 96, .inl (fun j => nI (kcw j)))), (a_mcv, .inl (cI, 96, .inl kcv))] := hD
    refine lv_aload_n hx hb d_Md_sends_65 rfl (lv_at hl 2 rfl) ?_
    refine lv_aload_n hx hb d_Md_sends_66 rfl (lv_at hl 2 rfl) ?_
    refine va_get (D := G) (ci := 4) (v := .int kmt) (C := R_Md) (T := T_Md) (N := 19) hx hb hts uw_Md hown hK hP 0 rfl rfl 17 (by decide) (hts _ t_354) (fun _ h9 => h9) rfl d_Md_sends_67 ?_
    refine lv_iconst (v := (nI 1)) hx hb d_Md_sends_70 (by decide +kernel) ?_
    refine lv_iadd hx hb d_Md_sends_71 ?_
    refine va_put (D := G) (ci := 4) (v := .int (kmt + (nI 1))) (ty := .int) (C := R_Md) (T := T_Md) (N := 19) hx hb hts uw_Md ty_Md tyok_Md nm_Md hown hK hP hD hS 0 rfl rfl 17 (by decide) (hts _ t_354) (fun _ h9 => h9) rfl (by decide +kernel) rfl rfl (Nat.le_of_ble_eq_true rfl) d_Md_sends_72 (fun H locs hP hD hS => ?_)
    have hP : va_P G vwCl [(a_md, .inr (4, [.int (nI kn), .ref a_mrm, .ref a_mcl, .ref a_mmn, .ref a_mvl, .ref a_mst, .ref a_msi, .ref a_mpl, .ref a_mof, .ref a_mgt, .ref a_msn, .ref a_mdn, .ref a_mca, .ref a_mcc, .ref a_mcw, .ref a_mcv, .long (lN kmo), .int (kmt + (nI 1)), .int kft])), (a_mst, .inl (cI, 16, .inl (fun j => nI ((va_up kst q 0) j)))), (a_mof, .inl (cI, 16, .inl kof)), (a_mdn, .inl (cI, 16, .inl (va_up kdone q (nI i)))), (a_mca, .inl (cI, 16, .inl (fun j => nI ((va_up kca q 0) j)))), (a_mcc, .inl (cI, 96, .inl (fun j => nI (kcc j)))), (a_mcw, .inl (cI, 96, .inl (fun j => nI (kcw j)))), (a_mcv, .inl (cI, 96, .inl kcv))] H := hP
    have hD : va_D A [(a_md, .inr (4, [.int (nI kn), .ref a_mrm, .ref a_mcl, .ref a_mmn, .ref a_mvl, .ref a_mst, .ref a_msi, .ref a_mpl, .ref a_mof, .ref a_mgt, .ref a_msn, .ref a_mdn, .ref a_mca, .ref a_mcc, .ref a_mcw, .ref a_mcv, .long (lN kmo), .int (kmt + (nI 1)), .int kft])), (a_mst, .inl (cI, 16, .inl (fun j => nI ((va_up kst q 0) j)))), (a_mof, .inl (cI, 16, .inl kof)), (a_mdn, .inl (cI, 16, .inl (va_up kdone q (nI i)))), (a_mca, .inl (cI, 16, .inl (fun j => nI ((va_up kca q 0) j)))), (a_mcc, .inl (cI, 96, .inl (fun j => nI (kcc j)))), (a_mcw, .inl (cI, 96, .inl (fun j => nI (kcw j)))), (a_mcv, .inl (cI, 96, .inl kcv))] := hD
    refine lv_iload hx hb d_Md_sends_75 (lv_at hl 0 rfl) ?_
    exact k_wi hx hb hr hlocks hP hS () (by simp only [cdE, if_pos hs]) ((by rw [g3, kAt, List.getD_eq_getElem?_getD, List.getElem?_eq_getElem hi9]; rfl)) d_Md_sends_77
set_option maxHeartbeats 4000000 in
set_option maxRecDepth 100000 in
theorem c_Md_isPossible (l : Launch) (G : va_G) (cI cZ cJ : ClassId) (a_md : Nat) (a_mrm : Nat) (a_mcl : Nat) (a_mmn : Nat) (a_mvl : Nat) (a_mst : Nat) (a_msi : Nat) (a_mpl : Nat) (a_mof : Nat) (a_mgt : Nat) (a_msn : Nat) (a_mdn : Nat) (a_mca : Nat) (a_mcc : Nat) (a_mcw : Nat) (a_mcv : Nat) (kn : Nat) (kmo : Nat) (kmt : Int32) (kft : Int32) (kroom : Nat → Nat) (kclo : Nat → Bool) (kmany : Nat → Nat) (kst : Nat → Nat) (ksi : Nat → Nat) (kpl : Nat → Nat) (kca : Nat → Nat) (kcc : Nat → Nat) (kcw : Nat → Nat) (kof : Nat → Int32) (kcv : Nat → Int32) (kvals : Nat → Int32) (room : Nat → Nat) (shut : Nat → Bool) (L : Nat → List Int32) (cs : Nat → List Kase) (line : List Nat) (x : Nat) (w : Nat) (hx2 : x < kn) (hw1 : w < 2) (hKC : KC kn kroom kmany kclo kvals room shut L) (hR : KR kn kst kpl kof kca kcc kcw kcv cs) (hKL : KL kst ksi kmo line) : Met l y_Md_isPossible (w_Md_isPossible) ({ frames := 3, cells := 0, slots := 0, locals := 74 }) (va_Pc [.ref a_md, .int (nI x), .int (nI w)] (kR G vwCl [(cI, .int), (cZ, .boolean), (cJ, .long)] [(a_md, .inr (4, [.int (nI kn), .ref a_mrm, .ref a_mcl, .ref a_mmn, .ref a_mvl, .ref a_mst, .ref a_msi, .ref a_mpl, .ref a_mof, .ref a_mgt, .ref a_msn, .ref a_mdn, .ref a_mca, .ref a_mcc, .ref a_mcw, .ref a_mcv, .long (lN kmo), .int kmt, .int kft])), (a_mrm, .inl (cI, 40, .inl (fun j => nI (kroom j)))), (a_mcl, .inl (cZ, 40, .inl (fun j => bI (kclo j)))), (a_mmn, .inl (cI, 40, .inl (fun j => nI (kmany j)))), (a_mst, .inl (cI, 16, .inl (fun j => nI (kst j)))), (a_msi, .inl (cJ, 16, .inr (.inl (fun j => lN (ksi j))))), (a_mpl, .inl (cI, 16, .inl (fun j => nI (kpl j)))), (a_mca, .inl (cI, 16, .inl (fun j => nI (kca j)))), (a_mcc, .inl (cI, 96, .inl (fun j => nI (kcc j)))), (a_mcw, .inl (cI, 96, .inl (fun j => nI (kcw j))))])) (QcRead ((bI (m_poss shut room L cs line (x, w, nI 0))))) 0 0 (fun _ => False) := by
  refine Met.ofW (cc := b_Md_isPossible) (maxL := 3) (ret := (some .boolean)) (by decide) rfl ?_
  intro p e s m args below meth c s₁ B hml hv
  obtain ⟨rfl, hP, hK⟩ := hv
  have hx := B.exec
  have hb := B.bytes
  have hr := B.returns
  have hts : ∀ w ∈ TT, w.before _ s = true := fun w h => atoms_spec (ws := (w_Md_isPossible)) B.pre w (List.mem_cons_of_mem _ h)
  have hown : s.vm.findClass R_Md = some m.cls := findClass_of_methodNamed B.named
  have hlocks := B.notSynchronized
  have hP : va_P G vwCl [(a_md, .inr (4, [.int (nI kn), .ref a_mrm, .ref a_mcl, .ref a_mmn, .ref a_mvl, .ref a_mst, .ref a_msi, .ref a_mpl, .ref a_mof, .ref a_mgt, .ref a_msn, .ref a_mdn, .ref a_mca, .ref a_mcc, .ref a_mcw, .ref a_mcv, .long (lN kmo), .int kmt, .int kft])), (a_mrm, .inl (cI, 40, .inl (fun j => nI (kroom j)))), (a_mcl, .inl (cZ, 40, .inl (fun j => bI (kclo j)))), (a_mmn, .inl (cI, 40, .inl (fun j => nI (kmany j)))), (a_mst, .inl (cI, 16, .inl (fun j => nI (kst j)))), (a_msi, .inl (cJ, 16, .inr (.inl (fun j => lN (ksi j))))), (a_mpl, .inl (cI, 16, .inl (fun j => nI (kpl j)))), (a_mca, .inl (cI, 16, .inl (fun j => nI (kca j)))), (a_mcc, .inl (cI, 96, .inl (fun j => nI (kcc j)))), (a_mcw, .inl (cI, 96, .inl (fun j => nI (kcw j))))] s.heap := hP
  have hl := lv_entry ([.ref a_md, .int (nI x), .int (nI w)]) (n := 3) (Nat.le_of_ble_eq_true rfl)
  rw [lg_entry_eq]
  generalize (lg_sl ([.ref a_md, .int (nI x), .int (nI w)]) ++ List.replicate (3 - (lg_sl ([.ref a_md, .int (nI x), .int (nI w)])).length) Slot.unset).toArray = ls at hl ⊢
  have hl : lv_has ls 3 [(0, .ref a_md), (1, .int (nI x)), (2, .int (nI w))] := hl
  obtain ⟨e1, e2, e3, e4, e5, e6⟩ := hKC.2 x hx2
  have hn := hKC.1
  rcases (show w = 0 ∨ w = 1 by omega) with rfl | rfl
  · refine lv_aload_n hx hb d_Md_isPossible_0 rfl (lv_at hl 0 rfl) ?_
    refine va_get (D := G) (ci := 4) (v := .ref a_mcl) (C := R_Md) (T := T_Md) (N := 19) hx hb hts uw_Md hown hK hP 0 rfl rfl 2 (by decide) (hts _ t_339) (fun _ h9 => h9) rfl d_Md_isPossible_1 ?_
    refine lv_iload_n hx hb d_Md_isPossible_4 rfl (lv_at hl 1 rfl) ?_
    refine k_zald hx hb hK hP 2 1 rfl rfl (by omega) (by decide) d_Md_isPossible_5 ?_
    refine b_if_ne (tgt := 21) hx hb d_Md_isPossible_6 (by decide) (fun c_a => ?_) (fun c_a => ?_)
    · refine lv_iconst (v := (nI 1)) hx hb d_Md_isPossible_21 (by decide +kernel) ?_
      exact k_rz hx hb hr hlocks (by decide +kernel) (mp_1 (by rw [← e3]; exact c_a)) d_Md_isPossible_22
    · refine lv_aload_n hx hb d_Md_isPossible_9 rfl (lv_at hl 0 rfl) ?_
      refine lv_iload_n hx hb d_Md_isPossible_10 rfl (lv_at hl 1 rfl) ?_
      refine lv_iconst (v := (nI 1)) hx hb d_Md_isPossible_11 (by decide +kernel) ?_
      refine lv_iload_n hx hb d_Md_isPossible_12 rfl (lv_at hl 2 rfl) ?_
      refine lv_isub hx hb d_Md_isPossible_13 ?_
      refine k_top (y := (nI 1)) (by decide +kernel) ?_
      refine lv_iconst (v := (nI 0)) hx hb d_Md_isPossible_14 (by decide +kernel) ?_
      refine k_ro (va_runV (As := [.int (nI x), .int (nI 1), .int (nI 0)]) (rest := []) ⟨hx, hb, hml, hown, hts⟩ (c_Md_waiter0 l G cI cZ cJ a_md a_mrm a_mcl a_mmn a_mvl a_mst a_msi a_mpl a_mof a_mgt a_msn a_mdn a_mca a_mcc a_mcw a_mcv kn kmo kmt kft kst ksi kpl kca kcc kcw kof kcv cs line x 1 (nI 0) (by omega) (by omega) (by decide) hR hKL) (cwV 3 hts (gV t_399 t_400 t_21 t_37 t_401) rfl rfl rfl (by decide +kernel) ⟨Nat.le_of_ble_eq_true rfl, Nat.le_of_ble_eq_true rfl⟩) (kR_V (ci := 4) (q0 := 0) hK hP rfl rfl [0, 4, 5, 6, 7, 8, 9] rfl) rfl rfl hl.1 rfl (lv_room (Nat.le_of_ble_eq_true rfl)) d_Md_isPossible_15 ⟨Nat.le_of_ble_eq_true rfl, Nat.le_of_ble_eq_true rfl⟩) ?_
      refine k_top (y := (wlR ((wl cs line x 1)[0]?))) (by rw [wlAt_nI (by decide)]) ?_
      rcases hz : (wl cs line x 1)[0]? with _ | ⟨q1, i1⟩
      · refine k_top (y := (-1)) (rfl) ?_
        refine lv_if_lt (tgt := 23) hx hb d_Md_isPossible_18 (by decide) (fun c_b => ?_) (fun c_b => absurd (by decide +kernel) c_b)
        refine lv_iload_n hx hb d_Md_isPossible_23 rfl (lv_at hl 2 rfl) ?_
        refine n_if_ne (tgt := 50) hx hb d_Md_isPossible_24 (by decide) (by decide) (fun c_c => absurd c_c (by decide)) (fun c_c => ?_)
        refine lv_aload_n hx hb d_Md_isPossible_27 rfl (lv_at hl 0 rfl) ?_
        refine va_get (D := G) (ci := 4) (v := .ref a_mmn) (C := R_Md) (T := T_Md) (N := 19) hx hb hts uw_Md hown hK hP 0 rfl rfl 3 (by decide) (hts _ t_340) (fun _ h9 => h9) rfl d_Md_isPossible_28 ?_
        refine lv_iload_n hx hb d_Md_isPossible_31 rfl (lv_at hl 1 rfl) ?_
        refine k_iald hx hb hK hP 3 0 rfl rfl (by omega) (by decide) d_Md_isPossible_32 ?_
        refine lv_aload_n hx hb d_Md_isPossible_33 rfl (lv_at hl 0 rfl) ?_
        refine va_get (D := G) (ci := 4) (v := .ref a_mrm) (C := R_Md) (T := T_Md) (N := 19) hx hb hts uw_Md hown hK hP 0 rfl rfl 1 (by decide) (hts _ t_338) (fun _ h9 => h9) rfl d_Md_isPossible_34 ?_
        refine lv_iload_n hx hb d_Md_isPossible_37 rfl (lv_at hl 1 rfl) ?_
        refine k_iald hx hb hK hP 1 0 rfl rfl (by omega) (by decide) d_Md_isPossible_38 ?_
        refine n_icmp_ge (tgt := 46) hx hb d_Md_isPossible_39 (by decide) (by omega) (by omega) (fun c_d => ?_) (fun c_d => ?_)
        · refine lv_iconst (v := (nI 0)) hx hb d_Md_isPossible_46 (by decide +kernel) ?_
          refine lv_goto (tgt := 64) hx hb d_Md_isPossible_47 (by decide) ?_
          exact k_rz hx hb hr hlocks (by decide +kernel) (mp_4 (by rw [← e3]; exact c_a) rfl (decide_eq_false (by omega)) hz) d_Md_isPossible_64
        · refine lv_iconst (v := (nI 1)) hx hb d_Md_isPossible_42 (by decide +kernel) ?_
          refine lv_goto (tgt := 64) hx hb d_Md_isPossible_43 (by decide) ?_
          exact k_rz hx hb hr hlocks (by decide +kernel) (mp_2 rfl (decide_eq_true (by omega))) d_Md_isPossible_64
      · have hz1 := wl_mem (List.mem_of_getElem? hz)
        have hq1 : q1 < 16 := ((hKL.2.1 q1).mp hz1.1).1
        have hs1 := ((hKL.2.1 q1).mp hz1.1).2
        refine k_top (y := (nI q1)) (rfl) ?_
        refine n_if_lt (tgt := 23) hx hb d_Md_isPossible_18 (by decide) (by omega) ?_
        refine lv_iconst (v := (nI 1)) hx hb d_Md_isPossible_21 (by decide +kernel) ?_
        exact k_rz hx hb hr hlocks (by decide +kernel) (mp_3 rfl hz) d_Md_isPossible_22
  · refine lv_aload_n hx hb d_Md_isPossible_0 rfl (lv_at hl 0 rfl) ?_
    refine va_get (D := G) (ci := 4) (v := .ref a_mcl) (C := R_Md) (T := T_Md) (N := 19) hx hb hts uw_Md hown hK hP 0 rfl rfl 2 (by decide) (hts _ t_339) (fun _ h9 => h9) rfl d_Md_isPossible_1 ?_
    refine lv_iload_n hx hb d_Md_isPossible_4 rfl (lv_at hl 1 rfl) ?_
    refine k_zald hx hb hK hP 2 1 rfl rfl (by omega) (by decide) d_Md_isPossible_5 ?_
    refine b_if_ne (tgt := 21) hx hb d_Md_isPossible_6 (by decide) (fun c_a => ?_) (fun c_a => ?_)
    · refine lv_iconst (v := (nI 1)) hx hb d_Md_isPossible_21 (by decide +kernel) ?_
      exact k_rz hx hb hr hlocks (by decide +kernel) (mp_1 (by rw [← e3]; exact c_a)) d_Md_isPossible_22
    · refine lv_aload_n hx hb d_Md_isPossible_9 rfl (lv_at hl 0 rfl) ?_
      refine lv_iload_n hx hb d_Md_isPossible_10 rfl (lv_at hl 1 rfl) ?_
      refine lv_iconst (v := (nI 1)) hx hb d_Md_isPossible_11 (by decide +kernel) ?_
      refine lv_iload_n hx hb d_Md_isPossible_12 rfl (lv_at hl 2 rfl) ?_
      refine lv_isub hx hb d_Md_isPossible_13 ?_
      refine k_top (y := (nI 0)) (by decide +kernel) ?_
      refine lv_iconst (v := (nI 0)) hx hb d_Md_isPossible_14 (by decide +kernel) ?_
      refine k_ro (va_runV (As := [.int (nI x), .int (nI 0), .int (nI 0)]) (rest := []) ⟨hx, hb, hml, hown, hts⟩ (c_Md_waiter0 l G cI cZ cJ a_md a_mrm a_mcl a_mmn a_mvl a_mst a_msi a_mpl a_mof a_mgt a_msn a_mdn a_mca a_mcc a_mcw a_mcv kn kmo kmt kft kst ksi kpl kca kcc kcw kof kcv cs line x 0 (nI 0) (by omega) (by omega) (by decide) hR hKL) (cwV 3 hts (gV t_399 t_400 t_21 t_37 t_401) rfl rfl rfl (by decide +kernel) ⟨Nat.le_of_ble_eq_true rfl, Nat.le_of_ble_eq_true rfl⟩) (kR_V (ci := 4) (q0 := 0) hK hP rfl rfl [0, 4, 5, 6, 7, 8, 9] rfl) rfl rfl hl.1 rfl (lv_room (Nat.le_of_ble_eq_true rfl)) d_Md_isPossible_15 ⟨Nat.le_of_ble_eq_true rfl, Nat.le_of_ble_eq_true rfl⟩) ?_
      refine k_top (y := (wlR ((wl cs line x 0)[0]?))) (by rw [wlAt_nI (by decide)]) ?_
      rcases hz : (wl cs line x 0)[0]? with _ | ⟨q1, i1⟩
      · refine k_top (y := (-1)) (rfl) ?_
        refine lv_if_lt (tgt := 23) hx hb d_Md_isPossible_18 (by decide) (fun c_b => ?_) (fun c_b => absurd (by decide +kernel) c_b)
        refine lv_iload_n hx hb d_Md_isPossible_23 rfl (lv_at hl 2 rfl) ?_
        refine n_if_ne (tgt := 50) hx hb d_Md_isPossible_24 (by decide) (by decide) (fun c_c => ?_) (fun c_c => absurd c_c (by decide))
        refine lv_aload_n hx hb d_Md_isPossible_50 rfl (lv_at hl 0 rfl) ?_
        refine va_get (D := G) (ci := 4) (v := .ref a_mmn) (C := R_Md) (T := T_Md) (N := 19) hx hb hts uw_Md hown hK hP 0 rfl rfl 3 (by decide) (hts _ t_340) (fun _ h9 => h9) rfl d_Md_isPossible_51 ?_
        refine lv_iload_n hx hb d_Md_isPossible_54 rfl (lv_at hl 1 rfl) ?_
        refine k_iald hx hb hK hP 3 0 rfl rfl (by omega) (by decide) d_Md_isPossible_55 ?_
        refine n_if_le (tgt := 63) hx hb d_Md_isPossible_56 (by decide) (by omega) (fun c_e => ?_) (fun c_e => ?_)
        · refine lv_iconst (v := (nI 0)) hx hb d_Md_isPossible_63 (by decide +kernel) ?_
          exact k_rz hx hb hr hlocks (by decide +kernel) (mp_7 (by rw [← e3]; exact c_a) (by decide) (by omega) hz) d_Md_isPossible_64
        · refine lv_iconst (v := (nI 1)) hx hb d_Md_isPossible_59 (by decide +kernel) ?_
          refine lv_goto (tgt := 64) hx hb d_Md_isPossible_60 (by decide) ?_
          exact k_rz hx hb hr hlocks (by decide +kernel) (mp_5 (by decide) (by omega)) d_Md_isPossible_64
      · have hz1 := wl_mem (List.mem_of_getElem? hz)
        have hq1 : q1 < 16 := ((hKL.2.1 q1).mp hz1.1).1
        have hs1 := ((hKL.2.1 q1).mp hz1.1).2
        refine k_top (y := (nI q1)) (rfl) ?_
        refine n_if_lt (tgt := 23) hx hb d_Md_isPossible_18 (by decide) (by omega) ?_
        refine lv_iconst (v := (nI 1)) hx hb d_Md_isPossible_21 (by decide +kernel) ?_
        exact k_rz hx hb hr hlocks (by decide +kernel) (mp_6 (by decide) hz) d_Md_isPossible_22
