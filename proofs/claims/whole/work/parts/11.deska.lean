set_option maxHeartbeats 4000000 in
set_option maxRecDepth 100000 in
theorem c_Dk_isRoutine (l : Launch) (G : va_G) (cI cZ cJ : ClassId) (y : Int32)  : Met l y_Dk_isRoutine (w_Dk_isRoutine) ({ frames := 0, cells := 0, slots := 0, locals := 0 }) (va_Pc [.int y] (kR G vwCl [(cI, .int), (cZ, .boolean), (cJ, .long)] [])) (QcRead ((bI (hasB 16 y)))) 0 0 (fun _ => False) := by
  refine Met.ofW (cc := b_Dk_isRoutine) (maxL := 1) (ret := (some .boolean)) (by decide) rfl ?_
  intro p e s m args below meth c s₁ B hml hv
  obtain ⟨rfl, hP, hK⟩ := hv
  have hx := B.exec
  have hb := B.bytes
  have hr := B.returns
  have hts : ∀ w ∈ TT, w.before _ s = true := fun w h => atoms_spec (ws := (w_Dk_isRoutine)) B.pre w (List.mem_cons_of_mem _ h)
  have hown : s.vm.findClass R_Dk = some m.cls := findClass_of_methodNamed B.named
  have hlocks := B.notSynchronized
  have hP : va_P G vwCl [] s.heap := hP
  have hl := lv_entry ([.int y]) (n := 1) (Nat.le_of_ble_eq_true rfl)
  rw [lg_entry_eq]
  generalize (lg_sl ([.int y]) ++ List.replicate (1 - (lg_sl ([.int y])).length) Slot.unset).toArray = ls at hl ⊢
  have hl : lv_has ls 1 [(0, .int y)] := hl
  refine lv_iload_n hx hb d_Dk_isRoutine_0 rfl (lv_at hl 0 rfl) ?_
  refine lv_if_lt (tgt := 14) hx hb d_Dk_isRoutine_1 (by decide) (fun c_a => ?_) (fun c_a => ?_)
  · refine lv_iconst (v := (nI 0)) hx hb d_Dk_isRoutine_14 (by decide +kernel) ?_
    exact k_rz hx hb hr hlocks (by decide +kernel) (bI_df (fun z => z.1 c_a)) d_Dk_isRoutine_15
  · refine lv_iload_n hx hb d_Dk_isRoutine_4 rfl (lv_at hl 0 rfl) ?_
    refine lv_bipush (v := (nI 16)) hx hb d_Dk_isRoutine_5 (by decide +kernel) ?_
    refine lv_icmp_ge (tgt := 14) hx hb d_Dk_isRoutine_7 (by decide) (fun c_b => ?_) (fun c_b => ?_)
    · refine lv_iconst (v := (nI 0)) hx hb d_Dk_isRoutine_14 (by decide +kernel) ?_
      exact k_rz hx hb hr hlocks (by decide +kernel) (bI_df (fun z => z.2 c_b)) d_Dk_isRoutine_15
    · refine lv_iconst (v := (nI 1)) hx hb d_Dk_isRoutine_10 (by decide +kernel) ?_
      refine lv_goto (tgt := 15) hx hb d_Dk_isRoutine_11 (by decide) ?_
      exact k_rz hx hb hr hlocks (by decide +kernel) (bI_dt ⟨c_a, c_b⟩) d_Dk_isRoutine_15
set_option maxHeartbeats 4000000 in
set_option maxRecDepth 100000 in
theorem c_Dk_isWay (l : Launch) (G : va_G) (cI cZ cJ : ClassId) (y : Int32)  : Met l y_Dk_isWay (w_Dk_isWay) ({ frames := 0, cells := 0, slots := 0, locals := 0 }) (va_Pc [.int y] (kR G vwCl [(cI, .int), (cZ, .boolean), (cJ, .long)] [])) (QcRead ((bI (wayB y)))) 0 0 (fun _ => False) := by
  refine Met.ofW (cc := b_Dk_isWay) (maxL := 1) (ret := (some .boolean)) (by decide) rfl ?_
  intro p e s m args below meth c s₁ B hml hv
  obtain ⟨rfl, hP, hK⟩ := hv
  have hx := B.exec
  have hb := B.bytes
  have hr := B.returns
  have hts : ∀ w ∈ TT, w.before _ s = true := fun w h => atoms_spec (ws := (w_Dk_isWay)) B.pre w (List.mem_cons_of_mem _ h)
  have hown : s.vm.findClass R_Dk = some m.cls := findClass_of_methodNamed B.named
  have hlocks := B.notSynchronized
  have hP : va_P G vwCl [] s.heap := hP
  have hl := lv_entry ([.int y]) (n := 1) (Nat.le_of_ble_eq_true rfl)
  rw [lg_entry_eq]
  generalize (lg_sl ([.int y]) ++ List.replicate (1 - (lg_sl ([.int y])).length) Slot.unset).toArray = ls at hl ⊢
  have hl : lv_has ls 1 [(0, .int y)] := hl
  refine lv_iload_n hx hb d_Dk_isWay_0 rfl (lv_at hl 0 rfl) ?_
  refine lv_if_eq (tgt := 9) hx hb d_Dk_isWay_1 (by decide) (fun c_a => ?_) (fun c_a => ?_)
  · refine lv_iconst (v := (nI 1)) hx hb d_Dk_isWay_9 (by decide +kernel) ?_
    refine lv_goto (tgt := 14) hx hb d_Dk_isWay_10 (by decide) ?_
    exact k_rz hx hb hr hlocks (by decide +kernel) (bI_dt (Or.inl c_a)) d_Dk_isWay_14
  · refine lv_iload_n hx hb d_Dk_isWay_4 rfl (lv_at hl 0 rfl) ?_
    refine lv_iconst (v := (nI 1)) hx hb d_Dk_isWay_5 (by decide +kernel) ?_
    refine lv_icmp_ne (tgt := 13) hx hb d_Dk_isWay_6 (by decide) (fun c_b => ?_) (fun c_b => ?_)
    · refine lv_iconst (v := (nI 0)) hx hb d_Dk_isWay_13 (by decide +kernel) ?_
      exact k_rz hx hb hr hlocks (by decide +kernel) (bI_df (fun z => z.elim c_a c_b)) d_Dk_isWay_14
    · refine lv_iconst (v := (nI 1)) hx hb d_Dk_isWay_9 (by decide +kernel) ?_
      refine lv_goto (tgt := 14) hx hb d_Dk_isWay_10 (by decide) ?_
      exact k_rz hx hb hr hlocks (by decide +kernel) (bI_dt (Or.inr c_b)) d_Dk_isWay_14
set_option maxHeartbeats 4000000 in
set_option maxRecDepth 100000 in
theorem c_Dk_isReady (l : Launch) (G : va_G) (cI cZ cJ : ClassId) (a_dk : Nat) (a_ch : Nat) (a_cs : Nat) (a_ln : Nat) (a_ss : Nat) (a_rr : Nat) (a_wn : Nat) (a_cd : Nat) (mt : Int32) (ft : Int32) (st : Nat → Nat) (y : Int32) (hst : ∀ j, j < 16 → st j < 5) : Met l y_Dk_isReady (w_Dk_isReady) ({ frames := 1, cells := 0, slots := 0, locals := 20 }) (va_Pc [.ref a_dk, .int y] (kR G vwCl [(cI, .int), (cZ, .boolean), (cJ, .long)] [(a_dk, .inr (3, [.ref a_ch, .ref a_cs, .ref a_ln, .ref a_ss, .ref a_rr, .ref a_wn, .ref a_cd, .int mt, .int ft])), (a_ss, .inl (cI, 16, .inl (fun j => nI (st j))))])) (QcRead ((bI (rdyB st y)))) 0 0 (fun _ => False) := by
  refine Met.ofW (cc := b_Dk_isReady) (maxL := 2) (ret := (some .boolean)) (by decide) rfl ?_
  intro p e s m args below meth c s₁ B hml hv
  obtain ⟨rfl, hP, hK⟩ := hv
  have hx := B.exec
  have hb := B.bytes
  have hr := B.returns
  have hts : ∀ w ∈ TT, w.before _ s = true := fun w h => atoms_spec (ws := (w_Dk_isReady)) B.pre w (List.mem_cons_of_mem _ h)
  have hown : s.vm.findClass R_Dk = some m.cls := findClass_of_methodNamed B.named
  have hlocks := B.notSynchronized
  have hP : va_P G vwCl [(a_dk, .inr (3, [.ref a_ch, .ref a_cs, .ref a_ln, .ref a_ss, .ref a_rr, .ref a_wn, .ref a_cd, .int mt, .int ft])), (a_ss, .inl (cI, 16, .inl (fun j => nI (st j))))] s.heap := hP
  have hl := lv_entry ([.ref a_dk, .int y]) (n := 2) (Nat.le_of_ble_eq_true rfl)
  rw [lg_entry_eq]
  generalize (lg_sl ([.ref a_dk, .int y]) ++ List.replicate (2 - (lg_sl ([.ref a_dk, .int y])).length) Slot.unset).toArray = ls at hl ⊢
  have hl : lv_has ls 2 [(0, .ref a_dk), (1, .int y)] := hl
  refine lv_iload_n hx hb d_Dk_isReady_0 rfl (lv_at hl 1 rfl) ?_
  refine k_ro (va_runS (As := [.int y]) (rest := []) ⟨hx, hb, hml, hown, hts⟩ (c_Dk_isRoutine l G cI cZ cJ y) (va_cwS 1 hts (gS t_138 t_139 t_32 t_140) rfl rfl rfl (by decide +kernel) ⟨Nat.le_of_ble_eq_true rfl, Nat.le_of_ble_eq_true rfl⟩) (kR_S hK hP [] rfl) rfl rfl hl.1 rfl (lv_room (Nat.le_of_ble_eq_true rfl)) d_Dk_isReady_1 ⟨Nat.le_of_ble_eq_true rfl, Nat.le_of_ble_eq_true rfl⟩) ?_
  refine b_if_eq (tgt := 30) hx hb d_Dk_isReady_4 (by decide) (fun c_a => ?_) (fun c_a => ?_)
  · refine lv_iconst (v := (nI 0)) hx hb d_Dk_isReady_30 (by decide +kernel) ?_
    exact k_rz hx hb hr hlocks (by decide +kernel) (rdyB_n c_a) d_Dk_isReady_31
  · obtain ⟨q, hq, rfl⟩ := hasB_of (by decide) c_a
    have hs := hst q hq
    refine lv_aload_n hx hb d_Dk_isReady_7 rfl (lv_at hl 0 rfl) ?_
    refine va_get (D := G) (ci := 3) (v := .ref a_ss) (C := R_Dk) (T := T_Dk) (N := 9) hx hb hts uw_Dk hown hK hP 0 rfl rfl 3 (by decide) (hts _ t_108) (fun _ h9 => h9) rfl d_Dk_isReady_8 ?_
    refine lv_iload_n hx hb d_Dk_isReady_11 rfl (lv_at hl 1 rfl) ?_
    refine k_iald hx hb hK hP 1 0 rfl rfl (by omega) (by decide) d_Dk_isReady_12 ?_
    refine n_if_eq (tgt := 26) hx hb d_Dk_isReady_13 (by decide) (by omega) (fun c_b => ?_) (fun c_b => ?_)
    · refine lv_iconst (v := (nI 1)) hx hb d_Dk_isReady_26 (by decide +kernel) ?_
      refine lv_goto (tgt := 31) hx hb d_Dk_isReady_27 (by decide) ?_
      exact k_rz hx hb hr hlocks (by decide +kernel) (rdyB_t hq (Or.inl c_b)) d_Dk_isReady_31
    · refine lv_aload_n hx hb d_Dk_isReady_16 rfl (lv_at hl 0 rfl) ?_
      refine va_get (D := G) (ci := 3) (v := .ref a_ss) (C := R_Dk) (T := T_Dk) (N := 9) hx hb hts uw_Dk hown hK hP 0 rfl rfl 3 (by decide) (hts _ t_108) (fun _ h9 => h9) rfl d_Dk_isReady_17 ?_
      refine lv_iload_n hx hb d_Dk_isReady_20 rfl (lv_at hl 1 rfl) ?_
      refine k_iald hx hb hK hP 1 0 rfl rfl (by omega) (by decide) d_Dk_isReady_21 ?_
      refine lv_iconst (v := (nI 4)) hx hb d_Dk_isReady_22 (by decide +kernel) ?_
      refine n_icmp_ne (tgt := 30) hx hb d_Dk_isReady_23 (by decide) (by omega) (by decide) (fun c_c => ?_) (fun c_c => ?_)
      · refine lv_iconst (v := (nI 0)) hx hb d_Dk_isReady_30 (by decide +kernel) ?_
        exact k_rz hx hb hr hlocks (by decide +kernel) (rdyB_f hq c_b c_c) d_Dk_isReady_31
      · refine lv_iconst (v := (nI 1)) hx hb d_Dk_isReady_26 (by decide +kernel) ?_
        refine lv_goto (tgt := 31) hx hb d_Dk_isReady_27 (by decide) ?_
        exact k_rz hx hb hr hlocks (by decide +kernel) (rdyB_t hq (Or.inr c_c)) d_Dk_isReady_31
set_option maxHeartbeats 4000000 in
set_option maxRecDepth 100000 in
theorem c_Dk_makeReady (l : Launch) (G : va_G) (cI cZ cJ : ClassId) (sz : Nat) (a_dk : Nat) (a_ch : Nat) (a_cs : Nat) (a_ln : Nat) (a_ss : Nat) (a_rr : Nat) (a_wn : Nat) (a_cd : Nat) (a_cn : Nat) (a_cc : Nat) (a_cw : Nat) (a_cv : Nat) (mt : Int32) (ft : Int32) (st : Nat → Nat) (cnum : Nat → Nat) (cch : Nat → Nat) (cway : Nat → Nat) (cval : Nat → Int32) (cs : Nat → List Kase) (q : Nat) (hq : q < 16) (hC : RelC cnum cch cway cval cs) : Met l y_Dk_makeReady (w_Dk_makeReady) ({ frames := 1, cells := 0, slots := 0, locals := 21 }) (va_Pc [.ref a_dk, .int (nI q)] (kW G vwCl [(cI, .int), (cZ, .boolean), (cJ, .long)] [(a_dk, .inr (3, [.ref a_ch, .ref a_cs, .ref a_ln, .ref a_ss, .ref a_rr, .ref a_wn, .ref a_cd, .int mt, .int ft])), (a_ss, .inl (cI, 16, .inl (fun j => nI (st j)))), (a_cs, .inr (0, [.ref a_cn, .ref a_cc, .ref a_cw, .ref a_cv])), (a_cn, .inl (cI, 16, .inl (fun j => nI (cnum j))))] sz)) (va_Qv (fun (u : Unit) => RelC (va_up cnum q 0) cch cway cval (va_up cs q [])) (fun u t => va_P G vwCl [(a_dk, .inr (3, [.ref a_ch, .ref a_cs, .ref a_ln, .ref a_ss, .ref a_rr, .ref a_wn, .ref a_cd, .int mt, .int ft])), (a_ss, .inl (cI, 16, .inl (fun j => nI ((va_up st q 0) j)))), (a_cs, .inr (0, [.ref a_cn, .ref a_cc, .ref a_cw, .ref a_cv])), (a_cn, .inl (cI, 16, .inl (fun j => nI ((va_up cnum q 0) j))))] t.heap) (va_A [(a_dk, .inr (3, [.ref a_ch, .ref a_cs, .ref a_ln, .ref a_ss, .ref a_rr, .ref a_wn, .ref a_cd, .int mt, .int ft])), (a_ss, .inl (cI, 16, .inl (fun j => nI (st j)))), (a_cs, .inr (0, [.ref a_cn, .ref a_cc, .ref a_cw, .ref a_cv])), (a_cn, .inl (cI, 16, .inl (fun j => nI (cnum j))))] sz)) 0 0 (va_A [(a_dk, .inr (3, [.ref a_ch, .ref a_cs, .ref a_ln, .ref a_ss, .ref a_rr, .ref a_wn, .ref a_cd, .int mt, .int ft])), (a_ss, .inl (cI, 16, .inl (fun j => nI (st j)))), (a_cs, .inr (0, [.ref a_cn, .ref a_cc, .ref a_cw, .ref a_cv])), (a_cn, .inl (cI, 16, .inl (fun j => nI (cnum j))))] sz) := by
  refine Met.ofW (cc := b_Dk_makeReady) (maxL := 2) (ret := none) (by decide) rfl ?_
  intro p e s m args below meth c s₁ B hml hv
  obtain ⟨rfl, hsz, hP, hK, hD0⟩ := hv
  have hx := B.exec
  have hb := B.bytes
  have hr := B.returns
  have hts : ∀ w ∈ TT, w.before _ s = true := fun w h => atoms_spec (ws := (w_Dk_makeReady)) B.pre w (List.mem_cons_of_mem _ h)
  have hown : s.vm.findClass R_Dk = some m.cls := findClass_of_methodNamed B.named
  have hlocks := B.notSynchronized
  subst hsz
  have hD := hD0.self (sz := s.heap.size)
  generalize hAe : va_A [(a_dk, .inr (3, [.ref a_ch, .ref a_cs, .ref a_ln, .ref a_ss, .ref a_rr, .ref a_wn, .ref a_cd, .int mt, .int ft])), (a_ss, .inl (cI, 16, .inl (fun j => nI (st j)))), (a_cs, .inr (0, [.ref a_cn, .ref a_cc, .ref a_cw, .ref a_cv])), (a_cn, .inl (cI, 16, .inl (fun j => nI (cnum j))))] s.heap.size = A at hD ⊢
  have hA : ∀ q : Nat, s.heap.size ≤ q → A q := fun q h => by rw [← hAe]; exact Or.inr h
  have hS : va_S A s.heap s.heap [] := va_S.rf
  have hP : va_P G vwCl [(a_dk, .inr (3, [.ref a_ch, .ref a_cs, .ref a_ln, .ref a_ss, .ref a_rr, .ref a_wn, .ref a_cd, .int mt, .int ft])), (a_ss, .inl (cI, 16, .inl (fun j => nI (st j)))), (a_cs, .inr (0, [.ref a_cn, .ref a_cc, .ref a_cw, .ref a_cv])), (a_cn, .inl (cI, 16, .inl (fun j => nI (cnum j))))] s.heap := hP
  have hl := lv_entry ([.ref a_dk, .int (nI q)]) (n := 2) (Nat.le_of_ble_eq_true rfl)
  rw [lg_entry_eq]
  generalize (lg_sl ([.ref a_dk, .int (nI q)]) ++ List.replicate (2 - (lg_sl ([.ref a_dk, .int (nI q)])).length) Slot.unset).toArray = ls at hl ⊢
  have hl : lv_has ls 2 [(0, .ref a_dk), (1, .int (nI q))] := hl
  refine lv_aload_n hx hb d_Dk_makeReady_0 rfl (lv_at hl 0 rfl) ?_
  refine va_get (D := G) (ci := 3) (v := .ref a_ss) (C := R_Dk) (T := T_Dk) (N := 9) hx hb hts uw_Dk hown hK hP 0 rfl rfl 3 (by decide) (hts _ t_108) (fun _ h9 => h9) rfl d_Dk_makeReady_1 ?_
  refine lv_iload_n hx hb d_Dk_makeReady_4 rfl (lv_at hl 1 rfl) ?_
  refine lv_iconst (v := (nI 0)) hx hb d_Dk_makeReady_5 (by decide +kernel) ?_
  refine k_iastN hx hb hK hP hD hS 1 0 rfl rfl (by omega) (by decide) d_Dk_makeReady_6 (fun H locs hP hD hS => ?_)
  have hP : va_P G vwCl [(a_dk, .inr (3, [.ref a_ch, .ref a_cs, .ref a_ln, .ref a_ss, .ref a_rr, .ref a_wn, .ref a_cd, .int mt, .int ft])), (a_ss, .inl (cI, 16, .inl (fun j => nI ((va_up st q 0) j)))), (a_cs, .inr (0, [.ref a_cn, .ref a_cc, .ref a_cw, .ref a_cv])), (a_cn, .inl (cI, 16, .inl (fun j => nI (cnum j))))] H := hP
  have hD : va_D A [(a_dk, .inr (3, [.ref a_ch, .ref a_cs, .ref a_ln, .ref a_ss, .ref a_rr, .ref a_wn, .ref a_cd, .int mt, .int ft])), (a_ss, .inl (cI, 16, .inl (fun j => nI ((va_up st q 0) j)))), (a_cs, .inr (0, [.ref a_cn, .ref a_cc, .ref a_cw, .ref a_cv])), (a_cn, .inl (cI, 16, .inl (fun j => nI (cnum j))))] := hD
  refine lv_aload_n hx hb d_Dk_makeReady_7 rfl (lv_at hl 0 rfl) ?_
  refine va_get (D := G) (ci := 3) (v := .ref a_cs) (C := R_Dk) (T := T_Dk) (N := 9) hx hb hts uw_Dk hown hK hP 0 rfl rfl 1 (by decide) (hts _ t_106) (fun _ h9 => h9) rfl d_Dk_makeReady_8 ?_
  refine lv_iload_n hx hb d_Dk_makeReady_11 rfl (lv_at hl 1 rfl) ?_
  refine k_rwv (va_runV (As := [.int (nI q)]) (rest := []) ⟨hx, hb, hml, hown, hts⟩ (c_Cs_forget l G cI cZ cJ H.size a_cs a_cn a_cc a_cw a_cv cnum q hq) (cwV 1 hts (gV t_148 t_149 t_150 t_34 t_151) rfl rfl rfl (by decide +kernel) ⟨Nat.le_of_ble_eq_true rfl, Nat.le_of_ble_eq_true rfl⟩) (kW_V (ci := 0) (q0 := 2) hK hP hD rfl rfl [2, 3] rfl (by decide) rfl) rfl rfl hl.1 rfl (lv_room (Nat.le_of_ble_eq_true rfl)) d_Dk_makeReady_12 ⟨Nat.le_of_ble_eq_true rfl, Nat.le_of_ble_eq_true rfl⟩) hP hD hS hA [2, 3] rfl (fun _ => rfl) (fun u H locs hw hP hD hS => ?_)
  have hP : va_P G vwCl [(a_dk, .inr (3, [.ref a_ch, .ref a_cs, .ref a_ln, .ref a_ss, .ref a_rr, .ref a_wn, .ref a_cd, .int mt, .int ft])), (a_ss, .inl (cI, 16, .inl (fun j => nI ((va_up st q 0) j)))), (a_cs, .inr (0, [.ref a_cn, .ref a_cc, .ref a_cw, .ref a_cv])), (a_cn, .inl (cI, 16, .inl (fun j => nI ((va_up cnum q 0) j))))] H := hP
  have hD : va_D A [(a_dk, .inr (3, [.ref a_ch, .ref a_cs, .ref a_ln, .ref a_ss, .ref a_rr, .ref a_wn, .ref a_cd, .int mt, .int ft])), (a_ss, .inl (cI, 16, .inl (fun j => nI ((va_up st q 0) j)))), (a_cs, .inr (0, [.ref a_cn, .ref a_cc, .ref a_cw, .ref a_cv])), (a_cn, .inl (cI, 16, .inl (fun j => nI ((va_up cnum q 0) j))))] := hD
  exact k_wv hx hb hr hlocks hP hS () (rfl) (hC.forget q) d_Dk_makeReady_15
set_option maxHeartbeats 4000000 in
set_option maxRecDepth 100000 in
theorem c_Dk_startWaiting (l : Launch) (G : va_G) (cI cZ cJ : ClassId) (sz : Nat) (a_dk : Nat) (a_ch : Nat) (a_cs : Nat) (a_ln : Nat) (a_ss : Nat) (a_rr : Nat) (a_wn : Nat) (a_cd : Nat) (a_mm : Nat) (mt : Int32) (ft : Int32) (st : Nat → Nat) (len : Nat) (mem : Nat → Nat) (line : List Nat) (q : Nat) (h : Nat) (hq : q < 16) (hL : RelL len mem line) (hlt : line.length < 16) : Met l y_Dk_startWaiting (w_Dk_startWaiting) ({ frames := 1, cells := 0, slots := 0, locals := 21 }) (va_Pc [.ref a_dk, .int (nI q), .int (nI h)] (kW G vwCl [(cI, .int), (cZ, .boolean), (cJ, .long)] [(a_dk, .inr (3, [.ref a_ch, .ref a_cs, .ref a_ln, .ref a_ss, .ref a_rr, .ref a_wn, .ref a_cd, .int mt, .int ft])), (a_ss, .inl (cI, 16, .inl (fun j => nI (st j)))), (a_ln, .inr (2, [.ref a_mm, .int (nI len)])), (a_mm, .inl (cI, 16, .inl (fun j => nI (mem j))))] sz)) (va_Qv (fun (u : Nat × (Nat → Nat)) => RelL u.1 u.2 (line ++ [q])) (fun u t => va_P G vwCl [(a_dk, .inr (3, [.ref a_ch, .ref a_cs, .ref a_ln, .ref a_ss, .ref a_rr, .ref a_wn, .ref a_cd, .int mt, .int ft])), (a_ss, .inl (cI, 16, .inl (fun j => nI ((va_up st q h) j)))), (a_ln, .inr (2, [.ref a_mm, .int (nI u.1)])), (a_mm, .inl (cI, 16, .inl (fun j => nI (u.2 j))))] t.heap) (va_A [(a_dk, .inr (3, [.ref a_ch, .ref a_cs, .ref a_ln, .ref a_ss, .ref a_rr, .ref a_wn, .ref a_cd, .int mt, .int ft])), (a_ss, .inl (cI, 16, .inl (fun j => nI (st j)))), (a_ln, .inr (2, [.ref a_mm, .int (nI len)])), (a_mm, .inl (cI, 16, .inl (fun j => nI (mem j))))] sz)) 0 0 (va_A [(a_dk, .inr (3, [.ref a_ch, .ref a_cs, .ref a_ln, .ref a_ss, .ref a_rr, .ref a_wn, .ref a_cd, .int mt, .int ft])), (a_ss, .inl (cI, 16, .inl (fun j => nI (st j)))), (a_ln, .inr (2, [.ref a_mm, .int (nI len)])), (a_mm, .inl (cI, 16, .inl (fun j => nI (mem j))))] sz) := by
  refine Met.ofW (cc := b_Dk_startWaiting) (maxL := 3) (ret := none) (by decide) rfl ?_
  intro p e s m args below meth c s₁ B hml hv
  obtain ⟨rfl, hsz, hP, hK, hD0⟩ := hv
  have hx := B.exec
  have hb := B.bytes
  have hr := B.returns
  have hts : ∀ w ∈ TT, w.before _ s = true := fun w h => atoms_spec (ws := (w_Dk_startWaiting)) B.pre w (List.mem_cons_of_mem _ h)
  have hown : s.vm.findClass R_Dk = some m.cls := findClass_of_methodNamed B.named
  have hlocks := B.notSynchronized
  subst hsz
  have hD := hD0.self (sz := s.heap.size)
  generalize hAe : va_A [(a_dk, .inr (3, [.ref a_ch, .ref a_cs, .ref a_ln, .ref a_ss, .ref a_rr, .ref a_wn, .ref a_cd, .int mt, .int ft])), (a_ss, .inl (cI, 16, .inl (fun j => nI (st j)))), (a_ln, .inr (2, [.ref a_mm, .int (nI len)])), (a_mm, .inl (cI, 16, .inl (fun j => nI (mem j))))] s.heap.size = A at hD ⊢
  have hA : ∀ q : Nat, s.heap.size ≤ q → A q := fun q h => by rw [← hAe]; exact Or.inr h
  have hS : va_S A s.heap s.heap [] := va_S.rf
  have hP : va_P G vwCl [(a_dk, .inr (3, [.ref a_ch, .ref a_cs, .ref a_ln, .ref a_ss, .ref a_rr, .ref a_wn, .ref a_cd, .int mt, .int ft])), (a_ss, .inl (cI, 16, .inl (fun j => nI (st j)))), (a_ln, .inr (2, [.ref a_mm, .int (nI len)])), (a_mm, .inl (cI, 16, .inl (fun j => nI (mem j))))] s.heap := hP
  have hl := lv_entry ([.ref a_dk, .int (nI q), .int (nI h)]) (n := 3) (Nat.le_of_ble_eq_true rfl)
  rw [lg_entry_eq]
  generalize (lg_sl ([.ref a_dk, .int (nI q), .int (nI h)]) ++ List.replicate (3 - (lg_sl ([.ref a_dk, .int (nI q), .int (nI h)])).length) Slot.unset).toArray = ls at hl ⊢
  have hl : lv_has ls 3 [(0, .ref a_dk), (1, .int (nI q)), (2, .int (nI h))] := hl
  refine lv_aload_n hx hb d_Dk_startWaiting_0 rfl (lv_at hl 0 rfl) ?_
  refine va_get (D := G) (ci := 3) (v := .ref a_ss) (C := R_Dk) (T := T_Dk) (N := 9) hx hb hts uw_Dk hown hK hP 0 rfl rfl 3 (by decide) (hts _ t_108) (fun _ h9 => h9) rfl d_Dk_startWaiting_1 ?_
  refine lv_iload_n hx hb d_Dk_startWaiting_4 rfl (lv_at hl 1 rfl) ?_
  refine lv_iload_n hx hb d_Dk_startWaiting_5 rfl (lv_at hl 2 rfl) ?_
  refine k_iastN hx hb hK hP hD hS 1 0 rfl rfl (by omega) (by decide) d_Dk_startWaiting_6 (fun H locs hP hD hS => ?_)
  have hP : va_P G vwCl [(a_dk, .inr (3, [.ref a_ch, .ref a_cs, .ref a_ln, .ref a_ss, .ref a_rr, .ref a_wn, .ref a_cd, .int mt, .int ft])), (a_ss, .inl (cI, 16, .inl (fun j => nI ((va_up st q h) j)))), (a_ln, .inr (2, [.ref a_mm, .int (nI len)])), (a_mm, .inl (cI, 16, .inl (fun j => nI (mem j))))] H := hP
  have hD : va_D A [(a_dk, .inr (3, [.ref a_ch, .ref a_cs, .ref a_ln, .ref a_ss, .ref a_rr, .ref a_wn, .ref a_cd, .int mt, .int ft])), (a_ss, .inl (cI, 16, .inl (fun j => nI ((va_up st q h) j)))), (a_ln, .inr (2, [.ref a_mm, .int (nI len)])), (a_mm, .inl (cI, 16, .inl (fun j => nI (mem j))))] := hD
  refine lv_aload_n hx hb d_Dk_startWaiting_7 rfl (lv_at hl 0 rfl) ?_
  refine va_get (D := G) (ci := 3) (v := .ref a_ln) (C := R_Dk) (T := T_Dk) (N := 9) hx hb hts uw_Dk hown hK hP 0 rfl rfl 2 (by decide) (hts _ t_107) (fun _ h9 => h9) rfl d_Dk_startWaiting_8 ?_
  refine lv_iload_n hx hb d_Dk_startWaiting_11 rfl (lv_at hl 1 rfl) ?_
  refine k_rwv (va_runV (As := [.int (nI q)]) (rest := []) ⟨hx, hb, hml, hown, hts⟩ (c_Ln_join l G cI cZ cJ H.size a_ln a_mm len mem line q hq hL hlt) (cwV 1 hts (gV t_214 t_215 t_216 t_35 t_217) rfl rfl rfl (by decide +kernel) ⟨Nat.le_of_ble_eq_true rfl, Nat.le_of_ble_eq_true rfl⟩) (kW_V (ci := 2) (q0 := 2) hK hP hD rfl rfl [2, 3] rfl (by decide) rfl) rfl rfl hl.1 rfl (lv_room (Nat.le_of_ble_eq_true rfl)) d_Dk_startWaiting_12 ⟨Nat.le_of_ble_eq_true rfl, Nat.le_of_ble_eq_true rfl⟩) hP hD hS hA [2, 3] rfl (fun _ => rfl) (fun u H locs hw hP hD hS => ?_)
  obtain ⟨len_1, mem_1⟩ := u
  have hL := hw
  have hL : RelL len_1 mem_1 (line ++ [q]) := hL
  have hP : va_P G vwCl [(a_dk, .inr (3, [.ref a_ch, .ref a_cs, .ref a_ln, .ref a_ss, .ref a_rr, .ref a_wn, .ref a_cd, .int mt, .int ft])), (a_ss, .inl (cI, 16, .inl (fun j => nI ((va_up st q h) j)))), (a_ln, .inr (2, [.ref a_mm, .int (nI len_1)])), (a_mm, .inl (cI, 16, .inl (fun j => nI (mem_1 j))))] H := hP
  have hD : va_D A [(a_dk, .inr (3, [.ref a_ch, .ref a_cs, .ref a_ln, .ref a_ss, .ref a_rr, .ref a_wn, .ref a_cd, .int mt, .int ft])), (a_ss, .inl (cI, 16, .inl (fun j => nI ((va_up st q h) j)))), (a_ln, .inr (2, [.ref a_mm, .int (nI len_1)])), (a_mm, .inl (cI, 16, .inl (fun j => nI (mem_1 j))))] := hD
  exact k_wv hx hb hr hlocks hP hS (len_1, mem_1) (rfl) (hL) d_Dk_startWaiting_15
set_option maxHeartbeats 4000000 in
set_option maxRecDepth 100000 in
theorem c_Dk_hand (l : Launch) (G : va_G) (cI cZ cJ : ClassId) (sz : Nat) (a_dk : Nat) (a_ch : Nat) (a_cs : Nat) (a_ln : Nat) (a_ss : Nat) (a_rr : Nat) (a_wn : Nat) (a_cd : Nat) (mt : Int32) (ft : Int32) (rc : Nat → Int32) (sn : Nat → Nat) (q : Nat) (v : Int32) (b : Nat) (hq : q < 16) : Met l y_Dk_hand (w_Dk_hand) ({ frames := 0, cells := 0, slots := 0, locals := 0 }) (va_Pc [.ref a_dk, .int (nI q), .int v, .int (nI b)] (kW G vwCl [(cI, .int), (cZ, .boolean), (cJ, .long)] [(a_dk, .inr (3, [.ref a_ch, .ref a_cs, .ref a_ln, .ref a_ss, .ref a_rr, .ref a_wn, .ref a_cd, .int mt, .int ft])), (a_rr, .inl (cI, 16, .inl rc)), (a_wn, .inl (cI, 16, .inl (fun j => nI (sn j))))] sz)) (va_Qv (fun (u : Unit) => True) (fun u t => va_P G vwCl [(a_dk, .inr (3, [.ref a_ch, .ref a_cs, .ref a_ln, .ref a_ss, .ref a_rr, .ref a_wn, .ref a_cd, .int mt, .int ft])), (a_rr, .inl (cI, 16, .inl (va_up rc q v))), (a_wn, .inl (cI, 16, .inl (fun j => nI ((va_up sn q b) j))))] t.heap) (va_A [(a_dk, .inr (3, [.ref a_ch, .ref a_cs, .ref a_ln, .ref a_ss, .ref a_rr, .ref a_wn, .ref a_cd, .int mt, .int ft])), (a_rr, .inl (cI, 16, .inl rc)), (a_wn, .inl (cI, 16, .inl (fun j => nI (sn j))))] sz)) 0 0 (va_A [(a_dk, .inr (3, [.ref a_ch, .ref a_cs, .ref a_ln, .ref a_ss, .ref a_rr, .ref a_wn, .ref a_cd, .int mt, .int ft])), (a_rr, .inl (cI, 16, .inl rc)), (a_wn, .inl (cI, 16, .inl (fun j => nI (sn j))))] sz) := by
  refine Met.ofW (cc := b_Dk_hand) (maxL := 4) (ret := none) (by decide) rfl ?_
  intro p e s m args below meth c s₁ B hml hv
  obtain ⟨rfl, hsz, hP, hK, hD0⟩ := hv
  have hx := B.exec
  have hb := B.bytes
  have hr := B.returns
  have hts : ∀ w ∈ TT, w.before _ s = true := fun w h => atoms_spec (ws := (w_Dk_hand)) B.pre w (List.mem_cons_of_mem _ h)
  have hown : s.vm.findClass R_Dk = some m.cls := findClass_of_methodNamed B.named
  have hlocks := B.notSynchronized
  subst hsz
  have hD := hD0.self (sz := s.heap.size)
  generalize hAe : va_A [(a_dk, .inr (3, [.ref a_ch, .ref a_cs, .ref a_ln, .ref a_ss, .ref a_rr, .ref a_wn, .ref a_cd, .int mt, .int ft])), (a_rr, .inl (cI, 16, .inl rc)), (a_wn, .inl (cI, 16, .inl (fun j => nI (sn j))))] s.heap.size = A at hD ⊢
  have hA : ∀ q : Nat, s.heap.size ≤ q → A q := fun q h => by rw [← hAe]; exact Or.inr h
  have hS : va_S A s.heap s.heap [] := va_S.rf
  have hP : va_P G vwCl [(a_dk, .inr (3, [.ref a_ch, .ref a_cs, .ref a_ln, .ref a_ss, .ref a_rr, .ref a_wn, .ref a_cd, .int mt, .int ft])), (a_rr, .inl (cI, 16, .inl rc)), (a_wn, .inl (cI, 16, .inl (fun j => nI (sn j))))] s.heap := hP
  have hl := lv_entry ([.ref a_dk, .int (nI q), .int v, .int (nI b)]) (n := 4) (Nat.le_of_ble_eq_true rfl)
  rw [lg_entry_eq]
  generalize (lg_sl ([.ref a_dk, .int (nI q), .int v, .int (nI b)]) ++ List.replicate (4 - (lg_sl ([.ref a_dk, .int (nI q), .int v, .int (nI b)])).length) Slot.unset).toArray = ls at hl ⊢
  have hl : lv_has ls 4 [(0, .ref a_dk), (1, .int (nI q)), (2, .int v), (3, .int (nI b))] := hl
  refine lv_aload_n hx hb d_Dk_hand_0 rfl (lv_at hl 0 rfl) ?_
  refine va_get (D := G) (ci := 3) (v := .ref a_rr) (C := R_Dk) (T := T_Dk) (N := 9) hx hb hts uw_Dk hown hK hP 0 rfl rfl 4 (by decide) (hts _ t_109) (fun _ h9 => h9) rfl d_Dk_hand_1 ?_
  refine lv_iload_n hx hb d_Dk_hand_4 rfl (lv_at hl 1 rfl) ?_
  refine lv_iload_n hx hb d_Dk_hand_5 rfl (lv_at hl 2 rfl) ?_
  refine k_iast hx hb hK hP hD hS 1 0 rfl rfl (by omega) (by decide) d_Dk_hand_6 (fun H locs hP hD hS => ?_)
  have hP : va_P G vwCl [(a_dk, .inr (3, [.ref a_ch, .ref a_cs, .ref a_ln, .ref a_ss, .ref a_rr, .ref a_wn, .ref a_cd, .int mt, .int ft])), (a_rr, .inl (cI, 16, .inl (va_up rc q v))), (a_wn, .inl (cI, 16, .inl (fun j => nI (sn j))))] H := hP
  have hD : va_D A [(a_dk, .inr (3, [.ref a_ch, .ref a_cs, .ref a_ln, .ref a_ss, .ref a_rr, .ref a_wn, .ref a_cd, .int mt, .int ft])), (a_rr, .inl (cI, 16, .inl (va_up rc q v))), (a_wn, .inl (cI, 16, .inl (fun j => nI (sn j))))] := hD
  refine lv_aload_n hx hb d_Dk_hand_7 rfl (lv_at hl 0 rfl) ?_
  refine va_get (D := G) (ci := 3) (v := .ref a_wn) (C := R_Dk) (T := T_Dk) (N := 9) hx hb hts uw_Dk hown hK hP 0 rfl rfl 5 (by decide) (hts _ t_110) (fun _ h9 => h9) rfl d_Dk_hand_8 ?_
  refine lv_iload_n hx hb d_Dk_hand_11 rfl (lv_at hl 1 rfl) ?_
  refine lv_iload_n hx hb d_Dk_hand_12 rfl (lv_at hl 3 rfl) ?_
  refine k_iastN hx hb hK hP hD hS 2 0 rfl rfl (by omega) (by decide) d_Dk_hand_13 (fun H locs hP hD hS => ?_)
  have hP : va_P G vwCl [(a_dk, .inr (3, [.ref a_ch, .ref a_cs, .ref a_ln, .ref a_ss, .ref a_rr, .ref a_wn, .ref a_cd, .int mt, .int ft])), (a_rr, .inl (cI, 16, .inl (va_up rc q v))), (a_wn, .inl (cI, 16, .inl (fun j => nI ((va_up sn q b) j))))] H := hP
  have hD : va_D A [(a_dk, .inr (3, [.ref a_ch, .ref a_cs, .ref a_ln, .ref a_ss, .ref a_rr, .ref a_wn, .ref a_cd, .int mt, .int ft])), (a_rr, .inl (cI, 16, .inl (va_up rc q v))), (a_wn, .inl (cI, 16, .inl (fun j => nI ((va_up sn q b) j))))] := hD
  exact k_wv hx hb hr hlocks hP hS () (rfl) (trivial) d_Dk_hand_14
set_option maxHeartbeats 4000000 in
set_option maxRecDepth 100000 in
theorem c_Dk_sufferFault (l : Launch) (G : va_G) (cI cZ cJ : ClassId) (sz : Nat) (a_dk : Nat) (a_ch : Nat) (a_cs : Nat) (a_ln : Nat) (a_ss : Nat) (a_rr : Nat) (a_wn : Nat) (a_cd : Nat) (mt : Int32) (ft : Int32) (st : Nat → Nat) (q : Nat) (hq : q < 16) : Met l y_Dk_sufferFault (w_Dk_sufferFault) ({ frames := 0, cells := 0, slots := 0, locals := 0 }) (va_Pc [.ref a_dk, .int (nI q)] (kW G vwCl [(cI, .int), (cZ, .boolean), (cJ, .long)] [(a_dk, .inr (3, [.ref a_ch, .ref a_cs, .ref a_ln, .ref a_ss, .ref a_rr, .ref a_wn, .ref a_cd, .int mt, .int ft])), (a_ss, .inl (cI, 16, .inl (fun j => nI (st j))))] sz)) (va_Qv (fun (u : Unit) => True) (fun u t => va_P G vwCl [(a_dk, .inr (3, [.ref a_ch, .ref a_cs, .ref a_ln, .ref a_ss, .ref a_rr, .ref a_wn, .ref a_cd, .int mt, .int (ft + nI 1)])), (a_ss, .inl (cI, 16, .inl (fun j => nI ((va_up st q 4) j))))] t.heap) (va_A [(a_dk, .inr (3, [.ref a_ch, .ref a_cs, .ref a_ln, .ref a_ss, .ref a_rr, .ref a_wn, .ref a_cd, .int mt, .int ft])), (a_ss, .inl (cI, 16, .inl (fun j => nI (st j))))] sz)) 0 0 (va_A [(a_dk, .inr (3, [.ref a_ch, .ref a_cs, .ref a_ln, .ref a_ss, .ref a_rr, .ref a_wn, .ref a_cd, .int mt, .int ft])), (a_ss, .inl (cI, 16, .inl (fun j => nI (st j))))] sz) := by
  refine Met.ofW (cc := b_Dk_sufferFault) (maxL := 2) (ret := none) (by decide) rfl ?_
  intro p e s m args below meth c s₁ B hml hv
  obtain ⟨rfl, hsz, hP, hK, hD0⟩ := hv
  have hx := B.exec
  have hb := B.bytes
  have hr := B.returns
  have hts : ∀ w ∈ TT, w.before _ s = true := fun w h => atoms_spec (ws := (w_Dk_sufferFault)) B.pre w (List.mem_cons_of_mem _ h)
  have hown : s.vm.findClass R_Dk = some m.cls := findClass_of_methodNamed B.named
  have hlocks := B.notSynchronized
  subst hsz
  have hD := hD0.self (sz := s.heap.size)
  generalize hAe : va_A [(a_dk, .inr (3, [.ref a_ch, .ref a_cs, .ref a_ln, .ref a_ss, .ref a_rr, .ref a_wn, .ref a_cd, .int mt, .int ft])), (a_ss, .inl (cI, 16, .inl (fun j => nI (st j))))] s.heap.size = A at hD ⊢
  have hA : ∀ q : Nat, s.heap.size ≤ q → A q := fun q h => by rw [← hAe]; exact Or.inr h
  have hS : va_S A s.heap s.heap [] := va_S.rf
  have hP : va_P G vwCl [(a_dk, .inr (3, [.ref a_ch, .ref a_cs, .ref a_ln, .ref a_ss, .ref a_rr, .ref a_wn, .ref a_cd, .int mt, .int ft])), (a_ss, .inl (cI, 16, .inl (fun j => nI (st j))))] s.heap := hP
  have hl := lv_entry ([.ref a_dk, .int (nI q)]) (n := 2) (Nat.le_of_ble_eq_true rfl)
  rw [lg_entry_eq]
  generalize (lg_sl ([.ref a_dk, .int (nI q)]) ++ List.replicate (2 - (lg_sl ([.ref a_dk, .int (nI q)])).length) Slot.unset).toArray = ls at hl ⊢
  have hl : lv_has ls 2 [(0, .ref a_dk), (1, .int (nI q))] := hl
  refine lv_aload_n hx hb d_Dk_sufferFault_0 rfl (lv_at hl 0 rfl) ?_
  refine va_get (D := G) (ci := 3) (v := .ref a_ss) (C := R_Dk) (T := T_Dk) (N := 9) hx hb hts uw_Dk hown hK hP 0 rfl rfl 3 (by decide) (hts _ t_108) (fun _ h9 => h9) rfl d_Dk_sufferFault_1 ?_
  refine lv_iload_n hx hb d_Dk_sufferFault_4 rfl (lv_at hl 1 rfl) ?_
  refine lv_iconst (v := (nI 4)) hx hb d_Dk_sufferFault_5 (by decide +kernel) ?_
  refine k_iastN hx hb hK hP hD hS 1 0 rfl rfl (by omega) (by decide) d_Dk_sufferFault_6 (fun H locs hP hD hS => ?_)
  have hP : va_P G vwCl [(a_dk, .inr (3, [.ref a_ch, .ref a_cs, .ref a_ln, .ref a_ss, .ref a_rr, .ref a_wn, .ref a_cd, .int mt, .int ft])), (a_ss, .inl (cI, 16, .inl (fun j => nI ((va_up st q 4) j))))] H := hP
  have hD : va_D A [(a_dk, .inr (3, [.ref a_ch, .ref a_cs, .ref a_ln, .ref a_ss, .ref a_rr, .ref a_wn, .ref a_cd, .int mt, .int ft])), (a_ss, .inl (cI, 16, .inl (fun j => nI ((va_up st q 4) j))))] := hD
  refine lv_aload_n hx hb d_Dk_sufferFault_7 rfl (lv_at hl 0 rfl) ?_
  refine lv_dup hx hb d_Dk_sufferFault_8 rfl ?_
  refine va_get (D := G) (ci := 3) (v := .int ft) (C := R_Dk) (T := T_Dk) (N := 9) hx hb hts uw_Dk hown hK hP 0 rfl rfl 8 (by decide) (hts _ t_113) (fun _ h9 => h9) rfl d_Dk_sufferFault_9 ?_
  refine lv_iconst (v := (nI 1)) hx hb d_Dk_sufferFault_12 (by decide +kernel) ?_
  refine lv_iadd hx hb d_Dk_sufferFault_13 ?_
  refine va_put (D := G) (ci := 3) (v := .int (ft + (nI 1))) (ty := .int) (C := R_Dk) (T := T_Dk) (N := 9) hx hb hts uw_Dk ty_Dk tyok_Dk nm_Dk hown hK hP hD hS 0 rfl rfl 8 (by decide) (hts _ t_113) (fun _ h9 => h9) rfl (by decide +kernel) rfl rfl (Nat.le_of_ble_eq_true rfl) d_Dk_sufferFault_14 (fun H locs hP hD hS => ?_)
  have hP : va_P G vwCl [(a_dk, .inr (3, [.ref a_ch, .ref a_cs, .ref a_ln, .ref a_ss, .ref a_rr, .ref a_wn, .ref a_cd, .int mt, .int (ft + (nI 1))])), (a_ss, .inl (cI, 16, .inl (fun j => nI ((va_up st q 4) j))))] H := hP
  have hD : va_D A [(a_dk, .inr (3, [.ref a_ch, .ref a_cs, .ref a_ln, .ref a_ss, .ref a_rr, .ref a_wn, .ref a_cd, .int mt, .int (ft + (nI 1))])), (a_ss, .inl (cI, 16, .inl (fun j => nI ((va_up st q 4) j))))] := hD
  exact k_wv hx hb hr hlocks hP hS () (rfl) (trivial) d_Dk_sufferFault_17
set_option maxHeartbeats 4000000 in
set_option maxRecDepth 100000 in
theorem c_Dk_endWait (l : Launch) (G : va_G) (cI cZ cJ : ClassId) (sz : Nat) (a_dk : Nat) (a_ch : Nat) (a_cs : Nat) (a_ln : Nat) (a_ss : Nat) (a_rr : Nat) (a_wn : Nat) (a_cd : Nat) (a_cn : Nat) (a_cc : Nat) (a_cw : Nat) (a_cv : Nat) (a_mm : Nat) (mt : Int32) (ft : Int32) (st : Nat → Nat) (cd : Nat → Int32) (cnum : Nat → Nat) (len : Nat) (mem : Nat → Nat) (cch : Nat → Nat) (cway : Nat → Nat) (cval : Nat → Int32) (cs : Nat → List Kase) (line : List Nat) (q : Nat) (i : Nat) (hq : q < 16) (hi6 : i < 6) (hst : ∀ j, j < 16 → st j < 5) (hC : RelC cnum cch cway cval cs) (hL : RelL len mem line) : Met l y_Dk_endWait (w_Dk_endWait) ({ frames := 2, cells := 0, slots := 0, locals := 42 }) (va_Pc [.ref a_dk, .int (nI (q * 6 + i))] (kW G vwCl [(cI, .int), (cZ, .boolean), (cJ, .long)] [(a_dk, .inr (3, [.ref a_ch, .ref a_cs, .ref a_ln, .ref a_ss, .ref a_rr, .ref a_wn, .ref a_cd, .int mt, .int ft])), (a_ss, .inl (cI, 16, .inl (fun j => nI (st j)))), (a_cd, .inl (cI, 16, .inl cd)), (a_cs, .inr (0, [.ref a_cn, .ref a_cc, .ref a_cw, .ref a_cv])), (a_cn, .inl (cI, 16, .inl (fun j => nI (cnum j)))), (a_ln, .inr (2, [.ref a_mm, .int (nI len)])), (a_mm, .inl (cI, 16, .inl (fun j => nI (mem j))))] sz)) (va_Qv (fun (u : Nat × (Nat → Nat)) => RelC (va_up cnum q 0) cch cway cval (va_up cs q []) ∧ RelL u.1 u.2 (outL line q)) (fun u t => va_P G vwCl [(a_dk, .inr (3, [.ref a_ch, .ref a_cs, .ref a_ln, .ref a_ss, .ref a_rr, .ref a_wn, .ref a_cd, .int mt, .int ft])), (a_ss, .inl (cI, 16, .inl (fun j => nI ((va_up st q 0) j)))), (a_cd, .inl (cI, 16, .inl (cdE st cd q i))), (a_cs, .inr (0, [.ref a_cn, .ref a_cc, .ref a_cw, .ref a_cv])), (a_cn, .inl (cI, 16, .inl (fun j => nI ((va_up cnum q 0) j)))), (a_ln, .inr (2, [.ref a_mm, .int (nI u.1)])), (a_mm, .inl (cI, 16, .inl (fun j => nI (u.2 j))))] t.heap) (va_A [(a_dk, .inr (3, [.ref a_ch, .ref a_cs, .ref a_ln, .ref a_ss, .ref a_rr, .ref a_wn, .ref a_cd, .int mt, .int ft])), (a_ss, .inl (cI, 16, .inl (fun j => nI (st j)))), (a_cd, .inl (cI, 16, .inl cd)), (a_cs, .inr (0, [.ref a_cn, .ref a_cc, .ref a_cw, .ref a_cv])), (a_cn, .inl (cI, 16, .inl (fun j => nI (cnum j)))), (a_ln, .inr (2, [.ref a_mm, .int (nI len)])), (a_mm, .inl (cI, 16, .inl (fun j => nI (mem j))))] sz)) 0 0 (va_A [(a_dk, .inr (3, [.ref a_ch, .ref a_cs, .ref a_ln, .ref a_ss, .ref a_rr, .ref a_wn, .ref a_cd, .int mt, .int ft])), (a_ss, .inl (cI, 16, .inl (fun j => nI (st j)))), (a_cd, .inl (cI, 16, .inl cd)), (a_cs, .inr (0, [.ref a_cn, .ref a_cc, .ref a_cw, .ref a_cv])), (a_cn, .inl (cI, 16, .inl (fun j => nI (cnum j)))), (a_ln, .inr (2, [.ref a_mm, .int (nI len)])), (a_mm, .inl (cI, 16, .inl (fun j => nI (mem j))))] sz) := by
  refine Met.ofW (cc := b_Dk_endWait) (maxL := 3) (ret := none) (by decide) rfl ?_
  intro p e s m args below meth c s₁ B hml hv
  obtain ⟨rfl, hsz, hP, hK, hD0⟩ := hv
  have hx := B.exec
  have hb := B.bytes
  have hr := B.returns
  have hts : ∀ w ∈ TT, w.before _ s = true := fun w h => atoms_spec (ws := (w_Dk_endWait)) B.pre w (List.mem_cons_of_mem _ h)
  have hown : s.vm.findClass R_Dk = some m.cls := findClass_of_methodNamed B.named
  have hlocks := B.notSynchronized
  subst hsz
  have hD := hD0.self (sz := s.heap.size)
  generalize hAe : va_A [(a_dk, .inr (3, [.ref a_ch, .ref a_cs, .ref a_ln, .ref a_ss, .ref a_rr, .ref a_wn, .ref a_cd, .int mt, .int ft])), (a_ss, .inl (cI, 16, .inl (fun j => nI (st j)))), (a_cd, .inl (cI, 16, .inl cd)), (a_cs, .inr (0, [.ref a_cn, .ref a_cc, .ref a_cw, .ref a_cv])), (a_cn, .inl (cI, 16, .inl (fun j => nI (cnum j)))), (a_ln, .inr (2, [.ref a_mm, .int (nI len)])), (a_mm, .inl (cI, 16, .inl (fun j => nI (mem j))))] s.heap.size = A at hD ⊢
  have hA : ∀ q : Nat, s.heap.size ≤ q → A q := fun q h => by rw [← hAe]; exact Or.inr h
  have hS : va_S A s.heap s.heap [] := va_S.rf
  have hP : va_P G vwCl [(a_dk, .inr (3, [.ref a_ch, .ref a_cs, .ref a_ln, .ref a_ss, .ref a_rr, .ref a_wn, .ref a_cd, .int mt, .int ft])), (a_ss, .inl (cI, 16, .inl (fun j => nI (st j)))), (a_cd, .inl (cI, 16, .inl cd)), (a_cs, .inr (0, [.ref a_cn, .ref a_cc, .ref a_cw, .ref a_cv])), (a_cn, .inl (cI, 16, .inl (fun j => nI (cnum j)))), (a_ln, .inr (2, [.ref a_mm, .int (nI len)])), (a_mm, .inl (cI, 16, .inl (fun j => nI (mem j))))] s.heap := hP
  have hl := lv_entry ([.ref a_dk, .int (nI (q * 6 + i))]) (n := 3) (Nat.le_of_ble_eq_true rfl)
  rw [lg_entry_eq]
  generalize (lg_sl ([.ref a_dk, .int (nI (q * 6 + i))]) ++ List.replicate (3 - (lg_sl ([.ref a_dk, .int (nI (q * 6 + i))])).length) Slot.unset).toArray = ls at hl ⊢
  have hl : lv_has ls 3 [(0, .ref a_dk), (1, .int (nI (q * 6 + i)))] := hl
  have hs := hst q hq
  refine lv_iload_n hx hb d_Dk_endWait_0 rfl (lv_at hl 1 rfl) ?_
  refine k_ro (va_runS (As := [.int (nI (q * 6 + i))]) (rest := []) ⟨hx, hb, hml, hown, hts⟩ (c_Cs_routineAt l G cI cZ cJ (q * 6 + i) (by omega)) (va_cwS 1 hts (gS t_186 t_187 t_34 t_188) rfl rfl rfl (by decide +kernel) ⟨Nat.le_of_ble_eq_true rfl, Nat.le_of_ble_eq_true rfl⟩) (kR_S hK hP [] rfl) rfl rfl hl.1 rfl (lv_room (Nat.le_of_ble_eq_true rfl)) d_Dk_endWait_1 ⟨Nat.le_of_ble_eq_true rfl, Nat.le_of_ble_eq_true rfl⟩) ?_
  refine k_top (y := (nI q)) (congrArg nI (by omega)) ?_
  refine lv_istore_n (lv' := [(2, .int (nI q)), (0, .ref a_dk), (1, .int (nI (q * 6 + i)))]) hx hb d_Dk_endWait_4 rfl hl (by decide) rfl (fun ls hl => ?_)
  refine lv_aload_n hx hb d_Dk_endWait_5 rfl (lv_at hl 1 rfl) ?_
  refine va_get (D := G) (ci := 3) (v := .ref a_ss) (C := R_Dk) (T := T_Dk) (N := 9) hx hb hts uw_Dk hown hK hP 0 rfl rfl 3 (by decide) (hts _ t_108) (fun _ h9 => h9) rfl d_Dk_endWait_6 ?_
  refine lv_iload_n hx hb d_Dk_endWait_9 rfl (lv_at hl 0 rfl) ?_
  refine k_iald hx hb hK hP 1 0 rfl rfl (by omega) (by decide) d_Dk_endWait_10 ?_
  refine lv_iconst (v := (nI 3)) hx hb d_Dk_endWait_11 (by decide +kernel) ?_
  refine n_icmp_ne (tgt := 25) hx hb d_Dk_endWait_12 (by decide) (by omega) (by decide) (fun c_a => ?_) (fun c_a => ?_)
  · refine lv_aload_n hx hb d_Dk_endWait_25 rfl (lv_at hl 1 rfl) ?_
    refine va_get (D := G) (ci := 3) (v := .ref a_ln) (C := R_Dk) (T := T_Dk) (N := 9) hx hb hts uw_Dk hown hK hP 0 rfl rfl 2 (by decide) (hts _ t_107) (fun _ h9 => h9) rfl d_Dk_endWait_26 ?_
    refine lv_iload_n hx hb d_Dk_endWait_29 rfl (lv_at hl 0 rfl) ?_
    refine k_rwv (va_runV (As := [.int (nI q)]) (rest := []) ⟨hx, hb, hml, hown, hts⟩ (c_Ln_leave l G cI cZ cJ s.heap.size a_ln a_mm len mem line q hq hL) (cwV 1 hts (gV t_192 t_193 t_194 t_35 t_195) rfl rfl rfl (by decide +kernel) ⟨Nat.le_of_ble_eq_true rfl, Nat.le_of_ble_eq_true rfl⟩) (kW_V (ci := 2) (q0 := 5) hK hP hD rfl rfl [5, 6] rfl (by decide) rfl) rfl rfl hl.1 rfl (lv_room (Nat.le_of_ble_eq_true rfl)) d_Dk_endWait_30 ⟨Nat.le_of_ble_eq_true rfl, Nat.le_of_ble_eq_true rfl⟩) hP hD hS hA [5, 6] rfl (fun _ => rfl) (fun u H locs hw hP hD hS => ?_)
    obtain ⟨len_2, mem_2⟩ := u
    have hL := hw
    have hL : RelL len_2 mem_2 (outL line q) := hL
    have hP : va_P G vwCl [(a_dk, .inr (3, [.ref a_ch, .ref a_cs, .ref a_ln, .ref a_ss, .ref a_rr, .ref a_wn, .ref a_cd, .int mt, .int ft])), (a_ss, .inl (cI, 16, .inl (fun j => nI (st j)))), (a_cd, .inl (cI, 16, .inl cd)), (a_cs, .inr (0, [.ref a_cn, .ref a_cc, .ref a_cw, .ref a_cv])), (a_cn, .inl (cI, 16, .inl (fun j => nI (cnum j)))), (a_ln, .inr (2, [.ref a_mm, .int (nI len_2)])), (a_mm, .inl (cI, 16, .inl (fun j => nI (mem_2 j))))] H := hP
    have hD : va_D A [(a_dk, .inr (3, [.ref a_ch, .ref a_cs, .ref a_ln, .ref a_ss, .ref a_rr, .ref a_wn, .ref a_cd, .int mt, .int ft])), (a_ss, .inl (cI, 16, .inl (fun j => nI (st j)))), (a_cd, .inl (cI, 16, .inl cd)), (a_cs, .inr (0, [.ref a_cn, .ref a_cc, .ref a_cw, .ref a_cv])), (a_cn, .inl (cI, 16, .inl (fun j => nI (cnum j)))), (a_ln, .inr (2, [.ref a_mm, .int (nI len_2)])), (a_mm, .inl (cI, 16, .inl (fun j => nI (mem_2 j))))] := hD
    refine lv_aload_n hx hb d_Dk_endWait_33 rfl (lv_at hl 1 rfl) ?_
    refine lv_iload_n hx hb d_Dk_endWait_34 rfl (lv_at hl 0 rfl) ?_
    refine k_rwv (va_runV (As := [.int (nI q)]) (rest := []) ⟨hx, hb, hml, hown, hts⟩ (c_Dk_makeReady l G cI cZ cJ H.size a_dk a_ch a_cs a_ln a_ss a_rr a_wn a_cd a_cn a_cc a_cw a_cv mt ft st cnum cch cway cval cs q hq hC) (cwV 1 hts (gV t_145 t_146 t_2 t_32 t_147) rfl rfl rfl (by decide +kernel) ⟨Nat.le_of_ble_eq_true rfl, Nat.le_of_ble_eq_true rfl⟩) (kW_V (ci := 3) (q0 := 0) hK hP hD rfl rfl [0, 1, 3, 4] rfl (by decide) rfl) rfl rfl hl.1 rfl (lv_room (Nat.le_of_ble_eq_true rfl)) d_Dk_endWait_35 ⟨Nat.le_of_ble_eq_true rfl, Nat.le_of_ble_eq_true rfl⟩) hP hD hS hA [0, 1, 3, 4] rfl (fun _ => rfl) (fun u H locs hw hP hD hS => ?_)
    have hC := hw
    have hC : RelC (va_up cnum q 0) cch cway cval (va_up cs q []) := hC
    have hP : va_P G vwCl [(a_dk, .inr (3, [.ref a_ch, .ref a_cs, .ref a_ln, .ref a_ss, .ref a_rr, .ref a_wn, .ref a_cd, .int mt, .int ft])), (a_ss, .inl (cI, 16, .inl (fun j => nI ((va_up st q 0) j)))), (a_cd, .inl (cI, 16, .inl cd)), (a_cs, .inr (0, [.ref a_cn, .ref a_cc, .ref a_cw, .ref a_cv])), (a_cn, .inl (cI, 16, .inl (fun j => nI ((va_up cnum q 0) j)))), (a_ln, .inr (2, [.ref a_mm, .int (nI len_2)])), (a_mm, .inl (cI, 16, .inl (fun j => nI (mem_2 j))))] H := hP
    have hD : va_D A [(a_dk, .inr (3, [.ref a_ch, .ref a_cs, .ref a_ln, .ref a_ss, .ref a_rr, .ref a_wn, .ref a_cd, .int mt, .int ft])), (a_ss, .inl (cI, 16, .inl (fun j => nI ((va_up st q 0) j)))), (a_cd, .inl (cI, 16, .inl cd)), (a_cs, .inr (0, [.ref a_cn, .ref a_cc, .ref a_cw, .ref a_cv])), (a_cn, .inl (cI, 16, .inl (fun j => nI ((va_up cnum q 0) j)))), (a_ln, .inr (2, [.ref a_mm, .int (nI len_2)])), (a_mm, .inl (cI, 16, .inl (fun j => nI (mem_2 j))))] := hD
    exact k_wv hx hb hr hlocks hP hS (len_2, mem_2) (by simp only [cdE, if_neg c_a]) (⟨hC, hL⟩) d_Dk_endWait_38
  · refine lv_aload_n hx hb d_Dk_endWait_15 rfl (lv_at hl 1 rfl) ?_
    refine va_get (D := G) (ci := 3) (v := .ref a_cd) (C := R_Dk) (T := T_Dk) (N := 9) hx hb hts uw_Dk hown hK hP 0 rfl rfl 6 (by decide) (hts _ t_111) (fun _ h9 => h9) rfl d_Dk_endWait_16 ?_
    refine lv_iload_n hx hb d_Dk_endWait_19 rfl (lv_at hl 0 rfl) ?_
    refine lv_iload_n hx hb d_Dk_endWait_20 rfl (lv_at hl 2 rfl) ?_
    refine k_ro (va_runS (As := [.int (nI (q * 6 + i))]) (rest := [.int (nI q), .ref a_cd]) ⟨hx, hb, hml, hown, hts⟩ (c_Cs_numberAt l G cI cZ cJ (q * 6 + i) (by omega)) (va_cwS 1 hts (gS t_189 t_190 t_34 t_191) rfl rfl rfl (by decide +kernel) ⟨Nat.le_of_ble_eq_true rfl, Nat.le_of_ble_eq_true rfl⟩) (kR_S hK hP [] rfl) rfl rfl hl.1 rfl (lv_room (Nat.le_of_ble_eq_true rfl)) d_Dk_endWait_21 ⟨Nat.le_of_ble_eq_true rfl, Nat.le_of_ble_eq_true rfl⟩) ?_
    refine k_top (y := (nI i)) (congrArg nI (by omega)) ?_
    refine k_iast hx hb hK hP hD hS 2 0 rfl rfl (by omega) (by decide) d_Dk_endWait_24 (fun H locs hP hD hS => ?_)
    have hP : va_P G vwCl [(a_dk, .inr (3, [.ref a_ch, .ref a_cs, .ref a_ln, .ref a_ss, .ref a_rr, .ref a_wn, .ref a_cd, .int mt, .int ft])), (a_ss, .inl (cI, 16, .inl (fun j => nI (st j)))), (a_cd, .inl (cI, 16, .inl (va_up cd q (nI i)))), (a_cs, .inr (0, [.ref a_cn, .ref a_cc, .ref a_cw, .ref a_cv])), (a_cn, .inl (cI, 16, .inl (fun j => nI (cnum j)))), (a_ln, .inr (2, [.ref a_mm, .int (nI len)])), (a_mm, .inl (cI, 16, .inl (fun j => nI (mem j))))] H := hP
    have hD : va_D A [(a_dk, .inr (3, [.ref a_ch, .ref a_cs, .ref a_ln, .ref a_ss, .ref a_rr, .ref a_wn, .ref a_cd, .int mt, .int ft])), (a_ss, .inl (cI, 16, .inl (fun j => nI (st j)))), (a_cd, .inl (cI, 16, .inl (va_up cd q (nI i)))), (a_cs, .inr (0, [.ref a_cn, .ref a_cc, .ref a_cw, .ref a_cv])), (a_cn, .inl (cI, 16, .inl (fun j => nI (cnum j)))), (a_ln, .inr (2, [.ref a_mm, .int (nI len)])), (a_mm, .inl (cI, 16, .inl (fun j => nI (mem j))))] := hD
    refine lv_aload_n hx hb d_Dk_endWait_25 rfl (lv_at hl 1 rfl) ?_
    refine va_get (D := G) (ci := 3) (v := .ref a_ln) (C := R_Dk) (T := T_Dk) (N := 9) hx hb hts uw_Dk hown hK hP 0 rfl rfl 2 (by decide) (hts _ t_107) (fun _ h9 => h9) rfl d_Dk_endWait_26 ?_
    refine lv_iload_n hx hb d_Dk_endWait_29 rfl (lv_at hl 0 rfl) ?_
    refine k_rwv (va_runV (As := [.int (nI q)]) (rest := []) ⟨hx, hb, hml, hown, hts⟩ (c_Ln_leave l G cI cZ cJ H.size a_ln a_mm len mem line q hq hL) (cwV 1 hts (gV t_192 t_193 t_194 t_35 t_195) rfl rfl rfl (by decide +kernel) ⟨Nat.le_of_ble_eq_true rfl, Nat.le_of_ble_eq_true rfl⟩) (kW_V (ci := 2) (q0 := 5) hK hP hD rfl rfl [5, 6] rfl (by decide) rfl) rfl rfl hl.1 rfl (lv_room (Nat.le_of_ble_eq_true rfl)) d_Dk_endWait_30 ⟨Nat.le_of_ble_eq_true rfl, Nat.le_of_ble_eq_true rfl⟩) hP hD hS hA [5, 6] rfl (fun _ => rfl) (fun u H locs hw hP hD hS => ?_)
    obtain ⟨len_4, mem_4⟩ := u
    have hL := hw
    have hL : RelL len_4 mem_4 (outL line q) := hL
    have hP : va_P G vwCl [(a_dk, .inr (3, [.ref a_ch, .ref a_cs, .ref a_ln, .ref a_ss, .ref a_rr, .ref a_wn, .ref a_cd, .int mt, .int ft])), (a_ss, .inl (cI, 16, .inl (fun j => nI (st j)))), (a_cd, .inl (cI, 16, .inl (va_up cd q (nI i)))), (a_cs, .inr (0, [.ref a_cn, .ref a_cc, .ref a_cw, .ref a_cv])), (a_cn, .inl (cI, 16, .inl (fun j => nI (cnum j)))), (a_ln, .inr (2, [.ref a_mm, .int (nI len_4)])), (a_mm, .inl (cI, 16, .inl (fun j => nI (mem_4 j))))] H := hP
    have hD : va_D A [(a_dk, .inr (3, [.ref a_ch, .ref a_cs, .ref a_ln, .ref a_ss, .ref a_rr, .ref a_wn, .ref a_cd, .int mt, .int ft])), (a_ss, .inl (cI, 16, .inl (fun j => nI (st j)))), (a_cd, .inl (cI, 16, .inl (va_up cd q (nI i)))), (a_cs, .inr (0, [.ref a_cn, .ref a_cc, .ref a_cw, .ref a_cv])), (a_cn, .inl (cI, 16, .inl (fun j => nI (cnum j)))), (a_ln, .inr (2, [.ref a_mm, .int (nI len_4)])), (a_mm, .inl (cI, 16, .inl (fun j => nI (mem_4 j))))] := hD
    refine lv_aload_n hx hb d_Dk_endWait_33 rfl (lv_at hl 1 rfl) ?_
    refine lv_iload_n hx hb d_Dk_endWait_34 rfl (lv_at hl 0 rfl) ?_
    refine k_rwv (va_runV (As := [.int (nI q)]) (rest := []) ⟨hx, hb, hml, hown, hts⟩ (c_Dk_makeReady l G cI cZ cJ H.size a_dk a_ch a_cs a_ln a_ss a_rr a_wn a_cd a_cn a_cc a_cw a_cv mt ft st cnum cch cway cval cs q hq hC) (cwV 1 hts (gV t_145 t_146 t_2 t_32 t_147) rfl rfl rfl (by decide +kernel) ⟨Nat.le_of_ble_eq_true rfl, Nat.le_of_ble_eq_true rfl⟩) (kW_V (ci := 3) (q0 := 0) hK hP hD rfl rfl [0, 1, 3, 4] rfl (by decide) rfl) rfl rfl hl.1 rfl (lv_room (Nat.le_of_ble_eq_true rfl)) d_Dk_endWait_35 ⟨Nat.le_of_ble_eq_true rfl, Nat.le_of_ble_eq_true rfl⟩) hP hD hS hA [0, 1, 3, 4] rfl (fun _ => rfl) (fun u H locs hw hP hD hS => ?_)
    have hC := hw
    have hC : RelC (va_up cnum q 0) cch cway cval (va_up cs q []) := hC
    have hP : va_P G vwCl [(a_dk, .inr (3, [.ref a_ch, .ref a_cs, .ref a_ln, .ref a_ss, .ref a_rr, .ref a_wn, .ref a_cd, .int mt, .int ft])), (a_ss, .inl (cI, 16, .inl (fun j => nI ((va_up st q 0) j)))), (a_cd, .inl (cI, 16, .inl (va_up cd q (nI i)))), (a_cs, .inr (0, [.ref a_cn, .ref a_cc, .ref a_cw, .ref a_cv])), (a_cn, .inl (cI, 16, .inl (fun j => nI ((va_up cnum q 0) j)))), (a_ln, .inr (2, [.ref a_mm, .int (nI len_4)])), (a_mm, .inl (cI, 16, .inl (fun j => nI (mem_4 j))))] H := hP
    have hD : va_D A [(a_dk, .inr (3, [.ref a_ch, .ref a_cs, .ref a_ln, .ref a_ss, .ref a_rr, .ref a_wn, .ref a_cd, .int mt, .int ft])), (a_ss, .inl (cI, 16, .inl (fun j => nI ((va_up st q 0) j)))), (a_cd, .inl (cI, 16, .inl (va_up cd q (nI i)))), (a_cs, .inr (0, [.ref a_cn, .ref a_cc, .ref a_cw, .ref a_cv])), (a_cn, .inl (cI, 16, .inl (fun j => nI ((va_up cnum q 0) j)))), (a_ln, .inr (2, [.ref a_mm, .int (nI len_4)])), (a_mm, .inl (cI, 16, .inl (fun j => nI (mem_4 j))))] := hD
    exact k_wv hx hb hr hlocks hP hS (len_4, mem_4) (by simp only [cdE, if_pos c_a]) (⟨hC, hL⟩) d_Dk_endWait_38
set_option maxHeartbeats 4000000 in
set_option maxRecDepth 100000 in
theorem c_Dk_takeFromSender (l : Launch) (G : va_G) (cI cZ cJ : ClassId) (sz : Nat) (a_dk : Nat) (a_ch : Nat) (a_cs : Nat) (a_ln : Nat) (a_ss : Nat) (a_rr : Nat) (a_wn : Nat) (a_cd : Nat) (a_cn : Nat) (a_cc : Nat) (a_cw : Nat) (a_cv : Nat) (a_mm : Nat) (mt : Int32) (ft : Int32) (st : Nat → Nat) (cd : Nat → Int32) (cnum : Nat → Nat) (cval : Nat → Int32) (len : Nat) (mem : Nat → Nat) (cch : Nat → Nat) (cway : Nat → Nat) (cs : Nat → List Kase) (line : List Nat) (q : Nat) (i : Nat) (hq : q < 16) (hi : i < (cs q).length) (hst : ∀ j, j < 16 → st j < 5) (hC : RelC cnum cch cway cval cs) (hL : RelL len mem line) : Met l y_Dk_takeFromSender (w_Dk_takeFromSender) ({ frames := 3, cells := 0, slots := 0, locals := 64 }) (va_Pc [.ref a_dk, .int (nI (q * 6 + i))] (kW G vwCl [(cI, .int), (cZ, .boolean), (cJ, .long)] [(a_dk, .inr (3, [.ref a_ch, .ref a_cs, .ref a_ln, .ref a_ss, .ref a_rr, .ref a_wn, .ref a_cd, .int mt, .int ft])), (a_ss, .inl (cI, 16, .inl (fun j => nI (st j)))), (a_cd, .inl (cI, 16, .inl cd)), (a_cs, .inr (0, [.ref a_cn, .ref a_cc, .ref a_cw, .ref a_cv])), (a_cn, .inl (cI, 16, .inl (fun j => nI (cnum j)))), (a_cv, .inl (cI, 96, .inl cval)), (a_ln, .inr (2, [.ref a_mm, .int (nI len)])), (a_mm, .inl (cI, 16, .inl (fun j => nI (mem j))))] sz)) (va_Qi (fun (r : Int32) (u : Nat × (Nat → Nat)) => r = ((kAt cs q i).2.2) ∧ RelC (va_up cnum q 0) cch cway cval (va_up cs q []) ∧ RelL u.1 u.2 (outL line q)) (fun u t => va_P G vwCl [(a_dk, .inr (3, [.ref a_ch, .ref a_cs, .ref a_ln, .ref a_ss, .ref a_rr, .ref a_wn, .ref a_cd, .int (mt + nI 1), .int ft])), (a_ss, .inl (cI, 16, .inl (fun j => nI ((va_up st q 0) j)))), (a_cd, .inl (cI, 16, .inl (cdE st cd q i))), (a_cs, .inr (0, [.ref a_cn, .ref a_cc, .ref a_cw, .ref a_cv])), (a_cn, .inl (cI, 16, .inl (fun j => nI ((va_up cnum q 0) j)))), (a_cv, .inl (cI, 96, .inl cval)), (a_ln, .inr (2, [.ref a_mm, .int (nI u.1)])), (a_mm, .inl (cI, 16, .inl (fun j => nI (u.2 j))))] t.heap) (va_A [(a_dk, .inr (3, [.ref a_ch, .ref a_cs, .ref a_ln, .ref a_ss, .ref a_rr, .ref a_wn, .ref a_cd, .int mt, .int ft])), (a_ss, .inl (cI, 16, .inl (fun j => nI (st j)))), (a_cd, .inl (cI, 16, .inl cd)), (a_cs, .inr (0, [.ref a_cn, .ref a_cc, .ref a_cw, .ref a_cv])), (a_cn, .inl (cI, 16, .inl (fun j => nI (cnum j)))), (a_cv, .inl (cI, 96, .inl cval)), (a_ln, .inr (2, [.ref a_mm, .int (nI len)])), (a_mm, .inl (cI, 16, .inl (fun j => nI (mem j))))] sz)) 0 0 (va_A [(a_dk, .inr (3, [.ref a_ch, .ref a_cs, .ref a_ln, .ref a_ss, .ref a_rr, .ref a_wn, .ref a_cd, .int mt, .int ft])), (a_ss, .inl (cI, 16, .inl (fun j => nI (st j)))), (a_cd, .inl (cI, 16, .inl cd)), (a_cs, .inr (0, [.ref a_cn, .ref a_cc, .ref a_cw, .ref a_cv])), (a_cn, .inl (cI, 16, .inl (fun j => nI (cnum j)))), (a_cv, .inl (cI, 96, .inl cval)), (a_ln, .inr (2, [.ref a_mm, .int (nI len)])), (a_mm, .inl (cI, 16, .inl (fun j => nI (mem j))))] sz) := by
  refine Met.ofW (cc := b_Dk_takeFromSender) (maxL := 3) (ret := (some .int)) (by decide) rfl ?_
  intro p e s m args below meth c s₁ B hml hv
  obtain ⟨rfl, hsz, hP, hK, hD0⟩ := hv
  have hx := B.exec
  have hb := B.bytes
  have hr := B.returns
  have hts : ∀ w ∈ TT, w.before _ s = true := fun w h => atoms_spec (ws := (w_Dk_takeFromSender)) B.pre w (List.mem_cons_of_mem _ h)
  have hown : s.vm.findClass R_Dk = some m.cls := findClass_of_methodNamed B.named
  have hlocks := B.notSynchronized
  subst hsz
  have hD := hD0.self (sz := s.heap.size)
  generalize hAe : va_A [(a_dk, .inr (3, [.ref a_ch, .ref a_cs, .ref a_ln, .ref a_ss, .ref a_rr, .ref a_wn, .ref a_cd, .int mt, .int ft])), (a_ss, .inl (cI, 16, .inl (fun j => nI (st j)))), (a_cd, .inl (cI, 16, .inl cd)), (a_cs, .inr (0, [.ref a_cn, .ref a_cc, .ref a_cw, .ref a_cv])), (a_cn, .inl (cI, 16, .inl (fun j => nI (cnum j)))), (a_cv, .inl (cI, 96, .inl cval)), (a_ln, .inr (2, [.ref a_mm, .int (nI len)])), (a_mm, .inl (cI, 16, .inl (fun j => nI (mem j))))] s.heap.size = A at hD ⊢
  have hA : ∀ q : Nat, s.heap.size ≤ q → A q := fun q h => by rw [← hAe]; exact Or.inr h
  have hS : va_S A s.heap s.heap [] := va_S.rf
  have hP : va_P G vwCl [(a_dk, .inr (3, [.ref a_ch, .ref a_cs, .ref a_ln, .ref a_ss, .ref a_rr, .ref a_wn, .ref a_cd, .int mt, .int ft])), (a_ss, .inl (cI, 16, .inl (fun j => nI (st j)))), (a_cd, .inl (cI, 16, .inl cd)), (a_cs, .inr (0, [.ref a_cn, .ref a_cc, .ref a_cw, .ref a_cv])), (a_cn, .inl (cI, 16, .inl (fun j => nI (cnum j)))), (a_cv, .inl (cI, 96, .inl cval)), (a_ln, .inr (2, [.ref a_mm, .int (nI len)])), (a_mm, .inl (cI, 16, .inl (fun j => nI (mem j))))] s.heap := hP
  have hl := lv_entry ([.ref a_dk, .int (nI (q * 6 + i))]) (n := 3) (Nat.le_of_ble_eq_true rfl)
  rw [lg_entry_eq]
  generalize (lg_sl ([.ref a_dk, .int (nI (q * 6 + i))]) ++ List.replicate (3 - (lg_sl ([.ref a_dk, .int (nI (q * 6 + i))])).length) Slot.unset).toArray = ls at hl ⊢
  have hl : lv_has ls 3 [(0, .ref a_dk), (1, .int (nI (q * 6 + i)))] := hl
  have hh2 := (hC q hq).2.1
  refine lv_aload_n hx hb d_Dk_takeFromSender_0 rfl (lv_at hl 0 rfl) ?_
  refine va_get (D := G) (ci := 3) (v := .ref a_cs) (C := R_Dk) (T := T_Dk) (N := 9) hx hb hts uw_Dk hown hK hP 0 rfl rfl 1 (by decide) (hts _ t_106) (fun _ h9 => h9) rfl d_Dk_takeFromSender_1 ?_
  refine lv_iload_n hx hb d_Dk_takeFromSender_4 rfl (lv_at hl 1 rfl) ?_
  refine k_ro (va_runV (As := [.int (nI (q * 6 + i))]) (rest := []) ⟨hx, hb, hml, hown, hts⟩ (c_Cs_valueAt l G cI cZ cJ a_cs a_cn a_cc a_cw a_cv cval cnum cch cway cs q i hq hC hi) (cwV 1 hts (gV t_239 t_240 t_241 t_34 t_242) rfl rfl rfl (by decide +kernel) ⟨Nat.le_of_ble_eq_true rfl, Nat.le_of_ble_eq_true rfl⟩) (kR_V (ci := 0) (q0 := 3) hK hP rfl rfl [3, 5] rfl) rfl rfl hl.1 rfl (lv_room (Nat.le_of_ble_eq_true rfl)) d_Dk_takeFromSender_5 ⟨Nat.le_of_ble_eq_true rfl, Nat.le_of_ble_eq_true rfl⟩) ?_
  refine lv_istore_n (lv' := [(2, .int ((kAt cs q i).2.2)), (0, .ref a_dk), (1, .int (nI (q * 6 + i)))]) hx hb d_Dk_takeFromSender_8 rfl hl (by decide) rfl (fun ls hl => ?_)
  refine lv_aload_n hx hb d_Dk_takeFromSender_9 rfl (lv_at hl 1 rfl) ?_
  refine lv_dup hx hb d_Dk_takeFromSender_10 rfl ?_
  refine va_get (D := G) (ci := 3) (v := .int mt) (C := R_Dk) (T := T_Dk) (N := 9) hx hb hts uw_Dk hown hK hP 0 rfl rfl 7 (by decide) (hts _ t_112) (fun _ h9 => h9) rfl d_Dk_takeFromSender_11 ?_
  refine lv_iconst (v := (nI 1)) hx hb d_Dk_takeFromSender_14 (by decide +kernel) ?_
  refine lv_iadd hx hb d_Dk_takeFromSender_15 ?_
  refine va_put (D := G) (ci := 3) (v := .int (mt + (nI 1))) (ty := .int) (C := R_Dk) (T := T_Dk) (N := 9) hx hb hts uw_Dk ty_Dk tyok_Dk nm_Dk hown hK hP hD hS 0 rfl rfl 7 (by decide) (hts _ t_112) (fun _ h9 => h9) rfl (by decide +kernel) rfl rfl (Nat.le_of_ble_eq_true rfl) d_Dk_takeFromSender_16 (fun H locs hP hD hS => ?_)
  have hP : va_P G vwCl [(a_dk, .inr (3, [.ref a_ch, .ref a_cs, .ref a_ln, .ref a_ss, .ref a_rr, .ref a_wn, .ref a_cd, .int (mt + (nI 1)), .int ft])), (a_ss, .inl (cI, 16, .inl (fun j => nI (st j)))), (a_cd, .inl (cI, 16, .inl cd)), (a_cs, .inr (0, [.ref a_cn, .ref a_cc, .ref a_cw, .ref a_cv])), (a_cn, .inl (cI, 16, .inl (fun j => nI (cnum j)))), (a_cv, .inl (cI, 96, .inl cval)), (a_ln, .inr (2, [.ref a_mm, .int (nI len)])), (a_mm, .inl (cI, 16, .inl (fun j => nI (mem j))))] H := hP
  have hD : va_D A [(a_dk, .inr (3, [.ref a_ch, .ref a_cs, .ref a_ln, .ref a_ss, .ref a_rr, .ref a_wn, .ref a_cd, .int (mt + (nI 1)), .int ft])), (a_ss, .inl (cI, 16, .inl (fun j => nI (st j)))), (a_cd, .inl (cI, 16, .inl cd)), (a_cs, .inr (0, [.ref a_cn, .ref a_cc, .ref a_cw, .ref a_cv])), (a_cn, .inl (cI, 16, .inl (fun j => nI (cnum j)))), (a_cv, .inl (cI, 96, .inl cval)), (a_ln, .inr (2, [.ref a_mm, .int (nI len)])), (a_mm, .inl (cI, 16, .inl (fun j => nI (mem j))))] := hD
  refine lv_aload_n hx hb d_Dk_takeFromSender_19 rfl (lv_at hl 1 rfl) ?_
  refine lv_iload_n hx hb d_Dk_takeFromSender_20 rfl (lv_at hl 2 rfl) ?_
  refine k_rwv (va_runV (As := [.int (nI (q * 6 + i))]) (rest := []) ⟨hx, hb, hml, hown, hts⟩ (c_Dk_endWait l G cI cZ cJ H.size a_dk a_ch a_cs a_ln a_ss a_rr a_wn a_cd a_cn a_cc a_cw a_cv a_mm (mt + (nI 1)) ft st cd cnum len mem cch cway cval cs line q i hq (by omega) hst hC hL) (cwV 1 hts (gV t_183 t_184 t_7 t_32 t_185) rfl rfl rfl (by decide +kernel) ⟨Nat.le_of_ble_eq_true rfl, Nat.le_of_ble_eq_true rfl⟩) (kW_V (ci := 3) (q0 := 0) hK hP hD rfl rfl [0, 1, 2, 3, 4, 6, 7] rfl (by decide) rfl) rfl rfl hl.1 rfl (lv_room (Nat.le_of_ble_eq_true rfl)) d_Dk_takeFromSender_21 ⟨Nat.le_of_ble_eq_true rfl, Nat.le_of_ble_eq_true rfl⟩) hP hD hS hA [0, 1, 2, 3, 4, 6, 7] rfl (fun _ => rfl) (fun u H locs hw hP hD hS => ?_)
  obtain ⟨len_1, mem_1⟩ := u
  obtain ⟨hC, hL⟩ := hw
  have hC : RelC (va_up cnum q 0) cch cway cval (va_up cs q []) := hC
  have hL : RelL len_1 mem_1 (outL line q) := hL
  have hP : va_P G vwCl [(a_dk, .inr (3, [.ref a_ch, .ref a_cs, .ref a_ln, .ref a_ss, .ref a_rr, .ref a_wn, .ref a_cd, .int (mt + (nI 1)), .int ft])), (a_ss, .inl (cI, 16, .inl (fun j => nI ((va_up st q 0) j)))), (a_cd, .inl (cI, 16, .inl (cdE st cd q i))), (a_cs, .inr (0, [.ref a_cn, .ref a_cc, .ref a_cw, .ref a_cv])), (a_cn, .inl (cI, 16, .inl (fun j => nI ((va_up cnum q 0) j)))), (a_cv, .inl (cI, 96, .inl cval)), (a_ln, .inr (2, [.ref a_mm, .int (nI len_1)])), (a_mm, .inl (cI, 16, .inl (fun j => nI (mem_1 j))))] H := hP
  have hD : va_D A [(a_dk, .inr (3, [.ref a_ch, .ref a_cs, .ref a_ln, .ref a_ss, .ref a_rr, .ref a_wn, .ref a_cd, .int (mt + (nI 1)), .int ft])), (a_ss, .inl (cI, 16, .inl (fun j => nI ((va_up st q 0) j)))), (a_cd, .inl (cI, 16, .inl (cdE st cd q i))), (a_cs, .inr (0, [.ref a_cn, .ref a_cc, .ref a_cw, .ref a_cv])), (a_cn, .inl (cI, 16, .inl (fun j => nI ((va_up cnum q 0) j)))), (a_cv, .inl (cI, 96, .inl cval)), (a_ln, .inr (2, [.ref a_mm, .int (nI len_1)])), (a_mm, .inl (cI, 16, .inl (fun j => nI (mem_1 j))))] := hD
  refine lv_iload_n hx hb d_Dk_takeFromSender_24 rfl (lv_at hl 0 rfl) ?_
  exact k_wi hx hb hr hlocks hP hS (len_1, mem_1) (rfl) (⟨rfl, hC, hL⟩) d_Dk_takeFromSender_25
set_option maxHeartbeats 4000000 in
set_option maxRecDepth 100000 in
theorem c_Dk_findWaiting (l : Launch) (G : va_G) (cI cZ cJ : ClassId) (a_dk : Nat) (a_ch : Nat) (a_cs : Nat) (a_ln : Nat) (a_ss : Nat) (a_rr : Nat) (a_wn : Nat) (a_cd : Nat) (a_mm : Nat) (a_cn : Nat) (a_cc : Nat) (a_cw : Nat) (a_cv : Nat) (mt : Int32) (ft : Int32) (len : Nat) (mem : Nat → Nat) (cnum : Nat → Nat) (cch : Nat → Nat) (cway : Nat → Nat) (cval : Nat → Int32) (cs : Nat → List Kase) (line : List Nat) (x : Nat) (w : Nat) (y : Int32) (hx1 : x < 40) (hw1 : w < 3) (hC : RelC cnum cch cway cval cs) (hL : RelL len mem line) : Met l y_Dk_findWaiting (w_Dk_findWaiting) ({ frames := 2, cells := 0, slots := 0, locals := 46 }) (va_Pc [.ref a_dk, .int (nI x), .int (nI w), .int y] (kR G vwCl [(cI, .int), (cZ, .boolean), (cJ, .long)] [(a_dk, .inr (3, [.ref a_ch, .ref a_cs, .ref a_ln, .ref a_ss, .ref a_rr, .ref a_wn, .ref a_cd, .int mt, .int ft])), (a_ln, .inr (2, [.ref a_mm, .int (nI len)])), (a_mm, .inl (cI, 16, .inl (fun j => nI (mem j)))), (a_cs, .inr (0, [.ref a_cn, .ref a_cc, .ref a_cw, .ref a_cv])), (a_cn, .inl (cI, 16, .inl (fun j => nI (cnum j)))), (a_cc, .inl (cI, 96, .inl (fun j => nI (cch j)))), (a_cw, .inl (cI, 96, .inl (fun j => nI (cway j))))])) (QcRead ((slI (wlAt (wl cs line x w) y)))) 0 0 (fun _ => False) := by
  refine Met.ofW (cc := b_Dk_findWaiting) (maxL := 7) (ret := (some .int)) (by decide) rfl ?_
  intro p e s m args below meth c s₁ B hml hv
  obtain ⟨rfl, hP, hK⟩ := hv
  have hx := B.exec
  have hb := B.bytes
  have hr := B.returns
  have hts : ∀ w ∈ TT, w.before _ s = true := fun w h => atoms_spec (ws := (w_Dk_findWaiting)) B.pre w (List.mem_cons_of_mem _ h)
  have hown : s.vm.findClass R_Dk = some m.cls := findClass_of_methodNamed B.named
  have hlocks := B.notSynchronized
  have hP : va_P G vwCl [(a_dk, .inr (3, [.ref a_ch, .ref a_cs, .ref a_ln, .ref a_ss, .ref a_rr, .ref a_wn, .ref a_cd, .int mt, .int ft])), (a_ln, .inr (2, [.ref a_mm, .int (nI len)])), (a_mm, .inl (cI, 16, .inl (fun j => nI (mem j)))), (a_cs, .inr (0, [.ref a_cn, .ref a_cc, .ref a_cw, .ref a_cv])), (a_cn, .inl (cI, 16, .inl (fun j => nI (cnum j)))), (a_cc, .inl (cI, 96, .inl (fun j => nI (cch j)))), (a_cw, .inl (cI, 96, .inl (fun j => nI (cway j))))] s.heap := hP
  have hl := lv_entry ([.ref a_dk, .int (nI x), .int (nI w), .int y]) (n := 7) (Nat.le_of_ble_eq_true rfl)
  rw [lg_entry_eq]
  generalize (lg_sl ([.ref a_dk, .int (nI x), .int (nI w), .int y]) ++ List.replicate (7 - (lg_sl ([.ref a_dk, .int (nI x), .int (nI w), .int y])).length) Slot.unset).toArray = ls at hl ⊢
  have hl : lv_has ls 7 [(0, .ref a_dk), (1, .int (nI x)), (2, .int (nI w)), (3, .int y)] := hl
  obtain ⟨hh, hh2, hh3⟩ := id hL
  refine lv_iconst (v := (nI 0)) hx hb d_Dk_findWaiting_0 (by decide +kernel) ?_
  refine lv_istore (lv' := [(4, .int (nI 0)), (0, .ref a_dk), (1, .int (nI x)), (2, .int (nI w)), (3, .int y)]) hx hb d_Dk_findWaiting_1 hl (by decide) rfl (fun ls hl => ?_)
  refine lv_iconst (v := (nI 0)) hx hb d_Dk_findWaiting_3 (by decide +kernel) ?_
  refine lv_istore (lv' := [(5, .int (nI 0)), (4, .int (nI 0)), (0, .ref a_dk), (1, .int (nI x)), (2, .int (nI w)), (3, .int y)]) hx hb d_Dk_findWaiting_4 hl (by decide) rfl (fun ls hl => ?_)
  have loop_6 : ∀ (k : Nat) (bf : Nat) (i : Nat) (ls : Array Slot), i ≤ line.length → bf = (wl cs (line.take i) x w).length → (∀ j, j < bf → ¬ nI j = y) → line.length - i < k → lv_has ls 7 [(0, .ref a_dk), (1, .int (nI x)), (2, .int (nI w)), (3, .int y), (4, .int (nI bf)), (5, .int (nI i))] → W p l e (headSpec (w_Dk_findWaiting) ({ frames := 2, cells := 0, slots := 0, locals := 46 })).room s m (List.toArray [.ref a_dk, .int (nI x), .int (nI w), .int y]) below meth c s.heap [] 0 0 (MQ below (QcRead ((slI (wlAt (wl cs line x w) y)))) (List.toArray [.ref a_dk, .int (nI x), .int (nI w), .int y]) s 0 0 (fun _ => False)) (F0 m 6 ls []) := by
    intro k
    induction k with
    | zero => intro bf i ls hi hb9 hno hk; exact absurd hk (Nat.not_lt_zero _)
    | succ k ih_6 =>
      intro bf i ls hi hb9 hno hk hl
      have hbl : bf ≤ 16 := by rw [hb9]; exact Nat.le_trans wl_len (by rw [List.length_take]; omega)
      refine lv_iload hx hb d_Dk_findWaiting_6 (lv_at hl 5 rfl) ?_
      refine lv_aload_n hx hb d_Dk_findWaiting_8 rfl (lv_at hl 0 rfl) ?_
      refine va_get (D := G) (ci := 3) (v := .ref a_ln) (C := R_Dk) (T := T_Dk) (N := 9) hx hb hts uw_Dk hown hK hP 0 rfl rfl 2 (by decide) (hts _ t_107) (fun _ h9 => h9) rfl d_Dk_findWaiting_9 ?_
      refine k_ro (va_runV (As := []) (rest := [.int (nI i)]) ⟨hx, hb, hml, hown, hts⟩ (c_Ln_length l G cI cZ cJ a_ln a_mm len mem line hL) (cwV 0 hts (gV t_168 t_169 t_170 t_35 t_171) rfl rfl rfl (by decide +kernel) ⟨Nat.le_of_ble_eq_true rfl, Nat.le_of_ble_eq_true rfl⟩) (kR_V (ci := 2) (q0 := 1) hK hP rfl rfl [1] rfl) rfl rfl hl.1 rfl (lv_room (Nat.le_of_ble_eq_true rfl)) d_Dk_findWaiting_12 ⟨Nat.le_of_ble_eq_true rfl, Nat.le_of_ble_eq_true rfl⟩) ?_
      refine n_icmp_ge (tgt := 62) hx hb d_Dk_findWaiting_15 (by decide) (by omega) (by omega) (fun c_a => ?_) (fun c_a => ?_)
      · refine lv_iconst (v := (-1)) hx hb d_Dk_findWaiting_62 (by decide +kernel) ?_
        exact k_ri hx hb hr hlocks (by have e9 : line.take i = line := List.take_of_length_le c_a; rw [e9] at hb9; rw [wlAt_none (by rw [← hb9]; omega) (fun j hj => hno j (by rw [hb9]; exact hj))]; rfl) d_Dk_findWaiting_63
      · have hi2 : i < line.length := by omega
        obtain ⟨q, eq9⟩ : ∃ q, q = line[i] := ⟨_, rfl⟩
        have hq : q < 16 := by rw [eq9]; exact (hh3 i hi2).2
        have hc6 := (hC q hq).2.1
        refine lv_aload_n hx hb d_Dk_findWaiting_18 rfl (lv_at hl 0 rfl) ?_
        refine va_get (D := G) (ci := 3) (v := .ref a_cs) (C := R_Dk) (T := T_Dk) (N := 9) hx hb hts uw_Dk hown hK hP 0 rfl rfl 1 (by decide) (hts _ t_106) (fun _ h9 => h9) rfl d_Dk_findWaiting_19 ?_
        refine lv_aload_n hx hb d_Dk_findWaiting_22 rfl (lv_at hl 0 rfl) ?_
        refine va_get (D := G) (ci := 3) (v := .ref a_ln) (C := R_Dk) (T := T_Dk) (N := 9) hx hb hts uw_Dk hown hK hP 0 rfl rfl 2 (by decide) (hts _ t_107) (fun _ h9 => h9) rfl d_Dk_findWaiting_23 ?_
        refine lv_iload hx hb d_Dk_findWaiting_26 (lv_at hl 5 rfl) ?_
        refine k_ro (va_runV (As := [.int (nI i)]) (rest := [.ref a_cs]) ⟨hx, hb, hml, hown, hts⟩ (c_Ln_memberAt l G cI cZ cJ a_ln a_mm len mem line i hL (by omega)) (cwV 1 hts (gV t_172 t_173 t_174 t_35 t_175) rfl rfl rfl (by decide +kernel) ⟨Nat.le_of_ble_eq_true rfl, Nat.le_of_ble_eq_true rfl⟩) (kR_V (ci := 2) (q0 := 1) hK hP rfl rfl [1, 2] rfl) rfl rfl hl.1 rfl (lv_room (Nat.le_of_ble_eq_true rfl)) d_Dk_findWaiting_28 ⟨Nat.le_of_ble_eq_true rfl, Nat.le_of_ble_eq_true rfl⟩) ?_
        refine k_top (y := (nI q)) (by rw [List.getD_eq_getElem?_getD, List.getElem?_eq_getElem hi2, eq9]; rfl) ?_
        refine lv_iload_n hx hb d_Dk_findWaiting_31 rfl (lv_at hl 1 rfl) ?_
        refine lv_iload_n hx hb d_Dk_findWaiting_32 rfl (lv_at hl 2 rfl) ?_
        refine k_ro (va_runV (As := [.int (nI q), .int (nI x), .int (nI w)]) (rest := []) ⟨hx, hb, hml, hown, hts⟩ (c_Cs_firstAt l G cI cZ cJ a_cs a_cn a_cc a_cw a_cv cnum cch cway cval cs q x w (by omega) hx1 hw1 hC) (cwV 3 hts (gV t_176 t_177 t_178 t_34 t_179) rfl rfl rfl (by decide +kernel) ⟨Nat.le_of_ble_eq_true rfl, Nat.le_of_ble_eq_true rfl⟩) (kR_V (ci := 0) (q0 := 3) hK hP rfl rfl [3, 4, 5, 6] rfl) rfl rfl hl.1 rfl (lv_room (Nat.le_of_ble_eq_true rfl)) d_Dk_findWaiting_33 ⟨Nat.le_of_ble_eq_true rfl, Nat.le_of_ble_eq_true rfl⟩) ?_
        rcases hf9 : fa (cs q) x w with _ | k9
        · refine k_top (y := (-1)) (rfl) ?_
          refine lv_istore (lv' := [(6, .int (-1)), (0, .ref a_dk), (1, .int (nI x)), (2, .int (nI w)), (3, .int y), (4, .int (nI bf)), (5, .int (nI i))]) hx hb d_Dk_findWaiting_36 hl (by decide) rfl (fun ls hl => ?_)
          refine lv_iload hx hb d_Dk_findWaiting_38 (lv_at hl 0 rfl) ?_
          refine lv_iconst (v := (-1)) hx hb d_Dk_findWaiting_40 (by decide +kernel) ?_
          refine lv_icmp_eq (tgt := 56) hx hb d_Dk_findWaiting_41 (by decide) (fun c_b => ?_) (fun c_b => absurd rfl c_b)
          refine lv_iinc (v := (nI (i + 1))) (lv' := [(5, .int (nI (i + 1))), (6, .int (-1)), (0, .ref a_dk), (1, .int (nI x)), (2, .int (nI w)), (3, .int y), (4, .int (nI bf))]) hx hb d_Dk_findWaiting_56 hl (k := 6) rfl (nI_add i 1) (by decide) rfl (fun ls hl => ?_)
          refine lv_goto (tgt := 6) hx hb d_Dk_findWaiting_59 (by decide) ?_
          exact ih_6 bf (i + 1) ls (by omega) (by rw [wl_succ hi2, ← eq9, hf9, List.length_append]; exact hb9) (hno) (by omega) (lv_sub hl [2, 3, 4, 5, 6, 0] rfl)
        · have hk9 := fa_lt hf9
          refine k_top (y := (nI (q * 6 + k9))) (rfl) ?_
          refine lv_istore (lv' := [(6, .int (nI (q * 6 + k9))), (0, .ref a_dk), (1, .int (nI x)), (2, .int (nI w)), (3, .int y), (4, .int (nI bf)), (5, .int (nI i))]) hx hb d_Dk_findWaiting_36 hl (by decide) rfl (fun ls hl => ?_)
          refine lv_iload hx hb d_Dk_findWaiting_38 (lv_at hl 0 rfl) ?_
          refine lv_iconst (v := (-1)) hx hb d_Dk_findWaiting_40 (by decide +kernel) ?_
          refine lv_icmp_eq (tgt := 56) hx hb d_Dk_findWaiting_41 (by decide) (fun c_b => absurd c_b (nI_m1 (by omega))) (fun c_b => ?_)
          refine lv_iload hx hb d_Dk_findWaiting_44 (lv_at hl 5 rfl) ?_
          refine lv_iload_n hx hb d_Dk_findWaiting_46 rfl (lv_at hl 4 rfl) ?_
          refine lv_icmp_ne (tgt := 53) hx hb d_Dk_findWaiting_47 (by decide) (fun c_c => ?_) (fun c_c => ?_)
          · refine lv_iinc (v := (nI (bf + 1))) (lv' := [(4, .int (nI (bf + 1))), (6, .int (nI (q * 6 + k9))), (0, .ref a_dk), (1, .int (nI x)), (2, .int (nI w)), (3, .int y), (5, .int (nI i))]) hx hb d_Dk_findWaiting_53 hl (k := 5) rfl (nI_add bf 1) (by decide) rfl (fun ls hl => ?_)
            refine lv_iinc (v := (nI (i + 1))) (lv' := [(5, .int (nI (i + 1))), (4, .int (nI (bf + 1))), (6, .int (nI (q * 6 + k9))), (0, .ref a_dk), (1, .int (nI x)), (2, .int (nI w)), (3, .int y)]) hx hb d_Dk_findWaiting_56 hl (k := 6) rfl (nI_add i 1) (by decide) rfl (fun ls hl => ?_)
            refine lv_goto (tgt := 6) hx hb d_Dk_findWaiting_59 (by decide) ?_
            exact ih_6 (bf + 1) (i + 1) ls (by omega) (by rw [wl_succ hi2, ← eq9, hf9, List.length_append, ← hb9]; rfl) (fun j hj => if h9 : j < bf then hno j h9 else by rw [show j = bf by omega]; exact c_c) (by omega) (lv_sub hl [3, 4, 5, 6, 1, 0] rfl)
          · refine lv_iload hx hb d_Dk_findWaiting_50 (lv_at hl 0 rfl) ?_
            exact k_ri hx hb hr hlocks (by rw [← c_c, wlAt_nI (by omega), hb9, wl_found hi2 (show fa (cs line[i]) x w = some k9 by rw [← eq9]; exact hf9), eq9]; rfl) d_Dk_findWaiting_52
  exact loop_6 ((line.length - 0) + 1) 0 0 ls (Nat.zero_le _) (rfl) (fun j hj => absurd hj (Nat.not_lt_zero j)) (Nat.lt_succ_self _) (lv_sub hl [2, 3, 4, 5, 1, 0] rfl)
set_option maxHeartbeats 4000000 in
set_option maxRecDepth 100000 in
theorem c_Dk_firstWaiting (l : Launch) (G : va_G) (cI cZ cJ : ClassId) (a_dk : Nat) (a_ch : Nat) (a_cs : Nat) (a_ln : Nat) (a_ss : Nat) (a_rr : Nat) (a_wn : Nat) (a_cd : Nat) (a_mm : Nat) (a_cn : Nat) (a_cc : Nat) (a_cw : Nat) (a_cv : Nat) (mt : Int32) (ft : Int32) (len : Nat) (mem : Nat → Nat) (cnum : Nat → Nat) (cch : Nat → Nat) (cway : Nat → Nat) (cval : Nat → Int32) (cs : Nat → List Kase) (line : List Nat) (x : Nat) (w : Nat) (hx1 : x < 40) (hw1 : w < 3) (hC : RelC cnum cch cway cval cs) (hL : RelL len mem line) : Met l y_Dk_firstWaiting (w_Dk_firstWaiting) ({ frames := 3, cells := 0, slots := 0, locals := 72 }) (va_Pc [.ref a_dk, .int (nI x), .int (nI w)] (kR G vwCl [(cI, .int), (cZ, .boolean), (cJ, .long)] [(a_dk, .inr (3, [.ref a_ch, .ref a_cs, .ref a_ln, .ref a_ss, .ref a_rr, .ref a_wn, .ref a_cd, .int mt, .int ft])), (a_ln, .inr (2, [.ref a_mm, .int (nI len)])), (a_mm, .inl (cI, 16, .inl (fun j => nI (mem j)))), (a_cs, .inr (0, [.ref a_cn, .ref a_cc, .ref a_cw, .ref a_cv])), (a_cn, .inl (cI, 16, .inl (fun j => nI (cnum j)))), (a_cc, .inl (cI, 96, .inl (fun j => nI (cch j)))), (a_cw, .inl (cI, 96, .inl (fun j => nI (cway j))))])) (QcRead ((slI ((wl cs line x w)[0]?)))) 0 0 (fun _ => False) := by
  refine Met.ofW (cc := b_Dk_firstWaiting) (maxL := 3) (ret := (some .int)) (by decide) rfl ?_
  intro p e s m args below meth c s₁ B hml hv
  obtain ⟨rfl, hP, hK⟩ := hv
  have hx := B.exec
  have hb := B.bytes
  have hr := B.returns
  have hts : ∀ w ∈ TT, w.before _ s = true := fun w h => atoms_spec (ws := (w_Dk_firstWaiting)) B.pre w (List.mem_cons_of_mem _ h)
  have hown : s.vm.findClass R_Dk = some m.cls := findClass_of_methodNamed B.named
  have hlocks := B.notSynchronized
  have hP : va_P G vwCl [(a_dk, .inr (3, [.ref a_ch, .ref a_cs, .ref a_ln, .ref a_ss, .ref a_rr, .ref a_wn, .ref a_cd, .int mt, .int ft])), (a_ln, .inr (2, [.ref a_mm, .int (nI len)])), (a_mm, .inl (cI, 16, .inl (fun j => nI (mem j)))), (a_cs, .inr (0, [.ref a_cn, .ref a_cc, .ref a_cw, .ref a_cv])), (a_cn, .inl (cI, 16, .inl (fun j => nI (cnum j)))), (a_cc, .inl (cI, 96, .inl (fun j => nI (cch j)))), (a_cw, .inl (cI, 96, .inl (fun j => nI (cway j))))] s.heap := hP
  have hl := lv_entry ([.ref a_dk, .int (nI x), .int (nI w)]) (n := 3) (Nat.le_of_ble_eq_true rfl)
  rw [lg_entry_eq]
  generalize (lg_sl ([.ref a_dk, .int (nI x), .int (nI w)]) ++ List.replicate (3 - (lg_sl ([.ref a_dk, .int (nI x), .int (nI w)])).length) Slot.unset).toArray = ls at hl ⊢
  have hl : lv_has ls 3 [(0, .ref a_dk), (1, .int (nI x)), (2, .int (nI w))] := hl
  refine lv_aload_n hx hb d_Dk_firstWaiting_0 rfl (lv_at hl 0 rfl) ?_
  refine lv_iload_n hx hb d_Dk_firstWaiting_1 rfl (lv_at hl 1 rfl) ?_
  refine lv_iload_n hx hb d_Dk_firstWaiting_2 rfl (lv_at hl 2 rfl) ?_
  refine lv_iconst (v := (nI 0)) hx hb d_Dk_firstWaiting_3 (by decide +kernel) ?_
  refine k_ro (va_runV (As := [.int (nI x), .int (nI w), .int (nI 0)]) (rest := []) ⟨hx, hb, hml, hown, hts⟩ (c_Dk_findWaiting l G cI cZ cJ a_dk a_ch a_cs a_ln a_ss a_rr a_wn a_cd a_mm a_cn a_cc a_cw a_cv mt ft len mem cnum cch cway cval cs line x w (nI 0) hx1 hw1 hC hL) (cwV 3 hts (gV t_165 t_166 t_6 t_32 t_167) rfl rfl rfl (by decide +kernel) ⟨Nat.le_of_ble_eq_true rfl, Nat.le_of_ble_eq_true rfl⟩) (kR_V (ci := 3) (q0 := 0) hK hP rfl rfl [0, 1, 2, 3, 4, 5, 6] rfl) rfl rfl hl.1 rfl (lv_room (Nat.le_of_ble_eq_true rfl)) d_Dk_firstWaiting_4 ⟨Nat.le_of_ble_eq_true rfl, Nat.le_of_ble_eq_true rfl⟩) ?_
  exact k_ri hx hb hr hlocks (by rw [wlAt_nI (by decide)]) d_Dk_firstWaiting_7
