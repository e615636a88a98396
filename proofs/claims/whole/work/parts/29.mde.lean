set_option maxHeartbeats 4000000 in
set_option maxRecDepth 100000 in
theorem c_Md_state (l : Launch) (G : va_G) (cI cZ cJ : ClassId) (a_md : Nat) (a_mrm : Nat) (a_mcl : Nat) (a_mmn : Nat) (a_mvl : Nat) (a_mst : Nat) (a_msi : Nat) (a_mpl : Nat) (a_mof : Nat) (a_mgt : Nat) (a_msn : Nat) (a_mdn : Nat) (a_mca : Nat) (a_mcc : Nat) (a_mcw : Nat) (a_mcv : Nat) (kn : Nat) (kmo : Nat) (kmt : Int32) (kft : Int32) (kst : Nat → Nat) (kroom : Nat → Nat) (kclo : Nat → Bool) (kmany : Nat → Nat) (kvals : Nat → Int32) (ksi : Nat → Nat) (kpl : Nat → Nat) (kof : Nat → Int32) (kgot : Nat → Int32) (ksent : Nat → Bool) (kdone : Nat → Int32) (kca : Nat → Nat) (kcc : Nat → Nat) (kcw : Nat → Nat) (kcv : Nat → Int32) (σ : Sg) (y : Int32) (hD2 : RD kn kroom kclo kmany kvals kst ksi kpl kof kgot ksent kdone kca kcc kcw kcv kmo kmt kft σ) : Met l y_Md_state (w_Md_state) ({ frames := 1, cells := 0, slots := 0, locals := 20 }) (va_Pc [.ref a_md, .int y] (kR G vwCl [(cI, .int), (cZ, .boolean), (cJ, .long)] [(a_md, .inr (4, [.int (nI kn), .ref a_mrm, .ref a_mcl, .ref a_mmn, .ref a_mvl, .ref a_mst, .ref a_msi, .ref a_mpl, .ref a_mof, .ref a_mgt, .ref a_msn, .ref a_mdn, .ref a_mca, .ref a_mcc, .ref a_mcw, .ref a_mcv, .long (lN kmo), .int kmt, .int kft])), (a_mst, .inl (cI, 16, .inl (fun j => nI (kst j))))])) (QcRead ((M_state (gSt σ) y))) 0 0 (fun _ => False) := by
  refine Met.ofW (cc := b_Md_state) (maxL := 2) (ret := (some .int)) (by decide) rfl ?_
  intro p e s m args below meth c s₁ B hml hv
  obtain ⟨rfl, hP, hK⟩ := hv
  have hx := B.exec
  have hb := B.bytes
  have hr := B.returns
  have hts : ∀ w ∈ TT, w.before _ s = true := fun w h => atoms_spec (ws := (w_Md_state)) B.pre w (List.mem_cons_of_mem _ h)
  have hown : s.vm.findClass R_Md = some m.cls := findClass_of_methodNamed B.named
  have hlocks := B.notSynchronized
  have hP : va_P G vwCl [(a_md, .inr (4, [.int (nI kn), .ref a_mrm, .ref a_mcl, .ref a_mmn, .ref a_mvl, .ref a_mst, .ref a_msi, .ref a_mpl, .ref a_mof, .ref a_mgt, .ref a_msn, .ref a_mdn, .ref a_mca, .ref a_mcc, .ref a_mcw, .ref a_mcv, .long (lN kmo), .int kmt, .int kft])), (a_mst, .inl (cI, 16, .inl (fun j => nI (kst j))))] s.heap := hP
  have hl := lv_entry ([.ref a_md, .int y]) (n := 2) (Nat.le_of_ble_eq_true rfl)
  rw [lg_entry_eq]
  generalize (lg_sl ([.ref a_md, .int y]) ++ List.replicate (2 - (lg_sl ([.ref a_md, .int y])).length) Slot.unset).toArray = ls at hl ⊢
  have hl : lv_has ls 2 [(0, .ref a_md), (1, .int y)] := hl
  obtain ⟨⟨hkn, hKC⟩, hKS, hR, hKL, hmt, hft⟩ := hD2
  refine lv_iload_n hx hb d_Md_state_0 rfl (lv_at hl 1 rfl) ?_
  refine k_ro (va_runS (As := [.int y]) (rest := []) ⟨hx, hb, hml, hown, hts⟩ (c_Md_isRoutine l G cI cZ cJ y) (va_cwS 1 hts (gS t_387 t_388 t_37 t_389) rfl rfl rfl (by decide +kernel) ⟨Nat.le_of_ble_eq_true rfl, Nat.le_of_ble_eq_true rfl⟩) (kR_S hK hP [] rfl) rfl rfl hl.1 rfl (lv_room (Nat.le_of_ble_eq_true rfl)) d_Md_state_1 ⟨Nat.le_of_ble_eq_true rfl, Nat.le_of_ble_eq_true rfl⟩) ?_
  refine b_if_eq (tgt := 16) hx hb d_Md_state_4 (by decide) (fun c_a => ?_) (fun c_a => ?_)
  · refine lv_iconst (v := (-1)) hx hb d_Md_state_16 (by decide +kernel) ?_
    exact k_ri hx hb hr hlocks (M_state_0 c_a) d_Md_state_17
  · obtain ⟨q, hq, rfl⟩ := hasB_of (by decide) c_a
    refine lv_aload_n hx hb d_Md_state_7 rfl (lv_at hl 0 rfl) ?_
    refine va_get (D := G) (ci := 4) (v := .ref a_mst) (C := R_Md) (T := T_Md) (N := 19) hx hb hts uw_Md hown hK hP 0 rfl rfl 5 (by decide) (hts _ t_342) (fun _ h9 => h9) rfl d_Md_state_8 ?_
    refine lv_iload_n hx hb d_Md_state_11 rfl (lv_at hl 1 rfl) ?_
    refine k_iald hx hb hK hP 1 0 rfl rfl (by omega) (by decide) d_Md_state_12 ?_
    refine lv_goto (tgt := 17) hx hb d_Md_state_13 (by decide) ?_
    exact k_ri hx hb hr hlocks (by rw [(hKS q hq).1]; exact M_state_1 c_a hq) d_Md_state_17
set_option maxHeartbeats 4000000 in
set_option maxRecDepth 100000 in
theorem c_Md_got (l : Launch) (G : va_G) (cI cZ cJ : ClassId) (a_md : Nat) (a_mrm : Nat) (a_mcl : Nat) (a_mmn : Nat) (a_mvl : Nat) (a_mst : Nat) (a_msi : Nat) (a_mpl : Nat) (a_mof : Nat) (a_mgt : Nat) (a_msn : Nat) (a_mdn : Nat) (a_mca : Nat) (a_mcc : Nat) (a_mcw : Nat) (a_mcv : Nat) (kn : Nat) (kmo : Nat) (kmt : Int32) (kft : Int32) (kgot : Nat → Int32) (kroom : Nat → Nat) (kclo : Nat → Bool) (kmany : Nat → Nat) (kvals : Nat → Int32) (kst : Nat → Nat) (ksi : Nat → Nat) (kpl : Nat → Nat) (kof : Nat → Int32) (ksent : Nat → Bool) (kdone : Nat → Int32) (kca : Nat → Nat) (kcc : Nat → Nat) (kcw : Nat → Nat) (kcv : Nat → Int32) (σ : Sg) (y : Int32) (hD2 : RD kn kroom kclo kmany kvals kst ksi kpl kof kgot ksent kdone kca kcc kcw kcv kmo kmt kft σ) : Met l y_Md_got (w_Md_got) ({ frames := 1, cells := 0, slots := 0, locals := 20 }) (va_Pc [.ref a_md, .int y] (kR G vwCl [(cI, .int), (cZ, .boolean), (cJ, .long)] [(a_md, .inr (4, [.int (nI kn), .ref a_mrm, .ref a_mcl, .ref a_mmn, .ref a_mvl, .ref a_mst, .ref a_msi, .ref a_mpl, .ref a_mof, .ref a_mgt, .ref a_msn, .ref a_mdn, .ref a_mca, .ref a_mcc, .ref a_mcw, .ref a_mcv, .long (lN kmo), .int kmt, .int kft])), (a_mgt, .inl (cI, 16, .inl kgot))])) (QcRead ((M_got (gRc σ) y))) 0 0 (fun _ => False) := by
  refine Met.ofW (cc := b_Md_got) (maxL := 2) (ret := (some .int)) (by decide) rfl ?_
  intro p e s m args below meth c s₁ B hml hv
  obtain ⟨rfl, hP, hK⟩ := hv
  have hx := B.exec
  have hb := B.bytes
  have hr := B.returns
  have hts : ∀ w ∈ TT, w.before _ s = true := fun w h => atoms_spec (ws := (w_Md_got)) B.pre w (List.mem_cons_of_mem _ h)
  have hown : s.vm.findClass R_Md = some m.cls := findClass_of_methodNamed B.named
  have hlocks := B.notSynchronized
  have hP : va_P G vwCl [(a_md, .inr (4, [.int (nI kn), .ref a_mrm, .ref a_mcl, .ref a_mmn, .ref a_mvl, .ref a_mst, .ref a_msi, .ref a_mpl, .ref a_mof, .ref a_mgt, .ref a_msn, .ref a_mdn, .ref a_mca, .ref a_mcc, .ref a_mcw, .ref a_mcv, .long (lN kmo), .int kmt, .int kft])), (a_mgt, .inl (cI, 16, .inl kgot))] s.heap := hP
  have hl := lv_entry ([.ref a_md, .int y]) (n := 2) (Nat.le_of_ble_eq_true rfl)
  rw [lg_entry_eq]
  generalize (lg_sl ([.ref a_md, .int y]) ++ List.replicate (2 - (lg_sl ([.ref a_md, .int y])).length) Slot.unset).toArray = ls at hl ⊢
  have hl : lv_has ls 2 [(0, .ref a_md), (1, .int y)] := hl
  obtain ⟨⟨hkn, hKC⟩, hKS, hR, hKL, hmt, hft⟩ := hD2
  refine lv_iload_n hx hb d_Md_got_0 rfl (lv_at hl 1 rfl) ?_
  refine k_ro (va_runS (As := [.int y]) (rest := []) ⟨hx, hb, hml, hown, hts⟩ (c_Md_isRoutine l G cI cZ cJ y) (va_cwS 1 hts (gS t_387 t_388 t_37 t_389) rfl rfl rfl (by decide +kernel) ⟨Nat.le_of_ble_eq_true rfl, Nat.le_of_ble_eq_true rfl⟩) (kR_S hK hP [] rfl) rfl rfl hl.1 rfl (lv_room (Nat.le_of_ble_eq_true rfl)) d_Md_got_1 ⟨Nat.le_of_ble_eq_true rfl, Nat.le_of_ble_eq_true rfl⟩) ?_
  refine b_if_eq (tgt := 16) hx hb d_Md_got_4 (by decide) (fun c_a => ?_) (fun c_a => ?_)
  · refine lv_iconst (v := (nI 0)) hx hb d_Md_got_16 (by decide +kernel) ?_
    exact k_ri hx hb hr hlocks (M_got_0 c_a) d_Md_got_17
  · obtain ⟨q, hq, rfl⟩ := hasB_of (by decide) c_a
    refine lv_aload_n hx hb d_Md_got_7 rfl (lv_at hl 0 rfl) ?_
    refine va_get (D := G) (ci := 4) (v := .ref a_mgt) (C := R_Md) (T := T_Md) (N := 19) hx hb hts uw_Md hown hK hP 0 rfl rfl 9 (by decide) (hts _ t_346) (fun _ h9 => h9) rfl d_Md_got_8 ?_
    refine lv_iload_n hx hb d_Md_got_11 rfl (lv_at hl 1 rfl) ?_
    refine k_iald hx hb hK hP 1 0 rfl rfl (by omega) (by decide) d_Md_got_12 ?_
    refine lv_goto (tgt := 17) hx hb d_Md_got_13 (by decide) ?_
    exact k_ri hx hb hr hlocks (by rw [(hKS q hq).2.1]; exact M_got_1 c_a hq) d_Md_got_17
set_option maxHeartbeats 4000000 in
set_option maxRecDepth 100000 in
theorem c_Md_last (l : Launch) (G : va_G) (cI cZ cJ : ClassId) (a_md : Nat) (a_mrm : Nat) (a_mcl : Nat) (a_mmn : Nat) (a_mvl : Nat) (a_mst : Nat) (a_msi : Nat) (a_mpl : Nat) (a_mof : Nat) (a_mgt : Nat) (a_msn : Nat) (a_mdn : Nat) (a_mca : Nat) (a_mcc : Nat) (a_mcw : Nat) (a_mcv : Nat) (kn : Nat) (kmo : Nat) (kmt : Int32) (kft : Int32) (ksent : Nat → Bool) (kdone : Nat → Int32) (kroom : Nat → Nat) (kclo : Nat → Bool) (kmany : Nat → Nat) (kvals : Nat → Int32) (kst : Nat → Nat) (ksi : Nat → Nat) (kpl : Nat → Nat) (kof : Nat → Int32) (kgot : Nat → Int32) (kca : Nat → Nat) (kcc : Nat → Nat) (kcw : Nat → Nat) (kcv : Nat → Int32) (σ : Sg) (y : Int32) (hD2 : RD kn kroom kclo kmany kvals kst ksi kpl kof kgot ksent kdone kca kcc kcw kcv kmo kmt kft σ) : Met l y_Md_last (w_Md_last) ({ frames := 1, cells := 0, slots := 0, locals := 20 }) (va_Pc [.ref a_md, .int y] (kR G vwCl [(cI, .int), (cZ, .boolean), (cJ, .long)] [(a_md, .inr (4, [.int (nI kn), .ref a_mrm, .ref a_mcl, .ref a_mmn, .ref a_mvl, .ref a_mst, .ref a_msi, .ref a_mpl, .ref a_mof, .ref a_mgt, .ref a_msn, .ref a_mdn, .ref a_mca, .ref a_mcc, .ref a_mcw, .ref a_mcv, .long (lN kmo), .int kmt, .int kft])), (a_msn, .inl (cZ, 16, .inl (fun j => bI (ksent j)))), (a_mdn, .inl (cI, 16, .inl kdone))])) (QcRead ((M_last (gSn σ) (gCd σ) y))) 0 0 (fun _ => False) := by
  refine Met.ofW (cc := b_Md_last) (maxL := 2) (ret := (some .int)) (by decide) rfl ?_
  intro p e s m args below meth c s₁ B hml hv
  obtain ⟨rfl, hP, hK⟩ := hv
  have hx := B.exec
  have hb := B.bytes
  have hr := B.returns
  have hts : ∀ w ∈ TT, w.before _ s = true := fun w h => atoms_spec (ws := (w_Md_last)) B.pre w (List.mem_cons_of_mem _ h)
  have hown : s.vm.findClass R_Md = some m.cls := findClass_of_methodNamed B.named
  have hlocks := B.notSynchronized
  have hP : va_P G vwCl [(a_md, .inr (4, [.int (nI kn), .ref a_mrm, .ref a_mcl, .ref a_mmn, .ref a_mvl, .ref a_mst, .ref a_msi, .ref a_mpl, .ref a_mof, .ref a_mgt, .ref a_msn, .ref a_mdn, .ref a_mca, .ref a_mcc, .ref a_mcw, .ref a_mcv, .long (lN kmo), .int kmt, .int kft])), (a_msn, .inl (cZ, 16, .inl (fun j => bI (ksent j)))), (a_mdn, .inl (cI, 16, .inl kdone))] s.heap := hP
  have hl := lv_entry ([.ref a_md, .int y]) (n := 2) (Nat.le_of_ble_eq_true rfl)
  rw [lg_entry_eq]
  generalize (lg_sl ([.ref a_md, .int y]) ++ List.replicate (2 - (lg_sl ([.ref a_md, .int y])).length) Slot.unset).toArray = ls at hl ⊢
  have hl : lv_has ls 2 [(0, .ref a_md), (1, .int y)] := hl
  obtain ⟨⟨hkn, hKC⟩, hKS, hR, hKL, hmt, hft⟩ := hD2
  refine lv_iload_n hx hb d_Md_last_0 rfl (lv_at hl 1 rfl) ?_
  refine k_ro (va_runS (As := [.int y]) (rest := []) ⟨hx, hb, hml, hown, hts⟩ (c_Md_isRoutine l G cI cZ cJ y) (va_cwS 1 hts (gS t_387 t_388 t_37 t_389) rfl rfl rfl (by decide +kernel) ⟨Nat.le_of_ble_eq_true rfl, Nat.le_of_ble_eq_true rfl⟩) (kR_S hK hP [] rfl) rfl rfl hl.1 rfl (lv_room (Nat.le_of_ble_eq_true rfl)) d_Md_last_1 ⟨Nat.le_of_ble_eq_true rfl, Nat.le_of_ble_eq_true rfl⟩) ?_
  refine b_if_eq (tgt := 35) hx hb d_Md_last_4 (by decide) (fun c_a => ?_) (fun c_a => ?_)
  · refine lv_iconst (v := (-1)) hx hb d_Md_last_35 (by decide +kernel) ?_
    exact k_ri hx hb hr hlocks (M_last_0 c_a) d_Md_last_36
  · obtain ⟨q, hq, rfl⟩ := hasB_of (by decide) c_a
    refine lv_aload_n hx hb d_Md_last_7 rfl (lv_at hl 0 rfl) ?_
    refine va_get (D := G) (ci := 4) (v := .ref a_msn) (C := R_Md) (T := T_Md) (N := 19) hx hb hts uw_Md hown hK hP 0 rfl rfl 10 (by decide) (hts _ t_347) (fun _ h9 => h9) rfl d_Md_last_8 ?_
    refine lv_iload_n hx hb d_Md_last_11 rfl (lv_at hl 1 rfl) ?_
    refine k_zald hx hb hK hP 1 1 rfl rfl (by omega) (by decide) d_Md_last_12 ?_
    refine b_if_eq (tgt := 20) hx hb d_Md_last_13 (by decide) (fun c_b => ?_) (fun c_b => ?_)
    · refine lv_iconst (v := (nI 0)) hx hb d_Md_last_20 (by decide +kernel) ?_
      refine lv_iconst (v := (nI 2)) hx hb d_Md_last_21 (by decide +kernel) ?_
      refine lv_aload_n hx hb d_Md_last_22 rfl (lv_at hl 0 rfl) ?_
      refine va_get (D := G) (ci := 4) (v := .ref a_mdn) (C := R_Md) (T := T_Md) (N := 19) hx hb hts uw_Md hown hK hP 0 rfl rfl 11 (by decide) (hts _ t_348) (fun _ h9 => h9) rfl d_Md_last_23 ?_
      refine lv_iload_n hx hb d_Md_last_26 rfl (lv_at hl 1 rfl) ?_
      refine k_iald hx hb hK hP 2 0 rfl rfl (by omega) (by decide) d_Md_last_27 ?_
      refine lv_iconst (v := (nI 2)) hx hb d_Md_last_28 (by decide +kernel) ?_
      refine lv_iadd hx hb d_Md_last_29 ?_
      refine lv_imul hx hb d_Md_last_30 ?_
      refine lv_iadd hx hb d_Md_last_31 ?_
      refine lv_goto (tgt := 36) hx hb d_Md_last_32 (by decide) ?_
      exact k_ri hx hb hr hlocks (by rw [show nI 0 = nI (gSn σ q) from congrArg nI (by rw [(hKS q hq).2.2.1, c_b]; rfl), (hKS q hq).2.2.2]; exact M_last_1 c_a hq) d_Md_last_36
    · refine lv_iconst (v := (nI 1)) hx hb d_Md_last_16 (by decide +kernel) ?_
      refine lv_goto (tgt := 21) hx hb d_Md_last_17 (by decide) ?_
      refine lv_iconst (v := (nI 2)) hx hb d_Md_last_21 (by decide +kernel) ?_
      refine lv_aload_n hx hb d_Md_last_22 rfl (lv_at hl 0 rfl) ?_
      refine va_get (D := G) (ci := 4) (v := .ref a_mdn) (C := R_Md) (T := T_Md) (N := 19) hx hb hts uw_Md hown hK hP 0 rfl rfl 11 (by decide) (hts _ t_348) (fun _ h9 => h9) rfl d_Md_last_23 ?_
      refine lv_iload_n hx hb d_Md_last_26 rfl (lv_at hl 1 rfl) ?_
      refine k_iald hx hb hK hP 2 0 rfl rfl (by omega) (by decide) d_Md_last_27 ?_
      refine lv_iconst (v := (nI 2)) hx hb d_Md_last_28 (by decide +kernel) ?_
      refine lv_iadd hx hb d_Md_last_29 ?_
      refine lv_imul hx hb d_Md_last_30 ?_
      refine lv_iadd hx hb d_Md_last_31 ?_
      refine lv_goto (tgt := 36) hx hb d_Md_last_32 (by decide) ?_
      exact k_ri hx hb hr hlocks (by rw [show nI 1 = nI (gSn σ q) from congrArg nI (by rw [(hKS q hq).2.2.1, c_b]; rfl), (hKS q hq).2.2.2]; exact M_last_1 c_a hq) d_Md_last_36
set_option maxHeartbeats 4000000 in
set_option maxRecDepth 100000 in
theorem c_Md_waiting (l : Launch) (G : va_G) (cI cZ cJ : ClassId) (a_md : Nat) (a_mrm : Nat) (a_mcl : Nat) (a_mmn : Nat) (a_mvl : Nat) (a_mst : Nat) (a_msi : Nat) (a_mpl : Nat) (a_mof : Nat) (a_mgt : Nat) (a_msn : Nat) (a_mdn : Nat) (a_mca : Nat) (a_mcc : Nat) (a_mcw : Nat) (a_mcv : Nat) (kn : Nat) (kmo : Nat) (kmt : Int32) (kft : Int32) (kst : Nat → Nat) (ksi : Nat → Nat) (kpl : Nat → Nat) (kca : Nat → Nat) (kcc : Nat → Nat) (kcw : Nat → Nat) (kroom : Nat → Nat) (kclo : Nat → Bool) (kmany : Nat → Nat) (kvals : Nat → Int32) (kof : Nat → Int32) (kgot : Nat → Int32) (ksent : Nat → Bool) (kdone : Nat → Int32) (kcv : Nat → Int32) (σ : Sg) (b : Int32) (w9 : Int32) (y : Int32) (hD2 : RD kn kroom kclo kmany kvals kst ksi kpl kof kgot ksent kdone kca kcc kcw kcv kmo kmt kft σ) : Met l y_Md_waiting (w_Md_waiting) ({ frames := 3, cells := 0, slots := 0, locals := 74 }) (va_Pc [.ref a_md, .int b, .int w9, .int y] (kR G vwCl [(cI, .int), (cZ, .boolean), (cJ, .long)] [(a_md, .inr (4, [.int (nI kn), .ref a_mrm, .ref a_mcl, .ref a_mmn, .ref a_mvl, .ref a_mst, .ref a_msi, .ref a_mpl, .ref a_mof, .ref a_mgt, .ref a_msn, .ref a_mdn, .ref a_mca, .ref a_mcc, .ref a_mcw, .ref a_mcv, .long (lN kmo), .int kmt, .int kft])), (a_mst, .inl (cI, 16, .inl (fun j => nI (kst j)))), (a_msi, .inl (cJ, 16, .inr (.inl (fun j => lN (ksi j))))), (a_mpl, .inl (cI, 16, .inl (fun j => nI (kpl j)))), (a_mca, .inl (cI, 16, .inl (fun j => nI (kca j)))), (a_mcc, .inl (cI, 96, .inl (fun j => nI (kcc j)))), (a_mcw, .inl (cI, 96, .inl (fun j => nI (kcw j))))])) (QcRead ((M_waiting (gN σ) (gCs σ) (gLine σ) b w9 y))) 0 0 (fun _ => False) := by
  refine Met.ofW (cc := b_Md_waiting) (maxL := 4) (ret := (some .int)) (by decide) rfl ?_
  intro p e s m args below meth c s₁ B hml hv
  obtain ⟨rfl, hP, hK⟩ := hv
  have hx := B.exec
  have hb := B.bytes
  have hr := B.returns
  have hts : ∀ w ∈ TT, w.before _ s = true := fun w h => atoms_spec (ws := (w_Md_waiting)) B.pre w (List.mem_cons_of_mem _ h)
  have hown : s.vm.findClass R_Md = some m.cls := findClass_of_methodNamed B.named
  have hlocks := B.notSynchronized
  have hP : va_P G vwCl [(a_md, .inr (4, [.int (nI kn), .ref a_mrm, .ref a_mcl, .ref a_mmn, .ref a_mvl, .ref a_mst, .ref a_msi, .ref a_mpl, .ref a_mof, .ref a_mgt, .ref a_msn, .ref a_mdn, .ref a_mca, .ref a_mcc, .ref a_mcw, .ref a_mcv, .long (lN kmo), .int kmt, .int kft])), (a_mst, .inl (cI, 16, .inl (fun j => nI (kst j)))), (a_msi, .inl (cJ, 16, .inr (.inl (fun j => lN (ksi j))))), (a_mpl, .inl (cI, 16, .inl (fun j => nI (kpl j)))), (a_mca, .inl (cI, 16, .inl (fun j => nI (kca j)))), (a_mcc, .inl (cI, 96, .inl (fun j => nI (kcc j)))), (a_mcw, .inl (cI, 96, .inl (fun j => nI (kcw j))))] s.heap := hP
  have hl := lv_entry ([.ref a_md, .int b, .int w9, .int y]) (n := 4) (Nat.le_of_ble_eq_true rfl)
  rw [lg_entry_eq]
  generalize (lg_sl ([.ref a_md, .int b, .int w9, .int y]) ++ List.replicate (4 - (lg_sl ([.ref a_md, .int b, .int w9, .int y])).length) Slot.unset).toArray = ls at hl ⊢
  have hl : lv_has ls 4 [(0, .ref a_md), (1, .int b), (2, .int w9), (3, .int y)] := hl
  obtain ⟨⟨hkn, hKC⟩, hKS, hR, hKL, hmt, hft⟩ := hD2
  refine lv_aload_n hx hb d_Md_waiting_0 rfl (lv_at hl 0 rfl) ?_
  refine lv_iload_n hx hb d_Md_waiting_1 rfl (lv_at hl 1 rfl) ?_
  refine k_ro (va_runV (As := [.int b]) (rest := []) ⟨hx, hb, hml, hown, hts⟩ (c_Md_isChannel l G cI cZ cJ a_md a_mrm a_mcl a_mmn a_mvl a_mst a_msi a_mpl a_mof a_mgt a_msn a_mdn a_mca a_mcc a_mcw a_mcv kn kmo kmt kft b) (cwV 1 hts (gV t_390 t_391 t_18 t_37 t_392) rfl rfl rfl (by decide +kernel) ⟨Nat.le_of_ble_eq_true rfl, Nat.le_of_ble_eq_true rfl⟩) (kR_V (ci := 4) (q0 := 0) hK hP rfl rfl [0] rfl) rfl rfl hl.1 rfl (lv_room (Nat.le_of_ble_eq_true rfl)) d_Md_waiting_2 ⟨Nat.le_of_ble_eq_true rfl, Nat.le_of_ble_eq_true rfl⟩) ?_
  refine b_if_eq (tgt := 31) hx hb d_Md_waiting_5 (by decide) (fun c_a => ?_) (fun c_a => ?_)
  · refine lv_iconst (v := (-1)) hx hb d_Md_waiting_31 (by decide +kernel) ?_
    exact k_ri hx hb hr hlocks (M_waiting_0 (by rw [← hkn]; exact c_a)) d_Md_waiting_32
  · refine lv_iload_n hx hb d_Md_waiting_8 rfl (lv_at hl 2 rfl) ?_
    refine lv_if_lt (tgt := 31) hx hb d_Md_waiting_9 (by decide) (fun c_b => ?_) (fun c_b => ?_)
    · refine lv_iconst (v := (-1)) hx hb d_Md_waiting_31 (by decide +kernel) ?_
      exact k_ri hx hb hr hlocks (M_waiting_00 (wayB_lo c_b)) d_Md_waiting_32
    · refine lv_iload_n hx hb d_Md_waiting_12 rfl (lv_at hl 2 rfl) ?_
      refine lv_iconst (v := (nI 2)) hx hb d_Md_waiting_13 (by decide +kernel) ?_
      refine lv_icmp_ge (tgt := 31) hx hb d_Md_waiting_14 (by decide) (fun c_c => ?_) (fun c_c => ?_)
      · refine lv_iconst (v := (-1)) hx hb d_Md_waiting_31 (by decide +kernel) ?_
        exact k_ri hx hb hr hlocks (M_waiting_00 (wayB_hi c_c)) d_Md_waiting_32
      · refine lv_iload_n hx hb d_Md_waiting_17 rfl (lv_at hl 3 rfl) ?_
        refine lv_if_lt (tgt := 31) hx hb d_Md_waiting_18 (by decide) (fun c_d => ?_) (fun c_d => ?_)
        · refine lv_iconst (v := (-1)) hx hb d_Md_waiting_31 (by decide +kernel) ?_
          exact k_ri hx hb hr hlocks (M_waiting_neg c_d) d_Md_waiting_32
        · obtain ⟨x, hx2, rfl⟩ := hasB_of (by have := hKC.1; omega) c_a
          have hx0 : x < 40 := Nat.lt_of_lt_of_le hx2 hKC.1
          obtain ⟨w, hw2, rfl⟩ := hasB_of (n := 2) (by decide) (decide_eq_true ⟨c_b, c_c⟩)
          refine lv_aload_n hx hb d_Md_waiting_21 rfl (lv_at hl 0 rfl) ?_
          refine lv_iload_n hx hb d_Md_waiting_22 rfl (lv_at hl 1 rfl) ?_
          refine lv_iload_n hx hb d_Md_waiting_23 rfl (lv_at hl 2 rfl) ?_
          refine lv_iload_n hx hb d_Md_waiting_24 rfl (lv_at hl 3 rfl) ?_
          refine k_ro (va_runV (As := [.int (nI x), .int (nI w), .int y]) (rest := []) ⟨hx, hb, hml, hown, hts⟩ (c_Md_waiter0 l G cI cZ cJ a_md a_mrm a_mcl a_mmn a_mvl a_mst a_msi a_mpl a_mof a_mgt a_msn a_mdn a_mca a_mcc a_mcw a_mcv kn kmo kmt kft kst ksi kpl kca kcc kcw kof kcv (gCs σ) (gLine σ) x w y hx0 hKC.1 hw2 hR hKL) (cwV 3 hts (gV t_399 t_400 t_21 t_37 t_401) rfl rfl rfl (by decide +kernel) ⟨Nat.le_of_ble_eq_true rfl, Nat.le_of_ble_eq_true rfl⟩) (kR_V (ci := 4) (q0 := 0) hK hP rfl rfl [0, 1, 2, 3, 4, 5, 6] rfl) rfl rfl hl.1 rfl (lv_room (Nat.le_of_ble_eq_true rfl)) d_Md_waiting_25 ⟨Nat.le_of_ble_eq_true rfl, Nat.le_of_ble_eq_true rfl⟩) ?_
          refine lv_goto (tgt := 32) hx hb d_Md_waiting_28 (by decide) ?_
          exact k_ri hx hb hr hlocks (M_waiting_1 (by rw [← hkn]; exact c_a) (wayB_2 hw2) hx0 hw2 rfl) d_Md_waiting_32
set_option maxHeartbeats 4000000 in
set_option maxRecDepth 100000 in
theorem c_Md_channel (l : Launch) (G : va_G) (cI cZ cJ : ClassId) (a_md : Nat) (a_mrm : Nat) (a_mcl : Nat) (a_mmn : Nat) (a_mvl : Nat) (a_mst : Nat) (a_msi : Nat) (a_mpl : Nat) (a_mof : Nat) (a_mgt : Nat) (a_msn : Nat) (a_mdn : Nat) (a_mca : Nat) (a_mcc : Nat) (a_mcw : Nat) (a_mcv : Nat) (kn : Nat) (kmo : Nat) (kmt : Int32) (kft : Int32) (kroom : Nat → Nat) (kclo : Nat → Bool) (kmany : Nat → Nat) (kvals : Nat → Int32) (kst : Nat → Nat) (ksi : Nat → Nat) (kpl : Nat → Nat) (kof : Nat → Int32) (kgot : Nat → Int32) (ksent : Nat → Bool) (kdone : Nat → Int32) (kca : Nat → Nat) (kcc : Nat → Nat) (kcw : Nat → Nat) (kcv : Nat → Int32) (σ : Sg) (b : Int32) (y : Int32) (hD2 : RD kn kroom kclo kmany kvals kst ksi kpl kof kgot ksent kdone kca kcc kcw kcv kmo kmt kft σ) : Met l y_Md_channel (w_Md_channel) ({ frames := 1, cells := 0, slots := 0, locals := 21 }) (va_Pc [.ref a_md, .int b, .int y] (kR G vwCl [(cI, .int), (cZ, .boolean), (cJ, .long)] [(a_md, .inr (4, [.int (nI kn), .ref a_mrm, .ref a_mcl, .ref a_mmn, .ref a_mvl, .ref a_mst, .ref a_msi, .ref a_mpl, .ref a_mof, .ref a_mgt, .ref a_msn, .ref a_mdn, .ref a_mca, .ref a_mcc, .ref a_mcw, .ref a_mcv, .long (lN kmo), .int kmt, .int kft])), (a_mrm, .inl (cI, 40, .inl (fun j => nI (kroom j)))), (a_mcl, .inl (cZ, 40, .inl (fun j => bI (kclo j)))), (a_mmn, .inl (cI, 40, .inl (fun j => nI (kmany j)))), (a_mvl, .inl (cI, 320, .inl kvals))])) (QcRead ((M_channel (gN σ) (gRoom σ) (gShut σ) (gL σ) b y))) 0 0 (fun _ => False) := by
  refine Met.ofW (cc := b_Md_channel) (maxL := 3) (ret := (some .int)) (by decide) rfl ?_
  intro p e s m args below meth c s₁ B hml hv
  obtain ⟨rfl, hP, hK⟩ := hv
  have hx := B.exec
  have hb := B.bytes
  have hr := B.returns
  have hts : ∀ w ∈ TT, w.before _ s = true := fun w h => atoms_spec (ws := (w_Md_channel)) B.pre w (List.mem_cons_of_mem _ h)
  have hown : s.vm.findClass R_Md = some m.cls := findClass_of_methodNamed B.named
  have hlocks := B.notSynchronized
  have hP : va_P G vwCl [(a_md, .inr (4, [.int (nI kn), .ref a_mrm, .ref a_mcl, .ref a_mmn, .ref a_mvl, .ref a_mst, .ref a_msi, .ref a_mpl, .ref a_mof, .ref a_mgt, .ref a_msn, .ref a_mdn, .ref a_mca, .ref a_mcc, .ref a_mcw, .ref a_mcv, .long (lN kmo), .int kmt, .int kft])), (a_mrm, .inl (cI, 40, .inl (fun j => nI (kroom j)))), (a_mcl, .inl (cZ, 40, .inl (fun j => bI (kclo j)))), (a_mmn, .inl (cI, 40, .inl (fun j => nI (kmany j)))), (a_mvl, .inl (cI, 320, .inl kvals))] s.heap := hP
  have hl := lv_entry ([.ref a_md, .int b, .int y]) (n := 3) (Nat.le_of_ble_eq_true rfl)
  rw [lg_entry_eq]
  generalize (lg_sl ([.ref a_md, .int b, .int y]) ++ List.replicate (3 - (lg_sl ([.ref a_md, .int b, .int y])).length) Slot.unset).toArray = ls at hl ⊢
  have hl : lv_has ls 3 [(0, .ref a_md), (1, .int b), (2, .int y)] := hl
  obtain ⟨⟨hkn, hKC⟩, hKS, hR, hKL, hmt, hft⟩ := hD2
  refine lv_aload_n hx hb d_Md_channel_0 rfl (lv_at hl 0 rfl) ?_
  refine lv_iload_n hx hb d_Md_channel_1 rfl (lv_at hl 1 rfl) ?_
  refine k_ro (va_runV (As := [.int b]) (rest := []) ⟨hx, hb, hml, hown, hts⟩ (c_Md_isChannel l G cI cZ cJ a_md a_mrm a_mcl a_mmn a_mvl a_mst a_msi a_mpl a_mof a_mgt a_msn a_mdn a_mca a_mcc a_mcw a_mcv kn kmo kmt kft b) (cwV 1 hts (gV t_390 t_391 t_18 t_37 t_392) rfl rfl rfl (by decide +kernel) ⟨Nat.le_of_ble_eq_true rfl, Nat.le_of_ble_eq_true rfl⟩) (kR_V (ci := 4) (q0 := 0) hK hP rfl rfl [0] rfl) rfl rfl hl.1 rfl (lv_room (Nat.le_of_ble_eq_true rfl)) d_Md_channel_2 ⟨Nat.le_of_ble_eq_true rfl, Nat.le_of_ble_eq_true rfl⟩) ?_
  refine b_if_eq (tgt := 18) hx hb d_Md_channel_5 (by decide) (fun c_a => ?_) (fun c_a => ?_)
  · refine lv_iconst (v := (-1)) hx hb d_Md_channel_18 (by decide +kernel) ?_
    exact k_ri hx hb hr hlocks (M_channel_0 (by rw [← hkn]; exact c_a)) d_Md_channel_19
  · refine lv_iload_n hx hb d_Md_channel_8 rfl (lv_at hl 2 rfl) ?_
    refine lv_if_lt (tgt := 18) hx hb d_Md_channel_9 (by decide) (fun c_b => ?_) (fun c_b => ?_)
    · refine lv_iconst (v := (-1)) hx hb d_Md_channel_18 (by decide +kernel) ?_
      exact k_ri hx hb hr hlocks (M_channel_lo c_b) d_Md_channel_19
    · refine lv_iload_n hx hb d_Md_channel_12 rfl (lv_at hl 2 rfl) ?_
      refine lv_bipush (v := (nI 10)) hx hb d_Md_channel_13 (by decide +kernel) ?_
      refine lv_icmp_le (tgt := 20) hx hb d_Md_channel_15 (by decide) (fun c_c => ?_) (fun c_c => ?_)
      · obtain ⟨x, hx2, rfl⟩ := hasB_of (by have := hKC.1; omega) c_a
        have hx0 : x < 40 := Nat.lt_of_lt_of_le hx2 hKC.1
        have hB : hasB (gN σ) (nI x) = true := by rw [← hkn]; exact c_a
        obtain ⟨e1, e2, e3, e4, e5, e6⟩ := hKC.2 x hx2
        obtain ⟨j, hj, rfl⟩ := nI_of2 (M := nI 10) (n := 10) (by decide +kernel) c_b c_c
        refine lv_iload_n hx hb d_Md_channel_20 rfl (lv_at hl 2 rfl) ?_
        refine lv_iconst (v := (nI 3)) hx hb d_Md_channel_21 (by decide +kernel) ?_
        refine n_icmp_ge (tgt := 67) hx hb d_Md_channel_22 (by decide) (by omega) (by decide) (fun c_d => ?_) (fun c_d => ?_)
        · refine lv_iload_n hx hb d_Md_channel_67 rfl (lv_at hl 2 rfl) ?_
          refine lv_iconst (v := (nI 3)) hx hb d_Md_channel_68 (by decide +kernel) ?_
          refine lv_isub hx hb d_Md_channel_69 ?_
          refine k_top (y := (nI (j - 3))) (pk_sub (by omega)) ?_
          refine lv_aload_n hx hb d_Md_channel_70 rfl (lv_at hl 0 rfl) ?_
          refine va_get (D := G) (ci := 4) (v := .ref a_mmn) (C := R_Md) (T := T_Md) (N := 19) hx hb hts uw_Md hown hK hP 0 rfl rfl 3 (by decide) (hts _ t_340) (fun _ h9 => h9) rfl d_Md_channel_71 ?_
          refine lv_iload_n hx hb d_Md_channel_74 rfl (lv_at hl 1 rfl) ?_
          refine k_iald hx hb hK hP 3 0 rfl rfl (by omega) (by decide) d_Md_channel_75 ?_
          refine n_icmp_ge (tgt := 95) hx hb d_Md_channel_76 (by decide) (by omega) (by omega) (fun c_h => ?_) (fun c_h => ?_)
          · refine lv_iconst (v := (nI 0)) hx hb d_Md_channel_95 (by decide +kernel) ?_
            exact k_ri hx hb hr hlocks (by have h9 := M_channel_5 (room := gRoom σ) (shut := gShut σ) (L := gL σ) hB hx0 (j := j - 3) (by omega); rw [show j - 3 + 3 = j by omega] at h9; rw [← h9, List.getD_eq_getElem?_getD, List.getElem?_eq_none (by omega)]; decide +kernel) d_Md_channel_96
          · refine lv_aload_n hx hb d_Md_channel_79 rfl (lv_at hl 0 rfl) ?_
            refine va_get (D := G) (ci := 4) (v := .ref a_mvl) (C := R_Md) (T := T_Md) (N := 19) hx hb hts uw_Md hown hK hP 0 rfl rfl 4 (by decide) (hts _ t_341) (fun _ h9 => h9) rfl d_Md_channel_80 ?_
            refine lv_bipush (v := (nI 8)) hx hb d_Md_channel_83 (by decide +kernel) ?_
            refine lv_iload_n hx hb d_Md_channel_85 rfl (lv_at hl 1 rfl) ?_
            refine lv_imul hx hb d_Md_channel_86 ?_
            refine k_top (y := (nI (8 * x))) (pk_mul 8 x) ?_
            refine lv_iload_n hx hb d_Md_channel_87 rfl (lv_at hl 2 rfl) ?_
            refine lv_iadd hx hb d_Md_channel_88 ?_
            refine k_top (y := (nI ((8 * x) + j))) (nI_add (8 * x) j) ?_
            refine lv_iconst (v := (nI 3)) hx hb d_Md_channel_89 (by decide +kernel) ?_
            refine lv_isub hx hb d_Md_channel_90 ?_
            refine k_top (y := (nI (((8 * x) + j) - 3))) (pk_sub (by omega)) ?_
            refine k_iald hx hb hK hP 4 0 rfl rfl (by omega) (by decide) d_Md_channel_91 ?_
            refine lv_goto (tgt := 96) hx hb d_Md_channel_92 (by decide) ?_
            exact k_ri hx hb hr hlocks (by have h9 := M_channel_5 (room := gRoom σ) (shut := gShut σ) (L := gL σ) hB hx0 (j := j - 3) (by omega); rw [show j - 3 + 3 = j by omega] at h9; rw [← h9, List.getD_eq_getElem?_getD, List.getElem?_eq_getElem (by omega), show 8 * x + j - 3 = 8 * x + (j - 3) by omega]; exact e6 (j - 3) (by omega)) d_Md_channel_96
        · refine lv_iload_n hx hb d_Md_channel_25 rfl (lv_at hl 2 rfl) ?_
          refine n_if_ne (tgt := 38) hx hb d_Md_channel_26 (by decide) (by omega) (fun c_e => ?_) (fun c_e => ?_)
          · refine lv_iload_n hx hb d_Md_channel_38 rfl (lv_at hl 2 rfl) ?_
            refine lv_iconst (v := (nI 1)) hx hb d_Md_channel_39 (by decide +kernel) ?_
            refine n_icmp_ne (tgt := 52) hx hb d_Md_channel_40 (by decide) (by omega) (by decide) (fun c_f => ?_) (fun c_f => ?_)
            · refine lv_aload_n hx hb d_Md_channel_52 rfl (lv_at hl 0 rfl) ?_
              refine va_get (D := G) (ci := 4) (v := .ref a_mcl) (C := R_Md) (T := T_Md) (N := 19) hx hb hts uw_Md hown hK hP 0 rfl rfl 2 (by decide) (hts _ t_339) (fun _ h9 => h9) rfl d_Md_channel_53 ?_
              refine lv_iload_n hx hb d_Md_channel_56 rfl (lv_at hl 1 rfl) ?_
              refine k_zald hx hb hK hP 2 1 rfl rfl (by omega) (by decide) d_Md_channel_57 ?_
              refine b_if_eq (tgt := 65) hx hb d_Md_channel_58 (by decide) (fun c_g => ?_) (fun c_g => ?_)
              · refine lv_iconst (v := (nI 0)) hx hb d_Md_channel_65 (by decide +kernel) ?_
                exact k_ri hx hb hr hlocks (by rw [show j = 2 by omega]; exact (congrArg bI (e3.symm.trans c_g)).symm.trans (M_channel_3 hB hx0)) d_Md_channel_66
              · refine lv_iconst (v := (nI 1)) hx hb d_Md_channel_61 (by decide +kernel) ?_
                refine lv_goto (tgt := 66) hx hb d_Md_channel_62 (by decide) ?_
                exact k_ri hx hb hr hlocks (by rw [show j = 2 by omega]; exact (congrArg bI (e3.symm.trans c_g)).symm.trans (M_channel_3 hB hx0)) d_Md_channel_66
            · refine lv_aload_n hx hb d_Md_channel_43 rfl (lv_at hl 0 rfl) ?_
              refine va_get (D := G) (ci := 4) (v := .ref a_mrm) (C := R_Md) (T := T_Md) (N := 19) hx hb hts uw_Md hown hK hP 0 rfl rfl 1 (by decide) (hts _ t_338) (fun _ h9 => h9) rfl d_Md_channel_44 ?_
              refine lv_iload_n hx hb d_Md_channel_47 rfl (lv_at hl 1 rfl) ?_
              refine k_iald hx hb hK hP 1 0 rfl rfl (by omega) (by decide) d_Md_channel_48 ?_
              refine lv_goto (tgt := 66) hx hb d_Md_channel_49 (by decide) ?_
              exact k_ri hx hb hr hlocks (by rw [e1, c_f]; exact M_channel_2 hB hx0) d_Md_channel_66
          · refine lv_aload_n hx hb d_Md_channel_29 rfl (lv_at hl 0 rfl) ?_
            refine va_get (D := G) (ci := 4) (v := .ref a_mmn) (C := R_Md) (T := T_Md) (N := 19) hx hb hts uw_Md hown hK hP 0 rfl rfl 3 (by decide) (hts _ t_340) (fun _ h9 => h9) rfl d_Md_channel_30 ?_
            refine lv_iload_n hx hb d_Md_channel_33 rfl (lv_at hl 1 rfl) ?_
            refine k_iald hx hb hK hP 3 0 rfl rfl (by omega) (by decide) d_Md_channel_34 ?_
            refine lv_goto (tgt := 66) hx hb d_Md_channel_35 (by decide) ?_
            exact k_ri hx hb hr hlocks (by rw [e4, c_e]; exact M_channel_1 hB hx0) d_Md_channel_66
      · refine lv_iconst (v := (-1)) hx hb d_Md_channel_18 (by decide +kernel) ?_
        exact k_ri hx hb hr hlocks (M_channel_hi c_c) d_Md_channel_19
set_option maxHeartbeats 4000000 in
set_option maxRecDepth 100000 in
theorem c_Md_count (l : Launch) (G : va_G) (cI cZ cJ : ClassId) (a_md : Nat) (a_mrm : Nat) (a_mcl : Nat) (a_mmn : Nat) (a_mvl : Nat) (a_mst : Nat) (a_msi : Nat) (a_mpl : Nat) (a_mof : Nat) (a_mgt : Nat) (a_msn : Nat) (a_mdn : Nat) (a_mca : Nat) (a_mcc : Nat) (a_mcw : Nat) (a_mcv : Nat) (kn : Nat) (kmo : Nat) (kmt : Int32) (kft : Int32) (kst : Nat → Nat) (kroom : Nat → Nat) (kclo : Nat → Bool) (kmany : Nat → Nat) (kvals : Nat → Int32) (ksi : Nat → Nat) (kpl : Nat → Nat) (kof : Nat → Int32) (kgot : Nat → Int32) (ksent : Nat → Bool) (kdone : Nat → Int32) (kca : Nat → Nat) (kcc : Nat → Nat) (kcw : Nat → Nat) (kcv : Nat → Int32) (σ : Sg) (y : Int32) (hD2 : RD kn kroom kclo kmany kvals kst ksi kpl kof kgot ksent kdone kca kcc kcw kcv kmo kmt kft σ) : Met l y_Md_count (w_Md_count) ({ frames := 0, cells := 0, slots := 0, locals := 0 }) (va_Pc [.ref a_md, .int y] (kR G vwCl [(cI, .int), (cZ, .boolean), (cJ, .long)] [(a_md, .inr (4, [.int (nI kn), .ref a_mrm, .ref a_mcl, .ref a_mmn, .ref a_mvl, .ref a_mst, .ref a_msi, .ref a_mpl, .ref a_mof, .ref a_mgt, .ref a_msn, .ref a_mdn, .ref a_mca, .ref a_mcc, .ref a_mcw, .ref a_mcv, .long (lN kmo), .int kmt, .int kft])), (a_mst, .inl (cI, 16, .inl (fun j => nI (kst j))))])) (QcRead ((M_count (gN σ) (gLine σ).length (gMt σ) (gFt σ) y))) 0 0 (fun _ => False) := by
  refine Met.ofW (cc := b_Md_count) (maxL := 4) (ret := (some .int)) (by decide) rfl ?_
  intro p e s m args below meth c s₁ B hml hv
  obtain ⟨rfl, hP, hK⟩ := hv
  have hx := B.exec
  have hb := B.bytes
  have hr := B.returns
  have hts : ∀ w ∈ TT, w.before _ s = true := fun w h => atoms_spec (ws := (w_Md_count)) B.pre w (List.mem_cons_of_mem _ h)
  have hown : s.vm.findClass R_Md = some m.cls := findClass_of_methodNamed B.named
  have hlocks := B.notSynchronized
  have hP : va_P G vwCl [(a_md, .inr (4, [.int (nI kn), .ref a_mrm, .ref a_mcl, .ref a_mmn, .ref a_mvl, .ref a_mst, .ref a_msi, .ref a_mpl, .ref a_mof, .ref a_mgt, .ref a_msn, .ref a_mdn, .ref a_mca, .ref a_mcc, .ref a_mcw, .ref a_mcv, .long (lN kmo), .int kmt, .int kft])), (a_mst, .inl (cI, 16, .inl (fun j => nI (kst j))))] s.heap := hP
  have hl := lv_entry ([.ref a_md, .int y]) (n := 4) (Nat.le_of_ble_eq_true rfl)
  rw [lg_entry_eq]
  generalize (lg_sl ([.ref a_md, .int y]) ++ List.replicate (4 - (lg_sl ([.ref a_md, .int y])).length) Slot.unset).toArray = ls at hl ⊢
  have hl : lv_has ls 4 [(0, .ref a_md), (1, .int y)] := hl
  obtain ⟨⟨hkn, hKC⟩, hKS, hR, hKL, hmt, hft⟩ := hD2
  refine lv_iconst (v := (nI 0)) hx hb d_Md_count_0 (by decide +kernel) ?_
  refine lv_istore_n (lv' := [(2, .int (nI 0)), (0, .ref a_md), (1, .int y)]) hx hb d_Md_count_1 rfl hl (by decide) rfl (fun ls hl => ?_)
  refine lv_iconst (v := (nI 0)) hx hb d_Md_count_2 (by decide +kernel) ?_
  refine lv_istore_n (lv' := [(3, .int (nI 0)), (2, .int (nI 0)), (0, .ref a_md), (1, .int y)]) hx hb d_Md_count_3 rfl hl (by decide) rfl (fun ls hl => ?_)
  have loop_4 : ∀ (k : Nat) (wn : Nat) (i : Nat) (ls : Array Slot), i ≤ 16 → wn = cntW kst i → 16 - i < k → lv_has ls 4 [(0, .ref a_md), (1, .int y), (2, .int (nI wn)), (3, .int (nI i))] → W p l e (headSpec (w_Md_count) ({ frames := 0, cells := 0, slots := 0, locals := 0 })).room s m (List.toArray [.ref a_md, .int y]) below meth c s.heap [] 0 0 (MQ below (QcRead ((M_count (gN σ) (gLine σ).length (gMt σ) (gFt σ) y))) (List.toArray [.ref a_md, .int y]) s 0 0 (fun _ => False)) (F0 m 4 ls []) := by
    intro k
    induction k with
    | zero => intro wn i ls hi hw9 hk; exact absurd hk (Nat.not_lt_zero _)
    | succ k ih_4 =>
      intro wn i ls hi hw9 hk hl
      refine lv_iload_n hx hb d_Md_count_4 rfl (lv_at hl 3 rfl) ?_
      refine lv_bipush (v := (nI 16)) hx hb d_Md_count_5 (by decide +kernel) ?_
      refine n_icmp_ge (tgt := 43) hx hb d_Md_count_7 (by decide) (by omega) (by decide) (fun c_a => ?_) (fun c_a => ?_)
      · have hwn : wn = (gLine σ).length := by rw [hw9, show i = 16 by omega]; exact cntW_16 hKL
        rcases tsw4 y with hsw | rfl | rfl | rfl | rfl
        · refine lv_iload_n hx hb d_Md_count_43 rfl (lv_at hl 1 rfl) ?_
          refine lv_if_ne (tgt := 54) hx hb d_Md_count_44 (by decide) (fun c_2 => ?_) (fun c_2 => absurd (c_2.trans nI_0.symm) (tsw_ne (k := 0) (by decide) hsw (by decide)))
          refine lv_iload_n hx hb d_Md_count_54 rfl (lv_at hl 1 rfl) ?_
          refine lv_iconst (v := (nI 1)) hx hb d_Md_count_55 (by decide +kernel) ?_
          refine lv_icmp_ne (tgt := 63) hx hb d_Md_count_56 (by decide) (fun c_3 => ?_) (fun c_3 => absurd c_3 (tsw_ne (k := 1) (by decide) hsw (by decide)))
          refine lv_iload_n hx hb d_Md_count_63 rfl (lv_at hl 1 rfl) ?_
          refine lv_iconst (v := (nI 2)) hx hb d_Md_count_64 (by decide +kernel) ?_
          refine lv_icmp_ne (tgt := 75) hx hb d_Md_count_65 (by decide) (fun c_4 => ?_) (fun c_4 => absurd c_4 (tsw_ne (k := 2) (by decide) hsw (by decide)))
          refine lv_iload_n hx hb d_Md_count_75 rfl (lv_at hl 1 rfl) ?_
          refine lv_iconst (v := (nI 3)) hx hb d_Md_count_76 (by decide +kernel) ?_
          refine lv_icmp_ne (tgt := 87) hx hb d_Md_count_77 (by decide) (fun c_5 => ?_) (fun c_5 => absurd c_5 (tsw_ne (k := 3) (by decide) hsw (by decide)))
          refine lv_iconst (v := (-1)) hx hb d_Md_count_87 (by decide +kernel) ?_
          exact k_ri hx hb hr hlocks (M_count_4 hsw) d_Md_count_88
        · refine lv_iload_n hx hb d_Md_count_43 rfl (lv_at hl 1 rfl) ?_
          refine n_if_ne (tgt := 54) hx hb d_Md_count_44 (by decide) (by decide) (fun c_6 => absurd c_6 (by decide)) (fun c_6 => ?_)
          refine lv_aload_n hx hb d_Md_count_47 rfl (lv_at hl 0 rfl) ?_
          refine va_get (D := G) (ci := 4) (v := .int (nI kn)) (C := R_Md) (T := T_Md) (N := 19) hx hb hts uw_Md hown hK hP 0 rfl rfl 0 (by decide) (hts _ t_337) (fun _ h9 => h9) rfl d_Md_count_48 ?_
          refine lv_goto (tgt := 88) hx hb d_Md_count_51 (by decide) ?_
          exact k_ri hx hb hr hlocks (by rw [hkn]; exact M_count_0) d_Md_count_88
        · refine lv_iload_n hx hb d_Md_count_43 rfl (lv_at hl 1 rfl) ?_
          refine n_if_ne (tgt := 54) hx hb d_Md_count_44 (by decide) (by decide) (fun c_7 => ?_) (fun c_7 => absurd c_7 (by decide))
          refine lv_iload_n hx hb d_Md_count_54 rfl (lv_at hl 1 rfl) ?_
          refine lv_iconst (v := (nI 1)) hx hb d_Md_count_55 (by decide +kernel) ?_
          refine n_icmp_ne (tgt := 63) hx hb d_Md_count_56 (by decide) (by decide) (by decide) (fun c_8 => absurd c_8 (by decide)) (fun c_8 => ?_)
          refine lv_iload_n hx hb d_Md_count_59 rfl (lv_at hl 2 rfl) ?_
          refine lv_goto (tgt := 88) hx hb d_Md_count_60 (by decide) ?_
          exact k_ri hx hb hr hlocks (by rw [hwn]; exact M_count_1) d_Md_count_88
        · refine lv_iload_n hx hb d_Md_count_43 rfl (lv_at hl 1 rfl) ?_
          refine n_if_ne (tgt := 54) hx hb d_Md_count_44 (by decide) (by decide) (fun c_9 => ?_) (fun c_9 => absurd c_9 (by decide))
          refine lv_iload_n hx hb d_Md_count_54 rfl (lv_at hl 1 rfl) ?_
          refine lv_iconst (v := (nI 1)) hx hb d_Md_count_55 (by decide +kernel) ?_
          refine n_icmp_ne (tgt := 63) hx hb d_Md_count_56 (by decide) (by decide) (by decide) (fun c_10 => ?_) (fun c_10 => absurd c_10 (by decide))
          refine lv_iload_n hx hb d_Md_count_63 rfl (lv_at hl 1 rfl) ?_
          refine lv_iconst (v := (nI 2)) hx hb d_Md_count_64 (by decide +kernel) ?_
          refine n_icmp_ne (tgt := 75) hx hb d_Md_count_65 (by decide) (by decide) (by decide) (fun c_11 => absurd c_11 (by decide)) (fun c_11 => ?_)
          refine lv_aload_n hx hb d_Md_count_68 rfl (lv_at hl 0 rfl) ?_
          refine va_get (D := G) (ci := 4) (v := .int kmt) (C := R_Md) (T := T_Md) (N := 19) hx hb hts uw_Md hown hK hP 0 rfl rfl 17 (by decide) (hts _ t_354) (fun _ h9 => h9) rfl d_Md_count_69 ?_
          refine lv_goto (tgt := 88) hx hb d_Md_count_72 (by decide) ?_
          exact k_ri hx hb hr hlocks (by rw [hmt]; exact M_count_2) d_Md_count_88
        · refine lv_iload_n hx hb d_Md_count_43 rfl (lv_at hl 1 rfl) ?_
          refine n_if_ne (tgt := 54) hx hb d_Md_count_44 (by decide) (by decide) (fun c_12 => ?_) (fun c_12 => absurd c_12 (by decide))
          refine lv_iload_n hx hb d_Md_count_54 rfl (lv_at hl 1 rfl) ?_
          refine lv_iconst (v := (nI 1)) hx hb d_Md_count_55 (by decide +kernel) ?_
          refine n_icmp_ne (tgt := 63) hx hb d_Md_count_56 (by decide) (by decide) (by decide) (fun c_13 => ?_) (fun c_13 => absurd c_13 (by decide))
          refine lv_iload_n hx hb d_Md_count_63 rfl (lv_at hl 1 rfl) ?_
          refine lv_iconst (v := (nI 2)) hx hb d_Md_count_64 (by decide +kernel) ?_
          refine n_icmp_ne (tgt := 75) hx hb d_Md_count_65 (by decide) (by decide) (by decide) (fun c_14 => ?_) (fun c_14 => absurd c_14 (by decide))
          refine lv_iload_n hx hb d_Md_count_75 rfl (lv_at hl 1 rfl) ?_
          refine lv_iconst (v := (nI 3)) hx hb d_Md_count_76 (by decide +kernel) ?_
          refine n_icmp_ne (tgt := 87) hx hb d_Md_count_77 (by decide) (by decide) (by decide) (fun c_15 => absurd c_15 (by decide)) (fun c_15 => ?_)
          refine lv_aload_n hx hb d_Md_count_80 rfl (lv_at hl 0 rfl) ?_
          refine va_get (D := G) (ci := 4) (v := .int kft) (C := R_Md) (T := T_Md) (N := 19) hx hb hts uw_Md hown hK hP 0 rfl rfl 18 (by decide) (hts _ t_355) (fun _ h9 => h9) rfl d_Md_count_81 ?_
          refine lv_goto (tgt := 88) hx hb d_Md_count_84 (by decide) ?_
          exact k_ri hx hb hr hlocks (by rw [hft]; exact M_count_3) d_Md_count_88
      · have hs5 := (hR i (by omega)).1
        have hwl : wn ≤ 16 := by rw [hw9]; exact Nat.le_trans cntW_le hi
        refine lv_aload_n hx hb d_Md_count_10 rfl (lv_at hl 0 rfl) ?_
        refine va_get (D := G) (ci := 4) (v := .ref a_mst) (C := R_Md) (T := T_Md) (N := 19) hx hb hts uw_Md hown hK hP 0 rfl rfl 5 (by decide) (hts _ t_342) (fun _ h9 => h9) rfl d_Md_count_11 ?_
        refine lv_iload_n hx hb d_Md_count_14 rfl (lv_at hl 3 rfl) ?_
        refine k_iald hx hb hK hP 1 0 rfl rfl (by omega) (by decide) d_Md_count_15 ?_
        refine n_if_le (tgt := 35) hx hb d_Md_count_16 (by decide) (by omega) (fun c_b => ?_) (fun c_b => ?_)
        · refine lv_iload_n hx hb d_Md_count_35 rfl (lv_at hl 2 rfl) ?_
          refine lv_istore_n (lv' := [(2, .int (nI wn)), (0, .ref a_md), (1, .int y), (3, .int (nI i))]) hx hb d_Md_count_36 rfl hl (by decide) rfl (fun ls hl => ?_)
          refine lv_iinc (v := (nI (i + 1))) (lv' := [(3, .int (nI (i + 1))), (2, .int (nI wn)), (0, .ref a_md), (1, .int y)]) hx hb d_Md_count_37 hl (k := 3) rfl (nI_add i 1) (by decide) rfl (fun ls hl => ?_)
          refine lv_goto (tgt := 4) hx hb d_Md_count_40 (by decide) ?_
          exact ih_4 wn (i + 1) ls (by omega) (by rw [cntW_f (by omega)]; exact hw9) (by omega) (lv_sub hl [2, 3, 1, 0] rfl)
        · refine lv_aload_n hx hb d_Md_count_19 rfl (lv_at hl 0 rfl) ?_
          refine va_get (D := G) (ci := 4) (v := .ref a_mst) (C := R_Md) (T := T_Md) (N := 19) hx hb hts uw_Md hown hK hP 0 rfl rfl 5 (by decide) (hts _ t_342) (fun _ h9 => h9) rfl d_Md_count_20 ?_
          refine lv_iload_n hx hb d_Md_count_23 rfl (lv_at hl 3 rfl) ?_
          refine k_iald hx hb hK hP 1 0 rfl rfl (by omega) (by decide) d_Md_count_24 ?_
          refine lv_iconst (v := (nI 4)) hx hb d_Md_count_25 (by decide +kernel) ?_
          refine n_icmp_ge (tgt := 35) hx hb d_Md_count_26 (by decide) (by omega) (by decide) (fun c_c => ?_) (fun c_c => ?_)
          · refine lv_iload_n hx hb d_Md_count_35 rfl (lv_at hl 2 rfl) ?_
            refine lv_istore_n (lv' := [(2, .int (nI wn)), (0, .ref a_md), (1, .int y), (3, .int (nI i))]) hx hb d_Md_count_36 rfl hl (by decide) rfl (fun ls hl => ?_)
            refine lv_iinc (v := (nI (i + 1))) (lv' := [(3, .int (nI (i + 1))), (2, .int (nI wn)), (0, .ref a_md), (1, .int y)]) hx hb d_Md_count_37 hl (k := 3) rfl (nI_add i 1) (by decide) rfl (fun ls hl => ?_)
            refine lv_goto (tgt := 4) hx hb d_Md_count_40 (by decide) ?_
            exact ih_4 wn (i + 1) ls (by omega) (by rw [cntW_f (by omega)]; exact hw9) (by omega) (lv_sub hl [2, 3, 1, 0] rfl)
          · refine lv_iload_n hx hb d_Md_count_29 rfl (lv_at hl 2 rfl) ?_
            refine lv_iconst (v := (nI 1)) hx hb d_Md_count_30 (by decide +kernel) ?_
            refine lv_iadd hx hb d_Md_count_31 ?_
            refine k_top (y := (nI (wn + 1))) (nI_add wn 1) ?_
            refine lv_goto (tgt := 36) hx hb d_Md_count_32 (by decide) ?_
            refine lv_istore_n (lv' := [(2, .int (nI (wn + 1))), (0, .ref a_md), (1, .int y), (3, .int (nI i))]) hx hb d_Md_count_36 rfl hl (by decide) rfl (fun ls hl => ?_)
            refine lv_iinc (v := (nI (i + 1))) (lv' := [(3, .int (nI (i + 1))), (2, .int (nI (wn + 1))), (0, .ref a_md), (1, .int y)]) hx hb d_Md_count_37 hl (k := 3) rfl (nI_add i 1) (by decide) rfl (fun ls hl => ?_)
            refine lv_goto (tgt := 4) hx hb d_Md_count_40 (by decide) ?_
            exact ih_4 (wn + 1) (i + 1) ls (by omega) (by rw [cntW_t c_b c_c, ← hw9]) (by omega) (lv_sub hl [2, 3, 1, 0] rfl)
  exact loop_4 ((16 - 0) + 1) 0 0 ls (by decide) (rfl) (Nat.lt_succ_self _) (lv_sub hl [2, 3, 1, 0] rfl)
