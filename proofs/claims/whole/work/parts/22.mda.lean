set_option maxHeartbeats 4000000 in
set_option maxRecDepth 100000 in
theorem c_Md_isRoutine (l : Launch) (G : va_G) (cI cZ cJ : ClassId) (y : Int32)  : Met l y_Md_isRoutine (w_Md_isRoutine) ({ frames := 0, cells := 0, slots := 0, locals := 0 }) (va_Pc [.int y] (kR G vwCl [(cI, .int), (cZ, .boolean), (cJ, .long)] [])) (QcRead ((bI (hasB 16 y)))) 0 0 (fun _ => False) := by
  refine Met.ofW (cc := b_Md_isRoutine) (maxL := 1) (ret := (some .boolean)) (by decide) rfl ?_
  intro p e s m args below meth c s₁ B hml hv
  obtain ⟨rfl, hP, hK⟩ := hv
  have hx := B.exec
  have hb := B.bytes
  have hr := B.returns
  have hts : ∀ w ∈ TT, w.before _ s = true := fun w h => atoms_spec (ws := (w_Md_isRoutine)) B.pre w (List.mem_cons_of_mem _ h)
  have hown : s.vm.findClass R_Md = some m.cls := findClass_of_methodNamed B.named
  have hlocks := B.notSynchronized
  have hP : va_P G vwCl [] s.heap := hP
  have hl := lv_entry ([.int y]) (n := 1) (Nat.le_of_ble_eq_true rfl)
  rw [lg_entry_eq]
  generalize (lg_sl ([.int y]) ++ List.replicate (1 - (lg_sl ([.int y])).length) Slot.unset).toArray = ls at hl ⊢
  have hl : lv_has ls 1 [(0, .int y)] := hl
  refine lv_iload_n hx hb d_Md_isRoutine_0 rfl (lv_at hl 0 rfl) ?_
  refine lv_if_lt (tgt := 14) hx hb d_Md_isRoutine_1 (by decide) (fun c_a => ?_) (fun c_a => ?_)
  · refine lv_iconst (v := (nI 0)) hx hb d_Md_isRoutine_14 (by decide +kernel) ?_
    exact k_rz hx hb hr hlocks (by decide +kernel) (bI_df (fun z => z.1 c_a)) d_Md_isRoutine_15
  · refine lv_iload_n hx hb d_Md_isRoutine_4 rfl (lv_at hl 0 rfl) ?_
    refine lv_bipush (v := (nI 16)) hx hb d_Md_isRoutine_5 (by decide +kernel) ?_
    refine lv_icmp_ge (tgt := 14) hx hb d_Md_isRoutine_7 (by decide) (fun c_b => ?_) (fun c_b => ?_)
    · refine lv_iconst (v := (nI 0)) hx hb d_Md_isRoutine_14 (by decide +kernel) ?_
      exact k_rz hx hb hr hlocks (by decide +kernel) (bI_df (fun z => z.2 c_b)) d_Md_isRoutine_15
    · refine lv_iconst (v := (nI 1)) hx hb d_Md_isRoutine_10 (by decide +kernel) ?_
      refine lv_goto (tgt := 15) hx hb d_Md_isRoutine_11 (by decide) ?_
      exact k_rz hx hb hr hlocks (by decide +kernel) (bI_dt ⟨c_a, c_b⟩) d_Md_isRoutine_15
set_option maxHeartbeats 4000000 in
set_option maxRecDepth 100000 in
theorem c_Md_isChannel (l : Launch) (G : va_G) (cI cZ cJ : ClassId) (a_md : Nat) (a_mrm : Nat) (a_mcl : Nat) (a_mmn : Nat) (a_mvl : Nat) (a_mst : Nat) (a_msi : Nat) (a_mpl : Nat) (a_mof : Nat) (a_mgt : Nat) (a_msn : Nat) (a_mdn : Nat) (a_mca : Nat) (a_mcc : Nat) (a_mcw : Nat) (a_mcv : Nat) (kn : Nat) (kmo : Nat) (kmt : Int32) (kft : Int32) (y : Int32)  : Met l y_Md_isChannel (w_Md_isChannel) ({ frames := 0, cells := 0, slots := 0, locals := 0 }) (va_Pc [.ref a_md, .int y] (kR G vwCl [(cI, .int), (cZ, .boolean), (cJ, .long)] [(a_md, .inr (4, [.int (nI kn), .ref a_mrm, .ref a_mcl, .ref a_mmn, .ref a_mvl, .ref a_mst, .ref a_msi, .ref a_mpl, .ref a_mof, .ref a_mgt, .ref a_msn, .ref a_mdn, .ref a_mca, .ref a_mcc, .ref a_mcw, .ref a_mcv, .long (lN kmo), .int kmt, .int kft]))])) (QcRead ((bI (hasB kn y)))) 0 0 (fun _ => False) := by
  refine Met.ofW (cc := b_Md_isChannel) (maxL := 2) (ret := (some .boolean)) (by decide) rfl ?_
  intro p e s m args below meth c s₁ B hml hv
  obtain ⟨rfl, hP, hK⟩ := hv
  have hx := B.exec
  have hb := B.bytes
  have hr := B.returns
  have hts : ∀ w ∈ TT, w.before _ s = true := fun w h => atoms_spec (ws := (w_Md_isChannel)) B.pre w (List.mem_cons_of_mem _ h)
  have hown : s.vm.findClass R_Md = some m.cls := findClass_of_methodNamed B.named
  have hlocks := B.notSynchronized
  have hP : va_P G vwCl [(a_md, .inr (4, [.int (nI kn), .ref a_mrm, .ref a_mcl, .ref a_mmn, .ref a_mvl, .ref a_mst, .ref a_msi, .ref a_mpl, .ref a_mof, .ref a_mgt, .ref a_msn, .ref a_mdn, .ref a_mca, .ref a_mcc, .ref a_mcw, .ref a_mcv, .long (lN kmo), .int kmt, .int kft]))] s.heap := hP
  have hl := lv_entry ([.ref a_md, .int y]) (n := 2) (Nat.le_of_ble_eq_true rfl)
  rw [lg_entry_eq]
  generalize (lg_sl ([.ref a_md, .int y]) ++ List.replicate (2 - (lg_sl ([.ref a_md, .int y])).length) Slot.unset).toArray = ls at hl ⊢
  have hl : lv_has ls 2 [(0, .ref a_md), (1, .int y)] := hl
  refine lv_iload_n hx hb d_Md_isChannel_0 rfl (lv_at hl 1 rfl) ?_
  refine lv_if_lt (tgt := 16) hx hb d_Md_isChannel_1 (by decide) (fun c_a => ?_) (fun c_a => ?_)
  · refine lv_iconst (v := (nI 0)) hx hb d_Md_isChannel_16 (by decide +kernel) ?_
    exact k_rz hx hb hr hlocks (by decide +kernel) (bI_df (fun z => z.1 c_a)) d_Md_isChannel_17
  · refine lv_iload_n hx hb d_Md_isChannel_4 rfl (lv_at hl 1 rfl) ?_
    refine lv_aload_n hx hb d_Md_isChannel_5 rfl (lv_at hl 0 rfl) ?_
    refine va_get (D := G) (ci := 4) (v := .int (nI kn)) (C := R_Md) (T := T_Md) (N := 19) hx hb hts uw_Md hown hK hP 0 rfl rfl 0 (by decide) (hts _ t_337) (fun _ h9 => h9) rfl d_Md_isChannel_6 ?_
    refine lv_icmp_ge (tgt := 16) hx hb d_Md_isChannel_9 (by decide) (fun c_b => ?_) (fun c_b => ?_)
    · refine lv_iconst (v := (nI 0)) hx hb d_Md_isChannel_16 (by decide +kernel) ?_
      exact k_rz hx hb hr hlocks (by decide +kernel) (bI_df (fun z => z.2 c_b)) d_Md_isChannel_17
    · refine lv_iconst (v := (nI 1)) hx hb d_Md_isChannel_12 (by decide +kernel) ?_
      refine lv_goto (tgt := 17) hx hb d_Md_isChannel_13 (by decide) ?_
      exact k_rz hx hb hr hlocks (by decide +kernel) (bI_dt ⟨c_a, c_b⟩) d_Md_isChannel_17
set_option maxHeartbeats 4000000 in
set_option maxRecDepth 100000 in
theorem c_Md_isReady (l : Launch) (G : va_G) (cI cZ cJ : ClassId) (a_md : Nat) (a_mrm : Nat) (a_mcl : Nat) (a_mmn : Nat) (a_mvl : Nat) (a_mst : Nat) (a_msi : Nat) (a_mpl : Nat) (a_mof : Nat) (a_mgt : Nat) (a_msn : Nat) (a_mdn : Nat) (a_mca : Nat) (a_mcc : Nat) (a_mcw : Nat) (a_mcv : Nat) (kn : Nat) (kmo : Nat) (kmt : Int32) (kft : Int32) (kst : Nat → Nat) (y : Int32) (hst : ∀ j, j < 16 → kst j < 5) : Met l y_Md_isReady (w_Md_isReady) ({ frames := 1, cells := 0, slots := 0, locals := 20 }) (va_Pc [.ref a_md, .int y] (kR G vwCl [(cI, .int), (cZ, .boolean), (cJ, .long)] [(a_md, .inr (4, [.int (nI kn), .ref a_mrm, .ref a_mcl, .ref a_mmn, .ref a_mvl, .ref a_mst, .ref a_msi, .ref a_mpl, .ref a_mof, .ref a_mgt, .ref a_msn, .ref a_mdn, .ref a_mca, .ref a_mcc, .ref a_mcw, .ref a_mcv, .long (lN kmo), .int kmt, .int kft])), (a_mst, .inl (cI, 16, .inl (fun j => nI (kst j))))])) (QcRead ((bI (rdyB kst y)))) 0 0 (fun _ => False) := by
  refine Met.ofW (cc := b_Md_isReady) (maxL := 2) (ret := (some .boolean)) (by decide) rfl ?_
  intro p e s m args below meth c s₁ B hml hv
  obtain ⟨rfl, hP, hK⟩ := hv
  have hx := B.exec
  have hb := B.bytes
  have hr := B.returns
  have hts : ∀ w ∈ TT, w.before _ s = true := fun w h => atoms_spec (ws := (w_Md_isReady)) B.pre w (List.mem_cons_of_mem _ h)
  have hown : s.vm.findClass R_Md = some m.cls := findClass_of_methodNamed B.named
  have hlocks := B.notSynchronized
  have hP : va_P G vwCl [(a_md, .inr (4, [.int (nI kn), .ref a_mrm, .ref a_mcl, .ref a_mmn, .ref a_mvl, .ref a_mst, .ref a_msi, .ref a_mpl, .ref a_mof, .ref a_mgt, .ref a_msn, .ref a_mdn, .ref a_mca, .ref a_mcc, .ref a_mcw, .ref a_mcv, .long (lN kmo), .int kmt, .int kft])), (a_mst, .inl (cI, 16, .inl (fun j => nI (kst j))))] s.heap := hP
  have hl := lv_entry ([.ref a_md, .int y]) (n := 2) (Nat.le_of_ble_eq_true rfl)
  rw [lg_entry_eq]
  generalize (lg_sl ([.ref a_md, .int y]) ++ List.replicate (2 - (lg_sl ([.ref a_md, .int y])).length) Slot.unset).toArray = ls at hl ⊢
  have hl : lv_has ls 2 [(0, .ref a_md), (1, .int y)] := hl
  refine lv_iload_n hx hb d_Md_isReady_0 rfl (lv_at hl 1 rfl) ?_
  refine k_ro (va_runS (As := [.int y]) (rest := []) ⟨hx, hb, hml, hown, hts⟩ (c_Md_isRoutine l G cI cZ cJ y) (va_cwS 1 hts (gS t_387 t_388 t_37 t_389) rfl rfl rfl (by decide +kernel) ⟨Nat.le_of_ble_eq_true rfl, Nat.le_of_ble_eq_true rfl⟩) (kR_S hK hP [] rfl) rfl rfl hl.1 rfl (lv_room (Nat.le_of_ble_eq_true rfl)) d_Md_isReady_1 ⟨Nat.le_of_ble_eq_true rfl, Nat.le_of_ble_eq_true rfl⟩) ?_
  refine b_if_eq (tgt := 30) hx hb d_Md_isReady_4 (by decide) (fun c_a => ?_) (fun c_a => ?_)
  · refine lv_iconst (v := (nI 0)) hx hb d_Md_isReady_30 (by decide +kernel) ?_
    exact k_rz hx hb hr hlocks (by decide +kernel) (rdyB_n c_a) d_Md_isReady_31
  · obtain ⟨q, hq, rfl⟩ := hasB_of (by decide) c_a
    have hs := hst q hq
    refine lv_aload_n hx hb d_Md_isReady_7 rfl (lv_at hl 0 rfl) ?_
    refine va_get (D := G) (ci := 4) (v := .ref a_mst) (C := R_Md) (T := T_Md) (N := 19) hx hb hts uw_Md hown hK hP 0 rfl rfl 5 (by decide) (hts _ t_342) (fun _ h9 => h9) rfl d_Md_isReady_8 ?_
    refine lv_iload_n hx hb d_Md_isReady_11 rfl (lv_at hl 1 rfl) ?_
    refine k_iald hx hb hK hP 1 0 rfl rfl (by omega) (by decide) d_Md_isReady_12 ?_
    refine n_if_eq (tgt := 26) hx hb d_Md_isReady_13 (by decide) (by omega) (fun c_b => ?_) (fun c_b => ?_)
    · refine lv_iconst (v := (nI 1)) hx hb d_Md_isReady_26 (by decide +kernel) ?_
      refine lv_goto (tgt := 31) hx hb d_Md_isReady_27 (by decide) ?_
      exact k_rz hx hb hr hlocks (by decide +kernel) (rdyB_t hq (Or.inl c_b)) d_Md_isReady_31
    · refine lv_aload_n hx hb d_Md_isReady_16 rfl (lv_at hl 0 rfl) ?_
      refine va_get (D := G) (ci := 4) (v := .ref a_mst) (C := R_Md) (T := T_Md) (N := 19) hx hb hts uw_Md hown hK hP 0 rfl rfl 5 (by decide) (hts _ t_342) (fun _ h9 => h9) rfl d_Md_isReady_17 ?_
      refine lv_iload_n hx hb d_Md_isReady_20 rfl (lv_at hl 1 rfl) ?_
      refine k_iald hx hb hK hP 1 0 rfl rfl (by omega) (by decide) d_Md_isReady_21 ?_
      refine lv_iconst (v := (nI 4)) hx hb d_Md_isReady_22 (by decide +kernel) ?_
      refine n_icmp_ne (tgt := 30) hx hb d_Md_isReady_23 (by decide) (by omega) (by decide) (fun c_c => ?_) (fun c_c => ?_)
      · refine lv_iconst (v := (nI 0)) hx hb d_Md_isReady_30 (by decide +kernel) ?_
        exact k_rz hx hb hr hlocks (by decide +kernel) (rdyB_f hq c_b c_c) d_Md_isReady_31
      · refine lv_iconst (v := (nI 1)) hx hb d_Md_isReady_26 (by decide +kernel) ?_
        refine lv_goto (tgt := 31) hx hb d_Md_isReady_27 (by decide) ?_
        exact k_rz hx hb hr hlocks (by decide +kernel) (rdyB_t hq (Or.inr c_c)) d_Md_isReady_31
set_option maxHeartbeats 4000000 in
set_option maxRecDepth 100000 in
theorem c_Md_caseAt0 (l : Launch) (G : va_G) (cI cZ cJ : ClassId) (a_md : Nat) (a_mrm : Nat) (a_mcl : Nat) (a_mmn : Nat) (a_mvl : Nat) (a_mst : Nat) (a_msi : Nat) (a_mpl : Nat) (a_mof : Nat) (a_mgt : Nat) (a_msn : Nat) (a_mdn : Nat) (a_mca : Nat) (a_mcc : Nat) (a_mcw : Nat) (a_mcv : Nat) (kn : Nat) (kmo : Nat) (kmt : Int32) (kft : Int32) (kca : Nat → Nat) (kcc : Nat → Nat) (kcw : Nat → Nat) (kst : Nat → Nat) (kpl : Nat → Nat) (kof : Nat → Int32) (kcv : Nat → Int32) (cs : Nat → List Kase) (q : Nat) (x : Nat) (w : Nat) (hq : q < 16) (hx1 : x < 40) (hn : kn ≤ 40) (hs3 : kst q = 3) (hw1 : w < 2) (hR : KR kn kst kpl kof kca kcc kcw kcv cs) : Met l y_Md_caseAt (w_Md_caseAt) ({ frames := 0, cells := 0, slots := 0, locals := 0 }) (va_Pc [.ref a_md, .int (nI q), .int (nI x), .int (nI w)] (kR G vwCl [(cI, .int), (cZ, .boolean), (cJ, .long)] [(a_md, .inr (4, [.int (nI kn), .ref a_mrm, .ref a_mcl, .ref a_mmn, .ref a_mvl, .ref a_mst, .ref a_msi, .ref a_mpl, .ref a_mof, .ref a_mgt, .ref a_msn, .ref a_mdn, .ref a_mca, .ref a_mcc, .ref a_mcw, .ref a_mcv, .long (lN kmo), .int kmt, .int kft])), (a_mca, .inl (cI, 16, .inl (fun j => nI (kca j)))), (a_mcc, .inl (cI, 96, .inl (fun j => nI (kcc j)))), (a_mcw, .inl (cI, 96, .inl (fun j => nI (kcw j))))])) (QcRead ((caI (fa (cs q) x w)))) 0 0 (fun _ => False) := by
  refine Met.ofW (cc := b_Md_caseAt) (maxL := 5) (ret := (some .int)) (by decide) rfl ?_
  intro p e s m args below meth c s₁ B hml hv
  obtain ⟨rfl, hP, hK⟩ := hv
  have hx := B.exec
  have hb := B.bytes
  have hr := B.returns
  have hts : ∀ w ∈ TT, w.before _ s = true := fun w h => atoms_spec (ws := (w_Md_caseAt)) B.pre w (List.mem_cons_of_mem _ h)
  have hown : s.vm.findClass R_Md = some m.cls := findClass_of_methodNamed B.named
  have hlocks := B.notSynchronized
  have hP : va_P G vwCl [(a_md, .inr (4, [.int (nI kn), .ref a_mrm, .ref a_mcl, .ref a_mmn, .ref a_mvl, .ref a_mst, .ref a_msi, .ref a_mpl, .ref a_mof, .ref a_mgt, .ref a_msn, .ref a_mdn, .ref a_mca, .ref a_mcc, .ref a_mcw, .ref a_mcv, .long (lN kmo), .int kmt, .int kft])), (a_mca, .inl (cI, 16, .inl (fun j => nI (kca j)))), (a_mcc, .inl (cI, 96, .inl (fun j => nI (kcc j)))), (a_mcw, .inl (cI, 96, .inl (fun j => nI (kcw j))))] s.heap := hP
  have hl := lv_entry ([.ref a_md, .int (nI q), .int (nI x), .int (nI w)]) (n := 5) (Nat.le_of_ble_eq_true rfl)
  rw [lg_entry_eq]
  generalize (lg_sl ([.ref a_md, .int (nI q), .int (nI x), .int (nI w)]) ++ List.replicate (5 - (lg_sl ([.ref a_md, .int (nI q), .int (nI x), .int (nI w)])).length) Slot.unset).toArray = ls at hl ⊢
  have hl : lv_has ls 5 [(0, .ref a_md), (1, .int (nI q)), (2, .int (nI x)), (3, .int (nI w))] := hl
  obtain ⟨hh, hh2, hh3⟩ := (hR q hq).2.1 (by omega) (by omega)
  refine lv_iconst (v := (nI 0)) hx hb d_Md_caseAt_0 (by decide +kernel) ?_
  refine lv_istore (lv' := [(4, .int (nI 0)), (0, .ref a_md), (1, .int (nI q)), (2, .int (nI x)), (3, .int (nI w))]) hx hb d_Md_caseAt_1 hl (by decide) rfl (fun ls hl => ?_)
  have loop_3 : ∀ (k : Nat) (i : Nat) (ls : Array Slot), i ≤ (cs q).length → (∀ j (_ : j < i) (h2 : j < (cs q).length), kHit x w (cs q)[j] = false) → (cs q).length - i < k → lv_has ls 5 [(0, .ref a_md), (1, .int (nI q)), (2, .int (nI x)), (3, .int (nI w)), (4, .int (nI i))] → W p l e (headSpec (w_Md_caseAt) ({ frames := 0, cells := 0, slots := 0, locals := 0 })).room s m (List.toArray [.ref a_md, .int (nI q), .int (nI x), .int (nI w)]) below meth c s.heap [] 0 0 (MQ below (QcRead ((caI (fa (cs q) x w)))) (List.toArray [.ref a_md, .int (nI q), .int (nI x), .int (nI w)]) s 0 0 (fun _ => False)) (F0 m 3 ls []) := by
    intro k
    induction k with
    | zero => intro i ls hi hno hk; exact absurd hk (Nat.not_lt_zero _)
    | succ k ih_3 =>
      intro i ls hi hno hk hl
      refine lv_iload hx hb d_Md_caseAt_3 (lv_at hl 4 rfl) ?_
      refine lv_aload_n hx hb d_Md_caseAt_5 rfl (lv_at hl 0 rfl) ?_
      refine va_get (D := G) (ci := 4) (v := .ref a_mca) (C := R_Md) (T := T_Md) (N := 19) hx hb hts uw_Md hown hK hP 0 rfl rfl 12 (by decide) (hts _ t_349) (fun _ h9 => h9) rfl d_Md_caseAt_6 ?_
      refine lv_iload_n hx hb d_Md_caseAt_9 rfl (lv_at hl 1 rfl) ?_
      refine k_iald hx hb hK hP 1 0 rfl rfl (by omega) (by decide) d_Md_caseAt_10 ?_
      refine n_icmp_ge (tgt := 60) hx hb d_Md_caseAt_11 (by decide) (by omega) (by omega) (fun c_a => ?_) (fun c_a => ?_)
      · refine lv_iconst (v := (-1)) hx hb d_Md_caseAt_60 (by decide +kernel) ?_
        exact k_ri hx hb hr hlocks (by rw [fa_none (fun j hj => hno j (by omega) hj)]; rfl) d_Md_caseAt_61
      · have hi2 : i < (cs q).length := by omega
        obtain ⟨g1, g2, g3, g4, g5⟩ := hh3 i hi2
        refine lv_aload_n hx hb d_Md_caseAt_14 rfl (lv_at hl 0 rfl) ?_
        refine va_get (D := G) (ci := 4) (v := .ref a_mcc) (C := R_Md) (T := T_Md) (N := 19) hx hb hts uw_Md hown hK hP 0 rfl rfl 13 (by decide) (hts _ t_350) (fun _ h9 => h9) rfl d_Md_caseAt_15 ?_
        refine lv_bipush (v := (nI 6)) hx hb d_Md_caseAt_18 (by decide +kernel) ?_
        refine lv_iload_n hx hb d_Md_caseAt_20 rfl (lv_at hl 1 rfl) ?_
        refine lv_imul hx hb d_Md_caseAt_21 ?_
        refine k_top (y := (nI (6 * q))) (pk_mul 6 q) ?_
        refine lv_iload hx hb d_Md_caseAt_22 (lv_at hl 4 rfl) ?_
        refine lv_iadd hx hb d_Md_caseAt_24 ?_
        refine k_top (y := (nI ((6 * q) + i))) (nI_add (6 * q) i) ?_
        refine k_iald hx hb hK hP 2 0 rfl rfl (by omega) (by decide) d_Md_caseAt_25 ?_
        refine lv_iload_n hx hb d_Md_caseAt_26 rfl (lv_at hl 2 rfl) ?_
        refine n_icmp_ne (tgt := 54) hx hb d_Md_caseAt_27 (by decide) (by omega) (by omega) (fun c_b => ?_) (fun c_b => ?_)
        · refine lv_iinc (v := (nI (i + 1))) (lv' := [(4, .int (nI (i + 1))), (0, .ref a_md), (1, .int (nI q)), (2, .int (nI x)), (3, .int (nI w))]) hx hb d_Md_caseAt_54 hl (k := 4) rfl (nI_add i 1) (by decide) rfl (fun ls hl => ?_)
          refine lv_goto (tgt := 3) hx hb d_Md_caseAt_57 (by decide) ?_
          exact ih_3 (i + 1) ls (by omega) (hno_succ hno (fun h2 => kHit_f1 (by omega))) (by omega) (lv_sub hl [1, 2, 3, 4, 0] rfl)
        · refine lv_iload_n hx hb d_Md_caseAt_30 rfl (lv_at hl 3 rfl) ?_
          refine lv_iconst (v := (-1)) hx hb d_Md_caseAt_31 (by decide +kernel) ?_
          refine lv_icmp_eq (tgt := 51) hx hb d_Md_caseAt_32 (by decide) (fun c_c => absurd c_c (nI_m1 (by omega))) (fun c_c => ?_)
          refine lv_aload_n hx hb d_Md_caseAt_35 rfl (lv_at hl 0 rfl) ?_
          refine va_get (D := G) (ci := 4) (v := .ref a_mcw) (C := R_Md) (T := T_Md) (N := 19) hx hb hts uw_Md hown hK hP 0 rfl rfl 14 (by decide) (hts _ t_351) (fun _ h9 => h9) rfl d_Md_caseAt_36 ?_
          refine lv_bipush (v := (nI 6)) hx hb d_Md_caseAt_39 (by decide +kernel) ?_
          refine lv_iload_n hx hb d_Md_caseAt_41 rfl (lv_at hl 1 rfl) ?_
          refine lv_imul hx hb d_Md_caseAt_42 ?_
          refine k_top (y := (nI (6 * q))) (pk_mul 6 q) ?_
          refine lv_iload hx hb d_Md_caseAt_43 (lv_at hl 4 rfl) ?_
          refine lv_iadd hx hb d_Md_caseAt_45 ?_
          refine k_top (y := (nI ((6 * q) + i))) (nI_add (6 * q) i) ?_
          refine k_iald hx hb hK hP 3 0 rfl rfl (by omega) (by decide) d_Md_caseAt_46 ?_
          refine lv_iload_n hx hb d_Md_caseAt_47 rfl (lv_at hl 3 rfl) ?_
          refine n_icmp_ne (tgt := 54) hx hb d_Md_caseAt_48 (by decide) (by omega) (by omega) (fun c_d => ?_) (fun c_d => ?_)
          · refine lv_iinc (v := (nI (i + 1))) (lv' := [(4, .int (nI (i + 1))), (0, .ref a_md), (1, .int (nI q)), (2, .int (nI x)), (3, .int (nI w))]) hx hb d_Md_caseAt_54 hl (k := 4) rfl (nI_add i 1) (by decide) rfl (fun ls hl => ?_)
            refine lv_goto (tgt := 3) hx hb d_Md_caseAt_57 (by decide) ?_
            exact ih_3 (i + 1) ls (by omega) (hno_succ hno (fun h2 => kHit_f2 (by omega) (by omega))) (by omega) (lv_sub hl [1, 2, 3, 4, 0] rfl)
          · refine lv_iload hx hb d_Md_caseAt_51 (lv_at hl 4 rfl) ?_
            exact k_ri hx hb hr hlocks (by rw [fa_some hi2 (kHit_t2 (by omega) (by omega)) (fun j hj => hno j hj _)]; rfl) d_Md_caseAt_53
  exact loop_3 (((cs q).length - 0) + 1) 0 ls (Nat.zero_le _) (fun j hj => absurd hj (Nat.not_lt_zero j)) (Nat.lt_succ_self _) (lv_sub hl [1, 2, 3, 4, 0] rfl)
set_option maxHeartbeats 4000000 in
set_option maxRecDepth 100000 in
theorem c_Md_caseAtE (l : Launch) (G : va_G) (cI cZ cJ : ClassId) (a_md : Nat) (a_mrm : Nat) (a_mcl : Nat) (a_mmn : Nat) (a_mvl : Nat) (a_mst : Nat) (a_msi : Nat) (a_mpl : Nat) (a_mof : Nat) (a_mgt : Nat) (a_msn : Nat) (a_mdn : Nat) (a_mca : Nat) (a_mcc : Nat) (a_mcw : Nat) (a_mcv : Nat) (kn : Nat) (kmo : Nat) (kmt : Int32) (kft : Int32) (kca : Nat → Nat) (kcc : Nat → Nat) (kcw : Nat → Nat) (kst : Nat → Nat) (kpl : Nat → Nat) (kof : Nat → Int32) (kcv : Nat → Int32) (cs : Nat → List Kase) (q : Nat) (x : Nat) (hq : q < 16) (hx1 : x < 40) (hn : kn ≤ 40) (hs3 : kst q = 3) (hR : KR kn kst kpl kof kca kcc kcw kcv cs) : Met l y_Md_caseAt (w_Md_caseAt) ({ frames := 0, cells := 0, slots := 0, locals := 0 }) (va_Pc [.ref a_md, .int (nI q), .int (nI x), .int (-1)] (kR G vwCl [(cI, .int), (cZ, .boolean), (cJ, .long)] [(a_md, .inr (4, [.int (nI kn), .ref a_mrm, .ref a_mcl, .ref a_mmn, .ref a_mvl, .ref a_mst, .ref a_msi, .ref a_mpl, .ref a_mof, .ref a_mgt, .ref a_msn, .ref a_mdn, .ref a_mca, .ref a_mcc, .ref a_mcw, .ref a_mcv, .long (lN kmo), .int kmt, .int kft])), (a_mca, .inl (cI, 16, .inl (fun j => nI (kca j)))), (a_mcc, .inl (cI, 96, .inl (fun j => nI (kcc j)))), (a_mcw, .inl (cI, 96, .inl (fun j => nI (kcw j))))])) (QcRead ((caI (fa (cs q) x 2)))) 0 0 (fun _ => False) := by
  refine Met.ofW (cc := b_Md_caseAt) (maxL := 5) (ret := (some .int)) (by decide) rfl ?_
  intro p e s m args below meth c s₁ B hml hv
  obtain ⟨rfl, hP, hK⟩ := hv
  have hx := B.exec
  have hb := B.bytes
  have hr := B.returns
  have hts : ∀ w ∈ TT, w.before _ s = true := fun w h => atoms_spec (ws := (w_Md_caseAt)) B.pre w (List.mem_cons_of_mem _ h)
  have hown : s.vm.findClass R_Md = some m.cls := findClass_of_methodNamed B.named
  have hlocks := B.notSynchronized
  have hP : va_P G vwCl [(a_md, .inr (4, [.int (nI kn), .ref a_mrm, .ref a_mcl, .ref a_mmn, .ref a_mvl, .ref a_mst, .ref a_msi, .ref a_mpl, .ref a_mof, .ref a_mgt, .ref a_msn, .ref a_mdn, .ref a_mca, .ref a_mcc, .ref a_mcw, .ref a_mcv, .long (lN kmo), .int kmt, .int kft])), (a_mca, .inl (cI, 16, .inl (fun j => nI (kca j)))), (a_mcc, .inl (cI, 96, .inl (fun j => nI (kcc j)))), (a_mcw, .inl (cI, 96, .inl (fun j => nI (kcw j))))] s.heap := hP
  have hl := lv_entry ([.ref a_md, .int (nI q), .int (nI x), .int (-1)]) (n := 5) (Nat.le_of_ble_eq_true rfl)
  rw [lg_entry_eq]
  generalize (lg_sl ([.ref a_md, .int (nI q), .int (nI x), .int (-1)]) ++ List.replicate (5 - (lg_sl ([.ref a_md, .int (nI q), .int (nI x), .int (-1)])).length) Slot.unset).toArray = ls at hl ⊢
  have hl : lv_has ls 5 [(0, .ref a_md), (1, .int (nI q)), (2, .int (nI x)), (3, .int (-1))] := hl
  obtain ⟨hh, hh2, hh3⟩ := (hR q hq).2.1 (by omega) (by omega)
  refine lv_iconst (v := (nI 0)) hx hb d_Md_caseAt_0 (by decide +kernel) ?_
  refine lv_istore (lv' := [(4, .int (nI 0)), (0, .ref a_md), (1, .int (nI q)), (2, .int (nI x)), (3, .int (-1))]) hx hb d_Md_caseAt_1 hl (by decide) rfl (fun ls hl => ?_)
  have loop_3 : ∀ (k : Nat) (i : Nat) (ls : Array Slot), i ≤ (cs q).length → (∀ j (_ : j < i) (h2 : j < (cs q).length), kHit x 2 (cs q)[j] = false) → (cs q).length - i < k → lv_has ls 5 [(0, .ref a_md), (1, .int (nI q)), (2, .int (nI x)), (3, .int (-1)), (4, .int (nI i))] → W p l e (headSpec (w_Md_caseAt) ({ frames := 0, cells := 0, slots := 0, locals := 0 })).room s m (List.toArray [.ref a_md, .int (nI q), .int (nI x), .int (-1)]) below meth c s.heap [] 0 0 (MQ below (QcRead ((caI (fa (cs q) x 2)))) (List.toArray [.ref a_md, .int (nI q), .int (nI x), .int (-1)]) s 0 0 (fun _ => False)) (F0 m 3 ls []) := by
    intro k
    induction k with
    | zero => intro i ls hi hno hk; exact absurd hk (Nat.not_lt_zero _)
    | succ k ih_3 =>
      intro i ls hi hno hk hl
      refine lv_iload hx hb d_Md_caseAt_3 (lv_at hl 4 rfl) ?_
      refine lv_aload_n hx hb d_Md_caseAt_5 rfl (lv_at hl 0 rfl) ?_
      refine va_get (D := G) (ci := 4) (v := .ref a_mca) (C := R_Md) (T := T_Md) (N := 19) hx hb hts uw_Md hown hK hP 0 rfl rfl 12 (by decide) (hts _ t_349) (fun _ h9 => h9) rfl d_Md_caseAt_6 ?_
      refine lv_iload_n hx hb d_Md_caseAt_9 rfl (lv_at hl 1 rfl) ?_
      refine k_iald hx hb hK hP 1 0 rfl rfl (by omega) (by decide) d_Md_caseAt_10 ?_
      refine n_icmp_ge (tgt := 60) hx hb d_Md_caseAt_11 (by decide) (by omega) (by omega) (fun c_a => ?_) (fun c_a => ?_)
      · refine lv_iconst (v := (-1)) hx hb d_Md_caseAt_60 (by decide +kernel) ?_
        exact k_ri hx hb hr hlocks (by rw [fa_none (fun j hj => hno j (by omega) hj)]; rfl) d_Md_caseAt_61
      · have hi2 : i < (cs q).length := by omega
        obtain ⟨g1, g2, g3, g4, g5⟩ := hh3 i hi2
        refine lv_aload_n hx hb d_Md_caseAt_14 rfl (lv_at hl 0 rfl) ?_
        refine va_get (D := G) (ci := 4) (v := .ref a_mcc) (C := R_Md) (T := T_Md) (N := 19) hx hb hts uw_Md hown hK hP 0 rfl rfl 13 (by decide) (hts _ t_350) (fun _ h9 => h9) rfl d_Md_caseAt_15 ?_
        refine lv_bipush (v := (nI 6)) hx hb d_Md_caseAt_18 (by decide +kernel) ?_
        refine lv_iload_n hx hb d_Md_caseAt_20 rfl (lv_at hl 1 rfl) ?_
        refine lv_imul hx hb d_Md_caseAt_21 ?_
        refine k_top (y := (nI (6 * q))) (pk_mul 6 q) ?_
        refine lv_iload hx hb d_Md_caseAt_22 (lv_at hl 4 rfl) ?_
        refine lv_iadd hx hb d_Md_caseAt_24 ?_
        refine k_top (y := (nI ((6 * q) + i))) (nI_add (6 * q) i) ?_
        refine k_iald hx hb hK hP 2 0 rfl rfl (by omega) (by decide) d_Md_caseAt_25 ?_
        refine lv_iload_n hx hb d_Md_caseAt_26 rfl (lv_at hl 2 rfl) ?_
        refine n_icmp_ne (tgt := 54) hx hb d_Md_caseAt_27 (by decide) (by omega) (by omega) (fun c_b => ?_) (fun c_b => ?_)
        · refine lv_iinc (v := (nI (i + 1))) (lv' := [(4, .int (nI (i + 1))), (0, .ref a_md), (1, .int (nI q)), (2, .int (nI x)), (3, .int (-1))]) hx hb d_Md_caseAt_54 hl (k := 4) rfl (nI_add i 1) (by decide) rfl (fun ls hl => ?_)
          refine lv_goto (tgt := 3) hx hb d_Md_caseAt_57 (by decide) ?_
          exact ih_3 (i + 1) ls (by omega) (hno_succ hno (fun h2 => kHit_f1 (by omega))) (by omega) (lv_sub hl [1, 2, 3, 4, 0] rfl)
        · refine lv_iload_n hx hb d_Md_caseAt_30 rfl (lv_at hl 3 rfl) ?_
          refine lv_iconst (v := (-1)) hx hb d_Md_caseAt_31 (by decide +kernel) ?_
          refine lv_icmp_eq (tgt := 51) hx hb d_Md_caseAt_32 (by decide) (fun c_c => ?_) (fun c_c => absurd rfl c_c)
          refine lv_iload hx hb d_Md_caseAt_51 (lv_at hl 4 rfl) ?_
          exact k_ri hx hb hr hlocks (by rw [fa_some hi2 (kHit_t1 (by omega) rfl) (fun j hj => hno j hj _)]; rfl) d_Md_caseAt_53
  exact loop_3 (((cs q).length - 0) + 1) 0 ls (Nat.zero_le _) (fun j hj => absurd hj (Nat.not_lt_zero j)) (Nat.lt_succ_self _) (lv_sub hl [1, 2, 3, 4, 0] rfl)
set_option maxHeartbeats 4000000 in
set_option maxRecDepth 100000 in
theorem c_Md_waitsAt0 (l : Launch) (G : va_G) (cI cZ cJ : ClassId) (a_md : Nat) (a_mrm : Nat) (a_mcl : Nat) (a_mmn : Nat) (a_mvl : Nat) (a_mst : Nat) (a_msi : Nat) (a_mpl : Nat) (a_mof : Nat) (a_mgt : Nat) (a_msn : Nat) (a_mdn : Nat) (a_mca : Nat) (a_mcc : Nat) (a_mcw : Nat) (a_mcv : Nat) (kn : Nat) (kmo : Nat) (kmt : Int32) (kft : Int32) (kst : Nat → Nat) (kpl : Nat → Nat) (kca : Nat → Nat) (kcc : Nat → Nat) (kcw : Nat → Nat) (kof : Nat → Int32) (kcv : Nat → Int32) (cs : Nat → List Kase) (q : Nat) (x : Nat) (w : Nat) (hq : q < 16) (hx1 : x < 40) (hn : kn ≤ 40) (hw1 : w < 2) (hR : KR kn kst kpl kof kca kcc kcw kcv cs) : Met l y_Md_waitsAt (w_Md_waitsAt) ({ frames := 1, cells := 0, slots := 0, locals := 24 }) (va_Pc [.ref a_md, .int (nI q), .int (nI x), .int (nI w)] (kR G vwCl [(cI, .int), (cZ, .boolean), (cJ, .long)] [(a_md, .inr (4, [.int (nI kn), .ref a_mrm, .ref a_mcl, .ref a_mmn, .ref a_mvl, .ref a_mst, .ref a_msi, .ref a_mpl, .ref a_mof, .ref a_mgt, .ref a_msn, .ref a_mdn, .ref a_mca, .ref a_mcc, .ref a_mcw, .ref a_mcv, .long (lN kmo), .int kmt, .int kft])), (a_mst, .inl (cI, 16, .inl (fun j => nI (kst j)))), (a_mpl, .inl (cI, 16, .inl (fun j => nI (kpl j)))), (a_mca, .inl (cI, 16, .inl (fun j => nI (kca j)))), (a_mcc, .inl (cI, 96, .inl (fun j => nI (kcc j)))), (a_mcw, .inl (cI, 96, .inl (fun j => nI (kcw j))))])) (QcRead ((bI (wtB kst cs x w q)))) 0 0 (fun _ => False) := by
  refine Met.ofW (cc := b_Md_waitsAt) (maxL := 5) (ret := (some .boolean)) (by decide) rfl ?_
  intro p e s m args below meth c s₁ B hml hv
  obtain ⟨rfl, hP, hK⟩ := hv
  have hx := B.exec
  have hb := B.bytes
  have hr := B.returns
  have hts : ∀ w ∈ TT, w.before _ s = true := fun w h => atoms_spec (ws := (w_Md_waitsAt)) B.pre w (List.mem_cons_of_mem _ h)
  have hown : s.vm.findClass R_Md = some m.cls := findClass_of_methodNamed B.named
  have hlocks := B.notSynchronized
  have hP : va_P G vwCl [(a_md, .inr (4, [.int (nI kn), .ref a_mrm, .ref a_mcl, .ref a_mmn, .ref a_mvl, .ref a_mst, .ref a_msi, .ref a_mpl, .ref a_mof, .ref a_mgt, .ref a_msn, .ref a_mdn, .ref a_mca, .ref a_mcc, .ref a_mcw, .ref a_mcv, .long (lN kmo), .int kmt, .int kft])), (a_mst, .inl (cI, 16, .inl (fun j => nI (kst j)))), (a_mpl, .inl (cI, 16, .inl (fun j => nI (kpl j)))), (a_mca, .inl (cI, 16, .inl (fun j => nI (kca j)))), (a_mcc, .inl (cI, 96, .inl (fun j => nI (kcc j)))), (a_mcw, .inl (cI, 96, .inl (fun j => nI (kcw j))))] s.heap := hP
  have hl := lv_entry ([.ref a_md, .int (nI q), .int (nI x), .int (nI w)]) (n := 5) (Nat.le_of_ble_eq_true rfl)
  rw [lg_entry_eq]
  generalize (lg_sl ([.ref a_md, .int (nI q), .int (nI x), .int (nI w)]) ++ List.replicate (5 - (lg_sl ([.ref a_md, .int (nI q), .int (nI x), .int (nI w)])).length) Slot.unset).toArray = ls at hl ⊢
  have hl : lv_has ls 5 [(0, .ref a_md), (1, .int (nI q)), (2, .int (nI x)), (3, .int (nI w))] := hl
  have hs5 := (hR q hq).1
  rcases (show kst q = 3 ∨ kst q = 1 ∨ kst q = 2 ∨ (¬ kst q = 1 ∧ ¬ kst q = 2 ∧ ¬ kst q = 3) by omega) with hs | hs | hs | ⟨hs, hs2, hs3⟩
  · refine lv_aload_n hx hb d_Md_waitsAt_0 rfl (lv_at hl 0 rfl) ?_
    refine va_get (D := G) (ci := 4) (v := .ref a_mst) (C := R_Md) (T := T_Md) (N := 19) hx hb hts uw_Md hown hK hP 0 rfl rfl 5 (by decide) (hts _ t_342) (fun _ h9 => h9) rfl d_Md_waitsAt_1 ?_
    refine lv_iload_n hx hb d_Md_waitsAt_4 rfl (lv_at hl 1 rfl) ?_
    refine k_iald hx hb hK hP 1 0 rfl rfl (by omega) (by decide) d_Md_waitsAt_5 ?_
    refine lv_iconst (v := (nI 3)) hx hb d_Md_waitsAt_6 (by decide +kernel) ?_
    refine n_icmp_ne (tgt := 26) hx hb d_Md_waitsAt_7 (by decide) (by omega) (by decide) (fun c_1 => absurd c_1 (by omega)) (fun c_1 => ?_)
    refine lv_aload_n hx hb d_Md_waitsAt_10 rfl (lv_at hl 0 rfl) ?_
    refine lv_iload_n hx hb d_Md_waitsAt_11 rfl (lv_at hl 1 rfl) ?_
    refine lv_iload_n hx hb d_Md_waitsAt_12 rfl (lv_at hl 2 rfl) ?_
    refine lv_iload_n hx hb d_Md_waitsAt_13 rfl (lv_at hl 3 rfl) ?_
    refine k_ro (va_runV (As := [.int (nI q), .int (nI x), .int (nI w)]) (rest := []) ⟨hx, hb, hml, hown, hts⟩ (c_Md_caseAt0 l G cI cZ cJ a_md a_mrm a_mcl a_mmn a_mvl a_mst a_msi a_mpl a_mof a_mgt a_msn a_mdn a_mca a_mcc a_mcw a_mcv kn kmo kmt kft kca kcc kcw kst kpl kof kcv cs q x w hq hx1 hn hs hw1 hR) (cwV 3 hts (gV t_405 t_406 t_23 t_37 t_407) rfl rfl rfl (by decide +kernel) ⟨Nat.le_of_ble_eq_true rfl, Nat.le_of_ble_eq_true rfl⟩) (kR_V (ci := 4) (q0 := 0) hK hP rfl rfl [0, 3, 4, 5] rfl) rfl rfl hl.1 rfl (lv_room (Nat.le_of_ble_eq_true rfl)) d_Md_waitsAt_14 ⟨Nat.le_of_ble_eq_true rfl, Nat.le_of_ble_eq_true rfl⟩) ?_
    rcases hf9 : fa (cs q) x w with _ | k9
    · refine k_top (y := (-1)) (rfl) ?_
      refine lv_if_lt (tgt := 24) hx hb d_Md_waitsAt_17 (by decide) (fun c_2 => ?_) (fun c_2 => absurd (by decide +kernel) c_2)
      refine lv_iconst (v := (nI 0)) hx hb d_Md_waitsAt_24 (by decide +kernel) ?_
      exact k_rz hx hb hr hlocks (by decide +kernel) (wt_3n hs hf9) d_Md_waitsAt_25
    · have hk9 := fa_lt hf9
      have hk6 := ((hR q hq).2.1 (by omega) (by omega)).2.1
      refine k_top (y := (nI k9)) (rfl) ?_
      refine n_if_lt (tgt := 24) hx hb d_Md_waitsAt_17 (by decide) (by omega) ?_
      refine lv_iconst (v := (nI 1)) hx hb d_Md_waitsAt_20 (by decide +kernel) ?_
      refine lv_goto (tgt := 25) hx hb d_Md_waitsAt_21 (by decide) ?_
      exact k_rz hx hb hr hlocks (by decide +kernel) (wt_3s hs hf9) d_Md_waitsAt_25
  · obtain ⟨hc9, hp9⟩ := (hR q hq).2.2.1 hs
    refine lv_aload_n hx hb d_Md_waitsAt_0 rfl (lv_at hl 0 rfl) ?_
    refine va_get (D := G) (ci := 4) (v := .ref a_mst) (C := R_Md) (T := T_Md) (N := 19) hx hb hts uw_Md hown hK hP 0 rfl rfl 5 (by decide) (hts _ t_342) (fun _ h9 => h9) rfl d_Md_waitsAt_1 ?_
    refine lv_iload_n hx hb d_Md_waitsAt_4 rfl (lv_at hl 1 rfl) ?_
    refine k_iald hx hb hK hP 1 0 rfl rfl (by omega) (by decide) d_Md_waitsAt_5 ?_
    refine lv_iconst (v := (nI 3)) hx hb d_Md_waitsAt_6 (by decide +kernel) ?_
    refine n_icmp_ne (tgt := 26) hx hb d_Md_waitsAt_7 (by decide) (by omega) (by decide) (fun c_4 => ?_) (fun c_4 => absurd c_4 (by omega))
    refine lv_aload_n hx hb d_Md_waitsAt_26 rfl (lv_at hl 0 rfl) ?_
    refine va_get (D := G) (ci := 4) (v := .ref a_mst) (C := R_Md) (T := T_Md) (N := 19) hx hb hts uw_Md hown hK hP 0 rfl rfl 5 (by decide) (hts _ t_342) (fun _ h9 => h9) rfl d_Md_waitsAt_27 ?_
    refine lv_iload_n hx hb d_Md_waitsAt_30 rfl (lv_at hl 1 rfl) ?_
    refine k_iald hx hb hK hP 1 0 rfl rfl (by omega) (by decide) d_Md_waitsAt_31 ?_
    refine lv_iconst (v := (nI 1)) hx hb d_Md_waitsAt_32 (by decide +kernel) ?_
    refine n_icmp_ne (tgt := 41) hx hb d_Md_waitsAt_33 (by decide) (by omega) (by decide) (fun c_5 => absurd c_5 (by omega)) (fun c_5 => ?_)
    refine lv_iload_n hx hb d_Md_waitsAt_36 rfl (lv_at hl 3 rfl) ?_
    refine lv_iconst (v := (nI 1)) hx hb d_Md_waitsAt_37 (by decide +kernel) ?_
    refine n_icmp_ne (tgt := 55) hx hb d_Md_waitsAt_38 (by decide) (by omega) (by decide) (fun c_w => ?_) (fun c_w => ?_)
    · refine lv_iconst (v := (nI 1)) hx hb d_Md_waitsAt_55 (by decide +kernel) ?_
      refine lv_goto (tgt := 60) hx hb d_Md_waitsAt_56 (by decide) ?_
      refine lv_istore (lv' := [(4, .int (nI 1)), (0, .ref a_md), (1, .int (nI q)), (2, .int (nI x)), (3, .int (nI w))]) hx hb d_Md_waitsAt_60 hl (by decide) rfl (fun ls hl => ?_)
      refine lv_iload hx hb d_Md_waitsAt_62 (lv_at hl 0 rfl) ?_
      refine n_if_eq (tgt := 81) hx hb d_Md_waitsAt_64 (by decide) (by decide) (fun c_7 => absurd c_7 (by decide)) (fun c_7 => ?_)
      refine lv_aload_n hx hb d_Md_waitsAt_67 rfl (lv_at hl 1 rfl) ?_
      refine va_get (D := G) (ci := 4) (v := .ref a_mpl) (C := R_Md) (T := T_Md) (N := 19) hx hb hts uw_Md hown hK hP 0 rfl rfl 7 (by decide) (hts _ t_344) (fun _ h9 => h9) rfl d_Md_waitsAt_68 ?_
      refine lv_iload_n hx hb d_Md_waitsAt_71 rfl (lv_at hl 2 rfl) ?_
      refine k_iald hx hb hK hP 2 0 rfl rfl (by omega) (by decide) d_Md_waitsAt_72 ?_
      refine lv_iload_n hx hb d_Md_waitsAt_73 rfl (lv_at hl 3 rfl) ?_
      refine n_icmp_ne (tgt := 81) hx hb d_Md_waitsAt_74 (by decide) (by omega) (by omega) (fun c_p => ?_) (fun c_p => ?_)
      · refine lv_iconst (v := (nI 0)) hx hb d_Md_waitsAt_81 (by decide +kernel) ?_
        exact k_rz hx hb hr hlocks (by decide +kernel) (wt_1p hc9 c_p) d_Md_waitsAt_82
      · refine lv_iconst (v := (nI 1)) hx hb d_Md_waitsAt_77 (by decide +kernel) ?_
        refine lv_goto (tgt := 82) hx hb d_Md_waitsAt_78 (by decide) ?_
        exact k_rz hx hb hr hlocks (by decide +kernel) (wt_1t hs hc9 c_w (by omega) c_p) d_Md_waitsAt_82
    · refine lv_aload_n hx hb d_Md_waitsAt_41 rfl (lv_at hl 0 rfl) ?_
      refine va_get (D := G) (ci := 4) (v := .ref a_mst) (C := R_Md) (T := T_Md) (N := 19) hx hb hts uw_Md hown hK hP 0 rfl rfl 5 (by decide) (hts _ t_342) (fun _ h9 => h9) rfl d_Md_waitsAt_42 ?_
      refine lv_iload_n hx hb d_Md_waitsAt_45 rfl (lv_at hl 1 rfl) ?_
      refine k_iald hx hb hK hP 1 0 rfl rfl (by omega) (by decide) d_Md_waitsAt_46 ?_
      refine lv_iconst (v := (nI 2)) hx hb d_Md_waitsAt_47 (by decide +kernel) ?_
      refine n_icmp_ne (tgt := 59) hx hb d_Md_waitsAt_48 (by decide) (by omega) (by decide) (fun c_9 => ?_) (fun c_9 => absurd c_9 (by omega))
      refine lv_iconst (v := (nI 0)) hx hb d_Md_waitsAt_59 (by decide +kernel) ?_
      refine lv_istore (lv' := [(4, .int (nI 0)), (0, .ref a_md), (1, .int (nI q)), (2, .int (nI x)), (3, .int (nI w))]) hx hb d_Md_waitsAt_60 hl (by decide) rfl (fun ls hl => ?_)
      refine lv_iload hx hb d_Md_waitsAt_62 (lv_at hl 0 rfl) ?_
      refine n_if_eq (tgt := 81) hx hb d_Md_waitsAt_64 (by decide) (by decide) (fun c_10 => ?_) (fun c_10 => absurd c_10 (by decide))
      refine lv_iconst (v := (nI 0)) hx hb d_Md_waitsAt_81 (by decide +kernel) ?_
      exact k_rz hx hb hr hlocks (by decide +kernel) (wt_1w hs hc9 c_w) d_Md_waitsAt_82
  · obtain ⟨hc9, hp9⟩ := (hR q hq).2.2.2 hs
    refine lv_aload_n hx hb d_Md_waitsAt_0 rfl (lv_at hl 0 rfl) ?_
    refine va_get (D := G) (ci := 4) (v := .ref a_mst) (C := R_Md) (T := T_Md) (N := 19) hx hb hts uw_Md hown hK hP 0 rfl rfl 5 (by decide) (hts _ t_342) (fun _ h9 => h9) rfl d_Md_waitsAt_1 ?_
    refine lv_iload_n hx hb d_Md_waitsAt_4 rfl (lv_at hl 1 rfl) ?_
    refine k_iald hx hb hK hP 1 0 rfl rfl (by omega) (by decide) d_Md_waitsAt_5 ?_
    refine lv_iconst (v := (nI 3)) hx hb d_Md_waitsAt_6 (by decide +kernel) ?_
    refine n_icmp_ne (tgt := 26) hx hb d_Md_waitsAt_7 (by decide) (by omega) (by decide) (fun c_11 => ?_) (fun c_11 => absurd c_11 (by omega))
    refine lv_aload_n hx hb d_Md_waitsAt_26 rfl (lv_at hl 0 rfl) ?_
    refine va_get (D := G) (ci := 4) (v := .ref a_mst) (C := R_Md) (T := T_Md) (N := 19) hx hb hts uw_Md hown hK hP 0 rfl rfl 5 (by decide) (hts _ t_342) (fun _ h9 => h9) rfl d_Md_waitsAt_27 ?_
    refine lv_iload_n hx hb d_Md_waitsAt_30 rfl (lv_at hl 1 rfl) ?_
    refine k_iald hx hb hK hP 1 0 rfl rfl (by omega) (by decide) d_Md_waitsAt_31 ?_
    refine lv_iconst (v := (nI 1)) hx hb d_Md_waitsAt_32 (by decide +kernel) ?_
    refine n_icmp_ne (tgt := 41) hx hb d_Md_waitsAt_33 (by decide) (by omega) (by decide) (fun c_12 => ?_) (fun c_12 => absurd c_12 (by omega))
    refine lv_aload_n hx hb d_Md_waitsAt_41 rfl (lv_at hl 0 rfl) ?_
    refine va_get (D := G) (ci := 4) (v := .ref a_mst) (C := R_Md) (T := T_Md) (N := 19) hx hb hts uw_Md hown hK hP 0 rfl rfl 5 (by decide) (hts _ t_342) (fun _ h9 => h9) rfl d_Md_waitsAt_42 ?_
    refine lv_iload_n hx hb d_Md_waitsAt_45 rfl (lv_at hl 1 rfl) ?_
    refine k_iald hx hb hK hP 1 0 rfl rfl (by omega) (by decide) d_Md_waitsAt_46 ?_
    refine lv_iconst (v := (nI 2)) hx hb d_Md_waitsAt_47 (by decide +kernel) ?_
    refine n_icmp_ne (tgt := 59) hx hb d_Md_waitsAt_48 (by decide) (by omega) (by decide) (fun c_13 => absurd c_13 (by omega)) (fun c_13 => ?_)
    refine lv_iload_n hx hb d_Md_waitsAt_51 rfl (lv_at hl 3 rfl) ?_
    refine n_if_eq (tgt := 59) hx hb d_Md_waitsAt_52 (by decide) (by omega) (fun c_v => ?_) (fun c_v => ?_)
    · refine lv_iconst (v := (nI 0)) hx hb d_Md_waitsAt_59 (by decide +kernel) ?_
      refine lv_istore (lv' := [(4, .int (nI 0)), (0, .ref a_md), (1, .int (nI q)), (2, .int (nI x)), (3, .int (nI w))]) hx hb d_Md_waitsAt_60 hl (by decide) rfl (fun ls hl => ?_)
      refine lv_iload hx hb d_Md_waitsAt_62 (lv_at hl 0 rfl) ?_
      refine n_if_eq (tgt := 81) hx hb d_Md_waitsAt_64 (by decide) (by decide) (fun c_15 => ?_) (fun c_15 => absurd c_15 (by decide))
      refine lv_iconst (v := (nI 0)) hx hb d_Md_waitsAt_81 (by decide +kernel) ?_
      exact k_rz hx hb hr hlocks (by decide +kernel) (wt_2w hs hc9 c_v) d_Md_waitsAt_82
    · refine lv_iconst (v := (nI 1)) hx hb d_Md_waitsAt_55 (by decide +kernel) ?_
      refine lv_goto (tgt := 60) hx hb d_Md_waitsAt_56 (by decide) ?_
      refine lv_istore (lv' := [(4, .int (nI 1)), (0, .ref a_md), (1, .int (nI q)), (2, .int (nI x)), (3, .int (nI w))]) hx hb d_Md_waitsAt_60 hl (by decide) rfl (fun ls hl => ?_)
      refine lv_iload hx hb d_Md_waitsAt_62 (lv_at hl 0 rfl) ?_
      refine n_if_eq (tgt := 81) hx hb d_Md_waitsAt_64 (by decide) (by decide) (fun c_16 => absurd c_16 (by decide)) (fun c_16 => ?_)
      refine lv_aload_n hx hb d_Md_waitsAt_67 rfl (lv_at hl 1 rfl) ?_
      refine va_get (D := G) (ci := 4) (v := .ref a_mpl) (C := R_Md) (T := T_Md) (N := 19) hx hb hts uw_Md hown hK hP 0 rfl rfl 7 (by decide) (hts _ t_344) (fun _ h9 => h9) rfl d_Md_waitsAt_68 ?_
      refine lv_iload_n hx hb d_Md_waitsAt_71 rfl (lv_at hl 2 rfl) ?_
      refine k_iald hx hb hK hP 2 0 rfl rfl (by omega) (by decide) d_Md_waitsAt_72 ?_
      refine lv_iload_n hx hb d_Md_waitsAt_73 rfl (lv_at hl 3 rfl) ?_
      refine n_icmp_ne (tgt := 81) hx hb d_Md_waitsAt_74 (by decide) (by omega) (by omega) (fun c_p => ?_) (fun c_p => ?_)
      · refine lv_iconst (v := (nI 0)) hx hb d_Md_waitsAt_81 (by decide +kernel) ?_
        exact k_rz hx hb hr hlocks (by decide +kernel) (wt_1p hc9 c_p) d_Md_waitsAt_82
      · refine lv_iconst (v := (nI 1)) hx hb d_Md_waitsAt_77 (by decide +kernel) ?_
        refine lv_goto (tgt := 82) hx hb d_Md_waitsAt_78 (by decide) ?_
        exact k_rz hx hb hr hlocks (by decide +kernel) (wt_2t hs hc9 c_v (by omega) c_p) d_Md_waitsAt_82
  · refine lv_aload_n hx hb d_Md_waitsAt_0 rfl (lv_at hl 0 rfl) ?_
    refine va_get (D := G) (ci := 4) (v := .ref a_mst) (C := R_Md) (T := T_Md) (N := 19) hx hb hts uw_Md hown hK hP 0 rfl rfl 5 (by decide) (hts _ t_342) (fun _ h9 => h9) rfl d_Md_waitsAt_1 ?_
    refine lv_iload_n hx hb d_Md_waitsAt_4 rfl (lv_at hl 1 rfl) ?_
    refine k_iald hx hb hK hP 1 0 rfl rfl (by omega) (by decide) d_Md_waitsAt_5 ?_
    refine lv_iconst (v := (nI 3)) hx hb d_Md_waitsAt_6 (by decide +kernel) ?_
    refine n_icmp_ne (tgt := 26) hx hb d_Md_waitsAt_7 (by decide) (by omega) (by decide) (fun c_18 => ?_) (fun c_18 => absurd c_18 (by omega))
    refine lv_aload_n hx hb d_Md_waitsAt_26 rfl (lv_at hl 0 rfl) ?_
    refine va_get (D := G) (ci := 4) (v := .ref a_mst) (C := R_Md) (T := T_Md) (N := 19) hx hb hts uw_Md hown hK hP 0 rfl rfl 5 (by decide) (hts _ t_342) (fun _ h9 => h9) rfl d_Md_waitsAt_27 ?_
    refine lv_iload_n hx hb d_Md_waitsAt_30 rfl (lv_at hl 1 rfl) ?_
    refine k_iald hx hb hK hP 1 0 rfl rfl (by omega) (by decide) d_Md_waitsAt_31 ?_
    refine lv_iconst (v := (nI 1)) hx hb d_Md_waitsAt_32 (by decide +kernel) ?_
    refine n_icmp_ne (tgt := 41) hx hb d_Md_waitsAt_33 (by decide) (by omega) (by decide) (fun c_19 => ?_) (fun c_19 => absurd c_19 (by omega))
    refine lv_aload_n hx hb d_Md_waitsAt_41 rfl (lv_at hl 0 rfl) ?_
    refine va_get (D := G) (ci := 4) (v := .ref a_mst) (C := R_Md) (T := T_Md) (N := 19) hx hb hts uw_Md hown hK hP 0 rfl rfl 5 (by decide) (hts _ t_342) (fun _ h9 => h9) rfl d_Md_waitsAt_42 ?_
    refine lv_iload_n hx hb d_Md_waitsAt_45 rfl (lv_at hl 1 rfl) ?_
    refine k_iald hx hb hK hP 1 0 rfl rfl (by omega) (by decide) d_Md_waitsAt_46 ?_
    refine lv_iconst (v := (nI 2)) hx hb d_Md_waitsAt_47 (by decide +kernel) ?_
    refine n_icmp_ne (tgt := 59) hx hb d_Md_waitsAt_48 (by decide) (by omega) (by decide) (fun c_20 => ?_) (fun c_20 => absurd c_20 (by omega))
    refine lv_iconst (v := (nI 0)) hx hb d_Md_waitsAt_59 (by decide +kernel) ?_
    refine lv_istore (lv' := [(4, .int (nI 0)), (0, .ref a_md), (1, .int (nI q)), (2, .int (nI x)), (3, .int (nI w))]) hx hb d_Md_waitsAt_60 hl (by decide) rfl (fun ls hl => ?_)
    refine lv_iload hx hb d_Md_waitsAt_62 (lv_at hl 0 rfl) ?_
    refine n_if_eq (tgt := 81) hx hb d_Md_waitsAt_64 (by decide) (by decide) (fun c_21 => ?_) (fun c_21 => absurd c_21 (by decide))
    refine lv_iconst (v := (nI 0)) hx hb d_Md_waitsAt_81 (by decide +kernel) ?_
    exact k_rz hx hb hr hlocks (by decide +kernel) (wt_0 hs hs2 hs3) d_Md_waitsAt_82
set_option maxHeartbeats 4000000 in
set_option maxRecDepth 100000 in
theorem c_Md_waitsAtE (l : Launch) (G : va_G) (cI cZ cJ : ClassId) (a_md : Nat) (a_mrm : Nat) (a_mcl : Nat) (a_mmn : Nat) (a_mvl : Nat) (a_mst : Nat) (a_msi : Nat) (a_mpl : Nat) (a_mof : Nat) (a_mgt : Nat) (a_msn : Nat) (a_mdn : Nat) (a_mca : Nat) (a_mcc : Nat) (a_mcw : Nat) (a_mcv : Nat) (kn : Nat) (kmo : Nat) (kmt : Int32) (kft : Int32) (kst : Nat → Nat) (kpl : Nat → Nat) (kca : Nat → Nat) (kcc : Nat → Nat) (kcw : Nat → Nat) (kof : Nat → Int32) (kcv : Nat → Int32) (cs : Nat → List Kase) (q : Nat) (x : Nat) (hq : q < 16) (hx1 : x < 40) (hn : kn ≤ 40) (hR : KR kn kst kpl kof kca kcc kcw kcv cs) : Met l y_Md_waitsAt (w_Md_waitsAt) ({ frames := 1, cells := 0, slots := 0, locals := 24 }) (va_Pc [.ref a_md, .int (nI q), .int (nI x), .int (-1)] (kR G vwCl [(cI, .int), (cZ, .boolean), (cJ, .long)] [(a_md, .inr (4, [.int (nI kn), .ref a_mrm, .ref a_mcl, .ref a_mmn, .ref a_mvl, .ref a_mst, .ref a_msi, .ref a_mpl, .ref a_mof, .ref a_mgt, .ref a_msn, .ref a_mdn, .ref a_mca, .ref a_mcc, .ref a_mcw, .ref a_mcv, .long (lN kmo), .int kmt, .int kft])), (a_mst, .inl (cI, 16, .inl (fun j => nI (kst j)))), (a_mpl, .inl (cI, 16, .inl (fun j => nI (kpl j)))), (a_mca, .inl (cI, 16, .inl (fun j => nI (kca j)))), (a_mcc, .inl (cI, 96, .inl (fun j => nI (kcc j)))), (a_mcw, .inl (cI, 96, .inl (fun j => nI (kcw j))))])) (QcRead ((bI (wtB kst cs x 2 q)))) 0 0 (fun _ => False) := by
  refine Met.ofW (cc := b_Md_waitsAt) (maxL := 5) (ret := (some .boolean)) (by decide) rfl ?_
  intro p e s m args below meth c s₁ B hml hv
  obtain ⟨rfl, hP, hK⟩ := hv
  have hx := B.exec
  have hb := B.bytes
  have hr := B.returns
  have hts : ∀ w ∈ TT, w.before _ s = true := fun w h => atoms_spec (ws := (w_Md_waitsAt)) B.pre w (List.mem_cons_of_mem _ h)
  have hown : s.vm.findClass R_Md = some m.cls := findClass_of_methodNamed B.named
  have hlocks := B.notSynchronized
  have hP : va_P G vwCl [(a_md, .inr (4, [.int (nI kn), .ref a_mrm, .ref a_mcl, .ref a_mmn, .ref a_mvl, .ref a_mst, .ref a_msi, .ref a_mpl, .ref a_mof, .ref a_mgt, .ref a_msn, .ref a_mdn, .ref a_mca, .ref a_mcc, .ref a_mcw, .ref a_mcv, .long (lN kmo), .int kmt, .int kft])), (a_mst, .inl (cI, 16, .inl (fun j => nI (kst j)))), (a_mpl, .inl (cI, 16, .inl (fun j => nI (kpl j)))), (a_mca, .inl (cI, 16, .inl (fun j => nI (kca j)))), (a_mcc, .inl (cI, 96, .inl (fun j => nI (kcc j)))), (a_mcw, .inl (cI, 96, .inl (fun j => nI (kcw j))))] s.heap := hP
  have hl := lv_entry ([.ref a_md, .int (nI q), .int (nI x), .int (-1)]) (n := 5) (Nat.le_of_ble_eq_true rfl)
  rw [lg_entry_eq]
  generalize (lg_sl ([.ref a_md, .int (nI q), .int (nI x), .int (-1)]) ++ List.replicate (5 - (lg_sl ([.ref a_md, .int (nI q), .int (nI x), .int (-1)])).length) Slot.unset).toArray = ls at hl ⊢
  have hl : lv_has ls 5 [(0, .ref a_md), (1, .int (nI q)), (2, .int (nI x)), (3, .int (-1))] := hl
  have hs5 := (hR q hq).1
  rcases (show kst q = 3 ∨ kst q = 1 ∨ kst q = 2 ∨ (¬ kst q = 1 ∧ ¬ kst q = 2 ∧ ¬ kst q = 3) by omega) with hs | hs | hs | ⟨hs, hs2, hs3⟩
  · refine lv_aload_n hx hb d_Md_waitsAt_0 rfl (lv_at hl 0 rfl) ?_
    refine va_get (D := G) (ci := 4) (v := .ref a_mst) (C := R_Md) (T := T_Md) (N := 19) hx hb hts uw_Md hown hK hP 0 rfl rfl 5 (by decide) (hts _ t_342) (fun _ h9 => h9) rfl d_Md_waitsAt_1 ?_
    refine lv_iload_n hx hb d_Md_waitsAt_4 rfl (lv_at hl 1 rfl) ?_
    refine k_iald hx hb hK hP 1 0 rfl rfl (by omega) (by decide) d_Md_waitsAt_5 ?_
    refine lv_iconst (v := (nI 3)) hx hb d_Md_waitsAt_6 (by decide +kernel) ?_
    refine n_icmp_ne (tgt := 26) hx hb d_Md_waitsAt_7 (by decide) (by omega) (by decide) (fun c_1 => absurd c_1 (by omega)) (fun c_1 => ?_)
    refine lv_aload_n hx hb d_Md_waitsAt_10 rfl (lv_at hl 0 rfl) ?_
    refine lv_iload_n hx hb d_Md_waitsAt_11 rfl (lv_at hl 1 rfl) ?_
    refine lv_iload_n hx hb d_Md_waitsAt_12 rfl (lv_at hl 2 rfl) ?_
    refine lv_iload_n hx hb d_Md_waitsAt_13 rfl (lv_at hl 3 rfl) ?_
    refine k_ro (va_runV (As := [.int (nI q), .int (nI x), .int (-1)]) (rest := []) ⟨hx, hb, hml, hown, hts⟩ (c_Md_caseAtE l G cI cZ cJ a_md a_mrm a_mcl a_mmn a_mvl a_mst a_msi a_mpl a_mof a_mgt a_msn a_mdn a_mca a_mcc a_mcw a_mcv kn kmo kmt kft kca kcc kcw kst kpl kof kcv cs q x hq hx1 hn hs hR) (cwV 3 hts (gV t_405 t_406 t_23 t_37 t_407) rfl rfl rfl (by decide +kernel) ⟨Nat.le_of_ble_eq_true rfl, Nat.le_of_ble_eq_true rfl⟩) (kR_V (ci := 4) (q0 := 0) hK hP rfl rfl [0, 3, 4, 5] rfl) rfl rfl hl.1 rfl (lv_room (Nat.le_of_ble_eq_true rfl)) d_Md_waitsAt_14 ⟨Nat.le_of_ble_eq_true rfl, Nat.le_of_ble_eq_true rfl⟩) ?_
    rcases hf9 : fa (cs q) x 2 with _ | k9
    · refine k_top (y := (-1)) (rfl) ?_
      refine lv_if_lt (tgt := 24) hx hb d_Md_waitsAt_17 (by decide) (fun c_2 => ?_) (fun c_2 => absurd (by decide +kernel) c_2)
      refine lv_iconst (v := (nI 0)) hx hb d_Md_waitsAt_24 (by decide +kernel) ?_
      exact k_rz hx hb hr hlocks (by decide +kernel) (wt_3n hs hf9) d_Md_waitsAt_25
    · have hk9 := fa_lt hf9
      have hk6 := ((hR q hq).2.1 (by omega) (by omega)).2.1
      refine k_top (y := (nI k9)) (rfl) ?_
      refine n_if_lt (tgt := 24) hx hb d_Md_waitsAt_17 (by decide) (by omega) ?_
      refine lv_iconst (v := (nI 1)) hx hb d_Md_waitsAt_20 (by decide +kernel) ?_
      refine lv_goto (tgt := 25) hx hb d_Md_waitsAt_21 (by decide) ?_
      exact k_rz hx hb hr hlocks (by decide +kernel) (wt_3s hs hf9) d_Md_waitsAt_25
  · obtain ⟨hc9, hp9⟩ := (hR q hq).2.2.1 hs
    refine lv_aload_n hx hb d_Md_waitsAt_0 rfl (lv_at hl 0 rfl) ?_
    refine va_get (D := G) (ci := 4) (v := .ref a_mst) (C := R_Md) (T := T_Md) (N := 19) hx hb hts uw_Md hown hK hP 0 rfl rfl 5 (by decide) (hts _ t_342) (fun _ h9 => h9) rfl d_Md_waitsAt_1 ?_
    refine lv_iload_n hx hb d_Md_waitsAt_4 rfl (lv_at hl 1 rfl) ?_
    refine k_iald hx hb hK hP 1 0 rfl rfl (by omega) (by decide) d_Md_waitsAt_5 ?_
    refine lv_iconst (v := (nI 3)) hx hb d_Md_waitsAt_6 (by decide +kernel) ?_
    refine n_icmp_ne (tgt := 26) hx hb d_Md_waitsAt_7 (by decide) (by omega) (by decide) (fun c_4 => ?_) (fun c_4 => absurd c_4 (by omega))
    refine lv_aload_n hx hb d_Md_waitsAt_26 rfl (lv_at hl 0 rfl) ?_
    refine va_get (D := G) (ci := 4) (v := .ref a_mst) (C := R_Md) (T := T_Md) (N := 19) hx hb hts uw_Md hown hK hP 0 rfl rfl 5 (by decide) (hts _ t_342) (fun _ h9 => h9) rfl d_Md_waitsAt_27 ?_
    refine lv_iload_n hx hb d_Md_waitsAt_30 rfl (lv_at hl 1 rfl) ?_
    refine k_iald hx hb hK hP 1 0 rfl rfl (by omega) (by decide) d_Md_waitsAt_31 ?_
    refine lv_iconst (v := (nI 1)) hx hb d_Md_waitsAt_32 (by decide +kernel) ?_
    refine n_icmp_ne (tgt := 41) hx hb d_Md_waitsAt_33 (by decide) (by omega) (by decide) (fun c_5 => absurd c_5 (by omega)) (fun c_5 => ?_)
    refine lv_iload_n hx hb d_Md_waitsAt_36 rfl (lv_at hl 3 rfl) ?_
    refine lv_iconst (v := (nI 1)) hx hb d_Md_waitsAt_37 (by decide +kernel) ?_
    refine lv_icmp_ne (tgt := 55) hx hb d_Md_waitsAt_38 (by decide) (fun c_w => ?_) (fun c_w => absurd c_w (by decide +kernel))
    refine lv_iconst (v := (nI 1)) hx hb d_Md_waitsAt_55 (by decide +kernel) ?_
    refine lv_goto (tgt := 60) hx hb d_Md_waitsAt_56 (by decide) ?_
    refine lv_istore (lv' := [(4, .int (nI 1)), (0, .ref a_md), (1, .int (nI q)), (2, .int (nI x)), (3, .int (-1))]) hx hb d_Md_waitsAt_60 hl (by decide) rfl (fun ls hl => ?_)
    refine lv_iload hx hb d_Md_waitsAt_62 (lv_at hl 0 rfl) ?_
    refine n_if_eq (tgt := 81) hx hb d_Md_waitsAt_64 (by decide) (by decide) (fun c_7 => absurd c_7 (by decide)) (fun c_7 => ?_)
    refine lv_aload_n hx hb d_Md_waitsAt_67 rfl (lv_at hl 1 rfl) ?_
    refine va_get (D := G) (ci := 4) (v := .ref a_mpl) (C := R_Md) (T := T_Md) (N := 19) hx hb hts uw_Md hown hK hP 0 rfl rfl 7 (by decide) (hts _ t_344) (fun _ h9 => h9) rfl d_Md_waitsAt_68 ?_
    refine lv_iload_n hx hb d_Md_waitsAt_71 rfl (lv_at hl 2 rfl) ?_
    refine k_iald hx hb hK hP 2 0 rfl rfl (by omega) (by decide) d_Md_waitsAt_72 ?_
    refine lv_iload_n hx hb d_Md_waitsAt_73 rfl (lv_at hl 3 rfl) ?_
    refine n_icmp_ne (tgt := 81) hx hb d_Md_waitsAt_74 (by decide) (by omega) (by omega) (fun c_p => ?_) (fun c_p => ?_)
    · refine lv_iconst (v := (nI 0)) hx hb d_Md_waitsAt_81 (by decide +kernel) ?_
      exact k_rz hx hb hr hlocks (by decide +kernel) (wt_1p hc9 c_p) d_Md_waitsAt_82
    · refine lv_iconst (v := (nI 1)) hx hb d_Md_waitsAt_77 (by decide +kernel) ?_
      refine lv_goto (tgt := 82) hx hb d_Md_waitsAt_78 (by decide) ?_
      exact k_rz hx hb hr hlocks (by decide +kernel) (wt_1t hs hc9 (by decide) (by omega) c_p) d_Md_waitsAt_82
  · obtain ⟨hc9, hp9⟩ := (hR q hq).2.2.2 hs
    refine lv_aload_n hx hb d_Md_waitsAt_0 rfl (lv_at hl 0 rfl) ?_
    refine va_get (D := G) (ci := 4) (v := .ref a_mst) (C := R_Md) (T := T_Md) (N := 19) hx hb hts uw_Md hown hK hP 0 rfl rfl 5 (by decide) (hts _ t_342) (fun _ h9 => h9) rfl d_Md_waitsAt_1 ?_
    refine lv_iload_n hx hb d_Md_waitsAt_4 rfl (lv_at hl 1 rfl) ?_
    refine k_iald hx hb hK hP 1 0 rfl rfl (by omega) (by decide) d_Md_waitsAt_5 ?_
    refine lv_iconst (v := (nI 3)) hx hb d_Md_waitsAt_6 (by decide +kernel) ?_
    refine n_icmp_ne (tgt := 26) hx hb d_Md_waitsAt_7 (by decide) (by omega) (by decide) (fun c_9 => ?_) (fun c_9 => absurd c_9 (by omega))
    refine lv_aload_n hx hb d_Md_waitsAt_26 rfl (lv_at hl 0 rfl) ?_
    refine va_get (D := G) (ci := 4) (v := .ref a_mst) (C := R_Md) (T := T_Md) (N := 19) hx hb hts uw_Md hown hK hP 0 rfl rfl 5 (by decide) (hts _ t_342) (fun _ h9 => h9) rfl d_Md_waitsAt_27 ?_
    refine lv_iload_n hx hb d_Md_waitsAt_30 rfl (lv_at hl 1 rfl) ?_
    refine k_iald hx hb hK hP 1 0 rfl rfl (by omega) (by decide) d_Md_waitsAt_31 ?_
    refine lv_iconst (v := (nI 1)) hx hb d_Md_waitsAt_32 (by decide +kernel) ?_
    refine n_icmp_ne (tgt := 41) hx hb d_Md_waitsAt_33 (by decide) (by omega) (by decide) (fun c_10 => ?_) (fun c_10 => absurd c_10 (by omega))
    refine lv_aload_n hx hb d_Md_waitsAt_41 rfl (lv_at hl 0 rfl) ?_
    refine va_get (D := G) (ci := 4) (v := .ref a_mst) (C := R_Md) (T := T_Md) (N := 19) hx hb hts uw_Md hown hK hP 0 rfl rfl 5 (by decide) (hts _ t_342) (fun _ h9 => h9) rfl d_Md_waitsAt_42 ?_
    refine lv_iload_n hx hb d_Md_waitsAt_45 rfl (lv_at hl 1 rfl) ?_
    refine k_iald hx hb hK hP 1 0 rfl rfl (by omega) (by decide) d_Md_waitsAt_46 ?_
    refine lv_iconst (v := (nI 2)) hx hb d_Md_waitsAt_47 (by decide +kernel) ?_
    refine n_icmp_ne (tgt := 59) hx hb d_Md_waitsAt_48 (by decide) (by omega) (by decide) (fun c_11 => absurd c_11 (by omega)) (fun c_11 => ?_)
    refine lv_iload_n hx hb d_Md_waitsAt_51 rfl (lv_at hl 3 rfl) ?_
    refine lv_if_eq (tgt := 59) hx hb d_Md_waitsAt_52 (by decide) (fun c_v => absurd c_v (by decide +kernel)) (fun c_v => ?_)
    refine lv_iconst (v := (nI 1)) hx hb d_Md_waitsAt_55 (by decide +kernel) ?_
    refine lv_goto (tgt := 60) hx hb d_Md_waitsAt_56 (by decide) ?_
    refine lv_istore (lv' := [(4, .int (nI 1)), (0, .ref a_md), (1, .int (nI q)), (2, .int (nI x)), (3, .int (-1))]) hx hb d_Md_waitsAt_60 hl (by decide) rfl (fun ls hl => ?_)
    refine lv_iload hx hb d_Md_waitsAt_62 (lv_at hl 0 rfl) ?_
    refine n_if_eq (tgt := 81) hx hb d_Md_waitsAt_64 (by decide) (by decide) (fun c_13 => absurd c_13 (by decide)) (fun c_13 => ?_)
    refine lv_aload_n hx hb d_Md_waitsAt_67 rfl (lv_at hl 1 rfl) ?_
    refine va_get (D := G) (ci := 4) (v := .ref a_mpl) (C := R_Md) (T := T_Md) (N := 19) hx hb hts uw_Md hown hK hP 0 rfl rfl 7 (by decide) (hts _ t_344) (fun _ h9 => h9) rfl d_Md_waitsAt_68 ?_
    refine lv_iload_n hx hb d_Md_waitsAt_71 rfl (lv_at hl 2 rfl) ?_
    refine k_iald hx hb hK hP 2 0 rfl rfl (by omega) (by decide) d_Md_waitsAt_72 ?_
    refine lv_iload_n hx hb d_Md_waitsAt_73 rfl (lv_at hl 3 rfl) ?_
    refine n_icmp_ne (tgt := 81) hx hb d_Md_waitsAt_74 (by decide) (by omega) (by omega) (fun c_p => ?_) (fun c_p => ?_)
    · refine lv_iconst (v := (nI 0)) hx hb d_Md_waitsAt_81 (by decide +kernel) ?_
      exact k_rz hx hb hr hlocks (by decide +kernel) (wt_1p hc9 c_p) d_Md_waitsAt_82
    · refine lv_iconst (v := (nI 1)) hx hb d_Md_waitsAt_77 (by decide +kernel) ?_
      refine lv_goto (tgt := 82) hx hb d_Md_waitsAt_78 (by decide) ?_
      exact k_rz hx hb hr hlocks (by decide +kernel) (wt_2t hs hc9 (by decide) (by omega) c_p) d_Md_waitsAt_82
  · refine lv_aload_n hx hb d_Md_waitsAt_0 rfl (lv_at hl 0 rfl) ?_
    refine va_get (D := G) (ci := 4) (v := .ref a_mst) (C := R_Md) (T := T_Md) (N := 19) hx hb hts uw_Md hown hK hP 0 rfl rfl 5 (by decide) (hts _ t_342) (fun _ h9 => h9) rfl d_Md_waitsAt_1 ?_
    refine lv_iload_n hx hb d_Md_waitsAt_4 rfl (lv_at hl 1 rfl) ?_
    refine k_iald hx hb hK hP 1 0 rfl rfl (by omega) (by decide) d_Md_waitsAt_5 ?_
    refine lv_iconst (v := (nI 3)) hx hb d_Md_waitsAt_6 (by decide +kernel) ?_
    refine n_icmp_ne (tgt := 26) hx hb d_Md_waitsAt_7 (by decide) (by omega) (by decide) (fun c_15 => ?_) (fun c_15 => absurd c_15 (by omega))
    refine lv_aload_n hx hb d_Md_waitsAt_26 rfl (lv_at hl 0 rfl) ?_
    refine va_get (D := G) (ci := 4) (v := .ref a_mst) (C := R_Md) (T := T_Md) (N := 19) hx hb hts uw_Md hown hK hP 0 rfl rfl 5 (by decide) (hts _ t_342) (fun _ h9 => h9) rfl d_Md_waitsAt_27 ?_
    refine lv_iload_n hx hb d_Md_waitsAt_30 rfl (lv_at hl 1 rfl) ?_
    refine k_iald hx hb hK hP 1 0 rfl rfl (by omega) (by decide) d_Md_waitsAt_31 ?_
    refine lv_iconst (v := (nI 1)) hx hb d_Md_waitsAt_32 (by decide +kernel) ?_
    refine n_icmp_ne (tgt := 41) hx hb d_Md_waitsAt_33 (by decide) (by omega) (by decide) (fun c_16 => ?_) (fun c_16 => absurd c_16 (by omega))
    refine lv_aload_n hx hb d_Md_waitsAt_41 rfl (lv_at hl 0 rfl) ?_
    refine va_get (D := G) (ci := 4) (v := .ref a_mst) (C := R_Md) (T := T_Md) (N := 19) hx hb hts uw_Md hown hK hP 0 rfl rfl 5 (by decide) (hts _ t_342) (fun _ h9 => h9) rfl d_Md_waitsAt_42 ?_
    refine lv_iload_n hx hb d_Md_waitsAt_45 rfl (lv_at hl 1 rfl) ?_
    refine k_iald hx hb hK hP 1 0 rfl rfl (by omega) (by decide) d_Md_waitsAt_46 ?_
    refine lv_iconst (v := (nI 2)) hx hb d_Md_waitsAt_47 (by decide +kernel) ?_
    refine n_icmp_ne (tgt := 59) hx hb d_Md_waitsAt_48 (by decide) (by omega) (by decide) (fun c_17 => ?_) (fun c_17 => absurd c_17 (by omega))
    refine lv_iconst (v := (nI 0)) hx hb d_Md_waitsAt_59 (by decide +kernel) ?_
    refine lv_istore (lv' := [(4, .int (nI 0)), (0, .ref a_md), (1, .int (nI q)), (2, .int (nI x)), (3, .int (-1))]) hx hb d_Md_waitsAt_60 hl (by decide) rfl (fun ls hl => ?_)
    refine lv_iload hx hb d_Md_waitsAt_62 (lv_at hl 0 rfl) ?_
    refine n_if_eq (tgt := 81) hx hb d_Md_waitsAt_64 (by decide) (by decide) (fun c_18 => ?_) (fun c_18 => absurd c_18 (by decide))
    refine lv_iconst (v := (nI 0)) hx hb d_Md_waitsAt_81 (by decide +kernel) ?_
    exact k_rz hx hb hr hlocks (by decide +kernel) (wt_0 hs hs2 hs3) d_Md_waitsAt_82
