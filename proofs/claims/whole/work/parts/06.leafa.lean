set_option maxHeartbeats 4000000 in
set_option maxRecDepth 100000 in
theorem c_Ch_forgetAll (l : Launch) (G : va_G) (cI cZ cJ : ClassId) (sz : Nat) (a_ch : Nat) (a_rm : Nat) (a_hd : Nat) (a_sh : Nat) (a_vl : Nat) (n : Nat)  : Met l y_Ch_forgetAll (w_Ch_forgetAll) ({ frames := 0, cells := 0, slots := 0, locals := 0 }) (va_Pc [.ref a_ch] (kW G vwCl [(cI, .int), (cZ, .boolean), (cJ, .long)] [(a_ch, .inr (1, [.ref a_rm, .ref a_hd, .ref a_sh, .ref a_vl, .int (nI n)]))] sz)) (va_Qv (fun (u : Unit) => True) (fun u t => va_P G vwCl [(a_ch, .inr (1, [.ref a_rm, .ref a_hd, .ref a_sh, .ref a_vl, .int (nI 0)]))] t.heap) (va_A [(a_ch, .inr (1, [.ref a_rm, .ref a_hd, .ref a_sh, .ref a_vl, .int (nI n)]))] sz)) 0 0 (va_A [(a_ch, .inr (1, [.ref a_rm, .ref a_hd, .ref a_sh, .ref a_vl, .int (nI n)]))] sz) := by
  refine Met.ofW (cc := b_Ch_forgetAll) (maxL := 1) (ret := none) (by decide) rfl ?_
  intro p e s m args below meth c s₁ B hml hv
  obtain ⟨rfl, hsz, hP, hK, hD0⟩ := hv
  have hx := B.exec
  have hb := B.bytes
  have hr := B.returns
  have hts : ∀ w ∈ TT, w.before _ s = true := fun w h => atoms_spec (ws := (w_Ch_forgetAll)) B.pre w (List.mem_cons_of_mem _ h)
  have hown : s.vm.findClass R_Ch = some m.cls := findClass_of_methodNamed B.named
  have hlocks := B.notSynchronized
  subst hsz
  have hD := hD0.self (sz := s.heap.size)
  generalize hAe : va_A [(a_ch, .inr (1, [.ref a_rm, .ref a_hd, .ref a_sh, .ref a_vl, .int (nI n)]))] s.heap.size = A at hD ⊢
  have hA : ∀ q : Nat, s.heap.size ≤ q → A q := fun q h => by rw [← hAe]; exact Or.inr h
  have hS : va_S A s.heap s.heap [] := va_S.rf
  have hP : va_P G vwCl [(a_ch, .inr (1, [.ref a_rm, .ref a_hd, .ref a_sh, .ref a_vl, .int (nI n)]))] s.heap := hP
  have hl := lv_entry ([.ref a_ch]) (n := 1) (Nat.le_of_ble_eq_true rfl)
  rw [lg_entry_eq]
  generalize (lg_sl ([.ref a_ch]) ++ List.replicate (1 - (lg_sl ([.ref a_ch])).length) Slot.unset).toArray = ls at hl ⊢
  have hl : lv_has ls 1 [(0, .ref a_ch)] := hl
  refine lv_aload_n hx hb d_Ch_forgetAll_0 rfl (lv_at hl 0 rfl) ?_
  refine lv_iconst (v := (nI 0)) hx hb d_Ch_forgetAll_1 (by decide +kernel) ?_
  refine va_put (D := G) (ci := 1) (v := .int (nI 0)) (ty := .int) (C := R_Ch) (T := T_Ch) (N := 5) hx hb hts uw_Ch ty_Ch tyok_Ch nm_Ch hown hK hP hD hS 0 rfl rfl 4 (by decide) (hts _ t_56) (fun _ h9 => h9) rfl (by decide +kernel) rfl rfl (Nat.le_of_ble_eq_true rfl) d_Ch_forgetAll_2 (fun H locs hP hD hS => ?_)
  have hP : va_P G vwCl [(a_ch, .inr (1, [.ref a_rm, .ref a_hd, .ref a_sh, .ref a_vl, .int (nI 0)]))] H := hP
  have hD : va_D A [(a_ch, .inr (1, [.ref a_rm, .ref a_hd, .ref a_sh, .ref a_vl, .int (nI 0)]))] := hD
  exact k_wv hx hb hr hlocks hP hS () (rfl) (trivial) d_Ch_forgetAll_5
set_option maxHeartbeats 4000000 in
set_option maxRecDepth 100000 in
theorem c_Ch_number (l : Launch) (G : va_G) (cI cZ cJ : ClassId) (a_ch : Nat) (a_rm : Nat) (a_hd : Nat) (a_sh : Nat) (a_vl : Nat) (n : Nat)  : Met l y_Ch_number (w_Ch_number) ({ frames := 0, cells := 0, slots := 0, locals := 0 }) (va_Pc [.ref a_ch] (kR G vwCl [(cI, .int), (cZ, .boolean), (cJ, .long)] [(a_ch, .inr (1, [.ref a_rm, .ref a_hd, .ref a_sh, .ref a_vl, .int (nI n)]))])) (QcRead ((nI n))) 0 0 (fun _ => False) := by
  refine Met.ofW (cc := b_Ch_number) (maxL := 1) (ret := (some .int)) (by decide) rfl ?_
  intro p e s m args below meth c s₁ B hml hv
  obtain ⟨rfl, hP, hK⟩ := hv
  have hx := B.exec
  have hb := B.bytes
  have hr := B.returns
  have hts : ∀ w ∈ TT, w.before _ s = true := fun w h => atoms_spec (ws := (w_Ch_number)) B.pre w (List.mem_cons_of_mem _ h)
  have hown : s.vm.findClass R_Ch = some m.cls := findClass_of_methodNamed B.named
  have hlocks := B.notSynchronized
  have hP : va_P G vwCl [(a_ch, .inr (1, [.ref a_rm, .ref a_hd, .ref a_sh, .ref a_vl, .int (nI n)]))] s.heap := hP
  have hl := lv_entry ([.ref a_ch]) (n := 1) (Nat.le_of_ble_eq_true rfl)
  rw [lg_entry_eq]
  generalize (lg_sl ([.ref a_ch]) ++ List.replicate (1 - (lg_sl ([.ref a_ch])).length) Slot.unset).toArray = ls at hl ⊢
  have hl : lv_has ls 1 [(0, .ref a_ch)] := hl
  refine lv_aload_n hx hb d_Ch_number_0 rfl (lv_at hl 0 rfl) ?_
  refine va_get (D := G) (ci := 1) (v := .int (nI n)) (C := R_Ch) (T := T_Ch) (N := 5) hx hb hts uw_Ch hown hK hP 0 rfl rfl 4 (by decide) (hts _ t_56) (fun _ h9 => h9) rfl d_Ch_number_1 ?_
  exact k_ri hx hb hr hlocks (rfl) d_Ch_number_4
set_option maxHeartbeats 4000000 in
set_option maxRecDepth 100000 in
theorem c_Ch_has (l : Launch) (G : va_G) (cI cZ cJ : ClassId) (a_ch : Nat) (a_rm : Nat) (a_hd : Nat) (a_sh : Nat) (a_vl : Nat) (n : Nat) (y : Int32)  : Met l y_Ch_has (w_Ch_has) ({ frames := 0, cells := 0, slots := 0, locals := 0 }) (va_Pc [.ref a_ch, .int y] (kR G vwCl [(cI, .int), (cZ, .boolean), (cJ, .long)] [(a_ch, .inr (1, [.ref a_rm, .ref a_hd, .ref a_sh, .ref a_vl, .int (nI n)]))])) (QcRead ((bI (hasB n y)))) 0 0 (fun _ => False) := by
  refine Met.ofW (cc := b_Ch_has) (maxL := 2) (ret := (some .boolean)) (by decide) rfl ?_
  intro p e s m args below meth c s₁ B hml hv
  obtain ⟨rfl, hP, hK⟩ := hv
  have hx := B.exec
  have hb := B.bytes
  have hr := B.returns
  have hts : ∀ w ∈ TT, w.before _ s = true := fun w h => atoms_spec (ws := (w_Ch_has)) B.pre w (List.mem_cons_of_mem _ h)
  have hown : s.vm.findClass R_Ch = some m.cls := findClass_of_methodNamed B.named
  have hlocks := B.notSynchronized
  have hP : va_P G vwCl [(a_ch, .inr (1, [.ref a_rm, .ref a_hd, .ref a_sh, .ref a_vl, .int (nI n)]))] s.heap := hP
  have hl := lv_entry ([.ref a_ch, .int y]) (n := 2) (Nat.le_of_ble_eq_true rfl)
  rw [lg_entry_eq]
  generalize (lg_sl ([.ref a_ch, .int y]) ++ List.replicate (2 - (lg_sl ([.ref a_ch, .int y])).length) Slot.unset).toArray = ls at hl ⊢
  have hl : lv_has ls 2 [(0, .ref a_ch), (1, .int y)] := hl
  refine lv_iload_n hx hb d_Ch_has_0 rfl (lv_at hl 1 rfl) ?_
  refine lv_if_lt (tgt := 16) hx hb d_Ch_has_1 (by decide) (fun c_a => ?_) (fun c_a => ?_)
  · refine lv_iconst (v := (nI 0)) hx hb d_Ch_has_16 (by decide +kernel) ?_
    exact k_rz hx hb hr hlocks (by decide +kernel) (bI_df (fun z => z.1 c_a)) d_Ch_has_17
  · refine lv_iload_n hx hb d_Ch_has_4 rfl (lv_at hl 1 rfl) ?_
    refine lv_aload_n hx hb d_Ch_has_5 rfl (lv_at hl 0 rfl) ?_
    refine va_get (D := G) (ci := 1) (v := .int (nI n)) (C := R_Ch) (T := T_Ch) (N := 5) hx hb hts uw_Ch hown hK hP 0 rfl rfl 4 (by decide) (hts _ t_56) (fun _ h9 => h9) rfl d_Ch_has_6 ?_
    refine lv_icmp_ge (tgt := 16) hx hb d_Ch_has_9 (by decide) (fun c_b => ?_) (fun c_b => ?_)
    · refine lv_iconst (v := (nI 0)) hx hb d_Ch_has_16 (by decide +kernel) ?_
      exact k_rz hx hb hr hlocks (by decide +kernel) (bI_df (fun z => z.2 c_b)) d_Ch_has_17
    · refine lv_iconst (v := (nI 1)) hx hb d_Ch_has_12 (by decide +kernel) ?_
      refine lv_goto (tgt := 17) hx hb d_Ch_has_13 (by decide) ?_
      exact k_rz hx hb hr hlocks (by decide +kernel) (bI_dt ⟨c_a, c_b⟩) d_Ch_has_17
set_option maxHeartbeats 4000000 in
set_option maxRecDepth 100000 in
theorem c_Ch_open (l : Launch) (G : va_G) (cI cZ cJ : ClassId) (sz : Nat) (a_ch : Nat) (a_rm : Nat) (a_hd : Nat) (a_sh : Nat) (a_vl : Nat) (n : Nat) (room : Nat → Nat) (held : Nat → Nat) (shut : Nat → Bool) (k0 : Nat) (hn : n ≤ 40) : Met l y_Ch_open (w_Ch_open) ({ frames := 0, cells := 0, slots := 0, locals := 0 }) (va_Pc [.ref a_ch, .int (nI k0)] (kW G vwCl [(cI, .int), (cZ, .boolean), (cJ, .long)] [(a_ch, .inr (1, [.ref a_rm, .ref a_hd, .ref a_sh, .ref a_vl, .int (nI n)])), (a_rm, .inl (cI, 40, .inl (fun j => nI (room j)))), (a_hd, .inl (cI, 40, .inl (fun j => nI (held j)))), (a_sh, .inl (cZ, 40, .inl (fun j => bI (shut j))))] sz)) (va_Qi (fun (r : Int32) (u : Unit) => r = (if n < 40 then nI n else -1)) (fun u t => va_P G vwCl [(a_ch, .inr (1, [.ref a_rm, .ref a_hd, .ref a_sh, .ref a_vl, .int (nI (if n < 40 then n + 1 else n))])), (a_rm, .inl (cI, 40, .inl (fun j => nI ((if n < 40 then va_up room n k0 else room) j)))), (a_hd, .inl (cI, 40, .inl (fun j => nI ((if n < 40 then va_up held n 0 else held) j)))), (a_sh, .inl (cZ, 40, .inl (fun j => bI ((if n < 40 then va_up shut n false else shut) j))))] t.heap) (va_A [(a_ch, .inr (1, [.ref a_rm, .ref a_hd, .ref a_sh, .ref a_vl, .int (nI n)])), (a_rm, .inl (cI, 40, .inl (fun j => nI (room j)))), (a_hd, .inl (cI, 40, .inl (fun j => nI (held j)))), (a_sh, .inl (cZ, 40, .inl (fun j => bI (shut j))))] sz)) 0 0 (va_A [(a_ch, .inr (1, [.ref a_rm, .ref a_hd, .ref a_sh, .ref a_vl, .int (nI n)])), (a_rm, .inl (cI, 40, .inl (fun j => nI (room j)))), (a_hd, .inl (cI, 40, .inl (fun j => nI (held j)))), (a_sh, .inl (cZ, 40, .inl (fun j => bI (shut j))))] sz) := by
  refine Met.ofW (cc := b_Ch_open) (maxL := 3) (ret := (some .int)) (by decide) rfl ?_
  intro p e s m args below meth c s₁ B hml hv
  obtain ⟨rfl, hsz, hP, hK, hD0⟩ := hv
  have hx := B.exec
  have hb := B.bytes
  have hr := B.returns
  have hts : ∀ w ∈ TT, w.before _ s = true := fun w h => atoms_spec (ws := (w_Ch_open)) B.pre w (List.mem_cons_of_mem _ h)
  have hown : s.vm.findClass R_Ch = some m.cls := findClass_of_methodNamed B.named
  have hlocks := B.notSynchronized
  subst hsz
  have hD := hD0.self (sz := s.heap.size)
  generalize hAe : va_A [(a_ch, .inr (1, [.ref a_rm, .ref a_hd, .ref a_sh, .ref a_vl, .int (nI n)])), (a_rm, .inl (cI, 40, .inl (fun j => nI (room j)))), (a_hd, .inl (cI, 40, .inl (fun j => nI (held j)))), (a_sh, .inl (cZ, 40, .inl (fun j => bI (shut j))))] s.heap.size = A at hD ⊢
  have hA : ∀ q : Nat, s.heap.size ≤ q → A q := fun q h => by rw [← hAe]; exact Or.inr h
  have hS : va_S A s.heap s.heap [] := va_S.rf
  have hP : va_P G vwCl [(a_ch, .inr (1, [.ref a_rm, .ref a_hd, .ref a_sh, .ref a_vl, .int (nI n)])), (a_rm, .inl (cI, 40, .inl (fun j => nI (room j)))), (a_hd, .inl (cI, 40, .inl (fun j => nI (held j)))), (a_sh, .inl (cZ, 40, .inl (fun j => bI (shut j))))] s.heap := hP
  have hl := lv_entry ([.ref a_ch, .int (nI k0)]) (n := 3) (Nat.le_of_ble_eq_true rfl)
  rw [lg_entry_eq]
  generalize (lg_sl ([.ref a_ch, .int (nI k0)]) ++ List.replicate (3 - (lg_sl ([.ref a_ch, .int (nI k0)])).length) Slot.unset).toArray = ls at hl ⊢
  have hl : lv_has ls 3 [(0, .ref a_ch), (1, .int (nI k0))] := hl
  refine lv_aload_n hx hb d_Ch_open_0 rfl (lv_at hl 0 rfl) ?_
  refine va_get (D := G) (ci := 1) (v := .int (nI n)) (C := R_Ch) (T := T_Ch) (N := 5) hx hb hts uw_Ch hown hK hP 0 rfl rfl 4 (by decide) (hts _ t_56) (fun _ h9 => h9) rfl d_Ch_open_1 ?_
  refine lv_bipush (v := (nI 40)) hx hb d_Ch_open_4 (by decide +kernel) ?_
  refine n_icmp_lt (tgt := 11) hx hb d_Ch_open_6 (by decide) (by omega) (by decide) (fun c_a => ?_) (fun c_a => ?_)
  · refine lv_aload_n hx hb d_Ch_open_11 rfl (lv_at hl 0 rfl) ?_
    refine va_get (D := G) (ci := 1) (v := .int (nI n)) (C := R_Ch) (T := T_Ch) (N := 5) hx hb hts uw_Ch hown hK hP 0 rfl rfl 4 (by decide) (hts _ t_56) (fun _ h9 => h9) rfl d_Ch_open_12 ?_
    refine lv_istore_n (lv' := [(2, .int (nI n)), (0, .ref a_ch), (1, .int (nI k0))]) hx hb d_Ch_open_15 rfl hl (by decide) rfl (fun ls hl => ?_)
    refine lv_aload_n hx hb d_Ch_open_16 rfl (lv_at hl 1 rfl) ?_
    refine va_get (D := G) (ci := 1) (v := .ref a_rm) (C := R_Ch) (T := T_Ch) (N := 5) hx hb hts uw_Ch hown hK hP 0 rfl rfl 0 (by decide) (hts _ t_52) (fun _ h9 => h9) rfl d_Ch_open_17 ?_
    refine lv_iload_n hx hb d_Ch_open_20 rfl (lv_at hl 0 rfl) ?_
    refine lv_iload_n hx hb d_Ch_open_21 rfl (lv_at hl 2 rfl) ?_
    refine k_iastN hx hb hK hP hD hS 1 0 rfl rfl (by omega) (by decide) d_Ch_open_22 (fun H locs hP hD hS => ?_)
    have hP : va_P G vwCl [(a_ch, .inr (1, [.ref a_rm, .ref a_hd, .ref a_sh, .ref a_vl, .int (nI n)])), (a_rm, .inl (cI, 40, .inl (fun j => nI ((va_up room n k0) j)))), (a_hd, .inl (cI, 40, .inl (fun j => nI (held j)))), (a_sh, .inl (cZ, 40, .inl (fun j => bI (shut j))))] H := hP
    have hD : va_D A [(a_ch, .inr (1, [.ref a_rm, .ref a_hd, .ref a_sh, .ref a_vl, .int (nI n)])), (a_rm, .inl (cI, 40, .inl (fun j => nI ((va_up room n k0) j)))), (a_hd, .inl (cI, 40, .inl (fun j => nI (held j)))), (a_sh, .inl (cZ, 40, .inl (fun j => bI (shut j))))] := hD
    refine lv_aload_n hx hb d_Ch_open_23 rfl (lv_at hl 1 rfl) ?_
    refine va_get (D := G) (ci := 1) (v := .ref a_hd) (C := R_Ch) (T := T_Ch) (N := 5) hx hb hts uw_Ch hown hK hP 0 rfl rfl 1 (by decide) (hts _ t_53) (fun _ h9 => h9) rfl d_Ch_open_24 ?_
    refine lv_iload_n hx hb d_Ch_open_27 rfl (lv_at hl 0 rfl) ?_
    refine lv_iconst (v := (nI 0)) hx hb d_Ch_open_28 (by decide +kernel) ?_
    refine k_iastN hx hb hK hP hD hS 2 0 rfl rfl (by omega) (by decide) d_Ch_open_29 (fun H locs hP hD hS => ?_)
    have hP : va_P G vwCl [(a_ch, .inr (1, [.ref a_rm, .ref a_hd, .ref a_sh, .ref a_vl, .int (nI n)])), (a_rm, .inl (cI, 40, .inl (fun j => nI ((va_up room n k0) j)))), (a_hd, .inl (cI, 40, .inl (fun j => nI ((va_up held n 0) j)))), (a_sh, .inl (cZ, 40, .inl (fun j => bI (shut j))))] H := hP
    have hD : va_D A [(a_ch, .inr (1, [.ref a_rm, .ref a_hd, .ref a_sh, .ref a_vl, .int (nI n)])), (a_rm, .inl (cI, 40, .inl (fun j => nI ((va_up room n k0) j)))), (a_hd, .inl (cI, 40, .inl (fun j => nI ((va_up held n 0) j)))), (a_sh, .inl (cZ, 40, .inl (fun j => bI (shut j))))] := hD
    refine lv_aload_n hx hb d_Ch_open_30 rfl (lv_at hl 1 rfl) ?_
    refine va_get (D := G) (ci := 1) (v := .ref a_sh) (C := R_Ch) (T := T_Ch) (N := 5) hx hb hts uw_Ch hown hK hP 0 rfl rfl 2 (by decide) (hts _ t_54) (fun _ h9 => h9) rfl d_Ch_open_31 ?_
    refine lv_iload_n hx hb d_Ch_open_34 rfl (lv_at hl 0 rfl) ?_
    refine lv_iconst (v := (nI 0)) hx hb d_Ch_open_35 (by decide +kernel) ?_
    refine k_top (y := bI false) (by decide +kernel) ?_
    refine k_zast hx hb hK hP hD hS 3 1 rfl rfl (by omega) (by decide) d_Ch_open_36 (fun H locs hP hD hS => ?_)
    have hP : va_P G vwCl [(a_ch, .inr (1, [.ref a_rm, .ref a_hd, .ref a_sh, .ref a_vl, .int (nI n)])), (a_rm, .inl (cI, 40, .inl (fun j => nI ((va_up room n k0) j)))), (a_hd, .inl (cI, 40, .inl (fun j => nI ((va_up held n 0) j)))), (a_sh, .inl (cZ, 40, .inl (fun j => bI ((va_up shut n false) j))))] H := hP
    have hD : va_D A [(a_ch, .inr (1, [.ref a_rm, .ref a_hd, .ref a_sh, .ref a_vl, .int (nI n)])), (a_rm, .inl (cI, 40, .inl (fun j => nI ((va_up room n k0) j)))), (a_hd, .inl (cI, 40, .inl (fun j => nI ((va_up held n 0) j)))), (a_sh, .inl (cZ, 40, .inl (fun j => bI ((va_up shut n false) j))))] := hD
    refine lv_aload_n hx hb d_Ch_open_37 rfl (lv_at hl 1 rfl) ?_
    refine lv_dup hx hb d_Ch_open_38 rfl ?_
    refine va_get (D := G) (ci := 1) (v := .int (nI n)) (C := R_Ch) (T := T_Ch) (N := 5) hx hb hts uw_Ch hown hK hP 0 rfl rfl 4 (by decide) (hts _ t_56) (fun _ h9 => h9) rfl d_Ch_open_39 ?_
    refine lv_iconst (v := (nI 1)) hx hb d_Ch_open_42 (by decide +kernel) ?_
    refine lv_iadd hx hb d_Ch_open_43 ?_
    refine k_top (y := (nI (n + 1))) (nI_add n 1) ?_
    refine va_put (D := G) (ci := 1) (v := .int (nI (n + 1))) (ty := .int) (C := R_Ch) (T := T_Ch) (N := 5) hx hb hts uw_Ch ty_Ch tyok_Ch nm_Ch hown hK hP hD hS 0 rfl rfl 4 (by decide) (hts _ t_56) (fun _ h9 => h9) rfl (by decide +kernel) rfl rfl (Nat.le_of_ble_eq_true rfl) d_Ch_open_44 (fun H locs hP hD hS => ?_)
    have hP : va_P G vwCl [(a_ch, .inr (1, [.ref a_rm, .ref a_hd, .ref a_sh, .ref a_vl, .int (nI (n + 1))])), (a_rm, .inl (cI, 40, .inl (fun j => nI ((va_up room n k0) j)))), (a_hd, .inl (cI, 40, .inl (fun j => nI ((va_up held n 0) j)))), (a_sh, .inl (cZ, 40, .inl (fun j => bI ((va_up shut n false) j))))] H := hP
    have hD : va_D A [(a_ch, .inr (1, [.ref a_rm, .ref a_hd, .ref a_sh, .ref a_vl, .int (nI (n + 1))])), (a_rm, .inl (cI, 40, .inl (fun j => nI ((va_up room n k0) j)))), (a_hd, .inl (cI, 40, .inl (fun j => nI ((va_up held n 0) j)))), (a_sh, .inl (cZ, 40, .inl (fun j => bI ((va_up shut n false) j))))] := hD
    refine lv_iload_n hx hb d_Ch_open_47 rfl (lv_at hl 0 rfl) ?_
    exact k_wi hx hb hr hlocks hP hS () (by simp only [if_pos c_a]) ((if_pos c_a).symm) d_Ch_open_48
  · refine lv_iconst (v := (-1)) hx hb d_Ch_open_9 (by decide +kernel) ?_
    exact k_wi hx hb hr hlocks hP hS () (by simp only [if_neg (Nat.not_lt.mpr c_a)]) ((if_neg (Nat.not_lt.mpr c_a)).symm) d_Ch_open_10
set_option maxHeartbeats 4000000 in
set_option maxRecDepth 100000 in
theorem c_Ch_shut (l : Launch) (G : va_G) (cI cZ cJ : ClassId) (sz : Nat) (a_ch : Nat) (a_rm : Nat) (a_hd : Nat) (a_sh : Nat) (a_vl : Nat) (n : Nat) (shut : Nat → Bool) (x : Nat) (hx0 : x < 40) : Met l y_Ch_shut (w_Ch_shut) ({ frames := 0, cells := 0, slots := 0, locals := 0 }) (va_Pc [.ref a_ch, .int (nI x)] (kW G vwCl [(cI, .int), (cZ, .boolean), (cJ, .long)] [(a_ch, .inr (1, [.ref a_rm, .ref a_hd, .ref a_sh, .ref a_vl, .int (nI n)])), (a_sh, .inl (cZ, 40, .inl (fun j => bI (shut j))))] sz)) (va_Qv (fun (u : Unit) => True) (fun u t => va_P G vwCl [(a_ch, .inr (1, [.ref a_rm, .ref a_hd, .ref a_sh, .ref a_vl, .int (nI n)])), (a_sh, .inl (cZ, 40, .inl (fun j => bI ((va_up shut x true) j))))] t.heap) (va_A [(a_ch, .inr (1, [.ref a_rm, .ref a_hd, .ref a_sh, .ref a_vl, .int (nI n)])), (a_sh, .inl (cZ, 40, .inl (fun j => bI (shut j))))] sz)) 0 0 (va_A [(a_ch, .inr (1, [.ref a_rm, .ref a_hd, .ref a_sh, .ref a_vl, .int (nI n)])), (a_sh, .inl (cZ, 40, .inl (fun j => bI (shut j))))] sz) := by
  refine Met.ofW (cc := b_Ch_shut) (maxL := 2) (ret := none) (by decide) rfl ?_
  intro p e s m args below meth c s₁ B hml hv
  obtain ⟨rfl, hsz, hP, hK, hD0⟩ := hv
  have hx := B.exec
  have hb := B.bytes
  have hr := B.returns
  have hts : ∀ w ∈ TT, w.before _ s = true := fun w h => atoms_spec (ws := (w_Ch_shut)) B.pre w (List.mem_cons_of_mem _ h)
  have hown : s.vm.findClass R_Ch = some m.cls := findClass_of_methodNamed B.named
  have hlocks := B.notSynchronized
  subst hsz
  have hD := hD0.self (sz := s.heap.size)
  generalize hAe : va_A [(a_ch, .inr (1, [.ref a_rm, .ref a_hd, .ref a_sh, .ref a_vl, .int (nI n)])), (a_sh, .inl (cZ, 40, .inl (fun j => bI (shut j))))] s.heap.size = A at hD ⊢
  have hA : ∀ q : Nat, s.heap.size ≤ q → A q := fun q h => by rw [← hAe]; exact Or.inr h
  have hS : va_S A s.heap s.heap [] := va_S.rf
  have hP : va_P G vwCl [(a_ch, .inr (1, [.ref a_rm, .ref a_hd, .ref a_sh, .ref a_vl, .int (nI n)])), (a_sh, .inl (cZ, 40, .inl (fun j => bI (shut j))))] s.heap := hP
  have hl := lv_entry ([.ref a_ch, .int (nI x)]) (n := 2) (Nat.le_of_ble_eq_true rfl)
  rw [lg_entry_eq]
  generalize (lg_sl ([.ref a_ch, .int (nI x)]) ++ List.replicate (2 - (lg_sl ([.ref a_ch, .int (nI x)])).length) Slot.unset).toArray = ls at hl ⊢
  have hl : lv_has ls 2 [(0, .ref a_ch), (1, .int (nI x))] := hl
  refine lv_aload_n hx hb d_Ch_shut_0 rfl (lv_at hl 0 rfl) ?_
  refine va_get (D := G) (ci := 1) (v := .ref a_sh) (C := R_Ch) (T := T_Ch) (N := 5) hx hb hts uw_Ch hown hK hP 0 rfl rfl 2 (by decide) (hts _ t_54) (fun _ h9 => h9) rfl d_Ch_shut_1 ?_
  refine lv_iload_n hx hb d_Ch_shut_4 rfl (lv_at hl 1 rfl) ?_
  refine lv_iconst (v := (nI 1)) hx hb d_Ch_shut_5 (by decide +kernel) ?_
  refine k_top (y := bI true) (by decide +kernel) ?_
  refine k_zast hx hb hK hP hD hS 1 1 rfl rfl (by omega) (by decide) d_Ch_shut_6 (fun H locs hP hD hS => ?_)
  have hP : va_P G vwCl [(a_ch, .inr (1, [.ref a_rm, .ref a_hd, .ref a_sh, .ref a_vl, .int (nI n)])), (a_sh, .inl (cZ, 40, .inl (fun j => bI ((va_up shut x true) j))))] H := hP
  have hD : va_D A [(a_ch, .inr (1, [.ref a_rm, .ref a_hd, .ref a_sh, .ref a_vl, .int (nI n)])), (a_sh, .inl (cZ, 40, .inl (fun j => bI ((va_up shut x true) j))))] := hD
  exact k_wv hx hb hr hlocks hP hS () (rfl) (trivial) d_Ch_shut_7
set_option maxHeartbeats 4000000 in
set_option maxRecDepth 100000 in
theorem c_Ch_isShut (l : Launch) (G : va_G) (cI cZ cJ : ClassId) (a_ch : Nat) (a_rm : Nat) (a_hd : Nat) (a_sh : Nat) (a_vl : Nat) (n : Nat) (shut : Nat → Bool) (x : Nat) (hx0 : x < 40) : Met l y_Ch_isShut (w_Ch_isShut) ({ frames := 0, cells := 0, slots := 0, locals := 0 }) (va_Pc [.ref a_ch, .int (nI x)] (kR G vwCl [(cI, .int), (cZ, .boolean), (cJ, .long)] [(a_ch, .inr (1, [.ref a_rm, .ref a_hd, .ref a_sh, .ref a_vl, .int (nI n)])), (a_sh, .inl (cZ, 40, .inl (fun j => bI (shut j))))])) (QcRead ((bI (shut x)))) 0 0 (fun _ => False) := by
  refine Met.ofW (cc := b_Ch_isShut) (maxL := 2) (ret := (some .boolean)) (by decide) rfl ?_
  intro p e s m args below meth c s₁ B hml hv
  obtain ⟨rfl, hP, hK⟩ := hv
  have hx := B.exec
  have hb := B.bytes
  have hr := B.returns
  have hts : ∀ w ∈ TT, w.before _ s = true := fun w h => atoms_spec (ws := (w_Ch_isShut)) B.pre w (List.mem_cons_of_mem _ h)
  have hown : s.vm.findClass R_Ch = some m.cls := findClass_of_methodNamed B.named
  have hlocks := B.notSynchronized
  have hP : va_P G vwCl [(a_ch, .inr (1, [.ref a_rm, .ref a_hd, .ref a_sh, .ref a_vl, .int (nI n)])), (a_sh, .inl (cZ, 40, .inl (fun j => bI (shut j))))] s.heap := hP
  have hl := lv_entry ([.ref a_ch, .int (nI x)]) (n := 2) (Nat.le_of_ble_eq_true rfl)
  rw [lg_entry_eq]
  generalize (lg_sl ([.ref a_ch, .int (nI x)]) ++ List.replicate (2 - (lg_sl ([.ref a_ch, .int (nI x)])).length) Slot.unset).toArray = ls at hl ⊢
  have hl : lv_has ls 2 [(0, .ref a_ch), (1, .int (nI x))] := hl
  refine lv_aload_n hx hb d_Ch_isShut_0 rfl (lv_at hl 0 rfl) ?_
  refine va_get (D := G) (ci := 1) (v := .ref a_sh) (C := R_Ch) (T := T_Ch) (N := 5) hx hb hts uw_Ch hown hK hP 0 rfl rfl 2 (by decide) (hts _ t_54) (fun _ h9 => h9) rfl d_Ch_isShut_1 ?_
  refine lv_iload_n hx hb d_Ch_isShut_4 rfl (lv_at hl 1 rfl) ?_
  refine k_zald hx hb hK hP 1 1 rfl rfl (by omega) (by decide) d_Ch_isShut_5 ?_
  exact k_rz hx hb hr hlocks (nar_bool _) (rfl) d_Ch_isShut_6
set_option maxHeartbeats 4000000 in
set_option maxRecDepth 100000 in
theorem c_Ch_roomOf (l : Launch) (G : va_G) (cI cZ cJ : ClassId) (a_ch : Nat) (a_rm : Nat) (a_hd : Nat) (a_sh : Nat) (a_vl : Nat) (n : Nat) (room : Nat → Nat) (x : Nat) (hx0 : x < 40) : Met l y_Ch_roomOf (w_Ch_roomOf) ({ frames := 0, cells := 0, slots := 0, locals := 0 }) (va_Pc [.ref a_ch, .int (nI x)] (kR G vwCl [(cI, .int), (cZ, .boolean), (cJ, .long)] [(a_ch, .inr (1, [.ref a_rm, .ref a_hd, .ref a_sh, .ref a_vl, .int (nI n)])), (a_rm, .inl (cI, 40, .inl (fun j => nI (room j))))])) (QcRead ((nI (room x)))) 0 0 (fun _ => False) := by
  refine Met.ofW (cc := b_Ch_roomOf) (maxL := 2) (ret := (some .int)) (by decide) rfl ?_
  intro p e s m args below meth c s₁ B hml hv
  obtain ⟨rfl, hP, hK⟩ := hv
  have hx := B.exec
  have hb := B.bytes
  have hr := B.returns
  have hts : ∀ w ∈ TT, w.before _ s = true := fun w h => atoms_spec (ws := (w_Ch_roomOf)) B.pre w (List.mem_cons_of_mem _ h)
  have hown : s.vm.findClass R_Ch = some m.cls := findClass_of_methodNamed B.named
  have hlocks := B.notSynchronized
  have hP : va_P G vwCl [(a_ch, .inr (1, [.ref a_rm, .ref a_hd, .ref a_sh, .ref a_vl, .int (nI n)])), (a_rm, .inl (cI, 40, .inl (fun j => nI (room j))))] s.heap := hP
  have hl := lv_entry ([.ref a_ch, .int (nI x)]) (n := 2) (Nat.le_of_ble_eq_true rfl)
  rw [lg_entry_eq]
  generalize (lg_sl ([.ref a_ch, .int (nI x)]) ++ List.replicate (2 - (lg_sl ([.ref a_ch, .int (nI x)])).length) Slot.unset).toArray = ls at hl ⊢
  have hl : lv_has ls 2 [(0, .ref a_ch), (1, .int (nI x))] := hl
  refine lv_aload_n hx hb d_Ch_roomOf_0 rfl (lv_at hl 0 rfl) ?_
  refine va_get (D := G) (ci := 1) (v := .ref a_rm) (C := R_Ch) (T := T_Ch) (N := 5) hx hb hts uw_Ch hown hK hP 0 rfl rfl 0 (by decide) (hts _ t_52) (fun _ h9 => h9) rfl d_Ch_roomOf_1 ?_
  refine lv_iload_n hx hb d_Ch_roomOf_4 rfl (lv_at hl 1 rfl) ?_
  refine k_iald hx hb hK hP 1 0 rfl rfl (by omega) (by decide) d_Ch_roomOf_5 ?_
  exact k_ri hx hb hr hlocks (rfl) d_Ch_roomOf_6
set_option maxHeartbeats 4000000 in
set_option maxRecDepth 100000 in
theorem c_Ch_held (l : Launch) (G : va_G) (cI cZ cJ : ClassId) (a_ch : Nat) (a_rm : Nat) (a_hd : Nat) (a_sh : Nat) (a_vl : Nat) (n : Nat) (held : Nat → Nat) (vals : Nat → Int32) (L : Nat → List Int32) (x : Nat) (hx0 : x < 40) (hV : RelV held vals L) : Met l y_Ch_held (w_Ch_held) ({ frames := 0, cells := 0, slots := 0, locals := 0 }) (va_Pc [.ref a_ch, .int (nI x)] (kR G vwCl [(cI, .int), (cZ, .boolean), (cJ, .long)] [(a_ch, .inr (1, [.ref a_rm, .ref a_hd, .ref a_sh, .ref a_vl, .int (nI n)])), (a_hd, .inl (cI, 40, .inl (fun j => nI (held j))))])) (QcRead ((nI ((L x).length)))) 0 0 (fun _ => False) := by
  refine Met.ofW (cc := b_Ch_held) (maxL := 2) (ret := (some .int)) (by decide) rfl ?_
  intro p e s m args below meth c s₁ B hml hv
  obtain ⟨rfl, hP, hK⟩ := hv
  have hx := B.exec
  have hb := B.bytes
  have hr := B.returns
  have hts : ∀ w ∈ TT, w.before _ s = true := fun w h => atoms_spec (ws := (w_Ch_held)) B.pre w (List.mem_cons_of_mem _ h)
  have hown : s.vm.findClass R_Ch = some m.cls := findClass_of_methodNamed B.named
  have hlocks := B.notSynchronized
  have hP : va_P G vwCl [(a_ch, .inr (1, [.ref a_rm, .ref a_hd, .ref a_sh, .ref a_vl, .int (nI n)])), (a_hd, .inl (cI, 40, .inl (fun j => nI (held j))))] s.heap := hP
  have hl := lv_entry ([.ref a_ch, .int (nI x)]) (n := 2) (Nat.le_of_ble_eq_true rfl)
  rw [lg_entry_eq]
  generalize (lg_sl ([.ref a_ch, .int (nI x)]) ++ List.replicate (2 - (lg_sl ([.ref a_ch, .int (nI x)])).length) Slot.unset).toArray = ls at hl ⊢
  have hl : lv_has ls 2 [(0, .ref a_ch), (1, .int (nI x))] := hl
  refine lv_aload_n hx hb d_Ch_held_0 rfl (lv_at hl 0 rfl) ?_
  refine va_get (D := G) (ci := 1) (v := .ref a_hd) (C := R_Ch) (T := T_Ch) (N := 5) hx hb hts uw_Ch hown hK hP 0 rfl rfl 1 (by decide) (hts _ t_53) (fun _ h9 => h9) rfl d_Ch_held_1 ?_
  refine lv_iload_n hx hb d_Ch_held_4 rfl (lv_at hl 1 rfl) ?_
  refine k_iald hx hb hK hP 1 0 rfl rfl (by omega) (by decide) d_Ch_held_5 ?_
  exact k_ri hx hb hr hlocks (congrArg nI (hV x hx0).1) d_Ch_held_6
set_option maxHeartbeats 4000000 in
set_option maxRecDepth 100000 in
theorem c_Ch_hasSpace (l : Launch) (G : va_G) (cI cZ cJ : ClassId) (a_ch : Nat) (a_rm : Nat) (a_hd : Nat) (a_sh : Nat) (a_vl : Nat) (n : Nat) (room : Nat → Nat) (held : Nat → Nat) (vals : Nat → Int32) (L : Nat → List Int32) (x : Nat) (hx0 : x < 40) (hV : RelV held vals L) (hroom : room x ≤ 8) : Met l y_Ch_hasSpace (w_Ch_hasSpace) ({ frames := 0, cells := 0, slots := 0, locals := 0 }) (va_Pc [.ref a_ch, .int (nI x)] (kR G vwCl [(cI, .int), (cZ, .boolean), (cJ, .long)] [(a_ch, .inr (1, [.ref a_rm, .ref a_hd, .ref a_sh, .ref a_vl, .int (nI n)])), (a_rm, .inl (cI, 40, .inl (fun j => nI (room j)))), (a_hd, .inl (cI, 40, .inl (fun j => nI (held j))))])) (QcRead ((bI (decide ((L x).length < room x))))) 0 0 (fun _ => False) := by
  refine Met.ofW (cc := b_Ch_hasSpace) (maxL := 2) (ret := (some .boolean)) (by decide) rfl ?_
  intro p e s m args below meth c s₁ B hml hv
  obtain ⟨rfl, hP, hK⟩ := hv
  have hx := B.exec
  have hb := B.bytes
  have hr := B.returns
  have hts : ∀ w ∈ TT, w.before _ s = true := fun w h => atoms_spec (ws := (w_Ch_hasSpace)) B.pre w (List.mem_cons_of_mem _ h)
  have hown : s.vm.findClass R_Ch = some m.cls := findClass_of_methodNamed B.named
  have hlocks := B.notSynchronized
  have hP : va_P G vwCl [(a_ch, .inr (1, [.ref a_rm, .ref a_hd, .ref a_sh, .ref a_vl, .int (nI n)])), (a_rm, .inl (cI, 40, .inl (fun j => nI (room j)))), (a_hd, .inl (cI, 40, .inl (fun j => nI (held j))))] s.heap := hP
  have hl := lv_entry ([.ref a_ch, .int (nI x)]) (n := 2) (Nat.le_of_ble_eq_true rfl)
  rw [lg_entry_eq]
  generalize (lg_sl ([.ref a_ch, .int (nI x)]) ++ List.replicate (2 - (lg_sl ([.ref a_ch, .int (nI x)])).length) Slot.unset).toArray = ls at hl ⊢
  have hl : lv_has ls 2 [(0, .ref a_ch), (1, .int (nI x))] := hl
  have hh := (hV x hx0).1
  have hh2 := (hV x hx0).2.1
  refine lv_aload_n hx hb d_Ch_hasSpace_0 rfl (lv_at hl 0 rfl) ?_
  refine va_get (D := G) (ci := 1) (v := .ref a_hd) (C := R_Ch) (T := T_Ch) (N := 5) hx hb hts uw_Ch hown hK hP 0 rfl rfl 1 (by decide) (hts _ t_53) (fun _ h9 => h9) rfl d_Ch_hasSpace_1 ?_
  refine lv_iload_n hx hb d_Ch_hasSpace_4 rfl (lv_at hl 1 rfl) ?_
  refine k_iald hx hb hK hP 2 0 rfl rfl (by omega) (by decide) d_Ch_hasSpace_5 ?_
  refine lv_aload_n hx hb d_Ch_hasSpace_6 rfl (lv_at hl 0 rfl) ?_
  refine va_get (D := G) (ci := 1) (v := .ref a_rm) (C := R_Ch) (T := T_Ch) (N := 5) hx hb hts uw_Ch hown hK hP 0 rfl rfl 0 (by decide) (hts _ t_52) (fun _ h9 => h9) rfl d_Ch_hasSpace_7 ?_
  refine lv_iload_n hx hb d_Ch_hasSpace_10 rfl (lv_at hl 1 rfl) ?_
  refine k_iald hx hb hK hP 1 0 rfl rfl (by omega) (by decide) d_Ch_hasSpace_11 ?_
  refine n_icmp_ge (tgt := 19) hx hb d_Ch_hasSpace_12 (by decide) (by omega) (by omega) (fun c_1 => ?_) (fun c_1 => ?_)
  · refine lv_iconst (v := (nI 0)) hx hb d_Ch_hasSpace_19 (by decide +kernel) ?_
    exact k_rz hx hb hr hlocks (by decide +kernel) (bI_df (by omega)) d_Ch_hasSpace_20
  · refine lv_iconst (v := (nI 1)) hx hb d_Ch_hasSpace_15 (by decide +kernel) ?_
    refine lv_goto (tgt := 20) hx hb d_Ch_hasSpace_16 (by decide) ?_
    exact k_rz hx hb hr hlocks (by decide +kernel) (bI_dt (by omega)) d_Ch_hasSpace_20
set_option maxHeartbeats 4000000 in
set_option maxRecDepth 100000 in
theorem c_Ch_valueAt (l : Launch) (G : va_G) (cI cZ cJ : ClassId) (a_ch : Nat) (a_rm : Nat) (a_hd : Nat) (a_sh : Nat) (a_vl : Nat) (n : Nat) (held : Nat → Nat) (vals : Nat → Int32) (L : Nat → List Int32) (x : Nat) (i : Nat) (hx0 : x < 40) (hV : RelV held vals L) (hi : i < 8) : Met l y_Ch_valueAt (w_Ch_valueAt) ({ frames := 0, cells := 0, slots := 0, locals := 0 }) (va_Pc [.ref a_ch, .int (nI x), .int (nI i)] (kR G vwCl [(cI, .int), (cZ, .boolean), (cJ, .long)] [(a_ch, .inr (1, [.ref a_rm, .ref a_hd, .ref a_sh, .ref a_vl, .int (nI n)])), (a_hd, .inl (cI, 40, .inl (fun j => nI (held j)))), (a_vl, .inl (cI, 320, .inl vals))])) (QcRead (((L x).getD i 0))) 0 0 (fun _ => False) := by
  refine Met.ofW (cc := b_Ch_valueAt) (maxL := 3) (ret := (some .int)) (by decide) rfl ?_
  intro p e s m args below meth c s₁ B hml hv
  obtain ⟨rfl, hP, hK⟩ := hv
  have hx := B.exec
  have hb := B.bytes
  have hr := B.returns
  have hts : ∀ w ∈ TT, w.before _ s = true := fun w h => atoms_spec (ws := (w_Ch_valueAt)) B.pre w (List.mem_cons_of_mem _ h)
  have hown : s.vm.findClass R_Ch = some m.cls := findClass_of_methodNamed B.named
  have hlocks := B.notSynchronized
  have hP : va_P G vwCl [(a_ch, .inr (1, [.ref a_rm, .ref a_hd, .ref a_sh, .ref a_vl, .int (nI n)])), (a_hd, .inl (cI, 40, .inl (fun j => nI (held j)))), (a_vl, .inl (cI, 320, .inl vals))] s.heap := hP
  have hl := lv_entry ([.ref a_ch, .int (nI x), .int (nI i)]) (n := 3) (Nat.le_of_ble_eq_true rfl)
  rw [lg_entry_eq]
  generalize (lg_sl ([.ref a_ch, .int (nI x), .int (nI i)]) ++ List.replicate (3 - (lg_sl ([.ref a_ch, .int (nI x), .int (nI i)])).length) Slot.unset).toArray = ls at hl ⊢
  have hl : lv_has ls 3 [(0, .ref a_ch), (1, .int (nI x)), (2, .int (nI i))] := hl
  obtain ⟨hh, hh2, hh3⟩ := hV x hx0
  refine lv_iload_n hx hb d_Ch_valueAt_0 rfl (lv_at hl 2 rfl) ?_
  refine lv_aload_n hx hb d_Ch_valueAt_1 rfl (lv_at hl 0 rfl) ?_
  refine va_get (D := G) (ci := 1) (v := .ref a_hd) (C := R_Ch) (T := T_Ch) (N := 5) hx hb hts uw_Ch hown hK hP 0 rfl rfl 1 (by decide) (hts _ t_53) (fun _ h9 => h9) rfl d_Ch_valueAt_2 ?_
  refine lv_iload_n hx hb d_Ch_valueAt_5 rfl (lv_at hl 1 rfl) ?_
  refine k_iald hx hb hK hP 1 0 rfl rfl (by omega) (by decide) d_Ch_valueAt_6 ?_
  refine n_icmp_ge (tgt := 24) hx hb d_Ch_valueAt_7 (by decide) (by omega) (by omega) (fun c_1 => ?_) (fun c_1 => ?_)
  · refine lv_iconst (v := (nI 0)) hx hb d_Ch_valueAt_24 (by decide +kernel) ?_
    exact k_ri hx hb hr hlocks ((by rw [List.getD_eq_getElem?_getD, List.getElem?_eq_none (by omega)]; decide +kernel)) d_Ch_valueAt_25
  · refine lv_aload_n hx hb d_Ch_valueAt_10 rfl (lv_at hl 0 rfl) ?_
    refine va_get (D := G) (ci := 1) (v := .ref a_vl) (C := R_Ch) (T := T_Ch) (N := 5) hx hb hts uw_Ch hown hK hP 0 rfl rfl 3 (by decide) (hts _ t_55) (fun _ h9 => h9) rfl d_Ch_valueAt_11 ?_
    refine lv_iload_n hx hb d_Ch_valueAt_14 rfl (lv_at hl 1 rfl) ?_
    refine lv_bipush (v := (nI 8)) hx hb d_Ch_valueAt_15 (by decide +kernel) ?_
    refine lv_imul hx hb d_Ch_valueAt_17 ?_
    refine k_top (y := (nI (x * 8))) (pk_mul x 8) ?_
    refine lv_iload_n hx hb d_Ch_valueAt_18 rfl (lv_at hl 2 rfl) ?_
    refine lv_iadd hx hb d_Ch_valueAt_19 ?_
    refine k_top (y := (nI ((x * 8) + i))) (nI_add (x * 8) i) ?_
    refine k_iald hx hb hK hP 2 0 rfl rfl (by omega) (by decide) d_Ch_valueAt_20 ?_
    refine lv_goto (tgt := 25) hx hb d_Ch_valueAt_21 (by decide) ?_
    exact k_ri hx hb hr hlocks ((by rw [hh3 i (by omega), List.getD_eq_getElem?_getD, List.getElem?_eq_getElem (by omega)]; rfl)) d_Ch_valueAt_25
set_option maxHeartbeats 4000000 in
set_option maxRecDepth 100000 in
theorem c_Ch_put (l : Launch) (G : va_G) (cI cZ cJ : ClassId) (sz : Nat) (a_ch : Nat) (a_rm : Nat) (a_hd : Nat) (a_sh : Nat) (a_vl : Nat) (n : Nat) (room : Nat → Nat) (held : Nat → Nat) (vals : Nat → Int32) (L : Nat → List Int32) (x : Nat) (v : Int32) (hx0 : x < 40) (hV : RelV held vals L) (hroom : room x ≤ 8) : Met l y_Ch_put (w_Ch_put) ({ frames := 1, cells := 0, slots := 0, locals := 21 }) (va_Pc [.ref a_ch, .int (nI x), .int v] (kW G vwCl [(cI, .int), (cZ, .boolean), (cJ, .long)] [(a_ch, .inr (1, [.ref a_rm, .ref a_hd, .ref a_sh, .ref a_vl, .int (nI n)])), (a_rm, .inl (cI, 40, .inl (fun j => nI (room j)))), (a_hd, .inl (cI, 40, .inl (fun j => nI (held j)))), (a_vl, .inl (cI, 320, .inl vals))] sz)) (va_Qi (fun (r : Int32) (u : (Nat → Nat) × (Nat → Int32)) => r = (bI (decide ((L x).length < room x))) ∧ RelV u.1 u.2 (putL L room x v)) (fun u t => va_P G vwCl [(a_ch, .inr (1, [.ref a_rm, .ref a_hd, .ref a_sh, .ref a_vl, .int (nI n)])), (a_rm, .inl (cI, 40, .inl (fun j => nI (room j)))), (a_hd, .inl (cI, 40, .inl (fun j => nI (u.1 j)))), (a_vl, .inl (cI, 320, .inl u.2))] t.heap) (va_A [(a_ch, .inr (1, [.ref a_rm, .ref a_hd, .ref a_sh, .ref a_vl, .int (nI n)])), (a_rm, .inl (cI, 40, .inl (fun j => nI (room j)))), (a_hd, .inl (cI, 40, .inl (fun j => nI (held j)))), (a_vl, .inl (cI, 320, .inl vals))] sz)) 0 0 (va_A [(a_ch, .inr (1, [.ref a_rm, .ref a_hd, .ref a_sh, .ref a_vl, .int (nI n)])), (a_rm, .inl (cI, 40, .inl (fun j => nI (room j)))), (a_hd, .inl (cI, 40, .inl (fun j => nI (held j)))), (a_vl, .inl (cI, 320, .inl vals))] sz) := by
  refine Met.ofW (cc := b_Ch_put) (maxL := 3) (ret := (some .boolean)) (by decide) rfl ?_
  intro p e s m args below meth c s₁ B hml hv
  obtain ⟨rfl, hsz, hP, hK, hD0⟩ := hv
  have hx := B.exec
  have hb := B.bytes
  have hr := B.returns
  have hts : ∀ w ∈ TT, w.before _ s = true := fun w h => atoms_spec (ws := (w_Ch_put)) B.pre w (List.mem_cons_of_mem _ h)
  have hown : s.vm.findClass R_Ch = some m.cls := findClass_of_methodNamed B.named
  have hlocks := B.notSynchronized
  subst hsz
  have hD := hD0.self (sz := s.heap.size)
  generalize hAe : va_A [(a_ch, .inr (1, [.ref a_rm, .ref a_hd, .ref a_sh, .ref a_vl, .int (nI n)])), (a_rm, .inl (cI, 40, .inl (fun j => nI (room j)))), (a_hd, .inl (cI, 40, .inl (fun j => nI (held j)))), (a_vl, .inl (cI, 320, .inl vals))] s.heap.size = A at hD ⊢
  have hA : ∀ q : Nat, s.heap.size ≤ q → A q := fun q h => by rw [← hAe]; exact Or.inr h
  have hS : va_S A s.heap s.heap [] := va_S.rf
  have hP : va_P G vwCl [(a_ch, .inr (1, [.ref a_rm, .ref a_hd, .ref a_sh, .ref a_vl, .int (nI n)])), (a_rm, .inl (cI, 40, .inl (fun j => nI (room j)))), (a_hd, .inl (cI, 40, .inl (fun j => nI (held j)))), (a_vl, .inl (cI, 320, .inl vals))] s.heap := hP
  have hl := lv_entry ([.ref a_ch, .int (nI x), .int v]) (n := 3) (Nat.le_of_ble_eq_true rfl)
  rw [lg_entry_eq]
  generalize (lg_sl ([.ref a_ch, .int (nI x), .int v]) ++ List.replicate (3 - (lg_sl ([.ref a_ch, .int (nI x), .int v])).length) Slot.unset).toArray = ls at hl ⊢
  have hl : lv_has ls 3 [(0, .ref a_ch), (1, .int (nI x)), (2, .int v)] := hl
  obtain ⟨hh, hh2, hh3⟩ := hV x hx0
  refine lv_aload_n hx hb d_Ch_put_0 rfl (lv_at hl 0 rfl) ?_
  refine lv_iload_n hx hb d_Ch_put_1 rfl (lv_at hl 1 rfl) ?_
  refine k_ro (va_runV (As := [.int (nI x)]) (rest := []) ⟨hx, hb, hml, hown, hts⟩ (c_Ch_hasSpace l G cI cZ cJ a_ch a_rm a_hd a_sh a_vl n room held vals L x hx0 hV hroom) (cwV 1 hts (gV t_203 t_204 t_205 t_33 t_206) rfl rfl rfl (by decide +kernel) ⟨Nat.le_of_ble_eq_true rfl, Nat.le_of_ble_eq_true rfl⟩) (kR_V (ci := 1) (q0 := 0) hK hP rfl rfl [0, 1, 2] rfl) rfl rfl hl.1 rfl (lv_room (Nat.le_of_ble_eq_true rfl)) d_Ch_put_2 ⟨Nat.le_of_ble_eq_true rfl, Nat.le_of_ble_eq_true rfl⟩) ?_
  refine b_if_ne (tgt := 10) hx hb d_Ch_put_5 (by decide) (fun c_a => ?_) (fun c_a => ?_)
  · refine lv_aload_n hx hb d_Ch_put_10 rfl (lv_at hl 0 rfl) ?_
    refine va_get (D := G) (ci := 1) (v := .ref a_vl) (C := R_Ch) (T := T_Ch) (N := 5) hx hb hts uw_Ch hown hK hP 0 rfl rfl 3 (by decide) (hts _ t_55) (fun _ h9 => h9) rfl d_Ch_put_11 ?_
    refine lv_iload_n hx hb d_Ch_put_14 rfl (lv_at hl 1 rfl) ?_
    refine lv_bipush (v := (nI 8)) hx hb d_Ch_put_15 (by decide +kernel) ?_
    refine lv_imul hx hb d_Ch_put_17 ?_
    refine k_top (y := (nI (x * 8))) (pk_mul x 8) ?_
    refine lv_aload_n hx hb d_Ch_put_18 rfl (lv_at hl 0 rfl) ?_
    refine va_get (D := G) (ci := 1) (v := .ref a_hd) (C := R_Ch) (T := T_Ch) (N := 5) hx hb hts uw_Ch hown hK hP 0 rfl rfl 1 (by decide) (hts _ t_53) (fun _ h9 => h9) rfl d_Ch_put_19 ?_
    refine lv_iload_n hx hb d_Ch_put_22 rfl (lv_at hl 1 rfl) ?_
    refine k_iald hx hb hK hP 2 0 rfl rfl (by omega) (by decide) d_Ch_put_23 ?_
    refine lv_iadd hx hb d_Ch_put_24 ?_
    refine k_top (y := (nI ((x * 8) + (held x)))) (nI_add (x * 8) (held x)) ?_
    refine lv_iload_n hx hb d_Ch_put_25 rfl (lv_at hl 2 rfl) ?_
    refine k_iast hx hb hK hP hD hS 3 0 rfl rfl (by have z9 := of_decide_eq_true c_a; omega) (by decide) d_Ch_put_26 (fun H locs hP hD hS => ?_)
    have hP : va_P G vwCl [(a_ch, .inr (1, [.ref a_rm, .ref a_hd, .ref a_sh, .ref a_vl, .int (nI n)])), (a_rm, .inl (cI, 40, .inl (fun j => nI (room j)))), (a_hd, .inl (cI, 40, .inl (fun j => nI (held j)))), (a_vl, .inl (cI, 320, .inl (va_up vals ((x * 8) + (held x)) v)))] H := hP
    have hD : va_D A [(a_ch, .inr (1, [.ref a_rm, .ref a_hd, .ref a_sh, .ref a_vl, .int (nI n)])), (a_rm, .inl (cI, 40, .inl (fun j => nI (room j)))), (a_hd, .inl (cI, 40, .inl (fun j => nI (held j)))), (a_vl, .inl (cI, 320, .inl (va_up vals ((x * 8) + (held x)) v)))] := hD
    refine lv_aload_n hx hb d_Ch_put_27 rfl (lv_at hl 0 rfl) ?_
    refine va_get (D := G) (ci := 1) (v := .ref a_hd) (C := R_Ch) (T := T_Ch) (N := 5) hx hb hts uw_Ch hown hK hP 0 rfl rfl 1 (by decide) (hts _ t_53) (fun _ h9 => h9) rfl d_Ch_put_28 ?_
    refine lv_iload_n hx hb d_Ch_put_31 rfl (lv_at hl 1 rfl) ?_
    refine lv_dup2_11 hx hb d_Ch_put_32 rfl rfl ?_
    refine k_iald hx hb hK hP 2 0 rfl rfl (by omega) (by decide) d_Ch_put_33 ?_
    refine lv_iconst (v := (nI 1)) hx hb d_Ch_put_34 (by decide +kernel) ?_
    refine lv_iadd hx hb d_Ch_put_35 ?_
    refine k_top (y := (nI ((held x) + 1))) (nI_add (held x) 1) ?_
    refine k_iastN hx hb hK hP hD hS 2 0 rfl rfl (by have z9 := of_decide_eq_true c_a; omega) (by decide) d_Ch_put_36 (fun H locs hP hD hS => ?_)
    have hP : va_P G vwCl [(a_ch, .inr (1, [.ref a_rm, .ref a_hd, .ref a_sh, .ref a_vl, .int (nI n)])), (a_rm, .inl (cI, 40, .inl (fun j => nI (room j)))), (a_hd, .inl (cI, 40, .inl (fun j => nI ((va_up held x ((held x) + 1)) j)))), (a_vl, .inl (cI, 320, .inl (va_up vals ((x * 8) + (held x)) v)))] H := hP
    have hD : va_D A [(a_ch, .inr (1, [.ref a_rm, .ref a_hd, .ref a_sh, .ref a_vl, .int (nI n)])), (a_rm, .inl (cI, 40, .inl (fun j => nI (room j)))), (a_hd, .inl (cI, 40, .inl (fun j => nI ((va_up held x ((held x) + 1)) j)))), (a_vl, .inl (cI, 320, .inl (va_up vals ((x * 8) + (held x)) v)))] := hD
    refine lv_iconst (v := (nI 1)) hx hb d_Ch_put_37 (by decide +kernel) ?_
    exact k_wz hx hb hr hlocks (by decide +kernel) hP hS (va_up held x ((held x) + 1), va_up vals ((x * 8) + (held x)) v) (rfl) (⟨bI_dt (of_decide_eq_true c_a), by rw [putL, if_pos (of_decide_eq_true c_a)]; exact hV.put hx0 v (Nat.lt_of_lt_of_le (of_decide_eq_true c_a) hroom)⟩) d_Ch_put_38
  · refine lv_iconst (v := (nI 0)) hx hb d_Ch_put_8 (by decide +kernel) ?_
    exact k_wz hx hb hr hlocks (by decide +kernel) hP hS (held, vals) (rfl) (⟨bI_df (of_decide_eq_false c_a), by rw [putL, if_neg (of_decide_eq_false c_a)]; exact hV⟩) d_Ch_put_9
