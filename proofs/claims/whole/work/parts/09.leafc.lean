set_option maxHeartbeats 4000000 in
set_option maxRecDepth 100000 in
theorem c_Ar_fillI (l : Launch) (G : va_G) (cI cZ cJ : ClassId) (sz : Nat) (a_ar : Nat) (af : Nat → Int32) (x : Int32)  : Met l y_Ar_fill (w_Ar_fill) ({ frames := 0, cells := 0, slots := 0, locals := 0 }) (va_Pc [.ref a_ar, .int x] (kW G vwCl [(cI, .int), (cZ, .boolean), (cJ, .long)] [(a_ar, .inl (cI, 16, .inl af))] sz)) (va_Qv (fun (u : Unit) => True) (fun u t => va_P G vwCl [(a_ar, .inl (cI, 16, .inl (fl 16 x af)))] t.heap) (va_A [(a_ar, .inl (cI, 16, .inl af))] sz)) 0 0 (va_A [(a_ar, .inl (cI, 16, .inl af))] sz) := by
  refine Met.ofW (cc := b_Ar_fill) (maxL := 4) (ret := none) (by decide) rfl ?_
  intro p e s m args below meth c s₁ B hml hv
  obtain ⟨rfl, hsz, hP, hK, hD0⟩ := hv
  have hx := B.exec
  have hb := B.bytes
  have hr := B.returns
  have hts : ∀ w ∈ TT, w.before _ s = true := fun w h => atoms_spec (ws := (w_Ar_fill)) B.pre w (List.mem_cons_of_mem _ h)
  have hown : s.vm.findClass R_Ar = some m.cls := findClass_of_methodNamed B.named
  have hlocks := B.notSynchronized
  subst hsz
  have hD := hD0.self (sz := s.heap.size)
  generalize hAe : va_A [(a_ar, .inl (cI, 16, .inl af))] s.heap.size = A at hD ⊢
  have hA : ∀ q : Nat, s.heap.size ≤ q → A q := fun q h => by rw [← hAe]; exact Or.inr h
  have hS : va_S A s.heap s.heap [] := va_S.rf
  have hP : va_P G vwCl [(a_ar, .inl (cI, 16, .inl af))] s.heap := hP
  have hl := lv_entry ([.ref a_ar, .int x]) (n := 4) (Nat.le_of_ble_eq_true rfl)
  rw [lg_entry_eq]
  generalize (lg_sl ([.ref a_ar, .int x]) ++ List.replicate (4 - (lg_sl ([.ref a_ar, .int x])).length) Slot.unset).toArray = ls at hl ⊢
  have hl : lv_has ls 4 [(0, .ref a_ar), (1, .int x)] := hl
  refine lv_iconst (v := (nI 0)) hx hb d_Ar_fill_0 (by decide +kernel) ?_
  refine lv_istore_n (lv' := [(2, .int (nI 0)), (0, .ref a_ar), (1, .int x)]) hx hb d_Ar_fill_1 rfl hl (by decide) rfl (fun ls hl => ?_)
  refine lv_aload_n hx hb d_Ar_fill_2 rfl (lv_at hl 1 rfl) ?_
  refine va_alen (v := nI 16) hx hb hK hP 0 0 rfl rfl rfl d_Ar_fill_3 ?_
  refine lv_istore_n (lv' := [(3, .int (nI 16)), (2, .int (nI 0)), (0, .ref a_ar), (1, .int x)]) hx hb d_Ar_fill_4 rfl hl (by decide) rfl (fun ls hl => ?_)
  have loop_5 : ∀ (k : Nat) (i : Nat) (f1 : Nat → Int32) (H : Heap) (locs : List Loc) (ls : Array Slot), i ≤ 16 → f1 = fl i x af → 16 - i < k → va_P G vwCl [(a_ar, .inl (cI, 16, .inl f1))] H → va_D A [(a_ar, .inl (cI, 16, .inl f1))] → va_S A s.heap H locs → lv_has ls 4 [(0, .ref a_ar), (1, .int x), (2, .int (nI i)), (3, .int (nI 16))] → W p l e (headSpec (w_Ar_fill) ({ frames := 0, cells := 0, slots := 0, locals := 0 })).room s m (List.toArray [.ref a_ar, .int x]) below meth c H locs 0 0 (MQ below (va_Qv (fun (u : Unit) => True) (fun u t => va_P G vwCl [(a_ar, .inl (cI, 16, .inl (fl 16 x af)))] t.heap) A) (List.toArray [.ref a_ar, .int x]) s 0 0 A) (F0 m 5 ls []) := by
    intro k
    induction k with
    | zero => intro i f1 H locs ls hi hf hk; exact absurd hk (Nat.not_lt_zero _)
    | succ k ih_5 =>
      intro i f1 H locs ls hi hf hk hP hD hS hl
      refine lv_iload_n hx hb d_Ar_fill_5 rfl (lv_at hl 2 rfl) ?_
      refine lv_iload_n hx hb d_Ar_fill_6 rfl (lv_at hl 3 rfl) ?_
      refine n_icmp_ge (tgt := 20) hx hb d_Ar_fill_7 (by decide) (by omega) (by decide) (fun c_1 => ?_) (fun c_1 => ?_)
      · exact k_wv hx hb hr hlocks hP hS () (by rw [hf, show i = 16 by omega]) (trivial) d_Ar_fill_20
      · refine lv_aload_n hx hb d_Ar_fill_10 rfl (lv_at hl 0 rfl) ?_
        refine lv_iload_n hx hb d_Ar_fill_11 rfl (lv_at hl 2 rfl) ?_
        refine lv_iload_n hx hb d_Ar_fill_12 rfl (lv_at hl 1 rfl) ?_
        refine k_iast hx hb hK hP hD hS 0 0 rfl rfl (by omega) (by decide) d_Ar_fill_13 (fun H locs hP hD hS => ?_)
        have hP : va_P G vwCl [(a_ar, .inl (cI, 16, .inl (va_up f1 i x)))] H := hP
        have hD : va_D A [(a_ar, .inl (cI, 16, .inl (va_up f1 i x)))] := hD
        refine lv_iinc (v := (nI (i + 1))) (lv' := [(2, .int (nI (i + 1))), (0, .ref a_ar), (1, .int x), (3, .int (nI 16))]) hx hb d_Ar_fill_14 hl (k := 2) rfl (nI_add i 1) (by decide) rfl (fun ls hl => ?_)
        refine lv_goto (tgt := 5) hx hb d_Ar_fill_17 (by decide) ?_
        exact ih_5 (i + 1) (va_up f1 i x) _ _ ls (by omega) (fl_succ hf) (by omega) (hP.sub [0] rfl) (hD.sub [0] (by decide) rfl) hS (lv_sub hl [1, 2, 0, 3] rfl)
  exact loop_5 ((16 - 0) + 1) 0 af _ _ ls (by omega) (fl_0 x af) (Nat.lt_succ_self _) (hP.sub [0] rfl) (hD.sub [0] (by decide) rfl) hS (lv_sub hl [2, 3, 1, 0] rfl)
set_option maxHeartbeats 4000000 in
set_option maxRecDepth 100000 in
theorem c_Ar_fillN (l : Launch) (G : va_G) (cI cZ cJ : ClassId) (sz : Nat) (a_ar : Nat) (an : Nat → Nat) (x : Nat)  : Met l y_Ar_fill (w_Ar_fill) ({ frames := 0, cells := 0, slots := 0, locals := 0 }) (va_Pc [.ref a_ar, .int (nI x)] (kW G vwCl [(cI, .int), (cZ, .boolean), (cJ, .long)] [(a_ar, .inl (cI, 16, .inl (fun j => nI (an j))))] sz)) (va_Qv (fun (u : Unit) => True) (fun u t => va_P G vwCl [(a_ar, .inl (cI, 16, .inl (fun j => nI ((fl 16 x an) j))))] t.heap) (va_A [(a_ar, .inl (cI, 16, .inl (fun j => nI (an j))))] sz)) 0 0 (va_A [(a_ar, .inl (cI, 16, .inl (fun j => nI (an j))))] sz) := by
  refine Met.ofW (cc := b_Ar_fill) (maxL := 4) (ret := none) (by decide) rfl ?_
  intro p e s m args below meth c s₁ B hml hv
  obtain ⟨rfl, hsz, hP, hK, hD0⟩ := hv
  have hx := B.exec
  have hb := B.bytes
  have hr := B.returns
  have hts : ∀ w ∈ TT, w.before _ s = true := fun w h => atoms_spec (ws := (w_Ar_fill)) B.pre w (List.mem_cons_of_mem _ h)
  have hown : s.vm.findClass R_Ar = some m.cls := findClass_of_methodNamed B.named
  have hlocks := B.notSynchronized
  subst hsz
  have hD := hD0.self (sz := s.heap.size)
  generalize hAe : va_A [(a_ar, .inl (cI, 16, .inl (fun j => nI (an j))))] s.heap.size = A at hD ⊢
  have hA : ∀ q : Nat, s.heap.size ≤ q → A q := fun q h => by rw [← hAe]; exact Or.inr h
  have hS : va_S A s.heap s.heap [] := va_S.rf
  have hP : va_P G vwCl [(a_ar, .inl (cI, 16, .inl (fun j => nI (an j))))] s.heap := hP
  have hl := lv_entry ([.ref a_ar, .int (nI x)]) (n := 4) (Nat.le_of_ble_eq_true rfl)
  rw [lg_entry_eq]
  generalize (lg_sl ([.ref a_ar, .int (nI x)]) ++ List.replicate (4 - (lg_sl ([.ref a_ar, .int (nI x)])).length) Slot.unset).toArray = ls at hl ⊢
  have hl : lv_has ls 4 [(0, .ref a_ar), (1, .int (nI x))] := hl
  refine lv_iconst (v := (nI 0)) hx hb d_Ar_fill_0 (by decide +kernel) ?_
  refine lv_istore_n (lv' := [(2, .int (nI 0)), (0, .ref a_ar), (1, .int (nI x))]) hx hb d_Ar_fill_1 rfl hl (by decide) rfl (fun ls hl => ?_)
  refine lv_aload_n hx hb d_Ar_fill_2 rfl (lv_at hl 1 rfl) ?_
  refine va_alen (v := nI 16) hx hb hK hP 0 0 rfl rfl rfl d_Ar_fill_3 ?_
  refine lv_istore_n (lv' := [(3, .int (nI 16)), (2, .int (nI 0)), (0, .ref a_ar), (1, .int (nI x))]) hx hb d_Ar_fill_4 rfl hl (by decide) rfl (fun ls hl => ?_)
  have loop_5 : ∀ (k : Nat) (i : Nat) (f1 : Nat → Nat) (H : Heap) (locs : List Loc) (ls : Array Slot), i ≤ 16 → f1 = fl i x an → 16 - i < k → va_P G vwCl [(a_ar, .inl (cI, 16, .inl (fun j => nI (f1 j))))] H → va_D A [(a_ar, .inl (cI, 16, .inl (fun j => nI (f1 j))))] → va_S A s.heap H locs → lv_has ls 4 [(0, .ref a_ar), (1, .int (nI x)), (2, .int (nI i)), (3, .int (nI 16))] → W p l e (headSpec (w_Ar_fill) ({ frames := 0, cells := 0, slots := 0, locals := 0 })).room s m (List.toArray [.ref a_ar, .int (nI x)]) below meth c H locs 0 0 (MQ below (va_Qv (fun (u : Unit) => True) (fun u t => va_P G vwCl [(a_ar, .inl (cI, 16, .inl (fun j => nI ((fl 16 x an) j))))] t.heap) A) (List.toArray [.ref a_ar, .int (nI x)]) s 0 0 A) (F0 m 5 ls []) := by
    intro k
    induction k with
    | zero => intro i f1 H locs ls hi hf hk; exact absurd hk (Nat.not_lt_zero _)
    | succ k ih_5 =>
      intro i f1 H locs ls hi hf hk hP hD hS hl
      refine lv_iload_n hx hb d_Ar_fill_5 rfl (lv_at hl 2 rfl) ?_
      refine lv_iload_n hx hb d_Ar_fill_6 rfl (lv_at hl 3 rfl) ?_
      refine n_icmp_ge (tgt := 20) hx hb d_Ar_fill_7 (by decide) (by omega) (by decide) (fun c_1 => ?_) (fun c_1 => ?_)
      · exact k_wv hx hb hr hlocks hP hS () (by rw [hf, show i = 16 by omega]) (trivial) d_Ar_fill_20
      · refine lv_aload_n hx hb d_Ar_fill_10 rfl (lv_at hl 0 rfl) ?_
        refine lv_iload_n hx hb d_Ar_fill_11 rfl (lv_at hl 2 rfl) ?_
        refine lv_iload_n hx hb d_Ar_fill_12 rfl (lv_at hl 1 rfl) ?_
        refine k_iastN hx hb hK hP hD hS 0 0 rfl rfl (by omega) (by decide) d_Ar_fill_13 (fun H locs hP hD hS => ?_)
        have hP : va_P G vwCl [(a_ar, .inl (cI, 16, .inl (fun j => nI ((va_up f1 i x) j))))] H := hP
        have hD : va_D A [(a_ar, .inl (cI, 16, .inl (fun j => nI ((va_up f1 i x) j))))] := hD
        refine lv_iinc (v := (nI (i + 1))) (lv' := [(2, .int (nI (i + 1))), (0, .ref a_ar), (1, .int (nI x)), (3, .int (nI 16))]) hx hb d_Ar_fill_14 hl (k := 2) rfl (nI_add i 1) (by decide) rfl (fun ls hl => ?_)
        refine lv_goto (tgt := 5) hx hb d_Ar_fill_17 (by decide) ?_
        exact ih_5 (i + 1) (va_up f1 i x) _ _ ls (by omega) (fl_succ hf) (by omega) (hP.sub [0] rfl) (hD.sub [0] (by decide) rfl) hS (lv_sub hl [1, 2, 0, 3] rfl)
  exact loop_5 ((16 - 0) + 1) 0 an _ _ ls (by omega) (fl_0 x an) (Nat.lt_succ_self _) (hP.sub [0] rfl) (hD.sub [0] (by decide) rfl) hS (lv_sub hl [2, 3, 1, 0] rfl)
set_option maxHeartbeats 4000000 in
set_option maxRecDepth 100000 in
theorem c_Ch_takeFirst (l : Launch) (G : va_G) (cI cZ cJ : ClassId) (sz : Nat) (a_ch : Nat) (a_rm : Nat) (a_hd : Nat) (a_sh : Nat) (a_vl : Nat) (n : Nat) (held : Nat → Nat) (vals : Nat → Int32) (L : Nat → List Int32) (x : Nat) (hx0 : x < 40) (hV : RelV held vals L) : Met l y_Ch_takeFirst (w_Ch_takeFirst) ({ frames := 1, cells := 0, slots := 0, locals := 40 }) (va_Pc [.ref a_ch, .int (nI x)] (kW G vwCl [(cI, .int), (cZ, .boolean), (cJ, .long)] [(a_ch, .inr (1, [.ref a_rm, .ref a_hd, .ref a_sh, .ref a_vl, .int (nI n)])), (a_hd, .inl (cI, 40, .inl (fun j => nI (held j)))), (a_vl, .inl (cI, 320, .inl vals))] sz)) (va_Qi (fun (r : Int32) (u : (Nat → Nat) × (Nat → Int32)) => r = ((L x).headD 0) ∧ RelV u.1 u.2 (popL L x)) (fun u t => va_P G vwCl [(a_ch, .inr (1, [.ref a_rm, .ref a_hd, .ref a_sh, .ref a_vl, .int (nI n)])), (a_hd, .inl (cI, 40, .inl (fun j => nI (u.1 j)))), (a_vl, .inl (cI, 320, .inl u.2))] t.heap) (va_A [(a_ch, .inr (1, [.ref a_rm, .ref a_hd, .ref a_sh, .ref a_vl, .int (nI n)])), (a_hd, .inl (cI, 40, .inl (fun j => nI (held j)))), (a_vl, .inl (cI, 320, .inl vals))] sz)) 0 0 (va_A [(a_ch, .inr (1, [.ref a_rm, .ref a_hd, .ref a_sh, .ref a_vl, .int (nI n)])), (a_hd, .inl (cI, 40, .inl (fun j => nI (held j)))), (a_vl, .inl (cI, 320, .inl vals))] sz) := by
  refine Met.ofW (cc := b_Ch_takeFirst) (maxL := 4) (ret := (some .int)) (by decide) rfl ?_
  intro p e s m args below meth c s₁ B hml hv
  obtain ⟨rfl, hsz, hP, hK, hD0⟩ := hv
  have hx := B.exec
  have hb := B.bytes
  have hr := B.returns
  have hts : ∀ w ∈ TT, w.before _ s = true := fun w h => atoms_spec (ws := (w_Ch_takeFirst)) B.pre w (List.mem_cons_of_mem _ h)
  have hown : s.vm.findClass R_Ch = some m.cls := findClass_of_methodNamed B.named
  have hlocks := B.notSynchronized
  subst hsz
  have hD := hD0.self (sz := s.heap.size)
  generalize hAe : va_A [(a_ch, .inr (1, [.ref a_rm, .ref a_hd, .ref a_sh, .ref a_vl, .int (nI n)])), (a_hd, .inl (cI, 40, .inl (fun j => nI (held j)))), (a_vl, .inl (cI, 320, .inl vals))] s.heap.size = A at hD ⊢
  have hA : ∀ q : Nat, s.heap.size ≤ q → A q := fun q h => by rw [← hAe]; exact Or.inr h
  have hS : va_S A s.heap s.heap [] := va_S.rf
  have hP : va_P G vwCl [(a_ch, .inr (1, [.ref a_rm, .ref a_hd, .ref a_sh, .ref a_vl, .int (nI n)])), (a_hd, .inl (cI, 40, .inl (fun j => nI (held j)))), (a_vl, .inl (cI, 320, .inl vals))] s.heap := hP
  have hl := lv_entry ([.ref a_ch, .int (nI x)]) (n := 4) (Nat.le_of_ble_eq_true rfl)
  rw [lg_entry_eq]
  generalize (lg_sl ([.ref a_ch, .int (nI x)]) ++ List.replicate (4 - (lg_sl ([.ref a_ch, .int (nI x)])).length) Slot.unset).toArray = ls at hl ⊢
  have hl : lv_has ls 4 [(0, .ref a_ch), (1, .int (nI x))] := hl
  obtain ⟨hh, hh2, hh3⟩ := hV x hx0
  refine lv_aload_n hx hb d_Ch_takeFirst_0 rfl (lv_at hl 0 rfl) ?_
  refine va_get (D := G) (ci := 1) (v := .ref a_hd) (C := R_Ch) (T := T_Ch) (N := 5) hx hb hts uw_Ch hown hK hP 0 rfl rfl 1 (by decide) (hts _ t_53) (fun _ h9 => h9) rfl d_Ch_takeFirst_1 ?_
  refine lv_iload_n hx hb d_Ch_takeFirst_4 rfl (lv_at hl 1 rfl) ?_
  refine k_iald hx hb hK hP 1 0 rfl rfl (by omega) (by decide) d_Ch_takeFirst_5 ?_
  refine n_if_gt (tgt := 11) hx hb d_Ch_takeFirst_6 (by decide) (by omega) (fun c_a => ?_) (fun c_a => ?_)
  · refine lv_iload_n hx hb d_Ch_takeFirst_11 rfl (lv_at hl 1 rfl) ?_
    refine lv_bipush (v := (nI 8)) hx hb d_Ch_takeFirst_12 (by decide +kernel) ?_
    refine lv_imul hx hb d_Ch_takeFirst_14 ?_
    refine k_top (y := (nI (x * 8))) (pk_mul x 8) ?_
    refine lv_istore_n (lv' := [(2, .int (nI (x * 8))), (0, .ref a_ch), (1, .int (nI x))]) hx hb d_Ch_takeFirst_15 rfl hl (by decide) rfl (fun ls hl => ?_)
    refine lv_aload_n hx hb d_Ch_takeFirst_16 rfl (lv_at hl 1 rfl) ?_
    refine va_get (D := G) (ci := 1) (v := .ref a_vl) (C := R_Ch) (T := T_Ch) (N := 5) hx hb hts uw_Ch hown hK hP 0 rfl rfl 3 (by decide) (hts _ t_55) (fun _ h9 => h9) rfl d_Ch_takeFirst_17 ?_
    refine lv_iload_n hx hb d_Ch_takeFirst_20 rfl (lv_at hl 0 rfl) ?_
    refine k_iald hx hb hK hP 2 0 rfl rfl (by omega) (by decide) d_Ch_takeFirst_21 ?_
    refine lv_istore_n (lv' := [(3, .int (vals (x * 8))), (2, .int (nI (x * 8))), (0, .ref a_ch), (1, .int (nI x))]) hx hb d_Ch_takeFirst_22 rfl hl (by decide) rfl (fun ls hl => ?_)
    refine lv_aload_n hx hb d_Ch_takeFirst_23 rfl (lv_at hl 2 rfl) ?_
    refine va_get (D := G) (ci := 1) (v := .ref a_hd) (C := R_Ch) (T := T_Ch) (N := 5) hx hb hts uw_Ch hown hK hP 0 rfl rfl 1 (by decide) (hts _ t_53) (fun _ h9 => h9) rfl d_Ch_takeFirst_24 ?_
    refine lv_iload_n hx hb d_Ch_takeFirst_27 rfl (lv_at hl 3 rfl) ?_
    refine lv_dup2_11 hx hb d_Ch_takeFirst_28 rfl rfl ?_
    refine k_iald hx hb hK hP 1 0 rfl rfl (by omega) (by decide) d_Ch_takeFirst_29 ?_
    refine lv_iconst (v := (nI 1)) hx hb d_Ch_takeFirst_30 (by decide +kernel) ?_
    refine lv_isub hx hb d_Ch_takeFirst_31 ?_
    refine k_top (y := (nI ((held x) - 1))) (pk_sub (by omega)) ?_
    refine k_iastN hx hb hK hP hD hS 1 0 rfl rfl (by omega) (by decide) d_Ch_takeFirst_32 (fun H locs hP hD hS => ?_)
    have hP : va_P G vwCl [(a_ch, .inr (1, [.ref a_rm, .ref a_hd, .ref a_sh, .ref a_vl, .int (nI n)])), (a_hd, .inl (cI, 40, .inl (fun j => nI ((va_up held x ((held x) - 1)) j)))), (a_vl, .inl (cI, 320, .inl vals))] H := hP
    have hD : va_D A [(a_ch, .inr (1, [.ref a_rm, .ref a_hd, .ref a_sh, .ref a_vl, .int (nI n)])), (a_hd, .inl (cI, 40, .inl (fun j => nI ((va_up held x ((held x) - 1)) j)))), (a_vl, .inl (cI, 320, .inl vals))] := hD
    refine lv_aload_n hx hb d_Ch_takeFirst_33 rfl (lv_at hl 2 rfl) ?_
    refine va_get (D := G) (ci := 1) (v := .ref a_vl) (C := R_Ch) (T := T_Ch) (N := 5) hx hb hts uw_Ch hown hK hP 0 rfl rfl 3 (by decide) (hts _ t_55) (fun _ h9 => h9) rfl d_Ch_takeFirst_34 ?_
    refine lv_iload_n hx hb d_Ch_takeFirst_37 rfl (lv_at hl 1 rfl) ?_
    refine lv_iconst (v := (nI 1)) hx hb d_Ch_takeFirst_38 (by decide +kernel) ?_
    refine lv_iadd hx hb d_Ch_takeFirst_39 ?_
    refine k_top (y := (nI ((x * 8) + 1))) (nI_add (x * 8) 1) ?_
    refine lv_aload_n hx hb d_Ch_takeFirst_40 rfl (lv_at hl 2 rfl) ?_
    refine va_get (D := G) (ci := 1) (v := .ref a_vl) (C := R_Ch) (T := T_Ch) (N := 5) hx hb hts uw_Ch hown hK hP 0 rfl rfl 3 (by decide) (hts _ t_55) (fun _ h9 => h9) rfl d_Ch_takeFirst_41 ?_
    refine lv_iload_n hx hb d_Ch_takeFirst_44 rfl (lv_at hl 1 rfl) ?_
    refine lv_aload_n hx hb d_Ch_takeFirst_45 rfl (lv_at hl 2 rfl) ?_
    refine va_get (D := G) (ci := 1) (v := .ref a_hd) (C := R_Ch) (T := T_Ch) (N := 5) hx hb hts uw_Ch hown hK hP 0 rfl rfl 1 (by decide) (hts _ t_53) (fun _ h9 => h9) rfl d_Ch_takeFirst_46 ?_
    refine lv_iload_n hx hb d_Ch_takeFirst_49 rfl (lv_at hl 3 rfl) ?_
    refine k_iald hx hb hK hP 1 0 rfl rfl (by omega) (by decide) d_Ch_takeFirst_50 ?_
    refine k_top (y := (nI (held x - 1))) (congrArg nI (va_up_self _ _ _)) ?_
    refine k_copy hx hb (hml.trans hl.1.symm) hown (hts _ t_233) (hts _ t_235) (hts _ t_234) (hts _ t_38) hK hP hD hS 2 0 rfl rfl (by decide) (by omega) (by omega) (Nat.le_of_ble_eq_true rfl) (Nat.le_of_ble_eq_true rfl) d_Ch_takeFirst_51 (fun H locs hP hD hS => ?_)
    have hP : va_P G vwCl [(a_ch, .inr (1, [.ref a_rm, .ref a_hd, .ref a_sh, .ref a_vl, .int (nI n)])), (a_hd, .inl (cI, 40, .inl (fun j => nI ((va_up held x ((held x) - 1)) j)))), (a_vl, .inl (cI, 320, .inl (va_cpy vals vals ((x * 8) + 1) (x * 8) (held x - 1))))] H := hP
    have hD : va_D A [(a_ch, .inr (1, [.ref a_rm, .ref a_hd, .ref a_sh, .ref a_vl, .int (nI n)])), (a_hd, .inl (cI, 40, .inl (fun j => nI ((va_up held x ((held x) - 1)) j)))), (a_vl, .inl (cI, 320, .inl (va_cpy vals vals ((x * 8) + 1) (x * 8) (held x - 1))))] := hD
    refine lv_iload_n hx hb d_Ch_takeFirst_54 rfl (lv_at hl 0 rfl) ?_
    exact k_wi hx hb hr hlocks hP hS (va_up held x ((held x) - 1), va_cpy vals vals ((x * 8) + 1) (x * 8) (held x - 1)) (rfl) (hV.pop hx0 c_a) d_Ch_takeFirst_55
  · refine lv_iconst (v := (nI 0)) hx hb d_Ch_takeFirst_9 (by decide +kernel) ?_
    exact k_wi hx hb hr hlocks hP hS (held, vals) (rfl) (⟨nI_0.trans (hV.nopop hx0 c_a).1.symm, (hV.nopop hx0 c_a).2⟩) d_Ch_takeFirst_10
set_option maxHeartbeats 4000000 in
set_option maxRecDepth 100000 in
theorem c_Cs_forgetAll (l : Launch) (G : va_G) (cI cZ cJ : ClassId) (sz : Nat) (a_cs : Nat) (a_cn : Nat) (a_cc : Nat) (a_cw : Nat) (a_cv : Nat) (cnum : Nat → Nat)  : Met l y_Cs_forgetAll (w_Cs_forgetAll) ({ frames := 1, cells := 0, slots := 0, locals := 23 }) (va_Pc [.ref a_cs] (kW G vwCl [(cI, .int), (cZ, .boolean), (cJ, .long)] [(a_cs, .inr (0, [.ref a_cn, .ref a_cc, .ref a_cw, .ref a_cv])), (a_cn, .inl (cI, 16, .inl (fun j => nI (cnum j))))] sz)) (va_Qv (fun (u : Unit) => True) (fun u t => va_P G vwCl [(a_cs, .inr (0, [.ref a_cn, .ref a_cc, .ref a_cw, .ref a_cv])), (a_cn, .inl (cI, 16, .inl (fun j => nI ((fl 16 0 cnum) j))))] t.heap) (va_A [(a_cs, .inr (0, [.ref a_cn, .ref a_cc, .ref a_cw, .ref a_cv])), (a_cn, .inl (cI, 16, .inl (fun j => nI (cnum j))))] sz)) 0 0 (va_A [(a_cs, .inr (0, [.ref a_cn, .ref a_cc, .ref a_cw, .ref a_cv])), (a_cn, .inl (cI, 16, .inl (fun j => nI (cnum j))))] sz) := by
  refine Met.ofW (cc := b_Cs_forgetAll) (maxL := 1) (ret := none) (by decide) rfl ?_
  intro p e s m args below meth c s₁ B hml hv
  obtain ⟨rfl, hsz, hP, hK, hD0⟩ := hv
  have hx := B.exec
  have hb := B.bytes
  have hr := B.returns
  have hts : ∀ w ∈ TT, w.before _ s = true := fun w h => atoms_spec (ws := (w_Cs_forgetAll)) B.pre w (List.mem_cons_of_mem _ h)
  have hown : s.vm.findClass R_Cs = some m.cls := findClass_of_methodNamed B.named
  have hlocks := B.notSynchronized
  subst hsz
  have hD := hD0.self (sz := s.heap.size)
  generalize hAe : va_A [(a_cs, .inr (0, [.ref a_cn, .ref a_cc, .ref a_cw, .ref a_cv])), (a_cn, .inl (cI, 16, .inl (fun j => nI (cnum j))))] s.heap.size = A at hD ⊢
  have hA : ∀ q : Nat, s.heap.size ≤ q → A q := fun q h => by rw [← hAe]; exact Or.inr h
  have hS : va_S A s.heap s.heap [] := va_S.rf
  have hP : va_P G vwCl [(a_cs, .inr (0, [.ref a_cn, .ref a_cc, .ref a_cw, .ref a_cv])), (a_cn, .inl (cI, 16, .inl (fun j => nI (cnum j))))] s.heap := hP
  have hl := lv_entry ([.ref a_cs]) (n := 1) (Nat.le_of_ble_eq_true rfl)
  rw [lg_entry_eq]
  generalize (lg_sl ([.ref a_cs]) ++ List.replicate (1 - (lg_sl ([.ref a_cs])).length) Slot.unset).toArray = ls at hl ⊢
  have hl : lv_has ls 1 [(0, .ref a_cs)] := hl
  refine lv_aload_n hx hb d_Cs_forgetAll_0 rfl (lv_at hl 0 rfl) ?_
  refine va_get (D := G) (ci := 0) (v := .ref a_cn) (C := R_Cs) (T := T_Cs) (N := 4) hx hb hts uw_Cs hown hK hP 0 rfl rfl 0 (by decide) (hts _ t_69) (fun _ h9 => h9) rfl d_Cs_forgetAll_1 ?_
  refine lv_iconst (v := (nI 0)) hx hb d_Cs_forgetAll_4 (by decide +kernel) ?_
  refine k_rwv (va_runS (As := [.ref a_cn, .int (nI 0)]) (rest := []) ⟨hx, hb, hml, hown, hts⟩ (c_Ar_fillN l G cI cZ cJ s.heap.size a_cn cnum 0) (va_cwS 2 hts (gS t_97 t_98 t_36 t_99) rfl rfl rfl (by decide +kernel) ⟨Nat.le_of_ble_eq_true rfl, Nat.le_of_ble_eq_true rfl⟩) (kW_S hK hP hD [1] rfl (by decide) rfl) rfl rfl hl.1 rfl (lv_room (Nat.le_of_ble_eq_true rfl)) d_Cs_forgetAll_5 ⟨Nat.le_of_ble_eq_true rfl, Nat.le_of_ble_eq_true rfl⟩) hP hD hS hA [1] rfl (fun _ => rfl) (fun u H locs hw hP hD hS => ?_)
  have hP : va_P G vwCl [(a_cs, .inr (0, [.ref a_cn, .ref a_cc, .ref a_cw, .ref a_cv])), (a_cn, .inl (cI, 16, .inl (fun j => nI ((fl 16 0 cnum) j))))] H := hP
  have hD : va_D A [(a_cs, .inr (0, [.ref a_cn, .ref a_cc, .ref a_cw, .ref a_cv])), (a_cn, .inl (cI, 16, .inl (fun j => nI ((fl 16 0 cnum) j))))] := hD
  exact k_wv hx hb hr hlocks hP hS () (rfl) (trivial) d_Cs_forgetAll_8
set_option maxHeartbeats 4000000 in
set_option maxRecDepth 100000 in
theorem c_Cs_firstAt (l : Launch) (G : va_G) (cI cZ cJ : ClassId) (a_cs : Nat) (a_cn : Nat) (a_cc : Nat) (a_cw : Nat) (a_cv : Nat) (cnum : Nat → Nat) (cch : Nat → Nat) (cway : Nat → Nat) (cval : Nat → Int32) (cs : Nat → List Kase) (q : Nat) (x : Nat) (w : Nat) (hq : q < 16) (hx1 : x < 40) (hw1 : w < 3) (hC : RelC cnum cch cway cval cs) : Met l y_Cs_firstAt (w_Cs_firstAt) ({ frames := 1, cells := 0, slots := 0, locals := 21 }) (va_Pc [.ref a_cs, .int (nI q), .int (nI x), .int (nI w)] (kR G vwCl [(cI, .int), (cZ, .boolean), (cJ, .long)] [(a_cs, .inr (0, [.ref a_cn, .ref a_cc, .ref a_cw, .ref a_cv])), (a_cn, .inl (cI, 16, .inl (fun j => nI (cnum j)))), (a_cc, .inl (cI, 96, .inl (fun j => nI (cch j)))), (a_cw, .inl (cI, 96, .inl (fun j => nI (cway j))))])) (QcRead ((faI q (fa (cs q) x w)))) 0 0 (fun _ => False) := by
  refine Met.ofW (cc := b_Cs_firstAt) (maxL := 6) (ret := (some .int)) (by decide) rfl ?_
  intro p e s m args below meth c s₁ B hml hv
  obtain ⟨rfl, hP, hK⟩ := hv
  have hx := B.exec
  have hb := B.bytes
  have hr := B.returns
  have hts : ∀ w ∈ TT, w.before _ s = true := fun w h => atoms_spec (ws := (w_Cs_firstAt)) B.pre w (List.mem_cons_of_mem _ h)
  have hown : s.vm.findClass R_Cs = some m.cls := findClass_of_methodNamed B.named
  have hlocks := B.notSynchronized
  have hP : va_P G vwCl [(a_cs, .inr (0, [.ref a_cn, .ref a_cc, .ref a_cw, .ref a_cv])), (a_cn, .inl (cI, 16, .inl (fun j => nI (cnum j)))), (a_cc, .inl (cI, 96, .inl (fun j => nI (cch j)))), (a_cw, .inl (cI, 96, .inl (fun j => nI (cway j))))] s.heap := hP
  have hl := lv_entry ([.ref a_cs, .int (nI q), .int (nI x), .int (nI w)]) (n := 6) (Nat.le_of_ble_eq_true rfl)
  rw [lg_entry_eq]
  generalize (lg_sl ([.ref a_cs, .int (nI q), .int (nI x), .int (nI w)]) ++ List.replicate (6 - (lg_sl ([.ref a_cs, .int (nI q), .int (nI x), .int (nI w)])).length) Slot.unset).toArray = ls at hl ⊢
  have hl : lv_has ls 6 [(0, .ref a_cs), (1, .int (nI q)), (2, .int (nI x)), (3, .int (nI w))] := hl
  obtain ⟨hh, hh2, hh3⟩ := hC q hq
  refine lv_iconst (v := (nI 0)) hx hb d_Cs_firstAt_0 (by decide +kernel) ?_
  refine lv_istore (lv' := [(4, .int (nI 0)), (0, .ref a_cs), (1, .int (nI q)), (2, .int (nI x)), (3, .int (nI w))]) hx hb d_Cs_firstAt_1 hl (by decide) rfl (fun ls hl => ?_)
  have loop_3 : ∀ (k : Nat) (i : Nat) (ls : Array Slot), i ≤ (cs q).length → (∀ j (_ : j < i) (h2 : j < (cs q).length), kHit x w (cs q)[j] = false) → (cs q).length - i < k → lv_has ls 6 [(0, .ref a_cs), (1, .int (nI q)), (2, .int (nI x)), (3, .int (nI w)), (4, .int (nI i))] → W p l e (headSpec (w_Cs_firstAt) ({ frames := 1, cells := 0, slots := 0, locals := 21 })).room s m (List.toArray [.ref a_cs, .int (nI q), .int (nI x), .int (nI w)]) below meth c s.heap [] 0 0 (MQ below (QcRead ((faI q (fa (cs q) x w)))) (List.toArray [.ref a_cs, .int (nI q), .int (nI x), .int (nI w)]) s 0 0 (fun _ => False)) (F0 m 3 ls []) := by
    intro k
    induction k with
    | zero => intro i ls hi hno hk; exact absurd hk (Nat.not_lt_zero _)
    | succ k ih_3 =>
      intro i ls hi hno hk hl
      refine lv_iload hx hb d_Cs_firstAt_3 (lv_at hl 4 rfl) ?_
      refine lv_aload_n hx hb d_Cs_firstAt_5 rfl (lv_at hl 0 rfl) ?_
      refine va_get (D := G) (ci := 0) (v := .ref a_cn) (C := R_Cs) (T := T_Cs) (N := 4) hx hb hts uw_Cs hown hK hP 0 rfl rfl 0 (by decide) (hts _ t_69) (fun _ h9 => h9) rfl d_Cs_firstAt_6 ?_
      refine lv_iload_n hx hb d_Cs_firstAt_9 rfl (lv_at hl 1 rfl) ?_
      refine k_iald hx hb hK hP 1 0 rfl rfl (by omega) (by decide) d_Cs_firstAt_10 ?_
      refine n_icmp_ge (tgt := 58) hx hb d_Cs_firstAt_11 (by decide) (by omega) (by omega) (fun c_a => ?_) (fun c_a => ?_)
      · refine lv_iconst (v := (-1)) hx hb d_Cs_firstAt_58 (by decide +kernel) ?_
        exact k_ri hx hb hr hlocks (by rw [fa_none (fun j hj => hno j (by omega) hj)]; rfl) d_Cs_firstAt_59
      · have hi2 : i < (cs q).length := by omega
        obtain ⟨g1, g2, g3, g4, g5⟩ := hh3 i hi2
        refine lv_iload_n hx hb d_Cs_firstAt_14 rfl (lv_at hl 1 rfl) ?_
        refine lv_iload hx hb d_Cs_firstAt_15 (lv_at hl 4 rfl) ?_
        refine k_ro (va_runS (As := [.int (nI q), .int (nI i)]) (rest := []) ⟨hx, hb, hml, hown, hts⟩ (c_Cs_slotOf l G cI cZ cJ q i) (va_cwS 2 hts (gS t_180 t_181 t_34 t_182) rfl rfl rfl (by decide +kernel) ⟨Nat.le_of_ble_eq_true rfl, Nat.le_of_ble_eq_true rfl⟩) (kR_S hK hP [] rfl) rfl rfl hl.1 rfl (lv_room (Nat.le_of_ble_eq_true rfl)) d_Cs_firstAt_17 ⟨Nat.le_of_ble_eq_true rfl, Nat.le_of_ble_eq_true rfl⟩) ?_
        refine lv_istore (lv' := [(5, .int (nI (q * 6 + i))), (0, .ref a_cs), (1, .int (nI q)), (2, .int (nI x)), (3, .int (nI w)), (4, .int (nI i))]) hx hb d_Cs_firstAt_20 hl (by decide) rfl (fun ls hl => ?_)
        refine lv_aload_n hx hb d_Cs_firstAt_22 rfl (lv_at hl 1 rfl) ?_
        refine va_get (D := G) (ci := 0) (v := .ref a_cc) (C := R_Cs) (T := T_Cs) (N := 4) hx hb hts uw_Cs hown hK hP 0 rfl rfl 1 (by decide) (hts _ t_70) (fun _ h9 => h9) rfl d_Cs_firstAt_23 ?_
        refine lv_iload hx hb d_Cs_firstAt_26 (lv_at hl 0 rfl) ?_
        refine k_iald hx hb hK hP 2 0 rfl rfl (by omega) (by decide) d_Cs_firstAt_28 ?_
        refine lv_iload_n hx hb d_Cs_firstAt_29 rfl (lv_at hl 3 rfl) ?_
        refine n_icmp_ne (tgt := 52) hx hb d_Cs_firstAt_30 (by decide) (by omega) (by omega) (fun c_b => ?_) (fun c_b => ?_)
        · refine lv_iinc (v := (nI (i + 1))) (lv' := [(4, .int (nI (i + 1))), (5, .int (nI (q * 6 + i))), (0, .ref a_cs), (1, .int (nI q)), (2, .int (nI x)), (3, .int (nI w))]) hx hb d_Cs_firstAt_52 hl (k := 5) rfl (nI_add i 1) (by decide) rfl (fun ls hl => ?_)
          refine lv_goto (tgt := 3) hx hb d_Cs_firstAt_55 (by decide) ?_
          exact ih_3 (i + 1) ls (by omega) (hno_succ hno (fun h2 => kHit_f1 (by omega))) (by omega) (lv_sub hl [2, 3, 4, 5, 0] rfl)
        · refine lv_iload_n hx hb d_Cs_firstAt_33 rfl (lv_at hl 4 rfl) ?_
          refine lv_iconst (v := (nI 2)) hx hb d_Cs_firstAt_34 (by decide +kernel) ?_
          refine n_icmp_eq (tgt := 49) hx hb d_Cs_firstAt_35 (by decide) (by omega) (by decide) (fun c_c => ?_) (fun c_c => ?_)
          · refine lv_iload hx hb d_Cs_firstAt_49 (lv_at hl 0 rfl) ?_
            exact k_ri hx hb hr hlocks (by rw [fa_some hi2 (kHit_t1 (by omega) c_c) (fun j hj => hno j hj _)]; rfl) d_Cs_firstAt_51
          · refine lv_aload_n hx hb d_Cs_firstAt_38 rfl (lv_at hl 1 rfl) ?_
            refine va_get (D := G) (ci := 0) (v := .ref a_cw) (C := R_Cs) (T := T_Cs) (N := 4) hx hb hts uw_Cs hown hK hP 0 rfl rfl 2 (by decide) (hts _ t_71) (fun _ h9 => h9) rfl d_Cs_firstAt_39 ?_
            refine lv_iload hx hb d_Cs_firstAt_42 (lv_at hl 0 rfl) ?_
            refine k_iald hx hb hK hP 3 0 rfl rfl (by omega) (by decide) d_Cs_firstAt_44 ?_
            refine lv_iload_n hx hb d_Cs_firstAt_45 rfl (lv_at hl 4 rfl) ?_
            refine n_icmp_ne (tgt := 52) hx hb d_Cs_firstAt_46 (by decide) (by omega) (by omega) (fun c_d => ?_) (fun c_d => ?_)
            · refine lv_iinc (v := (nI (i + 1))) (lv' := [(4, .int (nI (i + 1))), (5, .int (nI (q * 6 + i))), (0, .ref a_cs), (1, .int (nI q)), (2, .int (nI x)), (3, .int (nI w))]) hx hb d_Cs_firstAt_52 hl (k := 5) rfl (nI_add i 1) (by decide) rfl (fun ls hl => ?_)
              refine lv_goto (tgt := 3) hx hb d_Cs_firstAt_55 (by decide) ?_
              exact ih_3 (i + 1) ls (by omega) (hno_succ hno (fun h2 => kHit_f2 c_c (by omega))) (by omega) (lv_sub hl [2, 3, 4, 5, 0] rfl)
            · refine lv_iload hx hb d_Cs_firstAt_49 (lv_at hl 0 rfl) ?_
              exact k_ri hx hb hr hlocks (by rw [fa_some hi2 (kHit_t2 (by omega) (by omega)) (fun j hj => hno j hj _)]; rfl) d_Cs_firstAt_51
  exact loop_3 (((cs q).length - 0) + 1) 0 ls (Nat.zero_le _) (fun j hj => absurd hj (Nat.not_lt_zero j)) (Nat.lt_succ_self _) (lv_sub hl [1, 2, 3, 4, 0] rfl)
set_option maxHeartbeats 4000000 in
set_option maxRecDepth 100000 in
theorem c_Ln_leave (l : Launch) (G : va_G) (cI cZ cJ : ClassId) (sz : Nat) (a_ln : Nat) (a_mm : Nat) (len : Nat) (mem : Nat → Nat) (line : List Nat) (q : Nat) (hq : q < 16) (hL : RelL len mem line) : Met l y_Ln_leave (w_Ln_leave) ({ frames := 0, cells := 0, slots := 0, locals := 0 }) (va_Pc [.ref a_ln, .int (nI q)] (kW G vwCl [(cI, .int), (cZ, .boolean), (cJ, .long)] [(a_ln, .inr (2, [.ref a_mm, .int (nI len)])), (a_mm, .inl (cI, 16, .inl (fun j => nI (mem j))))] sz)) (va_Qv (fun (u : Nat × (Nat → Nat)) => RelL u.1 u.2 (outL line q)) (fun u t => va_P G vwCl [(a_ln, .inr (2, [.ref a_mm, .int (nI u.1)])), (a_mm, .inl (cI, 16, .inl (fun j => nI (u.2 j))))] t.heap) (va_A [(a_ln, .inr (2, [.ref a_mm, .int (nI len)])), (a_mm, .inl (cI, 16, .inl (fun j => nI (mem j))))] sz)) 0 0 (va_A [(a_ln, .inr (2, [.ref a_mm, .int (nI len)])), (a_mm, .inl (cI, 16, .inl (fun j => nI (mem j))))] sz) := by
  refine Met.ofW (cc := b_Ln_leave) (maxL := 4) (ret := none) (by decide) rfl ?_
  intro p e s m args below meth c s₁ B hml hv
  obtain ⟨rfl, hsz, hP, hK, hD0⟩ := hv
  have hx := B.exec
  have hb := B.bytes
  have hr := B.returns
  have hts : ∀ w ∈ TT, w.before _ s = true := fun w h => atoms_spec (ws := (w_Ln_leave)) B.pre w (List.mem_cons_of_mem _ h)
  have hown : s.vm.findClass R_Ln = some m.cls := findClass_of_methodNamed B.named
  have hlocks := B.notSynchronized
  subst hsz
  have hD := hD0.self (sz := s.heap.size)
  generalize hAe : va_A [(a_ln, .inr (2, [.ref a_mm, .int (nI len)])), (a_mm, .inl (cI, 16, .inl (fun j => nI (mem j))))] s.heap.size = A at hD ⊢
  have hA : ∀ q : Nat, s.heap.size ≤ q → A q := fun q h => by rw [← hAe]; exact Or.inr h
  have hS : va_S A s.heap s.heap [] := va_S.rf
  have hP : va_P G vwCl [(a_ln, .inr (2, [.ref a_mm, .int (nI len)])), (a_mm, .inl (cI, 16, .inl (fun j => nI (mem j))))] s.heap := hP
  have hl := lv_entry ([.ref a_ln, .int (nI q)]) (n := 4) (Nat.le_of_ble_eq_true rfl)
  rw [lg_entry_eq]
  generalize (lg_sl ([.ref a_ln, .int (nI q)]) ++ List.replicate (4 - (lg_sl ([.ref a_ln, .int (nI q)])).length) Slot.unset).toArray = ls at hl ⊢
  have hl : lv_has ls 4 [(0, .ref a_ln), (1, .int (nI q))] := hl
  obtain ⟨hh, hh2, hh3⟩ := hL
  refine lv_iconst (v := (nI 0)) hx hb d_Ln_leave_0 (by decide +kernel) ?_
  refine lv_istore_n (lv' := [(2, .int (nI 0)), (0, .ref a_ln), (1, .int (nI q))]) hx hb d_Ln_leave_1 rfl hl (by decide) rfl (fun ls hl => ?_)
  refine lv_iconst (v := (nI 0)) hx hb d_Ln_leave_2 (by decide +kernel) ?_
  refine lv_istore_n (lv' := [(3, .int (nI 0)), (2, .int (nI 0)), (0, .ref a_ln), (1, .int (nI q))]) hx hb d_Ln_leave_3 rfl hl (by decide) rfl (fun ls hl => ?_)
  have loop_4 : ∀ (k : Nat) (kept : Nat) (i : Nat) (mem1 : Nat → Nat) (H : Heap) (locs : List Loc) (ls : Array Slot), i ≤ line.length → LvI line q i kept mem1 → line.length - i < k → va_P G vwCl [(a_ln, .inr (2, [.ref a_mm, .int (nI len)])), (a_mm, .inl (cI, 16, .inl (fun j => nI (mem1 j))))] H → va_D A [(a_ln, .inr (2, [.ref a_mm, .int (nI len)])), (a_mm, .inl (cI, 16, .inl (fun j => nI (mem1 j))))] → va_S A s.heap H locs → lv_has ls 4 [(0, .ref a_ln), (1, .int (nI q)), (2, .int (nI kept)), (3, .int (nI i))] → W p l e (headSpec (w_Ln_leave) ({ frames := 0, cells := 0, slots := 0, locals := 0 })).room s m (List.toArray [.ref a_ln, .int (nI q)]) below meth c H locs 0 0 (MQ below (va_Qv (fun (u : Nat × (Nat → Nat)) => RelL u.1 u.2 (outL line q)) (fun u t => va_P G vwCl [(a_ln, .inr (2, [.ref a_mm, .int (nI u.1)])), (a_mm, .inl (cI, 16, .inl (fun j => nI (u.2 j))))] t.heap) A) (List.toArray [.ref a_ln, .int (nI q)]) s 0 0 A) (F0 m 4 ls []) := by
    intro k
    induction k with
    | zero => intro kept i mem1 H locs ls hi hI hk; exact absurd hk (Nat.not_lt_zero _)
    | succ k ih_4 =>
      intro kept i mem1 H locs ls hi hI hk hP hD hS hl
      refine lv_iload_n hx hb d_Ln_leave_4 rfl (lv_at hl 3 rfl) ?_
      refine lv_aload_n hx hb d_Ln_leave_5 rfl (lv_at hl 0 rfl) ?_
      refine va_get (D := G) (ci := 2) (v := .int (nI len)) (C := R_Ln) (T := T_Ln) (N := 2) hx hb hts uw_Ln hown hK hP 0 rfl rfl 1 (by decide) (hts _ t_83) (fun _ h9 => h9) rfl d_Ln_leave_6 ?_
      refine n_icmp_ge (tgt := 43) hx hb d_Ln_leave_9 (by decide) (by omega) (by omega) (fun c_a => ?_) (fun c_a => ?_)
      · refine lv_aload_n hx hb d_Ln_leave_43 rfl (lv_at hl 0 rfl) ?_
        refine lv_iload_n hx hb d_Ln_leave_44 rfl (lv_at hl 2 rfl) ?_
        refine va_put (D := G) (ci := 2) (v := .int (nI kept)) (ty := .int) (C := R_Ln) (T := T_Ln) (N := 2) hx hb hts uw_Ln ty_Ln tyok_Ln nm_Ln hown hK hP hD hS 0 rfl rfl 1 (by decide) (hts _ t_83) (fun _ h9 => h9) rfl (by decide +kernel) rfl rfl (Nat.le_of_ble_eq_true rfl) d_Ln_leave_45 (fun H locs hP hD hS => ?_)
        have hP : va_P G vwCl [(a_ln, .inr (2, [.ref a_mm, .int (nI kept)])), (a_mm, .inl (cI, 16, .inl (fun j => nI (mem1 j))))] H := hP
        have hD : va_D A [(a_ln, .inr (2, [.ref a_mm, .int (nI kept)])), (a_mm, .inl (cI, 16, .inl (fun j => nI (mem1 j))))] := hD
        exact k_wv hx hb hr hlocks hP hS (kept, mem1) (rfl) (LvI_end ⟨hh, hh2, hh3⟩ ((show i = line.length by omega) ▸ hI)) d_Ln_leave_48
      · have hi2 : i < line.length := by omega
        have g1 : mem1 i = line[i] := hI.2.2 i hi2 (Nat.le_refl i)
        have g2 : line[i] < 16 := (hh3 i hi2).2
        have g3 := LvI_le hI
        refine lv_aload_n hx hb d_Ln_leave_12 rfl (lv_at hl 0 rfl) ?_
        refine va_get (D := G) (ci := 2) (v := .ref a_mm) (C := R_Ln) (T := T_Ln) (N := 2) hx hb hts uw_Ln hown hK hP 0 rfl rfl 0 (by decide) (hts _ t_82) (fun _ h9 => h9) rfl d_Ln_leave_13 ?_
        refine lv_iload_n hx hb d_Ln_leave_16 rfl (lv_at hl 3 rfl) ?_
        refine k_iald hx hb hK hP 1 0 rfl rfl (by omega) (by decide) d_Ln_leave_17 ?_
        refine lv_iload_n hx hb d_Ln_leave_18 rfl (lv_at hl 1 rfl) ?_
        refine n_icmp_eq (tgt := 37) hx hb d_Ln_leave_19 (by decide) (by omega) (by omega) (fun c_b => ?_) (fun c_b => ?_)
        · refine lv_iinc (v := (nI (i + 1))) (lv' := [(3, .int (nI (i + 1))), (0, .ref a_ln), (1, .int (nI q)), (2, .int (nI kept))]) hx hb d_Ln_leave_37 hl (k := 3) rfl (nI_add i 1) (by decide) rfl (fun ls hl => ?_)
          refine lv_goto (tgt := 4) hx hb d_Ln_leave_40 (by decide) ?_
          exact ih_4 kept (i + 1) mem1 _ _ ls (by omega) (LvI_drop hI (by omega) c_b) (by omega) (hP.sub [0, 1] rfl) (hD.sub [0, 1] (by decide) rfl) hS (lv_sub hl [1, 2, 3, 0] rfl)
        · refine lv_aload_n hx hb d_Ln_leave_22 rfl (lv_at hl 0 rfl) ?_
          refine va_get (D := G) (ci := 2) (v := .ref a_mm) (C := R_Ln) (T := T_Ln) (N := 2) hx hb hts uw_Ln hown hK hP 0 rfl rfl 0 (by decide) (hts _ t_82) (fun _ h9 => h9) rfl d_Ln_leave_23 ?_
          refine lv_iload_n hx hb d_Ln_leave_26 rfl (lv_at hl 2 rfl) ?_
          refine lv_aload_n hx hb d_Ln_leave_27 rfl (lv_at hl 0 rfl) ?_
          refine va_get (D := G) (ci := 2) (v := .ref a_mm) (C := R_Ln) (T := T_Ln) (N := 2) hx hb hts uw_Ln hown hK hP 0 rfl rfl 0 (by decide) (hts _ t_82) (fun _ h9 => h9) rfl d_Ln_leave_28 ?_
          refine lv_iload_n hx hb d_Ln_leave_31 rfl (lv_at hl 3 rfl) ?_
          refine k_iald hx hb hK hP 1 0 rfl rfl (by omega) (by decide) d_Ln_leave_32 ?_
          refine k_iastN hx hb hK hP hD hS 1 0 rfl rfl (by omega) (by decide) d_Ln_leave_33 (fun H locs hP hD hS => ?_)
          have hP : va_P G vwCl [(a_ln, .inr (2, [.ref a_mm, .int (nI len)])), (a_mm, .inl (cI, 16, .inl (fun j => nI ((va_up mem1 kept (mem1 i)) j))))] H := hP
          have hD : va_D A [(a_ln, .inr (2, [.ref a_mm, .int (nI len)])), (a_mm, .inl (cI, 16, .inl (fun j => nI ((va_up mem1 kept (mem1 i)) j))))] := hD
          refine lv_iinc (v := (nI (kept + 1))) (lv' := [(2, .int (nI (kept + 1))), (0, .ref a_ln), (1, .int (nI q)), (3, .int (nI i))]) hx hb d_Ln_leave_34 hl (k := 2) rfl (nI_add kept 1) (by decide) rfl (fun ls hl => ?_)
          refine lv_iinc (v := (nI (i + 1))) (lv' := [(3, .int (nI (i + 1))), (2, .int (nI (kept + 1))), (0, .ref a_ln), (1, .int (nI q))]) hx hb d_Ln_leave_37 hl (k := 3) rfl (nI_add i 1) (by decide) rfl (fun ls hl => ?_)
          refine lv_goto (tgt := 4) hx hb d_Ln_leave_40 (by decide) ?_
          exact ih_4 (kept + 1) (i + 1) (va_up mem1 kept (mem1 i)) _ _ ls (by omega) (LvI_keep hI (by omega) c_b) (by omega) (hP.sub [0, 1] rfl) (hD.sub [0, 1] (by decide) rfl) hS (lv_sub hl [2, 3, 1, 0] rfl)
  exact loop_4 ((line.length - 0) + 1) 0 0 mem _ _ ls (Nat.zero_le _) (LvI_0 ⟨hh, hh2, hh3⟩) (Nat.lt_succ_self _) (hP.sub [0, 1] rfl) (hD.sub [0, 1] (by decide) rfl) hS (lv_sub hl [2, 3, 1, 0] rfl)
