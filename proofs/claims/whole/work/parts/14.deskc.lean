set_option maxHeartbeats 4000000 in
set_option maxRecDepth 100000 in
theorem c_Dk_doCase (l : Launch) (G : va_G) (cI cZ cJ : ClassId) (sz : Nat) (a_dk : Nat) (a_ch : Nat) (a_cs : Nat) (a_ln : Nat) (a_ss : Nat) (a_rr : Nat) (a_wn : Nat) (a_cd : Nat) (a_rm : Nat) (a_hd : Nat) (a_sh : Nat) (a_vl : Nat) (a_cn : Nat) (a_cc : Nat) (a_cw : Nat) (a_cv : Nat) (a_mm : Nat) (mt : Int32) (ft : Int32) (n : Nat) (room : Nat → Nat) (held : Nat → Nat) (shut : Nat → Bool) (vals : Nat → Int32) (cnum : Nat → Nat) (cch : Nat → Nat) (cway : Nat → Nat) (cval : Nat → Int32) (len : Nat) (mem : Nat → Nat) (st : Nat → Nat) (rc : Nat → Int32) (sn : Nat → Nat) (cd : Nat → Int32) (L : Nat → List Int32) (cs : Nat → List Kase) (line : List Nat) (q : Nat) (i : Nat) (hq : q < 16) (hi : i < (cs q).length) (hrm : ∀ j, j < 40 → room j ≤ 8) (hV : RelV held vals L) (hC : RelC cnum cch cway cval cs) (hL : RelL len mem line) (hst : ∀ j, j < 16 → st j < 5) : Met l y_Dk_doCase (w_Dk_doCase) ({ frames := 5, cells := 0, slots := 0, locals := 118 }) (va_Pc [.ref a_dk, .int (nI q), .int (nI (q * 6 + i))] (kW G vwCl [(cI, .int), (cZ, .boolean), (cJ, .long)] [(a_dk, .inr (3, [.ref a_ch, .ref a_cs, .ref a_ln, .ref a_ss, .ref a_rr, .ref a_wn, .ref a_cd, .int mt, .int ft])), (a_ch, .inr (1, [.ref a_rm, .ref a_hd, .ref a_sh, .ref a_vl, .int (nI n)])), (a_rm, .inl (cI, 40, .inl (fun j => nI (room j)))), (a_hd, .inl (cI, 40, .inl (fun j => nI (held j)))), (a_sh, .inl (cZ, 40, .inl (fun j => bI (shut j)))), (a_vl, .inl (cI, 320, .inl vals)), (a_cs, .inr (0, [.ref a_cn, .ref a_cc, .ref a_cw, .ref a_cv])), (a_cn, .inl (cI, 16, .inl (fun j => nI (cnum j)))), (a_cc, .inl (cI, 96, .inl (fun j => nI (cch j)))), (a_cw, .inl (cI, 96, .inl (fun j => nI (cway j)))), (a_cv, .inl (cI, 96, .inl cval)), (a_ln, .inr (2, [.ref a_mm, .int (nI len)])), (a_mm, .inl (cI, 16, .inl (fun j => nI (mem j)))), (a_ss, .inl (cI, 16, .inl (fun j => nI (st j)))), (a_rr, .inl (cI, 16, .inl rc)), (a_wn, .inl (cI, 16, .inl (fun j => nI (sn j)))), (a_cd, .inl (cI, 16, .inl cd))] sz)) (va_Qi (fun (r : Int32) (u : (Nat → Nat) × (Nat → Int32) × (Nat → Nat) × Nat × (Nat → Nat) × (Nat → Nat) × (Nat → Int32) × (Nat → Nat) × (Nat → Int32) × Int32 × Int32 × (Nat → List Int32) × (Nat → List Kase) × List Nat × Nat) => r = (nI u.2.2.2.2.2.2.2.2.2.2.2.2.2.2) ∧ m_doC (n, room, shut, L, cs, line, st, rc, sn, cd, mt, ft) q i = ((n, room, shut, u.2.2.2.2.2.2.2.2.2.2.2.1, u.2.2.2.2.2.2.2.2.2.2.2.2.1, u.2.2.2.2.2.2.2.2.2.2.2.2.2.1, u.2.2.2.2.2.1, u.2.2.2.2.2.2.1, u.2.2.2.2.2.2.2.1, u.2.2.2.2.2.2.2.2.1, u.2.2.2.2.2.2.2.2.2.1, u.2.2.2.2.2.2.2.2.2.2.1), u.2.2.2.2.2.2.2.2.2.2.2.2.2.2) ∧ RelV u.1 u.2.1 u.2.2.2.2.2.2.2.2.2.2.2.1 ∧ RelC u.2.2.1 cch cway cval u.2.2.2.2.2.2.2.2.2.2.2.2.1 ∧ RelL u.2.2.2.1 u.2.2.2.2.1 u.2.2.2.2.2.2.2.2.2.2.2.2.2.1 ∧ ∀ j, j < 16 → u.2.2.2.2.2.1 j < 5) (fun u t => va_P G vwCl [(a_dk, .inr (3, [.ref a_ch, .ref a_cs, .ref a_ln, .ref a_ss, .ref a_rr, .ref a_wn, .ref a_cd, .int u.2.2.2.2.2.2.2.2.2.1, .int u.2.2.2.2.2.2.2.2.2.2.1])), (a_ch, .inr (1, [.ref a_rm, .ref a_hd, .ref a_sh, .ref a_vl, .int (nI n)])), (a_rm, .inl (cI, 40, .inl (fun j => nI (room j)))), (a_hd, .inl (cI, 40, .inl (fun j => nI (u.1 j)))), (a_sh, .inl (cZ, 40, .inl (fun j => bI (shut j)))), (a_vl, .inl (cI, 320, .inl u.2.1)), (a_cs, .inr (0, [.ref a_cn, .ref a_cc, .ref a_cw, .ref a_cv])), (a_cn, .inl (cI, 16, .inl (fun j => nI (u.2.2.1 j)))), (a_cc, .inl (cI, 96, .inl (fun j => nI (cch j)))), (a_cw, .inl (cI, 96, .inl (fun j => nI (cway j)))), (a_cv, .inl (cI, 96, .inl cval)), (a_ln, .inr (2, [.ref a_mm, .int (nI u.2.2.2.1)])), (a_mm, .inl (cI, 16, .inl (fun j => nI (u.2.2.2.2.1 j)))), (a_ss, .inl (cI, 16, .inl (fun j => nI (u.2.2.2.2.2.1 j)))), (a_rr, .inl (cI, 16, .inl u.2.2.2.2.2.2.1)), (a_wn, .inl (cI, 16, .inl (fun j => nI (u.2.2.2.2.2.2.2.1 j)))), (a_cd, .inl (cI, 16, .inl u.2.2.2.2.2.2.2.2.1))] t.heap) (va_A [(a_dk, .inr (3, [.ref a_ch, .ref a_cs, .ref a_ln, .ref a_ss, .ref a_rr, .ref a_wn, .ref a_cd, .int mt, .int ft])), (a_ch, .inr (1, [.ref a_rm, .ref a_hd, .ref a_sh, .ref a_vl, .int (nI n)])), (a_rm, .inl (cI, 40, .inl (fun j => nI (room j)))), (a_hd, .inl (cI, 40, .inl (fun j => nI (held j)))), (a_sh, .inl (cZ, 40, .inl (fun j => bI (shut j)))), (a_vl, .inl (cI, 320, .inl vals)), (a_cs, .inr (0, [.ref a_cn, .ref a_cc, .ref a_cw, .ref a_cv])), (a_cn, .inl (cI, 16, .inl (fun j => nI (cnum j)))), (a_cc, .inl (cI, 96, .inl (fun j => nI (cch j)))), (a_cw, .inl (cI, 96, .inl (fun j => nI (cway j)))), (a_cv, .inl (cI, 96, .inl cval)), (a_ln, .inr (2, [.ref a_mm, .int (nI len)])), (a_mm, .inl (cI, 16, .inl (fun j => nI (mem j)))), (a_ss, .inl (cI, 16, .inl (fun j => nI (st j)))), (a_rr, .inl (cI, 16, .inl rc)), (a_wn, .inl (cI, 16, .inl (fun j => nI (sn j)))), (a_cd, .inl (cI, 16, .inl cd))] sz)) 0 0 (va_A [(a_dk, .inr (3, [.ref a_ch, .ref a_cs, .ref a_ln, .ref a_ss, .ref a_rr, .ref a_wn, .ref a_cd, .int mt, .int ft])), (a_ch, .inr (1, [.ref a_rm, .ref a_hd, .ref a_sh, .ref a_vl, .int (nI n)])), (a_rm, .inl (cI, 40, .inl (fun j => nI (room j)))), (a_hd, .inl (cI, 40, .inl (fun j => nI (held j)))), (a_sh, .inl (cZ, 40, .inl (fun j => bI (shut j)))), (a_vl, .inl (cI, 320, .inl vals)), (a_cs, .inr (0, [.ref a_cn, .ref a_cc, .ref a_cw, .ref a_cv])), (a_cn, .inl (cI, 16, .inl (fun j => nI (cnum j)))), (a_cc, .inl (cI, 96, .inl (fun j => nI (cch j)))), (a_cw, .inl (cI, 96, .inl (fun j => nI (cway j)))), (a_cv, .inl (cI, 96, .inl cval)), (a_ln, .inr (2, [.ref a_mm, .int (nI len)])), (a_mm, .inl (cI, 16, .inl (fun j => nI (mem j)))), (a_ss, .inl (cI, 16, .inl (fun j => nI (st j)))), (a_rr, .inl (cI, 16, .inl rc)), (a_wn, .inl (cI, 16, .inl (fun j => nI (sn j)))), (a_cd, .inl (cI, 16, .inl cd))] sz) := by
  refine Met.ofW (cc := b_Dk_doCase) (maxL := 7) (ret := (some .int)) (by decide) rfl ?_
  intro p e s m args below meth c s₁ B hml hv
  obtain ⟨rfl, hsz, hP, hK, hD0⟩ := hv
  have hx := B.exec
  have hb := B.bytes
  have hr := B.returns
  have hts : ∀ w ∈ TT, w.before _ s = true := fun w h => atoms_spec (ws := (w_Dk_doCase)) B.pre w (List.mem_cons_of_mem _ h)
  have hown : s.vm.findClass R_Dk = some m.cls := findClass_of_methodNamed B.named
  have hlocks := B.notSynchronized
  subst hsz
  have hD := hD0.self (sz := s.heap.size)
  generalize hAe : va_A [(a_dk, .inr (3, [.ref a_ch, .ref a_cs, .ref a_ln, .ref a_ss, .ref a_rr, .ref a_wn, .ref a_cd, .int mt, .int ft])), (a_ch, .inr (1, [.ref a_rm, .ref a_hd, .ref a_sh, .ref a_vl, .int (nI n)])), (a_rm, .inl (cI, 40, .inl (fun j => nI (room j)))), (a_hd, .inl (cI, 40, .inl (fun j => nI (held j)))), (a_sh, .inl (cZ, 40, .inl (fun j => bI (shut j)))), (a_vl, .inl (cI, 320, .inl vals)), (a_cs, .inr (0, [.ref a_cn, .ref a_cc, .ref a_cw, .ref a_cv])), (a_cn, .inl (cI, 16, .inl (fun j => nI (cnum j)))), (a_cc, .inl (cI, 96, .inl (fun j => nI (cch j)))), (a_cw, .inl (cI, 96, .inl (fun j => nI (cway j)))), (a_cv, .inl (cI, 96, .inl cval)), (a_ln, .inr (2, [.ref a_mm, .int (nI len)])), (a_mm, .inl (cI, 16, .inl (fun j => nI (mem j)))), (a_ss, .inl (cI, 16, .inl (fun j => nI (st j)))), (a_rr, .inl (cI, 16, .inl rc)), (a_wn, .inl (cI, 16, .inl (fun j => nI (sn j)))), (a_cd, .inl (cI, 16, .inl cd))] s.heap.size = A at hD ⊢
  have hA : ∀ q : Nat, s.heap.size ≤ q → A q := fun q h => by rw [← hAe]; exact Or.inr h
  have hS : va_S A s.heap s.heap [] := va_S.rf
  have hP : va_P G vwCl [(a_dk, .inr (3, [.ref a_ch, .ref a_cs, .ref a_ln, .ref a_ss, .ref a_rr, .ref a_wn, .ref a_cd, .int mt, .int ft])), (a_ch, .inr (1, [.ref a_rm, .ref a_hd, .ref a_sh, .ref a_vl, .int (nI n)])), (a_rm, .inl (cI, 40, .inl (fun j => nI (room j)))), (a_hd, .inl (cI, 40, .inl (fun j => nI (held j)))), (a_sh, .inl (cZ, 40, .inl (fun j => bI (shut j)))), (a_vl, .inl (cI, 320, .inl vals)), (a_cs, .inr (0, [.ref a_cn, .ref a_cc, .ref a_cw, .ref a_cv])), (a_cn, .inl (cI, 16, .inl (fun j => nI (cnum j)))), (a_cc, .inl (cI, 96, .inl (fun j => nI (cch j)))), (a_cw, .inl (cI, 96, .inl (fun j => nI (cway j)))), (a_cv, .inl (cI, 96, .inl cval)), (a_ln, .inr (2, [.ref a_mm, .int (nI len)])), (a_mm, .inl (cI, 16, .inl (fun j => nI (mem j)))), (a_ss, .inl (cI, 16, .inl (fun j => nI (st j)))), (a_rr, .inl (cI, 16, .inl rc)), (a_wn, .inl (cI, 16, .inl (fun j => nI (sn j)))), (a_cd, .inl (cI, 16, .inl cd))] s.heap := hP
  have hl := lv_entry ([.ref a_dk, .int (nI q), .int (nI (q * 6 + i))]) (n := 7) (Nat.le_of_ble_eq_true rfl)
  rw [lg_entry_eq]
  generalize (lg_sl ([.ref a_dk, .int (nI q), .int (nI (q * 6 + i))]) ++ List.replicate (7 - (lg_sl ([.ref a_dk, .int (nI q), .int (nI (q * 6 + i))])).length) Slot.unset).toArray = ls at hl ⊢
  have hl : lv_has ls 7 [(0, .ref a_dk), (1, .int (nI q)), (2, .int (nI (q * 6 + i)))] := hl
  have hh2 := (hC q hq).2.1
  obtain ⟨x, w, v, hk9⟩ : ∃ x w v, kAt cs q i = (x, w, v) := ⟨_, _, _, rfl⟩
  have hx0 : x < 40 := by have h9 := (RelC_k hC hq hi).1; rw [hk9] at h9; exact h9
  have hw2 : w < 2 := by have h9 := (RelC_k hC hq hi).2; rw [hk9] at h9; exact h9
  refine lv_iload_n hx hb d_Dk_doCase_0 rfl (lv_at hl 2 rfl) ?_
  refine lv_iconst (v := (-1)) hx hb d_Dk_doCase_1 (by decide +kernel) ?_
  refine lv_icmp_ne (tgt := 7) hx hb d_Dk_doCase_2 (by decide) (fun c_a => ?_) (fun c_a => absurd c_a (nI_m1 (by omega)))
  refine lv_aload_n hx hb d_Dk_doCase_7 rfl (lv_at hl 0 rfl) ?_
  refine va_get (D := G) (ci := 3) (v := .ref a_cs) (C := R_Dk) (T := T_Dk) (N := 9) hx hb hts uw_Dk hown hK hP 0 rfl rfl 1 (by decide) (hts _ t_106) (fun _ h9 => h9) rfl d_Dk_doCase_8 ?_
  refine lv_iload_n hx hb d_Dk_doCase_11 rfl (lv_at hl 2 rfl) ?_
  refine k_ro (va_runV (As := [.int (nI (q * 6 + i))]) (rest := []) ⟨hx, hb, hml, hown, hts⟩ (c_Cs_channelAt l G cI cZ cJ a_cs a_cn a_cc a_cw a_cv cch cnum cway cval cs q i hq hC hi) (cwV 1 hts (gV t_265 t_266 t_267 t_34 t_268) rfl rfl rfl (by decide +kernel) ⟨Nat.le_of_ble_eq_true rfl, Nat.le_of_ble_eq_true rfl⟩) (kR_V (ci := 0) (q0 := 6) hK hP rfl rfl [6, 8] rfl) rfl rfl hl.1 rfl (lv_room (Nat.le_of_ble_eq_true rfl)) d_Dk_doCase_12 ⟨Nat.le_of_ble_eq_true rfl, Nat.le_of_ble_eq_true rfl⟩) ?_
  refine k_top (y := (nI x)) (by rw [hk9]) ?_
  refine lv_istore_n (lv' := [(3, .int (nI x)), (0, .ref a_dk), (1, .int (nI q)), (2, .int (nI (q * 6 + i)))]) hx hb d_Dk_doCase_15 rfl hl (by decide) rfl (fun ls hl => ?_)
  refine lv_aload_n hx hb d_Dk_doCase_16 rfl (lv_at hl 1 rfl) ?_
  refine va_get (D := G) (ci := 3) (v := .ref a_cs) (C := R_Dk) (T := T_Dk) (N := 9) hx hb hts uw_Dk hown hK hP 0 rfl rfl 1 (by decide) (hts _ t_106) (fun _ h9 => h9) rfl d_Dk_doCase_17 ?_
  refine lv_iload_n hx hb d_Dk_doCase_20 rfl (lv_at hl 3 rfl) ?_
  refine k_ro (va_runV (As := [.int (nI (q * 6 + i))]) (rest := []) ⟨hx, hb, hml, hown, hts⟩ (c_Cs_wayAt l G cI cZ cJ a_cs a_cn a_cc a_cw a_cv cway cnum cch cval cs q i hq hC hi) (cwV 1 hts (gV t_269 t_270 t_271 t_34 t_272) rfl rfl rfl (by decide +kernel) ⟨Nat.le_of_ble_eq_true rfl, Nat.le_of_ble_eq_true rfl⟩) (kR_V (ci := 0) (q0 := 6) hK hP rfl rfl [6, 9] rfl) rfl rfl hl.1 rfl (lv_room (Nat.le_of_ble_eq_true rfl)) d_Dk_doCase_21 ⟨Nat.le_of_ble_eq_true rfl, Nat.le_of_ble_eq_true rfl⟩) ?_
  refine k_top (y := (nI w)) (by rw [hk9]) ?_
  refine lv_istore (lv' := [(4, .int (nI w)), (3, .int (nI x)), (0, .ref a_dk), (1, .int (nI q)), (2, .int (nI (q * 6 + i)))]) hx hb d_Dk_doCase_24 hl (by decide) rfl (fun ls hl => ?_)
  refine lv_aload_n hx hb d_Dk_doCase_26 rfl (lv_at hl 2 rfl) ?_
  refine va_get (D := G) (ci := 3) (v := .ref a_cs) (C := R_Dk) (T := T_Dk) (N := 9) hx hb hts uw_Dk hown hK hP 0 rfl rfl 1 (by decide) (hts _ t_106) (fun _ h9 => h9) rfl d_Dk_doCase_27 ?_
  refine lv_iload_n hx hb d_Dk_doCase_30 rfl (lv_at hl 4 rfl) ?_
  refine k_ro (va_runV (As := [.int (nI (q * 6 + i))]) (rest := []) ⟨hx, hb, hml, hown, hts⟩ (c_Cs_valueAt l G cI cZ cJ a_cs a_cn a_cc a_cw a_cv cval cnum cch cway cs q i hq hC hi) (cwV 1 hts (gV t_239 t_240 t_241 t_34 t_242) rfl rfl rfl (by decide +kernel) ⟨Nat.le_of_ble_eq_true rfl, Nat.le_of_ble_eq_true rfl⟩) (kR_V (ci := 0) (q0 := 6) hK hP rfl rfl [6, 10] rfl) rfl rfl hl.1 rfl (lv_room (Nat.le_of_ble_eq_true rfl)) d_Dk_doCase_31 ⟨Nat.le_of_ble_eq_true rfl, Nat.le_of_ble_eq_true rfl⟩) ?_
  refine k_top (y := v) (by rw [hk9]) ?_
  refine lv_istore (lv' := [(5, .int v), (4, .int (nI w)), (3, .int (nI x)), (0, .ref a_dk), (1, .int (nI q)), (2, .int (nI (q * 6 + i)))]) hx hb d_Dk_doCase_34 hl (by decide) rfl (fun ls hl => ?_)
  refine lv_aload_n hx hb d_Dk_doCase_36 rfl (lv_at hl 3 rfl) ?_
  refine lv_iload_n hx hb d_Dk_doCase_37 rfl (lv_at hl 4 rfl) ?_
  refine k_rwv (va_runV (As := [.int (nI q)]) (rest := []) ⟨hx, hb, hml, hown, hts⟩ (c_Dk_makeReady l G cI cZ cJ s.heap.size a_dk a_ch a_cs a_ln a_ss a_rr a_wn a_cd a_cn a_cc a_cw a_cv mt ft st cnum cch cway cval cs q hq hC) (cwV 1 hts (gV t_145 t_146 t_2 t_32 t_147) rfl rfl rfl (by decide +kernel) ⟨Nat.le_of_ble_eq_true rfl, Nat.le_of_ble_eq_true rfl⟩) (kW_V (ci := 3) (q0 := 0) hK hP hD rfl rfl [0, 13, 6, 7] rfl (by decide) rfl) rfl rfl hl.1 rfl (lv_room (Nat.le_of_ble_eq_true rfl)) d_Dk_doCase_38 ⟨Nat.le_of_ble_eq_true rfl, Nat.le_of_ble_eq_true rfl⟩) hP hD hS hA [0, 13, 6, 7] rfl (fun _ => rfl) (fun u H locs hw hP hD hS => ?_)
  have hC := hw
  have hC : RelC (va_up cnum q 0) cch cway cval (va_up cs q []) := hC
  have hP : va_P G vwCl [(a_dk, .inr (3, [.ref a_ch, .ref a_cs, .ref a_ln, .ref a_ss, .ref a_rr, .ref a_wn, .ref a_cd, .int mt, .int ft])), (a_ch, .inr (1, [.ref a_rm, .ref a_hd, .ref a_sh, .ref a_vl, .int (nI n)])), (a_rm, .inl (cI, 40, .inl (fun j => nI (room j)))), (a_hd, .inl (cI, 40, .inl (fun j => nI (held j)))), (a_sh, .inl (cZ, 40, .inl (fun j => bI (shut j)))), (a_vl, .inl (cI, 320, .inl vals)), (a_cs, .inr (0, [.ref a_cn, .ref a_cc, .ref a_cw, .ref a_cv])), (a_cn, .inl (cI, 16, .inl (fun j => nI ((va_up cnum q 0) j)))), (a_cc, .inl (cI, 96, .inl (fun j => nI (cch j)))), (a_cw, .inl (cI, 96, .inl (fun j => nI (cway j)))), (a_cv, .inl (cI, 96, .inl cval)), (a_ln, .inr (2, [.ref a_mm, .int (nI len)])), (a_mm, .inl (cI, 16, .inl (fun j => nI (mem j)))), (a_ss, .inl (cI, 16, .inl (fun j => nI ((va_up st q 0) j)))), (a_rr, .inl (cI, 16, .inl rc)), (a_wn, .inl (cI, 16, .inl (fun j => nI (sn j)))), (a_cd, .inl (cI, 16, .inl cd))] H := hP
  have hD : va_D A [(a_dk, .inr (3, [.ref a_ch, .ref a_cs, .ref a_ln, .ref a_ss, .ref a_rr, .ref a_wn, .ref a_cd, .int mt, .int ft])), (a_ch, .inr (1, [.ref a_rm, .ref a_hd, .ref a_sh, .ref a_vl, .int (nI n)])), (a_rm, .inl (cI, 40, .inl (fun j => nI (room j)))), (a_hd, .inl (cI, 40, .inl (fun j => nI (held j)))), (a_sh, .inl (cZ, 40, .inl (fun j => bI (shut j)))), (a_vl, .inl (cI, 320, .inl vals)), (a_cs, .inr (0, [.ref a_cn, .ref a_cc, .ref a_cw, .ref a_cv])), (a_cn, .inl (cI, 16, .inl (fun j => nI ((va_up cnum q 0) j)))), (a_cc, .inl (cI, 96, .inl (fun j => nI (cch j)))), (a_cw, .inl (cI, 96, .inl (fun j => nI (cway j)))), (a_cv, .inl (cI, 96, .inl cval)), (a_ln, .inr (2, [.ref a_mm, .int (nI len)])), (a_mm, .inl (cI, 16, .inl (fun j => nI (mem j)))), (a_ss, .inl (cI, 16, .inl (fun j => nI ((va_up st q 0) j)))), (a_rr, .inl (cI, 16, .inl rc)), (a_wn, .inl (cI, 16, .inl (fun j => nI (sn j)))), (a_cd, .inl (cI, 16, .inl cd))] := hD
  refine lv_aload_n hx hb d_Dk_doCase_41 rfl (lv_at hl 3 rfl) ?_
  refine va_get (D := G) (ci := 3) (v := .ref a_cd) (C := R_Dk) (T := T_Dk) (N := 9) hx hb hts uw_Dk hown hK hP 0 rfl rfl 6 (by decide) (hts _ t_111) (fun _ h9 => h9) rfl d_Dk_doCase_42 ?_
  refine lv_iload_n hx hb d_Dk_doCase_45 rfl (lv_at hl 4 rfl) ?_
  refine lv_iload_n hx hb d_Dk_doCase_46 rfl (lv_at hl 5 rfl) ?_
  refine k_ro (va_runS (As := [.int (nI (q * 6 + i))]) (rest := [.int (nI q), .ref a_cd]) ⟨hx, hb, hml, hown, hts⟩ (c_Cs_numberAt l G cI cZ cJ (q * 6 + i) (by omega)) (va_cwS 1 hts (gS t_189 t_190 t_34 t_191) rfl rfl rfl (by decide +kernel) ⟨Nat.le_of_ble_eq_true rfl, Nat.le_of_ble_eq_true rfl⟩) (kR_S hK hP [] rfl) rfl rfl hl.1 rfl (lv_room (Nat.le_of_ble_eq_true rfl)) d_Dk_doCase_47 ⟨Nat.le_of_ble_eq_true rfl, Nat.le_of_ble_eq_true rfl⟩) ?_
  refine k_top (y := (nI i)) (congrArg nI (by omega)) ?_
  refine k_iast hx hb hK hP hD hS 16 0 rfl rfl (by omega) (by decide) d_Dk_doCase_50 (fun H locs hP hD hS => ?_)
  have hP : va_P G vwCl [(a_dk, .inr (3, [.ref a_ch, .ref a_cs, .ref a_ln, .ref a_ss, .ref a_rr, .ref a_wn, .ref a_cd, .int mt, .int ft])), (a_ch, .inr (1, [.ref a_rm, .ref a_hd, .ref a_sh, .ref a_vl, .int (nI n)])), (a_rm, .inl (cI, 40, .inl (fun j => nI (room j)))), (a_hd, .inl (cI, 40, .inl (fun j => nI (held j)))), (a_sh, .inl (cZ, 40, .inl (fun j => bI (shut j)))), (a_vl, .inl (cI, 320, .inl vals)), (a_cs, .inr (0, [.ref a_cn, .ref a_cc, .ref a_cw, .ref a_cv])), (a_cn, .inl (cI, 16, .inl (fun j => nI ((va_up cnum q 0) j)))), (a_cc, .inl (cI, 96, .inl (fun j => nI (cch j)))), (a_cw, .inl (cI, 96, .inl (fun j => nI (cway j)))), (a_cv, .inl (cI, 96, .inl cval)), (a_ln, .inr (2, [.ref a_mm, .int (nI len)])), (a_mm, .inl (cI, 16, .inl (fun j => nI (mem j)))), (a_ss, .inl (cI, 16, .inl (fun j => nI ((va_up st q 0) j)))), (a_rr, .inl (cI, 16, .inl rc)), (a_wn, .inl (cI, 16, .inl (fun j => nI (sn j)))), (a_cd, .inl (cI, 16, .inl (va_up cd q (nI i))))] H := hP
  have hD : va_D A [(a_dk, .inr (3, [.ref a_ch, .ref a_cs, .ref a_ln, .ref a_ss, .ref a_rr, .ref a_wn, .ref a_cd, .int mt, .int ft])), (a_ch, .inr (1, [.ref a_rm, .ref a_hd, .ref a_sh, .ref a_vl, .int (nI n)])), (a_rm, .inl (cI, 40, .inl (fun j => nI (room j)))), (a_hd, .inl (cI, 40, .inl (fun j => nI (held j)))), (a_sh, .inl (cZ, 40, .inl (fun j => bI (shut j)))), (a_vl, .inl (cI, 320, .inl vals)), (a_cs, .inr (0, [.ref a_cn, .ref a_cc, .ref a_cw, .ref a_cv])), (a_cn, .inl (cI, 16, .inl (fun j => nI ((va_up cnum q 0) j)))), (a_cc, .inl (cI, 96, .inl (fun j => nI (cch j)))), (a_cw, .inl (cI, 96, .inl (fun j => nI (cway j)))), (a_cv, .inl (cI, 96, .inl cval)), (a_ln, .inr (2, [.ref a_mm, .int (nI len)])), (a_mm, .inl (cI, 16, .inl (fun j => nI (mem j)))), (a_ss, .inl (cI, 16, .inl (fun j => nI ((va_up st q 0) j)))), (a_rr, .inl (cI, 16, .inl rc)), (a_wn, .inl (cI, 16, .inl (fun j => nI (sn j)))), (a_cd, .inl (cI, 16, .inl (va_up cd q (nI i))))] := hD
  refine lv_iload hx hb d_Dk_doCase_51 (lv_at hl 1 rfl) ?_
  refine n_if_ne (tgt := 67) hx hb d_Dk_doCase_53 (by decide) (by omega) (fun c_b => ?_) (fun c_b => ?_)
  · refine lv_aload_n hx hb d_Dk_doCase_67 rfl (lv_at hl 3 rfl) ?_
    refine lv_iload_n hx hb d_Dk_doCase_68 rfl (lv_at hl 4 rfl) ?_
    refine lv_iload_n hx hb d_Dk_doCase_69 rfl (lv_at hl 2 rfl) ?_
    refine k_rwi (va_runV (As := [.int (nI q), .int (nI x)]) (rest := []) ⟨hx, hb, hml, hown, hts⟩ (c_Dk_tryReceive l G cI cZ cJ H.size a_dk a_ch a_cs a_ln a_ss a_rr a_wn a_cd a_rm a_hd a_sh a_vl a_cn a_cc a_cw a_cv a_mm mt ft n room held shut vals (va_up cnum q 0) cch cway cval len mem (va_up st q 0) rc sn (va_up cd q (nI i)) L (va_up cs q []) line q x hq (by omega) hrm hV hC hL (st_up hst q (by decide))) (cwV 2 hts (gV t_222 t_223 t_10 t_32 t_224) rfl rfl rfl (by decide +kernel) ⟨Nat.le_of_ble_eq_true rfl, Nat.le_of_ble_eq_true rfl⟩) (kW_V (ci := 3) (q0 := 0) hK hP hD rfl rfl [0, 1, 2, 3, 4, 5, 6, 7, 8, 9, 10, 11, 12, 13, 14, 15, 16] rfl (by decide) rfl) rfl rfl hl.1 rfl (lv_room (Nat.le_of_ble_eq_true rfl)) d_Dk_doCase_70 ⟨Nat.le_of_ble_eq_true rfl, Nat.le_of_ble_eq_true rfl⟩) hP hD hS hA [0, 1, 2, 3, 4, 5, 6, 7, 8, 9, 10, 11, 12, 13, 14, 15, 16] rfl (fun _ => rfl) (fun r_4 u H locs hw hP hD hS => ?_)
    obtain ⟨held_4, vals_4, cnum_4, len_4, mem_4, st_4, rc_4, sn_4, cd_4, mt_4, ft_4, L_4, cs_4, line_4, o_4⟩ := u
    obtain ⟨rfl, hM, ho, hV, hC, hL, hst⟩ := hw
    have hM : m_trecv (n, room, shut, L, (va_up cs q []), line, (va_up st q 0), rc, sn, (va_up cd q (nI i)), mt, ft) q x = ((n, room, shut, L_4, cs_4, line_4, st_4, rc_4, sn_4, cd_4, mt_4, ft_4), o_4) := hM
    have ho : o_4 ≤ 3 := ho
    have hV : RelV held_4 vals_4 L_4 := hV
    have hC : RelC cnum_4 cch cway cval cs_4 := hC
    have hL : RelL len_4 mem_4 line_4 := hL
    have hst : ∀ j, j < 16 → st_4 j < 5 := hst
    have hP : va_P G vwCl [(a_dk, .inr (3, [.ref a_ch, .ref a_cs, .ref a_ln, .ref a_ss, .ref a_rr, .ref a_wn, .ref a_cd, .int mt_4, .int ft_4])), (a_ch, .inr (1, [.ref a_rm, .ref a_hd, .ref a_sh, .ref a_vl, .int (nI n)])), (a_rm, .inl (cI, 40, .inl (fun j => nI (room j)))), (a_hd, .inl (cI, 40, .inl (fun j => nI (held_4 j)))), (a_sh, .inl (cZ, 40, .inl (fun j => bI (shut j)))), (a_vl, .inl (cI, 320, .inl vals_4)), (a_cs, .inr (0, [.ref a_cn, .ref a_cc, .ref a_cw, .ref a_cv])), (a_cn, .inl (cI, 16, .inl (fun j => nI (cnum_4 j)))), (a_cc, .inl (cI, 96, .inl (fun j => nI (cch j)))), (a_cw, .inl (cI, 96, .inl (fun j => nI (cway j)))), (a_cv, .inl (cI, 96, .inl cval)), (a_ln, .inr (2, [.ref a_mm, .int (nI len_4)])), (a_mm, .inl (cI, 16, .inl (fun j => nI (mem_4 j)))), (a_ss, .inl (cI, 16, .inl (fun j => nI (st_4 j)))), (a_rr, .inl (cI, 16, .inl rc_4)), (a_wn, .inl (cI, 16, .inl (fun j => nI (sn_4 j)))), (a_cd, .inl (cI, 16, .inl cd_4))] H := hP
    have hD : va_D A [(a_dk, .inr (3, [.ref a_ch, .ref a_cs, .ref a_ln, .ref a_ss, .ref a_rr, .ref a_wn, .ref a_cd, .int mt_4, .int ft_4])), (a_ch, .inr (1, [.ref a_rm, .ref a_hd, .ref a_sh, .ref a_vl, .int (nI n)])), (a_rm, .inl (cI, 40, .inl (fun j => nI (room j)))), (a_hd, .inl (cI, 40, .inl (fun j => nI (held_4 j)))), (a_sh, .inl (cZ, 40, .inl (fun j => bI (shut j)))), (a_vl, .inl (cI, 320, .inl vals_4)), (a_cs, .inr (0, [.ref a_cn, .ref a_cc, .ref a_cw, .ref a_cv])), (a_cn, .inl (cI, 16, .inl (fun j => nI (cnum_4 j)))), (a_cc, .inl (cI, 96, .inl (fun j => nI (cch j)))), (a_cw, .inl (cI, 96, .inl (fun j => nI (cway j)))), (a_cv, .inl (cI, 96, .inl cval)), (a_ln, .inr (2, [.ref a_mm, .int (nI len_4)])), (a_mm, .inl (cI, 16, .inl (fun j => nI (mem_4 j)))), (a_ss, .inl (cI, 16, .inl (fun j => nI (st_4 j)))), (a_rr, .inl (cI, 16, .inl rc_4)), (a_wn, .inl (cI, 16, .inl (fun j => nI (sn_4 j)))), (a_cd, .inl (cI, 16, .inl cd_4))] := hD
    refine lv_istore (lv' := [(6, .int (nI o_4)), (5, .int v), (4, .int (nI w)), (3, .int (nI x)), (0, .ref a_dk), (1, .int (nI q)), (2, .int (nI (q * 6 + i)))]) hx hb d_Dk_doCase_73 hl (by decide) rfl (fun ls hl => ?_)
    refine lv_iload hx hb d_Dk_doCase_75 (lv_at hl 0 rfl) ?_
    refine lv_iconst (v := (nI 3)) hx hb d_Dk_doCase_77 (by decide +kernel) ?_
    refine n_icmp_ne (tgt := 86) hx hb d_Dk_doCase_78 (by decide) (by omega) (by decide) (fun c_c => ?_) (fun c_c => ?_)
    · refine lv_iload_n hx hb d_Dk_doCase_86 rfl (lv_at hl 6 rfl) ?_
      refine k_ro (va_runS (As := [.int (nI (q * 6 + i))]) (rest := []) ⟨hx, hb, hml, hown, hts⟩ (c_Cs_numberAt l G cI cZ cJ (q * 6 + i) (by omega)) (va_cwS 1 hts (gS t_189 t_190 t_34 t_191) rfl rfl rfl (by decide +kernel) ⟨Nat.le_of_ble_eq_true rfl, Nat.le_of_ble_eq_true rfl⟩) (kR_S hK hP [] rfl) rfl rfl hl.1 rfl (lv_room (Nat.le_of_ble_eq_true rfl)) d_Dk_doCase_87 ⟨Nat.le_of_ble_eq_true rfl, Nat.le_of_ble_eq_true rfl⟩) ?_
      refine k_top (y := (nI i)) (congrArg nI (by omega)) ?_
      exact k_wi hx hb hr hlocks hP hS (held_4, vals_4, cnum_4, len_4, mem_4, st_4, rc_4, sn_4, cd_4, mt_4, ft_4, L_4, cs_4, line_4, i) (rfl) (⟨rfl, (m_doC_2 (σ := (n, room, shut, L, cs, line, st, rc, sn, cd, mt, ft)) hk9 c_b hM).trans (by rw [if_neg c_c]), hV, hC, hL, hst⟩) d_Dk_doCase_90
    · refine lv_bipush (v := (nI 12)) hx hb d_Dk_doCase_81 (by decide +kernel) ?_
      refine lv_goto (tgt := 90) hx hb d_Dk_doCase_83 (by decide) ?_
      exact k_wi hx hb hr hlocks hP hS (held_4, vals_4, cnum_4, len_4, mem_4, st_4, rc_4, sn_4, cd_4, mt_4, ft_4, L_4, cs_4, line_4, 12) (rfl) (⟨rfl, (m_doC_2 (σ := (n, room, shut, L, cs, line, st, rc, sn, cd, mt, ft)) hk9 c_b hM).trans (by rw [if_pos c_c]), hV, hC, hL, hst⟩) d_Dk_doCase_90
  · refine lv_aload_n hx hb d_Dk_doCase_56 rfl (lv_at hl 3 rfl) ?_
    refine lv_iload_n hx hb d_Dk_doCase_57 rfl (lv_at hl 4 rfl) ?_
    refine lv_iload_n hx hb d_Dk_doCase_58 rfl (lv_at hl 2 rfl) ?_
    refine lv_iload hx hb d_Dk_doCase_59 (lv_at hl 0 rfl) ?_
    refine k_rwi (va_runV (As := [.int (nI q), .int (nI x), .int v]) (rest := []) ⟨hx, hb, hml, hown, hts⟩ (c_Dk_trySend l G cI cZ cJ H.size a_dk a_ch a_cs a_ln a_ss a_rr a_wn a_cd a_rm a_hd a_sh a_vl a_cn a_cc a_cw a_cv a_mm mt ft n room held shut vals (va_up cnum q 0) cch cway cval len mem (va_up st q 0) rc sn (va_up cd q (nI i)) L (va_up cs q []) line q x v hq (by omega) hrm hV hC hL (st_up hst q (by decide))) (cwV 3 hts (gV t_152 t_153 t_3 t_32 t_154) rfl rfl rfl (by decide +kernel) ⟨Nat.le_of_ble_eq_true rfl, Nat.le_of_ble_eq_true rfl⟩) (kW_V (ci := 3) (q0 := 0) hK hP hD rfl rfl [0, 1, 2, 3, 4, 5, 6, 7, 8, 9, 10, 11, 12, 13, 14, 15, 16] rfl (by decide) rfl) rfl rfl hl.1 rfl (lv_room (Nat.le_of_ble_eq_true rfl)) d_Dk_doCase_61 ⟨Nat.le_of_ble_eq_true rfl, Nat.le_of_ble_eq_true rfl⟩) hP hD hS hA [0, 1, 2, 3, 4, 5, 6, 7, 8, 9, 10, 11, 12, 13, 14, 15, 16] rfl (fun _ => rfl) (fun r_6 u H locs hw hP hD hS => ?_)
    obtain ⟨held_6, vals_6, cnum_6, len_6, mem_6, st_6, rc_6, sn_6, cd_6, mt_6, ft_6, L_6, cs_6, line_6, o_6⟩ := u
    obtain ⟨rfl, hM, ho, hV, hC, hL, hst⟩ := hw
    have hM : m_tsend (n, room, shut, L, (va_up cs q []), line, (va_up st q 0), rc, sn, (va_up cd q (nI i)), mt, ft) q x v = ((n, room, shut, L_6, cs_6, line_6, st_6, rc_6, sn_6, cd_6, mt_6, ft_6), o_6) := hM
    have ho : o_6 ≤ 3 := ho
    have hV : RelV held_6 vals_6 L_6 := hV
    have hC : RelC cnum_6 cch cway cval cs_6 := hC
    have hL : RelL len_6 mem_6 line_6 := hL
    have hst : ∀ j, j < 16 → st_6 j < 5 := hst
    have hP : va_P G vwCl [(a_dk, .inr (3, [.ref a_ch, .ref a_cs, .ref a_ln, .ref a_ss, .ref a_rr, .ref a_wn, .ref a_cd, .int mt_6, .int ft_6])), (a_ch, .inr (1, [.ref a_rm, .ref a_hd, .ref a_sh, .ref a_vl, .int (nI n)])), (a_rm, .inl (cI, 40, .inl (fun j => nI (room j)))), (a_hd, .inl (cI, 40, .inl (fun j => nI (held_6 j)))), (a_sh, .inl (cZ, 40, .inl (fun j => bI (shut j)))), (a_vl, .inl (cI, 320, .inl vals_6)), (a_cs, .inr (0, [.ref a_cn, .ref a_cc, .ref a_cw, .ref a_cv])), (a_cn, .inl (cI, 16, .inl (fun j => nI (cnum_6 j)))), (a_cc, .inl (cI, 96, .inl (fun j => nI (cch j)))), (a_cw, .inl (cI, 96, .inl (fun j => nI (cway j)))), (a_cv, .inl (cI, 96, .inl cval)), (a_ln, .inr (2, [.ref a_mm, .int (nI len_6)])), (a_mm, .inl (cI, 16, .inl (fun j => nI (mem_6 j)))), (a_ss, .inl (cI, 16, .inl (fun j => nI (st_6 j)))), (a_rr, .inl (cI, 16, .inl rc_6)), (a_wn, .inl (cI, 16, .inl (fun j => nI (sn_6 j)))), (a_cd, .inl (cI, 16, .inl cd_6))] H := hP
    have hD : va_D A [(a_dk, .inr (3, [.ref a_ch, .ref a_cs, .ref a_ln, .ref a_ss, .ref a_rr, .ref a_wn, .ref a_cd, .int mt_6, .int ft_6])), (a_ch, .inr (1, [.ref a_rm, .ref a_hd, .ref a_sh, .ref a_vl, .int (nI n)])), (a_rm, .inl (cI, 40, .inl (fun j => nI (room j)))), (a_hd, .inl (cI, 40, .inl (fun j => nI (held_6 j)))), (a_sh, .inl (cZ, 40, .inl (fun j => bI (shut j)))), (a_vl, .inl (cI, 320, .inl vals_6)), (a_cs, .inr (0, [.ref a_cn, .ref a_cc, .ref a_cw, .ref a_cv])), (a_cn, .inl (cI, 16, .inl (fun j => nI (cnum_6 j)))), (a_cc, .inl (cI, 96, .inl (fun j => nI (cch j)))), (a_cw, .inl (cI, 96, .inl (fun j => nI (cway j)))), (a_cv, .inl (cI, 96, .inl cval)), (a_ln, .inr (2, [.ref a_mm, .int (nI len_6)])), (a_mm, .inl (cI, 16, .inl (fun j => nI (mem_6 j)))), (a_ss, .inl (cI, 16, .inl (fun j => nI (st_6 j)))), (a_rr, .inl (cI, 16, .inl rc_6)), (a_wn, .inl (cI, 16, .inl (fun j => nI (sn_6 j)))), (a_cd, .inl (cI, 16, .inl cd_6))] := hD
    refine lv_goto (tgt := 73) hx hb d_Dk_doCase_64 (by decide) ?_
    refine lv_istore (lv' := [(6, .int (nI o_6)), (5, .int v), (4, .int (nI w)), (3, .int (nI x)), (0, .ref a_dk), (1, .int (nI q)), (2, .int (nI (q * 6 + i)))]) hx hb d_Dk_doCase_73 hl (by decide) rfl (fun ls hl => ?_)
    refine lv_iload hx hb d_Dk_doCase_75 (lv_at hl 0 rfl) ?_
    refine lv_iconst (v := (nI 3)) hx hb d_Dk_doCase_77 (by decide +kernel) ?_
    refine n_icmp_ne (tgt := 86) hx hb d_Dk_doCase_78 (by decide) (by omega) (by decide) (fun c_c => ?_) (fun c_c => ?_)
    · refine lv_iload_n hx hb d_Dk_doCase_86 rfl (lv_at hl 6 rfl) ?_
      refine k_ro (va_runS (As := [.int (nI (q * 6 + i))]) (rest := []) ⟨hx, hb, hml, hown, hts⟩ (c_Cs_numberAt l G cI cZ cJ (q * 6 + i) (by omega)) (va_cwS 1 hts (gS t_189 t_190 t_34 t_191) rfl rfl rfl (by decide +kernel) ⟨Nat.le_of_ble_eq_true rfl, Nat.le_of_ble_eq_true rfl⟩) (kR_S hK hP [] rfl) rfl rfl hl.1 rfl (lv_room (Nat.le_of_ble_eq_true rfl)) d_Dk_doCase_87 ⟨Nat.le_of_ble_eq_true rfl, Nat.le_of_ble_eq_true rfl⟩) ?_
      refine k_top (y := (nI i)) (congrArg nI (by omega)) ?_
      exact k_wi hx hb hr hlocks hP hS (held_6, vals_6, cnum_6, len_6, mem_6, st_6, rc_6, sn_6, cd_6, mt_6, ft_6, L_6, cs_6, line_6, i) (rfl) (⟨rfl, (m_doC_1 (σ := (n, room, shut, L, cs, line, st, rc, sn, cd, mt, ft)) hk9 c_b hM).trans (by rw [if_neg c_c]), hV, hC, hL, hst⟩) d_Dk_doCase_90
    · refine lv_bipush (v := (nI 12)) hx hb d_Dk_doCase_81 (by decide +kernel) ?_
      refine lv_goto (tgt := 90) hx hb d_Dk_doCase_83 (by decide) ?_
      exact k_wi hx hb hr hlocks hP hS (held_6, vals_6, cnum_6, len_6, mem_6, st_6, rc_6, sn_6, cd_6, mt_6, ft_6, L_6, cs_6, line_6, 12) (rfl) (⟨rfl, (m_doC_1 (σ := (n, room, shut, L, cs, line, st, rc, sn, cd, mt, ft)) hk9 c_b hM).trans (by rw [if_pos c_c]), hV, hC, hL, hst⟩) d_Dk_doCase_90
set_option maxHeartbeats 4000000 in
set_option maxRecDepth 100000 in
theorem c_Dk_isPossible (l : Launch) (G : va_G) (cI cZ cJ : ClassId) (a_dk : Nat) (a_ch : Nat) (a_cs : Nat) (a_ln : Nat) (a_ss : Nat) (a_rr : Nat) (a_wn : Nat) (a_cd : Nat) (a_rm : Nat) (a_hd : Nat) (a_sh : Nat) (a_vl : Nat) (a_cn : Nat) (a_cc : Nat) (a_cw : Nat) (a_cv : Nat) (a_mm : Nat) (mt : Int32) (ft : Int32) (n : Nat) (room : Nat → Nat) (held : Nat → Nat) (shut : Nat → Bool) (cnum : Nat → Nat) (cch : Nat → Nat) (cway : Nat → Nat) (len : Nat) (mem : Nat → Nat) (vals : Nat → Int32) (cval : Nat → Int32) (L : Nat → List Int32) (cs : Nat → List Kase) (line : List Nat) (q : Nat) (i : Nat) (hq : q < 16) (hi : i < (cs q).length) (hrm : ∀ j, j < 40 → room j ≤ 8) (hV : RelV held vals L) (hC : RelC cnum cch cway cval cs) (hL : RelL len mem line) : Met l y_Dk_isPossible (w_Dk_isPossible) ({ frames := 4, cells := 0, slots := 0, locals := 94 }) (va_Pc [.ref a_dk, .int (nI (q * 6 + i))] (kR G vwCl [(cI, .int), (cZ, .boolean), (cJ, .long)] [(a_dk, .inr (3, [.ref a_ch, .ref a_cs, .ref a_ln, .ref a_ss, .ref a_rr, .ref a_wn, .ref a_cd, .int mt, .int ft])), (a_ch, .inr (1, [.ref a_rm, .ref a_hd, .ref a_sh, .ref a_vl, .int (nI n)])), (a_rm, .inl (cI, 40, .inl (fun j => nI (room j)))), (a_hd, .inl (cI, 40, .inl (fun j => nI (held j)))), (a_sh, .inl (cZ, 40, .inl (fun j => bI (shut j)))), (a_cs, .inr (0, [.ref a_cn, .ref a_cc, .ref a_cw, .ref a_cv])), (a_cn, .inl (cI, 16, .inl (fun j => nI (cnum j)))), (a_cc, .inl (cI, 96, .inl (fun j => nI (cch j)))), (a_cw, .inl (cI, 96, .inl (fun j => nI (cway j)))), (a_ln, .inr (2, [.ref a_mm, .int (nI len)])), (a_mm, .inl (cI, 16, .inl (fun j => nI (mem j))))])) (QcRead ((bI (m_poss shut room L cs line (kAt cs q i))))) 0 0 (fun _ => False) := by
  refine Met.ofW (cc := b_Dk_isPossible) (maxL := 3) (ret := (some .boolean)) (by decide) rfl ?_
  intro p e s m args below meth c s₁ B hml hv
  obtain ⟨rfl, hP, hK⟩ := hv
  have hx := B.exec
  have hb := B.bytes
  have hr := B.returns
  have hts : ∀ w ∈ TT, w.before _ s = true := fun w h => atoms_spec (ws := (w_Dk_isPossible)) B.pre w (List.mem_cons_of_mem _ h)
  have hown : s.vm.findClass R_Dk = some m.cls := findClass_of_methodNamed B.named
  have hlocks := B.notSynchronized
  have hP : va_P G vwCl [(a_dk, .inr (3, [.ref a_ch, .ref a_cs, .ref a_ln, .ref a_ss, .ref a_rr, .ref a_wn, .ref a_cd, .int mt, .int ft])), (a_ch, .inr (1, [.ref a_rm, .ref a_hd, .ref a_sh, .ref a_vl, .int (nI n)])), (a_rm, .inl (cI, 40, .inl (fun j => nI (room j)))), (a_hd, .inl (cI, 40, .inl (fun j => nI (held j)))), (a_sh, .inl (cZ, 40, .inl (fun j => bI (shut j)))), (a_cs, .inr (0, [.ref a_cn, .ref a_cc, .ref a_cw, .ref a_cv])), (a_cn, .inl (cI, 16, .inl (fun j => nI (cnum j)))), (a_cc, .inl (cI, 96, .inl (fun j => nI (cch j)))), (a_cw, .inl (cI, 96, .inl (fun j => nI (cway j)))), (a_ln, .inr (2, [.ref a_mm, .int (nI len)])), (a_mm, .inl (cI, 16, .inl (fun j => nI (mem j))))] s.heap := hP
  have hl := lv_entry ([.ref a_dk, .int (nI (q * 6 + i))]) (n := 3) (Nat.le_of_ble_eq_true rfl)
  rw [lg_entry_eq]
  generalize (lg_sl ([.ref a_dk, .int (nI (q * 6 + i))]) ++ List.replicate (3 - (lg_sl ([.ref a_dk, .int (nI (q * 6 + i))])).length) Slot.unset).toArray = ls at hl ⊢
  have hl : lv_has ls 3 [(0, .ref a_dk), (1, .int (nI (q * 6 + i)))] := hl
  obtain ⟨x, w, v, hk9⟩ : ∃ x w v, kAt cs q i = (x, w, v) := ⟨_, _, _, rfl⟩
  have hx0 : x < 40 := by have h9 := (RelC_k hC hq hi).1; rw [hk9] at h9; exact h9
  have hw2 : w < 2 := by have h9 := (RelC_k hC hq hi).2; rw [hk9] at h9; exact h9
  have hv8 := (hV x hx0).2.1
  refine lv_aload_n hx hb d_Dk_isPossible_0 rfl (lv_at hl 0 rfl) ?_
  refine va_get (D := G) (ci := 3) (v := .ref a_cs) (C := R_Dk) (T := T_Dk) (N := 9) hx hb hts uw_Dk hown hK hP 0 rfl rfl 1 (by decide) (hts _ t_106) (fun _ h9 => h9) rfl d_Dk_isPossible_1 ?_
  refine lv_iload_n hx hb d_Dk_isPossible_4 rfl (lv_at hl 1 rfl) ?_
  refine k_ro (va_runV (As := [.int (nI (q * 6 + i))]) (rest := []) ⟨hx, hb, hml, hown, hts⟩ (c_Cs_channelAt l G cI cZ cJ a_cs a_cn a_cc a_cw a_cv cch cnum cway cval cs q i hq hC hi) (cwV 1 hts (gV t_265 t_266 t_267 t_34 t_268) rfl rfl rfl (by decide +kernel) ⟨Nat.le_of_ble_eq_true rfl, Nat.le_of_ble_eq_true rfl⟩) (kR_V (ci := 0) (q0 := 5) hK hP rfl rfl [5, 7] rfl) rfl rfl hl.1 rfl (lv_room (Nat.le_of_ble_eq_true rfl)) d_Dk_isPossible_5 ⟨Nat.le_of_ble_eq_true rfl, Nat.le_of_ble_eq_true rfl⟩) ?_
  refine k_top (y := (nI x)) (by rw [hk9]) ?_
  refine lv_istore_n (lv' := [(2, .int (nI x)), (0, .ref a_dk), (1, .int (nI (q * 6 + i)))]) hx hb d_Dk_isPossible_8 rfl hl (by decide) rfl (fun ls hl => ?_)
  refine lv_aload_n hx hb d_Dk_isPossible_9 rfl (lv_at hl 1 rfl) ?_
  refine va_get (D := G) (ci := 3) (v := .ref a_ch) (C := R_Dk) (T := T_Dk) (N := 9) hx hb hts uw_Dk hown hK hP 0 rfl rfl 0 (by decide) (hts _ t_105) (fun _ h9 => h9) rfl d_Dk_isPossible_10 ?_
  refine lv_iload_n hx hb d_Dk_isPossible_13 rfl (lv_at hl 0 rfl) ?_
  refine k_ro (va_runV (As := [.int (nI x)]) (rest := []) ⟨hx, hb, hml, hown, hts⟩ (c_Ch_isShut l G cI cZ cJ a_ch a_rm a_hd a_sh a_vl n shut x (by omega)) (cwV 1 hts (gV t_155 t_156 t_157 t_33 t_158) rfl rfl rfl (by decide +kernel) ⟨Nat.le_of_ble_eq_true rfl, Nat.le_of_ble_eq_true rfl⟩) (kR_V (ci := 1) (q0 := 1) hK hP rfl rfl [1, 4] rfl) rfl rfl hl.1 rfl (lv_room (Nat.le_of_ble_eq_true rfl)) d_Dk_isPossible_14 ⟨Nat.le_of_ble_eq_true rfl, Nat.le_of_ble_eq_true rfl⟩) ?_
  refine b_if_eq (tgt := 22) hx hb d_Dk_isPossible_17 (by decide) (fun c_a => ?_) (fun c_a => ?_)
  · refine lv_aload_n hx hb d_Dk_isPossible_22 rfl (lv_at hl 1 rfl) ?_
    refine va_get (D := G) (ci := 3) (v := .ref a_cs) (C := R_Dk) (T := T_Dk) (N := 9) hx hb hts uw_Dk hown hK hP 0 rfl rfl 1 (by decide) (hts _ t_106) (fun _ h9 => h9) rfl d_Dk_isPossible_23 ?_
    refine lv_iload_n hx hb d_Dk_isPossible_26 rfl (lv_at hl 2 rfl) ?_
    refine k_ro (va_runV (As := [.int (nI (q * 6 + i))]) (rest := []) ⟨hx, hb, hml, hown, hts⟩ (c_Cs_wayAt l G cI cZ cJ a_cs a_cn a_cc a_cw a_cv cway cnum cch cval cs q i hq hC hi) (cwV 1 hts (gV t_269 t_270 t_271 t_34 t_272) rfl rfl rfl (by decide +kernel) ⟨Nat.le_of_ble_eq_true rfl, Nat.le_of_ble_eq_true rfl⟩) (kR_V (ci := 0) (q0 := 5) hK hP rfl rfl [5, 8] rfl) rfl rfl hl.1 rfl (lv_room (Nat.le_of_ble_eq_true rfl)) d_Dk_isPossible_27 ⟨Nat.le_of_ble_eq_true rfl, Nat.le_of_ble_eq_true rfl⟩) ?_
    refine k_top (y := (nI w)) (by rw [hk9]) ?_
    refine n_if_ne (tgt := 60) hx hb d_Dk_isPossible_30 (by decide) (by omega) (fun c_b => ?_) (fun c_b => ?_)
    · refine lv_aload_n hx hb d_Dk_isPossible_60 rfl (lv_at hl 1 rfl) ?_
      refine va_get (D := G) (ci := 3) (v := .ref a_ch) (C := R_Dk) (T := T_Dk) (N := 9) hx hb hts uw_Dk hown hK hP 0 rfl rfl 0 (by decide) (hts _ t_105) (fun _ h9 => h9) rfl d_Dk_isPossible_61 ?_
      refine lv_iload_n hx hb d_Dk_isPossible_64 rfl (lv_at hl 0 rfl) ?_
      refine k_ro (va_runV (As := [.int (nI x)]) (rest := []) ⟨hx, hb, hml, hown, hts⟩ (c_Ch_held l G cI cZ cJ a_ch a_rm a_hd a_sh a_vl n held vals L x (by omega) hV) (cwV 1 hts (gV t_225 t_226 t_227 t_33 t_228) rfl rfl rfl (by decide +kernel) ⟨Nat.le_of_ble_eq_true rfl, Nat.le_of_ble_eq_true rfl⟩) (kR_V (ci := 1) (q0 := 1) hK hP rfl rfl [1, 3] rfl) rfl rfl hl.1 rfl (lv_room (Nat.le_of_ble_eq_true rfl)) d_Dk_isPossible_65 ⟨Nat.le_of_ble_eq_true rfl, Nat.le_of_ble_eq_true rfl⟩) ?_
      refine n_if_gt (tgt := 81) hx hb d_Dk_isPossible_68 (by decide) (by omega) (fun c_e => ?_) (fun c_e => ?_)
      · refine lv_iconst (v := (nI 1)) hx hb d_Dk_isPossible_81 (by decide +kernel) ?_
        refine lv_goto (tgt := 86) hx hb d_Dk_isPossible_82 (by decide) ?_
        exact k_rz hx hb hr hlocks (by decide +kernel) (by rw [hk9]; exact mp_5 c_b c_e) d_Dk_isPossible_86
      · refine lv_aload_n hx hb d_Dk_isPossible_71 rfl (lv_at hl 1 rfl) ?_
        refine lv_iload_n hx hb d_Dk_isPossible_72 rfl (lv_at hl 0 rfl) ?_
        refine lv_iconst (v := (nI 0)) hx hb d_Dk_isPossible_73 (by decide +kernel) ?_
        refine k_ro (va_runV (As := [.int (nI x), .int (nI 0)]) (rest := []) ⟨hx, hb, hml, hown, hts⟩ (c_Dk_firstWaiting l G cI cZ cJ a_dk a_ch a_cs a_ln a_ss a_rr a_wn a_cd a_mm a_cn a_cc a_cw a_cv mt ft len mem cnum cch cway cval cs line x 0 hx0 (by decide) hC hL) (cwV 2 hts (gV t_162 t_163 t_5 t_32 t_164) rfl rfl rfl (by decide +kernel) ⟨Nat.le_of_ble_eq_true rfl, Nat.le_of_ble_eq_true rfl⟩) (kR_V (ci := 3) (q0 := 0) hK hP rfl rfl [0, 9, 10, 5, 6, 7, 8] rfl) rfl rfl hl.1 rfl (lv_room (Nat.le_of_ble_eq_true rfl)) d_Dk_isPossible_74 ⟨Nat.le_of_ble_eq_true rfl, Nat.le_of_ble_eq_true rfl⟩) ?_
        rcases hz : (wl cs line x 0)[0]? with _ | ⟨q1, i1⟩
        · refine k_top (y := (-1)) (rfl) ?_
          refine lv_iconst (v := (-1)) hx hb d_Dk_isPossible_77 (by decide +kernel) ?_
          refine lv_icmp_eq (tgt := 85) hx hb d_Dk_isPossible_78 (by decide) (fun c_f => ?_) (fun c_f => absurd rfl c_f)
          refine lv_iconst (v := (nI 0)) hx hb d_Dk_isPossible_85 (by decide +kernel) ?_
          exact k_rz hx hb hr hlocks (by decide +kernel) (by rw [hk9]; exact mp_7 c_a c_b c_e hz) d_Dk_isPossible_86
        · have hz1 := wl_mem (List.mem_of_getElem? hz)
          have hq1 : q1 < 16 := RelL_lt hL hz1.1
          have hi1 : i1 < (cs q1).length := fa_lt hz1.2
          have h61 := (hC q1 hq1).2.1
          refine k_top (y := (nI (q1 * 6 + i1))) (rfl) ?_
          refine lv_iconst (v := (-1)) hx hb d_Dk_isPossible_77 (by decide +kernel) ?_
          refine lv_icmp_eq (tgt := 85) hx hb d_Dk_isPossible_78 (by decide) (fun c_f => absurd c_f (nI_m1 (by omega))) (fun c_f => ?_)
          refine lv_iconst (v := (nI 1)) hx hb d_Dk_isPossible_81 (by decide +kernel) ?_
          refine lv_goto (tgt := 86) hx hb d_Dk_isPossible_82 (by decide) ?_
          exact k_rz hx hb hr hlocks (by decide +kernel) (by rw [hk9]; exact mp_6 c_b hz) d_Dk_isPossible_86
    · refine lv_aload_n hx hb d_Dk_isPossible_33 rfl (lv_at hl 1 rfl) ?_
      refine va_get (D := G) (ci := 3) (v := .ref a_ch) (C := R_Dk) (T := T_Dk) (N := 9) hx hb hts uw_Dk hown hK hP 0 rfl rfl 0 (by decide) (hts _ t_105) (fun _ h9 => h9) rfl d_Dk_isPossible_34 ?_
      refine lv_iload_n hx hb d_Dk_isPossible_37 rfl (lv_at hl 0 rfl) ?_
      refine k_ro (va_runV (As := [.int (nI x)]) (rest := []) ⟨hx, hb, hml, hown, hts⟩ (c_Ch_hasSpace l G cI cZ cJ a_ch a_rm a_hd a_sh a_vl n room held vals L x (by omega) hV (hrm x hx0)) (cwV 1 hts (gV t_273 t_204 t_205 t_33 t_206) rfl rfl rfl (by decide +kernel) ⟨Nat.le_of_ble_eq_true rfl, Nat.le_of_ble_eq_true rfl⟩) (kR_V (ci := 1) (q0 := 1) hK hP rfl rfl [1, 2, 3] rfl) rfl rfl hl.1 rfl (lv_room (Nat.le_of_ble_eq_true rfl)) d_Dk_isPossible_38 ⟨Nat.le_of_ble_eq_true rfl, Nat.le_of_ble_eq_true rfl⟩) ?_
      refine b_if_ne (tgt := 54) hx hb d_Dk_isPossible_41 (by decide) (fun c_c => ?_) (fun c_c => ?_)
      · refine lv_iconst (v := (nI 1)) hx hb d_Dk_isPossible_54 (by decide +kernel) ?_
        refine lv_goto (tgt := 59) hx hb d_Dk_isPossible_55 (by decide) ?_
        exact k_rz hx hb hr hlocks (by decide +kernel) (by rw [hk9]; exact mp_2 c_b c_c) d_Dk_isPossible_59
      · refine lv_aload_n hx hb d_Dk_isPossible_44 rfl (lv_at hl 1 rfl) ?_
        refine lv_iload_n hx hb d_Dk_isPossible_45 rfl (lv_at hl 0 rfl) ?_
        refine lv_iconst (v := (nI 1)) hx hb d_Dk_isPossible_46 (by decide +kernel) ?_
        refine k_ro (va_runV (As := [.int (nI x), .int (nI 1)]) (rest := []) ⟨hx, hb, hml, hown, hts⟩ (c_Dk_firstWaiting l G cI cZ cJ a_dk a_ch a_cs a_ln a_ss a_rr a_wn a_cd a_mm a_cn a_cc a_cw a_cv mt ft len mem cnum cch cway cval cs line x 1 hx0 (by decide) hC hL) (cwV 2 hts (gV t_162 t_163 t_5 t_32 t_164) rfl rfl rfl (by decide +kernel) ⟨Nat.le_of_ble_eq_true rfl, Nat.le_of_ble_eq_true rfl⟩) (kR_V (ci := 3) (q0 := 0) hK hP rfl rfl [0, 9, 10, 5, 6, 7, 8] rfl) rfl rfl hl.1 rfl (lv_room (Nat.le_of_ble_eq_true rfl)) d_Dk_isPossible_47 ⟨Nat.le_of_ble_eq_true rfl, Nat.le_of_ble_eq_true rfl⟩) ?_
        rcases hz : (wl cs line x 1)[0]? with _ | ⟨q1, i1⟩
        · refine k_top (y := (-1)) (rfl) ?_
          refine lv_iconst (v := (-1)) hx hb d_Dk_isPossible_50 (by decide +kernel) ?_
          refine lv_icmp_eq (tgt := 58) hx hb d_Dk_isPossible_51 (by decide) (fun c_d => ?_) (fun c_d => absurd rfl c_d)
          refine lv_iconst (v := (nI 0)) hx hb d_Dk_isPossible_58 (by decide +kernel) ?_
          exact k_rz hx hb hr hlocks (by decide +kernel) (by rw [hk9]; exact mp_4 c_a c_b c_c hz) d_Dk_isPossible_59
        · have hz1 := wl_mem (List.mem_of_getElem? hz)
          have hq1 : q1 < 16 := RelL_lt hL hz1.1
          have hi1 : i1 < (cs q1).length := fa_lt hz1.2
          have h61 := (hC q1 hq1).2.1
          refine k_top (y := (nI (q1 * 6 + i1))) (rfl) ?_
          refine lv_iconst (v := (-1)) hx hb d_Dk_isPossible_50 (by decide +kernel) ?_
          refine lv_icmp_eq (tgt := 58) hx hb d_Dk_isPossible_51 (by decide) (fun c_d => absurd c_d (nI_m1 (by omega))) (fun c_d => ?_)
          refine lv_iconst (v := (nI 1)) hx hb d_Dk_isPossible_54 (by decide +kernel) ?_
          refine lv_goto (tgt := 59) hx hb d_Dk_isPossible_55 (by decide) ?_
          exact k_rz hx hb hr hlocks (by decide +kernel) (by rw [hk9]; exact mp_3 c_b hz) d_Dk_isPossible_59
  · refine lv_iconst (v := (nI 1)) hx hb d_Dk_isPossible_20 (by decide +kernel) ?_
    exact k_rz hx hb hr hlocks (by decide +kernel) (by rw [hk9]; exact mp_1 c_a) d_Dk_isPossible_21
set_option maxHeartbeats 4000000 in
set_option maxRecDepth 100000 in
theorem c_Dk_countPossible (l : Launch) (G : va_G) (cI cZ cJ : ClassId) (a_dk : Nat) (a_ch : Nat) (a_cs : Nat) (a_ln : Nat) (a_ss : Nat) (a_rr : Nat) (a_wn : Nat) (a_cd : Nat) (a_rm : Nat) (a_hd : Nat) (a_sh : Nat) (a_vl : Nat) (a_cn : Nat) (a_cc : Nat) (a_cw : Nat) (a_cv : Nat) (a_mm : Nat) (mt : Int32) (ft : Int32) (n : Nat) (room : Nat → Nat) (held : Nat → Nat) (shut : Nat → Bool) (cnum : Nat → Nat) (cch : Nat → Nat) (cway : Nat → Nat) (len : Nat) (mem : Nat → Nat) (vals : Nat → Int32) (cval : Nat → Int32) (L : Nat → List Int32) (cs : Nat → List Kase) (line : List Nat) (q : Nat) (hq : q < 16) (hrm : ∀ j, j < 40 → room j ≤ 8) (hV : RelV held vals L) (hC : RelC cnum cch cway cval cs) (hL : RelL len mem line) : Met l y_Dk_countPossible (w_Dk_countPossible) ({ frames := 5, cells := 0, slots := 0, locals := 116 }) (va_Pc [.ref a_dk, .int (nI q)] (kR G vwCl [(cI, .int), (cZ, .boolean), (cJ, .long)] [(a_dk, .inr (3, [.ref a_ch, .ref a_cs, .ref a_ln, .ref a_ss, .ref a_rr, .ref a_wn, .ref a_cd, .int mt, .int ft])), (a_ch, .inr (1, [.ref a_rm, .ref a_hd, .ref a_sh, .ref a_vl, .int (nI n)])), (a_rm, .inl (cI, 40, .inl (fun j => nI (room j)))), (a_hd, .inl (cI, 40, .inl (fun j => nI (held j)))), (a_sh, .inl (cZ, 40, .inl (fun j => bI (shut j)))), (a_cs, .inr (0, [.ref a_cn, .ref a_cc, .ref a_cw, .ref a_cv])), (a_cn, .inl (cI, 16, .inl (fun j => nI (cnum j)))), (a_cc, .inl (cI, 96, .inl (fun j => nI (cch j)))), (a_cw, .inl (cI, 96, .inl (fun j => nI (cway j)))), (a_ln, .inr (2, [.ref a_mm, .int (nI len)])), (a_mm, .inl (cI, 16, .inl (fun j => nI (mem j))))])) (QcRead ((nI ((m_pl shut room L cs line q).length)))) 0 0 (fun _ => False) := by
  refine Met.ofW (cc := b_Dk_countPossible) (maxL := 4) (ret := (some .int)) (by decide) rfl ?_
  intro p e s m args below meth c s₁ B hml hv
  obtain ⟨rfl, hP, hK⟩ := hv
  have hx := B.exec
  have hb := B.bytes
  have hr := B.returns
  have hts : ∀ w ∈ TT, w.before _ s = true := fun w h => atoms_spec (ws := (w_Dk_countPossible)) B.pre w (List.mem_cons_of_mem _ h)
  have hown : s.vm.findClass R_Dk = some m.cls := findClass_of_methodNamed B.named
  have hlocks := B.notSynchronized
  have hP : va_P G vwCl [(a_dk, .inr (3, [.ref a_ch, .ref a_cs, .ref a_ln, .ref a_ss, .ref a_rr, .ref a_wn, .ref a_cd, .int mt, .int ft])), (a_ch, .inr (1, [.ref a_rm, .ref a_hd, .ref a_sh, .ref a_vl, .int (nI n)])), (a_rm, .inl (cI, 40, .inl (fun j => nI (room j)))), (a_hd, .inl (cI, 40, .inl (fun j => nI (held j)))), (a_sh, .inl (cZ, 40, .inl (fun j => bI (shut j)))), (a_cs, .inr (0, [.ref a_cn, .ref a_cc, .ref a_cw, .ref a_cv])), (a_cn, .inl (cI, 16, .inl (fun j => nI (cnum j)))), (a_cc, .inl (cI, 96, .inl (fun j => nI (cch j)))), (a_cw, .inl (cI, 96, .inl (fun j => nI (cway j)))), (a_ln, .inr (2, [.ref a_mm, .int (nI len)])), (a_mm, .inl (cI, 16, .inl (fun j => nI (mem j))))] s.heap := hP
  have hl := lv_entry ([.ref a_dk, .int (nI q)]) (n := 4) (Nat.le_of_ble_eq_true rfl)
  rw [lg_entry_eq]
  generalize (lg_sl ([.ref a_dk, .int (nI q)]) ++ List.replicate (4 - (lg_sl ([.ref a_dk, .int (nI q)])).length) Slot.unset).toArray = ls at hl ⊢
  have hl : lv_has ls 4 [(0, .ref a_dk), (1, .int (nI q))] := hl
  have hh2 := (hC q hq).2.1
  refine lv_iconst (v := (nI 0)) hx hb d_Dk_countPossible_0 (by decide +kernel) ?_
  refine lv_istore_n (lv' := [(2, .int (nI 0)), (0, .ref a_dk), (1, .int (nI q))]) hx hb d_Dk_countPossible_1 rfl hl (by decide) rfl (fun ls hl => ?_)
  refine lv_iconst (v := (nI 0)) hx hb d_Dk_countPossible_2 (by decide +kernel) ?_
  refine lv_istore_n (lv' := [(3, .int (nI 0)), (2, .int (nI 0)), (0, .ref a_dk), (1, .int (nI q))]) hx hb d_Dk_countPossible_3 rfl hl (by decide) rfl (fun ls hl => ?_)
  have loop_4 : ∀ (k : Nat) (ps : Nat) (i : Nat) (ls : Array Slot), i ≤ (cs q).length → ps = ((List.range i).filter (fun j => m_poss shut room L cs line (kAt cs q j))).length → (cs q).length - i < k → lv_has ls 4 [(0, .ref a_dk), (1, .int (nI q)), (2, .int (nI ps)), (3, .int (nI i))] → W p l e (headSpec (w_Dk_countPossible) ({ frames := 5, cells := 0, slots := 0, locals := 116 })).room s m (List.toArray [.ref a_dk, .int (nI q)]) below meth c s.heap [] 0 0 (MQ below (QcRead ((nI ((m_pl shut room L cs line q).length)))) (List.toArray [.ref a_dk, .int (nI q)]) s 0 0 (fun _ => False)) (F0 m 4 ls []) := by
    intro k
    induction k with
    | zero => intro ps i ls hi9 hp9 hk; exact absurd hk (Nat.not_lt_zero _)
    | succ k ih_4 =>
      intro ps i ls hi9 hp9 hk hl
      refine lv_iload_n hx hb d_Dk_countPossible_4 rfl (lv_at hl 3 rfl) ?_
      refine lv_aload_n hx hb d_Dk_countPossible_5 rfl (lv_at hl 0 rfl) ?_
      refine va_get (D := G) (ci := 3) (v := .ref a_cs) (C := R_Dk) (T := T_Dk) (N := 9) hx hb hts uw_Dk hown hK hP 0 rfl rfl 1 (by decide) (hts _ t_106) (fun _ h9 => h9) rfl d_Dk_countPossible_6 ?_
      refine lv_iload_n hx hb d_Dk_countPossible_9 rfl (lv_at hl 1 rfl) ?_
      refine k_ro (va_runV (As := [.int (nI q)]) (rest := [.int (nI i)]) ⟨hx, hb, hml, hown, hts⟩ (c_Cs_numberOf l G cI cZ cJ a_cs a_cn a_cc a_cw a_cv cnum cch cway cval cs q hq hC) (cwV 1 hts (gV t_257 t_258 t_259 t_34 t_260) rfl rfl rfl (by decide +kernel) ⟨Nat.le_of_ble_eq_true rfl, Nat.le_of_ble_eq_true rfl⟩) (kR_V (ci := 0) (q0 := 5) hK hP rfl rfl [5, 6] rfl) rfl rfl hl.1 rfl (lv_room (Nat.le_of_ble_eq_true rfl)) d_Dk_countPossible_10 ⟨Nat.le_of_ble_eq_true rfl, Nat.le_of_ble_eq_true rfl⟩) ?_
      refine n_icmp_ge (tgt := 37) hx hb d_Dk_countPossible_13 (by decide) (by omega) (by omega) (fun c_a => ?_) (fun c_a => ?_)
      · refine lv_iload_n hx hb d_Dk_countPossible_37 rfl (lv_at hl 2 rfl) ?_
        exact k_ri hx hb hr hlocks (congrArg nI (by rw [hp9, show i = (cs q).length by omega]; rfl)) d_Dk_countPossible_38
      · refine lv_aload_n hx hb d_Dk_countPossible_16 rfl (lv_at hl 0 rfl) ?_
        refine lv_iload_n hx hb d_Dk_countPossible_17 rfl (lv_at hl 1 rfl) ?_
        refine lv_iload_n hx hb d_Dk_countPossible_18 rfl (lv_at hl 3 rfl) ?_
        refine k_ro (va_runS (As := [.int (nI q), .int (nI i)]) (rest := [.ref a_dk]) ⟨hx, hb, hml, hown, hts⟩ (c_Cs_slotOf l G cI cZ cJ q i) (va_cwS 2 hts (gS t_261 t_181 t_34 t_182) rfl rfl rfl (by decide +kernel) ⟨Nat.le_of_ble_eq_true rfl, Nat.le_of_ble_eq_true rfl⟩) (kR_S hK hP [] rfl) rfl rfl hl.1 rfl (lv_room (Nat.le_of_ble_eq_true rfl)) d_Dk_countPossible_19 ⟨Nat.le_of_ble_eq_true rfl, Nat.le_of_ble_eq_true rfl⟩) ?_
        refine k_ro (va_runV (As := [.int (nI (q * 6 + i))]) (rest := []) ⟨hx, hb, hml, hown, hts⟩ (c_Dk_isPossible l G cI cZ cJ a_dk a_ch a_cs a_ln a_ss a_rr a_wn a_cd a_rm a_hd a_sh a_vl a_cn a_cc a_cw a_cv a_mm mt ft n room held shut cnum cch cway len mem vals cval L cs line q i hq (by omega) hrm hV hC hL) (cwV 1 hts (gV t_262 t_263 t_13 t_32 t_264) rfl rfl rfl (by decide +kernel) ⟨Nat.le_of_ble_eq_true rfl, Nat.le_of_ble_eq_true rfl⟩) (kR_V (ci := 3) (q0 := 0) hK hP rfl rfl [0, 1, 2, 3, 4, 5, 6, 7, 8, 9, 10] rfl) rfl rfl hl.1 rfl (lv_room (Nat.le_of_ble_eq_true rfl)) d_Dk_countPossible_22 ⟨Nat.le_of_ble_eq_true rfl, Nat.le_of_ble_eq_true rfl⟩) ?_
        refine b_if_eq (tgt := 31) hx hb d_Dk_countPossible_25 (by decide) (fun c_b => ?_) (fun c_b => ?_)
        · refine lv_iinc (v := (nI (i + 1))) (lv' := [(3, .int (nI (i + 1))), (0, .ref a_dk), (1, .int (nI q)), (2, .int (nI ps))]) hx hb d_Dk_countPossible_31 hl (k := 3) rfl (nI_add i 1) (by decide) rfl (fun ls hl => ?_)
          refine lv_goto (tgt := 4) hx hb d_Dk_countPossible_34 (by decide) ?_
          exact ih_4 ps (i + 1) ls (by omega) (by rw [pl_succ, if_neg (by rw [c_b]; decide), List.append_nil]; exact hp9) (by omega) (lv_sub hl [1, 2, 3, 0] rfl)
        · refine lv_iinc (v := (nI (ps + 1))) (lv' := [(2, .int (nI (ps + 1))), (0, .ref a_dk), (1, .int (nI q)), (3, .int (nI i))]) hx hb d_Dk_countPossible_28 hl (k := 2) rfl (nI_add ps 1) (by decide) rfl (fun ls hl => ?_)
          refine lv_iinc (v := (nI (i + 1))) (lv' := [(3, .int (nI (i + 1))), (2, .int (nI (ps + 1))), (0, .ref a_dk), (1, .int (nI q))]) hx hb d_Dk_countPossible_31 hl (k := 3) rfl (nI_add i 1) (by decide) rfl (fun ls hl => ?_)
          refine lv_goto (tgt := 4) hx hb d_Dk_countPossible_34 (by decide) ?_
          exact ih_4 (ps + 1) (i + 1) ls (by omega) (by rw [pl_succ, if_pos c_b, List.length_append, ← hp9]; rfl) (by omega) (lv_sub hl [2, 3, 1, 0] rfl)
  exact loop_4 (((cs q).length - 0) + 1) 0 0 ls (Nat.zero_le _) (rfl) (Nat.lt_succ_self _) (lv_sub hl [2, 3, 1, 0] rfl)
set_option maxHeartbeats 4000000 in
set_option maxRecDepth 100000 in
theorem c_Dk_findPossible (l : Launch) (G : va_G) (cI cZ cJ : ClassId) (a_dk : Nat) (a_ch : Nat) (a_cs : Nat) (a_ln : Nat) (a_ss : Nat) (a_rr : Nat) (a_wn : Nat) (a_cd : Nat) (a_rm : Nat) (a_hd : Nat) (a_sh : Nat) (a_vl : Nat) (a_cn : Nat) (a_cc : Nat) (a_cw : Nat) (a_cv : Nat) (a_mm : Nat) (mt : Int32) (ft : Int32) (n : Nat) (room : Nat → Nat) (held : Nat → Nat) (shut : Nat → Bool) (cnum : Nat → Nat) (cch : Nat → Nat) (cway : Nat → Nat) (len : Nat) (mem : Nat → Nat) (vals : Nat → Int32) (cval : Nat → Int32) (L : Nat → List Int32) (cs : Nat → List Kase) (line : List Nat) (q : Nat) (n9 : Nat) (hq : q < 16) (hrm : ∀ j, j < 40 → room j ≤ 8) (hV : RelV held vals L) (hC : RelC cnum cch cway cval cs) (hL : RelL len mem line) (hn9 : n9 < (m_pl shut room L cs line q).length) : Met l y_Dk_findPossible (w_Dk_findPossible) ({ frames := 5, cells := 0, slots := 0, locals := 116 }) (va_Pc [.ref a_dk, .int (nI q), .int (nI n9)] (kR G vwCl [(cI, .int), (cZ, .boolean), (cJ, .long)] [(a_dk, .inr (3, [.ref a_ch, .ref a_cs, .ref a_ln, .ref a_ss, .ref a_rr, .ref a_wn, .ref a_cd, .int mt, .int ft])), (a_ch, .inr (1, [.ref a_rm, .ref a_hd, .ref a_sh, .ref a_vl, .int (nI n)])), (a_rm, .inl (cI, 40, .inl (fun j => nI (room j)))), (a_hd, .inl (cI, 40, .inl (fun j => nI (held j)))), (a_sh, .inl (cZ, 40, .inl (fun j => bI (shut j)))), (a_cs, .inr (0, [.ref a_cn, .ref a_cc, .ref a_cw, .ref a_cv])), (a_cn, .inl (cI, 16, .inl (fun j => nI (cnum j)))), (a_cc, .inl (cI, 96, .inl (fun j => nI (cch j)))), (a_cw, .inl (cI, 96, .inl (fun j => nI (cway j)))), (a_ln, .inr (2, [.ref a_mm, .int (nI len)])), (a_mm, .inl (cI, 16, .inl (fun j => nI (mem j))))])) (QcRead ((nI (q * 6 + (m_pl shut room L cs line q).getD n9 0)))) 0 0 (fun _ => False) := by
  refine Met.ofW (cc := b_Dk_findPossible) (maxL := 6) (ret := (some .int)) (by decide) rfl ?_
  intro p e s m args below meth c s₁ B hml hv
  obtain ⟨rfl, hP, hK⟩ := hv
  have hx := B.exec
  have hb := B.bytes
  have hr := B.returns
  have hts : ∀ w ∈ TT, w.before _ s = true := fun w h => atoms_spec (ws := (w_Dk_findPossible)) B.pre w (List.mem_cons_of_mem _ h)
  have hown : s.vm.findClass R_Dk = some m.cls := findClass_of_methodNamed B.named
  have hlocks := B.notSynchronized
  have hP : va_P G vwCl [(a_dk, .inr (3, [.ref a_ch, .ref a_cs, .ref a_ln, .ref a_ss, .ref a_rr, .ref a_wn, .ref a_cd, .int mt, .int ft])), (a_ch, .inr (1, [.ref a_rm, .ref a_hd, .ref a_sh, .ref a_vl, .int (nI n)])), (a_rm, .inl (cI, 40, .inl (fun j => nI (room j)))), (a_hd, .inl (cI, 40, .inl (fun j => nI (held j)))), (a_sh, .inl (cZ, 40, .inl (fun j => bI (shut j)))), (a_cs, .inr (0, [.ref a_cn, .ref a_cc, .ref a_cw, .ref a_cv])), (a_cn, .inl (cI, 16, .inl (fun j => nI (cnum j)))), (a_cc, .inl (cI, 96, .inl (fun j => nI (cch j)))), (a_cw, .inl (cI, 96, .inl (fun j => nI (cway j)))), (a_ln, .inr (2, [.ref a_mm, .int (nI len)])), (a_mm, .inl (cI, 16, .inl (fun j => nI (mem j))))] s.heap := hP
  have hl := lv_entry ([.ref a_dk, .int (nI q), .int (nI n9)]) (n := 6) (Nat.le_of_ble_eq_true rfl)
  rw [lg_entry_eq]
  generalize (lg_sl ([.ref a_dk, .int (nI q), .int (nI n9)]) ++ List.replicate (6 - (lg_sl ([.ref a_dk, .int (nI q), .int (nI n9)])).length) Slot.unset).toArray = ls at hl ⊢
  have hl : lv_has ls 6 [(0, .ref a_dk), (1, .int (nI q)), (2, .int (nI n9))] := hl
  have hh2 := (hC q hq).2.1
  have hpl : (m_pl shut room L cs line q).length ≤ (cs q).length := by unfold m_pl; exact Nat.le_trans (List.length_filter_le _ _) (Nat.le_of_eq List.length_range)
  refine lv_iconst (v := (nI 0)) hx hb d_Dk_findPossible_0 (by decide +kernel) ?_
  refine lv_istore_n (lv' := [(3, .int (nI 0)), (0, .ref a_dk), (1, .int (nI q)), (2, .int (nI n9))]) hx hb d_Dk_findPossible_1 rfl hl (by decide) rfl (fun ls hl => ?_)
  refine lv_iconst (v := (nI 0)) hx hb d_Dk_findPossible_2 (by decide +kernel) ?_
  refine lv_istore (lv' := [(4, .int (nI 0)), (3, .int (nI 0)), (0, .ref a_dk), (1, .int (nI q)), (2, .int (nI n9))]) hx hb d_Dk_findPossible_3 hl (by decide) rfl (fun ls hl => ?_)
  have loop_5 : ∀ (k : Nat) (bf : Nat) (i : Nat) (ls : Array Slot), i ≤ (cs q).length → bf = ((List.range i).filter (fun j => m_poss shut room L cs line (kAt cs q j))).length → bf ≤ n9 → (cs q).length - i < k → lv_has ls 6 [(0, .ref a_dk), (1, .int (nI q)), (2, .int (nI n9)), (3, .int (nI bf)), (4, .int (nI i))] → W p l e (headSpec (w_Dk_findPossible) ({ frames := 5, cells := 0, slots := 0, locals := 116 })).room s m (List.toArray [.ref a_dk, .int (nI q), .int (nI n9)]) below meth c s.heap [] 0 0 (MQ below (QcRead ((nI (q * 6 + (m_pl shut room L cs line q).getD n9 0)))) (List.toArray [.ref a_dk, .int (nI q), .int (nI n9)]) s 0 0 (fun _ => False)) (F0 m 5 ls []) := by
    intro k
    induction k with
    | zero => intro bf i ls hi9 hp9 hle hk; exact absurd hk (Nat.not_lt_zero _)
    | succ k ih_5 =>
      intro bf i ls hi9 hp9 hle hk hl
      refine lv_iload hx hb d_Dk_findPossible_5 (lv_at hl 4 rfl) ?_
      refine lv_aload_n hx hb d_Dk_findPossible_7 rfl (lv_at hl 0 rfl) ?_
      refine va_get (D := G) (ci := 3) (v := .ref a_cs) (C := R_Dk) (T := T_Dk) (N := 9) hx hb hts uw_Dk hown hK hP 0 rfl rfl 1 (by decide) (hts _ t_106) (fun _ h9 => h9) rfl d_Dk_findPossible_8 ?_
      refine lv_iload_n hx hb d_Dk_findPossible_11 rfl (lv_at hl 1 rfl) ?_
      refine k_ro (va_runV (As := [.int (nI q)]) (rest := [.int (nI i)]) ⟨hx, hb, hml, hown, hts⟩ (c_Cs_numberOf l G cI cZ cJ a_cs a_cn a_cc a_cw a_cv cnum cch cway cval cs q hq hC) (cwV 1 hts (gV t_257 t_258 t_259 t_34 t_260) rfl rfl rfl (by decide +kernel) ⟨Nat.le_of_ble_eq_true rfl, Nat.le_of_ble_eq_true rfl⟩) (kR_V (ci := 0) (q0 := 5) hK hP rfl rfl [5, 6] rfl) rfl rfl hl.1 rfl (lv_room (Nat.le_of_ble_eq_true rfl)) d_Dk_findPossible_12 ⟨Nat.le_of_ble_eq_true rfl, Nat.le_of_ble_eq_true rfl⟩) ?_
      refine n_icmp_ge (tgt := 52) hx hb d_Dk_findPossible_15 (by decide) (by omega) (by omega) (fun c_a => ?_) (fun c_a => ?_)
      · have e9 : i = (cs q).length := by omega
        rw [e9] at hp9
        exact absurd hn9 (Nat.not_lt.mpr (by unfold m_pl; rw [← hp9]; exact hle))
      · refine lv_iload_n hx hb d_Dk_findPossible_18 rfl (lv_at hl 1 rfl) ?_
        refine lv_iload hx hb d_Dk_findPossible_19 (lv_at hl 4 rfl) ?_
        refine k_ro (va_runS (As := [.int (nI q), .int (nI i)]) (rest := []) ⟨hx, hb, hml, hown, hts⟩ (c_Cs_slotOf l G cI cZ cJ q i) (va_cwS 2 hts (gS t_261 t_181 t_34 t_182) rfl rfl rfl (by decide +kernel) ⟨Nat.le_of_ble_eq_true rfl, Nat.le_of_ble_eq_true rfl⟩) (kR_S hK hP [] rfl) rfl rfl hl.1 rfl (lv_room (Nat.le_of_ble_eq_true rfl)) d_Dk_findPossible_21 ⟨Nat.le_of_ble_eq_true rfl, Nat.le_of_ble_eq_true rfl⟩) ?_
        refine lv_istore (lv' := [(5, .int (nI (q * 6 + i))), (0, .ref a_dk), (1, .int (nI q)), (2, .int (nI n9)), (3, .int (nI bf)), (4, .int (nI i))]) hx hb d_Dk_findPossible_24 hl (by decide) rfl (fun ls hl => ?_)
        refine lv_aload_n hx hb d_Dk_findPossible_26 rfl (lv_at hl 1 rfl) ?_
        refine lv_iload hx hb d_Dk_findPossible_27 (lv_at hl 0 rfl) ?_
        refine k_ro (va_runV (As := [.int (nI (q * 6 + i))]) (rest := []) ⟨hx, hb, hml, hown, hts⟩ (c_Dk_isPossible l G cI cZ cJ a_dk a_ch a_cs a_ln a_ss a_rr a_wn a_cd a_rm a_hd a_sh a_vl a_cn a_cc a_cw a_cv a_mm mt ft n room held shut cnum cch cway len mem vals cval L cs line q i hq (by omega) hrm hV hC hL) (cwV 1 hts (gV t_262 t_263 t_13 t_32 t_264) rfl rfl rfl (by decide +kernel) ⟨Nat.le_of_ble_eq_true rfl, Nat.le_of_ble_eq_true rfl⟩) (kR_V (ci := 3) (q0 := 0) hK hP rfl rfl [0, 1, 2, 3, 4, 5, 6, 7, 8, 9, 10] rfl) rfl rfl hl.1 rfl (lv_room (Nat.le_of_ble_eq_true rfl)) d_Dk_findPossible_29 ⟨Nat.le_of_ble_eq_true rfl, Nat.le_of_ble_eq_true rfl⟩) ?_
        refine b_if_eq (tgt := 46) hx hb d_Dk_findPossible_32 (by decide) (fun c_b => ?_) (fun c_b => ?_)
        · refine lv_iinc (v := (nI (i + 1))) (lv' := [(4, .int (nI (i + 1))), (5, .int (nI (q * 6 + i))), (0, .ref a_dk), (1, .int (nI q)), (2, .int (nI n9)), (3, .int (nI bf))]) hx hb d_Dk_findPossible_46 hl (k := 5) rfl (nI_add i 1) (by decide) rfl (fun ls hl => ?_)
          refine lv_goto (tgt := 5) hx hb d_Dk_findPossible_49 (by decide) ?_
          exact ih_5 bf (i + 1) ls (by omega) (by rw [pl_succ, if_neg (by rw [c_b]; decide), List.append_nil]; exact hp9) (hle) (by omega) (lv_sub hl [2, 3, 4, 5, 0] rfl)
        · refine lv_iload_n hx hb d_Dk_findPossible_35 rfl (lv_at hl 4 rfl) ?_
          refine lv_iload_n hx hb d_Dk_findPossible_36 rfl (lv_at hl 3 rfl) ?_
          refine n_icmp_ne (tgt := 43) hx hb d_Dk_findPossible_37 (by decide) (by omega) (by omega) (fun c_c => ?_) (fun c_c => ?_)
          · refine lv_iinc (v := (nI (bf + 1))) (lv' := [(3, .int (nI (bf + 1))), (5, .int (nI (q * 6 + i))), (0, .ref a_dk), (1, .int (nI q)), (2, .int (nI n9)), (4, .int (nI i))]) hx hb d_Dk_findPossible_43 hl (k := 4) rfl (nI_add bf 1) (by decide) rfl (fun ls hl => ?_)
            refine lv_iinc (v := (nI (i + 1))) (lv' := [(4, .int (nI (i + 1))), (3, .int (nI (bf + 1))), (5, .int (nI (q * 6 + i))), (0, .ref a_dk), (1, .int (nI q)), (2, .int (nI n9))]) hx hb d_Dk_findPossible_46 hl (k := 5) rfl (nI_add i 1) (by decide) rfl (fun ls hl => ?_)
            refine lv_goto (tgt := 5) hx hb d_Dk_findPossible_49 (by decide) ?_
            exact ih_5 (bf + 1) (i + 1) ls (by omega) (by rw [pl_succ, if_pos c_b, List.length_append, ← hp9]; rfl) (by omega) (by omega) (lv_sub hl [3, 4, 5, 1, 0] rfl)
          · refine lv_iload hx hb d_Dk_findPossible_40 (lv_at hl 0 rfl) ?_
            exact k_ri hx hb hr hlocks (congrArg nI (by have h9 : (m_pl shut room L cs line q).getD n9 0 = i := pl_get (by omega) c_b (c_c ▸ hp9); rw [h9])) d_Dk_findPossible_42
  exact loop_5 (((cs q).length - 0) + 1) 0 0 ls (Nat.zero_le _) (rfl) (Nat.zero_le _) (Nat.lt_succ_self _) (lv_sub hl [2, 3, 4, 1, 0] rfl)
