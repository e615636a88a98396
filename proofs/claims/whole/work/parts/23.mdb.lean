set_option maxHeartbeats 4000000 in
set_option maxRecDepth 100000 in
theorem c_Md_waiter0 (l : Launch) (G : va_G) (cI cZ cJ : ClassId) (a_md : Nat) (a_mrm : Nat) (a_mcl : Nat) (a_mmn : Nat) (a_mvl : Nat) (a_mst : Nat) (a_msi : Nat) (a_mpl : Nat) (a_mof : Nat) (a_mgt : Nat) (a_msn : Nat) (a_mdn : Nat) (a_mca : Nat) (a_mcc : Nat) (a_mcw : Nat) (a_mcv : Nat) (kn : Nat) (kmo : Nat) (kmt : Int32) (kft : Int32) (kst : Nat → Nat) (ksi : Nat → Nat) (kpl : Nat → Nat) (kca : Nat → Nat) (kcc : Nat → Nat) (kcw : Nat → Nat) (kof : Nat → Int32) (kcv : Nat → Int32) (cs : Nat → List Kase) (line : List Nat) (x : Nat) (w : Nat) (y : Int32) (hx1 : x < 40) (hn : kn ≤ 40) (hw1 : w < 2) (hR : KR kn kst kpl kof kca kcc kcw kcv cs) (hKL : KL kst ksi kmo line) : Met l y_Md_waiter (w_Md_waiter) ({ frames := 2, cells := 0, slots := 0, locals := 48 }) (va_Pc [.ref a_md, .int (nI x), .int (nI w), .int y] (kR G vwCl [(cI, .int), (cZ, .boolean), (cJ, .long)] [(a_md, .inr (4, [.int (nI kn), .ref a_mrm, .ref a_mcl, .ref a_mmn, .ref a_mvl, .ref a_mst, .ref a_msi, .ref a_mpl, .ref a_mof, .ref a_mgt, .ref a_msn, .ref a_mdn, .ref a_mca, .ref a_mcc, .ref a_mcw, .ref a_mcv, .long (lN kmo), .int kmt, .int kft])), (a_mst, .inl (cI, 16, .inl (fun j => nI (kst j)))), (a_msi, .inl (cJ, 16, .inr (.inl (fun j => lN (ksi j))))), (a_mpl, .inl (cI, 16, .inl (fun j => nI (kpl j)))), (a_mca, .inl (cI, 16, .inl (fun j => nI (kca j)))), (a_mcc, .inl (cI, 96, .inl (fun j => nI (kcc j)))), (a_mcw, .inl (cI, 96, .inl (fun j => nI (kcw j))))])) (QcRead ((wlR (wlAt (wl cs line x w) y)))) 0 0 (fun _ => False) := by
  refine Met.ofW (cc := b_Md_waiter) (maxL := 7) (ret := (some .int)) (by decide) rfl ?_
  intro p e s m args below meth c s₁ B hml hv
  obtain ⟨rfl, hP, hK⟩ := hv
  have hx := B.exec
  have hb := B.bytes
  have hr := B.returns
  have hts : ∀ w ∈ TT, w.before _ s = true := fun w h => atoms_spec (ws := (w_Md_waiter)) B.pre w (List.mem_cons_of_mem _ h)
  have hown : s.vm.findClass R_Md = some m.cls := findClass_of_methodNamed B.named
  have hlocks := B.notSynchronized
  have hP : va_P G vwCl [(a_md, .inr (4, [.int (nI kn), .ref a_mrm, .ref a_mcl, .ref a_mmn, .ref a_mvl, .ref a_mst, .ref a_msi, .ref a_mpl, .ref a_mof, .ref a_mgt, .ref a_msn, .ref a_mdn, .ref a_mca, .ref a_mcc, .ref a_mcw, .ref a_mcv, .long (lN kmo), .int kmt, .int kft])), (a_mst, .inl (cI, 16, .inl (fun j => nI (kst j)))), (a_msi, .inl (cJ, 16, .inr (.inl (fun j => lN (ksi j))))), (a_mpl, .inl (cI, 16, .inl (fun j => nI (kpl j)))), (a_mca, .inl (cI, 16, .inl (fun j => nI (kca j)))), (a_mcc, .inl (cI, 96, .inl (fun j => nI (kcc j)))), (a_mcw, .inl (cI, 96, .inl (fun j => nI (kcw j))))] s.heap := hP
  have hl := lv_entry ([.ref a_md, .int (nI x), .int (nI w), .int y]) (n := 7) (Nat.le_of_ble_eq_true rfl)
  rw [lg_entry_eq]
  generalize (lg_sl ([.ref a_md, .int (nI x), .int (nI w), .int y]) ++ List.replicate (7 - (lg_sl ([.ref a_md, .int (nI x), .int (nI w), .int y])).length) Slot.unset).toArray = ls at hl ⊢
  have hl : lv_has ls 7 [(0, .ref a_md), (1, .int (nI x)), (2, .int (nI w)), (3, .int y)] := hl
  refine lv_iconst (v := (nI 0)) hx hb d_Md_waiter_0 (by decide +kernel) ?_
  refine lv_istore (lv' := [(4, .int (nI 0)), (0, .ref a_md), (1, .int (nI x)), (2, .int (nI w)), (3, .int y)]) hx hb d_Md_waiter_1 hl (by decide) rfl (fun ls hl => ?_)
  have loop_3 : ∀ (k : Nat) (r9 : Nat) (ls : Array Slot), r9 ≤ 16 → (∀ j, j < r9 → j < 16 → wtB kst cs x w j = true → ¬ nI (ahd kst ksi cs x w j 16) = y) → 16 - r9 < k → lv_has ls 7 [(0, .ref a_md), (1, .int (nI x)), (2, .int (nI w)), (3, .int y), (4, .int (nI r9))] → W p l e (headSpec (w_Md_waiter) ({ frames := 2, cells := 0, slots := 0, locals := 48 })).room s m (List.toArray [.ref a_md, .int (nI x), .int (nI w), .int y]) below meth c s.heap [] 0 0 (MQ below (QcRead ((wlR (wlAt (wl cs line x w) y)))) (List.toArray [.ref a_md, .int (nI x), .int (nI w), .int y]) s 0 0 (fun _ => False)) (F0 m 3 ls []) := by
    intro k
    induction k with
    | zero => intro r9 ls hr9 hno hk; exact absurd hk (Nat.not_lt_zero _)
    | succ k ih_3 =>
      intro r9 ls hr9 hno hk hl
      refine lv_iload hx hb d_Md_waiter_3 (lv_at hl 4 rfl) ?_
      refine lv_bipush (v := (nI 16)) hx hb d_Md_waiter_5 (by decide +kernel) ?_
      refine n_icmp_ge (tgt := 98) hx hb d_Md_waiter_7 (by decide) (by omega) (by decide) (fun c_a => ?_) (fun c_a => ?_)
      · refine lv_iconst (v := (-1)) hx hb d_Md_waiter_98 (by decide +kernel) ?_
        exact k_ri hx hb hr hlocks (by rw [wl_none hKL (fun j h16 hw9 => hno j (by omega) h16 hw9)]; rfl) d_Md_waiter_99
      · refine lv_aload_n hx hb d_Md_waiter_10 rfl (lv_at hl 0 rfl) ?_
        refine lv_iload hx hb d_Md_waiter_11 (lv_at hl 4 rfl) ?_
        refine lv_iload_n hx hb d_Md_waiter_13 rfl (lv_at hl 1 rfl) ?_
        refine lv_iload_n hx hb d_Md_waiter_14 rfl (lv_at hl 2 rfl) ?_
        refine k_ro (va_runV (As := [.int (nI r9), .int (nI x), .int (nI w)]) (rest := []) ⟨hx, hb, hml, hown, hts⟩ (c_Md_waitsAt0 l G cI cZ cJ a_md a_mrm a_mcl a_mmn a_mvl a_mst a_msi a_mpl a_mof a_mgt a_msn a_mdn a_mca a_mcc a_mcw a_mcv kn kmo kmt kft kst kpl kca kcc kcw kof kcv cs r9 x w (by omega) hx1 hn hw1 hR) (cwV 3 hts (gV t_402 t_403 t_22 t_37 t_404) rfl rfl rfl (by decide +kernel) ⟨Nat.le_of_ble_eq_true rfl, Nat.le_of_ble_eq_true rfl⟩) (kR_V (ci := 4) (q0 := 0) hK hP rfl rfl [0, 1, 3, 4, 5, 6] rfl) rfl rfl hl.1 rfl (lv_room (Nat.le_of_ble_eq_true rfl)) d_Md_waiter_15 ⟨Nat.le_of_ble_eq_true rfl, Nat.le_of_ble_eq_true rfl⟩) ?_
        refine b_if_ne (tgt := 24) hx hb d_Md_waiter_18 (by decide) (fun c_b => ?_) (fun c_b => ?_)
        · refine lv_iconst (v := (nI 0)) hx hb d_Md_waiter_24 (by decide +kernel) ?_
          refine lv_istore (lv' := [(5, .int (nI 0)), (0, .ref a_md), (1, .int (nI x)), (2, .int (nI w)), (3, .int y), (4, .int (nI r9))]) hx hb d_Md_waiter_25 hl (by decide) rfl (fun ls hl => ?_)
          refine lv_iconst (v := (nI 0)) hx hb d_Md_waiter_27 (by decide +kernel) ?_
          refine lv_istore (lv' := [(6, .int (nI 0)), (5, .int (nI 0)), (0, .ref a_md), (1, .int (nI x)), (2, .int (nI w)), (3, .int y), (4, .int (nI r9))]) hx hb d_Md_waiter_28 hl (by decide) rfl (fun ls hl => ?_)
          have loop_30 : ∀ (k : Nat) (ah : Nat) (j9 : Nat) (ls : Array Slot), j9 ≤ 16 → ah = ahd kst ksi cs x w r9 j9 → 16 - j9 < k → lv_has ls 7 [(0, .ref a_md), (1, .int (nI x)), (2, .int (nI w)), (3, .int y), (4, .int (nI r9)), (5, .int (nI ah)), (6, .int (nI j9))] → W p l e (headSpec (w_Md_waiter) ({ frames := 2, cells := 0, slots := 0, locals := 48 })).room s m (List.toArray [.ref a_md, .int (nI x), .int (nI w), .int y]) below meth c s.heap [] 0 0 (MQ below (QcRead ((wlR (wlAt (wl cs line x w) y)))) (List.toArray [.ref a_md, .int (nI x), .int (nI w), .int y]) s 0 0 (fun _ => False)) (F0 m 30 ls []) := by
            intro k
            induction k with
            | zero => intro ah j9 ls hj16 hj9 hk; exact absurd hk (Nat.not_lt_zero _)
            | succ k ih_30 =>
              intro ah j9 ls hj16 hj9 hk hl
              have hahl : ah ≤ 16 := by rw [hj9]; exact Nat.le_trans ahd_le hj16
              refine lv_iload hx hb d_Md_waiter_30 (lv_at hl 6 rfl) ?_
              refine lv_bipush (v := (nI 16)) hx hb d_Md_waiter_32 (by decide +kernel) ?_
              refine n_icmp_ge (tgt := 83) hx hb d_Md_waiter_34 (by decide) (by omega) (by decide) (fun c_c => ?_) (fun c_c => ?_)
              · refine lv_iload hx hb d_Md_waiter_83 (lv_at hl 5 rfl) ?_
                refine lv_iload_n hx hb d_Md_waiter_85 rfl (lv_at hl 3 rfl) ?_
                refine lv_icmp_ne (tgt := 92) hx hb d_Md_waiter_86 (by decide) (fun c_f => ?_) (fun c_f => ?_)
                · refine lv_iinc (v := (nI (r9 + 1))) (lv' := [(4, .int (nI (r9 + 1))), (0, .ref a_md), (1, .int (nI x)), (2, .int (nI w)), (3, .int y), (5, .int (nI ah)), (6, .int (nI j9))]) hx hb d_Md_waiter_92 hl (k := 4) rfl (nI_add r9 1) (by decide) rfl (fun ls hl => ?_)
                  refine lv_goto (tgt := 3) hx hb d_Md_waiter_95 (by decide) ?_
                  exact ih_3 (r9 + 1) ls (by omega) (fun j hj h16 hw9 => if h9 : j < r9 then hno j h9 h16 hw9 else by rw [show j = r9 by omega]; rw [show j9 = 16 by omega] at hj9; rw [← hj9]; exact c_f) (by omega) (lv_sub hl [1, 2, 3, 4, 0] rfl)
                · refine lv_iload hx hb d_Md_waiter_89 (lv_at hl 4 rfl) ?_
                  exact k_ri hx hb hr hlocks (by have hst9 := (wtB_t c_b).1; obtain ⟨i9, hi9⟩ := (wtB_t c_b).2; have hm9 := (hKL.2.1 r9).mpr ⟨by omega, hst9⟩; rw [← c_f, wlAt_nI (by omega), hj9, show j9 = 16 by omega, wl_ahd hKL hm9 hi9]; rfl) d_Md_waiter_91
              · refine lv_aload_n hx hb d_Md_waiter_37 rfl (lv_at hl 0 rfl) ?_
                refine lv_iload hx hb d_Md_waiter_38 (lv_at hl 6 rfl) ?_
                refine lv_iload_n hx hb d_Md_waiter_40 rfl (lv_at hl 1 rfl) ?_
                refine lv_iload_n hx hb d_Md_waiter_41 rfl (lv_at hl 2 rfl) ?_
                refine k_ro (va_runV (As := [.int (nI j9), .int (nI x), .int (nI w)]) (rest := []) ⟨hx, hb, hml, hown, hts⟩ (c_Md_waitsAt0 l G cI cZ cJ a_md a_mrm a_mcl a_mmn a_mvl a_mst a_msi a_mpl a_mof a_mgt a_msn a_mdn a_mca a_mcc a_mcw a_mcv kn kmo kmt kft kst kpl kca kcc kcw kof kcv cs j9 x w (by omega) hx1 hn hw1 hR) (cwV 3 hts (gV t_402 t_403 t_22 t_37 t_404) rfl rfl rfl (by decide +kernel) ⟨Nat.le_of_ble_eq_true rfl, Nat.le_of_ble_eq_true rfl⟩) (kR_V (ci := 4) (q0 := 0) hK hP rfl rfl [0, 1, 3, 4, 5, 6] rfl) rfl rfl hl.1 rfl (lv_room (Nat.le_of_ble_eq_true rfl)) d_Md_waiter_42 ⟨Nat.le_of_ble_eq_true rfl, Nat.le_of_ble_eq_true rfl⟩) ?_
                refine b_if_eq (tgt := 73) hx hb d_Md_waiter_45 (by decide) (fun c_d => ?_) (fun c_d => ?_)
                · refine lv_iload hx hb d_Md_waiter_73 (lv_at hl 5 rfl) ?_
                  refine lv_istore (lv' := [(5, .int (nI ah)), (0, .ref a_md), (1, .int (nI x)), (2, .int (nI w)), (3, .int y), (4, .int (nI r9)), (6, .int (nI j9))]) hx hb d_Md_waiter_75 hl (by decide) rfl (fun ls hl => ?_)
                  refine lv_iinc (v := (nI (j9 + 1))) (lv' := [(6, .int (nI (j9 + 1))), (5, .int (nI ah)), (0, .ref a_md), (1, .int (nI x)), (2, .int (nI w)), (3, .int y), (4, .int (nI r9))]) hx hb d_Md_waiter_77 hl (k := 6) rfl (nI_add j9 1) (by decide) rfl (fun ls hl => ?_)
                  refine lv_goto (tgt := 30) hx hb d_Md_waiter_80 (by decide) ?_
                  exact ih_30 ah (j9 + 1) ls (by omega) (by rw [ahd_succ, if_neg (by rw [c_d]; simp), ← hj9, Nat.add_zero]) (by omega) (lv_sub hl [2, 3, 4, 5, 6, 1, 0] rfl)
                · have hsj : ksi j9 < 2 ^ 31 := by have h9 := hKL.2.2.2.1 j9 ((hKL.2.1 j9).mpr ⟨by omega, (wtB_t c_d).1⟩); have := hKL.2.2.2.2; omega
                  have hsr : ksi r9 < 2 ^ 31 := by have h9 := hKL.2.2.2.1 r9 ((hKL.2.1 r9).mpr ⟨by omega, (wtB_t c_b).1⟩); have := hKL.2.2.2.2; omega
                  refine lv_aload_n hx hb d_Md_waiter_48 rfl (lv_at hl 0 rfl) ?_
                  refine va_get (D := G) (ci := 4) (v := .ref a_msi) (C := R_Md) (T := T_Md) (N := 19) hx hb hts uw_Md hown hK hP 0 rfl rfl 6 (by decide) (hts _ t_343) (fun _ h9 => h9) rfl d_Md_waiter_49 ?_
                  refine lv_iload hx hb d_Md_waiter_52 (lv_at hl 6 rfl) ?_
                  refine k_lald hx hb hK hP 2 2 rfl rfl (by omega) (by decide) d_Md_waiter_54 ?_
                  refine lv_aload_n hx hb d_Md_waiter_55 rfl (lv_at hl 0 rfl) ?_
                  refine va_get (D := G) (ci := 4) (v := .ref a_msi) (C := R_Md) (T := T_Md) (N := 19) hx hb hts uw_Md hown hK hP 0 rfl rfl 6 (by decide) (hts _ t_343) (fun _ h9 => h9) rfl d_Md_waiter_56 ?_
                  refine lv_iload hx hb d_Md_waiter_59 (lv_at hl 4 rfl) ?_
                  refine k_lald hx hb hK hP 2 2 rfl rfl (by omega) (by decide) d_Md_waiter_61 ?_
                  refine k_lcmpge (tgt := 73) hx hb d_Md_waiter_62 d_Md_waiter_63 (by decide) (by omega) (by omega) (fun c_e => ?_) (fun c_e => ?_)
                  · refine lv_iload hx hb d_Md_waiter_73 (lv_at hl 5 rfl) ?_
                    refine lv_istore (lv' := [(5, .int (nI ah)), (0, .ref a_md), (1, .int (nI x)), (2, .int (nI w)), (3, .int y), (4, .int (nI r9)), (6, .int (nI j9))]) hx hb d_Md_waiter_75 hl (by decide) rfl (fun ls hl => ?_)
                    refine lv_iinc (v := (nI (j9 + 1))) (lv' := [(6, .int (nI (j9 + 1))), (5, .int (nI ah)), (0, .ref a_md), (1, .int (nI x)), (2, .int (nI w)), (3, .int y), (4, .int (nI r9))]) hx hb d_Md_waiter_77 hl (k := 6) rfl (nI_add j9 1) (by decide) rfl (fun ls hl => ?_)
                    refine lv_goto (tgt := 30) hx hb d_Md_waiter_80 (by decide) ?_
                    exact ih_30 ah (j9 + 1) ls (by omega) (by rw [ahd_succ, if_neg (by rw [c_d, decide_eq_false (Nat.not_lt.mpr c_e)]; decide), ← hj9, Nat.add_zero]) (by omega) (lv_sub hl [2, 3, 4, 5, 6, 1, 0] rfl)
                  · refine lv_iload hx hb d_Md_waiter_66 (lv_at hl 5 rfl) ?_
                    refine lv_iconst (v := (nI 1)) hx hb d_Md_waiter_68 (by decide +kernel) ?_
                    refine lv_iadd hx hb d_Md_waiter_69 ?_
                    refine k_top (y := (nI (ah + 1))) (nI_add ah 1) ?_
                    refine lv_goto (tgt := 75) hx hb d_Md_waiter_70 (by decide) ?_
                    refine lv_istore (lv' := [(5, .int (nI (ah + 1))), (0, .ref a_md), (1, .int (nI x)), (2, .int (nI w)), (3, .int y), (4, .int (nI r9)), (6, .int (nI j9))]) hx hb d_Md_waiter_75 hl (by decide) rfl (fun ls hl => ?_)
                    refine lv_iinc (v := (nI (j9 + 1))) (lv' := [(6, .int (nI (j9 + 1))), (5, .int (nI (ah + 1))), (0, .ref a_md), (1, .int (nI x)), (2, .int (nI w)), (3, .int y), (4, .int (nI r9))]) hx hb d_Md_waiter_77 hl (k := 6) rfl (nI_add j9 1) (by decide) rfl (fun ls hl => ?_)
                    refine lv_goto (tgt := 30) hx hb d_Md_waiter_80 (by decide) ?_
                    exact ih_30 (ah + 1) (j9 + 1) ls (by omega) (by rw [ahd_succ, if_pos (by rw [c_d, decide_eq_true c_e]; decide), ← hj9]) (by omega) (lv_sub hl [2, 3, 4, 5, 6, 1, 0] rfl)
          exact loop_30 ((16 - 0) + 1) 0 0 ls (by decide) (rfl) (Nat.lt_succ_self _) (lv_sub hl [2, 3, 4, 5, 6, 1, 0] rfl)
        · refine lv_goto (tgt := 92) hx hb d_Md_waiter_21 (by decide) ?_
          refine lv_iinc (v := (nI (r9 + 1))) (lv' := [(4, .int (nI (r9 + 1))), (0, .ref a_md), (1, .int (nI x)), (2, .int (nI w)), (3, .int y)]) hx hb d_Md_waiter_92 hl (k := 4) rfl (nI_add r9 1) (by decide) rfl (fun ls hl => ?_)
          refine lv_goto (tgt := 3) hx hb d_Md_waiter_95 (by decide) ?_
          exact ih_3 (r9 + 1) ls (by omega) (fun j hj h16 hw9 => if h9 : j < r9 then hno j h9 h16 hw9 else by rw [show j = r9 by omega, c_b] at hw9; cases hw9) (by omega) (lv_sub hl [1, 2, 3, 4, 0] rfl)
  exact loop_3 ((16 - 0) + 1) 0 ls (by decide) (fun j hj => absurd hj (Nat.not_lt_zero j)) (Nat.lt_succ_self _) (lv_sub hl [1, 2, 3, 4, 0] rfl)
set_option maxHeartbeats 4000000 in
set_option maxRecDepth 100000 in
theorem c_Md_waiterE (l : Launch) (G : va_G) (cI cZ cJ : ClassId) (a_md : Nat) (a_mrm : Nat) (a_mcl : Nat) (a_mmn : Nat) (a_mvl : Nat) (a_mst : Nat) (a_msi : Nat) (a_mpl : Nat) (a_mof : Nat) (a_mgt : Nat) (a_msn : Nat) (a_mdn : Nat) (a_mca : Nat) (a_mcc : Nat) (a_mcw : Nat) (a_mcv : Nat) (kn : Nat) (kmo : Nat) (kmt : Int32) (kft : Int32) (kst : Nat → Nat) (ksi : Nat → Nat) (kpl : Nat → Nat) (kca : Nat → Nat) (kcc : Nat → Nat) (kcw : Nat → Nat) (kof : Nat → Int32) (kcv : Nat → Int32) (cs : Nat → List Kase) (line : List Nat) (x : Nat) (y : Int32) (hx1 : x < 40) (hn : kn ≤ 40) (hR : KR kn kst kpl kof kca kcc kcw kcv cs) (hKL : KL kst ksi kmo line) : Met l y_Md_waiter (w_Md_waiter) ({ frames := 2, cells := 0, slots := 0, locals := 48 }) (va_Pc [.ref a_md, .int (nI x), .int (-1), .int y] (kR G vwCl [(cI, .int), (cZ, .boolean), (cJ, .long)] [(a_md, .inr (4, [.int (nI kn), .ref a_mrm, .ref a_mcl, .ref a_mmn, .ref a_mvl, .ref a_mst, .ref a_msi, .ref a_mpl, .ref a_mof, .ref a_mgt, .ref a_msn, .ref a_mdn, .ref a_mca, .ref a_mcc, .ref a_mcw, .ref a_mcv, .long (lN kmo), .int kmt, .int kft])), (a_mst, .inl (cI, 16, .inl (fun j => nI (kst j)))), (a_msi, .inl (cJ, 16, .inr (.inl (fun j => lN (ksi j))))), (a_mpl, .inl (cI, 16, .inl (fun j => nI (kpl j)))), (a_mca, .inl (cI, 16, .inl (fun j => nI (kca j)))), (a_mcc, .inl (cI, 96, .inl (fun j => nI (kcc j)))), (a_mcw, .inl (cI, 96, .inl (fun j => nI (kcw j))))])) (QcRead ((wlR (wlAt (wl cs line x 2) y)))) 0 0 (fun _ => False) := by
  refine Met.ofW (cc := b_Md_waiter) (maxL := 7) (ret := (some .int)) (by decide) rfl ?_
  intro p e s m args below meth c s₁ B hml hv
  obtain ⟨rfl, hP, hK⟩ := hv
  have hx := B.exec
  have hb := B.bytes
  have hr := B.returns
  have hts : ∀ w ∈ TT, w.before _ s = true := fun w h => atoms_spec (ws := (w_Md_waiter)) B.pre w (List.mem_cons_of_mem _ h)
  have hown : s.vm.findClass R_Md = some m.cls := findClass_of_methodNamed B.named
  have hlocks := B.notSynchronized
  have hP : va_P G vwCl [(a_md, .inr (4, [.int (nI kn), .ref a_mrm, .ref a_mcl, .ref a_mmn, .ref a_mvl, .ref a_mst, .ref a_msi, .ref a_mpl, .ref a_mof, .ref a_mgt, .ref a_msn, .ref a_mdn, .ref a_mca, .ref a_mcc, .ref a_mcw, .ref a_mcv, .long (lN kmo), .int kmt, .int kft])), (a_mst, .inl (cI, 16, .inl (fun j => nI (kst j)))), (a_msi, .inl (cJ, 16, .inr (.inl (fun j => lN (ksi j))))), (a_mpl, .inl (cI, 16, .inl (fun j => nI (kpl j)))), (a_mca, .inl (cI, 16, .inl (fun j => nI (kca j)))), (a_mcc, .inl (cI, 96, .inl (fun j => nI (kcc j)))), (a_mcw, .inl (cI, 96, .inl (fun j => nI (kcw j))))] s.heap := hP
  have hl := lv_entry ([.ref a_md, .int (nI x), .int (-1), .int y]) (n := 7) (Nat.le_of_ble_eq_true rfl)
  rw [lg_entry_eq]
  generalize (lg_sl ([.ref a_md, .int (nI x), .int (-1), .int y]) ++ List.replicate (7 - (lg_sl ([.ref a_md, .int (nI x), .int (-1), .int y])).length) Slot.unset).toArray = ls at hl ⊢
  have hl : lv_has ls 7 [(0, .ref a_md), (1, .int (nI x)), (2, .int (-1)), (3, .int y)] := hl
  refine lv_iconst (v := (nI 0)) hx hb d_Md_waiter_0 (by decide +kernel) ?_
  refine lv_istore (lv' := [(4, .int (nI 0)), (0, .ref a_md), (1, .int (nI x)), (2, .int (-1)), (3, .int y)]) hx hb d_Md_waiter_1 hl (by decide) rfl (fun ls hl => ?_)
  have loop_3 : ∀ (k : Nat) (r9 : Nat) (ls : Array Slot), r9 ≤ 16 → (∀ j, j < r9 → j < 16 → wtB kst cs x 2 j = true → ¬ nI (ahd kst ksi cs x 2 j 16) = y) → 16 - r9 < k → lv_has ls 7 [(0, .ref a_md), (1, .int (nI x)), (2, .int (-1)), (3, .int y), (4, .int (nI r9))] → W p l e (headSpec (w_Md_waiter) ({ frames := 2, cells := 0, slots := 0, locals := 48 })).room s m (List.toArray [.ref a_md, .int (nI x), .int (-1), .int y]) below meth c s.heap [] 0 0 (MQ below (QcRead ((wlR (wlAt (wl cs line x 2) y)))) (List.toArray [.ref a_md, .int (nI x), .int (-1), .int y]) s 0 0 (fun _ => False)) (F0 m 3 ls []) := by
    intro k
    induction k with
    | zero => intro r9 ls hr9 hno hk; exact absurd hk (Nat.not_lt_zero _)
    | succ k ih_3 =>
      intro r9 ls hr9 hno hk hl
      refine lv_iload hx hb d_Md_waiter_3 (lv_at hl 4 rfl) ?_
      refine lv_bipush (v := (nI 16)) hx hb d_Md_waiter_5 (by decide +kernel) ?_
      refine n_icmp_ge (tgt := 98) hx hb d_Md_waiter_7 (by decide) (by omega) (by decide) (fun c_a => ?_) (fun c_a => ?_)
      · refine lv_iconst (v := (-1)) hx hb d_Md_waiter_98 (by decide +kernel) ?_
        exact k_ri hx hb hr hlocks (by rw [wl_none hKL (fun j h16 hw9 => hno j (by omega) h16 hw9)]; rfl) d_Md_waiter_99
      · refine lv_aload_n hx hb d_Md_waiter_10 rfl (lv_at hl 0 rfl) ?_
        refine lv_iload hx hb d_Md_waiter_11 (lv_at hl 4 rfl) ?_
        refine lv_iload_n hx hb d_Md_waiter_13 rfl (lv_at hl 1 rfl) ?_
        refine lv_iload_n hx hb d_Md_waiter_14 rfl (lv_at hl 2 rfl) ?_
        refine k_ro (va_runV (As := [.int (nI r9), .int (nI x), .int (-1)]) (rest := []) ⟨hx, hb, hml, hown, hts⟩ (c_Md_waitsAtE l G cI cZ cJ a_md a_mrm a_mcl a_mmn a_mvl a_mst a_msi a_mpl a_mof a_mgt a_msn a_mdn a_mca a_mcc a_mcw a_mcv kn kmo kmt kft kst kpl kca kcc kcw kof kcv cs r9 x (by omega) hx1 hn hR) (cwV 3 hts (gV t_402 t_403 t_22 t_37 t_404) rfl rfl rfl (by decide +kernel) ⟨Nat.le_of_ble_eq_true rfl, Nat.le_of_ble_eq_true rfl⟩) (kR_V (ci := 4) (q0 := 0) hK hP rfl rfl [0, 1, 3, 4, 5, 6] rfl) rfl rfl hl.1 rfl (lv_room (Nat.le_of_ble_eq_true rfl)) d_Md_waiter_15 ⟨Nat.le_of_ble_eq_true rfl, Nat.le_of_ble_eq_true rfl⟩) ?_
        refine b_if_ne (tgt := 24) hx hb d_Md_waiter_18 (by decide) (fun c_b => ?_) (fun c_b => ?_)
        · refine lv_iconst (v := (nI 0)) hx hb d_Md_waiter_24 (by decide +kernel) ?_
          refine lv_istore (lv' := [(5, .int (nI 0)), (0, .ref a_md), (1, .int (nI x)), (2, .int (-1)), (3, .int y), (4, .int (nI r9))]) hx hb d_Md_waiter_25 hl (by decide) rfl (fun ls hl => ?_)
          refine lv_iconst (v := (nI 0)) hx hb d_Md_waiter_27 (by decide +kernel) ?_
          refine lv_istore (lv' := [(6, .int (nI 0)), (5, .int (nI 0)), (0, .ref a_md), (1, .int (nI x)), (2, .int (-1)), (3, .int y), (4, .int (nI r9))]) hx hb d_Md_waiter_28 hl (by decide) rfl (fun ls hl => ?_)
          have loop_30 : ∀ (k : Nat) (ah : Nat) (j9 : Nat) (ls : Array Slot), j9 ≤ 16 → ah = ahd kst ksi cs x 2 r9 j9 → 16 - j9 < k → lv_has ls 7 [(0, .ref a_md), (1, .int (nI x)), (2, .int (-1)), (3, .int y), (4, .int (nI r9)), (5, .int (nI ah)), (6, .int (nI j9))] → W p l e (headSpec (w_Md_waiter) ({ frames := 2, cells := 0, slots := 0, locals := 48 })).room s m (List.toArray [.ref a_md, .int (nI x), .int (-1), .int y]) below meth c s.heap [] 0 0 (MQ below (QcRead ((wlR (wlAt (wl cs line x 2) y)))) (List.toArray [.ref a_md, .int (nI x), .int (-1), .int y]) s 0 0 (fun _ => False)) (F0 m 30 ls []) := by
            intro k
            induction k with
            | zero => intro ah j9 ls hj16 hj9 hk; exact absurd hk (Nat.not_lt_zero _)
            | succ k ih_30 =>
              intro ah j9 ls hj16 hj9 hk hl
              have hahl : ah ≤ 16 := by rw [hj9]; exact Nat.le_trans ahd_le hj16
              refine lv_iload hx hb d_Md_waiter_30 (lv_at hl 6 rfl) ?_
              refine lv_bipush (v := (nI 16)) hx hb d_Md_waiter_32 (by decide +kernel) ?_
              refine n_icmp_ge (tgt := 83) hx hb d_Md_waiter_34 (by decide) (by omega) (by decide) (fun c_c => ?_) (fun c_c => ?_)
              · refine lv_iload hx hb d_Md_waiter_83 (lv_at hl 5 rfl) ?_
                refine lv_iload_n hx hb d_Md_waiter_85 rfl (lv_at hl 3 rfl) ?_
                refine lv_icmp_ne (tgt := 92) hx hb d_Md_waiter_86 (by decide) (fun c_f => ?_) (fun c_f => ?_)
                · refine lv_iinc (v := (nI (r9 + 1))) (lv' := [(4, .int (nI (r9 + 1))), (0, .ref a_md), (1, .int (nI x)), (2, .int (-1)), (3, .int y), (5, .int (nI ah)), (6, .int (nI j9))]) hx hb d_Md_waiter_92 hl (k := 4) rfl (nI_add r9 1) (by decide) rfl (fun ls hl => ?_)
                  refine lv_goto (tgt := 3) hx hb d_Md_waiter_95 (by decide) ?_
                  exact ih_3 (r9 + 1) ls (by omega) (fun j hj h16 hw9 => if h9 : j < r9 then hno j h9 h16 hw9 else by rw [show j = r9 by omega]; rw [show j9 = 16 by omega] at hj9; rw [← hj9]; exact c_f) (by omega) (lv_sub hl [1, 2, 3, 4, 0] rfl)
                · refine lv_iload hx hb d_Md_waiter_89 (lv_at hl 4 rfl) ?_
                  exact k_ri hx hb hr hlocks (by have hst9 := (wtB_t c_b).1; obtain ⟨i9, hi9⟩ := (wtB_t c_b).2; have hm9 := (hKL.2.1 r9).mpr ⟨by omega, hst9⟩; rw [← c_f, wlAt_nI (by omega), hj9, show j9 = 16 by omega, wl_ahd hKL hm9 hi9]; rfl) d_Md_waiter_91
              · refine lv_aload_n hx hb d_Md_waiter_37 rfl (lv_at hl 0 rfl) ?_
                refine lv_iload hx hb d_Md_waiter_38 (lv_at hl 6 rfl) ?_
                refine lv_iload_n hx hb d_Md_waiter_40 rfl (lv_at hl 1 rfl) ?_
                refine lv_iload_n hx hb d_Md_waiter_41 rfl (lv_at hl 2 rfl) ?_
                refine k_ro (va_runV (As := [.int (nI j9), .int (nI x), .int (-1)]) (rest := []) ⟨hx, hb, hml, hown, hts⟩ (c_Md_waitsAtE l G cI cZ cJ a_md a_mrm a_mcl a_mmn a_mvl a_mst a_msi a_mpl a_mof a_mgt a_msn a_mdn a_mca a_mcc a_mcw a_mcv kn kmo kmt kft kst kpl kca kcc kcw kof kcv cs j9 x (by omega) hx1 hn hR) (cwV 3 hts (gV t_402 t_403 t_22 t_37 t_404) rfl rfl rfl (by decide +kernel) ⟨Nat.le_of_ble_eq_true rfl, Nat.le_of_ble_eq_true rfl⟩) (kR_V (ci := 4) (q0 := 0) hK hP rfl rfl [0, 1, 3, 4, 5, 6] rfl) rfl rfl hl.1 rfl (lv_room (Nat.le_of_ble_eq_true rfl)) d_Md_waiter_42 ⟨Nat.le_of_ble_eq_true rfl, Nat.le_of_ble_eq_true rfl⟩) ?_
                refine b_if_eq (tgt := 73) hx hb d_Md_waiter_45 (by decide) (fun c_d => ?_) (fun c_d => ?_)
                · refine lv_iload hx hb d_Md_waiter_73 (lv_at hl 5 rfl) ?_
                  refine lv_istore (lv' := [(5, .int (nI ah)), (0, .ref a_md), (1, .int (nI x)), (2, .int (-1)), (3, .int y), (4, .int (nI r9)), (6, .int (nI j9))]) hx hb d_Md_waiter_75 hl (by decide) rfl (fun ls hl => ?_)
                  refine lv_iinc (v := (nI (j9 + 1))) (lv' := [(6, .int (nI (j9 + 1))), (5, .int (nI ah)), (0, .ref a_md), (1, .int (nI x)), (2, .int (-1)), (3, .int y), (4, .int (nI r9))]) hx hb d_Md_waiter_77 hl (k := 6) rfl (nI_add j9 1) (by decide) rfl (fun ls hl => ?_)
                  refine lv_goto (tgt := 30) hx hb d_Md_waiter_80 (by decide) ?_
                  exact ih_30 ah (j9 + 1) ls (by omega) (by rw [ahd_succ, if_neg (by rw [c_d]; simp), ← hj9, Nat.add_zero]) (by omega) (lv_sub hl [2, 3, 4, 5, 6, 1, 0] rfl)
                · have hsj : ksi j9 < 2 ^ 31 := by have h9 := hKL.2.2.2.1 j9 ((hKL.2.1 j9).mpr ⟨by omega, (wtB_t c_d).1⟩); have := hKL.2.2.2.2; omega
                  have hsr : ksi r9 < 2 ^ 31 := by have h9 := hKL.2.2.2.1 r9 ((hKL.2.1 r9).mpr ⟨by omega, (wtB_t c_b).1⟩); have := hKL.2.2.2.2; omega
                  refine lv_aload_n hx hb d_Md_waiter_48 rfl (lv_at hl 0 rfl) ?_
                  refine va_get (D := G) (ci := 4) (v := .ref a_msi) (C := R_Md) (T := T_Md) (N := 19) hx hb hts uw_Md hown hK hP 0 rfl rfl 6 (by decide) (hts _ t_343) (fun _ h9 => h9) rfl d_Md_waiter_49 ?_
                  refine lv_iload hx hb d_Md_waiter_52 (lv_at hl 6 rfl) ?_
                  refine k_lald hx hb hK hP 2 2 rfl rfl (by omega) (by decide) d_Md_waiter_54 ?_
                  refine lv_aload_n hx hb d_Md_waiter_55 rfl (lv_at hl 0 rfl) ?_
                  refine va_get (D := G) (ci := 4) (v := .ref a_msi) (C := R_Md) (T := T_Md) (N := 19) hx hb hts uw_Md hown hK hP 0 rfl rfl 6 (by decide) (hts _ t_343) (fun _ h9 => h9) rfl d_Md_waiter_56 ?_
                  refine lv_iload hx hb d_Md_waiter_59 (lv_at hl 4 rfl) ?_
                  refine k_lald hx hb hK hP 2 2 rfl rfl (by omega) (by decide) d_Md_waiter_61 ?_
                  refine k_lcmpge (tgt := 73) hx hb d_Md_waiter_62 d_Md_waiter_63 (by decide) (by omega) (by omega) (fun c_e => ?_) (fun c_e => ?_)
                  · refine lv_iload hx hb d_Md_waiter_73 (lv_at hl 5 rfl) ?_
                    refine lv_istore (lv' := [(5, .int (nI ah)), (0, .ref a_md), (1, .int (nI x)), (2, .int (-1)), (3, .int y), (4, .int (nI r9)), (6, .int (nI j9))]) hx hb d_Md_waiter_75 hl (by decide) rfl (fun ls hl => ?_)
                    refine lv_iinc (v := (nI (j9 + 1))) (lv' := [(6, .int (nI (j9 + 1))), (5, .int (nI ah)), (0, .ref a_md), (1, .int (nI x)), (2, .int (-1)), (3, .int y), (4, .int (nI r9))]) hx hb d_Md_waiter_77 hl (k := 6) rfl (nI_add j9 1) (by decide) rfl (fun ls hl => ?_)
                    refine lv_goto (tgt := 30) hx hb d_Md_waiter_80 (by decide) ?_
                    exact ih_30 ah (j9 + 1) ls (by omega) (by rw [ahd_succ, if_neg (by rw [c_d, decide_eq_false (Nat.not_lt.mpr c_e)]; decide), ← hj9, Nat.add_zero]) (by omega) (lv_sub hl [2, 3, 4, 5, 6, 1, 0] rfl)
                  · refine lv_iload hx hb d_Md_waiter_66 (lv_at hl 5 rfl) ?_
                    refine lv_iconst (v := (nI 1)) hx hb d_Md_waiter_68 (by decide +kernel) ?_
                    refine lv_iadd hx hb d_Md_waiter_69 ?_
                    refine k_top (y := (nI (ah + 1))) (nI_add ah 1) ?_
                    refine lv_goto (tgt := 75) hx hb d_Md_waiter_70 (by decide) ?_
                    refine lv_istore (lv' := [(5, .int (nI (ah + 1))), (0, .ref a_md), (1, .int (nI x)), (2, .int (-1)), (3, .int y), (4, .int (nI r9)), (6, .int (nI j9))]) hx hb d_Md_waiter_75 hl (by decide) rfl (fun ls hl => ?_)
                    refine lv_iinc (v := (nI (j9 + 1))) (lv' := [(6, .int (nI (j9 + 1))), (5, .int (nI (ah + 1))), (0, .ref a_md), (1, .int (nI x)), (2, .int (-1)), (3, .int y), (4, .int (nI r9))]) hx hb d_Md_waiter_77 hl (k := 6) rfl (nI_add j9 1) (by decide) rfl (fun ls hl => ?_)
                    refine lv_goto (tgt := 30) hx hb d_Md_waiter_80 (by decide) ?_
                    exact ih_30 (ah + 1) (j9 + 1) ls (by omega) (by rw [ahd_succ, if_pos (by rw [c_d, decide_eq_true c_e]; decide), ← hj9]) (by omega) (lv_sub hl [2, 3, 4, 5, 6, 1, 0] rfl)
          exact loop_30 ((16 - 0) + 1) 0 0 ls (by decide) (rfl) (Nat.lt_succ_self _) (lv_sub hl [2, 3, 4, 5, 6, 1, 0] rfl)
        · refine lv_goto (tgt := 92) hx hb d_Md_waiter_21 (by decide) ?_
          refine lv_iinc (v := (nI (r9 + 1))) (lv' := [(4, .int (nI (r9 + 1))), (0, .ref a_md), (1, .int (nI x)), (2, .int (-1)), (3, .int y)]) hx hb d_Md_waiter_92 hl (k := 4) rfl (nI_add r9 1) (by decide) rfl (fun ls hl => ?_)
          refine lv_goto (tgt := 3) hx hb d_Md_waiter_95 (by decide) ?_
          exact ih_3 (r9 + 1) ls (by omega) (fun j hj h16 hw9 => if h9 : j < r9 then hno j h9 h16 hw9 else by rw [show j = r9 by omega, c_b] at hw9; cases hw9) (by omega) (lv_sub hl [1, 2, 3, 4, 0] rfl)
  exact loop_3 ((16 - 0) + 1) 0 ls (by decide) (fun j hj => absurd hj (Nat.not_lt_zero j)) (Nat.lt_succ_self _) (lv_sub hl [1, 2, 3, 4, 0] rfl)
