theorem KS.sr {kst : Nat → Nat} {kgot : Nat → Int32} {ksent : Nat → Bool} {kdone : Nat → Int32} {st : Nat → Nat} {rc : Nat → Int32} {sn : Nat → Nat} {cd : Nat → Int32} {q u v : Nat} (h : KS kst kgot ksent kdone (va_up st q v) rc sn cd) : KS kst kgot ksent kdone (va_up (va_up st q u) q v) rc sn cd := by
  rw [bx_uu]; exact h
theorem wl_up {cs : Nat → List Kase} {line : List Nat} {q x w : Nat} {l : List Kase} (h : q ∉ line) : wl (va_up cs q l) line x w = wl cs line x w := by
  induction line with
  | nil => rfl
  | cons a t ih =>
    have ha : a ≠ q := fun e => h (by rw [e]; exact List.mem_cons_self)
    have ih := ih (fun z => h (List.mem_cons_of_mem _ z))
    unfold wl at ih ⊢
    rw [List.filterMap_cons, List.filterMap_cons, va_up_ne _ _ ha, ih]
theorem m_poss_up {shut : Nat → Bool} {room : Nat → Nat} {L : Nat → List Int32} {cs : Nat → List Kase} {line : List Nat} {q : Nat} {l : List Kase} {k : Kase} (h : q ∉ line) : m_poss shut room L (va_up cs q l) line k = m_poss shut room L cs line k := by
  unfold m_poss
  rw [wl_up h, wl_up h]
theorem KR_k {kn : Nat} {kst kpl : Nat → Nat} {kof : Nat → Int32} {kca kcc kcw : Nat → Nat} {kcv : Nat → Int32} {cs : Nat → List Kase} (h : KR kn kst kpl kof kca kcc kcw kcv cs) {q i : Nat} (hq : q < 16) (h1 : kst q ≠ 1) (h2 : kst q ≠ 2) (hi : i < (cs q).length) : ∃ x w v, kAt cs q i = (x, w, v) ∧ kcc (6 * q + i) = x ∧ kcw (6 * q + i) = w ∧ kcv (6 * q + i) = v ∧ x < kn ∧ w < 2 := by
  obtain ⟨-, -, h3⟩ := (h q hq).2.1 h1 h2
  obtain ⟨g1, g2, g3, g4, g5⟩ := h3 i hi
  refine ⟨_, _, _, ?_, g1, g2, g3, g4, g5⟩
  unfold kAt
  rw [List.getD_eq_getElem?_getD, List.getElem?_eq_getElem hi]
  rfl
section CH
variable {σ : Sg} {q k0 k x w : Nat} {v : Int32} {d : Bool}
theorem choose_r (h1 : rdyB (gSt σ) (nI q) = true) (hq : q < 16) (hk : k0 < 2 ^ 31) (h : 0 < (m_pl (gShut σ) (gRoom σ) (gL σ) (gCs σ) (gLine σ) q).length) (hg : (m_pl (gShut σ) (gRoom σ) (gL σ) (gCs σ) (gLine σ) q).getD (k0 % (m_pl (gShut σ) (gRoom σ) (gL σ) (gCs σ) (gLine σ) q).length) 0 = k) (hkA : kAt (gCs σ) q k = (x, w, v)) (hw : w = 1) (ho : (m_trecv (m_cd (m_mr σ q) q (nI k)) q x).2 = 1) : M_choose σ (nI q) (nI k0) d = ((m_trecv (m_cd (m_mr σ q) q (nI k)) q x).1, nI k) := by
  have hz := m_doC_2 (σ := σ) hkA (by omega) (σ' := (m_trecv (m_cd (m_mr σ q) q (nI k)) q x).1) (o := (m_trecv (m_cd (m_mr σ q) q (nI k)) q x).2) rfl
  rw [ho, if_neg (by decide)] at hz
  exact M_choose_1 h1 hq hk h (by rw [hg]; exact hz)
theorem choose_s (h1 : rdyB (gSt σ) (nI q) = true) (hq : q < 16) (hk : k0 < 2 ^ 31) (h : 0 < (m_pl (gShut σ) (gRoom σ) (gL σ) (gCs σ) (gLine σ) q).length) (hg : (m_pl (gShut σ) (gRoom σ) (gL σ) (gCs σ) (gLine σ) q).getD (k0 % (m_pl (gShut σ) (gRoom σ) (gL σ) (gCs σ) (gLine σ) q).length) 0 = k) (hkA : kAt (gCs σ) q k = (x, w, v)) (hw : w = 0) : M_choose σ (nI q) (nI k0) d = ((m_tsend (m_cd (m_mr σ q) q (nI k)) q x v).1, nI (if (m_tsend (m_cd (m_mr σ q) q (nI k)) q x v).2 = 3 then 12 else k)) := by
  have hz := m_doC_1 (σ := σ) hkA hw (σ' := (m_tsend (m_cd (m_mr σ q) q (nI k)) q x v).1) (o := (m_tsend (m_cd (m_mr σ q) q (nI k)) q x v).2) rfl
  exact M_choose_1 h1 hq hk h (by rw [hg]; exact hz)
theorem tsend_le3 : (m_tsend σ q x v).2 ≤ 3 := by
  unfold m_tsend
  split
  · exact Nat.le_of_ble_eq_true rfl
  · split
    · exact Nat.le_of_ble_eq_true rfl
    · split <;> exact Nat.le_of_ble_eq_true rfl
end CH
theorem outL_len {line : List Nat} {q : Nat} (hn : line.Nodup) (h : q ∈ line) : (outL line q).length + 1 ≤ line.length := by
  have h1 : (outL line q).length < line.length := by
    unfold outL
    refine Nat.lt_of_le_of_ne (List.length_filter_le _ _) (fun e => ?_)
    have := (List.length_filter_eq_length_iff.mp e) q h
    simp at this
  omega
theorem line_16 {kst ksi : Nat → Nat} {kmo : Nat} {line : List Nat} (h : KL kst ksi kmo line) : line.length ≤ 16 := by
  rw [← cntW_16 h]
  exact cntW_le
