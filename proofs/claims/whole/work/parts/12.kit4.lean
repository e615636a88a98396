theorem st_up {st : Nat → Nat} (h : ∀ j, j < 16 → st j < 5) (q : Nat) {v : Nat} (hv : v < 5) : ∀ j, j < 16 → va_up st q v j < 5 := by
  intro j hj
  by_cases e : j = q
  · subst e; rw [va_up_self]; exact hv
  · rw [va_up_ne _ _ e]; exact h j hj
theorem RelL_lt {len : Nat} {mem : Nat → Nat} {line : List Nat} (h : RelL len mem line) {q : Nat} (hq : q ∈ line) : q < 16 := by
  obtain ⟨i, hi, rfl⟩ := List.getElem_of_mem hq
  exact (h.2.2 i hi).2
theorem RelC_k {cnum cch cway : Nat → Nat} {cval : Nat → Int32} {cs : Nat → List Kase} (h : RelC cnum cch cway cval cs) {q i : Nat} (hq : q < 16) (hi : i < (cs q).length) : (kAt cs q i).1 < 40 ∧ (kAt cs q i).2.1 < 2 := by
  have := (h q hq).2.2 i hi
  unfold kAt
  rw [List.getD_eq_getElem?_getD, List.getElem?_eq_getElem hi]
  exact ⟨this.2.2.2.1, this.2.2.2.2⟩
theorem cons_of {L : List Int32} (h : 0 < L.length) : ∃ v vs, L = v :: vs := by
  cases L with
  | nil => simp at h
  | cons v vs => exact ⟨v, vs, rfl⟩
section MW
variable {σ σ' : Sg} {q x i w o : Nat} {v : Int32}
theorem m_wake_1 (h : (kAt (gCs σ) q i).2.1 = 0) : m_wake σ q i = m_flt (m_endw σ q i) q := by
  unfold m_wake; rw [if_pos h]
theorem m_wake_2 (h : ¬ (kAt (gCs σ) q i).2.1 = 0) : m_wake σ q i = m_hand (m_endw σ q i) q (nI 0) 0 := by
  unfold m_wake; rw [if_neg h]
theorem m_doC_1 (hk : kAt (gCs σ) q i = (x, w, v)) (hw : w = 0) (hz : m_tsend (m_cd (m_mr σ q) q (nI i)) q x v = (σ', o)) : m_doC σ q i = (σ', if o = 3 then 12 else i) := by
  unfold m_doC
  rw [hk]
  simp only [hw, if_true, hz]
theorem m_doC_2 (hk : kAt (gCs σ) q i = (x, w, v)) (hw : ¬ w = 0) (hz : m_trecv (m_cd (m_mr σ q) q (nI i)) q x = (σ', o)) : m_doC σ q i = (σ', if o = 3 then 12 else i) := by
  unfold m_doC
  rw [hk]
  simp only [if_neg hw, hz]
theorem tsend2 (h : m_tsend σ q x v = (σ', o)) (ho : o = 2) : σ' = σ := by
  subst ho
  unfold m_tsend at h
  split at h
  · injection h with h1 h2; cases h2
  · split at h
    · injection h with h1 h2; cases h2
    · split at h
      · injection h with h1 h2; cases h2
      · injection h with h1 h2; exact h1.symm
theorem trecv2 (h : m_trecv σ q x = (σ', o)) (ho : o = 2) : σ' = σ := by
  subst ho
  unfold m_trecv at h
  split at h
  · injection h with h1 h2; cases h2
  · split at h
    · injection h with h1 h2; cases h2
    · split at h
      · injection h with h1 h2; cases h2
      · injection h with h1 h2; exact h1.symm
end MW
section MP
variable {shut : Nat → Bool} {room : Nat → Nat} {L : Nat → List Int32} {cs : Nat → List Kase} {line : List Nat} {x w : Nat} {v : Int32} {z : Nat × Nat}
theorem mp_1 (h : shut x = true) : nI 1 = bI (m_poss shut room L cs line (x, w, v)) := by simp only [m_poss, h, Bool.true_or]; rfl
theorem mp_2 (hw : w = 0) (h : decide ((L x).length < room x) = true) : nI 1 = bI (m_poss shut room L cs line (x, w, v)) := by simp only [m_poss, hw, if_true, h, Bool.true_or, Bool.or_true]; rfl
theorem mp_3 (hw : w = 0) (h : (wl cs line x 1)[0]? = some z) : nI 1 = bI (m_poss shut room L cs line (x, w, v)) := by simp only [m_poss, hw, if_true, h, Option.isSome_some, Bool.or_true]; rfl
theorem mp_4 (hs : shut x = false) (hw : w = 0) (h : decide ((L x).length < room x) = false) (h2 : (wl cs line x 1)[0]? = none) : nI 0 = bI (m_poss shut room L cs line (x, w, v)) := by simp only [m_poss, hs, hw, if_true, h, h2, Option.isSome_none, Bool.or_false]; rfl
theorem mp_5 (hw : ¬ w = 0) (h : 0 < (L x).length) : nI 1 = bI (m_poss shut room L cs line (x, w, v)) := by simp only [m_poss, if_neg hw, decide_eq_true h, Bool.true_or, Bool.or_true]; rfl
theorem mp_6 (hw : ¬ w = 0) (h : (wl cs line x 0)[0]? = some z) : nI 1 = bI (m_poss shut room L cs line (x, w, v)) := by simp only [m_poss, if_neg hw, h, Option.isSome_some, Bool.or_true]; rfl
theorem mp_7 (hs : shut x = false) (hw : ¬ w = 0) (h : (L x).length = 0) (h2 : (wl cs line x 0)[0]? = none) : nI 0 = bI (m_poss shut room L cs line (x, w, v)) := by simp only [m_poss, hs, if_neg hw, h, h2, Option.isSome_none, Bool.or_false]; rfl
end MP
theorem pl_get {P : Nat → Bool} {N i n : Nat} (hi : i < N) (hP : P i = true) (hn : n = ((List.range i).filter P).length) : ((List.range N).filter P).getD n 0 = i := by
  obtain ⟨t, ht⟩ := pl_split (P := P) hi
  rw [ht, if_pos hP, hn, List.getD_eq_getElem?_getD, List.getElem?_append_right (Nat.le_refl _)]
  simp
