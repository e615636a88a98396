section MPB
variable {shut : Nat → Bool} {room : Nat → Nat} {L : Nat → List Int32} {cs : Nat → List Kase} {line : List Nat} {x w : Nat} {v : Int32} {z : Nat × Nat}
theorem mp_len (h : m_poss shut room L cs line (x, 0, v) = true) (hs : shut x = false) (hz : (wl cs line x 1)[0]? = none) : (L x).length < room x := by
  simp only [m_poss, hs, hz, if_true, Option.isSome_none, Bool.or_false, Bool.false_or] at h
  exact of_decide_eq_true h
theorem mp_shut (h : m_poss shut room L cs line (x, 1, v) = true) (hl : L x = []) (hz : (wl cs line x 0)[0]? = none) : shut x = true := by
  have e : decide (0 < (L x).length) = false := by rw [hl]; rfl
  simp only [m_poss, hz, if_neg (show ¬ (1 = 0) by decide), e, Option.isSome_none, Bool.or_false] at h
  exact h
end MPB
section MTS
variable {σ : Sg} {q x : Nat} {v v' : Int32}
theorem tsend_ne2 (hp : m_poss (gShut σ) (gRoom σ) (gL σ) (gCs σ) (gLine σ) (x, 0, v') = true) : ¬ (m_tsend σ q x v).2 = 2 := by
  intro e
  cases hs : gShut σ x with
  | true => rw [m_tsend_1 hs] at e; cases e
  | false =>
    cases hz : (wl (gCs σ) (gLine σ) x 1)[0]? with
    | some z => rw [m_tsend_2 hs hz] at e; cases e
    | none => rw [m_tsend_3 hs hz (mp_len hp hs hz)] at e; cases e
theorem tsend_eq2 (hp : m_poss (gShut σ) (gRoom σ) (gL σ) (gCs σ) (gLine σ) (x, 0, v') = false) : m_tsend σ q x v = (σ, 2) := by
  unfold m_poss at hp
  rw [Bool.or_eq_false_iff, if_pos rfl, Bool.or_eq_false_iff] at hp
  have hz : (wl (gCs σ) (gLine σ) x 1)[0]? = none := by
    cases h : (wl (gCs σ) (gLine σ) x 1)[0]? with
    | none => rfl
    | some z => have := hp.2.2; rw [h] at this; cases this
  exact m_tsend_4 hp.1 hz (of_decide_eq_false hp.2.1)
theorem trecv_ne2 (hp : m_poss (gShut σ) (gRoom σ) (gL σ) (gCs σ) (gLine σ) (x, 1, v') = true) : (m_trecv σ q x).2 = 1 := by
  cases hl : gL σ x with
  | cons a l =>
    cases hz : (wl (gCs σ) (gLine σ) x 0)[0]? with
    | some z => rw [m_trecv_1 hl hz]
    | none => rw [m_trecv_2 hl hz]
  | nil =>
    cases hz : (wl (gCs σ) (gLine σ) x 0)[0]? with
    | some z => rw [m_trecv_3 hl hz]
    | none => rw [m_trecv_4 hl hz (mp_shut hp hl hz)]
theorem trecv_eq2 (hp : m_poss (gShut σ) (gRoom σ) (gL σ) (gCs σ) (gLine σ) (x, 1, v') = false) : m_trecv σ q x = (σ, 2) := by
  unfold m_poss at hp
  rw [Bool.or_eq_false_iff, if_neg (show ¬ ((1 : Nat) = 0) by decide), Bool.or_eq_false_iff] at hp
  have hl : gL σ x = [] := List.eq_nil_of_length_eq_zero (Nat.eq_zero_of_not_pos (of_decide_eq_false hp.2.1))
  have hz : (wl (gCs σ) (gLine σ) x 0)[0]? = none := by
    cases h : (wl (gCs σ) (gLine σ) x 0)[0]? with
    | none => rfl
    | some z => have := hp.2.2; rw [h] at this; cases this
  exact m_trecv_5 hl hz hp.1
end MTS
theorem addC_nil {cs : Nat → List Kase} {q : Nat} {k : Kase} (h : cs q = []) : addC cs q k = va_up cs q [k] := by
  unfold addC
  rw [h]
  rfl
theorem rdyB_eq {kst st : Nat → Nat} {kgot rc : Nat → Int32} {ksent : Nat → Bool} {sn : Nat → Nat} {kdone cd : Nat → Int32} (h : KS kst kgot ksent kdone st rc sn cd) (y : Int32) : rdyB kst y = rdyB st y := by
  unfold rdyB
  cases hb : hasB 16 y with
  | false => rfl
  | true =>
    obtain ⟨q, hq, rfl⟩ := hasB_of (by decide) hb
    rw [nI_clamp (by omega), (h q hq).1]
theorem KL.out {kst ksi : Nat → Nat} {kmo : Nat} {line : List Nat} (h : KL kst ksi kmo line) {q : Nat} (hq : kst q = 0 ∨ kst q = 4) : q ∉ line := fun z => by
  have := ((h.2.1 q).mp z).2
  omega
theorem not_way {kn r kst kpl : Nat} {kof : Int32} {kca : Nat} {kcc kcw : Nat → Nat} {kcv : Nat → Int32} {l : List Kase} {x i : Nat} (h : KR1 kn r kst kpl kof kca kcc kcw kcv l) (hs : kst = 1 ∨ kst = 2 ∨ kst = 3) (hf : fa l x 0 = some i) : kst = 1 ∨ kst = 3 := by
  rcases hs with e | e | e
  · exact Or.inl e
  · have := (h.2.2.2 e).1
    rw [this, fa_one] at hf
    split at hf
    · rename_i hk
      rcases kHit_way hk with z | z
      · cases z
      · cases z
    · cases hf
  · exact Or.inr e
theorem KS.gg {kst : Nat → Nat} {kgot : Nat → Int32} {ksent : Nat → Bool} {kdone : Nat → Int32} {st : Nat → Nat} {rc : Nat → Int32} {sn : Nat → Nat} {cd : Nat → Int32} {q : Nat} {u v : Int32} (h : KS kst (va_up kgot q v) ksent kdone st rc sn cd) : KS kst (va_up (va_up kgot q u) q v) ksent kdone st rc sn cd := by
  rw [bx_uu]; exact h
