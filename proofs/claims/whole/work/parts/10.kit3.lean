def wayB (y : Int32) : Bool := decide (y = 0 ∨ y = nI 1)
def rdyB (st : Nat → Nat) (y : Int32) : Bool := hasB 16 y && (decide (st y.toNatClampNeg = 0) || decide (st y.toNatClampNeg = 4))
theorem rdyB_t {st : Nat → Nat} {q : Nat} (hq : q < 16) (h : st q = 0 ∨ st q = 4) : nI 1 = bI (rdyB st (nI q)) := by
  have e : rdyB st (nI q) = true := by
    unfold rdyB
    rw [hasB_nI (by decide) hq, nI_clamp (by omega)]
    rcases h with h | h <;> simp [h]
  rw [e]; rfl
theorem rdyB_f {st : Nat → Nat} {q : Nat} (hq : q < 16) (h : ¬ st q = 0) (h2 : ¬ st q = 4) : nI 0 = bI (rdyB st (nI q)) := by
  have e : rdyB st (nI q) = false := by
    unfold rdyB
    rw [nI_clamp (by omega)]
    simp [h, h2]
  rw [e]; rfl
theorem rdyB_n {st : Nat → Nat} {y : Int32} (h : hasB 16 y = false) : nI 0 = bI (rdyB st y) := by
  have e : rdyB st y = false := by
    unfold rdyB
    rw [h]; rfl
  rw [e]; rfl
theorem rdyB_of {st : Nat → Nat} {y : Int32} (h : rdyB st y = true) : ∃ q, q < 16 ∧ y = nI q ∧ (st q = 0 ∨ st q = 4) := by
  unfold rdyB at h
  rw [Bool.and_eq_true, Bool.or_eq_true] at h
  obtain ⟨q, hq, rfl⟩ := hasB_of (by decide) h.1
  rw [nI_clamp (by omega)] at h
  exact ⟨q, hq, rfl, h.2.imp of_decide_eq_true of_decide_eq_true⟩
theorem wayB_of {y : Int32} (h : wayB y = true) : ∃ w, w < 2 ∧ y = nI w := by
  rcases of_decide_eq_true h with h | h
  · exact ⟨0, by decide, h.trans nI_0.symm⟩
  · exact ⟨1, by decide, h⟩
