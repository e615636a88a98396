theorem neg_toInt {y : Int32} (h : y < 0) : y.toInt < 0 := by
  rw [Int32.lt_iff_toInt_lt, Int32.toInt_zero] at h
  exact h
section MC9
variable {n : Nat} {room : Nat → Nat} {shut : Nat → Bool} {L : Nat → List Int32} {b y w9 : Int32} {x : Nat} {cs : Nat → List Kase} {line : List Nat}
theorem M_channel_lo (h : y < 0) : (-1 : Int32) = M_channel n room shut L b y := by
  cases hb : hasB n b with
  | false => exact M_channel_0 hb
  | true =>
    have h0 := neg_toInt h
    unfold M_channel
    rw [if_pos hb, if_neg (tsw_ne (hi := 2) (by decide) (Or.inl h0) (by decide)), if_neg (tsw_ne (hi := 2) (by decide) (Or.inl h0) (by decide)), if_neg (tsw_ne (hi := 2) (by decide) (Or.inl h0) (by decide)), if_pos (Or.inl (Int32.lt_trans h (by decide +kernel)))]
theorem M_channel_hi (h : ¬ y ≤ nI 10) : (-1 : Int32) = M_channel n room shut L b y := by
  cases hb : hasB n b with
  | false => exact M_channel_0 hb
  | true =>
    have h1 : (10 : Int) < y.toInt := by
      have := Int32.not_le.mp h
      rw [Int32.lt_iff_toInt_lt, nI_toInt (by decide)] at this
      exact this
    have h2 : nI 11 ≤ y := by
      rw [Int32.le_iff_toInt_le, nI_toInt (by decide)]
      show (11 : Int) ≤ y.toInt
      omega
    unfold M_channel
    rw [if_pos hb, if_neg (tsw_ne (hi := 2) (by decide) (Or.inr (by omega)) (by decide)), if_neg (tsw_ne (hi := 2) (by decide) (Or.inr (by omega)) (by decide)), if_neg (tsw_ne (hi := 2) (by decide) (Or.inr (by omega)) (by decide)), if_pos (Or.inr h2)]
theorem wayB_lo (h : w9 < 0) : wayB w9 = false := decide_eq_false (by
  rintro (e | e)
  · rw [e] at h; exact Int32.lt_irrefl h
  · rw [e] at h; exact nI_pos (by decide) h)
theorem wayB_hi (h : nI 2 ≤ w9) : wayB w9 = false := decide_eq_false (by
  rintro (e | e)
  · rw [e] at h; exact absurd h (by decide +kernel)
  · rw [e] at h; exact absurd h (by decide +kernel))
theorem wayB_hi1 (h : nI 1 < w9) : wayB w9 = false := decide_eq_false (by
  rintro (e | e)
  · rw [e] at h; exact absurd h (by decide +kernel)
  · rw [e] at h; exact absurd h (by decide +kernel))
theorem wayB_2 {w : Nat} (h : w < 2) : wayB (nI w) = true := decide_eq_true (by
  rcases (show w = 0 ∨ w = 1 by omega) with rfl | rfl
  · exact Or.inl nI_0
  · exact Or.inr rfl)
theorem M_waiting_neg (h : y < 0) : (-1 : Int32) = M_waiting n cs line b w9 y := by
  unfold M_waiting
  split
  · unfold wlAt
    rw [if_pos h]
    rfl
  · rfl
theorem way_of (h : ¬ w9 < 0) (h2 : w9 ≤ nI 1) : ∃ w, w < 2 ∧ w9 = nI w := by
  obtain ⟨w, hw, e⟩ := nI_of2 (M := nI 1) (n := 1) (by decide +kernel) h h2
  exact ⟨w, by omega, e⟩
end MC9
/-- how many wait -/
def cntW (kst : Nat → Nat) (i : Nat) : Nat := ((List.range i).filter (fun r => decide (0 < kst r ∧ kst r < 4))).length
theorem cntW_le {kst : Nat → Nat} {i : Nat} : cntW kst i ≤ i := by
  unfold cntW
  exact Nat.le_trans (List.length_filter_le _ _) (Nat.le_of_eq List.length_range)
theorem cntW_t {kst : Nat → Nat} {i : Nat} (h : 0 < kst i) (h2 : kst i < 4) : cntW kst (i + 1) = cntW kst i + 1 := by
  unfold cntW
  rw [pl_succ, if_pos (decide_eq_true ⟨h, h2⟩), List.length_append]
  rfl
theorem cntW_f {kst : Nat → Nat} {i : Nat} (h : ¬ (0 < kst i ∧ kst i < 4)) : cntW kst (i + 1) = cntW kst i := by
  unfold cntW
  rw [pl_succ, if_neg (by rw [decide_eq_false h]; decide), List.append_nil]
theorem cntW_16 {kst ksi : Nat → Nat} {kmo : Nat} {line : List Nat} (h : KL kst ksi kmo line) : cntW kst 16 = line.length := by
  unfold cntW
  refine len_of_same (List.Pairwise.filter _ List.nodup_range) h.1 (fun r => ?_)
  rw [List.mem_filter, List.mem_range, h.2.1 r]
  constructor
  · intro z
    have := of_decide_eq_true z.2
    exact ⟨z.1, by omega⟩
  · intro z
    exact ⟨z.1, decide_eq_true (by omega)⟩
