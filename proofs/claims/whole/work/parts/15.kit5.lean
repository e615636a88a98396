/-! WHAT EACH CALL ANSWERS AND MAKES, for any ints -/
def DI (n : Nat) (room held : Nat → Nat) (vals : Nat → Int32) (cnum cch cway : Nat → Nat) (cval : Nat → Int32) (len : Nat) (mem st : Nat → Nat) (L : Nat → List Int32) (cs : Nat → List Kase) (line : List Nat) : Prop :=
  n ≤ 40 ∧ (∀ j, j < 40 → room j ≤ 8) ∧ RelV held vals L ∧ RelC cnum cch cway cval cs ∧ RelL len mem line ∧ ∀ j, j < 16 → st j < 5
def m_new (σ : Sg) (k : Nat) : Sg := (gN σ + 1, va_up (gRoom σ) (gN σ) k, va_up (gShut σ) (gN σ) false, va_up (gL σ) (gN σ) [], gCs σ, gLine σ, gSt σ, gRc σ, gSn σ, gCd σ, gMt σ, gFt σ)
def M_make (σ : Sg) (y : Int32) : Sg × Int32 := if y < 0 ∨ nI 8 < y ∨ 40 ≤ gN σ then (σ, -1) else (m_new σ y.toNatClampNeg, nI (gN σ))
def M_send (σ : Sg) (a b v : Int32) : Sg × Int32 := if rdyB (gSt σ) a = true ∧ hasB (gN σ) b = true then ((m_send σ a.toNatClampNeg b.toNatClampNeg v).1, nI (m_send σ a.toNatClampNeg b.toNatClampNeg v).2) else (σ, -1)
def M_recv (σ : Sg) (a b : Int32) : Sg × Int32 := if rdyB (gSt σ) a = true ∧ hasB (gN σ) b = true then ((m_recv σ a.toNatClampNeg b.toNatClampNeg).1, nI (m_recv σ a.toNatClampNeg b.toNatClampNeg).2) else (σ, -1)
def M_add (σ : Sg) (a b w v : Int32) : Sg × Int32 := if rdyB (gSt σ) a = true ∧ hasB (gN σ) b = true ∧ wayB w = true then (m_Cs σ (addC (gCs σ) a.toNatClampNeg (b.toNatClampNeg, w.toNatClampNeg, v)), if (gCs σ a.toNatClampNeg).length < 6 then nI ((gCs σ a.toNatClampNeg).length + 1) else -1) else (σ, -1)
def M_choose (σ : Sg) (a y : Int32) (d : Bool) : Sg × Int32 := if rdyB (gSt σ) a = true ∧ ¬ y < 0 then ((m_choose σ a.toNatClampNeg y.toNatClampNeg d).1, nI (m_choose σ a.toNatClampNeg y.toNatClampNeg d).2) else (σ, -1)
def M_close (σ : Sg) (b : Int32) : Sg × Int32 := if hasB (gN σ) b = true then (if gShut σ b.toNatClampNeg = true then (σ, -2) else ((m_clo b.toNatClampNeg 16 (m_shut σ b.toNatClampNeg) 0).1, nI (m_clo b.toNatClampNeg 16 (m_shut σ b.toNatClampNeg) 0).2)) else (σ, -1)
def M_state (st : Nat → Nat) (y : Int32) : Int32 := if hasB 16 y = true then nI (st y.toNatClampNeg) else -1
def M_got (rc : Nat → Int32) (y : Int32) : Int32 := if hasB 16 y = true then rc y.toNatClampNeg else nI 0
def M_last (sn : Nat → Nat) (cd : Nat → Int32) (y : Int32) : Int32 := if hasB 16 y = true then nI (sn y.toNatClampNeg) + nI 2 * (cd y.toNatClampNeg + nI 2) else -1
def wlR (o : Option (Nat × Nat)) : Int32 := match o with
  | none => -1
  | some z => nI z.1
def M_waiting (n : Nat) (cs : Nat → List Kase) (line : List Nat) (b w y : Int32) : Int32 := if hasB n b = true ∧ wayB w = true then wlR (wlAt (wl cs line b.toNatClampNeg w.toNatClampNeg) y) else -1
def M_channel (n : Nat) (room : Nat → Nat) (shut : Nat → Bool) (L : Nat → List Int32) (b y : Int32) : Int32 := if hasB n b = true then
  (if y = nI 0 then nI (L b.toNatClampNeg).length else if y = nI 1 then nI (room b.toNatClampNeg) else if y = nI 2 then bI (shut b.toNatClampNeg) else if y < nI 3 ∨ nI 11 ≤ y then -1 else (L b.toNatClampNeg).getD (y.toNatClampNeg - 3) 0) else -1
def M_count (n len : Nat) (mt ft : Int32) (y : Int32) : Int32 := if y = nI 0 then nI n else if y = nI 1 then nI len else if y = nI 2 then mt else if y = nI 3 then ft else -1
def m_clr (σ : Sg) : Sg := (0, gRoom σ, gShut σ, gL σ, fl 16 [] (gCs σ), [], fl 16 0 (gSt σ), fl 16 (nI 0) (gRc σ), fl 16 0 (gSn σ), fl 16 (-1) (gCd σ), nI 0, nI 0)
def M_clear (σ : Sg) : Sg × Int32 := (m_clr σ, nI (gN σ))
section MM
variable {σ σ' : Sg} {q x w o : Nat} {v a b y : Int32} {d : Bool}
theorem M_make_0 (h : y < 0 ∨ nI 8 < y ∨ 40 ≤ gN σ) : M_make σ y = (σ, -1) := by unfold M_make; rw [if_pos h]
theorem M_make_1 {k : Nat} (hk : k ≤ 8) (h : gN σ < 40) : M_make σ (nI k) = (m_new σ k, nI (gN σ)) := by
  unfold M_make
  rw [if_neg, nI_clamp (by omega)]
  rintro (h1 | h1 | h1)
  · exact nI_pos (by omega) h1
  · exact nI_nlt hk (by omega) h1
  · omega
theorem M_send_0 (h : rdyB (gSt σ) a = false) : M_send σ a b v = (σ, -1) := by unfold M_send; rw [if_neg (fun z => by rw [h] at z; cases z.1)]
theorem M_send_00 (h : hasB (gN σ) b = false) : M_send σ a b v = (σ, -1) := by unfold M_send; rw [if_neg (fun z => by rw [h] at z; cases z.2)]
theorem M_send_1 (h1 : rdyB (gSt σ) (nI q) = true) (h2 : hasB (gN σ) (nI x) = true) (hq : q < 16) (hx : x < 40) (hz : m_tsend (m_mr σ q) q x v = (σ', o)) (ho : ¬ o = 2) : M_send σ (nI q) (nI x) v = (σ', nI o) := by
  unfold M_send
  rw [if_pos ⟨h1, h2⟩, nI_clamp (by omega), nI_clamp (by omega)]
  unfold m_send
  rw [hz]
  simp only [if_neg ho]
theorem M_send_2 (h1 : rdyB (gSt σ) (nI q) = true) (h2 : hasB (gN σ) (nI x) = true) (hq : q < 16) (hx : x < 40) (hz : m_tsend (m_mr σ q) q x v = (σ', o)) (ho : o = 2) : M_send σ (nI q) (nI x) v = (m_sw (m_Cs σ' (addC (gCs σ') q (x, 0, v))) q 1, nI o) := by
  unfold M_send
  rw [if_pos ⟨h1, h2⟩, nI_clamp (by omega), nI_clamp (by omega)]
  unfold m_send
  rw [hz]
  simp only [ho, if_true]
theorem M_recv_0 (h : rdyB (gSt σ) a = false) : M_recv σ a b = (σ, -1) := by unfold M_recv; rw [if_neg (fun z => by rw [h] at z; cases z.1)]
theorem M_recv_00 (h : hasB (gN σ) b = false) : M_recv σ a b = (σ, -1) := by unfold M_recv; rw [if_neg (fun z => by rw [h] at z; cases z.2)]
theorem M_recv_1 (h1 : rdyB (gSt σ) (nI q) = true) (h2 : hasB (gN σ) (nI x) = true) (hq : q < 16) (hx : x < 40) (hz : m_trecv (m_mr σ q) q x = (σ', o)) (ho : ¬ o = 2) : M_recv σ (nI q) (nI x) = (σ', nI o) := by
  unfold M_recv
  rw [if_pos ⟨h1, h2⟩, nI_clamp (by omega), nI_clamp (by omega)]
  unfold m_recv
  rw [hz]
  simp only [if_neg ho]
theorem M_recv_2 (h1 : rdyB (gSt σ) (nI q) = true) (h2 : hasB (gN σ) (nI x) = true) (hq : q < 16) (hx : x < 40) (hz : m_trecv (m_mr σ q) q x = (σ', o)) (ho : o = 2) : M_recv σ (nI q) (nI x) = (m_sw (m_Cs σ' (addC (gCs σ') q (x, 1, nI 0))) q 2, nI o) := by
  unfold M_recv
  rw [if_pos ⟨h1, h2⟩, nI_clamp (by omega), nI_clamp (by omega)]
  unfold m_recv
  rw [hz]
  simp only [ho, if_true]
theorem M_add_0 {w9 : Int32} (h : rdyB (gSt σ) a = false) : M_add σ a b w9 v = (σ, -1) := by unfold M_add; rw [if_neg (fun z => by rw [h] at z; cases z.1)]
theorem M_add_00 {w9 : Int32} (h : hasB (gN σ) b = false) : M_add σ a b w9 v = (σ, -1) := by unfold M_add; rw [if_neg (fun z => by rw [h] at z; cases z.2.1)]
theorem M_add_000 {w9 : Int32} (h : wayB w9 = false) : M_add σ a b w9 v = (σ, -1) := by unfold M_add; rw [if_neg (fun z => by rw [h] at z; cases z.2.2)]
theorem M_add_1 (h1 : rdyB (gSt σ) (nI q) = true) (h2 : hasB (gN σ) (nI x) = true) (h3 : wayB (nI w) = true) (hq : q < 16) (hx : x < 40) (hw : w < 2) : M_add σ (nI q) (nI x) (nI w) v = (m_Cs σ (addC (gCs σ) q (x, w, v)), if (gCs σ q).length < 6 then nI ((gCs σ q).length + 1) else -1) := by
  unfold M_add
  rw [if_pos ⟨h1, h2, h3⟩, nI_clamp (by omega), nI_clamp (by omega), nI_clamp (by omega)]
theorem M_choose_0 (h : rdyB (gSt σ) a = false) : M_choose σ a y d = (σ, -1) := by unfold M_choose; rw [if_neg (fun z => by rw [h] at z; cases z.1)]
theorem M_choose_00 (h : ¬ 0 ≤ y) : M_choose σ a y d = (σ, -1) := by unfold M_choose; rw [if_neg (fun z => z.2 (Int32.not_le.mp h))]
theorem M_choose_1 {k : Nat} (h1 : rdyB (gSt σ) (nI q) = true) (hq : q < 16) (hk : k < 2 ^ 31) (h : 0 < (m_pl (gShut σ) (gRoom σ) (gL σ) (gCs σ) (gLine σ) q).length) (hz : m_doC σ q ((m_pl (gShut σ) (gRoom σ) (gL σ) (gCs σ) (gLine σ) q).getD (k % (m_pl (gShut σ) (gRoom σ) (gL σ) (gCs σ) (gLine σ) q).length) 0) = (σ', o)) : M_choose σ (nI q) (nI k) d = (σ', nI o) := by
  unfold M_choose
  rw [if_pos ⟨h1, nI_pos hk⟩, nI_clamp (by omega), nI_clamp (by omega)]
  unfold m_choose
  simp only [if_pos h, hz]
theorem M_choose_2 {k : Nat} (h1 : rdyB (gSt σ) (nI q) = true) (hq : q < 16) (hk : k < 2 ^ 31) (h : (m_pl (gShut σ) (gRoom σ) (gL σ) (gCs σ) (gLine σ) q).length = 0) (hd : d = true) : M_choose σ (nI q) (nI k) d = (m_cd (m_mr σ q) q (nI 10), nI 10) := by
  unfold M_choose
  rw [if_pos ⟨h1, nI_pos hk⟩, nI_clamp (by omega), nI_clamp (by omega)]
  unfold m_choose
  simp only [h, Nat.lt_irrefl, if_false, hd, if_true]
theorem M_choose_3 {k : Nat} (h1 : rdyB (gSt σ) (nI q) = true) (hq : q < 16) (hk : k < 2 ^ 31) (h : (m_pl (gShut σ) (gRoom σ) (gL σ) (gCs σ) (gLine σ) q).length = 0) (hd : d = false) : M_choose σ (nI q) (nI k) d = (m_sw (m_cd σ q (-1)) q 3, nI 11) := by
  unfold M_choose
  rw [if_pos ⟨h1, nI_pos hk⟩, nI_clamp (by omega), nI_clamp (by omega)]
  unfold m_choose
  simp only [h, Nat.lt_irrefl, if_false, hd, Bool.false_eq_true]
theorem M_close_0 (h : hasB (gN σ) b = false) : M_close σ b = (σ, -1) := by unfold M_close; rw [if_neg (by rw [h]; decide)]
theorem M_close_1 (h : hasB (gN σ) (nI x) = true) (hx : x < 40) (h2 : gShut σ x = true) : M_close σ (nI x) = (σ, -2) := by
  unfold M_close
  rw [if_pos h, nI_clamp (by omega), if_pos h2]
theorem M_close_2 (h : hasB (gN σ) (nI x) = true) (hx : x < 40) (h2 : gShut σ x = false) (hz : m_clo x 16 (m_shut σ x) 0 = (σ', o)) : M_close σ (nI x) = (σ', nI o) := by
  unfold M_close
  rw [if_pos h, nI_clamp (by omega), if_neg (by rw [h2]; decide), hz]
theorem clo_none {k : Nat} (h : (wl (gCs σ) (gLine σ) x 2)[0]? = none) : m_clo x k σ w = (σ, w) := by
  cases k with
  | zero => rfl
  | succ k => unfold m_clo; rw [h]
theorem clo_full (h : 16 ≤ w) : m_clo x (16 - w) σ w = (σ, w) := by
  rw [show 16 - w = 0 by omega]; rfl
theorem clo_some {z : Nat × Nat} (hw : w < 16) (h : (wl (gCs σ) (gLine σ) x 2)[0]? = some z) : m_clo x (16 - w) σ w = m_clo x (16 - (w + 1)) (m_wake σ z.1 z.2) (w + 1) := by
  rw [show 16 - w = (16 - (w + 1)) + 1 by omega]
  conv => lhs; unfold m_clo
  rw [h]
end MM
theorem M_state_0 {st : Nat → Nat} {y : Int32} (h : hasB 16 y = false) : (-1 : Int32) = M_state st y := by unfold M_state; rw [if_neg (by rw [h]; decide)]
theorem M_state_1 {st : Nat → Nat} {q : Nat} (h : hasB 16 (nI q) = true) (hq : q < 16) : nI (st q) = M_state st (nI q) := by unfold M_state; rw [if_pos h, nI_clamp (by omega)]
theorem M_got_0 {rc : Nat → Int32} {y : Int32} (h : hasB 16 y = false) : nI 0 = M_got rc y := by unfold M_got; rw [if_neg (by rw [h]; decide)]
theorem M_got_1 {rc : Nat → Int32} {q : Nat} (h : hasB 16 (nI q) = true) (hq : q < 16) : rc q = M_got rc (nI q) := by unfold M_got; rw [if_pos h, nI_clamp (by omega)]
theorem M_last_0 {sn : Nat → Nat} {cd : Nat → Int32} {y : Int32} (h : hasB 16 y = false) : (-1 : Int32) = M_last sn cd y := by unfold M_last; rw [if_neg (by rw [h]; decide)]
theorem M_last_1 {sn : Nat → Nat} {cd : Nat → Int32} {q : Nat} (h : hasB 16 (nI q) = true) (hq : q < 16) : nI (sn q) + nI 2 * (cd q + nI 2) = M_last sn cd (nI q) := by unfold M_last; rw [if_pos h, nI_clamp (by omega)]
section MQ2
variable {n : Nat} {cs : Nat → List Kase} {line : List Nat} {b w9 y : Int32} {x w : Nat} {room : Nat → Nat} {shut : Nat → Bool} {L : Nat → List Int32} {mt ft : Int32} {len : Nat}
theorem M_waiting_0 (h : hasB n b = false) : (-1 : Int32) = M_waiting n cs line b w9 y := by unfold M_waiting; rw [if_neg (fun z => by rw [h] at z; cases z.1)]
theorem M_waiting_00 (h : wayB w9 = false) : (-1 : Int32) = M_waiting n cs line b w9 y := by unfold M_waiting; rw [if_neg (fun z => by rw [h] at z; cases z.2)]
theorem M_waiting_1 (h : hasB n (nI x) = true) (h2 : wayB (nI w) = true) (hx : x < 40) (hw : w < 2) {o : Option (Nat × Nat)} (hz : wlAt (wl cs line x w) y = o) : wlR o = M_waiting n cs line (nI x) (nI w) y := by
  unfold M_waiting
  rw [if_pos ⟨h, h2⟩, nI_clamp (by omega), nI_clamp (by omega), hz]
theorem wlAt_mem {l : List (Nat × Nat)} {z : Nat × Nat} (h : wlAt l y = some z) : z ∈ l := by
  unfold wlAt at h
  split at h
  · cases h
  · exact List.mem_of_getElem? h
theorem M_channel_0 (h : hasB n b = false) : (-1 : Int32) = M_channel n room shut L b y := by unfold M_channel; rw [if_neg (by rw [h]; decide)]
theorem M_channel_1 (h : hasB n (nI x) = true) (hx : x < 40) : nI (L x).length = M_channel n room shut L (nI x) (nI 0) := by unfold M_channel; rw [if_pos h, nI_clamp (by omega), if_pos rfl]
theorem M_channel_2 (h : hasB n (nI x) = true) (hx : x < 40) : nI (room x) = M_channel n room shut L (nI x) (nI 1) := by unfold M_channel; rw [if_pos h, nI_clamp (by omega), if_neg (by decide +kernel), if_pos rfl]
theorem M_channel_3 (h : hasB n (nI x) = true) (hx : x < 40) : bI (shut x) = M_channel n room shut L (nI x) (nI 2) := by unfold M_channel; rw [if_pos h, nI_clamp (by omega), if_neg (by decide +kernel), if_neg (by decide +kernel), if_pos rfl]
theorem tsw_ne {k : Nat} (hk : k < 2 ^ 31) {hi : Int} (h : y.toInt < 0 ∨ hi < y.toInt) (hh : (k : Int) ≤ hi) : ¬ y = nI k := by
  intro e
  rw [e, nI_toInt hk] at h
  omega
theorem M_channel_4 (h : hasB n (nI x) = true) (hx : x < 40) (ht : y.toInt < 0 ∨ 2 < y.toInt) (h3 : y < nI 3 ∨ nI 11 ≤ y) : (-1 : Int32) = M_channel n room shut L (nI x) y := by
  unfold M_channel
  rw [if_pos h, if_neg (tsw_ne (by decide) ht (by decide)), if_neg (tsw_ne (by decide) ht (by decide)), if_neg (tsw_ne (by decide) ht (by decide)), if_pos h3]
theorem M_channel_5 (h : hasB n (nI x) = true) (hx : x < 40) {j : Nat} (hj : j < 8) : (L x).getD j 0 = M_channel n room shut L (nI x) (nI (j + 3)) := by
  unfold M_channel
  rw [if_pos h, nI_clamp (by omega), if_neg (fun e => by have := (nI_eq (by omega) (by decide)).mp e; omega), if_neg (fun e => by have := (nI_eq (by omega) (by decide)).mp e; omega), if_neg (fun e => by have := (nI_eq (by omega) (by decide)).mp e; omega), if_neg, nI_clamp (by omega), Nat.add_sub_cancel]
  rintro (e | e)
  · exact nI_nlt (by omega) (by omega) e
  · exact nI_ge (by omega) (by decide) e
theorem rng38 (h : ¬ y < nI 3) (h2 : ¬ nI 11 ≤ y) : ∃ j, j < 8 ∧ y = nI (j + 3) := by
  have h0 : ¬ y < 0 := fun z => h (Int32.lt_trans z (by decide +kernel))
  obtain ⟨k, hk, rfl⟩ := nI_of h0
  have h3 : 3 ≤ k := Nat.le_of_not_lt (fun z => h (nI_lt z (by decide)))
  have h4 : k < 11 := Nat.lt_of_not_le (fun z => h2 (nI_le z hk))
  exact ⟨k - 3, by omega, by rw [Nat.sub_add_cancel h3]⟩
theorem M_count_0 : nI n = M_count n len mt ft (nI 0) := by unfold M_count; rw [if_pos rfl]
theorem M_count_1 : nI len = M_count n len mt ft (nI 1) := by unfold M_count; rw [if_neg (by decide +kernel), if_pos rfl]
theorem M_count_2 : mt = M_count n len mt ft (nI 2) := by unfold M_count; rw [if_neg (by decide +kernel), if_neg (by decide +kernel), if_pos rfl]
theorem M_count_3 : ft = M_count n len mt ft (nI 3) := by unfold M_count; rw [if_neg (by decide +kernel), if_neg (by decide +kernel), if_neg (by decide +kernel), if_pos rfl]
theorem M_count_4 (h : y.toInt < 0 ∨ 3 < y.toInt) : (-1 : Int32) = M_count n len mt ft y := by
  unfold M_count
  rw [if_neg (tsw_ne (by decide) h (by decide)), if_neg (tsw_ne (by decide) h (by decide)), if_neg (tsw_ne (by decide) h (by decide)), if_neg (tsw_ne (by decide) h (by decide))]
theorem tsw_of {y : Int32} {k : Nat} (h : y.toInt = (k : Int)) (hk : k < 2 ^ 31) : y = nI k := Int32.toInt_inj.mp (by rw [h, nI_toInt hk])
theorem tsw3 (y : Int32) : (y.toInt < 0 ∨ 2 < y.toInt) ∨ y = nI 0 ∨ y = nI 1 ∨ y = nI 2 := by
  by_cases h0 : y.toInt = 0
  · exact Or.inr (Or.inl (tsw_of (k := 0) h0 (by decide)))
  by_cases h1 : y.toInt = 1
  · exact Or.inr (Or.inr (Or.inl (tsw_of (k := 1) h1 (by decide))))
  by_cases h2 : y.toInt = 2
  · exact Or.inr (Or.inr (Or.inr (tsw_of (k := 2) h2 (by decide))))
  exact Or.inl (by omega)
theorem tsw4 (y : Int32) : (y.toInt < 0 ∨ 3 < y.toInt) ∨ y = nI 0 ∨ y = nI 1 ∨ y = nI 2 ∨ y = nI 3 := by
  by_cases h0 : y.toInt = 0
  · exact Or.inr (Or.inl (tsw_of (k := 0) h0 (by decide)))
  by_cases h1 : y.toInt = 1
  · exact Or.inr (Or.inr (Or.inl (tsw_of (k := 1) h1 (by decide))))
  by_cases h2 : y.toInt = 2
  · exact Or.inr (Or.inr (Or.inr (Or.inl (tsw_of (k := 2) h2 (by decide)))))
  by_cases h3 : y.toInt = 3
  · exact Or.inr (Or.inr (Or.inr (Or.inr (tsw_of (k := 3) h3 (by decide)))))
  exact Or.inl (by omega)
end MQ2
theorem pl_lt {P : Nat → Bool} {N n : Nat} (h : n < ((List.range N).filter P).length) : ((List.range N).filter P).getD n 0 < N := by
  rw [List.getD_eq_getElem?_getD, List.getElem?_eq_getElem h]
  have := List.getElem_mem h
  exact List.mem_range.mp (List.mem_filter.mp this).1
theorem RelC.clr {cnum cch cway : Nat → Nat} {cval : Nat → Int32} {cs : Nat → List Kase} (h : RelC cnum cch cway cval cs) : RelC (fl 16 0 cnum) cch cway cval (fl 16 [] cs) := by
  intro d hd
  simp only [fl, if_pos hd]
  exact ⟨rfl, by simp, fun i hi => absurd hi (by simp)⟩
theorem RelL.clr (mem : Nat → Nat) : RelL 0 mem [] := ⟨rfl, by simp, fun i hi => absurd hi (by simp)⟩
theorem fl_lt (st : Nat → Nat) : ∀ j, j < 16 → fl 16 0 st j < 5 := fun j hj => by simp only [fl, if_pos hj]; decide
theorem rm_up {room : Nat → Nat} (h : ∀ j, j < 40 → room j ≤ 8) (n : Nat) {k : Nat} (hk : k ≤ 8) : ∀ j, j < 40 → va_up room n k j ≤ 8 := by
  intro j hj
  by_cases e : j = n
  · rw [e, va_up_self]; exact hk
  · rw [va_up_ne _ _ e]; exact h j hj
