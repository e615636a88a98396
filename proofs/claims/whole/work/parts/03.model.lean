/-! THE MODEL: what a desk IS, as a value; and what each deed makes of it (read off DOC.md; the class's own order of deeds) -/
abbrev Kase : Type := Nat × Nat × Int32
/-- channels made, their room, whether closed, the values there; the cases of each routine; the line of those who wait; state, last value, whether sent, case done; meetings, faults -/
abbrev Sg : Type := Nat × (Nat → Nat) × (Nat → Bool) × (Nat → List Int32) × (Nat → List Kase) × List Nat × (Nat → Nat) × (Nat → Int32) × (Nat → Nat) × (Nat → Int32) × Int32 × Int32
abbrev gN (σ : Sg) : Nat := σ.1
abbrev gRoom (σ : Sg) : Nat → Nat := σ.2.1
abbrev gShut (σ : Sg) : Nat → Bool := σ.2.2.1
abbrev gL (σ : Sg) : Nat → List Int32 := σ.2.2.2.1
abbrev gCs (σ : Sg) : Nat → List Kase := σ.2.2.2.2.1
abbrev gLine (σ : Sg) : List Nat := σ.2.2.2.2.2.1
abbrev gSt (σ : Sg) : Nat → Nat := σ.2.2.2.2.2.2.1
abbrev gRc (σ : Sg) : Nat → Int32 := σ.2.2.2.2.2.2.2.1
abbrev gSn (σ : Sg) : Nat → Nat := σ.2.2.2.2.2.2.2.2.1
abbrev gCd (σ : Sg) : Nat → Int32 := σ.2.2.2.2.2.2.2.2.2.1
abbrev gMt (σ : Sg) : Int32 := σ.2.2.2.2.2.2.2.2.2.2.1
abbrev gFt (σ : Sg) : Int32 := σ.2.2.2.2.2.2.2.2.2.2.2
/-- does a case stand at channel c, way w (2: either) -/
def kHit (c w : Nat) (k : Kase) : Bool := decide (k.1 = c) && (decide (w = 2) || decide (k.2.1 = w))
/-- the first case of a list at channel c, way w -/
def fa (l : List Kase) (c w : Nat) : Option Nat := l.findIdx? (kHit c w)
/-- those who wait at channel c, way w, in their order, each with the number of its case -/
def wl (cs : Nat → List Kase) (line : List Nat) (c w : Nat) : List (Nat × Nat) := line.filterMap (fun r => (fa (cs r) c w).map (fun i => (r, i)))
def slI (o : Option (Nat × Nat)) : Int32 := match o with
  | none => -1
  | some q => nI (q.1 * 6 + q.2)
theorem fa_some {l : List Kase} {c w i : Nat} (h : i < l.length) (h1 : kHit c w l[i] = true) (h2 : ∀ j (hj : j < i), kHit c w (l[j]'(Nat.lt_trans hj h)) = false) : fa l c w = some i := by
  unfold fa
  rw [List.findIdx?_eq_some_iff_getElem]
  exact ⟨h, h1, fun j hj => by rw [h2 j hj]; simp⟩
theorem fa_none {l : List Kase} {c w : Nat} (h2 : ∀ j (hj : j < l.length), kHit c w l[j] = false) : fa l c w = none := by
  unfold fa
  rw [List.findIdx?_eq_none_iff]
  intro x hx
  obtain ⟨j, hj, rfl⟩ := List.getElem_of_mem hx
  exact h2 j hj
theorem fa_lt {l : List Kase} {c w i : Nat} (h : fa l c w = some i) : i < l.length := by
  unfold fa at h
  rw [List.findIdx?_eq_some_iff_getElem] at h
  exact h.1
theorem fa_hit {l : List Kase} {c w i : Nat} (h : fa l c w = some i) : ∃ hi : i < l.length, kHit c w l[i] = true := by
  unfold fa at h
  rw [List.findIdx?_eq_some_iff_getElem] at h
  exact ⟨h.1, h.2.1⟩
/-- the class's cells and the model's lists -/
def RelV (held : Nat → Nat) (vals : Nat → Int32) (L : Nat → List Int32) : Prop := ∀ c, c < 40 → held c = (L c).length ∧ (L c).length ≤ 8 ∧ ∀ i (h : i < (L c).length), vals (c * 8 + i) = (L c)[i]
def RelC (cnum cch cway : Nat → Nat) (cval : Nat → Int32) (cs : Nat → List Kase) : Prop := ∀ r, r < 16 → cnum r = (cs r).length ∧ (cs r).length ≤ 6 ∧ ∀ i (h : i < (cs r).length), cch (r * 6 + i) = ((cs r)[i]).1 ∧ cway (r * 6 + i) = ((cs r)[i]).2.1 ∧ cval (r * 6 + i) = ((cs r)[i]).2.2 ∧ ((cs r)[i]).1 < 40 ∧ ((cs r)[i]).2.1 < 2
def RelL (len : Nat) (mem : Nat → Nat) (line : List Nat) : Prop := len = line.length ∧ line.length ≤ 16 ∧ ∀ i (h : i < line.length), mem i = line[i] ∧ line[i] < 16
theorem RelV.put {held : Nat → Nat} {vals : Nat → Int32} {L : Nat → List Int32} (h : RelV held vals L) {c : Nat} (hc : c < 40) (v : Int32) (hl : (L c).length < 8) : RelV (va_up held c (held c + 1)) (va_up vals (c * 8 + held c) v) (va_up L c (L c ++ [v])) := by
  intro d hd
  obtain ⟨e1, e2, e3⟩ := h d hd
  obtain ⟨f1, f2, f3⟩ := h c hc
  by_cases hdc : d = c
  · subst hdc
    simp only [va_up_self]
    refine ⟨by simp [f1], by simp; omega, fun i hi => ?_⟩
    simp at hi
    by_cases hi2 : i < (L d).length
    · rw [va_up_ne _ _ (by omega), List.getElem_append_left hi2]
      exact f3 i hi2
    · have : i = (L d).length := by omega
      subst this
      rw [f1, va_up_self]
      simp
  · simp only [va_up_ne _ _ hdc]
    refine ⟨e1, e2, fun i hi => ?_⟩
    rw [va_up_ne _ _ (by omega)]
    exact e3 i hi
theorem RelV.take {held : Nat → Nat} {vals : Nat → Int32} {L : Nat → List Int32} (h : RelV held vals L) {c : Nat} (hc : c < 40) {v : Int32} {vs : List Int32} (hl : L c = v :: vs) : vals (c * 8) = v ∧ RelV (va_up held c (held c - 1)) (va_cpy vals vals (c * 8 + 1) (c * 8) (held c - 1)) (va_up L c vs) := by
  obtain ⟨f1, f2, f3⟩ := h c hc
  rw [hl] at f1 f2
  simp only [List.length_cons] at f1 f2
  have g : ∀ i (hi : i < vs.length), vals (c * 8 + (i + 1)) = vs[i] := fun i hi => by
    have := f3 (i + 1) (by rw [hl]; simp; omega)
    rw [this]
    simp [hl]
  refine ⟨?_, fun d hd => ?_⟩
  · have := f3 0 (by rw [hl]; simp)
    simpa [hl] using this
  · obtain ⟨e1, e2, e3⟩ := h d hd
    by_cases hdc : d = c
    · subst hdc
      simp only [va_up_self]
      refine ⟨by omega, by omega, fun i hi => ?_⟩
      rw [pk_cpy_in (by omega) (by omega)]
      rw [show d * 8 + 1 + (d * 8 + i - d * 8) = d * 8 + (i + 1) by omega]
      exact g i hi
    · simp only [va_up_ne _ _ hdc]
      refine ⟨e1, e2, fun i hi => ?_⟩
      rw [pk_cpy_out (by omega)]
      exact e3 i hi
theorem RelV.new {held : Nat → Nat} {vals : Nat → Int32} {L : Nat → List Int32} (h : RelV held vals L) (n : Nat) : RelV (va_up held n 0) vals (va_up L n []) := by
  intro d hd
  obtain ⟨e1, e2, e3⟩ := h d hd
  by_cases hdc : d = n
  · subst hdc
    simp only [va_up_self]
    exact ⟨rfl, by simp, fun i hi => absurd hi (by simp)⟩
  · simp only [va_up_ne _ _ hdc]
    exact ⟨e1, e2, e3⟩
theorem RelC.forget {cnum cch cway : Nat → Nat} {cval : Nat → Int32} {cs : Nat → List Kase} (h : RelC cnum cch cway cval cs) (q : Nat) : RelC (va_up cnum q 0) cch cway cval (va_up cs q []) := by
  intro d hd
  by_cases hdc : d = q
  · subst hdc
    simp only [va_up_self]
    exact ⟨rfl, by simp, fun i hi => absurd hi (by simp)⟩
  · simp only [va_up_ne _ _ hdc]
    exact h d hd
theorem RelC.add {cnum cch cway : Nat → Nat} {cval : Nat → Int32} {cs : Nat → List Kase} (h : RelC cnum cch cway cval cs) {q : Nat} (hq : q < 16) {c w : Nat} (v : Int32) (hc : c < 40) (hw : w < 2) (hl : (cs q).length < 6) :
    RelC (va_up cnum q (cnum q + 1)) (va_up cch (q * 6 + cnum q) c) (va_up cway (q * 6 + cnum q) w) (va_up cval (q * 6 + cnum q) v) (va_up cs q (cs q ++ [(c, w, v)])) := by
  intro d hd
  obtain ⟨f1, f2, f3⟩ := h q hq
  obtain ⟨e1, e2, e3⟩ := h d hd
  by_cases hdc : d = q
  · subst hdc
    simp only [va_up_self]
    refine ⟨by simp [f1], by simp; omega, fun i hi => ?_⟩
    simp at hi
    by_cases hi2 : i < (cs d).length
    · have hne : d * 6 + i ≠ d * 6 + cnum d := by omega
      simp only [va_up_ne _ _ hne, List.getElem_append_left hi2]
      exact f3 i hi2
    · have : i = (cs d).length := by omega
      subst this
      simp only [f1, va_up_self]
      simp [hc, hw]
  · simp only [va_up_ne _ _ hdc]
    refine ⟨e1, e2, fun i hi => ?_⟩
    have hne : d * 6 + i ≠ q * 6 + cnum q := by omega
    simp only [va_up_ne _ _ hne]
    exact e3 i hi
theorem RelL.join {len : Nat} {mem : Nat → Nat} {line : List Nat} (h : RelL len mem line) {r : Nat} (hr : r < 16) (hl : line.length < 16) : RelL (len + 1) (va_up mem len r) (line ++ [r]) := by
  obtain ⟨h1, h2, h3⟩ := h
  refine ⟨by simp [h1], by simp; omega, fun i hi => ?_⟩
  simp at hi
  by_cases hi2 : i < line.length
  · rw [va_up_ne _ _ (by omega), List.getElem_append_left hi2]
    exact h3 i hi2
  · have : i = line.length := by omega
    subst this
    rw [h1, va_up_self]
    simp [hr]
def hasB (n : Nat) (y : Int32) : Bool := decide (¬ y < 0 ∧ ¬ nI n ≤ y)
def kAt (cs : Nat → List Kase) (q i : Nat) : Kase := (cs q).getD i (0, 0, 0)
def putL (L : Nat → List Int32) (room : Nat → Nat) (x : Nat) (v : Int32) : Nat → List Int32 := if (L x).length < room x then va_up L x (L x ++ [v]) else L
def popL (L : Nat → List Int32) (x : Nat) : Nat → List Int32 := va_up L x (L x).tail
def addC (cs : Nat → List Kase) (q : Nat) (k : Kase) : Nat → List Kase := if (cs q).length < 6 then va_up cs q (cs q ++ [k]) else cs
def faI (q : Nat) (o : Option Nat) : Int32 := match o with
  | none => -1
  | some i => nI (q * 6 + i)
def outL (line : List Nat) (q : Nat) : List Nat := line.filter (fun z => !decide (z = q))
def fl {α : Type} (N : Nat) (x : α) (f : Nat → α) : Nat → α := fun j => if j < N then x else f j
/-- deeds -/
def m_mr (σ : Sg) (q : Nat) : Sg := (gN σ, gRoom σ, gShut σ, gL σ, va_up (gCs σ) q [], gLine σ, va_up (gSt σ) q 0, gRc σ, gSn σ, gCd σ, gMt σ, gFt σ)
def m_sw (σ : Sg) (q how : Nat) : Sg := (gN σ, gRoom σ, gShut σ, gL σ, gCs σ, gLine σ ++ [q], va_up (gSt σ) q how, gRc σ, gSn σ, gCd σ, gMt σ, gFt σ)
def m_hand (σ : Sg) (q : Nat) (v : Int32) (b : Nat) : Sg := (gN σ, gRoom σ, gShut σ, gL σ, gCs σ, gLine σ, gSt σ, va_up (gRc σ) q v, va_up (gSn σ) q b, gCd σ, gMt σ, gFt σ)
def m_flt (σ : Sg) (q : Nat) : Sg := (gN σ, gRoom σ, gShut σ, gL σ, gCs σ, gLine σ, va_up (gSt σ) q 4, gRc σ, gSn σ, gCd σ, gMt σ, gFt σ + nI 1)
def m_mt (σ : Sg) : Sg := (gN σ, gRoom σ, gShut σ, gL σ, gCs σ, gLine σ, gSt σ, gRc σ, gSn σ, gCd σ, gMt σ + nI 1, gFt σ)
def m_cd (σ : Sg) (q : Nat) (v : Int32) : Sg := (gN σ, gRoom σ, gShut σ, gL σ, gCs σ, gLine σ, gSt σ, gRc σ, gSn σ, va_up (gCd σ) q v, gMt σ, gFt σ)
def m_L (σ : Sg) (L : Nat → List Int32) : Sg := (gN σ, gRoom σ, gShut σ, L, gCs σ, gLine σ, gSt σ, gRc σ, gSn σ, gCd σ, gMt σ, gFt σ)
def m_Cs (σ : Sg) (cs : Nat → List Kase) : Sg := (gN σ, gRoom σ, gShut σ, gL σ, cs, gLine σ, gSt σ, gRc σ, gSn σ, gCd σ, gMt σ, gFt σ)
def cdE (st : Nat → Nat) (cd : Nat → Int32) (q i : Nat) : Nat → Int32 := if st q = 3 then va_up cd q (nI i) else cd
def m_endw (σ : Sg) (q i : Nat) : Sg := (gN σ, gRoom σ, gShut σ, gL σ, va_up (gCs σ) q [], outL (gLine σ) q, va_up (gSt σ) q 0, gRc σ, gSn σ, cdE (gSt σ) (gCd σ) q i, gMt σ, gFt σ)
def m_tsend (σ : Sg) (q x : Nat) (v : Int32) : Sg × Nat :=
  if gShut σ x = true then (m_flt σ q, 3)
  else match (wl (gCs σ) (gLine σ) x 1)[0]? with
    | some z => (m_hand (m_endw (m_mt σ) z.1 z.2) z.1 v 1, 1)
    | none => if (gL σ x).length < gRoom σ x then (m_L σ (putL (gL σ) (gRoom σ) x v), 1) else (σ, 2)
def m_trecv (σ : Sg) (q x : Nat) : Sg × Nat :=
  match gL σ x with
  | v :: _ => (match (wl (gCs σ) (gLine σ) x 0)[0]? with
    | some z => m_L (m_endw (m_mt (m_hand (m_L σ (popL (gL σ) x)) q v 1)) z.1 z.2) (putL (popL (gL σ) x) (gRoom σ) x (kAt (gCs σ) z.1 z.2).2.2)
    | none => m_hand (m_L σ (popL (gL σ) x)) q v 1, 1)
  | [] => match (wl (gCs σ) (gLine σ) x 0)[0]? with
    | some z => (m_hand (m_endw (m_mt σ) z.1 z.2) q (kAt (gCs σ) z.1 z.2).2.2 1, 1)
    | none => if gShut σ x = true then (m_hand σ q (nI 0) 0, 1) else (σ, 2)
def m_wake (σ : Sg) (q i : Nat) : Sg := if (kAt (gCs σ) q i).2.1 = 0 then m_flt (m_endw σ q i) q else m_hand (m_endw σ q i) q (nI 0) 0
def m_poss (shut : Nat → Bool) (room : Nat → Nat) (L : Nat → List Int32) (cs : Nat → List Kase) (line : List Nat) (k : Kase) : Bool :=
  shut k.1 || (if k.2.1 = 0 then decide ((L k.1).length < room k.1) || ((wl cs line k.1 1)[0]?).isSome else decide (0 < (L k.1).length) || ((wl cs line k.1 0)[0]?).isSome)
/-- the possible cases of routine q, by their numbers -/
def m_pl (shut : Nat → Bool) (room : Nat → Nat) (L : Nat → List Int32) (cs : Nat → List Kase) (line : List Nat) (q : Nat) : List Nat := (List.range (cs q).length).filter (fun i => m_poss shut room L cs line (kAt cs q i))
def m_doC (σ : Sg) (q i : Nat) : Sg × Nat :=
  let k := kAt (gCs σ) q i
  let σ1 := m_cd (m_mr σ q) q (nI i)
  let z := if k.2.1 = 0 then m_tsend σ1 q k.1 k.2.2 else m_trecv σ1 q k.1
  (z.1, if z.2 = 3 then 12 else i)
def m_choose (σ : Sg) (q seed : Nat) (d : Bool) : Sg × Nat :=
  let pl := m_pl (gShut σ) (gRoom σ) (gL σ) (gCs σ) (gLine σ) q
  if 0 < pl.length then m_doC σ q (pl.getD (seed % pl.length) 0)
  else if d = true then (m_cd (m_mr σ q) q (nI 10), 10)
  else (m_sw (m_cd σ q (-1)) q 3, 11)
def m_send (σ : Sg) (q x : Nat) (v : Int32) : Sg × Nat :=
  let z := m_tsend (m_mr σ q) q x v
  if z.2 = 2 then (m_sw (m_Cs z.1 (addC (gCs z.1) q (x, 0, v))) q 1, 2) else z
def m_recv (σ : Sg) (q x : Nat) : Sg × Nat :=
  let z := m_trecv (m_mr σ q) q x
  if z.2 = 2 then (m_sw (m_Cs z.1 (addC (gCs z.1) q (x, 1, nI 0))) q 2, 2) else z
def m_clo (x : Nat) : Nat → Sg → Nat → Sg × Nat
  | 0, σ, w => (σ, w)
  | k + 1, σ, w => match (wl (gCs σ) (gLine σ) x 2)[0]? with
    | none => (σ, w)
    | some z => m_clo x k (m_wake σ z.1 z.2) (w + 1)
def m_shut (σ : Sg) (x : Nat) : Sg := (gN σ, gRoom σ, va_up (gShut σ) x true, gL σ, gCs σ, gLine σ, gSt σ, gRc σ, gSn σ, gCd σ, gMt σ, gFt σ)
/-! PURE ROWS for the class's loops -/
theorem tk_split {α : Type} (l : List α) (i : Nat) (hi : i < l.length) : l = l.take i ++ l[i] :: l.drop (i + 1) := by
  rw [List.getElem_cons_drop, List.take_append_drop]
theorem tk_succ {α : Type} (l : List α) (i : Nat) (hi : i < l.length) : l.take (i + 1) = l.take i ++ [l[i]] := by
  rw [List.take_succ, List.getElem?_eq_getElem hi]
  rfl
theorem outL_succ {line : List Nat} {q i : Nat} (hi : i < line.length) : outL (line.take (i + 1)) q = outL (line.take i) q ++ (if line[i] = q then [] else [line[i]]) := by
  unfold outL
  rw [tk_succ line i hi, List.filter_append]
  congr 1
  by_cases h : line[i] = q <;> simp [h]
/-- the line is being pushed together: i read, kept of them stay -/
def LvI (line : List Nat) (q i kept : Nat) (mem : Nat → Nat) : Prop := kept = (outL (line.take i) q).length ∧ (∀ j (h : j < (outL (line.take i) q).length), mem j = (outL (line.take i) q)[j]) ∧ ∀ j (h : j < line.length), i ≤ j → mem j = line[j]
theorem LvI_le {line : List Nat} {q i kept : Nat} {mem : Nat → Nat} (h : LvI line q i kept mem) : kept ≤ i := by
  rw [h.1]
  unfold outL
  exact Nat.le_trans (List.length_filter_le _ _) (by rw [List.length_take]; exact Nat.min_le_left _ _)
theorem LvI_0 {len : Nat} {line : List Nat} {q : Nat} {mem : Nat → Nat} (h : RelL len mem line) : LvI line q 0 0 mem := by
  refine ⟨by simp [outL], fun j hj => absurd hj (by simp [outL]), fun j hj _ => (h.2.2 j hj).1⟩
theorem LvI_drop {line : List Nat} {q i kept : Nat} {mem : Nat → Nat} (h : LvI line q i kept mem) (hi : i < line.length) (hq : mem i = q) : LvI line q (i + 1) kept mem := by
  have e := outL_succ (q := q) hi
  have h0 : line[i] = q := by rw [← h.2.2 i hi (Nat.le_refl i)]; exact hq
  rw [if_pos h0, List.append_nil] at e
  refine ⟨by rw [e]; exact h.1, ?_, fun j hj hle => h.2.2 j hj (by omega)⟩
  rw [e]
  exact h.2.1
theorem LvI_keep {line : List Nat} {q i kept : Nat} {mem : Nat → Nat} (h : LvI line q i kept mem) (hi : i < line.length) (hq : ¬ mem i = q) : LvI line q (i + 1) (kept + 1) (va_up mem kept (mem i)) := by
  have e := outL_succ (q := q) hi
  have e0 : mem i = line[i] := h.2.2 i hi (Nat.le_refl i)
  rw [if_neg (by rw [← e0]; exact hq)] at e
  have hk := h.1
  have hle := LvI_le h
  refine ⟨by rw [e]; simp [hk], ?_, fun j hj hle2 => ?_⟩
  · rw [e]
    intro j hj
    rw [List.length_append] at hj
    simp only [List.length_cons, List.length_nil] at hj
    by_cases hj2 : j < (outL (line.take i) q).length
    · rw [va_up_ne _ _ (by omega), List.getElem_append_left hj2]
      exact h.2.1 j hj2
    · have : j = kept := by omega
      subst this
      rw [va_up_self, List.getElem_append_right (by omega)]
      simp [e0]
  · rw [va_up_ne _ _ (by omega)]
    exact h.2.2 j hj (by omega)
theorem LvI_end {len : Nat} {line : List Nat} {q kept : Nat} {mem mem0 : Nat → Nat} (h0 : RelL len mem0 line) (h : LvI line q line.length kept mem) : RelL kept mem (outL line q) := by
  have e : line.take line.length = line := List.take_length
  unfold LvI at h
  rw [e] at h
  refine ⟨h.1, Nat.le_trans (List.length_filter_le _ _) h0.2.1, fun i hi => ⟨h.2.1 i hi, ?_⟩⟩
  have hm : (outL line q)[i] ∈ line := (List.mem_filter.mp (List.getElem_mem hi)).1
  obtain ⟨j, hj, ej⟩ := List.getElem_of_mem hm
  rw [← ej]
  exact (h0.2.2 j hj).2
/-- those who wait, among the first i of the line -/
theorem wl_split {cs : Nat → List Kase} {line : List Nat} {x w i : Nat} (hi : i < line.length) : wl cs line x w = wl cs (line.take i) x w ++ (((fa (cs line[i]) x w).map (fun k => (line[i], k))).toList ++ wl cs (line.drop (i + 1)) x w) := by
  conv => lhs; rw [tk_split line i hi]
  unfold wl
  rw [List.filterMap_append, List.filterMap_cons]
  cases fa (cs line[i]) x w <;> rfl
theorem wl_succ {cs : Nat → List Kase} {line : List Nat} {x w i : Nat} (hi : i < line.length) : wl cs (line.take (i + 1)) x w = wl cs (line.take i) x w ++ ((fa (cs line[i]) x w).map (fun k => (line[i], k))).toList := by
  rw [tk_succ line i hi]
  unfold wl
  rw [List.filterMap_append, List.filterMap_cons]
  cases fa (cs line[i]) x w <;> simp
/-- the one at place y (an int: there may be none) -/
def wlAt (l : List (Nat × Nat)) (y : Int32) : Option (Nat × Nat) := if y < 0 then none else l[y.toNatClampNeg]?
theorem wlAt_nI {l : List (Nat × Nat)} {j : Nat} (h : j < 2 ^ 31) : wlAt l (nI j) = l[j]? := by
  unfold wlAt
  rw [if_neg (nI_pos h), nI_clamp h]
theorem wlAt_none {l : List (Nat × Nat)} {y : Int32} (hl : l.length < 2 ^ 31) (h : ∀ j, j < l.length → ¬ nI j = y) : wlAt l y = none := by
  unfold wlAt
  by_cases h0 : y < 0
  · rw [if_pos h0]
  · rw [if_neg h0]
    obtain ⟨j, hj, rfl⟩ := nI_of h0
    rw [nI_clamp hj]
    by_cases hj2 : j < l.length
    · exact absurd rfl (h j hj2)
    · exact List.getElem?_eq_none (by omega)
theorem wl_len {cs : Nat → List Kase} {line : List Nat} {x w : Nat} : (wl cs line x w).length ≤ line.length := by
  unfold wl
  exact List.length_filterMap_le _ _
theorem wl_found {cs : Nat → List Kase} {line : List Nat} {x w i k : Nat} (hi : i < line.length) (hk : fa (cs line[i]) x w = some k) : (wl cs line x w)[(wl cs (line.take i) x w).length]? = some (line[i], k) := by
  rw [wl_split hi, hk, List.getElem?_append_right (Nat.le_refl _)]
  simp
theorem wl_mem {cs : Nat → List Kase} {line : List Nat} {x w : Nat} {z : Nat × Nat} (h : z ∈ wl cs line x w) : z.1 ∈ line ∧ fa (cs z.1) x w = some z.2 := by
  unfold wl at h
  rw [List.mem_filterMap] at h
  obtain ⟨a, ha, hb⟩ := h
  rw [Option.map_eq_some_iff] at hb
  obtain ⟨k, hk, rfl⟩ := hb
  exact ⟨ha, hk⟩
theorem pl_split {P : Nat → Bool} {N i : Nat} (hi : i < N) : ∃ t, (List.range N).filter P = (List.range i).filter P ++ ((if P i = true then [i] else []) ++ t) := by
  refine ⟨((List.range N).drop (i + 1)).filter P, ?_⟩
  have h := tk_split (List.range N) i (by simpa using hi)
  conv => lhs; rw [h]
  rw [List.filter_append, List.filter_cons, List.take_range, Nat.min_eq_left (Nat.le_of_lt hi)]
  simp only [List.getElem_range]
  cases P i <;> simp
theorem pl_succ {P : Nat → Bool} {i : Nat} : (List.range (i + 1)).filter P = (List.range i).filter P ++ (if P i = true then [i] else []) := by
  rw [List.range_succ, List.filter_append]
  cases h : P i <;> simp [h]
theorem fl_nI (N x : Nat) (f : Nat → Nat) : (fl N (nI x) fun j => nI (f j)) = fun j => nI (fl N x f j) := by
  funext j
  simp only [fl]
  split <;> rfl
theorem hasB_of {n : Nat} {y : Int32} (hn : n < 2 ^ 31) (h : hasB n y = true) : ∃ q, q < n ∧ y = nI q := by
  have h1 := of_decide_eq_true h
  obtain ⟨j, hj, rfl⟩ := nI_of h1.1
  exact ⟨j, Nat.lt_of_not_le (fun z => h1.2 (nI_le z hj)), rfl⟩
theorem hasB_nI {n q : Nat} (hn : n < 2 ^ 31) (h : q < n) : hasB n (nI q) = true := decide_eq_true ⟨nI_pos (by omega), nI_ge h hn⟩
section MS
variable {σ : Sg} {q x : Nat} {v : Int32} {z : Nat × Nat}
theorem m_tsend_1 (h : gShut σ x = true) : m_tsend σ q x v = (m_flt σ q, 3) := by
  unfold m_tsend; rw [if_pos h]
theorem m_tsend_2 (h : gShut σ x = false) (h2 : (wl (gCs σ) (gLine σ) x 1)[0]? = some z) : m_tsend σ q x v = (m_hand (m_endw (m_mt σ) z.1 z.2) z.1 v 1, 1) := by
  unfold m_tsend; rw [if_neg (by rw [h]; decide), h2]
theorem m_tsend_3 (h : gShut σ x = false) (h2 : (wl (gCs σ) (gLine σ) x 1)[0]? = none) (h3 : (gL σ x).length < gRoom σ x) : m_tsend σ q x v = (m_L σ (putL (gL σ) (gRoom σ) x v), 1) := by
  unfold m_tsend; rw [if_neg (by rw [h]; decide), h2]; exact if_pos h3
theorem m_tsend_4 (h : gShut σ x = false) (h2 : (wl (gCs σ) (gLine σ) x 1)[0]? = none) (h3 : ¬ (gL σ x).length < gRoom σ x) : m_tsend σ q x v = (σ, 2) := by
  unfold m_tsend; rw [if_neg (by rw [h]; decide), h2]; exact if_neg h3
theorem m_trecv_1 {vs : List Int32} (h : gL σ x = v :: vs) (h2 : (wl (gCs σ) (gLine σ) x 0)[0]? = some z) : m_trecv σ q x = (m_L (m_endw (m_mt (m_hand (m_L σ (popL (gL σ) x)) q v 1)) z.1 z.2) (putL (popL (gL σ) x) (gRoom σ) x (kAt (gCs σ) z.1 z.2).2.2), 1) := by
  unfold m_trecv; rw [h, h2]
theorem m_trecv_2 {vs : List Int32} (h : gL σ x = v :: vs) (h2 : (wl (gCs σ) (gLine σ) x 0)[0]? = none) : m_trecv σ q x = (m_hand (m_L σ (popL (gL σ) x)) q v 1, 1) := by
  unfold m_trecv; rw [h, h2]
theorem m_trecv_3 (h : gL σ x = []) (h2 : (wl (gCs σ) (gLine σ) x 0)[0]? = some z) : m_trecv σ q x = (m_hand (m_endw (m_mt σ) z.1 z.2) q (kAt (gCs σ) z.1 z.2).2.2 1, 1) := by
  unfold m_trecv; rw [h, h2]
theorem m_trecv_4 (h : gL σ x = []) (h2 : (wl (gCs σ) (gLine σ) x 0)[0]? = none) (h3 : gShut σ x = true) : m_trecv σ q x = (m_hand σ q (nI 0) 0, 1) := by
  unfold m_trecv; rw [h, h2]; exact if_pos h3
theorem m_trecv_5 (h : gL σ x = []) (h2 : (wl (gCs σ) (gLine σ) x 0)[0]? = none) (h3 : gShut σ x = false) : m_trecv σ q x = (σ, 2) := by
  unfold m_trecv; rw [h, h2]; exact if_neg (by rw [h3]; decide)
end MS
