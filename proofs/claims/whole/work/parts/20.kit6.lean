/-! THE REFERENCE: its cells and the model -/
section KLG
variable {p : Program} {l : Launch} {e : Env} {R : Room} {s : State} {m : MethodId} {args : Array Value} {below : List Frame} {meth : Method} {c : Code} {H : Heap} {locs : List Loc} {cells slots : Nat} {Q : State → Prop}
variable {cc : ByteArray} {pc : Nat} {ls : Array Slot} {rest : List Value} {D : va_G} {cl : List vw_C} {tys : List (ClassId × FieldType)} {ws : va_W} {A : Nat → Prop} {H0 : Heap} {a : Nat}
theorem k_lald (hexec : p.tables.exec = Jvm.exec) (hb : c.code = cc) (hK : va_K D cl tys s) (hP : va_P D cl ws H) (q0 t0 : Nat) {cA : ClassId} {n : Nat} {f : Nat → Int64} (ha : ws[q0]? = some (a, .inl (cA, n, .inr (.inl f)))) (ht : tys[t0]? = some (cA, .long)) {i : Nat} (hi : i < n) (hn : n < 2 ^ 31) (hdg : decode cc pc = .ok (.laload, 1))
    (kk : W p l e R s m args below meth c H locs cells slots Q (F0 m (pc + 1) ls (.long (f i) :: rest))) : W p l e R s m args below meth c H locs cells slots Q (F0 m pc ls (.int (nI i) :: .ref a :: rest)) := by
  refine va_lald hexec hb hK hP q0 t0 ha ht (vp_in_nI hi hn) hdg ?_
  rw [nI_clamp (Nat.lt_trans hi hn)]
  exact kk
theorem updL_lN (f : Nat → Nat) (k x : Nat) : vp_updL (fun j => lN (f j)) k (lN x) = fun j => lN (va_up f k x j) := by
  funext j
  simp only [vp_updL, va_up]
  split <;> rfl
theorem k_last (hexec : p.tables.exec = Jvm.exec) (hb : c.code = cc) (hK : va_K D cl tys s) (hP : va_P D cl ws H) (hD : va_D A ws) (hS : va_S A H0 H locs) (q0 t0 : Nat) {cA : ClassId} {n : Nat} {f : Nat → Nat} (ha : ws[q0]? = some (a, .inl (cA, n, .inr (.inl (fun j => lN (f j)))))) (ht : tys[t0]? = some (cA, .long)) {i x : Nat} (hi : i < n) (hn : n < 2 ^ 31) (hdg : decode cc pc = .ok (.lastore, 1))
    (kk : ∀ (H1 : Heap) (locs1 : List Loc), va_P D cl (ws.set q0 (a, .inl (cA, n, .inr (.inl (fun j => lN (va_up f i x j)))))) H1 → va_D A (ws.set q0 (a, .inl (cA, n, .inr (.inl (fun j => lN (va_up f i x j)))))) → va_S A H0 H1 locs1 → W p l e R s m args below meth c H1 locs1 cells slots Q (F0 m (pc + 1) ls rest)) : W p l e R s m args below meth c H locs cells slots Q (F0 m pc ls (.long (lN x) :: .int (nI i) :: .ref a :: rest)) := by
  refine va_last hexec hb hK hP hD hS q0 t0 ha ht (vp_in_nI hi hn) hdg (fun H1 l1 h1 h2 h3 => ?_)
  rw [nI_clamp (Nat.lt_trans hi hn), updL_lN] at h1 h2
  exact kk H1 l1 h1 h2 h3
theorem k_topl {x y : Int64} (h : x = y) (k : W p l e R s m args below meth c H locs cells slots Q (F0 m pc ls (.long y :: rest))) : W p l e R s m args below meth c H locs cells slots Q (F0 m pc ls (.long x :: rest)) := by
  subst h
  exact k
/-- two longs compared, and the branch behind it -/
theorem k_lcmpge (hexec : p.tables.exec = Jvm.exec) (hb : c.code = cc) {x y : Nat} {off : Int} {tgt : Nat} (hd0 : decode cc pc = .ok (.lcmp, 1)) (hdg : decode cc (pc + 1) = .ok (.ifCond .ge off, 3)) (ht : ((pc + 1 : Nat) : Int) + off = (tgt : Int)) (h1 : x < 2 ^ 31) (h2 : y < 2 ^ 31)
    (kt : y ≤ x → W p l e R s m args below meth c H locs cells slots Q (F0 m tgt ls rest)) (kf : x < y → W p l e R s m args below meth c H locs cells slots Q (F0 m (pc + 4) ls rest)) : W p l e R s m args below meth c H locs cells slots Q (F0 m pc ls (.long (lN y) :: .long (lN x) :: rest)) := by
  refine W.lcmp hexec hb hd0 ?_
  exact lv_if_ge hexec hb hdg ht (fun h => kt ((lN_le h2 h1).mp ((lg_cmp_ge _ _).mp h))) (fun h => kf (Nat.lt_of_not_le (fun z => h ((lg_cmp_ge _ _).mpr ((lN_le h2 h1).mpr z)))))
end KLG
def KC (kn : Nat) (kroom kmany : Nat → Nat) (kclo : Nat → Bool) (kvals : Nat → Int32) (room : Nat → Nat) (shut : Nat → Bool) (L : Nat → List Int32) : Prop :=
  kn ≤ 40 ∧ ∀ c, c < kn → kroom c = room c ∧ room c ≤ 8 ∧ kclo c = shut c ∧ kmany c = (L c).length ∧ (L c).length ≤ room c ∧ ∀ i (h : i < (L c).length), kvals (8 * c + i) = (L c)[i]
def KS (kst : Nat → Nat) (kgot : Nat → Int32) (ksent : Nat → Bool) (kdone : Nat → Int32) (st : Nat → Nat) (rc : Nat → Int32) (sn : Nat → Nat) (cd : Nat → Int32) : Prop :=
  ∀ r, r < 16 → kst r = st r ∧ kgot r = rc r ∧ sn r = (if ksent r = true then 1 else 0) ∧ kdone r = cd r
def KR1 (kn r kst kpl : Nat) (kof : Int32) (kca : Nat) (kcc kcw : Nat → Nat) (kcv : Nat → Int32) (l : List Kase) : Prop :=
  kst < 5 ∧ (kst ≠ 1 → kst ≠ 2 → kca = l.length ∧ l.length ≤ 6 ∧ ∀ i (h : i < l.length), kcc (6 * r + i) = (l[i]).1 ∧ kcw (6 * r + i) = (l[i]).2.1 ∧ kcv (6 * r + i) = (l[i]).2.2 ∧ (l[i]).1 < kn ∧ (l[i]).2.1 < 2) ∧
  (kst = 1 → l = [(kpl, 0, kof)] ∧ kpl < kn) ∧ (kst = 2 → l = [(kpl, 1, nI 0)] ∧ kpl < kn)
def KR (kn : Nat) (kst kpl : Nat → Nat) (kof : Nat → Int32) (kca kcc kcw : Nat → Nat) (kcv : Nat → Int32) (cs : Nat → List Kase) : Prop := ∀ r, r < 16 → KR1 kn r (kst r) (kpl r) (kof r) (kca r) kcc kcw kcv (cs r)
def KL (kst ksi : Nat → Nat) (kmo : Nat) (line : List Nat) : Prop :=
  line.Nodup ∧ (∀ r, r ∈ line ↔ r < 16 ∧ (kst r = 1 ∨ kst r = 2 ∨ kst r = 3)) ∧ line.Pairwise (fun a b => ksi a < ksi b) ∧ (∀ r, r ∈ line → ksi r < kmo) ∧ kmo < 1000000
def RD (kn : Nat) (kroom : Nat → Nat) (kclo : Nat → Bool) (kmany : Nat → Nat) (kvals : Nat → Int32) (kst ksi kpl : Nat → Nat) (kof kgot : Nat → Int32) (ksent : Nat → Bool) (kdone : Nat → Int32) (kca kcc kcw : Nat → Nat) (kcv : Nat → Int32) (kmo : Nat) (kmt kft : Int32) (σ : Sg) : Prop :=
  (kn = gN σ ∧ KC kn kroom kmany kclo kvals (gRoom σ) (gShut σ) (gL σ)) ∧ KS kst kgot ksent kdone (gSt σ) (gRc σ) (gSn σ) (gCd σ) ∧ KR kn kst kpl kof kca kcc kcw kcv (gCs σ) ∧ KL kst ksi kmo (gLine σ) ∧ kmt = gMt σ ∧ kft = gFt σ
def caI (o : Option Nat) : Int32 := match o with
  | none => -1
  | some i => nI i
def wtB (kst : Nat → Nat) (cs : Nat → List Kase) (x w q : Nat) : Bool := (decide (kst q = 1) || decide (kst q = 2) || decide (kst q = 3)) && (fa (cs q) x w).isSome
theorem fa_one {p a : Nat} {v : Int32} {x w : Nat} : fa [(p, a, v)] x w = if kHit x w (p, a, v) = true then some 0 else none := by
  unfold fa
  rw [List.findIdx?_cons]
  cases kHit x w (p, a, v) <;> simp
section WT
variable {kst : Nat → Nat} {cs : Nat → List Kase} {x w q p k : Nat} {v : Int32}
theorem wt_3s (h : kst q = 3) (hf : fa (cs q) x w = some k) : nI 1 = bI (wtB kst cs x w q) := by simp only [wtB, h, hf, Option.isSome_some]; rfl
theorem wt_3n (h : kst q = 3) (hf : fa (cs q) x w = none) : nI 0 = bI (wtB kst cs x w q) := by simp only [wtB, h, hf, Option.isSome_none]; rfl
theorem wt_1t (h : kst q = 1) (hc : cs q = [(p, 0, v)]) (hw : ¬ w = 1) (hw3 : w < 3) (hp : p = x) : nI 1 = bI (wtB kst cs x w q) := by
  have e : kHit x w (p, 0, v) = true := by
    have : w = 0 ∨ w = 2 := by omega
    rcases this with rfl | rfl <;> simp [kHit, hp]
  simp only [wtB, h, hc, fa_one, e, if_true, Option.isSome_some]; rfl
theorem wt_1w (h : kst q = 1) (hc : cs q = [(p, 0, v)]) (hw : w = 1) : nI 0 = bI (wtB kst cs x w q) := by
  have e : kHit x w (p, 0, v) = false := by subst hw; simp [kHit]
  simp only [wtB, h, hc, fa_one, e]; rfl
theorem wt_1p {a : Nat} (hc : cs q = [(p, a, v)]) (hp : ¬ p = x) : nI 0 = bI (wtB kst cs x w q) := by
  have e : kHit x w (p, a, v) = false := by simp [kHit, hp]
  have e2 : wtB kst cs x w q = false := by simp only [wtB, hc, fa_one, e]; simp
  rw [e2]; rfl
theorem wt_2t (h : kst q = 2) (hc : cs q = [(p, 1, v)]) (hw : ¬ w = 0) (hw3 : w < 3) (hp : p = x) : nI 1 = bI (wtB kst cs x w q) := by
  have e : kHit x w (p, 1, v) = true := by
    have : w = 1 ∨ w = 2 := by omega
    rcases this with rfl | rfl <;> simp [kHit, hp]
  simp only [wtB, h, hc, fa_one, e, if_true, Option.isSome_some]; rfl
theorem wt_2w (h : kst q = 2) (hc : cs q = [(p, 1, v)]) (hw : w = 0) : nI 0 = bI (wtB kst cs x w q) := by
  have e : kHit x w (p, 1, v) = false := by subst hw; simp [kHit]
  simp only [wtB, h, hc, fa_one, e]; rfl
theorem wt_0 (h1 : ¬ kst q = 1) (h2 : ¬ kst q = 2) (h3 : ¬ kst q = 3) : nI 0 = bI (wtB kst cs x w q) := by
  have e2 : wtB kst cs x w q = false := by simp [wtB, h1, h2, h3]
  rw [e2]; rfl
theorem wtB_t (h : wtB kst cs x w q = true) : (kst q = 1 ∨ kst q = 2 ∨ kst q = 3) ∧ ∃ i, fa (cs q) x w = some i := by
  unfold wtB at h
  rw [Bool.and_eq_true, Bool.or_eq_true, Bool.or_eq_true] at h
  refine ⟨?_, Option.isSome_iff_exists.mp h.2⟩
  rcases h.1 with (h | h) | h
  · exact Or.inl (of_decide_eq_true h)
  · exact Or.inr (Or.inl (of_decide_eq_true h))
  · exact Or.inr (Or.inr (of_decide_eq_true h))
theorem wtB_of (h : kst q = 1 ∨ kst q = 2 ∨ kst q = 3) {i : Nat} (hf : fa (cs q) x w = some i) : wtB kst cs x w q = true := by
  unfold wtB
  rw [hf]
  rcases h with h | h | h <;> simp [h]
end WT
/-- how many wait at x, way w, who came before r, among the routines below j -/
def ahd (kst ksi : Nat → Nat) (cs : Nat → List Kase) (x w r j : Nat) : Nat := ((List.range j).filter (fun q => wtB kst cs x w q && decide (ksi q < ksi r))).length
theorem ahd_succ {kst ksi : Nat → Nat} {cs : Nat → List Kase} {x w r j : Nat} : ahd kst ksi cs x w r (j + 1) = ahd kst ksi cs x w r j + (if (wtB kst cs x w j && decide (ksi j < ksi r)) = true then 1 else 0) := by
  unfold ahd
  rw [pl_succ, List.length_append]
  split <;> rfl
theorem ahd_le {kst ksi : Nat → Nat} {cs : Nat → List Kase} {x w r j : Nat} : ahd kst ksi cs x w r j ≤ j := by
  unfold ahd
  exact Nat.le_trans (List.length_filter_le _ _) (Nat.le_of_eq List.length_range)
theorem len_of_same {l1 l2 : List Nat} (h1 : l1.Nodup) (h2 : l2.Nodup) (h : ∀ a, a ∈ l1 ↔ a ∈ l2) : l1.length = l2.length :=
  ((List.perm_ext_iff_of_nodup h1 h2).mpr h).length_eq
theorem wl_ahd {kst ksi : Nat → Nat} {kmo : Nat} {cs : Nat → List Kase} {line : List Nat} {x w r i : Nat} (hK : KL kst ksi kmo line) (hr : r ∈ line) (hf : fa (cs r) x w = some i) : (wl cs line x w)[ahd kst ksi cs x w r 16]? = some (r, i) := by
  obtain ⟨j, hj, ej⟩ := List.getElem_of_mem hr
  have hf' : fa (cs line[j]) x w = some i := by rw [ej]; exact hf
  have h1 := wl_found hj hf'
  rw [ej] at h1
  have hsp := tk_split line j hj
  have hpw : (line.take j ++ line[j] :: line.drop (j + 1)).Pairwise (fun a b => ksi a < ksi b) := by rw [← hsp]; exact hK.2.2.1
  rw [List.pairwise_append, List.pairwise_cons] at hpw
  have e : ahd kst ksi cs x w r 16 = (wl cs (line.take j) x w).length := by
    have e2 : (wl cs (line.take j) x w).length = ((line.take j).filter (fun q => (fa (cs q) x w).isSome)).length := by
      unfold wl
      rw [List.length_filterMap_eq_countP, List.countP_eq_length_filter]
      congr 2
      funext q
      cases fa (cs q) x w <;> rfl
    rw [e2]
    unfold ahd
    refine len_of_same (List.Pairwise.filter _ List.nodup_range) (List.Pairwise.filter _ (List.Pairwise.sublist (List.take_sublist j line) hK.1)) (fun q => ?_)
    rw [List.mem_filter, List.mem_filter, List.mem_range, Bool.and_eq_true]
    constructor
    · rintro ⟨h16, hw, hlt⟩
      obtain ⟨hs, k, hk⟩ := wtB_t hw
      have hql : q ∈ line := (hK.2.1 q).mpr ⟨h16, hs⟩
      have hlt' := of_decide_eq_true hlt
      refine ⟨?_, by rw [hk]; rfl⟩
      rw [hsp] at hql
      rcases List.mem_append.mp hql with h | h
      · exact h
      · rcases List.mem_cons.mp h with h | h
        · rw [h, ej] at hlt'; omega
        · have := hpw.2.1.1 q h
          rw [ej] at this
          omega
    · rintro ⟨hm, hs⟩
      have hql : q ∈ line := List.mem_of_mem_take hm
      obtain ⟨h16, hst⟩ := (hK.2.1 q).mp hql
      obtain ⟨k, hk⟩ := Option.isSome_iff_exists.mp hs
      refine ⟨h16, wtB_of hst hk, decide_eq_true ?_⟩
      have := hpw.2.2 q hm line[j] List.mem_cons_self
      rw [ej] at this
      exact this
  rw [e]
  exact h1
theorem wl_none {kst ksi : Nat → Nat} {kmo : Nat} {cs : Nat → List Kase} {line : List Nat} {x w : Nat} {y : Int32} (hK : KL kst ksi kmo line) (hno : ∀ r, r < 16 → wtB kst cs x w r = true → ¬ nI (ahd kst ksi cs x w r 16) = y) : wlAt (wl cs line x w) y = none := by
  cases h : wlAt (wl cs line x w) y with
  | none => rfl
  | some z =>
    exfalso
    unfold wlAt at h
    split at h
    · cases h
    · rename_i hy
      obtain ⟨k, hk, rfl⟩ := nI_of hy
      rw [nI_clamp hk] at h
      have hm := wl_mem (List.mem_of_getElem? h)
      obtain ⟨h16, hst⟩ := (hK.2.1 z.1).mp hm.1
      have ha := wl_ahd hK hm.1 hm.2
      have hw := wtB_of (kst := kst) (cs := cs) (x := x) (w := w) hst hm.2
      refine hno z.1 h16 hw ?_
      congr 1
      have hnd : (wl cs line x w).Pairwise (fun a b => ksi a.1 < ksi b.1) := by
        unfold wl
        refine List.Pairwise.filterMap _ ?_ hK.2.2.1
        intro a b hab c hc d hd
        rw [Option.map_eq_some_iff] at hc hd
        obtain ⟨i1, -, e1⟩ := hc
        obtain ⟨i2, -, e2⟩ := hd
        rw [← e1, ← e2]
        exact hab
      obtain ⟨l1, e1⟩ := List.getElem?_eq_some_iff.mp ha
      obtain ⟨l2, e2⟩ := List.getElem?_eq_some_iff.mp h
      rw [List.pairwise_iff_getElem] at hnd
      rcases Nat.lt_trichotomy (ahd kst ksi cs x w z.1 16) k with h9 | h9 | h9
      · have := hnd _ _ l1 l2 h9
        rw [e1, e2] at this
        exact absurd this (Nat.lt_irrefl _)
      · exact h9
      · have := hnd _ _ l2 l1 h9
        rw [e1, e2] at this
        exact absurd this (Nat.lt_irrefl _)
