theorem up_c {α : Type} {f : Nat → α} {k : Nat} {v : α} {P : Nat → α → Prop} (h : ∀ j, j ≠ k → P j (f j)) (hk : P k v) : ∀ j, P j (va_up f k v j) := by
  intro j
  by_cases e : j = k
  · subst e; rw [va_up_self]; exact hk
  · rw [va_up_ne _ _ e]; exact h j e
theorem KC.push {kn : Nat} {kroom kmany : Nat → Nat} {kclo : Nat → Bool} {kvals : Nat → Int32} {room : Nat → Nat} {shut : Nat → Bool} {L : Nat → List Int32} (h : KC kn kroom kmany kclo kvals room shut L) {x : Nat} (hx : x < kn) (hl : (L x).length < room x) (v : Int32) : KC kn kroom (va_up kmany x (kmany x + 1)) kclo (va_up kvals (8 * x + kmany x) v) room shut (va_up L x (L x ++ [v])) := by
  refine ⟨h.1, fun d hd => ?_⟩
  obtain ⟨e1, e2, e3, e4, e5, e6⟩ := h.2 d hd
  obtain ⟨f1, f2, f3, f4, f5, f6⟩ := h.2 x hx
  by_cases e : d = x
  · subst e
    simp only [va_up_self]
    refine ⟨e1, e2, e3, by simp [e4], by simp; omega, fun i hi => ?_⟩
    simp at hi
    by_cases hi2 : i < (L d).length
    · rw [va_up_ne _ _ (by omega), List.getElem_append_left hi2]; exact e6 i hi2
    · have : i = (L d).length := by omega
      subst this
      rw [e4, va_up_self]
      simp
  · simp only [va_up_ne _ _ e]
    refine ⟨e1, e2, e3, e4, e5, fun i hi => ?_⟩
    rw [va_up_ne _ _ (by omega)]
    exact e6 i hi
theorem KC.pop {kn : Nat} {kroom kmany : Nat → Nat} {kclo : Nat → Bool} {kvals : Nat → Int32} {room : Nat → Nat} {shut : Nat → Bool} {L : Nat → List Int32} (h : KC kn kroom kmany kclo kvals room shut L) {x : Nat} (hx : x < kn) {v : Int32} {vs : List Int32} (hl : L x = v :: vs) : kvals (8 * x) = v ∧ KC kn kroom (va_up kmany x (kmany x - 1)) kclo (va_cpy kvals kvals (8 * x + 1) (8 * x) (kmany x - 1)) room shut (popL L x) := by
  obtain ⟨f1, f2, f3, f4, f5, f6⟩ := h.2 x hx
  have f4' := f4
  rw [hl] at f4' f5
  simp only [List.length_cons] at f4' f5
  have g : ∀ i (hi : i < vs.length), kvals (8 * x + (i + 1)) = vs[i] := fun i hi => by
    rw [f6 (i + 1) (by rw [hl]; simp; omega)]
    simp [hl]
  refine ⟨?_, h.1, fun d hd => ?_⟩
  · have := f6 0 (by rw [hl]; simp)
    simpa [hl] using this
  · obtain ⟨e1, e2, e3, e4, e5, e6⟩ := h.2 d hd
    unfold popL
    by_cases e : d = x
    · subst e
      simp only [va_up_self, hl, List.tail_cons]
      refine ⟨e1, e2, e3, by omega, by omega, fun i hi => ?_⟩
      rw [pk_cpy_in (by omega) (by omega), show 8 * d + 1 + (8 * d + i - 8 * d) = 8 * d + (i + 1) by omega]
      exact g i hi
    · simp only [va_up_ne _ _ e]
      refine ⟨e1, e2, e3, e4, e5, fun i hi => ?_⟩
      rw [pk_cpy_out (by omega)]
      exact e6 i hi
theorem KC.new {kn : Nat} {kroom kmany : Nat → Nat} {kclo : Nat → Bool} {kvals : Nat → Int32} {room : Nat → Nat} {shut : Nat → Bool} {L : Nat → List Int32} (h : KC kn kroom kmany kclo kvals room shut L) (hn : kn < 40) {k : Nat} (hk : k ≤ 8) : KC (kn + 1) (va_up kroom kn k) (va_up kmany kn 0) (va_up kclo kn false) kvals (va_up room kn k) (va_up shut kn false) (va_up L kn []) := by
  refine ⟨by omega, fun d hd => ?_⟩
  by_cases e : d = kn
  · subst e
    simp only [va_up_self]
    exact ⟨trivial, hk, trivial, rfl, by simp, fun i hi => absurd hi (by simp)⟩
  · simp only [va_up_ne _ _ e]
    exact h.2 d (by omega)
theorem KC.close {kn : Nat} {kroom kmany : Nat → Nat} {kclo : Nat → Bool} {kvals : Nat → Int32} {room : Nat → Nat} {shut : Nat → Bool} {L : Nat → List Int32} (h : KC kn kroom kmany kclo kvals room shut L) (x : Nat) : KC kn kroom kmany (va_up kclo x true) kvals room (va_up shut x true) L := by
  refine ⟨h.1, fun d hd => ?_⟩
  obtain ⟨e1, e2, e3, e4, e5, e6⟩ := h.2 d hd
  by_cases e : d = x
  · subst e
    simp only [va_up_self]
    exact ⟨e1, e2, trivial, e4, e5, e6⟩
  · simp only [va_up_ne _ _ e]
    exact ⟨e1, e2, e3, e4, e5, e6⟩
section KSS
variable {kst : Nat → Nat} {kgot : Nat → Int32} {ksent : Nat → Bool} {kdone : Nat → Int32} {st : Nat → Nat} {rc : Nat → Int32} {sn : Nat → Nat} {cd : Nat → Int32}
theorem KS.stt (h : KS kst kgot ksent kdone st rc sn cd) (q v : Nat) : KS (va_up kst q v) kgot ksent kdone (va_up st q v) rc sn cd := by
  intro r hr
  obtain ⟨e1, e2, e3, e4⟩ := h r hr
  refine ⟨?_, e2, e3, e4⟩
  by_cases e : r = q
  · subst e; rw [va_up_self, va_up_self]
  · rw [va_up_ne _ _ e, va_up_ne _ _ e]; exact e1
theorem KS.got (h : KS kst kgot ksent kdone st rc sn cd) (q : Nat) (v : Int32) : KS kst (va_up kgot q v) ksent kdone st (va_up rc q v) sn cd := by
  intro r hr
  obtain ⟨e1, e2, e3, e4⟩ := h r hr
  refine ⟨e1, ?_, e3, e4⟩
  by_cases e : r = q
  · subst e; rw [va_up_self, va_up_self]
  · rw [va_up_ne _ _ e, va_up_ne _ _ e]; exact e2
theorem KS.sent (h : KS kst kgot ksent kdone st rc sn cd) (q : Nat) (b : Bool) : KS kst kgot (va_up ksent q b) kdone st rc (va_up sn q (if b = true then 1 else 0)) cd := by
  intro r hr
  obtain ⟨e1, e2, e3, e4⟩ := h r hr
  refine ⟨e1, e2, ?_, e4⟩
  by_cases e : r = q
  · subst e; rw [va_up_self, va_up_self]
  · rw [va_up_ne _ _ e, va_up_ne _ _ e]; exact e3
theorem KS.done (h : KS kst kgot ksent kdone st rc sn cd) (q : Nat) (v : Int32) : KS kst kgot ksent (va_up kdone q v) st rc sn (va_up cd q v) := by
  intro r hr
  obtain ⟨e1, e2, e3, e4⟩ := h r hr
  refine ⟨e1, e2, e3, ?_⟩
  by_cases e : r = q
  · subst e; rw [va_up_self, va_up_self]
  · rw [va_up_ne _ _ e, va_up_ne _ _ e]; exact e4
theorem KS.endw (h : KS kst kgot ksent kdone st rc sn cd) {q : Nat} (hq : q < 16) (i : Nat) : KS kst kgot ksent (cdE kst kdone q i) st rc sn (cdE st cd q i) := by
  unfold cdE
  rw [(h q hq).1]
  split
  · exact h.done q _
  · exact h
theorem KS.clr (h : KS kst kgot ksent kdone st rc sn cd) : KS (fl 16 0 kst) (fl 16 (nI 0) kgot) (fl 16 false ksent) (fl 16 (-1) kdone) (fl 16 0 st) (fl 16 (nI 0) rc) (fl 16 0 sn) (fl 16 (-1) cd) := by
  intro r hr
  simp only [fl, if_pos hr]
  exact ⟨trivial, trivial, rfl, trivial⟩
end KSS
section KRR
variable {kn : Nat} {kst kpl : Nat → Nat} {kof : Nat → Int32} {kca kcc kcw : Nat → Nat} {kcv : Nat → Int32} {cs : Nat → List Kase}
theorem KR.ready (h : KR kn kst kpl kof kca kcc kcw kcv cs) (q : Nat) {v : Nat} (hv : v = 0 ∨ v = 4) : KR kn (va_up kst q v) kpl kof (va_up kca q 0) kcc kcw kcv (va_up cs q []) := by
  intro r hr
  by_cases e : r = q
  · subst e
    simp only [va_up_self]
    exact ⟨by omega, fun _ _ => ⟨rfl, by simp, fun i hi => absurd hi (by simp)⟩, fun h => by omega, fun h => by omega⟩
  · simp only [va_up_ne _ _ e]
    exact h r hr
theorem KR.ready' (h : KR kn kst kpl kof kca kcc kcw kcv cs) {q : Nat} {v : Nat} (hv : v = 0 ∨ v = 4) (hc : cs q = []) : KR kn (va_up kst q v) kpl kof (va_up kca q 0) kcc kcw kcv cs := by
  intro r hr
  have := h.ready q hv r hr
  by_cases e : r = q
  · subst e; rw [va_up_self (cs)] at this; rw [hc]; exact this
  · rw [va_up_ne cs _ e] at this; exact this
theorem KR.st0 (h : KR kn kst kpl kof kca kcc kcw kcv cs) {q : Nat} (hq : kst q = 0 ∨ kst q = 4) : KR kn (va_up kst q 0) kpl kof kca kcc kcw kcv cs := by
  intro r hr
  have := h r hr
  by_cases e : r = q
  · subst e
    rw [va_up_self]
    exact ⟨by omega, fun _ _ => this.2.1 (by omega) (by omega), fun h => by omega, fun h => by omega⟩
  · rw [va_up_ne _ _ e]; exact this
theorem KR.w1 (h : KR kn kst kpl kof kca kcc kcw kcv cs) (q : Nat) {x : Nat} (hx : x < kn) (v : Int32) : KR kn (va_up kst q 1) (va_up kpl q x) (va_up kof q v) kca kcc kcw kcv (va_up cs q [(x, 0, v)]) := by
  intro r hr
  by_cases e : r = q
  · subst e
    simp only [va_up_self]
    exact ⟨by omega, fun h => absurd rfl h, fun _ => ⟨rfl, hx⟩, fun h => by omega⟩
  · simp only [va_up_ne _ _ e]; exact h r hr
theorem KR.w2 (h : KR kn kst kpl kof kca kcc kcw kcv cs) (q : Nat) {x : Nat} (hx : x < kn) : KR kn (va_up kst q 2) (va_up kpl q x) kof kca kcc kcw kcv (va_up cs q [(x, 1, nI 0)]) := by
  intro r hr
  by_cases e : r = q
  · subst e
    simp only [va_up_self]
    exact ⟨by omega, fun _ h => absurd rfl h, fun h => by omega, fun _ => ⟨rfl, hx⟩⟩
  · simp only [va_up_ne _ _ e]; exact h r hr
theorem KR.w3 (h : KR kn kst kpl kof kca kcc kcw kcv cs) {q : Nat} (hq : kst q = 0 ∨ kst q = 4) : KR kn (va_up kst q 3) kpl kof kca kcc kcw kcv cs := by
  intro r hr
  have := h r hr
  by_cases e : r = q
  · subst e
    rw [va_up_self]
    exact ⟨by omega, fun _ _ => this.2.1 (by omega) (by omega), fun h => by omega, fun h => by omega⟩
  · rw [va_up_ne _ _ e]; exact this
theorem KR.mono (h : KR kn kst kpl kof kca kcc kcw kcv cs) : KR (kn + 1) kst kpl kof kca kcc kcw kcv cs := by
  intro r hr
  obtain ⟨h1, h2, h3, h4⟩ := h r hr
  refine ⟨h1, fun a b => ?_, fun a => ⟨(h3 a).1, by have := (h3 a).2; omega⟩, fun a => ⟨(h4 a).1, by have := (h4 a).2; omega⟩⟩
  obtain ⟨e1, e2, e3⟩ := h2 a b
  exact ⟨e1, e2, fun i hi => ⟨(e3 i hi).1, (e3 i hi).2.1, (e3 i hi).2.2.1, by have := (e3 i hi).2.2.2.1; omega, (e3 i hi).2.2.2.2⟩⟩
theorem KR.add (h : KR kn kst kpl kof kca kcc kcw kcv cs) {q : Nat} (hq : q < 16) (hs : kst q = 0 ∨ kst q = 4) (hl : (cs q).length < 6) {x w : Nat} (hx : x < kn) (hw : w < 2) (v : Int32) : KR kn kst kpl kof (va_up kca q (kca q + 1)) (va_up kcc (6 * q + kca q) x) (va_up kcw (6 * q + kca q) w) (va_up kcv (6 * q + kca q) v) (va_up cs q (cs q ++ [(x, w, v)])) := by
  intro r hr
  obtain ⟨f1, f2, f3⟩ := (h q hq).2.1 (by omega) (by omega)
  obtain ⟨h1, h2, h3, h4⟩ := h r hr
  by_cases e : r = q
  · subst e
    simp only [va_up_self]
    refine ⟨h1, fun _ _ => ⟨by simp [f1], by simp; omega, fun i hi => ?_⟩, fun h => by omega, fun h => by omega⟩
    simp at hi
    by_cases hi2 : i < (cs r).length
    · have hne : 6 * r + i ≠ 6 * r + kca r := by omega
      simp only [va_up_ne _ _ hne, List.getElem_append_left hi2]
      exact f3 i hi2
    · have : i = (cs r).length := by omega
      subst this
      simp only [f1, va_up_self]
      simp [hx, hw]
  · simp only [va_up_ne _ _ e]
    refine ⟨h1, fun a b => ?_, h3, h4⟩
    obtain ⟨e1, e2, e3⟩ := h2 a b
    refine ⟨e1, e2, fun i hi => ?_⟩
    have hne : 6 * r + i ≠ 6 * q + kca q := by omega
    simp only [va_up_ne _ _ hne]
    exact e3 i hi
theorem KR.clr (h : KR kn kst kpl kof kca kcc kcw kcv cs) : KR 0 (fl 16 0 kst) kpl kof (fl 16 0 kca) kcc kcw kcv (fl 16 [] cs) := by
  intro r hr
  simp only [fl, if_pos hr]
  exact ⟨by decide, fun _ _ => ⟨rfl, by simp, fun i hi => absurd hi (by simp)⟩, fun h => by omega, fun h => by omega⟩
end KRR
theorem mem_outL {line : List Nat} {q r : Nat} : r ∈ outL line q ↔ r ∈ line ∧ ¬ r = q := by
  unfold outL
  rw [List.mem_filter]
  simp
theorem outL_same {line : List Nat} {q : Nat} (h : q ∉ line) : outL line q = line := by
  unfold outL
  rw [List.filter_eq_self]
  intro a ha
  have : ¬ a = q := fun e => h (e ▸ ha)
  simp [this]
section KLL
variable {kst ksi : Nat → Nat} {kmo : Nat} {line : List Nat}
theorem KL.ready (h : KL kst ksi kmo line) (q : Nat) {v : Nat} (hv : v = 0 ∨ v = 4) : KL (va_up kst q v) ksi kmo (outL line q) := by
  refine ⟨List.Pairwise.filter _ h.1, fun r => ?_, List.Pairwise.filter _ h.2.2.1, fun r hr => h.2.2.2.1 r (mem_outL.mp hr).1, h.2.2.2.2⟩
  rw [mem_outL, h.2.1 r]
  by_cases e : r = q
  · subst e; rw [va_up_self]; constructor
    · intro z; exact absurd rfl z.2
    · intro z; omega
  · rw [va_up_ne _ _ e]; exact ⟨fun z => z.1, fun z => ⟨z, e⟩⟩
theorem KL.same (h : KL kst ksi kmo line) {q : Nat} {v : Nat} (hv : v = 0 ∨ v = 4) (hq : q ∉ line) : KL (va_up kst q v) ksi kmo line := by
  have := h.ready q hv
  rw [outL_same hq] at this
  exact this
theorem KL.wait (h : KL kst ksi kmo line) {q : Nat} (hq : q < 16) (hn : q ∉ line) {v : Nat} (hv : v = 1 ∨ v = 2 ∨ v = 3) (hm : kmo + 1 < 1000000) : KL (va_up kst q v) (va_up ksi q kmo) (kmo + 1) (line ++ [q]) := by
  have hne : ∀ r, r ∈ line → ¬ r = q := fun r hr e => hn (e ▸ hr)
  refine ⟨?_, fun r => ?_, ?_, fun r hr => ?_, hm⟩
  · unfold List.Nodup
    rw [List.pairwise_append]
    exact ⟨h.1, List.pairwise_singleton _ _, fun a ha b hb => by rw [List.mem_singleton.mp hb]; exact hne a ha⟩
  · rw [List.mem_append, List.mem_singleton, h.2.1 r]
    by_cases e : r = q
    · subst e; rw [va_up_self]; exact ⟨fun _ => ⟨hq, hv⟩, fun _ => Or.inr rfl⟩
    · rw [va_up_ne _ _ e]; exact ⟨fun z => z.elim id (fun z => absurd z e), Or.inl⟩
  · rw [List.pairwise_append]
    refine ⟨?_, List.pairwise_singleton _ _, fun a ha b hb => ?_⟩
    · refine List.Pairwise.imp_of_mem ?_ h.2.2.1
      intro a b ha hb hab
      rw [va_up_ne _ _ (hne a ha), va_up_ne _ _ (hne b hb)]
      exact hab
    · rw [List.mem_singleton.mp hb, va_up_self, va_up_ne _ _ (hne a ha)]
      exact h.2.2.2.1 a ha
  · rcases List.mem_append.mp hr with hr | hr
    · rw [va_up_ne _ _ (hne r hr)]
      have := h.2.2.2.1 r hr
      omega
    · rw [List.mem_singleton.mp hr, va_up_self]; omega
theorem KL.clr (h : KL kst ksi kmo line) : KL (fl 16 0 kst) ksi kmo [] := by
  refine ⟨List.nodup_nil, fun r => ?_, List.Pairwise.nil, fun r hr => absurd hr List.not_mem_nil, h.2.2.2.2⟩
  constructor
  · intro z; exact absurd z List.not_mem_nil
  · intro z
    have := z.2
    simp only [fl, if_pos z.1] at this
    omega
end KLL
theorem one_val {cs : Nat → List Kase} {q x w i p a : Nat} {v : Int32} (hc : cs q = [(p, a, v)]) (hf : fa (cs q) x w = some i) : i = 0 ∧ kAt cs q i = (p, a, v) ∧ kHit x w (p, a, v) = true := by
  rw [hc, fa_one] at hf
  split at hf
  · rename_i h
    cases hf
    exact ⟨rfl, by unfold kAt; rw [hc]; rfl, h⟩
  · cases hf
theorem kHit_way {x w : Nat} {k : Kase} (h : kHit x w k = true) : w = 2 ∨ k.2.1 = w := by
  unfold kHit at h
  rw [Bool.and_eq_true, Bool.or_eq_true] at h
  exact h.2.imp of_decide_eq_true of_decide_eq_true
theorem cpy_0 (f : Nat → Int32) (a b : Nat) : f = va_cpy f f a b 0 := by
  funext j
  unfold va_cpy
  rw [if_neg (by omega)]
theorem cpy_succ {f g : Nat → Int32} {x i : Nat} (h : g = va_cpy f f (8 * x + 1) (8 * x) i) : va_up g (8 * x + i) (g (8 * x + i + 1)) = va_cpy f f (8 * x + 1) (8 * x) (i + 1) := by
  subst h
  funext j
  by_cases e : j = 8 * x + i
  · subst e
    rw [va_up_self, pk_cpy_out (by omega), pk_cpy_in (by omega) (by omega)]
    congr 1
    omega
  · rw [va_up_ne _ _ e]
    by_cases h1 : 8 * x ≤ j ∧ j < 8 * x + i
    · rw [pk_cpy_in h1.1 h1.2, pk_cpy_in h1.1 (by omega)]
    · rw [pk_cpy_out (by omega), pk_cpy_out (by omega)]
