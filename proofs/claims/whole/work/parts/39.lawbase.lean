/-! THE CLAIM OUT OF ONE WALK OF THE LAW'S BODY. Your part is whole_start (and what it stands on); all else here is the same for every law, but numbers. -/
def R_law : String := "ChannelDeskLaw"
def lw_P (b : Addr) (xs : List Int32) (args : Array Value) (s : State) : Prop := args = #[.ref b] ∧ s.IntsAt b xs ∧ xs.length ≤ 2560 ∧ (Jvm.Cond.and given_1 narrow_1).before args s = true
def lw_Q (_ : Array Value) (s : State) (o : Outcome) (t : State) : Prop := o = .returned (some (.int 1)) ∧ Framed s o t [] 33 1719
def lw_Z (below : List Frame) (a : Array Value) (s : State) : State → Prop := fun t => ∃ o, t.status = .running ∧ Ended t below o ∧ lw_Q a s o t
/-- the law's own end, with 1 on the stack, nothing written that was there before, its room as the claim has it -/
theorem lw_ret {p : Program} {l : Launch} {e : Env} {s : State} {m : MethodId} {below : List Frame} {meth : Method} {c : Code} {b : Nat} (hx : p.tables.exec = Jvm.exec) (hb : c.code = code) (hr : meth.sig.returnType = ret) (hlocks : meth.locks = false) {pc : Nat} {H : Heap} {ls : Array Slot} (hdg : decode code pc = .ok (.ireturn, 1)) : W p l e room_1 s m #[Value.ref b] below meth c H [] 33 1719 (lw_Z below #[Value.ref b] s) (F0 m pc ls [.int 1]) := by
  intro T hT X
  obtain ⟨fs, hret, hrun, hended, hW, hframe⟩ := X.leave (v := some (.int 1)) (hlocks := hlocks) (fun h => by rw [hr] at h; cases h)
  have hmeth' : T.vm.method? m = some meth := X.method'
  refine ⟨T.setFrames fs, ?_, .returned (some (.int 1)), hrun, hended, rfl, ⟨_, rfl⟩, hW, hframe⟩
  jvm_step X.here [X.here.top, hx, hb, hdg, hmeth', hr, ret, narrow_b1]
  (try refine ⟨rfl, ?_⟩); (try refine ⟨rfl, ?_⟩)
  first | (intro acts; rw [hret _ acts rfl rfl rfl]) | rw [hret _ _ rfl rfl rfl]
  exact Steps.refl _
/-- what holds at the law's entry: the machine, the code, the tables' words (any of lw_tbl by 'hts w (by decide +kernel)'), the script of L ints xs at the cell b, what the Statement gives of the start (any of its parts by flat_of_before) -/
def lw_At (p : Program) (s : State) (m : MethodId) (meth : Method) (c : Code) (b L : Nat) (xs : Nat → Int32) : Prop :=
  p.tables.exec = Jvm.exec ∧ c.code = code ∧ meth.sig.returnType = ret ∧ c.maxLocals = 4 ∧ s.vm.findClass R_law = some m.cls ∧ (∀ w ∈ lw_tbl, w.before #[Value.ref b] s = true) ∧ va_X b L xs s s.heap ∧ b < s.heap.size ∧ meth.locks = false ∧ (Jvm.Cond.and given_1 narrow_1).before #[Value.ref b] s = true
section KLW
variable {p : Program} {l : Launch} {e : Env} {R : Room} {s : State} {m : MethodId} {args : Array Value} {below : List Frame} {meth : Method} {c : Code} {H : Heap} {locs : List Loc} {cells slots : Nat} {Q : State → Prop}
variable {cc : ByteArray} {pc : Nat} {ls : Array Slot} {rest : List Value} {A : Nat → Prop} {H0 : Heap}
theorem k_sld (hexec : p.tables.exec = Jvm.exec) (hb : c.code = cc) {b L : Nat} {xs : Nat → Int32} (hX : va_X b L xs s H0) (hbl : b < H0.size) (hbA : ¬ A b) (hS : va_S A H0 H locs) {i : Nat} (hi : i < L) (hL : L < 2 ^ 31) (hdg : decode cc pc = .ok (.iaload, 1))
    (kk : W p l e R s m args below meth c H locs cells slots Q (F0 m (pc + 1) ls (.int (xs i) :: rest))) : W p l e R s m args below meth c H locs cells slots Q (F0 m pc ls (.int (nI i) :: .ref b :: rest)) := by
  refine va_sld hexec hb hX hbl hbA hS (vp_in_nI hi hL) hdg ?_
  rw [nI_clamp (by omega)]
  exact kk
end KLW
theorem RD.lt {kn : Nat} {kroom : Nat → Nat} {kclo : Nat → Bool} {kmany : Nat → Nat} {kvals : Nat → Int32} {kst ksi kpl : Nat → Nat} {kof kgot : Nat → Int32} {ksent : Nat → Bool} {kdone : Nat → Int32} {kca kcc kcw : Nat → Nat} {kcv : Nat → Int32} {kmo : Nat} {kmt kft : Int32} {σ : Sg}
    (h : RD kn kroom kclo kmany kvals kst ksi kpl kof kgot ksent kdone kca kcc kcw kcv kmo kmt kft σ) (hm : kmo < 999999) : ∀ q, q < 16 → (gSt σ q = 0 ∨ gSt σ q = 4) → (gLine σ).length < 16 := by
  intro q hq hs
  obtain ⟨-, hKS, -, hKL, -, -⟩ := h
  have hk : kst q = 0 ∨ kst q = 4 := by rw [(hKS q hq).1]; exact hs
  have h1 := line_16 (hKL.wait hq (hKL.out hk) (v := 1) (Or.inl rfl) (by omega))
  rw [List.length_append] at h1
  simp at h1
  omega
theorem law_cmp {i L : Nat} (hL : L ≤ 2560) (hi : i ≤ 2565) (h : ¬ nI L - nI 5 < nI i) : i + 5 ≤ L := by
  have h1 := Int32.not_lt.mp h
  rw [Int32.le_iff_toInt_le, nI_toInt (by omega), pk_sub_toInt (by omega) (by decide)] at h1
  omega
/-- the world behind a call that writes, said outright: is the callee's places, js the others -/
theorem k_back2 {D : va_G} {cl : List vw_C} {A : Nat → Prop} {ws ws' wc w1 : va_W} {H H1 : Heap} (hP : va_P D cl ws H) (hD : va_D A ws) (is js : List Nat) (n : Nat) (hC : is.map (fun i => ws[i]?) = wc.map some) (h1 : is.map (fun i => ws'[i]?) = w1.map some) (h2 : js.map (fun i => ws'[i]?) = js.map (fun i => ws[i]?)) (h3 : ws'.map Prod.fst = ws.map Prod.fst) (hn : ws.length = n) (h4 : ∀ k, k < n → k ∈ is ∨ k ∈ js)
    (hk : ∀ q : Nat, q < H.size → ¬ va_A wc H.size q → H1[q]? = H[q]?) (hP1 : va_P D cl w1 H1) : va_P D cl ws' H1 ∧ va_D A ws' := by
  refine ⟨fun k q hq => ?_, k_D_fst h3 hD⟩
  by_cases hki : k ∈ is
  · obtain ⟨j, hj, ej⟩ := List.getElem_of_mem hki
    have e1 : (is.map (fun i => ws'[i]?))[j]? = (w1.map some)[j]? := by rw [h1]
    rw [List.getElem?_map, List.getElem?_map, List.getElem?_eq_getElem hj, ej] at e1
    simp only [Option.map_some] at e1
    rw [hq] at e1
    cases hw : w1[j]? with
    | none => rw [hw] at e1; simp at e1
    | some z =>
      rw [hw] at e1
      simp at e1
      subst e1
      exact hP1 j _ hw
  · have hlen : ws'.length = ws.length := by
      have := congrArg List.length h3
      simpa using this
    have hkl : k < n := by
      have := (List.getElem?_eq_some_iff.mp hq).1
      omega
    have hkj : k ∈ js := (h4 k hkl).resolve_left hki
    obtain ⟨j, hj, ej⟩ := List.getElem_of_mem hkj
    have e1 : (js.map (fun i => ws'[i]?))[j]? = (js.map (fun i => ws[i]?))[j]? := by rw [h2]
    rw [List.getElem?_map, List.getElem?_map, List.getElem?_eq_getElem hj, ej] at e1
    simp only [Option.map_some] at e1
    have hq' : ws[k]? = some q := by rw [← Option.some.inj e1]; exact hq
    have hlt : q.1 < H.size := (hP k q hq').lt
    refine (hP k q hq').kept (hk q.1 hlt (fun hA => ?_))
    rcases hA with ⟨j2, e, hj2⟩ | hge
    · have h5 : (is.map (fun i => ws[i]?))[j2]? = some (some (q.1, e)) := by rw [hC, List.getElem?_map, hj2]; rfl
      rw [List.getElem?_map] at h5
      cases hz : is[j2]? with
      | none => rw [hz] at h5; simp at h5
      | some i =>
        rw [hz] at h5
        have h6 : ws[i]? = some (q.1, e) := Option.some.inj h5
        have h7 := hD.1 k i q (q.1, e) hq' h6 rfl
        subst h7
        exact hki (List.mem_of_getElem? hz)
    · exact absurd hlt (Nat.not_lt.mpr hge)
section KC2
variable {p : Program} {l : Launch} {e : Env} {R : Room} {s : State} {m : MethodId} {args : Array Value} {below : List Frame} {meth : Method} {c : Code} {H : Heap} {locs : List Loc} {cells slots : Nat} {Q : State → Prop}
variable {pc : Nat} {ls : Array Slot} {rest st0 : List Value} {a : Array Value} {A : Nat → Prop} {D : va_G} {cl : List vw_C} {ws wc : va_W}
theorem k_rwi2 {S : Type} {post : Int32 → S → Prop} {w1 : S → va_W} (ws' : S → va_W) (hr : va_Run p l e R s m args below meth c H locs cells slots 0 0 (F0 m pc ls st0) rest (va_Qi post (fun u t => va_P D cl (w1 u) t.heap) (va_A wc H.size) a) (va_A wc H.size)) (hP : va_P D cl ws H) (hD : va_D A ws) (hS : va_S A s.heap H locs) (hA : ∀ q, s.heap.size ≤ q → A q) (is js : List Nat) (n : Nat) (hC : is.map (fun i => ws[i]?) = wc.map some) (h1 : ∀ u, is.map (fun i => (ws' u)[i]?) = (w1 u).map some) (wr : va_W) (h2a : js.map (fun i => ws[i]?) = wr.map some) (h2 : ∀ u, js.map (fun i => (ws' u)[i]?) = wr.map some) (ad : List Nat) (h3a : ws.map Prod.fst = ad) (h3 : ∀ u, (ws' u).map Prod.fst = ad) (hn : ws.length = n) (h4 : ∀ k, k < n → k ∈ is ∨ k ∈ js)
    (kk : ∀ (r : Int32) (u : S) (H1 : Heap) (locs1 : List Loc), post r u → va_P D cl (ws' u) H1 → va_D A (ws' u) → va_S A s.heap H1 locs1 → W p l e R s m args below meth c H1 locs1 cells slots Q (F0 m (pc + 3) ls (.int r :: rest))) : W p l e R s m args below meth c H locs cells slots Q (F0 m pc ls st0) := by
  have hF := va_free (wc := wc) hD hS hA is hC
  refine va_calli hr hS (fun q _ h => hF q h) hF (fun r u t H1 locs1 ht hvm hp hB hz hk hS1 => ?_)
  rw [ht] at hB
  obtain ⟨g1, g2⟩ := k_back2 hP hD is js n hC (h1 u) ((h2 u).trans h2a.symm) ((h3 u).trans h3a.symm) hn h4 hk hB
  exact kk r u H1 locs1 hp g1 g2 hS1
end KC2
