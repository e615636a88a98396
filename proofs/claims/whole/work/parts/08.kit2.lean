theorem hno_succ {n i : Nat} {P : (j : Nat) → j < n → Prop} (h : ∀ j (_ : j < i) (h2 : j < n), P j h2) (hi : ∀ h2 : i < n, P i h2) : ∀ j (_ : j < i + 1) (h2 : j < n), P j h2 := by
  intro j hj h2
  by_cases h9 : j < i
  · exact h j h9 h2
  · have e : i = j := by omega
    subst e
    exact hi h2
theorem kHit_f1 {x w : Nat} {k : Kase} (h : ¬ k.1 = x) : kHit x w k = false := by simp [kHit, h]
theorem kHit_f2 {x w : Nat} {k : Kase} (h : ¬ w = 2) (h2 : ¬ k.2.1 = w) : kHit x w k = false := by simp [kHit, h, h2]
theorem kHit_t1 {x w : Nat} {k : Kase} (h : k.1 = x) (h2 : w = 2) : kHit x w k = true := by simp [kHit, h, h2]
theorem kHit_t2 {x w : Nat} {k : Kase} (h : k.1 = x) (h2 : k.2.1 = w) : kHit x w k = true := by simp [kHit, h, h2]
theorem fl_0 {α : Type} (x : α) (f : Nat → α) : f = fl 0 x f := by
  funext j
  simp [fl]
theorem fl_succ {α : Type} {i : Nat} {x : α} {f g : Nat → α} (h : g = fl i x f) : va_up g i x = fl (i + 1) x f := by
  subst h
  funext j
  simp only [va_up, fl]
  by_cases h1 : j = i
  · rw [if_pos h1, if_pos (by omega)]
  · rw [if_neg h1]
    by_cases h2 : j < i
    · rw [if_pos h2, if_pos (by omega)]
    · rw [if_neg h2, if_neg (by omega)]
theorem RelV.pop {held : Nat → Nat} {vals : Nat → Int32} {L : Nat → List Int32} (h : RelV held vals L) {x : Nat} (hx : x < 40) (h0 : 0 < held x) : vals (x * 8) = (L x).headD 0 ∧ RelV (va_up held x (held x - 1)) (va_cpy vals vals (x * 8 + 1) (x * 8) (held x - 1)) (popL L x) := by
  have e := (h x hx).1
  cases hL : L x with
  | nil => rw [hL] at e; simp at e; omega
  | cons v vs =>
    obtain ⟨h1, h2⟩ := h.take hx hL
    refine ⟨by rw [h1]; rfl, ?_⟩
    unfold popL
    rw [hL]
    exact h2
theorem RelV.nopop {held : Nat → Nat} {vals : Nat → Int32} {L : Nat → List Int32} (h : RelV held vals L) {x : Nat} (hx : x < 40) (h0 : held x = 0) : (L x).headD 0 = 0 ∧ RelV held vals (popL L x) := by
  have e := (h x hx).1
  have hL : L x = [] := List.eq_nil_of_length_eq_zero (by omega)
  refine ⟨by rw [hL]; rfl, ?_⟩
  have e2 : popL L x = L := by
    unfold popL
    rw [hL]
    funext j
    by_cases hj : j = x
    · subst hj; rw [va_up_self, hL]; rfl
    · rw [va_up_ne _ _ hj]
  rw [e2]
  exact h
section KCP
variable {p : Program} {l : Launch} {e : Env} {R : Room} {s : State} {m : MethodId} {args : Array Value} {below : List Frame} {meth : Method} {c : Code} {H : Heap} {locs : List Loc} {cells slots : Nat} {Q : State → Prop}
variable {cc : ByteArray} {pc : Nat} {ls : Array Slot} {rest : List Value} {D : va_G} {cl : List vw_C} {tys : List (ClassId × FieldType)} {ws : va_W} {A : Nat → Prop} {H0 : Heap} {a : Nat}
theorem k_copy (hexec : p.tables.exec = Jvm.exec) (hb : c.code = cc) (hml : c.maxLocals = ls.size) {own : String} {index : Nat} (hown : s.vm.findClass own = some m.cls) (hlink : (Cond.methodLink own index arraycopyName).before args s = true) (hnat : (Cond.native arraycopyName).before args s = true) (hstat : (Cond.static arraycopyName).before args s = true) (hini : (Cond.initialized "java/lang/System").before args s = true)
    (hK : va_K D cl tys s) (hP : va_P D cl ws H) (hD : va_D A ws) (hS : va_S A H0 H locs) (q0 t0 : Nat) {c0 : ClassId} {n0 : Nat} {f : Nat → Int32} (ha0 : ws[q0]? = some (a, .inl (c0, n0, .inl f))) (ht0 : tys[t0]? = some (c0, .int))
    {sp dp n : Nat} (h0 : n0 < 2 ^ 31) (h4 : sp + n ≤ n0) (h5 : dp + n ≤ n0)
    (hframes : 1 ≤ R.frames) (hlocals : (rest.map fun v => v.category).sum + (nativeFrameWords "java/lang/System" "arraycopy" 5 + 11) ≤ R.locals) (hdg : decode cc pc = .ok (.invokestatic index, 3))
    (kk : ∀ (H1 : Heap) (locs1 : List Loc), va_P D cl (ws.set q0 (a, .inl (c0, n0, .inl (va_cpy f f sp dp n)))) H1 → va_D A (ws.set q0 (a, .inl (c0, n0, .inl (va_cpy f f sp dp n)))) → va_S A H0 H1 locs1 → W p l e R s m args below meth c H1 locs1 cells slots Q (F0 m (pc + 3) ls rest)) : W p l e R s m args below meth c H locs cells slots Q (F0 m pc ls (.int (nI n) :: .int (nI dp) :: .ref a :: .int (nI sp) :: .ref a :: rest)) := by
  have e1 : (nI n).toNatClampNeg = n := nI_clamp (by omega)
  have e2 : (nI dp).toNatClampNeg = dp := nI_clamp (by omega)
  have e3 : (nI sp).toNatClampNeg = sp := nI_clamp (by omega)
  refine va_copyi hexec hb hml hown hlink hnat hstat hini hK hP hD hS q0 q0 t0 t0 ha0 ha0 ht0 ht0 rfl (nI_pos (by omega)) (nI_pos (by omega)) (nI_pos (by omega)) (by rw [e1, e3]; exact h4) (by rw [e1, e2]; exact h5) (fun _ _ => rfl) hframes hlocals hdg (fun H1 l1 h1 h2 h3 => ?_)
  rw [e1, e2, e3] at h1 h2
  exact kk H1 l1 h1 h2 h3
end KCP
