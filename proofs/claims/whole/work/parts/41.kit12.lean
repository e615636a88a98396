theorem k_arr {args : Array Value} {s : State} {ty : FieldType} (h : (Cond.arrayClass ty).before args s = true) (hty : ty = .int ∨ ty = .boolean ∨ ty = .long) : ∃ cA : ClassId, ArrOfT s cA ty ∧ va_RA s cA ty := by
  obtain ⟨cA, kA, comp, h1, h2, h3⟩ := Cond.arrayClass_spec h
  refine ⟨cA, fun n z => ⟨fun k h => (by cases h), kA, h2, comp, h3⟩, ?_⟩
  rcases hty with rfl | rfl | rfl <;> exact h1
theorem kW_N {G : va_G} {cl : List vw_C} {tys : List (ClassId × FieldType)} {s : State} {H : Heap} {ws w0 : va_W} {A : Nat → Prop} {av : List Value} {a1 a2 a3 h1 h2 h3 : String} {i1 i2 i3 : Nat} {x1 x2 x3 : MethodName} (hK : va_K G cl tys s) (hP : va_P G cl ws H) (hD : va_D A ws) (n1 : va_Nw (.methodLinkNest a1 i1 x1 h1) s) (n2 : va_Nw (.methodLinkNest a2 i2 x2 h2) s) (n3 : va_Nw (.methodLinkNest a3 i3 x3 h3) s) (is : List Nat) (hs : is.filterMap (fun i => ws[i]?) = w0) (hn : va_nd is = true) (hm : is.map (fun i => ws[i]?) = w0.map some) :
    PreS s H (va_Pc av (fun U => kW G cl tys w0 H.size U ∧ va_Nw (.methodLinkNest a1 i1 x1 h1) U ∧ va_Nw (.methodLinkNest a2 i2 x2 h2) U ∧ va_Nw (.methodLinkNest a3 i3 x3 h3) U)) av :=
  ⟨fun a U g mk q => ⟨q.1, ⟨q.2.1.1, q.2.1.2.1, va_K.moved (u := U) (U := U.calling g mk a) (Vm.Alike.refl U.vm) q.2.1.2.2.1, q.2.1.2.2.2⟩, va_Nw.same rfl (u := U) (U := U.calling g mk a) rfl q.2.2.1, va_Nw.same rfl (u := U) (U := U.calling g mk a) rfl q.2.2.2.1, va_Nw.same rfl (u := U) (U := U.calling g mk a) rfl q.2.2.2.2⟩,
   fun U hU hW => ⟨rfl, ⟨by rw [hU], by rw [hU]; exact hP.sub is hs, va_K.moved hW.alike hK, (hD.sub is hn hm).weaken (fun _ _ _ _ => trivial)⟩, va_Nw.warmM hW n1, va_Nw.warmM hW n2, va_Nw.warmM hW n3⟩⟩
theorem DI_0 : DI 0 (fun _ => 0) (fun _ => 0) (fun _ => nI 0) (fl 16 0 (fun _ => 0)) (fun _ => 0) (fun _ => 0) (fun _ => nI 0) 0 (fun _ => 0) (fl 16 0 (fun _ => 0)) (fun _ => []) (fun _ => []) [] := by
  refine ⟨by decide, fun _ _ => Nat.zero_le _, fun c hc => ⟨rfl, by simp, fun i hi => absurd hi (by simp)⟩, fun r hr => ⟨?_, by simp, fun i hi => absurd hi (by simp)⟩, RelL.clr _, fl_lt _⟩
  simp [fl, hr]
theorem RD_0 : RD 0 (fun _ => 0) (fun _ => false) (fun _ => 0) (fun _ => nI 0) (fun _ => 0) (fun _ => 0) (fun _ => 0) (fun _ => nI 0) (fun _ => nI 0) (fun _ => false) (fl 16 (-1) (fun _ => nI 0)) (fun _ => 0) (fun _ => 0) (fun _ => 0) (fun _ => nI 0) 0 (nI 0) (nI 0)
    (0, (fun _ => 0), (fun _ => false), (fun _ => []), (fun _ => []), [], fl 16 0 (fun _ => 0), fl 16 (nI 0) (fun _ => nI 0), fl 16 0 (fun _ => 0), fl 16 (-1) (fun _ => nI 0), nI 0, nI 0) := by
  refine ⟨⟨rfl, by decide, fun c hc => absurd hc (Nat.not_lt_zero c)⟩, fun r hr => ?_, fun r hr => ?_, ?_, rfl, rfl⟩
  · show (0 : Nat) = fl 16 0 (fun _ => 0) r ∧ nI 0 = fl 16 (nI 0) (fun _ => nI 0) r ∧ fl 16 0 (fun _ => 0) r = (if false = true then 1 else 0) ∧ fl 16 (-1) (fun _ => nI 0) r = fl 16 (-1) (fun _ => nI 0) r
    refine ⟨?_, ?_, ?_, rfl⟩ <;> simp [fl, hr]
  · show KR1 0 r 0 0 (nI 0) 0 (fun _ => 0) (fun _ => 0) (fun _ => nI 0) []
    exact ⟨by decide, fun _ _ => ⟨rfl, by decide, fun i hi => absurd hi (Nat.not_lt_zero i)⟩, fun h => absurd h (by decide), fun h => absurd h (by decide)⟩
  · show KL (fun _ => 0) (fun _ => 0) 0 []
    refine ⟨List.nodup_nil, fun r => ?_, List.Pairwise.nil, fun r hr => absurd hr List.not_mem_nil, by decide⟩
    constructor
    · intro z; exact absurd z List.not_mem_nil
    · intro z; have h9 : (0 : Nat) = 1 ∨ (0 : Nat) = 2 ∨ (0 : Nat) = 3 := z.2; omega
