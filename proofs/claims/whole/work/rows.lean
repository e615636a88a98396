section
-- ===== PART A: goes FIRST, ahead of the names: the tables' words, and 'selects' of the private methods out of them =====
/-- a private method of a class that the tables say can be made, by its rows of tables_1 -/
def lw_okq (q : MethodName × Nat) : Prop := (q.1.cls ≠ "java/lang/invoke/MethodHandle" ∧ q.1.cls ≠ "java/lang/invoke/VarHandle") ∧ Cond.instantiable q.1.cls q.2 ∈ tables_1 ∧ Cond.privateMethod q.1 ∈ tables_1 ∧ Cond.instanceMethod q.1 ∈ tables_1
theorem lw_p0 : lw_okq (⟨"ChannelDesk", "startAfresh", "()V"⟩, 9) := ⟨⟨by decide +kernel, by decide +kernel⟩, List.mem_of_getElem? (i := 9) (by decide +kernel), List.mem_of_getElem? (i := 73) (by decide +kernel), List.mem_of_getElem? (i := 74) (by decide +kernel)⟩
theorem lw_p1 : lw_okq (⟨"ChannelDesk", "isReady", "(I)Z"⟩, 9) := ⟨⟨by decide +kernel, by decide +kernel⟩, List.mem_of_getElem? (i := 9) (by decide +kernel), List.mem_of_getElem? (i := 133) (by decide +kernel), List.mem_of_getElem? (i := 134) (by decide +kernel)⟩
theorem lw_p2 : lw_okq (⟨"ChannelDesk", "makeReady", "(I)V"⟩, 9) := ⟨⟨by decide +kernel, by decide +kernel⟩, List.mem_of_getElem? (i := 9) (by decide +kernel), List.mem_of_getElem? (i := 144) (by decide +kernel), List.mem_of_getElem? (i := 145) (by decide +kernel)⟩
theorem lw_p3 : lw_okq (⟨"ChannelDesk", "trySend", "(III)I"⟩, 9) := ⟨⟨by decide +kernel, by decide +kernel⟩, List.mem_of_getElem? (i := 9) (by decide +kernel), List.mem_of_getElem? (i := 152) (by decide +kernel), List.mem_of_getElem? (i := 153) (by decide +kernel)⟩
theorem lw_p4 : lw_okq (⟨"ChannelDesk", "sufferFault", "(I)V"⟩, 9) := ⟨⟨by decide +kernel, by decide +kernel⟩, List.mem_of_getElem? (i := 9) (by decide +kernel), List.mem_of_getElem? (i := 160) (by decide +kernel), List.mem_of_getElem? (i := 161) (by decide +kernel)⟩
theorem lw_p5 : lw_okq (⟨"ChannelDesk", "firstWaiting", "(II)I"⟩, 9) := ⟨⟨by decide +kernel, by decide +kernel⟩, List.mem_of_getElem? (i := 9) (by decide +kernel), List.mem_of_getElem? (i := 164) (by decide +kernel), List.mem_of_getElem? (i := 165) (by decide +kernel)⟩
theorem lw_p6 : lw_okq (⟨"ChannelDesk", "findWaiting", "(III)I"⟩, 9) := ⟨⟨by decide +kernel, by decide +kernel⟩, List.mem_of_getElem? (i := 9) (by decide +kernel), List.mem_of_getElem? (i := 168) (by decide +kernel), List.mem_of_getElem? (i := 169) (by decide +kernel)⟩
theorem lw_p7 : lw_okq (⟨"ChannelDesk", "endWait", "(I)V"⟩, 9) := ⟨⟨by decide +kernel, by decide +kernel⟩, List.mem_of_getElem? (i := 9) (by decide +kernel), List.mem_of_getElem? (i := 187) (by decide +kernel), List.mem_of_getElem? (i := 188) (by decide +kernel)⟩
theorem lw_p8 : lw_okq (⟨"ChannelDesk", "hand", "(III)V"⟩, 9) := ⟨⟨by decide +kernel, by decide +kernel⟩, List.mem_of_getElem? (i := 9) (by decide +kernel), List.mem_of_getElem? (i := 201) (by decide +kernel), List.mem_of_getElem? (i := 202) (by decide +kernel)⟩
theorem lw_p9 : lw_okq (⟨"ChannelDesk", "startWaiting", "(II)V"⟩, 9) := ⟨⟨by decide +kernel, by decide +kernel⟩, List.mem_of_getElem? (i := 9) (by decide +kernel), List.mem_of_getElem? (i := 217) (by decide +kernel), List.mem_of_getElem? (i := 218) (by decide +kernel)⟩
theorem lw_p10 : lw_okq (⟨"ChannelDesk", "tryReceive", "(II)I"⟩, 9) := ⟨⟨by decide +kernel, by decide +kernel⟩, List.mem_of_getElem? (i := 9) (by decide +kernel), List.mem_of_getElem? (i := 229) (by decide +kernel), List.mem_of_getElem? (i := 230) (by decide +kernel)⟩
theorem lw_p11 : lw_okq (⟨"ChannelDesk", "takeFromSender", "(I)I"⟩, 9) := ⟨⟨by decide +kernel, by decide +kernel⟩, List.mem_of_getElem? (i := 9) (by decide +kernel), List.mem_of_getElem? (i := 244) (by decide +kernel), List.mem_of_getElem? (i := 245) (by decide +kernel)⟩
theorem lw_p12 : lw_okq (⟨"ChannelDesk", "countPossible", "(I)I"⟩, 9) := ⟨⟨by decide +kernel, by decide +kernel⟩, List.mem_of_getElem? (i := 9) (by decide +kernel), List.mem_of_getElem? (i := 263) (by decide +kernel), List.mem_of_getElem? (i := 264) (by decide +kernel)⟩
theorem lw_p13 : lw_okq (⟨"ChannelDesk", "isPossible", "(I)Z"⟩, 9) := ⟨⟨by decide +kernel, by decide +kernel⟩, List.mem_of_getElem? (i := 9) (by decide +kernel), List.mem_of_getElem? (i := 272) (by decide +kernel), List.mem_of_getElem? (i := 273) (by decide +kernel)⟩
theorem lw_p14 : lw_okq (⟨"ChannelDesk", "findPossible", "(II)I"⟩, 9) := ⟨⟨by decide +kernel, by decide +kernel⟩, List.mem_of_getElem? (i := 9) (by decide +kernel), List.mem_of_getElem? (i := 285) (by decide +kernel), List.mem_of_getElem? (i := 286) (by decide +kernel)⟩
theorem lw_p15 : lw_okq (⟨"ChannelDesk", "doCase", "(II)I"⟩, 9) := ⟨⟨by decide +kernel, by decide +kernel⟩, List.mem_of_getElem? (i := 9) (by decide +kernel), List.mem_of_getElem? (i := 289) (by decide +kernel), List.mem_of_getElem? (i := 290) (by decide +kernel)⟩
def lw_privs_1 : List (MethodName × Nat) := [(⟨"ChannelDesk", "startAfresh", "()V"⟩, 9), (⟨"ChannelDesk", "isReady", "(I)Z"⟩, 9), (⟨"ChannelDesk", "makeReady", "(I)V"⟩, 9), (⟨"ChannelDesk", "trySend", "(III)I"⟩, 9), (⟨"ChannelDesk", "sufferFault", "(I)V"⟩, 9), (⟨"ChannelDesk", "firstWaiting", "(II)I"⟩, 9), (⟨"ChannelDesk", "findWaiting", "(III)I"⟩, 9), (⟨"ChannelDesk", "endWait", "(I)V"⟩, 9), (⟨"ChannelDesk", "hand", "(III)V"⟩, 9), (⟨"ChannelDesk", "startWaiting", "(II)V"⟩, 9), (⟨"ChannelDesk", "tryReceive", "(II)I"⟩, 9), (⟨"ChannelDesk", "takeFromSender", "(I)I"⟩, 9), (⟨"ChannelDesk", "countPossible", "(I)I"⟩, 9), (⟨"ChannelDesk", "isPossible", "(I)Z"⟩, 9), (⟨"ChannelDesk", "findPossible", "(II)I"⟩, 9), (⟨"ChannelDesk", "doCase", "(II)I"⟩, 9)]
theorem lw_r1 : ∀ q ∈ lw_privs_1, lw_okq q := List.forall_mem_cons.mpr ⟨lw_p0, List.forall_mem_cons.mpr ⟨lw_p1, List.forall_mem_cons.mpr ⟨lw_p2, List.forall_mem_cons.mpr ⟨lw_p3, List.forall_mem_cons.mpr ⟨lw_p4, List.forall_mem_cons.mpr ⟨lw_p5, List.forall_mem_cons.mpr ⟨lw_p6, List.forall_mem_cons.mpr ⟨lw_p7, List.forall_mem_cons.mpr ⟨lw_p8, List.forall_mem_cons.mpr ⟨lw_p9, List.forall_mem_cons.mpr ⟨lw_p10, List.forall_mem_cons.mpr ⟨lw_p11, List.forall_mem_cons.mpr ⟨lw_p12, List.forall_mem_cons.mpr ⟨lw_p13, List.forall_mem_cons.mpr ⟨lw_p14, List.forall_mem_cons.mpr ⟨lw_p15, fun _ h => absurd h List.not_mem_nil⟩⟩⟩⟩⟩⟩⟩⟩⟩⟩⟩⟩⟩⟩⟩⟩
theorem lw_p16 : lw_okq (⟨"ChannelDesk", "wakeAtShutChannel", "(I)V"⟩, 9) := ⟨⟨by decide +kernel, by decide +kernel⟩, List.mem_of_getElem? (i := 9) (by decide +kernel), List.mem_of_getElem? (i := 301) (by decide +kernel), List.mem_of_getElem? (i := 302) (by decide +kernel)⟩
theorem lw_p17 : lw_okq (⟨"ChannelDeskModel", "isReady", "(I)Z"⟩, 19) := ⟨⟨by decide +kernel, by decide +kernel⟩, List.mem_of_getElem? (i := 345) (by decide +kernel), List.mem_of_getElem? (i := 418) (by decide +kernel), List.mem_of_getElem? (i := 419) (by decide +kernel)⟩
theorem lw_p18 : lw_okq (⟨"ChannelDeskModel", "isChannel", "(I)Z"⟩, 19) := ⟨⟨by decide +kernel, by decide +kernel⟩, List.mem_of_getElem? (i := 345) (by decide +kernel), List.mem_of_getElem? (i := 425) (by decide +kernel), List.mem_of_getElem? (i := 426) (by decide +kernel)⟩
theorem lw_p19 : lw_okq (⟨"ChannelDeskModel", "ready", "(II)V"⟩, 19) := ⟨⟨by decide +kernel, by decide +kernel⟩, List.mem_of_getElem? (i := 345) (by decide +kernel), List.mem_of_getElem? (i := 429) (by decide +kernel), List.mem_of_getElem? (i := 430) (by decide +kernel)⟩
theorem lw_p20 : lw_okq (⟨"ChannelDeskModel", "isPossible", "(II)Z"⟩, 19) := ⟨⟨by decide +kernel, by decide +kernel⟩, List.mem_of_getElem? (i := 345) (by decide +kernel), List.mem_of_getElem? (i := 433) (by decide +kernel), List.mem_of_getElem? (i := 434) (by decide +kernel)⟩
theorem lw_p21 : lw_okq (⟨"ChannelDeskModel", "waiter", "(III)I"⟩, 19) := ⟨⟨by decide +kernel, by decide +kernel⟩, List.mem_of_getElem? (i := 345) (by decide +kernel), List.mem_of_getElem? (i := 437) (by decide +kernel), List.mem_of_getElem? (i := 438) (by decide +kernel)⟩
theorem lw_p22 : lw_okq (⟨"ChannelDeskModel", "waitsAt", "(III)Z"⟩, 19) := ⟨⟨by decide +kernel, by decide +kernel⟩, List.mem_of_getElem? (i := 345) (by decide +kernel), List.mem_of_getElem? (i := 441) (by decide +kernel), List.mem_of_getElem? (i := 442) (by decide +kernel)⟩
theorem lw_p23 : lw_okq (⟨"ChannelDeskModel", "caseAt", "(III)I"⟩, 19) := ⟨⟨by decide +kernel, by decide +kernel⟩, List.mem_of_getElem? (i := 345) (by decide +kernel), List.mem_of_getElem? (i := 445) (by decide +kernel), List.mem_of_getElem? (i := 446) (by decide +kernel)⟩
theorem lw_p24 : lw_okq (⟨"ChannelDeskModel", "sendNow", "(III)I"⟩, 19) := ⟨⟨by decide +kernel, by decide +kernel⟩, List.mem_of_getElem? (i := 345) (by decide +kernel), List.mem_of_getElem? (i := 449) (by decide +kernel), List.mem_of_getElem? (i := 450) (by decide +kernel)⟩
theorem lw_p25 : lw_okq (⟨"ChannelDeskModel", "receives", "(IIIZ)V"⟩, 19) := ⟨⟨by decide +kernel, by decide +kernel⟩, List.mem_of_getElem? (i := 345) (by decide +kernel), List.mem_of_getElem? (i := 453) (by decide +kernel), List.mem_of_getElem? (i := 454) (by decide +kernel)⟩
theorem lw_p26 : lw_okq (⟨"ChannelDeskModel", "push", "(II)V"⟩, 19) := ⟨⟨by decide +kernel, by decide +kernel⟩, List.mem_of_getElem? (i := 345) (by decide +kernel), List.mem_of_getElem? (i := 457) (by decide +kernel), List.mem_of_getElem? (i := 458) (by decide +kernel)⟩
theorem lw_p27 : lw_okq (⟨"ChannelDeskModel", "waits", "(II)V"⟩, 19) := ⟨⟨by decide +kernel, by decide +kernel⟩, List.mem_of_getElem? (i := 345) (by decide +kernel), List.mem_of_getElem? (i := 461) (by decide +kernel), List.mem_of_getElem? (i := 462) (by decide +kernel)⟩
theorem lw_p28 : lw_okq (⟨"ChannelDeskModel", "receiveNow", "(II)V"⟩, 19) := ⟨⟨by decide +kernel, by decide +kernel⟩, List.mem_of_getElem? (i := 345) (by decide +kernel), List.mem_of_getElem? (i := 469) (by decide +kernel), List.mem_of_getElem? (i := 470) (by decide +kernel)⟩
theorem lw_p29 : lw_okq (⟨"ChannelDeskModel", "take", "(I)I"⟩, 19) := ⟨⟨by decide +kernel, by decide +kernel⟩, List.mem_of_getElem? (i := 345) (by decide +kernel), List.mem_of_getElem? (i := 473) (by decide +kernel), List.mem_of_getElem? (i := 474) (by decide +kernel)⟩
theorem lw_p30 : lw_okq (⟨"ChannelDeskModel", "sends", "(II)I"⟩, 19) := ⟨⟨by decide +kernel, by decide +kernel⟩, List.mem_of_getElem? (i := 345) (by decide +kernel), List.mem_of_getElem? (i := 477) (by decide +kernel), List.mem_of_getElem? (i := 478) (by decide +kernel)⟩
def lw_privs_2 : List (MethodName × Nat) := [(⟨"ChannelDesk", "wakeAtShutChannel", "(I)V"⟩, 9), (⟨"ChannelDeskModel", "isReady", "(I)Z"⟩, 19), (⟨"ChannelDeskModel", "isChannel", "(I)Z"⟩, 19), (⟨"ChannelDeskModel", "ready", "(II)V"⟩, 19), (⟨"ChannelDeskModel", "isPossible", "(II)Z"⟩, 19), (⟨"ChannelDeskModel", "waiter", "(III)I"⟩, 19), (⟨"ChannelDeskModel", "waitsAt", "(III)Z"⟩, 19), (⟨"ChannelDeskModel", "caseAt", "(III)I"⟩, 19), (⟨"ChannelDeskModel", "sendNow", "(III)I"⟩, 19), (⟨"ChannelDeskModel", "receives", "(IIIZ)V"⟩, 19), (⟨"ChannelDeskModel", "push", "(II)V"⟩, 19), (⟨"ChannelDeskModel", "waits", "(II)V"⟩, 19), (⟨"ChannelDeskModel", "receiveNow", "(II)V"⟩, 19), (⟨"ChannelDeskModel", "take", "(I)I"⟩, 19), (⟨"ChannelDeskModel", "sends", "(II)I"⟩, 19)]
theorem lw_r2 : ∀ q ∈ lw_privs_2, lw_okq q := List.forall_mem_cons.mpr ⟨lw_p16, List.forall_mem_cons.mpr ⟨lw_p17, List.forall_mem_cons.mpr ⟨lw_p18, List.forall_mem_cons.mpr ⟨lw_p19, List.forall_mem_cons.mpr ⟨lw_p20, List.forall_mem_cons.mpr ⟨lw_p21, List.forall_mem_cons.mpr ⟨lw_p22, List.forall_mem_cons.mpr ⟨lw_p23, List.forall_mem_cons.mpr ⟨lw_p24, List.forall_mem_cons.mpr ⟨lw_p25, List.forall_mem_cons.mpr ⟨lw_p26, List.forall_mem_cons.mpr ⟨lw_p27, List.forall_mem_cons.mpr ⟨lw_p28, List.forall_mem_cons.mpr ⟨lw_p29, List.forall_mem_cons.mpr ⟨lw_p30, fun _ h => absurd h List.not_mem_nil⟩⟩⟩⟩⟩⟩⟩⟩⟩⟩⟩⟩⟩⟩⟩
def lw_privs : List (MethodName × Nat) := lw_privs_1 ++ (lw_privs_2)
def lw_tbl : List Cond := k2_sels lw_privs ++ tables_1
theorem lw_privs_ok : ∀ q ∈ lw_privs, lw_okq q := by
  show ∀ q ∈ lw_privs_1 ++ (lw_privs_2), lw_okq q
  exact List.forall_mem_append.mpr ⟨lw_r1, lw_r2⟩
abbrev R_Dk : String := "ChannelDesk"
abbrev R_Cs : String := "ChannelDesk$Cases"
abbrev R_Ch : String := "ChannelDesk$Channels"
abbrev R_Ln : String := "ChannelDesk$Line"
abbrev R_Md : String := "ChannelDeskModel"
abbrev R_Ar : String := "java/util/Arrays"
abbrev R_Lw : String := "ChannelDeskLaw"
abbrev R_Sy : String := "java/lang/System"
abbrev R_Ob : String := "java/lang/Object"
def T_Cs : u_T := fun k => match k with
  | 0 => ("ChannelDesk$Cases", "number", "[I", true)
  | 1 => ("ChannelDesk$Cases", "channels", "[I", true)
  | 2 => ("ChannelDesk$Cases", "ways", "[I", true)
  | _ => ("ChannelDesk$Cases", "values", "[I", true)
def ty_Cs : Nat → FieldType := fun k => match k with
  | 0 => .array .int
  | 1 => .array .int
  | 2 => .array .int
  | _ => .array .int
theorem nm_Cs : ∀ a, a < 4 → ∀ b, b < 4 → a ≠ b → (T_Cs a).2.1 ≠ (T_Cs b).2.1 := by decide +kernel
theorem tyok_Cs : ∀ k, k < 4 → parseFieldDescriptor (T_Cs k).2.2.1 = some (ty_Cs k) := by decide +kernel
def T_Ch : u_T := fun k => match k with
  | 0 => ("ChannelDesk$Channels", "room", "[I", true)
  | 1 => ("ChannelDesk$Channels", "held", "[I", true)
  | 2 => ("ChannelDesk$Channels", "shut", "[Z", true)
  | 3 => ("ChannelDesk$Channels", "values", "[I", true)
  | _ => ("ChannelDesk$Channels", "number", "I", false)
def ty_Ch : Nat → FieldType := fun k => match k with
  | 0 => .array .int
  | 1 => .array .int
  | 2 => .array .boolean
  | 3 => .array .int
  | _ => .int
theorem nm_Ch : ∀ a, a < 5 → ∀ b, b < 5 → a ≠ b → (T_Ch a).2.1 ≠ (T_Ch b).2.1 := by decide +kernel
theorem tyok_Ch : ∀ k, k < 5 → parseFieldDescriptor (T_Ch k).2.2.1 = some (ty_Ch k) := by decide +kernel
def T_Ln : u_T := fun k => match k with
  | 0 => ("ChannelDesk$Line", "members", "[I", true)
  | _ => ("ChannelDesk$Line", "length", "I", false)
def ty_Ln : Nat → FieldType := fun k => match k with
  | 0 => .array .int
  | _ => .int
theorem nm_Ln : ∀ a, a < 2 → ∀ b, b < 2 → a ≠ b → (T_Ln a).2.1 ≠ (T_Ln b).2.1 := by decide +kernel
theorem tyok_Ln : ∀ k, k < 2 → parseFieldDescriptor (T_Ln k).2.2.1 = some (ty_Ln k) := by decide +kernel
def T_Dk : u_T := fun k => match k with
  | 0 => ("ChannelDesk", "channels", "LChannelDesk$Channels;", true)
  | 1 => ("ChannelDesk", "cases", "LChannelDesk$Cases;", true)
  | 2 => ("ChannelDesk", "line", "LChannelDesk$Line;", true)
  | 3 => ("ChannelDesk", "status", "[I", true)
  | 4 => ("ChannelDesk", "received", "[I", true)
  | 5 => ("ChannelDesk", "wasSent", "[I", true)
  | 6 => ("ChannelDesk", "caseDone", "[I", true)
  | 7 => ("ChannelDesk", "meetings", "I", false)
  | _ => ("ChannelDesk", "faults", "I", false)
def ty_Dk : Nat → FieldType := fun k => match k with
  | 0 => .object "ChannelDesk$Channels"
  | 1 => .object "ChannelDesk$Cases"
  | 2 => .object "ChannelDesk$Line"
  | 3 => .array .int
  | 4 => .array .int
  | 5 => .array .int
  | 6 => .array .int
  | 7 => .int
  | _ => .int
theorem nm_Dk : ∀ a, a < 9 → ∀ b, b < 9 → a ≠ b → (T_Dk a).2.1 ≠ (T_Dk b).2.1 := by decide +kernel
theorem tyok_Dk : ∀ k, k < 9 → parseFieldDescriptor (T_Dk k).2.2.1 = some (ty_Dk k) := by decide +kernel
def T_Md : u_T := fun k => match k with
  | 0 => ("ChannelDeskModel", "channels", "I", false)
  | 1 => ("ChannelDeskModel", "room", "[I", true)
  | 2 => ("ChannelDeskModel", "closed", "[Z", true)
  | 3 => ("ChannelDeskModel", "many", "[I", true)
  | 4 => ("ChannelDeskModel", "values", "[I", true)
  | 5 => ("ChannelDeskModel", "states", "[I", true)
  | 6 => ("ChannelDeskModel", "since", "[J", true)
  | 7 => ("ChannelDeskModel", "place", "[I", true)
  | 8 => ("ChannelDeskModel", "offer", "[I", true)
  | 9 => ("ChannelDeskModel", "got", "[I", true)
  | 10 => ("ChannelDeskModel", "sent", "[Z", true)
  | 11 => ("ChannelDeskModel", "done", "[I", true)
  | 12 => ("ChannelDeskModel", "cases", "[I", true)
  | 13 => ("ChannelDeskModel", "caseChannel", "[I", true)
  | 14 => ("ChannelDeskModel", "caseWay", "[I", true)
  | 15 => ("ChannelDeskModel", "caseValue", "[I", true)
  | 16 => ("ChannelDeskModel", "moment", "J", false)
  | 17 => ("ChannelDeskModel", "meetings", "I", false)
  | _ => ("ChannelDeskModel", "faults", "I", false)
def ty_Md : Nat → FieldType := fun k => match k with
  | 0 => .int
  | 1 => .array .int
  | 2 => .array .boolean
  | 3 => .array .int
  | 4 => .array .int
  | 5 => .array .int
  | 6 => .array .long
  | 7 => .array .int
  | 8 => .array .int
  | 9 => .array .int
  | 10 => .array .boolean
  | 11 => .array .int
  | 12 => .array .int
  | 13 => .array .int
  | 14 => .array .int
  | 15 => .array .int
  | 16 => .long
  | 17 => .int
  | _ => .int
theorem nm_Md : ∀ a, a < 19 → ∀ b, b < 19 → a ≠ b → (T_Md a).2.1 ≠ (T_Md b).2.1 := by decide +kernel
theorem tyok_Md : ∀ k, k < 19 → parseFieldDescriptor (T_Md k).2.2.1 = some (ty_Md k) := by decide +kernel
abbrev b_Dk_init : ByteArray := prog_1_method_1_code
abbrev y_Dk_init : MethodName := ⟨R_Dk, "<init>", "()V"⟩
abbrev b_Dk_make : ByteArray := prog_1_method_2_code
abbrev y_Dk_make : MethodName := ⟨R_Dk, "make", "(I)I"⟩
abbrev b_Dk_send : ByteArray := prog_1_method_3_code
abbrev y_Dk_send : MethodName := ⟨R_Dk, "send", "(III)I"⟩
abbrev b_Dk_receive : ByteArray := prog_1_method_4_code
abbrev y_Dk_receive : MethodName := ⟨R_Dk, "receive", "(II)I"⟩
abbrev b_Dk_add : ByteArray := prog_1_method_5_code
abbrev y_Dk_add : MethodName := ⟨R_Dk, "add", "(IIII)I"⟩
abbrev b_Dk_choose : ByteArray := prog_1_method_6_code
abbrev y_Dk_choose : MethodName := ⟨R_Dk, "choose", "(IIZ)I"⟩
abbrev b_Dk_close : ByteArray := prog_1_method_7_code
abbrev y_Dk_close : MethodName := ⟨R_Dk, "close", "(I)I"⟩
abbrev b_Dk_state : ByteArray := prog_1_method_8_code
abbrev y_Dk_state : MethodName := ⟨R_Dk, "state", "(I)I"⟩
abbrev b_Dk_got : ByteArray := prog_1_method_9_code
abbrev y_Dk_got : MethodName := ⟨R_Dk, "got", "(I)I"⟩
abbrev b_Dk_last : ByteArray := prog_1_method_10_code
abbrev y_Dk_last : MethodName := ⟨R_Dk, "last", "(I)I"⟩
abbrev b_Dk_waiting : ByteArray := prog_1_method_11_code
abbrev y_Dk_waiting : MethodName := ⟨R_Dk, "waiting", "(III)I"⟩
abbrev b_Dk_channel : ByteArray := prog_1_method_12_code
abbrev y_Dk_channel : MethodName := ⟨R_Dk, "channel", "(II)I"⟩
abbrev b_Dk_count : ByteArray := prog_1_method_13_code
abbrev y_Dk_count : MethodName := ⟨R_Dk, "count", "(I)I"⟩
abbrev b_Dk_clear : ByteArray := prog_1_method_14_code
abbrev y_Dk_clear : MethodName := ⟨R_Dk, "clear", "()I"⟩
abbrev b_Dk_startAfresh : ByteArray := prog_1_method_15_code
abbrev y_Dk_startAfresh : MethodName := ⟨R_Dk, "startAfresh", "()V"⟩
abbrev b_Dk_isRoutine : ByteArray := prog_1_method_16_code
abbrev y_Dk_isRoutine : MethodName := ⟨R_Dk, "isRoutine", "(I)Z"⟩
abbrev b_Dk_isWay : ByteArray := prog_1_method_17_code
abbrev y_Dk_isWay : MethodName := ⟨R_Dk, "isWay", "(I)Z"⟩
abbrev b_Dk_isReady : ByteArray := prog_1_method_18_code
abbrev y_Dk_isReady : MethodName := ⟨R_Dk, "isReady", "(I)Z"⟩
abbrev b_Dk_makeReady : ByteArray := prog_1_method_19_code
abbrev y_Dk_makeReady : MethodName := ⟨R_Dk, "makeReady", "(I)V"⟩
abbrev b_Dk_startWaiting : ByteArray := prog_1_method_20_code
abbrev y_Dk_startWaiting : MethodName := ⟨R_Dk, "startWaiting", "(II)V"⟩
abbrev b_Dk_trySend : ByteArray := prog_1_method_21_code
abbrev y_Dk_trySend : MethodName := ⟨R_Dk, "trySend", "(III)I"⟩
abbrev b_Dk_tryReceive : ByteArray := prog_1_method_22_code
abbrev y_Dk_tryReceive : MethodName := ⟨R_Dk, "tryReceive", "(II)I"⟩
abbrev b_Dk_takeFromSender : ByteArray := prog_1_method_23_code
abbrev y_Dk_takeFromSender : MethodName := ⟨R_Dk, "takeFromSender", "(I)I"⟩
abbrev b_Dk_hand : ByteArray := prog_1_method_24_code
abbrev y_Dk_hand : MethodName := ⟨R_Dk, "hand", "(III)V"⟩
abbrev b_Dk_sufferFault : ByteArray := prog_1_method_25_code
abbrev y_Dk_sufferFault : MethodName := ⟨R_Dk, "sufferFault", "(I)V"⟩
abbrev b_Dk_endWait : ByteArray := prog_1_method_26_code
abbrev y_Dk_endWait : MethodName := ⟨R_Dk, "endWait", "(I)V"⟩
abbrev b_Dk_wakeAtShutChannel : ByteArray := prog_1_method_27_code
abbrev y_Dk_wakeAtShutChannel : MethodName := ⟨R_Dk, "wakeAtShutChannel", "(I)V"⟩
abbrev b_Dk_doCase : ByteArray := prog_1_method_28_code
abbrev y_Dk_doCase : MethodName := ⟨R_Dk, "doCase", "(II)I"⟩
abbrev b_Dk_countPossible : ByteArray := prog_1_method_29_code
abbrev y_Dk_countPossible : MethodName := ⟨R_Dk, "countPossible", "(I)I"⟩
abbrev b_Dk_findPossible : ByteArray := prog_1_method_30_code
abbrev y_Dk_findPossible : MethodName := ⟨R_Dk, "findPossible", "(II)I"⟩
abbrev b_Dk_isPossible : ByteArray := prog_1_method_31_code
abbrev y_Dk_isPossible : MethodName := ⟨R_Dk, "isPossible", "(I)Z"⟩
abbrev b_Dk_firstWaiting : ByteArray := prog_1_method_32_code
abbrev y_Dk_firstWaiting : MethodName := ⟨R_Dk, "firstWaiting", "(II)I"⟩
abbrev b_Dk_findWaiting : ByteArray := prog_1_method_33_code
abbrev y_Dk_findWaiting : MethodName := ⟨R_Dk, "findWaiting", "(III)I"⟩
abbrev b_Md_init : ByteArray := prog_6_method_1_code
abbrev y_Md_init : MethodName := ⟨R_Md, "<init>", "()V"⟩
abbrev b_Md_isRoutine : ByteArray := prog_6_method_2_code
abbrev y_Md_isRoutine : MethodName := ⟨R_Md, "isRoutine", "(I)Z"⟩
abbrev b_Md_isChannel : ByteArray := prog_6_method_3_code
abbrev y_Md_isChannel : MethodName := ⟨R_Md, "isChannel", "(I)Z"⟩
abbrev b_Md_isReady : ByteArray := prog_6_method_4_code
abbrev y_Md_isReady : MethodName := ⟨R_Md, "isReady", "(I)Z"⟩
abbrev b_Md_make : ByteArray := prog_6_method_5_code
abbrev y_Md_make : MethodName := ⟨R_Md, "make", "(I)I"⟩
abbrev b_Md_caseAt : ByteArray := prog_6_method_6_code
abbrev y_Md_caseAt : MethodName := ⟨R_Md, "caseAt", "(III)I"⟩
abbrev b_Md_waitsAt : ByteArray := prog_6_method_7_code
abbrev y_Md_waitsAt : MethodName := ⟨R_Md, "waitsAt", "(III)Z"⟩
abbrev b_Md_waiter : ByteArray := prog_6_method_8_code
abbrev y_Md_waiter : MethodName := ⟨R_Md, "waiter", "(III)I"⟩
abbrev b_Md_ready : ByteArray := prog_6_method_9_code
abbrev y_Md_ready : MethodName := ⟨R_Md, "ready", "(II)V"⟩
abbrev b_Md_waits : ByteArray := prog_6_method_10_code
abbrev y_Md_waits : MethodName := ⟨R_Md, "waits", "(II)V"⟩
abbrev b_Md_receives : ByteArray := prog_6_method_11_code
abbrev y_Md_receives : MethodName := ⟨R_Md, "receives", "(IIIZ)V"⟩
abbrev b_Md_sends : ByteArray := prog_6_method_12_code
abbrev y_Md_sends : MethodName := ⟨R_Md, "sends", "(II)I"⟩
abbrev b_Md_push : ByteArray := prog_6_method_13_code
abbrev y_Md_push : MethodName := ⟨R_Md, "push", "(II)V"⟩
abbrev b_Md_take : ByteArray := prog_6_method_14_code
abbrev y_Md_take : MethodName := ⟨R_Md, "take", "(I)I"⟩
abbrev b_Md_isPossible : ByteArray := prog_6_method_15_code
abbrev y_Md_isPossible : MethodName := ⟨R_Md, "isPossible", "(II)Z"⟩
abbrev b_Md_sendNow : ByteArray := prog_6_method_16_code
abbrev y_Md_sendNow : MethodName := ⟨R_Md, "sendNow", "(III)I"⟩
abbrev b_Md_receiveNow : ByteArray := prog_6_method_17_code
abbrev y_Md_receiveNow : MethodName := ⟨R_Md, "receiveNow", "(II)V"⟩
abbrev b_Md_send : ByteArray := prog_6_method_18_code
abbrev y_Md_send : MethodName := ⟨R_Md, "send", "(III)I"⟩
abbrev b_Md_receive : ByteArray := prog_6_method_19_code
abbrev y_Md_receive : MethodName := ⟨R_Md, "receive", "(II)I"⟩
abbrev b_Md_add : ByteArray := prog_6_method_20_code
abbrev y_Md_add : MethodName := ⟨R_Md, "add", "(IIII)I"⟩
abbrev b_Md_choose : ByteArray := prog_6_method_21_code
abbrev y_Md_choose : MethodName := ⟨R_Md, "choose", "(IIZ)I"⟩
abbrev b_Md_close : ByteArray := prog_6_method_22_code
abbrev y_Md_close : MethodName := ⟨R_Md, "close", "(I)I"⟩
abbrev b_Md_state : ByteArray := prog_6_method_23_code
abbrev y_Md_state : MethodName := ⟨R_Md, "state", "(I)I"⟩
abbrev b_Md_got : ByteArray := prog_6_method_24_code
abbrev y_Md_got : MethodName := ⟨R_Md, "got", "(I)I"⟩
abbrev b_Md_last : ByteArray := prog_6_method_25_code
abbrev y_Md_last : MethodName := ⟨R_Md, "last", "(I)I"⟩
abbrev b_Md_waiting : ByteArray := prog_6_method_26_code
abbrev y_Md_waiting : MethodName := ⟨R_Md, "waiting", "(III)I"⟩
abbrev b_Md_channel : ByteArray := prog_6_method_27_code
abbrev y_Md_channel : MethodName := ⟨R_Md, "channel", "(II)I"⟩
abbrev b_Md_count : ByteArray := prog_6_method_28_code
abbrev y_Md_count : MethodName := ⟨R_Md, "count", "(I)I"⟩
abbrev b_Md_clear : ByteArray := prog_6_method_29_code
abbrev y_Md_clear : MethodName := ⟨R_Md, "clear", "()I"⟩
abbrev b_Cs_init : ByteArray := prog_2_method_1_code
abbrev y_Cs_init : MethodName := ⟨R_Cs, "<init>", "()V"⟩
abbrev b_Cs_slotOf : ByteArray := prog_2_method_2_code
abbrev y_Cs_slotOf : MethodName := ⟨R_Cs, "slotOf", "(II)I"⟩
abbrev b_Cs_routineAt : ByteArray := prog_2_method_3_code
abbrev y_Cs_routineAt : MethodName := ⟨R_Cs, "routineAt", "(I)I"⟩
abbrev b_Cs_numberAt : ByteArray := prog_2_method_4_code
abbrev y_Cs_numberAt : MethodName := ⟨R_Cs, "numberAt", "(I)I"⟩
abbrev b_Cs_forgetAll : ByteArray := prog_2_method_5_code
abbrev y_Cs_forgetAll : MethodName := ⟨R_Cs, "forgetAll", "()V"⟩
abbrev b_Cs_forget : ByteArray := prog_2_method_6_code
abbrev y_Cs_forget : MethodName := ⟨R_Cs, "forget", "(I)V"⟩
abbrev b_Cs_numberOf : ByteArray := prog_2_method_7_code
abbrev y_Cs_numberOf : MethodName := ⟨R_Cs, "numberOf", "(I)I"⟩
abbrev b_Cs_append : ByteArray := prog_2_method_8_code
abbrev y_Cs_append : MethodName := ⟨R_Cs, "append", "(IIII)I"⟩
abbrev b_Cs_channelAt : ByteArray := prog_2_method_9_code
abbrev y_Cs_channelAt : MethodName := ⟨R_Cs, "channelAt", "(I)I"⟩
abbrev b_Cs_wayAt : ByteArray := prog_2_method_10_code
abbrev y_Cs_wayAt : MethodName := ⟨R_Cs, "wayAt", "(I)I"⟩
abbrev b_Cs_valueAt : ByteArray := prog_2_method_11_code
abbrev y_Cs_valueAt : MethodName := ⟨R_Cs, "valueAt", "(I)I"⟩
abbrev b_Cs_firstAt : ByteArray := prog_2_method_12_code
abbrev y_Cs_firstAt : MethodName := ⟨R_Cs, "firstAt", "(III)I"⟩
abbrev b_Ch_init : ByteArray := prog_3_method_1_code
abbrev y_Ch_init : MethodName := ⟨R_Ch, "<init>", "()V"⟩
abbrev b_Ch_forgetAll : ByteArray := prog_3_method_2_code
abbrev y_Ch_forgetAll : MethodName := ⟨R_Ch, "forgetAll", "()V"⟩
abbrev b_Ch_number : ByteArray := prog_3_method_3_code
abbrev y_Ch_number : MethodName := ⟨R_Ch, "number", "()I"⟩
abbrev b_Ch_has : ByteArray := prog_3_method_4_code
abbrev y_Ch_has : MethodName := ⟨R_Ch, "has", "(I)Z"⟩
abbrev b_Ch_open : ByteArray := prog_3_method_5_code
abbrev y_Ch_open : MethodName := ⟨R_Ch, "open", "(I)I"⟩
abbrev b_Ch_shut : ByteArray := prog_3_method_6_code
abbrev y_Ch_shut : MethodName := ⟨R_Ch, "shut", "(I)V"⟩
abbrev b_Ch_isShut : ByteArray := prog_3_method_7_code
abbrev y_Ch_isShut : MethodName := ⟨R_Ch, "isShut", "(I)Z"⟩
abbrev b_Ch_roomOf : ByteArray := prog_3_method_8_code
abbrev y_Ch_roomOf : MethodName := ⟨R_Ch, "roomOf", "(I)I"⟩
abbrev b_Ch_held : ByteArray := prog_3_method_9_code
abbrev y_Ch_held : MethodName := ⟨R_Ch, "held", "(I)I"⟩
abbrev b_Ch_hasSpace : ByteArray := prog_3_method_10_code
abbrev y_Ch_hasSpace : MethodName := ⟨R_Ch, "hasSpace", "(I)Z"⟩
abbrev b_Ch_valueAt : ByteArray := prog_3_method_11_code
abbrev y_Ch_valueAt : MethodName := ⟨R_Ch, "valueAt", "(II)I"⟩
abbrev b_Ch_put : ByteArray := prog_3_method_12_code
abbrev y_Ch_put : MethodName := ⟨R_Ch, "put", "(II)Z"⟩
abbrev b_Ch_takeFirst : ByteArray := prog_3_method_13_code
abbrev y_Ch_takeFirst : MethodName := ⟨R_Ch, "takeFirst", "(I)I"⟩
abbrev b_Ln_init : ByteArray := prog_4_method_1_code
abbrev y_Ln_init : MethodName := ⟨R_Ln, "<init>", "()V"⟩
abbrev b_Ln_empty : ByteArray := prog_4_method_2_code
abbrev y_Ln_empty : MethodName := ⟨R_Ln, "empty", "()V"⟩
abbrev b_Ln_length : ByteArray := prog_4_method_3_code
abbrev y_Ln_length : MethodName := ⟨R_Ln, "length", "()I"⟩
abbrev b_Ln_memberAt : ByteArray := prog_4_method_4_code
abbrev y_Ln_memberAt : MethodName := ⟨R_Ln, "memberAt", "(I)I"⟩
abbrev b_Ln_join : ByteArray := prog_4_method_5_code
abbrev y_Ln_join : MethodName := ⟨R_Ln, "join", "(I)V"⟩
abbrev b_Ln_leave : ByteArray := prog_4_method_6_code
abbrev y_Ln_leave : MethodName := ⟨R_Ln, "leave", "(I)V"⟩
abbrev b_Ar_fill : ByteArray := prog_8_method_103_code
abbrev y_Ar_fill : MethodName := ⟨R_Ar, "fill", "([II)V"⟩
def TT_0 : List Cond := [Cond.selects R_Dk y_Dk_startAfresh y_Dk_startAfresh, Cond.selects R_Dk y_Dk_isReady y_Dk_isReady, Cond.selects R_Dk y_Dk_makeReady y_Dk_makeReady, Cond.selects R_Dk y_Dk_trySend y_Dk_trySend, Cond.selects R_Dk y_Dk_sufferFault y_Dk_sufferFault, Cond.selects R_Dk y_Dk_firstWaiting y_Dk_firstWaiting, Cond.selects R_Dk y_Dk_findWaiting y_Dk_findWaiting, Cond.selects R_Dk y_Dk_endWait y_Dk_endWait, Cond.selects R_Dk y_Dk_hand y_Dk_hand, Cond.selects R_Dk y_Dk_startWaiting y_Dk_startWaiting, Cond.selects R_Dk y_Dk_tryReceive y_Dk_tryReceive, Cond.selects R_Dk y_Dk_takeFromSender y_Dk_takeFromSender, Cond.selects R_Dk y_Dk_countPossible y_Dk_countPossible, Cond.selects R_Dk y_Dk_isPossible y_Dk_isPossible, Cond.selects R_Dk y_Dk_findPossible y_Dk_findPossible, Cond.selects R_Dk y_Dk_doCase y_Dk_doCase]
def TT_1 : List Cond := [Cond.selects R_Dk y_Dk_wakeAtShutChannel y_Dk_wakeAtShutChannel, Cond.selects R_Md y_Md_isReady y_Md_isReady, Cond.selects R_Md y_Md_isChannel y_Md_isChannel, Cond.selects R_Md y_Md_ready y_Md_ready, Cond.selects R_Md y_Md_isPossible y_Md_isPossible, Cond.selects R_Md y_Md_waiter y_Md_waiter, Cond.selects R_Md y_Md_waitsAt y_Md_waitsAt, Cond.selects R_Md y_Md_caseAt y_Md_caseAt, Cond.selects R_Md y_Md_sendNow y_Md_sendNow, Cond.selects R_Md y_Md_receives y_Md_receives, Cond.selects R_Md y_Md_push y_Md_push, Cond.selects R_Md y_Md_waits y_Md_waits, Cond.selects R_Md y_Md_receiveNow y_Md_receiveNow, Cond.selects R_Md y_Md_take y_Md_take, Cond.selects R_Md y_Md_sends y_Md_sends, Cond.initialized R_Lw]
def TT_2 : List Cond := [Cond.initialized R_Dk, Cond.initialized R_Ch, Cond.initialized R_Cs, Cond.initialized R_Ln, Cond.initialized R_Ar, Cond.initialized R_Md, Cond.initialized R_Sy, Cond.classLink R_Lw 7 R_Dk, Cond.instantiable R_Dk 9, Cond.methodLink R_Lw 9 y_Dk_init, Cond.instanceMethod y_Dk_init, Cond.code y_Dk_init b_Dk_init 1 none, Cond.methodLink R_Dk 1 objectInit, Cond.instanceMethod objectInit, Cond.code objectInit ⟨#[0xb1]⟩ 1 none, Cond.classLink R_Dk 7 R_Ch]
def TT_3 : List Cond := [Cond.instantiable R_Ch 5, Cond.instanceMethod y_Ch_init, Cond.code y_Ch_init b_Ch_init 1 none, Cond.methodLink R_Ch 3 objectInit, Cond.fieldLink R_Ch 9 R_Ch "room" "[I", Cond.fieldLink R_Ch 15 R_Ch "held" "[I", Cond.fieldLink R_Ch 18 R_Ch "shut" "[Z", Cond.fieldLink R_Ch 22 R_Ch "values" "[I", Cond.fieldLink R_Ch 25 R_Ch "number" "I", Cond.laysFinal R_Ch R_Ch "room" "[I", Cond.laysFinal R_Ch R_Ch "held" "[I", Cond.laysFinal R_Ch R_Ch "shut" "[Z", Cond.laysFinal R_Ch R_Ch "values" "[I", Cond.lays R_Ch R_Ch "number" "I", Cond.arrayClass .int, Cond.arrayClass .boolean]
def TT_4 : List Cond := [Cond.classLink R_Dk 16 R_Cs, Cond.instantiable R_Cs 4, Cond.instanceMethod y_Cs_init, Cond.code y_Cs_init b_Cs_init 1 none, Cond.methodLink R_Cs 3 objectInit, Cond.fieldLink R_Cs 9 R_Cs "number" "[I", Cond.fieldLink R_Cs 15 R_Cs "channels" "[I", Cond.fieldLink R_Cs 18 R_Cs "ways" "[I", Cond.fieldLink R_Cs 21 R_Cs "values" "[I", Cond.laysFinal R_Cs R_Cs "number" "[I", Cond.laysFinal R_Cs R_Cs "channels" "[I", Cond.laysFinal R_Cs R_Cs "ways" "[I", Cond.laysFinal R_Cs R_Cs "values" "[I", Cond.classLink R_Dk 23 R_Ln, Cond.instantiable R_Ln 2, Cond.instanceMethod y_Ln_init]
def TT_5 : List Cond := [Cond.code y_Ln_init b_Ln_init 1 none, Cond.methodLink R_Ln 3 objectInit, Cond.fieldLink R_Ln 9 R_Ln "members" "[I", Cond.fieldLink R_Ln 15 R_Ln "length" "I", Cond.laysFinal R_Ln R_Ln "members" "[I", Cond.lays R_Ln R_Ln "length" "I", Cond.methodLink R_Dk 43 y_Dk_startAfresh, Cond.instanceMethod y_Dk_startAfresh, Cond.code y_Dk_startAfresh b_Dk_startAfresh 1 none, Cond.methodLink R_Dk 133 y_Ch_forgetAll, Cond.instanceMethod y_Ch_forgetAll, Cond.selects R_Ch y_Ch_forgetAll y_Ch_forgetAll, Cond.code y_Ch_forgetAll b_Ch_forgetAll 1 none, Cond.methodLink R_Dk 136 y_Cs_forgetAll, Cond.instanceMethod y_Cs_forgetAll, Cond.selects R_Cs y_Cs_forgetAll y_Cs_forgetAll]
def TT_6 : List Cond := [Cond.code y_Cs_forgetAll b_Cs_forgetAll 1 none, Cond.methodLink R_Cs 24 y_Ar_fill, Cond.static y_Ar_fill, Cond.code y_Ar_fill b_Ar_fill 4 none, Cond.methodLink R_Dk 137 y_Ln_empty, Cond.instanceMethod y_Ln_empty, Cond.selects R_Ln y_Ln_empty y_Ln_empty, Cond.code y_Ln_empty b_Ln_empty 1 none, Cond.methodLink R_Dk 140 y_Ar_fill, Cond.fieldLink R_Dk 10 R_Dk "channels" "LChannelDesk$Channels;", Cond.fieldLink R_Dk 19 R_Dk "cases" "LChannelDesk$Cases;", Cond.fieldLink R_Dk 26 R_Dk "line" "LChannelDesk$Line;", Cond.fieldLink R_Dk 30 R_Dk "status" "[I", Cond.fieldLink R_Dk 34 R_Dk "received" "[I", Cond.fieldLink R_Dk 37 R_Dk "wasSent" "[I", Cond.fieldLink R_Dk 40 R_Dk "caseDone" "[I"]
def TT_7 : List Cond := [Cond.fieldLink R_Dk 126 R_Dk "meetings" "I", Cond.fieldLink R_Dk 130 R_Dk "faults" "I", Cond.laysFinal R_Dk R_Dk "channels" "LChannelDesk$Channels;", Cond.laysFinal R_Dk R_Dk "cases" "LChannelDesk$Cases;", Cond.laysFinal R_Dk R_Dk "line" "LChannelDesk$Line;", Cond.laysFinal R_Dk R_Dk "status" "[I", Cond.laysFinal R_Dk R_Dk "received" "[I", Cond.laysFinal R_Dk R_Dk "wasSent" "[I", Cond.laysFinal R_Dk R_Dk "caseDone" "[I", Cond.lays R_Dk R_Dk "meetings" "I", Cond.lays R_Dk R_Dk "faults" "I", Cond.methodLink R_Lw 13 y_Dk_make, Cond.instanceMethod y_Dk_make, Cond.selects R_Dk y_Dk_make y_Dk_make, Cond.code y_Dk_make b_Dk_make 2 (some .int), Cond.methodLink R_Dk 46 y_Ch_open]
def TT_8 : List Cond := [Cond.instanceMethod y_Ch_open, Cond.selects R_Ch y_Ch_open y_Ch_open, Cond.code y_Ch_open b_Ch_open 3 (some .int), Cond.methodLink R_Lw 18 y_Dk_send, Cond.instanceMethod y_Dk_send, Cond.selects R_Dk y_Dk_send y_Dk_send, Cond.code y_Dk_send b_Dk_send 5 (some .int), Cond.methodLink R_Dk 50 y_Dk_isReady, Cond.instanceMethod y_Dk_isReady, Cond.code y_Dk_isReady b_Dk_isReady 2 (some .boolean), Cond.methodLink R_Dk 101 y_Dk_isRoutine, Cond.static y_Dk_isRoutine, Cond.code y_Dk_isRoutine b_Dk_isRoutine 1 (some .boolean), Cond.methodLink R_Dk 54 y_Ch_has, Cond.instanceMethod y_Ch_has, Cond.selects R_Ch y_Ch_has y_Ch_has]
def TT_9 : List Cond := [Cond.code y_Ch_has b_Ch_has 2 (some .boolean), Cond.methodLink R_Dk 57 y_Dk_makeReady, Cond.instanceMethod y_Dk_makeReady, Cond.code y_Dk_makeReady b_Dk_makeReady 2 none, Cond.methodLink R_Dk 146 y_Cs_forget, Cond.instanceMethod y_Cs_forget, Cond.selects R_Cs y_Cs_forget y_Cs_forget, Cond.code y_Cs_forget b_Cs_forget 2 none, Cond.methodLink R_Dk 61 y_Dk_trySend, Cond.instanceMethod y_Dk_trySend, Cond.code y_Dk_trySend b_Dk_trySend 5 (some .int), Cond.methodLink R_Dk 89 y_Ch_isShut, Cond.instanceMethod y_Ch_isShut, Cond.selects R_Ch y_Ch_isShut y_Ch_isShut, Cond.code y_Ch_isShut b_Ch_isShut 2 (some .boolean), Cond.methodLink R_Dk 152 y_Dk_sufferFault]
def TT_10 : List Cond := [Cond.instanceMethod y_Dk_sufferFault, Cond.code y_Dk_sufferFault b_Dk_sufferFault 2 none, Cond.methodLink R_Dk 95 y_Dk_firstWaiting, Cond.instanceMethod y_Dk_firstWaiting, Cond.code y_Dk_firstWaiting b_Dk_firstWaiting 3 (some .int), Cond.methodLink R_Dk 104 y_Dk_findWaiting, Cond.instanceMethod y_Dk_findWaiting, Cond.code y_Dk_findWaiting b_Dk_findWaiting 7 (some .int), Cond.methodLink R_Dk 123 y_Ln_length, Cond.instanceMethod y_Ln_length, Cond.selects R_Ln y_Ln_length y_Ln_length, Cond.code y_Ln_length b_Ln_length 1 (some .int), Cond.methodLink R_Dk 198 y_Ln_memberAt, Cond.instanceMethod y_Ln_memberAt, Cond.selects R_Ln y_Ln_memberAt y_Ln_memberAt, Cond.code y_Ln_memberAt b_Ln_memberAt 2 (some .int)]
def TT_11 : List Cond := [Cond.methodLink R_Dk 201 y_Cs_firstAt, Cond.instanceMethod y_Cs_firstAt, Cond.selects R_Cs y_Cs_firstAt y_Cs_firstAt, Cond.code y_Cs_firstAt b_Cs_firstAt 6 (some .int), Cond.methodLink R_Cs 30 y_Cs_slotOf, Cond.static y_Cs_slotOf, Cond.code y_Cs_slotOf b_Cs_slotOf 2 (some .int), Cond.methodLink R_Dk 155 y_Dk_endWait, Cond.instanceMethod y_Dk_endWait, Cond.code y_Dk_endWait b_Dk_endWait 3 none, Cond.methodLink R_Dk 107 y_Cs_routineAt, Cond.static y_Cs_routineAt, Cond.code y_Cs_routineAt b_Cs_routineAt 1 (some .int), Cond.methodLink R_Dk 174 y_Cs_numberAt, Cond.static y_Cs_numberAt, Cond.code y_Cs_numberAt b_Cs_numberAt 1 (some .int)]
def TT_12 : List Cond := [Cond.methodLink R_Dk 177 y_Ln_leave, Cond.instanceMethod y_Ln_leave, Cond.selects R_Ln y_Ln_leave y_Ln_leave, Cond.code y_Ln_leave b_Ln_leave 4 none, Cond.methodLink R_Dk 158 y_Dk_hand, Cond.instanceMethod y_Dk_hand, Cond.code y_Dk_hand b_Dk_hand 4 none, Cond.methodLink R_Dk 162 y_Ch_put, Cond.instanceMethod y_Ch_put, Cond.selects R_Ch y_Ch_put y_Ch_put, Cond.code y_Ch_put b_Ch_put 3 (some .boolean), Cond.methodLink R_Ch 29 y_Ch_hasSpace, Cond.instanceMethod y_Ch_hasSpace, Cond.selects R_Ch y_Ch_hasSpace y_Ch_hasSpace, Cond.code y_Ch_hasSpace b_Ch_hasSpace 2 (some .boolean), Cond.methodLink R_Dk 65 y_Cs_append]
def TT_13 : List Cond := [Cond.instanceMethod y_Cs_append, Cond.selects R_Cs y_Cs_append y_Cs_append, Cond.code y_Cs_append b_Cs_append 6 (some .int), Cond.methodLink R_Dk 69 y_Dk_startWaiting, Cond.instanceMethod y_Dk_startWaiting, Cond.code y_Dk_startWaiting b_Dk_startWaiting 3 none, Cond.methodLink R_Dk 149 y_Ln_join, Cond.instanceMethod y_Ln_join, Cond.selects R_Ln y_Ln_join y_Ln_join, Cond.code y_Ln_join b_Ln_join 2 none, Cond.methodLink R_Lw 23 y_Dk_receive, Cond.instanceMethod y_Dk_receive, Cond.selects R_Dk y_Dk_receive y_Dk_receive, Cond.code y_Dk_receive b_Dk_receive 4 (some .int), Cond.methodLink R_Dk 73 y_Dk_tryReceive, Cond.instanceMethod y_Dk_tryReceive]
def TT_14 : List Cond := [Cond.code y_Dk_tryReceive b_Dk_tryReceive 4 (some .int), Cond.methodLink R_Dk 110 y_Ch_held, Cond.instanceMethod y_Ch_held, Cond.selects R_Ch y_Ch_held y_Ch_held, Cond.code y_Ch_held b_Ch_held 2 (some .int), Cond.methodLink R_Dk 166 y_Ch_takeFirst, Cond.instanceMethod y_Ch_takeFirst, Cond.selects R_Ch y_Ch_takeFirst y_Ch_takeFirst, Cond.code y_Ch_takeFirst b_Ch_takeFirst 4 (some .int), Cond.methodLink R_Ch 33 arraycopyName, Cond.static arraycopyName, Cond.native arraycopyName, Cond.methodLink R_Dk 169 y_Dk_takeFromSender, Cond.instanceMethod y_Dk_takeFromSender, Cond.code y_Dk_takeFromSender b_Dk_takeFromSender 3 (some .int), Cond.methodLink R_Dk 172 y_Cs_valueAt]
def TT_15 : List Cond := [Cond.instanceMethod y_Cs_valueAt, Cond.selects R_Cs y_Cs_valueAt y_Cs_valueAt, Cond.code y_Cs_valueAt b_Cs_valueAt 2 (some .int), Cond.methodLink R_Lw 28 y_Dk_add, Cond.instanceMethod y_Dk_add, Cond.selects R_Dk y_Dk_add y_Dk_add, Cond.code y_Dk_add b_Dk_add 5 (some .int), Cond.methodLink R_Dk 77 y_Dk_isWay, Cond.static y_Dk_isWay, Cond.code y_Dk_isWay b_Dk_isWay 1 (some .boolean), Cond.methodLink R_Lw 33 y_Dk_choose, Cond.instanceMethod y_Dk_choose, Cond.selects R_Dk y_Dk_choose y_Dk_choose, Cond.code y_Dk_choose b_Dk_choose 5 (some .int), Cond.methodLink R_Dk 80 y_Dk_countPossible, Cond.instanceMethod y_Dk_countPossible]
def TT_16 : List Cond := [Cond.code y_Dk_countPossible b_Dk_countPossible 4 (some .int), Cond.methodLink R_Dk 186 y_Cs_numberOf, Cond.instanceMethod y_Cs_numberOf, Cond.selects R_Cs y_Cs_numberOf y_Cs_numberOf, Cond.code y_Cs_numberOf b_Cs_numberOf 2 (some .int), Cond.methodLink R_Dk 189 y_Cs_slotOf, Cond.methodLink R_Dk 192 y_Dk_isPossible, Cond.instanceMethod y_Dk_isPossible, Cond.code y_Dk_isPossible b_Dk_isPossible 3 (some .boolean), Cond.methodLink R_Dk 183 y_Cs_channelAt, Cond.instanceMethod y_Cs_channelAt, Cond.selects R_Cs y_Cs_channelAt y_Cs_channelAt, Cond.code y_Cs_channelAt b_Cs_channelAt 2 (some .int), Cond.methodLink R_Dk 180 y_Cs_wayAt, Cond.instanceMethod y_Cs_wayAt, Cond.selects R_Cs y_Cs_wayAt y_Cs_wayAt]
def TT_17 : List Cond := [Cond.code y_Cs_wayAt b_Cs_wayAt 2 (some .int), Cond.methodLink R_Dk 195 y_Ch_hasSpace, Cond.methodLink R_Dk 83 y_Dk_findPossible, Cond.instanceMethod y_Dk_findPossible, Cond.code y_Dk_findPossible b_Dk_findPossible 6 (some .int), Cond.methodLink R_Dk 86 y_Dk_doCase, Cond.instanceMethod y_Dk_doCase, Cond.code y_Dk_doCase b_Dk_doCase 7 (some .int), Cond.methodLink R_Lw 38 y_Dk_close, Cond.instanceMethod y_Dk_close, Cond.selects R_Dk y_Dk_close y_Dk_close, Cond.code y_Dk_close b_Dk_close 4 (some .int), Cond.methodLink R_Dk 92 y_Ch_shut, Cond.instanceMethod y_Ch_shut, Cond.selects R_Ch y_Ch_shut y_Ch_shut, Cond.code y_Ch_shut b_Ch_shut 2 none]
def TT_18 : List Cond := [Cond.methodLink R_Dk 98 y_Dk_wakeAtShutChannel, Cond.instanceMethod y_Dk_wakeAtShutChannel, Cond.code y_Dk_wakeAtShutChannel b_Dk_wakeAtShutChannel 4 none, Cond.methodLink R_Lw 42 y_Dk_state, Cond.instanceMethod y_Dk_state, Cond.selects R_Dk y_Dk_state y_Dk_state, Cond.code y_Dk_state b_Dk_state 2 (some .int), Cond.methodLink R_Lw 46 y_Dk_got, Cond.instanceMethod y_Dk_got, Cond.selects R_Dk y_Dk_got y_Dk_got, Cond.code y_Dk_got b_Dk_got 2 (some .int), Cond.methodLink R_Lw 50 y_Dk_last, Cond.instanceMethod y_Dk_last, Cond.selects R_Dk y_Dk_last y_Dk_last, Cond.code y_Dk_last b_Dk_last 2 (some .int), Cond.methodLink R_Lw 54 y_Dk_waiting]
def TT_19 : List Cond := [Cond.instanceMethod y_Dk_waiting, Cond.selects R_Dk y_Dk_waiting y_Dk_waiting, Cond.code y_Dk_waiting b_Dk_waiting 5 (some .int), Cond.methodLink R_Lw 58 y_Dk_channel, Cond.instanceMethod y_Dk_channel, Cond.selects R_Dk y_Dk_channel y_Dk_channel, Cond.code y_Dk_channel b_Dk_channel 3 (some .int), Cond.methodLink R_Dk 113 y_Ch_roomOf, Cond.instanceMethod y_Ch_roomOf, Cond.selects R_Ch y_Ch_roomOf y_Ch_roomOf, Cond.code y_Ch_roomOf b_Ch_roomOf 2 (some .int), Cond.methodLink R_Dk 116 y_Ch_valueAt, Cond.instanceMethod y_Ch_valueAt, Cond.selects R_Ch y_Ch_valueAt y_Ch_valueAt, Cond.code y_Ch_valueAt b_Ch_valueAt 3 (some .int), Cond.methodLink R_Lw 62 y_Dk_count]
def TT_20 : List Cond := [Cond.instanceMethod y_Dk_count, Cond.selects R_Dk y_Dk_count y_Dk_count, Cond.code y_Dk_count b_Dk_count 2 (some .int), Cond.methodLink R_Dk 119 y_Ch_number, Cond.instanceMethod y_Ch_number, Cond.selects R_Ch y_Ch_number y_Ch_number, Cond.code y_Ch_number b_Ch_number 1 (some .int), Cond.methodLink R_Lw 66 y_Dk_clear, Cond.instanceMethod y_Dk_clear, Cond.selects R_Dk y_Dk_clear y_Dk_clear, Cond.code y_Dk_clear b_Dk_clear 2 (some .int), Cond.classLink R_Lw 10 R_Md, Cond.instantiable R_Md 19, Cond.methodLink R_Lw 12 y_Md_init, Cond.instanceMethod y_Md_init, Cond.code y_Md_init b_Md_init 2 none]
def TT_21 : List Cond := [Cond.methodLink R_Md 1 objectInit, Cond.fieldLink R_Md 57 R_Md "channels" "I", Cond.fieldLink R_Md 7 R_Md "room" "[I", Cond.fieldLink R_Md 13 R_Md "closed" "[Z", Cond.fieldLink R_Md 17 R_Md "many" "[I", Cond.fieldLink R_Md 20 R_Md "values" "[I", Cond.fieldLink R_Md 23 R_Md "states" "[I", Cond.fieldLink R_Md 26 R_Md "since" "[J", Cond.fieldLink R_Md 30 R_Md "place" "[I", Cond.fieldLink R_Md 33 R_Md "offer" "[I", Cond.fieldLink R_Md 36 R_Md "got" "[I", Cond.fieldLink R_Md 39 R_Md "sent" "[Z", Cond.fieldLink R_Md 42 R_Md "done" "[I", Cond.fieldLink R_Md 45 R_Md "cases" "[I", Cond.fieldLink R_Md 48 R_Md "caseChannel" "[I", Cond.fieldLink R_Md 51 R_Md "caseWay" "[I"]
def TT_22 : List Cond := [Cond.fieldLink R_Md 54 R_Md "caseValue" "[I", Cond.fieldLink R_Md 76 R_Md "moment" "J", Cond.fieldLink R_Md 84 R_Md "meetings" "I", Cond.fieldLink R_Md 73 R_Md "faults" "I", Cond.lays R_Md R_Md "channels" "I", Cond.laysFinal R_Md R_Md "room" "[I", Cond.laysFinal R_Md R_Md "closed" "[Z", Cond.laysFinal R_Md R_Md "many" "[I", Cond.laysFinal R_Md R_Md "values" "[I", Cond.laysFinal R_Md R_Md "states" "[I", Cond.laysFinal R_Md R_Md "since" "[J", Cond.laysFinal R_Md R_Md "place" "[I", Cond.laysFinal R_Md R_Md "offer" "[I", Cond.laysFinal R_Md R_Md "got" "[I", Cond.laysFinal R_Md R_Md "sent" "[Z", Cond.laysFinal R_Md R_Md "done" "[I"]
def TT_23 : List Cond := [Cond.laysFinal R_Md R_Md "cases" "[I", Cond.laysFinal R_Md R_Md "caseChannel" "[I", Cond.laysFinal R_Md R_Md "caseWay" "[I", Cond.laysFinal R_Md R_Md "caseValue" "[I", Cond.lays R_Md R_Md "moment" "J", Cond.lays R_Md R_Md "meetings" "I", Cond.lays R_Md R_Md "faults" "I", Cond.arrayClass .long, Cond.methodLink R_Lw 17 y_Md_make, Cond.instanceMethod y_Md_make, Cond.selects R_Md y_Md_make y_Md_make, Cond.code y_Md_make b_Md_make 2 (some .int), Cond.methodLink R_Lw 22 y_Md_send, Cond.instanceMethod y_Md_send, Cond.selects R_Md y_Md_send y_Md_send, Cond.code y_Md_send b_Md_send 4 (some .int)]
def TT_24 : List Cond := [Cond.methodLink R_Md 105 y_Md_isReady, Cond.instanceMethod y_Md_isReady, Cond.code y_Md_isReady b_Md_isReady 2 (some .boolean), Cond.methodLink R_Md 61 y_Md_isRoutine, Cond.static y_Md_isRoutine, Cond.code y_Md_isRoutine b_Md_isRoutine 1 (some .boolean), Cond.methodLink R_Md 108 y_Md_isChannel, Cond.instanceMethod y_Md_isChannel, Cond.code y_Md_isChannel b_Md_isChannel 2 (some .boolean), Cond.methodLink R_Md 80 y_Md_ready, Cond.instanceMethod y_Md_ready, Cond.code y_Md_ready b_Md_ready 3 none, Cond.methodLink R_Md 111 y_Md_isPossible, Cond.instanceMethod y_Md_isPossible, Cond.code y_Md_isPossible b_Md_isPossible 3 (some .boolean), Cond.methodLink R_Md 87 y_Md_waiter]
def TT_25 : List Cond := [Cond.instanceMethod y_Md_waiter, Cond.code y_Md_waiter b_Md_waiter 7 (some .int), Cond.methodLink R_Md 69 y_Md_waitsAt, Cond.instanceMethod y_Md_waitsAt, Cond.code y_Md_waitsAt b_Md_waitsAt 5 (some .boolean), Cond.methodLink R_Md 65 y_Md_caseAt, Cond.instanceMethod y_Md_caseAt, Cond.code y_Md_caseAt b_Md_caseAt 5 (some .int), Cond.methodLink R_Md 115 y_Md_sendNow, Cond.instanceMethod y_Md_sendNow, Cond.code y_Md_sendNow b_Md_sendNow 5 (some .int), Cond.methodLink R_Md 90 y_Md_receives, Cond.instanceMethod y_Md_receives, Cond.code y_Md_receives b_Md_receives 5 none, Cond.methodLink R_Md 94 y_Md_push, Cond.instanceMethod y_Md_push]
def TT_26 : List Cond := [Cond.code y_Md_push b_Md_push 3 none, Cond.methodLink R_Md 118 y_Md_waits, Cond.instanceMethod y_Md_waits, Cond.code y_Md_waits b_Md_waits 3 none, Cond.methodLink R_Lw 27 y_Md_receive, Cond.instanceMethod y_Md_receive, Cond.selects R_Md y_Md_receive y_Md_receive, Cond.code y_Md_receive b_Md_receive 3 (some .int), Cond.methodLink R_Md 121 y_Md_receiveNow, Cond.instanceMethod y_Md_receiveNow, Cond.code y_Md_receiveNow b_Md_receiveNow 4 none, Cond.methodLink R_Md 97 y_Md_take, Cond.instanceMethod y_Md_take, Cond.code y_Md_take b_Md_take 4 (some .int), Cond.methodLink R_Md 101 y_Md_sends, Cond.instanceMethod y_Md_sends]
def TT_27 : List Cond := [Cond.code y_Md_sends b_Md_sends 5 (some .int), Cond.methodLink R_Lw 32 y_Md_add, Cond.instanceMethod y_Md_add, Cond.selects R_Md y_Md_add y_Md_add, Cond.code y_Md_add b_Md_add 6 (some .int), Cond.methodLink R_Lw 37 y_Md_choose, Cond.instanceMethod y_Md_choose, Cond.selects R_Md y_Md_choose y_Md_choose, Cond.code y_Md_choose b_Md_choose 11 (some .int), Cond.methodLink R_Lw 41 y_Md_close, Cond.instanceMethod y_Md_close, Cond.selects R_Md y_Md_close y_Md_close, Cond.code y_Md_close b_Md_close 6 (some .int), Cond.methodLink R_Lw 45 y_Md_state, Cond.instanceMethod y_Md_state, Cond.selects R_Md y_Md_state y_Md_state]
def TT_28 : List Cond := [Cond.code y_Md_state b_Md_state 2 (some .int), Cond.methodLink R_Lw 49 y_Md_got, Cond.instanceMethod y_Md_got, Cond.selects R_Md y_Md_got y_Md_got, Cond.code y_Md_got b_Md_got 2 (some .int), Cond.methodLink R_Lw 53 y_Md_last, Cond.instanceMethod y_Md_last, Cond.selects R_Md y_Md_last y_Md_last, Cond.code y_Md_last b_Md_last 2 (some .int), Cond.methodLink R_Lw 57 y_Md_waiting, Cond.instanceMethod y_Md_waiting, Cond.selects R_Md y_Md_waiting y_Md_waiting, Cond.code y_Md_waiting b_Md_waiting 4 (some .int), Cond.methodLink R_Lw 61 y_Md_channel, Cond.instanceMethod y_Md_channel, Cond.selects R_Md y_Md_channel y_Md_channel]
def TT_29 : List Cond := [Cond.code y_Md_channel b_Md_channel 3 (some .int), Cond.methodLink R_Lw 65 y_Md_count, Cond.instanceMethod y_Md_count, Cond.selects R_Md y_Md_count y_Md_count, Cond.code y_Md_count b_Md_count 4 (some .int), Cond.methodLink R_Lw 70 y_Md_clear, Cond.instanceMethod y_Md_clear, Cond.selects R_Md y_Md_clear y_Md_clear, Cond.code y_Md_clear b_Md_clear 3 (some .int)]
def TT : List Cond := TT_0 ++ (TT_1 ++ (TT_2 ++ (TT_3 ++ (TT_4 ++ (TT_5 ++ (TT_6 ++ (TT_7 ++ (TT_8 ++ (TT_9 ++ (TT_10 ++ (TT_11 ++ (TT_12 ++ (TT_13 ++ (TT_14 ++ (TT_15 ++ (TT_16 ++ (TT_17 ++ (TT_18 ++ (TT_19 ++ (TT_20 ++ (TT_21 ++ (TT_22 ++ (TT_23 ++ (TT_24 ++ (TT_25 ++ (TT_26 ++ (TT_27 ++ (TT_28 ++ (TT_29)))))))))))))))))))))))))))))
theorem tt_0 : ∀ w ∈ TT_0, w ∈ TT := fun w h => List.mem_append_left _ h
theorem tt_1 : ∀ w ∈ TT_1, w ∈ TT := fun w h => List.mem_append_right _ (List.mem_append_left _ h)
theorem tt_2 : ∀ w ∈ TT_2, w ∈ TT := fun w h => List.mem_append_right _ (List.mem_append_right _ (List.mem_append_left _ h))
theorem tt_3 : ∀ w ∈ TT_3, w ∈ TT := fun w h => List.mem_append_right _ (List.mem_append_right _ (List.mem_append_right _ (List.mem_append_left _ h)))
theorem tt_4 : ∀ w ∈ TT_4, w ∈ TT := fun w h => List.mem_append_right _ (List.mem_append_right _ (List.mem_append_right _ (List.mem_append_right _ (List.mem_append_left _ h))))
theorem tt_5 : ∀ w ∈ TT_5, w ∈ TT := fun w h => List.mem_append_right _ (List.mem_append_right _ (List.mem_append_right _ (List.mem_append_right _ (List.mem_append_right _ (List.mem_append_left _ h)))))
theorem tt_6 : ∀ w ∈ TT_6, w ∈ TT := fun w h => List.mem_append_right _ (List.mem_append_right _ (List.mem_append_right _ (List.mem_append_right _ (List.mem_append_right _ (List.mem_append_right _ (List.mem_append_left _ h))))))
theorem tt_7 : ∀ w ∈ TT_7, w ∈ TT := fun w h => List.mem_append_right _ (List.mem_append_right _ (List.mem_append_right _ (List.mem_append_right _ (List.mem_append_right _ (List.mem_append_right _ (List.mem_append_right _ (List.mem_append_left _ h)))))))
theorem tt_8 : ∀ w ∈ TT_8, w ∈ TT := fun w h => List.mem_append_right _ (List.mem_append_right _ (List.mem_append_right _ (List.mem_append_right _ (List.mem_append_right _ (List.mem_append_right _ (List.mem_append_right _ (List.mem_append_right _ (List.mem_append_left _ h))))))))
theorem tt_9 : ∀ w ∈ TT_9, w ∈ TT := fun w h => List.mem_append_right _ (List.mem_append_right _ (List.mem_append_right _ (List.mem_append_right _ (List.mem_append_right _ (List.mem_append_right _ (List.mem_append_right _ (List.mem_append_right _ (List.mem_append_right _ (List.mem_append_left _ h)))))))))
theorem tt_10 : ∀ w ∈ TT_10, w ∈ TT := fun w h => List.mem_append_right _ (List.mem_append_right _ (List.mem_append_right _ (List.mem_append_right _ (List.mem_append_right _ (List.mem_append_right _ (List.mem_append_right _ (List.mem_append_right _ (List.mem_append_right _ (List.mem_append_right _ (List.mem_append_left _ h))))))))))
theorem tt_11 : ∀ w ∈ TT_11, w ∈ TT := fun w h => List.mem_append_right _ (List.mem_append_right _ (List.mem_append_right _ (List.mem_append_right _ (List.mem_append_right _ (List.mem_append_right _ (List.mem_append_right _ (List.mem_append_right _ (List.mem_append_right _ (List.mem_append_right _ (List.mem_append_right _ (List.mem_append_left _ h)))))))))))
theorem tt_12 : ∀ w ∈ TT_12, w ∈ TT := fun w h => List.mem_append_right _ (List.mem_append_right _ (List.mem_append_right _ (List.mem_append_right _ (List.mem_append_right _ (List.mem_append_right _ (List.mem_append_right _ (List.mem_append_right _ (List.mem_append_right _ (List.mem_append_right _ (List.mem_append_right _ (List.mem_append_right _ (List.mem_append_left _ h))))))))))))
theorem tt_13 : ∀ w ∈ TT_13, w ∈ TT := fun w h => List.mem_append_right _ (List.mem_append_right _ (List.mem_append_right _ (List.mem_append_right _ (List.mem_append_right _ (List.mem_append_right _ (List.mem_append_right _ (List.mem_append_right _ (List.mem_append_right _ (List.mem_append_right _ (List.mem_append_right _ (List.mem_append_right _ (List.mem_append_right _ (List.mem_append_left _ h)))))))))))))
theorem tt_14 : ∀ w ∈ TT_14, w ∈ TT := fun w h => List.mem_append_right _ (List.mem_append_right _ (List.mem_append_right _ (List.mem_append_right _ (List.mem_append_right _ (List.mem_append_right _ (List.mem_append_right _ (List.mem_append_right _ (List.mem_append_right _ (List.mem_append_right _ (List.mem_append_right _ (List.mem_append_right _ (List.mem_append_right _ (List.mem_append_right _ (List.mem_append_left _ h))))))))))))))
theorem tt_15 : ∀ w ∈ TT_15, w ∈ TT := fun w h => List.mem_append_right _ (List.mem_append_right _ (List.mem_append_right _ (List.mem_append_right _ (List.mem_append_right _ (List.mem_append_right _ (List.mem_append_right _ (List.mem_append_right _ (List.mem_append_right _ (List.mem_append_right _ (List.mem_append_right _ (List.mem_append_right _ (List.mem_append_right _ (List.mem_append_right _ (List.mem_append_right _ (List.mem_append_left _ h)))))))))))))))
theorem tt_16 : ∀ w ∈ TT_16, w ∈ TT := fun w h => List.mem_append_right _ (List.mem_append_right _ (List.mem_append_right _ (List.mem_append_right _ (List.mem_append_right _ (List.mem_append_right _ (List.mem_append_right _ (List.mem_append_right _ (List.mem_append_right _ (List.mem_append_right _ (List.mem_append_right _ (List.mem_append_right _ (List.mem_append_right _ (List.mem_append_right _ (List.mem_append_right _ (List.mem_append_right _ (List.mem_append_left _ h))))))))))))))))
theorem tt_17 : ∀ w ∈ TT_17, w ∈ TT := fun w h => List.mem_append_right _ (List.mem_append_right _ (List.mem_append_right _ (List.mem_append_right _ (List.mem_append_right _ (List.mem_append_right _ (List.mem_append_right _ (List.mem_append_right _ (List.mem_append_right _ (List.mem_append_right _ (List.mem_append_right _ (List.mem_append_right _ (List.mem_append_right _ (List.mem_append_right _ (List.mem_append_right _ (List.mem_append_right _ (List.mem_append_right _ (List.mem_append_left _ h)))))))))))))))))
theorem tt_18 : ∀ w ∈ TT_18, w ∈ TT := fun w h => List.mem_append_right _ (List.mem_append_right _ (List.mem_append_right _ (List.mem_append_right _ (List.mem_append_right _ (List.mem_append_right _ (List.mem_append_right _ (List.mem_append_right _ (List.mem_append_right _ (List.mem_append_right _ (List.mem_append_right _ (List.mem_append_right _ (List.mem_append_right _ (List.mem_append_right _ (List.mem_append_right _ (List.mem_append_right _ (List.mem_append_right _ (List.mem_append_right _ (List.mem_append_left _ h))))))))))))))))))
theorem tt_19 : ∀ w ∈ TT_19, w ∈ TT := fun w h => List.mem_append_right _ (List.mem_append_right _ (List.mem_append_right _ (List.mem_append_right _ (List.mem_append_right _ (List.mem_append_right _ (List.mem_append_right _ (List.mem_append_right _ (List.mem_append_right _ (List.mem_append_right _ (List.mem_append_right _ (List.mem_append_right _ (List.mem_append_right _ (List.mem_append_right _ (List.mem_append_right _ (List.mem_append_right _ (List.mem_append_right _ (List.mem_append_right _ (List.mem_append_right _ (List.mem_append_left _ h)))))))))))))))))))
theorem tt_20 : ∀ w ∈ TT_20, w ∈ TT := fun w h => List.mem_append_right _ (List.mem_append_right _ (List.mem_append_right _ (List.mem_append_right _ (List.mem_append_right _ (List.mem_append_right _ (List.mem_append_right _ (List.mem_append_right _ (List.mem_append_right _ (List.mem_append_right _ (List.mem_append_right _ (List.mem_append_right _ (List.mem_append_right _ (List.mem_append_right _ (List.mem_append_right _ (List.mem_append_right _ (List.mem_append_right _ (List.mem_append_right _ (List.mem_append_right _ (List.mem_append_right _ (List.mem_append_left _ h))))))))))))))))))))
theorem tt_21 : ∀ w ∈ TT_21, w ∈ TT := fun w h => List.mem_append_right _ (List.mem_append_right _ (List.mem_append_right _ (List.mem_append_right _ (List.mem_append_right _ (List.mem_append_right _ (List.mem_append_right _ (List.mem_append_right _ (List.mem_append_right _ (List.mem_append_right _ (List.mem_append_right _ (List.mem_append_right _ (List.mem_append_right _ (List.mem_append_right _ (List.mem_append_right _ (List.mem_append_right _ (List.mem_append_right _ (List.mem_append_right _ (List.mem_append_right _ (List.mem_append_right _ (List.mem_append_right _ (List.mem_append_left _ h)))))))))))))))))))))
theorem tt_22 : ∀ w ∈ TT_22, w ∈ TT := fun w h => List.mem_append_right _ (List.mem_append_right _ (List.mem_append_right _ (List.mem_append_right _ (List.mem_append_right _ (List.mem_append_right _ (List.mem_append_right _ (List.mem_append_right _ (List.mem_append_right _ (List.mem_append_right _ (List.mem_append_right _ (List.mem_append_right _ (List.mem_append_right _ (List.mem_append_right _ (List.mem_append_right _ (List.mem_append_right _ (List.mem_append_right _ (List.mem_append_right _ (List.mem_append_right _ (List.mem_append_right _ (List.mem_append_right _ (List.mem_append_right _ (List.mem_append_left _ h))))))))))))))))))))))
theorem tt_23 : ∀ w ∈ TT_23, w ∈ TT := fun w h => List.mem_append_right _ (List.mem_append_right _ (List.mem_append_right _ (List.mem_append_right _ (List.mem_append_right _ (List.mem_append_right _ (List.mem_append_right _ (List.mem_append_right _ (List.mem_append_right _ (List.mem_append_right _ (List.mem_append_right _ (List.mem_append_right _ (List.mem_append_right _ (List.mem_append_right _ (List.mem_append_right _ (List.mem_append_right _ (List.mem_append_right _ (List.mem_append_right _ (List.mem_append_right _ (List.mem_append_right _ (List.mem_append_right _ (List.mem_append_right _ (List.mem_append_right _ (List.mem_append_left _ h)))))))))))))))))))))))
theorem tt_24 : ∀ w ∈ TT_24, w ∈ TT := fun w h => List.mem_append_right _ (List.mem_append_right _ (List.mem_append_right _ (List.mem_append_right _ (List.mem_append_right _ (List.mem_append_right _ (List.mem_append_right _ (List.mem_append_right _ (List.mem_append_right _ (List.mem_append_right _ (List.mem_append_right _ (List.mem_append_right _ (List.mem_append_right _ (List.mem_append_right _ (List.mem_append_right _ (List.mem_append_right _ (List.mem_append_right _ (List.mem_append_right _ (List.mem_append_right _ (List.mem_append_right _ (List.mem_append_right _ (List.mem_append_right _ (List.mem_append_right _ (List.mem_append_right _ (List.mem_append_left _ h))))))))))))))))))))))))
theorem tt_25 : ∀ w ∈ TT_25, w ∈ TT := fun w h => List.mem_append_right _ (List.mem_append_right _ (List.mem_append_right _ (List.mem_append_right _ (List.mem_append_right _ (List.mem_append_right _ (List.mem_append_right _ (List.mem_append_right _ (List.mem_append_right _ (List.mem_append_right _ (List.mem_append_right _ (List.mem_append_right _ (List.mem_append_right _ (List.mem_append_right _ (List.mem_append_right _ (List.mem_append_right _ (List.mem_append_right _ (List.mem_append_right _ (List.mem_append_right _ (List.mem_append_right _ (List.mem_append_right _ (List.mem_append_right _ (List.mem_append_right _ (List.mem_append_right _ (List.mem_append_right _ (List.mem_append_left _ h)))))))))))))))))))))))))
theorem tt_26 : ∀ w ∈ TT_26, w ∈ TT := fun w h => List.mem_append_right _ (List.mem_append_right _ (List.mem_append_right _ (List.mem_append_right _ (List.mem_append_right _ (List.mem_append_right _ (List.mem_append_right _ (List.mem_append_right _ (List.mem_append_right _ (List.mem_append_right _ (List.mem_append_right _ (List.mem_append_right _ (List.mem_append_right _ (List.mem_append_right _ (List.mem_append_right _ (List.mem_append_right _ (List.mem_append_right _ (List.mem_append_right _ (List.mem_append_right _ (List.mem_append_right _ (List.mem_append_right _ (List.mem_append_right _ (List.mem_append_right _ (List.mem_append_right _ (List.mem_append_right _ (List.mem_append_right _ (List.mem_append_left _ h))))))))))))))))))))))))))
theorem tt_27 : ∀ w ∈ TT_27, w ∈ TT := fun w h => List.mem_append_right _ (List.mem_append_right _ (List.mem_append_right _ (List.mem_append_right _ (List.mem_append_right _ (List.mem_append_right _ (List.mem_append_right _ (List.mem_append_right _ (List.mem_append_right _ (List.mem_append_right _ (List.mem_append_right _ (List.mem_append_right _ (List.mem_append_right _ (List.mem_append_right _ (List.mem_append_right _ (List.mem_append_right _ (List.mem_append_right _ (List.mem_append_right _ (List.mem_append_right _ (List.mem_append_right _ (List.mem_append_right _ (List.mem_append_right _ (List.mem_append_right _ (List.mem_append_right _ (List.mem_append_right _ (List.mem_append_right _ (List.mem_append_right _ (List.mem_append_left _ h)))))))))))))))))))))))))))
theorem tt_28 : ∀ w ∈ TT_28, w ∈ TT := fun w h => List.mem_append_right _ (List.mem_append_right _ (List.mem_append_right _ (List.mem_append_right _ (List.mem_append_right _ (List.mem_append_right _ (List.mem_append_right _ (List.mem_append_right _ (List.mem_append_right _ (List.mem_append_right _ (List.mem_append_right _ (List.mem_append_right _ (List.mem_append_right _ (List.mem_append_right _ (List.mem_append_right _ (List.mem_append_right _ (List.mem_append_right _ (List.mem_append_right _ (List.mem_append_right _ (List.mem_append_right _ (List.mem_append_right _ (List.mem_append_right _ (List.mem_append_right _ (List.mem_append_right _ (List.mem_append_right _ (List.mem_append_right _ (List.mem_append_right _ (List.mem_append_right _ (List.mem_append_left _ h))))))))))))))))))))))))))))
theorem tt_29 : ∀ w ∈ TT_29, w ∈ TT := fun w h => List.mem_append_right _ (List.mem_append_right _ (List.mem_append_right _ (List.mem_append_right _ (List.mem_append_right _ (List.mem_append_right _ (List.mem_append_right _ (List.mem_append_right _ (List.mem_append_right _ (List.mem_append_right _ (List.mem_append_right _ (List.mem_append_right _ (List.mem_append_right _ (List.mem_append_right _ (List.mem_append_right _ (List.mem_append_right _ (List.mem_append_right _ (List.mem_append_right _ (List.mem_append_right _ (List.mem_append_right _ (List.mem_append_right _ (List.mem_append_right _ (List.mem_append_right _ (List.mem_append_right _ (List.mem_append_right _ (List.mem_append_right _ (List.mem_append_right _ (List.mem_append_right _ (List.mem_append_right _ (h)))))))))))))))))))))))))))))
theorem t_0 : Cond.selects R_Dk y_Dk_startAfresh y_Dk_startAfresh ∈ TT := tt_0 _ (List.mem_of_getElem? (i := 0) rfl)
theorem t_1 : Cond.selects R_Dk y_Dk_isReady y_Dk_isReady ∈ TT := tt_0 _ (List.mem_of_getElem? (i := 1) rfl)
theorem t_2 : Cond.selects R_Dk y_Dk_makeReady y_Dk_makeReady ∈ TT := tt_0 _ (List.mem_of_getElem? (i := 2) rfl)
theorem t_3 : Cond.selects R_Dk y_Dk_trySend y_Dk_trySend ∈ TT := tt_0 _ (List.mem_of_getElem? (i := 3) rfl)
theorem t_4 : Cond.selects R_Dk y_Dk_sufferFault y_Dk_sufferFault ∈ TT := tt_0 _ (List.mem_of_getElem? (i := 4) rfl)
theorem t_5 : Cond.selects R_Dk y_Dk_firstWaiting y_Dk_firstWaiting ∈ TT := tt_0 _ (List.mem_of_getElem? (i := 5) rfl)
theorem t_6 : Cond.selects R_Dk y_Dk_findWaiting y_Dk_findWaiting ∈ TT := tt_0 _ (List.mem_of_getElem? (i := 6) rfl)
theorem t_7 : Cond.selects R_Dk y_Dk_endWait y_Dk_endWait ∈ TT := tt_0 _ (List.mem_of_getElem? (i := 7) rfl)
theorem t_8 : Cond.selects R_Dk y_Dk_hand y_Dk_hand ∈ TT := tt_0 _ (List.mem_of_getElem? (i := 8) rfl)
theorem t_9 : Cond.selects R_Dk y_Dk_startWaiting y_Dk_startWaiting ∈ TT := tt_0 _ (List.mem_of_getElem? (i := 9) rfl)
theorem t_10 : Cond.selects R_Dk y_Dk_tryReceive y_Dk_tryReceive ∈ TT := tt_0 _ (List.mem_of_getElem? (i := 10) rfl)
theorem t_11 : Cond.selects R_Dk y_Dk_takeFromSender y_Dk_takeFromSender ∈ TT := tt_0 _ (List.mem_of_getElem? (i := 11) rfl)
theorem t_12 : Cond.selects R_Dk y_Dk_countPossible y_Dk_countPossible ∈ TT := tt_0 _ (List.mem_of_getElem? (i := 12) rfl)
theorem t_13 : Cond.selects R_Dk y_Dk_isPossible y_Dk_isPossible ∈ TT := tt_0 _ (List.mem_of_getElem? (i := 13) rfl)
theorem t_14 : Cond.selects R_Dk y_Dk_findPossible y_Dk_findPossible ∈ TT := tt_0 _ (List.mem_of_getElem? (i := 14) rfl)
theorem t_15 : Cond.selects R_Dk y_Dk_doCase y_Dk_doCase ∈ TT := tt_0 _ (List.mem_of_getElem? (i := 15) rfl)
theorem t_16 : Cond.selects R_Dk y_Dk_wakeAtShutChannel y_Dk_wakeAtShutChannel ∈ TT := tt_1 _ (List.mem_of_getElem? (i := 0) rfl)
theorem t_17 : Cond.selects R_Md y_Md_isReady y_Md_isReady ∈ TT := tt_1 _ (List.mem_of_getElem? (i := 1) rfl)
theorem t_18 : Cond.selects R_Md y_Md_isChannel y_Md_isChannel ∈ TT := tt_1 _ (List.mem_of_getElem? (i := 2) rfl)
theorem t_19 : Cond.selects R_Md y_Md_ready y_Md_ready ∈ TT := tt_1 _ (List.mem_of_getElem? (i := 3) rfl)
theorem t_20 : Cond.selects R_Md y_Md_isPossible y_Md_isPossible ∈ TT := tt_1 _ (List.mem_of_getElem? (i := 4) rfl)
theorem t_21 : Cond.selects R_Md y_Md_waiter y_Md_waiter ∈ TT := tt_1 _ (List.mem_of_getElem? (i := 5) rfl)
theorem t_22 : Cond.selects R_Md y_Md_waitsAt y_Md_waitsAt ∈ TT := tt_1 _ (List.mem_of_getElem? (i := 6) rfl)
theorem t_23 : Cond.selects R_Md y_Md_caseAt y_Md_caseAt ∈ TT := tt_1 _ (List.mem_of_getElem? (i := 7) rfl)
theorem t_24 : Cond.selects R_Md y_Md_sendNow y_Md_sendNow ∈ TT := tt_1 _ (List.mem_of_getElem? (i := 8) rfl)
theorem t_25 : Cond.selects R_Md y_Md_receives y_Md_receives ∈ TT := tt_1 _ (List.mem_of_getElem? (i := 9) rfl)
theorem t_26 : Cond.selects R_Md y_Md_push y_Md_push ∈ TT := tt_1 _ (List.mem_of_getElem? (i := 10) rfl)
theorem t_27 : Cond.selects R_Md y_Md_waits y_Md_waits ∈ TT := tt_1 _ (List.mem_of_getElem? (i := 11) rfl)
theorem t_28 : Cond.selects R_Md y_Md_receiveNow y_Md_receiveNow ∈ TT := tt_1 _ (List.mem_of_getElem? (i := 12) rfl)
theorem t_29 : Cond.selects R_Md y_Md_take y_Md_take ∈ TT := tt_1 _ (List.mem_of_getElem? (i := 13) rfl)
theorem t_30 : Cond.selects R_Md y_Md_sends y_Md_sends ∈ TT := tt_1 _ (List.mem_of_getElem? (i := 14) rfl)
theorem t_31 : Cond.initialized R_Lw ∈ TT := tt_1 _ (List.mem_of_getElem? (i := 15) rfl)
theorem t_32 : Cond.initialized R_Dk ∈ TT := tt_2 _ (List.mem_of_getElem? (i := 0) rfl)
theorem t_33 : Cond.initialized R_Ch ∈ TT := tt_2 _ (List.mem_of_getElem? (i := 1) rfl)
theorem t_34 : Cond.initialized R_Cs ∈ TT := tt_2 _ (List.mem_of_getElem? (i := 2) rfl)
theorem t_35 : Cond.initialized R_Ln ∈ TT := tt_2 _ (List.mem_of_getElem? (i := 3) rfl)
theorem t_36 : Cond.initialized R_Ar ∈ TT := tt_2 _ (List.mem_of_getElem? (i := 4) rfl)
theorem t_37 : Cond.initialized R_Md ∈ TT := tt_2 _ (List.mem_of_getElem? (i := 5) rfl)
theorem t_38 : Cond.initialized R_Sy ∈ TT := tt_2 _ (List.mem_of_getElem? (i := 6) rfl)
theorem t_39 : Cond.classLink R_Lw 7 R_Dk ∈ TT := tt_2 _ (List.mem_of_getElem? (i := 7) rfl)
theorem t_40 : Cond.instantiable R_Dk 9 ∈ TT := tt_2 _ (List.mem_of_getElem? (i := 8) rfl)
theorem t_41 : Cond.methodLink R_Lw 9 y_Dk_init ∈ TT := tt_2 _ (List.mem_of_getElem? (i := 9) rfl)
theorem t_42 : Cond.instanceMethod y_Dk_init ∈ TT := tt_2 _ (List.mem_of_getElem? (i := 10) rfl)
theorem t_43 : Cond.code y_Dk_init b_Dk_init 1 none ∈ TT := tt_2 _ (List.mem_of_getElem? (i := 11) rfl)
theorem t_44 : Cond.methodLink R_Dk 1 objectInit ∈ TT := tt_2 _ (List.mem_of_getElem? (i := 12) rfl)
theorem t_45 : Cond.instanceMethod objectInit ∈ TT := tt_2 _ (List.mem_of_getElem? (i := 13) rfl)
theorem t_46 : Cond.code objectInit ⟨#[0xb1]⟩ 1 none ∈ TT := tt_2 _ (List.mem_of_getElem? (i := 14) rfl)
theorem t_47 : Cond.classLink R_Dk 7 R_Ch ∈ TT := tt_2 _ (List.mem_of_getElem? (i := 15) rfl)
theorem t_48 : Cond.instantiable R_Ch 5 ∈ TT := tt_3 _ (List.mem_of_getElem? (i := 0) rfl)
theorem t_49 : Cond.instanceMethod y_Ch_init ∈ TT := tt_3 _ (List.mem_of_getElem? (i := 1) rfl)
theorem t_50 : Cond.code y_Ch_init b_Ch_init 1 none ∈ TT := tt_3 _ (List.mem_of_getElem? (i := 2) rfl)
theorem t_51 : Cond.methodLink R_Ch 3 objectInit ∈ TT := tt_3 _ (List.mem_of_getElem? (i := 3) rfl)
theorem t_52 : Cond.fieldLink R_Ch 9 R_Ch "room" "[I" ∈ TT := tt_3 _ (List.mem_of_getElem? (i := 4) rfl)
theorem t_53 : Cond.fieldLink R_Ch 15 R_Ch "held" "[I" ∈ TT := tt_3 _ (List.mem_of_getElem? (i := 5) rfl)
theorem t_54 : Cond.fieldLink R_Ch 18 R_Ch "shut" "[Z" ∈ TT := tt_3 _ (List.mem_of_getElem? (i := 6) rfl)
theorem t_55 : Cond.fieldLink R_Ch 22 R_Ch "values" "[I" ∈ TT := tt_3 _ (List.mem_of_getElem? (i := 7) rfl)
theorem t_56 : Cond.fieldLink R_Ch 25 R_Ch "number" "I" ∈ TT := tt_3 _ (List.mem_of_getElem? (i := 8) rfl)
theorem t_57 : Cond.laysFinal R_Ch R_Ch "room" "[I" ∈ TT := tt_3 _ (List.mem_of_getElem? (i := 9) rfl)
theorem t_58 : Cond.laysFinal R_Ch R_Ch "held" "[I" ∈ TT := tt_3 _ (List.mem_of_getElem? (i := 10) rfl)
theorem t_59 : Cond.laysFinal R_Ch R_Ch "shut" "[Z" ∈ TT := tt_3 _ (List.mem_of_getElem? (i := 11) rfl)
theorem t_60 : Cond.laysFinal R_Ch R_Ch "values" "[I" ∈ TT := tt_3 _ (List.mem_of_getElem? (i := 12) rfl)
theorem t_61 : Cond.lays R_Ch R_Ch "number" "I" ∈ TT := tt_3 _ (List.mem_of_getElem? (i := 13) rfl)
theorem t_62 : Cond.arrayClass .int ∈ TT := tt_3 _ (List.mem_of_getElem? (i := 14) rfl)
theorem t_63 : Cond.arrayClass .boolean ∈ TT := tt_3 _ (List.mem_of_getElem? (i := 15) rfl)
theorem t_64 : Cond.classLink R_Dk 16 R_Cs ∈ TT := tt_4 _ (List.mem_of_getElem? (i := 0) rfl)
theorem t_65 : Cond.instantiable R_Cs 4 ∈ TT := tt_4 _ (List.mem_of_getElem? (i := 1) rfl)
theorem t_66 : Cond.instanceMethod y_Cs_init ∈ TT := tt_4 _ (List.mem_of_getElem? (i := 2) rfl)
theorem t_67 : Cond.code y_Cs_init b_Cs_init 1 none ∈ TT := tt_4 _ (List.mem_of_getElem? (i := 3) rfl)
theorem t_68 : Cond.methodLink R_Cs 3 objectInit ∈ TT := tt_4 _ (List.mem_of_getElem? (i := 4) rfl)
theorem t_69 : Cond.fieldLink R_Cs 9 R_Cs "number" "[I" ∈ TT := tt_4 _ (List.mem_of_getElem? (i := 5) rfl)
theorem t_70 : Cond.fieldLink R_Cs 15 R_Cs "channels" "[I" ∈ TT := tt_4 _ (List.mem_of_getElem? (i := 6) rfl)
theorem t_71 : Cond.fieldLink R_Cs 18 R_Cs "ways" "[I" ∈ TT := tt_4 _ (List.mem_of_getElem? (i := 7) rfl)
theorem t_72 : Cond.fieldLink R_Cs 21 R_Cs "values" "[I" ∈ TT := tt_4 _ (List.mem_of_getElem? (i := 8) rfl)
theorem t_73 : Cond.laysFinal R_Cs R_Cs "number" "[I" ∈ TT := tt_4 _ (List.mem_of_getElem? (i := 9) rfl)
theorem t_74 : Cond.laysFinal R_Cs R_Cs "channels" "[I" ∈ TT := tt_4 _ (List.mem_of_getElem? (i := 10) rfl)
theorem t_75 : Cond.laysFinal R_Cs R_Cs "ways" "[I" ∈ TT := tt_4 _ (List.mem_of_getElem? (i := 11) rfl)
theorem t_76 : Cond.laysFinal R_Cs R_Cs "values" "[I" ∈ TT := tt_4 _ (List.mem_of_getElem? (i := 12) rfl)
theorem t_77 : Cond.classLink R_Dk 23 R_Ln ∈ TT := tt_4 _ (List.mem_of_getElem? (i := 13) rfl)
theorem t_78 : Cond.instantiable R_Ln 2 ∈ TT := tt_4 _ (List.mem_of_getElem? (i := 14) rfl)
theorem t_79 : Cond.instanceMethod y_Ln_init ∈ TT := tt_4 _ (List.mem_of_getElem? (i := 15) rfl)
theorem t_80 : Cond.code y_Ln_init b_Ln_init 1 none ∈ TT := tt_5 _ (List.mem_of_getElem? (i := 0) rfl)
theorem t_81 : Cond.methodLink R_Ln 3 objectInit ∈ TT := tt_5 _ (List.mem_of_getElem? (i := 1) rfl)
theorem t_82 : Cond.fieldLink R_Ln 9 R_Ln "members" "[I" ∈ TT := tt_5 _ (List.mem_of_getElem? (i := 2) rfl)
theorem t_83 : Cond.fieldLink R_Ln 15 R_Ln "length" "I" ∈ TT := tt_5 _ (List.mem_of_getElem? (i := 3) rfl)
theorem t_84 : Cond.laysFinal R_Ln R_Ln "members" "[I" ∈ TT := tt_5 _ (List.mem_of_getElem? (i := 4) rfl)
theorem t_85 : Cond.lays R_Ln R_Ln "length" "I" ∈ TT := tt_5 _ (List.mem_of_getElem? (i := 5) rfl)
theorem t_86 : Cond.methodLink R_Dk 43 y_Dk_startAfresh ∈ TT := tt_5 _ (List.mem_of_getElem? (i := 6) rfl)
theorem t_87 : Cond.instanceMethod y_Dk_startAfresh ∈ TT := tt_5 _ (List.mem_of_getElem? (i := 7) rfl)
theorem t_88 : Cond.code y_Dk_startAfresh b_Dk_startAfresh 1 none ∈ TT := tt_5 _ (List.mem_of_getElem? (i := 8) rfl)
theorem t_89 : Cond.methodLink R_Dk 133 y_Ch_forgetAll ∈ TT := tt_5 _ (List.mem_of_getElem? (i := 9) rfl)
theorem t_90 : Cond.instanceMethod y_Ch_forgetAll ∈ TT := tt_5 _ (List.mem_of_getElem? (i := 10) rfl)
theorem t_91 : Cond.selects R_Ch y_Ch_forgetAll y_Ch_forgetAll ∈ TT := tt_5 _ (List.mem_of_getElem? (i := 11) rfl)
theorem t_92 : Cond.code y_Ch_forgetAll b_Ch_forgetAll 1 none ∈ TT := tt_5 _ (List.mem_of_getElem? (i := 12) rfl)
theorem t_93 : Cond.methodLink R_Dk 136 y_Cs_forgetAll ∈ TT := tt_5 _ (List.mem_of_getElem? (i := 13) rfl)
theorem t_94 : Cond.instanceMethod y_Cs_forgetAll ∈ TT := tt_5 _ (List.mem_of_getElem? (i := 14) rfl)
theorem t_95 : Cond.selects R_Cs y_Cs_forgetAll y_Cs_forgetAll ∈ TT := tt_5 _ (List.mem_of_getElem? (i := 15) rfl)
theorem t_96 : Cond.code y_Cs_forgetAll b_Cs_forgetAll 1 none ∈ TT := tt_6 _ (List.mem_of_getElem? (i := 0) rfl)
theorem t_97 : Cond.methodLink R_Cs 24 y_Ar_fill ∈ TT := tt_6 _ (List.mem_of_getElem? (i := 1) rfl)
theorem t_98 : Cond.static y_Ar_fill ∈ TT := tt_6 _ (List.mem_of_getElem? (i := 2) rfl)
theorem t_99 : Cond.code y_Ar_fill b_Ar_fill 4 none ∈ TT := tt_6 _ (List.mem_of_getElem? (i := 3) rfl)
theorem t_100 : Cond.methodLink R_Dk 137 y_Ln_empty ∈ TT := tt_6 _ (List.mem_of_getElem? (i := 4) rfl)
theorem t_101 : Cond.instanceMethod y_Ln_empty ∈ TT := tt_6 _ (List.mem_of_getElem? (i := 5) rfl)
theorem t_102 : Cond.selects R_Ln y_Ln_empty y_Ln_empty ∈ TT := tt_6 _ (List.mem_of_getElem? (i := 6) rfl)
theorem t_103 : Cond.code y_Ln_empty b_Ln_empty 1 none ∈ TT := tt_6 _ (List.mem_of_getElem? (i := 7) rfl)
theorem t_104 : Cond.methodLink R_Dk 140 y_Ar_fill ∈ TT := tt_6 _ (List.mem_of_getElem? (i := 8) rfl)
theorem t_105 : Cond.fieldLink R_Dk 10 R_Dk "channels" "LChannelDesk$Channels;" ∈ TT := tt_6 _ (List.mem_of_getElem? (i := 9) rfl)
theorem t_106 : Cond.fieldLink R_Dk 19 R_Dk "cases" "LChannelDesk$Cases;" ∈ TT := tt_6 _ (List.mem_of_getElem? (i := 10) rfl)
theorem t_107 : Cond.fieldLink R_Dk 26 R_Dk "line" "LChannelDesk$Line;" ∈ TT := tt_6 _ (List.mem_of_getElem? (i := 11) rfl)
theorem t_108 : Cond.fieldLink R_Dk 30 R_Dk "status" "[I" ∈ TT := tt_6 _ (List.mem_of_getElem? (i := 12) rfl)
theorem t_109 : Cond.fieldLink R_Dk 34 R_Dk "received" "[I" ∈ TT := tt_6 _ (List.mem_of_getElem? (i := 13) rfl)
theorem t_110 : Cond.fieldLink R_Dk 37 R_Dk "wasSent" "[I" ∈ TT := tt_6 _ (List.mem_of_getElem? (i := 14) rfl)
theorem t_111 : Cond.fieldLink R_Dk 40 R_Dk "caseDone" "[I" ∈ TT := tt_6 _ (List.mem_of_getElem? (i := 15) rfl)
theorem t_112 : Cond.fieldLink R_Dk 126 R_Dk "meetings" "I" ∈ TT := tt_7 _ (List.mem_of_getElem? (i := 0) rfl)
theorem t_113 : Cond.fieldLink R_Dk 130 R_Dk "faults" "I" ∈ TT := tt_7 _ (List.mem_of_getElem? (i := 1) rfl)
theorem t_114 : Cond.laysFinal R_Dk R_Dk "channels" "LChannelDesk$Channels;" ∈ TT := tt_7 _ (List.mem_of_getElem? (i := 2) rfl)
theorem t_115 : Cond.laysFinal R_Dk R_Dk "cases" "LChannelDesk$Cases;" ∈ TT := tt_7 _ (List.mem_of_getElem? (i := 3) rfl)
theorem t_116 : Cond.laysFinal R_Dk R_Dk "line" "LChannelDesk$Line;" ∈ TT := tt_7 _ (List.mem_of_getElem? (i := 4) rfl)
theorem t_117 : Cond.laysFinal R_Dk R_Dk "status" "[I" ∈ TT := tt_7 _ (List.mem_of_getElem? (i := 5) rfl)
theorem t_118 : Cond.laysFinal R_Dk R_Dk "received" "[I" ∈ TT := tt_7 _ (List.mem_of_getElem? (i := 6) rfl)
theorem t_119 : Cond.laysFinal R_Dk R_Dk "wasSent" "[I" ∈ TT := tt_7 _ (List.mem_of_getElem? (i := 7) rfl)
theorem t_120 : Cond.laysFinal R_Dk R_Dk "caseDone" "[I" ∈ TT := tt_7 _ (List.mem_of_getElem? (i := 8) rfl)
theorem t_121 : Cond.lays R_Dk R_Dk "meetings" "I" ∈ TT := tt_7 _ (List.mem_of_getElem? (i := 9) rfl)
theorem t_122 : Cond.lays R_Dk R_Dk "faults" "I" ∈ TT := tt_7 _ (List.mem_of_getElem? (i := 10) rfl)
theorem t_123 : Cond.methodLink R_Lw 13 y_Dk_make ∈ TT := tt_7 _ (List.mem_of_getElem? (i := 11) rfl)
theorem t_124 : Cond.instanceMethod y_Dk_make ∈ TT := tt_7 _ (List.mem_of_getElem? (i := 12) rfl)
theorem t_125 : Cond.selects R_Dk y_Dk_make y_Dk_make ∈ TT := tt_7 _ (List.mem_of_getElem? (i := 13) rfl)
theorem t_126 : Cond.code y_Dk_make b_Dk_make 2 (some .int) ∈ TT := tt_7 _ (List.mem_of_getElem? (i := 14) rfl)
theorem t_127 : Cond.methodLink R_Dk 46 y_Ch_open ∈ TT := tt_7 _ (List.mem_of_getElem? (i := 15) rfl)
theorem t_128 : Cond.instanceMethod y_Ch_open ∈ TT := tt_8 _ (List.mem_of_getElem? (i := 0) rfl)
theorem t_129 : Cond.selects R_Ch y_Ch_open y_Ch_open ∈ TT := tt_8 _ (List.mem_of_getElem? (i := 1) rfl)
theorem t_130 : Cond.code y_Ch_open b_Ch_open 3 (some .int) ∈ TT := tt_8 _ (List.mem_of_getElem? (i := 2) rfl)
theorem t_131 : Cond.methodLink R_Lw 18 y_Dk_send ∈ TT := tt_8 _ (List.mem_of_getElem? (i := 3) rfl)
theorem t_132 : Cond.instanceMethod y_Dk_send ∈ TT := tt_8 _ (List.mem_of_getElem? (i := 4) rfl)
theorem t_133 : Cond.selects R_Dk y_Dk_send y_Dk_send ∈ TT := tt_8 _ (List.mem_of_getElem? (i := 5) rfl)
theorem t_134 : Cond.code y_Dk_send b_Dk_send 5 (some .int) ∈ TT := tt_8 _ (List.mem_of_getElem? (i := 6) rfl)
theorem t_135 : Cond.methodLink R_Dk 50 y_Dk_isReady ∈ TT := tt_8 _ (List.mem_of_getElem? (i := 7) rfl)
theorem t_136 : Cond.instanceMethod y_Dk_isReady ∈ TT := tt_8 _ (List.mem_of_getElem? (i := 8) rfl)
theorem t_137 : Cond.code y_Dk_isReady b_Dk_isReady 2 (some .boolean) ∈ TT := tt_8 _ (List.mem_of_getElem? (i := 9) rfl)
theorem t_138 : Cond.methodLink R_Dk 101 y_Dk_isRoutine ∈ TT := tt_8 _ (List.mem_of_getElem? (i := 10) rfl)
theorem t_139 : Cond.static y_Dk_isRoutine ∈ TT := tt_8 _ (List.mem_of_getElem? (i := 11) rfl)
theorem t_140 : Cond.code y_Dk_isRoutine b_Dk_isRoutine 1 (some .boolean) ∈ TT := tt_8 _ (List.mem_of_getElem? (i := 12) rfl)
theorem t_141 : Cond.methodLink R_Dk 54 y_Ch_has ∈ TT := tt_8 _ (List.mem_of_getElem? (i := 13) rfl)
theorem t_142 : Cond.instanceMethod y_Ch_has ∈ TT := tt_8 _ (List.mem_of_getElem? (i := 14) rfl)
theorem t_143 : Cond.selects R_Ch y_Ch_has y_Ch_has ∈ TT := tt_8 _ (List.mem_of_getElem? (i := 15) rfl)
theorem t_144 : Cond.code y_Ch_has b_Ch_has 2 (some .boolean) ∈ TT := tt_9 _ (List.mem_of_getElem? (i := 0) rfl)
theorem t_145 : Cond.methodLink R_Dk 57 y_Dk_makeReady ∈ TT := tt_9 _ (List.mem_of_getElem? (i := 1) rfl)
theorem t_146 : Cond.instanceMethod y_Dk_makeReady ∈ TT := tt_9 _ (List.mem_of_getElem? (i := 2) rfl)
theorem t_147 : Cond.code y_Dk_makeReady b_Dk_makeReady 2 none ∈ TT := tt_9 _ (List.mem_of_getElem? (i := 3) rfl)
theorem t_148 : Cond.methodLink R_Dk 146 y_Cs_forget ∈ TT := tt_9 _ (List.mem_of_getElem? (i := 4) rfl)
theorem t_149 : Cond.instanceMethod y_Cs_forget ∈ TT := tt_9 _ (List.mem_of_getElem? (i := 5) rfl)
theorem t_150 : Cond.selects R_Cs y_Cs_forget y_Cs_forget ∈ TT := tt_9 _ (List.mem_of_getElem? (i := 6) rfl)
theorem t_151 : Cond.code y_Cs_forget b_Cs_forget 2 none ∈ TT := tt_9 _ (List.mem_of_getElem? (i := 7) rfl)
theorem t_152 : Cond.methodLink R_Dk 61 y_Dk_trySend ∈ TT := tt_9 _ (List.mem_of_getElem? (i := 8) rfl)
theorem t_153 : Cond.instanceMethod y_Dk_trySend ∈ TT := tt_9 _ (List.mem_of_getElem? (i := 9) rfl)
theorem t_154 : Cond.code y_Dk_trySend b_Dk_trySend 5 (some .int) ∈ TT := tt_9 _ (List.mem_of_getElem? (i := 10) rfl)
theorem t_155 : Cond.methodLink R_Dk 89 y_Ch_isShut ∈ TT := tt_9 _ (List.mem_of_getElem? (i := 11) rfl)
theorem t_156 : Cond.instanceMethod y_Ch_isShut ∈ TT := tt_9 _ (List.mem_of_getElem? (i := 12) rfl)
theorem t_157 : Cond.selects R_Ch y_Ch_isShut y_Ch_isShut ∈ TT := tt_9 _ (List.mem_of_getElem? (i := 13) rfl)
theorem t_158 : Cond.code y_Ch_isShut b_Ch_isShut 2 (some .boolean) ∈ TT := tt_9 _ (List.mem_of_getElem? (i := 14) rfl)
theorem t_159 : Cond.methodLink R_Dk 152 y_Dk_sufferFault ∈ TT := tt_9 _ (List.mem_of_getElem? (i := 15) rfl)
theorem t_160 : Cond.instanceMethod y_Dk_sufferFault ∈ TT := tt_10 _ (List.mem_of_getElem? (i := 0) rfl)
theorem t_161 : Cond.code y_Dk_sufferFault b_Dk_sufferFault 2 none ∈ TT := tt_10 _ (List.mem_of_getElem? (i := 1) rfl)
theorem t_162 : Cond.methodLink R_Dk 95 y_Dk_firstWaiting ∈ TT := tt_10 _ (List.mem_of_getElem? (i := 2) rfl)
theorem t_163 : Cond.instanceMethod y_Dk_firstWaiting ∈ TT := tt_10 _ (List.mem_of_getElem? (i := 3) rfl)
theorem t_164 : Cond.code y_Dk_firstWaiting b_Dk_firstWaiting 3 (some .int) ∈ TT := tt_10 _ (List.mem_of_getElem? (i := 4) rfl)
theorem t_165 : Cond.methodLink R_Dk 104 y_Dk_findWaiting ∈ TT := tt_10 _ (List.mem_of_getElem? (i := 5) rfl)
theorem t_166 : Cond.instanceMethod y_Dk_findWaiting ∈ TT := tt_10 _ (List.mem_of_getElem? (i := 6) rfl)
theorem t_167 : Cond.code y_Dk_findWaiting b_Dk_findWaiting 7 (some .int) ∈ TT := tt_10 _ (List.mem_of_getElem? (i := 7) rfl)
theorem t_168 : Cond.methodLink R_Dk 123 y_Ln_length ∈ TT := tt_10 _ (List.mem_of_getElem? (i := 8) rfl)
theorem t_169 : Cond.instanceMethod y_Ln_length ∈ TT := tt_10 _ (List.mem_of_getElem? (i := 9) rfl)
theorem t_170 : Cond.selects R_Ln y_Ln_length y_Ln_length ∈ TT := tt_10 _ (List.mem_of_getElem? (i := 10) rfl)
theorem t_171 : Cond.code y_Ln_length b_Ln_length 1 (some .int) ∈ TT := tt_10 _ (List.mem_of_getElem? (i := 11) rfl)
theorem t_172 : Cond.methodLink R_Dk 198 y_Ln_memberAt ∈ TT := tt_10 _ (List.mem_of_getElem? (i := 12) rfl)
theorem t_173 : Cond.instanceMethod y_Ln_memberAt ∈ TT := tt_10 _ (List.mem_of_getElem? (i := 13) rfl)
theorem t_174 : Cond.selects R_Ln y_Ln_memberAt y_Ln_memberAt ∈ TT := tt_10 _ (List.mem_of_getElem? (i := 14) rfl)
theorem t_175 : Cond.code y_Ln_memberAt b_Ln_memberAt 2 (some .int) ∈ TT := tt_10 _ (List.mem_of_getElem? (i := 15) rfl)
theorem t_176 : Cond.methodLink R_Dk 201 y_Cs_firstAt ∈ TT := tt_11 _ (List.mem_of_getElem? (i := 0) rfl)
theorem t_177 : Cond.instanceMethod y_Cs_firstAt ∈ TT := tt_11 _ (List.mem_of_getElem? (i := 1) rfl)
theorem t_178 : Cond.selects R_Cs y_Cs_firstAt y_Cs_firstAt ∈ TT := tt_11 _ (List.mem_of_getElem? (i := 2) rfl)
theorem t_179 : Cond.code y_Cs_firstAt b_Cs_firstAt 6 (some .int) ∈ TT := tt_11 _ (List.mem_of_getElem? (i := 3) rfl)
theorem t_180 : Cond.methodLink R_Cs 30 y_Cs_slotOf ∈ TT := tt_11 _ (List.mem_of_getElem? (i := 4) rfl)
theorem t_181 : Cond.static y_Cs_slotOf ∈ TT := tt_11 _ (List.mem_of_getElem? (i := 5) rfl)
theorem t_182 : Cond.code y_Cs_slotOf b_Cs_slotOf 2 (some .int) ∈ TT := tt_11 _ (List.mem_of_getElem? (i := 6) rfl)
theorem t_183 : Cond.methodLink R_Dk 155 y_Dk_endWait ∈ TT := tt_11 _ (List.mem_of_getElem? (i := 7) rfl)
theorem t_184 : Cond.instanceMethod y_Dk_endWait ∈ TT := tt_11 _ (List.mem_of_getElem? (i := 8) rfl)
theorem t_185 : Cond.code y_Dk_endWait b_Dk_endWait 3 none ∈ TT := tt_11 _ (List.mem_of_getElem? (i := 9) rfl)
theorem t_186 : Cond.methodLink R_Dk 107 y_Cs_routineAt ∈ TT := tt_11 _ (List.mem_of_getElem? (i := 10) rfl)
theorem t_187 : Cond.static y_Cs_routineAt ∈ TT := tt_11 _ (List.mem_of_getElem? (i := 11) rfl)
theorem t_188 : Cond.code y_Cs_routineAt b_Cs_routineAt 1 (some .int) ∈ TT := tt_11 _ (List.mem_of_getElem? (i := 12) rfl)
theorem t_189 : Cond.methodLink R_Dk 174 y_Cs_numberAt ∈ TT := tt_11 _ (List.mem_of_getElem? (i := 13) rfl)
theorem t_190 : Cond.static y_Cs_numberAt ∈ TT := tt_11 _ (List.mem_of_getElem? (i := 14) rfl)
theorem t_191 : Cond.code y_Cs_numberAt b_Cs_numberAt 1 (some .int) ∈ TT := tt_11 _ (List.mem_of_getElem? (i := 15) rfl)
theorem t_192 : Cond.methodLink R_Dk 177 y_Ln_leave ∈ TT := tt_12 _ (List.mem_of_getElem? (i := 0) rfl)
theorem t_193 : Cond.instanceMethod y_Ln_leave ∈ TT := tt_12 _ (List.mem_of_getElem? (i := 1) rfl)
theorem t_194 : Cond.selects R_Ln y_Ln_leave y_Ln_leave ∈ TT := tt_12 _ (List.mem_of_getElem? (i := 2) rfl)
theorem t_195 : Cond.code y_Ln_leave b_Ln_leave 4 none ∈ TT := tt_12 _ (List.mem_of_getElem? (i := 3) rfl)
theorem t_196 : Cond.methodLink R_Dk 158 y_Dk_hand ∈ TT := tt_12 _ (List.mem_of_getElem? (i := 4) rfl)
theorem t_197 : Cond.instanceMethod y_Dk_hand ∈ TT := tt_12 _ (List.mem_of_getElem? (i := 5) rfl)
theorem t_198 : Cond.code y_Dk_hand b_Dk_hand 4 none ∈ TT := tt_12 _ (List.mem_of_getElem? (i := 6) rfl)
theorem t_199 : Cond.methodLink R_Dk 162 y_Ch_put ∈ TT := tt_12 _ (List.mem_of_getElem? (i := 7) rfl)
theorem t_200 : Cond.instanceMethod y_Ch_put ∈ TT := tt_12 _ (List.mem_of_getElem? (i := 8) rfl)
theorem t_201 : Cond.selects R_Ch y_Ch_put y_Ch_put ∈ TT := tt_12 _ (List.mem_of_getElem? (i := 9) rfl)
theorem t_202 : Cond.code y_Ch_put b_Ch_put 3 (some .boolean) ∈ TT := tt_12 _ (List.mem_of_getElem? (i := 10) rfl)
theorem t_203 : Cond.methodLink R_Ch 29 y_Ch_hasSpace ∈ TT := tt_12 _ (List.mem_of_getElem? (i := 11) rfl)
theorem t_204 : Cond.instanceMethod y_Ch_hasSpace ∈ TT := tt_12 _ (List.mem_of_getElem? (i := 12) rfl)
theorem t_205 : Cond.selects R_Ch y_Ch_hasSpace y_Ch_hasSpace ∈ TT := tt_12 _ (List.mem_of_getElem? (i := 13) rfl)
theorem t_206 : Cond.code y_Ch_hasSpace b_Ch_hasSpace 2 (some .boolean) ∈ TT := tt_12 _ (List.mem_of_getElem? (i := 14) rfl)
theorem t_207 : Cond.methodLink R_Dk 65 y_Cs_append ∈ TT := tt_12 _ (List.mem_of_getElem? (i := 15) rfl)
theorem t_208 : Cond.instanceMethod y_Cs_append ∈ TT := tt_13 _ (List.mem_of_getElem? (i := 0) rfl)
theorem t_209 : Cond.selects R_Cs y_Cs_append y_Cs_append ∈ TT := tt_13 _ (List.mem_of_getElem? (i := 1) rfl)
theorem t_210 : Cond.code y_Cs_append b_Cs_append 6 (some .int) ∈ TT := tt_13 _ (List.mem_of_getElem? (i := 2) rfl)
theorem t_211 : Cond.methodLink R_Dk 69 y_Dk_startWaiting ∈ TT := tt_13 _ (List.mem_of_getElem? (i := 3) rfl)
theorem t_212 : Cond.instanceMethod y_Dk_startWaiting ∈ TT := tt_13 _ (List.mem_of_getElem? (i := 4) rfl)
theorem t_213 : Cond.code y_Dk_startWaiting b_Dk_startWaiting 3 none ∈ TT := tt_13 _ (List.mem_of_getElem? (i := 5) rfl)
theorem t_214 : Cond.methodLink R_Dk 149 y_Ln_join ∈ TT := tt_13 _ (List.mem_of_getElem? (i := 6) rfl)
theorem t_215 : Cond.instanceMethod y_Ln_join ∈ TT := tt_13 _ (List.mem_of_getElem? (i := 7) rfl)
theorem t_216 : Cond.selects R_Ln y_Ln_join y_Ln_join ∈ TT := tt_13 _ (List.mem_of_getElem? (i := 8) rfl)
theorem t_217 : Cond.code y_Ln_join b_Ln_join 2 none ∈ TT := tt_13 _ (List.mem_of_getElem? (i := 9) rfl)
theorem t_218 : Cond.methodLink R_Lw 23 y_Dk_receive ∈ TT := tt_13 _ (List.mem_of_getElem? (i := 10) rfl)
theorem t_219 : Cond.instanceMethod y_Dk_receive ∈ TT := tt_13 _ (List.mem_of_getElem? (i := 11) rfl)
theorem t_220 : Cond.selects R_Dk y_Dk_receive y_Dk_receive ∈ TT := tt_13 _ (List.mem_of_getElem? (i := 12) rfl)
theorem t_221 : Cond.code y_Dk_receive b_Dk_receive 4 (some .int) ∈ TT := tt_13 _ (List.mem_of_getElem? (i := 13) rfl)
theorem t_222 : Cond.methodLink R_Dk 73 y_Dk_tryReceive ∈ TT := tt_13 _ (List.mem_of_getElem? (i := 14) rfl)
theorem t_223 : Cond.instanceMethod y_Dk_tryReceive ∈ TT := tt_13 _ (List.mem_of_getElem? (i := 15) rfl)
theorem t_224 : Cond.code y_Dk_tryReceive b_Dk_tryReceive 4 (some .int) ∈ TT := tt_14 _ (List.mem_of_getElem? (i := 0) rfl)
theorem t_225 : Cond.methodLink R_Dk 110 y_Ch_held ∈ TT := tt_14 _ (List.mem_of_getElem? (i := 1) rfl)
theorem t_226 : Cond.instanceMethod y_Ch_held ∈ TT := tt_14 _ (List.mem_of_getElem? (i := 2) rfl)
theorem t_227 : Cond.selects R_Ch y_Ch_held y_Ch_held ∈ TT := tt_14 _ (List.mem_of_getElem? (i := 3) rfl)
theorem t_228 : Cond.code y_Ch_held b_Ch_held 2 (some .int) ∈ TT := tt_14 _ (List.mem_of_getElem? (i := 4) rfl)
theorem t_229 : Cond.methodLink R_Dk 166 y_Ch_takeFirst ∈ TT := tt_14 _ (List.mem_of_getElem? (i := 5) rfl)
theorem t_230 : Cond.instanceMethod y_Ch_takeFirst ∈ TT := tt_14 _ (List.mem_of_getElem? (i := 6) rfl)
theorem t_231 : Cond.selects R_Ch y_Ch_takeFirst y_Ch_takeFirst ∈ TT := tt_14 _ (List.mem_of_getElem? (i := 7) rfl)
theorem t_232 : Cond.code y_Ch_takeFirst b_Ch_takeFirst 4 (some .int) ∈ TT := tt_14 _ (List.mem_of_getElem? (i := 8) rfl)
theorem t_233 : Cond.methodLink R_Ch 33 arraycopyName ∈ TT := tt_14 _ (List.mem_of_getElem? (i := 9) rfl)
theorem t_234 : Cond.static arraycopyName ∈ TT := tt_14 _ (List.mem_of_getElem? (i := 10) rfl)
theorem t_235 : Cond.native arraycopyName ∈ TT := tt_14 _ (List.mem_of_getElem? (i := 11) rfl)
theorem t_236 : Cond.methodLink R_Dk 169 y_Dk_takeFromSender ∈ TT := tt_14 _ (List.mem_of_getElem? (i := 12) rfl)
theorem t_237 : Cond.instanceMethod y_Dk_takeFromSender ∈ TT := tt_14 _ (List.mem_of_getElem? (i := 13) rfl)
theorem t_238 : Cond.code y_Dk_takeFromSender b_Dk_takeFromSender 3 (some .int) ∈ TT := tt_14 _ (List.mem_of_getElem? (i := 14) rfl)
theorem t_239 : Cond.methodLink R_Dk 172 y_Cs_valueAt ∈ TT := tt_14 _ (List.mem_of_getElem? (i := 15) rfl)
theorem t_240 : Cond.instanceMethod y_Cs_valueAt ∈ TT := tt_15 _ (List.mem_of_getElem? (i := 0) rfl)
theorem t_241 : Cond.selects R_Cs y_Cs_valueAt y_Cs_valueAt ∈ TT := tt_15 _ (List.mem_of_getElem? (i := 1) rfl)
theorem t_242 : Cond.code y_Cs_valueAt b_Cs_valueAt 2 (some .int) ∈ TT := tt_15 _ (List.mem_of_getElem? (i := 2) rfl)
theorem t_243 : Cond.methodLink R_Lw 28 y_Dk_add ∈ TT := tt_15 _ (List.mem_of_getElem? (i := 3) rfl)
theorem t_244 : Cond.instanceMethod y_Dk_add ∈ TT := tt_15 _ (List.mem_of_getElem? (i := 4) rfl)
theorem t_245 : Cond.selects R_Dk y_Dk_add y_Dk_add ∈ TT := tt_15 _ (List.mem_of_getElem? (i := 5) rfl)
theorem t_246 : Cond.code y_Dk_add b_Dk_add 5 (some .int) ∈ TT := tt_15 _ (List.mem_of_getElem? (i := 6) rfl)
theorem t_247 : Cond.methodLink R_Dk 77 y_Dk_isWay ∈ TT := tt_15 _ (List.mem_of_getElem? (i := 7) rfl)
theorem t_248 : Cond.static y_Dk_isWay ∈ TT := tt_15 _ (List.mem_of_getElem? (i := 8) rfl)
theorem t_249 : Cond.code y_Dk_isWay b_Dk_isWay 1 (some .boolean) ∈ TT := tt_15 _ (List.mem_of_getElem? (i := 9) rfl)
theorem t_250 : Cond.methodLink R_Lw 33 y_Dk_choose ∈ TT := tt_15 _ (List.mem_of_getElem? (i := 10) rfl)
theorem t_251 : Cond.instanceMethod y_Dk_choose ∈ TT := tt_15 _ (List.mem_of_getElem? (i := 11) rfl)
theorem t_252 : Cond.selects R_Dk y_Dk_choose y_Dk_choose ∈ TT := tt_15 _ (List.mem_of_getElem? (i := 12) rfl)
theorem t_253 : Cond.code y_Dk_choose b_Dk_choose 5 (some .int) ∈ TT := tt_15 _ (List.mem_of_getElem? (i := 13) rfl)
theorem t_254 : Cond.methodLink R_Dk 80 y_Dk_countPossible ∈ TT := tt_15 _ (List.mem_of_getElem? (i := 14) rfl)
theorem t_255 : Cond.instanceMethod y_Dk_countPossible ∈ TT := tt_15 _ (List.mem_of_getElem? (i := 15) rfl)
theorem t_256 : Cond.code y_Dk_countPossible b_Dk_countPossible 4 (some .int) ∈ TT := tt_16 _ (List.mem_of_getElem? (i := 0) rfl)
theorem t_257 : Cond.methodLink R_Dk 186 y_Cs_numberOf ∈ TT := tt_16 _ (List.mem_of_getElem? (i := 1) rfl)
theorem t_258 : Cond.instanceMethod y_Cs_numberOf ∈ TT := tt_16 _ (List.mem_of_getElem? (i := 2) rfl)
theorem t_259 : Cond.selects R_Cs y_Cs_numberOf y_Cs_numberOf ∈ TT := tt_16 _ (List.mem_of_getElem? (i := 3) rfl)
theorem t_260 : Cond.code y_Cs_numberOf b_Cs_numberOf 2 (some .int) ∈ TT := tt_16 _ (List.mem_of_getElem? (i := 4) rfl)
theorem t_261 : Cond.methodLink R_Dk 189 y_Cs_slotOf ∈ TT := tt_16 _ (List.mem_of_getElem? (i := 5) rfl)
theorem t_262 : Cond.methodLink R_Dk 192 y_Dk_isPossible ∈ TT := tt_16 _ (List.mem_of_getElem? (i := 6) rfl)
theorem t_263 : Cond.instanceMethod y_Dk_isPossible ∈ TT := tt_16 _ (List.mem_of_getElem? (i := 7) rfl)
theorem t_264 : Cond.code y_Dk_isPossible b_Dk_isPossible 3 (some .boolean) ∈ TT := tt_16 _ (List.mem_of_getElem? (i := 8) rfl)
theorem t_265 : Cond.methodLink R_Dk 183 y_Cs_channelAt ∈ TT := tt_16 _ (List.mem_of_getElem? (i := 9) rfl)
theorem t_266 : Cond.instanceMethod y_Cs_channelAt ∈ TT := tt_16 _ (List.mem_of_getElem? (i := 10) rfl)
theorem t_267 : Cond.selects R_Cs y_Cs_channelAt y_Cs_channelAt ∈ TT := tt_16 _ (List.mem_of_getElem? (i := 11) rfl)
theorem t_268 : Cond.code y_Cs_channelAt b_Cs_channelAt 2 (some .int) ∈ TT := tt_16 _ (List.mem_of_getElem? (i := 12) rfl)
theorem t_269 : Cond.methodLink R_Dk 180 y_Cs_wayAt ∈ TT := tt_16 _ (List.mem_of_getElem? (i := 13) rfl)
theorem t_270 : Cond.instanceMethod y_Cs_wayAt ∈ TT := tt_16 _ (List.mem_of_getElem? (i := 14) rfl)
theorem t_271 : Cond.selects R_Cs y_Cs_wayAt y_Cs_wayAt ∈ TT := tt_16 _ (List.mem_of_getElem? (i := 15) rfl)
theorem t_272 : Cond.code y_Cs_wayAt b_Cs_wayAt 2 (some .int) ∈ TT := tt_17 _ (List.mem_of_getElem? (i := 0) rfl)
theorem t_273 : Cond.methodLink R_Dk 195 y_Ch_hasSpace ∈ TT := tt_17 _ (List.mem_of_getElem? (i := 1) rfl)
theorem t_274 : Cond.methodLink R_Dk 83 y_Dk_findPossible ∈ TT := tt_17 _ (List.mem_of_getElem? (i := 2) rfl)
theorem t_275 : Cond.instanceMethod y_Dk_findPossible ∈ TT := tt_17 _ (List.mem_of_getElem? (i := 3) rfl)
theorem t_276 : Cond.code y_Dk_findPossible b_Dk_findPossible 6 (some .int) ∈ TT := tt_17 _ (List.mem_of_getElem? (i := 4) rfl)
theorem t_277 : Cond.methodLink R_Dk 86 y_Dk_doCase ∈ TT := tt_17 _ (List.mem_of_getElem? (i := 5) rfl)
theorem t_278 : Cond.instanceMethod y_Dk_doCase ∈ TT := tt_17 _ (List.mem_of_getElem? (i := 6) rfl)
theorem t_279 : Cond.code y_Dk_doCase b_Dk_doCase 7 (some .int) ∈ TT := tt_17 _ (List.mem_of_getElem? (i := 7) rfl)
theorem t_280 : Cond.methodLink R_Lw 38 y_Dk_close ∈ TT := tt_17 _ (List.mem_of_getElem? (i := 8) rfl)
theorem t_281 : Cond.instanceMethod y_Dk_close ∈ TT := tt_17 _ (List.mem_of_getElem? (i := 9) rfl)
theorem t_282 : Cond.selects R_Dk y_Dk_close y_Dk_close ∈ TT := tt_17 _ (List.mem_of_getElem? (i := 10) rfl)
theorem t_283 : Cond.code y_Dk_close b_Dk_close 4 (some .int) ∈ TT := tt_17 _ (List.mem_of_getElem? (i := 11) rfl)
theorem t_284 : Cond.methodLink R_Dk 92 y_Ch_shut ∈ TT := tt_17 _ (List.mem_of_getElem? (i := 12) rfl)
theorem t_285 : Cond.instanceMethod y_Ch_shut ∈ TT := tt_17 _ (List.mem_of_getElem? (i := 13) rfl)
theorem t_286 : Cond.selects R_Ch y_Ch_shut y_Ch_shut ∈ TT := tt_17 _ (List.mem_of_getElem? (i := 14) rfl)
theorem t_287 : Cond.code y_Ch_shut b_Ch_shut 2 none ∈ TT := tt_17 _ (List.mem_of_getElem? (i := 15) rfl)
theorem t_288 : Cond.methodLink R_Dk 98 y_Dk_wakeAtShutChannel ∈ TT := tt_18 _ (List.mem_of_getElem? (i := 0) rfl)
theorem t_289 : Cond.instanceMethod y_Dk_wakeAtShutChannel ∈ TT := tt_18 _ (List.mem_of_getElem? (i := 1) rfl)
theorem t_290 : Cond.code y_Dk_wakeAtShutChannel b_Dk_wakeAtShutChannel 4 none ∈ TT := tt_18 _ (List.mem_of_getElem? (i := 2) rfl)
theorem t_291 : Cond.methodLink R_Lw 42 y_Dk_state ∈ TT := tt_18 _ (List.mem_of_getElem? (i := 3) rfl)
theorem t_292 : Cond.instanceMethod y_Dk_state ∈ TT := tt_18 _ (List.mem_of_getElem? (i := 4) rfl)
theorem t_293 : Cond.selects R_Dk y_Dk_state y_Dk_state ∈ TT := tt_18 _ (List.mem_of_getElem? (i := 5) rfl)
theorem t_294 : Cond.code y_Dk_state b_Dk_state 2 (some .int) ∈ TT := tt_18 _ (List.mem_of_getElem? (i := 6) rfl)
theorem t_295 : Cond.methodLink R_Lw 46 y_Dk_got ∈ TT := tt_18 _ (List.mem_of_getElem? (i := 7) rfl)
theorem t_296 : Cond.instanceMethod y_Dk_got ∈ TT := tt_18 _ (List.mem_of_getElem? (i := 8) rfl)
theorem t_297 : Cond.selects R_Dk y_Dk_got y_Dk_got ∈ TT := tt_18 _ (List.mem_of_getElem? (i := 9) rfl)
theorem t_298 : Cond.code y_Dk_got b_Dk_got 2 (some .int) ∈ TT := tt_18 _ (List.mem_of_getElem? (i := 10) rfl)
theorem t_299 : Cond.methodLink R_Lw 50 y_Dk_last ∈ TT := tt_18 _ (List.mem_of_getElem? (i := 11) rfl)
theorem t_300 : Cond.instanceMethod y_Dk_last ∈ TT := tt_18 _ (List.mem_of_getElem? (i := 12) rfl)
theorem t_301 : Cond.selects R_Dk y_Dk_last y_Dk_last ∈ TT := tt_18 _ (List.mem_of_getElem? (i := 13) rfl)
theorem t_302 : Cond.code y_Dk_last b_Dk_last 2 (some .int) ∈ TT := tt_18 _ (List.mem_of_getElem? (i := 14) rfl)
theorem t_303 : Cond.methodLink R_Lw 54 y_Dk_waiting ∈ TT := tt_18 _ (List.mem_of_getElem? (i := 15) rfl)
theorem t_304 : Cond.instanceMethod y_Dk_waiting ∈ TT := tt_19 _ (List.mem_of_getElem? (i := 0) rfl)
theorem t_305 : Cond.selects R_Dk y_Dk_waiting y_Dk_waiting ∈ TT := tt_19 _ (List.mem_of_getElem? (i := 1) rfl)
theorem t_306 : Cond.code y_Dk_waiting b_Dk_waiting 5 (some .int) ∈ TT := tt_19 _ (List.mem_of_getElem? (i := 2) rfl)
theorem t_307 : Cond.methodLink R_Lw 58 y_Dk_channel ∈ TT := tt_19 _ (List.mem_of_getElem? (i := 3) rfl)
theorem t_308 : Cond.instanceMethod y_Dk_channel ∈ TT := tt_19 _ (List.mem_of_getElem? (i := 4) rfl)
theorem t_309 : Cond.selects R_Dk y_Dk_channel y_Dk_channel ∈ TT := tt_19 _ (List.mem_of_getElem? (i := 5) rfl)
theorem t_310 : Cond.code y_Dk_channel b_Dk_channel 3 (some .int) ∈ TT := tt_19 _ (List.mem_of_getElem? (i := 6) rfl)
theorem t_311 : Cond.methodLink R_Dk 113 y_Ch_roomOf ∈ TT := tt_19 _ (List.mem_of_getElem? (i := 7) rfl)
theorem t_312 : Cond.instanceMethod y_Ch_roomOf ∈ TT := tt_19 _ (List.mem_of_getElem? (i := 8) rfl)
theorem t_313 : Cond.selects R_Ch y_Ch_roomOf y_Ch_roomOf ∈ TT := tt_19 _ (List.mem_of_getElem? (i := 9) rfl)
theorem t_314 : Cond.code y_Ch_roomOf b_Ch_roomOf 2 (some .int) ∈ TT := tt_19 _ (List.mem_of_getElem? (i := 10) rfl)
theorem t_315 : Cond.methodLink R_Dk 116 y_Ch_valueAt ∈ TT := tt_19 _ (List.mem_of_getElem? (i := 11) rfl)
theorem t_316 : Cond.instanceMethod y_Ch_valueAt ∈ TT := tt_19 _ (List.mem_of_getElem? (i := 12) rfl)
theorem t_317 : Cond.selects R_Ch y_Ch_valueAt y_Ch_valueAt ∈ TT := tt_19 _ (List.mem_of_getElem? (i := 13) rfl)
theorem t_318 : Cond.code y_Ch_valueAt b_Ch_valueAt 3 (some .int) ∈ TT := tt_19 _ (List.mem_of_getElem? (i := 14) rfl)
theorem t_319 : Cond.methodLink R_Lw 62 y_Dk_count ∈ TT := tt_19 _ (List.mem_of_getElem? (i := 15) rfl)
theorem t_320 : Cond.instanceMethod y_Dk_count ∈ TT := tt_20 _ (List.mem_of_getElem? (i := 0) rfl)
theorem t_321 : Cond.selects R_Dk y_Dk_count y_Dk_count ∈ TT := tt_20 _ (List.mem_of_getElem? (i := 1) rfl)
theorem t_322 : Cond.code y_Dk_count b_Dk_count 2 (some .int) ∈ TT := tt_20 _ (List.mem_of_getElem? (i := 2) rfl)
theorem t_323 : Cond.methodLink R_Dk 119 y_Ch_number ∈ TT := tt_20 _ (List.mem_of_getElem? (i := 3) rfl)
theorem t_324 : Cond.instanceMethod y_Ch_number ∈ TT := tt_20 _ (List.mem_of_getElem? (i := 4) rfl)
theorem t_325 : Cond.selects R_Ch y_Ch_number y_Ch_number ∈ TT := tt_20 _ (List.mem_of_getElem? (i := 5) rfl)
theorem t_326 : Cond.code y_Ch_number b_Ch_number 1 (some .int) ∈ TT := tt_20 _ (List.mem_of_getElem? (i := 6) rfl)
theorem t_327 : Cond.methodLink R_Lw 66 y_Dk_clear ∈ TT := tt_20 _ (List.mem_of_getElem? (i := 7) rfl)
theorem t_328 : Cond.instanceMethod y_Dk_clear ∈ TT := tt_20 _ (List.mem_of_getElem? (i := 8) rfl)
theorem t_329 : Cond.selects R_Dk y_Dk_clear y_Dk_clear ∈ TT := tt_20 _ (List.mem_of_getElem? (i := 9) rfl)
theorem t_330 : Cond.code y_Dk_clear b_Dk_clear 2 (some .int) ∈ TT := tt_20 _ (List.mem_of_getElem? (i := 10) rfl)
theorem t_331 : Cond.classLink R_Lw 10 R_Md ∈ TT := tt_20 _ (List.mem_of_getElem? (i := 11) rfl)
theorem t_332 : Cond.instantiable R_Md 19 ∈ TT := tt_20 _ (List.mem_of_getElem? (i := 12) rfl)
theorem t_333 : Cond.methodLink R_Lw 12 y_Md_init ∈ TT := tt_20 _ (List.mem_of_getElem? (i := 13) rfl)
theorem t_334 : Cond.instanceMethod y_Md_init ∈ TT := tt_20 _ (List.mem_of_getElem? (i := 14) rfl)
theorem t_335 : Cond.code y_Md_init b_Md_init 2 none ∈ TT := tt_20 _ (List.mem_of_getElem? (i := 15) rfl)
theorem t_336 : Cond.methodLink R_Md 1 objectInit ∈ TT := tt_21 _ (List.mem_of_getElem? (i := 0) rfl)
theorem t_337 : Cond.fieldLink R_Md 57 R_Md "channels" "I" ∈ TT := tt_21 _ (List.mem_of_getElem? (i := 1) rfl)
theorem t_338 : Cond.fieldLink R_Md 7 R_Md "room" "[I" ∈ TT := tt_21 _ (List.mem_of_getElem? (i := 2) rfl)
theorem t_339 : Cond.fieldLink R_Md 13 R_Md "closed" "[Z" ∈ TT := tt_21 _ (List.mem_of_getElem? (i := 3) rfl)
theorem t_340 : Cond.fieldLink R_Md 17 R_Md "many" "[I" ∈ TT := tt_21 _ (List.mem_of_getElem? (i := 4) rfl)
theorem t_341 : Cond.fieldLink R_Md 20 R_Md "values" "[I" ∈ TT := tt_21 _ (List.mem_of_getElem? (i := 5) rfl)
theorem t_342 : Cond.fieldLink R_Md 23 R_Md "states" "[I" ∈ TT := tt_21 _ (List.mem_of_getElem? (i := 6) rfl)
theorem t_343 : Cond.fieldLink R_Md 26 R_Md "since" "[J" ∈ TT := tt_21 _ (List.mem_of_getElem? (i := 7) rfl)
theorem t_344 : Cond.fieldLink R_Md 30 R_Md "place" "[I" ∈ TT := tt_21 _ (List.mem_of_getElem? (i := 8) rfl)
theorem t_345 : Cond.fieldLink R_Md 33 R_Md "offer" "[I" ∈ TT := tt_21 _ (List.mem_of_getElem? (i := 9) rfl)
theorem t_346 : Cond.fieldLink R_Md 36 R_Md "got" "[I" ∈ TT := tt_21 _ (List.mem_of_getElem? (i := 10) rfl)
theorem t_347 : Cond.fieldLink R_Md 39 R_Md "sent" "[Z" ∈ TT := tt_21 _ (List.mem_of_getElem? (i := 11) rfl)
theorem t_348 : Cond.fieldLink R_Md 42 R_Md "done" "[I" ∈ TT := tt_21 _ (List.mem_of_getElem? (i := 12) rfl)
theorem t_349 : Cond.fieldLink R_Md 45 R_Md "cases" "[I" ∈ TT := tt_21 _ (List.mem_of_getElem? (i := 13) rfl)
theorem t_350 : Cond.fieldLink R_Md 48 R_Md "caseChannel" "[I" ∈ TT := tt_21 _ (List.mem_of_getElem? (i := 14) rfl)
theorem t_351 : Cond.fieldLink R_Md 51 R_Md "caseWay" "[I" ∈ TT := tt_21 _ (List.mem_of_getElem? (i := 15) rfl)
theorem t_352 : Cond.fieldLink R_Md 54 R_Md "caseValue" "[I" ∈ TT := tt_22 _ (List.mem_of_getElem? (i := 0) rfl)
theorem t_353 : Cond.fieldLink R_Md 76 R_Md "moment" "J" ∈ TT := tt_22 _ (List.mem_of_getElem? (i := 1) rfl)
theorem t_354 : Cond.fieldLink R_Md 84 R_Md "meetings" "I" ∈ TT := tt_22 _ (List.mem_of_getElem? (i := 2) rfl)
theorem t_355 : Cond.fieldLink R_Md 73 R_Md "faults" "I" ∈ TT := tt_22 _ (List.mem_of_getElem? (i := 3) rfl)
theorem t_356 : Cond.lays R_Md R_Md "channels" "I" ∈ TT := tt_22 _ (List.mem_of_getElem? (i := 4) rfl)
theorem t_357 : Cond.laysFinal R_Md R_Md "room" "[I" ∈ TT := tt_22 _ (List.mem_of_getElem? (i := 5) rfl)
theorem t_358 : Cond.laysFinal R_Md R_Md "closed" "[Z" ∈ TT := tt_22 _ (List.mem_of_getElem? (i := 6) rfl)
theorem t_359 : Cond.laysFinal R_Md R_Md "many" "[I" ∈ TT := tt_22 _ (List.mem_of_getElem? (i := 7) rfl)
theorem t_360 : Cond.laysFinal R_Md R_Md "values" "[I" ∈ TT := tt_22 _ (List.mem_of_getElem? (i := 8) rfl)
theorem t_361 : Cond.laysFinal R_Md R_Md "states" "[I" ∈ TT := tt_22 _ (List.mem_of_getElem? (i := 9) rfl)
theorem t_362 : Cond.laysFinal R_Md R_Md "since" "[J" ∈ TT := tt_22 _ (List.mem_of_getElem? (i := 10) rfl)
theorem t_363 : Cond.laysFinal R_Md R_Md "place" "[I" ∈ TT := tt_22 _ (List.mem_of_getElem? (i := 11) rfl)
theorem t_364 : Cond.laysFinal R_Md R_Md "offer" "[I" ∈ TT := tt_22 _ (List.mem_of_getElem? (i := 12) rfl)
theorem t_365 : Cond.laysFinal R_Md R_Md "got" "[I" ∈ TT := tt_22 _ (List.mem_of_getElem? (i := 13) rfl)
theorem t_366 : Cond.laysFinal R_Md R_Md "sent" "[Z" ∈ TT := tt_22 _ (List.mem_of_getElem? (i := 14) rfl)
theorem t_367 : Cond.laysFinal R_Md R_Md "done" "[I" ∈ TT := tt_22 _ (List.mem_of_getElem? (i := 15) rfl)
theorem t_368 : Cond.laysFinal R_Md R_Md "cases" "[I" ∈ TT := tt_23 _ (List.mem_of_getElem? (i := 0) rfl)
theorem t_369 : Cond.laysFinal R_Md R_Md "caseChannel" "[I" ∈ TT := tt_23 _ (List.mem_of_getElem? (i := 1) rfl)
theorem t_370 : Cond.laysFinal R_Md R_Md "caseWay" "[I" ∈ TT := tt_23 _ (List.mem_of_getElem? (i := 2) rfl)
theorem t_371 : Cond.laysFinal R_Md R_Md "caseValue" "[I" ∈ TT := tt_23 _ (List.mem_of_getElem? (i := 3) rfl)
theorem t_372 : Cond.lays R_Md R_Md "moment" "J" ∈ TT := tt_23 _ (List.mem_of_getElem? (i := 4) rfl)
theorem t_373 : Cond.lays R_Md R_Md "meetings" "I" ∈ TT := tt_23 _ (List.mem_of_getElem? (i := 5) rfl)
theorem t_374 : Cond.lays R_Md R_Md "faults" "I" ∈ TT := tt_23 _ (List.mem_of_getElem? (i := 6) rfl)
theorem t_375 : Cond.arrayClass .long ∈ TT := tt_23 _ (List.mem_of_getElem? (i := 7) rfl)
theorem t_376 : Cond.methodLink R_Lw 17 y_Md_make ∈ TT := tt_23 _ (List.mem_of_getElem? (i := 8) rfl)
theorem t_377 : Cond.instanceMethod y_Md_make ∈ TT := tt_23 _ (List.mem_of_getElem? (i := 9) rfl)
theorem t_378 : Cond.selects R_Md y_Md_make y_Md_make ∈ TT := tt_23 _ (List.mem_of_getElem? (i := 10) rfl)
theorem t_379 : Cond.code y_Md_make b_Md_make 2 (some .int) ∈ TT := tt_23 _ (List.mem_of_getElem? (i := 11) rfl)
theorem t_380 : Cond.methodLink R_Lw 22 y_Md_send ∈ TT := tt_23 _ (List.mem_of_getElem? (i := 12) rfl)
theorem t_381 : Cond.instanceMethod y_Md_send ∈ TT := tt_23 _ (List.mem_of_getElem? (i := 13) rfl)
theorem t_382 : Cond.selects R_Md y_Md_send y_Md_send ∈ TT := tt_23 _ (List.mem_of_getElem? (i := 14) rfl)
theorem t_383 : Cond.code y_Md_send b_Md_send 4 (some .int) ∈ TT := tt_23 _ (List.mem_of_getElem? (i := 15) rfl)
theorem t_384 : Cond.methodLink R_Md 105 y_Md_isReady ∈ TT := tt_24 _ (List.mem_of_getElem? (i := 0) rfl)
theorem t_385 : Cond.instanceMethod y_Md_isReady ∈ TT := tt_24 _ (List.mem_of_getElem? (i := 1) rfl)
theorem t_386 : Cond.code y_Md_isReady b_Md_isReady 2 (some .boolean) ∈ TT := tt_24 _ (List.mem_of_getElem? (i := 2) rfl)
theorem t_387 : Cond.methodLink R_Md 61 y_Md_isRoutine ∈ TT := tt_24 _ (List.mem_of_getElem? (i := 3) rfl)
theorem t_388 : Cond.static y_Md_isRoutine ∈ TT := tt_24 _ (List.mem_of_getElem? (i := 4) rfl)
theorem t_389 : Cond.code y_Md_isRoutine b_Md_isRoutine 1 (some .boolean) ∈ TT := tt_24 _ (List.mem_of_getElem? (i := 5) rfl)
theorem t_390 : Cond.methodLink R_Md 108 y_Md_isChannel ∈ TT := tt_24 _ (List.mem_of_getElem? (i := 6) rfl)
theorem t_391 : Cond.instanceMethod y_Md_isChannel ∈ TT := tt_24 _ (List.mem_of_getElem? (i := 7) rfl)
theorem t_392 : Cond.code y_Md_isChannel b_Md_isChannel 2 (some .boolean) ∈ TT := tt_24 _ (List.mem_of_getElem? (i := 8) rfl)
theorem t_393 : Cond.methodLink R_Md 80 y_Md_ready ∈ TT := tt_24 _ (List.mem_of_getElem? (i := 9) rfl)
theorem t_394 : Cond.instanceMethod y_Md_ready ∈ TT := tt_24 _ (List.mem_of_getElem? (i := 10) rfl)
theorem t_395 : Cond.code y_Md_ready b_Md_ready 3 none ∈ TT := tt_24 _ (List.mem_of_getElem? (i := 11) rfl)
theorem t_396 : Cond.methodLink R_Md 111 y_Md_isPossible ∈ TT := tt_24 _ (List.mem_of_getElem? (i := 12) rfl)
theorem t_397 : Cond.instanceMethod y_Md_isPossible ∈ TT := tt_24 _ (List.mem_of_getElem? (i := 13) rfl)
theorem t_398 : Cond.code y_Md_isPossible b_Md_isPossible 3 (some .boolean) ∈ TT := tt_24 _ (List.mem_of_getElem? (i := 14) rfl)
theorem t_399 : Cond.methodLink R_Md 87 y_Md_waiter ∈ TT := tt_24 _ (List.mem_of_getElem? (i := 15) rfl)
theorem t_400 : Cond.instanceMethod y_Md_waiter ∈ TT := tt_25 _ (List.mem_of_getElem? (i := 0) rfl)
theorem t_401 : Cond.code y_Md_waiter b_Md_waiter 7 (some .int) ∈ TT := tt_25 _ (List.mem_of_getElem? (i := 1) rfl)
theorem t_402 : Cond.methodLink R_Md 69 y_Md_waitsAt ∈ TT := tt_25 _ (List.mem_of_getElem? (i := 2) rfl)
theorem t_403 : Cond.instanceMethod y_Md_waitsAt ∈ TT := tt_25 _ (List.mem_of_getElem? (i := 3) rfl)
theorem t_404 : Cond.code y_Md_waitsAt b_Md_waitsAt 5 (some .boolean) ∈ TT := tt_25 _ (List.mem_of_getElem? (i := 4) rfl)
theorem t_405 : Cond.methodLink R_Md 65 y_Md_caseAt ∈ TT := tt_25 _ (List.mem_of_getElem? (i := 5) rfl)
theorem t_406 : Cond.instanceMethod y_Md_caseAt ∈ TT := tt_25 _ (List.mem_of_getElem? (i := 6) rfl)
theorem t_407 : Cond.code y_Md_caseAt b_Md_caseAt 5 (some .int) ∈ TT := tt_25 _ (List.mem_of_getElem? (i := 7) rfl)
theorem t_408 : Cond.methodLink R_Md 115 y_Md_sendNow ∈ TT := tt_25 _ (List.mem_of_getElem? (i := 8) rfl)
theorem t_409 : Cond.instanceMethod y_Md_sendNow ∈ TT := tt_25 _ (List.mem_of_getElem? (i := 9) rfl)
theorem t_410 : Cond.code y_Md_sendNow b_Md_sendNow 5 (some .int) ∈ TT := tt_25 _ (List.mem_of_getElem? (i := 10) rfl)
theorem t_411 : Cond.methodLink R_Md 90 y_Md_receives ∈ TT := tt_25 _ (List.mem_of_getElem? (i := 11) rfl)
theorem t_412 : Cond.instanceMethod y_Md_receives ∈ TT := tt_25 _ (List.mem_of_getElem? (i := 12) rfl)
theorem t_413 : Cond.code y_Md_receives b_Md_receives 5 none ∈ TT := tt_25 _ (List.mem_of_getElem? (i := 13) rfl)
theorem t_414 : Cond.methodLink R_Md 94 y_Md_push ∈ TT := tt_25 _ (List.mem_of_getElem? (i := 14) rfl)
theorem t_415 : Cond.instanceMethod y_Md_push ∈ TT := tt_25 _ (List.mem_of_getElem? (i := 15) rfl)
theorem t_416 : Cond.code y_Md_push b_Md_push 3 none ∈ TT := tt_26 _ (List.mem_of_getElem? (i := 0) rfl)
theorem t_417 : Cond.methodLink R_Md 118 y_Md_waits ∈ TT := tt_26 _ (List.mem_of_getElem? (i := 1) rfl)
theorem t_418 : Cond.instanceMethod y_Md_waits ∈ TT := tt_26 _ (List.mem_of_getElem? (i := 2) rfl)
theorem t_419 : Cond.code y_Md_waits b_Md_waits 3 none ∈ TT := tt_26 _ (List.mem_of_getElem? (i := 3) rfl)
theorem t_420 : Cond.methodLink R_Lw 27 y_Md_receive ∈ TT := tt_26 _ (List.mem_of_getElem? (i := 4) rfl)
theorem t_421 : Cond.instanceMethod y_Md_receive ∈ TT := tt_26 _ (List.mem_of_getElem? (i := 5) rfl)
theorem t_422 : Cond.selects R_Md y_Md_receive y_Md_receive ∈ TT := tt_26 _ (List.mem_of_getElem? (i := 6) rfl)
theorem t_423 : Cond.code y_Md_receive b_Md_receive 3 (some .int) ∈ TT := tt_26 _ (List.mem_of_getElem? (i := 7) rfl)
theorem t_424 : Cond.methodLink R_Md 121 y_Md_receiveNow ∈ TT := tt_26 _ (List.mem_of_getElem? (i := 8) rfl)
theorem t_425 : Cond.instanceMethod y_Md_receiveNow ∈ TT := tt_26 _ (List.mem_of_getElem? (i := 9) rfl)
theorem t_426 : Cond.code y_Md_receiveNow b_Md_receiveNow 4 none ∈ TT := tt_26 _ (List.mem_of_getElem? (i := 10) rfl)
theorem t_427 : Cond.methodLink R_Md 97 y_Md_take ∈ TT := tt_26 _ (List.mem_of_getElem? (i := 11) rfl)
theorem t_428 : Cond.instanceMethod y_Md_take ∈ TT := tt_26 _ (List.mem_of_getElem? (i := 12) rfl)
theorem t_429 : Cond.code y_Md_take b_Md_take 4 (some .int) ∈ TT := tt_26 _ (List.mem_of_getElem? (i := 13) rfl)
theorem t_430 : Cond.methodLink R_Md 101 y_Md_sends ∈ TT := tt_26 _ (List.mem_of_getElem? (i := 14) rfl)
theorem t_431 : Cond.instanceMethod y_Md_sends ∈ TT := tt_26 _ (List.mem_of_getElem? (i := 15) rfl)
theorem t_432 : Cond.code y_Md_sends b_Md_sends 5 (some .int) ∈ TT := tt_27 _ (List.mem_of_getElem? (i := 0) rfl)
theorem t_433 : Cond.methodLink R_Lw 32 y_Md_add ∈ TT := tt_27 _ (List.mem_of_getElem? (i := 1) rfl)
theorem t_434 : Cond.instanceMethod y_Md_add ∈ TT := tt_27 _ (List.mem_of_getElem? (i := 2) rfl)
theorem t_435 : Cond.selects R_Md y_Md_add y_Md_add ∈ TT := tt_27 _ (List.mem_of_getElem? (i := 3) rfl)
theorem t_436 : Cond.code y_Md_add b_Md_add 6 (some .int) ∈ TT := tt_27 _ (List.mem_of_getElem? (i := 4) rfl)
theorem t_437 : Cond.methodLink R_Lw 37 y_Md_choose ∈ TT := tt_27 _ (List.mem_of_getElem? (i := 5) rfl)
theorem t_438 : Cond.instanceMethod y_Md_choose ∈ TT := tt_27 _ (List.mem_of_getElem? (i := 6) rfl)
theorem t_439 : Cond.selects R_Md y_Md_choose y_Md_choose ∈ TT := tt_27 _ (List.mem_of_getElem? (i := 7) rfl)
theorem t_440 : Cond.code y_Md_choose b_Md_choose 11 (some .int) ∈ TT := tt_27 _ (List.mem_of_getElem? (i := 8) rfl)
theorem t_441 : Cond.methodLink R_Lw 41 y_Md_close ∈ TT := tt_27 _ (List.mem_of_getElem? (i := 9) rfl)
theorem t_442 : Cond.instanceMethod y_Md_close ∈ TT := tt_27 _ (List.mem_of_getElem? (i := 10) rfl)
theorem t_443 : Cond.selects R_Md y_Md_close y_Md_close ∈ TT := tt_27 _ (List.mem_of_getElem? (i := 11) rfl)
theorem t_444 : Cond.code y_Md_close b_Md_close 6 (some .int) ∈ TT := tt_27 _ (List.mem_of_getElem? (i := 12) rfl)
theorem t_445 : Cond.methodLink R_Lw 45 y_Md_state ∈ TT := tt_27 _ (List.mem_of_getElem? (i := 13) rfl)
theorem t_446 : Cond.instanceMethod y_Md_state ∈ TT := tt_27 _ (List.mem_of_getElem? (i := 14) rfl)
theorem t_447 : Cond.selects R_Md y_Md_state y_Md_state ∈ TT := tt_27 _ (List.mem_of_getElem? (i := 15) rfl)
theorem t_448 : Cond.code y_Md_state b_Md_state 2 (some .int) ∈ TT := tt_28 _ (List.mem_of_getElem? (i := 0) rfl)
theorem t_449 : Cond.methodLink R_Lw 49 y_Md_got ∈ TT := tt_28 _ (List.mem_of_getElem? (i := 1) rfl)
theorem t_450 : Cond.instanceMethod y_Md_got ∈ TT := tt_28 _ (List.mem_of_getElem? (i := 2) rfl)
theorem t_451 : Cond.selects R_Md y_Md_got y_Md_got ∈ TT := tt_28 _ (List.mem_of_getElem? (i := 3) rfl)
theorem t_452 : Cond.code y_Md_got b_Md_got 2 (some .int) ∈ TT := tt_28 _ (List.mem_of_getElem? (i := 4) rfl)
theorem t_453 : Cond.methodLink R_Lw 53 y_Md_last ∈ TT := tt_28 _ (List.mem_of_getElem? (i := 5) rfl)
theorem t_454 : Cond.instanceMethod y_Md_last ∈ TT := tt_28 _ (List.mem_of_getElem? (i := 6) rfl)
theorem t_455 : Cond.selects R_Md y_Md_last y_Md_last ∈ TT := tt_28 _ (List.mem_of_getElem? (i := 7) rfl)
theorem t_456 : Cond.code y_Md_last b_Md_last 2 (some .int) ∈ TT := tt_28 _ (List.mem_of_getElem? (i := 8) rfl)
theorem t_457 : Cond.methodLink R_Lw 57 y_Md_waiting ∈ TT := tt_28 _ (List.mem_of_getElem? (i := 9) rfl)
theorem t_458 : Cond.instanceMethod y_Md_waiting ∈ TT := tt_28 _ (List.mem_of_getElem? (i := 10) rfl)
theorem t_459 : Cond.selects R_Md y_Md_waiting y_Md_waiting ∈ TT := tt_28 _ (List.mem_of_getElem? (i := 11) rfl)
theorem t_460 : Cond.code y_Md_waiting b_Md_waiting 4 (some .int) ∈ TT := tt_28 _ (List.mem_of_getElem? (i := 12) rfl)
theorem t_461 : Cond.methodLink R_Lw 61 y_Md_channel ∈ TT := tt_28 _ (List.mem_of_getElem? (i := 13) rfl)
theorem t_462 : Cond.instanceMethod y_Md_channel ∈ TT := tt_28 _ (List.mem_of_getElem? (i := 14) rfl)
theorem t_463 : Cond.selects R_Md y_Md_channel y_Md_channel ∈ TT := tt_28 _ (List.mem_of_getElem? (i := 15) rfl)
theorem t_464 : Cond.code y_Md_channel b_Md_channel 3 (some .int) ∈ TT := tt_29 _ (List.mem_of_getElem? (i := 0) rfl)
theorem t_465 : Cond.methodLink R_Lw 65 y_Md_count ∈ TT := tt_29 _ (List.mem_of_getElem? (i := 1) rfl)
theorem t_466 : Cond.instanceMethod y_Md_count ∈ TT := tt_29 _ (List.mem_of_getElem? (i := 2) rfl)
theorem t_467 : Cond.selects R_Md y_Md_count y_Md_count ∈ TT := tt_29 _ (List.mem_of_getElem? (i := 3) rfl)
theorem t_468 : Cond.code y_Md_count b_Md_count 4 (some .int) ∈ TT := tt_29 _ (List.mem_of_getElem? (i := 4) rfl)
theorem t_469 : Cond.methodLink R_Lw 70 y_Md_clear ∈ TT := tt_29 _ (List.mem_of_getElem? (i := 5) rfl)
theorem t_470 : Cond.instanceMethod y_Md_clear ∈ TT := tt_29 _ (List.mem_of_getElem? (i := 6) rfl)
theorem t_471 : Cond.selects R_Md y_Md_clear y_Md_clear ∈ TT := tt_29 _ (List.mem_of_getElem? (i := 7) rfl)
theorem t_472 : Cond.code y_Md_clear b_Md_clear 3 (some .int) ∈ TT := tt_29 _ (List.mem_of_getElem? (i := 8) rfl)
theorem tg_0 : TT_0.all goodWord = true := by decide +kernel
theorem tg_1 : TT_1.all goodWord = true := by decide +kernel
theorem tg_2 : TT_2.all goodWord = true := by decide +kernel
theorem tg_3 : TT_3.all goodWord = true := by decide +kernel
theorem tg_4 : TT_4.all goodWord = true := by decide +kernel
theorem tg_5 : TT_5.all goodWord = true := by decide +kernel
theorem tg_6 : TT_6.all goodWord = true := by decide +kernel
theorem tg_7 : TT_7.all goodWord = true := by decide +kernel
theorem tg_8 : TT_8.all goodWord = true := by decide +kernel
theorem tg_9 : TT_9.all goodWord = true := by decide +kernel
theorem tg_10 : TT_10.all goodWord = true := by decide +kernel
theorem tg_11 : TT_11.all goodWord = true := by decide +kernel
theorem tg_12 : TT_12.all goodWord = true := by decide +kernel
theorem tg_13 : TT_13.all goodWord = true := by decide +kernel
theorem tg_14 : TT_14.all goodWord = true := by decide +kernel
theorem tg_15 : TT_15.all goodWord = true := by decide +kernel
theorem tg_16 : TT_16.all goodWord = true := by decide +kernel
theorem tg_17 : TT_17.all goodWord = true := by decide +kernel
theorem tg_18 : TT_18.all goodWord = true := by decide +kernel
theorem tg_19 : TT_19.all goodWord = true := by decide +kernel
theorem tg_20 : TT_20.all goodWord = true := by decide +kernel
theorem tg_21 : TT_21.all goodWord = true := by decide +kernel
theorem tg_22 : TT_22.all goodWord = true := by decide +kernel
theorem tg_23 : TT_23.all goodWord = true := by decide +kernel
theorem tg_24 : TT_24.all goodWord = true := by decide +kernel
theorem tg_25 : TT_25.all goodWord = true := by decide +kernel
theorem tg_26 : TT_26.all goodWord = true := by decide +kernel
theorem tg_27 : TT_27.all goodWord = true := by decide +kernel
theorem tg_28 : TT_28.all goodWord = true := by decide +kernel
theorem tg_29 : TT_29.all goodWord = true := by decide +kernel
theorem tt_all {P : Cond → Prop} (h0 : ∀ w ∈ TT_0, P w) (h1 : ∀ w ∈ TT_1, P w) (h2 : ∀ w ∈ TT_2, P w) (h3 : ∀ w ∈ TT_3, P w) (h4 : ∀ w ∈ TT_4, P w) (h5 : ∀ w ∈ TT_5, P w) (h6 : ∀ w ∈ TT_6, P w) (h7 : ∀ w ∈ TT_7, P w) (h8 : ∀ w ∈ TT_8, P w) (h9 : ∀ w ∈ TT_9, P w) (h10 : ∀ w ∈ TT_10, P w) (h11 : ∀ w ∈ TT_11, P w) (h12 : ∀ w ∈ TT_12, P w) (h13 : ∀ w ∈ TT_13, P w) (h14 : ∀ w ∈ TT_14, P w) (h15 : ∀ w ∈ TT_15, P w) (h16 : ∀ w ∈ TT_16, P w) (h17 : ∀ w ∈ TT_17, P w) (h18 : ∀ w ∈ TT_18, P w) (h19 : ∀ w ∈ TT_19, P w) (h20 : ∀ w ∈ TT_20, P w) (h21 : ∀ w ∈ TT_21, P w) (h22 : ∀ w ∈ TT_22, P w) (h23 : ∀ w ∈ TT_23, P w) (h24 : ∀ w ∈ TT_24, P w) (h25 : ∀ w ∈ TT_25, P w) (h26 : ∀ w ∈ TT_26, P w) (h27 : ∀ w ∈ TT_27, P w) (h28 : ∀ w ∈ TT_28, P w) (h29 : ∀ w ∈ TT_29, P w) : ∀ w ∈ TT, P w := by
  intro w h
  rcases List.mem_append.mp h with h | h
  · exact h0 w h
  rcases List.mem_append.mp h with h | h
  · exact h1 w h
  rcases List.mem_append.mp h with h | h
  · exact h2 w h
  rcases List.mem_append.mp h with h | h
  · exact h3 w h
  rcases List.mem_append.mp h with h | h
  · exact h4 w h
  rcases List.mem_append.mp h with h | h
  · exact h5 w h
  rcases List.mem_append.mp h with h | h
  · exact h6 w h
  rcases List.mem_append.mp h with h | h
  · exact h7 w h
  rcases List.mem_append.mp h with h | h
  · exact h8 w h
  rcases List.mem_append.mp h with h | h
  · exact h9 w h
  rcases List.mem_append.mp h with h | h
  · exact h10 w h
  rcases List.mem_append.mp h with h | h
  · exact h11 w h
  rcases List.mem_append.mp h with h | h
  · exact h12 w h
  rcases List.mem_append.mp h with h | h
  · exact h13 w h
  rcases List.mem_append.mp h with h | h
  · exact h14 w h
  rcases List.mem_append.mp h with h | h
  · exact h15 w h
  rcases List.mem_append.mp h with h | h
  · exact h16 w h
  rcases List.mem_append.mp h with h | h
  · exact h17 w h
  rcases List.mem_append.mp h with h | h
  · exact h18 w h
  rcases List.mem_append.mp h with h | h
  · exact h19 w h
  rcases List.mem_append.mp h with h | h
  · exact h20 w h
  rcases List.mem_append.mp h with h | h
  · exact h21 w h
  rcases List.mem_append.mp h with h | h
  · exact h22 w h
  rcases List.mem_append.mp h with h | h
  · exact h23 w h
  rcases List.mem_append.mp h with h | h
  · exact h24 w h
  rcases List.mem_append.mp h with h | h
  · exact h25 w h
  rcases List.mem_append.mp h with h | h
  · exact h26 w h
  rcases List.mem_append.mp h with h | h
  · exact h27 w h
  rcases List.mem_append.mp h with h | h
  · exact h28 w h
  exact h29 w h
theorem TT_good : ∀ w ∈ TT, (w.onTables && w.keeps) = true ∨ ∃ ty, w = .arrayClass ty := tt_all (fun w h => good_of_word (List.all_eq_true.mp tg_0 w h)) (fun w h => good_of_word (List.all_eq_true.mp tg_1 w h)) (fun w h => good_of_word (List.all_eq_true.mp tg_2 w h)) (fun w h => good_of_word (List.all_eq_true.mp tg_3 w h)) (fun w h => good_of_word (List.all_eq_true.mp tg_4 w h)) (fun w h => good_of_word (List.all_eq_true.mp tg_5 w h)) (fun w h => good_of_word (List.all_eq_true.mp tg_6 w h)) (fun w h => good_of_word (List.all_eq_true.mp tg_7 w h)) (fun w h => good_of_word (List.all_eq_true.mp tg_8 w h)) (fun w h => good_of_word (List.all_eq_true.mp tg_9 w h)) (fun w h => good_of_word (List.all_eq_true.mp tg_10 w h)) (fun w h => good_of_word (List.all_eq_true.mp tg_11 w h)) (fun w h => good_of_word (List.all_eq_true.mp tg_12 w h)) (fun w h => good_of_word (List.all_eq_true.mp tg_13 w h)) (fun w h => good_of_word (List.all_eq_true.mp tg_14 w h)) (fun w h => good_of_word (List.all_eq_true.mp tg_15 w h)) (fun w h => good_of_word (List.all_eq_true.mp tg_16 w h)) (fun w h => good_of_word (List.all_eq_true.mp tg_17 w h)) (fun w h => good_of_word (List.all_eq_true.mp tg_18 w h)) (fun w h => good_of_word (List.all_eq_true.mp tg_19 w h)) (fun w h => good_of_word (List.all_eq_true.mp tg_20 w h)) (fun w h => good_of_word (List.all_eq_true.mp tg_21 w h)) (fun w h => good_of_word (List.all_eq_true.mp tg_22 w h)) (fun w h => good_of_word (List.all_eq_true.mp tg_23 w h)) (fun w h => good_of_word (List.all_eq_true.mp tg_24 w h)) (fun w h => good_of_word (List.all_eq_true.mp tg_25 w h)) (fun w h => good_of_word (List.all_eq_true.mp tg_26 w h)) (fun w h => good_of_word (List.all_eq_true.mp tg_27 w h)) (fun w h => good_of_word (List.all_eq_true.mp tg_28 w h)) (fun w h => good_of_word (List.all_eq_true.mp tg_29 w h))
theorem tl_0 : ∀ w ∈ TT_0, w ∈ lw_tbl := List.forall_mem_cons.mpr ⟨List.mem_append_left _ (List.mem_of_getElem? (i := 0) (by decide +kernel)), List.forall_mem_cons.mpr ⟨List.mem_append_left _ (List.mem_of_getElem? (i := 1) (by decide +kernel)), List.forall_mem_cons.mpr ⟨List.mem_append_left _ (List.mem_of_getElem? (i := 2) (by decide +kernel)), List.forall_mem_cons.mpr ⟨List.mem_append_left _ (List.mem_of_getElem? (i := 3) (by decide +kernel)), List.forall_mem_cons.mpr ⟨List.mem_append_left _ (List.mem_of_getElem? (i := 4) (by decide +kernel)), List.forall_mem_cons.mpr ⟨List.mem_append_left _ (List.mem_of_getElem? (i := 5) (by decide +kernel)), List.forall_mem_cons.mpr ⟨List.mem_append_left _ (List.mem_of_getElem? (i := 6) (by decide +kernel)), List.forall_mem_cons.mpr ⟨List.mem_append_left _ (List.mem_of_getElem? (i := 7) (by decide +kernel)), List.forall_mem_cons.mpr ⟨List.mem_append_left _ (List.mem_of_getElem? (i := 8) (by decide +kernel)), List.forall_mem_cons.mpr ⟨List.mem_append_left _ (List.mem_of_getElem? (i := 9) (by decide +kernel)), List.forall_mem_cons.mpr ⟨List.mem_append_left _ (List.mem_of_getElem? (i := 10) (by decide +kernel)), List.forall_mem_cons.mpr ⟨List.mem_append_left _ (List.mem_of_getElem? (i := 11) (by decide +kernel)), List.forall_mem_cons.mpr ⟨List.mem_append_left _ (List.mem_of_getElem? (i := 12) (by decide +kernel)), List.forall_mem_cons.mpr ⟨List.mem_append_left _ (List.mem_of_getElem? (i := 13) (by decide +kernel)), List.forall_mem_cons.mpr ⟨List.mem_append_left _ (List.mem_of_getElem? (i := 14) (by decide +kernel)), List.forall_mem_cons.mpr ⟨List.mem_append_left _ (List.mem_of_getElem? (i := 15) (by decide +kernel)), fun _ h => absurd h List.not_mem_nil⟩⟩⟩⟩⟩⟩⟩⟩⟩⟩⟩⟩⟩⟩⟩⟩
theorem tl_1 : ∀ w ∈ TT_1, w ∈ lw_tbl := List.forall_mem_cons.mpr ⟨List.mem_append_left _ (List.mem_of_getElem? (i := 16) (by decide +kernel)), List.forall_mem_cons.mpr ⟨List.mem_append_left _ (List.mem_of_getElem? (i := 17) (by decide +kernel)), List.forall_mem_cons.mpr ⟨List.mem_append_left _ (List.mem_of_getElem? (i := 18) (by decide +kernel)), List.forall_mem_cons.mpr ⟨List.mem_append_left _ (List.mem_of_getElem? (i := 19) (by decide +kernel)), List.forall_mem_cons.mpr ⟨List.mem_append_left _ (List.mem_of_getElem? (i := 20) (by decide +kernel)), List.forall_mem_cons.mpr ⟨List.mem_append_left _ (List.mem_of_getElem? (i := 21) (by decide +kernel)), List.forall_mem_cons.mpr ⟨List.mem_append_left _ (List.mem_of_getElem? (i := 22) (by decide +kernel)), List.forall_mem_cons.mpr ⟨List.mem_append_left _ (List.mem_of_getElem? (i := 23) (by decide +kernel)), List.forall_mem_cons.mpr ⟨List.mem_append_left _ (List.mem_of_getElem? (i := 24) (by decide +kernel)), List.forall_mem_cons.mpr ⟨List.mem_append_left _ (List.mem_of_getElem? (i := 25) (by decide +kernel)), List.forall_mem_cons.mpr ⟨List.mem_append_left _ (List.mem_of_getElem? (i := 26) (by decide +kernel)), List.forall_mem_cons.mpr ⟨List.mem_append_left _ (List.mem_of_getElem? (i := 27) (by decide +kernel)), List.forall_mem_cons.mpr ⟨List.mem_append_left _ (List.mem_of_getElem? (i := 28) (by decide +kernel)), List.forall_mem_cons.mpr ⟨List.mem_append_left _ (List.mem_of_getElem? (i := 29) (by decide +kernel)), List.forall_mem_cons.mpr ⟨List.mem_append_left _ (List.mem_of_getElem? (i := 30) (by decide +kernel)), List.forall_mem_cons.mpr ⟨List.mem_append_right _ (List.mem_of_getElem? (i := 0) (by decide +kernel)), fun _ h => absurd h List.not_mem_nil⟩⟩⟩⟩⟩⟩⟩⟩⟩⟩⟩⟩⟩⟩⟩⟩
theorem tl_2 : ∀ w ∈ TT_2, w ∈ lw_tbl := List.forall_mem_cons.mpr ⟨List.mem_append_right _ (List.mem_of_getElem? (i := 1) (by decide +kernel)), List.forall_mem_cons.mpr ⟨List.mem_append_right _ (List.mem_of_getElem? (i := 2) (by decide +kernel)), List.forall_mem_cons.mpr ⟨List.mem_append_right _ (List.mem_of_getElem? (i := 3) (by decide +kernel)), List.forall_mem_cons.mpr ⟨List.mem_append_right _ (List.mem_of_getElem? (i := 4) (by decide +kernel)), List.forall_mem_cons.mpr ⟨List.mem_append_right _ (List.mem_of_getElem? (i := 5) (by decide +kernel)), List.forall_mem_cons.mpr ⟨List.mem_append_right _ (List.mem_of_getElem? (i := 6) (by decide +kernel)), List.forall_mem_cons.mpr ⟨List.mem_append_right _ (List.mem_of_getElem? (i := 7) (by decide +kernel)), List.forall_mem_cons.mpr ⟨List.mem_append_right _ (List.mem_of_getElem? (i := 8) (by decide +kernel)), List.forall_mem_cons.mpr ⟨List.mem_append_right _ (List.mem_of_getElem? (i := 9) (by decide +kernel)), List.forall_mem_cons.mpr ⟨List.mem_append_right _ (List.mem_of_getElem? (i := 10) (by decide +kernel)), List.forall_mem_cons.mpr ⟨List.mem_append_right _ (List.mem_of_getElem? (i := 11) (by decide +kernel)), List.forall_mem_cons.mpr ⟨List.mem_append_right _ (List.mem_of_getElem? (i := 12) (by decide +kernel)), List.forall_mem_cons.mpr ⟨List.mem_append_right _ (List.mem_of_getElem? (i := 13) (by decide +kernel)), List.forall_mem_cons.mpr ⟨List.mem_append_right _ (List.mem_of_getElem? (i := 14) (by decide +kernel)), List.forall_mem_cons.mpr ⟨List.mem_append_right _ (List.mem_of_getElem? (i := 15) (by decide +kernel)), List.forall_mem_cons.mpr ⟨List.mem_append_right _ (List.mem_of_getElem? (i := 16) (by decide +kernel)), fun _ h => absurd h List.not_mem_nil⟩⟩⟩⟩⟩⟩⟩⟩⟩⟩⟩⟩⟩⟩⟩⟩
theorem tl_3 : ∀ w ∈ TT_3, w ∈ lw_tbl := List.forall_mem_cons.mpr ⟨List.mem_append_right _ (List.mem_of_getElem? (i := 17) (by decide +kernel)), List.forall_mem_cons.mpr ⟨List.mem_append_right _ (List.mem_of_getElem? (i := 19) (by decide +kernel)), List.forall_mem_cons.mpr ⟨List.mem_append_right _ (List.mem_of_getElem? (i := 20) (by decide +kernel)), List.forall_mem_cons.mpr ⟨List.mem_append_right _ (List.mem_of_getElem? (i := 21) (by decide +kernel)), List.forall_mem_cons.mpr ⟨List.mem_append_right _ (List.mem_of_getElem? (i := 22) (by decide +kernel)), List.forall_mem_cons.mpr ⟨List.mem_append_right _ (List.mem_of_getElem? (i := 23) (by decide +kernel)), List.forall_mem_cons.mpr ⟨List.mem_append_right _ (List.mem_of_getElem? (i := 24) (by decide +kernel)), List.forall_mem_cons.mpr ⟨List.mem_append_right _ (List.mem_of_getElem? (i := 25) (by decide +kernel)), List.forall_mem_cons.mpr ⟨List.mem_append_right _ (List.mem_of_getElem? (i := 26) (by decide +kernel)), List.forall_mem_cons.mpr ⟨List.mem_append_right _ (List.mem_of_getElem? (i := 27) (by decide +kernel)), List.forall_mem_cons.mpr ⟨List.mem_append_right _ (List.mem_of_getElem? (i := 29) (by decide +kernel)), List.forall_mem_cons.mpr ⟨List.mem_append_right _ (List.mem_of_getElem? (i := 31) (by decide +kernel)), List.forall_mem_cons.mpr ⟨List.mem_append_right _ (List.mem_of_getElem? (i := 33) (by decide +kernel)), List.forall_mem_cons.mpr ⟨List.mem_append_right _ (List.mem_of_getElem? (i := 35) (by decide +kernel)), List.forall_mem_cons.mpr ⟨List.mem_append_right _ (List.mem_of_getElem? (i := 38) (by decide +kernel)), List.forall_mem_cons.mpr ⟨List.mem_append_right _ (List.mem_of_getElem? (i := 39) (by decide +kernel)), fun _ h => absurd h List.not_mem_nil⟩⟩⟩⟩⟩⟩⟩⟩⟩⟩⟩⟩⟩⟩⟩⟩
theorem tl_4 : ∀ w ∈ TT_4, w ∈ lw_tbl := List.forall_mem_cons.mpr ⟨List.mem_append_right _ (List.mem_of_getElem? (i := 40) (by decide +kernel)), List.forall_mem_cons.mpr ⟨List.mem_append_right _ (List.mem_of_getElem? (i := 41) (by decide +kernel)), List.forall_mem_cons.mpr ⟨List.mem_append_right _ (List.mem_of_getElem? (i := 43) (by decide +kernel)), List.forall_mem_cons.mpr ⟨List.mem_append_right _ (List.mem_of_getElem? (i := 44) (by decide +kernel)), List.forall_mem_cons.mpr ⟨List.mem_append_right _ (List.mem_of_getElem? (i := 45) (by decide +kernel)), List.forall_mem_cons.mpr ⟨List.mem_append_right _ (List.mem_of_getElem? (i := 46) (by decide +kernel)), List.forall_mem_cons.mpr ⟨List.mem_append_right _ (List.mem_of_getElem? (i := 47) (by decide +kernel)), List.forall_mem_cons.mpr ⟨List.mem_append_right _ (List.mem_of_getElem? (i := 48) (by decide +kernel)), List.forall_mem_cons.mpr ⟨List.mem_append_right _ (List.mem_of_getElem? (i := 49) (by decide +kernel)), List.forall_mem_cons.mpr ⟨List.mem_append_right _ (List.mem_of_getElem? (i := 50) (by decide +kernel)), List.forall_mem_cons.mpr ⟨List.mem_append_right _ (List.mem_of_getElem? (i := 52) (by decide +kernel)), List.forall_mem_cons.mpr ⟨List.mem_append_right _ (List.mem_of_getElem? (i := 54) (by decide +kernel)), List.forall_mem_cons.mpr ⟨List.mem_append_right _ (List.mem_of_getElem? (i := 56) (by decide +kernel)), List.forall_mem_cons.mpr ⟨List.mem_append_right _ (List.mem_of_getElem? (i := 59) (by decide +kernel)), List.forall_mem_cons.mpr ⟨List.mem_append_right _ (List.mem_of_getElem? (i := 60) (by decide +kernel)), List.forall_mem_cons.mpr ⟨List.mem_append_right _ (List.mem_of_getElem? (i := 62) (by decide +kernel)), fun _ h => absurd h List.not_mem_nil⟩⟩⟩⟩⟩⟩⟩⟩⟩⟩⟩⟩⟩⟩⟩⟩
theorem tl_5 : ∀ w ∈ TT_5, w ∈ lw_tbl := List.forall_mem_cons.mpr ⟨List.mem_append_right _ (List.mem_of_getElem? (i := 63) (by decide +kernel)), List.forall_mem_cons.mpr ⟨List.mem_append_right _ (List.mem_of_getElem? (i := 64) (by decide +kernel)), List.forall_mem_cons.mpr ⟨List.mem_append_right _ (List.mem_of_getElem? (i := 65) (by decide +kernel)), List.forall_mem_cons.mpr ⟨List.mem_append_right _ (List.mem_of_getElem? (i := 66) (by decide +kernel)), List.forall_mem_cons.mpr ⟨List.mem_append_right _ (List.mem_of_getElem? (i := 67) (by decide +kernel)), List.forall_mem_cons.mpr ⟨List.mem_append_right _ (List.mem_of_getElem? (i := 69) (by decide +kernel)), List.forall_mem_cons.mpr ⟨List.mem_append_right _ (List.mem_of_getElem? (i := 72) (by decide +kernel)), List.forall_mem_cons.mpr ⟨List.mem_append_right _ (List.mem_of_getElem? (i := 74) (by decide +kernel)), List.forall_mem_cons.mpr ⟨List.mem_append_right _ (List.mem_of_getElem? (i := 75) (by decide +kernel)), List.forall_mem_cons.mpr ⟨List.mem_append_right _ (List.mem_of_getElem? (i := 76) (by decide +kernel)), List.forall_mem_cons.mpr ⟨List.mem_append_right _ (List.mem_of_getElem? (i := 77) (by decide +kernel)), List.forall_mem_cons.mpr ⟨List.mem_append_right _ (List.mem_of_getElem? (i := 78) (by decide +kernel)), List.forall_mem_cons.mpr ⟨List.mem_append_right _ (List.mem_of_getElem? (i := 79) (by decide +kernel)), List.forall_mem_cons.mpr ⟨List.mem_append_right _ (List.mem_of_getElem? (i := 80) (by decide +kernel)), List.forall_mem_cons.mpr ⟨List.mem_append_right _ (List.mem_of_getElem? (i := 81) (by decide +kernel)), List.forall_mem_cons.mpr ⟨List.mem_append_right _ (List.mem_of_getElem? (i := 82) (by decide +kernel)), fun _ h => absurd h List.not_mem_nil⟩⟩⟩⟩⟩⟩⟩⟩⟩⟩⟩⟩⟩⟩⟩⟩
theorem tl_6 : ∀ w ∈ TT_6, w ∈ lw_tbl := List.forall_mem_cons.mpr ⟨List.mem_append_right _ (List.mem_of_getElem? (i := 83) (by decide +kernel)), List.forall_mem_cons.mpr ⟨List.mem_append_right _ (List.mem_of_getElem? (i := 84) (by decide +kernel)), List.forall_mem_cons.mpr ⟨List.mem_append_right _ (List.mem_of_getElem? (i := 85) (by decide +kernel)), List.forall_mem_cons.mpr ⟨List.mem_append_right _ (List.mem_of_getElem? (i := 86) (by decide +kernel)), List.forall_mem_cons.mpr ⟨List.mem_append_right _ (List.mem_of_getElem? (i := 87) (by decide +kernel)), List.forall_mem_cons.mpr ⟨List.mem_append_right _ (List.mem_of_getElem? (i := 88) (by decide +kernel)), List.forall_mem_cons.mpr ⟨List.mem_append_right _ (List.mem_of_getElem? (i := 89) (by decide +kernel)), List.forall_mem_cons.mpr ⟨List.mem_append_right _ (List.mem_of_getElem? (i := 90) (by decide +kernel)), List.forall_mem_cons.mpr ⟨List.mem_append_right _ (List.mem_of_getElem? (i := 91) (by decide +kernel)), List.forall_mem_cons.mpr ⟨List.mem_append_right _ (List.mem_of_getElem? (i := 92) (by decide +kernel)), List.forall_mem_cons.mpr ⟨List.mem_append_right _ (List.mem_of_getElem? (i := 93) (by decide +kernel)), List.forall_mem_cons.mpr ⟨List.mem_append_right _ (List.mem_of_getElem? (i := 94) (by decide +kernel)), List.forall_mem_cons.mpr ⟨List.mem_append_right _ (List.mem_of_getElem? (i := 95) (by decide +kernel)), List.forall_mem_cons.mpr ⟨List.mem_append_right _ (List.mem_of_getElem? (i := 96) (by decide +kernel)), List.forall_mem_cons.mpr ⟨List.mem_append_right _ (List.mem_of_getElem? (i := 97) (by decide +kernel)), List.forall_mem_cons.mpr ⟨List.mem_append_right _ (List.mem_of_getElem? (i := 98) (by decide +kernel)), fun _ h => absurd h List.not_mem_nil⟩⟩⟩⟩⟩⟩⟩⟩⟩⟩⟩⟩⟩⟩⟩⟩
theorem tl_7 : ∀ w ∈ TT_7, w ∈ lw_tbl := List.forall_mem_cons.mpr ⟨List.mem_append_right _ (List.mem_of_getElem? (i := 99) (by decide +kernel)), List.forall_mem_cons.mpr ⟨List.mem_append_right _ (List.mem_of_getElem? (i := 100) (by decide +kernel)), List.forall_mem_cons.mpr ⟨List.mem_append_right _ (List.mem_of_getElem? (i := 101) (by decide +kernel)), List.forall_mem_cons.mpr ⟨List.mem_append_right _ (List.mem_of_getElem? (i := 103) (by decide +kernel)), List.forall_mem_cons.mpr ⟨List.mem_append_right _ (List.mem_of_getElem? (i := 105) (by decide +kernel)), List.forall_mem_cons.mpr ⟨List.mem_append_right _ (List.mem_of_getElem? (i := 107) (by decide +kernel)), List.forall_mem_cons.mpr ⟨List.mem_append_right _ (List.mem_of_getElem? (i := 109) (by decide +kernel)), List.forall_mem_cons.mpr ⟨List.mem_append_right _ (List.mem_of_getElem? (i := 111) (by decide +kernel)), List.forall_mem_cons.mpr ⟨List.mem_append_right _ (List.mem_of_getElem? (i := 113) (by decide +kernel)), List.forall_mem_cons.mpr ⟨List.mem_append_right _ (List.mem_of_getElem? (i := 115) (by decide +kernel)), List.forall_mem_cons.mpr ⟨List.mem_append_right _ (List.mem_of_getElem? (i := 117) (by decide +kernel)), List.forall_mem_cons.mpr ⟨List.mem_append_right _ (List.mem_of_getElem? (i := 120) (by decide +kernel)), List.forall_mem_cons.mpr ⟨List.mem_append_right _ (List.mem_of_getElem? (i := 121) (by decide +kernel)), List.forall_mem_cons.mpr ⟨List.mem_append_right _ (List.mem_of_getElem? (i := 122) (by decide +kernel)), List.forall_mem_cons.mpr ⟨List.mem_append_right _ (List.mem_of_getElem? (i := 123) (by decide +kernel)), List.forall_mem_cons.mpr ⟨List.mem_append_right _ (List.mem_of_getElem? (i := 124) (by decide +kernel)), fun _ h => absurd h List.not_mem_nil⟩⟩⟩⟩⟩⟩⟩⟩⟩⟩⟩⟩⟩⟩⟩⟩
theorem tl_8 : ∀ w ∈ TT_8, w ∈ lw_tbl := List.forall_mem_cons.mpr ⟨List.mem_append_right _ (List.mem_of_getElem? (i := 125) (by decide +kernel)), List.forall_mem_cons.mpr ⟨List.mem_append_right _ (List.mem_of_getElem? (i := 126) (by decide +kernel)), List.forall_mem_cons.mpr ⟨List.mem_append_right _ (List.mem_of_getElem? (i := 127) (by decide +kernel)), List.forall_mem_cons.mpr ⟨List.mem_append_right _ (List.mem_of_getElem? (i := 128) (by decide +kernel)), List.forall_mem_cons.mpr ⟨List.mem_append_right _ (List.mem_of_getElem? (i := 129) (by decide +kernel)), List.forall_mem_cons.mpr ⟨List.mem_append_right _ (List.mem_of_getElem? (i := 130) (by decide +kernel)), List.forall_mem_cons.mpr ⟨List.mem_append_right _ (List.mem_of_getElem? (i := 131) (by decide +kernel)), List.forall_mem_cons.mpr ⟨List.mem_append_right _ (List.mem_of_getElem? (i := 132) (by decide +kernel)), List.forall_mem_cons.mpr ⟨List.mem_append_right _ (List.mem_of_getElem? (i := 134) (by decide +kernel)), List.forall_mem_cons.mpr ⟨List.mem_append_right _ (List.mem_of_getElem? (i := 135) (by decide +kernel)), List.forall_mem_cons.mpr ⟨List.mem_append_right _ (List.mem_of_getElem? (i := 136) (by decide +kernel)), List.forall_mem_cons.mpr ⟨List.mem_append_right _ (List.mem_of_getElem? (i := 137) (by decide +kernel)), List.forall_mem_cons.mpr ⟨List.mem_append_right _ (List.mem_of_getElem? (i := 138) (by decide +kernel)), List.forall_mem_cons.mpr ⟨List.mem_append_right _ (List.mem_of_getElem? (i := 139) (by decide +kernel)), List.forall_mem_cons.mpr ⟨List.mem_append_right _ (List.mem_of_getElem? (i := 140) (by decide +kernel)), List.forall_mem_cons.mpr ⟨List.mem_append_right _ (List.mem_of_getElem? (i := 141) (by decide +kernel)), fun _ h => absurd h List.not_mem_nil⟩⟩⟩⟩⟩⟩⟩⟩⟩⟩⟩⟩⟩⟩⟩⟩
theorem tl_9 : ∀ w ∈ TT_9, w ∈ lw_tbl := List.forall_mem_cons.mpr ⟨List.mem_append_right _ (List.mem_of_getElem? (i := 142) (by decide +kernel)), List.forall_mem_cons.mpr ⟨List.mem_append_right _ (List.mem_of_getElem? (i := 143) (by decide +kernel)), List.forall_mem_cons.mpr ⟨List.mem_append_right _ (List.mem_of_getElem? (i := 145) (by decide +kernel)), List.forall_mem_cons.mpr ⟨List.mem_append_right _ (List.mem_of_getElem? (i := 146) (by decide +kernel)), List.forall_mem_cons.mpr ⟨List.mem_append_right _ (List.mem_of_getElem? (i := 147) (by decide +kernel)), List.forall_mem_cons.mpr ⟨List.mem_append_right _ (List.mem_of_getElem? (i := 148) (by decide +kernel)), List.forall_mem_cons.mpr ⟨List.mem_append_right _ (List.mem_of_getElem? (i := 149) (by decide +kernel)), List.forall_mem_cons.mpr ⟨List.mem_append_right _ (List.mem_of_getElem? (i := 150) (by decide +kernel)), List.forall_mem_cons.mpr ⟨List.mem_append_right _ (List.mem_of_getElem? (i := 151) (by decide +kernel)), List.forall_mem_cons.mpr ⟨List.mem_append_right _ (List.mem_of_getElem? (i := 153) (by decide +kernel)), List.forall_mem_cons.mpr ⟨List.mem_append_right _ (List.mem_of_getElem? (i := 154) (by decide +kernel)), List.forall_mem_cons.mpr ⟨List.mem_append_right _ (List.mem_of_getElem? (i := 155) (by decide +kernel)), List.forall_mem_cons.mpr ⟨List.mem_append_right _ (List.mem_of_getElem? (i := 156) (by decide +kernel)), List.forall_mem_cons.mpr ⟨List.mem_append_right _ (List.mem_of_getElem? (i := 157) (by decide +kernel)), List.forall_mem_cons.mpr ⟨List.mem_append_right _ (List.mem_of_getElem? (i := 158) (by decide +kernel)), List.forall_mem_cons.mpr ⟨List.mem_append_right _ (List.mem_of_getElem? (i := 159) (by decide +kernel)), fun _ h => absurd h List.not_mem_nil⟩⟩⟩⟩⟩⟩⟩⟩⟩⟩⟩⟩⟩⟩⟩⟩
theorem tl_10 : ∀ w ∈ TT_10, w ∈ lw_tbl := List.forall_mem_cons.mpr ⟨List.mem_append_right _ (List.mem_of_getElem? (i := 161) (by decide +kernel)), List.forall_mem_cons.mpr ⟨List.mem_append_right _ (List.mem_of_getElem? (i := 162) (by decide +kernel)), List.forall_mem_cons.mpr ⟨List.mem_append_right _ (List.mem_of_getElem? (i := 163) (by decide +kernel)), List.forall_mem_cons.mpr ⟨List.mem_append_right _ (List.mem_of_getElem? (i := 165) (by decide +kernel)), List.forall_mem_cons.mpr ⟨List.mem_append_right _ (List.mem_of_getElem? (i := 166) (by decide +kernel)), List.forall_mem_cons.mpr ⟨List.mem_append_right _ (List.mem_of_getElem? (i := 167) (by decide +kernel)), List.forall_mem_cons.mpr ⟨List.mem_append_right _ (List.mem_of_getElem? (i := 169) (by decide +kernel)), List.forall_mem_cons.mpr ⟨List.mem_append_right _ (List.mem_of_getElem? (i := 170) (by decide +kernel)), List.forall_mem_cons.mpr ⟨List.mem_append_right _ (List.mem_of_getElem? (i := 171) (by decide +kernel)), List.forall_mem_cons.mpr ⟨List.mem_append_right _ (List.mem_of_getElem? (i := 172) (by decide +kernel)), List.forall_mem_cons.mpr ⟨List.mem_append_right _ (List.mem_of_getElem? (i := 173) (by decide +kernel)), List.forall_mem_cons.mpr ⟨List.mem_append_right _ (List.mem_of_getElem? (i := 174) (by decide +kernel)), List.forall_mem_cons.mpr ⟨List.mem_append_right _ (List.mem_of_getElem? (i := 175) (by decide +kernel)), List.forall_mem_cons.mpr ⟨List.mem_append_right _ (List.mem_of_getElem? (i := 176) (by decide +kernel)), List.forall_mem_cons.mpr ⟨List.mem_append_right _ (List.mem_of_getElem? (i := 177) (by decide +kernel)), List.forall_mem_cons.mpr ⟨List.mem_append_right _ (List.mem_of_getElem? (i := 178) (by decide +kernel)), fun _ h => absurd h List.not_mem_nil⟩⟩⟩⟩⟩⟩⟩⟩⟩⟩⟩⟩⟩⟩⟩⟩
theorem tl_11 : ∀ w ∈ TT_11, w ∈ lw_tbl := List.forall_mem_cons.mpr ⟨List.mem_append_right _ (List.mem_of_getElem? (i := 179) (by decide +kernel)), List.forall_mem_cons.mpr ⟨List.mem_append_right _ (List.mem_of_getElem? (i := 180) (by decide +kernel)), List.forall_mem_cons.mpr ⟨List.mem_append_right _ (List.mem_of_getElem? (i := 181) (by decide +kernel)), List.forall_mem_cons.mpr ⟨List.mem_append_right _ (List.mem_of_getElem? (i := 182) (by decide +kernel)), List.forall_mem_cons.mpr ⟨List.mem_append_right _ (List.mem_of_getElem? (i := 183) (by decide +kernel)), List.forall_mem_cons.mpr ⟨List.mem_append_right _ (List.mem_of_getElem? (i := 184) (by decide +kernel)), List.forall_mem_cons.mpr ⟨List.mem_append_right _ (List.mem_of_getElem? (i := 185) (by decide +kernel)), List.forall_mem_cons.mpr ⟨List.mem_append_right _ (List.mem_of_getElem? (i := 186) (by decide +kernel)), List.forall_mem_cons.mpr ⟨List.mem_append_right _ (List.mem_of_getElem? (i := 188) (by decide +kernel)), List.forall_mem_cons.mpr ⟨List.mem_append_right _ (List.mem_of_getElem? (i := 189) (by decide +kernel)), List.forall_mem_cons.mpr ⟨List.mem_append_right _ (List.mem_of_getElem? (i := 190) (by decide +kernel)), List.forall_mem_cons.mpr ⟨List.mem_append_right _ (List.mem_of_getElem? (i := 191) (by decide +kernel)), List.forall_mem_cons.mpr ⟨List.mem_append_right _ (List.mem_of_getElem? (i := 192) (by decide +kernel)), List.forall_mem_cons.mpr ⟨List.mem_append_right _ (List.mem_of_getElem? (i := 193) (by decide +kernel)), List.forall_mem_cons.mpr ⟨List.mem_append_right _ (List.mem_of_getElem? (i := 194) (by decide +kernel)), List.forall_mem_cons.mpr ⟨List.mem_append_right _ (List.mem_of_getElem? (i := 195) (by decide +kernel)), fun _ h => absurd h List.not_mem_nil⟩⟩⟩⟩⟩⟩⟩⟩⟩⟩⟩⟩⟩⟩⟩⟩
theorem tl_12 : ∀ w ∈ TT_12, w ∈ lw_tbl := List.forall_mem_cons.mpr ⟨List.mem_append_right _ (List.mem_of_getElem? (i := 196) (by decide +kernel)), List.forall_mem_cons.mpr ⟨List.mem_append_right _ (List.mem_of_getElem? (i := 197) (by decide +kernel)), List.forall_mem_cons.mpr ⟨List.mem_append_right _ (List.mem_of_getElem? (i := 198) (by decide +kernel)), List.forall_mem_cons.mpr ⟨List.mem_append_right _ (List.mem_of_getElem? (i := 199) (by decide +kernel)), List.forall_mem_cons.mpr ⟨List.mem_append_right _ (List.mem_of_getElem? (i := 200) (by decide +kernel)), List.forall_mem_cons.mpr ⟨List.mem_append_right _ (List.mem_of_getElem? (i := 202) (by decide +kernel)), List.forall_mem_cons.mpr ⟨List.mem_append_right _ (List.mem_of_getElem? (i := 203) (by decide +kernel)), List.forall_mem_cons.mpr ⟨List.mem_append_right _ (List.mem_of_getElem? (i := 204) (by decide +kernel)), List.forall_mem_cons.mpr ⟨List.mem_append_right _ (List.mem_of_getElem? (i := 205) (by decide +kernel)), List.forall_mem_cons.mpr ⟨List.mem_append_right _ (List.mem_of_getElem? (i := 206) (by decide +kernel)), List.forall_mem_cons.mpr ⟨List.mem_append_right _ (List.mem_of_getElem? (i := 207) (by decide +kernel)), List.forall_mem_cons.mpr ⟨List.mem_append_right _ (List.mem_of_getElem? (i := 208) (by decide +kernel)), List.forall_mem_cons.mpr ⟨List.mem_append_right _ (List.mem_of_getElem? (i := 209) (by decide +kernel)), List.forall_mem_cons.mpr ⟨List.mem_append_right _ (List.mem_of_getElem? (i := 210) (by decide +kernel)), List.forall_mem_cons.mpr ⟨List.mem_append_right _ (List.mem_of_getElem? (i := 211) (by decide +kernel)), List.forall_mem_cons.mpr ⟨List.mem_append_right _ (List.mem_of_getElem? (i := 212) (by decide +kernel)), fun _ h => absurd h List.not_mem_nil⟩⟩⟩⟩⟩⟩⟩⟩⟩⟩⟩⟩⟩⟩⟩⟩
theorem tl_13 : ∀ w ∈ TT_13, w ∈ lw_tbl := List.forall_mem_cons.mpr ⟨List.mem_append_right _ (List.mem_of_getElem? (i := 213) (by decide +kernel)), List.forall_mem_cons.mpr ⟨List.mem_append_right _ (List.mem_of_getElem? (i := 214) (by decide +kernel)), List.forall_mem_cons.mpr ⟨List.mem_append_right _ (List.mem_of_getElem? (i := 215) (by decide +kernel)), List.forall_mem_cons.mpr ⟨List.mem_append_right _ (List.mem_of_getElem? (i := 216) (by decide +kernel)), List.forall_mem_cons.mpr ⟨List.mem_append_right _ (List.mem_of_getElem? (i := 218) (by decide +kernel)), List.forall_mem_cons.mpr ⟨List.mem_append_right _ (List.mem_of_getElem? (i := 219) (by decide +kernel)), List.forall_mem_cons.mpr ⟨List.mem_append_right _ (List.mem_of_getElem? (i := 220) (by decide +kernel)), List.forall_mem_cons.mpr ⟨List.mem_append_right _ (List.mem_of_getElem? (i := 221) (by decide +kernel)), List.forall_mem_cons.mpr ⟨List.mem_append_right _ (List.mem_of_getElem? (i := 222) (by decide +kernel)), List.forall_mem_cons.mpr ⟨List.mem_append_right _ (List.mem_of_getElem? (i := 223) (by decide +kernel)), List.forall_mem_cons.mpr ⟨List.mem_append_right _ (List.mem_of_getElem? (i := 224) (by decide +kernel)), List.forall_mem_cons.mpr ⟨List.mem_append_right _ (List.mem_of_getElem? (i := 225) (by decide +kernel)), List.forall_mem_cons.mpr ⟨List.mem_append_right _ (List.mem_of_getElem? (i := 226) (by decide +kernel)), List.forall_mem_cons.mpr ⟨List.mem_append_right _ (List.mem_of_getElem? (i := 227) (by decide +kernel)), List.forall_mem_cons.mpr ⟨List.mem_append_right _ (List.mem_of_getElem? (i := 228) (by decide +kernel)), List.forall_mem_cons.mpr ⟨List.mem_append_right _ (List.mem_of_getElem? (i := 230) (by decide +kernel)), fun _ h => absurd h List.not_mem_nil⟩⟩⟩⟩⟩⟩⟩⟩⟩⟩⟩⟩⟩⟩⟩⟩
theorem tl_14 : ∀ w ∈ TT_14, w ∈ lw_tbl := List.forall_mem_cons.mpr ⟨List.mem_append_right _ (List.mem_of_getElem? (i := 231) (by decide +kernel)), List.forall_mem_cons.mpr ⟨List.mem_append_right _ (List.mem_of_getElem? (i := 232) (by decide +kernel)), List.forall_mem_cons.mpr ⟨List.mem_append_right _ (List.mem_of_getElem? (i := 233) (by decide +kernel)), List.forall_mem_cons.mpr ⟨List.mem_append_right _ (List.mem_of_getElem? (i := 234) (by decide +kernel)), List.forall_mem_cons.mpr ⟨List.mem_append_right _ (List.mem_of_getElem? (i := 235) (by decide +kernel)), List.forall_mem_cons.mpr ⟨List.mem_append_right _ (List.mem_of_getElem? (i := 236) (by decide +kernel)), List.forall_mem_cons.mpr ⟨List.mem_append_right _ (List.mem_of_getElem? (i := 237) (by decide +kernel)), List.forall_mem_cons.mpr ⟨List.mem_append_right _ (List.mem_of_getElem? (i := 238) (by decide +kernel)), List.forall_mem_cons.mpr ⟨List.mem_append_right _ (List.mem_of_getElem? (i := 239) (by decide +kernel)), List.forall_mem_cons.mpr ⟨List.mem_append_right _ (List.mem_of_getElem? (i := 240) (by decide +kernel)), List.forall_mem_cons.mpr ⟨List.mem_append_right _ (List.mem_of_getElem? (i := 241) (by decide +kernel)), List.forall_mem_cons.mpr ⟨List.mem_append_right _ (List.mem_of_getElem? (i := 242) (by decide +kernel)), List.forall_mem_cons.mpr ⟨List.mem_append_right _ (List.mem_of_getElem? (i := 243) (by decide +kernel)), List.forall_mem_cons.mpr ⟨List.mem_append_right _ (List.mem_of_getElem? (i := 245) (by decide +kernel)), List.forall_mem_cons.mpr ⟨List.mem_append_right _ (List.mem_of_getElem? (i := 246) (by decide +kernel)), List.forall_mem_cons.mpr ⟨List.mem_append_right _ (List.mem_of_getElem? (i := 247) (by decide +kernel)), fun _ h => absurd h List.not_mem_nil⟩⟩⟩⟩⟩⟩⟩⟩⟩⟩⟩⟩⟩⟩⟩⟩
theorem tl_15 : ∀ w ∈ TT_15, w ∈ lw_tbl := List.forall_mem_cons.mpr ⟨List.mem_append_right _ (List.mem_of_getElem? (i := 248) (by decide +kernel)), List.forall_mem_cons.mpr ⟨List.mem_append_right _ (List.mem_of_getElem? (i := 249) (by decide +kernel)), List.forall_mem_cons.mpr ⟨List.mem_append_right _ (List.mem_of_getElem? (i := 250) (by decide +kernel)), List.forall_mem_cons.mpr ⟨List.mem_append_right _ (List.mem_of_getElem? (i := 251) (by decide +kernel)), List.forall_mem_cons.mpr ⟨List.mem_append_right _ (List.mem_of_getElem? (i := 252) (by decide +kernel)), List.forall_mem_cons.mpr ⟨List.mem_append_right _ (List.mem_of_getElem? (i := 253) (by decide +kernel)), List.forall_mem_cons.mpr ⟨List.mem_append_right _ (List.mem_of_getElem? (i := 254) (by decide +kernel)), List.forall_mem_cons.mpr ⟨List.mem_append_right _ (List.mem_of_getElem? (i := 255) (by decide +kernel)), List.forall_mem_cons.mpr ⟨List.mem_append_right _ (List.mem_of_getElem? (i := 256) (by decide +kernel)), List.forall_mem_cons.mpr ⟨List.mem_append_right _ (List.mem_of_getElem? (i := 257) (by decide +kernel)), List.forall_mem_cons.mpr ⟨List.mem_append_right _ (List.mem_of_getElem? (i := 258) (by decide +kernel)), List.forall_mem_cons.mpr ⟨List.mem_append_right _ (List.mem_of_getElem? (i := 259) (by decide +kernel)), List.forall_mem_cons.mpr ⟨List.mem_append_right _ (List.mem_of_getElem? (i := 260) (by decide +kernel)), List.forall_mem_cons.mpr ⟨List.mem_append_right _ (List.mem_of_getElem? (i := 261) (by decide +kernel)), List.forall_mem_cons.mpr ⟨List.mem_append_right _ (List.mem_of_getElem? (i := 262) (by decide +kernel)), List.forall_mem_cons.mpr ⟨List.mem_append_right _ (List.mem_of_getElem? (i := 264) (by decide +kernel)), fun _ h => absurd h List.not_mem_nil⟩⟩⟩⟩⟩⟩⟩⟩⟩⟩⟩⟩⟩⟩⟩⟩
theorem tl_16 : ∀ w ∈ TT_16, w ∈ lw_tbl := List.forall_mem_cons.mpr ⟨List.mem_append_right _ (List.mem_of_getElem? (i := 265) (by decide +kernel)), List.forall_mem_cons.mpr ⟨List.mem_append_right _ (List.mem_of_getElem? (i := 266) (by decide +kernel)), List.forall_mem_cons.mpr ⟨List.mem_append_right _ (List.mem_of_getElem? (i := 267) (by decide +kernel)), List.forall_mem_cons.mpr ⟨List.mem_append_right _ (List.mem_of_getElem? (i := 268) (by decide +kernel)), List.forall_mem_cons.mpr ⟨List.mem_append_right _ (List.mem_of_getElem? (i := 269) (by decide +kernel)), List.forall_mem_cons.mpr ⟨List.mem_append_right _ (List.mem_of_getElem? (i := 270) (by decide +kernel)), List.forall_mem_cons.mpr ⟨List.mem_append_right _ (List.mem_of_getElem? (i := 271) (by decide +kernel)), List.forall_mem_cons.mpr ⟨List.mem_append_right _ (List.mem_of_getElem? (i := 273) (by decide +kernel)), List.forall_mem_cons.mpr ⟨List.mem_append_right _ (List.mem_of_getElem? (i := 274) (by decide +kernel)), List.forall_mem_cons.mpr ⟨List.mem_append_right _ (List.mem_of_getElem? (i := 275) (by decide +kernel)), List.forall_mem_cons.mpr ⟨List.mem_append_right _ (List.mem_of_getElem? (i := 276) (by decide +kernel)), List.forall_mem_cons.mpr ⟨List.mem_append_right _ (List.mem_of_getElem? (i := 277) (by decide +kernel)), List.forall_mem_cons.mpr ⟨List.mem_append_right _ (List.mem_of_getElem? (i := 278) (by decide +kernel)), List.forall_mem_cons.mpr ⟨List.mem_append_right _ (List.mem_of_getElem? (i := 279) (by decide +kernel)), List.forall_mem_cons.mpr ⟨List.mem_append_right _ (List.mem_of_getElem? (i := 280) (by decide +kernel)), List.forall_mem_cons.mpr ⟨List.mem_append_right _ (List.mem_of_getElem? (i := 281) (by decide +kernel)), fun _ h => absurd h List.not_mem_nil⟩⟩⟩⟩⟩⟩⟩⟩⟩⟩⟩⟩⟩⟩⟩⟩
theorem tl_17 : ∀ w ∈ TT_17, w ∈ lw_tbl := List.forall_mem_cons.mpr ⟨List.mem_append_right _ (List.mem_of_getElem? (i := 282) (by decide +kernel)), List.forall_mem_cons.mpr ⟨List.mem_append_right _ (List.mem_of_getElem? (i := 283) (by decide +kernel)), List.forall_mem_cons.mpr ⟨List.mem_append_right _ (List.mem_of_getElem? (i := 284) (by decide +kernel)), List.forall_mem_cons.mpr ⟨List.mem_append_right _ (List.mem_of_getElem? (i := 286) (by decide +kernel)), List.forall_mem_cons.mpr ⟨List.mem_append_right _ (List.mem_of_getElem? (i := 287) (by decide +kernel)), List.forall_mem_cons.mpr ⟨List.mem_append_right _ (List.mem_of_getElem? (i := 288) (by decide +kernel)), List.forall_mem_cons.mpr ⟨List.mem_append_right _ (List.mem_of_getElem? (i := 290) (by decide +kernel)), List.forall_mem_cons.mpr ⟨List.mem_append_right _ (List.mem_of_getElem? (i := 291) (by decide +kernel)), List.forall_mem_cons.mpr ⟨List.mem_append_right _ (List.mem_of_getElem? (i := 292) (by decide +kernel)), List.forall_mem_cons.mpr ⟨List.mem_append_right _ (List.mem_of_getElem? (i := 293) (by decide +kernel)), List.forall_mem_cons.mpr ⟨List.mem_append_right _ (List.mem_of_getElem? (i := 294) (by decide +kernel)), List.forall_mem_cons.mpr ⟨List.mem_append_right _ (List.mem_of_getElem? (i := 295) (by decide +kernel)), List.forall_mem_cons.mpr ⟨List.mem_append_right _ (List.mem_of_getElem? (i := 296) (by decide +kernel)), List.forall_mem_cons.mpr ⟨List.mem_append_right _ (List.mem_of_getElem? (i := 297) (by decide +kernel)), List.forall_mem_cons.mpr ⟨List.mem_append_right _ (List.mem_of_getElem? (i := 298) (by decide +kernel)), List.forall_mem_cons.mpr ⟨List.mem_append_right _ (List.mem_of_getElem? (i := 299) (by decide +kernel)), fun _ h => absurd h List.not_mem_nil⟩⟩⟩⟩⟩⟩⟩⟩⟩⟩⟩⟩⟩⟩⟩⟩
theorem tl_18 : ∀ w ∈ TT_18, w ∈ lw_tbl := List.forall_mem_cons.mpr ⟨List.mem_append_right _ (List.mem_of_getElem? (i := 300) (by decide +kernel)), List.forall_mem_cons.mpr ⟨List.mem_append_right _ (List.mem_of_getElem? (i := 302) (by decide +kernel)), List.forall_mem_cons.mpr ⟨List.mem_append_right _ (List.mem_of_getElem? (i := 303) (by decide +kernel)), List.forall_mem_cons.mpr ⟨List.mem_append_right _ (List.mem_of_getElem? (i := 304) (by decide +kernel)), List.forall_mem_cons.mpr ⟨List.mem_append_right _ (List.mem_of_getElem? (i := 305) (by decide +kernel)), List.forall_mem_cons.mpr ⟨List.mem_append_right _ (List.mem_of_getElem? (i := 306) (by decide +kernel)), List.forall_mem_cons.mpr ⟨List.mem_append_right _ (List.mem_of_getElem? (i := 307) (by decide +kernel)), List.forall_mem_cons.mpr ⟨List.mem_append_right _ (List.mem_of_getElem? (i := 308) (by decide +kernel)), List.forall_mem_cons.mpr ⟨List.mem_append_right _ (List.mem_of_getElem? (i := 309) (by decide +kernel)), List.forall_mem_cons.mpr ⟨List.mem_append_right _ (List.mem_of_getElem? (i := 310) (by decide +kernel)), List.forall_mem_cons.mpr ⟨List.mem_append_right _ (List.mem_of_getElem? (i := 311) (by decide +kernel)), List.forall_mem_cons.mpr ⟨List.mem_append_right _ (List.mem_of_getElem? (i := 312) (by decide +kernel)), List.forall_mem_cons.mpr ⟨List.mem_append_right _ (List.mem_of_getElem? (i := 313) (by decide +kernel)), List.forall_mem_cons.mpr ⟨List.mem_append_right _ (List.mem_of_getElem? (i := 314) (by decide +kernel)), List.forall_mem_cons.mpr ⟨List.mem_append_right _ (List.mem_of_getElem? (i := 315) (by decide +kernel)), List.forall_mem_cons.mpr ⟨List.mem_append_right _ (List.mem_of_getElem? (i := 316) (by decide +kernel)), fun _ h => absurd h List.not_mem_nil⟩⟩⟩⟩⟩⟩⟩⟩⟩⟩⟩⟩⟩⟩⟩⟩
theorem tl_19 : ∀ w ∈ TT_19, w ∈ lw_tbl := List.forall_mem_cons.mpr ⟨List.mem_append_right _ (List.mem_of_getElem? (i := 317) (by decide +kernel)), List.forall_mem_cons.mpr ⟨List.mem_append_right _ (List.mem_of_getElem? (i := 318) (by decide +kernel)), List.forall_mem_cons.mpr ⟨List.mem_append_right _ (List.mem_of_getElem? (i := 319) (by decide +kernel)), List.forall_mem_cons.mpr ⟨List.mem_append_right _ (List.mem_of_getElem? (i := 320) (by decide +kernel)), List.forall_mem_cons.mpr ⟨List.mem_append_right _ (List.mem_of_getElem? (i := 321) (by decide +kernel)), List.forall_mem_cons.mpr ⟨List.mem_append_right _ (List.mem_of_getElem? (i := 322) (by decide +kernel)), List.forall_mem_cons.mpr ⟨List.mem_append_right _ (List.mem_of_getElem? (i := 323) (by decide +kernel)), List.forall_mem_cons.mpr ⟨List.mem_append_right _ (List.mem_of_getElem? (i := 324) (by decide +kernel)), List.forall_mem_cons.mpr ⟨List.mem_append_right _ (List.mem_of_getElem? (i := 325) (by decide +kernel)), List.forall_mem_cons.mpr ⟨List.mem_append_right _ (List.mem_of_getElem? (i := 326) (by decide +kernel)), List.forall_mem_cons.mpr ⟨List.mem_append_right _ (List.mem_of_getElem? (i := 327) (by decide +kernel)), List.forall_mem_cons.mpr ⟨List.mem_append_right _ (List.mem_of_getElem? (i := 328) (by decide +kernel)), List.forall_mem_cons.mpr ⟨List.mem_append_right _ (List.mem_of_getElem? (i := 329) (by decide +kernel)), List.forall_mem_cons.mpr ⟨List.mem_append_right _ (List.mem_of_getElem? (i := 330) (by decide +kernel)), List.forall_mem_cons.mpr ⟨List.mem_append_right _ (List.mem_of_getElem? (i := 331) (by decide +kernel)), List.forall_mem_cons.mpr ⟨List.mem_append_right _ (List.mem_of_getElem? (i := 332) (by decide +kernel)), fun _ h => absurd h List.not_mem_nil⟩⟩⟩⟩⟩⟩⟩⟩⟩⟩⟩⟩⟩⟩⟩⟩
theorem tl_20 : ∀ w ∈ TT_20, w ∈ lw_tbl := List.forall_mem_cons.mpr ⟨List.mem_append_right _ (List.mem_of_getElem? (i := 333) (by decide +kernel)), List.forall_mem_cons.mpr ⟨List.mem_append_right _ (List.mem_of_getElem? (i := 334) (by decide +kernel)), List.forall_mem_cons.mpr ⟨List.mem_append_right _ (List.mem_of_getElem? (i := 335) (by decide +kernel)), List.forall_mem_cons.mpr ⟨List.mem_append_right _ (List.mem_of_getElem? (i := 336) (by decide +kernel)), List.forall_mem_cons.mpr ⟨List.mem_append_right _ (List.mem_of_getElem? (i := 337) (by decide +kernel)), List.forall_mem_cons.mpr ⟨List.mem_append_right _ (List.mem_of_getElem? (i := 338) (by decide +kernel)), List.forall_mem_cons.mpr ⟨List.mem_append_right _ (List.mem_of_getElem? (i := 339) (by decide +kernel)), List.forall_mem_cons.mpr ⟨List.mem_append_right _ (List.mem_of_getElem? (i := 340) (by decide +kernel)), List.forall_mem_cons.mpr ⟨List.mem_append_right _ (List.mem_of_getElem? (i := 341) (by decide +kernel)), List.forall_mem_cons.mpr ⟨List.mem_append_right _ (List.mem_of_getElem? (i := 342) (by decide +kernel)), List.forall_mem_cons.mpr ⟨List.mem_append_right _ (List.mem_of_getElem? (i := 343) (by decide +kernel)), List.forall_mem_cons.mpr ⟨List.mem_append_right _ (List.mem_of_getElem? (i := 344) (by decide +kernel)), List.forall_mem_cons.mpr ⟨List.mem_append_right _ (List.mem_of_getElem? (i := 345) (by decide +kernel)), List.forall_mem_cons.mpr ⟨List.mem_append_right _ (List.mem_of_getElem? (i := 346) (by decide +kernel)), List.forall_mem_cons.mpr ⟨List.mem_append_right _ (List.mem_of_getElem? (i := 347) (by decide +kernel)), List.forall_mem_cons.mpr ⟨List.mem_append_right _ (List.mem_of_getElem? (i := 348) (by decide +kernel)), fun _ h => absurd h List.not_mem_nil⟩⟩⟩⟩⟩⟩⟩⟩⟩⟩⟩⟩⟩⟩⟩⟩
theorem tl_21 : ∀ w ∈ TT_21, w ∈ lw_tbl := List.forall_mem_cons.mpr ⟨List.mem_append_right _ (List.mem_of_getElem? (i := 349) (by decide +kernel)), List.forall_mem_cons.mpr ⟨List.mem_append_right _ (List.mem_of_getElem? (i := 350) (by decide +kernel)), List.forall_mem_cons.mpr ⟨List.mem_append_right _ (List.mem_of_getElem? (i := 351) (by decide +kernel)), List.forall_mem_cons.mpr ⟨List.mem_append_right _ (List.mem_of_getElem? (i := 352) (by decide +kernel)), List.forall_mem_cons.mpr ⟨List.mem_append_right _ (List.mem_of_getElem? (i := 353) (by decide +kernel)), List.forall_mem_cons.mpr ⟨List.mem_append_right _ (List.mem_of_getElem? (i := 354) (by decide +kernel)), List.forall_mem_cons.mpr ⟨List.mem_append_right _ (List.mem_of_getElem? (i := 355) (by decide +kernel)), List.forall_mem_cons.mpr ⟨List.mem_append_right _ (List.mem_of_getElem? (i := 356) (by decide +kernel)), List.forall_mem_cons.mpr ⟨List.mem_append_right _ (List.mem_of_getElem? (i := 357) (by decide +kernel)), List.forall_mem_cons.mpr ⟨List.mem_append_right _ (List.mem_of_getElem? (i := 358) (by decide +kernel)), List.forall_mem_cons.mpr ⟨List.mem_append_right _ (List.mem_of_getElem? (i := 359) (by decide +kernel)), List.forall_mem_cons.mpr ⟨List.mem_append_right _ (List.mem_of_getElem? (i := 360) (by decide +kernel)), List.forall_mem_cons.mpr ⟨List.mem_append_right _ (List.mem_of_getElem? (i := 361) (by decide +kernel)), List.forall_mem_cons.mpr ⟨List.mem_append_right _ (List.mem_of_getElem? (i := 362) (by decide +kernel)), List.forall_mem_cons.mpr ⟨List.mem_append_right _ (List.mem_of_getElem? (i := 363) (by decide +kernel)), List.forall_mem_cons.mpr ⟨List.mem_append_right _ (List.mem_of_getElem? (i := 364) (by decide +kernel)), fun _ h => absurd h List.not_mem_nil⟩⟩⟩⟩⟩⟩⟩⟩⟩⟩⟩⟩⟩⟩⟩⟩
theorem tl_22 : ∀ w ∈ TT_22, w ∈ lw_tbl := List.forall_mem_cons.mpr ⟨List.mem_append_right _ (List.mem_of_getElem? (i := 365) (by decide +kernel)), List.forall_mem_cons.mpr ⟨List.mem_append_right _ (List.mem_of_getElem? (i := 366) (by decide +kernel)), List.forall_mem_cons.mpr ⟨List.mem_append_right _ (List.mem_of_getElem? (i := 367) (by decide +kernel)), List.forall_mem_cons.mpr ⟨List.mem_append_right _ (List.mem_of_getElem? (i := 368) (by decide +kernel)), List.forall_mem_cons.mpr ⟨List.mem_append_right _ (List.mem_of_getElem? (i := 369) (by decide +kernel)), List.forall_mem_cons.mpr ⟨List.mem_append_right _ (List.mem_of_getElem? (i := 371) (by decide +kernel)), List.forall_mem_cons.mpr ⟨List.mem_append_right _ (List.mem_of_getElem? (i := 373) (by decide +kernel)), List.forall_mem_cons.mpr ⟨List.mem_append_right _ (List.mem_of_getElem? (i := 375) (by decide +kernel)), List.forall_mem_cons.mpr ⟨List.mem_append_right _ (List.mem_of_getElem? (i := 377) (by decide +kernel)), List.forall_mem_cons.mpr ⟨List.mem_append_right _ (List.mem_of_getElem? (i := 379) (by decide +kernel)), List.forall_mem_cons.mpr ⟨List.mem_append_right _ (List.mem_of_getElem? (i := 381) (by decide +kernel)), List.forall_mem_cons.mpr ⟨List.mem_append_right _ (List.mem_of_getElem? (i := 383) (by decide +kernel)), List.forall_mem_cons.mpr ⟨List.mem_append_right _ (List.mem_of_getElem? (i := 385) (by decide +kernel)), List.forall_mem_cons.mpr ⟨List.mem_append_right _ (List.mem_of_getElem? (i := 387) (by decide +kernel)), List.forall_mem_cons.mpr ⟨List.mem_append_right _ (List.mem_of_getElem? (i := 389) (by decide +kernel)), List.forall_mem_cons.mpr ⟨List.mem_append_right _ (List.mem_of_getElem? (i := 391) (by decide +kernel)), fun _ h => absurd h List.not_mem_nil⟩⟩⟩⟩⟩⟩⟩⟩⟩⟩⟩⟩⟩⟩⟩⟩
theorem tl_23 : ∀ w ∈ TT_23, w ∈ lw_tbl := List.forall_mem_cons.mpr ⟨List.mem_append_right _ (List.mem_of_getElem? (i := 393) (by decide +kernel)), List.forall_mem_cons.mpr ⟨List.mem_append_right _ (List.mem_of_getElem? (i := 395) (by decide +kernel)), List.forall_mem_cons.mpr ⟨List.mem_append_right _ (List.mem_of_getElem? (i := 397) (by decide +kernel)), List.forall_mem_cons.mpr ⟨List.mem_append_right _ (List.mem_of_getElem? (i := 399) (by decide +kernel)), List.forall_mem_cons.mpr ⟨List.mem_append_right _ (List.mem_of_getElem? (i := 401) (by decide +kernel)), List.forall_mem_cons.mpr ⟨List.mem_append_right _ (List.mem_of_getElem? (i := 403) (by decide +kernel)), List.forall_mem_cons.mpr ⟨List.mem_append_right _ (List.mem_of_getElem? (i := 405) (by decide +kernel)), List.forall_mem_cons.mpr ⟨List.mem_append_right _ (List.mem_of_getElem? (i := 408) (by decide +kernel)), List.forall_mem_cons.mpr ⟨List.mem_append_right _ (List.mem_of_getElem? (i := 409) (by decide +kernel)), List.forall_mem_cons.mpr ⟨List.mem_append_right _ (List.mem_of_getElem? (i := 410) (by decide +kernel)), List.forall_mem_cons.mpr ⟨List.mem_append_right _ (List.mem_of_getElem? (i := 411) (by decide +kernel)), List.forall_mem_cons.mpr ⟨List.mem_append_right _ (List.mem_of_getElem? (i := 412) (by decide +kernel)), List.forall_mem_cons.mpr ⟨List.mem_append_right _ (List.mem_of_getElem? (i := 413) (by decide +kernel)), List.forall_mem_cons.mpr ⟨List.mem_append_right _ (List.mem_of_getElem? (i := 414) (by decide +kernel)), List.forall_mem_cons.mpr ⟨List.mem_append_right _ (List.mem_of_getElem? (i := 415) (by decide +kernel)), List.forall_mem_cons.mpr ⟨List.mem_append_right _ (List.mem_of_getElem? (i := 416) (by decide +kernel)), fun _ h => absurd h List.not_mem_nil⟩⟩⟩⟩⟩⟩⟩⟩⟩⟩⟩⟩⟩⟩⟩⟩
theorem tl_24 : ∀ w ∈ TT_24, w ∈ lw_tbl := List.forall_mem_cons.mpr ⟨List.mem_append_right _ (List.mem_of_getElem? (i := 417) (by decide +kernel)), List.forall_mem_cons.mpr ⟨List.mem_append_right _ (List.mem_of_getElem? (i := 419) (by decide +kernel)), List.forall_mem_cons.mpr ⟨List.mem_append_right _ (List.mem_of_getElem? (i := 420) (by decide +kernel)), List.forall_mem_cons.mpr ⟨List.mem_append_right _ (List.mem_of_getElem? (i := 421) (by decide +kernel)), List.forall_mem_cons.mpr ⟨List.mem_append_right _ (List.mem_of_getElem? (i := 422) (by decide +kernel)), List.forall_mem_cons.mpr ⟨List.mem_append_right _ (List.mem_of_getElem? (i := 423) (by decide +kernel)), List.forall_mem_cons.mpr ⟨List.mem_append_right _ (List.mem_of_getElem? (i := 424) (by decide +kernel)), List.forall_mem_cons.mpr ⟨List.mem_append_right _ (List.mem_of_getElem? (i := 426) (by decide +kernel)), List.forall_mem_cons.mpr ⟨List.mem_append_right _ (List.mem_of_getElem? (i := 427) (by decide +kernel)), List.forall_mem_cons.mpr ⟨List.mem_append_right _ (List.mem_of_getElem? (i := 428) (by decide +kernel)), List.forall_mem_cons.mpr ⟨List.mem_append_right _ (List.mem_of_getElem? (i := 430) (by decide +kernel)), List.forall_mem_cons.mpr ⟨List.mem_append_right _ (List.mem_of_getElem? (i := 431) (by decide +kernel)), List.forall_mem_cons.mpr ⟨List.mem_append_right _ (List.mem_of_getElem? (i := 432) (by decide +kernel)), List.forall_mem_cons.mpr ⟨List.mem_append_right _ (List.mem_of_getElem? (i := 434) (by decide +kernel)), List.forall_mem_cons.mpr ⟨List.mem_append_right _ (List.mem_of_getElem? (i := 435) (by decide +kernel)), List.forall_mem_cons.mpr ⟨List.mem_append_right _ (List.mem_of_getElem? (i := 436) (by decide +kernel)), fun _ h => absurd h List.not_mem_nil⟩⟩⟩⟩⟩⟩⟩⟩⟩⟩⟩⟩⟩⟩⟩⟩
theorem tl_25 : ∀ w ∈ TT_25, w ∈ lw_tbl := List.forall_mem_cons.mpr ⟨List.mem_append_right _ (List.mem_of_getElem? (i := 438) (by decide +kernel)), List.forall_mem_cons.mpr ⟨List.mem_append_right _ (List.mem_of_getElem? (i := 439) (by decide +kernel)), List.forall_mem_cons.mpr ⟨List.mem_append_right _ (List.mem_of_getElem? (i := 440) (by decide +kernel)), List.forall_mem_cons.mpr ⟨List.mem_append_right _ (List.mem_of_getElem? (i := 442) (by decide +kernel)), List.forall_mem_cons.mpr ⟨List.mem_append_right _ (List.mem_of_getElem? (i := 443) (by decide +kernel)), List.forall_mem_cons.mpr ⟨List.mem_append_right _ (List.mem_of_getElem? (i := 444) (by decide +kernel)), List.forall_mem_cons.mpr ⟨List.mem_append_right _ (List.mem_of_getElem? (i := 446) (by decide +kernel)), List.forall_mem_cons.mpr ⟨List.mem_append_right _ (List.mem_of_getElem? (i := 447) (by decide +kernel)), List.forall_mem_cons.mpr ⟨List.mem_append_right _ (List.mem_of_getElem? (i := 448) (by decide +kernel)), List.forall_mem_cons.mpr ⟨List.mem_append_right _ (List.mem_of_getElem? (i := 450) (by decide +kernel)), List.forall_mem_cons.mpr ⟨List.mem_append_right _ (List.mem_of_getElem? (i := 451) (by decide +kernel)), List.forall_mem_cons.mpr ⟨List.mem_append_right _ (List.mem_of_getElem? (i := 452) (by decide +kernel)), List.forall_mem_cons.mpr ⟨List.mem_append_right _ (List.mem_of_getElem? (i := 454) (by decide +kernel)), List.forall_mem_cons.mpr ⟨List.mem_append_right _ (List.mem_of_getElem? (i := 455) (by decide +kernel)), List.forall_mem_cons.mpr ⟨List.mem_append_right _ (List.mem_of_getElem? (i := 456) (by decide +kernel)), List.forall_mem_cons.mpr ⟨List.mem_append_right _ (List.mem_of_getElem? (i := 458) (by decide +kernel)), fun _ h => absurd h List.not_mem_nil⟩⟩⟩⟩⟩⟩⟩⟩⟩⟩⟩⟩⟩⟩⟩⟩
theorem tl_26 : ∀ w ∈ TT_26, w ∈ lw_tbl := List.forall_mem_cons.mpr ⟨List.mem_append_right _ (List.mem_of_getElem? (i := 459) (by decide +kernel)), List.forall_mem_cons.mpr ⟨List.mem_append_right _ (List.mem_of_getElem? (i := 460) (by decide +kernel)), List.forall_mem_cons.mpr ⟨List.mem_append_right _ (List.mem_of_getElem? (i := 462) (by decide +kernel)), List.forall_mem_cons.mpr ⟨List.mem_append_right _ (List.mem_of_getElem? (i := 463) (by decide +kernel)), List.forall_mem_cons.mpr ⟨List.mem_append_right _ (List.mem_of_getElem? (i := 464) (by decide +kernel)), List.forall_mem_cons.mpr ⟨List.mem_append_right _ (List.mem_of_getElem? (i := 465) (by decide +kernel)), List.forall_mem_cons.mpr ⟨List.mem_append_right _ (List.mem_of_getElem? (i := 466) (by decide +kernel)), List.forall_mem_cons.mpr ⟨List.mem_append_right _ (List.mem_of_getElem? (i := 467) (by decide +kernel)), List.forall_mem_cons.mpr ⟨List.mem_append_right _ (List.mem_of_getElem? (i := 468) (by decide +kernel)), List.forall_mem_cons.mpr ⟨List.mem_append_right _ (List.mem_of_getElem? (i := 470) (by decide +kernel)), List.forall_mem_cons.mpr ⟨List.mem_append_right _ (List.mem_of_getElem? (i := 471) (by decide +kernel)), List.forall_mem_cons.mpr ⟨List.mem_append_right _ (List.mem_of_getElem? (i := 472) (by decide +kernel)), List.forall_mem_cons.mpr ⟨List.mem_append_right _ (List.mem_of_getElem? (i := 474) (by decide +kernel)), List.forall_mem_cons.mpr ⟨List.mem_append_right _ (List.mem_of_getElem? (i := 475) (by decide +kernel)), List.forall_mem_cons.mpr ⟨List.mem_append_right _ (List.mem_of_getElem? (i := 476) (by decide +kernel)), List.forall_mem_cons.mpr ⟨List.mem_append_right _ (List.mem_of_getElem? (i := 478) (by decide +kernel)), fun _ h => absurd h List.not_mem_nil⟩⟩⟩⟩⟩⟩⟩⟩⟩⟩⟩⟩⟩⟩⟩⟩
theorem tl_27 : ∀ w ∈ TT_27, w ∈ lw_tbl := List.forall_mem_cons.mpr ⟨List.mem_append_right _ (List.mem_of_getElem? (i := 479) (by decide +kernel)), List.forall_mem_cons.mpr ⟨List.mem_append_right _ (List.mem_of_getElem? (i := 480) (by decide +kernel)), List.forall_mem_cons.mpr ⟨List.mem_append_right _ (List.mem_of_getElem? (i := 481) (by decide +kernel)), List.forall_mem_cons.mpr ⟨List.mem_append_right _ (List.mem_of_getElem? (i := 482) (by decide +kernel)), List.forall_mem_cons.mpr ⟨List.mem_append_right _ (List.mem_of_getElem? (i := 483) (by decide +kernel)), List.forall_mem_cons.mpr ⟨List.mem_append_right _ (List.mem_of_getElem? (i := 484) (by decide +kernel)), List.forall_mem_cons.mpr ⟨List.mem_append_right _ (List.mem_of_getElem? (i := 485) (by decide +kernel)), List.forall_mem_cons.mpr ⟨List.mem_append_right _ (List.mem_of_getElem? (i := 486) (by decide +kernel)), List.forall_mem_cons.mpr ⟨List.mem_append_right _ (List.mem_of_getElem? (i := 487) (by decide +kernel)), List.forall_mem_cons.mpr ⟨List.mem_append_right _ (List.mem_of_getElem? (i := 488) (by decide +kernel)), List.forall_mem_cons.mpr ⟨List.mem_append_right _ (List.mem_of_getElem? (i := 489) (by decide +kernel)), List.forall_mem_cons.mpr ⟨List.mem_append_right _ (List.mem_of_getElem? (i := 490) (by decide +kernel)), List.forall_mem_cons.mpr ⟨List.mem_append_right _ (List.mem_of_getElem? (i := 491) (by decide +kernel)), List.forall_mem_cons.mpr ⟨List.mem_append_right _ (List.mem_of_getElem? (i := 492) (by decide +kernel)), List.forall_mem_cons.mpr ⟨List.mem_append_right _ (List.mem_of_getElem? (i := 493) (by decide +kernel)), List.forall_mem_cons.mpr ⟨List.mem_append_right _ (List.mem_of_getElem? (i := 494) (by decide +kernel)), fun _ h => absurd h List.not_mem_nil⟩⟩⟩⟩⟩⟩⟩⟩⟩⟩⟩⟩⟩⟩⟩⟩
theorem tl_28 : ∀ w ∈ TT_28, w ∈ lw_tbl := List.forall_mem_cons.mpr ⟨List.mem_append_right _ (List.mem_of_getElem? (i := 495) (by decide +kernel)), List.forall_mem_cons.mpr ⟨List.mem_append_right _ (List.mem_of_getElem? (i := 496) (by decide +kernel)), List.forall_mem_cons.mpr ⟨List.mem_append_right _ (List.mem_of_getElem? (i := 497) (by decide +kernel)), List.forall_mem_cons.mpr ⟨List.mem_append_right _ (List.mem_of_getElem? (i := 498) (by decide +kernel)), List.forall_mem_cons.mpr ⟨List.mem_append_right _ (List.mem_of_getElem? (i := 499) (by decide +kernel)), List.forall_mem_cons.mpr ⟨List.mem_append_right _ (List.mem_of_getElem? (i := 500) (by decide +kernel)), List.forall_mem_cons.mpr ⟨List.mem_append_right _ (List.mem_of_getElem? (i := 501) (by decide +kernel)), List.forall_mem_cons.mpr ⟨List.mem_append_right _ (List.mem_of_getElem? (i := 502) (by decide +kernel)), List.forall_mem_cons.mpr ⟨List.mem_append_right _ (List.mem_of_getElem? (i := 503) (by decide +kernel)), List.forall_mem_cons.mpr ⟨List.mem_append_right _ (List.mem_of_getElem? (i := 504) (by decide +kernel)), List.forall_mem_cons.mpr ⟨List.mem_append_right _ (List.mem_of_getElem? (i := 505) (by decide +kernel)), List.forall_mem_cons.mpr ⟨List.mem_append_right _ (List.mem_of_getElem? (i := 506) (by decide +kernel)), List.forall_mem_cons.mpr ⟨List.mem_append_right _ (List.mem_of_getElem? (i := 507) (by decide +kernel)), List.forall_mem_cons.mpr ⟨List.mem_append_right _ (List.mem_of_getElem? (i := 508) (by decide +kernel)), List.forall_mem_cons.mpr ⟨List.mem_append_right _ (List.mem_of_getElem? (i := 509) (by decide +kernel)), List.forall_mem_cons.mpr ⟨List.mem_append_right _ (List.mem_of_getElem? (i := 510) (by decide +kernel)), fun _ h => absurd h List.not_mem_nil⟩⟩⟩⟩⟩⟩⟩⟩⟩⟩⟩⟩⟩⟩⟩⟩
theorem tl_29 : ∀ w ∈ TT_29, w ∈ lw_tbl := List.forall_mem_cons.mpr ⟨List.mem_append_right _ (List.mem_of_getElem? (i := 511) (by decide +kernel)), List.forall_mem_cons.mpr ⟨List.mem_append_right _ (List.mem_of_getElem? (i := 512) (by decide +kernel)), List.forall_mem_cons.mpr ⟨List.mem_append_right _ (List.mem_of_getElem? (i := 513) (by decide +kernel)), List.forall_mem_cons.mpr ⟨List.mem_append_right _ (List.mem_of_getElem? (i := 514) (by decide +kernel)), List.forall_mem_cons.mpr ⟨List.mem_append_right _ (List.mem_of_getElem? (i := 515) (by decide +kernel)), List.forall_mem_cons.mpr ⟨List.mem_append_right _ (List.mem_of_getElem? (i := 516) (by decide +kernel)), List.forall_mem_cons.mpr ⟨List.mem_append_right _ (List.mem_of_getElem? (i := 517) (by decide +kernel)), List.forall_mem_cons.mpr ⟨List.mem_append_right _ (List.mem_of_getElem? (i := 518) (by decide +kernel)), List.forall_mem_cons.mpr ⟨List.mem_append_right _ (List.mem_of_getElem? (i := 519) (by decide +kernel)), fun _ h => absurd h List.not_mem_nil⟩⟩⟩⟩⟩⟩⟩⟩⟩
theorem TT_in : ∀ w ∈ TT, w ∈ lw_tbl := tt_all tl_0 tl_1 tl_2 tl_3 tl_4 tl_5 tl_6 tl_7 tl_8 tl_9 tl_10 tl_11 tl_12 tl_13 tl_14 tl_15 tl_16 tl_17 tl_18 tl_19 tl_20 tl_21 tl_22 tl_23 tl_24 tl_25 tl_26 tl_27 tl_28 tl_29
abbrev w_Dk_init : List Cond := Cond.code y_Dk_init b_Dk_init 1 none :: TT
abbrev w_Dk_make : List Cond := Cond.code y_Dk_make b_Dk_make 2 (some .int) :: TT
abbrev w_Dk_send : List Cond := Cond.code y_Dk_send b_Dk_send 5 (some .int) :: TT
abbrev w_Dk_receive : List Cond := Cond.code y_Dk_receive b_Dk_receive 4 (some .int) :: TT
abbrev w_Dk_add : List Cond := Cond.code y_Dk_add b_Dk_add 5 (some .int) :: TT
abbrev w_Dk_choose : List Cond := Cond.code y_Dk_choose b_Dk_choose 5 (some .int) :: TT
abbrev w_Dk_close : List Cond := Cond.code y_Dk_close b_Dk_close 4 (some .int) :: TT
abbrev w_Dk_state : List Cond := Cond.code y_Dk_state b_Dk_state 2 (some .int) :: TT
abbrev w_Dk_got : List Cond := Cond.code y_Dk_got b_Dk_got 2 (some .int) :: TT
abbrev w_Dk_last : List Cond := Cond.code y_Dk_last b_Dk_last 2 (some .int) :: TT
abbrev w_Dk_waiting : List Cond := Cond.code y_Dk_waiting b_Dk_waiting 5 (some .int) :: TT
abbrev w_Dk_channel : List Cond := Cond.code y_Dk_channel b_Dk_channel 3 (some .int) :: TT
abbrev w_Dk_count : List Cond := Cond.code y_Dk_count b_Dk_count 2 (some .int) :: TT
abbrev w_Dk_clear : List Cond := Cond.code y_Dk_clear b_Dk_clear 2 (some .int) :: TT
abbrev w_Dk_startAfresh : List Cond := Cond.code y_Dk_startAfresh b_Dk_startAfresh 1 none :: TT
abbrev w_Dk_isRoutine : List Cond := Cond.code y_Dk_isRoutine b_Dk_isRoutine 1 (some .boolean) :: TT
abbrev w_Dk_isWay : List Cond := Cond.code y_Dk_isWay b_Dk_isWay 1 (some .boolean) :: TT
abbrev w_Dk_isReady : List Cond := Cond.code y_Dk_isReady b_Dk_isReady 2 (some .boolean) :: TT
abbrev w_Dk_makeReady : List Cond := Cond.code y_Dk_makeReady b_Dk_makeReady 2 none :: TT
abbrev w_Dk_startWaiting : List Cond := Cond.code y_Dk_startWaiting b_Dk_startWaiting 3 none :: TT
abbrev w_Dk_trySend : List Cond := Cond.code y_Dk_trySend b_Dk_trySend 5 (some .int) :: TT
abbrev w_Dk_tryReceive : List Cond := Cond.code y_Dk_tryReceive b_Dk_tryReceive 4 (some .int) :: TT
abbrev w_Dk_takeFromSender : List Cond := Cond.code y_Dk_takeFromSender b_Dk_takeFromSender 3 (some .int) :: TT
abbrev w_Dk_hand : List Cond := Cond.code y_Dk_hand b_Dk_hand 4 none :: TT
abbrev w_Dk_sufferFault : List Cond := Cond.code y_Dk_sufferFault b_Dk_sufferFault 2 none :: TT
abbrev w_Dk_endWait : List Cond := Cond.code y_Dk_endWait b_Dk_endWait 3 none :: TT
abbrev w_Dk_wakeAtShutChannel : List Cond := Cond.code y_Dk_wakeAtShutChannel b_Dk_wakeAtShutChannel 4 none :: TT
abbrev w_Dk_doCase : List Cond := Cond.code y_Dk_doCase b_Dk_doCase 7 (some .int) :: TT
abbrev w_Dk_countPossible : List Cond := Cond.code y_Dk_countPossible b_Dk_countPossible 4 (some .int) :: TT
abbrev w_Dk_findPossible : List Cond := Cond.code y_Dk_findPossible b_Dk_findPossible 6 (some .int) :: TT
abbrev w_Dk_isPossible : List Cond := Cond.code y_Dk_isPossible b_Dk_isPossible 3 (some .boolean) :: TT
abbrev w_Dk_firstWaiting : List Cond := Cond.code y_Dk_firstWaiting b_Dk_firstWaiting 3 (some .int) :: TT
abbrev w_Dk_findWaiting : List Cond := Cond.code y_Dk_findWaiting b_Dk_findWaiting 7 (some .int) :: TT
abbrev w_Md_init : List Cond := Cond.code y_Md_init b_Md_init 2 none :: TT
abbrev w_Md_isRoutine : List Cond := Cond.code y_Md_isRoutine b_Md_isRoutine 1 (some .boolean) :: TT
abbrev w_Md_isChannel : List Cond := Cond.code y_Md_isChannel b_Md_isChannel 2 (some .boolean) :: TT
abbrev w_Md_isReady : List Cond := Cond.code y_Md_isReady b_Md_isReady 2 (some .boolean) :: TT
abbrev w_Md_make : List Cond := Cond.code y_Md_make b_Md_make 2 (some .int) :: TT
abbrev w_Md_caseAt : List Cond := Cond.code y_Md_caseAt b_Md_caseAt 5 (some .int) :: TT
abbrev w_Md_waitsAt : List Cond := Cond.code y_Md_waitsAt b_Md_waitsAt 5 (some .boolean) :: TT
abbrev w_Md_waiter : List Cond := Cond.code y_Md_waiter b_Md_waiter 7 (some .int) :: TT
abbrev w_Md_ready : List Cond := Cond.code y_Md_ready b_Md_ready 3 none :: TT
abbrev w_Md_waits : List Cond := Cond.code y_Md_waits b_Md_waits 3 none :: TT
abbrev w_Md_receives : List Cond := Cond.code y_Md_receives b_Md_receives 5 none :: TT
abbrev w_Md_sends : List Cond := Cond.code y_Md_sends b_Md_sends 5 (some .int) :: TT
abbrev w_Md_push : List Cond := Cond.code y_Md_push b_Md_push 3 none :: TT
abbrev w_Md_take : List Cond := Cond.code y_Md_take b_Md_take 4 (some .int) :: TT
abbrev w_Md_isPossible : List Cond := Cond.code y_Md_isPossible b_Md_isPossible 3 (some .boolean) :: TT
abbrev w_Md_sendNow : List Cond := Cond.code y_Md_sendNow b_Md_sendNow 5 (some .int) :: TT
abbrev w_Md_receiveNow : List Cond := Cond.code y_Md_receiveNow b_Md_receiveNow 4 none :: TT
abbrev w_Md_send : List Cond := Cond.code y_Md_send b_Md_send 4 (some .int) :: TT
abbrev w_Md_receive : List Cond := Cond.code y_Md_receive b_Md_receive 3 (some .int) :: TT
abbrev w_Md_add : List Cond := Cond.code y_Md_add b_Md_add 6 (some .int) :: TT
abbrev w_Md_choose : List Cond := Cond.code y_Md_choose b_Md_choose 11 (some .int) :: TT
abbrev w_Md_close : List Cond := Cond.code y_Md_close b_Md_close 6 (some .int) :: TT
abbrev w_Md_state : List Cond := Cond.code y_Md_state b_Md_state 2 (some .int) :: TT
abbrev w_Md_got : List Cond := Cond.code y_Md_got b_Md_got 2 (some .int) :: TT
abbrev w_Md_last : List Cond := Cond.code y_Md_last b_Md_last 2 (some .int) :: TT
abbrev w_Md_waiting : List Cond := Cond.code y_Md_waiting b_Md_waiting 4 (some .int) :: TT
abbrev w_Md_channel : List Cond := Cond.code y_Md_channel b_Md_channel 3 (some .int) :: TT
abbrev w_Md_count : List Cond := Cond.code y_Md_count b_Md_count 4 (some .int) :: TT
abbrev w_Md_clear : List Cond := Cond.code y_Md_clear b_Md_clear 3 (some .int) :: TT
abbrev w_Cs_init : List Cond := Cond.code y_Cs_init b_Cs_init 1 none :: TT
abbrev w_Cs_slotOf : List Cond := Cond.code y_Cs_slotOf b_Cs_slotOf 2 (some .int) :: TT
abbrev w_Cs_routineAt : List Cond := Cond.code y_Cs_routineAt b_Cs_routineAt 1 (some .int) :: TT
abbrev w_Cs_numberAt : List Cond := Cond.code y_Cs_numberAt b_Cs_numberAt 1 (some .int) :: TT
abbrev w_Cs_forgetAll : List Cond := Cond.code y_Cs_forgetAll b_Cs_forgetAll 1 none :: TT
abbrev w_Cs_forget : List Cond := Cond.code y_Cs_forget b_Cs_forget 2 none :: TT
abbrev w_Cs_numberOf : List Cond := Cond.code y_Cs_numberOf b_Cs_numberOf 2 (some .int) :: TT
abbrev w_Cs_append : List Cond := Cond.code y_Cs_append b_Cs_append 6 (some .int) :: TT
abbrev w_Cs_channelAt : List Cond := Cond.code y_Cs_channelAt b_Cs_channelAt 2 (some .int) :: TT
abbrev w_Cs_wayAt : List Cond := Cond.code y_Cs_wayAt b_Cs_wayAt 2 (some .int) :: TT
abbrev w_Cs_valueAt : List Cond := Cond.code y_Cs_valueAt b_Cs_valueAt 2 (some .int) :: TT
abbrev w_Cs_firstAt : List Cond := Cond.code y_Cs_firstAt b_Cs_firstAt 6 (some .int) :: TT
abbrev w_Ch_init : List Cond := Cond.code y_Ch_init b_Ch_init 1 none :: TT
abbrev w_Ch_forgetAll : List Cond := Cond.code y_Ch_forgetAll b_Ch_forgetAll 1 none :: TT
abbrev w_Ch_number : List Cond := Cond.code y_Ch_number b_Ch_number 1 (some .int) :: TT
abbrev w_Ch_has : List Cond := Cond.code y_Ch_has b_Ch_has 2 (some .boolean) :: TT
abbrev w_Ch_open : List Cond := Cond.code y_Ch_open b_Ch_open 3 (some .int) :: TT
abbrev w_Ch_shut : List Cond := Cond.code y_Ch_shut b_Ch_shut 2 none :: TT
abbrev w_Ch_isShut : List Cond := Cond.code y_Ch_isShut b_Ch_isShut 2 (some .boolean) :: TT
abbrev w_Ch_roomOf : List Cond := Cond.code y_Ch_roomOf b_Ch_roomOf 2 (some .int) :: TT
abbrev w_Ch_held : List Cond := Cond.code y_Ch_held b_Ch_held 2 (some .int) :: TT
abbrev w_Ch_hasSpace : List Cond := Cond.code y_Ch_hasSpace b_Ch_hasSpace 2 (some .boolean) :: TT
abbrev w_Ch_valueAt : List Cond := Cond.code y_Ch_valueAt b_Ch_valueAt 3 (some .int) :: TT
abbrev w_Ch_put : List Cond := Cond.code y_Ch_put b_Ch_put 3 (some .boolean) :: TT
abbrev w_Ch_takeFirst : List Cond := Cond.code y_Ch_takeFirst b_Ch_takeFirst 4 (some .int) :: TT
abbrev w_Ln_init : List Cond := Cond.code y_Ln_init b_Ln_init 1 none :: TT
abbrev w_Ln_empty : List Cond := Cond.code y_Ln_empty b_Ln_empty 1 none :: TT
abbrev w_Ln_length : List Cond := Cond.code y_Ln_length b_Ln_length 1 (some .int) :: TT
abbrev w_Ln_memberAt : List Cond := Cond.code y_Ln_memberAt b_Ln_memberAt 2 (some .int) :: TT
abbrev w_Ln_join : List Cond := Cond.code y_Ln_join b_Ln_join 2 none :: TT
abbrev w_Ln_leave : List Cond := Cond.code y_Ln_leave b_Ln_leave 4 none :: TT
abbrev w_Ar_fill : List Cond := Cond.code y_Ar_fill b_Ar_fill 4 none :: TT
theorem uw_Cs : ∀ w ∈ u_ws R_Cs T_Cs 4, w ∈ TT := List.forall_mem_cons.mpr ⟨t_73, List.forall_mem_cons.mpr ⟨t_74, List.forall_mem_cons.mpr ⟨t_75, List.forall_mem_cons.mpr ⟨t_76, fun _ h => absurd h List.not_mem_nil⟩⟩⟩⟩
theorem uw_Ch : ∀ w ∈ u_ws R_Ch T_Ch 5, w ∈ TT := List.forall_mem_cons.mpr ⟨t_57, List.forall_mem_cons.mpr ⟨t_58, List.forall_mem_cons.mpr ⟨t_59, List.forall_mem_cons.mpr ⟨t_60, List.forall_mem_cons.mpr ⟨t_61, fun _ h => absurd h List.not_mem_nil⟩⟩⟩⟩⟩
theorem uw_Ln : ∀ w ∈ u_ws R_Ln T_Ln 2, w ∈ TT := List.forall_mem_cons.mpr ⟨t_84, List.forall_mem_cons.mpr ⟨t_85, fun _ h => absurd h List.not_mem_nil⟩⟩
theorem uw_Dk : ∀ w ∈ u_ws R_Dk T_Dk 9, w ∈ TT := List.forall_mem_cons.mpr ⟨t_114, List.forall_mem_cons.mpr ⟨t_115, List.forall_mem_cons.mpr ⟨t_116, List.forall_mem_cons.mpr ⟨t_117, List.forall_mem_cons.mpr ⟨t_118, List.forall_mem_cons.mpr ⟨t_119, List.forall_mem_cons.mpr ⟨t_120, List.forall_mem_cons.mpr ⟨t_121, List.forall_mem_cons.mpr ⟨t_122, fun _ h => absurd h List.not_mem_nil⟩⟩⟩⟩⟩⟩⟩⟩⟩
theorem uw_Md : ∀ w ∈ u_ws R_Md T_Md 19, w ∈ TT := List.forall_mem_cons.mpr ⟨t_356, List.forall_mem_cons.mpr ⟨t_357, List.forall_mem_cons.mpr ⟨t_358, List.forall_mem_cons.mpr ⟨t_359, List.forall_mem_cons.mpr ⟨t_360, List.forall_mem_cons.mpr ⟨t_361, List.forall_mem_cons.mpr ⟨t_362, List.forall_mem_cons.mpr ⟨t_363, List.forall_mem_cons.mpr ⟨t_364, List.forall_mem_cons.mpr ⟨t_365, List.forall_mem_cons.mpr ⟨t_366, List.forall_mem_cons.mpr ⟨t_367, List.forall_mem_cons.mpr ⟨t_368, List.forall_mem_cons.mpr ⟨t_369, List.forall_mem_cons.mpr ⟨t_370, List.forall_mem_cons.mpr ⟨t_371, List.forall_mem_cons.mpr ⟨t_372, List.forall_mem_cons.mpr ⟨t_373, List.forall_mem_cons.mpr ⟨t_374, fun _ h => absurd h List.not_mem_nil⟩⟩⟩⟩⟩⟩⟩⟩⟩⟩⟩⟩⟩⟩⟩⟩⟩⟩⟩
abbrev vwCl : List vw_C := [(R_Cs, T_Cs, 4), (R_Ch, T_Ch, 5), (R_Ln, T_Ln, 2), (R_Dk, T_Dk, 9), (R_Md, T_Md, 19)]
theorem gV {own C : String} {i : Nat} {y : MethodName} {cd : Cond} (h1 : Cond.methodLink own i y ∈ TT) (h2 : Cond.instanceMethod y ∈ TT) (h3 : Cond.selects C y y ∈ TT) (h4 : Cond.initialized C ∈ TT) (h5 : cd ∈ TT) : GoodIn TT (wsV own i C y (cd :: TT)) := by
  have h : ∀ w ∈ wsV own i C y (cd :: TT), w ∈ TT := List.forall_mem_cons.mpr ⟨h1, List.forall_mem_cons.mpr ⟨h2, List.forall_mem_cons.mpr ⟨h3, List.forall_mem_cons.mpr ⟨h4, List.forall_mem_cons.mpr ⟨h5, fun _ h => h⟩⟩⟩⟩⟩
  exact fun w hw => ⟨h w hw, TT_good w (h w hw)⟩
theorem gS {own : String} {i : Nat} {y : MethodName} {cd : Cond} (h1 : Cond.methodLink own i y ∈ TT) (h2 : Cond.static y ∈ TT) (h3 : Cond.initialized y.cls ∈ TT) (h5 : cd ∈ TT) : GoodIn TT (va_wsS own i y (cd :: TT)) := by
  have h : ∀ w ∈ va_wsS own i y (cd :: TT), w ∈ TT := List.forall_mem_cons.mpr ⟨h1, List.forall_mem_cons.mpr ⟨h2, List.forall_mem_cons.mpr ⟨h3, List.forall_mem_cons.mpr ⟨h5, fun _ h => h⟩⟩⟩⟩
  exact fun w hw => ⟨h w hw, TT_good w (h w hw)⟩
theorem gI {cd : Cond} (h5 : cd ∈ TT) : GoodIn TT (cd :: TT) := by
  have h : ∀ w ∈ cd :: TT, w ∈ TT := List.forall_mem_cons.mpr ⟨h5, fun _ h => h⟩
  exact fun w hw => ⟨h w hw, TT_good w (h w hw)⟩
end
section
/-! OWN ROWS: natural numbers on the stack, reads and writes by natural places, calls that only read, calls that write in their places -/
def bI (b : Bool) : Int32 := if b = true then 1 else 0
theorem bI_t : bI true = 1 := rfl
theorem bI_f : bI false = 0 := rfl
theorem nI_1' : nI 1 = 1 := by decide +kernel
theorem bI_0 {b : Bool} : bI b = 0 ↔ b = false := by cases b <;> simp [bI]
theorem nI_m1 {n : Nat} (h : n < 2 ^ 31) : ¬ nI n = -1 := by
  intro q
  have a := nI_toInt h
  rw [q, show ((-1 : Int32)).toInt = -1 by decide +kernel] at a
  omega
theorem upd_nI (f : Nat → Nat) (k x : Nat) : upd (fun j => nI (f j)) k (nI x) = fun j => nI (va_up f k x j) := by
  funext j
  simp only [upd, va_up]
  split <;> rfl
theorem upd_bI (f : Nat → Bool) (k : Nat) (x : Bool) : upd (fun j => bI (f j)) k (bI x) = fun j => bI (va_up f k x j) := by
  funext j
  simp only [upd, va_up]
  split <;> rfl
theorem upd_va (f : Nat → Int32) (k : Nat) (x : Int32) : upd f k x = va_up f k x := by
  funext j
  simp only [upd, va_up]
theorem nar_bI (b : Bool) : vp_nar .boolean (bI b) = bI b := by cases b <;> decide +kernel
section KO
variable {p : Program} {l : Launch} {e : Env} {R : Room} {s : State} {m : MethodId} {args : Array Value} {below : List Frame} {meth : Method} {c : Code} {H : Heap} {locs : List Loc} {cells slots : Nat} {Q : State → Prop}
variable {cc : ByteArray} {pc : Nat} {ls : Array Slot} {rest : List Value}
theorem k_top {x y : Int32} (h : x = y) (k : W p l e R s m args below meth c H locs cells slots Q (F0 m pc ls (.int y :: rest))) : W p l e R s m args below meth c H locs cells slots Q (F0 m pc ls (.int x :: rest)) := by
  subst h
  exact k
theorem n_icmp_ge (hexec : p.tables.exec = Jvm.exec) (hb : c.code = cc) {a b : Nat} {off : Int} {tgt : Nat} (hdg : decode cc pc = .ok (.if_icmp .ge off, 3)) (ht : (pc : Int) + off = (tgt : Int)) (h1 : a < 2 ^ 31) (h2 : b < 2 ^ 31)
    (kt : b ≤ a → W p l e R s m args below meth c H locs cells slots Q (F0 m tgt ls rest)) (kf : a < b → W p l e R s m args below meth c H locs cells slots Q (F0 m (pc + 3) ls rest)) : W p l e R s m args below meth c H locs cells slots Q (F0 m pc ls (.int (nI b) :: .int (nI a) :: rest)) :=
  lv_icmp_ge hexec hb hdg ht (fun h => kt ((nI_leI h2 h1).mp h)) (fun h => kf (Nat.lt_of_not_le (fun q => h ((nI_leI h2 h1).mpr q))))
theorem n_icmp_lt (hexec : p.tables.exec = Jvm.exec) (hb : c.code = cc) {a b : Nat} {off : Int} {tgt : Nat} (hdg : decode cc pc = .ok (.if_icmp .lt off, 3)) (ht : (pc : Int) + off = (tgt : Int)) (h1 : a < 2 ^ 31) (h2 : b < 2 ^ 31)
    (kt : a < b → W p l e R s m args below meth c H locs cells slots Q (F0 m tgt ls rest)) (kf : b ≤ a → W p l e R s m args below meth c H locs cells slots Q (F0 m (pc + 3) ls rest)) : W p l e R s m args below meth c H locs cells slots Q (F0 m pc ls (.int (nI b) :: .int (nI a) :: rest)) :=
  lv_icmp_lt hexec hb hdg ht (fun h => kt ((nI_ltI h1 h2).mp h)) (fun h => kf (Nat.le_of_not_lt (fun q => h ((nI_ltI h1 h2).mpr q))))
theorem n_icmp_gt (hexec : p.tables.exec = Jvm.exec) (hb : c.code = cc) {a b : Nat} {off : Int} {tgt : Nat} (hdg : decode cc pc = .ok (.if_icmp .gt off, 3)) (ht : (pc : Int) + off = (tgt : Int)) (h1 : a < 2 ^ 31) (h2 : b < 2 ^ 31)
    (kt : b < a → W p l e R s m args below meth c H locs cells slots Q (F0 m tgt ls rest)) (kf : a ≤ b → W p l e R s m args below meth c H locs cells slots Q (F0 m (pc + 3) ls rest)) : W p l e R s m args below meth c H locs cells slots Q (F0 m pc ls (.int (nI b) :: .int (nI a) :: rest)) :=
  lv_icmp_gt hexec hb hdg ht (fun h => kt ((nI_ltI h2 h1).mp h)) (fun h => kf (Nat.le_of_not_lt (fun q => h ((nI_ltI h2 h1).mpr q))))
theorem n_icmp_le (hexec : p.tables.exec = Jvm.exec) (hb : c.code = cc) {a b : Nat} {off : Int} {tgt : Nat} (hdg : decode cc pc = .ok (.if_icmp .le off, 3)) (ht : (pc : Int) + off = (tgt : Int)) (h1 : a < 2 ^ 31) (h2 : b < 2 ^ 31)
    (kt : a ≤ b → W p l e R s m args below meth c H locs cells slots Q (F0 m tgt ls rest)) (kf : b < a → W p l e R s m args below meth c H locs cells slots Q (F0 m (pc + 3) ls rest)) : W p l e R s m args below meth c H locs cells slots Q (F0 m pc ls (.int (nI b) :: .int (nI a) :: rest)) :=
  lv_icmp_le hexec hb hdg ht (fun h => kt ((nI_leI h1 h2).mp h)) (fun h => kf (Nat.lt_of_not_le (fun q => h ((nI_leI h1 h2).mpr q))))
theorem n_icmp_eq (hexec : p.tables.exec = Jvm.exec) (hb : c.code = cc) {a b : Nat} {off : Int} {tgt : Nat} (hdg : decode cc pc = .ok (.if_icmp .eq off, 3)) (ht : (pc : Int) + off = (tgt : Int)) (h1 : a < 2 ^ 31) (h2 : b < 2 ^ 31)
    (kt : a = b → W p l e R s m args below meth c H locs cells slots Q (F0 m tgt ls rest)) (kf : ¬ a = b → W p l e R s m args below meth c H locs cells slots Q (F0 m (pc + 3) ls rest)) : W p l e R s m args below meth c H locs cells slots Q (F0 m pc ls (.int (nI b) :: .int (nI a) :: rest)) :=
  lv_icmp_eq hexec hb hdg ht (fun h => kt ((nI_eq h1 h2).mp h)) (fun h => kf (fun q => h ((nI_eq h1 h2).mpr q)))
theorem n_icmp_ne (hexec : p.tables.exec = Jvm.exec) (hb : c.code = cc) {a b : Nat} {off : Int} {tgt : Nat} (hdg : decode cc pc = .ok (.if_icmp .ne off, 3)) (ht : (pc : Int) + off = (tgt : Int)) (h1 : a < 2 ^ 31) (h2 : b < 2 ^ 31)
    (kt : ¬ a = b → W p l e R s m args below meth c H locs cells slots Q (F0 m tgt ls rest)) (kf : a = b → W p l e R s m args below meth c H locs cells slots Q (F0 m (pc + 3) ls rest)) : W p l e R s m args below meth c H locs cells slots Q (F0 m pc ls (.int (nI b) :: .int (nI a) :: rest)) :=
  lv_icmp_ne hexec hb hdg ht (fun h => kt (fun q => h ((nI_eq h1 h2).mpr q))) (fun h => kf ((nI_eq h1 h2).mp h))
theorem n_if_eq (hexec : p.tables.exec = Jvm.exec) (hb : c.code = cc) {a : Nat} {off : Int} {tgt : Nat} (hdg : decode cc pc = .ok (.ifCond .eq off, 3)) (ht : (pc : Int) + off = (tgt : Int)) (h1 : a < 2 ^ 31)
    (kt : a = 0 → W p l e R s m args below meth c H locs cells slots Q (F0 m tgt ls rest)) (kf : ¬ a = 0 → W p l e R s m args below meth c H locs cells slots Q (F0 m (pc + 3) ls rest)) : W p l e R s m args below meth c H locs cells slots Q (F0 m pc ls (.int (nI a) :: rest)) :=
  lv_if_eq hexec hb hdg ht (fun h => kt ((nI_eq h1 (by decide)).mp (h.trans nI_0.symm))) (fun h => kf (fun q => h (by rw [q]; exact nI_0)))
theorem n_if_ne (hexec : p.tables.exec = Jvm.exec) (hb : c.code = cc) {a : Nat} {off : Int} {tgt : Nat} (hdg : decode cc pc = .ok (.ifCond .ne off, 3)) (ht : (pc : Int) + off = (tgt : Int)) (h1 : a < 2 ^ 31)
    (kt : ¬ a = 0 → W p l e R s m args below meth c H locs cells slots Q (F0 m tgt ls rest)) (kf : a = 0 → W p l e R s m args below meth c H locs cells slots Q (F0 m (pc + 3) ls rest)) : W p l e R s m args below meth c H locs cells slots Q (F0 m pc ls (.int (nI a) :: rest)) :=
  lv_if_ne hexec hb hdg ht (fun h => kt (fun q => h (by rw [q]; exact nI_0))) (fun h => kf ((nI_eq h1 (by decide)).mp (h.trans nI_0.symm)))
theorem n_if_gt (hexec : p.tables.exec = Jvm.exec) (hb : c.code = cc) {a : Nat} {off : Int} {tgt : Nat} (hdg : decode cc pc = .ok (.ifCond .gt off, 3)) (ht : (pc : Int) + off = (tgt : Int)) (h1 : a < 2 ^ 31)
    (kt : 0 < a → W p l e R s m args below meth c H locs cells slots Q (F0 m tgt ls rest)) (kf : a = 0 → W p l e R s m args below meth c H locs cells slots Q (F0 m (pc + 3) ls rest)) : W p l e R s m args below meth c H locs cells slots Q (F0 m pc ls (.int (nI a) :: rest)) :=
  lv_if_gt hexec hb hdg ht (fun h => kt ((nI_ltI (by decide) h1).mp (by rw [nI_0]; exact h))) (fun h => kf (Nat.eq_zero_of_not_pos (fun q => h (by rw [← nI_0]; exact nI_lt q h1))))
theorem n_if_le (hexec : p.tables.exec = Jvm.exec) (hb : c.code = cc) {a : Nat} {off : Int} {tgt : Nat} (hdg : decode cc pc = .ok (.ifCond .le off, 3)) (ht : (pc : Int) + off = (tgt : Int)) (h1 : a < 2 ^ 31)
    (kt : a = 0 → W p l e R s m args below meth c H locs cells slots Q (F0 m tgt ls rest)) (kf : 0 < a → W p l e R s m args below meth c H locs cells slots Q (F0 m (pc + 3) ls rest)) : W p l e R s m args below meth c H locs cells slots Q (F0 m pc ls (.int (nI a) :: rest)) :=
  lv_if_le hexec hb hdg ht (fun h => kt (Nat.eq_zero_of_not_pos (fun q => nI_nle q h1 h))) (fun h => kf (Nat.pos_of_ne_zero (fun q => h (by rw [q, nI_0]; exact Int32.le_refl _))))
theorem n_if_lt (hexec : p.tables.exec = Jvm.exec) (hb : c.code = cc) {a : Nat} {off : Int} {tgt : Nat} (hdg : decode cc pc = .ok (.ifCond .lt off, 3)) (ht : (pc : Int) + off = (tgt : Int)) (h1 : a < 2 ^ 31)
    (kf : W p l e R s m args below meth c H locs cells slots Q (F0 m (pc + 3) ls rest)) : W p l e R s m args below meth c H locs cells slots Q (F0 m pc ls (.int (nI a) :: rest)) :=
  lv_if_lt hexec hb hdg ht (fun h => absurd h (nI_pos h1)) (fun _ => kf)
theorem n_if_ge (hexec : p.tables.exec = Jvm.exec) (hb : c.code = cc) {a : Nat} {off : Int} {tgt : Nat} (hdg : decode cc pc = .ok (.ifCond .ge off, 3)) (ht : (pc : Int) + off = (tgt : Int)) (h1 : a < 2 ^ 31)
    (kt : W p l e R s m args below meth c H locs cells slots Q (F0 m tgt ls rest)) : W p l e R s m args below meth c H locs cells slots Q (F0 m pc ls (.int (nI a) :: rest)) :=
  lv_if_ge hexec hb hdg ht (fun _ => kt) (fun h => absurd (nI_pos' h1) h)
theorem b_if_eq (hexec : p.tables.exec = Jvm.exec) (hb : c.code = cc) {a : Bool} {off : Int} {tgt : Nat} (hdg : decode cc pc = .ok (.ifCond .eq off, 3)) (ht : (pc : Int) + off = (tgt : Int))
    (kt : a = false → W p l e R s m args below meth c H locs cells slots Q (F0 m tgt ls rest)) (kf : a = true → W p l e R s m args below meth c H locs cells slots Q (F0 m (pc + 3) ls rest)) : W p l e R s m args below meth c H locs cells slots Q (F0 m pc ls (.int (bI a) :: rest)) :=
  lv_if_eq hexec hb hdg ht (fun h => kt (bI_0.mp h)) (fun h => kf (by cases a; exact absurd rfl h; rfl))
theorem b_if_ne (hexec : p.tables.exec = Jvm.exec) (hb : c.code = cc) {a : Bool} {off : Int} {tgt : Nat} (hdg : decode cc pc = .ok (.ifCond .ne off, 3)) (ht : (pc : Int) + off = (tgt : Int))
    (kt : a = true → W p l e R s m args below meth c H locs cells slots Q (F0 m tgt ls rest)) (kf : a = false → W p l e R s m args below meth c H locs cells slots Q (F0 m (pc + 3) ls rest)) : W p l e R s m args below meth c H locs cells slots Q (F0 m pc ls (.int (bI a) :: rest)) :=
  lv_if_ne hexec hb hdg ht (fun h => kt (by cases a; exact absurd rfl h; rfl)) (fun h => kf (bI_0.mp h))
/-- a call that only reads: the heap is the same behind it -/
theorem k_ro {r : Int32} {a : Array Value} {st0 : List Value} (hr : va_Run p l e R s m args below meth c H locs cells slots 0 0 (F0 m pc ls st0) rest (QcRead r a) (fun _ => False))
    (kk : W p l e R s m args below meth c H locs cells slots Q (F0 m (pc + 3) ls (.int r :: rest))) : W p l e R s m args below meth c H locs cells slots Q (F0 m pc ls st0) := by
  intro T hT X
  obtain ⟨v, st₀, t, T', L, h0, X', hL, e1, e2, ⟨hv, hh⟩, st⟩ := hr T hT X
  cases hv
  obtain ⟨t2, a1, b1⟩ := kk T' (by rw [e1, hh, h0]) (Stand.forget X' (fun q h => (hL q h).elim))
  exact ⟨t2, st t2 a1, b1⟩
end KO
section KA
variable {p : Program} {l : Launch} {e : Env} {R : Room} {s : State} {m : MethodId} {args : Array Value} {below : List Frame} {meth : Method} {c : Code} {H : Heap} {locs : List Loc} {cells slots : Nat} {Q : State → Prop}
variable {cc : ByteArray} {pc : Nat} {ls : Array Slot} {rest : List Value} {D : va_G} {cl : List vw_C} {tys : List (ClassId × FieldType)} {ws : va_W} {A : Nat → Prop} {H0 : Heap} {a : Nat}
theorem k_iald (hexec : p.tables.exec = Jvm.exec) (hb : c.code = cc) (hK : va_K D cl tys s) (hP : va_P D cl ws H) (q0 t0 : Nat) {cA : ClassId} {n : Nat} {f : Nat → Int32} (ha : ws[q0]? = some (a, .inl (cA, n, .inl f))) (ht : tys[t0]? = some (cA, .int)) {i : Nat} (hi : i < n) (hn : n < 2 ^ 31) (hdg : decode cc pc = .ok (.iaload, 1))
    (kk : W p l e R s m args below meth c H locs cells slots Q (F0 m (pc + 1) ls (.int (f i) :: rest))) : W p l e R s m args below meth c H locs cells slots Q (F0 m pc ls (.int (nI i) :: .ref a :: rest)) := by
  refine va_iald hexec hb hK hP q0 t0 ha ht (vp_in_nI hi hn) hdg ?_
  rw [nI_clamp (Nat.lt_trans hi hn)]
  exact kk
theorem k_zald (hexec : p.tables.exec = Jvm.exec) (hb : c.code = cc) (hK : va_K D cl tys s) (hP : va_P D cl ws H) (q0 t0 : Nat) {cA : ClassId} {n : Nat} {f : Nat → Int32} (ha : ws[q0]? = some (a, .inl (cA, n, .inl f))) (ht : tys[t0]? = some (cA, .boolean)) {i : Nat} (hi : i < n) (hn : n < 2 ^ 31) (hdg : decode cc pc = .ok (.baload, 1))
    (kk : W p l e R s m args below meth c H locs cells slots Q (F0 m (pc + 1) ls (.int (f i) :: rest))) : W p l e R s m args below meth c H locs cells slots Q (F0 m pc ls (.int (nI i) :: .ref a :: rest)) := by
  refine va_zald hexec hb hK hP q0 t0 ha ht (vp_in_nI hi hn) hdg ?_
  rw [nI_clamp (Nat.lt_trans hi hn)]
  exact kk
theorem k_iast (hexec : p.tables.exec = Jvm.exec) (hb : c.code = cc) (hK : va_K D cl tys s) (hP : va_P D cl ws H) (hD : va_D A ws) (hS : va_S A H0 H locs) (q0 t0 : Nat) {cA : ClassId} {n : Nat} {f : Nat → Int32} (ha : ws[q0]? = some (a, .inl (cA, n, .inl f))) (ht : tys[t0]? = some (cA, .int)) {i : Nat} {x : Int32} (hi : i < n) (hn : n < 2 ^ 31) (hdg : decode cc pc = .ok (.iastore, 1))
    (kk : ∀ (H1 : Heap) (locs1 : List Loc), va_P D cl (ws.set q0 (a, .inl (cA, n, .inl (va_up f i x)))) H1 → va_D A (ws.set q0 (a, .inl (cA, n, .inl (va_up f i x)))) → va_S A H0 H1 locs1 → W p l e R s m args below meth c H1 locs1 cells slots Q (F0 m (pc + 1) ls rest)) : W p l e R s m args below meth c H locs cells slots Q (F0 m pc ls (.int x :: .int (nI i) :: .ref a :: rest)) := by
  refine va_iast hexec hb hK hP hD hS q0 t0 ha ht (vp_in_nI hi hn) hdg (fun H1 l1 h1 h2 h3 => ?_)
  rw [nI_clamp (Nat.lt_trans hi hn), upd_va] at h1 h2
  exact kk H1 l1 h1 h2 h3
theorem k_iastN (hexec : p.tables.exec = Jvm.exec) (hb : c.code = cc) (hK : va_K D cl tys s) (hP : va_P D cl ws H) (hD : va_D A ws) (hS : va_S A H0 H locs) (q0 t0 : Nat) {cA : ClassId} {n : Nat} {f : Nat → Nat} (ha : ws[q0]? = some (a, .inl (cA, n, .inl (fun j => nI (f j))))) (ht : tys[t0]? = some (cA, .int)) {i x : Nat} (hi : i < n) (hn : n < 2 ^ 31) (hdg : decode cc pc = .ok (.iastore, 1))
    (kk : ∀ (H1 : Heap) (locs1 : List Loc), va_P D cl (ws.set q0 (a, .inl (cA, n, .inl (fun j => nI (va_up f i x j))))) H1 → va_D A (ws.set q0 (a, .inl (cA, n, .inl (fun j => nI (va_up f i x j))))) → va_S A H0 H1 locs1 → W p l e R s m args below meth c H1 locs1 cells slots Q (F0 m (pc + 1) ls rest)) : W p l e R s m args below meth c H locs cells slots Q (F0 m pc ls (.int (nI x) :: .int (nI i) :: .ref a :: rest)) := by
  refine va_iast hexec hb hK hP hD hS q0 t0 ha ht (vp_in_nI hi hn) hdg (fun H1 l1 h1 h2 h3 => ?_)
  rw [nI_clamp (Nat.lt_trans hi hn), upd_nI] at h1 h2
  exact kk H1 l1 h1 h2 h3
theorem k_zast (hexec : p.tables.exec = Jvm.exec) (hb : c.code = cc) (hK : va_K D cl tys s) (hP : va_P D cl ws H) (hD : va_D A ws) (hS : va_S A H0 H locs) (q0 t0 : Nat) {cA : ClassId} {n : Nat} {f : Nat → Bool} (ha : ws[q0]? = some (a, .inl (cA, n, .inl (fun j => bI (f j))))) (ht : tys[t0]? = some (cA, .boolean)) {i : Nat} {x : Bool} (hi : i < n) (hn : n < 2 ^ 31) (hdg : decode cc pc = .ok (.bastore, 1))
    (kk : ∀ (H1 : Heap) (locs1 : List Loc), va_P D cl (ws.set q0 (a, .inl (cA, n, .inl (fun j => bI (va_up f i x j))))) H1 → va_D A (ws.set q0 (a, .inl (cA, n, .inl (fun j => bI (va_up f i x j))))) → va_S A H0 H1 locs1 → W p l e R s m args below meth c H1 locs1 cells slots Q (F0 m (pc + 1) ls rest)) : W p l e R s m args below meth c H locs cells slots Q (F0 m pc ls (.int (bI x) :: .int (nI i) :: .ref a :: rest)) := by
  refine va_zast hexec hb hK hP hD hS q0 t0 ha ht (vp_in_nI hi hn) hdg (fun H1 l1 h1 h2 h3 => ?_)
  rw [nI_clamp (Nat.lt_trans hi hn), nar_bI, upd_bI] at h1 h2
  exact kk H1 l1 h1 h2 h3
end KA
/-- a new array's class is the one that is known already -/
theorem k_cls {D : va_G} {cl : List vw_C} {tys : List (ClassId × FieldType)} {s : State} {cA cB : ClassId} {ty : FieldType} {i j : Nat} (hK : va_K D cl tys s) (h1 : tys[i]? = some (cA, ty)) (h2 : tys[j]? = some (cB, ty)) : cA = cB := by
  have a := (hK.2 i _ h1).2
  have b := (hK.2 j _ h2).2
  cases ty <;> simp only [va_RA] at a b <;> first | (obtain ⟨_, _, _, _, _, a⟩ := a; obtain ⟨_, _, _, _, _, b⟩ := b; exact Option.some.inj (a.symm.trans b)) | exact Option.some.inj (a.symm.trans b)
/-- what a method that only reads wants, and what one that writes wants -/
def kR (G : va_G) (cl : List vw_C) (tys : List (ClassId × FieldType)) (w0 : va_W) (U : State) : Prop := va_P G cl w0 U.heap ∧ va_K G cl tys U
def kW (G : va_G) (cl : List vw_C) (tys : List (ClassId × FieldType)) (w0 : va_W) (sz : Nat) (U : State) : Prop := U.heap.size = sz ∧ va_P G cl w0 U.heap ∧ va_K G cl tys U ∧ va_D (fun _ => True) w0
section KP
variable {G : va_G} {cl : List vw_C} {tys : List (ClassId × FieldType)} {s : State} {H : Heap} {ws w0 : va_W} {A : Nat → Prop}
theorem kR_blind {av : List Value} : FrameBlind (va_Pc av (kR G cl tys w0)) := fun a U g mk q => ⟨q.1, q.2.1, va_K.moved (u := U) (U := U.calling g mk a) (Vm.Alike.refl U.vm) q.2.2⟩
theorem kW_blind {av : List Value} {sz : Nat} : FrameBlind (va_Pc av (kW G cl tys w0 sz)) := fun a U g mk q => ⟨q.1, q.2.1, q.2.2.1, va_K.moved (u := U) (U := U.calling g mk a) (Vm.Alike.refl U.vm) q.2.2.2.1, q.2.2.2.2⟩
theorem kR_S {av : List Value} (hK : va_K G cl tys s) (hP : va_P G cl ws H) (is : List Nat) (hs : is.filterMap (fun i => ws[i]?) = w0) : PreS s H (va_Pc av (kR G cl tys w0)) av :=
  ⟨kR_blind, fun U hU hW => ⟨rfl, by rw [hU]; exact hP.sub is hs, va_K.moved hW.alike hK⟩⟩
theorem kR_V {b q0 ci : Nat} {q : vw_C} {fs As : List Value} (hK : va_K G cl tys s) (hP : va_P G cl ws H) (hc : cl[ci]? = some q) (he : ws[q0]? = some (b, .inr (ci, fs))) (is : List Nat) (hs : is.filterMap (fun i => ws[i]?) = w0) : PreV s H q.1 b (va_Pc (.ref b :: As) (kR G cl tys w0)) As :=
  ⟨kR_blind, va_recv hK hP hc he, fun U hU hW => ⟨rfl, by rw [hU]; exact hP.sub is hs, va_K.moved hW.alike hK⟩⟩
theorem kW_S {av : List Value} (hK : va_K G cl tys s) (hP : va_P G cl ws H) (hD : va_D A ws) (is : List Nat) (hs : is.filterMap (fun i => ws[i]?) = w0) (hn : va_nd is = true) (hm : is.map (fun i => ws[i]?) = w0.map some) : PreS s H (va_Pc av (kW G cl tys w0 H.size)) av :=
  ⟨kW_blind, fun U hU hW => ⟨rfl, by rw [hU], by rw [hU]; exact hP.sub is hs, va_K.moved hW.alike hK, (hD.sub is hn hm).weaken (fun _ _ _ _ => trivial)⟩⟩
theorem kW_V {b q0 ci : Nat} {q : vw_C} {fs As : List Value} (hK : va_K G cl tys s) (hP : va_P G cl ws H) (hD : va_D A ws) (hc : cl[ci]? = some q) (he : ws[q0]? = some (b, .inr (ci, fs))) (is : List Nat) (hs : is.filterMap (fun i => ws[i]?) = w0) (hn : va_nd is = true) (hm : is.map (fun i => ws[i]?) = w0.map some) : PreV s H q.1 b (va_Pc (.ref b :: As) (kW G cl tys w0 H.size)) As :=
  ⟨kW_blind, va_recv hK hP hc he, fun U hU hW => ⟨rfl, by rw [hU], by rw [hU]; exact hP.sub is hs, va_K.moved hW.alike hK, (hD.sub is hn hm).weaken (fun _ _ _ _ => trivial)⟩⟩
end KP
/-- cells put in their places -/
def k_put (ws : va_W) : List Nat → va_W → va_W
  | i :: is, q :: w => k_put (ws.set i q) is w
  | _, _ => ws
theorem k_put_P {D : va_G} {cl : List vw_C} {H1 : Heap} : ∀ (is : List Nat) (w1 ws : va_W), is.length = w1.length → (∀ (k : Nat) (q : Nat × va_E), ws[k]? = some q → k ∉ is → va_at D cl q H1) → va_P D cl w1 H1 → va_P D cl (k_put ws is w1) H1 := by
  intro is
  induction is with
  | nil => intro w1 ws h h1 h2; cases w1 <;> exact fun k q hq => h1 k q hq (by simp)
  | cons i is ih =>
    intro w1 ws h h1 h2
    cases w1 with
    | nil => simp at h
    | cons q0 w1 =>
      refine ih w1 (ws.set i q0) (by simpa using h) ?_ (fun k q hq => h2 (k + 1) q (by simpa using hq))
      intro k q hq hk
      by_cases he : k = i
      · subst he
        rw [List.getElem?_set_self'] at hq
        cases hz : ws[k]? with
        | none => rw [hz] at hq; simp at hq
        | some z =>
          rw [hz] at hq
          simp at hq
          subst hq
          exact h2 0 q0 rfl
      · rw [List.getElem?_set_ne (Ne.symm he)] at hq
        exact h1 k q hq (by simp [he, hk])
theorem k_put_fst : ∀ (is : List Nat) (w1 wc ws : va_W), is.map (fun i => ws[i]?) = wc.map some → w1.map Prod.fst = wc.map Prod.fst → (k_put ws is w1).map Prod.fst = ws.map Prod.fst := by
  suffices h : ∀ (is : List Nat) (w1 ws : va_W), is.map (fun i => ws[i]?.map Prod.fst) = w1.map (fun q => some q.1) → (k_put ws is w1).map Prod.fst = ws.map Prod.fst by
    intro is w1 wc ws h1 h2
    refine h is w1 ws ?_
    have a := congrArg (List.map (Option.map Prod.fst)) h1
    rw [List.map_map, List.map_map] at a
    have b := congrArg (List.map some) h2
    rw [List.map_map, List.map_map] at b
    exact a.trans b.symm
  intro is
  induction is with
  | nil => intro w1 ws _; cases w1 <;> rfl
  | cons i is ih =>
    intro w1 ws h
    cases w1 with
    | nil => simp at h
    | cons q w1 =>
      simp only [List.map_cons, List.cons.injEq] at h
      have hset : (ws.set i q).map Prod.fst = ws.map Prod.fst := by
        rw [List.map_set]
        apply List.ext_getElem?
        intro j
        by_cases hj : i = j
        · subst hj
          rw [List.getElem?_set_self', List.getElem?_map, h.1]
          rfl
        · rw [List.getElem?_set_ne hj]
      have hg : ∀ j : Nat, (ws.set i q)[j]?.map Prod.fst = ws[j]?.map Prod.fst := fun j => by rw [← List.getElem?_map, ← List.getElem?_map, hset]
      show (k_put (ws.set i q) is w1).map Prod.fst = _
      rw [ih w1 (ws.set i q) (by rw [← h.2]; exact List.map_congr_left (fun j _ => hg j)), hset]
theorem k_D_fst {A : Nat → Prop} {ws ws' : va_W} (h : ws'.map Prod.fst = ws.map Prod.fst) (hD : va_D A ws) : va_D A ws' := by
  have hg : ∀ (j : Nat) (q : Nat × va_E), ws'[j]? = some q → ∃ z, ws[j]? = some z ∧ z.1 = q.1 := by
    intro j q hq
    have a : (ws'.map Prod.fst)[j]? = (ws.map Prod.fst)[j]? := by rw [h]
    rw [List.getElem?_map, List.getElem?_map, hq] at a
    cases hz : ws[j]? with
    | none => rw [hz] at a; simp at a
    | some z => rw [hz] at a; simp at a; exact ⟨z, rfl, a.symm⟩
  refine ⟨fun i j p q hp hq e => ?_, fun k q hq => ?_⟩
  · obtain ⟨z1, h1, e1⟩ := hg i p hp
    obtain ⟨z2, h2, e2⟩ := hg j q hq
    exact hD.1 i j z1 z2 h1 h2 (by rw [e1, e2, e])
  · obtain ⟨z, h1, e1⟩ := hg k q hq
    rw [← e1]
    exact hD.2 k z h1
/-- the world behind a call that writes: its cells in their places, the others as they were -/
theorem k_back {D : va_G} {cl : List vw_C} {A : Nat → Prop} {ws wc w1 : va_W} {H H1 : Heap} (hP : va_P D cl ws H) (hD : va_D A ws) (is : List Nat) (hC : is.map (fun i => ws[i]?) = wc.map some) (hw : w1.map Prod.fst = wc.map Prod.fst)
    (hk : ∀ q : Nat, q < H.size → ¬ va_A wc H.size q → H1[q]? = H[q]?) (hP1 : va_P D cl w1 H1) : va_P D cl (k_put ws is w1) H1 ∧ va_D A (k_put ws is w1) := by
  have hlen : is.length = w1.length := by
    have a := congrArg List.length hC
    have b := congrArg List.length hw
    simp only [List.length_map] at a b
    omega
  refine ⟨k_put_P is w1 ws hlen (fun k q hq hn => ?_) hP1, k_D_fst (k_put_fst is w1 wc ws hC hw) hD⟩
  have hlt : q.1 < H.size := (hP k q hq).lt
  refine (hP k q hq).kept (hk q.1 hlt (fun hA => ?_))
  rcases hA with ⟨j, e, hj⟩ | hge
  · have h1 : (is.map (fun i => ws[i]?))[j]? = some (some (q.1, e)) := by rw [hC, List.getElem?_map, hj]; rfl
    rw [List.getElem?_map] at h1
    cases hz : is[j]? with
    | none => rw [hz] at h1; simp at h1
    | some i =>
      rw [hz] at h1
      have h2 : ws[i]? = some (q.1, e) := Option.some.inj h1
      have h3 := hD.1 k i q (q.1, e) hq h2 rfl
      subst h3
      exact hn (List.mem_of_getElem? hz)
  · exact absurd hlt (Nat.not_lt.mpr hge)
section KC
variable {p : Program} {l : Launch} {e : Env} {R : Room} {s : State} {m : MethodId} {args : Array Value} {below : List Frame} {meth : Method} {c : Code} {H : Heap} {locs : List Loc} {cells slots : Nat} {Q : State → Prop}
variable {pc : Nat} {ls : Array Slot} {rest st0 : List Value} {a : Array Value} {A : Nat → Prop} {D : va_G} {cl : List vw_C} {ws wc : va_W}
theorem k_rwi {S : Type} {post : Int32 → S → Prop} {w1 : S → va_W} (hr : va_Run p l e R s m args below meth c H locs cells slots 0 0 (F0 m pc ls st0) rest (va_Qi post (fun u t => va_P D cl (w1 u) t.heap) (va_A wc H.size) a) (va_A wc H.size)) (hP : va_P D cl ws H) (hD : va_D A ws) (hS : va_S A s.heap H locs) (hA : ∀ q, s.heap.size ≤ q → A q) (is : List Nat) (hC : is.map (fun i => ws[i]?) = wc.map some) (hw : ∀ u, (w1 u).map Prod.fst = wc.map Prod.fst)
    (kk : ∀ (r : Int32) (u : S) (H1 : Heap) (locs1 : List Loc), post r u → va_P D cl (k_put ws is (w1 u)) H1 → va_D A (k_put ws is (w1 u)) → va_S A s.heap H1 locs1 → W p l e R s m args below meth c H1 locs1 cells slots Q (F0 m (pc + 3) ls (.int r :: rest))) : W p l e R s m args below meth c H locs cells slots Q (F0 m pc ls st0) := by
  have hF := va_free (wc := wc) hD hS hA is hC
  refine va_calli hr hS (fun q _ h => hF q h) hF (fun r u t H1 locs1 ht hvm hp hB hz hk hS1 => ?_)
  rw [ht] at hB
  obtain ⟨h1, h2⟩ := k_back hP hD is hC (hw u) hk hB
  exact kk r u H1 locs1 hp h1 h2 hS1
theorem k_rwv {S : Type} {post : S → Prop} {w1 : S → va_W} (hr : va_Run p l e R s m args below meth c H locs cells slots 0 0 (F0 m pc ls st0) rest (va_Qv post (fun u t => va_P D cl (w1 u) t.heap) (va_A wc H.size) a) (va_A wc H.size)) (hP : va_P D cl ws H) (hD : va_D A ws) (hS : va_S A s.heap H locs) (hA : ∀ q, s.heap.size ≤ q → A q) (is : List Nat) (hC : is.map (fun i => ws[i]?) = wc.map some) (hw : ∀ u, (w1 u).map Prod.fst = wc.map Prod.fst)
    (kk : ∀ (u : S) (H1 : Heap) (locs1 : List Loc), post u → va_P D cl (k_put ws is (w1 u)) H1 → va_D A (k_put ws is (w1 u)) → va_S A s.heap H1 locs1 → W p l e R s m args below meth c H1 locs1 cells slots Q (F0 m (pc + 3) ls rest)) : W p l e R s m args below meth c H locs cells slots Q (F0 m pc ls st0) := by
  have hF := va_free (wc := wc) hD hS hA is hC
  refine va_callv hr hS (fun q _ h => hF q h) hF (fun u t H1 locs1 ht hvm hp hB hz hk hS1 => ?_)
  rw [ht] at hB
  obtain ⟨h1, h2⟩ := k_back hP hD is hC (hw u) hk hB
  exact kk u H1 locs1 hp h1 h2 hS1
end KC
section KE
variable {p : Program} {l : Launch} {e : Env} {R : Room} {s : State} {m : MethodId} {args : Array Value} {below : List Frame} {meth : Method} {c : Code} {H : Heap} {locs : List Loc} {cells slots : Nat}
variable {cc : ByteArray} {pc : Nat} {ls : Array Slot} {A : Nat → Prop} {D : va_G} {cl : List vw_C} {ws : va_W}
theorem k_ri {v r : Int32} (hx : p.tables.exec = Jvm.exec) (hb : c.code = cc) (hr : meth.sig.returnType = some .int) (hlocks : meth.locks = false) (hv : v = r) (hdg : decode cc pc = .ok (.ireturn, 1)) : W p l e R s m args below meth c s.heap [] cells slots (MQ below (QcRead r) args s cells slots (fun _ => False)) (F0 m pc ls [.int v]) := by
  subst hv
  exact W.iret hx hb hr (fun t ht hW => ⟨rfl, ht⟩) t_nil hdg hlocks
theorem k_rz {v r : Int32} (hx : p.tables.exec = Jvm.exec) (hb : c.code = cc) (hr : meth.sig.returnType = some .boolean) (hlocks : meth.locks = false) (hn : narrow .boolean (.int v) = .int v) (hv : v = r) (hdg : decode cc pc = .ok (.ireturn, 1)) : W p l e R s m args below meth c s.heap [] cells slots (MQ below (QcRead r) args s cells slots (fun _ => False)) (F0 m pc ls [.int v]) := by
  subst hv
  exact W.zret hx hb hr hn (fun t ht hW => ⟨rfl, ht⟩) t_nil hdg hlocks
theorem k_wi {S : Type} {post : Int32 → S → Prop} {w1 : S → va_W} {v : Int32} (hx : p.tables.exec = Jvm.exec) (hb : c.code = cc) (hr : meth.sig.returnType = some .int) (hlocks : meth.locks = false) (hP : va_P D cl ws H) (hS : va_S A s.heap H locs) (u : S) (hw : ws = w1 u) (hp : post v u) (hdg : decode cc pc = .ok (.ireturn, 1)) : W p l e R s m args below meth c H locs cells slots (MQ below (va_Qi post (fun u t => va_P D cl (w1 u) t.heap) A) args s cells slots A) (F0 m pc ls [.int v]) := by
  subst hw
  exact W.iret hx hb hr (fun t ht hW => ⟨⟨v, u, rfl, hp, by show va_P D cl (w1 u) t.heap; rw [ht]; exact hP⟩, hS.F ht⟩) hS.2.2 hdg hlocks
theorem k_wz {S : Type} {post : Int32 → S → Prop} {w1 : S → va_W} {v : Int32} (hx : p.tables.exec = Jvm.exec) (hb : c.code = cc) (hr : meth.sig.returnType = some .boolean) (hlocks : meth.locks = false) (hn : narrow .boolean (.int v) = .int v) (hP : va_P D cl ws H) (hS : va_S A s.heap H locs) (u : S) (hw : ws = w1 u) (hp : post v u) (hdg : decode cc pc = .ok (.ireturn, 1)) : W p l e R s m args below meth c H locs cells slots (MQ below (va_Qi post (fun u t => va_P D cl (w1 u) t.heap) A) args s cells slots A) (F0 m pc ls [.int v]) := by
  subst hw
  exact W.zret hx hb hr hn (fun t ht hW => ⟨⟨v, u, rfl, hp, by show va_P D cl (w1 u) t.heap; rw [ht]; exact hP⟩, hS.F ht⟩) hS.2.2 hdg hlocks
theorem k_wv {S : Type} {post : S → Prop} {w1 : S → va_W} (hx : p.tables.exec = Jvm.exec) (hb : c.code = cc) (hr : meth.sig.returnType = none) (hlocks : meth.locks = false) (hP : va_P D cl ws H) (hS : va_S A s.heap H locs) (u : S) (hw : ws = w1 u) (hp : post u) (hdg : decode cc pc = .ok (.return_, 1)) : W p l e R s m args below meth c H locs cells slots (MQ below (va_Qv post (fun u t => va_P D cl (w1 u) t.heap) A) args s cells slots A) (F0 m pc ls []) := by
  subst hw
  exact W.vret hx hb hr (fun t ht hW => ⟨⟨u, rfl, hp, by show va_P D cl (w1 u) t.heap; rw [ht]; exact hP⟩, hS.F ht⟩) hS.2.2 hdg hlocks
end KE
section KN
variable {p : Program} {l : Launch} {e : Env} {R : Room} {s : State} {m : MethodId} {args : Array Value} {below : List Frame} {meth : Method} {c : Code} {H : Heap} {locs : List Loc} {cells slots : Nat} {Q : State → Prop}
variable {cc : ByteArray} {pc : Nat} {ls : Array Slot} {rest st0 : List Value} {a : Array Value} {A : Nat → Prop} {D : va_G} {cl : List vw_C} {tys : List (ClassId × FieldType)} {ws wc wr : va_W}
/-- a new array of a class that is known already -/
theorem k_newa (hexec : p.tables.exec = Jvm.exec) (hb : c.code = cc) {atype : ArrayType} (harr : (Cond.arrayClass (newarray.typeOf atype)).before args s = true) {ty : FieldType} (hty : newarray.typeOf atype = ty) (hK : va_K D cl tys s) (hP : va_P D cl ws H) (hD : va_D A ws) (hS : va_S A s.heap H locs) (hA : ∀ q, s.heap.size ≤ q → A q) (t0 : Nat) {cI : ClassId} (ht : tys[t0]? = some (cI, ty))
    {n N' : Nat} {a0 : vp_A} (ha : ∀ cA : ClassId, vp_cell cA a0 = arrV cA N' (fun _ => defaultValue ty)) (hn : n < 2 ^ 31) (hN : n = N') (hbytes : N' * componentBytes ty ≤ 536870912) (hcells : cells + 1 ≤ R.cells) (hslots : slots + N' ≤ R.slots) (hdg : decode cc pc = .ok (.newarray atype, 2))
    (kk : ∀ (q : Nat) (H1 : Heap), va_P D cl (ws ++ [(q, .inl (cI, a0))]) H1 → va_D A (ws ++ [(q, .inl (cI, a0))]) → va_S A s.heap H1 locs → W p l e R s m args below meth c H1 locs (cells + 1) (slots + N') Q (F0 m (pc + 2) ls (.ref q :: rest))) : W p l e R s m args below meth c H locs cells slots Q (F0 m pc ls (.int (nI n) :: rest)) := by
  refine va_newa hexec hb harr hty hK hP hD hS hA ha (nI_pos hn) (by rw [nI_clamp hn]; exact hN) hbytes hcells hslots hdg (fun q cA H1 hK1 hP1 hD1 hS1 => ?_)
  have h1 : (tys ++ [(cA, ty)])[t0]? = some (cI, ty) := by
    rw [List.getElem?_append_left (List.getElem?_eq_some_iff.mp ht).1]
    exact ht
  have h2 : (tys ++ [(cA, ty)])[tys.length]? = some (cA, ty) := by simp
  obtain rfl := k_cls hK1 h2 h1
  exact kk q H1 hP1 hD1 hS1
/-- a call that makes cells: they come behind the others -/
theorem k_ctor {S : Type} {post : S → Prop} {w1 : S → va_W} {mc ms : Nat} (hr : va_Run p l e R s m args below meth c H locs cells slots mc ms (F0 m pc ls st0) rest (va_Qv post (fun u t => va_P D cl (w1 u) t.heap ∧ va_D (va_A wc H.size) (w1 u)) (va_A wc H.size) a) (va_A wc H.size)) (hP : va_P D cl ws H) (hD : va_D A ws) (hS : va_S A s.heap H locs) (hA : ∀ q, s.heap.size ≤ q → A q) (isC isR : List Nat) (hC : isC.map (fun i => ws[i]?) = wc.map some) (hR : isR.map (fun i => ws[i]?) = wr.map some) (hn : va_nd isR = true) (hdis : ∀ i ∈ isR, i ∉ isC)
    (kk : ∀ (u : S) (H1 : Heap) (locs1 : List Loc), post u → va_P D cl (wr ++ w1 u) H1 → va_D A (wr ++ w1 u) → va_S A s.heap H1 locs1 → W p l e R s m args below meth c H1 locs1 (cells + mc) (slots + ms) Q (F0 m (pc + 3) ls rest)) : W p l e R s m args below meth c H locs cells slots Q (F0 m pc ls st0) := by
  have hF := va_free (wc := wc) hD hS hA isC hC
  refine va_callv hr hS (fun q _ h => hF q h) hF (fun u t H1 locs1 ht hvm hp hB hz hk hS1 => ?_)
  rw [ht] at hB
  obtain ⟨h1, h2⟩ := va_join hP hD isC isR hC hR hn hdis hk hF hB.1 hB.2
  exact kk u H1 locs1 hp h1 h2 hS1
theorem k_cv {S : Type} {post : S → Prop} {w1 : S → va_W} (hx : p.tables.exec = Jvm.exec) (hb : c.code = cc) (hr : meth.sig.returnType = none) (hlocks : meth.locks = false) (hP : va_P D cl ws H) (hD : va_D A ws) (hS : va_S A s.heap H locs) (u : S) (hw : ws = w1 u) (hp : post u) (hdg : decode cc pc = .ok (.return_, 1)) : W p l e R s m args below meth c H locs cells slots (MQ below (va_Qv post (fun u t => va_P D cl (w1 u) t.heap ∧ va_D A (w1 u)) A) args s cells slots A) (F0 m pc ls []) := by
  subst hw
  exact W.vret hx hb hr (fun t ht hW => ⟨⟨u, rfl, hp, by show va_P D cl (w1 u) t.heap; rw [ht]; exact hP, hD⟩, hS.F ht⟩) hS.2.2 hdg hlocks
end KN
theorem nar_bool (b : Bool) : narrow .boolean (.int (bI b)) = .int (bI b) := by cases b <;> decide +kernel
theorem bI_dt {P : Prop} [Decidable P] (h : P) : nI 1 = bI (decide P) := by rw [decide_eq_true h]; rfl
theorem bI_df {P : Prop} [Decidable P] (h : ¬ P) : nI 0 = bI (decide P) := by rw [decide_eq_false h]; rfl
end
section
/-! THE MODEL: what a desk IS, as a value; and what each deed makes of it (read off DOC.md; the class's own order of deeds) -/
abbrev Kase : Type := Nat × Nat × Int32
/-- channels made, their room, whether closed, the values there; the cases of each routine; the line of those who wait; state, last value, whether sent, case done; meetings, faults -/
abbrev Sg : Type := Nat × (Nat → Nat) × (Nat → Bool) × (Nat → List Int32) × (Nat → List Kase) × List Nat × (Nat → Nat) × (Nat → Int32) × (Nat → Nat) × (Nat → Int32) × Int32 × Int32
abbrev gN (σ : Sg) : Nat := σ.1
abbrev gRoom (σ : Sg) : Nat → Nat := σ.2.1
abbrev gShut (σ : Sg) : Nat → Bool := σ.2.2.1
abbrev gL (σ : Sg) : Nat → List Int32 := σ.2.2.2.1
abbrev gCs (σ : Sg) : Nat → List Kase := σ.2.2.2.2.1
abbrev gLine (σ : Sg) : List Nat := σ.2.2.2.2.2.1
abbrev gSt (σ : Sg) : Nat → Nat := σ.2.2.2.2.2.2.1
abbrev gRc (σ : Sg) : Nat → Int32 := σ.2.2.2.2.2.2.2.1
abbrev gSn (σ : Sg) : Nat → Nat := σ.2.2.2.2.2.2.2.2.1
abbrev gCd (σ : Sg) : Nat → Int32 := σ.2.2.2.2.2.2.2.2.2.1
abbrev gMt (σ : Sg) : Int32 := σ.2.2.2.2.2.2.2.2.2.2.1
abbrev gFt (σ : Sg) : Int32 := σ.2.2.2.2.2.2.2.2.2.2.2
/-- does a case stand at channel c, way w (2: either) -/
def kHit (c w : Nat) (k : Kase) : Bool := decide (k.1 = c) && (decide (w = 2) || decide (k.2.1 = w))
/-- the first case of a list at channel c, way w -/
def fa (l : List Kase) (c w : Nat) : Option Nat := l.findIdx? (kHit c w)
/-- those who wait at channel c, way w, in their order, each with the number of its case -/
def wl (cs : Nat → List Kase) (line : List Nat) (c w : Nat) : List (Nat × Nat) := line.filterMap (fun r => (fa (cs r) c w).map (fun i => (r, i)))
def slI (o : Option (Nat × Nat)) : Int32 := match o with
  | none => -1
  | some q => nI (q.1 * 6 + q.2)
theorem fa_some {l : List Kase} {c w i : Nat} (h : i < l.length) (h1 : kHit c w l[i] = true) (h2 : ∀ j (hj : j < i), kHit c w (l[j]'(Nat.lt_trans hj h)) = false) : fa l c w = some i := by
  unfold fa
  rw [List.findIdx?_eq_some_iff_getElem]
  exact ⟨h, h1, fun j hj => by rw [h2 j hj]; simp⟩
theorem fa_none {l : List Kase} {c w : Nat} (h2 : ∀ j (hj : j < l.length), kHit c w l[j] = false) : fa l c w = none := by
  unfold fa
  rw [List.findIdx?_eq_none_iff]
  intro x hx
  obtain ⟨j, hj, rfl⟩ := List.getElem_of_mem hx
  exact h2 j hj
theorem fa_lt {l : List Kase} {c w i : Nat} (h : fa l c w = some i) : i < l.length := by
  unfold fa at h
  rw [List.findIdx?_eq_some_iff_getElem] at h
  exact h.1
theorem fa_hit {l : List Kase} {c w i : Nat} (h : fa l c w = some i) : ∃ hi : i < l.length, kHit c w l[i] = true := by
  unfold fa at h
  rw [List.findIdx?_eq_some_iff_getElem] at h
  exact ⟨h.1, h.2.1⟩
/-- the class's cells and the model's lists -/
def RelV (held : Nat → Nat) (vals : Nat → Int32) (L : Nat → List Int32) : Prop := ∀ c, c < 40 → held c = (L c).length ∧ (L c).length ≤ 8 ∧ ∀ i (h : i < (L c).length), vals (c * 8 + i) = (L c)[i]
def RelC (cnum cch cway : Nat → Nat) (cval : Nat → Int32) (cs : Nat → List Kase) : Prop := ∀ r, r < 16 → cnum r = (cs r).length ∧ (cs r).length ≤ 6 ∧ ∀ i (h : i < (cs r).length), cch (r * 6 + i) = ((cs r)[i]).1 ∧ cway (r * 6 + i) = ((cs r)[i]).2.1 ∧ cval (r * 6 + i) = ((cs r)[i]).2.2 ∧ ((cs r)[i]).1 < 40 ∧ ((cs r)[i]).2.1 < 2
def RelL (len : Nat) (mem : Nat → Nat) (line : List Nat) : Prop := len = line.length ∧ line.length ≤ 16 ∧ ∀ i (h : i < line.length), mem i = line[i] ∧ line[i] < 16
theorem RelV.put {held : Nat → Nat} {vals : Nat → Int32} {L : Nat → List Int32} (h : RelV held vals L) {c : Nat} (hc : c < 40) (v : Int32) (hl : (L c).length < 8) : RelV (va_up held c (held c + 1)) (va_up vals (c * 8 + held c) v) (va_up L c (L c ++ [v])) := by
  intro d hd
  obtain ⟨e1, e2, e3⟩ := h d hd
  obtain ⟨f1, f2, f3⟩ := h c hc
  by_cases hdc : d = c
  · subst hdc
    simp only [va_up_self]
    refine ⟨by simp [f1], by simp; omega, fun i hi => ?_⟩
    simp at hi
    by_cases hi2 : i < (L d).length
    · rw [va_up_ne _ _ (by omega), List.getElem_append_left hi2]
      exact f3 i hi2
    · have : i = (L d).length := by omega
      subst this
      rw [f1, va_up_self]
      simp
  · simp only [va_up_ne _ _ hdc]
    refine ⟨e1, e2, fun i hi => ?_⟩
    rw [va_up_ne _ _ (by omega)]
    exact e3 i hi
theorem RelV.take {held : Nat → Nat} {vals : Nat → Int32} {L : Nat → List Int32} (h : RelV held vals L) {c : Nat} (hc : c < 40) {v : Int32} {vs : List Int32} (hl : L c = v :: vs) : vals (c * 8) = v ∧ RelV (va_up held c (held c - 1)) (va_cpy vals vals (c * 8 + 1) (c * 8) (held c - 1)) (va_up L c vs) := by
  obtain ⟨f1, f2, f3⟩ := h c hc
  rw [hl] at f1 f2
  simp only [List.length_cons] at f1 f2
  have g : ∀ i (hi : i < vs.length), vals (c * 8 + (i + 1)) = vs[i] := fun i hi => by
    have := f3 (i + 1) (by rw [hl]; simp; omega)
    rw [this]
    simp [hl]
  refine ⟨?_, fun d hd => ?_⟩
  · have := f3 0 (by rw [hl]; simp)
    simpa [hl] using this
  · obtain ⟨e1, e2, e3⟩ := h d hd
    by_cases hdc : d = c
    · subst hdc
      simp only [va_up_self]
      refine ⟨by omega, by omega, fun i hi => ?_⟩
      rw [pk_cpy_in (by omega) (by omega)]
      rw [show d * 8 + 1 + (d * 8 + i - d * 8) = d * 8 + (i + 1) by omega]
      exact g i hi
    · simp only [va_up_ne _ _ hdc]
      refine ⟨e1, e2, fun i hi => ?_⟩
      rw [pk_cpy_out (by omega)]
      exact e3 i hi
theorem RelV.new {held : Nat → Nat} {vals : Nat → Int32} {L : Nat → List Int32} (h : RelV held vals L) (n : Nat) : RelV (va_up held n 0) vals (va_up L n []) := by
  intro d hd
  obtain ⟨e1, e2, e3⟩ := h d hd
  by_cases hdc : d = n
  · subst hdc
    simp only [va_up_self]
    exact ⟨rfl, by simp, fun i hi => absurd hi (by simp)⟩
  · simp only [va_up_ne _ _ hdc]
    exact ⟨e1, e2, e3⟩
theorem RelC.forget {cnum cch cway : Nat → Nat} {cval : Nat → Int32} {cs : Nat → List Kase} (h : RelC cnum cch cway cval cs) (q : Nat) : RelC (va_up cnum q 0) cch cway cval (va_up cs q []) := by
  intro d hd
  by_cases hdc : d = q
  · subst hdc
    simp only [va_up_self]
    exact ⟨rfl, by simp, fun i hi => absurd hi (by simp)⟩
  · simp only [va_up_ne _ _ hdc]
    exact h d hd
theorem RelC.add {cnum cch cway : Nat → Nat} {cval : Nat → Int32} {cs : Nat → List Kase} (h : RelC cnum cch cway cval cs) {q : Nat} (hq : q < 16) {c w : Nat} (v : Int32) (hc : c < 40) (hw : w < 2) (hl : (cs q).length < 6) :
    RelC (va_up cnum q (cnum q + 1)) (va_up cch (q * 6 + cnum q) c) (va_up cway (q * 6 + cnum q) w) (va_up cval (q * 6 + cnum q) v) (va_up cs q (cs q ++ [(c, w, v)])) := by
  intro d hd
  obtain ⟨f1, f2, f3⟩ := h q hq
  obtain ⟨e1, e2, e3⟩ := h d hd
  by_cases hdc : d = q
  · subst hdc
    simp only [va_up_self]
    refine ⟨by simp [f1], by simp; omega, fun i hi => ?_⟩
    simp at hi
    by_cases hi2 : i < (cs d).length
    · have hne : d * 6 + i ≠ d * 6 + cnum d := by omega
      simp only [va_up_ne _ _ hne, List.getElem_append_left hi2]
      exact f3 i hi2
    · have : i = (cs d).length := by omega
      subst this
      simp only [f1, va_up_self]
      simp [hc, hw]
  · simp only [va_up_ne _ _ hdc]
    refine ⟨e1, e2, fun i hi => ?_⟩
    have hne : d * 6 + i ≠ q * 6 + cnum q := by omega
    simp only [va_up_ne _ _ hne]
    exact e3 i hi
theorem RelL.join {len : Nat} {mem : Nat → Nat} {line : List Nat} (h : RelL len mem line) {r : Nat} (hr : r < 16) (hl : line.length < 16) : RelL (len + 1) (va_up mem len r) (line ++ [r]) := by
  obtain ⟨h1, h2, h3⟩ := h
  refine ⟨by simp [h1], by simp; omega, fun i hi => ?_⟩
  simp at hi
  by_cases hi2 : i < line.length
  · rw [va_up_ne _ _ (by omega), List.getElem_append_left hi2]
    exact h3 i hi2
  · have : i = line.length := by omega
    subst this
    rw [h1, va_up_self]
    simp [hr]
def hasB (n : Nat) (y : Int32) : Bool := decide (¬ y < 0 ∧ ¬ nI n ≤ y)
def kAt (cs : Nat → List Kase) (q i : Nat) : Kase := (cs q).getD i (0, 0, 0)
def putL (L : Nat → List Int32) (room : Nat → Nat) (x : Nat) (v : Int32) : Nat → List Int32 := if (L x).length < room x then va_up L x (L x ++ [v]) else L
def popL (L : Nat → List Int32) (x : Nat) : Nat → List Int32 := va_up L x (L x).tail
def addC (cs : Nat → List Kase) (q : Nat) (k : Kase) : Nat → List Kase := if (cs q).length < 6 then va_up cs q (cs q ++ [k]) else cs
def faI (q : Nat) (o : Option Nat) : Int32 := match o with
  | none => -1
  | some i => nI (q * 6 + i)
def outL (line : List Nat) (q : Nat) : List Nat := line.filter (fun z => !decide (z = q))
def fl {α : Type} (N : Nat) (x : α) (f : Nat → α) : Nat → α := fun j => if j < N then x else f j
/-- deeds -/
def m_mr (σ : Sg) (q : Nat) : Sg := (gN σ, gRoom σ, gShut σ, gL σ, va_up (gCs σ) q [], gLine σ, va_up (gSt σ) q 0, gRc σ, gSn σ, gCd σ, gMt σ, gFt σ)
def m_sw (σ : Sg) (q how : Nat) : Sg := (gN σ, gRoom σ, gShut σ, gL σ, gCs σ, gLine σ ++ [q], va_up (gSt σ) q how, gRc σ, gSn σ, gCd σ, gMt σ, gFt σ)
def m_hand (σ : Sg) (q : Nat) (v : Int32) (b : Nat) : Sg := (gN σ, gRoom σ, gShut σ, gL σ, gCs σ, gLine σ, gSt σ, va_up (gRc σ) q v, va_up (gSn σ) q b, gCd σ, gMt σ, gFt σ)
def m_flt (σ : Sg) (q : Nat) : Sg := (gN σ, gRoom σ, gShut σ, gL σ, gCs σ, gLine σ, va_up (gSt σ) q 4, gRc σ, gSn σ, gCd σ, gMt σ, gFt σ + nI 1)
def m_mt (σ : Sg) : Sg := (gN σ, gRoom σ, gShut σ, gL σ, gCs σ, gLine σ, gSt σ, gRc σ, gSn σ, gCd σ, gMt σ + nI 1, gFt σ)
def m_cd (σ : Sg) (q : Nat) (v : Int32) : Sg := (gN σ, gRoom σ, gShut σ, gL σ, gCs σ, gLine σ, gSt σ, gRc σ, gSn σ, va_up (gCd σ) q v, gMt σ, gFt σ)
def m_L (σ : Sg) (L : Nat → List Int32) : Sg := (gN σ, gRoom σ, gShut σ, L, gCs σ, gLine σ, gSt σ, gRc σ, gSn σ, gCd σ, gMt σ, gFt σ)
def m_Cs (σ : Sg) (cs : Nat → List Kase) : Sg := (gN σ, gRoom σ, gShut σ, gL σ, cs, gLine σ, gSt σ, gRc σ, gSn σ, gCd σ, gMt σ, gFt σ)
def cdE (st : Nat → Nat) (cd : Nat → Int32) (q i : Nat) : Nat → Int32 := if st q = 3 then va_up cd q (nI i) else cd
def m_endw (σ : Sg) (q i : Nat) : Sg := (gN σ, gRoom σ, gShut σ, gL σ, va_up (gCs σ) q [], outL (gLine σ) q, va_up (gSt σ) q 0, gRc σ, gSn σ, cdE (gSt σ) (gCd σ) q i, gMt σ, gFt σ)
def m_tsend (σ : Sg) (q x : Nat) (v : Int32) : Sg × Nat :=
  if gShut σ x = true then (m_flt σ q, 3)
  else match (wl (gCs σ) (gLine σ) x 1)[0]? with
    | some z => (m_hand (m_endw (m_mt σ) z.1 z.2) z.1 v 1, 1)
    | none => if (gL σ x).length < gRoom σ x then (m_L σ (putL (gL σ) (gRoom σ) x v), 1) else (σ, 2)
def m_trecv (σ : Sg) (q x : Nat) : Sg × Nat :=
  match gL σ x with
  | v :: _ => (match (wl (gCs σ) (gLine σ) x 0)[0]? with
    | some z => m_L (m_endw (m_mt (m_hand (m_L σ (popL (gL σ) x)) q v 1)) z.1 z.2) (putL (popL (gL σ) x) (gRoom σ) x (kAt (gCs σ) z.1 z.2).2.2)
    | none => m_hand (m_L σ (popL (gL σ) x)) q v 1, 1)
  | [] => match (wl (gCs σ) (gLine σ) x 0)[0]? with
    | some z => (m_hand (m_endw (m_mt σ) z.1 z.2) q (kAt (gCs σ) z.1 z.2).2.2 1, 1)
    | none => if gShut σ x = true then (m_hand σ q (nI 0) 0, 1) else (σ, 2)
def m_wake (σ : Sg) (q i : Nat) : Sg := if (kAt (gCs σ) q i).2.1 = 0 then m_flt (m_endw σ q i) q else m_hand (m_endw σ q i) q (nI 0) 0
def m_poss (shut : Nat → Bool) (room : Nat → Nat) (L : Nat → List Int32) (cs : Nat → List Kase) (line : List Nat) (k : Kase) : Bool :=
  shut k.1 || (if k.2.1 = 0 then decide ((L k.1).length < room k.1) || ((wl cs line k.1 1)[0]?).isSome else decide (0 < (L k.1).length) || ((wl cs line k.1 0)[0]?).isSome)
/-- the possible cases of routine q, by their numbers -/
def m_pl (shut : Nat → Bool) (room : Nat → Nat) (L : Nat → List Int32) (cs : Nat → List Kase) (line : List Nat) (q : Nat) : List Nat := (List.range (cs q).length).filter (fun i => m_poss shut room L cs line (kAt cs q i))
def m_doC (σ : Sg) (q i : Nat) : Sg × Nat :=
  let k := kAt (gCs σ) q i
  let σ1 := m_cd (m_mr σ q) q (nI i)
  let z := if k.2.1 = 0 then m_tsend σ1 q k.1 k.2.2 else m_trecv σ1 q k.1
  (z.1, if z.2 = 3 then 12 else i)
def m_choose (σ : Sg) (q seed : Nat) (d : Bool) : Sg × Nat :=
  let pl := m_pl (gShut σ) (gRoom σ) (gL σ) (gCs σ) (gLine σ) q
  if 0 < pl.length then m_doC σ q (pl.getD (seed % pl.length) 0)
  else if d = true then (m_cd (m_mr σ q) q (nI 10), 10)
  else (m_sw (m_cd σ q (-1)) q 3, 11)
def m_send (σ : Sg) (q x : Nat) (v : Int32) : Sg × Nat :=
  let z := m_tsend (m_mr σ q) q x v
  if z.2 = 2 then (m_sw (m_Cs z.1 (addC (gCs z.1) q (x, 0, v))) q 1, 2) else z
def m_recv (σ : Sg) (q x : Nat) : Sg × Nat :=
  let z := m_trecv (m_mr σ q) q x
  if z.2 = 2 then (m_sw (m_Cs z.1 (addC (gCs z.1) q (x, 1, nI 0))) q 2, 2) else z
def m_clo (x : Nat) : Nat → Sg → Nat → Sg × Nat
  | 0, σ, w => (σ, w)
  | k + 1, σ, w => match (wl (gCs σ) (gLine σ) x 2)[0]? with
    | none => (σ, w)
    | some z => m_clo x k (m_wake σ z.1 z.2) (w + 1)
def m_shut (σ : Sg) (x : Nat) : Sg := (gN σ, gRoom σ, va_up (gShut σ) x true, gL σ, gCs σ, gLine σ, gSt σ, gRc σ, gSn σ, gCd σ, gMt σ, gFt σ)
/-! PURE ROWS for the class's loops -/
theorem tk_split {α : Type} (l : List α) (i : Nat) (hi : i < l.length) : l = l.take i ++ l[i] :: l.drop (i + 1) := by
  rw [List.getElem_cons_drop, List.take_append_drop]
theorem tk_succ {α : Type} (l : List α) (i : Nat) (hi : i < l.length) : l.take (i + 1) = l.take i ++ [l[i]] := by
  rw [List.take_succ, List.getElem?_eq_getElem hi]
  rfl
theorem outL_succ {line : List Nat} {q i : Nat} (hi : i < line.length) : outL (line.take (i + 1)) q = outL (line.take i) q ++ (if line[i] = q then [] else [line[i]]) := by
  unfold outL
  rw [tk_succ line i hi, List.filter_append]
  congr 1
  by_cases h : line[i] = q <;> simp [h]
/-- the line is being pushed together: i read, kept of them stay -/
def LvI (line : List Nat) (q i kept : Nat) (mem : Nat → Nat) : Prop := kept = (outL (line.take i) q).length ∧ (∀ j (h : j < (outL (line.take i) q).length), mem j = (outL (line.take i) q)[j]) ∧ ∀ j (h : j < line.length), i ≤ j → mem j = line[j]
theorem LvI_le {line : List Nat} {q i kept : Nat} {mem : Nat → Nat} (h : LvI line q i kept mem) : kept ≤ i := by
  rw [h.1]
  unfold outL
  exact Nat.le_trans (List.length_filter_le _ _) (by rw [List.length_take]; exact Nat.min_le_left _ _)
theorem LvI_0 {len : Nat} {line : List Nat} {q : Nat} {mem : Nat → Nat} (h : RelL len mem line) : LvI line q 0 0 mem := by
  refine ⟨by simp [outL], fun j hj => absurd hj (by simp [outL]), fun j hj _ => (h.2.2 j hj).1⟩
theorem LvI_drop {line : List Nat} {q i kept : Nat} {mem : Nat → Nat} (h : LvI line q i kept mem) (hi : i < line.length) (hq : mem i = q) : LvI line q (i + 1) kept mem := by
  have e := outL_succ (q := q) hi
  have h0 : line[i] = q := by rw [← h.2.2 i hi (Nat.le_refl i)]; exact hq
  rw [if_pos h0, List.append_nil] at e
  refine ⟨by rw [e]; exact h.1, ?_, fun j hj hle => h.2.2 j hj (by omega)⟩
  rw [e]
  exact h.2.1
theorem LvI_keep {line : List Nat} {q i kept : Nat} {mem : Nat → Nat} (h : LvI line q i kept mem) (hi : i < line.length) (hq : ¬ mem i = q) : LvI line q (i + 1) (kept + 1) (va_up mem kept (mem i)) := by
  have e := outL_succ (q := q) hi
  have e0 : mem i = line[i] := h.2.2 i hi (Nat.le_refl i)
  rw [if_neg (by rw [← e0]; exact hq)] at e
  have hk := h.1
  have hle := LvI_le h
  refine ⟨by rw [e]; simp [hk], ?_, fun j hj hle2 => ?_⟩
  · rw [e]
    intro j hj
    rw [List.length_append] at hj
    simp only [List.length_cons, List.length_nil] at hj
    by_cases hj2 : j < (outL (line.take i) q).length
    · rw [va_up_ne _ _ (by omega), List.getElem_append_left hj2]
      exact h.2.1 j hj2
    · have : j = kept := by omega
      subst this
      rw [va_up_self, List.getElem_append_right (by omega)]
      simp [e0]
  · rw [va_up_ne _ _ (by omega)]
    exact h.2.2 j hj (by omega)
theorem LvI_end {len : Nat} {line : List Nat} {q kept : Nat} {mem mem0 : Nat → Nat} (h0 : RelL len mem0 line) (h : LvI line q line.length kept mem) : RelL kept mem (outL line q) := by
  have e : line.take line.length = line := List.take_length
  unfold LvI at h
  rw [e] at h
  refine ⟨h.1, Nat.le_trans (List.length_filter_le _ _) h0.2.1, fun i hi => ⟨h.2.1 i hi, ?_⟩⟩
  have hm : (outL line q)[i] ∈ line := (List.mem_filter.mp (List.getElem_mem hi)).1
  obtain ⟨j, hj, ej⟩ := List.getElem_of_mem hm
  rw [← ej]
  exact (h0.2.2 j hj).2
/-- those who wait, among the first i of the line -/
theorem wl_split {cs : Nat → List Kase} {line : List Nat} {x w i : Nat} (hi : i < line.length) : wl cs line x w = wl cs (line.take i) x w ++ (((fa (cs line[i]) x w).map (fun k => (line[i], k))).toList ++ wl cs (line.drop (i + 1)) x w) := by
  conv => lhs; rw [tk_split line i hi]
  unfold wl
  rw [List.filterMap_append, List.filterMap_cons]
  cases fa (cs line[i]) x w <;> rfl
theorem wl_succ {cs : Nat → List Kase} {line : List Nat} {x w i : Nat} (hi : i < line.length) : wl cs (line.take (i + 1)) x w = wl cs (line.take i) x w ++ ((fa (cs line[i]) x w).map (fun k => (line[i], k))).toList := by
  rw [tk_succ line i hi]
  unfold wl
  rw [List.filterMap_append, List.filterMap_cons]
  cases fa (cs line[i]) x w <;> simp
/-- the one at place y (an int: there may be none) -/
def wlAt (l : List (Nat × Nat)) (y : Int32) : Option (Nat × Nat) := if y < 0 then none else l[y.toNatClampNeg]?
theorem wlAt_nI {l : List (Nat × Nat)} {j : Nat} (h : j < 2 ^ 31) : wlAt l (nI j) = l[j]? := by
  unfold wlAt
  rw [if_neg (nI_pos h), nI_clamp h]
theorem wlAt_none {l : List (Nat × Nat)} {y : Int32} (hl : l.length < 2 ^ 31) (h : ∀ j, j < l.length → ¬ nI j = y) : wlAt l y = none := by
  unfold wlAt
  by_cases h0 : y < 0
  · rw [if_pos h0]
  · rw [if_neg h0]
    obtain ⟨j, hj, rfl⟩ := nI_of h0
    rw [nI_clamp hj]
    by_cases hj2 : j < l.length
    · exact absurd rfl (h j hj2)
    · exact List.getElem?_eq_none (by omega)
theorem wl_len {cs : Nat → List Kase} {line : List Nat} {x w : Nat} : (wl cs line x w).length ≤ line.length := by
  unfold wl
  exact List.length_filterMap_le _ _
theorem wl_found {cs : Nat → List Kase} {line : List Nat} {x w i k : Nat} (hi : i < line.length) (hk : fa (cs line[i]) x w = some k) : (wl cs line x w)[(wl cs (line.take i) x w).length]? = some (line[i], k) := by
  rw [wl_split hi, hk, List.getElem?_append_right (Nat.le_refl _)]
  simp
theorem wl_mem {cs : Nat → List Kase} {line : List Nat} {x w : Nat} {z : Nat × Nat} (h : z ∈ wl cs line x w) : z.1 ∈ line ∧ fa (cs z.1) x w = some z.2 := by
  unfold wl at h
  rw [List.mem_filterMap] at h
  obtain ⟨a, ha, hb⟩ := h
  rw [Option.map_eq_some_iff] at hb
  obtain ⟨k, hk, rfl⟩ := hb
  exact ⟨ha, hk⟩
theorem pl_split {P : Nat → Bool} {N i : Nat} (hi : i < N) : ∃ t, (List.range N).filter P = (List.range i).filter P ++ ((if P i = true then [i] else []) ++ t) := by
  refine ⟨((List.range N).drop (i + 1)).filter P, ?_⟩
  have h := tk_split (List.range N) i (by simpa using hi)
  conv => lhs; rw [h]
  rw [List.filter_append, List.filter_cons, List.take_range, Nat.min_eq_left (Nat.le_of_lt hi)]
  simp only [List.getElem_range]
  cases P i <;> simp
theorem pl_succ {P : Nat → Bool} {i : Nat} : (List.range (i + 1)).filter P = (List.range i).filter P ++ (if P i = true then [i] else []) := by
  rw [List.range_succ, List.filter_append]
  cases h : P i <;> simp [h]
theorem fl_nI (N x : Nat) (f : Nat → Nat) : (fl N (nI x) fun j => nI (f j)) = fun j => nI (fl N x f j) := by
  funext j
  simp only [fl]
  split <;> rfl
theorem hasB_of {n : Nat} {y : Int32} (hn : n < 2 ^ 31) (h : hasB n y = true) : ∃ q, q < n ∧ y = nI q := by
  have h1 := of_decide_eq_true h
  obtain ⟨j, hj, rfl⟩ := nI_of h1.1
  exact ⟨j, Nat.lt_of_not_le (fun z => h1.2 (nI_le z hj)), rfl⟩
theorem hasB_nI {n q : Nat} (hn : n < 2 ^ 31) (h : q < n) : hasB n (nI q) = true := decide_eq_true ⟨nI_pos (by omega), nI_ge h hn⟩
section MS
variable {σ : Sg} {q x : Nat} {v : Int32} {z : Nat × Nat}
theorem m_tsend_1 (h : gShut σ x = true) : m_tsend σ q x v = (m_flt σ q, 3) := by
  unfold m_tsend; rw [if_pos h]
theorem m_tsend_2 (h : gShut σ x = false) (h2 : (wl (gCs σ) (gLine σ) x 1)[0]? = some z) : m_tsend σ q x v = (m_hand (m_endw (m_mt σ) z.1 z.2) z.1 v 1, 1) := by
  unfold m_tsend; rw [if_neg (by rw [h]; decide), h2]
theorem m_tsend_3 (h : gShut σ x = false) (h2 : (wl (gCs σ) (gLine σ) x 1)[0]? = none) (h3 : (gL σ x).length < gRoom σ x) : m_tsend σ q x v = (m_L σ (putL (gL σ) (gRoom σ) x v), 1) := by
  unfold m_tsend; rw [if_neg (by rw [h]; decide), h2]; exact if_pos h3
theorem m_tsend_4 (h : gShut σ x = false) (h2 : (wl (gCs σ) (gLine σ) x 1)[0]? = none) (h3 : ¬ (gL σ x).length < gRoom σ x) : m_tsend σ q x v = (σ, 2) := by
  unfold m_tsend; rw [if_neg (by rw [h]; decide), h2]; exact if_neg h3
theorem m_trecv_1 {vs : List Int32} (h : gL σ x = v :: vs) (h2 : (wl (gCs σ) (gLine σ) x 0)[0]? = some z) : m_trecv σ q x = (m_L (m_endw (m_mt (m_hand (m_L σ (popL (gL σ) x)) q v 1)) z.1 z.2) (putL (popL (gL σ) x) (gRoom σ) x (kAt (gCs σ) z.1 z.2).2.2), 1) := by
  unfold m_trecv; rw [h, h2]
theorem m_trecv_2 {vs : List Int32} (h : gL σ x = v :: vs) (h2 : (wl (gCs σ) (gLine σ) x 0)[0]? = none) : m_trecv σ q x = (m_hand (m_L σ (popL (gL σ) x)) q v 1, 1) := by
  unfold m_trecv; rw [h, h2]
theorem m_trecv_3 (h : gL σ x = []) (h2 : (wl (gCs σ) (gLine σ) x 0)[0]? = some z) : m_trecv σ q x = (m_hand (m_endw (m_mt σ) z.1 z.2) q (kAt (gCs σ) z.1 z.2).2.2 1, 1) := by
  unfold m_trecv; rw [h, h2]
theorem m_trecv_4 (h : gL σ x = []) (h2 : (wl (gCs σ) (gLine σ) x 0)[0]? = none) (h3 : gShut σ x = true) : m_trecv σ q x = (m_hand σ q (nI 0) 0, 1) := by
  unfold m_trecv; rw [h, h2]; exact if_pos h3
theorem m_trecv_5 (h : gL σ x = []) (h2 : (wl (gCs σ) (gLine σ) x 0)[0]? = none) (h3 : gShut σ x = false) : m_trecv σ q x = (σ, 2) := by
  unfold m_trecv; rw [h, h2]; exact if_neg (by rw [h3]; decide)
end MS
end
section
theorem d_Cs_init_0 : decode b_Cs_init 0 = .ok (.aload_n 0, 1) := by decide +kernel
theorem d_Cs_init_1 : decode b_Cs_init 1 = .ok (.invokespecial 3, 3) := by decide +kernel
theorem d_Cs_init_4 : decode b_Cs_init 4 = .ok (.aload_n 0, 1) := by decide +kernel
theorem d_Cs_init_5 : decode b_Cs_init 5 = .ok (.bipush 16, 2) := by decide +kernel
theorem d_Cs_init_7 : decode b_Cs_init 7 = .ok (.newarray .int, 2) := by decide +kernel
theorem d_Cs_init_9 : decode b_Cs_init 9 = .ok (.putfield 9, 3) := by decide +kernel
theorem d_Cs_init_12 : decode b_Cs_init 12 = .ok (.aload_n 0, 1) := by decide +kernel
theorem d_Cs_init_13 : decode b_Cs_init 13 = .ok (.bipush 96, 2) := by decide +kernel
theorem d_Cs_init_15 : decode b_Cs_init 15 = .ok (.newarray .int, 2) := by decide +kernel
theorem d_Cs_init_17 : decode b_Cs_init 17 = .ok (.putfield 15, 3) := by decide +kernel
theorem d_Cs_init_20 : decode b_Cs_init 20 = .ok (.aload_n 0, 1) := by decide +kernel
theorem d_Cs_init_21 : decode b_Cs_init 21 = .ok (.bipush 96, 2) := by decide +kernel
theorem d_Cs_init_23 : decode b_Cs_init 23 = .ok (.newarray .int, 2) := by decide +kernel
theorem d_Cs_init_25 : decode b_Cs_init 25 = .ok (.putfield 18, 3) := by decide +kernel
theorem d_Cs_init_28 : decode b_Cs_init 28 = .ok (.aload_n 0, 1) := by decide +kernel
theorem d_Cs_init_29 : decode b_Cs_init 29 = .ok (.bipush 96, 2) := by decide +kernel
theorem d_Cs_init_31 : decode b_Cs_init 31 = .ok (.newarray .int, 2) := by decide +kernel
theorem d_Cs_init_33 : decode b_Cs_init 33 = .ok (.putfield 21, 3) := by decide +kernel
theorem d_Cs_init_36 : decode b_Cs_init 36 = .ok (.return_, 1) := by decide +kernel
theorem d_Cs_slotOf_0 : decode b_Cs_slotOf 0 = .ok (.iload_n 0, 1) := by decide +kernel
theorem d_Cs_slotOf_1 : decode b_Cs_slotOf 1 = .ok (.bipush 6, 2) := by decide +kernel
theorem d_Cs_slotOf_3 : decode b_Cs_slotOf 3 = .ok (.imul, 1) := by decide +kernel
theorem d_Cs_slotOf_4 : decode b_Cs_slotOf 4 = .ok (.iload_n 1, 1) := by decide +kernel
theorem d_Cs_slotOf_5 : decode b_Cs_slotOf 5 = .ok (.iadd, 1) := by decide +kernel
theorem d_Cs_slotOf_6 : decode b_Cs_slotOf 6 = .ok (.ireturn, 1) := by decide +kernel
theorem d_Cs_routineAt_0 : decode b_Cs_routineAt 0 = .ok (.iload_n 0, 1) := by decide +kernel
theorem d_Cs_routineAt_1 : decode b_Cs_routineAt 1 = .ok (.bipush 6, 2) := by decide +kernel
theorem d_Cs_routineAt_3 : decode b_Cs_routineAt 3 = .ok (.idiv, 1) := by decide +kernel
theorem d_Cs_routineAt_4 : decode b_Cs_routineAt 4 = .ok (.ireturn, 1) := by decide +kernel
theorem d_Cs_numberAt_0 : decode b_Cs_numberAt 0 = .ok (.iload_n 0, 1) := by decide +kernel
theorem d_Cs_numberAt_1 : decode b_Cs_numberAt 1 = .ok (.bipush 6, 2) := by decide +kernel
theorem d_Cs_numberAt_3 : decode b_Cs_numberAt 3 = .ok (.irem, 1) := by decide +kernel
theorem d_Cs_numberAt_4 : decode b_Cs_numberAt 4 = .ok (.ireturn, 1) := by decide +kernel
theorem d_Cs_forgetAll_0 : decode b_Cs_forgetAll 0 = .ok (.aload_n 0, 1) := by decide +kernel
theorem d_Cs_forgetAll_1 : decode b_Cs_forgetAll 1 = .ok (.getfield 9, 3) := by decide +kernel
theorem d_Cs_forgetAll_4 : decode b_Cs_forgetAll 4 = .ok (.iconst 0, 1) := by decide +kernel
theorem d_Cs_forgetAll_5 : decode b_Cs_forgetAll 5 = .ok (.invokestatic 24, 3) := by decide +kernel
theorem d_Cs_forgetAll_8 : decode b_Cs_forgetAll 8 = .ok (.return_, 1) := by decide +kernel
theorem d_Cs_forget_0 : decode b_Cs_forget 0 = .ok (.aload_n 0, 1) := by decide +kernel
theorem d_Cs_forget_1 : decode b_Cs_forget 1 = .ok (.getfield 9, 3) := by decide +kernel
theorem d_Cs_forget_4 : decode b_Cs_forget 4 = .ok (.iload_n 1, 1) := by decide +kernel
theorem d_Cs_forget_5 : decode b_Cs_forget 5 = .ok (.iconst 0, 1) := by decide +kernel
theorem d_Cs_forget_6 : decode b_Cs_forget 6 = .ok (.iastore, 1) := by decide +kernel
theorem d_Cs_forget_7 : decode b_Cs_forget 7 = .ok (.return_, 1) := by decide +kernel
theorem d_Cs_numberOf_0 : decode b_Cs_numberOf 0 = .ok (.aload_n 0, 1) := by decide +kernel
theorem d_Cs_numberOf_1 : decode b_Cs_numberOf 1 = .ok (.getfield 9, 3) := by decide +kernel
theorem d_Cs_numberOf_4 : decode b_Cs_numberOf 4 = .ok (.iload_n 1, 1) := by decide +kernel
theorem d_Cs_numberOf_5 : decode b_Cs_numberOf 5 = .ok (.iaload, 1) := by decide +kernel
theorem d_Cs_numberOf_6 : decode b_Cs_numberOf 6 = .ok (.ireturn, 1) := by decide +kernel
theorem d_Cs_append_0 : decode b_Cs_append 0 = .ok (.aload_n 0, 1) := by decide +kernel
theorem d_Cs_append_1 : decode b_Cs_append 1 = .ok (.getfield 9, 3) := by decide +kernel
theorem d_Cs_append_4 : decode b_Cs_append 4 = .ok (.iload_n 1, 1) := by decide +kernel
theorem d_Cs_append_5 : decode b_Cs_append 5 = .ok (.iaload, 1) := by decide +kernel
theorem d_Cs_append_6 : decode b_Cs_append 6 = .ok (.bipush 6, 2) := by decide +kernel
theorem d_Cs_append_8 : decode b_Cs_append 8 = .ok (.if_icmp .lt 5, 3) := by decide +kernel
theorem d_Cs_append_11 : decode b_Cs_append 11 = .ok (.iconst (-1), 1) := by decide +kernel
theorem d_Cs_append_12 : decode b_Cs_append 12 = .ok (.ireturn, 1) := by decide +kernel
theorem d_Cs_append_13 : decode b_Cs_append 13 = .ok (.iload_n 1, 1) := by decide +kernel
theorem d_Cs_append_14 : decode b_Cs_append 14 = .ok (.aload_n 0, 1) := by decide +kernel
theorem d_Cs_append_15 : decode b_Cs_append 15 = .ok (.getfield 9, 3) := by decide +kernel
theorem d_Cs_append_18 : decode b_Cs_append 18 = .ok (.iload_n 1, 1) := by decide +kernel
theorem d_Cs_append_19 : decode b_Cs_append 19 = .ok (.iaload, 1) := by decide +kernel
theorem d_Cs_append_20 : decode b_Cs_append 20 = .ok (.invokestatic 30, 3) := by decide +kernel
theorem d_Cs_append_23 : decode b_Cs_append 23 = .ok (.istore 5, 2) := by decide +kernel
theorem d_Cs_append_25 : decode b_Cs_append 25 = .ok (.aload_n 0, 1) := by decide +kernel
theorem d_Cs_append_26 : decode b_Cs_append 26 = .ok (.getfield 15, 3) := by decide +kernel
theorem d_Cs_append_29 : decode b_Cs_append 29 = .ok (.iload 5, 2) := by decide +kernel
theorem d_Cs_append_31 : decode b_Cs_append 31 = .ok (.iload_n 2, 1) := by decide +kernel
theorem d_Cs_append_32 : decode b_Cs_append 32 = .ok (.iastore, 1) := by decide +kernel
theorem d_Cs_append_33 : decode b_Cs_append 33 = .ok (.aload_n 0, 1) := by decide +kernel
theorem d_Cs_append_34 : decode b_Cs_append 34 = .ok (.getfield 18, 3) := by decide +kernel
theorem d_Cs_append_37 : decode b_Cs_append 37 = .ok (.iload 5, 2) := by decide +kernel
theorem d_Cs_append_39 : decode b_Cs_append 39 = .ok (.iload_n 3, 1) := by decide +kernel
theorem d_Cs_append_40 : decode b_Cs_append 40 = .ok (.iastore, 1) := by decide +kernel
theorem d_Cs_append_41 : decode b_Cs_append 41 = .ok (.aload_n 0, 1) := by decide +kernel
theorem d_Cs_append_42 : decode b_Cs_append 42 = .ok (.getfield 21, 3) := by decide +kernel
theorem d_Cs_append_45 : decode b_Cs_append 45 = .ok (.iload 5, 2) := by decide +kernel
theorem d_Cs_append_47 : decode b_Cs_append 47 = .ok (.iload 4, 2) := by decide +kernel
theorem d_Cs_append_49 : decode b_Cs_append 49 = .ok (.iastore, 1) := by decide +kernel
theorem d_Cs_append_50 : decode b_Cs_append 50 = .ok (.aload_n 0, 1) := by decide +kernel
theorem d_Cs_append_51 : decode b_Cs_append 51 = .ok (.getfield 9, 3) := by decide +kernel
theorem d_Cs_append_54 : decode b_Cs_append 54 = .ok (.iload_n 1, 1) := by decide +kernel
theorem d_Cs_append_55 : decode b_Cs_append 55 = .ok (.dup2, 1) := by decide +kernel
theorem d_Cs_append_56 : decode b_Cs_append 56 = .ok (.iaload, 1) := by decide +kernel
theorem d_Cs_append_57 : decode b_Cs_append 57 = .ok (.iconst 1, 1) := by decide +kernel
theorem d_Cs_append_58 : decode b_Cs_append 58 = .ok (.iadd, 1) := by decide +kernel
theorem d_Cs_append_59 : decode b_Cs_append 59 = .ok (.iastore, 1) := by decide +kernel
theorem d_Cs_append_60 : decode b_Cs_append 60 = .ok (.aload_n 0, 1) := by decide +kernel
theorem d_Cs_append_61 : decode b_Cs_append 61 = .ok (.getfield 9, 3) := by decide +kernel
theorem d_Cs_append_64 : decode b_Cs_append 64 = .ok (.iload_n 1, 1) := by decide +kernel
theorem d_Cs_append_65 : decode b_Cs_append 65 = .ok (.iaload, 1) := by decide +kernel
theorem d_Cs_append_66 : decode b_Cs_append 66 = .ok (.ireturn, 1) := by decide +kernel
theorem d_Cs_channelAt_0 : decode b_Cs_channelAt 0 = .ok (.aload_n 0, 1) := by decide +kernel
theorem d_Cs_channelAt_1 : decode b_Cs_channelAt 1 = .ok (.getfield 15, 3) := by decide +kernel
theorem d_Cs_channelAt_4 : decode b_Cs_channelAt 4 = .ok (.iload_n 1, 1) := by decide +kernel
theorem d_Cs_channelAt_5 : decode b_Cs_channelAt 5 = .ok (.iaload, 1) := by decide +kernel
theorem d_Cs_channelAt_6 : decode b_Cs_channelAt 6 = .ok (.ireturn, 1) := by decide +kernel
theorem d_Cs_wayAt_0 : decode b_Cs_wayAt 0 = .ok (.aload_n 0, 1) := by decide +kernel
theorem d_Cs_wayAt_1 : decode b_Cs_wayAt 1 = .ok (.getfield 18, 3) := by decide +kernel
theorem d_Cs_wayAt_4 : decode b_Cs_wayAt 4 = .ok (.iload_n 1, 1) := by decide +kernel
theorem d_Cs_wayAt_5 : decode b_Cs_wayAt 5 = .ok (.iaload, 1) := by decide +kernel
theorem d_Cs_wayAt_6 : decode b_Cs_wayAt 6 = .ok (.ireturn, 1) := by decide +kernel
theorem d_Cs_valueAt_0 : decode b_Cs_valueAt 0 = .ok (.aload_n 0, 1) := by decide +kernel
theorem d_Cs_valueAt_1 : decode b_Cs_valueAt 1 = .ok (.getfield 21, 3) := by decide +kernel
theorem d_Cs_valueAt_4 : decode b_Cs_valueAt 4 = .ok (.iload_n 1, 1) := by decide +kernel
theorem d_Cs_valueAt_5 : decode b_Cs_valueAt 5 = .ok (.iaload, 1) := by decide +kernel
theorem d_Cs_valueAt_6 : decode b_Cs_valueAt 6 = .ok (.ireturn, 1) := by decide +kernel
theorem d_Cs_firstAt_0 : decode b_Cs_firstAt 0 = .ok (.iconst 0, 1) := by decide +kernel
theorem d_Cs_firstAt_1 : decode b_Cs_firstAt 1 = .ok (.istore 4, 2) := by decide +kernel
theorem d_Cs_firstAt_3 : decode b_Cs_firstAt 3 = .ok (.iload 4, 2) := by decide +kernel
theorem d_Cs_firstAt_5 : decode b_Cs_firstAt 5 = .ok (.aload_n 0, 1) := by decide +kernel
theorem d_Cs_firstAt_6 : decode b_Cs_firstAt 6 = .ok (.getfield 9, 3) := by decide +kernel
theorem d_Cs_firstAt_9 : decode b_Cs_firstAt 9 = .ok (.iload_n 1, 1) := by decide +kernel
theorem d_Cs_firstAt_10 : decode b_Cs_firstAt 10 = .ok (.iaload, 1) := by decide +kernel
theorem d_Cs_firstAt_11 : decode b_Cs_firstAt 11 = .ok (.if_icmp .ge 47, 3) := by decide +kernel
theorem d_Cs_firstAt_14 : decode b_Cs_firstAt 14 = .ok (.iload_n 1, 1) := by decide +kernel
theorem d_Cs_firstAt_15 : decode b_Cs_firstAt 15 = .ok (.iload 4, 2) := by decide +kernel
theorem d_Cs_firstAt_17 : decode b_Cs_firstAt 17 = .ok (.invokestatic 30, 3) := by decide +kernel
theorem d_Cs_firstAt_20 : decode b_Cs_firstAt 20 = .ok (.istore 5, 2) := by decide +kernel
theorem d_Cs_firstAt_22 : decode b_Cs_firstAt 22 = .ok (.aload_n 0, 1) := by decide +kernel
theorem d_Cs_firstAt_23 : decode b_Cs_firstAt 23 = .ok (.getfield 15, 3) := by decide +kernel
theorem d_Cs_firstAt_26 : decode b_Cs_firstAt 26 = .ok (.iload 5, 2) := by decide +kernel
theorem d_Cs_firstAt_28 : decode b_Cs_firstAt 28 = .ok (.iaload, 1) := by decide +kernel
theorem d_Cs_firstAt_29 : decode b_Cs_firstAt 29 = .ok (.iload_n 2, 1) := by decide +kernel
theorem d_Cs_firstAt_30 : decode b_Cs_firstAt 30 = .ok (.if_icmp .ne 22, 3) := by decide +kernel
theorem d_Cs_firstAt_33 : decode b_Cs_firstAt 33 = .ok (.iload_n 3, 1) := by decide +kernel
theorem d_Cs_firstAt_34 : decode b_Cs_firstAt 34 = .ok (.iconst 2, 1) := by decide +kernel
theorem d_Cs_firstAt_35 : decode b_Cs_firstAt 35 = .ok (.if_icmp .eq 14, 3) := by decide +kernel
theorem d_Cs_firstAt_38 : decode b_Cs_firstAt 38 = .ok (.aload_n 0, 1) := by decide +kernel
theorem d_Cs_firstAt_39 : decode b_Cs_firstAt 39 = .ok (.getfield 18, 3) := by decide +kernel
theorem d_Cs_firstAt_42 : decode b_Cs_firstAt 42 = .ok (.iload 5, 2) := by decide +kernel
theorem d_Cs_firstAt_44 : decode b_Cs_firstAt 44 = .ok (.iaload, 1) := by decide +kernel
theorem d_Cs_firstAt_45 : decode b_Cs_firstAt 45 = .ok (.iload_n 3, 1) := by decide +kernel
theorem d_Cs_firstAt_46 : decode b_Cs_firstAt 46 = .ok (.if_icmp .ne 6, 3) := by decide +kernel
theorem d_Cs_firstAt_49 : decode b_Cs_firstAt 49 = .ok (.iload 5, 2) := by decide +kernel
theorem d_Cs_firstAt_51 : decode b_Cs_firstAt 51 = .ok (.ireturn, 1) := by decide +kernel
theorem d_Cs_firstAt_52 : decode b_Cs_firstAt 52 = .ok (.iinc 4 1, 3) := by decide +kernel
theorem d_Cs_firstAt_55 : decode b_Cs_firstAt 55 = .ok (.goto (-52), 3) := by decide +kernel
theorem d_Cs_firstAt_58 : decode b_Cs_firstAt 58 = .ok (.iconst (-1), 1) := by decide +kernel
theorem d_Cs_firstAt_59 : decode b_Cs_firstAt 59 = .ok (.ireturn, 1) := by decide +kernel
theorem d_Ch_init_0 : decode b_Ch_init 0 = .ok (.aload_n 0, 1) := by decide +kernel
theorem d_Ch_init_1 : decode b_Ch_init 1 = .ok (.invokespecial 3, 3) := by decide +kernel
theorem d_Ch_init_4 : decode b_Ch_init 4 = .ok (.aload_n 0, 1) := by decide +kernel
theorem d_Ch_init_5 : decode b_Ch_init 5 = .ok (.bipush 40, 2) := by decide +kernel
theorem d_Ch_init_7 : decode b_Ch_init 7 = .ok (.newarray .int, 2) := by decide +kernel
theorem d_Ch_init_9 : decode b_Ch_init 9 = .ok (.putfield 9, 3) := by decide +kernel
theorem d_Ch_init_12 : decode b_Ch_init 12 = .ok (.aload_n 0, 1) := by decide +kernel
theorem d_Ch_init_13 : decode b_Ch_init 13 = .ok (.bipush 40, 2) := by decide +kernel
theorem d_Ch_init_15 : decode b_Ch_init 15 = .ok (.newarray .int, 2) := by decide +kernel
theorem d_Ch_init_17 : decode b_Ch_init 17 = .ok (.putfield 15, 3) := by decide +kernel
theorem d_Ch_init_20 : decode b_Ch_init 20 = .ok (.aload_n 0, 1) := by decide +kernel
theorem d_Ch_init_21 : decode b_Ch_init 21 = .ok (.bipush 40, 2) := by decide +kernel
theorem d_Ch_init_23 : decode b_Ch_init 23 = .ok (.newarray .boolean, 2) := by decide +kernel
theorem d_Ch_init_25 : decode b_Ch_init 25 = .ok (.putfield 18, 3) := by decide +kernel
theorem d_Ch_init_28 : decode b_Ch_init 28 = .ok (.aload_n 0, 1) := by decide +kernel
theorem d_Ch_init_29 : decode b_Ch_init 29 = .ok (.sipush 320, 3) := by decide +kernel
theorem d_Ch_init_32 : decode b_Ch_init 32 = .ok (.newarray .int, 2) := by decide +kernel
theorem d_Ch_init_34 : decode b_Ch_init 34 = .ok (.putfield 22, 3) := by decide +kernel
theorem d_Ch_init_37 : decode b_Ch_init 37 = .ok (.return_, 1) := by decide +kernel
theorem d_Ch_forgetAll_0 : decode b_Ch_forgetAll 0 = .ok (.aload_n 0, 1) := by decide +kernel
theorem d_Ch_forgetAll_1 : decode b_Ch_forgetAll 1 = .ok (.iconst 0, 1) := by decide +kernel
theorem d_Ch_forgetAll_2 : decode b_Ch_forgetAll 2 = .ok (.putfield 25, 3) := by decide +kernel
theorem d_Ch_forgetAll_5 : decode b_Ch_forgetAll 5 = .ok (.return_, 1) := by decide +kernel
theorem d_Ch_number_0 : decode b_Ch_number 0 = .ok (.aload_n 0, 1) := by decide +kernel
theorem d_Ch_number_1 : decode b_Ch_number 1 = .ok (.getfield 25, 3) := by decide +kernel
theorem d_Ch_number_4 : decode b_Ch_number 4 = .ok (.ireturn, 1) := by decide +kernel
theorem d_Ch_has_0 : decode b_Ch_has 0 = .ok (.iload_n 1, 1) := by decide +kernel
theorem d_Ch_has_1 : decode b_Ch_has 1 = .ok (.ifCond .lt 15, 3) := by decide +kernel
theorem d_Ch_has_4 : decode b_Ch_has 4 = .ok (.iload_n 1, 1) := by decide +kernel
theorem d_Ch_has_5 : decode b_Ch_has 5 = .ok (.aload_n 0, 1) := by decide +kernel
theorem d_Ch_has_6 : decode b_Ch_has 6 = .ok (.getfield 25, 3) := by decide +kernel
theorem d_Ch_has_9 : decode b_Ch_has 9 = .ok (.if_icmp .ge 7, 3) := by decide +kernel
theorem d_Ch_has_12 : decode b_Ch_has 12 = .ok (.iconst 1, 1) := by decide +kernel
theorem d_Ch_has_13 : decode b_Ch_has 13 = .ok (.goto 4, 3) := by decide +kernel
theorem d_Ch_has_16 : decode b_Ch_has 16 = .ok (.iconst 0, 1) := by decide +kernel
theorem d_Ch_has_17 : decode b_Ch_has 17 = .ok (.ireturn, 1) := by decide +kernel
theorem d_Ch_open_0 : decode b_Ch_open 0 = .ok (.aload_n 0, 1) := by decide +kernel
theorem d_Ch_open_1 : decode b_Ch_open 1 = .ok (.getfield 25, 3) := by decide +kernel
theorem d_Ch_open_4 : decode b_Ch_open 4 = .ok (.bipush 40, 2) := by decide +kernel
theorem d_Ch_open_6 : decode b_Ch_open 6 = .ok (.if_icmp .lt 5, 3) := by decide +kernel
theorem d_Ch_open_9 : decode b_Ch_open 9 = .ok (.iconst (-1), 1) := by decide +kernel
theorem d_Ch_open_10 : decode b_Ch_open 10 = .ok (.ireturn, 1) := by decide +kernel
theorem d_Ch_open_11 : decode b_Ch_open 11 = .ok (.aload_n 0, 1) := by decide +kernel
theorem d_Ch_open_12 : decode b_Ch_open 12 = .ok (.getfield 25, 3) := by decide +kernel
theorem d_Ch_open_15 : decode b_Ch_open 15 = .ok (.istore_n 2, 1) := by decide +kernel
theorem d_Ch_open_16 : decode b_Ch_open 16 = .ok (.aload_n 0, 1) := by decide +kernel
theorem d_Ch_open_17 : decode b_Ch_open 17 = .ok (.getfield 9, 3) := by decide +kernel
theorem d_Ch_open_20 : decode b_Ch_open 20 = .ok (.iload_n 2, 1) := by decide +kernel
theorem d_Ch_open_21 : decode b_Ch_open 21 = .ok (.iload_n 1, 1) := by decide +kernel
theorem d_Ch_open_22 : decode b_Ch_open 22 = .ok (.iastore, 1) := by decide +kernel
theorem d_Ch_open_23 : decode b_Ch_open 23 = .ok (.aload_n 0, 1) := by decide +kernel
theorem d_Ch_open_24 : decode b_Ch_open 24 = .ok (.getfield 15, 3) := by decide +kernel
theorem d_Ch_open_27 : decode b_Ch_open 27 = .ok (.iload_n 2, 1) := by decide +kernel
theorem d_Ch_open_28 : decode b_Ch_open 28 = .ok (.iconst 0, 1) := by decide +kernel
theorem d_Ch_open_29 : decode b_Ch_open 29 = .ok (.iastore, 1) := by decide +kernel
theorem d_Ch_open_30 : decode b_Ch_open 30 = .ok (.aload_n 0, 1) := by decide +kernel
theorem d_Ch_open_31 : decode b_Ch_open 31 = .ok (.getfield 18, 3) := by decide +kernel
theorem d_Ch_open_34 : decode b_Ch_open 34 = .ok (.iload_n 2, 1) := by decide +kernel
theorem d_Ch_open_35 : decode b_Ch_open 35 = .ok (.iconst 0, 1) := by decide +kernel
theorem d_Ch_open_36 : decode b_Ch_open 36 = .ok (.bastore, 1) := by decide +kernel
theorem d_Ch_open_37 : decode b_Ch_open 37 = .ok (.aload_n 0, 1) := by decide +kernel
theorem d_Ch_open_38 : decode b_Ch_open 38 = .ok (.dup, 1) := by decide +kernel
theorem d_Ch_open_39 : decode b_Ch_open 39 = .ok (.getfield 25, 3) := by decide +kernel
theorem d_Ch_open_42 : decode b_Ch_open 42 = .ok (.iconst 1, 1) := by decide +kernel
theorem d_Ch_open_43 : decode b_Ch_open 43 = .ok (.iadd, 1) := by decide +kernel
theorem d_Ch_open_44 : decode b_Ch_open 44 = .ok (.putfield 25, 3) := by decide +kernel
theorem d_Ch_open_47 : decode b_Ch_open 47 = .ok (.iload_n 2, 1) := by decide +kernel
theorem d_Ch_open_48 : decode b_Ch_open 48 = .ok (.ireturn, 1) := by decide +kernel
theorem d_Ch_shut_0 : decode b_Ch_shut 0 = .ok (.aload_n 0, 1) := by decide +kernel
theorem d_Ch_shut_1 : decode b_Ch_shut 1 = .ok (.getfield 18, 3) := by decide +kernel
theorem d_Ch_shut_4 : decode b_Ch_shut 4 = .ok (.iload_n 1, 1) := by decide +kernel
theorem d_Ch_shut_5 : decode b_Ch_shut 5 = .ok (.iconst 1, 1) := by decide +kernel
theorem d_Ch_shut_6 : decode b_Ch_shut 6 = .ok (.bastore, 1) := by decide +kernel
theorem d_Ch_shut_7 : decode b_Ch_shut 7 = .ok (.return_, 1) := by decide +kernel
theorem d_Ch_isShut_0 : decode b_Ch_isShut 0 = .ok (.aload_n 0, 1) := by decide +kernel
theorem d_Ch_isShut_1 : decode b_Ch_isShut 1 = .ok (.getfield 18, 3) := by decide +kernel
theorem d_Ch_isShut_4 : decode b_Ch_isShut 4 = .ok (.iload_n 1, 1) := by decide +kernel
theorem d_Ch_isShut_5 : decode b_Ch_isShut 5 = .ok (.baload, 1) := by decide +kernel
theorem d_Ch_isShut_6 : decode b_Ch_isShut 6 = .ok (.ireturn, 1) := by decide +kernel
theorem d_Ch_roomOf_0 : decode b_Ch_roomOf 0 = .ok (.aload_n 0, 1) := by decide +kernel
theorem d_Ch_roomOf_1 : decode b_Ch_roomOf 1 = .ok (.getfield 9, 3) := by decide +kernel
theorem d_Ch_roomOf_4 : decode b_Ch_roomOf 4 = .ok (.iload_n 1, 1) := by decide +kernel
theorem d_Ch_roomOf_5 : decode b_Ch_roomOf 5 = .ok (.iaload, 1) := by decide +kernel
theorem d_Ch_roomOf_6 : decode b_Ch_roomOf 6 = .ok (.ireturn, 1) := by decide +kernel
theorem d_Ch_held_0 : decode b_Ch_held 0 = .ok (.aload_n 0, 1) := by decide +kernel
theorem d_Ch_held_1 : decode b_Ch_held 1 = .ok (.getfield 15, 3) := by decide +kernel
theorem d_Ch_held_4 : decode b_Ch_held 4 = .ok (.iload_n 1, 1) := by decide +kernel
theorem d_Ch_held_5 : decode b_Ch_held 5 = .ok (.iaload, 1) := by decide +kernel
theorem d_Ch_held_6 : decode b_Ch_held 6 = .ok (.ireturn, 1) := by decide +kernel
theorem d_Ch_hasSpace_0 : decode b_Ch_hasSpace 0 = .ok (.aload_n 0, 1) := by decide +kernel
theorem d_Ch_hasSpace_1 : decode b_Ch_hasSpace 1 = .ok (.getfield 15, 3) := by decide +kernel
theorem d_Ch_hasSpace_4 : decode b_Ch_hasSpace 4 = .ok (.iload_n 1, 1) := by decide +kernel
theorem d_Ch_hasSpace_5 : decode b_Ch_hasSpace 5 = .ok (.iaload, 1) := by decide +kernel
theorem d_Ch_hasSpace_6 : decode b_Ch_hasSpace 6 = .ok (.aload_n 0, 1) := by decide +kernel
theorem d_Ch_hasSpace_7 : decode b_Ch_hasSpace 7 = .ok (.getfield 9, 3) := by decide +kernel
theorem d_Ch_hasSpace_10 : decode b_Ch_hasSpace 10 = .ok (.iload_n 1, 1) := by decide +kernel
theorem d_Ch_hasSpace_11 : decode b_Ch_hasSpace 11 = .ok (.iaload, 1) := by decide +kernel
theorem d_Ch_hasSpace_12 : decode b_Ch_hasSpace 12 = .ok (.if_icmp .ge 7, 3) := by decide +kernel
theorem d_Ch_hasSpace_15 : decode b_Ch_hasSpace 15 = .ok (.iconst 1, 1) := by decide +kernel
theorem d_Ch_hasSpace_16 : decode b_Ch_hasSpace 16 = .ok (.goto 4, 3) := by decide +kernel
theorem d_Ch_hasSpace_19 : decode b_Ch_hasSpace 19 = .ok (.iconst 0, 1) := by decide +kernel
theorem d_Ch_hasSpace_20 : decode b_Ch_hasSpace 20 = .ok (.ireturn, 1) := by decide +kernel
theorem d_Ch_valueAt_0 : decode b_Ch_valueAt 0 = .ok (.iload_n 2, 1) := by decide +kernel
theorem d_Ch_valueAt_1 : decode b_Ch_valueAt 1 = .ok (.aload_n 0, 1) := by decide +kernel
theorem d_Ch_valueAt_2 : decode b_Ch_valueAt 2 = .ok (.getfield 15, 3) := by decide +kernel
theorem d_Ch_valueAt_5 : decode b_Ch_valueAt 5 = .ok (.iload_n 1, 1) := by decide +kernel
theorem d_Ch_valueAt_6 : decode b_Ch_valueAt 6 = .ok (.iaload, 1) := by decide +kernel
theorem d_Ch_valueAt_7 : decode b_Ch_valueAt 7 = .ok (.if_icmp .ge 17, 3) := by decide +kernel
theorem d_Ch_valueAt_10 : decode b_Ch_valueAt 10 = .ok (.aload_n 0, 1) := by decide +kernel
theorem d_Ch_valueAt_11 : decode b_Ch_valueAt 11 = .ok (.getfield 22, 3) := by decide +kernel
theorem d_Ch_valueAt_14 : decode b_Ch_valueAt 14 = .ok (.iload_n 1, 1) := by decide +kernel
theorem d_Ch_valueAt_15 : decode b_Ch_valueAt 15 = .ok (.bipush 8, 2) := by decide +kernel
theorem d_Ch_valueAt_17 : decode b_Ch_valueAt 17 = .ok (.imul, 1) := by decide +kernel
theorem d_Ch_valueAt_18 : decode b_Ch_valueAt 18 = .ok (.iload_n 2, 1) := by decide +kernel
theorem d_Ch_valueAt_19 : decode b_Ch_valueAt 19 = .ok (.iadd, 1) := by decide +kernel
theorem d_Ch_valueAt_20 : decode b_Ch_valueAt 20 = .ok (.iaload, 1) := by decide +kernel
theorem d_Ch_valueAt_21 : decode b_Ch_valueAt 21 = .ok (.goto 4, 3) := by decide +kernel
theorem d_Ch_valueAt_24 : decode b_Ch_valueAt 24 = .ok (.iconst 0, 1) := by decide +kernel
theorem d_Ch_valueAt_25 : decode b_Ch_valueAt 25 = .ok (.ireturn, 1) := by decide +kernel
theorem d_Ch_put_0 : decode b_Ch_put 0 = .ok (.aload_n 0, 1) := by decide +kernel
theorem d_Ch_put_1 : decode b_Ch_put 1 = .ok (.iload_n 1, 1) := by decide +kernel
theorem d_Ch_put_2 : decode b_Ch_put 2 = .ok (.invokevirtual 29, 3) := by decide +kernel
theorem d_Ch_put_5 : decode b_Ch_put 5 = .ok (.ifCond .ne 5, 3) := by decide +kernel
theorem d_Ch_put_8 : decode b_Ch_put 8 = .ok (.iconst 0, 1) := by decide +kernel
theorem d_Ch_put_9 : decode b_Ch_put 9 = .ok (.ireturn, 1) := by decide +kernel
theorem d_Ch_put_10 : decode b_Ch_put 10 = .ok (.aload_n 0, 1) := by decide +kernel
theorem d_Ch_put_11 : decode b_Ch_put 11 = .ok (.getfield 22, 3) := by decide +kernel
theorem d_Ch_put_14 : decode b_Ch_put 14 = .ok (.iload_n 1, 1) := by decide +kernel
theorem d_Ch_put_15 : decode b_Ch_put 15 = .ok (.bipush 8, 2) := by decide +kernel
theorem d_Ch_put_17 : decode b_Ch_put 17 = .ok (.imul, 1) := by decide +kernel
theorem d_Ch_put_18 : decode b_Ch_put 18 = .ok (.aload_n 0, 1) := by decide +kernel
theorem d_Ch_put_19 : decode b_Ch_put 19 = .ok (.getfield 15, 3) := by decide +kernel
theorem d_Ch_put_22 : decode b_Ch_put 22 = .ok (.iload_n 1, 1) := by decide +kernel
theorem d_Ch_put_23 : decode b_Ch_put 23 = .ok (.iaload, 1) := by decide +kernel
theorem d_Ch_put_24 : decode b_Ch_put 24 = .ok (.iadd, 1) := by decide +kernel
theorem d_Ch_put_25 : decode b_Ch_put 25 = .ok (.iload_n 2, 1) := by decide +kernel
theorem d_Ch_put_26 : decode b_Ch_put 26 = .ok (.iastore, 1) := by decide +kernel
theorem d_Ch_put_27 : decode b_Ch_put 27 = .ok (.aload_n 0, 1) := by decide +kernel
theorem d_Ch_put_28 : decode b_Ch_put 28 = .ok (.getfield 15, 3) := by decide +kernel
theorem d_Ch_put_31 : decode b_Ch_put 31 = .ok (.iload_n 1, 1) := by decide +kernel
theorem d_Ch_put_32 : decode b_Ch_put 32 = .ok (.dup2, 1) := by decide +kernel
theorem d_Ch_put_33 : decode b_Ch_put 33 = .ok (.iaload, 1) := by decide +kernel
theorem d_Ch_put_34 : decode b_Ch_put 34 = .ok (.iconst 1, 1) := by decide +kernel
theorem d_Ch_put_35 : decode b_Ch_put 35 = .ok (.iadd, 1) := by decide +kernel
theorem d_Ch_put_36 : decode b_Ch_put 36 = .ok (.iastore, 1) := by decide +kernel
theorem d_Ch_put_37 : decode b_Ch_put 37 = .ok (.iconst 1, 1) := by decide +kernel
theorem d_Ch_put_38 : decode b_Ch_put 38 = .ok (.ireturn, 1) := by decide +kernel
theorem d_Ch_takeFirst_0 : decode b_Ch_takeFirst 0 = .ok (.aload_n 0, 1) := by decide +kernel
theorem d_Ch_takeFirst_1 : decode b_Ch_takeFirst 1 = .ok (.getfield 15, 3) := by decide +kernel
theorem d_Ch_takeFirst_4 : decode b_Ch_takeFirst 4 = .ok (.iload_n 1, 1) := by decide +kernel
theorem d_Ch_takeFirst_5 : decode b_Ch_takeFirst 5 = .ok (.iaload, 1) := by decide +kernel
theorem d_Ch_takeFirst_6 : decode b_Ch_takeFirst 6 = .ok (.ifCond .gt 5, 3) := by decide +kernel
theorem d_Ch_takeFirst_9 : decode b_Ch_takeFirst 9 = .ok (.iconst 0, 1) := by decide +kernel
theorem d_Ch_takeFirst_10 : decode b_Ch_takeFirst 10 = .ok (.ireturn, 1) := by decide +kernel
theorem d_Ch_takeFirst_11 : decode b_Ch_takeFirst 11 = .ok (.iload_n 1, 1) := by decide +kernel
theorem d_Ch_takeFirst_12 : decode b_Ch_takeFirst 12 = .ok (.bipush 8, 2) := by decide +kernel
theorem d_Ch_takeFirst_14 : decode b_Ch_takeFirst 14 = .ok (.imul, 1) := by decide +kernel
theorem d_Ch_takeFirst_15 : decode b_Ch_takeFirst 15 = .ok (.istore_n 2, 1) := by decide +kernel
theorem d_Ch_takeFirst_16 : decode b_Ch_takeFirst 16 = .ok (.aload_n 0, 1) := by decide +kernel
theorem d_Ch_takeFirst_17 : decode b_Ch_takeFirst 17 = .ok (.getfield 22, 3) := by decide +kernel
theorem d_Ch_takeFirst_20 : decode b_Ch_takeFirst 20 = .ok (.iload_n 2, 1) := by decide +kernel
theorem d_Ch_takeFirst_21 : decode b_Ch_takeFirst 21 = .ok (.iaload, 1) := by decide +kernel
theorem d_Ch_takeFirst_22 : decode b_Ch_takeFirst 22 = .ok (.istore_n 3, 1) := by decide +kernel
theorem d_Ch_takeFirst_23 : decode b_Ch_takeFirst 23 = .ok (.aload_n 0, 1) := by decide +kernel
theorem d_Ch_takeFirst_24 : decode b_Ch_takeFirst 24 = .ok (.getfield 15, 3) := by decide +kernel
theorem d_Ch_takeFirst_27 : decode b_Ch_takeFirst 27 = .ok (.iload_n 1, 1) := by decide +kernel
theorem d_Ch_takeFirst_28 : decode b_Ch_takeFirst 28 = .ok (.dup2, 1) := by decide +kernel
theorem d_Ch_takeFirst_29 : decode b_Ch_takeFirst 29 = .ok (.iaload, 1) := by decide +kernel
theorem d_Ch_takeFirst_30 : decode b_Ch_takeFirst 30 = .ok (.iconst 1, 1) := by decide +kernel
theorem d_Ch_takeFirst_31 : decode b_Ch_takeFirst 31 = .ok (.isub, 1) := by decide +kernel
theorem d_Ch_takeFirst_32 : decode b_Ch_takeFirst 32 = .ok (.iastore, 1) := by decide +kernel
theorem d_Ch_takeFirst_33 : decode b_Ch_takeFirst 33 = .ok (.aload_n 0, 1) := by decide +kernel
theorem d_Ch_takeFirst_34 : decode b_Ch_takeFirst 34 = .ok (.getfield 22, 3) := by decide +kernel
theorem d_Ch_takeFirst_37 : decode b_Ch_takeFirst 37 = .ok (.iload_n 2, 1) := by decide +kernel
theorem d_Ch_takeFirst_38 : decode b_Ch_takeFirst 38 = .ok (.iconst 1, 1) := by decide +kernel
theorem d_Ch_takeFirst_39 : decode b_Ch_takeFirst 39 = .ok (.iadd, 1) := by decide +kernel
theorem d_Ch_takeFirst_40 : decode b_Ch_takeFirst 40 = .ok (.aload_n 0, 1) := by decide +kernel
theorem d_Ch_takeFirst_41 : decode b_Ch_takeFirst 41 = .ok (.getfield 22, 3) := by decide +kernel
theorem d_Ch_takeFirst_44 : decode b_Ch_takeFirst 44 = .ok (.iload_n 2, 1) := by decide +kernel
theorem d_Ch_takeFirst_45 : decode b_Ch_takeFirst 45 = .ok (.aload_n 0, 1) := by decide +kernel
theorem d_Ch_takeFirst_46 : decode b_Ch_takeFirst 46 = .ok (.getfield 15, 3) := by decide +kernel
theorem d_Ch_takeFirst_49 : decode b_Ch_takeFirst 49 = .ok (.iload_n 1, 1) := by decide +kernel
theorem d_Ch_takeFirst_50 : decode b_Ch_takeFirst 50 = .ok (.iaload, 1) := by decide +kernel
theorem d_Ch_takeFirst_51 : decode b_Ch_takeFirst 51 = .ok (.invokestatic 33, 3) := by decide +kernel
theorem d_Ch_takeFirst_54 : decode b_Ch_takeFirst 54 = .ok (.iload_n 3, 1) := by decide +kernel
theorem d_Ch_takeFirst_55 : decode b_Ch_takeFirst 55 = .ok (.ireturn, 1) := by decide +kernel
theorem d_Ln_init_0 : decode b_Ln_init 0 = .ok (.aload_n 0, 1) := by decide +kernel
theorem d_Ln_init_1 : decode b_Ln_init 1 = .ok (.invokespecial 3, 3) := by decide +kernel
theorem d_Ln_init_4 : decode b_Ln_init 4 = .ok (.aload_n 0, 1) := by decide +kernel
theorem d_Ln_init_5 : decode b_Ln_init 5 = .ok (.bipush 16, 2) := by decide +kernel
theorem d_Ln_init_7 : decode b_Ln_init 7 = .ok (.newarray .int, 2) := by decide +kernel
theorem d_Ln_init_9 : decode b_Ln_init 9 = .ok (.putfield 9, 3) := by decide +kernel
theorem d_Ln_init_12 : decode b_Ln_init 12 = .ok (.return_, 1) := by decide +kernel
theorem d_Ln_empty_0 : decode b_Ln_empty 0 = .ok (.aload_n 0, 1) := by decide +kernel
theorem d_Ln_empty_1 : decode b_Ln_empty 1 = .ok (.iconst 0, 1) := by decide +kernel
theorem d_Ln_empty_2 : decode b_Ln_empty 2 = .ok (.putfield 15, 3) := by decide +kernel
theorem d_Ln_empty_5 : decode b_Ln_empty 5 = .ok (.return_, 1) := by decide +kernel
theorem d_Ln_length_0 : decode b_Ln_length 0 = .ok (.aload_n 0, 1) := by decide +kernel
theorem d_Ln_length_1 : decode b_Ln_length 1 = .ok (.getfield 15, 3) := by decide +kernel
theorem d_Ln_length_4 : decode b_Ln_length 4 = .ok (.ireturn, 1) := by decide +kernel
theorem d_Ln_memberAt_0 : decode b_Ln_memberAt 0 = .ok (.aload_n 0, 1) := by decide +kernel
theorem d_Ln_memberAt_1 : decode b_Ln_memberAt 1 = .ok (.getfield 9, 3) := by decide +kernel
theorem d_Ln_memberAt_4 : decode b_Ln_memberAt 4 = .ok (.iload_n 1, 1) := by decide +kernel
theorem d_Ln_memberAt_5 : decode b_Ln_memberAt 5 = .ok (.iaload, 1) := by decide +kernel
theorem d_Ln_memberAt_6 : decode b_Ln_memberAt 6 = .ok (.ireturn, 1) := by decide +kernel
theorem d_Ln_join_0 : decode b_Ln_join 0 = .ok (.aload_n 0, 1) := by decide +kernel
theorem d_Ln_join_1 : decode b_Ln_join 1 = .ok (.getfield 15, 3) := by decide +kernel
theorem d_Ln_join_4 : decode b_Ln_join 4 = .ok (.bipush 16, 2) := by decide +kernel
theorem d_Ln_join_6 : decode b_Ln_join 6 = .ok (.if_icmp .ge 23, 3) := by decide +kernel
theorem d_Ln_join_9 : decode b_Ln_join 9 = .ok (.aload_n 0, 1) := by decide +kernel
theorem d_Ln_join_10 : decode b_Ln_join 10 = .ok (.getfield 9, 3) := by decide +kernel
theorem d_Ln_join_13 : decode b_Ln_join 13 = .ok (.aload_n 0, 1) := by decide +kernel
theorem d_Ln_join_14 : decode b_Ln_join 14 = .ok (.getfield 15, 3) := by decide +kernel
theorem d_Ln_join_17 : decode b_Ln_join 17 = .ok (.iload_n 1, 1) := by decide +kernel
theorem d_Ln_join_18 : decode b_Ln_join 18 = .ok (.iastore, 1) := by decide +kernel
theorem d_Ln_join_19 : decode b_Ln_join 19 = .ok (.aload_n 0, 1) := by decide +kernel
theorem d_Ln_join_20 : decode b_Ln_join 20 = .ok (.dup, 1) := by decide +kernel
theorem d_Ln_join_21 : decode b_Ln_join 21 = .ok (.getfield 15, 3) := by decide +kernel
theorem d_Ln_join_24 : decode b_Ln_join 24 = .ok (.iconst 1, 1) := by decide +kernel
theorem d_Ln_join_25 : decode b_Ln_join 25 = .ok (.iadd, 1) := by decide +kernel
theorem d_Ln_join_26 : decode b_Ln_join 26 = .ok (.putfield 15, 3) := by decide +kernel
theorem d_Ln_join_29 : decode b_Ln_join 29 = .ok (.return_, 1) := by decide +kernel
theorem d_Ln_leave_0 : decode b_Ln_leave 0 = .ok (.iconst 0, 1) := by decide +kernel
theorem d_Ln_leave_1 : decode b_Ln_leave 1 = .ok (.istore_n 2, 1) := by decide +kernel
theorem d_Ln_leave_2 : decode b_Ln_leave 2 = .ok (.iconst 0, 1) := by decide +kernel
theorem d_Ln_leave_3 : decode b_Ln_leave 3 = .ok (.istore_n 3, 1) := by decide +kernel
theorem d_Ln_leave_4 : decode b_Ln_leave 4 = .ok (.iload_n 3, 1) := by decide +kernel
theorem d_Ln_leave_5 : decode b_Ln_leave 5 = .ok (.aload_n 0, 1) := by decide +kernel
theorem d_Ln_leave_6 : decode b_Ln_leave 6 = .ok (.getfield 15, 3) := by decide +kernel
theorem d_Ln_leave_9 : decode b_Ln_leave 9 = .ok (.if_icmp .ge 34, 3) := by decide +kernel
theorem d_Ln_leave_12 : decode b_Ln_leave 12 = .ok (.aload_n 0, 1) := by decide +kernel
theorem d_Ln_leave_13 : decode b_Ln_leave 13 = .ok (.getfield 9, 3) := by decide +kernel
theorem d_Ln_leave_16 : decode b_Ln_leave 16 = .ok (.iload_n 3, 1) := by decide +kernel
theorem d_Ln_leave_17 : decode b_Ln_leave 17 = .ok (.iaload, 1) := by decide +kernel
theorem d_Ln_leave_18 : decode b_Ln_leave 18 = .ok (.iload_n 1, 1) := by decide +kernel
theorem d_Ln_leave_19 : decode b_Ln_leave 19 = .ok (.if_icmp .eq 18, 3) := by decide +kernel
theorem d_Ln_leave_22 : decode b_Ln_leave 22 = .ok (.aload_n 0, 1) := by decide +kernel
theorem d_Ln_leave_23 : decode b_Ln_leave 23 = .ok (.getfield 9, 3) := by decide +kernel
theorem d_Ln_leave_26 : decode b_Ln_leave 26 = .ok (.iload_n 2, 1) := by decide +kernel
theorem d_Ln_leave_27 : decode b_Ln_leave 27 = .ok (.aload_n 0, 1) := by decide +kernel
theorem d_Ln_leave_28 : decode b_Ln_leave 28 = .ok (.getfield 9, 3) := by decide +kernel
theorem d_Ln_leave_31 : decode b_Ln_leave 31 = .ok (.iload_n 3, 1) := by decide +kernel
theorem d_Ln_leave_32 : decode b_Ln_leave 32 = .ok (.iaload, 1) := by decide +kernel
theorem d_Ln_leave_33 : decode b_Ln_leave 33 = .ok (.iastore, 1) := by decide +kernel
theorem d_Ln_leave_34 : decode b_Ln_leave 34 = .ok (.iinc 2 1, 3) := by decide +kernel
theorem d_Ln_leave_37 : decode b_Ln_leave 37 = .ok (.iinc 3 1, 3) := by decide +kernel
theorem d_Ln_leave_40 : decode b_Ln_leave 40 = .ok (.goto (-36), 3) := by decide +kernel
theorem d_Ln_leave_43 : decode b_Ln_leave 43 = .ok (.aload_n 0, 1) := by decide +kernel
theorem d_Ln_leave_44 : decode b_Ln_leave 44 = .ok (.iload_n 2, 1) := by decide +kernel
theorem d_Ln_leave_45 : decode b_Ln_leave 45 = .ok (.putfield 15, 3) := by decide +kernel
theorem d_Ln_leave_48 : decode b_Ln_leave 48 = .ok (.return_, 1) := by decide +kernel
theorem d_Ar_fill_0 : decode b_Ar_fill 0 = .ok (.iconst 0, 1) := by decide +kernel
theorem d_Ar_fill_1 : decode b_Ar_fill 1 = .ok (.istore_n 2, 1) := by decide +kernel
theorem d_Ar_fill_2 : decode b_Ar_fill 2 = .ok (.aload_n 0, 1) := by decide +kernel
theorem d_Ar_fill_3 : decode b_Ar_fill 3 = .ok (.arraylength, 1) := by decide +kernel
theorem d_Ar_fill_4 : decode b_Ar_fill 4 = .ok (.istore_n 3, 1) := by decide +kernel
theorem d_Ar_fill_5 : decode b_Ar_fill 5 = .ok (.iload_n 2, 1) := by decide +kernel
theorem d_Ar_fill_6 : decode b_Ar_fill 6 = .ok (.iload_n 3, 1) := by decide +kernel
theorem d_Ar_fill_7 : decode b_Ar_fill 7 = .ok (.if_icmp .ge 13, 3) := by decide +kernel
theorem d_Ar_fill_10 : decode b_Ar_fill 10 = .ok (.aload_n 0, 1) := by decide +kernel
theorem d_Ar_fill_11 : decode b_Ar_fill 11 = .ok (.iload_n 2, 1) := by decide +kernel
theorem d_Ar_fill_12 : decode b_Ar_fill 12 = .ok (.iload_n 1, 1) := by decide +kernel
theorem d_Ar_fill_13 : decode b_Ar_fill 13 = .ok (.iastore, 1) := by decide +kernel
theorem d_Ar_fill_14 : decode b_Ar_fill 14 = .ok (.iinc 2 1, 3) := by decide +kernel
theorem d_Ar_fill_17 : decode b_Ar_fill 17 = .ok (.goto (-12), 3) := by decide +kernel
theorem d_Ar_fill_20 : decode b_Ar_fill 20 = .ok (.return_, 1) := by decide +kernel
end
section
theorem d_Dk_init_0 : decode b_Dk_init 0 = .ok (.aload_n 0, 1) := by decide +kernel
theorem d_Dk_init_1 : decode b_Dk_init 1 = .ok (.invokespecial 1, 3) := by decide +kernel
theorem d_Dk_init_4 : decode b_Dk_init 4 = .ok (.aload_n 0, 1) := by decide +kernel
theorem d_Dk_init_5 : decode b_Dk_init 5 = .ok (.new 7, 3) := by decide +kernel
theorem d_Dk_init_8 : decode b_Dk_init 8 = .ok (.dup, 1) := by decide +kernel
theorem d_Dk_init_9 : decode b_Dk_init 9 = .ok (.invokespecial 9, 3) := by decide +kernel
theorem d_Dk_init_12 : decode b_Dk_init 12 = .ok (.putfield 10, 3) := by decide +kernel
theorem d_Dk_init_15 : decode b_Dk_init 15 = .ok (.aload_n 0, 1) := by decide +kernel
theorem d_Dk_init_16 : decode b_Dk_init 16 = .ok (.new 16, 3) := by decide +kernel
theorem d_Dk_init_19 : decode b_Dk_init 19 = .ok (.dup, 1) := by decide +kernel
theorem d_Dk_init_20 : decode b_Dk_init 20 = .ok (.invokespecial 18, 3) := by decide +kernel
theorem d_Dk_init_23 : decode b_Dk_init 23 = .ok (.putfield 19, 3) := by decide +kernel
theorem d_Dk_init_26 : decode b_Dk_init 26 = .ok (.aload_n 0, 1) := by decide +kernel
theorem d_Dk_init_27 : decode b_Dk_init 27 = .ok (.new 23, 3) := by decide +kernel
theorem d_Dk_init_30 : decode b_Dk_init 30 = .ok (.dup, 1) := by decide +kernel
theorem d_Dk_init_31 : decode b_Dk_init 31 = .ok (.invokespecial 25, 3) := by decide +kernel
theorem d_Dk_init_34 : decode b_Dk_init 34 = .ok (.putfield 26, 3) := by decide +kernel
theorem d_Dk_init_37 : decode b_Dk_init 37 = .ok (.aload_n 0, 1) := by decide +kernel
theorem d_Dk_init_38 : decode b_Dk_init 38 = .ok (.bipush 16, 2) := by decide +kernel
theorem d_Dk_init_40 : decode b_Dk_init 40 = .ok (.newarray .int, 2) := by decide +kernel
theorem d_Dk_init_42 : decode b_Dk_init 42 = .ok (.putfield 30, 3) := by decide +kernel
theorem d_Dk_init_45 : decode b_Dk_init 45 = .ok (.aload_n 0, 1) := by decide +kernel
theorem d_Dk_init_46 : decode b_Dk_init 46 = .ok (.bipush 16, 2) := by decide +kernel
theorem d_Dk_init_48 : decode b_Dk_init 48 = .ok (.newarray .int, 2) := by decide +kernel
theorem d_Dk_init_50 : decode b_Dk_init 50 = .ok (.putfield 34, 3) := by decide +kernel
theorem d_Dk_init_53 : decode b_Dk_init 53 = .ok (.aload_n 0, 1) := by decide +kernel
theorem d_Dk_init_54 : decode b_Dk_init 54 = .ok (.bipush 16, 2) := by decide +kernel
theorem d_Dk_init_56 : decode b_Dk_init 56 = .ok (.newarray .int, 2) := by decide +kernel
theorem d_Dk_init_58 : decode b_Dk_init 58 = .ok (.putfield 37, 3) := by decide +kernel
theorem d_Dk_init_61 : decode b_Dk_init 61 = .ok (.aload_n 0, 1) := by decide +kernel
theorem d_Dk_init_62 : decode b_Dk_init 62 = .ok (.bipush 16, 2) := by decide +kernel
theorem d_Dk_init_64 : decode b_Dk_init 64 = .ok (.newarray .int, 2) := by decide +kernel
theorem d_Dk_init_66 : decode b_Dk_init 66 = .ok (.putfield 40, 3) := by decide +kernel
theorem d_Dk_init_69 : decode b_Dk_init 69 = .ok (.aload_n 0, 1) := by decide +kernel
theorem d_Dk_init_70 : decode b_Dk_init 70 = .ok (.invokevirtual 43, 3) := by decide +kernel
theorem d_Dk_init_73 : decode b_Dk_init 73 = .ok (.return_, 1) := by decide +kernel
theorem d_Dk_make_0 : decode b_Dk_make 0 = .ok (.iload_n 1, 1) := by decide +kernel
theorem d_Dk_make_1 : decode b_Dk_make 1 = .ok (.ifCond .lt 9, 3) := by decide +kernel
theorem d_Dk_make_4 : decode b_Dk_make 4 = .ok (.iload_n 1, 1) := by decide +kernel
theorem d_Dk_make_5 : decode b_Dk_make 5 = .ok (.bipush 8, 2) := by decide +kernel
theorem d_Dk_make_7 : decode b_Dk_make 7 = .ok (.if_icmp .le 5, 3) := by decide +kernel
theorem d_Dk_make_10 : decode b_Dk_make 10 = .ok (.iconst (-1), 1) := by decide +kernel
theorem d_Dk_make_11 : decode b_Dk_make 11 = .ok (.ireturn, 1) := by decide +kernel
theorem d_Dk_make_12 : decode b_Dk_make 12 = .ok (.aload_n 0, 1) := by decide +kernel
theorem d_Dk_make_13 : decode b_Dk_make 13 = .ok (.getfield 10, 3) := by decide +kernel
theorem d_Dk_make_16 : decode b_Dk_make 16 = .ok (.iload_n 1, 1) := by decide +kernel
theorem d_Dk_make_17 : decode b_Dk_make 17 = .ok (.invokevirtual 46, 3) := by decide +kernel
theorem d_Dk_make_20 : decode b_Dk_make 20 = .ok (.ireturn, 1) := by decide +kernel
theorem d_Dk_send_0 : decode b_Dk_send 0 = .ok (.aload_n 0, 1) := by decide +kernel
theorem d_Dk_send_1 : decode b_Dk_send 1 = .ok (.iload_n 1, 1) := by decide +kernel
theorem d_Dk_send_2 : decode b_Dk_send 2 = .ok (.invokevirtual 50, 3) := by decide +kernel
theorem d_Dk_send_5 : decode b_Dk_send 5 = .ok (.ifCond .eq 14, 3) := by decide +kernel
theorem d_Dk_send_8 : decode b_Dk_send 8 = .ok (.aload_n 0, 1) := by decide +kernel
theorem d_Dk_send_9 : decode b_Dk_send 9 = .ok (.getfield 10, 3) := by decide +kernel
theorem d_Dk_send_12 : decode b_Dk_send 12 = .ok (.iload_n 2, 1) := by decide +kernel
theorem d_Dk_send_13 : decode b_Dk_send 13 = .ok (.invokevirtual 54, 3) := by decide +kernel
theorem d_Dk_send_16 : decode b_Dk_send 16 = .ok (.ifCond .ne 5, 3) := by decide +kernel
theorem d_Dk_send_19 : decode b_Dk_send 19 = .ok (.iconst (-1), 1) := by decide +kernel
theorem d_Dk_send_20 : decode b_Dk_send 20 = .ok (.ireturn, 1) := by decide +kernel
theorem d_Dk_send_21 : decode b_Dk_send 21 = .ok (.aload_n 0, 1) := by decide +kernel
theorem d_Dk_send_22 : decode b_Dk_send 22 = .ok (.iload_n 1, 1) := by decide +kernel
theorem d_Dk_send_23 : decode b_Dk_send 23 = .ok (.invokevirtual 57, 3) := by decide +kernel
theorem d_Dk_send_26 : decode b_Dk_send 26 = .ok (.aload_n 0, 1) := by decide +kernel
theorem d_Dk_send_27 : decode b_Dk_send 27 = .ok (.iload_n 1, 1) := by decide +kernel
theorem d_Dk_send_28 : decode b_Dk_send 28 = .ok (.iload_n 2, 1) := by decide +kernel
theorem d_Dk_send_29 : decode b_Dk_send 29 = .ok (.iload_n 3, 1) := by decide +kernel
theorem d_Dk_send_30 : decode b_Dk_send 30 = .ok (.invokevirtual 61, 3) := by decide +kernel
theorem d_Dk_send_33 : decode b_Dk_send 33 = .ok (.istore 4, 2) := by decide +kernel
theorem d_Dk_send_35 : decode b_Dk_send 35 = .ok (.iload 4, 2) := by decide +kernel
theorem d_Dk_send_37 : decode b_Dk_send 37 = .ok (.iconst 2, 1) := by decide +kernel
theorem d_Dk_send_38 : decode b_Dk_send 38 = .ok (.if_icmp .ne 21, 3) := by decide +kernel
theorem d_Dk_send_41 : decode b_Dk_send 41 = .ok (.aload_n 0, 1) := by decide +kernel
theorem d_Dk_send_42 : decode b_Dk_send 42 = .ok (.getfield 19, 3) := by decide +kernel
theorem d_Dk_send_45 : decode b_Dk_send 45 = .ok (.iload_n 1, 1) := by decide +kernel
theorem d_Dk_send_46 : decode b_Dk_send 46 = .ok (.iload_n 2, 1) := by decide +kernel
theorem d_Dk_send_47 : decode b_Dk_send 47 = .ok (.iconst 0, 1) := by decide +kernel
theorem d_Dk_send_48 : decode b_Dk_send 48 = .ok (.iload_n 3, 1) := by decide +kernel
theorem d_Dk_send_49 : decode b_Dk_send 49 = .ok (.invokevirtual 65, 3) := by decide +kernel
theorem d_Dk_send_52 : decode b_Dk_send 52 = .ok (.pop, 1) := by decide +kernel
theorem d_Dk_send_53 : decode b_Dk_send 53 = .ok (.aload_n 0, 1) := by decide +kernel
theorem d_Dk_send_54 : decode b_Dk_send 54 = .ok (.iload_n 1, 1) := by decide +kernel
theorem d_Dk_send_55 : decode b_Dk_send 55 = .ok (.iconst 1, 1) := by decide +kernel
theorem d_Dk_send_56 : decode b_Dk_send 56 = .ok (.invokevirtual 69, 3) := by decide +kernel
theorem d_Dk_send_59 : decode b_Dk_send 59 = .ok (.iload 4, 2) := by decide +kernel
theorem d_Dk_send_61 : decode b_Dk_send 61 = .ok (.ireturn, 1) := by decide +kernel
theorem d_Dk_receive_0 : decode b_Dk_receive 0 = .ok (.aload_n 0, 1) := by decide +kernel
theorem d_Dk_receive_1 : decode b_Dk_receive 1 = .ok (.iload_n 1, 1) := by decide +kernel
theorem d_Dk_receive_2 : decode b_Dk_receive 2 = .ok (.invokevirtual 50, 3) := by decide +kernel
theorem d_Dk_receive_5 : decode b_Dk_receive 5 = .ok (.ifCond .eq 14, 3) := by decide +kernel
theorem d_Dk_receive_8 : decode b_Dk_receive 8 = .ok (.aload_n 0, 1) := by decide +kernel
theorem d_Dk_receive_9 : decode b_Dk_receive 9 = .ok (.getfield 10, 3) := by decide +kernel
theorem d_Dk_receive_12 : decode b_Dk_receive 12 = .ok (.iload_n 2, 1) := by decide +kernel
theorem d_Dk_receive_13 : decode b_Dk_receive 13 = .ok (.invokevirtual 54, 3) := by decide +kernel
theorem d_Dk_receive_16 : decode b_Dk_receive 16 = .ok (.ifCond .ne 5, 3) := by decide +kernel
theorem d_Dk_receive_19 : decode b_Dk_receive 19 = .ok (.iconst (-1), 1) := by decide +kernel
theorem d_Dk_receive_20 : decode b_Dk_receive 20 = .ok (.ireturn, 1) := by decide +kernel
theorem d_Dk_receive_21 : decode b_Dk_receive 21 = .ok (.aload_n 0, 1) := by decide +kernel
theorem d_Dk_receive_22 : decode b_Dk_receive 22 = .ok (.iload_n 1, 1) := by decide +kernel
theorem d_Dk_receive_23 : decode b_Dk_receive 23 = .ok (.invokevirtual 57, 3) := by decide +kernel
theorem d_Dk_receive_26 : decode b_Dk_receive 26 = .ok (.aload_n 0, 1) := by decide +kernel
theorem d_Dk_receive_27 : decode b_Dk_receive 27 = .ok (.iload_n 1, 1) := by decide +kernel
theorem d_Dk_receive_28 : decode b_Dk_receive 28 = .ok (.iload_n 2, 1) := by decide +kernel
theorem d_Dk_receive_29 : decode b_Dk_receive 29 = .ok (.invokevirtual 73, 3) := by decide +kernel
theorem d_Dk_receive_32 : decode b_Dk_receive 32 = .ok (.istore_n 3, 1) := by decide +kernel
theorem d_Dk_receive_33 : decode b_Dk_receive 33 = .ok (.iload_n 3, 1) := by decide +kernel
theorem d_Dk_receive_34 : decode b_Dk_receive 34 = .ok (.iconst 2, 1) := by decide +kernel
theorem d_Dk_receive_35 : decode b_Dk_receive 35 = .ok (.if_icmp .ne 21, 3) := by decide +kernel
theorem d_Dk_receive_38 : decode b_Dk_receive 38 = .ok (.aload_n 0, 1) := by decide +kernel
theorem d_Dk_receive_39 : decode b_Dk_receive 39 = .ok (.getfield 19, 3) := by decide +kernel
theorem d_Dk_receive_42 : decode b_Dk_receive 42 = .ok (.iload_n 1, 1) := by decide +kernel
theorem d_Dk_receive_43 : decode b_Dk_receive 43 = .ok (.iload_n 2, 1) := by decide +kernel
theorem d_Dk_receive_44 : decode b_Dk_receive 44 = .ok (.iconst 1, 1) := by decide +kernel
theorem d_Dk_receive_45 : decode b_Dk_receive 45 = .ok (.iconst 0, 1) := by decide +kernel
theorem d_Dk_receive_46 : decode b_Dk_receive 46 = .ok (.invokevirtual 65, 3) := by decide +kernel
theorem d_Dk_receive_49 : decode b_Dk_receive 49 = .ok (.pop, 1) := by decide +kernel
theorem d_Dk_receive_50 : decode b_Dk_receive 50 = .ok (.aload_n 0, 1) := by decide +kernel
theorem d_Dk_receive_51 : decode b_Dk_receive 51 = .ok (.iload_n 1, 1) := by decide +kernel
theorem d_Dk_receive_52 : decode b_Dk_receive 52 = .ok (.iconst 2, 1) := by decide +kernel
theorem d_Dk_receive_53 : decode b_Dk_receive 53 = .ok (.invokevirtual 69, 3) := by decide +kernel
theorem d_Dk_receive_56 : decode b_Dk_receive 56 = .ok (.iload_n 3, 1) := by decide +kernel
theorem d_Dk_receive_57 : decode b_Dk_receive 57 = .ok (.ireturn, 1) := by decide +kernel
theorem d_Dk_add_0 : decode b_Dk_add 0 = .ok (.aload_n 0, 1) := by decide +kernel
theorem d_Dk_add_1 : decode b_Dk_add 1 = .ok (.iload_n 1, 1) := by decide +kernel
theorem d_Dk_add_2 : decode b_Dk_add 2 = .ok (.invokevirtual 50, 3) := by decide +kernel
theorem d_Dk_add_5 : decode b_Dk_add 5 = .ok (.ifCond .eq 21, 3) := by decide +kernel
theorem d_Dk_add_8 : decode b_Dk_add 8 = .ok (.aload_n 0, 1) := by decide +kernel
theorem d_Dk_add_9 : decode b_Dk_add 9 = .ok (.getfield 10, 3) := by decide +kernel
theorem d_Dk_add_12 : decode b_Dk_add 12 = .ok (.iload_n 2, 1) := by decide +kernel
theorem d_Dk_add_13 : decode b_Dk_add 13 = .ok (.invokevirtual 54, 3) := by decide +kernel
theorem d_Dk_add_16 : decode b_Dk_add 16 = .ok (.ifCond .eq 10, 3) := by decide +kernel
theorem d_Dk_add_19 : decode b_Dk_add 19 = .ok (.iload_n 3, 1) := by decide +kernel
theorem d_Dk_add_20 : decode b_Dk_add 20 = .ok (.invokestatic 77, 3) := by decide +kernel
theorem d_Dk_add_23 : decode b_Dk_add 23 = .ok (.ifCond .ne 5, 3) := by decide +kernel
theorem d_Dk_add_26 : decode b_Dk_add 26 = .ok (.iconst (-1), 1) := by decide +kernel
theorem d_Dk_add_27 : decode b_Dk_add 27 = .ok (.ireturn, 1) := by decide +kernel
theorem d_Dk_add_28 : decode b_Dk_add 28 = .ok (.aload_n 0, 1) := by decide +kernel
theorem d_Dk_add_29 : decode b_Dk_add 29 = .ok (.getfield 19, 3) := by decide +kernel
theorem d_Dk_add_32 : decode b_Dk_add 32 = .ok (.iload_n 1, 1) := by decide +kernel
theorem d_Dk_add_33 : decode b_Dk_add 33 = .ok (.iload_n 2, 1) := by decide +kernel
theorem d_Dk_add_34 : decode b_Dk_add 34 = .ok (.iload_n 3, 1) := by decide +kernel
theorem d_Dk_add_35 : decode b_Dk_add 35 = .ok (.iload 4, 2) := by decide +kernel
theorem d_Dk_add_37 : decode b_Dk_add 37 = .ok (.invokevirtual 65, 3) := by decide +kernel
theorem d_Dk_add_40 : decode b_Dk_add 40 = .ok (.ireturn, 1) := by decide +kernel
theorem d_Dk_choose_0 : decode b_Dk_choose 0 = .ok (.aload_n 0, 1) := by decide +kernel
theorem d_Dk_choose_1 : decode b_Dk_choose 1 = .ok (.iload_n 1, 1) := by decide +kernel
theorem d_Dk_choose_2 : decode b_Dk_choose 2 = .ok (.invokevirtual 50, 3) := by decide +kernel
theorem d_Dk_choose_5 : decode b_Dk_choose 5 = .ok (.ifCond .eq 7, 3) := by decide +kernel
theorem d_Dk_choose_8 : decode b_Dk_choose 8 = .ok (.iload_n 2, 1) := by decide +kernel
theorem d_Dk_choose_9 : decode b_Dk_choose 9 = .ok (.ifCond .ge 5, 3) := by decide +kernel
theorem d_Dk_choose_12 : decode b_Dk_choose 12 = .ok (.iconst (-1), 1) := by decide +kernel
theorem d_Dk_choose_13 : decode b_Dk_choose 13 = .ok (.ireturn, 1) := by decide +kernel
theorem d_Dk_choose_14 : decode b_Dk_choose 14 = .ok (.aload_n 0, 1) := by decide +kernel
theorem d_Dk_choose_15 : decode b_Dk_choose 15 = .ok (.iload_n 1, 1) := by decide +kernel
theorem d_Dk_choose_16 : decode b_Dk_choose 16 = .ok (.invokevirtual 80, 3) := by decide +kernel
theorem d_Dk_choose_19 : decode b_Dk_choose 19 = .ok (.istore 4, 2) := by decide +kernel
theorem d_Dk_choose_21 : decode b_Dk_choose 21 = .ok (.iload 4, 2) := by decide +kernel
theorem d_Dk_choose_23 : decode b_Dk_choose 23 = .ok (.ifCond .le 18, 3) := by decide +kernel
theorem d_Dk_choose_26 : decode b_Dk_choose 26 = .ok (.aload_n 0, 1) := by decide +kernel
theorem d_Dk_choose_27 : decode b_Dk_choose 27 = .ok (.iload_n 1, 1) := by decide +kernel
theorem d_Dk_choose_28 : decode b_Dk_choose 28 = .ok (.aload_n 0, 1) := by decide +kernel
theorem d_Dk_choose_29 : decode b_Dk_choose 29 = .ok (.iload_n 1, 1) := by decide +kernel
theorem d_Dk_choose_30 : decode b_Dk_choose 30 = .ok (.iload_n 2, 1) := by decide +kernel
theorem d_Dk_choose_31 : decode b_Dk_choose 31 = .ok (.iload 4, 2) := by decide +kernel
theorem d_Dk_choose_33 : decode b_Dk_choose 33 = .ok (.irem, 1) := by decide +kernel
theorem d_Dk_choose_34 : decode b_Dk_choose 34 = .ok (.invokevirtual 83, 3) := by decide +kernel
theorem d_Dk_choose_37 : decode b_Dk_choose 37 = .ok (.invokevirtual 86, 3) := by decide +kernel
theorem d_Dk_choose_40 : decode b_Dk_choose 40 = .ok (.ireturn, 1) := by decide +kernel
theorem d_Dk_choose_41 : decode b_Dk_choose 41 = .ok (.iload_n 3, 1) := by decide +kernel
theorem d_Dk_choose_42 : decode b_Dk_choose 42 = .ok (.ifCond .eq 19, 3) := by decide +kernel
theorem d_Dk_choose_45 : decode b_Dk_choose 45 = .ok (.aload_n 0, 1) := by decide +kernel
theorem d_Dk_choose_46 : decode b_Dk_choose 46 = .ok (.iload_n 1, 1) := by decide +kernel
theorem d_Dk_choose_47 : decode b_Dk_choose 47 = .ok (.invokevirtual 57, 3) := by decide +kernel
theorem d_Dk_choose_50 : decode b_Dk_choose 50 = .ok (.aload_n 0, 1) := by decide +kernel
theorem d_Dk_choose_51 : decode b_Dk_choose 51 = .ok (.getfield 40, 3) := by decide +kernel
theorem d_Dk_choose_54 : decode b_Dk_choose 54 = .ok (.iload_n 1, 1) := by decide +kernel
theorem d_Dk_choose_55 : decode b_Dk_choose 55 = .ok (.bipush 10, 2) := by decide +kernel
theorem d_Dk_choose_57 : decode b_Dk_choose 57 = .ok (.iastore, 1) := by decide +kernel
theorem d_Dk_choose_58 : decode b_Dk_choose 58 = .ok (.bipush 10, 2) := by decide +kernel
theorem d_Dk_choose_60 : decode b_Dk_choose 60 = .ok (.ireturn, 1) := by decide +kernel
theorem d_Dk_choose_61 : decode b_Dk_choose 61 = .ok (.aload_n 0, 1) := by decide +kernel
theorem d_Dk_choose_62 : decode b_Dk_choose 62 = .ok (.getfield 40, 3) := by decide +kernel
theorem d_Dk_choose_65 : decode b_Dk_choose 65 = .ok (.iload_n 1, 1) := by decide +kernel
theorem d_Dk_choose_66 : decode b_Dk_choose 66 = .ok (.iconst (-1), 1) := by decide +kernel
theorem d_Dk_choose_67 : decode b_Dk_choose 67 = .ok (.iastore, 1) := by decide +kernel
theorem d_Dk_choose_68 : decode b_Dk_choose 68 = .ok (.aload_n 0, 1) := by decide +kernel
theorem d_Dk_choose_69 : decode b_Dk_choose 69 = .ok (.iload_n 1, 1) := by decide +kernel
theorem d_Dk_choose_70 : decode b_Dk_choose 70 = .ok (.iconst 3, 1) := by decide +kernel
theorem d_Dk_choose_71 : decode b_Dk_choose 71 = .ok (.invokevirtual 69, 3) := by decide +kernel
theorem d_Dk_choose_74 : decode b_Dk_choose 74 = .ok (.bipush 11, 2) := by decide +kernel
theorem d_Dk_choose_76 : decode b_Dk_choose 76 = .ok (.ireturn, 1) := by decide +kernel
theorem d_Dk_close_0 : decode b_Dk_close 0 = .ok (.aload_n 0, 1) := by decide +kernel
theorem d_Dk_close_1 : decode b_Dk_close 1 = .ok (.getfield 10, 3) := by decide +kernel
theorem d_Dk_close_4 : decode b_Dk_close 4 = .ok (.iload_n 1, 1) := by decide +kernel
theorem d_Dk_close_5 : decode b_Dk_close 5 = .ok (.invokevirtual 54, 3) := by decide +kernel
theorem d_Dk_close_8 : decode b_Dk_close 8 = .ok (.ifCond .ne 5, 3) := by decide +kernel
theorem d_Dk_close_11 : decode b_Dk_close 11 = .ok (.iconst (-1), 1) := by decide +kernel
theorem d_Dk_close_12 : decode b_Dk_close 12 = .ok (.ireturn, 1) := by decide +kernel
theorem d_Dk_close_13 : decode b_Dk_close 13 = .ok (.aload_n 0, 1) := by decide +kernel
theorem d_Dk_close_14 : decode b_Dk_close 14 = .ok (.getfield 10, 3) := by decide +kernel
theorem d_Dk_close_17 : decode b_Dk_close 17 = .ok (.iload_n 1, 1) := by decide +kernel
theorem d_Dk_close_18 : decode b_Dk_close 18 = .ok (.invokevirtual 89, 3) := by decide +kernel
theorem d_Dk_close_21 : decode b_Dk_close 21 = .ok (.ifCond .eq 6, 3) := by decide +kernel
theorem d_Dk_close_24 : decode b_Dk_close 24 = .ok (.bipush (-2), 2) := by decide +kernel
theorem d_Dk_close_26 : decode b_Dk_close 26 = .ok (.ireturn, 1) := by decide +kernel
theorem d_Dk_close_27 : decode b_Dk_close 27 = .ok (.aload_n 0, 1) := by decide +kernel
theorem d_Dk_close_28 : decode b_Dk_close 28 = .ok (.getfield 10, 3) := by decide +kernel
theorem d_Dk_close_31 : decode b_Dk_close 31 = .ok (.iload_n 1, 1) := by decide +kernel
theorem d_Dk_close_32 : decode b_Dk_close 32 = .ok (.invokevirtual 92, 3) := by decide +kernel
theorem d_Dk_close_35 : decode b_Dk_close 35 = .ok (.iconst 0, 1) := by decide +kernel
theorem d_Dk_close_36 : decode b_Dk_close 36 = .ok (.istore_n 2, 1) := by decide +kernel
theorem d_Dk_close_37 : decode b_Dk_close 37 = .ok (.aload_n 0, 1) := by decide +kernel
theorem d_Dk_close_38 : decode b_Dk_close 38 = .ok (.iload_n 1, 1) := by decide +kernel
theorem d_Dk_close_39 : decode b_Dk_close 39 = .ok (.iconst 2, 1) := by decide +kernel
theorem d_Dk_close_40 : decode b_Dk_close 40 = .ok (.invokevirtual 95, 3) := by decide +kernel
theorem d_Dk_close_43 : decode b_Dk_close 43 = .ok (.istore_n 3, 1) := by decide +kernel
theorem d_Dk_close_44 : decode b_Dk_close 44 = .ok (.iload_n 3, 1) := by decide +kernel
theorem d_Dk_close_45 : decode b_Dk_close 45 = .ok (.iconst (-1), 1) := by decide +kernel
theorem d_Dk_close_46 : decode b_Dk_close 46 = .ok (.if_icmp .eq 27, 3) := by decide +kernel
theorem d_Dk_close_49 : decode b_Dk_close 49 = .ok (.iload_n 2, 1) := by decide +kernel
theorem d_Dk_close_50 : decode b_Dk_close 50 = .ok (.bipush 16, 2) := by decide +kernel
theorem d_Dk_close_52 : decode b_Dk_close 52 = .ok (.if_icmp .ge 21, 3) := by decide +kernel
theorem d_Dk_close_55 : decode b_Dk_close 55 = .ok (.aload_n 0, 1) := by decide +kernel
theorem d_Dk_close_56 : decode b_Dk_close 56 = .ok (.iload_n 3, 1) := by decide +kernel
theorem d_Dk_close_57 : decode b_Dk_close 57 = .ok (.invokevirtual 98, 3) := by decide +kernel
theorem d_Dk_close_60 : decode b_Dk_close 60 = .ok (.iinc 2 1, 3) := by decide +kernel
theorem d_Dk_close_63 : decode b_Dk_close 63 = .ok (.aload_n 0, 1) := by decide +kernel
theorem d_Dk_close_64 : decode b_Dk_close 64 = .ok (.iload_n 1, 1) := by decide +kernel
theorem d_Dk_close_65 : decode b_Dk_close 65 = .ok (.iconst 2, 1) := by decide +kernel
theorem d_Dk_close_66 : decode b_Dk_close 66 = .ok (.invokevirtual 95, 3) := by decide +kernel
theorem d_Dk_close_69 : decode b_Dk_close 69 = .ok (.istore_n 3, 1) := by decide +kernel
theorem d_Dk_close_70 : decode b_Dk_close 70 = .ok (.goto (-26), 3) := by decide +kernel
theorem d_Dk_close_73 : decode b_Dk_close 73 = .ok (.iload_n 2, 1) := by decide +kernel
theorem d_Dk_close_74 : decode b_Dk_close 74 = .ok (.ireturn, 1) := by decide +kernel
theorem d_Dk_state_0 : decode b_Dk_state 0 = .ok (.iload_n 1, 1) := by decide +kernel
theorem d_Dk_state_1 : decode b_Dk_state 1 = .ok (.invokestatic 101, 3) := by decide +kernel
theorem d_Dk_state_4 : decode b_Dk_state 4 = .ok (.ifCond .eq 12, 3) := by decide +kernel
theorem d_Dk_state_7 : decode b_Dk_state 7 = .ok (.aload_n 0, 1) := by decide +kernel
theorem d_Dk_state_8 : decode b_Dk_state 8 = .ok (.getfield 30, 3) := by decide +kernel
theorem d_Dk_state_11 : decode b_Dk_state 11 = .ok (.iload_n 1, 1) := by decide +kernel
theorem d_Dk_state_12 : decode b_Dk_state 12 = .ok (.iaload, 1) := by decide +kernel
theorem d_Dk_state_13 : decode b_Dk_state 13 = .ok (.goto 4, 3) := by decide +kernel
theorem d_Dk_state_16 : decode b_Dk_state 16 = .ok (.iconst (-1), 1) := by decide +kernel
theorem d_Dk_state_17 : decode b_Dk_state 17 = .ok (.ireturn, 1) := by decide +kernel
theorem d_Dk_got_0 : decode b_Dk_got 0 = .ok (.iload_n 1, 1) := by decide +kernel
theorem d_Dk_got_1 : decode b_Dk_got 1 = .ok (.invokestatic 101, 3) := by decide +kernel
theorem d_Dk_got_4 : decode b_Dk_got 4 = .ok (.ifCond .eq 12, 3) := by decide +kernel
theorem d_Dk_got_7 : decode b_Dk_got 7 = .ok (.aload_n 0, 1) := by decide +kernel
theorem d_Dk_got_8 : decode b_Dk_got 8 = .ok (.getfield 34, 3) := by decide +kernel
theorem d_Dk_got_11 : decode b_Dk_got 11 = .ok (.iload_n 1, 1) := by decide +kernel
theorem d_Dk_got_12 : decode b_Dk_got 12 = .ok (.iaload, 1) := by decide +kernel
theorem d_Dk_got_13 : decode b_Dk_got 13 = .ok (.goto 4, 3) := by decide +kernel
theorem d_Dk_got_16 : decode b_Dk_got 16 = .ok (.iconst 0, 1) := by decide +kernel
theorem d_Dk_got_17 : decode b_Dk_got 17 = .ok (.ireturn, 1) := by decide +kernel
theorem d_Dk_last_0 : decode b_Dk_last 0 = .ok (.iload_n 1, 1) := by decide +kernel
theorem d_Dk_last_1 : decode b_Dk_last 1 = .ok (.invokestatic 101, 3) := by decide +kernel
theorem d_Dk_last_4 : decode b_Dk_last 4 = .ok (.ifCond .eq 23, 3) := by decide +kernel
theorem d_Dk_last_7 : decode b_Dk_last 7 = .ok (.aload_n 0, 1) := by decide +kernel
theorem d_Dk_last_8 : decode b_Dk_last 8 = .ok (.getfield 37, 3) := by decide +kernel
theorem d_Dk_last_11 : decode b_Dk_last 11 = .ok (.iload_n 1, 1) := by decide +kernel
theorem d_Dk_last_12 : decode b_Dk_last 12 = .ok (.iaload, 1) := by decide +kernel
theorem d_Dk_last_13 : decode b_Dk_last 13 = .ok (.iconst 2, 1) := by decide +kernel
theorem d_Dk_last_14 : decode b_Dk_last 14 = .ok (.aload_n 0, 1) := by decide +kernel
theorem d_Dk_last_15 : decode b_Dk_last 15 = .ok (.getfield 40, 3) := by decide +kernel
theorem d_Dk_last_18 : decode b_Dk_last 18 = .ok (.iload_n 1, 1) := by decide +kernel
theorem d_Dk_last_19 : decode b_Dk_last 19 = .ok (.iaload, 1) := by decide +kernel
theorem d_Dk_last_20 : decode b_Dk_last 20 = .ok (.iconst 2, 1) := by decide +kernel
theorem d_Dk_last_21 : decode b_Dk_last 21 = .ok (.iadd, 1) := by decide +kernel
theorem d_Dk_last_22 : decode b_Dk_last 22 = .ok (.imul, 1) := by decide +kernel
theorem d_Dk_last_23 : decode b_Dk_last 23 = .ok (.iadd, 1) := by decide +kernel
theorem d_Dk_last_24 : decode b_Dk_last 24 = .ok (.goto 4, 3) := by decide +kernel
theorem d_Dk_last_27 : decode b_Dk_last 27 = .ok (.iconst (-1), 1) := by decide +kernel
theorem d_Dk_last_28 : decode b_Dk_last 28 = .ok (.ireturn, 1) := by decide +kernel
theorem d_Dk_waiting_0 : decode b_Dk_waiting 0 = .ok (.aload_n 0, 1) := by decide +kernel
theorem d_Dk_waiting_1 : decode b_Dk_waiting 1 = .ok (.getfield 10, 3) := by decide +kernel
theorem d_Dk_waiting_4 : decode b_Dk_waiting 4 = .ok (.iload_n 1, 1) := by decide +kernel
theorem d_Dk_waiting_5 : decode b_Dk_waiting 5 = .ok (.invokevirtual 54, 3) := by decide +kernel
theorem d_Dk_waiting_8 : decode b_Dk_waiting 8 = .ok (.ifCond .eq 10, 3) := by decide +kernel
theorem d_Dk_waiting_11 : decode b_Dk_waiting 11 = .ok (.iload_n 2, 1) := by decide +kernel
theorem d_Dk_waiting_12 : decode b_Dk_waiting 12 = .ok (.invokestatic 77, 3) := by decide +kernel
theorem d_Dk_waiting_15 : decode b_Dk_waiting 15 = .ok (.ifCond .ne 5, 3) := by decide +kernel
theorem d_Dk_waiting_18 : decode b_Dk_waiting 18 = .ok (.iconst (-1), 1) := by decide +kernel
theorem d_Dk_waiting_19 : decode b_Dk_waiting 19 = .ok (.ireturn, 1) := by decide +kernel
theorem d_Dk_waiting_20 : decode b_Dk_waiting 20 = .ok (.aload_n 0, 1) := by decide +kernel
theorem d_Dk_waiting_21 : decode b_Dk_waiting 21 = .ok (.iload_n 1, 1) := by decide +kernel
theorem d_Dk_waiting_22 : decode b_Dk_waiting 22 = .ok (.iload_n 2, 1) := by decide +kernel
theorem d_Dk_waiting_23 : decode b_Dk_waiting 23 = .ok (.iload_n 3, 1) := by decide +kernel
theorem d_Dk_waiting_24 : decode b_Dk_waiting 24 = .ok (.invokevirtual 104, 3) := by decide +kernel
theorem d_Dk_waiting_27 : decode b_Dk_waiting 27 = .ok (.istore 4, 2) := by decide +kernel
theorem d_Dk_waiting_29 : decode b_Dk_waiting 29 = .ok (.iload 4, 2) := by decide +kernel
theorem d_Dk_waiting_31 : decode b_Dk_waiting 31 = .ok (.iconst (-1), 1) := by decide +kernel
theorem d_Dk_waiting_32 : decode b_Dk_waiting 32 = .ok (.if_icmp .ne 7, 3) := by decide +kernel
theorem d_Dk_waiting_35 : decode b_Dk_waiting 35 = .ok (.iconst (-1), 1) := by decide +kernel
theorem d_Dk_waiting_36 : decode b_Dk_waiting 36 = .ok (.goto 8, 3) := by decide +kernel
theorem d_Dk_waiting_39 : decode b_Dk_waiting 39 = .ok (.iload 4, 2) := by decide +kernel
theorem d_Dk_waiting_41 : decode b_Dk_waiting 41 = .ok (.invokestatic 107, 3) := by decide +kernel
theorem d_Dk_waiting_44 : decode b_Dk_waiting 44 = .ok (.ireturn, 1) := by decide +kernel
theorem d_Dk_channel_0 : decode b_Dk_channel 0 = .ok (.aload_n 0, 1) := by decide +kernel
theorem d_Dk_channel_1 : decode b_Dk_channel 1 = .ok (.getfield 10, 3) := by decide +kernel
theorem d_Dk_channel_4 : decode b_Dk_channel 4 = .ok (.iload_n 1, 1) := by decide +kernel
theorem d_Dk_channel_5 : decode b_Dk_channel 5 = .ok (.invokevirtual 54, 3) := by decide +kernel
theorem d_Dk_channel_8 : decode b_Dk_channel 8 = .ok (.ifCond .ne 5, 3) := by decide +kernel
theorem d_Dk_channel_11 : decode b_Dk_channel 11 = .ok (.iconst (-1), 1) := by decide +kernel
theorem d_Dk_channel_12 : decode b_Dk_channel 12 = .ok (.ireturn, 1) := by decide +kernel
theorem d_Dk_channel_13 : decode b_Dk_channel 13 = .ok (.iload_n 2, 1) := by decide +kernel
theorem d_Dk_channel_14 : decode b_Dk_channel 14 = .ok (.tableswitch 61 0 2 #[26, 35, 44], 26) := by decide +kernel
theorem d_Dk_channel_40 : decode b_Dk_channel 40 = .ok (.aload_n 0, 1) := by decide +kernel
theorem d_Dk_channel_41 : decode b_Dk_channel 41 = .ok (.getfield 10, 3) := by decide +kernel
theorem d_Dk_channel_44 : decode b_Dk_channel 44 = .ok (.iload_n 1, 1) := by decide +kernel
theorem d_Dk_channel_45 : decode b_Dk_channel 45 = .ok (.invokevirtual 110, 3) := by decide +kernel
theorem d_Dk_channel_48 : decode b_Dk_channel 48 = .ok (.ireturn, 1) := by decide +kernel
theorem d_Dk_channel_49 : decode b_Dk_channel 49 = .ok (.aload_n 0, 1) := by decide +kernel
theorem d_Dk_channel_50 : decode b_Dk_channel 50 = .ok (.getfield 10, 3) := by decide +kernel
theorem d_Dk_channel_53 : decode b_Dk_channel 53 = .ok (.iload_n 1, 1) := by decide +kernel
theorem d_Dk_channel_54 : decode b_Dk_channel 54 = .ok (.invokevirtual 113, 3) := by decide +kernel
theorem d_Dk_channel_57 : decode b_Dk_channel 57 = .ok (.ireturn, 1) := by decide +kernel
theorem d_Dk_channel_58 : decode b_Dk_channel 58 = .ok (.aload_n 0, 1) := by decide +kernel
theorem d_Dk_channel_59 : decode b_Dk_channel 59 = .ok (.getfield 10, 3) := by decide +kernel
theorem d_Dk_channel_62 : decode b_Dk_channel 62 = .ok (.iload_n 1, 1) := by decide +kernel
theorem d_Dk_channel_63 : decode b_Dk_channel 63 = .ok (.invokevirtual 89, 3) := by decide +kernel
theorem d_Dk_channel_66 : decode b_Dk_channel 66 = .ok (.ifCond .eq 7, 3) := by decide +kernel
theorem d_Dk_channel_69 : decode b_Dk_channel 69 = .ok (.iconst 1, 1) := by decide +kernel
theorem d_Dk_channel_70 : decode b_Dk_channel 70 = .ok (.goto 4, 3) := by decide +kernel
theorem d_Dk_channel_73 : decode b_Dk_channel 73 = .ok (.iconst 0, 1) := by decide +kernel
theorem d_Dk_channel_74 : decode b_Dk_channel 74 = .ok (.ireturn, 1) := by decide +kernel
theorem d_Dk_channel_75 : decode b_Dk_channel 75 = .ok (.iload_n 2, 1) := by decide +kernel
theorem d_Dk_channel_76 : decode b_Dk_channel 76 = .ok (.iconst 3, 1) := by decide +kernel
theorem d_Dk_channel_77 : decode b_Dk_channel 77 = .ok (.if_icmp .lt 23, 3) := by decide +kernel
theorem d_Dk_channel_80 : decode b_Dk_channel 80 = .ok (.iload_n 2, 1) := by decide +kernel
theorem d_Dk_channel_81 : decode b_Dk_channel 81 = .ok (.bipush 11, 2) := by decide +kernel
theorem d_Dk_channel_83 : decode b_Dk_channel 83 = .ok (.if_icmp .ge 17, 3) := by decide +kernel
theorem d_Dk_channel_86 : decode b_Dk_channel 86 = .ok (.aload_n 0, 1) := by decide +kernel
theorem d_Dk_channel_87 : decode b_Dk_channel 87 = .ok (.getfield 10, 3) := by decide +kernel
theorem d_Dk_channel_90 : decode b_Dk_channel 90 = .ok (.iload_n 1, 1) := by decide +kernel
theorem d_Dk_channel_91 : decode b_Dk_channel 91 = .ok (.iload_n 2, 1) := by decide +kernel
theorem d_Dk_channel_92 : decode b_Dk_channel 92 = .ok (.iconst 3, 1) := by decide +kernel
theorem d_Dk_channel_93 : decode b_Dk_channel 93 = .ok (.isub, 1) := by decide +kernel
theorem d_Dk_channel_94 : decode b_Dk_channel 94 = .ok (.invokevirtual 116, 3) := by decide +kernel
theorem d_Dk_channel_97 : decode b_Dk_channel 97 = .ok (.goto 4, 3) := by decide +kernel
theorem d_Dk_channel_100 : decode b_Dk_channel 100 = .ok (.iconst (-1), 1) := by decide +kernel
theorem d_Dk_channel_101 : decode b_Dk_channel 101 = .ok (.ireturn, 1) := by decide +kernel
theorem d_Dk_count_0 : decode b_Dk_count 0 = .ok (.iload_n 1, 1) := by decide +kernel
theorem d_Dk_count_1 : decode b_Dk_count 1 = .ok (.tableswitch 57 0 3 #[31, 39, 47, 52], 31) := by decide +kernel
theorem d_Dk_count_32 : decode b_Dk_count 32 = .ok (.aload_n 0, 1) := by decide +kernel
theorem d_Dk_count_33 : decode b_Dk_count 33 = .ok (.getfield 10, 3) := by decide +kernel
theorem d_Dk_count_36 : decode b_Dk_count 36 = .ok (.invokevirtual 119, 3) := by decide +kernel
theorem d_Dk_count_39 : decode b_Dk_count 39 = .ok (.ireturn, 1) := by decide +kernel
theorem d_Dk_count_40 : decode b_Dk_count 40 = .ok (.aload_n 0, 1) := by decide +kernel
theorem d_Dk_count_41 : decode b_Dk_count 41 = .ok (.getfield 26, 3) := by decide +kernel
theorem d_Dk_count_44 : decode b_Dk_count 44 = .ok (.invokevirtual 123, 3) := by decide +kernel
theorem d_Dk_count_47 : decode b_Dk_count 47 = .ok (.ireturn, 1) := by decide +kernel
theorem d_Dk_count_48 : decode b_Dk_count 48 = .ok (.aload_n 0, 1) := by decide +kernel
theorem d_Dk_count_49 : decode b_Dk_count 49 = .ok (.getfield 126, 3) := by decide +kernel
theorem d_Dk_count_52 : decode b_Dk_count 52 = .ok (.ireturn, 1) := by decide +kernel
theorem d_Dk_count_53 : decode b_Dk_count 53 = .ok (.aload_n 0, 1) := by decide +kernel
theorem d_Dk_count_54 : decode b_Dk_count 54 = .ok (.getfield 130, 3) := by decide +kernel
theorem d_Dk_count_57 : decode b_Dk_count 57 = .ok (.ireturn, 1) := by decide +kernel
theorem d_Dk_count_58 : decode b_Dk_count 58 = .ok (.iconst (-1), 1) := by decide +kernel
theorem d_Dk_count_59 : decode b_Dk_count 59 = .ok (.ireturn, 1) := by decide +kernel
theorem d_Dk_clear_0 : decode b_Dk_clear 0 = .ok (.aload_n 0, 1) := by decide +kernel
theorem d_Dk_clear_1 : decode b_Dk_clear 1 = .ok (.getfield 10, 3) := by decide +kernel
theorem d_Dk_clear_4 : decode b_Dk_clear 4 = .ok (.invokevirtual 119, 3) := by decide +kernel
theorem d_Dk_clear_7 : decode b_Dk_clear 7 = .ok (.istore_n 1, 1) := by decide +kernel
theorem d_Dk_clear_8 : decode b_Dk_clear 8 = .ok (.aload_n 0, 1) := by decide +kernel
theorem d_Dk_clear_9 : decode b_Dk_clear 9 = .ok (.invokevirtual 43, 3) := by decide +kernel
theorem d_Dk_clear_12 : decode b_Dk_clear 12 = .ok (.iload_n 1, 1) := by decide +kernel
theorem d_Dk_clear_13 : decode b_Dk_clear 13 = .ok (.ireturn, 1) := by decide +kernel
theorem d_Dk_startAfresh_0 : decode b_Dk_startAfresh 0 = .ok (.aload_n 0, 1) := by decide +kernel
theorem d_Dk_startAfresh_1 : decode b_Dk_startAfresh 1 = .ok (.getfield 10, 3) := by decide +kernel
theorem d_Dk_startAfresh_4 : decode b_Dk_startAfresh 4 = .ok (.invokevirtual 133, 3) := by decide +kernel
theorem d_Dk_startAfresh_7 : decode b_Dk_startAfresh 7 = .ok (.aload_n 0, 1) := by decide +kernel
theorem d_Dk_startAfresh_8 : decode b_Dk_startAfresh 8 = .ok (.getfield 19, 3) := by decide +kernel
theorem d_Dk_startAfresh_11 : decode b_Dk_startAfresh 11 = .ok (.invokevirtual 136, 3) := by decide +kernel
theorem d_Dk_startAfresh_14 : decode b_Dk_startAfresh 14 = .ok (.aload_n 0, 1) := by decide +kernel
theorem d_Dk_startAfresh_15 : decode b_Dk_startAfresh 15 = .ok (.getfield 26, 3) := by decide +kernel
theorem d_Dk_startAfresh_18 : decode b_Dk_startAfresh 18 = .ok (.invokevirtual 137, 3) := by decide +kernel
theorem d_Dk_startAfresh_21 : decode b_Dk_startAfresh 21 = .ok (.aload_n 0, 1) := by decide +kernel
theorem d_Dk_startAfresh_22 : decode b_Dk_startAfresh 22 = .ok (.getfield 30, 3) := by decide +kernel
theorem d_Dk_startAfresh_25 : decode b_Dk_startAfresh 25 = .ok (.iconst 0, 1) := by decide +kernel
theorem d_Dk_startAfresh_26 : decode b_Dk_startAfresh 26 = .ok (.invokestatic 140, 3) := by decide +kernel
theorem d_Dk_startAfresh_29 : decode b_Dk_startAfresh 29 = .ok (.aload_n 0, 1) := by decide +kernel
theorem d_Dk_startAfresh_30 : decode b_Dk_startAfresh 30 = .ok (.getfield 34, 3) := by decide +kernel
theorem d_Dk_startAfresh_33 : decode b_Dk_startAfresh 33 = .ok (.iconst 0, 1) := by decide +kernel
theorem d_Dk_startAfresh_34 : decode b_Dk_startAfresh 34 = .ok (.invokestatic 140, 3) := by decide +kernel
theorem d_Dk_startAfresh_37 : decode b_Dk_startAfresh 37 = .ok (.aload_n 0, 1) := by decide +kernel
theorem d_Dk_startAfresh_38 : decode b_Dk_startAfresh 38 = .ok (.getfield 37, 3) := by decide +kernel
theorem d_Dk_startAfresh_41 : decode b_Dk_startAfresh 41 = .ok (.iconst 0, 1) := by decide +kernel
theorem d_Dk_startAfresh_42 : decode b_Dk_startAfresh 42 = .ok (.invokestatic 140, 3) := by decide +kernel
theorem d_Dk_startAfresh_45 : decode b_Dk_startAfresh 45 = .ok (.aload_n 0, 1) := by decide +kernel
theorem d_Dk_startAfresh_46 : decode b_Dk_startAfresh 46 = .ok (.getfield 40, 3) := by decide +kernel
theorem d_Dk_startAfresh_49 : decode b_Dk_startAfresh 49 = .ok (.iconst (-1), 1) := by decide +kernel
theorem d_Dk_startAfresh_50 : decode b_Dk_startAfresh 50 = .ok (.invokestatic 140, 3) := by decide +kernel
theorem d_Dk_startAfresh_53 : decode b_Dk_startAfresh 53 = .ok (.aload_n 0, 1) := by decide +kernel
theorem d_Dk_startAfresh_54 : decode b_Dk_startAfresh 54 = .ok (.iconst 0, 1) := by decide +kernel
theorem d_Dk_startAfresh_55 : decode b_Dk_startAfresh 55 = .ok (.putfield 126, 3) := by decide +kernel
theorem d_Dk_startAfresh_58 : decode b_Dk_startAfresh 58 = .ok (.aload_n 0, 1) := by decide +kernel
theorem d_Dk_startAfresh_59 : decode b_Dk_startAfresh 59 = .ok (.iconst 0, 1) := by decide +kernel
theorem d_Dk_startAfresh_60 : decode b_Dk_startAfresh 60 = .ok (.putfield 130, 3) := by decide +kernel
theorem d_Dk_startAfresh_63 : decode b_Dk_startAfresh 63 = .ok (.return_, 1) := by decide +kernel
theorem d_Dk_isRoutine_0 : decode b_Dk_isRoutine 0 = .ok (.iload_n 0, 1) := by decide +kernel
theorem d_Dk_isRoutine_1 : decode b_Dk_isRoutine 1 = .ok (.ifCond .lt 13, 3) := by decide +kernel
theorem d_Dk_isRoutine_4 : decode b_Dk_isRoutine 4 = .ok (.iload_n 0, 1) := by decide +kernel
theorem d_Dk_isRoutine_5 : decode b_Dk_isRoutine 5 = .ok (.bipush 16, 2) := by decide +kernel
theorem d_Dk_isRoutine_7 : decode b_Dk_isRoutine 7 = .ok (.if_icmp .ge 7, 3) := by decide +kernel
theorem d_Dk_isRoutine_10 : decode b_Dk_isRoutine 10 = .ok (.iconst 1, 1) := by decide +kernel
theorem d_Dk_isRoutine_11 : decode b_Dk_isRoutine 11 = .ok (.goto 4, 3) := by decide +kernel
theorem d_Dk_isRoutine_14 : decode b_Dk_isRoutine 14 = .ok (.iconst 0, 1) := by decide +kernel
theorem d_Dk_isRoutine_15 : decode b_Dk_isRoutine 15 = .ok (.ireturn, 1) := by decide +kernel
theorem d_Dk_isWay_0 : decode b_Dk_isWay 0 = .ok (.iload_n 0, 1) := by decide +kernel
theorem d_Dk_isWay_1 : decode b_Dk_isWay 1 = .ok (.ifCond .eq 8, 3) := by decide +kernel
theorem d_Dk_isWay_4 : decode b_Dk_isWay 4 = .ok (.iload_n 0, 1) := by decide +kernel
theorem d_Dk_isWay_5 : decode b_Dk_isWay 5 = .ok (.iconst 1, 1) := by decide +kernel
theorem d_Dk_isWay_6 : decode b_Dk_isWay 6 = .ok (.if_icmp .ne 7, 3) := by decide +kernel
theorem d_Dk_isWay_9 : decode b_Dk_isWay 9 = .ok (.iconst 1, 1) := by decide +kernel
theorem d_Dk_isWay_10 : decode b_Dk_isWay 10 = .ok (.goto 4, 3) := by decide +kernel
theorem d_Dk_isWay_13 : decode b_Dk_isWay 13 = .ok (.iconst 0, 1) := by decide +kernel
theorem d_Dk_isWay_14 : decode b_Dk_isWay 14 = .ok (.ireturn, 1) := by decide +kernel
theorem d_Dk_isReady_0 : decode b_Dk_isReady 0 = .ok (.iload_n 1, 1) := by decide +kernel
theorem d_Dk_isReady_1 : decode b_Dk_isReady 1 = .ok (.invokestatic 101, 3) := by decide +kernel
theorem d_Dk_isReady_4 : decode b_Dk_isReady 4 = .ok (.ifCond .eq 26, 3) := by decide +kernel
theorem d_Dk_isReady_7 : decode b_Dk_isReady 7 = .ok (.aload_n 0, 1) := by decide +kernel
theorem d_Dk_isReady_8 : decode b_Dk_isReady 8 = .ok (.getfield 30, 3) := by decide +kernel
theorem d_Dk_isReady_11 : decode b_Dk_isReady 11 = .ok (.iload_n 1, 1) := by decide +kernel
theorem d_Dk_isReady_12 : decode b_Dk_isReady 12 = .ok (.iaload, 1) := by decide +kernel
theorem d_Dk_isReady_13 : decode b_Dk_isReady 13 = .ok (.ifCond .eq 13, 3) := by decide +kernel
theorem d_Dk_isReady_16 : decode b_Dk_isReady 16 = .ok (.aload_n 0, 1) := by decide +kernel
theorem d_Dk_isReady_17 : decode b_Dk_isReady 17 = .ok (.getfield 30, 3) := by decide +kernel
theorem d_Dk_isReady_20 : decode b_Dk_isReady 20 = .ok (.iload_n 1, 1) := by decide +kernel
theorem d_Dk_isReady_21 : decode b_Dk_isReady 21 = .ok (.iaload, 1) := by decide +kernel
theorem d_Dk_isReady_22 : decode b_Dk_isReady 22 = .ok (.iconst 4, 1) := by decide +kernel
theorem d_Dk_isReady_23 : decode b_Dk_isReady 23 = .ok (.if_icmp .ne 7, 3) := by decide +kernel
theorem d_Dk_isReady_26 : decode b_Dk_isReady 26 = .ok (.iconst 1, 1) := by decide +kernel
theorem d_Dk_isReady_27 : decode b_Dk_isReady 27 = .ok (.goto 4, 3) := by decide +kernel
theorem d_Dk_isReady_30 : decode b_Dk_isReady 30 = .ok (.iconst 0, 1) := by decide +kernel
theorem d_Dk_isReady_31 : decode b_Dk_isReady 31 = .ok (.ireturn, 1) := by decide +kernel
theorem d_Dk_makeReady_0 : decode b_Dk_makeReady 0 = .ok (.aload_n 0, 1) := by decide +kernel
theorem d_Dk_makeReady_1 : decode b_Dk_makeReady 1 = .ok (.getfield 30, 3) := by decide +kernel
theorem d_Dk_makeReady_4 : decode b_Dk_makeReady 4 = .ok (.iload_n 1, 1) := by decide +kernel
theorem d_Dk_makeReady_5 : decode b_Dk_makeReady 5 = .ok (.iconst 0, 1) := by decide +kernel
theorem d_Dk_makeReady_6 : decode b_Dk_makeReady 6 = .ok (.iastore, 1) := by decide +kernel
theorem d_Dk_makeReady_7 : decode b_Dk_makeReady 7 = .ok (.aload_n 0, 1) := by decide +kernel
theorem d_Dk_makeReady_8 : decode b_Dk_makeReady 8 = .ok (.getfield 19, 3) := by decide +kernel
theorem d_Dk_makeReady_11 : decode b_Dk_makeReady 11 = .ok (.iload_n 1, 1) := by decide +kernel
theorem d_Dk_makeReady_12 : decode b_Dk_makeReady 12 = .ok (.invokevirtual 146, 3) := by decide +kernel
theorem d_Dk_makeReady_15 : decode b_Dk_makeReady 15 = .ok (.return_, 1) := by decide +kernel
theorem d_Dk_startWaiting_0 : decode b_Dk_startWaiting 0 = .ok (.aload_n 0, 1) := by decide +kernel
theorem d_Dk_startWaiting_1 : decode b_Dk_startWaiting 1 = .ok (.getfield 30, 3) := by decide +kernel
theorem d_Dk_startWaiting_4 : decode b_Dk_startWaiting 4 = .ok (.iload_n 1, 1) := by decide +kernel
theorem d_Dk_startWaiting_5 : decode b_Dk_startWaiting 5 = .ok (.iload_n 2, 1) := by decide +kernel
theorem d_Dk_startWaiting_6 : decode b_Dk_startWaiting 6 = .ok (.iastore, 1) := by decide +kernel
theorem d_Dk_startWaiting_7 : decode b_Dk_startWaiting 7 = .ok (.aload_n 0, 1) := by decide +kernel
theorem d_Dk_startWaiting_8 : decode b_Dk_startWaiting 8 = .ok (.getfield 26, 3) := by decide +kernel
theorem d_Dk_startWaiting_11 : decode b_Dk_startWaiting 11 = .ok (.iload_n 1, 1) := by decide +kernel
theorem d_Dk_startWaiting_12 : decode b_Dk_startWaiting 12 = .ok (.invokevirtual 149, 3) := by decide +kernel
theorem d_Dk_startWaiting_15 : decode b_Dk_startWaiting 15 = .ok (.return_, 1) := by decide +kernel
theorem d_Dk_trySend_0 : decode b_Dk_trySend 0 = .ok (.aload_n 0, 1) := by decide +kernel
theorem d_Dk_trySend_1 : decode b_Dk_trySend 1 = .ok (.getfield 10, 3) := by decide +kernel
theorem d_Dk_trySend_4 : decode b_Dk_trySend 4 = .ok (.iload_n 2, 1) := by decide +kernel
theorem d_Dk_trySend_5 : decode b_Dk_trySend 5 = .ok (.invokevirtual 89, 3) := by decide +kernel
theorem d_Dk_trySend_8 : decode b_Dk_trySend 8 = .ok (.ifCond .eq 10, 3) := by decide +kernel
theorem d_Dk_trySend_11 : decode b_Dk_trySend 11 = .ok (.aload_n 0, 1) := by decide +kernel
theorem d_Dk_trySend_12 : decode b_Dk_trySend 12 = .ok (.iload_n 1, 1) := by decide +kernel
theorem d_Dk_trySend_13 : decode b_Dk_trySend 13 = .ok (.invokevirtual 152, 3) := by decide +kernel
theorem d_Dk_trySend_16 : decode b_Dk_trySend 16 = .ok (.iconst 3, 1) := by decide +kernel
theorem d_Dk_trySend_17 : decode b_Dk_trySend 17 = .ok (.ireturn, 1) := by decide +kernel
theorem d_Dk_trySend_18 : decode b_Dk_trySend 18 = .ok (.aload_n 0, 1) := by decide +kernel
theorem d_Dk_trySend_19 : decode b_Dk_trySend 19 = .ok (.iload_n 2, 1) := by decide +kernel
theorem d_Dk_trySend_20 : decode b_Dk_trySend 20 = .ok (.iconst 1, 1) := by decide +kernel
theorem d_Dk_trySend_21 : decode b_Dk_trySend 21 = .ok (.invokevirtual 95, 3) := by decide +kernel
theorem d_Dk_trySend_24 : decode b_Dk_trySend 24 = .ok (.istore 4, 2) := by decide +kernel
theorem d_Dk_trySend_26 : decode b_Dk_trySend 26 = .ok (.iload 4, 2) := by decide +kernel
theorem d_Dk_trySend_28 : decode b_Dk_trySend 28 = .ok (.iconst (-1), 1) := by decide +kernel
theorem d_Dk_trySend_29 : decode b_Dk_trySend 29 = .ok (.if_icmp .eq 32, 3) := by decide +kernel
theorem d_Dk_trySend_32 : decode b_Dk_trySend 32 = .ok (.aload_n 0, 1) := by decide +kernel
theorem d_Dk_trySend_33 : decode b_Dk_trySend 33 = .ok (.dup, 1) := by decide +kernel
theorem d_Dk_trySend_34 : decode b_Dk_trySend 34 = .ok (.getfield 126, 3) := by decide +kernel
theorem d_Dk_trySend_37 : decode b_Dk_trySend 37 = .ok (.iconst 1, 1) := by decide +kernel
theorem d_Dk_trySend_38 : decode b_Dk_trySend 38 = .ok (.iadd, 1) := by decide +kernel
theorem d_Dk_trySend_39 : decode b_Dk_trySend 39 = .ok (.putfield 126, 3) := by decide +kernel
theorem d_Dk_trySend_42 : decode b_Dk_trySend 42 = .ok (.aload_n 0, 1) := by decide +kernel
theorem d_Dk_trySend_43 : decode b_Dk_trySend 43 = .ok (.iload 4, 2) := by decide +kernel
theorem d_Dk_trySend_45 : decode b_Dk_trySend 45 = .ok (.invokevirtual 155, 3) := by decide +kernel
theorem d_Dk_trySend_48 : decode b_Dk_trySend 48 = .ok (.aload_n 0, 1) := by decide +kernel
theorem d_Dk_trySend_49 : decode b_Dk_trySend 49 = .ok (.iload 4, 2) := by decide +kernel
theorem d_Dk_trySend_51 : decode b_Dk_trySend 51 = .ok (.invokestatic 107, 3) := by decide +kernel
theorem d_Dk_trySend_54 : decode b_Dk_trySend 54 = .ok (.iload_n 3, 1) := by decide +kernel
theorem d_Dk_trySend_55 : decode b_Dk_trySend 55 = .ok (.iconst 1, 1) := by decide +kernel
theorem d_Dk_trySend_56 : decode b_Dk_trySend 56 = .ok (.invokevirtual 158, 3) := by decide +kernel
theorem d_Dk_trySend_59 : decode b_Dk_trySend 59 = .ok (.iconst 1, 1) := by decide +kernel
theorem d_Dk_trySend_60 : decode b_Dk_trySend 60 = .ok (.ireturn, 1) := by decide +kernel
theorem d_Dk_trySend_61 : decode b_Dk_trySend 61 = .ok (.aload_n 0, 1) := by decide +kernel
theorem d_Dk_trySend_62 : decode b_Dk_trySend 62 = .ok (.getfield 10, 3) := by decide +kernel
theorem d_Dk_trySend_65 : decode b_Dk_trySend 65 = .ok (.iload_n 2, 1) := by decide +kernel
theorem d_Dk_trySend_66 : decode b_Dk_trySend 66 = .ok (.iload_n 3, 1) := by decide +kernel
theorem d_Dk_trySend_67 : decode b_Dk_trySend 67 = .ok (.invokevirtual 162, 3) := by decide +kernel
theorem d_Dk_trySend_70 : decode b_Dk_trySend 70 = .ok (.ifCond .eq 7, 3) := by decide +kernel
theorem d_Dk_trySend_73 : decode b_Dk_trySend 73 = .ok (.iconst 1, 1) := by decide +kernel
theorem d_Dk_trySend_74 : decode b_Dk_trySend 74 = .ok (.goto 4, 3) := by decide +kernel
theorem d_Dk_trySend_77 : decode b_Dk_trySend 77 = .ok (.iconst 2, 1) := by decide +kernel
theorem d_Dk_trySend_78 : decode b_Dk_trySend 78 = .ok (.ireturn, 1) := by decide +kernel
theorem d_Dk_tryReceive_0 : decode b_Dk_tryReceive 0 = .ok (.aload_n 0, 1) := by decide +kernel
theorem d_Dk_tryReceive_1 : decode b_Dk_tryReceive 1 = .ok (.iload_n 2, 1) := by decide +kernel
theorem d_Dk_tryReceive_2 : decode b_Dk_tryReceive 2 = .ok (.iconst 0, 1) := by decide +kernel
theorem d_Dk_tryReceive_3 : decode b_Dk_tryReceive 3 = .ok (.invokevirtual 95, 3) := by decide +kernel
theorem d_Dk_tryReceive_6 : decode b_Dk_tryReceive 6 = .ok (.istore_n 3, 1) := by decide +kernel
theorem d_Dk_tryReceive_7 : decode b_Dk_tryReceive 7 = .ok (.aload_n 0, 1) := by decide +kernel
theorem d_Dk_tryReceive_8 : decode b_Dk_tryReceive 8 = .ok (.getfield 10, 3) := by decide +kernel
theorem d_Dk_tryReceive_11 : decode b_Dk_tryReceive 11 = .ok (.iload_n 2, 1) := by decide +kernel
theorem d_Dk_tryReceive_12 : decode b_Dk_tryReceive 12 = .ok (.invokevirtual 110, 3) := by decide +kernel
theorem d_Dk_tryReceive_15 : decode b_Dk_tryReceive 15 = .ok (.ifCond .le 38, 3) := by decide +kernel
theorem d_Dk_tryReceive_18 : decode b_Dk_tryReceive 18 = .ok (.aload_n 0, 1) := by decide +kernel
theorem d_Dk_tryReceive_19 : decode b_Dk_tryReceive 19 = .ok (.iload_n 1, 1) := by decide +kernel
theorem d_Dk_tryReceive_20 : decode b_Dk_tryReceive 20 = .ok (.aload_n 0, 1) := by decide +kernel
theorem d_Dk_tryReceive_21 : decode b_Dk_tryReceive 21 = .ok (.getfield 10, 3) := by decide +kernel
theorem d_Dk_tryReceive_24 : decode b_Dk_tryReceive 24 = .ok (.iload_n 2, 1) := by decide +kernel
theorem d_Dk_tryReceive_25 : decode b_Dk_tryReceive 25 = .ok (.invokevirtual 166, 3) := by decide +kernel
theorem d_Dk_tryReceive_28 : decode b_Dk_tryReceive 28 = .ok (.iconst 1, 1) := by decide +kernel
theorem d_Dk_tryReceive_29 : decode b_Dk_tryReceive 29 = .ok (.invokevirtual 158, 3) := by decide +kernel
theorem d_Dk_tryReceive_32 : decode b_Dk_tryReceive 32 = .ok (.iload_n 3, 1) := by decide +kernel
theorem d_Dk_tryReceive_33 : decode b_Dk_tryReceive 33 = .ok (.iconst (-1), 1) := by decide +kernel
theorem d_Dk_tryReceive_34 : decode b_Dk_tryReceive 34 = .ok (.if_icmp .eq 17, 3) := by decide +kernel
theorem d_Dk_tryReceive_37 : decode b_Dk_tryReceive 37 = .ok (.aload_n 0, 1) := by decide +kernel
theorem d_Dk_tryReceive_38 : decode b_Dk_tryReceive 38 = .ok (.getfield 10, 3) := by decide +kernel
theorem d_Dk_tryReceive_41 : decode b_Dk_tryReceive 41 = .ok (.iload_n 2, 1) := by decide +kernel
theorem d_Dk_tryReceive_42 : decode b_Dk_tryReceive 42 = .ok (.aload_n 0, 1) := by decide +kernel
theorem d_Dk_tryReceive_43 : decode b_Dk_tryReceive 43 = .ok (.iload_n 3, 1) := by decide +kernel
theorem d_Dk_tryReceive_44 : decode b_Dk_tryReceive 44 = .ok (.invokevirtual 169, 3) := by decide +kernel
theorem d_Dk_tryReceive_47 : decode b_Dk_tryReceive 47 = .ok (.invokevirtual 162, 3) := by decide +kernel
theorem d_Dk_tryReceive_50 : decode b_Dk_tryReceive 50 = .ok (.pop, 1) := by decide +kernel
theorem d_Dk_tryReceive_51 : decode b_Dk_tryReceive 51 = .ok (.iconst 1, 1) := by decide +kernel
theorem d_Dk_tryReceive_52 : decode b_Dk_tryReceive 52 = .ok (.ireturn, 1) := by decide +kernel
theorem d_Dk_tryReceive_53 : decode b_Dk_tryReceive 53 = .ok (.iload_n 3, 1) := by decide +kernel
theorem d_Dk_tryReceive_54 : decode b_Dk_tryReceive 54 = .ok (.iconst (-1), 1) := by decide +kernel
theorem d_Dk_tryReceive_55 : decode b_Dk_tryReceive 55 = .ok (.if_icmp .eq 16, 3) := by decide +kernel
theorem d_Dk_tryReceive_58 : decode b_Dk_tryReceive 58 = .ok (.aload_n 0, 1) := by decide +kernel
theorem d_Dk_tryReceive_59 : decode b_Dk_tryReceive 59 = .ok (.iload_n 1, 1) := by decide +kernel
theorem d_Dk_tryReceive_60 : decode b_Dk_tryReceive 60 = .ok (.aload_n 0, 1) := by decide +kernel
theorem d_Dk_tryReceive_61 : decode b_Dk_tryReceive 61 = .ok (.iload_n 3, 1) := by decide +kernel
theorem d_Dk_tryReceive_62 : decode b_Dk_tryReceive 62 = .ok (.invokevirtual 169, 3) := by decide +kernel
theorem d_Dk_tryReceive_65 : decode b_Dk_tryReceive 65 = .ok (.iconst 1, 1) := by decide +kernel
theorem d_Dk_tryReceive_66 : decode b_Dk_tryReceive 66 = .ok (.invokevirtual 158, 3) := by decide +kernel
theorem d_Dk_tryReceive_69 : decode b_Dk_tryReceive 69 = .ok (.iconst 1, 1) := by decide +kernel
theorem d_Dk_tryReceive_70 : decode b_Dk_tryReceive 70 = .ok (.ireturn, 1) := by decide +kernel
theorem d_Dk_tryReceive_71 : decode b_Dk_tryReceive 71 = .ok (.aload_n 0, 1) := by decide +kernel
theorem d_Dk_tryReceive_72 : decode b_Dk_tryReceive 72 = .ok (.getfield 10, 3) := by decide +kernel
theorem d_Dk_tryReceive_75 : decode b_Dk_tryReceive 75 = .ok (.iload_n 2, 1) := by decide +kernel
theorem d_Dk_tryReceive_76 : decode b_Dk_tryReceive 76 = .ok (.invokevirtual 89, 3) := by decide +kernel
theorem d_Dk_tryReceive_79 : decode b_Dk_tryReceive 79 = .ok (.ifCond .eq 12, 3) := by decide +kernel
theorem d_Dk_tryReceive_82 : decode b_Dk_tryReceive 82 = .ok (.aload_n 0, 1) := by decide +kernel
theorem d_Dk_tryReceive_83 : decode b_Dk_tryReceive 83 = .ok (.iload_n 1, 1) := by decide +kernel
theorem d_Dk_tryReceive_84 : decode b_Dk_tryReceive 84 = .ok (.iconst 0, 1) := by decide +kernel
theorem d_Dk_tryReceive_85 : decode b_Dk_tryReceive 85 = .ok (.iconst 0, 1) := by decide +kernel
theorem d_Dk_tryReceive_86 : decode b_Dk_tryReceive 86 = .ok (.invokevirtual 158, 3) := by decide +kernel
theorem d_Dk_tryReceive_89 : decode b_Dk_tryReceive 89 = .ok (.iconst 1, 1) := by decide +kernel
theorem d_Dk_tryReceive_90 : decode b_Dk_tryReceive 90 = .ok (.ireturn, 1) := by decide +kernel
theorem d_Dk_tryReceive_91 : decode b_Dk_tryReceive 91 = .ok (.iconst 2, 1) := by decide +kernel
theorem d_Dk_tryReceive_92 : decode b_Dk_tryReceive 92 = .ok (.ireturn, 1) := by decide +kernel
theorem d_Dk_takeFromSender_0 : decode b_Dk_takeFromSender 0 = .ok (.aload_n 0, 1) := by decide +kernel
theorem d_Dk_takeFromSender_1 : decode b_Dk_takeFromSender 1 = .ok (.getfield 19, 3) := by decide +kernel
theorem d_Dk_takeFromSender_4 : decode b_Dk_takeFromSender 4 = .ok (.iload_n 1, 1) := by decide +kernel
theorem d_Dk_takeFromSender_5 : decode b_Dk_takeFromSender 5 = .ok (.invokevirtual 172, 3) := by decide +kernel
theorem d_Dk_takeFromSender_8 : decode b_Dk_takeFromSender 8 = .ok (.istore_n 2, 1) := by decide +kernel
theorem d_Dk_takeFromSender_9 : decode b_Dk_takeFromSender 9 = .ok (.aload_n 0, 1) := by decide +kernel
theorem d_Dk_takeFromSender_10 : decode b_Dk_takeFromSender 10 = .ok (.dup, 1) := by decide +kernel
theorem d_Dk_takeFromSender_11 : decode b_Dk_takeFromSender 11 = .ok (.getfield 126, 3) := by decide +kernel
theorem d_Dk_takeFromSender_14 : decode b_Dk_takeFromSender 14 = .ok (.iconst 1, 1) := by decide +kernel
theorem d_Dk_takeFromSender_15 : decode b_Dk_takeFromSender 15 = .ok (.iadd, 1) := by decide +kernel
theorem d_Dk_takeFromSender_16 : decode b_Dk_takeFromSender 16 = .ok (.putfield 126, 3) := by decide +kernel
theorem d_Dk_takeFromSender_19 : decode b_Dk_takeFromSender 19 = .ok (.aload_n 0, 1) := by decide +kernel
theorem d_Dk_takeFromSender_20 : decode b_Dk_takeFromSender 20 = .ok (.iload_n 1, 1) := by decide +kernel
theorem d_Dk_takeFromSender_21 : decode b_Dk_takeFromSender 21 = .ok (.invokevirtual 155, 3) := by decide +kernel
theorem d_Dk_takeFromSender_24 : decode b_Dk_takeFromSender 24 = .ok (.iload_n 2, 1) := by decide +kernel
theorem d_Dk_takeFromSender_25 : decode b_Dk_takeFromSender 25 = .ok (.ireturn, 1) := by decide +kernel
theorem d_Dk_hand_0 : decode b_Dk_hand 0 = .ok (.aload_n 0, 1) := by decide +kernel
theorem d_Dk_hand_1 : decode b_Dk_hand 1 = .ok (.getfield 34, 3) := by decide +kernel
theorem d_Dk_hand_4 : decode b_Dk_hand 4 = .ok (.iload_n 1, 1) := by decide +kernel
theorem d_Dk_hand_5 : decode b_Dk_hand 5 = .ok (.iload_n 2, 1) := by decide +kernel
theorem d_Dk_hand_6 : decode b_Dk_hand 6 = .ok (.iastore, 1) := by decide +kernel
theorem d_Dk_hand_7 : decode b_Dk_hand 7 = .ok (.aload_n 0, 1) := by decide +kernel
theorem d_Dk_hand_8 : decode b_Dk_hand 8 = .ok (.getfield 37, 3) := by decide +kernel
theorem d_Dk_hand_11 : decode b_Dk_hand 11 = .ok (.iload_n 1, 1) := by decide +kernel
theorem d_Dk_hand_12 : decode b_Dk_hand 12 = .ok (.iload_n 3, 1) := by decide +kernel
theorem d_Dk_hand_13 : decode b_Dk_hand 13 = .ok (.iastore, 1) := by decide +kernel
theorem d_Dk_hand_14 : decode b_Dk_hand 14 = .ok (.return_, 1) := by decide +kernel
theorem d_Dk_sufferFault_0 : decode b_Dk_sufferFault 0 = .ok (.aload_n 0, 1) := by decide +kernel
theorem d_Dk_sufferFault_1 : decode b_Dk_sufferFault 1 = .ok (.getfield 30, 3) := by decide +kernel
theorem d_Dk_sufferFault_4 : decode b_Dk_sufferFault 4 = .ok (.iload_n 1, 1) := by decide +kernel
theorem d_Dk_sufferFault_5 : decode b_Dk_sufferFault 5 = .ok (.iconst 4, 1) := by decide +kernel
theorem d_Dk_sufferFault_6 : decode b_Dk_sufferFault 6 = .ok (.iastore, 1) := by decide +kernel
theorem d_Dk_sufferFault_7 : decode b_Dk_sufferFault 7 = .ok (.aload_n 0, 1) := by decide +kernel
theorem d_Dk_sufferFault_8 : decode b_Dk_sufferFault 8 = .ok (.dup, 1) := by decide +kernel
theorem d_Dk_sufferFault_9 : decode b_Dk_sufferFault 9 = .ok (.getfield 130, 3) := by decide +kernel
theorem d_Dk_sufferFault_12 : decode b_Dk_sufferFault 12 = .ok (.iconst 1, 1) := by decide +kernel
theorem d_Dk_sufferFault_13 : decode b_Dk_sufferFault 13 = .ok (.iadd, 1) := by decide +kernel
theorem d_Dk_sufferFault_14 : decode b_Dk_sufferFault 14 = .ok (.putfield 130, 3) := by decide +kernel
theorem d_Dk_sufferFault_17 : decode b_Dk_sufferFault 17 = .ok (.return_, 1) := by decide +kernel
theorem d_Dk_endWait_0 : decode b_Dk_endWait 0 = .ok (.iload_n 1, 1) := by decide +kernel
theorem d_Dk_endWait_1 : decode b_Dk_endWait 1 = .ok (.invokestatic 107, 3) := by decide +kernel
theorem d_Dk_endWait_4 : decode b_Dk_endWait 4 = .ok (.istore_n 2, 1) := by decide +kernel
theorem d_Dk_endWait_5 : decode b_Dk_endWait 5 = .ok (.aload_n 0, 1) := by decide +kernel
theorem d_Dk_endWait_6 : decode b_Dk_endWait 6 = .ok (.getfield 30, 3) := by decide +kernel
theorem d_Dk_endWait_9 : decode b_Dk_endWait 9 = .ok (.iload_n 2, 1) := by decide +kernel
theorem d_Dk_endWait_10 : decode b_Dk_endWait 10 = .ok (.iaload, 1) := by decide +kernel
theorem d_Dk_endWait_11 : decode b_Dk_endWait 11 = .ok (.iconst 3, 1) := by decide +kernel
theorem d_Dk_endWait_12 : decode b_Dk_endWait 12 = .ok (.if_icmp .ne 13, 3) := by decide +kernel
theorem d_Dk_endWait_15 : decode b_Dk_endWait 15 = .ok (.aload_n 0, 1) := by decide +kernel
theorem d_Dk_endWait_16 : decode b_Dk_endWait 16 = .ok (.getfield 40, 3) := by decide +kernel
theorem d_Dk_endWait_19 : decode b_Dk_endWait 19 = .ok (.iload_n 2, 1) := by decide +kernel
theorem d_Dk_endWait_20 : decode b_Dk_endWait 20 = .ok (.iload_n 1, 1) := by decide +kernel
theorem d_Dk_endWait_21 : decode b_Dk_endWait 21 = .ok (.invokestatic 174, 3) := by decide +kernel
theorem d_Dk_endWait_24 : decode b_Dk_endWait 24 = .ok (.iastore, 1) := by decide +kernel
theorem d_Dk_endWait_25 : decode b_Dk_endWait 25 = .ok (.aload_n 0, 1) := by decide +kernel
theorem d_Dk_endWait_26 : decode b_Dk_endWait 26 = .ok (.getfield 26, 3) := by decide +kernel
theorem d_Dk_endWait_29 : decode b_Dk_endWait 29 = .ok (.iload_n 2, 1) := by decide +kernel
theorem d_Dk_endWait_30 : decode b_Dk_endWait 30 = .ok (.invokevirtual 177, 3) := by decide +kernel
theorem d_Dk_endWait_33 : decode b_Dk_endWait 33 = .ok (.aload_n 0, 1) := by decide +kernel
theorem d_Dk_endWait_34 : decode b_Dk_endWait 34 = .ok (.iload_n 2, 1) := by decide +kernel
theorem d_Dk_endWait_35 : decode b_Dk_endWait 35 = .ok (.invokevirtual 57, 3) := by decide +kernel
theorem d_Dk_endWait_38 : decode b_Dk_endWait 38 = .ok (.return_, 1) := by decide +kernel
theorem d_Dk_wakeAtShutChannel_0 : decode b_Dk_wakeAtShutChannel 0 = .ok (.iload_n 1, 1) := by decide +kernel
theorem d_Dk_wakeAtShutChannel_1 : decode b_Dk_wakeAtShutChannel 1 = .ok (.invokestatic 107, 3) := by decide +kernel
theorem d_Dk_wakeAtShutChannel_4 : decode b_Dk_wakeAtShutChannel 4 = .ok (.istore_n 2, 1) := by decide +kernel
theorem d_Dk_wakeAtShutChannel_5 : decode b_Dk_wakeAtShutChannel 5 = .ok (.aload_n 0, 1) := by decide +kernel
theorem d_Dk_wakeAtShutChannel_6 : decode b_Dk_wakeAtShutChannel 6 = .ok (.getfield 19, 3) := by decide +kernel
theorem d_Dk_wakeAtShutChannel_9 : decode b_Dk_wakeAtShutChannel 9 = .ok (.iload_n 1, 1) := by decide +kernel
theorem d_Dk_wakeAtShutChannel_10 : decode b_Dk_wakeAtShutChannel 10 = .ok (.invokevirtual 180, 3) := by decide +kernel
theorem d_Dk_wakeAtShutChannel_13 : decode b_Dk_wakeAtShutChannel 13 = .ok (.istore_n 3, 1) := by decide +kernel
theorem d_Dk_wakeAtShutChannel_14 : decode b_Dk_wakeAtShutChannel 14 = .ok (.aload_n 0, 1) := by decide +kernel
theorem d_Dk_wakeAtShutChannel_15 : decode b_Dk_wakeAtShutChannel 15 = .ok (.iload_n 1, 1) := by decide +kernel
theorem d_Dk_wakeAtShutChannel_16 : decode b_Dk_wakeAtShutChannel 16 = .ok (.invokevirtual 155, 3) := by decide +kernel
theorem d_Dk_wakeAtShutChannel_19 : decode b_Dk_wakeAtShutChannel 19 = .ok (.iload_n 3, 1) := by decide +kernel
theorem d_Dk_wakeAtShutChannel_20 : decode b_Dk_wakeAtShutChannel 20 = .ok (.ifCond .ne 11, 3) := by decide +kernel
theorem d_Dk_wakeAtShutChannel_23 : decode b_Dk_wakeAtShutChannel 23 = .ok (.aload_n 0, 1) := by decide +kernel
theorem d_Dk_wakeAtShutChannel_24 : decode b_Dk_wakeAtShutChannel 24 = .ok (.iload_n 2, 1) := by decide +kernel
theorem d_Dk_wakeAtShutChannel_25 : decode b_Dk_wakeAtShutChannel 25 = .ok (.invokevirtual 152, 3) := by decide +kernel
theorem d_Dk_wakeAtShutChannel_28 : decode b_Dk_wakeAtShutChannel 28 = .ok (.goto 10, 3) := by decide +kernel
theorem d_Dk_wakeAtShutChannel_31 : decode b_Dk_wakeAtShutChannel 31 = .ok (.aload_n 0, 1) := by decide +kernel
theorem d_Dk_wakeAtShutChannel_32 : decode b_Dk_wakeAtShutChannel 32 = .ok (.iload_n 2, 1) := by decide +kernel
theorem d_Dk_wakeAtShutChannel_33 : decode b_Dk_wakeAtShutChannel 33 = .ok (.iconst 0, 1) := by decide +kernel
theorem d_Dk_wakeAtShutChannel_34 : decode b_Dk_wakeAtShutChannel 34 = .ok (.iconst 0, 1) := by decide +kernel
theorem d_Dk_wakeAtShutChannel_35 : decode b_Dk_wakeAtShutChannel 35 = .ok (.invokevirtual 158, 3) := by decide +kernel
theorem d_Dk_wakeAtShutChannel_38 : decode b_Dk_wakeAtShutChannel 38 = .ok (.return_, 1) := by decide +kernel
theorem d_Dk_doCase_0 : decode b_Dk_doCase 0 = .ok (.iload_n 2, 1) := by decide +kernel
theorem d_Dk_doCase_1 : decode b_Dk_doCase 1 = .ok (.iconst (-1), 1) := by decide +kernel
theorem d_Dk_doCase_2 : decode b_Dk_doCase 2 = .ok (.if_icmp .ne 5, 3) := by decide +kernel
theorem d_Dk_doCase_5 : decode b_Dk_doCase 5 = .ok (.iconst (-1), 1) := by decide +kernel
theorem d_Dk_doCase_6 : decode b_Dk_doCase 6 = .ok (.ireturn, 1) := by decide +kernel
theorem d_Dk_doCase_7 : decode b_Dk_doCase 7 = .ok (.aload_n 0, 1) := by decide +kernel
theorem d_Dk_doCase_8 : decode b_Dk_doCase 8 = .ok (.getfield 19, 3) := by decide +kernel
theorem d_Dk_doCase_11 : decode b_Dk_doCase 11 = .ok (.iload_n 2, 1) := by decide +kernel
theorem d_Dk_doCase_12 : decode b_Dk_doCase 12 = .ok (.invokevirtual 183, 3) := by decide +kernel
theorem d_Dk_doCase_15 : decode b_Dk_doCase 15 = .ok (.istore_n 3, 1) := by decide +kernel
theorem d_Dk_doCase_16 : decode b_Dk_doCase 16 = .ok (.aload_n 0, 1) := by decide +kernel
theorem d_Dk_doCase_17 : decode b_Dk_doCase 17 = .ok (.getfield 19, 3) := by decide +kernel
theorem d_Dk_doCase_20 : decode b_Dk_doCase 20 = .ok (.iload_n 2, 1) := by decide +kernel
theorem d_Dk_doCase_21 : decode b_Dk_doCase 21 = .ok (.invokevirtual 180, 3) := by decide +kernel
theorem d_Dk_doCase_24 : decode b_Dk_doCase 24 = .ok (.istore 4, 2) := by decide +kernel
theorem d_Dk_doCase_26 : decode b_Dk_doCase 26 = .ok (.aload_n 0, 1) := by decide +kernel
theorem d_Dk_doCase_27 : decode b_Dk_doCase 27 = .ok (.getfield 19, 3) := by decide +kernel
theorem d_Dk_doCase_30 : decode b_Dk_doCase 30 = .ok (.iload_n 2, 1) := by decide +kernel
theorem d_Dk_doCase_31 : decode b_Dk_doCase 31 = .ok (.invokevirtual 172, 3) := by decide +kernel
theorem d_Dk_doCase_34 : decode b_Dk_doCase 34 = .ok (.istore 5, 2) := by decide +kernel
theorem d_Dk_doCase_36 : decode b_Dk_doCase 36 = .ok (.aload_n 0, 1) := by decide +kernel
theorem d_Dk_doCase_37 : decode b_Dk_doCase 37 = .ok (.iload_n 1, 1) := by decide +kernel
theorem d_Dk_doCase_38 : decode b_Dk_doCase 38 = .ok (.invokevirtual 57, 3) := by decide +kernel
theorem d_Dk_doCase_41 : decode b_Dk_doCase 41 = .ok (.aload_n 0, 1) := by decide +kernel
theorem d_Dk_doCase_42 : decode b_Dk_doCase 42 = .ok (.getfield 40, 3) := by decide +kernel
theorem d_Dk_doCase_45 : decode b_Dk_doCase 45 = .ok (.iload_n 1, 1) := by decide +kernel
theorem d_Dk_doCase_46 : decode b_Dk_doCase 46 = .ok (.iload_n 2, 1) := by decide +kernel
theorem d_Dk_doCase_47 : decode b_Dk_doCase 47 = .ok (.invokestatic 174, 3) := by decide +kernel
theorem d_Dk_doCase_50 : decode b_Dk_doCase 50 = .ok (.iastore, 1) := by decide +kernel
theorem d_Dk_doCase_51 : decode b_Dk_doCase 51 = .ok (.iload 4, 2) := by decide +kernel
theorem d_Dk_doCase_53 : decode b_Dk_doCase 53 = .ok (.ifCond .ne 14, 3) := by decide +kernel
theorem d_Dk_doCase_56 : decode b_Dk_doCase 56 = .ok (.aload_n 0, 1) := by decide +kernel
theorem d_Dk_doCase_57 : decode b_Dk_doCase 57 = .ok (.iload_n 1, 1) := by decide +kernel
theorem d_Dk_doCase_58 : decode b_Dk_doCase 58 = .ok (.iload_n 3, 1) := by decide +kernel
theorem d_Dk_doCase_59 : decode b_Dk_doCase 59 = .ok (.iload 5, 2) := by decide +kernel
theorem d_Dk_doCase_61 : decode b_Dk_doCase 61 = .ok (.invokevirtual 61, 3) := by decide +kernel
theorem d_Dk_doCase_64 : decode b_Dk_doCase 64 = .ok (.goto 9, 3) := by decide +kernel
theorem d_Dk_doCase_67 : decode b_Dk_doCase 67 = .ok (.aload_n 0, 1) := by decide +kernel
theorem d_Dk_doCase_68 : decode b_Dk_doCase 68 = .ok (.iload_n 1, 1) := by decide +kernel
theorem d_Dk_doCase_69 : decode b_Dk_doCase 69 = .ok (.iload_n 3, 1) := by decide +kernel
theorem d_Dk_doCase_70 : decode b_Dk_doCase 70 = .ok (.invokevirtual 73, 3) := by decide +kernel
theorem d_Dk_doCase_73 : decode b_Dk_doCase 73 = .ok (.istore 6, 2) := by decide +kernel
theorem d_Dk_doCase_75 : decode b_Dk_doCase 75 = .ok (.iload 6, 2) := by decide +kernel
theorem d_Dk_doCase_77 : decode b_Dk_doCase 77 = .ok (.iconst 3, 1) := by decide +kernel
theorem d_Dk_doCase_78 : decode b_Dk_doCase 78 = .ok (.if_icmp .ne 8, 3) := by decide +kernel
theorem d_Dk_doCase_81 : decode b_Dk_doCase 81 = .ok (.bipush 12, 2) := by decide +kernel
theorem d_Dk_doCase_83 : decode b_Dk_doCase 83 = .ok (.goto 7, 3) := by decide +kernel
theorem d_Dk_doCase_86 : decode b_Dk_doCase 86 = .ok (.iload_n 2, 1) := by decide +kernel
theorem d_Dk_doCase_87 : decode b_Dk_doCase 87 = .ok (.invokestatic 174, 3) := by decide +kernel
theorem d_Dk_doCase_90 : decode b_Dk_doCase 90 = .ok (.ireturn, 1) := by decide +kernel
theorem d_Dk_countPossible_0 : decode b_Dk_countPossible 0 = .ok (.iconst 0, 1) := by decide +kernel
theorem d_Dk_countPossible_1 : decode b_Dk_countPossible 1 = .ok (.istore_n 2, 1) := by decide +kernel
theorem d_Dk_countPossible_2 : decode b_Dk_countPossible 2 = .ok (.iconst 0, 1) := by decide +kernel
theorem d_Dk_countPossible_3 : decode b_Dk_countPossible 3 = .ok (.istore_n 3, 1) := by decide +kernel
theorem d_Dk_countPossible_4 : decode b_Dk_countPossible 4 = .ok (.iload_n 3, 1) := by decide +kernel
theorem d_Dk_countPossible_5 : decode b_Dk_countPossible 5 = .ok (.aload_n 0, 1) := by decide +kernel
theorem d_Dk_countPossible_6 : decode b_Dk_countPossible 6 = .ok (.getfield 19, 3) := by decide +kernel
theorem d_Dk_countPossible_9 : decode b_Dk_countPossible 9 = .ok (.iload_n 1, 1) := by decide +kernel
theorem d_Dk_countPossible_10 : decode b_Dk_countPossible 10 = .ok (.invokevirtual 186, 3) := by decide +kernel
theorem d_Dk_countPossible_13 : decode b_Dk_countPossible 13 = .ok (.if_icmp .ge 24, 3) := by decide +kernel
theorem d_Dk_countPossible_16 : decode b_Dk_countPossible 16 = .ok (.aload_n 0, 1) := by decide +kernel
theorem d_Dk_countPossible_17 : decode b_Dk_countPossible 17 = .ok (.iload_n 1, 1) := by decide +kernel
theorem d_Dk_countPossible_18 : decode b_Dk_countPossible 18 = .ok (.iload_n 3, 1) := by decide +kernel
theorem d_Dk_countPossible_19 : decode b_Dk_countPossible 19 = .ok (.invokestatic 189, 3) := by decide +kernel
theorem d_Dk_countPossible_22 : decode b_Dk_countPossible 22 = .ok (.invokevirtual 192, 3) := by decide +kernel
theorem d_Dk_countPossible_25 : decode b_Dk_countPossible 25 = .ok (.ifCond .eq 6, 3) := by decide +kernel
theorem d_Dk_countPossible_28 : decode b_Dk_countPossible 28 = .ok (.iinc 2 1, 3) := by decide +kernel
theorem d_Dk_countPossible_31 : decode b_Dk_countPossible 31 = .ok (.iinc 3 1, 3) := by decide +kernel
theorem d_Dk_countPossible_34 : decode b_Dk_countPossible 34 = .ok (.goto (-30), 3) := by decide +kernel
theorem d_Dk_countPossible_37 : decode b_Dk_countPossible 37 = .ok (.iload_n 2, 1) := by decide +kernel
theorem d_Dk_countPossible_38 : decode b_Dk_countPossible 38 = .ok (.ireturn, 1) := by decide +kernel
theorem d_Dk_findPossible_0 : decode b_Dk_findPossible 0 = .ok (.iconst 0, 1) := by decide +kernel
theorem d_Dk_findPossible_1 : decode b_Dk_findPossible 1 = .ok (.istore_n 3, 1) := by decide +kernel
theorem d_Dk_findPossible_2 : decode b_Dk_findPossible 2 = .ok (.iconst 0, 1) := by decide +kernel
theorem d_Dk_findPossible_3 : decode b_Dk_findPossible 3 = .ok (.istore 4, 2) := by decide +kernel
theorem d_Dk_findPossible_5 : decode b_Dk_findPossible 5 = .ok (.iload 4, 2) := by decide +kernel
theorem d_Dk_findPossible_7 : decode b_Dk_findPossible 7 = .ok (.aload_n 0, 1) := by decide +kernel
theorem d_Dk_findPossible_8 : decode b_Dk_findPossible 8 = .ok (.getfield 19, 3) := by decide +kernel
theorem d_Dk_findPossible_11 : decode b_Dk_findPossible 11 = .ok (.iload_n 1, 1) := by decide +kernel
theorem d_Dk_findPossible_12 : decode b_Dk_findPossible 12 = .ok (.invokevirtual 186, 3) := by decide +kernel
theorem d_Dk_findPossible_15 : decode b_Dk_findPossible 15 = .ok (.if_icmp .ge 37, 3) := by decide +kernel
theorem d_Dk_findPossible_18 : decode b_Dk_findPossible 18 = .ok (.iload_n 1, 1) := by decide +kernel
theorem d_Dk_findPossible_19 : decode b_Dk_findPossible 19 = .ok (.iload 4, 2) := by decide +kernel
theorem d_Dk_findPossible_21 : decode b_Dk_findPossible 21 = .ok (.invokestatic 189, 3) := by decide +kernel
theorem d_Dk_findPossible_24 : decode b_Dk_findPossible 24 = .ok (.istore 5, 2) := by decide +kernel
theorem d_Dk_findPossible_26 : decode b_Dk_findPossible 26 = .ok (.aload_n 0, 1) := by decide +kernel
theorem d_Dk_findPossible_27 : decode b_Dk_findPossible 27 = .ok (.iload 5, 2) := by decide +kernel
theorem d_Dk_findPossible_29 : decode b_Dk_findPossible 29 = .ok (.invokevirtual 192, 3) := by decide +kernel
theorem d_Dk_findPossible_32 : decode b_Dk_findPossible 32 = .ok (.ifCond .eq 14, 3) := by decide +kernel
theorem d_Dk_findPossible_35 : decode b_Dk_findPossible 35 = .ok (.iload_n 3, 1) := by decide +kernel
theorem d_Dk_findPossible_36 : decode b_Dk_findPossible 36 = .ok (.iload_n 2, 1) := by decide +kernel
theorem d_Dk_findPossible_37 : decode b_Dk_findPossible 37 = .ok (.if_icmp .ne 6, 3) := by decide +kernel
theorem d_Dk_findPossible_40 : decode b_Dk_findPossible 40 = .ok (.iload 5, 2) := by decide +kernel
theorem d_Dk_findPossible_42 : decode b_Dk_findPossible 42 = .ok (.ireturn, 1) := by decide +kernel
theorem d_Dk_findPossible_43 : decode b_Dk_findPossible 43 = .ok (.iinc 3 1, 3) := by decide +kernel
theorem d_Dk_findPossible_46 : decode b_Dk_findPossible 46 = .ok (.iinc 4 1, 3) := by decide +kernel
theorem d_Dk_findPossible_49 : decode b_Dk_findPossible 49 = .ok (.goto (-44), 3) := by decide +kernel
theorem d_Dk_findPossible_52 : decode b_Dk_findPossible 52 = .ok (.iconst (-1), 1) := by decide +kernel
theorem d_Dk_findPossible_53 : decode b_Dk_findPossible 53 = .ok (.ireturn, 1) := by decide +kernel
theorem d_Dk_isPossible_0 : decode b_Dk_isPossible 0 = .ok (.aload_n 0, 1) := by decide +kernel
theorem d_Dk_isPossible_1 : decode b_Dk_isPossible 1 = .ok (.getfield 19, 3) := by decide +kernel
theorem d_Dk_isPossible_4 : decode b_Dk_isPossible 4 = .ok (.iload_n 1, 1) := by decide +kernel
theorem d_Dk_isPossible_5 : decode b_Dk_isPossible 5 = .ok (.invokevirtual 183, 3) := by decide +kernel
theorem d_Dk_isPossible_8 : decode b_Dk_isPossible 8 = .ok (.istore_n 2, 1) := by decide +kernel
theorem d_Dk_isPossible_9 : decode b_Dk_isPossible 9 = .ok (.aload_n 0, 1) := by decide +kernel
theorem d_Dk_isPossible_10 : decode b_Dk_isPossible 10 = .ok (.getfield 10, 3) := by decide +kernel
theorem d_Dk_isPossible_13 : decode b_Dk_isPossible 13 = .ok (.iload_n 2, 1) := by decide +kernel
theorem d_Dk_isPossible_14 : decode b_Dk_isPossible 14 = .ok (.invokevirtual 89, 3) := by decide +kernel
theorem d_Dk_isPossible_17 : decode b_Dk_isPossible 17 = .ok (.ifCond .eq 5, 3) := by decide +kernel
theorem d_Dk_isPossible_20 : decode b_Dk_isPossible 20 = .ok (.iconst 1, 1) := by decide +kernel
theorem d_Dk_isPossible_21 : decode b_Dk_isPossible 21 = .ok (.ireturn, 1) := by decide +kernel
theorem d_Dk_isPossible_22 : decode b_Dk_isPossible 22 = .ok (.aload_n 0, 1) := by decide +kernel
theorem d_Dk_isPossible_23 : decode b_Dk_isPossible 23 = .ok (.getfield 19, 3) := by decide +kernel
theorem d_Dk_isPossible_26 : decode b_Dk_isPossible 26 = .ok (.iload_n 1, 1) := by decide +kernel
theorem d_Dk_isPossible_27 : decode b_Dk_isPossible 27 = .ok (.invokevirtual 180, 3) := by decide +kernel
theorem d_Dk_isPossible_30 : decode b_Dk_isPossible 30 = .ok (.ifCond .ne 30, 3) := by decide +kernel
theorem d_Dk_isPossible_33 : decode b_Dk_isPossible 33 = .ok (.aload_n 0, 1) := by decide +kernel
theorem d_Dk_isPossible_34 : decode b_Dk_isPossible 34 = .ok (.getfield 10, 3) := by decide +kernel
theorem d_Dk_isPossible_37 : decode b_Dk_isPossible 37 = .ok (.iload_n 2, 1) := by decide +kernel
theorem d_Dk_isPossible_38 : decode b_Dk_isPossible 38 = .ok (.invokevirtual 195, 3) := by decide +kernel
theorem d_Dk_isPossible_41 : decode b_Dk_isPossible 41 = .ok (.ifCond .ne 13, 3) := by decide +kernel
theorem d_Dk_isPossible_44 : decode b_Dk_isPossible 44 = .ok (.aload_n 0, 1) := by decide +kernel
theorem d_Dk_isPossible_45 : decode b_Dk_isPossible 45 = .ok (.iload_n 2, 1) := by decide +kernel
theorem d_Dk_isPossible_46 : decode b_Dk_isPossible 46 = .ok (.iconst 1, 1) := by decide +kernel
theorem d_Dk_isPossible_47 : decode b_Dk_isPossible 47 = .ok (.invokevirtual 95, 3) := by decide +kernel
theorem d_Dk_isPossible_50 : decode b_Dk_isPossible 50 = .ok (.iconst (-1), 1) := by decide +kernel
theorem d_Dk_isPossible_51 : decode b_Dk_isPossible 51 = .ok (.if_icmp .eq 7, 3) := by decide +kernel
theorem d_Dk_isPossible_54 : decode b_Dk_isPossible 54 = .ok (.iconst 1, 1) := by decide +kernel
theorem d_Dk_isPossible_55 : decode b_Dk_isPossible 55 = .ok (.goto 4, 3) := by decide +kernel
theorem d_Dk_isPossible_58 : decode b_Dk_isPossible 58 = .ok (.iconst 0, 1) := by decide +kernel
theorem d_Dk_isPossible_59 : decode b_Dk_isPossible 59 = .ok (.ireturn, 1) := by decide +kernel
theorem d_Dk_isPossible_60 : decode b_Dk_isPossible 60 = .ok (.aload_n 0, 1) := by decide +kernel
theorem d_Dk_isPossible_61 : decode b_Dk_isPossible 61 = .ok (.getfield 10, 3) := by decide +kernel
theorem d_Dk_isPossible_64 : decode b_Dk_isPossible 64 = .ok (.iload_n 2, 1) := by decide +kernel
theorem d_Dk_isPossible_65 : decode b_Dk_isPossible 65 = .ok (.invokevirtual 110, 3) := by decide +kernel
theorem d_Dk_isPossible_68 : decode b_Dk_isPossible 68 = .ok (.ifCond .gt 13, 3) := by decide +kernel
theorem d_Dk_isPossible_71 : decode b_Dk_isPossible 71 = .ok (.aload_n 0, 1) := by decide +kernel
theorem d_Dk_isPossible_72 : decode b_Dk_isPossible 72 = .ok (.iload_n 2, 1) := by decide +kernel
theorem d_Dk_isPossible_73 : decode b_Dk_isPossible 73 = .ok (.iconst 0, 1) := by decide +kernel
theorem d_Dk_isPossible_74 : decode b_Dk_isPossible 74 = .ok (.invokevirtual 95, 3) := by decide +kernel
theorem d_Dk_isPossible_77 : decode b_Dk_isPossible 77 = .ok (.iconst (-1), 1) := by decide +kernel
theorem d_Dk_isPossible_78 : decode b_Dk_isPossible 78 = .ok (.if_icmp .eq 7, 3) := by decide +kernel
theorem d_Dk_isPossible_81 : decode b_Dk_isPossible 81 = .ok (.iconst 1, 1) := by decide +kernel
theorem d_Dk_isPossible_82 : decode b_Dk_isPossible 82 = .ok (.goto 4, 3) := by decide +kernel
theorem d_Dk_isPossible_85 : decode b_Dk_isPossible 85 = .ok (.iconst 0, 1) := by decide +kernel
theorem d_Dk_isPossible_86 : decode b_Dk_isPossible 86 = .ok (.ireturn, 1) := by decide +kernel
theorem d_Dk_firstWaiting_0 : decode b_Dk_firstWaiting 0 = .ok (.aload_n 0, 1) := by decide +kernel
theorem d_Dk_firstWaiting_1 : decode b_Dk_firstWaiting 1 = .ok (.iload_n 1, 1) := by decide +kernel
theorem d_Dk_firstWaiting_2 : decode b_Dk_firstWaiting 2 = .ok (.iload_n 2, 1) := by decide +kernel
theorem d_Dk_firstWaiting_3 : decode b_Dk_firstWaiting 3 = .ok (.iconst 0, 1) := by decide +kernel
theorem d_Dk_firstWaiting_4 : decode b_Dk_firstWaiting 4 = .ok (.invokevirtual 104, 3) := by decide +kernel
theorem d_Dk_firstWaiting_7 : decode b_Dk_firstWaiting 7 = .ok (.ireturn, 1) := by decide +kernel
theorem d_Dk_findWaiting_0 : decode b_Dk_findWaiting 0 = .ok (.iconst 0, 1) := by decide +kernel
theorem d_Dk_findWaiting_1 : decode b_Dk_findWaiting 1 = .ok (.istore 4, 2) := by decide +kernel
theorem d_Dk_findWaiting_3 : decode b_Dk_findWaiting 3 = .ok (.iconst 0, 1) := by decide +kernel
theorem d_Dk_findWaiting_4 : decode b_Dk_findWaiting 4 = .ok (.istore 5, 2) := by decide +kernel
theorem d_Dk_findWaiting_6 : decode b_Dk_findWaiting 6 = .ok (.iload 5, 2) := by decide +kernel
theorem d_Dk_findWaiting_8 : decode b_Dk_findWaiting 8 = .ok (.aload_n 0, 1) := by decide +kernel
theorem d_Dk_findWaiting_9 : decode b_Dk_findWaiting 9 = .ok (.getfield 26, 3) := by decide +kernel
theorem d_Dk_findWaiting_12 : decode b_Dk_findWaiting 12 = .ok (.invokevirtual 123, 3) := by decide +kernel
theorem d_Dk_findWaiting_15 : decode b_Dk_findWaiting 15 = .ok (.if_icmp .ge 47, 3) := by decide +kernel
theorem d_Dk_findWaiting_18 : decode b_Dk_findWaiting 18 = .ok (.aload_n 0, 1) := by decide +kernel
theorem d_Dk_findWaiting_19 : decode b_Dk_findWaiting 19 = .ok (.getfield 19, 3) := by decide +kernel
theorem d_Dk_findWaiting_22 : decode b_Dk_findWaiting 22 = .ok (.aload_n 0, 1) := by decide +kernel
theorem d_Dk_findWaiting_23 : decode b_Dk_findWaiting 23 = .ok (.getfield 26, 3) := by decide +kernel
theorem d_Dk_findWaiting_26 : decode b_Dk_findWaiting 26 = .ok (.iload 5, 2) := by decide +kernel
theorem d_Dk_findWaiting_28 : decode b_Dk_findWaiting 28 = .ok (.invokevirtual 198, 3) := by decide +kernel
theorem d_Dk_findWaiting_31 : decode b_Dk_findWaiting 31 = .ok (.iload_n 1, 1) := by decide +kernel
theorem d_Dk_findWaiting_32 : decode b_Dk_findWaiting 32 = .ok (.iload_n 2, 1) := by decide +kernel
theorem d_Dk_findWaiting_33 : decode b_Dk_findWaiting 33 = .ok (.invokevirtual 201, 3) := by decide +kernel
theorem d_Dk_findWaiting_36 : decode b_Dk_findWaiting 36 = .ok (.istore 6, 2) := by decide +kernel
theorem d_Dk_findWaiting_38 : decode b_Dk_findWaiting 38 = .ok (.iload 6, 2) := by decide +kernel
theorem d_Dk_findWaiting_40 : decode b_Dk_findWaiting 40 = .ok (.iconst (-1), 1) := by decide +kernel
theorem d_Dk_findWaiting_41 : decode b_Dk_findWaiting 41 = .ok (.if_icmp .eq 15, 3) := by decide +kernel
theorem d_Dk_findWaiting_44 : decode b_Dk_findWaiting 44 = .ok (.iload 4, 2) := by decide +kernel
theorem d_Dk_findWaiting_46 : decode b_Dk_findWaiting 46 = .ok (.iload_n 3, 1) := by decide +kernel
theorem d_Dk_findWaiting_47 : decode b_Dk_findWaiting 47 = .ok (.if_icmp .ne 6, 3) := by decide +kernel
theorem d_Dk_findWaiting_50 : decode b_Dk_findWaiting 50 = .ok (.iload 6, 2) := by decide +kernel
theorem d_Dk_findWaiting_52 : decode b_Dk_findWaiting 52 = .ok (.ireturn, 1) := by decide +kernel
theorem d_Dk_findWaiting_53 : decode b_Dk_findWaiting 53 = .ok (.iinc 4 1, 3) := by decide +kernel
theorem d_Dk_findWaiting_56 : decode b_Dk_findWaiting 56 = .ok (.iinc 5 1, 3) := by decide +kernel
theorem d_Dk_findWaiting_59 : decode b_Dk_findWaiting 59 = .ok (.goto (-53), 3) := by decide +kernel
theorem d_Dk_findWaiting_62 : decode b_Dk_findWaiting 62 = .ok (.iconst (-1), 1) := by decide +kernel
theorem d_Dk_findWaiting_63 : decode b_Dk_findWaiting 63 = .ok (.ireturn, 1) := by decide +kernel
end
section
set_option maxHeartbeats 4000000 in
set_option maxRecDepth 100000 in
theorem c_Ch_forgetAll (l : Launch) (G : va_G) (cI cZ cJ : ClassId) (sz : Nat) (a_ch : Nat) (a_rm : Nat) (a_hd : Nat) (a_sh : Nat) (a_vl : Nat) (n : Nat)  : Met l y_Ch_forgetAll (w_Ch_forgetAll) ({ frames := 0, cells := 0, slots := 0, locals := 0 }) (va_Pc [.ref a_ch] (kW G vwCl [(cI, .int), (cZ, .boolean), (cJ, .long)] [(a_ch, .inr (1, [.ref a_rm, .ref a_hd, .ref a_sh, .ref a_vl, .int (nI n)]))] sz)) (va_Qv (fun (u : Unit) => True) (fun u t => va_P G vwCl [(a_ch, .inr (1, [.ref a_rm, .ref a_hd, .ref a_sh, .ref a_vl, .int (nI 0)]))] t.heap) (va_A [(a_ch, .inr (1, [.ref a_rm, .ref a_hd, .ref a_sh, .ref a_vl, .int (nI n)]))] sz)) 0 0 (va_A [(a_ch, .inr (1, [.ref a_rm, .ref a_hd, .ref a_sh, .ref a_vl, .int (nI n)]))] sz) := by
  refine Met.ofW (cc := b_Ch_forgetAll) (maxL := 1) (ret := none) (by decide) rfl ?_
  intro p e s m args below meth c s₁ B hml hv
  obtain ⟨rfl, hsz, hP, hK, hD0⟩ := hv
  have hx := B.exec
  have hb := B.bytes
  have hr := B.returns
  have hts : ∀ w ∈ TT, w.before _ s = true := fun w h => atoms_spec (ws := (w_Ch_forgetAll)) B.pre w (List.mem_cons_of_mem _ h)
  have hown : s.vm.findClass R_Ch = some m.cls := findClass_of_methodNamed B.named
  have hlocks := B.notSynchronized
  subst hsz
  have hD := hD0.self (sz := s.heap.size)
  generalize hAe : va_A [(a_ch, .inr (1, [.ref a_rm, .ref a_hd, .ref a_sh, .ref a_vl, .int (nI n)]))] s.heap.size = A at hD ⊢
  have hA : ∀ q : Nat, s.heap.size ≤ q → A q := fun q h => by rw [← hAe]; exact Or.inr h
  have hS : va_S A s.heap s.heap [] := va_S.rf
  have hP : va_P G vwCl [(a_ch, .inr (1, [.ref a_rm, .ref a_hd, .ref a_sh, .ref a_vl, .int (nI n)]))] s.heap := hP
  have hl := lv_entry ([.ref a_ch]) (n := 1) (Nat.le_of_ble_eq_true rfl)
  rw [lg_entry_eq]
  generalize (lg_sl ([.ref a_ch]) ++ List.replicate (1 - (lg_sl ([.ref a_ch])).length) Slot.unset).toArray = ls at hl ⊢
  have hl : lv_has ls 1 [(0, .ref a_ch)] := hl
  refine lv_aload_n hx hb d_Ch_forgetAll_0 rfl (lv_at hl 0 rfl) ?_
  refine lv_iconst (v := (nI 0)) hx hb d_Ch_forgetAll_1 (by decide +kernel) ?_
  refine va_put (D := G) (ci := 1) (v := .int (nI 0)) (ty := .int) (C := R_Ch) (T := T_Ch) (N := 5) hx hb hts uw_Ch ty_Ch tyok_Ch nm_Ch hown hK hP hD hS 0 rfl rfl 4 (by decide) (hts _ t_56) (fun _ h9 => h9) rfl (by decide +kernel) rfl rfl (Nat.le_of_ble_eq_true rfl) d_Ch_forgetAll_2 (fun H locs hP hD hS => ?_)
  have hP : va_P G vwCl [(a_ch, .inr (1, [.ref a_rm, .ref a_hd, .ref a_sh, .ref a_vl, .int (nI 0)]))] H := hP
  have hD : va_D A [(a_ch, .inr (1, [.ref a_rm, .ref a_hd, .ref a_sh, .ref a_vl, .int (nI 0)]))] := hD
  exact k_wv hx hb hr hlocks hP hS () (rfl) (trivial) d_Ch_forgetAll_5
set_option maxHeartbeats 4000000 in
set_option maxRecDepth 100000 in
theorem c_Ch_number (l : Launch) (G : va_G) (cI cZ cJ : ClassId) (a_ch : Nat) (a_rm : Nat) (a_hd : Nat) (a_sh : Nat) (a_vl : Nat) (n : Nat)  : Met l y_Ch_number (w_Ch_number) ({ frames := 0, cells := 0, slots := 0, locals := 0 }) (va_Pc [.ref a_ch] (kR G vwCl [(cI, .int), (cZ, .boolean), (cJ, .long)] [(a_ch, .inr (1, [.ref a_rm, .ref a_hd, .ref a_sh, .ref a_vl, .int (nI n)]))])) (QcRead ((nI n))) 0 0 (fun _ => False) := by
  refine Met.ofW (cc := b_Ch_number) (maxL := 1) (ret := (some .int)) (by decide) rfl ?_
  intro p e s m args below meth c s₁ B hml hv
  obtain ⟨rfl, hP, hK⟩ := hv
  have hx := B.exec
  have hb := B.bytes
  have hr := B.returns
  have hts : ∀ w ∈ TT, w.before _ s = true := fun w h => atoms_spec (ws := (w_Ch_number)) B.pre w (List.mem_cons_of_mem _ h)
  have hown : s.vm.findClass R_Ch = some m.cls := findClass_of_methodNamed B.named
  have hlocks := B.notSynchronized
  have hP : va_P G vwCl [(a_ch, .inr (1, [.ref a_rm, .ref a_hd, .ref a_sh, .ref a_vl, .int (nI n)]))] s.heap := hP
  have hl := lv_entry ([.ref a_ch]) (n := 1) (Nat.le_of_ble_eq_true rfl)
  rw [lg_entry_eq]
  generalize (lg_sl ([.ref a_ch]) ++ List.replicate (1 - (lg_sl ([.ref a_ch])).length) Slot.unset).toArray = ls at hl ⊢
  have hl : lv_has ls 1 [(0, .ref a_ch)] := hl
  refine lv_aload_n hx hb d_Ch_number_0 rfl (lv_at hl 0 rfl) ?_
  refine va_get (D := G) (ci := 1) (v := .int (nI n)) (C := R_Ch) (T := T_Ch) (N := 5) hx hb hts uw_Ch hown hK hP 0 rfl rfl 4 (by decide) (hts _ t_56) (fun _ h9 => h9) rfl d_Ch_number_1 ?_
  exact k_ri hx hb hr hlocks (rfl) d_Ch_number_4
set_option maxHeartbeats 4000000 in
set_option maxRecDepth 100000 in
theorem c_Ch_has (l : Launch) (G : va_G) (cI cZ cJ : ClassId) (a_ch : Nat) (a_rm : Nat) (a_hd : Nat) (a_sh : Nat) (a_vl : Nat) (n : Nat) (y : Int32)  : Met l y_Ch_has (w_Ch_has) ({ frames := 0, cells := 0, slots := 0, locals := 0 }) (va_Pc [.ref a_ch, .int y] (kR G vwCl [(cI, .int), (cZ, .boolean), (cJ, .long)] [(a_ch, .inr (1, [.ref a_rm, .ref a_hd, .ref a_sh, .ref a_vl, .int (nI n)]))])) (QcRead ((bI (hasB n y)))) 0 0 (fun _ => False) := by
  refine Met.ofW (cc := b_Ch_has) (maxL := 2) (ret := (some .boolean)) (by decide) rfl ?_
  intro p e s m args below meth c s₁ B hml hv
  obtain ⟨rfl, hP, hK⟩ := hv
  have hx := B.exec
  have hb := B.bytes
  have hr := B.returns
  have hts : ∀ w ∈ TT, w.before _ s = true := fun w h => atoms_spec (ws := (w_Ch_has)) B.pre w (List.mem_cons_of_mem _ h)
  have hown : s.vm.findClass R_Ch = some m.cls := findClass_of_methodNamed B.named
  have hlocks := B.notSynchronized
  have hP : va_P G vwCl [(a_ch, .inr (1, [.ref a_rm, .ref a_hd, .ref a_sh, .ref a_vl, .int (nI n)]))] s.heap := hP
  have hl := lv_entry ([.ref a_ch, .int y]) (n := 2) (Nat.le_of_ble_eq_true rfl)
  rw [lg_entry_eq]
  generalize (lg_sl ([.ref a_ch, .int y]) ++ List.replicate (2 - (lg_sl ([.ref a_ch, .int y])).length) Slot.unset).toArray = ls at hl ⊢
  have hl : lv_has ls 2 [(0, .ref a_ch), (1, .int y)] := hl
  refine lv_iload_n hx hb d_Ch_has_0 rfl (lv_at hl 1 rfl) ?_
  refine lv_if_lt (tgt := 16) hx hb d_Ch_has_1 (by decide) (fun c_a => ?_) (fun c_a => ?_)
  · refine lv_iconst (v := (nI 0)) hx hb d_Ch_has_16 (by decide +kernel) ?_
    exact k_rz hx hb hr hlocks (by decide +kernel) (bI_df (fun z => z.1 c_a)) d_Ch_has_17
  · refine lv_iload_n hx hb d_Ch_has_4 rfl (lv_at hl 1 rfl) ?_
    refine lv_aload_n hx hb d_Ch_has_5 rfl (lv_at hl 0 rfl) ?_
    refine va_get (D := G) (ci := 1) (v := .int (nI n)) (C := R_Ch) (T := T_Ch) (N := 5) hx hb hts uw_Ch hown hK hP 0 rfl rfl 4 (by decide) (hts _ t_56) (fun _ h9 => h9) rfl d_Ch_has_6 ?_
    refine lv_icmp_ge (tgt := 16) hx hb d_Ch_has_9 (by decide) (fun c_b => ?_) (fun c_b => ?_)
    · refine lv_iconst (v := (nI 0)) hx hb d_Ch_has_16 (by decide +kernel) ?_
      exact k_rz hx hb hr hlocks (by decide +kernel) (bI_df (fun z => z.2 c_b)) d_Ch_has_17
    · refine lv_iconst (v := (nI 1)) hx hb d_Ch_has_12 (by decide +kernel) ?_
      refine lv_goto (tgt := 17) hx hb d_Ch_has_13 (by decide) ?_
      exact k_rz hx hb hr hlocks (by decide +kernel) (bI_dt ⟨c_a, c_b⟩) d_Ch_has_17
set_option maxHeartbeats 4000000 in
set_option maxRecDepth 100000 in
theorem c_Ch_open (l : Launch) (G : va_G) (cI cZ cJ : ClassId) (sz : Nat) (a_ch : Nat) (a_rm : Nat) (a_hd : Nat) (a_sh : Nat) (a_vl : Nat) (n : Nat) (room : Nat → Nat) (held : Nat → Nat) (shut : Nat → Bool) (k0 : Nat) (hn : n ≤ 40) : Met l y_Ch_open (w_Ch_open) ({ frames := 0, cells := 0, slots := 0, locals := 0 }) (va_Pc [.ref a_ch, .int (nI k0)] (kW G vwCl [(cI, .int), (cZ, .boolean), (cJ, .long)] [(a_ch, .inr (1, [.ref a_rm, .ref a_hd, .ref a_sh, .ref a_vl, .int (nI n)])), (a_rm, .inl (cI, 40, .inl (fun j => nI (room j)))), (a_hd, .inl (cI, 40, .inl (fun j => nI (held j)))), (a_sh, .inl (cZ, 40, .inl (fun j => bI (shut j))))] sz)) (va_Qi (fun (r : Int32) (u : Unit) => r = (if n < 40 then nI n else -1)) (fun u t => va_P G vwCl [(a_ch, .inr (1, [.ref a_rm, .ref a_hd, .ref a_sh, .ref a_vl, .int (nI (if n < 40 then n + 1 else n))])), (a_rm, .inl (cI, 40, .inl (fun j => nI ((if n < 40 then va_up room n k0 else room) j)))), (a_hd, .inl (cI, 40, .inl (fun j => nI ((if n < 40 then va_up held n 0 else held) j)))), (a_sh, .inl (cZ, 40, .inl (fun j => bI ((if n < 40 then va_up shut n false else shut) j))))] t.heap) (va_A [(a_ch, .inr (1, [.ref a_rm, .ref a_hd, .ref a_sh, .ref a_vl, .int (nI n)])), (a_rm, .inl (cI, 40, .inl (fun j => nI (room j)))), (a_hd, .inl (cI, 40, .inl (fun j => nI (held j)))), (a_sh, .inl (cZ, 40, .inl (fun j => bI (shut j))))] sz)) 0 0 (va_A [(a_ch, .inr (1, [.ref a_rm, .ref a_hd, .ref a_sh, .ref a_vl, .int (nI n)])), (a_rm, .inl (cI, 40, .inl (fun j => nI (room j)))), (a_hd, .inl (cI, 40, .inl (fun j => nI (held j)))), (a_sh, .inl (cZ, 40, .inl (fun j => bI (shut j))))] sz) := by
  refine Met.ofW (cc := b_Ch_open) (maxL := 3) (ret := (some .int)) (by decide) rfl ?_
  intro p e s m args below meth c s₁ B hml hv
  obtain ⟨rfl, hsz, hP, hK, hD0⟩ := hv
  have hx := B.exec
  have hb := B.bytes
  have hr := B.returns
  have hts : ∀ w ∈ TT, w.before _ s = true := fun w h => atoms_spec (ws := (w_Ch_open)) B.pre w (List.mem_cons_of_mem _ h)
  have hown : s.vm.findClass R_Ch = some m.cls := findClass_of_methodNamed B.named
  have hlocks := B.notSynchronized
  subst hsz
  have hD := hD0.self (sz := s.heap.size)
  generalize hAe : va_A [(a_ch, .inr (1, [.ref a_rm, .ref a_hd, .ref a_sh, .ref a_vl, .int (nI n)])), (a_rm, .inl (cI, 40, .inl (fun j => nI (room j)))), (a_hd, .inl (cI, 40, .inl (fun j => nI (held j)))), (a_sh, .inl (cZ, 40, .inl (fun j => bI (shut j))))] s.heap.size = A at hD ⊢
  have hA : ∀ q : Nat, s.heap.size ≤ q → A q := fun q h => by rw [← hAe]; exact Or.inr h
  have hS : va_S A s.heap s.heap [] := va_S.rf
  have hP : va_P G vwCl [(a_ch, .inr (1, [.ref a_rm, .ref a_hd, .ref a_sh, .ref a_vl, .int (nI n)])), (a_rm, .inl (cI, 40, .inl (fun j => nI (room j)))), (a_hd, .inl (cI, 40, .inl (fun j => nI (held j)))), (a_sh, .inl (cZ, 40, .inl (fun j => bI (shut j))))] s.heap := hP
  have hl := lv_entry ([.ref a_ch, .int (nI k0)]) (n := 3) (Nat.le_of_ble_eq_true rfl)
  rw [lg_entry_eq]
  generalize (lg_sl ([.ref a_ch, .int (nI k0)]) ++ List.replicate (3 - (lg_sl ([.ref a_ch, .int (nI k0)])).length) Slot.unset).toArray = ls at hl ⊢
  have hl : lv_has ls 3 [(0, .ref a_ch), (1, .int (nI k0))] := hl
  refine lv_aload_n hx hb d_Ch_open_0 rfl (lv_at hl 0 rfl) ?_
  refine va_get (D := G) (ci := 1) (v := .int (nI n)) (C := R_Ch) (T := T_Ch) (N := 5) hx hb hts uw_Ch hown hK hP 0 rfl rfl 4 (by decide) (hts _ t_56) (fun _ h9 => h9) rfl d_Ch_open_1 ?_
  refine lv_bipush (v := (nI 40)) hx hb d_Ch_open_4 (by decide +kernel) ?_
  refine n_icmp_lt (tgt := 11) hx hb d_Ch_open_6 (by decide) (by omega) (by decide) (fun c_a => ?_) (fun c_a => ?_)
  · refine lv_aload_n hx hb d_Ch_open_11 rfl (lv_at hl 0 rfl) ?_
    refine va_get (D := G) (ci := 1) (v := .int (nI n)) (C := R_Ch) (T := T_Ch) (N := 5) hx hb hts uw_Ch hown hK hP 0 rfl rfl 4 (by decide) (hts _ t_56) (fun _ h9 => h9) rfl d_Ch_open_12 ?_
    refine lv_istore_n (lv' := [(2, .int (nI n)), (0, .ref a_ch), (1, .int (nI k0))]) hx hb d_Ch_open_15 rfl hl (by decide) rfl (fun ls hl => ?_)
    refine lv_aload_n hx hb d_Ch_open_16 rfl (lv_at hl 1 rfl) ?_
    refine va_get (D := G) (ci := 1) (v := .ref a_rm) (C := R_Ch) (T := T_Ch) (N := 5) hx hb hts uw_Ch hown hK hP 0 rfl rfl 0 (by decide) (hts _ t_52) (fun _ h9 => h9) rfl d_Ch_open_17 ?_
    refine lv_iload_n hx hb d_Ch_open_20 rfl (lv_at hl 0 rfl) ?_
    refine lv_iload_n hx hb d_Ch_open_21 rfl (lv_at hl 2 rfl) ?_
    refine k_iastN hx hb hK hP hD hS 1 0 rfl rfl (by omega) (by decide) d_Ch_open_22 (fun H locs hP hD hS => ?_)
    have hP : va_P G vwCl [(a_ch, .inr (1, [.ref a_rm, .ref a_hd, .ref a_sh, .ref a_vl, .int (nI n)])), (a_rm, .inl (cI, 40, .inl (fun j => nI ((va_up room n k0) j)))), (a_hd, .inl (cI, 40, .inl (fun j => nI (held j)))), (a_sh, .inl (cZ, 40, .inl (fun j => bI (shut j))))] H := hP
    have hD : va_D A [(a_ch, .inr (1, [.ref a_rm, .ref a_hd, .ref a_sh, .ref a_vl, .int (nI n)])), (a_rm, .inl (cI, 40, .inl (fun j => nI ((va_up room n k0) j)))), (a_hd, .inl (cI, 40, .inl (fun j => nI (held j)))), (a_sh, .inl (cZ, 40, .inl (fun j => bI (shut j))))] := hD
    refine lv_aload_n hx hb d_Ch_open_23 rfl (lv_at hl 1 rfl) ?_
    refine va_get (D := G) (ci := 1) (v := .ref a_hd) (C := R_Ch) (T := T_Ch) (N := 5) hx hb hts uw_Ch hown hK hP 0 rfl rfl 1 (by decide) (hts _ t_53) (fun _ h9 => h9) rfl d_Ch_open_24 ?_
    refine lv_iload_n hx hb d_Ch_open_27 rfl (lv_at hl 0 rfl) ?_
    refine lv_iconst (v := (nI 0)) hx hb d_Ch_open_28 (by decide +kernel) ?_
    refine k_iastN hx hb hK hP hD hS 2 0 rfl rfl (by omega) (by decide) d_Ch_open_29 (fun H locs hP hD hS => ?_)
    have hP : va_P G vwCl [(a_ch, .inr (1, [.ref a_rm, .ref a_hd, .ref a_sh, .ref a_vl, .int (nI n)])), (a_rm, .inl (cI, 40, .inl (fun j => nI ((va_up room n k0) j)))), (a_hd, .inl (cI, 40, .inl (fun j => nI ((va_up held n 0) j)))), (a_sh, .inl (cZ, 40, .inl (fun j => bI (shut j))))] H := hP
    have hD : va_D A [(a_ch, .inr (1, [.ref a_rm, .ref a_hd, .ref a_sh, .ref a_vl, .int (nI n)])), (a_rm, .inl (cI, 40, .inl (fun j => nI ((va_up room n k0) j)))), (a_hd, .inl (cI, 40, .inl (fun j => nI ((va_up held n 0) j)))), (a_sh, .inl (cZ, 40, .inl (fun j => bI (shut j))))] := hD
    refine lv_aload_n hx hb d_Ch_open_30 rfl (lv_at hl 1 rfl) ?_
    refine va_get (D := G) (ci := 1) (v := .ref a_sh) (C := R_Ch) (T := T_Ch) (N := 5) hx hb hts uw_Ch hown hK hP 0 rfl rfl 2 (by decide) (hts _ t_54) (fun _ h9 => h9) rfl d_Ch_open_31 ?_
    refine lv_iload_n hx hb d_Ch_open_34 rfl (lv_at hl 0 rfl) ?_
    refine lv_iconst (v := (nI 0)) hx hb d_Ch_open_35 (by decide +kernel) ?_
    refine k_top (y := bI false) (by decide +kernel) ?_
    refine k_zast hx hb hK hP hD hS 3 1 rfl rfl (by omega) (by decide) d_Ch_open_36 (fun H locs hP hD hS => ?_)
    have hP : va_P G vwCl [(a_ch, .inr (1, [.ref a_rm, .ref a_hd, .ref a_sh, .ref a_vl, .int (nI n)])), (a_rm, .inl (cI, 40, .inl (fun j => nI ((va_up room n k0) j)))), (a_hd, .inl (cI, 40, .inl (fun j => nI ((va_up held n 0) j)))), (a_sh, .inl (cZ, 40, .inl (fun j => bI ((va_up shut n false) j))))] H := hP
    have hD : va_D A [(a_ch, .inr (1, [.ref a_rm, .ref a_hd, .ref a_sh, .ref a_vl, .int (nI n)])), (a_rm, .inl (cI, 40, .inl (fun j => nI ((va_up room n k0) j)))), (a_hd, .inl (cI, 40, .inl (fun j => nI ((va_up held n 0) j)))), (a_sh, .inl (cZ, 40, .inl (fun j => bI ((va_up shut n false) j))))] := hD
    refine lv_aload_n hx hb d_Ch_open_37 rfl (lv_at hl 1 rfl) ?_
    refine lv_dup hx hb d_Ch_open_38 rfl ?_
    refine va_get (D := G) (ci := 1) (v := .int (nI n)) (C := R_Ch) (T := T_Ch) (N := 5) hx hb hts uw_Ch hown hK hP 0 rfl rfl 4 (by decide) (hts _ t_56) (fun _ h9 => h9) rfl d_Ch_open_39 ?_
    refine lv_iconst (v := (nI 1)) hx hb d_Ch_open_42 (by decide +kernel) ?_
    refine lv_iadd hx hb d_Ch_open_43 ?_
    refine k_top (y := (nI (n + 1))) (nI_add n 1) ?_
    refine va_put (D := G) (ci := 1) (v := .int (nI (n + 1))) (ty := .int) (C := R_Ch) (T := T_Ch) (N := 5) hx hb hts uw_Ch ty_Ch tyok_Ch nm_Ch hown hK hP hD hS 0 rfl rfl 4 (by decide) (hts _ t_56) (fun _ h9 => h9) rfl (by decide +kernel) rfl rfl (Nat.le_of_ble_eq_true rfl) d_Ch_open_44 (fun H locs hP hD hS => ?_)
    have hP : va_P G vwCl [(a_ch, .inr (1, [.ref a_rm, .ref a_hd, .ref a_sh, .ref a_vl, .int (nI (n + 1))])), (a_rm, .inl (cI, 40, .inl (fun j => nI ((va_up room n k0) j)))), (a_hd, .inl (cI, 40, .inl (fun j => nI ((va_up held n 0) j)))), (a_sh, .inl (cZ, 40, .inl (fun j => bI ((va_up shut n false) j))))] H := hP
    have hD : va_D A [(a_ch, .inr (1, [.ref a_rm, .ref a_hd, .ref a_sh, .ref a_vl, .int (nI (n + 1))])), (a_rm, .inl (cI, 40, .inl (fun j => nI ((va_up room n k0) j)))), (a_hd, .inl (cI, 40, .inl (fun j => nI ((va_up held n 0) j)))), (a_sh, .inl (cZ, 40, .inl (fun j => bI ((va_up shut n false) j))))] := hD
    refine lv_iload_n hx hb d_Ch_open_47 rfl (lv_at hl 0 rfl) ?_
    exact k_wi hx hb hr hlocks hP hS () (by simp only [if_pos c_a]) ((if_pos c_a).symm) d_Ch_open_48
  · refine lv_iconst (v := (-1)) hx hb d_Ch_open_9 (by decide +kernel) ?_
    exact k_wi hx hb hr hlocks hP hS () (by simp only [if_neg (Nat.not_lt.mpr c_a)]) ((if_neg (Nat.not_lt.mpr c_a)).symm) d_Ch_open_10
set_option maxHeartbeats 4000000 in
set_option maxRecDepth 100000 in
theorem c_Ch_shut (l : Launch) (G : va_G) (cI cZ cJ : ClassId) (sz : Nat) (a_ch : Nat) (a_rm : Nat) (a_hd : Nat) (a_sh : Nat) (a_vl : Nat) (n : Nat) (shut : Nat → Bool) (x : Nat) (hx0 : x < 40) : Met l y_Ch_shut (w_Ch_shut) ({ frames := 0, cells := 0, slots := 0, locals := 0 }) (va_Pc [.ref a_ch, .int (nI x)] (kW G vwCl [(cI, .int), (cZ, .boolean), (cJ, .long)] [(a_ch, .inr (1, [.ref a_rm, .ref a_hd, .ref a_sh, .ref a_vl, .int (nI n)])), (a_sh, .inl (cZ, 40, .inl (fun j => bI (shut j))))] sz)) (va_Qv (fun (u : Unit) => True) (fun u t => va_P G vwCl [(a_ch, .inr (1, [.ref a_rm, .ref a_hd, .ref a_sh, .ref a_vl, .int (nI n)])), (a_sh, .inl (cZ, 40, .inl (fun j => bI ((va_up shut x true) j))))] t.heap) (va_A [(a_ch, .inr (1, [.ref a_rm, .ref a_hd, .ref a_sh, .ref a_vl, .int (nI n)])), (a_sh, .inl (cZ, 40, .inl (fun j => bI (shut j))))] sz)) 0 0 (va_A [(a_ch, .inr (1, [.ref a_rm, .ref a_hd, .ref a_sh, .ref a_vl, .int (nI n)])), (a_sh, .inl (cZ, 40, .inl (fun j => bI (shut j))))] sz) := by
  refine Met.ofW (cc := b_Ch_shut) (maxL := 2) (ret := none) (by decide) rfl ?_
  intro p e s m args below meth c s₁ B hml hv
  obtain ⟨rfl, hsz, hP, hK, hD0⟩ := hv
  have hx := B.exec
  have hb := B.bytes
  have hr := B.returns
  have hts : ∀ w ∈ TT, w.before _ s = true := fun w h => atoms_spec (ws := (w_Ch_shut)) B.pre w (List.mem_cons_of_mem _ h)
  have hown : s.vm.findClass R_Ch = some m.cls := findClass_of_methodNamed B.named
  have hlocks := B.notSynchronized
  subst hsz
  have hD := hD0.self (sz := s.heap.size)
  generalize hAe : va_A [(a_ch, .inr (1, [.ref a_rm, .ref a_hd, .ref a_sh, .ref a_vl, .int (nI n)])), (a_sh, .inl (cZ, 40, .inl (fun j => bI (shut j))))] s.heap.size = A at hD ⊢
  have hA : ∀ q : Nat, s.heap.size ≤ q → A q := fun q h => by rw [← hAe]; exact Or.inr h
  have hS : va_S A s.heap s.heap [] := va_S.rf
  have hP : va_P G vwCl [(a_ch, .inr (1, [.ref a_rm, .ref a_hd, .ref a_sh, .ref a_vl, .int (nI n)])), (a_sh, .inl (cZ, 40, .inl (fun j => bI (shut j))))] s.heap := hP
  have hl := lv_entry ([.ref a_ch, .int (nI x)]) (n := 2) (Nat.le_of_ble_eq_true rfl)
  rw [lg_entry_eq]
  generalize (lg_sl ([.ref a_ch, .int (nI x)]) ++ List.replicate (2 - (lg_sl ([.ref a_ch, .int (nI x)])).length) Slot.unset).toArray = ls at hl ⊢
  have hl : lv_has ls 2 [(0, .ref a_ch), (1, .int (nI x))] := hl
  refine lv_aload_n hx hb d_Ch_shut_0 rfl (lv_at hl 0 rfl) ?_
  refine va_get (D := G) (ci := 1) (v := .ref a_sh) (C := R_Ch) (T := T_Ch) (N := 5) hx hb hts uw_Ch hown hK hP 0 rfl rfl 2 (by decide) (hts _ t_54) (fun _ h9 => h9) rfl d_Ch_shut_1 ?_
  refine lv_iload_n hx hb d_Ch_shut_4 rfl (lv_at hl 1 rfl) ?_
  refine lv_iconst (v := (nI 1)) hx hb d_Ch_shut_5 (by decide +kernel) ?_
  refine k_top (y := bI true) (by decide +kernel) ?_
  refine k_zast hx hb hK hP hD hS 1 1 rfl rfl (by omega) (by decide) d_Ch_shut_6 (fun H locs hP hD hS => ?_)
  have hP : va_P G vwCl [(a_ch, .inr (1, [.ref a_rm, .ref a_hd, .ref a_sh, .ref a_vl, .int (nI n)])), (a_sh, .inl (cZ, 40, .inl (fun j => bI ((va_up shut x true) j))))] H := hP
  have hD : va_D A [(a_ch, .inr (1, [.ref a_rm, .ref a_hd, .ref a_sh, .ref a_vl, .int (nI n)])), (a_sh, .inl (cZ, 40, .inl (fun j => bI ((va_up shut x true) j))))] := hD
  exact k_wv hx hb hr hlocks hP hS () (rfl) (trivial) d_Ch_shut_7
set_option maxHeartbeats 4000000 in
set_option maxRecDepth 100000 in
theorem c_Ch_isShut (l : Launch) (G : va_G) (cI cZ cJ : ClassId) (a_ch : Nat) (a_rm : Nat) (a_hd : Nat) (a_sh : Nat) (a_vl : Nat) (n : Nat) (shut : Nat → Bool) (x : Nat) (hx0 : x < 40) : Met l y_Ch_isShut (w_Ch_isShut) ({ frames := 0, cells := 0, slots := 0, locals := 0 }) (va_Pc [.ref a_ch, .int (nI x)] (kR G vwCl [(cI, .int), (cZ, .boolean), (cJ, .long)] [(a_ch, .inr (1, [.ref a_rm, .ref a_hd, .ref a_sh, .ref a_vl, .int (nI n)])), (a_sh, .inl (cZ, 40, .inl (fun j => bI (shut j))))])) (QcRead ((bI (shut x)))) 0 0 (fun _ => False) := by
  refine Met.ofW (cc := b_Ch_isShut) (maxL := 2) (ret := (some .boolean)) (by decide) rfl ?_
  intro p e s m args below meth c s₁ B hml hv
  obtain ⟨rfl, hP, hK⟩ := hv
  have hx := B.exec
  have hb := B.bytes
  have hr := B.returns
  have hts : ∀ w ∈ TT, w.before _ s = true := fun w h => atoms_spec (ws := (w_Ch_isShut)) B.pre w (List.mem_cons_of_mem _ h)
  have hown : s.vm.findClass R_Ch = some m.cls := findClass_of_methodNamed B.named
  have hlocks := B.notSynchronized
  have hP : va_P G vwCl [(a_ch, .inr (1, [.ref a_rm, .ref a_hd, .ref a_sh, .ref a_vl, .int (nI n)])), (a_sh, .inl (cZ, 40, .inl (fun j => bI (shut j))))] s.heap := hP
  have hl := lv_entry ([.ref a_ch, .int (nI x)]) (n := 2) (Nat.le_of_ble_eq_true rfl)
  rw [lg_entry_eq]
  generalize (lg_sl ([.ref a_ch, .int (nI x)]) ++ List.replicate (2 - (lg_sl ([.ref a_ch, .int (nI x)])).length) Slot.unset).toArray = ls at hl ⊢
  have hl : lv_has ls 2 [(0, .ref a_ch), (1, .int (nI x))] := hl
  refine lv_aload_n hx hb d_Ch_isShut_0 rfl (lv_at hl 0 rfl) ?_
  refine va_get (D := G) (ci := 1) (v := .ref a_sh) (C := R_Ch) (T := T_Ch) (N := 5) hx hb hts uw_Ch hown hK hP 0 rfl rfl 2 (by decide) (hts _ t_54) (fun _ h9 => h9) rfl d_Ch_isShut_1 ?_
  refine lv_iload_n hx hb d_Ch_isShut_4 rfl (lv_at hl 1 rfl) ?_
  refine k_zald hx hb hK hP 1 1 rfl rfl (by omega) (by decide) d_Ch_isShut_5 ?_
  exact k_rz hx hb hr hlocks (nar_bool _) (rfl) d_Ch_isShut_6
set_option maxHeartbeats 4000000 in
set_option maxRecDepth 100000 in
theorem c_Ch_roomOf (l : Launch) (G : va_G) (cI cZ cJ : ClassId) (a_ch : Nat) (a_rm : Nat) (a_hd : Nat) (a_sh : Nat) (a_vl : Nat) (n : Nat) (room : Nat → Nat) (x : Nat) (hx0 : x < 40) : Met l y_Ch_roomOf (w_Ch_roomOf) ({ frames := 0, cells := 0, slots := 0, locals := 0 }) (va_Pc [.ref a_ch, .int (nI x)] (kR G vwCl [(cI, .int), (cZ, .boolean), (cJ, .long)] [(a_ch, .inr (1, [.ref a_rm, .ref a_hd, .ref a_sh, .ref a_vl, .int (nI n)])), (a_rm, .inl (cI, 40, .inl (fun j => nI (room j))))])) (QcRead ((nI (room x)))) 0 0 (fun _ => False) := by
  refine Met.ofW (cc := b_Ch_roomOf) (maxL := 2) (ret := (some .int)) (by decide) rfl ?_
  intro p e s m args below meth c s₁ B hml hv
  obtain ⟨rfl, hP, hK⟩ := hv
  have hx := B.exec
  have hb := B.bytes
  have hr := B.returns
  have hts : ∀ w ∈ TT, w.before _ s = true := fun w h => atoms_spec (ws := (w_Ch_roomOf)) B.pre w (List.mem_cons_of_mem _ h)
  have hown : s.vm.findClass R_Ch = some m.cls := findClass_of_methodNamed B.named
  have hlocks := B.notSynchronized
  have hP : va_P G vwCl [(a_ch, .inr (1, [.ref a_rm, .ref a_hd, .ref a_sh, .ref a_vl, .int (nI n)])), (a_rm, .inl (cI, 40, .inl (fun j => nI (room j))))] s.heap := hP
  have hl := lv_entry ([.ref a_ch, .int (nI x)]) (n := 2) (Nat.le_of_ble_eq_true rfl)
  rw [lg_entry_eq]
  generalize (lg_sl ([.ref a_ch, .int (nI x)]) ++ List.replicate (2 - (lg_sl ([.ref a_ch, .int (nI x)])).length) Slot.unset).toArray = ls at hl ⊢
  have hl : lv_has ls 2 [(0, .ref a_ch), (1, .int (nI x))] := hl
  refine lv_aload_n hx hb d_Ch_roomOf_0 rfl (lv_at hl 0 rfl) ?_
  refine va_get (D := G) (ci := 1) (v := .ref a_rm) (C := R_Ch) (T := T_Ch) (N := 5) hx hb hts uw_Ch hown hK hP 0 rfl rfl 0 (by decide) (hts _ t_52) (fun _ h9 => h9) rfl d_Ch_roomOf_1 ?_
  refine lv_iload_n hx hb d_Ch_roomOf_4 rfl (lv_at hl 1 rfl) ?_
  refine k_iald hx hb hK hP 1 0 rfl rfl (by omega) (by decide) d_Ch_roomOf_5 ?_
  exact k_ri hx hb hr hlocks (rfl) d_Ch_roomOf_6
set_option maxHeartbeats 4000000 in
set_option maxRecDepth 100000 in
theorem c_Ch_held (l : Launch) (G : va_G) (cI cZ cJ : ClassId) (a_ch : Nat) (a_rm : Nat) (a_hd : Nat) (a_sh : Nat) (a_vl : Nat) (n : Nat) (held : Nat → Nat) (vals : Nat → Int32) (L : Nat → List Int32) (x : Nat) (hx0 : x < 40) (hV : RelV held vals L) : Met l y_Ch_held (w_Ch_held) ({ frames := 0, cells := 0, slots := 0, locals := 0 }) (va_Pc [.ref a_ch, .int (nI x)] (kR G vwCl [(cI, .int), (cZ, .boolean), (cJ, .long)] [(a_ch, .inr (1, [.ref a_rm, .ref a_hd, .ref a_sh, .ref a_vl, .int (nI n)])), (a_hd, .inl (cI, 40, .inl (fun j => nI (held j))))])) (QcRead ((nI ((L x).length)))) 0 0 (fun _ => False) := by
  refine Met.ofW (cc := b_Ch_held) (maxL := 2) (ret := (some .int)) (by decide) rfl ?_
  intro p e s m args below meth c s₁ B hml hv
  obtain ⟨rfl, hP, hK⟩ := hv
  have hx := B.exec
  have hb := B.bytes
  have hr := B.returns
  have hts : ∀ w ∈ TT, w.before _ s = true := fun w h => atoms_spec (ws := (w_Ch_held)) B.pre w (List.mem_cons_of_mem _ h)
  have hown : s.vm.findClass R_Ch = some m.cls := findClass_of_methodNamed B.named
  have hlocks := B.notSynchronized
  have hP : va_P G vwCl [(a_ch, .inr (1, [.ref a_rm, .ref a_hd, .ref a_sh, .ref a_vl, .int (nI n)])), (a_hd, .inl (cI, 40, .inl (fun j => nI (held j))))] s.heap := hP
  have hl := lv_entry ([.ref a_ch, .int (nI x)]) (n := 2) (Nat.le_of_ble_eq_true rfl)
  rw [lg_entry_eq]
  generalize (lg_sl ([.ref a_ch, .int (nI x)]) ++ List.replicate (2 - (lg_sl ([.ref a_ch, .int (nI x)])).length) Slot.unset).toArray = ls at hl ⊢
  have hl : lv_has ls 2 [(0, .ref a_ch), (1, .int (nI x))] := hl
  refine lv_aload_n hx hb d_Ch_held_0 rfl (lv_at hl 0 rfl) ?_
  refine va_get (D := G) (ci := 1) (v := .ref a_hd) (C := R_Ch) (T := T_Ch) (N := 5) hx hb hts uw_Ch hown hK hP 0 rfl rfl 1 (by decide) (hts _ t_53) (fun _ h9 => h9) rfl d_Ch_held_1 ?_
  refine lv_iload_n hx hb d_Ch_held_4 rfl (lv_at hl 1 rfl) ?_
  refine k_iald hx hb hK hP 1 0 rfl rfl (by omega) (by decide) d_Ch_held_5 ?_
  exact k_ri hx hb hr hlocks (congrArg nI (hV x hx0).1) d_Ch_held_6
set_option maxHeartbeats 4000000 in
set_option maxRecDepth 100000 in
theorem c_Ch_hasSpace (l : Launch) (G : va_G) (cI cZ cJ : ClassId) (a_ch : Nat) (a_rm : Nat) (a_hd : Nat) (a_sh : Nat) (a_vl : Nat) (n : Nat) (room : Nat → Nat) (held : Nat → Nat) (vals : Nat → Int32) (L : Nat → List Int32) (x : Nat) (hx0 : x < 40) (hV : RelV held vals L) (hroom : room x ≤ 8) : Met l y_Ch_hasSpace (w_Ch_hasSpace) ({ frames := 0, cells := 0, slots := 0, locals := 0 }) (va_Pc [.ref a_ch, .int (nI x)] (kR G vwCl [(cI, .int), (cZ, .boolean), (cJ, .long)] [(a_ch, .inr (1, [.ref a_rm, .ref a_hd, .ref a_sh, .ref a_vl, .int (nI n)])), (a_rm, .inl (cI, 40, .inl (fun j => nI (room j)))), (a_hd, .inl (cI, 40, .inl (fun j => nI (held j))))])) (QcRead ((bI (decide ((L x).length < room x))))) 0 0 (fun _ => False) := by
  refine Met.ofW (cc := b_Ch_hasSpace) (maxL := 2) (ret := (some .boolean)) (by decide) rfl ?_
  intro p e s m args below meth c s₁ B hml hv
  obtain ⟨rfl, hP, hK⟩ := hv
  have hx := B.exec
  have hb := B.bytes
  have hr := B.returns
  have hts : ∀ w ∈ TT, w.before _ s = true := fun w h => atoms_spec (ws := (w_Ch_hasSpace)) B.pre w (List.mem_cons_of_mem _ h)
  have hown : s.vm.findClass R_Ch = some m.cls := findClass_of_methodNamed B.named
  have hlocks := B.notSynchronized
  have hP : va_P G vwCl [(a_ch, .inr (1, [.ref a_rm, .ref a_hd, .ref a_sh, .ref a_vl, .int (nI n)])), (a_rm, .inl (cI, 40, .inl (fun j => nI (room j)))), (a_hd, .inl (cI, 40, .inl (fun j => nI (held j))))] s.heap := hP
  have hl := lv_entry ([.ref a_ch, .int (nI x)]) (n := 2) (Nat.le_of_ble_eq_true rfl)
  rw [lg_entry_eq]
  generalize (lg_sl ([.ref a_ch, .int (nI x)]) ++ List.replicate (2 - (lg_sl ([.ref a_ch, .int (nI x)])).length) Slot.unset).toArray = ls at hl ⊢
  have hl : lv_has ls 2 [(0, .ref a_ch), (1, .int (nI x))] := hl
  have hh := (hV x hx0).1
  have hh2 := (hV x hx0).2.1
  refine lv_aload_n hx hb d_Ch_hasSpace_0 rfl (lv_at hl 0 rfl) ?_
  refine va_get (D := G) (ci := 1) (v := .ref a_hd) (C := R_Ch) (T := T_Ch) (N := 5) hx hb hts uw_Ch hown hK hP 0 rfl rfl 1 (by decide) (hts _ t_53) (fun _ h9 => h9) rfl d_Ch_hasSpace_1 ?_
  refine lv_iload_n hx hb d_Ch_hasSpace_4 rfl (lv_at hl 1 rfl) ?_
  refine k_iald hx hb hK hP 2 0 rfl rfl (by omega) (by decide) d_Ch_hasSpace_5 ?_
  refine lv_aload_n hx hb d_Ch_hasSpace_6 rfl (lv_at hl 0 rfl) ?_
  refine va_get (D := G) (ci := 1) (v := .ref a_rm) (C := R_Ch) (T := T_Ch) (N := 5) hx hb hts uw_Ch hown hK hP 0 rfl rfl 0 (by decide) (hts _ t_52) (fun _ h9 => h9) rfl d_Ch_hasSpace_7 ?_
  refine lv_iload_n hx hb d_Ch_hasSpace_10 rfl (lv_at hl 1 rfl) ?_
  refine k_iald hx hb hK hP 1 0 rfl rfl (by omega) (by decide) d_Ch_hasSpace_11 ?_
  refine n_icmp_ge (tgt := 19) hx hb d_Ch_hasSpace_12 (by decide) (by omega) (by omega) (fun c_1 => ?_) (fun c_1 => ?_)
  · refine lv_iconst (v := (nI 0)) hx hb d_Ch_hasSpace_19 (by decide +kernel) ?_
    exact k_rz hx hb hr hlocks (by decide +kernel) (bI_df (by omega)) d_Ch_hasSpace_20
  · refine lv_iconst (v := (nI 1)) hx hb d_Ch_hasSpace_15 (by decide +kernel) ?_
    refine lv_goto (tgt := 20) hx hb d_Ch_hasSpace_16 (by decide) ?_
    exact k_rz hx hb hr hlocks (by decide +kernel) (bI_dt (by omega)) d_Ch_hasSpace_20
set_option maxHeartbeats 4000000 in
set_option maxRecDepth 100000 in
theorem c_Ch_valueAt (l : Launch) (G : va_G) (cI cZ cJ : ClassId) (a_ch : Nat) (a_rm : Nat) (a_hd : Nat) (a_sh : Nat) (a_vl : Nat) (n : Nat) (held : Nat → Nat) (vals : Nat → Int32) (L : Nat → List Int32) (x : Nat) (i : Nat) (hx0 : x < 40) (hV : RelV held vals L) (hi : i < 8) : Met l y_Ch_valueAt (w_Ch_valueAt) ({ frames := 0, cells := 0, slots := 0, locals := 0 }) (va_Pc [.ref a_ch, .int (nI x), .int (nI i)] (kR G vwCl [(cI, .int), (cZ, .boolean), (cJ, .long)] [(a_ch, .inr (1, [.ref a_rm, .ref a_hd, .ref a_sh, .ref a_vl, .int (nI n)])), (a_hd, .inl (cI, 40, .inl (fun j => nI (held j)))), (a_vl, .inl (cI, 320, .inl vals))])) (QcRead (((L x).getD i 0))) 0 0 (fun _ => False) := by
  refine Met.ofW (cc := b_Ch_valueAt) (maxL := 3) (ret := (some .int)) (by decide) rfl ?_
  intro p e s m args below meth c s₁ B hml hv
  obtain ⟨rfl, hP, hK⟩ := hv
  have hx := B.exec
  have hb := B.bytes
  have hr := B.returns
  have hts : ∀ w ∈ TT, w.before _ s = true := fun w h => atoms_spec (ws := (w_Ch_valueAt)) B.pre w (List.mem_cons_of_mem _ h)
  have hown : s.vm.findClass R_Ch = some m.cls := findClass_of_methodNamed B.named
  have hlocks := B.notSynchronized
  have hP : va_P G vwCl [(a_ch, .inr (1, [.ref a_rm, .ref a_hd, .ref a_sh, .ref a_vl, .int (nI n)])), (a_hd, .inl (cI, 40, .inl (fun j => nI (held j)))), (a_vl, .inl (cI, 320, .inl vals))] s.heap := hP
  have hl := lv_entry ([.ref a_ch, .int (nI x), .int (nI i)]) (n := 3) (Nat.le_of_ble_eq_true rfl)
  rw [lg_entry_eq]
  generalize (lg_sl ([.ref a_ch, .int (nI x), .int (nI i)]) ++ List.replicate (3 - (lg_sl ([.ref a_ch, .int (nI x), .int (nI i)])).length) Slot.unset).toArray = ls at hl ⊢
  have hl : lv_has ls 3 [(0, .ref a_ch), (1, .int (nI x)), (2, .int (nI i))] := hl
  obtain ⟨hh, hh2, hh3⟩ := hV x hx0
  refine lv_iload_n hx hb d_Ch_valueAt_0 rfl (lv_at hl 2 rfl) ?_
  refine lv_aload_n hx hb d_Ch_valueAt_1 rfl (lv_at hl 0 rfl) ?_
  refine va_get (D := G) (ci := 1) (v := .ref a_hd) (C := R_Ch) (T := T_Ch) (N := 5) hx hb hts uw_Ch hown hK hP 0 rfl rfl 1 (by decide) (hts _ t_53) (fun _ h9 => h9) rfl d_Ch_valueAt_2 ?_
  refine lv_iload_n hx hb d_Ch_valueAt_5 rfl (lv_at hl 1 rfl) ?_
  refine k_iald hx hb hK hP 1 0 rfl rfl (by omega) (by decide) d_Ch_valueAt_6 ?_
  refine n_icmp_ge (tgt := 24) hx hb d_Ch_valueAt_7 (by decide) (by omega) (by omega) (fun c_1 => ?_) (fun c_1 => ?_)
  · refine lv_iconst (v := (nI 0)) hx hb d_Ch_valueAt_24 (by decide +kernel) ?_
    exact k_ri hx hb hr hlocks ((by rw [List.getD_eq_getElem?_getD, List.getElem?_eq_none (by omega)]; decide +kernel)) d_Ch_valueAt_25
  · refine lv_aload_n hx hb d_Ch_valueAt_10 rfl (lv_at hl 0 rfl) ?_
    refine va_get (D := G) (ci := 1) (v := .ref a_vl) (C := R_Ch) (T := T_Ch) (N := 5) hx hb hts uw_Ch hown hK hP 0 rfl rfl 3 (by decide) (hts _ t_55) (fun _ h9 => h9) rfl d_Ch_valueAt_11 ?_
    refine lv_iload_n hx hb d_Ch_valueAt_14 rfl (lv_at hl 1 rfl) ?_
    refine lv_bipush (v := (nI 8)) hx hb d_Ch_valueAt_15 (by decide +kernel) ?_
    refine lv_imul hx hb d_Ch_valueAt_17 ?_
    refine k_top (y := (nI (x * 8))) (pk_mul x 8) ?_
    refine lv_iload_n hx hb d_Ch_valueAt_18 rfl (lv_at hl 2 rfl) ?_
    refine lv_iadd hx hb d_Ch_valueAt_19 ?_
    refine k_top (y := (nI ((x * 8) + i))) (nI_add (x * 8) i) ?_
    refine k_iald hx hb hK hP 2 0 rfl rfl (by omega) (by decide) d_Ch_valueAt_20 ?_
    refine lv_goto (tgt := 25) hx hb d_Ch_valueAt_21 (by decide) ?_
    exact k_ri hx hb hr hlocks ((by rw [hh3 i (by omega), List.getD_eq_getElem?_getD, List.getElem?_eq_getElem (by omega)]; rfl)) d_Ch_valueAt_25
set_option maxHeartbeats 4000000 in
set_option maxRecDepth 100000 in
theorem c_Ch_put (l : Launch) (G : va_G) (cI cZ cJ : ClassId) (sz : Nat) (a_ch : Nat) (a_rm : Nat) (a_hd : Nat) (a_sh : Nat) (a_vl : Nat) (n : Nat) (room : Nat → Nat) (held : Nat → Nat) (vals : Nat → Int32) (L : Nat → List Int32) (x : Nat) (v : Int32) (hx0 : x < 40) (hV : RelV held vals L) (hroom : room x ≤ 8) : Met l y_Ch_put (w_Ch_put) ({ frames := 1, cells := 0, slots := 0, locals := 21 }) (va_Pc [.ref a_ch, .int (nI x), .int v] (kW G vwCl [(cI, .int), (cZ, .boolean), (cJ, .long)] [(a_ch, .inr (1, [.ref a_rm, .ref a_hd, .ref a_sh, .ref a_vl, .int (nI n)])), (a_rm, .inl (cI, 40, .inl (fun j => nI (room j)))), (a_hd, .inl (cI, 40, .inl (fun j => nI (held j)))), (a_vl, .inl (cI, 320, .inl vals))] sz)) (va_Qi (fun (r : Int32) (u : (Nat → Nat) × (Nat → Int32)) => r = (bI (decide ((L x).length < room x))) ∧ RelV u.1 u.2 (putL L room x v)) (fun u t => va_P G vwCl [(a_ch, .inr (1, [.ref a_rm, .ref a_hd, .ref a_sh, .ref a_vl, .int (nI n)])), (a_rm, .inl (cI, 40, .inl (fun j => nI (room j)))), (a_hd, .inl (cI, 40, .inl (fun j => nI (u.1 j)))), (a_vl, .inl (cI, 320, .inl u.2))] t.heap) (va_A [(a_ch, .inr (1, [.ref a_rm, .ref a_hd, .ref a_sh, .ref a_vl, .int (nI n)])), (a_rm, .inl (cI, 40, .inl (fun j => nI (room j)))), (a_hd, .inl (cI, 40, .inl (fun j => nI (held j)))), (a_vl, .inl (cI, 320, .inl vals))] sz)) 0 0 (va_A [(a_ch, .inr (1, [.ref a_rm, .ref a_hd, .ref a_sh, .ref a_vl, .int (nI n)])), (a_rm, .inl (cI, 40, .inl (fun j => nI (room j)))), (a_hd, .inl (cI, 40, .inl (fun j => nI (held j)))), (a_vl, .inl (cI, 320, .inl vals))] sz) := by
  refine Met.ofW (cc := b_Ch_put) (maxL := 3) (ret := (some .boolean)) (by decide) rfl ?_
  intro p e s m args below meth c s₁ B hml hv
  obtain ⟨rfl, hsz, hP, hK, hD0⟩ := hv
  have hx := B.exec
  have hb := B.bytes
  have hr := B.returns
  have hts : ∀ w ∈ TT, w.before _ s = true := fun w h => atoms_spec (ws := (w_Ch_put)) B.pre w (List.mem_cons_of_mem _ h)
  have hown : s.vm.findClass R_Ch = some m.cls := findClass_of_methodNamed B.named
  have hlocks := B.notSynchronized
  subst hsz
  have hD := hD0.self (sz := s.heap.size)
  generalize hAe : va_A [(a_ch, .inr (1, [.ref a_rm, .ref a_hd, .ref a_sh, .ref a_vl, .int (nI n)])), (a_rm, .inl (cI, 40, .inl (fun j => nI (room j)))), (a_hd, .inl (cI, 40, .inl (fun j => nI (held j)))), (a_vl, .inl (cI, 320, .inl vals))] s.heap.size = A at hD ⊢
  have hA : ∀ q : Nat, s.heap.size ≤ q → A q := fun q h => by rw [← hAe]; exact Or.inr h
  have hS : va_S A s.heap s.heap [] := va_S.rf
  have hP : va_P G vwCl [(a_ch, .inr (1, [.ref a_rm, .ref a_hd, .ref a_sh, .ref a_vl, .int (nI n)])), (a_rm, .inl (cI, 40, .inl (fun j => nI (room j)))), (a_hd, .inl (cI, 40, .inl (fun j => nI (held j)))), (a_vl, .inl (cI, 320, .inl vals))] s.heap := hP
  have hl := lv_entry ([.ref a_ch, .int (nI x), .int v]) (n := 3) (Nat.le_of_ble_eq_true rfl)
  rw [lg_entry_eq]
  generalize (lg_sl ([.ref a_ch, .int (nI x), .int v]) ++ List.replicate (3 - (lg_sl ([.ref a_ch, .int (nI x), .int v])).length) Slot.unset).toArray = ls at hl ⊢
  have hl : lv_has ls 3 [(0, .ref a_ch), (1, .int (nI x)), (2, .int v)] := hl
  obtain ⟨hh, hh2, hh3⟩ := hV x hx0
  refine lv_aload_n hx hb d_Ch_put_0 rfl (lv_at hl 0 rfl) ?_
  refine lv_iload_n hx hb d_Ch_put_1 rfl (lv_at hl 1 rfl) ?_
  refine k_ro (va_runV (As := [.int (nI x)]) (rest := []) ⟨hx, hb, hml, hown, hts⟩ (c_Ch_hasSpace l G cI cZ cJ a_ch a_rm a_hd a_sh a_vl n room held vals L x hx0 hV hroom) (cwV 1 hts (gV t_203 t_204 t_205 t_33 t_206) rfl rfl rfl (by decide +kernel) ⟨Nat.le_of_ble_eq_true rfl, Nat.le_of_ble_eq_true rfl⟩) (kR_V (ci := 1) (q0 := 0) hK hP rfl rfl [0, 1, 2] rfl) rfl rfl hl.1 rfl (lv_room (Nat.le_of_ble_eq_true rfl)) d_Ch_put_2 ⟨Nat.le_of_ble_eq_true rfl, Nat.le_of_ble_eq_true rfl⟩) ?_
  refine b_if_ne (tgt := 10) hx hb d_Ch_put_5 (by decide) (fun c_a => ?_) (fun c_a => ?_)
  · refine lv_aload_n hx hb d_Ch_put_10 rfl (lv_at hl 0 rfl) ?_
    refine va_get (D := G) (ci := 1) (v := .ref a_vl) (C := R_Ch) (T := T_Ch) (N := 5) hx hb hts uw_Ch hown hK hP 0 rfl rfl 3 (by decide) (hts _ t_55) (fun _ h9 => h9) rfl d_Ch_put_11 ?_
    refine lv_iload_n hx hb d_Ch_put_14 rfl (lv_at hl 1 rfl) ?_
    refine lv_bipush (v := (nI 8)) hx hb d_Ch_put_15 (by decide +kernel) ?_
    refine lv_imul hx hb d_Ch_put_17 ?_
    refine k_top (y := (nI (x * 8))) (pk_mul x 8) ?_
    refine lv_aload_n hx hb d_Ch_put_18 rfl (lv_at hl 0 rfl) ?_
    refine va_get (D := G) (ci := 1) (v := .ref a_hd) (C := R_Ch) (T := T_Ch) (N := 5) hx hb hts uw_Ch hown hK hP 0 rfl rfl 1 (by decide) (hts _ t_53) (fun _ h9 => h9) rfl d_Ch_put_19 ?_
    refine lv_iload_n hx hb d_Ch_put_22 rfl (lv_at hl 1 rfl) ?_
    refine k_iald hx hb hK hP 2 0 rfl rfl (by omega) (by decide) d_Ch_put_23 ?_
    refine lv_iadd hx hb d_Ch_put_24 ?_
    refine k_top (y := (nI ((x * 8) + (held x)))) (nI_add (x * 8) (held x)) ?_
    refine lv_iload_n hx hb d_Ch_put_25 rfl (lv_at hl 2 rfl) ?_
    refine k_iast hx hb hK hP hD hS 3 0 rfl rfl (by have z9 := of_decide_eq_true c_a; omega) (by decide) d_Ch_put_26 (fun H locs hP hD hS => ?_)
    have hP : va_P G vwCl [(a_ch, .inr (1, [.ref a_rm, .ref a_hd, .ref a_sh, .ref a_vl, .int (nI n)])), (a_rm, .inl (cI, 40, .inl (fun j => nI (room j)))), (a_hd, .inl (cI, 40, .inl (fun j => nI (held j)))), (a_vl, .inl (cI, 320, .inl (va_up vals ((x * 8) + (held x)) v)))] H := hP
    have hD : va_D A [(a_ch, .inr (1, [.ref a_rm, .ref a_hd, .ref a_sh, .ref a_vl, .int (nI n)])), (a_rm, .inl (cI, 40, .inl (fun j => nI (room j)))), (a_hd, .inl (cI, 40, .inl (fun j => nI (held j)))), (a_vl, .inl (cI, 320, .inl (va_up vals ((x * 8) + (held x)) v)))] := hD
    refine lv_aload_n hx hb d_Ch_put_27 rfl (lv_at hl 0 rfl) ?_
    refine va_get (D := G) (ci := 1) (v := .ref a_hd) (C := R_Ch) (T := T_Ch) (N := 5) hx hb hts uw_Ch hown hK hP 0 rfl rfl 1 (by decide) (hts _ t_53) (fun _ h9 => h9) rfl d_Ch_put_28 ?_
    refine lv_iload_n hx hb d_Ch_put_31 rfl (lv_at hl 1 rfl) ?_
    refine lv_dup2_11 hx hb d_Ch_put_32 rfl rfl ?_
    refine k_iald hx hb hK hP 2 0 rfl rfl (by omega) (by decide) d_Ch_put_33 ?_
    refine lv_iconst (v := (nI 1)) hx hb d_Ch_put_34 (by decide +kernel) ?_
    refine lv_iadd hx hb d_Ch_put_35 ?_
    refine k_top (y := (nI ((held x) + 1))) (nI_add (held x) 1) ?_
    refine k_iastN hx hb hK hP hD hS 2 0 rfl rfl (by have z9 := of_decide_eq_true c_a; omega) (by decide) d_Ch_put_36 (fun H locs hP hD hS => ?_)
    have hP : va_P G vwCl [(a_ch, .inr (1, [.ref a_rm, .ref a_hd, .ref a_sh, .ref a_vl, .int (nI n)])), (a_rm, .inl (cI, 40, .inl (fun j => nI (room j)))), (a_hd, .inl (cI, 40, .inl (fun j => nI ((va_up held x ((held x) + 1)) j)))), (a_vl, .inl (cI, 320, .inl (va_up vals ((x * 8) + (held x)) v)))] H := hP
    have hD : va_D A [(a_ch, .inr (1, [.ref a_rm, .ref a_hd, .ref a_sh, .ref a_vl, .int (nI n)])), (a_rm, .inl (cI, 40, .inl (fun j => nI (room j)))), (a_hd, .inl (cI, 40, .inl (fun j => nI ((va_up held x ((held x) + 1)) j)))), (a_vl, .inl (cI, 320, .inl (va_up vals ((x * 8) + (held x)) v)))] := hD
    refine lv_iconst (v := (nI 1)) hx hb d_Ch_put_37 (by decide +kernel) ?_
    exact k_wz hx hb hr hlocks (by decide +kernel) hP hS (va_up held x ((held x) + 1), va_up vals ((x * 8) + (held x)) v) (rfl) (⟨bI_dt (of_decide_eq_true c_a), by rw [putL, if_pos (of_decide_eq_true c_a)]; exact hV.put hx0 v (Nat.lt_of_lt_of_le (of_decide_eq_true c_a) hroom)⟩) d_Ch_put_38
  · refine lv_iconst (v := (nI 0)) hx hb d_Ch_put_8 (by decide +kernel) ?_
    exact k_wz hx hb hr hlocks (by decide +kernel) hP hS (held, vals) (rfl) (⟨bI_df (of_decide_eq_false c_a), by rw [putL, if_neg (of_decide_eq_false c_a)]; exact hV⟩) d_Ch_put_9
end
section
set_option maxHeartbeats 4000000 in
set_option maxRecDepth 100000 in
theorem c_Cs_slotOf (l : Launch) (G : va_G) (cI cZ cJ : ClassId) (q : Nat) (i : Nat)  : Met l y_Cs_slotOf (w_Cs_slotOf) ({ frames := 0, cells := 0, slots := 0, locals := 0 }) (va_Pc [.int (nI q), .int (nI i)] (kR G vwCl [(cI, .int), (cZ, .boolean), (cJ, .long)] [])) (QcRead ((nI (q * 6 + i)))) 0 0 (fun _ => False) := by
  refine Met.ofW (cc := b_Cs_slotOf) (maxL := 2) (ret := (some .int)) (by decide) rfl ?_
  intro p e s m args below meth c s₁ B hml hv
  obtain ⟨rfl, hP, hK⟩ := hv
  have hx := B.exec
  have hb := B.bytes
  have hr := B.returns
  have hts : ∀ w ∈ TT, w.before _ s = true := fun w h => atoms_spec (ws := (w_Cs_slotOf)) B.pre w (List.mem_cons_of_mem _ h)
  have hown : s.vm.findClass R_Cs = some m.cls := findClass_of_methodNamed B.named
  have hlocks := B.notSynchronized
  have hP : va_P G vwCl [] s.heap := hP
  have hl := lv_entry ([.int (nI q), .int (nI i)]) (n := 2) (Nat.le_of_ble_eq_true rfl)
  rw [lg_entry_eq]
  generalize (lg_sl ([.int (nI q), .int (nI i)]) ++ List.replicate (2 - (lg_sl ([.int (nI q), .int (nI i)])).length) Slot.unset).toArray = ls at hl ⊢
  have hl : lv_has ls 2 [(0, .int (nI q)), (1, .int (nI i))] := hl
  refine lv_iload_n hx hb d_Cs_slotOf_0 rfl (lv_at hl 0 rfl) ?_
  refine lv_bipush (v := (nI 6)) hx hb d_Cs_slotOf_1 (by decide +kernel) ?_
  refine lv_imul hx hb d_Cs_slotOf_3 ?_
  refine k_top (y := (nI (q * 6))) (pk_mul q 6) ?_
  refine lv_iload_n hx hb d_Cs_slotOf_4 rfl (lv_at hl 1 rfl) ?_
  refine lv_iadd hx hb d_Cs_slotOf_5 ?_
  refine k_top (y := (nI ((q * 6) + i))) (nI_add (q * 6) i) ?_
  exact k_ri hx hb hr hlocks (rfl) d_Cs_slotOf_6
set_option maxHeartbeats 4000000 in
set_option maxRecDepth 100000 in
theorem c_Cs_routineAt (l : Launch) (G : va_G) (cI cZ cJ : ClassId) (y : Nat) (hy : y < 1000) : Met l y_Cs_routineAt (w_Cs_routineAt) ({ frames := 0, cells := 0, slots := 0, locals := 0 }) (va_Pc [.int (nI y)] (kR G vwCl [(cI, .int), (cZ, .boolean), (cJ, .long)] [])) (QcRead ((nI (y / 6)))) 0 0 (fun _ => False) := by
  refine Met.ofW (cc := b_Cs_routineAt) (maxL := 1) (ret := (some .int)) (by decide) rfl ?_
  intro p e s m args below meth c s₁ B hml hv
  obtain ⟨rfl, hP, hK⟩ := hv
  have hx := B.exec
  have hb := B.bytes
  have hr := B.returns
  have hts : ∀ w ∈ TT, w.before _ s = true := fun w h => atoms_spec (ws := (w_Cs_routineAt)) B.pre w (List.mem_cons_of_mem _ h)
  have hown : s.vm.findClass R_Cs = some m.cls := findClass_of_methodNamed B.named
  have hlocks := B.notSynchronized
  have hP : va_P G vwCl [] s.heap := hP
  have hl := lv_entry ([.int (nI y)]) (n := 1) (Nat.le_of_ble_eq_true rfl)
  rw [lg_entry_eq]
  generalize (lg_sl ([.int (nI y)]) ++ List.replicate (1 - (lg_sl ([.int (nI y)])).length) Slot.unset).toArray = ls at hl ⊢
  have hl : lv_has ls 1 [(0, .int (nI y))] := hl
  refine lv_iload_n hx hb d_Cs_routineAt_0 rfl (lv_at hl 0 rfl) ?_
  refine lv_bipush (v := (nI 6)) hx hb d_Cs_routineAt_1 (by decide +kernel) ?_
  refine lv_idiv hx hb d_Cs_routineAt_3 (by decide +kernel) ?_
  refine k_top (y := (nI (y / 6))) (pk_div (by omega) (by omega) (by omega)) ?_
  exact k_ri hx hb hr hlocks (rfl) d_Cs_routineAt_4
set_option maxHeartbeats 4000000 in
set_option maxRecDepth 100000 in
theorem c_Cs_numberAt (l : Launch) (G : va_G) (cI cZ cJ : ClassId) (y : Nat) (hy : y < 1000) : Met l y_Cs_numberAt (w_Cs_numberAt) ({ frames := 0, cells := 0, slots := 0, locals := 0 }) (va_Pc [.int (nI y)] (kR G vwCl [(cI, .int), (cZ, .boolean), (cJ, .long)] [])) (QcRead ((nI (y % 6)))) 0 0 (fun _ => False) := by
  refine Met.ofW (cc := b_Cs_numberAt) (maxL := 1) (ret := (some .int)) (by decide) rfl ?_
  intro p e s m args below meth c s₁ B hml hv
  obtain ⟨rfl, hP, hK⟩ := hv
  have hx := B.exec
  have hb := B.bytes
  have hr := B.returns
  have hts : ∀ w ∈ TT, w.before _ s = true := fun w h => atoms_spec (ws := (w_Cs_numberAt)) B.pre w (List.mem_cons_of_mem _ h)
  have hown : s.vm.findClass R_Cs = some m.cls := findClass_of_methodNamed B.named
  have hlocks := B.notSynchronized
  have hP : va_P G vwCl [] s.heap := hP
  have hl := lv_entry ([.int (nI y)]) (n := 1) (Nat.le_of_ble_eq_true rfl)
  rw [lg_entry_eq]
  generalize (lg_sl ([.int (nI y)]) ++ List.replicate (1 - (lg_sl ([.int (nI y)])).length) Slot.unset).toArray = ls at hl ⊢
  have hl : lv_has ls 1 [(0, .int (nI y))] := hl
  refine lv_iload_n hx hb d_Cs_numberAt_0 rfl (lv_at hl 0 rfl) ?_
  refine lv_bipush (v := (nI 6)) hx hb d_Cs_numberAt_1 (by decide +kernel) ?_
  refine lv_irem hx hb d_Cs_numberAt_3 (by decide +kernel) ?_
  refine k_top (y := (nI (y % 6))) (pk_rem (by omega) (by omega) (by omega)) ?_
  exact k_ri hx hb hr hlocks (rfl) d_Cs_numberAt_4
set_option maxHeartbeats 4000000 in
set_option maxRecDepth 100000 in
theorem c_Cs_forget (l : Launch) (G : va_G) (cI cZ cJ : ClassId) (sz : Nat) (a_cs : Nat) (a_cn : Nat) (a_cc : Nat) (a_cw : Nat) (a_cv : Nat) (cnum : Nat → Nat) (q : Nat) (hq : q < 16) : Met l y_Cs_forget (w_Cs_forget) ({ frames := 0, cells := 0, slots := 0, locals := 0 }) (va_Pc [.ref a_cs, .int (nI q)] (kW G vwCl [(cI, .int), (cZ, .boolean), (cJ, .long)] [(a_cs, .inr (0, [.ref a_cn, .ref a_cc, .ref a_cw, .ref a_cv])), (a_cn, .inl (cI, 16, .inl (fun j => nI (cnum j))))] sz)) (va_Qv (fun (u : Unit) => True) (fun u t => va_P G vwCl [(a_cs, .inr (0, [.ref a_cn, .ref a_cc, .ref a_cw, .ref a_cv])), (a_cn, .inl (cI, 16, .inl (fun j => nI ((va_up cnum q 0) j))))] t.heap) (va_A [(a_cs, .inr (0, [.ref a_cn, .ref a_cc, .ref a_cw, .ref a_cv])), (a_cn, .inl (cI, 16, .inl (fun j => nI (cnum j))))] sz)) 0 0 (va_A [(a_cs, .inr (0, [.ref a_cn, .ref a_cc, .ref a_cw, .ref a_cv])), (a_cn, .inl (cI, 16, .inl (fun j => nI (cnum j))))] sz) := by
  refine Met.ofW (cc := b_Cs_forget) (maxL := 2) (ret := none) (by decide) rfl ?_
  intro p e s m args below meth c s₁ B hml hv
  obtain ⟨rfl, hsz, hP, hK, hD0⟩ := hv
  have hx := B.exec
  have hb := B.bytes
  have hr := B.returns
  have hts : ∀ w ∈ TT, w.before _ s = true := fun w h => atoms_spec (ws := (w_Cs_forget)) B.pre w (List.mem_cons_of_mem _ h)
  have hown : s.vm.findClass R_Cs = some m.cls := findClass_of_methodNamed B.named
  have hlocks := B.notSynchronized
  subst hsz
  have hD := hD0.self (sz := s.heap.size)
  generalize hAe : va_A [(a_cs, .inr (0, [.ref a_cn, .ref a_cc, .ref a_cw, .ref a_cv])), (a_cn, .inl (cI, 16, .inl (fun j => nI (cnum j))))] s.heap.size = A at hD ⊢
  have hA : ∀ q : Nat, s.heap.size ≤ q → A q := fun q h => by rw [← hAe]; exact Or.inr h
  have hS : va_S A s.heap s.heap [] := va_S.rf
  have hP : va_P G vwCl [(a_cs, .inr (0, [.ref a_cn, .ref a_cc, .ref a_cw, .ref a_cv])), (a_cn, .inl (cI, 16, .inl (fun j => nI (cnum j))))] s.heap := hP
  have hl := lv_entry ([.ref a_cs, .int (nI q)]) (n := 2) (Nat.le_of_ble_eq_true rfl)
  rw [lg_entry_eq]
  generalize (lg_sl ([.ref a_cs, .int (nI q)]) ++ List.replicate (2 - (lg_sl ([.ref a_cs, .int (nI q)])).length) Slot.unset).toArray = ls at hl ⊢
  have hl : lv_has ls 2 [(0, .ref a_cs), (1, .int (nI q))] := hl
  refine lv_aload_n hx hb d_Cs_forget_0 rfl (lv_at hl 0 rfl) ?_
  refine va_get (D := G) (ci := 0) (v := .ref a_cn) (C := R_Cs) (T := T_Cs) (N := 4) hx hb hts uw_Cs hown hK hP 0 rfl rfl 0 (by decide) (hts _ t_69) (fun _ h9 => h9) rfl d_Cs_forget_1 ?_
  refine lv_iload_n hx hb d_Cs_forget_4 rfl (lv_at hl 1 rfl) ?_
  refine lv_iconst (v := (nI 0)) hx hb d_Cs_forget_5 (by decide +kernel) ?_
  refine k_iastN hx hb hK hP hD hS 1 0 rfl rfl (by omega) (by decide) d_Cs_forget_6 (fun H locs hP hD hS => ?_)
  have hP : va_P G vwCl [(a_cs, .inr (0, [.ref a_cn, .ref a_cc, .ref a_cw, .ref a_cv])), (a_cn, .inl (cI, 16, .inl (fun j => nI ((va_up cnum q 0) j))))] H := hP
  have hD : va_D A [(a_cs, .inr (0, [.ref a_cn, .ref a_cc, .ref a_cw, .ref a_cv])), (a_cn, .inl (cI, 16, .inl (fun j => nI ((va_up cnum q 0) j))))] := hD
  exact k_wv hx hb hr hlocks hP hS () (rfl) (trivial) d_Cs_forget_7
set_option maxHeartbeats 4000000 in
set_option maxRecDepth 100000 in
theorem c_Cs_numberOf (l : Launch) (G : va_G) (cI cZ cJ : ClassId) (a_cs : Nat) (a_cn : Nat) (a_cc : Nat) (a_cw : Nat) (a_cv : Nat) (cnum : Nat → Nat) (cch : Nat → Nat) (cway : Nat → Nat) (cval : Nat → Int32) (cs : Nat → List Kase) (q : Nat) (hq : q < 16) (hC : RelC cnum cch cway cval cs) : Met l y_Cs_numberOf (w_Cs_numberOf) ({ frames := 0, cells := 0, slots := 0, locals := 0 }) (va_Pc [.ref a_cs, .int (nI q)] (kR G vwCl [(cI, .int), (cZ, .boolean), (cJ, .long)] [(a_cs, .inr (0, [.ref a_cn, .ref a_cc, .ref a_cw, .ref a_cv])), (a_cn, .inl (cI, 16, .inl (fun j => nI (cnum j))))])) (QcRead ((nI ((cs q).length)))) 0 0 (fun _ => False) := by
  refine Met.ofW (cc := b_Cs_numberOf) (maxL := 2) (ret := (some .int)) (by decide) rfl ?_
  intro p e s m args below meth c s₁ B hml hv
  obtain ⟨rfl, hP, hK⟩ := hv
  have hx := B.exec
  have hb := B.bytes
  have hr := B.returns
  have hts : ∀ w ∈ TT, w.before _ s = true := fun w h => atoms_spec (ws := (w_Cs_numberOf)) B.pre w (List.mem_cons_of_mem _ h)
  have hown : s.vm.findClass R_Cs = some m.cls := findClass_of_methodNamed B.named
  have hlocks := B.notSynchronized
  have hP : va_P G vwCl [(a_cs, .inr (0, [.ref a_cn, .ref a_cc, .ref a_cw, .ref a_cv])), (a_cn, .inl (cI, 16, .inl (fun j => nI (cnum j))))] s.heap := hP
  have hl := lv_entry ([.ref a_cs, .int (nI q)]) (n := 2) (Nat.le_of_ble_eq_true rfl)
  rw [lg_entry_eq]
  generalize (lg_sl ([.ref a_cs, .int (nI q)]) ++ List.replicate (2 - (lg_sl ([.ref a_cs, .int (nI q)])).length) Slot.unset).toArray = ls at hl ⊢
  have hl : lv_has ls 2 [(0, .ref a_cs), (1, .int (nI q))] := hl
  refine lv_aload_n hx hb d_Cs_numberOf_0 rfl (lv_at hl 0 rfl) ?_
  refine va_get (D := G) (ci := 0) (v := .ref a_cn) (C := R_Cs) (T := T_Cs) (N := 4) hx hb hts uw_Cs hown hK hP 0 rfl rfl 0 (by decide) (hts _ t_69) (fun _ h9 => h9) rfl d_Cs_numberOf_1 ?_
  refine lv_iload_n hx hb d_Cs_numberOf_4 rfl (lv_at hl 1 rfl) ?_
  refine k_iald hx hb hK hP 1 0 rfl rfl (by omega) (by decide) d_Cs_numberOf_5 ?_
  exact k_ri hx hb hr hlocks (congrArg nI (hC q hq).1) d_Cs_numberOf_6
set_option maxHeartbeats 4000000 in
set_option maxRecDepth 100000 in
theorem c_Cs_append (l : Launch) (G : va_G) (cI cZ cJ : ClassId) (sz : Nat) (a_cs : Nat) (a_cn : Nat) (a_cc : Nat) (a_cw : Nat) (a_cv : Nat) (cnum : Nat → Nat) (cch : Nat → Nat) (cway : Nat → Nat) (cval : Nat → Int32) (cs : Nat → List Kase) (q : Nat) (x : Nat) (w : Nat) (v : Int32) (hq : q < 16) (hx0 : x < 40) (hw0 : w < 2) (hC : RelC cnum cch cway cval cs) : Met l y_Cs_append (w_Cs_append) ({ frames := 1, cells := 0, slots := 0, locals := 21 }) (va_Pc [.ref a_cs, .int (nI q), .int (nI x), .int (nI w), .int v] (kW G vwCl [(cI, .int), (cZ, .boolean), (cJ, .long)] [(a_cs, .inr (0, [.ref a_cn, .ref a_cc, .ref a_cw, .ref a_cv])), (a_cn, .inl (cI, 16, .inl (fun j => nI (cnum j)))), (a_cc, .inl (cI, 96, .inl (fun j => nI (cch j)))), (a_cw, .inl (cI, 96, .inl (fun j => nI (cway j)))), (a_cv, .inl (cI, 96, .inl cval))] sz)) (va_Qi (fun (r : Int32) (u : (Nat → Nat) × (Nat → Nat) × (Nat → Nat) × (Nat → Int32)) => r = (if (cs q).length < 6 then nI ((cs q).length + 1) else -1) ∧ RelC u.1 u.2.1 u.2.2.1 u.2.2.2 (addC cs q (x, w, v))) (fun u t => va_P G vwCl [(a_cs, .inr (0, [.ref a_cn, .ref a_cc, .ref a_cw, .ref a_cv])), (a_cn, .inl (cI, 16, .inl (fun j => nI (u.1 j)))), (a_cc, .inl (cI, 96, .inl (fun j => nI (u.2.1 j)))), (a_cw, .inl (cI, 96, .inl (fun j => nI (u.2.2.1 j)))), (a_cv, .inl (cI, 96, .inl u.2.2.2))] t.heap) (va_A [(a_cs, .inr (0, [.ref a_cn, .ref a_cc, .ref a_cw, .ref a_cv])), (a_cn, .inl (cI, 16, .inl (fun j => nI (cnum j)))), (a_cc, .inl (cI, 96, .inl (fun j => nI (cch j)))), (a_cw, .inl (cI, 96, .inl (fun j => nI (cway j)))), (a_cv, .inl (cI, 96, .inl cval))] sz)) 0 0 (va_A [(a_cs, .inr (0, [.ref a_cn, .ref a_cc, .ref a_cw, .ref a_cv])), (a_cn, .inl (cI, 16, .inl (fun j => nI (cnum j)))), (a_cc, .inl (cI, 96, .inl (fun j => nI (cch j)))), (a_cw, .inl (cI, 96, .inl (fun j => nI (cway j)))), (a_cv, .inl (cI, 96, .inl cval))] sz) := by
  refine Met.ofW (cc := b_Cs_append) (maxL := 6) (ret := (some .int)) (by decide) rfl ?_
  intro p e s m args below meth c s₁ B hml hv
  obtain ⟨rfl, hsz, hP, hK, hD0⟩ := hv
  have hx := B.exec
  have hb := B.bytes
  have hr := B.returns
  have hts : ∀ w ∈ TT, w.before _ s = true := fun w h => atoms_spec (ws := (w_Cs_append)) B.pre w (List.mem_cons_of_mem _ h)
  have hown : s.vm.findClass R_Cs = some m.cls := findClass_of_methodNamed B.named
  have hlocks := B.notSynchronized
  subst hsz
  have hD := hD0.self (sz := s.heap.size)
  generalize hAe : va_A [(a_cs, .inr (0, [.ref a_cn, .ref a_cc, .ref a_cw, .ref a_cv])), (a_cn, .inl (cI, 16, .inl (fun j => nI (cnum j)))), (a_cc, .inl (cI, 96, .inl (fun j => nI (cch j)))), (a_cw, .inl (cI, 96, .inl (fun j => nI (cway j)))), (a_cv, .inl (cI, 96, .inl cval))] s.heap.size = A at hD ⊢
  have hA : ∀ q : Nat, s.heap.size ≤ q → A q := fun q h => by rw [← hAe]; exact Or.inr h
  have hS : va_S A s.heap s.heap [] := va_S.rf
  have hP : va_P G vwCl [(a_cs, .inr (0, [.ref a_cn, .ref a_cc, .ref a_cw, .ref a_cv])), (a_cn, .inl (cI, 16, .inl (fun j => nI (cnum j)))), (a_cc, .inl (cI, 96, .inl (fun j => nI (cch j)))), (a_cw, .inl (cI, 96, .inl (fun j => nI (cway j)))), (a_cv, .inl (cI, 96, .inl cval))] s.heap := hP
  have hl := lv_entry ([.ref a_cs, .int (nI q), .int (nI x), .int (nI w), .int v]) (n := 6) (Nat.le_of_ble_eq_true rfl)
  rw [lg_entry_eq]
  generalize (lg_sl ([.ref a_cs, .int (nI q), .int (nI x), .int (nI w), .int v]) ++ List.replicate (6 - (lg_sl ([.ref a_cs, .int (nI q), .int (nI x), .int (nI w), .int v])).length) Slot.unset).toArray = ls at hl ⊢
  have hl : lv_has ls 6 [(0, .ref a_cs), (1, .int (nI q)), (2, .int (nI x)), (3, .int (nI w)), (4, .int v)] := hl
  obtain ⟨hh, hh2, hh3⟩ := hC q hq
  refine lv_aload_n hx hb d_Cs_append_0 rfl (lv_at hl 0 rfl) ?_
  refine va_get (D := G) (ci := 0) (v := .ref a_cn) (C := R_Cs) (T := T_Cs) (N := 4) hx hb hts uw_Cs hown hK hP 0 rfl rfl 0 (by decide) (hts _ t_69) (fun _ h9 => h9) rfl d_Cs_append_1 ?_
  refine lv_iload_n hx hb d_Cs_append_4 rfl (lv_at hl 1 rfl) ?_
  refine k_iald hx hb hK hP 1 0 rfl rfl (by omega) (by decide) d_Cs_append_5 ?_
  refine lv_bipush (v := (nI 6)) hx hb d_Cs_append_6 (by decide +kernel) ?_
  refine n_icmp_lt (tgt := 13) hx hb d_Cs_append_8 (by decide) (by omega) (by decide) (fun c_a => ?_) (fun c_a => ?_)
  · refine lv_iload_n hx hb d_Cs_append_13 rfl (lv_at hl 1 rfl) ?_
    refine lv_aload_n hx hb d_Cs_append_14 rfl (lv_at hl 0 rfl) ?_
    refine va_get (D := G) (ci := 0) (v := .ref a_cn) (C := R_Cs) (T := T_Cs) (N := 4) hx hb hts uw_Cs hown hK hP 0 rfl rfl 0 (by decide) (hts _ t_69) (fun _ h9 => h9) rfl d_Cs_append_15 ?_
    refine lv_iload_n hx hb d_Cs_append_18 rfl (lv_at hl 1 rfl) ?_
    refine k_iald hx hb hK hP 1 0 rfl rfl (by omega) (by decide) d_Cs_append_19 ?_
    refine k_ro (va_runS (As := [.int (nI q), .int (nI (cnum q))]) (rest := []) ⟨hx, hb, hml, hown, hts⟩ (c_Cs_slotOf l G cI cZ cJ q (cnum q)) (va_cwS 2 hts (gS t_180 t_181 t_34 t_182) rfl rfl rfl (by decide +kernel) ⟨Nat.le_of_ble_eq_true rfl, Nat.le_of_ble_eq_true rfl⟩) (kR_S hK hP [] rfl) rfl rfl hl.1 rfl (lv_room (Nat.le_of_ble_eq_true rfl)) d_Cs_append_20 ⟨Nat.le_of_ble_eq_true rfl, Nat.le_of_ble_eq_true rfl⟩) ?_
    refine lv_istore (lv' := [(5, .int (nI (q * 6 + (cnum q)))), (0, .ref a_cs), (1, .int (nI q)), (2, .int (nI x)), (3, .int (nI w)), (4, .int v)]) hx hb d_Cs_append_23 hl (by decide) rfl (fun ls hl => ?_)
    refine lv_aload_n hx hb d_Cs_append_25 rfl (lv_at hl 1 rfl) ?_
    refine va_get (D := G) (ci := 0) (v := .ref a_cc) (C := R_Cs) (T := T_Cs) (N := 4) hx hb hts uw_Cs hown hK hP 0 rfl rfl 1 (by decide) (hts _ t_70) (fun _ h9 => h9) rfl d_Cs_append_26 ?_
    refine lv_iload hx hb d_Cs_append_29 (lv_at hl 0 rfl) ?_
    refine lv_iload_n hx hb d_Cs_append_31 rfl (lv_at hl 3 rfl) ?_
    refine k_iastN hx hb hK hP hD hS 2 0 rfl rfl (by omega) (by decide) d_Cs_append_32 (fun H locs hP hD hS => ?_)
    have hP : va_P G vwCl [(a_cs, .inr (0, [.ref a_cn, .ref a_cc, .ref a_cw, .ref a_cv])), (a_cn, .inl (cI, 16, .inl (fun j => nI (cnum j)))), (a_cc, .inl (cI, 96, .inl (fun j => nI ((va_up cch (q * 6 + (cnum q)) x) j)))), (a_cw, .inl (cI, 96, .inl (fun j => nI (cway j)))), (a_cv, .inl (cI, 96, .inl cval))] H := hP
    have hD : va_D A [(a_cs, .inr (0, [.ref a_cn, .ref a_cc, .ref a_cw, .ref a_cv])), (a_cn, .inl (cI, 16, .inl (fun j => nI (cnum j)))), (a_cc, .inl (cI, 96, .inl (fun j => nI ((va_up cch (q * 6 + (cnum q)) x) j)))), (a_cw, .inl (cI, 96, .inl (fun j => nI (cway j)))), (a_cv, .inl (cI, 96, .inl cval))] := hD
    refine lv_aload_n hx hb d_Cs_append_33 rfl (lv_at hl 1 rfl) ?_
    refine va_get (D := G) (ci := 0) (v := .ref a_cw) (C := R_Cs) (T := T_Cs) (N := 4) hx hb hts uw_Cs hown hK hP 0 rfl rfl 2 (by decide) (hts _ t_71) (fun _ h9 => h9) rfl d_Cs_append_34 ?_
    refine lv_iload hx hb d_Cs_append_37 (lv_at hl 0 rfl) ?_
    refine lv_iload_n hx hb d_Cs_append_39 rfl (lv_at hl 4 rfl) ?_
    refine k_iastN hx hb hK hP hD hS 3 0 rfl rfl (by omega) (by decide) d_Cs_append_40 (fun H locs hP hD hS => ?_)
    have hP : va_P G vwCl [(a_cs, .inr (0, [.ref a_cn, .ref a_cc, .ref a_cw, .ref a_cv])), (a_cn, .inl (cI, 16, .inl (fun j => nI (cnum j)))), (a_cc, .inl (cI, 96, .inl (fun j => nI ((va_up cch (q * 6 + (cnum q)) x) j)))), (a_cw, .inl (cI, 96, .inl (fun j => nI ((va_up cway (q * 6 + (cnum q)) w) j)))), (a_cv, .inl (cI, 96, .inl cval))] H := hP
    have hD : va_D A [(a_cs, .inr (0, [.ref a_cn, .ref a_cc, .ref a_cw, .ref a_cv])), (a_cn, .inl (cI, 16, .inl (fun j => nI (cnum j)))), (a_cc, .inl (cI, 96, .inl (fun j => nI ((va_up cch (q * 6 + (cnum q)) x) j)))), (a_cw, .inl (cI, 96, .inl (fun j => nI ((va_up cway (q * 6 + (cnum q)) w) j)))), (a_cv, .inl (cI, 96, .inl cval))] := hD
    refine lv_aload_n hx hb d_Cs_append_41 rfl (lv_at hl 1 rfl) ?_
    refine va_get (D := G) (ci := 0) (v := .ref a_cv) (C := R_Cs) (T := T_Cs) (N := 4) hx hb hts uw_Cs hown hK hP 0 rfl rfl 3 (by decide) (hts _ t_72) (fun _ h9 => h9) rfl d_Cs_append_42 ?_
    refine lv_iload hx hb d_Cs_append_45 (lv_at hl 0 rfl) ?_
    refine lv_iload hx hb d_Cs_append_47 (lv_at hl 5 rfl) ?_
    refine k_iast hx hb hK hP hD hS 4 0 rfl rfl (by omega) (by decide) d_Cs_append_49 (fun H locs hP hD hS => ?_)
    have hP : va_P G vwCl [(a_cs, .inr (0, [.ref a_cn, .ref a_cc, .ref a_cw, .ref a_cv])), (a_cn, .inl (cI, 16, .inl (fun j => nI (cnum j)))), (a_cc, .inl (cI, 96, .inl (fun j => nI ((va_up cch (q * 6 + (cnum q)) x) j)))), (a_cw, .inl (cI, 96, .inl (fun j => nI ((va_up cway (q * 6 + (cnum q)) w) j)))), (a_cv, .inl (cI, 96, .inl (va_up cval (q * 6 + (cnum q)) v)))] H := hP
    have hD : va_D A [(a_cs, .inr (0, [.ref a_cn, .ref a_cc, .ref a_cw, .ref a_cv])), (a_cn, .inl (cI, 16, .inl (fun j => nI (cnum j)))), (a_cc, .inl (cI, 96, .inl (fun j => nI ((va_up cch (q * 6 + (cnum q)) x) j)))), (a_cw, .inl (cI, 96, .inl (fun j => nI ((va_up cway (q * 6 + (cnum q)) w) j)))), (a_cv, .inl (cI, 96, .inl (va_up cval (q * 6 + (cnum q)) v)))] := hD
    refine lv_aload_n hx hb d_Cs_append_50 rfl (lv_at hl 1 rfl) ?_
    refine va_get (D := G) (ci := 0) (v := .ref a_cn) (C := R_Cs) (T := T_Cs) (N := 4) hx hb hts uw_Cs hown hK hP 0 rfl rfl 0 (by decide) (hts _ t_69) (fun _ h9 => h9) rfl d_Cs_append_51 ?_
    refine lv_iload_n hx hb d_Cs_append_54 rfl (lv_at hl 2 rfl) ?_
    refine lv_dup2_11 hx hb d_Cs_append_55 rfl rfl ?_
    refine k_iald hx hb hK hP 1 0 rfl rfl (by omega) (by decide) d_Cs_append_56 ?_
    refine lv_iconst (v := (nI 1)) hx hb d_Cs_append_57 (by decide +kernel) ?_
    refine lv_iadd hx hb d_Cs_append_58 ?_
    refine k_top (y := (nI ((cnum q) + 1))) (nI_add (cnum q) 1) ?_
    refine k_iastN hx hb hK hP hD hS 1 0 rfl rfl (by omega) (by decide) d_Cs_append_59 (fun H locs hP hD hS => ?_)
    have hP : va_P G vwCl [(a_cs, .inr (0, [.ref a_cn, .ref a_cc, .ref a_cw, .ref a_cv])), (a_cn, .inl (cI, 16, .inl (fun j => nI ((va_up cnum q ((cnum q) + 1)) j)))), (a_cc, .inl (cI, 96, .inl (fun j => nI ((va_up cch (q * 6 + (cnum q)) x) j)))), (a_cw, .inl (cI, 96, .inl (fun j => nI ((va_up cway (q * 6 + (cnum q)) w) j)))), (a_cv, .inl (cI, 96, .inl (va_up cval (q * 6 + (cnum q)) v)))] H := hP
    have hD : va_D A [(a_cs, .inr (0, [.ref a_cn, .ref a_cc, .ref a_cw, .ref a_cv])), (a_cn, .inl (cI, 16, .inl (fun j => nI ((va_up cnum q ((cnum q) + 1)) j)))), (a_cc, .inl (cI, 96, .inl (fun j => nI ((va_up cch (q * 6 + (cnum q)) x) j)))), (a_cw, .inl (cI, 96, .inl (fun j => nI ((va_up cway (q * 6 + (cnum q)) w) j)))), (a_cv, .inl (cI, 96, .inl (va_up cval (q * 6 + (cnum q)) v)))] := hD
    refine lv_aload_n hx hb d_Cs_append_60 rfl (lv_at hl 1 rfl) ?_
    refine va_get (D := G) (ci := 0) (v := .ref a_cn) (C := R_Cs) (T := T_Cs) (N := 4) hx hb hts uw_Cs hown hK hP 0 rfl rfl 0 (by decide) (hts _ t_69) (fun _ h9 => h9) rfl d_Cs_append_61 ?_
    refine lv_iload_n hx hb d_Cs_append_64 rfl (lv_at hl 2 rfl) ?_
    refine k_iald hx hb hK hP 1 0 rfl rfl (by omega) (by decide) d_Cs_append_65 ?_
    exact k_wi hx hb hr hlocks hP hS (va_up cnum q ((cnum q) + 1), va_up cch (q * 6 + (cnum q)) x, va_up cway (q * 6 + (cnum q)) w, va_up cval (q * 6 + (cnum q)) v) (rfl) (⟨by rw [if_pos (show (cs q).length < 6 by omega), va_up_self, hh], by rw [addC, if_pos (show (cs q).length < 6 by omega)]; exact hC.add hq v hx0 hw0 (by omega)⟩) d_Cs_append_66
  · refine lv_iconst (v := (-1)) hx hb d_Cs_append_11 (by decide +kernel) ?_
    exact k_wi hx hb hr hlocks hP hS (cnum, cch, cway, cval) (rfl) (⟨by rw [if_neg (show ¬ (cs q).length < 6 by omega)], by rw [addC, if_neg (show ¬ (cs q).length < 6 by omega)]; exact hC⟩) d_Cs_append_12
set_option maxHeartbeats 4000000 in
set_option maxRecDepth 100000 in
theorem c_Cs_channelAt (l : Launch) (G : va_G) (cI cZ cJ : ClassId) (a_cs : Nat) (a_cn : Nat) (a_cc : Nat) (a_cw : Nat) (a_cv : Nat) (cch : Nat → Nat) (cnum : Nat → Nat) (cway : Nat → Nat) (cval : Nat → Int32) (cs : Nat → List Kase) (q : Nat) (i : Nat) (hq : q < 16) (hC : RelC cnum cch cway cval cs) (hi : i < (cs q).length) : Met l y_Cs_channelAt (w_Cs_channelAt) ({ frames := 0, cells := 0, slots := 0, locals := 0 }) (va_Pc [.ref a_cs, .int (nI (q * 6 + i))] (kR G vwCl [(cI, .int), (cZ, .boolean), (cJ, .long)] [(a_cs, .inr (0, [.ref a_cn, .ref a_cc, .ref a_cw, .ref a_cv])), (a_cc, .inl (cI, 96, .inl (fun j => nI (cch j))))])) (QcRead ((nI ((kAt cs q i).1)))) 0 0 (fun _ => False) := by
  refine Met.ofW (cc := b_Cs_channelAt) (maxL := 2) (ret := (some .int)) (by decide) rfl ?_
  intro p e s m args below meth c s₁ B hml hv
  obtain ⟨rfl, hP, hK⟩ := hv
  have hx := B.exec
  have hb := B.bytes
  have hr := B.returns
  have hts : ∀ w ∈ TT, w.before _ s = true := fun w h => atoms_spec (ws := (w_Cs_channelAt)) B.pre w (List.mem_cons_of_mem _ h)
  have hown : s.vm.findClass R_Cs = some m.cls := findClass_of_methodNamed B.named
  have hlocks := B.notSynchronized
  have hP : va_P G vwCl [(a_cs, .inr (0, [.ref a_cn, .ref a_cc, .ref a_cw, .ref a_cv])), (a_cc, .inl (cI, 96, .inl (fun j => nI (cch j))))] s.heap := hP
  have hl := lv_entry ([.ref a_cs, .int (nI (q * 6 + i))]) (n := 2) (Nat.le_of_ble_eq_true rfl)
  rw [lg_entry_eq]
  generalize (lg_sl ([.ref a_cs, .int (nI (q * 6 + i))]) ++ List.replicate (2 - (lg_sl ([.ref a_cs, .int (nI (q * 6 + i))])).length) Slot.unset).toArray = ls at hl ⊢
  have hl : lv_has ls 2 [(0, .ref a_cs), (1, .int (nI (q * 6 + i)))] := hl
  obtain ⟨hh, hh2, hh3⟩ := hC q hq
  refine lv_aload_n hx hb d_Cs_channelAt_0 rfl (lv_at hl 0 rfl) ?_
  refine va_get (D := G) (ci := 0) (v := .ref a_cc) (C := R_Cs) (T := T_Cs) (N := 4) hx hb hts uw_Cs hown hK hP 0 rfl rfl 1 (by decide) (hts _ t_70) (fun _ h9 => h9) rfl d_Cs_channelAt_1 ?_
  refine lv_iload_n hx hb d_Cs_channelAt_4 rfl (lv_at hl 1 rfl) ?_
  refine k_iald hx hb hK hP 1 0 rfl rfl (by omega) (by decide) d_Cs_channelAt_5 ?_
  exact k_ri hx hb hr hlocks (by rw [kAt, List.getD_eq_getElem?_getD, List.getElem?_eq_getElem hi]; exact congrArg nI (hh3 i hi).1) d_Cs_channelAt_6
set_option maxHeartbeats 4000000 in
set_option maxRecDepth 100000 in
theorem c_Cs_wayAt (l : Launch) (G : va_G) (cI cZ cJ : ClassId) (a_cs : Nat) (a_cn : Nat) (a_cc : Nat) (a_cw : Nat) (a_cv : Nat) (cway : Nat → Nat) (cnum : Nat → Nat) (cch : Nat → Nat) (cval : Nat → Int32) (cs : Nat → List Kase) (q : Nat) (i : Nat) (hq : q < 16) (hC : RelC cnum cch cway cval cs) (hi : i < (cs q).length) : Met l y_Cs_wayAt (w_Cs_wayAt) ({ frames := 0, cells := 0, slots := 0, locals := 0 }) (va_Pc [.ref a_cs, .int (nI (q * 6 + i))] (kR G vwCl [(cI, .int), (cZ, .boolean), (cJ, .long)] [(a_cs, .inr (0, [.ref a_cn, .ref a_cc, .ref a_cw, .ref a_cv])), (a_cw, .inl (cI, 96, .inl (fun j => nI (cway j))))])) (QcRead ((nI ((kAt cs q i).2.1)))) 0 0 (fun _ => False) := by
  refine Met.ofW (cc := b_Cs_wayAt) (maxL := 2) (ret := (some .int)) (by decide) rfl ?_
  intro p e s m args below meth c s₁ B hml hv
  obtain ⟨rfl, hP, hK⟩ := hv
  have hx := B.exec
  have hb := B.bytes
  have hr := B.returns
  have hts : ∀ w ∈ TT, w.before _ s = true := fun w h => atoms_spec (ws := (w_Cs_wayAt)) B.pre w (List.mem_cons_of_mem _ h)
  have hown : s.vm.findClass R_Cs = some m.cls := findClass_of_methodNamed B.named
  have hlocks := B.notSynchronized
  have hP : va_P G vwCl [(a_cs, .inr (0, [.ref a_cn, .ref a_cc, .ref a_cw, .ref a_cv])), (a_cw, .inl (cI, 96, .inl (fun j => nI (cway j))))] s.heap := hP
  have hl := lv_entry ([.ref a_cs, .int (nI (q * 6 + i))]) (n := 2) (Nat.le_of_ble_eq_true rfl)
  rw [lg_entry_eq]
  generalize (lg_sl ([.ref a_cs, .int (nI (q * 6 + i))]) ++ List.replicate (2 - (lg_sl ([.ref a_cs, .int (nI (q * 6 + i))])).length) Slot.unset).toArray = ls at hl ⊢
  have hl : lv_has ls 2 [(0, .ref a_cs), (1, .int (nI (q * 6 + i)))] := hl
  obtain ⟨hh, hh2, hh3⟩ := hC q hq
  refine lv_aload_n hx hb d_Cs_wayAt_0 rfl (lv_at hl 0 rfl) ?_
  refine va_get (D := G) (ci := 0) (v := .ref a_cw) (C := R_Cs) (T := T_Cs) (N := 4) hx hb hts uw_Cs hown hK hP 0 rfl rfl 2 (by decide) (hts _ t_71) (fun _ h9 => h9) rfl d_Cs_wayAt_1 ?_
  refine lv_iload_n hx hb d_Cs_wayAt_4 rfl (lv_at hl 1 rfl) ?_
  refine k_iald hx hb hK hP 1 0 rfl rfl (by omega) (by decide) d_Cs_wayAt_5 ?_
  exact k_ri hx hb hr hlocks (by rw [kAt, List.getD_eq_getElem?_getD, List.getElem?_eq_getElem hi]; exact congrArg nI (hh3 i hi).2.1) d_Cs_wayAt_6
set_option maxHeartbeats 4000000 in
set_option maxRecDepth 100000 in
theorem c_Cs_valueAt (l : Launch) (G : va_G) (cI cZ cJ : ClassId) (a_cs : Nat) (a_cn : Nat) (a_cc : Nat) (a_cw : Nat) (a_cv : Nat) (cval : Nat → Int32) (cnum : Nat → Nat) (cch : Nat → Nat) (cway : Nat → Nat) (cs : Nat → List Kase) (q : Nat) (i : Nat) (hq : q < 16) (hC : RelC cnum cch cway cval cs) (hi : i < (cs q).length) : Met l y_Cs_valueAt (w_Cs_valueAt) ({ frames := 0, cells := 0, slots := 0, locals := 0 }) (va_Pc [.ref a_cs, .int (nI (q * 6 + i))] (kR G vwCl [(cI, .int), (cZ, .boolean), (cJ, .long)] [(a_cs, .inr (0, [.ref a_cn, .ref a_cc, .ref a_cw, .ref a_cv])), (a_cv, .inl (cI, 96, .inl cval))])) (QcRead (((kAt cs q i).2.2))) 0 0 (fun _ => False) := by
  refine Met.ofW (cc := b_Cs_valueAt) (maxL := 2) (ret := (some .int)) (by decide) rfl ?_
  intro p e s m args below meth c s₁ B hml hv
  obtain ⟨rfl, hP, hK⟩ := hv
  have hx := B.exec
  have hb := B.bytes
  have hr := B.returns
  have hts : ∀ w ∈ TT, w.before _ s = true := fun w h => atoms_spec (ws := (w_Cs_valueAt)) B.pre w (List.mem_cons_of_mem _ h)
  have hown : s.vm.findClass R_Cs = some m.cls := findClass_of_methodNamed B.named
  have hlocks := B.notSynchronized
  have hP : va_P G vwCl [(a_cs, .inr (0, [.ref a_cn, .ref a_cc, .ref a_cw, .ref a_cv])), (a_cv, .inl (cI, 96, .inl cval))] s.heap := hP
  have hl := lv_entry ([.ref a_cs, .int (nI (q * 6 + i))]) (n := 2) (Nat.le_of_ble_eq_true rfl)
  rw [lg_entry_eq]
  generalize (lg_sl ([.ref a_cs, .int (nI (q * 6 + i))]) ++ List.replicate (2 - (lg_sl ([.ref a_cs, .int (nI (q * 6 + i))])).length) Slot.unset).toArray = ls at hl ⊢
  have hl : lv_has ls 2 [(0, .ref a_cs), (1, .int (nI (q * 6 + i)))] := hl
  obtain ⟨hh, hh2, hh3⟩ := hC q hq
  refine lv_aload_n hx hb d_Cs_valueAt_0 rfl (lv_at hl 0 rfl) ?_
  refine va_get (D := G) (ci := 0) (v := .ref a_cv) (C := R_Cs) (T := T_Cs) (N := 4) hx hb hts uw_Cs hown hK hP 0 rfl rfl 3 (by decide) (hts _ t_72) (fun _ h9 => h9) rfl d_Cs_valueAt_1 ?_
  refine lv_iload_n hx hb d_Cs_valueAt_4 rfl (lv_at hl 1 rfl) ?_
  refine k_iald hx hb hK hP 1 0 rfl rfl (by omega) (by decide) d_Cs_valueAt_5 ?_
  exact k_ri hx hb hr hlocks (by rw [kAt, List.getD_eq_getElem?_getD, List.getElem?_eq_getElem hi]; exact (hh3 i hi).2.2.1) d_Cs_valueAt_6
set_option maxHeartbeats 4000000 in
set_option maxRecDepth 100000 in
theorem c_Ln_empty (l : Launch) (G : va_G) (cI cZ cJ : ClassId) (sz : Nat) (a_ln : Nat) (a_mm : Nat) (len : Nat)  : Met l y_Ln_empty (w_Ln_empty) ({ frames := 0, cells := 0, slots := 0, locals := 0 }) (va_Pc [.ref a_ln] (kW G vwCl [(cI, .int), (cZ, .boolean), (cJ, .long)] [(a_ln, .inr (2, [.ref a_mm, .int (nI len)]))] sz)) (va_Qv (fun (u : Unit) => True) (fun u t => va_P G vwCl [(a_ln, .inr (2, [.ref a_mm, .int (nI 0)]))] t.heap) (va_A [(a_ln, .inr (2, [.ref a_mm, .int (nI len)]))] sz)) 0 0 (va_A [(a_ln, .inr (2, [.ref a_mm, .int (nI len)]))] sz) := by
  refine Met.ofW (cc := b_Ln_empty) (maxL := 1) (ret := none) (by decide) rfl ?_
  intro p e s m args below meth c s₁ B hml hv
  obtain ⟨rfl, hsz, hP, hK, hD0⟩ := hv
  have hx := B.exec
  have hb := B.bytes
  have hr := B.returns
  have hts : ∀ w ∈ TT, w.before _ s = true := fun w h => atoms_spec (ws := (w_Ln_empty)) B.pre w (List.mem_cons_of_mem _ h)
  have hown : s.vm.findClass R_Ln = some m.cls := findClass_of_methodNamed B.named
  have hlocks := B.notSynchronized
  subst hsz
  have hD := hD0.self (sz := s.heap.size)
  generalize hAe : va_A [(a_ln, .inr (2, [.ref a_mm, .int (nI len)]))] s.heap.size = A at hD ⊢
  have hA : ∀ q : Nat, s.heap.size ≤ q → A q := fun q h => by rw [← hAe]; exact Or.inr h
  have hS : va_S A s.heap s.heap [] := va_S.rf
  have hP : va_P G vwCl [(a_ln, .inr (2, [.ref a_mm, .int (nI len)]))] s.heap := hP
  have hl := lv_entry ([.ref a_ln]) (n := 1) (Nat.le_of_ble_eq_true rfl)
  rw [lg_entry_eq]
  generalize (lg_sl ([.ref a_ln]) ++ List.replicate (1 - (lg_sl ([.ref a_ln])).length) Slot.unset).toArray = ls at hl ⊢
  have hl : lv_has ls 1 [(0, .ref a_ln)] := hl
  refine lv_aload_n hx hb d_Ln_empty_0 rfl (lv_at hl 0 rfl) ?_
  refine lv_iconst (v := (nI 0)) hx hb d_Ln_empty_1 (by decide +kernel) ?_
  refine va_put (D := G) (ci := 2) (v := .int (nI 0)) (ty := .int) (C := R_Ln) (T := T_Ln) (N := 2) hx hb hts uw_Ln ty_Ln tyok_Ln nm_Ln hown hK hP hD hS 0 rfl rfl 1 (by decide) (hts _ t_83) (fun _ h9 => h9) rfl (by decide +kernel) rfl rfl (Nat.le_of_ble_eq_true rfl) d_Ln_empty_2 (fun H locs hP hD hS => ?_)
  have hP : va_P G vwCl [(a_ln, .inr (2, [.ref a_mm, .int (nI 0)]))] H := hP
  have hD : va_D A [(a_ln, .inr (2, [.ref a_mm, .int (nI 0)]))] := hD
  exact k_wv hx hb hr hlocks hP hS () (rfl) (trivial) d_Ln_empty_5
set_option maxHeartbeats 4000000 in
set_option maxRecDepth 100000 in
theorem c_Ln_length (l : Launch) (G : va_G) (cI cZ cJ : ClassId) (a_ln : Nat) (a_mm : Nat) (len : Nat) (mem : Nat → Nat) (line : List Nat) (hL : RelL len mem line) : Met l y_Ln_length (w_Ln_length) ({ frames := 0, cells := 0, slots := 0, locals := 0 }) (va_Pc [.ref a_ln] (kR G vwCl [(cI, .int), (cZ, .boolean), (cJ, .long)] [(a_ln, .inr (2, [.ref a_mm, .int (nI len)]))])) (QcRead ((nI line.length))) 0 0 (fun _ => False) := by
  refine Met.ofW (cc := b_Ln_length) (maxL := 1) (ret := (some .int)) (by decide) rfl ?_
  intro p e s m args below meth c s₁ B hml hv
  obtain ⟨rfl, hP, hK⟩ := hv
  have hx := B.exec
  have hb := B.bytes
  have hr := B.returns
  have hts : ∀ w ∈ TT, w.before _ s = true := fun w h => atoms_spec (ws := (w_Ln_length)) B.pre w (List.mem_cons_of_mem _ h)
  have hown : s.vm.findClass R_Ln = some m.cls := findClass_of_methodNamed B.named
  have hlocks := B.notSynchronized
  have hP : va_P G vwCl [(a_ln, .inr (2, [.ref a_mm, .int (nI len)]))] s.heap := hP
  have hl := lv_entry ([.ref a_ln]) (n := 1) (Nat.le_of_ble_eq_true rfl)
  rw [lg_entry_eq]
  generalize (lg_sl ([.ref a_ln]) ++ List.replicate (1 - (lg_sl ([.ref a_ln])).length) Slot.unset).toArray = ls at hl ⊢
  have hl : lv_has ls 1 [(0, .ref a_ln)] := hl
  refine lv_aload_n hx hb d_Ln_length_0 rfl (lv_at hl 0 rfl) ?_
  refine va_get (D := G) (ci := 2) (v := .int (nI len)) (C := R_Ln) (T := T_Ln) (N := 2) hx hb hts uw_Ln hown hK hP 0 rfl rfl 1 (by decide) (hts _ t_83) (fun _ h9 => h9) rfl d_Ln_length_1 ?_
  exact k_ri hx hb hr hlocks (congrArg nI hL.1) d_Ln_length_4
set_option maxHeartbeats 4000000 in
set_option maxRecDepth 100000 in
theorem c_Ln_memberAt (l : Launch) (G : va_G) (cI cZ cJ : ClassId) (a_ln : Nat) (a_mm : Nat) (len : Nat) (mem : Nat → Nat) (line : List Nat) (i : Nat) (hL : RelL len mem line) (hi : i < line.length) : Met l y_Ln_memberAt (w_Ln_memberAt) ({ frames := 0, cells := 0, slots := 0, locals := 0 }) (va_Pc [.ref a_ln, .int (nI i)] (kR G vwCl [(cI, .int), (cZ, .boolean), (cJ, .long)] [(a_ln, .inr (2, [.ref a_mm, .int (nI len)])), (a_mm, .inl (cI, 16, .inl (fun j => nI (mem j))))])) (QcRead ((nI (line.getD i 0)))) 0 0 (fun _ => False) := by
  refine Met.ofW (cc := b_Ln_memberAt) (maxL := 2) (ret := (some .int)) (by decide) rfl ?_
  intro p e s m args below meth c s₁ B hml hv
  obtain ⟨rfl, hP, hK⟩ := hv
  have hx := B.exec
  have hb := B.bytes
  have hr := B.returns
  have hts : ∀ w ∈ TT, w.before _ s = true := fun w h => atoms_spec (ws := (w_Ln_memberAt)) B.pre w (List.mem_cons_of_mem _ h)
  have hown : s.vm.findClass R_Ln = some m.cls := findClass_of_methodNamed B.named
  have hlocks := B.notSynchronized
  have hP : va_P G vwCl [(a_ln, .inr (2, [.ref a_mm, .int (nI len)])), (a_mm, .inl (cI, 16, .inl (fun j => nI (mem j))))] s.heap := hP
  have hl := lv_entry ([.ref a_ln, .int (nI i)]) (n := 2) (Nat.le_of_ble_eq_true rfl)
  rw [lg_entry_eq]
  generalize (lg_sl ([.ref a_ln, .int (nI i)]) ++ List.replicate (2 - (lg_sl ([.ref a_ln, .int (nI i)])).length) Slot.unset).toArray = ls at hl ⊢
  have hl : lv_has ls 2 [(0, .ref a_ln), (1, .int (nI i))] := hl
  have hh := hL.2.1
  refine lv_aload_n hx hb d_Ln_memberAt_0 rfl (lv_at hl 0 rfl) ?_
  refine va_get (D := G) (ci := 2) (v := .ref a_mm) (C := R_Ln) (T := T_Ln) (N := 2) hx hb hts uw_Ln hown hK hP 0 rfl rfl 0 (by decide) (hts _ t_82) (fun _ h9 => h9) rfl d_Ln_memberAt_1 ?_
  refine lv_iload_n hx hb d_Ln_memberAt_4 rfl (lv_at hl 1 rfl) ?_
  refine k_iald hx hb hK hP 1 0 rfl rfl (by omega) (by decide) d_Ln_memberAt_5 ?_
  exact k_ri hx hb hr hlocks (by rw [List.getD_eq_getElem?_getD, List.getElem?_eq_getElem hi]; exact congrArg nI (hL.2.2 i hi).1) d_Ln_memberAt_6
set_option maxHeartbeats 4000000 in
set_option maxRecDepth 100000 in
theorem c_Ln_join (l : Launch) (G : va_G) (cI cZ cJ : ClassId) (sz : Nat) (a_ln : Nat) (a_mm : Nat) (len : Nat) (mem : Nat → Nat) (line : List Nat) (q : Nat) (hq : q < 16) (hL : RelL len mem line) (hlt : line.length < 16) : Met l y_Ln_join (w_Ln_join) ({ frames := 0, cells := 0, slots := 0, locals := 0 }) (va_Pc [.ref a_ln, .int (nI q)] (kW G vwCl [(cI, .int), (cZ, .boolean), (cJ, .long)] [(a_ln, .inr (2, [.ref a_mm, .int (nI len)])), (a_mm, .inl (cI, 16, .inl (fun j => nI (mem j))))] sz)) (va_Qv (fun (u : Nat × (Nat → Nat)) => RelL u.1 u.2 (line ++ [q])) (fun u t => va_P G vwCl [(a_ln, .inr (2, [.ref a_mm, .int (nI u.1)])), (a_mm, .inl (cI, 16, .inl (fun j => nI (u.2 j))))] t.heap) (va_A [(a_ln, .inr (2, [.ref a_mm, .int (nI len)])), (a_mm, .inl (cI, 16, .inl (fun j => nI (mem j))))] sz)) 0 0 (va_A [(a_ln, .inr (2, [.ref a_mm, .int (nI len)])), (a_mm, .inl (cI, 16, .inl (fun j => nI (mem j))))] sz) := by
  refine Met.ofW (cc := b_Ln_join) (maxL := 2) (ret := none) (by decide) rfl ?_
  intro p e s m args below meth c s₁ B hml hv
  obtain ⟨rfl, hsz, hP, hK, hD0⟩ := hv
  have hx := B.exec
  have hb := B.bytes
  have hr := B.returns
  have hts : ∀ w ∈ TT, w.before _ s = true := fun w h => atoms_spec (ws := (w_Ln_join)) B.pre w (List.mem_cons_of_mem _ h)
  have hown : s.vm.findClass R_Ln = some m.cls := findClass_of_methodNamed B.named
  have hlocks := B.notSynchronized
  subst hsz
  have hD := hD0.self (sz := s.heap.size)
  generalize hAe : va_A [(a_ln, .inr (2, [.ref a_mm, .int (nI len)])), (a_mm, .inl (cI, 16, .inl (fun j => nI (mem j))))] s.heap.size = A at hD ⊢
  have hA : ∀ q : Nat, s.heap.size ≤ q → A q := fun q h => by rw [← hAe]; exact Or.inr h
  have hS : va_S A s.heap s.heap [] := va_S.rf
  have hP : va_P G vwCl [(a_ln, .inr (2, [.ref a_mm, .int (nI len)])), (a_mm, .inl (cI, 16, .inl (fun j => nI (mem j))))] s.heap := hP
  have hl := lv_entry ([.ref a_ln, .int (nI q)]) (n := 2) (Nat.le_of_ble_eq_true rfl)
  rw [lg_entry_eq]
  generalize (lg_sl ([.ref a_ln, .int (nI q)]) ++ List.replicate (2 - (lg_sl ([.ref a_ln, .int (nI q)])).length) Slot.unset).toArray = ls at hl ⊢
  have hl : lv_has ls 2 [(0, .ref a_ln), (1, .int (nI q))] := hl
  have hh := hL.1
  refine lv_aload_n hx hb d_Ln_join_0 rfl (lv_at hl 0 rfl) ?_
  refine va_get (D := G) (ci := 2) (v := .int (nI len)) (C := R_Ln) (T := T_Ln) (N := 2) hx hb hts uw_Ln hown hK hP 0 rfl rfl 1 (by decide) (hts _ t_83) (fun _ h9 => h9) rfl d_Ln_join_1 ?_
  refine lv_bipush (v := (nI 16)) hx hb d_Ln_join_4 (by decide +kernel) ?_
  refine n_icmp_ge (tgt := 29) hx hb d_Ln_join_6 (by decide) (by omega) (by decide) (fun c_a => absurd c_a (Nat.not_le.mpr (show len < 16 by omega))) (fun c_a => ?_)
  refine lv_aload_n hx hb d_Ln_join_9 rfl (lv_at hl 0 rfl) ?_
  refine va_get (D := G) (ci := 2) (v := .ref a_mm) (C := R_Ln) (T := T_Ln) (N := 2) hx hb hts uw_Ln hown hK hP 0 rfl rfl 0 (by decide) (hts _ t_82) (fun _ h9 => h9) rfl d_Ln_join_10 ?_
  refine lv_aload_n hx hb d_Ln_join_13 rfl (lv_at hl 0 rfl) ?_
  refine va_get (D := G) (ci := 2) (v := .int (nI len)) (C := R_Ln) (T := T_Ln) (N := 2) hx hb hts uw_Ln hown hK hP 0 rfl rfl 1 (by decide) (hts _ t_83) (fun _ h9 => h9) rfl d_Ln_join_14 ?_
  refine lv_iload_n hx hb d_Ln_join_17 rfl (lv_at hl 1 rfl) ?_
  refine k_iastN hx hb hK hP hD hS 1 0 rfl rfl (by omega) (by decide) d_Ln_join_18 (fun H locs hP hD hS => ?_)
  have hP : va_P G vwCl [(a_ln, .inr (2, [.ref a_mm, .int (nI len)])), (a_mm, .inl (cI, 16, .inl (fun j => nI ((va_up mem len q) j))))] H := hP
  have hD : va_D A [(a_ln, .inr (2, [.ref a_mm, .int (nI len)])), (a_mm, .inl (cI, 16, .inl (fun j => nI ((va_up mem len q) j))))] := hD
  refine lv_aload_n hx hb d_Ln_join_19 rfl (lv_at hl 0 rfl) ?_
  refine lv_dup hx hb d_Ln_join_20 rfl ?_
  refine va_get (D := G) (ci := 2) (v := .int (nI len)) (C := R_Ln) (T := T_Ln) (N := 2) hx hb hts uw_Ln hown hK hP 0 rfl rfl 1 (by decide) (hts _ t_83) (fun _ h9 => h9) rfl d_Ln_join_21 ?_
  refine lv_iconst (v := (nI 1)) hx hb d_Ln_join_24 (by decide +kernel) ?_
  refine lv_iadd hx hb d_Ln_join_25 ?_
  refine k_top (y := (nI (len + 1))) (nI_add len 1) ?_
  refine va_put (D := G) (ci := 2) (v := .int (nI (len + 1))) (ty := .int) (C := R_Ln) (T := T_Ln) (N := 2) hx hb hts uw_Ln ty_Ln tyok_Ln nm_Ln hown hK hP hD hS 0 rfl rfl 1 (by decide) (hts _ t_83) (fun _ h9 => h9) rfl (by decide +kernel) rfl rfl (Nat.le_of_ble_eq_true rfl) d_Ln_join_26 (fun H locs hP hD hS => ?_)
  have hP : va_P G vwCl [(a_ln, .inr (2, [.ref a_mm, .int (nI (len + 1))])), (a_mm, .inl (cI, 16, .inl (fun j => nI ((va_up mem len q) j))))] H := hP
  have hD : va_D A [(a_ln, .inr (2, [.ref a_mm, .int (nI (len + 1))])), (a_mm, .inl (cI, 16, .inl (fun j => nI ((va_up mem len q) j))))] := hD
  exact k_wv hx hb hr hlocks hP hS (len + 1, va_up mem len q) (rfl) (hL.join hq hlt) d_Ln_join_29
end
section
theorem hno_succ {n i : Nat} {P : (j : Nat) → j < n → Prop} (h : ∀ j (_ : j < i) (h2 : j < n), P j h2) (hi : ∀ h2 : i < n, P i h2) : ∀ j (_ : j < i + 1) (h2 : j < n), P j h2 := by
  intro j hj h2
  by_cases h9 : j < i
  · exact h j h9 h2
  · have e : i = j := by omega
    subst e
    exact hi h2
theorem kHit_f1 {x w : Nat} {k : Kase} (h : ¬ k.1 = x) : kHit x w k = false := by simp [kHit, h]
theorem kHit_f2 {x w : Nat} {k : Kase} (h : ¬ w = 2) (h2 : ¬ k.2.1 = w) : kHit x w k = false := by simp [kHit, h, h2]
theorem kHit_t1 {x w : Nat} {k : Kase} (h : k.1 = x) (h2 : w = 2) : kHit x w k = true := by simp [kHit, h, h2]
theorem kHit_t2 {x w : Nat} {k : Kase} (h : k.1 = x) (h2 : k.2.1 = w) : kHit x w k = true := by simp [kHit, h, h2]
theorem fl_0 {α : Type} (x : α) (f : Nat → α) : f = fl 0 x f := by
  funext j
  simp [fl]
theorem fl_succ {α : Type} {i : Nat} {x : α} {f g : Nat → α} (h : g = fl i x f) : va_up g i x = fl (i + 1) x f := by
  subst h
  funext j
  simp only [va_up, fl]
  by_cases h1 : j = i
  · rw [if_pos h1, if_pos (by omega)]
  · rw [if_neg h1]
    by_cases h2 : j < i
    · rw [if_pos h2, if_pos (by omega)]
    · rw [if_neg h2, if_neg (by omega)]
theorem RelV.pop {held : Nat → Nat} {vals : Nat → Int32} {L : Nat → List Int32} (h : RelV held vals L) {x : Nat} (hx : x < 40) (h0 : 0 < held x) : vals (x * 8) = (L x).headD 0 ∧ RelV (va_up held x (held x - 1)) (va_cpy vals vals (x * 8 + 1) (x * 8) (held x - 1)) (popL L x) := by
  have e := (h x hx).1
  cases hL : L x with
  | nil => rw [hL] at e; simp at e; omega
  | cons v vs =>
    obtain ⟨h1, h2⟩ := h.take hx hL
    refine ⟨by rw [h1]; rfl, ?_⟩
    unfold popL
    rw [hL]
    exact h2
theorem RelV.nopop {held : Nat → Nat} {vals : Nat → Int32} {L : Nat → List Int32} (h : RelV held vals L) {x : Nat} (hx : x < 40) (h0 : held x = 0) : (L x).headD 0 = 0 ∧ RelV held vals (popL L x) := by
  have e := (h x hx).1
  have hL : L x = [] := List.eq_nil_of_length_eq_zero (by omega)
  refine ⟨by rw [hL]; rfl, ?_⟩
  have e2 : popL L x = L := by
    unfold popL
    rw [hL]
    funext j
    by_cases hj : j = x
    · subst hj; rw [va_up_self, hL]; rfl
    · rw [va_up_ne _ _ hj]
  rw [e2]
  exact h
section KCP
variable {p : Program} {l : Launch} {e : Env} {R : Room} {s : State} {m : MethodId} {args : Array Value} {below : List Frame} {meth : Method} {c : Code} {H : Heap} {locs : List Loc} {cells slots : Nat} {Q : State → Prop}
variable {cc : ByteArray} {pc : Nat} {ls : Array Slot} {rest : List Value} {D : va_G} {cl : List vw_C} {tys : List (ClassId × FieldType)} {ws : va_W} {A : Nat → Prop} {H0 : Heap} {a : Nat}
theorem k_copy (hexec : p.tables.exec = Jvm.exec) (hb : c.code = cc) (hml : c.maxLocals = ls.size) {own : String} {index : Nat} (hown : s.vm.findClass own = some m.cls) (hlink : (Cond.methodLink own index arraycopyName).before args s = true) (hnat : (Cond.native arraycopyName).before args s = true) (hstat : (Cond.static arraycopyName).before args s = true) (hini : (Cond.initialized "java/lang/System").before args s = true)
    (hK : va_K D cl tys s) (hP : va_P D cl ws H) (hD : va_D A ws) (hS : va_S A H0 H locs) (q0 t0 : Nat) {c0 : ClassId} {n0 : Nat} {f : Nat → Int32} (ha0 : ws[q0]? = some (a, .inl (c0, n0, .inl f))) (ht0 : tys[t0]? = some (c0, .int))
    {sp dp n : Nat} (h0 : n0 < 2 ^ 31) (h4 : sp + n ≤ n0) (h5 : dp + n ≤ n0)
    (hframes : 1 ≤ R.frames) (hlocals : (rest.map fun v => v.category).sum + (nativeFrameWords "java/lang/System" "arraycopy" 5 + 11) ≤ R.locals) (hdg : decode cc pc = .ok (.invokestatic index, 3))
    (kk : ∀ (H1 : Heap) (locs1 : List Loc), va_P D cl (ws.set q0 (a, .inl (c0, n0, .inl (va_cpy f f sp dp n)))) H1 → va_D A (ws.set q0 (a, .inl (c0, n0, .inl (va_cpy f f sp dp n)))) → va_S A H0 H1 locs1 → W p l e R s m args below meth c H1 locs1 cells slots Q (F0 m (pc + 3) ls rest)) : W p l e R s m args below meth c H locs cells slots Q (F0 m pc ls (.int (nI n) :: .int (nI dp) :: .ref a :: .int (nI sp) :: .ref a :: rest)) := by
  have e1 : (nI n).toNatClampNeg = n := nI_clamp (by omega)
  have e2 : (nI dp).toNatClampNeg = dp := nI_clamp (by omega)
  have e3 : (nI sp).toNatClampNeg = sp := nI_clamp (by omega)
  refine va_copyi hexec hb hml hown hlink hnat hstat hini hK hP hD hS q0 q0 t0 t0 ha0 ha0 ht0 ht0 rfl (nI_pos (by omega)) (nI_pos (by omega)) (nI_pos (by omega)) (by rw [e1, e3]; exact h4) (by rw [e1, e2]; exact h5) (fun _ _ => rfl) hframes hlocals hdg (fun H1 l1 h1 h2 h3 => ?_)
  rw [e1, e2, e3] at h1 h2
  exact kk H1 l1 h1 h2 h3
end KCP
end
section
set_option maxHeartbeats 4000000 in
set_option maxRecDepth 100000 in
theorem c_Ar_fillI (l : Launch) (G : va_G) (cI cZ cJ : ClassId) (sz : Nat) (a_ar : Nat) (af : Nat → Int32) (x : Int32)  : Met l y_Ar_fill (w_Ar_fill) ({ frames := 0, cells := 0, slots := 0, locals := 0 }) (va_Pc [.ref a_ar, .int x] (kW G vwCl [(cI, .int), (cZ, .boolean), (cJ, .long)] [(a_ar, .inl (cI, 16, .inl af))] sz)) (va_Qv (fun (u : Unit) => True) (fun u t => va_P G vwCl [(a_ar, .inl (cI, 16, .inl (fl 16 x af)))] t.heap) (va_A [(a_ar, .inl (cI, 16, .inl af))] sz)) 0 0 (va_A [(a_ar, .inl (cI, 16, .inl af))] sz) := by
  refine Met.ofW (cc := b_Ar_fill) (maxL := 4) (ret := none) (by decide) rfl ?_
  intro p e s m args below meth c s₁ B hml hv
  obtain ⟨rfl, hsz, hP, hK, hD0⟩ := hv
  have hx := B.exec
  have hb := B.bytes
  have hr := B.returns
  have hts : ∀ w ∈ TT, w.before _ s = true := fun w h => atoms_spec (ws := (w_Ar_fill)) B.pre w (List.mem_cons_of_mem _ h)
  have hown : s.vm.findClass R_Ar = some m.cls := findClass_of_methodNamed B.named
  have hlocks := B.notSynchronized
  subst hsz
  have hD := hD0.self (sz := s.heap.size)
  generalize hAe : va_A [(a_ar, .inl (cI, 16, .inl af))] s.heap.size = A at hD ⊢
  have hA : ∀ q : Nat, s.heap.size ≤ q → A q := fun q h => by rw [← hAe]; exact Or.inr h
  have hS : va_S A s.heap s.heap [] := va_S.rf
  have hP : va_P G vwCl [(a_ar, .inl (cI, 16, .inl af))] s.heap := hP
  have hl := lv_entry ([.ref a_ar, .int x]) (n := 4) (Nat.le_of_ble_eq_true rfl)
  rw [lg_entry_eq]
  generalize (lg_sl ([.ref a_ar, .int x]) ++ List.replicate (4 - (lg_sl ([.ref a_ar, .int x])).length) Slot.unset).toArray = ls at hl ⊢
  have hl : lv_has ls 4 [(0, .ref a_ar), (1, .int x)] := hl
  refine lv_iconst (v := (nI 0)) hx hb d_Ar_fill_0 (by decide +kernel) ?_
  refine lv_istore_n (lv' := [(2, .int (nI 0)), (0, .ref a_ar), (1, .int x)]) hx hb d_Ar_fill_1 rfl hl (by decide) rfl (fun ls hl => ?_)
  refine lv_aload_n hx hb d_Ar_fill_2 rfl (lv_at hl 1 rfl) ?_
  refine va_alen (v := nI 16) hx hb hK hP 0 0 rfl rfl rfl d_Ar_fill_3 ?_
  refine lv_istore_n (lv' := [(3, .int (nI 16)), (2, .int (nI 0)), (0, .ref a_ar), (1, .int x)]) hx hb d_Ar_fill_4 rfl hl (by decide) rfl (fun ls hl => ?_)
  have loop_5 : ∀ (k : Nat) (i : Nat) (f1 : Nat → Int32) (H : Heap) (locs : List Loc) (ls : Array Slot), i ≤ 16 → f1 = fl i x af → 16 - i < k → va_P G vwCl [(a_ar, .inl (cI, 16, .inl f1))] H → va_D A [(a_ar, .inl (cI, 16, .inl f1))] → va_S A s.heap H locs → lv_has ls 4 [(0, .ref a_ar), (1, .int x), (2, .int (nI i)), (3, .int (nI 16))] → W p l e (headSpec (w_Ar_fill) ({ frames := 0, cells := 0, slots := 0, locals := 0 })).room s m (List.toArray [.ref a_ar, .int x]) below meth c H locs 0 0 (MQ below (va_Qv (fun (u : Unit) => True) (fun u t => va_P G vwCl [(a_ar, .inl (cI, 16, .inl (fl 16 x af)))] t.heap) A) (List.toArray [.ref a_ar, .int x]) s 0 0 A) (F0 m 5 ls []) := by
    intro k
    induction k with
    | zero => intro i f1 H locs ls hi hf hk; exact absurd hk (Nat.not_lt_zero _)
    | succ k ih_5 =>
      intro i f1 H locs ls hi hf hk hP hD hS hl
      refine lv_iload_n hx hb d_Ar_fill_5 rfl (lv_at hl 2 rfl) ?_
      refine lv_iload_n hx hb d_Ar_fill_6 rfl (lv_at hl 3 rfl) ?_
      refine n_icmp_ge (tgt := 20) hx hb d_Ar_fill_7 (by decide) (by omega) (by decide) (fun c_1 => ?_) (fun c_1 => ?_)
      · exact k_wv hx hb hr hlocks hP hS () (by rw [hf, show i = 16 by omega]) (trivial) d_Ar_fill_20
      · refine lv_aload_n hx hb d_Ar_fill_10 rfl (lv_at hl 0 rfl) ?_
        refine lv_iload_n hx hb d_Ar_fill_11 rfl (lv_at hl 2 rfl) ?_
        refine lv_iload_n hx hb d_Ar_fill_12 rfl (lv_at hl 1 rfl) ?_
        refine k_iast hx hb hK hP hD hS 0 0 rfl rfl (by omega) (by decide) d_Ar_fill_13 (fun H locs hP hD hS => ?_)
        have hP : va_P G vwCl [(a_ar, .inl (cI, 16, .inl (va_up f1 i x)))] H := hP
        have hD : va_D A [(a_ar, .inl (cI, 16, .inl (va_up f1 i x)))] := hD
        refine lv_iinc (v := (nI (i + 1))) (lv' := [(2, .int (nI (i + 1))), (0, .ref a_ar), (1, .int x), (3, .int (nI 16))]) hx hb d_Ar_fill_14 hl (k := 2) rfl (nI_add i 1) (by decide) rfl (fun ls hl => ?_)
        refine lv_goto (tgt := 5) hx hb d_Ar_fill_17 (by decide) ?_
        exact ih_5 (i + 1) (va_up f1 i x) _ _ ls (by omega) (fl_succ hf) (by omega) (hP.sub [0] rfl) (hD.sub [0] (by decide) rfl) hS (lv_sub hl [1, 2, 0, 3] rfl)
  exact loop_5 ((16 - 0) + 1) 0 af _ _ ls (by omega) (fl_0 x af) (Nat.lt_succ_self _) (hP.sub [0] rfl) (hD.sub [0] (by decide) rfl) hS (lv_sub hl [2, 3, 1, 0] rfl)
set_option maxHeartbeats 4000000 in
set_option maxRecDepth 100000 in
theorem c_Ar_fillN (l : Launch) (G : va_G) (cI cZ cJ : ClassId) (sz : Nat) (a_ar : Nat) (an : Nat → Nat) (x : Nat)  : Met l y_Ar_fill (w_Ar_fill) ({ frames := 0, cells := 0, slots := 0, locals := 0 }) (va_Pc [.ref a_ar, .int (nI x)] (kW G vwCl [(cI, .int), (cZ, .boolean), (cJ, .long)] [(a_ar, .inl (cI, 16, .inl (fun j => nI (an j))))] sz)) (va_Qv (fun (u : Unit) => True) (fun u t => va_P G vwCl [(a_ar, .inl (cI, 16, .inl (fun j => nI ((fl 16 x an) j))))] t.heap) (va_A [(a_ar, .inl (cI, 16, .inl (fun j => nI (an j))))] sz)) 0 0 (va_A [(a_ar, .inl (cI, 16, .inl (fun j => nI (an j))))] sz) := by
  refine Met.ofW (cc := b_Ar_fill) (maxL := 4) (ret := none) (by decide) rfl ?_
  intro p e s m args below meth c s₁ B hml hv
  obtain ⟨rfl, hsz, hP, hK, hD0⟩ := hv
  have hx := B.exec
  have hb := B.bytes
  have hr := B.returns
  have hts : ∀ w ∈ TT, w.before _ s = true := fun w h => atoms_spec (ws := (w_Ar_fill)) B.pre w (List.mem_cons_of_mem _ h)
  have hown : s.vm.findClass R_Ar = some m.cls := findClass_of_methodNamed B.named
  have hlocks := B.notSynchronized
  subst hsz
  have hD := hD0.self (sz := s.heap.size)
  generalize hAe : va_A [(a_ar, .inl (cI, 16, .inl (fun j => nI (an j))))] s.heap.size = A at hD ⊢
  have hA : ∀ q : Nat, s.heap.size ≤ q → A q := fun q h => by rw [← hAe]; exact Or.inr h
  have hS : va_S A s.heap s.heap [] := va_S.rf
  have hP : va_P G vwCl [(a_ar, .inl (cI, 16, .inl (fun j => nI (an j))))] s.heap := hP
  have hl := lv_entry ([.ref a_ar, .int (nI x)]) (n := 4) (Nat.le_of_ble_eq_true rfl)
  rw [lg_entry_eq]
  generalize (lg_sl ([.ref a_ar, .int (nI x)]) ++ List.replicate (4 - (lg_sl ([.ref a_ar, .int (nI x)])).length) Slot.unset).toArray = ls at hl ⊢
  have hl : lv_has ls 4 [(0, .ref a_ar), (1, .int (nI x))] := hl
  refine lv_iconst (v := (nI 0)) hx hb d_Ar_fill_0 (by decide +kernel) ?_
  refine lv_istore_n (lv' := [(2, .int (nI 0)), (0, .ref a_ar), (1, .int (nI x))]) hx hb d_Ar_fill_1 rfl hl (by decide) rfl (fun ls hl => ?_)
  refine lv_aload_n hx hb d_Ar_fill_2 rfl (lv_at hl 1 rfl) ?_
  refine va_alen (v := nI 16) hx hb hK hP 0 0 rfl rfl rfl d_Ar_fill_3 ?_
  refine lv_istore_n (lv' := [(3, .int (nI 16)), (2, .int (nI 0)), (0, .ref a_ar), (1, .int (nI x))]) hx hb d_Ar_fill_4 rfl hl (by decide) rfl (fun ls hl => ?_)
  have loop_5 : ∀ (k : Nat) (i : Nat) (f1 : Nat → Nat) (H : Heap) (locs : List Loc) (ls : Array Slot), i ≤ 16 → f1 = fl i x an → 16 - i < k → va_P G vwCl [(a_ar, .inl (cI, 16, .inl (fun j => nI (f1 j))))] H → va_D A [(a_ar, .inl (cI, 16, .inl (fun j => nI (f1 j))))] → va_S A s.heap H locs → lv_has ls 4 [(0, .ref a_ar), (1, .int (nI x)), (2, .int (nI i)), (3, .int (nI 16))] → W p l e (headSpec (w_Ar_fill) ({ frames := 0, cells := 0, slots := 0, locals := 0 })).room s m (List.toArray [.ref a_ar, .int (nI x)]) below meth c H locs 0 0 (MQ below (va_Qv (fun (u : Unit) => True) (fun u t => va_P G vwCl [(a_ar, .inl (cI, 16, .inl (fun j => nI ((fl 16 x an) j))))] t.heap) A) (List.toArray [.ref a_ar, .int (nI x)]) s 0 0 A) (F0 m 5 ls []) := by
    intro k
    induction k with
    | zero => intro i f1 H locs ls hi hf hk; exact absurd hk (Nat.not_lt_zero _)
    | succ k ih_5 =>
      intro i f1 H locs ls hi hf hk hP hD hS hl
      refine lv_iload_n hx hb d_Ar_fill_5 rfl (lv_at hl 2 rfl) ?_
      refine lv_iload_n hx hb d_Ar_fill_6 rfl (lv_at hl 3 rfl) ?_
      refine n_icmp_ge (tgt := 20) hx hb d_Ar_fill_7 (by decide) (by omega) (by decide) (fun c_1 => ?_) (fun c_1 => ?_)
      · exact k_wv hx hb hr hlocks hP hS () (by rw [hf, show i = 16 by omega]) (trivial) d_Ar_fill_20
      · refine lv_aload_n hx hb d_Ar_fill_10 rfl (lv_at hl 0 rfl) ?_
        refine lv_iload_n hx hb d_Ar_fill_11 rfl (lv_at hl 2 rfl) ?_
        refine lv_iload_n hx hb d_Ar_fill_12 rfl (lv_at hl 1 rfl) ?_
        refine k_iastN hx hb hK hP hD hS 0 0 rfl rfl (by omega) (by decide) d_Ar_fill_13 (fun H locs hP hD hS => ?_)
        have hP : va_P G vwCl [(a_ar, .inl (cI, 16, .inl (fun j => nI ((va_up f1 i x) j))))] H := hP
        have hD : va_D A [(a_ar, .inl (cI, 16, .inl (fun j => nI ((va_up f1 i x) j))))] := hD
        refine lv_iinc (v := (nI (i + 1))) (lv' := [(2, .int (nI (i + 1))), (0, .ref a_ar), (1, .int (nI x)), (3, .int (nI 16))]) hx hb d_Ar_fill_14 hl (k := 2) rfl (nI_add i 1) (by decide) rfl (fun ls hl => ?_)
        refine lv_goto (tgt := 5) hx hb d_Ar_fill_17 (by decide) ?_
        exact ih_5 (i + 1) (va_up f1 i x) _ _ ls (by omega) (fl_succ hf) (by omega) (hP.sub [0] rfl) (hD.sub [0] (by decide) rfl) hS (lv_sub hl [1, 2, 0, 3] rfl)
  exact loop_5 ((16 - 0) + 1) 0 an _ _ ls (by omega) (fl_0 x an) (Nat.lt_succ_self _) (hP.sub [0] rfl) (hD.sub [0] (by decide) rfl) hS (lv_sub hl [2, 3, 1, 0] rfl)
set_option maxHeartbeats 4000000 in
set_option maxRecDepth 100000 in
theorem c_Ch_takeFirst (l : Launch) (G : va_G) (cI cZ cJ : ClassId) (sz : Nat) (a_ch : Nat) (a_rm : Nat) (a_hd : Nat) (a_sh : Nat) (a_vl : Nat) (n : Nat) (held : Nat → Nat) (vals : Nat → Int32) (L : Nat → List Int32) (x : Nat) (hx0 : x < 40) (hV : RelV held vals L) : Met l y_Ch_takeFirst (w_Ch_takeFirst) ({ frames := 1, cells := 0, slots := 0, locals := 40 }) (va_Pc [.ref a_ch, .int (nI x)] (kW G vwCl [(cI, .int), (cZ, .boolean), (cJ, .long)] [(a_ch, .inr (1, [.ref a_rm, .ref a_hd, .ref a_sh, .ref a_vl, .int (nI n)])), (a_hd, .inl (cI, 40, .inl (fun j => nI (held j)))), (a_vl, .inl (cI, 320, .inl vals))] sz)) (va_Qi (fun (r : Int32) (u : (Nat → Nat) × (Nat → Int32)) => r = ((L x).headD 0) ∧ RelV u.1 u.2 (popL L x)) (fun u t => va_P G vwCl [(a_ch, .inr (1, [.ref a_rm, .ref a_hd, .ref a_sh, .ref a_vl, .int (nI n)])), (a_hd, .inl (cI, 40, .inl (fun j => nI (u.1 j)))), (a_vl, .inl (cI, 320, .inl u.2))] t.heap) (va_A [(a_ch, .inr (1, [.ref a_rm, .ref a_hd, .ref a_sh, .ref a_vl, .int (nI n)])), (a_hd, .inl (cI, 40, .inl (fun j => nI (held j)))), (a_vl, .inl (cI, 320, .inl vals))] sz)) 0 0 (va_A [(a_ch, .inr (1, [.ref a_rm, .ref a_hd, .ref a_sh, .ref a_vl, .int (nI n)])), (a_hd, .inl (cI, 40, .inl (fun j => nI (held j)))), (a_vl, .inl (cI, 320, .inl vals))] sz) := by
  refine Met.ofW (cc := b_Ch_takeFirst) (maxL := 4) (ret := (some .int)) (by decide) rfl ?_
  intro p e s m args below meth c s₁ B hml hv
  obtain ⟨rfl, hsz, hP, hK, hD0⟩ := hv
  have hx := B.exec
  have hb := B.bytes
  have hr := B.returns
  have hts : ∀ w ∈ TT, w.before _ s = true := fun w h => atoms_spec (ws := (w_Ch_takeFirst)) B.pre w (List.mem_cons_of_mem _ h)
  have hown : s.vm.findClass R_Ch = some m.cls := findClass_of_methodNamed B.named
  have hlocks := B.notSynchronized
  subst hsz
  have hD := hD0.self (sz := s.heap.size)
  generalize hAe : va_A [(a_ch, .inr (1, [.ref a_rm, .ref a_hd, .ref a_sh, .ref a_vl, .int (nI n)])), (a_hd, .inl (cI, 40, .inl (fun j => nI (held j)))), (a_vl, .inl (cI, 320, .inl vals))] s.heap.size = A at hD ⊢
  have hA : ∀ q : Nat, s.heap.size ≤ q → A q := fun q h => by rw [← hAe]; exact Or.inr h
  have hS : va_S A s.heap s.heap [] := va_S.rf
  have hP : va_P G vwCl [(a_ch, .inr (1, [.ref a_rm, .ref a_hd, .ref a_sh, .ref a_vl, .int (nI n)])), (a_hd, .inl (cI, 40, .inl (fun j => nI (held j)))), (a_vl, .inl (cI, 320, .inl vals))] s.heap := hP
  have hl := lv_entry ([.ref a_ch, .int (nI x)]) (n := 4) (Nat.le_of_ble_eq_true rfl)
  rw [lg_entry_eq]
  generalize (lg_sl ([.ref a_ch, .int (nI x)]) ++ List.replicate (4 - (lg_sl ([.ref a_ch, .int (nI x)])).length) Slot.unset).toArray = ls at hl ⊢
  have hl : lv_has ls 4 [(0, .ref a_ch), (1, .int (nI x))] := hl
  obtain ⟨hh, hh2, hh3⟩ := hV x hx0
  refine lv_aload_n hx hb d_Ch_takeFirst_0 rfl (lv_at hl 0 rfl) ?_
  refine va_get (D := G) (ci := 1) (v := .ref a_hd) (C := R_Ch) (T := T_Ch) (N := 5) hx hb hts uw_Ch hown hK hP 0 rfl rfl 1 (by decide) (hts _ t_53) (fun _ h9 => h9) rfl d_Ch_takeFirst_1 ?_
  refine lv_iload_n hx hb d_Ch_takeFirst_4 rfl (lv_at hl 1 rfl) ?_
  refine k_iald hx hb hK hP 1 0 rfl rfl (by omega) (by decide) d_Ch_takeFirst_5 ?_
  refine n_if_gt (tgt := 11) hx hb d_Ch_takeFirst_6 (by decide) (by omega) (fun c_a => ?_) (fun c_a => ?_)
  · refine lv_iload_n hx hb d_Ch_takeFirst_11 rfl (lv_at hl 1 rfl) ?_
    refine lv_bipush (v := (nI 8)) hx hb d_Ch_takeFirst_12 (by decide +kernel) ?_
    refine lv_imul hx hb d_Ch_takeFirst_14 ?_
    refine k_top (y := (nI (x * 8))) (pk_mul x 8) ?_
    refine lv_istore_n (lv' := [(2, .int (nI (x * 8))), (0, .ref a_ch), (1, .int (nI x))]) hx hb d_Ch_takeFirst_15 rfl hl (by decide) rfl (fun ls hl => ?_)
    refine lv_aload_n hx hb d_Ch_takeFirst_16 rfl (lv_at hl 1 rfl) ?_
    refine va_get (D := G) (ci := 1) (v := .ref a_vl) (C := R_Ch) (T := T_Ch) (N := 5) hx hb hts uw_Ch hown hK hP 0 rfl rfl 3 (by decide) (hts _ t_55) (fun _ h9 => h9) rfl d_Ch_takeFirst_17 ?_
    refine lv_iload_n hx hb d_Ch_takeFirst_20 rfl (lv_at hl 0 rfl) ?_
    refine k_iald hx hb hK hP 2 0 rfl rfl (by omega) (by decide) d_Ch_takeFirst_21 ?_
    refine lv_istore_n (lv' := [(3, .int (vals (x * 8))), (2, .int (nI (x * 8))), (0, .ref a_ch), (1, .int (nI x))]) hx hb d_Ch_takeFirst_22 rfl hl (by decide) rfl (fun ls hl => ?_)
    refine lv_aload_n hx hb d_Ch_takeFirst_23 rfl (lv_at hl 2 rfl) ?_
    refine va_get (D := G) (ci := 1) (v := .ref a_hd) (C := R_Ch) (T := T_Ch) (N := 5) hx hb hts uw_Ch hown hK hP 0 rfl rfl 1 (by decide) (hts _ t_53) (fun _ h9 => h9) rfl d_Ch_takeFirst_24 ?_
    refine lv_iload_n hx hb d_Ch_takeFirst_27 rfl (lv_at hl 3 rfl) ?_
    refine lv_dup2_11 hx hb d_Ch_takeFirst_28 rfl rfl ?_
    refine k_iald hx hb hK hP 1 0 rfl rfl (by omega) (by decide) d_Ch_takeFirst_29 ?_
    refine lv_iconst (v := (nI 1)) hx hb d_Ch_takeFirst_30 (by decide +kernel) ?_
    refine lv_isub hx hb d_Ch_takeFirst_31 ?_
    refine k_top (y := (nI ((held x) - 1))) (pk_sub (by omega)) ?_
    refine k_iastN hx hb hK hP hD hS 1 0 rfl rfl (by omega) (by decide) d_Ch_takeFirst_32 (fun H locs hP hD hS => ?_)
    have hP : va_P G vwCl [(a_ch, .inr (1, [.ref a_rm, .ref a_hd, .ref a_sh, .ref a_vl, .int (nI n)])), (a_hd, .inl (cI, 40, .inl (fun j => nI ((va_up held x ((held x) - 1)) j)))), (a_vl, .inl (cI, 320, .inl vals))] H := hP
    have hD : va_D A [(a_ch, .inr (1, [.ref a_rm, .ref a_hd, .ref a_sh, .ref a_vl, .int (nI n)])), (a_hd, .inl (cI, 40, .inl (fun j => nI ((va_up held x ((held x) - 1)) j)))), (a_vl, .inl (cI, 320, .inl vals))] := hD
    refine lv_aload_n hx hb d_Ch_takeFirst_33 rfl (lv_at hl 2 rfl) ?_
    refine va_get (D := G) (ci := 1) (v := .ref a_vl) (C := R_Ch) (T := T_Ch) (N := 5) hx hb hts uw_Ch hown hK hP 0 rfl rfl 3 (by decide) (hts _ t_55) (fun _ h9 => h9) rfl d_Ch_takeFirst_34 ?_
    refine lv_iload_n hx hb d_Ch_takeFirst_37 rfl (lv_at hl 1 rfl) ?_
    refine lv_iconst (v := (nI 1)) hx hb d_Ch_takeFirst_38 (by decide +kernel) ?_
    refine lv_iadd hx hb d_Ch_takeFirst_39 ?_
    refine k_top (y := (nI ((x * 8) + 1))) (nI_add (x * 8) 1) ?_
    refine lv_aload_n hx hb d_Ch_takeFirst_40 rfl (lv_at hl 2 rfl) ?_
    refine va_get (D := G) (ci := 1) (v := .ref a_vl) (C := R_Ch) (T := T_Ch) (N := 5) hx hb hts uw_Ch hown hK hP 0 rfl rfl 3 (by decide) (hts _ t_55) (fun _ h9 => h9) rfl d_Ch_takeFirst_41 ?_
    refine lv_iload_n hx hb d_Ch_takeFirst_44 rfl (lv_at hl 1 rfl) ?_
    refine lv_aload_n hx hb d_Ch_takeFirst_45 rfl (lv_at hl 2 rfl) ?_
    refine va_get (D := G) (ci := 1) (v := .ref a_hd) (C := R_Ch) (T := T_Ch) (N := 5) hx hb hts uw_Ch hown hK hP 0 rfl rfl 1 (by decide) (hts _ t_53) (fun _ h9 => h9) rfl d_Ch_takeFirst_46 ?_
    refine lv_iload_n hx hb d_Ch_takeFirst_49 rfl (lv_at hl 3 rfl) ?_
    refine k_iald hx hb hK hP 1 0 rfl rfl (by omega) (by decide) d_Ch_takeFirst_50 ?_
    refine k_top (y := (nI (held x - 1))) (congrArg nI (va_up_self _ _ _)) ?_
    refine k_copy hx hb (hml.trans hl.1.symm) hown (hts _ t_233) (hts _ t_235) (hts _ t_234) (hts _ t_38) hK hP hD hS 2 0 rfl rfl (by decide) (by omega) (by omega) (Nat.le_of_ble_eq_true rfl) (Nat.le_of_ble_eq_true rfl) d_Ch_takeFirst_51 (fun H locs hP hD hS => ?_)
    have hP : va_P G vwCl [(a_ch, .inr (1, [.ref a_rm, .ref a_hd, .ref a_sh, .ref a_vl, .int (nI n)])), (a_hd, .inl (cI, 40, .inl (fun j => nI ((va_up held x ((held x) - 1)) j)))), (a_vl, .inl (cI, 320, .inl (va_cpy vals vals ((x * 8) + 1) (x * 8) (held x - 1))))] H := hP
    have hD : va_D A [(a_ch, .inr (1, [.ref a_rm, .ref a_hd, .ref a_sh, .ref a_vl, .int (nI n)])), (a_hd, .inl (cI, 40, .inl (fun j => nI ((va_up held x ((held x) - 1)) j)))), (a_vl, .inl (cI, 320, .inl (va_cpy vals vals ((x * 8) + 1) (x * 8) (held x - 1))))] := hD
    refine lv_iload_n hx hb d_Ch_takeFirst_54 rfl (lv_at hl 0 rfl) ?_
    exact k_wi hx hb hr hlocks hP hS (va_up held x ((held x) - 1), va_cpy vals vals ((x * 8) + 1) (x * 8) (held x - 1)) (rfl) (hV.pop hx0 c_a) d_Ch_takeFirst_55
  · refine lv_iconst (v := (nI 0)) hx hb d_Ch_takeFirst_9 (by decide +kernel) ?_
    exact k_wi hx hb hr hlocks hP hS (held, vals) (rfl) (⟨nI_0.trans (hV.nopop hx0 c_a).1.symm, (hV.nopop hx0 c_a).2⟩) d_Ch_takeFirst_10
set_option maxHeartbeats 4000000 in
set_option maxRecDepth 100000 in
theorem c_Cs_forgetAll (l : Launch) (G : va_G) (cI cZ cJ : ClassId) (sz : Nat) (a_cs : Nat) (a_cn : Nat) (a_cc : Nat) (a_cw : Nat) (a_cv : Nat) (cnum : Nat → Nat)  : Met l y_Cs_forgetAll (w_Cs_forgetAll) ({ frames := 1, cells := 0, slots := 0, locals := 23 }) (va_Pc [.ref a_cs] (kW G vwCl [(cI, .int), (cZ, .boolean), (cJ, .long)] [(a_cs, .inr (0, [.ref a_cn, .ref a_cc, .ref a_cw, .ref a_cv])), (a_cn, .inl (cI, 16, .inl (fun j => nI (cnum j))))] sz)) (va_Qv (fun (u : Unit) => True) (fun u t => va_P G vwCl [(a_cs, .inr (0, [.ref a_cn, .ref a_cc, .ref a_cw, .ref a_cv])), (a_cn, .inl (cI, 16, .inl (fun j => nI ((fl 16 0 cnum) j))))] t.heap) (va_A [(a_cs, .inr (0, [.ref a_cn, .ref a_cc, .ref a_cw, .ref a_cv])), (a_cn, .inl (cI, 16, .inl (fun j => nI (cnum j))))] sz)) 0 0 (va_A [(a_cs, .inr (0, [.ref a_cn, .ref a_cc, .ref a_cw, .ref a_cv])), (a_cn, .inl (cI, 16, .inl (fun j => nI (cnum j))))] sz) := by
  refine Met.ofW (cc := b_Cs_forgetAll) (maxL := 1) (ret := none) (by decide) rfl ?_
  intro p e s m args below meth c s₁ B hml hv
  obtain ⟨rfl, hsz, hP, hK, hD0⟩ := hv
  have hx := B.exec
  have hb := B.bytes
  have hr := B.returns
  have hts : ∀ w ∈ TT, w.before _ s = true := fun w h => atoms_spec (ws := (w_Cs_forgetAll)) B.pre w (List.mem_cons_of_mem _ h)
  have hown : s.vm.findClass R_Cs = some m.cls := findClass_of_methodNamed B.named
  have hlocks := B.notSynchronized
  subst hsz
  have hD := hD0.self (sz := s.heap.size)
  generalize hAe : va_A [(a_cs, .inr (0, [.ref a_cn, .ref a_cc, .ref a_cw, .ref a_cv])), (a_cn, .inl (cI, 16, .inl (fun j => nI (cnum j))))] s.heap.size = A at hD ⊢
  have hA : ∀ q : Nat, s.heap.size ≤ q → A q := fun q h => by rw [← hAe]; exact Or.inr h
  have hS : va_S A s.heap s.heap [] := va_S.rf
  have hP : va_P G vwCl [(a_cs, .inr (0, [.ref a_cn, .ref a_cc, .ref a_cw, .ref a_cv])), (a_cn, .inl (cI, 16, .inl (fun j => nI (cnum j))))] s.heap := hP
  have hl := lv_entry ([.ref a_cs]) (n := 1) (Nat.le_of_ble_eq_true rfl)
  rw [lg_entry_eq]
  generalize (lg_sl ([.ref a_cs]) ++ List.replicate (1 - (lg_sl ([.ref a_cs])).length) Slot.unset).toArray = ls at hl ⊢
  have hl : lv_has ls 1 [(0, .ref a_cs)] := hl
  refine lv_aload_n hx hb d_Cs_forgetAll_0 rfl (lv_at hl 0 rfl) ?_
  refine va_get (D := G) (ci := 0) (v := .ref a_cn) (C := R_Cs) (T := T_Cs) (N := 4) hx hb hts uw_Cs hown hK hP 0 rfl rfl 0 (by decide) (hts _ t_69) (fun _ h9 => h9) rfl d_Cs_forgetAll_1 ?_
  refine lv_iconst (v := (nI 0)) hx hb d_Cs_forgetAll_4 (by decide +kernel) ?_
  refine k_rwv (va_runS (As := [.ref a_cn, .int (nI 0)]) (rest := []) ⟨hx, hb, hml, hown, hts⟩ (c_Ar_fillN l G cI cZ cJ s.heap.size a_cn cnum 0) (va_cwS 2 hts (gS t_97 t_98 t_36 t_99) rfl rfl rfl (by decide +kernel) ⟨Nat.le_of_ble_eq_true rfl, Nat.le_of_ble_eq_true rfl⟩) (kW_S hK hP hD [1] rfl (by decide) rfl) rfl rfl hl.1 rfl (lv_room (Nat.le_of_ble_eq_true rfl)) d_Cs_forgetAll_5 ⟨Nat.le_of_ble_eq_true rfl, Nat.le_of_ble_eq_true rfl⟩) hP hD hS hA [1] rfl (fun _ => rfl) (fun u H locs hw hP hD hS => ?_)
  have hP : va_P G vwCl [(a_cs, .inr (0, [.ref a_cn, .ref a_cc, .ref a_cw, .ref a_cv])), (a_cn, .inl (cI, 16, .inl (fun j => nI ((fl 16 0 cnum) j))))] H := hP
  have hD : va_D A [(a_cs, .inr (0, [.ref a_cn, .ref a_cc, .ref a_cw, .ref a_cv])), (a_cn, .inl (cI, 16, .inl (fun j => nI ((fl 16 0 cnum) j))))] := hD
  exact k_wv hx hb hr hlocks hP hS () (rfl) (trivial) d_Cs_forgetAll_8
set_option maxHeartbeats 4000000 in
set_option maxRecDepth 100000 in
theorem c_Cs_firstAt (l : Launch) (G : va_G) (cI cZ cJ : ClassId) (a_cs : Nat) (a_cn : Nat) (a_cc : Nat) (a_cw : Nat) (a_cv : Nat) (cnum : Nat → Nat) (cch : Nat → Nat) (cway : Nat → Nat) (cval : Nat → Int32) (cs : Nat → List Kase) (q : Nat) (x : Nat) (w : Nat) (hq : q < 16) (hx1 : x < 40) (hw1 : w < 3) (hC : RelC cnum cch cway cval cs) : Met l y_Cs_firstAt (w_Cs_firstAt) ({ frames := 1, cells := 0, slots := 0, locals := 21 }) (va_Pc [.ref a_cs, .int (nI q), .int (nI x), .int (nI w)] (kR G vwCl [(cI, .int), (cZ, .boolean), (cJ, .long)] [(a_cs, .inr (0, [.ref a_cn, .ref a_cc, .ref a_cw, .ref a_cv])), (a_cn, .inl (cI, 16, .inl (fun j => nI (cnum j)))), (a_cc, .inl (cI, 96, .inl (fun j => nI (cch j)))), (a_cw, .inl (cI, 96, .inl (fun j => nI (cway j))))])) (QcRead ((faI q (fa (cs q) x w)))) 0 0 (fun _ => False) := by
  refine Met.ofW (cc := b_Cs_firstAt) (maxL := 6) (ret := (some .int)) (by decide) rfl ?_
  intro p e s m args below meth c s₁ B hml hv
  obtain ⟨rfl, hP, hK⟩ := hv
  have hx := B.exec
  have hb := B.bytes
  have hr := B.returns
  have hts : ∀ w ∈ TT, w.before _ s = true := fun w h => atoms_spec (ws := (w_Cs_firstAt)) B.pre w (List.mem_cons_of_mem _ h)
  have hown : s.vm.findClass R_Cs = some m.cls := findClass_of_methodNamed B.named
  have hlocks := B.notSynchronized
  have hP : va_P G vwCl [(a_cs, .inr (0, [.ref a_cn, .ref a_cc, .ref a_cw, .ref a_cv])), (a_cn, .inl (cI, 16, .inl (fun j => nI (cnum j)))), (a_cc, .inl (cI, 96, .inl (fun j => nI (cch j)))), (a_cw, .inl (cI, 96, .inl (fun j => nI (cway j))))] s.heap := hP
  have hl := lv_entry ([.ref a_cs, .int (nI q), .int (nI x), .int (nI w)]) (n := 6) (Nat.le_of_ble_eq_true rfl)
  rw [lg_entry_eq]
  generalize (lg_sl ([.ref a_cs, .int (nI q), .int (nI x), .int (nI w)]) ++ List.replicate (6 - (lg_sl ([.ref a_cs, .int (nI q), .int (nI x), .int (nI w)])).length) Slot.unset).toArray = ls at hl ⊢
  have hl : lv_has ls 6 [(0, .ref a_cs), (1, .int (nI q)), (2, .int (nI x)), (3, .int (nI w))] := hl
  obtain ⟨hh, hh2, hh3⟩ := hC q hq
  refine lv_iconst (v := (nI 0)) hx hb d_Cs_firstAt_0 (by decide +kernel) ?_
  refine lv_istore (lv' := [(4, .int (nI 0)), (0, .ref a_cs), (1, .int (nI q)), (2, .int (nI x)), (3, .int (nI w))]) hx hb d_Cs_firstAt_1 hl (by decide) rfl (fun ls hl => ?_)
  have loop_3 : ∀ (k : Nat) (i : Nat) (ls : Array Slot), i ≤ (cs q).length → (∀ j (_ : j < i) (h2 : j < (cs q).length), kHit x w (cs q)[j] = false) → (cs q).length - i < k → lv_has ls 6 [(0, .ref a_cs), (1, .int (nI q)), (2, .int (nI x)), (3, .int (nI w)), (4, .int (nI i))] → W p l e (headSpec (w_Cs_firstAt) ({ frames := 1, cells := 0, slots := 0, locals := 21 })).room s m (List.toArray [.ref a_cs, .int (nI q), .int (nI x), .int (nI w)]) below meth c s.heap [] 0 0 (MQ below (QcRead ((faI q (fa (cs q) x w)))) (List.toArray [.ref a_cs, .int (nI q), .int (nI x), .int (nI w)]) s 0 0 (fun _ => False)) (F0 m 3 ls []) := by
    intro k
    induction k with
    | zero => intro i ls hi hno hk; exact absurd hk (Nat.not_lt_zero _)
    | succ k ih_3 =>
      intro i ls hi hno hk hl
      refine lv_iload hx hb d_Cs_firstAt_3 (lv_at hl 4 rfl) ?_
      refine lv_aload_n hx hb d_Cs_firstAt_5 rfl (lv_at hl 0 rfl) ?_
      refine va_get (D := G) (ci := 0) (v := .ref a_cn) (C := R_Cs) (T := T_Cs) (N := 4) hx hb hts uw_Cs hown hK hP 0 rfl rfl 0 (by decide) (hts _ t_69) (fun _ h9 => h9) rfl d_Cs_firstAt_6 ?_
      refine lv_iload_n hx hb d_Cs_firstAt_9 rfl (lv_at hl 1 rfl) ?_
      refine k_iald hx hb hK hP 1 0 rfl rfl (by omega) (by decide) d_Cs_firstAt_10 ?_
      refine n_icmp_ge (tgt := 58) hx hb d_Cs_firstAt_11 (by decide) (by omega) (by omega) (fun c_a => ?_) (fun c_a => ?_)
      · refine lv_iconst (v := (-1)) hx hb d_Cs_firstAt_58 (by decide +kernel) ?_
        exact k_ri hx hb hr hlocks (by rw [fa_none (fun j hj => hno j (by omega) hj)]; rfl) d_Cs_firstAt_59
      · have hi2 : i < (cs q).length := by omega
        obtain ⟨g1, g2, g3, g4, g5⟩ := hh3 i hi2
        refine lv_iload_n hx hb d_Cs_firstAt_14 rfl (lv_at hl 1 rfl) ?_
        refine lv_iload hx hb d_Cs_firstAt_15 (lv_at hl 4 rfl) ?_
        refine k_ro (va_runS (As := [.int (nI q), .int (nI i)]) (rest := []) ⟨hx, hb, hml, hown, hts⟩ (c_Cs_slotOf l G cI cZ cJ q i) (va_cwS 2 hts (gS t_180 t_181 t_34 t_182) rfl rfl rfl (by decide +kernel) ⟨Nat.le_of_ble_eq_true rfl, Nat.le_of_ble_eq_true rfl⟩) (kR_S hK hP [] rfl) rfl rfl hl.1 rfl (lv_room (Nat.le_of_ble_eq_true rfl)) d_Cs_firstAt_17 ⟨Nat.le_of_ble_eq_true rfl, Nat.le_of_ble_eq_true rfl⟩) ?_
        refine lv_istore (lv' := [(5, .int (nI (q * 6 + i))), (0, .ref a_cs), (1, .int (nI q)), (2, .int (nI x)), (3, .int (nI w)), (4, .int (nI i))]) hx hb d_Cs_firstAt_20 hl (by decide) rfl (fun ls hl => ?_)
        refine lv_aload_n hx hb d_Cs_firstAt_22 rfl (lv_at hl 1 rfl) ?_
        refine va_get (D := G) (ci := 0) (v := .ref a_cc) (C := R_Cs) (T := T_Cs) (N := 4) hx hb hts uw_Cs hown hK hP 0 rfl rfl 1 (by decide) (hts _ t_70) (fun _ h9 => h9) rfl d_Cs_firstAt_23 ?_
        refine lv_iload hx hb d_Cs_firstAt_26 (lv_at hl 0 rfl) ?_
        refine k_iald hx hb hK hP 2 0 rfl rfl (by omega) (by decide) d_Cs_firstAt_28 ?_
        refine lv_iload_n hx hb d_Cs_firstAt_29 rfl (lv_at hl 3 rfl) ?_
        refine n_icmp_ne (tgt := 52) hx hb d_Cs_firstAt_30 (by decide) (by omega) (by omega) (fun c_b => ?_) (fun c_b => ?_)
        · refine lv_iinc (v := (nI (i + 1))) (lv' := [(4, .int (nI (i + 1))), (5, .int (nI (q * 6 + i))), (0, .ref a_cs), (1, .int (nI q)), (2, .int (nI x)), (3, .int (nI w))]) hx hb d_Cs_firstAt_52 hl (k := 5) rfl (nI_add i 1) (by decide) rfl (fun ls hl => ?_)
          refine lv_goto (tgt := 3) hx hb d_Cs_firstAt_55 (by decide) ?_
          exact ih_3 (i + 1) ls (by omega) (hno_succ hno (fun h2 => kHit_f1 (by omega))) (by omega) (lv_sub hl [2, 3, 4, 5, 0] rfl)
        · refine lv_iload_n hx hb d_Cs_firstAt_33 rfl (lv_at hl 4 rfl) ?_
          refine lv_iconst (v := (nI 2)) hx hb d_Cs_firstAt_34 (by decide +kernel) ?_
          refine n_icmp_eq (tgt := 49) hx hb d_Cs_firstAt_35 (by decide) (by omega) (by decide) (fun c_c => ?_) (fun c_c => ?_)
          · refine lv_iload hx hb d_Cs_firstAt_49 (lv_at hl 0 rfl) ?_
            exact k_ri hx hb hr hlocks (by rw [fa_some hi2 (kHit_t1 (by omega) c_c) (fun j hj => hno j hj _)]; rfl) d_Cs_firstAt_51
          · refine lv_aload_n hx hb d_Cs_firstAt_38 rfl (lv_at hl 1 rfl) ?_
            refine va_get (D := G) (ci := 0) (v := .ref a_cw) (C := R_Cs) (T := T_Cs) (N := 4) hx hb hts uw_Cs hown hK hP 0 rfl rfl 2 (by decide) (hts _ t_71) (fun _ h9 => h9) rfl d_Cs_firstAt_39 ?_
            refine lv_iload hx hb d_Cs_firstAt_42 (lv_at hl 0 rfl) ?_
            refine k_iald hx hb hK hP 3 0 rfl rfl (by omega) (by decide) d_Cs_firstAt_44 ?_
            refine lv_iload_n hx hb d_Cs_firstAt_45 rfl (lv_at hl 4 rfl) ?_
            refine n_icmp_ne (tgt := 52) hx hb d_Cs_firstAt_46 (by decide) (by omega) (by omega) (fun c_d => ?_) (fun c_d => ?_)
            · refine lv_iinc (v := (nI (i + 1))) (lv' := [(4, .int (nI (i + 1))), (5, .int (nI (q * 6 + i))), (0, .ref a_cs), (1, .int (nI q)), (2, .int (nI x)), (3, .int (nI w))]) hx hb d_Cs_firstAt_52 hl (k := 5) rfl (nI_add i 1) (by decide) rfl (fun ls hl => ?_)
              refine lv_goto (tgt := 3) hx hb d_Cs_firstAt_55 (by decide) ?_
              exact ih_3 (i + 1) ls (by omega) (hno_succ hno (fun h2 => kHit_f2 c_c (by omega))) (by omega) (lv_sub hl [2, 3, 4, 5, 0] rfl)
            · refine lv_iload hx hb d_Cs_firstAt_49 (lv_at hl 0 rfl) ?_
              exact k_ri hx hb hr hlocks (by rw [fa_some hi2 (kHit_t2 (by omega) (by omega)) (fun j hj => hno j hj _)]; rfl) d_Cs_firstAt_51
  exact loop_3 (((cs q).length - 0) + 1) 0 ls (Nat.zero_le _) (fun j hj => absurd hj (Nat.not_lt_zero j)) (Nat.lt_succ_self _) (lv_sub hl [1, 2, 3, 4, 0] rfl)
set_option maxHeartbeats 4000000 in
set_option maxRecDepth 100000 in
theorem c_Ln_leave (l : Launch) (G : va_G) (cI cZ cJ : ClassId) (sz : Nat) (a_ln : Nat) (a_mm : Nat) (len : Nat) (mem : Nat → Nat) (line : List Nat) (q : Nat) (hq : q < 16) (hL : RelL len mem line) : Met l y_Ln_leave (w_Ln_leave) ({ frames := 0, cells := 0, slots := 0, locals := 0 }) (va_Pc [.ref a_ln, .int (nI q)] (kW G vwCl [(cI, .int), (cZ, .boolean), (cJ, .long)] [(a_ln, .inr (2, [.ref a_mm, .int (nI len)])), (a_mm, .inl (cI, 16, .inl (fun j => nI (mem j))))] sz)) (va_Qv (fun (u : Nat × (Nat → Nat)) => RelL u.1 u.2 (outL line q)) (fun u t => va_P G vwCl [(a_ln, .inr (2, [.ref a_mm, .int (nI u.1)])), (a_mm, .inl (cI, 16, .inl (fun j => nI (u.2 j))))] t.heap) (va_A [(a_ln, .inr (2, [.ref a_mm, .int (nI len)])), (a_mm, .inl (cI, 16, .inl (fun j => nI (mem j))))] sz)) 0 0 (va_A [(a_ln, .inr (2, [.ref a_mm, .int (nI len)])), (a_mm, .inl (cI, 16, .inl (fun j => nI (mem j))))] sz) := by
  refine Met.ofW (cc := b_Ln_leave) (maxL := 4) (ret := none) (by decide) rfl ?_
  intro p e s m args below meth c s₁ B hml hv
  obtain ⟨rfl, hsz, hP, hK, hD0⟩ := hv
  have hx := B.exec
  have hb := B.bytes
  have hr := B.returns
  have hts : ∀ w ∈ TT, w.before _ s = true := fun w h => atoms_spec (ws := (w_Ln_leave)) B.pre w (List.mem_cons_of_mem _ h)
  have hown : s.vm.findClass R_Ln = some m.cls := findClass_of_methodNamed B.named
  have hlocks := B.notSynchronized
  subst hsz
  have hD := hD0.self (sz := s.heap.size)
  generalize hAe : va_A [(a_ln, .inr (2, [.ref a_mm, .int (nI len)])), (a_mm, .inl (cI, 16, .inl (fun j => nI (mem j))))] s.heap.size = A at hD ⊢
  have hA : ∀ q : Nat, s.heap.size ≤ q → A q := fun q h => by rw [← hAe]; exact Or.inr h
  have hS : va_S A s.heap s.heap [] := va_S.rf
  have hP : va_P G vwCl [(a_ln, .inr (2, [.ref a_mm, .int (nI len)])), (a_mm, .inl (cI, 16, .inl (fun j => nI (mem j))))] s.heap := hP
  have hl := lv_entry ([.ref a_ln, .int (nI q)]) (n := 4) (Nat.le_of_ble_eq_true rfl)
  rw [lg_entry_eq]
  generalize (lg_sl ([.ref a_ln, .int (nI q)]) ++ List.replicate (4 - (lg_sl ([.ref a_ln, .int (nI q)])).length) Slot.unset).toArray = ls at hl ⊢
  have hl : lv_has ls 4 [(0, .ref a_ln), (1, .int (nI q))] := hl
  obtain ⟨hh, hh2, hh3⟩ := hL
  refine lv_iconst (v := (nI 0)) hx hb d_Ln_leave_0 (by decide +kernel) ?_
  refine lv_istore_n (lv' := [(2, .int (nI 0)), (0, .ref a_ln), (1, .int (nI q))]) hx hb d_Ln_leave_1 rfl hl (by decide) rfl (fun ls hl => ?_)
  refine lv_iconst (v := (nI 0)) hx hb d_Ln_leave_2 (by decide +kernel) ?_
  refine lv_istore_n (lv' := [(3, .int (nI 0)), (2, .int (nI 0)), (0, .ref a_ln), (1, .int (nI q))]) hx hb d_Ln_leave_3 rfl hl (by decide) rfl (fun ls hl => ?_)
  have loop_4 : ∀ (k : Nat) (kept : Nat) (i : Nat) (mem1 : Nat → Nat) (H : Heap) (locs : List Loc) (ls : Array Slot), i ≤ line.length → LvI line q i kept mem1 → line.length - i < k → va_P G vwCl [(a_ln, .inr (2, [.ref a_mm, .int (nI len)])), (a_mm, .inl (cI, 16, .inl (fun j => nI (mem1 j))))] H → va_D A [(a_ln, .inr (2, [.ref a_mm, .int (nI len)])), (a_mm, .inl (cI, 16, .inl (fun j => nI (mem1 j))))] → va_S A s.heap H locs → lv_has ls 4 [(0, .ref a_ln), (1, .int (nI q)), (2, .int (nI kept)), (3, .int (nI i))] → W p l e (headSpec (w_Ln_leave) ({ frames := 0, cells := 0, slots := 0, locals := 0 })).room s m (List.toArray [.ref a_ln, .int (nI q)]) below meth c H locs 0 0 (MQ below (va_Qv (fun (u : Nat × (Nat → Nat)) => RelL u.1 u.2 (outL line q)) (fun u t => va_P G vwCl [(a_ln, .inr (2, [.ref a_mm, .int (nI u.1)])), (a_mm, .inl (cI, 16, .inl (fun j => nI (u.2 j))))] t.heap) A) (List.toArray [.ref a_ln, .int (nI q)]) s 0 0 A) (F0 m 4 ls []) := by
    intro k
    induction k with
    | zero => intro kept i mem1 H locs ls hi hI hk; exact absurd hk (Nat.not_lt_zero _)
    | succ k ih_4 =>
      intro kept i mem1 H locs ls hi hI hk hP hD hS hl
      refine lv_iload_n hx hb d_Ln_leave_4 rfl (lv_at hl 3 rfl) ?_
      refine lv_aload_n hx hb d_Ln_leave_5 rfl (lv_at hl 0 rfl) ?_
      refine va_get (D := G) (ci := 2) (v := .int (nI len)) (C := R_Ln) (T := T_Ln) (N := 2) hx hb hts uw_Ln hown hK hP 0 rfl rfl 1 (by decide) (hts _ t_83) (fun _ h9 => h9) rfl d_Ln_leave_6 ?_
      refine n_icmp_ge (tgt := 43) hx hb d_Ln_leave_9 (by decide) (by omega) (by omega) (fun c_a => ?_) (fun c_a => ?_)
      · refine lv_aload_n hx hb d_Ln_leave_43 rfl (lv_at hl 0 rfl) ?_
        refine lv_iload_n hx hb d_Ln_leave_44 rfl (lv_at hl 2 rfl) ?_
        refine va_put (D := G) (ci := 2) (v := .int (nI kept)) (ty := .int) (C := R_Ln) (T := T_Ln) (N := 2) hx hb hts uw_Ln ty_Ln tyok_Ln nm_Ln hown hK hP hD hS 0 rfl rfl 1 (by decide) (hts _ t_83) (fun _ h9 => h9) rfl (by decide +kernel) rfl rfl (Nat.le_of_ble_eq_true rfl) d_Ln_leave_45 (fun H locs hP hD hS => ?_)
        have hP : va_P G vwCl [(a_ln, .inr (2, [.ref a_mm, .int (nI kept)])), (a_mm, .inl (cI, 16, .inl (fun j => nI (mem1 j))))] H := hP
        have hD : va_D A [(a_ln, .inr (2, [.ref a_mm, .int (nI kept)])), (a_mm, .inl (cI, 16, .inl (fun j => nI (mem1 j))))] := hD
        exact k_wv hx hb hr hlocks hP hS (kept, mem1) (rfl) (LvI_end ⟨hh, hh2, hh3⟩ ((show i = line.length by omega) ▸ hI)) d_Ln_leave_48
      · have hi2 : i < line.length := by omega
        have g1 : mem1 i = line[i] := hI.2.2 i hi2 (Nat.le_refl i)
        have g2 : line[i] < 16 := (hh3 i hi2).2
        have g3 := LvI_le hI
        refine lv_aload_n hx hb d_Ln_leave_12 rfl (lv_at hl 0 rfl) ?_
        refine va_get (D := G) (ci := 2) (v := .ref a_mm) (C := R_Ln) (T := T_Ln) (N := 2) hx hb hts uw_Ln hown hK hP 0 rfl rfl 0 (by decide) (hts _ t_82) (fun _ h9 => h9) rfl d_Ln_leave_13 ?_
        refine lv_iload_n hx hb d_Ln_leave_16 rfl (lv_at hl 3 rfl) ?_
        refine k_iald hx hb hK hP 1 0 rfl rfl (by omega) (by decide) d_Ln_leave_17 ?_
        refine lv_iload_n hx hb d_Ln_leave_18 rfl (lv_at hl 1 rfl) ?_
        refine n_icmp_eq (tgt := 37) hx hb d_Ln_leave_19 (by decide) (by omega) (by omega) (fun c_b => ?_) (fun c_b => ?_)
        · refine lv_iinc (v := (nI (i + 1))) (lv' := [(3, .int (nI (i + 1))), (0, .ref a_ln), (1, .int (nI q)), (2, .int (nI kept))]) hx hb d_Ln_leave_37 hl (k := 3) rfl (nI_add i 1) (by decide) rfl (fun ls hl => ?_)
          refine lv_goto (tgt := 4) hx hb d_Ln_leave_40 (by decide) ?_
          exact ih_4 kept (i + 1) mem1 _ _ ls (by omega) (LvI_drop hI (by omega) c_b) (by omega) (hP.sub [0, 1] rfl) (hD.sub [0, 1] (by decide) rfl) hS (lv_sub hl [1, 2, 3, 0] rfl)
        · refine lv_aload_n hx hb d_Ln_leave_22 rfl (lv_at hl 0 rfl) ?_
          refine va_get (D := G) (ci := 2) (v := .ref a_mm) (C := R_Ln) (T := T_Ln) (N := 2) hx hb hts uw_Ln hown hK hP 0 rfl rfl 0 (by decide) (hts _ t_82) (fun _ h9 => h9) rfl d_Ln_leave_23 ?_
          refine lv_iload_n hx hb d_Ln_leave_26 rfl (lv_at hl 2 rfl) ?_
          refine lv_aload_n hx hb d_Ln_leave_27 rfl (lv_at hl 0 rfl) ?_
          refine va_get (D := G) (ci := 2) (v := .ref a_mm) (C := R_Ln) (T := T_Ln) (N := 2) hx hb hts uw_Ln hown hK hP 0 rfl rfl 0 (by decide) (hts _ t_82) (fun _ h9 => h9) rfl d_Ln_leave_28 ?_
          refine lv_iload_n hx hb d_Ln_leave_31 rfl (lv_at hl 3 rfl) ?_
          refine k_iald hx hb hK hP 1 0 rfl rfl (by omega) (by decide) d_Ln_leave_32 ?_
          refine k_iastN hx hb hK hP hD hS 1 0 rfl rfl (by omega) (by decide) d_Ln_leave_33 (fun H locs hP hD hS => ?_)
          have hP : va_P G vwCl [(a_ln, .inr (2, [.ref a_mm, .int (nI len)])), (a_mm, .inl (cI, 16, .inl (fun j => nI ((va_up mem1 kept (mem1 i)) j))))] H := hP
          have hD : va_D A [(a_ln, .inr (2, [.ref a_mm, .int (nI len)])), (a_mm, .inl (cI, 16, .inl (fun j => nI ((va_up mem1 kept (mem1 i)) j))))] := hD
          refine lv_iinc (v := (nI (kept + 1))) (lv' := [(2, .int (nI (kept + 1))), (0, .ref a_ln), (1, .int (nI q)), (3, .int (nI i))]) hx hb d_Ln_leave_34 hl (k := 2) rfl (nI_add kept 1) (by decide) rfl (fun ls hl => ?_)
          refine lv_iinc (v := (nI (i + 1))) (lv' := [(3, .int (nI (i + 1))), (2, .int (nI (kept + 1))), (0, .ref a_ln), (1, .int (nI q))]) hx hb d_Ln_leave_37 hl (k := 3) rfl (nI_add i 1) (by decide) rfl (fun ls hl => ?_)
          refine lv_goto (tgt := 4) hx hb d_Ln_leave_40 (by decide) ?_
          exact ih_4 (kept + 1) (i + 1) (va_up mem1 kept (mem1 i)) _ _ ls (by omega) (LvI_keep hI (by omega) c_b) (by omega) (hP.sub [0, 1] rfl) (hD.sub [0, 1] (by decide) rfl) hS (lv_sub hl [2, 3, 1, 0] rfl)
  exact loop_4 ((line.length - 0) + 1) 0 0 mem _ _ ls (Nat.zero_le _) (LvI_0 ⟨hh, hh2, hh3⟩) (Nat.lt_succ_self _) (hP.sub [0, 1] rfl) (hD.sub [0, 1] (by decide) rfl) hS (lv_sub hl [2, 3, 1, 0] rfl)
end
section
def wayB (y : Int32) : Bool := decide (y = 0 ∨ y = nI 1)
def rdyB (st : Nat → Nat) (y : Int32) : Bool := hasB 16 y && (decide (st y.toNatClampNeg = 0) || decide (st y.toNatClampNeg = 4))
theorem rdyB_t {st : Nat → Nat} {q : Nat} (hq : q < 16) (h : st q = 0 ∨ st q = 4) : nI 1 = bI (rdyB st (nI q)) := by
  have e : rdyB st (nI q) = true := by
    unfold rdyB
    rw [hasB_nI (by decide) hq, nI_clamp (by omega)]
    rcases h with h | h <;> simp [h]
  rw [e]; rfl
theorem rdyB_f {st : Nat → Nat} {q : Nat} (hq : q < 16) (h : ¬ st q = 0) (h2 : ¬ st q = 4) : nI 0 = bI (rdyB st (nI q)) := by
  have e : rdyB st (nI q) = false := by
    unfold rdyB
    rw [nI_clamp (by omega)]
    simp [h, h2]
  rw [e]; rfl
theorem rdyB_n {st : Nat → Nat} {y : Int32} (h : hasB 16 y = false) : nI 0 = bI (rdyB st y) := by
  have e : rdyB st y = false := by
    unfold rdyB
    rw [h]; rfl
  rw [e]; rfl
theorem rdyB_of {st : Nat → Nat} {y : Int32} (h : rdyB st y = true) : ∃ q, q < 16 ∧ y = nI q ∧ (st q = 0 ∨ st q = 4) := by
  unfold rdyB at h
  rw [Bool.and_eq_true, Bool.or_eq_true] at h
  obtain ⟨q, hq, rfl⟩ := hasB_of (by decide) h.1
  rw [nI_clamp (by omega)] at h
  exact ⟨q, hq, rfl, h.2.imp of_decide_eq_true of_decide_eq_true⟩
theorem wayB_of {y : Int32} (h : wayB y = true) : ∃ w, w < 2 ∧ y = nI w := by
  rcases of_decide_eq_true h with h | h
  · exact ⟨0, by decide, h.trans nI_0.symm⟩
  · exact ⟨1, by decide, h⟩
end
section
set_option maxHeartbeats 4000000 in
set_option maxRecDepth 100000 in
theorem c_Dk_isRoutine (l : Launch) (G : va_G) (cI cZ cJ : ClassId) (y : Int32)  : Met l y_Dk_isRoutine (w_Dk_isRoutine) ({ frames := 0, cells := 0, slots := 0, locals := 0 }) (va_Pc [.int y] (kR G vwCl [(cI, .int), (cZ, .boolean), (cJ, .long)] [])) (QcRead ((bI (hasB 16 y)))) 0 0 (fun _ => False) := by
  refine Met.ofW (cc := b_Dk_isRoutine) (maxL := 1) (ret := (some .boolean)) (by decide) rfl ?_
  intro p e s m args below meth c s₁ B hml hv
  obtain ⟨rfl, hP, hK⟩ := hv
  have hx := B.exec
  have hb := B.bytes
  have hr := B.returns
  have hts : ∀ w ∈ TT, w.before _ s = true := fun w h => atoms_spec (ws := (w_Dk_isRoutine)) B.pre w (List.mem_cons_of_mem _ h)
  have hown : s.vm.findClass R_Dk = some m.cls := findClass_of_methodNamed B.named
  have hlocks := B.notSynchronized
  have hP : va_P G vwCl [] s.heap := hP
  have hl := lv_entry ([.int y]) (n := 1) (Nat.le_of_ble_eq_true rfl)
  rw [lg_entry_eq]
  generalize (lg_sl ([.int y]) ++ List.replicate (1 - (lg_sl ([.int y])).length) Slot.unset).toArray = ls at hl ⊢
  have hl : lv_has ls 1 [(0, .int y)] := hl
  refine lv_iload_n hx hb d_Dk_isRoutine_0 rfl (lv_at hl 0 rfl) ?_
  refine lv_if_lt (tgt := 14) hx hb d_Dk_isRoutine_1 (by decide) (fun c_a => ?_) (fun c_a => ?_)
  · refine lv_iconst (v := (nI 0)) hx hb d_Dk_isRoutine_14 (by decide +kernel) ?_
    exact k_rz hx hb hr hlocks (by decide +kernel) (bI_df (fun z => z.1 c_a)) d_Dk_isRoutine_15
  · refine lv_iload_n hx hb d_Dk_isRoutine_4 rfl (lv_at hl 0 rfl) ?_
    refine lv_bipush (v := (nI 16)) hx hb d_Dk_isRoutine_5 (by decide +kernel) ?_
    refine lv_icmp_ge (tgt := 14) hx hb d_Dk_isRoutine_7 (by decide) (fun c_b => ?_) (fun c_b => ?_)
    · refine lv_iconst (v := (nI 0)) hx hb d_Dk_isRoutine_14 (by decide +kernel) ?_
      exact k_rz hx hb hr hlocks (by decide +kernel) (bI_df (fun z => z.2 c_b)) d_Dk_isRoutine_15
    · refine lv_iconst (v := (nI 1)) hx hb d_Dk_isRoutine_10 (by decide +kernel) ?_
      refine lv_goto (tgt := 15) hx hb d_Dk_isRoutine_11 (by decide) ?_
      exact k_rz hx hb hr hlocks (by decide +kernel) (bI_dt ⟨c_a, c_b⟩) d_Dk_isRoutine_15
set_option maxHeartbeats 4000000 in
set_option maxRecDepth 100000 in
theorem c_Dk_isWay (l : Launch) (G : va_G) (cI cZ cJ : ClassId) (y : Int32)  : Met l y_Dk_isWay (w_Dk_isWay) ({ frames := 0, cells := 0, slots := 0, locals := 0 }) (va_Pc [.int y] (kR G vwCl [(cI, .int), (cZ, .boolean), (cJ, .long)] [])) (QcRead ((bI (wayB y)))) 0 0 (fun _ => False) := by
  refine Met.ofW (cc := b_Dk_isWay) (maxL := 1) (ret := (some .boolean)) (by decide) rfl ?_
  intro p e s m args below meth c s₁ B hml hv
  obtain ⟨rfl, hP, hK⟩ := hv
  have hx := B.exec
  have hb := B.bytes
  have hr := B.returns
  have hts : ∀ w ∈ TT, w.before _ s = true := fun w h => atoms_spec (ws := (w_Dk_isWay)) B.pre w (List.mem_cons_of_mem _ h)
  have hown : s.vm.findClass R_Dk = some m.cls := findClass_of_methodNamed B.named
  have hlocks := B.notSynchronized
  have hP : va_P G vwCl [] s.heap := hP
  have hl := lv_entry ([.int y]) (n := 1) (Nat.le_of_ble_eq_true rfl)
  rw [lg_entry_eq]
  generalize (lg_sl ([.int y]) ++ List.replicate (1 - (lg_sl ([.int y])).length) Slot.unset).toArray = ls at hl ⊢
  have hl : lv_has ls 1 [(0, .int y)] := hl
  refine lv_iload_n hx hb d_Dk_isWay_0 rfl (lv_at hl 0 rfl) ?_
  refine lv_if_eq (tgt := 9) hx hb d_Dk_isWay_1 (by decide) (fun c_a => ?_) (fun c_a => ?_)
  · refine lv_iconst (v := (nI 1)) hx hb d_Dk_isWay_9 (by decide +kernel) ?_
    refine lv_goto (tgt := 14) hx hb d_Dk_isWay_10 (by decide) ?_
    exact k_rz hx hb hr hlocks (by decide +kernel) (bI_dt (Or.inl c_a)) d_Dk_isWay_14
  · refine lv_iload_n hx hb d_Dk_isWay_4 rfl (lv_at hl 0 rfl) ?_
    refine lv_iconst (v := (nI 1)) hx hb d_Dk_isWay_5 (by decide +kernel) ?_
    refine lv_icmp_ne (tgt := 13) hx hb d_Dk_isWay_6 (by decide) (fun c_b => ?_) (fun c_b => ?_)
    · refine lv_iconst (v := (nI 0)) hx hb d_Dk_isWay_13 (by decide +kernel) ?_
      exact k_rz hx hb hr hlocks (by decide +kernel) (bI_df (fun z => z.elim c_a c_b)) d_Dk_isWay_14
    · refine lv_iconst (v := (nI 1)) hx hb d_Dk_isWay_9 (by decide +kernel) ?_
      refine lv_goto (tgt := 14) hx hb d_Dk_isWay_10 (by decide) ?_
      exact k_rz hx hb hr hlocks (by decide +kernel) (bI_dt (Or.inr c_b)) d_Dk_isWay_14
set_option maxHeartbeats 4000000 in
set_option maxRecDepth 100000 in
theorem c_Dk_isReady (l : Launch) (G : va_G) (cI cZ cJ : ClassId) (a_dk : Nat) (a_ch : Nat) (a_cs : Nat) (a_ln : Nat) (a_ss : Nat) (a_rr : Nat) (a_wn : Nat) (a_cd : Nat) (mt : Int32) (ft : Int32) (st : Nat → Nat) (y : Int32) (hst : ∀ j, j < 16 → st j < 5) : Met l y_Dk_isReady (w_Dk_isReady) ({ frames := 1, cells := 0, slots := 0, locals := 20 }) (va_Pc [.ref a_dk, .int y] (kR G vwCl [(cI, .int), (cZ, .boolean), (cJ, .long)] [(a_dk, .inr (3, [.ref a_ch, .ref a_cs, .ref a_ln, .ref a_ss, .ref a_rr, .ref a_wn, .ref a_cd, .int mt, .int ft])), (a_ss, .inl (cI, 16, .inl (fun j => nI (st j))))])) (QcRead ((bI (rdyB st y)))) 0 0 (fun _ => False) := by
  refine Met.ofW (cc := b_Dk_isReady) (maxL := 2) (ret := (some .boolean)) (by decide) rfl ?_
  intro p e s m args below meth c s₁ B hml hv
  obtain ⟨rfl, hP, hK⟩ := hv
  have hx := B.exec
  have hb := B.bytes
  have hr := B.returns
  have hts : ∀ w ∈ TT, w.before _ s = true := fun w h => atoms_spec (ws := (w_Dk_isReady)) B.pre w (List.mem_cons_of_mem _ h)
  have hown : s.vm.findClass R_Dk = some m.cls := findClass_of_methodNamed B.named
  have hlocks := B.notSynchronized
  have hP : va_P G vwCl [(a_dk, .inr (3, [.ref a_ch, .ref a_cs, .ref a_ln, .ref a_ss, .ref a_rr, .ref a_wn, .ref a_cd, .int mt, .int ft])), (a_ss, .inl (cI, 16, .inl (fun j => nI (st j))))] s.heap := hP
  have hl := lv_entry ([.ref a_dk, .int y]) (n := 2) (Nat.le_of_ble_eq_true rfl)
  rw [lg_entry_eq]
  generalize (lg_sl ([.ref a_dk, .int y]) ++ List.replicate (2 - (lg_sl ([.ref a_dk, .int y])).length) Slot.unset).toArray = ls at hl ⊢
  have hl : lv_has ls 2 [(0, .ref a_dk), (1, .int y)] := hl
  refine lv_iload_n hx hb d_Dk_isReady_0 rfl (lv_at hl 1 rfl) ?_
  refine k_ro (va_runS (As := [.int y]) (rest := []) ⟨hx, hb, hml, hown, hts⟩ (c_Dk_isRoutine l G cI cZ cJ y) (va_cwS 1 hts (gS t_138 t_139 t_32 t_140) rfl rfl rfl (by decide +kernel) ⟨Nat.le_of_ble_eq_true rfl, Nat.le_of_ble_eq_true rfl⟩) (kR_S hK hP [] rfl) rfl rfl hl.1 rfl (lv_room (Nat.le_of_ble_eq_true rfl)) d_Dk_isReady_1 ⟨Nat.le_of_ble_eq_true rfl, Nat.le_of_ble_eq_true rfl⟩) ?_
  refine b_if_eq (tgt := 30) hx hb d_Dk_isReady_4 (by decide) (fun c_a => ?_) (fun c_a => ?_)
  · refine lv_iconst (v := (nI 0)) hx hb d_Dk_isReady_30 (by decide +kernel) ?_
    exact k_rz hx hb hr hlocks (by decide +kernel) (rdyB_n c_a) d_Dk_isReady_31
  · obtain ⟨q, hq, rfl⟩ := hasB_of (by decide) c_a
    have hs := hst q hq
    refine lv_aload_n hx hb d_Dk_isReady_7 rfl (lv_at hl 0 rfl) ?_
    refine va_get (D := G) (ci := 3) (v := .ref a_ss) (C := R_Dk) (T := T_Dk) (N := 9) hx hb hts uw_Dk hown hK hP 0 rfl rfl 3 (by decide) (hts _ t_108) (fun _ h9 => h9) rfl d_Dk_isReady_8 ?_
    refine lv_iload_n hx hb d_Dk_isReady_11 rfl (lv_at hl 1 rfl) ?_
    refine k_iald hx hb hK hP 1 0 rfl rfl (by omega) (by decide) d_Dk_isReady_12 ?_
    refine n_if_eq (tgt := 26) hx hb d_Dk_isReady_13 (by decide) (by omega) (fun c_b => ?_) (fun c_b => ?_)
    · refine lv_iconst (v := (nI 1)) hx hb d_Dk_isReady_26 (by decide +kernel) ?_
      refine lv_goto (tgt := 31) hx hb d_Dk_isReady_27 (by decide) ?_
      exact k_rz hx hb hr hlocks (by decide +kernel) (rdyB_t hq (Or.inl c_b)) d_Dk_isReady_31
    · refine lv_aload_n hx hb d_Dk_isReady_16 rfl (lv_at hl 0 rfl) ?_
      refine va_get (D := G) (ci := 3) (v := .ref a_ss) (C := R_Dk) (T := T_Dk) (N := 9) hx hb hts uw_Dk hown hK hP 0 rfl rfl 3 (by decide) (hts _ t_108) (fun _ h9 => h9) rfl d_Dk_isReady_17 ?_
      refine lv_iload_n hx hb d_Dk_isReady_20 rfl (lv_at hl 1 rfl) ?_
      refine k_iald hx hb hK hP 1 0 rfl rfl (by omega) (by decide) d_Dk_isReady_21 ?_
      refine lv_iconst (v := (nI 4)) hx hb d_Dk_isReady_22 (by decide +kernel) ?_
      refine n_icmp_ne (tgt := 30) hx hb d_Dk_isReady_23 (by decide) (by omega) (by decide) (fun c_c => ?_) (fun c_c => ?_)
      · refine lv_iconst (v := (nI 0)) hx hb d_Dk_isReady_30 (by decide +kernel) ?_
        exact k_rz hx hb hr hlocks (by decide +kernel) (rdyB_f hq c_b c_c) d_Dk_isReady_31
      · refine lv_iconst (v := (nI 1)) hx hb d_Dk_isReady_26 (by decide +kernel) ?_
        refine lv_goto (tgt := 31) hx hb d_Dk_isReady_27 (by decide) ?_
        exact k_rz hx hb hr hlocks (by decide +kernel) (rdyB_t hq (Or.inr c_c)) d_Dk_isReady_31
set_option maxHeartbeats 4000000 in
set_option maxRecDepth 100000 in
theorem c_Dk_makeReady (l : Launch) (G : va_G) (cI cZ cJ : ClassId) (sz : Nat) (a_dk : Nat) (a_ch : Nat) (a_cs : Nat) (a_ln : Nat) (a_ss : Nat) (a_rr : Nat) (a_wn : Nat) (a_cd : Nat) (a_cn : Nat) (a_cc : Nat) (a_cw : Nat) (a_cv : Nat) (mt : Int32) (ft : Int32) (st : Nat → Nat) (cnum : Nat → Nat) (cch : Nat → Nat) (cway : Nat → Nat) (cval : Nat → Int32) (cs : Nat → List Kase) (q : Nat) (hq : q < 16) (hC : RelC cnum cch cway cval cs) : Met l y_Dk_makeReady (w_Dk_makeReady) ({ frames := 1, cells := 0, slots := 0, locals := 21 }) (va_Pc [.ref a_dk, .int (nI q)] (kW G vwCl [(cI, .int), (cZ, .boolean), (cJ, .long)] [(a_dk, .inr (3, [.ref a_ch, .ref a_cs, .ref a_ln, .ref a_ss, .ref a_rr, .ref a_wn, .ref a_cd, .int mt, .int ft])), (a_ss, .inl (cI, 16, .inl (fun j => nI (st j)))), (a_cs, .inr (0, [.ref a_cn, .ref a_cc, .ref a_cw, .ref a_cv])), (a_cn, .inl (cI, 16, .inl (fun j => nI (cnum j))))] sz)) (va_Qv (fun (u : Unit) => RelC (va_up cnum q 0) cch cway cval (va_up cs q [])) (fun u t => va_P G vwCl [(a_dk, .inr (3, [.ref a_ch, .ref a_cs, .ref a_ln, .ref a_ss, .ref a_rr, .ref a_wn, .ref a_cd, .int mt, .int ft])), (a_ss, .inl (cI, 16, .inl (fun j => nI ((va_up st q 0) j)))), (a_cs, .inr (0, [.ref a_cn, .ref a_cc, .ref a_cw, .ref a_cv])), (a_cn, .inl (cI, 16, .inl (fun j => nI ((va_up cnum q 0) j))))] t.heap) (va_A [(a_dk, .inr (3, [.ref a_ch, .ref a_cs, .ref a_ln, .ref a_ss, .ref a_rr, .ref a_wn, .ref a_cd, .int mt, .int ft])), (a_ss, .inl (cI, 16, .inl (fun j => nI (st j)))), (a_cs, .inr (0, [.ref a_cn, .ref a_cc, .ref a_cw, .ref a_cv])), (a_cn, .inl (cI, 16, .inl (fun j => nI (cnum j))))] sz)) 0 0 (va_A [(a_dk, .inr (3, [.ref a_ch, .ref a_cs, .ref a_ln, .ref a_ss, .ref a_rr, .ref a_wn, .ref a_cd, .int mt, .int ft])), (a_ss, .inl (cI, 16, .inl (fun j => nI (st j)))), (a_cs, .inr (0, [.ref a_cn, .ref a_cc, .ref a_cw, .ref a_cv])), (a_cn, .inl (cI, 16, .inl (fun j => nI (cnum j))))] sz) := by
  refine Met.ofW (cc := b_Dk_makeReady) (maxL := 2) (ret := none) (by decide) rfl ?_
  intro p e s m args below meth c s₁ B hml hv
  obtain ⟨rfl, hsz, hP, hK, hD0⟩ := hv
  have hx := B.exec
  have hb := B.bytes
  have hr := B.returns
  have hts : ∀ w ∈ TT, w.before _ s = true := fun w h => atoms_spec (ws := (w_Dk_makeReady)) B.pre w (List.mem_cons_of_mem _ h)
  have hown : s.vm.findClass R_Dk = some m.cls := findClass_of_methodNamed B.named
  have hlocks := B.notSynchronized
  subst hsz
  have hD := hD0.self (sz := s.heap.size)
  generalize hAe : va_A [(a_dk, .inr (3, [.ref a_ch, .ref a_cs, .ref a_ln, .ref a_ss, .ref a_rr, .ref a_wn, .ref a_cd, .int mt, .int ft])), (a_ss, .inl (cI, 16, .inl (fun j => nI (st j)))), (a_cs, .inr (0, [.ref a_cn, .ref a_cc, .ref a_cw, .ref a_cv])), (a_cn, .inl (cI, 16, .inl (fun j => nI (cnum j))))] s.heap.size = A at hD ⊢
  have hA : ∀ q : Nat, s.heap.size ≤ q → A q := fun q h => by rw [← hAe]; exact Or.inr h
  have hS : va_S A s.heap s.heap [] := va_S.rf
  have hP : va_P G vwCl [(a_dk, .inr (3, [.ref a_ch, .ref a_cs, .ref a_ln, .ref a_ss, .ref a_rr, .ref a_wn, .ref a_cd, .int mt, .int ft])), (a_ss, .inl (cI, 16, .inl (fun j => nI (st j)))), (a_cs, .inr (0, [.ref a_cn, .ref a_cc, .ref a_cw, .ref a_cv])), (a_cn, .inl (cI, 16, .inl (fun j => nI (cnum j))))] s.heap := hP
  have hl := lv_entry ([.ref a_dk, .int (nI q)]) (n := 2) (Nat.le_of_ble_eq_true rfl)
  rw [lg_entry_eq]
  generalize (lg_sl ([.ref a_dk, .int (nI q)]) ++ List.replicate (2 - (lg_sl ([.ref a_dk, .int (nI q)])).length) Slot.unset).toArray = ls at hl ⊢
  have hl : lv_has ls 2 [(0, .ref a_dk), (1, .int (nI q))] := hl
  refine lv_aload_n hx hb d_Dk_makeReady_0 rfl (lv_at hl 0 rfl) ?_
  refine va_get (D := G) (ci := 3) (v := .ref a_ss) (C := R_Dk) (T := T_Dk) (N := 9) hx hb hts uw_Dk hown hK hP 0 rfl rfl 3 (by decide) (hts _ t_108) (fun _ h9 => h9) rfl d_Dk_makeReady_1 ?_
  refine lv_iload_n hx hb d_Dk_makeReady_4 rfl (lv_at hl 1 rfl) ?_
  refine lv_iconst (v := (nI 0)) hx hb d_Dk_makeReady_5 (by decide +kernel) ?_
  refine k_iastN hx hb hK hP hD hS 1 0 rfl rfl (by omega) (by decide) d_Dk_makeReady_6 (fun H locs hP hD hS => ?_)
  have hP : va_P G vwCl [(a_dk, .inr (3, [.ref a_ch, .ref a_cs, .ref a_ln, .ref a_ss, .ref a_rr, .ref a_wn, .ref a_cd, .int mt, .int ft])), (a_ss, .inl (cI, 16, .inl (fun j => nI ((va_up st q 0) j)))), (a_cs, .inr (0, [.ref a_cn, .ref a_cc, .ref a_cw, .ref a_cv])), (a_cn, .inl (cI, 16, .inl (fun j => nI (cnum j))))] H := hP
  have hD : va_D A [(a_dk, .inr (3, [.ref a_ch, .ref a_cs, .ref a_ln, .ref a_ss, .ref a_rr, .ref a_wn, .ref a_cd, .int mt, .int ft])), (a_ss, .inl (cI, 16, .inl (fun j => nI ((va_up st q 0) j)))), (a_cs, .inr (0, [.ref a_cn, .ref a_cc, .ref a_cw, .ref a_cv])), (a_cn, .inl (cI, 16, .inl (fun j => nI (cnum j))))] := hD
  refine lv_aload_n hx hb d_Dk_makeReady_7 rfl (lv_at hl 0 rfl) ?_
  refine va_get (D := G) (ci := 3) (v := .ref a_cs) (C := R_Dk) (T := T_Dk) (N := 9) hx hb hts uw_Dk hown hK hP 0 rfl rfl 1 (by decide) (hts _ t_106) (fun _ h9 => h9) rfl d_Dk_makeReady_8 ?_
  refine lv_iload_n hx hb d_Dk_makeReady_11 rfl (lv_at hl 1 rfl) ?_
  refine k_rwv (va_runV (As := [.int (nI q)]) (rest := []) ⟨hx, hb, hml, hown, hts⟩ (c_Cs_forget l G cI cZ cJ H.size a_cs a_cn a_cc a_cw a_cv cnum q hq) (cwV 1 hts (gV t_148 t_149 t_150 t_34 t_151) rfl rfl rfl (by decide +kernel) ⟨Nat.le_of_ble_eq_true rfl, Nat.le_of_ble_eq_true rfl⟩) (kW_V (ci := 0) (q0 := 2) hK hP hD rfl rfl [2, 3] rfl (by decide) rfl) rfl rfl hl.1 rfl (lv_room (Nat.le_of_ble_eq_true rfl)) d_Dk_makeReady_12 ⟨Nat.le_of_ble_eq_true rfl, Nat.le_of_ble_eq_true rfl⟩) hP hD hS hA [2, 3] rfl (fun _ => rfl) (fun u H locs hw hP hD hS => ?_)
  have hP : va_P G vwCl [(a_dk, .inr (3, [.ref a_ch, .ref a_cs, .ref a_ln, .ref a_ss, .ref a_rr, .ref a_wn, .ref a_cd, .int mt, .int ft])), (a_ss, .inl (cI, 16, .inl (fun j => nI ((va_up st q 0) j)))), (a_cs, .inr (0, [.ref a_cn, .ref a_cc, .ref a_cw, .ref a_cv])), (a_cn, .inl (cI, 16, .inl (fun j => nI ((va_up cnum q 0) j))))] H := hP
  have hD : va_D A [(a_dk, .inr (3, [.ref a_ch, .ref a_cs, .ref a_ln, .ref a_ss, .ref a_rr, .ref a_wn, .ref a_cd, .int mt, .int ft])), (a_ss, .inl (cI, 16, .inl (fun j => nI ((va_up st q 0) j)))), (a_cs, .inr (0, [.ref a_cn, .ref a_cc, .ref a_cw, .ref a_cv])), (a_cn, .inl (cI, 16, .inl (fun j => nI ((va_up cnum q 0) j))))] := hD
  exact k_wv hx hb hr hlocks hP hS () (rfl) (hC.forget q) d_Dk_makeReady_15
set_option maxHeartbeats 4000000 in
set_option maxRecDepth 100000 in
theorem c_Dk_startWaiting (l : Launch) (G : va_G) (cI cZ cJ : ClassId) (sz : Nat) (a_dk : Nat) (a_ch : Nat) (a_cs : Nat) (a_ln : Nat) (a_ss : Nat) (a_rr : Nat) (a_wn : Nat) (a_cd : Nat) (a_mm : Nat) (mt : Int32) (ft : Int32) (st : Nat → Nat) (len : Nat) (mem : Nat → Nat) (line : List Nat) (q : Nat) (h : Nat) (hq : q < 16) (hL : RelL len mem line) (hlt : line.length < 16) : Met l y_Dk_startWaiting (w_Dk_startWaiting) ({ frames := 1, cells := 0, slots := 0, locals := 21 }) (va_Pc [.ref a_dk, .int (nI q), .int (nI h)] (kW G vwCl [(cI, .int), (cZ, .boolean), (cJ, .long)] [(a_dk, .inr (3, [.ref a_ch, .ref a_cs, .ref a_ln, .ref a_ss, .ref a_rr, .ref a_wn, .ref a_cd, .int mt, .int ft])), (a_ss, .inl (cI, 16, .inl (fun j => nI (st j)))), (a_ln, .inr (2, [.ref a_mm, .int (nI len)])), (a_mm, .inl (cI, 16, .inl (fun j => nI (mem j))))] sz)) (va_Qv (fun (u : Nat × (Nat → Nat)) => RelL u.1 u.2 (line ++ [q])) (fun u t => va_P G vwCl [(a_dk, .inr (3, [.ref a_ch, .ref a_cs, .ref a_ln, .ref a_ss, .ref a_rr, .ref a_wn, .ref a_cd, .int mt, .int ft])), (a_ss, .inl (cI, 16, .inl (fun j => nI ((va_up st q h) j)))), (a_ln, .inr (2, [.ref a_mm, .int (nI u.1)])), (a_mm, .inl (cI, 16, .inl (fun j => nI (u.2 j))))] t.heap) (va_A [(a_dk, .inr (3, [.ref a_ch, .ref a_cs, .ref a_ln, .ref a_ss, .ref a_rr, .ref a_wn, .ref a_cd, .int mt, .int ft])), (a_ss, .inl (cI, 16, .inl (fun j => nI (st j)))), (a_ln, .inr (2, [.ref a_mm, .int (nI len)])), (a_mm, .inl (cI, 16, .inl (fun j => nI (mem j))))] sz)) 0 0 (va_A [(a_dk, .inr (3, [.ref a_ch, .ref a_cs, .ref a_ln, .ref a_ss, .ref a_rr, .ref a_wn, .ref a_cd, .int mt, .int ft])), (a_ss, .inl (cI, 16, .inl (fun j => nI (st j)))), (a_ln, .inr (2, [.ref a_mm, .int (nI len)])), (a_mm, .inl (cI, 16, .inl (fun j => nI (mem j))))] sz) := by
  refine Met.ofW (cc := b_Dk_startWaiting) (maxL := 3) (ret := none) (by decide) rfl ?_
  intro p e s m args below meth c s₁ B hml hv
  obtain ⟨rfl, hsz, hP, hK, hD0⟩ := hv
  have hx := B.exec
  have hb := B.bytes
  have hr := B.returns
  have hts : ∀ w ∈ TT, w.before _ s = true := fun w h => atoms_spec (ws := (w_Dk_startWaiting)) B.pre w (List.mem_cons_of_mem _ h)
  have hown : s.vm.findClass R_Dk = some m.cls := findClass_of_methodNamed B.named
  have hlocks := B.notSynchronized
  subst hsz
  have hD := hD0.self (sz := s.heap.size)
  generalize hAe : va_A [(a_dk, .inr (3, [.ref a_ch, .ref a_cs, .ref a_ln, .ref a_ss, .ref a_rr, .ref a_wn, .ref a_cd, .int mt, .int ft])), (a_ss, .inl (cI, 16, .inl (fun j => nI (st j)))), (a_ln, .inr (2, [.ref a_mm, .int (nI len)])), (a_mm, .inl (cI, 16, .inl (fun j => nI (mem j))))] s.heap.size = A at hD ⊢
  have hA : ∀ q : Nat, s.heap.size ≤ q → A q := fun q h => by rw [← hAe]; exact Or.inr h
  have hS : va_S A s.heap s.heap [] := va_S.rf
  have hP : va_P G vwCl [(a_dk, .inr (3, [.ref a_ch, .ref a_cs, .ref a_ln, .ref a_ss, .ref a_rr, .ref a_wn, .ref a_cd, .int mt, .int ft])), (a_ss, .inl (cI, 16, .inl (fun j => nI (st j)))), (a_ln, .inr (2, [.ref a_mm, .int (nI len)])), (a_mm, .inl (cI, 16, .inl (fun j => nI (mem j))))] s.heap := hP
  have hl := lv_entry ([.ref a_dk, .int (nI q), .int (nI h)]) (n := 3) (Nat.le_of_ble_eq_true rfl)
  rw [lg_entry_eq]
  generalize (lg_sl ([.ref a_dk, .int (nI q), .int (nI h)]) ++ List.replicate (3 - (lg_sl ([.ref a_dk, .int (nI q), .int (nI h)])).length) Slot.unset).toArray = ls at hl ⊢
  have hl : lv_has ls 3 [(0, .ref a_dk), (1, .int (nI q)), (2, .int (nI h))] := hl
  refine lv_aload_n hx hb d_Dk_startWaiting_0 rfl (lv_at hl 0 rfl) ?_
  refine va_get (D := G) (ci := 3) (v := .ref a_ss) (C := R_Dk) (T := T_Dk) (N := 9) hx hb hts uw_Dk hown hK hP 0 rfl rfl 3 (by decide) (hts _ t_108) (fun _ h9 => h9) rfl d_Dk_startWaiting_1 ?_
  refine lv_iload_n hx hb d_Dk_startWaiting_4 rfl (lv_at hl 1 rfl) ?_
  refine lv_iload_n hx hb d_Dk_startWaiting_5 rfl (lv_at hl 2 rfl) ?_
  refine k_iastN hx hb hK hP hD hS 1 0 rfl rfl (by omega) (by decide) d_Dk_startWaiting_6 (fun H locs hP hD hS => ?_)
  have hP : va_P G vwCl [(a_dk, .inr (3, [.ref a_ch, .ref a_cs, .ref a_ln, .ref a_ss, .ref a_rr, .ref a_wn, .ref a_cd, .int mt, .int ft])), (a_ss, .inl (cI, 16, .inl (fun j => nI ((va_up st q h) j)))), (a_ln, .inr (2, [.ref a_mm, .int (nI len)])), (a_mm, .inl (cI, 16, .inl (fun j => nI (mem j))))] H := hP
  have hD : va_D A [(a_dk, .inr (3, [.ref a_ch, .ref a_cs, .ref a_ln, .ref a_ss, .ref a_rr, .ref a_wn, .ref a_cd, .int mt, .int ft])), (a_ss, .inl (cI, 16, .inl (fun j => nI ((va_up st q h) j)))), (a_ln, .inr (2, [.ref a_mm, .int (nI len)])), (a_mm, .inl (cI, 16, .inl (fun j => nI (mem j))))] := hD
  refine lv_aload_n hx hb d_Dk_startWaiting_7 rfl (lv_at hl 0 rfl) ?_
  refine va_get (D := G) (ci := 3) (v := .ref a_ln) (C := R_Dk) (T := T_Dk) (N := 9) hx hb hts uw_Dk hown hK hP 0 rfl rfl 2 (by decide) (hts _ t_107) (fun _ h9 => h9) rfl d_Dk_startWaiting_8 ?_
  refine lv_iload_n hx hb d_Dk_startWaiting_11 rfl (lv_at hl 1 rfl) ?_
  refine k_rwv (va_runV (As := [.int (nI q)]) (rest := []) ⟨hx, hb, hml, hown, hts⟩ (c_Ln_join l G cI cZ cJ H.size a_ln a_mm len mem line q hq hL hlt) (cwV 1 hts (gV t_214 t_215 t_216 t_35 t_217) rfl rfl rfl (by decide +kernel) ⟨Nat.le_of_ble_eq_true rfl, Nat.le_of_ble_eq_true rfl⟩) (kW_V (ci := 2) (q0 := 2) hK hP hD rfl rfl [2, 3] rfl (by decide) rfl) rfl rfl hl.1 rfl (lv_room (Nat.le_of_ble_eq_true rfl)) d_Dk_startWaiting_12 ⟨Nat.le_of_ble_eq_true rfl, Nat.le_of_ble_eq_true rfl⟩) hP hD hS hA [2, 3] rfl (fun _ => rfl) (fun u H locs hw hP hD hS => ?_)
  obtain ⟨len_1, mem_1⟩ := u
  have hL := hw
  have hL : RelL len_1 mem_1 (line ++ [q]) := hL
  have hP : va_P G vwCl [(a_dk, .inr (3, [.ref a_ch, .ref a_cs, .ref a_ln, .ref a_ss, .ref a_rr, .ref a_wn, .ref a_cd, .int mt, .int ft])), (a_ss, .inl (cI, 16, .inl (fun j => nI ((va_up st q h) j)))), (a_ln, .inr (2, [.ref a_mm, .int (nI len_1)])), (a_mm, .inl (cI, 16, .inl (fun j => nI (mem_1 j))))] H := hP
  have hD : va_D A [(a_dk, .inr (3, [.ref a_ch, .ref a_cs, .ref a_ln, .ref a_ss, .ref a_rr, .ref a_wn, .ref a_cd, .int mt, .int ft])), (a_ss, .inl (cI, 16, .inl (fun j => nI ((va_up st q h) j)))), (a_ln, .inr (2, [.ref a_mm, .int (nI len_1)])), (a_mm, .inl (cI, 16, .inl (fun j => nI (mem_1 j))))] := hD
  exact k_wv hx hb hr hlocks hP hS (len_1, mem_1) (rfl) (hL) d_Dk_startWaiting_15
set_option maxHeartbeats 4000000 in
set_option maxRecDepth 100000 in
theorem c_Dk_hand (l : Launch) (G : va_G) (cI cZ cJ : ClassId) (sz : Nat) (a_dk : Nat) (a_ch : Nat) (a_cs : Nat) (a_ln : Nat) (a_ss : Nat) (a_rr : Nat) (a_wn : Nat) (a_cd : Nat) (mt : Int32) (ft : Int32) (rc : Nat → Int32) (sn : Nat → Nat) (q : Nat) (v : Int32) (b : Nat) (hq : q < 16) : Met l y_Dk_hand (w_Dk_hand) ({ frames := 0, cells := 0, slots := 0, locals := 0 }) (va_Pc [.ref a_dk, .int (nI q), .int v, .int (nI b)] (kW G vwCl [(cI, .int), (cZ, .boolean), (cJ, .long)] [(a_dk, .inr (3, [.ref a_ch, .ref a_cs, .ref a_ln, .ref a_ss, .ref a_rr, .ref a_wn, .ref a_cd, .int mt, .int ft])), (a_rr, .inl (cI, 16, .inl rc)), (a_wn, .inl (cI, 16, .inl (fun j => nI (sn j))))] sz)) (va_Qv (fun (u : Unit) => True) (fun u t => va_P G vwCl [(a_dk, .inr (3, [.ref a_ch, .ref a_cs, .ref a_ln, .ref a_ss, .ref a_rr, .ref a_wn, .ref a_cd, .int mt, .int ft])), (a_rr, .inl (cI, 16, .inl (va_up rc q v))), (a_wn, .inl (cI, 16, .inl (fun j => nI ((va_up sn q b) j))))] t.heap) (va_A [(a_dk, .inr (3, [.ref a_ch, .ref a_cs, .ref a_ln, .ref a_ss, .ref a_rr, .ref a_wn, .ref a_cd, .int mt, .int ft])), (a_rr, .inl (cI, 16, .inl rc)), (a_wn, .inl (cI, 16, .inl (fun j => nI (sn j))))] sz)) 0 0 (va_A [(a_dk, .inr (3, [.ref a_ch, .ref a_cs, .ref a_ln, .ref a_ss, .ref a_rr, .ref a_wn, .ref a_cd, .int mt, .int ft])), (a_rr, .inl (cI, 16, .inl rc)), (a_wn, .inl (cI, 16, .inl (fun j => nI (sn j))))] sz) := by
  refine Met.ofW (cc := b_Dk_hand) (maxL := 4) (ret := none) (by decide) rfl ?_
  intro p e s m args below meth c s₁ B hml hv
  obtain ⟨rfl, hsz, hP, hK, hD0⟩ := hv
  have hx := B.exec
  have hb := B.bytes
  have hr := B.returns
  have hts : ∀ w ∈ TT, w.before _ s = true := fun w h => atoms_spec (ws := (w_Dk_hand)) B.pre w (List.mem_cons_of_mem _ h)
  have hown : s.vm.findClass R_Dk = some m.cls := findClass_of_methodNamed B.named
  have hlocks := B.notSynchronized
  subst hsz
  have hD := hD0.self (sz := s.heap.size)
  generalize hAe : va_A [(a_dk, .inr (3, [.ref a_ch, .ref a_cs, .ref a_ln, .ref a_ss, .ref a_rr, .ref a_wn, .ref a_cd, .int mt, .int ft])), (a_rr, .inl (cI, 16, .inl rc)), (a_wn, .inl (cI, 16, .inl (fun j => nI (sn j))))] s.heap.size = A at hD ⊢
  have hA : ∀ q : Nat, s.heap.size ≤ q → A q := fun q h => by rw [← hAe]; exact Or.inr h
  have hS : va_S A s.heap s.heap [] := va_S.rf
  have hP : va_P G vwCl [(a_dk, .inr (3, [.ref a_ch, .ref a_cs, .ref a_ln, .ref a_ss, .ref a_rr, .ref a_wn, .ref a_cd, .int mt, .int ft])), (a_rr, .inl (cI, 16, .inl rc)), (a_wn, .inl (cI, 16, .inl (fun j => nI (sn j))))] s.heap := hP
  have hl := lv_entry ([.ref a_dk, .int (nI q), .int v, .int (nI b)]) (n := 4) (Nat.le_of_ble_eq_true rfl)
  rw [lg_entry_eq]
  generalize (lg_sl ([.ref a_dk, .int (nI q), .int v, .int (nI b)]) ++ List.replicate (4 - (lg_sl ([.ref a_dk, .int (nI q), .int v, .int (nI b)])).length) Slot.unset).toArray = ls at hl ⊢
  have hl : lv_has ls 4 [(0, .ref a_dk), (1, .int (nI q)), (2, .int v), (3, .int (nI b))] := hl
  refine lv_aload_n hx hb d_Dk_hand_0 rfl (lv_at hl 0 rfl) ?_
  refine va_get (D := G) (ci := 3) (v := .ref a_rr) (C := R_Dk) (T := T_Dk) (N := 9) hx hb hts uw_Dk hown hK hP 0 rfl rfl 4 (by decide) (hts _ t_109) (fun _ h9 => h9) rfl d_Dk_hand_1 ?_
  refine lv_iload_n hx hb d_Dk_hand_4 rfl (lv_at hl 1 rfl) ?_
  refine lv_iload_n hx hb d_Dk_hand_5 rfl (lv_at hl 2 rfl) ?_
  refine k_iast hx hb hK hP hD hS 1 0 rfl rfl (by omega) (by decide) d_Dk_hand_6 (fun H locs hP hD hS => ?_)
  have hP : va_P G vwCl [(a_dk, .inr (3, [.ref a_ch, .ref a_cs, .ref a_ln, .ref a_ss, .ref a_rr, .ref a_wn, .ref a_cd, .int mt, .int ft])), (a_rr, .inl (cI, 16, .inl (va_up rc q v))), (a_wn, .inl (cI, 16, .inl (fun j => nI (sn j))))] H := hP
  have hD : va_D A [(a_dk, .inr (3, [.ref a_ch, .ref a_cs, .ref a_ln, .ref a_ss, .ref a_rr, .ref a_wn, .ref a_cd, .int mt, .int ft])), (a_rr, .inl (cI, 16, .inl (va_up rc q v))), (a_wn, .inl (cI, 16, .inl (fun j => nI (sn j))))] := hD
  refine lv_aload_n hx hb d_Dk_hand_7 rfl (lv_at hl 0 rfl) ?_
  refine va_get (D := G) (ci := 3) (v := .ref a_wn) (C := R_Dk) (T := T_Dk) (N := 9) hx hb hts uw_Dk hown hK hP 0 rfl rfl 5 (by decide) (hts _ t_110) (fun _ h9 => h9) rfl d_Dk_hand_8 ?_
  refine lv_iload_n hx hb d_Dk_hand_11 rfl (lv_at hl 1 rfl) ?_
  refine lv_iload_n hx hb d_Dk_hand_12 rfl (lv_at hl 3 rfl) ?_
  refine k_iastN hx hb hK hP hD hS 2 0 rfl rfl (by omega) (by decide) d_Dk_hand_13 (fun H locs hP hD hS => ?_)
  have hP : va_P G vwCl [(a_dk, .inr (3, [.ref a_ch, .ref a_cs, .ref a_ln, .ref a_ss, .ref a_rr, .ref a_wn, .ref a_cd, .int mt, .int ft])), (a_rr, .inl (cI, 16, .inl (va_up rc q v))), (a_wn, .inl (cI, 16, .inl (fun j => nI ((va_up sn q b) j))))] H := hP
  have hD : va_D A [(a_dk, .inr (3, [.ref a_ch, .ref a_cs, .ref a_ln, .ref a_ss, .ref a_rr, .ref a_wn, .ref a_cd, .int mt, .int ft])), (a_rr, .inl (cI, 16, .inl (va_up rc q v))), (a_wn, .inl (cI, 16, .inl (fun j => nI ((va_up sn q b) j))))] := hD
  exact k_wv hx hb hr hlocks hP hS () (rfl) (trivial) d_Dk_hand_14
set_option maxHeartbeats 4000000 in
set_option maxRecDepth 100000 in
theorem c_Dk_sufferFault (l : Launch) (G : va_G) (cI cZ cJ : ClassId) (sz : Nat) (a_dk : Nat) (a_ch : Nat) (a_cs : Nat) (a_ln : Nat) (a_ss : Nat) (a_rr : Nat) (a_wn : Nat) (a_cd : Nat) (mt : Int32) (ft : Int32) (st : Nat → Nat) (q : Nat) (hq : q < 16) : Met l y_Dk_sufferFault (w_Dk_sufferFault) ({ frames := 0, cells := 0, slots := 0, locals := 0 }) (va_Pc [.ref a_dk, .int (nI q)] (kW G vwCl [(cI, .int), (cZ, .boolean), (cJ, .long)] [(a_dk, .inr (3, [.ref a_ch, .ref a_cs, .ref a_ln, .ref a_ss, .ref a_rr, .ref a_wn, .ref a_cd, .int mt, .int ft])), (a_ss, .inl (cI, 16, .inl (fun j => nI (st j))))] sz)) (va_Qv (fun (u : Unit) => True) (fun u t => va_P G vwCl [(a_dk, .inr (3, [.ref a_ch, .ref a_cs, .ref a_ln, .ref a_ss, .ref a_rr, .ref a_wn, .ref a_cd, .int mt, .int (ft + nI 1)])), (a_ss, .inl (cI, 16, .inl (fun j => nI ((va_up st q 4) j))))] t.heap) (va_A [(a_dk, .inr (3, [.ref a_ch, .ref a_cs, .ref a_ln, .ref a_ss, .ref a_rr, .ref a_wn, .ref a_cd, .int mt, .int ft])), (a_ss, .inl (cI, 16, .inl (fun j => nI (st j))))] sz)) 0 0 (va_A [(a_dk, .inr (3, [.ref a_ch, .ref a_cs, .ref a_ln, .ref a_ss, .ref a_rr, .ref a_wn, .ref a_cd, .int mt, .int ft])), (a_ss, .inl (cI, 16, .inl (fun j => nI (st j))))] sz) := by
  refine Met.ofW (cc := b_Dk_sufferFault) (maxL := 2) (ret := none) (by decide) rfl ?_
  intro p e s m args below meth c s₁ B hml hv
  obtain ⟨rfl, hsz, hP, hK, hD0⟩ := hv
  have hx := B.exec
  have hb := B.bytes
  have hr := B.returns
  have hts : ∀ w ∈ TT, w.before _ s = true := fun w h => atoms_spec (ws := (w_Dk_sufferFault)) B.pre w (List.mem_cons_of_mem _ h)
  have hown : s.vm.findClass R_Dk = some m.cls := findClass_of_methodNamed B.named
  have hlocks := B.notSynchronized
  subst hsz
  have hD := hD0.self (sz := s.heap.size)
  generalize hAe : va_A [(a_dk, .inr (3, [.ref a_ch, .ref a_cs, .ref a_ln, .ref a_ss, .ref a_rr, .ref a_wn, .ref a_cd, .int mt, .int ft])), (a_ss, .inl (cI, 16, .inl (fun j => nI (st j))))] s.heap.size = A at hD ⊢
  have hA : ∀ q : Nat, s.heap.size ≤ q → A q := fun q h => by rw [← hAe]; exact Or.inr h
  have hS : va_S A s.heap s.heap [] := va_S.rf
  have hP : va_P G vwCl [(a_dk, .inr (3, [.ref a_ch, .ref a_cs, .ref a_ln, .ref a_ss, .ref a_rr, .ref a_wn, .ref a_cd, .int mt, .int ft])), (a_ss, .inl (cI, 16, .inl (fun j => nI (st j))))] s.heap := hP
  have hl := lv_entry ([.ref a_dk, .int (nI q)]) (n := 2) (Nat.le_of_ble_eq_true rfl)
  rw [lg_entry_eq]
  generalize (lg_sl ([.ref a_dk, .int (nI q)]) ++ List.replicate (2 - (lg_sl ([.ref a_dk, .int (nI q)])).length) Slot.unset).toArray = ls at hl ⊢
  have hl : lv_has ls 2 [(0, .ref a_dk), (1, .int (nI q))] := hl
  refine lv_aload_n hx hb d_Dk_sufferFault_0 rfl (lv_at hl 0 rfl) ?_
  refine va_get (D := G) (ci := 3) (v := .ref a_ss) (C := R_Dk) (T := T_Dk) (N := 9) hx hb hts uw_Dk hown hK hP 0 rfl rfl 3 (by decide) (hts _ t_108) (fun _ h9 => h9) rfl d_Dk_sufferFault_1 ?_
  refine lv_iload_n hx hb d_Dk_sufferFault_4 rfl (lv_at hl 1 rfl) ?_
  refine lv_iconst (v := (nI 4)) hx hb d_Dk_sufferFault_5 (by decide +kernel) ?_
  refine k_iastN hx hb hK hP hD hS 1 0 rfl rfl (by omega) (by decide) d_Dk_sufferFault_6 (fun H locs hP hD hS => ?_)
  have hP : va_P G vwCl [(a_dk, .inr (3, [.ref a_ch, .ref a_cs, .ref a_ln, .ref a_ss, .ref a_rr, .ref a_wn, .ref a_cd, .int mt, .int ft])), (a_ss, .inl (cI, 16, .inl (fun j => nI ((va_up st q 4) j))))] H := hP
  have hD : va_D A [(a_dk, .inr (3, [.ref a_ch, .ref a_cs, .ref a_ln, .ref a_ss, .ref a_rr, .ref a_wn, .ref a_cd, .int mt, .int ft])), (a_ss, .inl (cI, 16, .inl (fun j => nI ((va_up st q 4) j))))] := hD
  refine lv_aload_n hx hb d_Dk_sufferFault_7 rfl (lv_at hl 0 rfl) ?_
  refine lv_dup hx hb d_Dk_sufferFault_8 rfl ?_
  refine va_get (D := G) (ci := 3) (v := .int ft) (C := R_Dk) (T := T_Dk) (N := 9) hx hb hts uw_Dk hown hK hP 0 rfl rfl 8 (by decide) (hts _ t_113) (fun _ h9 => h9) rfl d_Dk_sufferFault_9 ?_
  refine lv_iconst (v := (nI 1)) hx hb d_Dk_sufferFault_12 (by decide +kernel) ?_
  refine lv_iadd hx hb d_Dk_sufferFault_13 ?_
  refine va_put (D := G) (ci := 3) (v := .int (ft + (nI 1))) (ty := .int) (C := R_Dk) (T := T_Dk) (N := 9) hx hb hts uw_Dk ty_Dk tyok_Dk nm_Dk hown hK hP hD hS 0 rfl rfl 8 (by decide) (hts _ t_113) (fun _ h9 => h9) rfl (by decide +kernel) rfl rfl (Nat.le_of_ble_eq_true rfl) d_Dk_sufferFault_14 (fun H locs hP hD hS => ?_)
  have hP : va_P G vwCl [(a_dk, .inr (3, [.ref a_ch, .ref a_cs, .ref a_ln, .ref a_ss, .ref a_rr, .ref a_wn, .ref a_cd, .int mt, .int (ft + (nI 1))])), (a_ss, .inl (cI, 16, .inl (fun j => nI ((va_up st q 4) j))))] H := hP
  have hD : va_D A [(a_dk, .inr (3, [.ref a_ch, .ref a_cs, .ref a_ln, .ref a_ss, .ref a_rr, .ref a_wn, .ref a_cd, .int mt, .int (ft + (nI 1))])), (a_ss, .inl (cI, 16, .inl (fun j => nI ((va_up st q 4) j))))] := hD
  exact k_wv hx hb hr hlocks hP hS () (rfl) (trivial) d_Dk_sufferFault_17
set_option maxHeartbeats 4000000 in
set_option maxRecDepth 100000 in
theorem c_Dk_endWait (l : Launch) (G : va_G) (cI cZ cJ : ClassId) (sz : Nat) (a_dk : Nat) (a_ch : Nat) (a_cs : Nat) (a_ln : Nat) (a_ss : Nat) (a_rr : Nat) (a_wn : Nat) (a_cd : Nat) (a_cn : Nat) (a_cc : Nat) (a_cw : Nat) (a_cv : Nat) (a_mm : Nat) (mt : Int32) (ft : Int32) (st : Nat → Nat) (cd : Nat → Int32) (cnum : Nat → Nat) (len : Nat) (mem : Nat → Nat) (cch : Nat → Nat) (cway : Nat → Nat) (cval : Nat → Int32) (cs : Nat → List Kase) (line : List Nat) (q : Nat) (i : Nat) (hq : q < 16) (hi6 : i < 6) (hst : ∀ j, j < 16 → st j < 5) (hC : RelC cnum cch cway cval cs) (hL : RelL len mem line) : Met l y_Dk_endWait (w_Dk_endWait) ({ frames := 2, cells := 0, slots := 0, locals := 42 }) (va_Pc [.ref a_dk, .int (nI (q * 6 + i))] (kW G vwCl [(cI, .int), (cZ, .boolean), (cJ, .long)] [(a_dk, .inr (3, [.ref a_ch, .ref a_cs, .ref a_ln, .ref a_ss, .ref a_rr, .ref a_wn, .ref a_cd, .int mt, .int ft])), (a_ss, .inl (cI, 16, .inl (fun j => nI (st j)))), (a_cd, .inl (cI, 16, .inl cd)), (a_cs, .inr (0, [.ref a_cn, .ref a_cc, .ref a_cw, .ref a_cv])), (a_cn, .inl (cI, 16, .inl (fun j => nI (cnum j)))), (a_ln, .inr (2, [.ref a_mm, .int (nI len)])), (a_mm, .inl (cI, 16, .inl (fun j => nI (mem j))))] sz)) (va_Qv (fun (u : Nat × (Nat → Nat)) => RelC (va_up cnum q 0) cch cway cval (va_up cs q []) ∧ RelL u.1 u.2 (outL line q)) (fun u t => va_P G vwCl [(a_dk, .inr (3, [.ref a_ch, .ref a_cs, .ref a_ln, .ref a_ss, .ref a_rr, .ref a_wn, .ref a_cd, .int mt, .int ft])), (a_ss, .inl (cI, 16, .inl (fun j => nI ((va_up st q 0) j)))), (a_cd, .inl (cI, 16, .inl (cdE st cd q i))), (a_cs, .inr (0, [.ref a_cn, .ref a_cc, .ref a_cw, .ref a_cv])), (a_cn, .inl (cI, 16, .inl (fun j => nI ((va_up cnum q 0) j)))), (a_ln, .inr (2, [.ref a_mm, .int (nI u.1)])), (a_mm, .inl (cI, 16, .inl (fun j => nI (u.2 j))))] t.heap) (va_A [(a_dk, .inr (3, [.ref a_ch, .ref a_cs, .ref a_ln, .ref a_ss, .ref a_rr, .ref a_wn, .ref a_cd, .int mt, .int ft])), (a_ss, .inl (cI, 16, .inl (fun j => nI (st j)))), (a_cd, .inl (cI, 16, .inl cd)), (a_cs, .inr (0, [.ref a_cn, .ref a_cc, .ref a_cw, .ref a_cv])), (a_cn, .inl (cI, 16, .inl (fun j => nI (cnum j)))), (a_ln, .inr (2, [.ref a_mm, .int (nI len)])), (a_mm, .inl (cI, 16, .inl (fun j => nI (mem j))))] sz)) 0 0 (va_A [(a_dk, .inr (3, [.ref a_ch, .ref a_cs, .ref a_ln, .ref a_ss, .ref a_rr, .ref a_wn, .ref a_cd, .int mt, .int ft])), (a_ss, .inl (cI, 16, .inl (fun j => nI (st j)))), (a_cd, .inl (cI, 16, .inl cd)), (a_cs, .inr (0, [.ref a_cn, .ref a_cc, .ref a_cw, .ref a_cv])), (a_cn, .inl (cI, 16, .inl (fun j => nI (cnum j)))), (a_ln, .inr (2, [.ref a_mm, .int (nI len)])), (a_mm, .inl (cI, 16, .inl (fun j => nI (mem j))))] sz) := by
  refine Met.ofW (cc := b_Dk_endWait) (maxL := 3) (ret := none) (by decide) rfl ?_
  intro p e s m args below meth c s₁ B hml hv
  obtain ⟨rfl, hsz, hP, hK, hD0⟩ := hv
  have hx := B.exec
  have hb := B.bytes
  have hr := B.returns
  have hts : ∀ w ∈ TT, w.before _ s = true := fun w h => atoms_spec (ws := (w_Dk_endWait)) B.pre w (List.mem_cons_of_mem _ h)
  have hown : s.vm.findClass R_Dk = some m.cls := findClass_of_methodNamed B.named
  have hlocks := B.notSynchronized
  subst hsz
  have hD := hD0.self (sz := s.heap.size)
  generalize hAe : va_A [(a_dk, .inr (3, [.ref a_ch, .ref a_cs, .ref a_ln, .ref a_ss, .ref a_rr, .ref a_wn, .ref a_cd, .int mt, .int ft])), (a_ss, .inl (cI, 16, .inl (fun j => nI (st j)))), (a_cd, .inl (cI, 16, .inl cd)), (a_cs, .inr (0, [.ref a_cn, .ref a_cc, .ref a_cw, .ref a_cv])), (a_cn, .inl (cI, 16, .inl (fun j => nI (cnum j)))), (a_ln, .inr (2, [.ref a_mm, .int (nI len)])), (a_mm, .inl (cI, 16, .inl (fun j => nI (mem j))))] s.heap.size = A at hD ⊢
  have hA : ∀ q : Nat, s.heap.size ≤ q → A q := fun q h => by rw [← hAe]; exact Or.inr h
  have hS : va_S A s.heap s.heap [] := va_S.rf
  have hP : va_P G vwCl [(a_dk, .inr (3, [.ref a_ch, .ref a_cs, .ref a_ln, .ref a_ss, .ref a_rr, .ref a_wn, .ref a_cd, .int mt, .int ft])), (a_ss, .inl (cI, 16, .inl (fun j => nI (st j)))), (a_cd, .inl (cI, 16, .inl cd)), (a_cs, .inr (0, [.ref a_cn, .ref a_cc, .ref a_cw, .ref a_cv])), (a_cn, .inl (cI, 16, .inl (fun j => nI (cnum j)))), (a_ln, .inr (2, [.ref a_mm, .int (nI len)])), (a_mm, .inl (cI, 16, .inl (fun j => nI (mem j))))] s.heap := hP
  have hl := lv_entry ([.ref a_dk, .int (nI (q * 6 + i))]) (n := 3) (Nat.le_of_ble_eq_true rfl)
  rw [lg_entry_eq]
  generalize (lg_sl ([.ref a_dk, .int (nI (q * 6 + i))]) ++ List.replicate (3 - (lg_sl ([.ref a_dk, .int (nI (q * 6 + i))])).length) Slot.unset).toArray = ls at hl ⊢
  have hl : lv_has ls 3 [(0, .ref a_dk), (1, .int (nI (q * 6 + i)))] := hl
  have hs := hst q hq
  refine lv_iload_n hx hb d_Dk_endWait_0 rfl (lv_at hl 1 rfl) ?_
  refine k_ro (va_runS (As := [.int (nI (q * 6 + i))]) (rest := []) ⟨hx, hb, hml, hown, hts⟩ (c_Cs_routineAt l G cI cZ cJ (q * 6 + i) (by omega)) (va_cwS 1 hts (gS t_186 t_187 t_34 t_188) rfl rfl rfl (by decide +kernel) ⟨Nat.le_of_ble_eq_true rfl, Nat.le_of_ble_eq_true rfl⟩) (kR_S hK hP [] rfl) rfl rfl hl.1 rfl (lv_room (Nat.le_of_ble_eq_true rfl)) d_Dk_endWait_1 ⟨Nat.le_of_ble_eq_true rfl, Nat.le_of_ble_eq_true rfl⟩) ?_
  refine k_top (y := (nI q)) (congrArg nI (by omega)) ?_
  refine lv_istore_n (lv' := [(2, .int (nI q)), (0, .ref a_dk), (1, .int (nI (q * 6 + i)))]) hx hb d_Dk_endWait_4 rfl hl (by decide) rfl (fun ls hl => ?_)
  refine lv_aload_n hx hb d_Dk_endWait_5 rfl (lv_at hl 1 rfl) ?_
  refine va_get (D := G) (ci := 3) (v := .ref a_ss) (C := R_Dk) (T := T_Dk) (N := 9) hx hb hts uw_Dk hown hK hP 0 rfl rfl 3 (by decide) (hts _ t_108) (fun _ h9 => h9) rfl d_Dk_endWait_6 ?_
  refine lv_iload_n hx hb d_Dk_endWait_9 rfl (lv_at hl 0 rfl) ?_
  refine k_iald hx hb hK hP 1 0 rfl rfl (by omega) (by decide) d_Dk_endWait_10 ?_
  refine lv_iconst (v := (nI 3)) hx hb d_Dk_endWait_11 (by decide +kernel) ?_
  refine n_icmp_ne (tgt := 25) hx hb d_Dk_endWait_12 (by decide) (by omega) (by decide) (fun c_a => ?_) (fun c_a => ?_)
  · refine lv_aload_n hx hb d_Dk_endWait_25 rfl (lv_at hl 1 rfl) ?_
    refine va_get (D := G) (ci := 3) (v := .ref a_ln) (C := R_Dk) (T := T_Dk) (N := 9) hx hb hts uw_Dk hown hK hP 0 rfl rfl 2 (by decide) (hts _ t_107) (fun _ h9 => h9) rfl d_Dk_endWait_26 ?_
    refine lv_iload_n hx hb d_Dk_endWait_29 rfl (lv_at hl 0 rfl) ?_
    refine k_rwv (va_runV (As := [.int (nI q)]) (rest := []) ⟨hx, hb, hml, hown, hts⟩ (c_Ln_leave l G cI cZ cJ s.heap.size a_ln a_mm len mem line q hq hL) (cwV 1 hts (gV t_192 t_193 t_194 t_35 t_195) rfl rfl rfl (by decide +kernel) ⟨Nat.le_of_ble_eq_true rfl, Nat.le_of_ble_eq_true rfl⟩) (kW_V (ci := 2) (q0 := 5) hK hP hD rfl rfl [5, 6] rfl (by decide) rfl) rfl rfl hl.1 rfl (lv_room (Nat.le_of_ble_eq_true rfl)) d_Dk_endWait_30 ⟨Nat.le_of_ble_eq_true rfl, Nat.le_of_ble_eq_true rfl⟩) hP hD hS hA [5, 6] rfl (fun _ => rfl) (fun u H locs hw hP hD hS => ?_)
    obtain ⟨len_2, mem_2⟩ := u
    have hL := hw
    have hL : RelL len_2 mem_2 (outL line q) := hL
    have hP : va_P G vwCl [(a_dk, .inr (3, [.ref a_ch, .ref a_cs, .ref a_ln, .ref a_ss, .ref a_rr, .ref a_wn, .ref a_cd, .int mt, .int ft])), (a_ss, .inl (cI, 16, .inl (fun j => nI (st j)))), (a_cd, .inl (cI, 16, .inl cd)), (a_cs, .inr (0, [.ref a_cn, .ref a_cc, .ref a_cw, .ref a_cv])), (a_cn, .inl (cI, 16, .inl (fun j => nI (cnum j)))), (a_ln, .inr (2, [.ref a_mm, .int (nI len_2)])), (a_mm, .inl (cI, 16, .inl (fun j => nI (mem_2 j))))] H := hP
    have hD : va_D A [(a_dk, .inr (3, [.ref a_ch, .ref a_cs, .ref a_ln, .ref a_ss, .ref a_rr, .ref a_wn, .ref a_cd, .int mt, .int ft])), (a_ss, .inl (cI, 16, .inl (fun j => nI (st j)))), (a_cd, .inl (cI, 16, .inl cd)), (a_cs, .inr (0, [.ref a_cn, .ref a_cc, .ref a_cw, .ref a_cv])), (a_cn, .inl (cI, 16, .inl (fun j => nI (cnum j)))), (a_ln, .inr (2, [.ref a_mm, .int (nI len_2)])), (a_mm, .inl (cI, 16, .inl (fun j => nI (mem_2 j))))] := hD
    refine lv_aload_n hx hb d_Dk_endWait_33 rfl (lv_at hl 1 rfl) ?_
    refine lv_iload_n hx hb d_Dk_endWait_34 rfl (lv_at hl 0 rfl) ?_
    refine k_rwv (va_runV (As := [.int (nI q)]) (rest := []) ⟨hx, hb, hml, hown, hts⟩ (c_Dk_makeReady l G cI cZ cJ H.size a_dk a_ch a_cs a_ln a_ss a_rr a_wn a_cd a_cn a_cc a_cw a_cv mt ft st cnum cch cway cval cs q hq hC) (cwV 1 hts (gV t_145 t_146 t_2 t_32 t_147) rfl rfl rfl (by decide +kernel) ⟨Nat.le_of_ble_eq_true rfl, Nat.le_of_ble_eq_true rfl⟩) (kW_V (ci := 3) (q0 := 0) hK hP hD rfl rfl [0, 1, 3, 4] rfl (by decide) rfl) rfl rfl hl.1 rfl (lv_room (Nat.le_of_ble_eq_true rfl)) d_Dk_endWait_35 ⟨Nat.le_of_ble_eq_true rfl, Nat.le_of_ble_eq_true rfl⟩) hP hD hS hA [0, 1, 3, 4] rfl (fun _ => rfl) (fun u H locs hw hP hD hS => ?_)
    have hC := hw
    have hC : RelC (va_up cnum q 0) cch cway cval (va_up cs q []) := hC
    have hP : va_P G vwCl [(a_dk, .inr (3, [.ref a_ch, .ref a_cs, .ref a_ln, .ref a_ss, .ref a_rr, .ref a_wn, .ref a_cd, .int mt, .int ft])), (a_ss, .inl (cI, 16, .inl (fun j => nI ((va_up st q 0) j)))), (a_cd, .inl (cI, 16, .inl cd)), (a_cs, .inr (0, [.ref a_cn, .ref a_cc, .ref a_cw, .ref a_cv])), (a_cn, .inl (cI, 16, .inl (fun j => nI ((va_up cnum q 0) j)))), (a_ln, .inr (2, [.ref a_mm, .int (nI len_2)])), (a_mm, .inl (cI, 16, .inl (fun j => nI (mem_2 j))))] H := hP
    have hD : va_D A [(a_dk, .inr (3, [.ref a_ch, .ref a_cs, .ref a_ln, .ref a_ss, .ref a_rr, .ref a_wn, .ref a_cd, .int mt, .int ft])), (a_ss, .inl (cI, 16, .inl (fun j => nI ((va_up st q 0) j)))), (a_cd, .inl (cI, 16, .inl cd)), (a_cs, .inr (0, [.ref a_cn, .ref a_cc, .ref a_cw, .ref a_cv])), (a_cn, .inl (cI, 16, .inl (fun j => nI ((va_up cnum q 0) j)))), (a_ln, .inr (2, [.ref a_mm, .int (nI len_2)])), (a_mm, .inl (cI, 16, .inl (fun j => nI (mem_2 j))))] := hD
    exact k_wv hx hb hr hlocks hP hS (len_2, mem_2) (by simp only [cdE, if_neg c_a]) (⟨hC, hL⟩) d_Dk_endWait_38
  · refine lv_aload_n hx hb d_Dk_endWait_15 rfl (lv_at hl 1 rfl) ?_
    refine va_get (D := G) (ci := 3) (v := .ref a_cd) (C := R_Dk) (T := T_Dk) (N := 9) hx hb hts uw_Dk hown hK hP 0 rfl rfl 6 (by decide) (hts _ t_111) (fun _ h9 => h9) rfl d_Dk_endWait_16 ?_
    refine lv_iload_n hx hb d_Dk_endWait_19 rfl (lv_at hl 0 rfl) ?_
    refine lv_iload_n hx hb d_Dk_endWait_20 rfl (lv_at hl 2 rfl) ?_
    refine k_ro (va_runS (As := [.int (nI (q * 6 + i))]) (rest := [.int (nI q), .ref a_cd]) ⟨hx, hb, hml, hown, hts⟩ (c_Cs_numberAt l G cI cZ cJ (q * 6 + i) (by omega)) (va_cwS 1 hts (gS t_189 t_190 t_34 t_191) rfl rfl rfl (by decide +kernel) ⟨Nat.le_of_ble_eq_true rfl, Nat.le_of_ble_eq_true rfl⟩) (kR_S hK hP [] rfl) rfl rfl hl.1 rfl (lv_room (Nat.le_of_ble_eq_true rfl)) d_Dk_endWait_21 ⟨Nat.le_of_ble_eq_true rfl, Nat.le_of_ble_eq_true rfl⟩) ?_
    refine k_top (y := (nI i)) (congrArg nI (by omega)) ?_
    refine k_iast hx hb hK hP hD hS 2 0 rfl rfl (by omega) (by decide) d_Dk_endWait_24 (fun H locs hP hD hS => ?_)
    have hP : va_P G vwCl [(a_dk, .inr (3, [.ref a_ch, .ref a_cs, .ref a_ln, .ref a_ss, .ref a_rr, .ref a_wn, .ref a_cd, .int mt, .int ft])), (a_ss, .inl (cI, 16, .inl (fun j => nI (st j)))), (a_cd, .inl (cI, 16, .inl (va_up cd q (nI i)))), (a_cs, .inr (0, [.ref a_cn, .ref a_cc, .ref a_cw, .ref a_cv])), (a_cn, .inl (cI, 16, .inl (fun j => nI (cnum j)))), (a_ln, .inr (2, [.ref a_mm, .int (nI len)])), (a_mm, .inl (cI, 16, .inl (fun j => nI (mem j))))] H := hP
    have hD : va_D A [(a_dk, .inr (3, [.ref a_ch, .ref a_cs, .ref a_ln, .ref a_ss, .ref a_rr, .ref a_wn, .ref a_cd, .int mt, .int ft])), (a_ss, .inl (cI, 16, .inl (fun j => nI (st j)))), (a_cd, .inl (cI, 16, .inl (va_up cd q (nI i)))), (a_cs, .inr (0, [.ref a_cn, .ref a_cc, .ref a_cw, .ref a_cv])), (a_cn, .inl (cI, 16, .inl (fun j => nI (cnum j)))), (a_ln, .inr (2, [.ref a_mm, .int (nI len)])), (a_mm, .inl (cI, 16, .inl (fun j => nI (mem j))))] := hD
    refine lv_aload_n hx hb d_Dk_endWait_25 rfl (lv_at hl 1 rfl) ?_
    refine va_get (D := G) (ci := 3) (v := .ref a_ln) (C := R_Dk) (T := T_Dk) (N := 9) hx hb hts uw_Dk hown hK hP 0 rfl rfl 2 (by decide) (hts _ t_107) (fun _ h9 => h9) rfl d_Dk_endWait_26 ?_
    refine lv_iload_n hx hb d_Dk_endWait_29 rfl (lv_at hl 0 rfl) ?_
    refine k_rwv (va_runV (As := [.int (nI q)]) (rest := []) ⟨hx, hb, hml, hown, hts⟩ (c_Ln_leave l G cI cZ cJ H.size a_ln a_mm len mem line q hq hL) (cwV 1 hts (gV t_192 t_193 t_194 t_35 t_195) rfl rfl rfl (by decide +kernel) ⟨Nat.le_of_ble_eq_true rfl, Nat.le_of_ble_eq_true rfl⟩) (kW_V (ci := 2) (q0 := 5) hK hP hD rfl rfl [5, 6] rfl (by decide) rfl) rfl rfl hl.1 rfl (lv_room (Nat.le_of_ble_eq_true rfl)) d_Dk_endWait_30 ⟨Nat.le_of_ble_eq_true rfl, Nat.le_of_ble_eq_true rfl⟩) hP hD hS hA [5, 6] rfl (fun _ => rfl) (fun u H locs hw hP hD hS => ?_)
    obtain ⟨len_4, mem_4⟩ := u
    have hL := hw
    have hL : RelL len_4 mem_4 (outL line q) := hL
    have hP : va_P G vwCl [(a_dk, .inr (3, [.ref a_ch, .ref a_cs, .ref a_ln, .ref a_ss, .ref a_rr, .ref a_wn, .ref a_cd, .int mt, .int ft])), (a_ss, .inl (cI, 16, .inl (fun j => nI (st j)))), (a_cd, .inl (cI, 16, .inl (va_up cd q (nI i)))), (a_cs, .inr (0, [.ref a_cn, .ref a_cc, .ref a_cw, .ref a_cv])), (a_cn, .inl (cI, 16, .inl (fun j => nI (cnum j)))), (a_ln, .inr (2, [.ref a_mm, .int (nI len_4)])), (a_mm, .inl (cI, 16, .inl (fun j => nI (mem_4 j))))] H := hP
    have hD : va_D A [(a_dk, .inr (3, [.ref a_ch, .ref a_cs, .ref a_ln, .ref a_ss, .ref a_rr, .ref a_wn, .ref a_cd, .int mt, .int ft])), (a_ss, .inl (cI, 16, .inl (fun j => nI (st j)))), (a_cd, .inl (cI, 16, .inl (va_up cd q (nI i)))), (a_cs, .inr (0, [.ref a_cn, .ref a_cc, .ref a_cw, .ref a_cv])), (a_cn, .inl (cI, 16, .inl (fun j => nI (cnum j)))), (a_ln, .inr (2, [.ref a_mm, .int (nI len_4)])), (a_mm, .inl (cI, 16, .inl (fun j => nI (mem_4 j))))] := hD
    refine lv_aload_n hx hb d_Dk_endWait_33 rfl (lv_at hl 1 rfl) ?_
    refine lv_iload_n hx hb d_Dk_endWait_34 rfl (lv_at hl 0 rfl) ?_
    refine k_rwv (va_runV (As := [.int (nI q)]) (rest := []) ⟨hx, hb, hml, hown, hts⟩ (c_Dk_makeReady l G cI cZ cJ H.size a_dk a_ch a_cs a_ln a_ss a_rr a_wn a_cd a_cn a_cc a_cw a_cv mt ft st cnum cch cway cval cs q hq hC) (cwV 1 hts (gV t_145 t_146 t_2 t_32 t_147) rfl rfl rfl (by decide +kernel) ⟨Nat.le_of_ble_eq_true rfl, Nat.le_of_ble_eq_true rfl⟩) (kW_V (ci := 3) (q0 := 0) hK hP hD rfl rfl [0, 1, 3, 4] rfl (by decide) rfl) rfl rfl hl.1 rfl (lv_room (Nat.le_of_ble_eq_true rfl)) d_Dk_endWait_35 ⟨Nat.le_of_ble_eq_true rfl, Nat.le_of_ble_eq_true rfl⟩) hP hD hS hA [0, 1, 3, 4] rfl (fun _ => rfl) (fun u H locs hw hP hD hS => ?_)
    have hC := hw
    have hC : RelC (va_up cnum q 0) cch cway cval (va_up cs q []) := hC
    have hP : va_P G vwCl [(a_dk, .inr (3, [.ref a_ch, .ref a_cs, .ref a_ln, .ref a_ss, .ref a_rr, .ref a_wn, .ref a_cd, .int mt, .int ft])), (a_ss, .inl (cI, 16, .inl (fun j => nI ((va_up st q 0) j)))), (a_cd, .inl (cI, 16, .inl (va_up cd q (nI i)))), (a_cs, .inr (0, [.ref a_cn, .ref a_cc, .ref a_cw, .ref a_cv])), (a_cn, .inl (cI, 16, .inl (fun j => nI ((va_up cnum q 0) j)))), (a_ln, .inr (2, [.ref a_mm, .int (nI len_4)])), (a_mm, .inl (cI, 16, .inl (fun j => nI (mem_4 j))))] H := hP
    have hD : va_D A [(a_dk, .inr (3, [.ref a_ch, .ref a_cs, .ref a_ln, .ref a_ss, .ref a_rr, .ref a_wn, .ref a_cd, .int mt, .int ft])), (a_ss, .inl (cI, 16, .inl (fun j => nI ((va_up st q 0) j)))), (a_cd, .inl (cI, 16, .inl (va_up cd q (nI i)))), (a_cs, .inr (0, [.ref a_cn, .ref a_cc, .ref a_cw, .ref a_cv])), (a_cn, .inl (cI, 16, .inl (fun j => nI ((va_up cnum q 0) j)))), (a_ln, .inr (2, [.ref a_mm, .int (nI len_4)])), (a_mm, .inl (cI, 16, .inl (fun j => nI (mem_4 j))))] := hD
    exact k_wv hx hb hr hlocks hP hS (len_4, mem_4) (by simp only [cdE, if_pos c_a]) (⟨hC, hL⟩) d_Dk_endWait_38
set_option maxHeartbeats 4000000 in
set_option maxRecDepth 100000 in
theorem c_Dk_takeFromSender (l : Launch) (G : va_G) (cI cZ cJ : ClassId) (sz : Nat) (a_dk : Nat) (a_ch : Nat) (a_cs : Nat) (a_ln : Nat) (a_ss : Nat) (a_rr : Nat) (a_wn : Nat) (a_cd : Nat) (a_cn : Nat) (a_cc : Nat) (a_cw : Nat) (a_cv : Nat) (a_mm : Nat) (mt : Int32) (ft : Int32) (st : Nat → Nat) (cd : Nat → Int32) (cnum : Nat → Nat) (cval : Nat → Int32) (len : Nat) (mem : Nat → Nat) (cch : Nat → Nat) (cway : Nat → Nat) (cs : Nat → List Kase) (line : List Nat) (q : Nat) (i : Nat) (hq : q < 16) (hi : i < (cs q).length) (hst : ∀ j, j < 16 → st j < 5) (hC : RelC cnum cch cway cval cs) (hL : RelL len mem line) : Met l y_Dk_takeFromSender (w_Dk_takeFromSender) ({ frames := 3, cells := 0, slots := 0, locals := 64 }) (va_Pc [.ref a_dk, .int (nI (q * 6 + i))] (kW G vwCl [(cI, .int), (cZ, .boolean), (cJ, .long)] [(a_dk, .inr (3, [.ref a_ch, .ref a_cs, .ref a_ln, .ref a_ss, .ref a_rr, .ref a_wn, .ref a_cd, .int mt, .int ft])), (a_ss, .inl (cI, 16, .inl (fun j => nI (st j)))), (a_cd, .inl (cI, 16, .inl cd)), (a_cs, .inr (0, [.ref a_cn, .ref a_cc, .ref a_cw, .ref a_cv])), (a_cn, .inl (cI, 16, .inl (fun j => nI (cnum j)))), (a_cv, .inl (cI, 96, .inl cval)), (a_ln, .inr (2, [.ref a_mm, .int (nI len)])), (a_mm, .inl (cI, 16, .inl (fun j => nI (mem j))))] sz)) (va_Qi (fun (r : Int32) (u : Nat × (Nat → Nat)) => r = ((kAt cs q i).2.2) ∧ RelC (va_up cnum q 0) cch cway cval (va_up cs q []) ∧ RelL u.1 u.2 (outL line q)) (fun u t => va_P G vwCl [(a_dk, .inr (3, [.ref a_ch, .ref a_cs, .ref a_ln, .ref a_ss, .ref a_rr, .ref a_wn, .ref a_cd, .int (mt + nI 1), .int ft])), (a_ss, .inl (cI, 16, .inl (fun j => nI ((va_up st q 0) j)))), (a_cd, .inl (cI, 16, .inl (cdE st cd q i))), (a_cs, .inr (0, [.ref a_cn, .ref a_cc, .ref a_cw, .ref a_cv])), (a_cn, .inl (cI, 16, .inl (fun j => nI ((va_up cnum q 0) j)))), (a_cv, .inl (cI, 96, .inl cval)), (a_ln, .inr (2, [.ref a_mm, .int (nI u.1)])), (a_mm, .inl (cI, 16, .inl (fun j => nI (u.2 j))))] t.heap) (va_A [(a_dk, .inr (3, [.ref a_ch, .ref a_cs, .ref a_ln, .ref a_ss, .ref a_rr, .ref a_wn, .ref a_cd, .int mt, .int ft])), (a_ss, .inl (cI, 16, .inl (fun j => nI (st j)))), (a_cd, .inl (cI, 16, .inl cd)), (a_cs, .inr (0, [.ref a_cn, .ref a_cc, .ref a_cw, .ref a_cv])), (a_cn, .inl (cI, 16, .inl (fun j => nI (cnum j)))), (a_cv, .inl (cI, 96, .inl cval)), (a_ln, .inr (2, [.ref a_mm, .int (nI len)])), (a_mm, .inl (cI, 16, .inl (fun j => nI (mem j))))] sz)) 0 0 (va_A [(a_dk, .inr (3, [.ref a_ch, .ref a_cs, .ref a_ln, .ref a_ss, .ref a_rr, .ref a_wn, .ref a_cd, .int mt, .int ft])), (a_ss, .inl (cI, 16, .inl (fun j => nI (st j)))), (a_cd, .inl (cI, 16, .inl cd)), (a_cs, .inr (0, [.ref a_cn, .ref a_cc, .ref a_cw, .ref a_cv])), (a_cn, .inl (cI, 16, .inl (fun j => nI (cnum j)))), (a_cv, .inl (cI, 96, .inl cval)), (a_ln, .inr (2, [.ref a_mm, .int (nI len)])), (a_mm, .inl (cI, 16, .inl (fun j => nI (mem j))))] sz) := by
  refine Met.ofW (cc := b_Dk_takeFromSender) (maxL := 3) (ret := (some .int)) (by decide) rfl ?_
  intro p e s m args below meth c s₁ B hml hv
  obtain ⟨rfl, hsz, hP, hK, hD0⟩ := hv
  have hx := B.exec
  have hb := B.bytes
  have hr := B.returns
  have hts : ∀ w ∈ TT, w.before _ s = true := fun w h => atoms_spec (ws := (w_Dk_takeFromSender)) B.pre w (List.mem_cons_of_mem _ h)
  have hown : s.vm.findClass R_Dk = some m.cls := findClass_of_methodNamed B.named
  have hlocks := B.notSynchronized
  subst hsz
  have hD := hD0.self (sz := s.heap.size)
  generalize hAe : va_A [(a_dk, .inr (3, [.ref a_ch, .ref a_cs, .ref a_ln, .ref a_ss, .ref a_rr, .ref a_wn, .ref a_cd, .int mt, .int ft])), (a_ss, .inl (cI, 16, .inl (fun j => nI (st j)))), (a_cd, .inl (cI, 16, .inl cd)), (a_cs, .inr (0, [.ref a_cn, .ref a_cc, .ref a_cw, .ref a_cv])), (a_cn, .inl (cI, 16, .inl (fun j => nI (cnum j)))), (a_cv, .inl (cI, 96, .inl cval)), (a_ln, .inr (2, [.ref a_mm, .int (nI len)])), (a_mm, .inl (cI, 16, .inl (fun j => nI (mem j))))] s.heap.size = A at hD ⊢
  have hA : ∀ q : Nat, s.heap.size ≤ q → A q := fun q h => by rw [← hAe]; exact Or.inr h
  have hS : va_S A s.heap s.heap [] := va_S.rf
  have hP : va_P G vwCl [(a_dk, .inr (3, [.ref a_ch, .ref a_cs, .ref a_ln, .ref a_ss, .ref a_rr, .ref a_wn, .ref a_cd, .int mt, .int ft])), (a_ss, .inl (cI, 16, .inl (fun j => nI (st j)))), (a_cd, .inl (cI, 16, .inl cd)), (a_cs, .inr (0, [.ref a_cn, .ref a_cc, .ref a_cw, .ref a_cv])), (a_cn, .inl (cI, 16, .inl (fun j => nI (cnum j)))), (a_cv, .inl (cI, 96, .inl cval)), (a_ln, .inr (2, [.ref a_mm, .int (nI len)])), (a_mm, .inl (cI, 16, .inl (fun j => nI (mem j))))] s.heap := hP
  have hl := lv_entry ([.ref a_dk, .int (nI (q * 6 + i))]) (n := 3) (Nat.le_of_ble_eq_true rfl)
  rw [lg_entry_eq]
  generalize (lg_sl ([.ref a_dk, .int (nI (q * 6 + i))]) ++ List.replicate (3 - (lg_sl ([.ref a_dk, .int (nI (q * 6 + i))])).length) Slot.unset).toArray = ls at hl ⊢
  have hl : lv_has ls 3 [(0, .ref a_dk), (1, .int (nI (q * 6 + i)))] := hl
  have hh2 := (hC q hq).2.1
  refine lv_aload_n hx hb d_Dk_takeFromSender_0 rfl (lv_at hl 0 rfl) ?_
  refine va_get (D := G) (ci := 3) (v := .ref a_cs) (C := R_Dk) (T := T_Dk) (N := 9) hx hb hts uw_Dk hown hK hP 0 rfl rfl 1 (by decide) (hts _ t_106) (fun _ h9 => h9) rfl d_Dk_takeFromSender_1 ?_
  refine lv_iload_n hx hb d_Dk_takeFromSender_4 rfl (lv_at hl 1 rfl) ?_
  refine k_ro (va_runV (As := [.int (nI (q * 6 + i))]) (rest := []) ⟨hx, hb, hml, hown, hts⟩ (c_Cs_valueAt l G cI cZ cJ a_cs a_cn a_cc a_cw a_cv cval cnum cch cway cs q i hq hC hi) (cwV 1 hts (gV t_239 t_240 t_241 t_34 t_242) rfl rfl rfl (by decide +kernel) ⟨Nat.le_of_ble_eq_true rfl, Nat.le_of_ble_eq_true rfl⟩) (kR_V (ci := 0) (q0 := 3) hK hP rfl rfl [3, 5] rfl) rfl rfl hl.1 rfl (lv_room (Nat.le_of_ble_eq_true rfl)) d_Dk_takeFromSender_5 ⟨Nat.le_of_ble_eq_true rfl, Nat.le_of_ble_eq_true rfl⟩) ?_
  refine lv_istore_n (lv' := [(2, .int ((kAt cs q i).2.2)), (0, .ref a_dk), (1, .int (nI (q * 6 + i)))]) hx hb d_Dk_takeFromSender_8 rfl hl (by decide) rfl (fun ls hl => ?_)
  refine lv_aload_n hx hb d_Dk_takeFromSender_9 rfl (lv_at hl 1 rfl) ?_
  refine lv_dup hx hb d_Dk_takeFromSender_10 rfl ?_
  refine va_get (D := G) (ci := 3) (v := .int mt) (C := R_Dk) (T := T_Dk) (N := 9) hx hb hts uw_Dk hown hK hP 0 rfl rfl 7 (by decide) (hts _ t_112) (fun _ h9 => h9) rfl d_Dk_takeFromSender_11 ?_
  refine lv_iconst (v := (nI 1)) hx hb d_Dk_takeFromSender_14 (by decide +kernel) ?_
  refine lv_iadd hx hb d_Dk_takeFromSender_15 ?_
  refine va_put (D := G) (ci := 3) (v := .int (mt + (nI 1))) (ty := .int) (C := R_Dk) (T := T_Dk) (N := 9) hx hb hts uw_Dk ty_Dk tyok_Dk nm_Dk hown hK hP hD hS 0 rfl rfl 7 (by decide) (hts _ t_112) (fun _ h9 => h9) rfl (by decide +kernel) rfl rfl (Nat.le_of_ble_eq_true rfl) d_Dk_takeFromSender_16 (fun H locs hP hD hS => ?_)
  have hP : va_P G vwCl [(a_dk, .inr (3, [.ref a_ch, .ref a_cs, .ref a_ln, .ref a_ss, .ref a_rr, .ref a_wn, .ref a_cd, .int (mt + (nI 1)), .int ft])), (a_ss, .inl (cI, 16, .inl (fun j => nI (st j)))), (a_cd, .inl (cI, 16, .inl cd)), (a_cs, .inr (0, [.ref a_cn, .ref a_cc, .ref a_cw, .ref a_cv])), (a_cn, .inl (cI, 16, .inl (fun j => nI (cnum j)))), (a_cv, .inl (cI, 96, .inl cval)), (a_ln, .inr (2, [.ref a_mm, .int (nI len)])), (a_mm, .inl (cI, 16, .inl (fun j => nI (mem j))))] H := hP
  have hD : va_D A [(a_dk, .inr (3, [.ref a_ch, .ref a_cs, .ref a_ln, .ref a_ss, .ref a_rr, .ref a_wn, .ref a_cd, .int (mt + (nI 1)), .int ft])), (a_ss, .inl (cI, 16, .inl (fun j => nI (st j)))), (a_cd, .inl (cI, 16, .inl cd)), (a_cs, .inr (0, [.ref a_cn, .ref a_cc, .ref a_cw, .ref a_cv])), (a_cn, .inl (cI, 16, .inl (fun j => nI (cnum j)))), (a_cv, .inl (cI, 96, .inl cval)), (a_ln, .inr (2, [.ref a_mm, .int (nI len)])), (a_mm, .inl (cI, 16, .inl (fun j => nI (mem j))))] := hD
  refine lv_aload_n hx hb d_Dk_takeFromSender_19 rfl (lv_at hl 1 rfl) ?_
  refine lv_iload_n hx hb d_Dk_takeFromSender_20 rfl (lv_at hl 2 rfl) ?_
  refine k_rwv (va_runV (As := [.int (nI (q * 6 + i))]) (rest := []) ⟨hx, hb, hml, hown, hts⟩ (c_Dk_endWait l G cI cZ cJ H.size a_dk a_ch a_cs a_ln a_ss a_rr a_wn a_cd a_cn a_cc a_cw a_cv a_mm (mt + (nI 1)) ft st cd cnum len mem cch cway cval cs line q i hq (by omega) hst hC hL) (cwV 1 hts (gV t_183 t_184 t_7 t_32 t_185) rfl rfl rfl (by decide +kernel) ⟨Nat.le_of_ble_eq_true rfl, Nat.le_of_ble_eq_true rfl⟩) (kW_V (ci := 3) (q0 := 0) hK hP hD rfl rfl [0, 1, 2, 3, 4, 6, 7] rfl (by decide) rfl) rfl rfl hl.1 rfl (lv_room (Nat.le_of_ble_eq_true rfl)) d_Dk_takeFromSender_21 ⟨Nat.le_of_ble_eq_true rfl, Nat.le_of_ble_eq_true rfl⟩) hP hD hS hA [0, 1, 2, 3, 4, 6, 7] rfl (fun _ => rfl) (fun u H locs hw hP hD hS => ?_)
  obtain ⟨len_1, mem_1⟩ := u
  obtain ⟨hC, hL⟩ := hw
  have hC : RelC (va_up cnum q 0) cch cway cval (va_up cs q []) := hC
  have hL : RelL len_1 mem_1 (outL line q) := hL
  have hP : va_P G vwCl [(a_dk, .inr (3, [.ref a_ch, .ref a_cs, .ref a_ln, .ref a_ss, .ref a_rr, .ref a_wn, .ref a_cd, .int (mt + (nI 1)), .int ft])), (a_ss, .inl (cI, 16, .inl (fun j => nI ((va_up st q 0) j)))), (a_cd, .inl (cI, 16, .inl (cdE st cd q i))), (a_cs, .inr (0, [.ref a_cn, .ref a_cc, .ref a_cw, .ref a_cv])), (a_cn, .inl (cI, 16, .inl (fun j => nI ((va_up cnum q 0) j)))), (a_cv, .inl (cI, 96, .inl cval)), (a_ln, .inr (2, [.ref a_mm, .int (nI len_1)])), (a_mm, .inl (cI, 16, .inl (fun j => nI (mem_1 j))))] H := hP
  have hD : va_D A [(a_dk, .inr (3, [.ref a_ch, .ref a_cs, .ref a_ln, .ref a_ss, .ref a_rr, .ref a_wn, .ref a_cd, .int (mt + (nI 1)), .int ft])), (a_ss, .inl (cI, 16, .inl (fun j => nI ((va_up st q 0) j)))), (a_cd, .inl (cI, 16, .inl (cdE st cd q i))), (a_cs, .inr (0, [.ref a_cn, .ref a_cc, .ref a_cw, .ref a_cv])), (a_cn, .inl (cI, 16, .inl (fun j => nI ((va_up cnum q 0) j)))), (a_cv, .inl (cI, 96, .inl cval)), (a_ln, .inr (2, [.ref a_mm, .int (nI len_1)])), (a_mm, .inl (cI, 16, .inl (fun j => nI (mem_1 j))))] := hD
  refine lv_iload_n hx hb d_Dk_takeFromSender_24 rfl (lv_at hl 0 rfl) ?_
  exact k_wi hx hb hr hlocks hP hS (len_1, mem_1) (rfl) (⟨rfl, hC, hL⟩) d_Dk_takeFromSender_25
set_option maxHeartbeats 4000000 in
set_option maxRecDepth 100000 in
theorem c_Dk_findWaiting (l : Launch) (G : va_G) (cI cZ cJ : ClassId) (a_dk : Nat) (a_ch : Nat) (a_cs : Nat) (a_ln : Nat) (a_ss : Nat) (a_rr : Nat) (a_wn : Nat) (a_cd : Nat) (a_mm : Nat) (a_cn : Nat) (a_cc : Nat) (a_cw : Nat) (a_cv : Nat) (mt : Int32) (ft : Int32) (len : Nat) (mem : Nat → Nat) (cnum : Nat → Nat) (cch : Nat → Nat) (cway : Nat → Nat) (cval : Nat → Int32) (cs : Nat → List Kase) (line : List Nat) (x : Nat) (w : Nat) (y : Int32) (hx1 : x < 40) (hw1 : w < 3) (hC : RelC cnum cch cway cval cs) (hL : RelL len mem line) : Met l y_Dk_findWaiting (w_Dk_findWaiting) ({ frames := 2, cells := 0, slots := 0, locals := 46 }) (va_Pc [.ref a_dk, .int (nI x), .int (nI w), .int y] (kR G vwCl [(cI, .int), (cZ, .boolean), (cJ, .long)] [(a_dk, .inr (3, [.ref a_ch, .ref a_cs, .ref a_ln, .ref a_ss, .ref a_rr, .ref a_wn, .ref a_cd, .int mt, .int ft])), (a_ln, .inr (2, [.ref a_mm, .int (nI len)])), (a_mm, .inl (cI, 16, .inl (fun j => nI (mem j)))), (a_cs, .inr (0, [.ref a_cn, .ref a_cc, .ref a_cw, .ref a_cv])), (a_cn, .inl (cI, 16, .inl (fun j => nI (cnum j)))), (a_cc, .inl (cI, 96, .inl (fun j => nI (cch j)))), (a_cw, .inl (cI, 96, .inl (fun j => nI (cway j))))])) (QcRead ((slI (wlAt (wl cs line x w) y)))) 0 0 (fun _ => False) := by
  refine Met.ofW (cc := b_Dk_findWaiting) (maxL := 7) (ret := (some .int)) (by decide) rfl ?_
  intro p e s m args below meth c s₁ B hml hv
  obtain ⟨rfl, hP, hK⟩ := hv
  have hx := B.exec
  have hb := B.bytes
  have hr := B.returns
  have hts : ∀ w ∈ TT, w.before _ s = true := fun w h => atoms_spec (ws := (w_Dk_findWaiting)) B.pre w (List.mem_cons_of_mem _ h)
  have hown : s.vm.findClass R_Dk = some m.cls := findClass_of_methodNamed B.named
  have hlocks := B.notSynchronized
  have hP : va_P G vwCl [(a_dk, .inr (3, [.ref a_ch, .ref a_cs, .ref a_ln, .ref a_ss, .ref a_rr, .ref a_wn, .ref a_cd, .int mt, .int ft])), (a_ln, .inr (2, [.ref a_mm, .int (nI len)])), (a_mm, .inl (cI, 16, .inl (fun j => nI (mem j)))), (a_cs, .inr (0, [.ref a_cn, .ref a_cc, .ref a_cw, .ref a_cv])), (a_cn, .inl (cI, 16, .inl (fun j => nI (cnum j)))), (a_cc, .inl (cI, 96, .inl (fun j => nI (cch j)))), (a_cw, .inl (cI, 96, .inl (fun j => nI (cway j))))] s.heap := hP
  have hl := lv_entry ([.ref a_dk, .int (nI x), .int (nI w), .int y]) (n := 7) (Nat.le_of_ble_eq_true rfl)
  rw [lg_entry_eq]
  generalize (lg_sl ([.ref a_dk, .int (nI x), .int (nI w), .int y]) ++ List.replicate (7 - (lg_sl ([.ref a_dk, .int (nI x), .int (nI w), .int y])).length) Slot.unset).toArray = ls at hl ⊢
  have hl : lv_has ls 7 [(0, .ref a_dk), (1, .int (nI x)), (2, .int (nI w)), (3, .int y)] := hl
  obtain ⟨hh, hh2, hh3⟩ := id hL
  refine lv_iconst (v := (nI 0)) hx hb d_Dk_findWaiting_0 (by decide +kernel) ?_
  refine lv_istore (lv' := [(4, .int (nI 0)), (0, .ref a_dk), (1, .int (nI x)), (2, .int (nI w)), (3, .int y)]) hx hb d_Dk_findWaiting_1 hl (by decide) rfl (fun ls hl => ?_)
  refine lv_iconst (v := (nI 0)) hx hb d_Dk_findWaiting_3 (by decide +kernel) ?_
  refine lv_istore (lv' := [(5, .int (nI 0)), (4, .int (nI 0)), (0, .ref a_dk), (1, .int (nI x)), (2, .int (nI w)), (3, .int y)]) hx hb d_Dk_findWaiting_4 hl (by decide) rfl (fun ls hl => ?_)
  have loop_6 : ∀ (k : Nat) (bf : Nat) (i : Nat) (ls : Array Slot), i ≤ line.length → bf = (wl cs (line.take i) x w).length → (∀ j, j < bf → ¬ nI j = y) → line.length - i < k → lv_has ls 7 [(0, .ref a_dk), (1, .int (nI x)), (2, .int (nI w)), (3, .int y), (4, .int (nI bf)), (5, .int (nI i))] → W p l e (headSpec (w_Dk_findWaiting) ({ frames := 2, cells := 0, slots := 0, locals := 46 })).room s m (List.toArray [.ref a_dk, .int (nI x), .int (nI w), .int y]) below meth c s.heap [] 0 0 (MQ below (QcRead ((slI (wlAt (wl cs line x w) y)))) (List.toArray [.ref a_dk, .int (nI x), .int (nI w), .int y]) s 0 0 (fun _ => False)) (F0 m 6 ls []) := by
    intro k
    induction k with
    | zero => intro bf i ls hi hb9 hno hk; exact absurd hk (Nat.not_lt_zero _)
    | succ k ih_6 =>
      intro bf i ls hi hb9 hno hk hl
      have hbl : bf ≤ 16 := by rw [hb9]; exact Nat.le_trans wl_len (by rw [List.length_take]; omega)
      refine lv_iload hx hb d_Dk_findWaiting_6 (lv_at hl 5 rfl) ?_
      refine lv_aload_n hx hb d_Dk_findWaiting_8 rfl (lv_at hl 0 rfl) ?_
      refine va_get (D := G) (ci := 3) (v := .ref a_ln) (C := R_Dk) (T := T_Dk) (N := 9) hx hb hts uw_Dk hown hK hP 0 rfl rfl 2 (by decide) (hts _ t_107) (fun _ h9 => h9) rfl d_Dk_findWaiting_9 ?_
      refine k_ro (va_runV (As := []) (rest := [.int (nI i)]) ⟨hx, hb, hml, hown, hts⟩ (c_Ln_length l G cI cZ cJ a_ln a_mm len mem line hL) (cwV 0 hts (gV t_168 t_169 t_170 t_35 t_171) rfl rfl rfl (by decide +kernel) ⟨Nat.le_of_ble_eq_true rfl, Nat.le_of_ble_eq_true rfl⟩) (kR_V (ci := 2) (q0 := 1) hK hP rfl rfl [1] rfl) rfl rfl hl.1 rfl (lv_room (Nat.le_of_ble_eq_true rfl)) d_Dk_findWaiting_12 ⟨Nat.le_of_ble_eq_true rfl, Nat.le_of_ble_eq_true rfl⟩) ?_
      refine n_icmp_ge (tgt := 62) hx hb d_Dk_findWaiting_15 (by decide) (by omega) (by omega) (fun c_a => ?_) (fun c_a => ?_)
      · refine lv_iconst (v := (-1)) hx hb d_Dk_findWaiting_62 (by decide +kernel) ?_
        exact k_ri hx hb hr hlocks (by have e9 : line.take i = line := List.take_of_length_le c_a; rw [e9] at hb9; rw [wlAt_none (by rw [← hb9]; omega) (fun j hj => hno j (by rw [hb9]; exact hj))]; rfl) d_Dk_findWaiting_63
      · have hi2 : i < line.length := by omega
        obtain ⟨q, eq9⟩ : ∃ q, q = line[i] := ⟨_, rfl⟩
        have hq : q < 16 := by rw [eq9]; exact (hh3 i hi2).2
        have hc6 := (hC q hq).2.1
        refine lv_aload_n hx hb d_Dk_findWaiting_18 rfl (lv_at hl 0 rfl) ?_
        refine va_get (D := G) (ci := 3) (v := .ref a_cs) (C := R_Dk) (T := T_Dk) (N := 9) hx hb hts uw_Dk hown hK hP 0 rfl rfl 1 (by decide) (hts _ t_106) (fun _ h9 => h9) rfl d_Dk_findWaiting_19 ?_
        refine lv_aload_n hx hb d_Dk_findWaiting_22 rfl (lv_at hl 0 rfl) ?_
        refine va_get (D := G) (ci := 3) (v := .ref a_ln) (C := R_Dk) (T := T_Dk) (N := 9) hx hb hts uw_Dk hown hK hP 0 rfl rfl 2 (by decide) (hts _ t_107) (fun _ h9 => h9) rfl d_Dk_findWaiting_23 ?_
        refine lv_iload hx hb d_Dk_findWaiting_26 (lv_at hl 5 rfl) ?_
        refine k_ro (va_runV (As := [.int (nI i)]) (rest := [.ref a_cs]) ⟨hx, hb, hml, hown, hts⟩ (c_Ln_memberAt l G cI cZ cJ a_ln a_mm len mem line i hL (by omega)) (cwV 1 hts (gV t_172 t_173 t_174 t_35 t_175) rfl rfl rfl (by decide +kernel) ⟨Nat.le_of_ble_eq_true rfl, Nat.le_of_ble_eq_true rfl⟩) (kR_V (ci := 2) (q0 := 1) hK hP rfl rfl [1, 2] rfl) rfl rfl hl.1 rfl (lv_room (Nat.le_of_ble_eq_true rfl)) d_Dk_findWaiting_28 ⟨Nat.le_of_ble_eq_true rfl, Nat.le_of_ble_eq_true rfl⟩) ?_
        refine k_top (y := (nI q)) (by rw [List.getD_eq_getElem?_getD, List.getElem?_eq_getElem hi2, eq9]; rfl) ?_
        refine lv_iload_n hx hb d_Dk_findWaiting_31 rfl (lv_at hl 1 rfl) ?_
        refine lv_iload_n hx hb d_Dk_findWaiting_32 rfl (lv_at hl 2 rfl) ?_
        refine k_ro (va_runV (As := [.int (nI q), .int (nI x), .int (nI w)]) (rest := []) ⟨hx, hb, hml, hown, hts⟩ (c_Cs_firstAt l G cI cZ cJ a_cs a_cn a_cc a_cw a_cv cnum cch cway cval cs q x w (by omega) hx1 hw1 hC) (cwV 3 hts (gV t_176 t_177 t_178 t_34 t_179) rfl rfl rfl (by decide +kernel) ⟨Nat.le_of_ble_eq_true rfl, Nat.le_of_ble_eq_true rfl⟩) (kR_V (ci := 0) (q0 := 3) hK hP rfl rfl [3, 4, 5, 6] rfl) rfl rfl hl.1 rfl (lv_room (Nat.le_of_ble_eq_true rfl)) d_Dk_findWaiting_33 ⟨Nat.le_of_ble_eq_true rfl, Nat.le_of_ble_eq_true rfl⟩) ?_
        rcases hf9 : fa (cs q) x w with _ | k9
        · refine k_top (y := (-1)) (rfl) ?_
          refine lv_istore (lv' := [(6, .int (-1)), (0, .ref a_dk), (1, .int (nI x)), (2, .int (nI w)), (3, .int y), (4, .int (nI bf)), (5, .int (nI i))]) hx hb d_Dk_findWaiting_36 hl (by decide) rfl (fun ls hl => ?_)
          refine lv_iload hx hb d_Dk_findWaiting_38 (lv_at hl 0 rfl) ?_
          refine lv_iconst (v := (-1)) hx hb d_Dk_findWaiting_40 (by decide +kernel) ?_
          refine lv_icmp_eq (tgt := 56) hx hb d_Dk_findWaiting_41 (by decide) (fun c_b => ?_) (fun c_b => absurd rfl c_b)
          refine lv_iinc (v := (nI (i + 1))) (lv' := [(5, .int (nI (i + 1))), (6, .int (-1)), (0, .ref a_dk), (1, .int (nI x)), (2, .int (nI w)), (3, .int y), (4, .int (nI bf))]) hx hb d_Dk_findWaiting_56 hl (k := 6) rfl (nI_add i 1) (by decide) rfl (fun ls hl => ?_)
          refine lv_goto (tgt := 6) hx hb d_Dk_findWaiting_59 (by decide) ?_
          exact ih_6 bf (i + 1) ls (by omega) (by rw [wl_succ hi2, ← eq9, hf9, List.length_append]; exact hb9) (hno) (by omega) (lv_sub hl [2, 3, 4, 5, 6, 0] rfl)
        · have hk9 := fa_lt hf9
          refine k_top (y := (nI (q * 6 + k9))) (rfl) ?_
          refine lv_istore (lv' := [(6, .int (nI (q * 6 + k9))), (0, .ref a_dk), (1, .int (nI x)), (2, .int (nI w)), (3, .int y), (4, .int (nI bf)), (5, .int (nI i))]) hx hb d_Dk_findWaiting_36 hl (by decide) rfl (fun ls hl => ?_)
          refine lv_iload hx hb d_Dk_findWaiting_38 (lv_at hl 0 rfl) ?_
          refine lv_iconst (v := (-1)) hx hb d_Dk_findWaiting_40 (by decide +kernel) ?_
          refine lv_icmp_eq (tgt := 56) hx hb d_Dk_findWaiting_41 (by decide) (fun c_b => absurd c_b (nI_m1 (by omega))) (fun c_b => ?_)
          refine lv_iload hx hb d_Dk_findWaiting_44 (lv_at hl 5 rfl) ?_
          refine lv_iload_n hx hb d_Dk_findWaiting_46 rfl (lv_at hl 4 rfl) ?_
          refine lv_icmp_ne (tgt := 53) hx hb d_Dk_findWaiting_47 (by decide) (fun c_c => ?_) (fun c_c => ?_)
          · refine lv_iinc (v := (nI (bf + 1))) (lv' := [(4, .int (nI (bf + 1))), (6, .int (nI (q * 6 + k9))), (0, .ref a_dk), (1, .int (nI x)), (2, .int (nI w)), (3, .int y), (5, .int (nI i))]) hx hb d_Dk_findWaiting_53 hl (k := 5) rfl (nI_add bf 1) (by decide) rfl (fun ls hl => ?_)
            refine lv_iinc (v := (nI (i + 1))) (lv' := [(5, .int (nI (i + 1))), (4, .int (nI (bf + 1))), (6, .int (nI (q * 6 + k9))), (0, .ref a_dk), (1, .int (nI x)), (2, .int (nI w)), (3, .int y)]) hx hb d_Dk_findWaiting_56 hl (k := 6) rfl (nI_add i 1) (by decide) rfl (fun ls hl => ?_)
            refine lv_goto (tgt := 6) hx hb d_Dk_findWaiting_59 (by decide) ?_
            exact ih_6 (bf + 1) (i + 1) ls (by omega) (by rw [wl_succ hi2, ← eq9, hf9, List.length_append, ← hb9]; rfl) (fun j hj => if h9 : j < bf then hno j h9 else by rw [show j = bf by omega]; exact c_c) (by omega) (lv_sub hl [3, 4, 5, 6, 1, 0] rfl)
          · refine lv_iload hx hb d_Dk_findWaiting_50 (lv_at hl 0 rfl) ?_
            exact k_ri hx hb hr hlocks (by rw [← c_c, wlAt_nI (by omega), hb9, wl_found hi2 (show fa (cs line[i]) x w = some k9 by rw [← eq9]; exact hf9), eq9]; rfl) d_Dk_findWaiting_52
  exact loop_6 ((line.length - 0) + 1) 0 0 ls (Nat.zero_le _) (rfl) (fun j hj => absurd hj (Nat.not_lt_zero j)) (Nat.lt_succ_self _) (lv_sub hl [2, 3, 4, 5, 1, 0] rfl)
set_option maxHeartbeats 4000000 in
set_option maxRecDepth 100000 in
theorem c_Dk_firstWaiting (l : Launch) (G : va_G) (cI cZ cJ : ClassId) (a_dk : Nat) (a_ch : Nat) (a_cs : Nat) (a_ln : Nat) (a_ss : Nat) (a_rr : Nat) (a_wn : Nat) (a_cd : Nat) (a_mm : Nat) (a_cn : Nat) (a_cc : Nat) (a_cw : Nat) (a_cv : Nat) (mt : Int32) (ft : Int32) (len : Nat) (mem : Nat → Nat) (cnum : Nat → Nat) (cch : Nat → Nat) (cway : Nat → Nat) (cval : Nat → Int32) (cs : Nat → List Kase) (line : List Nat) (x : Nat) (w : Nat) (hx1 : x < 40) (hw1 : w < 3) (hC : RelC cnum cch cway cval cs) (hL : RelL len mem line) : Met l y_Dk_firstWaiting (w_Dk_firstWaiting) ({ frames := 3, cells := 0, slots := 0, locals := 72 }) (va_Pc [.ref a_dk, .int (nI x), .int (nI w)] (kR G vwCl [(cI, .int), (cZ, .boolean), (cJ, .long)] [(a_dk, .inr (3, [.ref a_ch, .ref a_cs, .ref a_ln, .ref a_ss, .ref a_rr, .ref a_wn, .ref a_cd, .int mt, .int ft])), (a_ln, .inr (2, [.ref a_mm, .int (nI len)])), (a_mm, .inl (cI, 16, .inl (fun j => nI (mem j)))), (a_cs, .inr (0, [.ref a_cn, .ref a_cc, .ref a_cw, .ref a_cv])), (a_cn, .inl (cI, 16, .inl (fun j => nI (cnum j)))), (a_cc, .inl (cI, 96, .inl (fun j => nI (cch j)))), (a_cw, .inl (cI, 96, .inl (fun j => nI (cway j))))])) (QcRead ((slI ((wl cs line x w)[0]?)))) 0 0 (fun _ => False) := by
  refine Met.ofW (cc := b_Dk_firstWaiting) (maxL := 3) (ret := (some .int)) (by decide) rfl ?_
  intro p e s m args below meth c s₁ B hml hv
  obtain ⟨rfl, hP, hK⟩ := hv
  have hx := B.exec
  have hb := B.bytes
  have hr := B.returns
  have hts : ∀ w ∈ TT, w.before _ s = true := fun w h => atoms_spec (ws := (w_Dk_firstWaiting)) B.pre w (List.mem_cons_of_mem _ h)
  have hown : s.vm.findClass R_Dk = some m.cls := findClass_of_methodNamed B.named
  have hlocks := B.notSynchronized
  have hP : va_P G vwCl [(a_dk, .inr (3, [.ref a_ch, .ref a_cs, .ref a_ln, .ref a_ss, .ref a_rr, .ref a_wn, .ref a_cd, .int mt, .int ft])), (a_ln, .inr (2, [.ref a_mm, .int (nI len)])), (a_mm, .inl (cI, 16, .inl (fun j => nI (mem j)))), (a_cs, .inr (0, [.ref a_cn, .ref a_cc, .ref a_cw, .ref a_cv])), (a_cn, .inl (cI, 16, .inl (fun j => nI (cnum j)))), (a_cc, .inl (cI, 96, .inl (fun j => nI (cch j)))), (a_cw, .inl (cI, 96, .inl (fun j => nI (cway j))))] s.heap := hP
  have hl := lv_entry ([.ref a_dk, .int (nI x), .int (nI w)]) (n := 3) (Nat.le_of_ble_eq_true rfl)
  rw [lg_entry_eq]
  generalize (lg_sl ([.ref a_dk, .int (nI x), .int (nI w)]) ++ List.replicate (3 - (lg_sl ([.ref a_dk, .int (nI x), .int (nI w)])).length) Slot.unset).toArray = ls at hl ⊢
  have hl : lv_has ls 3 [(0, .ref a_dk), (1, .int (nI x)), (2, .int (nI w))] := hl
  refine lv_aload_n hx hb d_Dk_firstWaiting_0 rfl (lv_at hl 0 rfl) ?_
  refine lv_iload_n hx hb d_Dk_firstWaiting_1 rfl (lv_at hl 1 rfl) ?_
  refine lv_iload_n hx hb d_Dk_firstWaiting_2 rfl (lv_at hl 2 rfl) ?_
  refine lv_iconst (v := (nI 0)) hx hb d_Dk_firstWaiting_3 (by decide +kernel) ?_
  refine k_ro (va_runV (As := [.int (nI x), .int (nI w), .int (nI 0)]) (rest := []) ⟨hx, hb, hml, hown, hts⟩ (c_Dk_findWaiting l G cI cZ cJ a_dk a_ch a_cs a_ln a_ss a_rr a_wn a_cd a_mm a_cn a_cc a_cw a_cv mt ft len mem cnum cch cway cval cs line x w (nI 0) hx1 hw1 hC hL) (cwV 3 hts (gV t_165 t_166 t_6 t_32 t_167) rfl rfl rfl (by decide +kernel) ⟨Nat.le_of_ble_eq_true rfl, Nat.le_of_ble_eq_true rfl⟩) (kR_V (ci := 3) (q0 := 0) hK hP rfl rfl [0, 1, 2, 3, 4, 5, 6] rfl) rfl rfl hl.1 rfl (lv_room (Nat.le_of_ble_eq_true rfl)) d_Dk_firstWaiting_4 ⟨Nat.le_of_ble_eq_true rfl, Nat.le_of_ble_eq_true rfl⟩) ?_
  exact k_ri hx hb hr hlocks (by rw [wlAt_nI (by decide)]) d_Dk_firstWaiting_7
end
section
theorem st_up {st : Nat → Nat} (h : ∀ j, j < 16 → st j < 5) (q : Nat) {v : Nat} (hv : v < 5) : ∀ j, j < 16 → va_up st q v j < 5 := by
  intro j hj
  by_cases e : j = q
  · subst e; rw [va_up_self]; exact hv
  · rw [va_up_ne _ _ e]; exact h j hj
theorem RelL_lt {len : Nat} {mem : Nat → Nat} {line : List Nat} (h : RelL len mem line) {q : Nat} (hq : q ∈ line) : q < 16 := by
  obtain ⟨i, hi, rfl⟩ := List.getElem_of_mem hq
  exact (h.2.2 i hi).2
theorem RelC_k {cnum cch cway : Nat → Nat} {cval : Nat → Int32} {cs : Nat → List Kase} (h : RelC cnum cch cway cval cs) {q i : Nat} (hq : q < 16) (hi : i < (cs q).length) : (kAt cs q i).1 < 40 ∧ (kAt cs q i).2.1 < 2 := by
  have := (h q hq).2.2 i hi
  unfold kAt
  rw [List.getD_eq_getElem?_getD, List.getElem?_eq_getElem hi]
  exact ⟨this.2.2.2.1, this.2.2.2.2⟩
theorem cons_of {L : List Int32} (h : 0 < L.length) : ∃ v vs, L = v :: vs := by
  cases L with
  | nil => simp at h
  | cons v vs => exact ⟨v, vs, rfl⟩
section MW
variable {σ σ' : Sg} {q x i w o : Nat} {v : Int32}
theorem m_wake_1 (h : (kAt (gCs σ) q i).2.1 = 0) : m_wake σ q i = m_flt (m_endw σ q i) q := by
  unfold m_wake; rw [if_pos h]
theorem m_wake_2 (h : ¬ (kAt (gCs σ) q i).2.1 = 0) : m_wake σ q i = m_hand (m_endw σ q i) q (nI 0) 0 := by
  unfold m_wake; rw [if_neg h]
theorem m_doC_1 (hk : kAt (gCs σ) q i = (x, w, v)) (hw : w = 0) (hz : m_tsend (m_cd (m_mr σ q) q (nI i)) q x v = (σ', o)) : m_doC σ q i = (σ', if o = 3 then 12 else i) := by
  unfold m_doC
  rw [hk]
  simp only [hw, if_true, hz]
theorem m_doC_2 (hk : kAt (gCs σ) q i = (x, w, v)) (hw : ¬ w = 0) (hz : m_trecv (m_cd (m_mr σ q) q (nI i)) q x = (σ', o)) : m_doC σ q i = (σ', if o = 3 then 12 else i) := by
  unfold m_doC
  rw [hk]
  simp only [if_neg hw, hz]
theorem tsend2 (h : m_tsend σ q x v = (σ', o)) (ho : o = 2) : σ' = σ := by
  subst ho
  unfold m_tsend at h
  split at h
  · injection h with h1 h2; cases h2
  · split at h
    · injection h with h1 h2; cases h2
    · split at h
      · injection h with h1 h2; cases h2
      · injection h with h1 h2; exact h1.symm
theorem trecv2 (h : m_trecv σ q x = (σ', o)) (ho : o = 2) : σ' = σ := by
  subst ho
  unfold m_trecv at h
  split at h
  · injection h with h1 h2; cases h2
  · split at h
    · injection h with h1 h2; cases h2
    · split at h
      · injection h with h1 h2; cases h2
      · injection h with h1 h2; exact h1.symm
end MW
section MP
variable {shut : Nat → Bool} {room : Nat → Nat} {L : Nat → List Int32} {cs : Nat → List Kase} {line : List Nat} {x w : Nat} {v : Int32} {z : Nat × Nat}
theorem mp_1 (h : shut x = true) : nI 1 = bI (m_poss shut room L cs line (x, w, v)) := by simp only [m_poss, h, Bool.true_or]; rfl
theorem mp_2 (hw : w = 0) (h : decide ((L x).length < room x) = true) : nI 1 = bI (m_poss shut room L cs line (x, w, v)) := by simp only [m_poss, hw, if_true, h, Bool.true_or, Bool.or_true]; rfl
theorem mp_3 (hw : w = 0) (h : (wl cs line x 1)[0]? = some z) : nI 1 = bI (m_poss shut room L cs line (x, w, v)) := by simp only [m_poss, hw, if_true, h, Option.isSome_some, Bool.or_true]; rfl
theorem mp_4 (hs : shut x = false) (hw : w = 0) (h : decide ((L x).length < room x) = false) (h2 : (wl cs line x 1)[0]? = none) : nI 0 = bI (m_poss shut room L cs line (x, w, v)) := by simp only [m_poss, hs, hw, if_true, h, h2, Option.isSome_none, Bool.or_false]; rfl
theorem mp_5 (hw : ¬ w = 0) (h : 0 < (L x).length) : nI 1 = bI (m_poss shut room L cs line (x, w, v)) := by simp only [m_poss, if_neg hw, decide_eq_true h, Bool.true_or, Bool.or_true]; rfl
theorem mp_6 (hw : ¬ w = 0) (h : (wl cs line x 0)[0]? = some z) : nI 1 = bI (m_poss shut room L cs line (x, w, v)) := by simp only [m_poss, if_neg hw, h, Option.isSome_some, Bool.or_true]; rfl
theorem mp_7 (hs : shut x = false) (hw : ¬ w = 0) (h : (L x).length = 0) (h2 : (wl cs line x 0)[0]? = none) : nI 0 = bI (m_poss shut room L cs line (x, w, v)) := by simp only [m_poss, hs, if_neg hw, h, h2, Option.isSome_none, Bool.or_false]; rfl
end MP
theorem pl_get {P : Nat → Bool} {N i n : Nat} (hi : i < N) (hP : P i = true) (hn : n = ((List.range i).filter P).length) : ((List.range N).filter P).getD n 0 = i := by
  obtain ⟨t, ht⟩ := pl_split (P := P) hi
  rw [ht, if_pos hP, hn, List.getD_eq_getElem?_getD, List.getElem?_append_right (Nat.le_refl _)]
  simp
end
section
set_option maxHeartbeats 4000000 in
set_option maxRecDepth 100000 in
theorem c_Dk_trySend (l : Launch) (G : va_G) (cI cZ cJ : ClassId) (sz : Nat) (a_dk : Nat) (a_ch : Nat) (a_cs : Nat) (a_ln : Nat) (a_ss : Nat) (a_rr : Nat) (a_wn : Nat) (a_cd : Nat) (a_rm : Nat) (a_hd : Nat) (a_sh : Nat) (a_vl : Nat) (a_cn : Nat) (a_cc : Nat) (a_cw : Nat) (a_cv : Nat) (a_mm : Nat) (mt : Int32) (ft : Int32) (n : Nat) (room : Nat → Nat) (held : Nat → Nat) (shut : Nat → Bool) (vals : Nat → Int32) (cnum : Nat → Nat) (cch : Nat → Nat) (cway : Nat → Nat) (cval : Nat → Int32) (len : Nat) (mem : Nat → Nat) (st : Nat → Nat) (rc : Nat → Int32) (sn : Nat → Nat) (cd : Nat → Int32) (L : Nat → List Int32) (cs : Nat → List Kase) (line : List Nat) (q : Nat) (x : Nat) (v : Int32) (hq : q < 16) (hx0 : x < 40) (hrm : ∀ j, j < 40 → room j ≤ 8) (hV : RelV held vals L) (hC : RelC cnum cch cway cval cs) (hL : RelL len mem line) (hst : ∀ j, j < 16 → st j < 5) : Met l y_Dk_trySend (w_Dk_trySend) ({ frames := 4, cells := 0, slots := 0, locals := 94 }) (va_Pc [.ref a_dk, .int (nI q), .int (nI x), .int v] (kW G vwCl [(cI, .int), (cZ, .boolean), (cJ, .long)] [(a_dk, .inr (3, [.ref a_ch, .ref a_cs, .ref a_ln, .ref a_ss, .ref a_rr, .ref a_wn, .ref a_cd, .int mt, .int ft])), (a_ch, .inr (1, [.ref a_rm, .ref a_hd, .ref a_sh, .ref a_vl, .int (nI n)])), (a_rm, .inl (cI, 40, .inl (fun j => nI (room j)))), (a_hd, .inl (cI, 40, .inl (fun j => nI (held j)))), (a_sh, .inl (cZ, 40, .inl (fun j => bI (shut j)))), (a_vl, .inl (cI, 320, .inl vals)), (a_cs, .inr (0, [.ref a_cn, .ref a_cc, .ref a_cw, .ref a_cv])), (a_cn, .inl (cI, 16, .inl (fun j => nI (cnum j)))), (a_cc, .inl (cI, 96, .inl (fun j => nI (cch j)))), (a_cw, .inl (cI, 96, .inl (fun j => nI (cway j)))), (a_cv, .inl (cI, 96, .inl cval)), (a_ln, .inr (2, [.ref a_mm, .int (nI len)])), (a_mm, .inl (cI, 16, .inl (fun j => nI (mem j)))), (a_ss, .inl (cI, 16, .inl (fun j => nI (st j)))), (a_rr, .inl (cI, 16, .inl rc)), (a_wn, .inl (cI, 16, .inl (fun j => nI (sn j)))), (a_cd, .inl (cI, 16, .inl cd))] sz)) (va_Qi (fun (r : Int32) (u : (Nat → Nat) × (Nat → Int32) × (Nat → Nat) × Nat × (Nat → Nat) × (Nat → Nat) × (Nat → Int32) × (Nat → Nat) × (Nat → Int32) × Int32 × Int32 × (Nat → List Int32) × (Nat → List Kase) × List Nat × Nat) => r = (nI u.2.2.2.2.2.2.2.2.2.2.2.2.2.2) ∧ m_tsend (n, room, shut, L, cs, line, st, rc, sn, cd, mt, ft) q x v = ((n, room, shut, u.2.2.2.2.2.2.2.2.2.2.2.1, u.2.2.2.2.2.2.2.2.2.2.2.2.1, u.2.2.2.2.2.2.2.2.2.2.2.2.2.1, u.2.2.2.2.2.1, u.2.2.2.2.2.2.1, u.2.2.2.2.2.2.2.1, u.2.2.2.2.2.2.2.2.1, u.2.2.2.2.2.2.2.2.2.1, u.2.2.2.2.2.2.2.2.2.2.1), u.2.2.2.2.2.2.2.2.2.2.2.2.2.2) ∧ u.2.2.2.2.2.2.2.2.2.2.2.2.2.2 ≤ 3 ∧ RelV u.1 u.2.1 u.2.2.2.2.2.2.2.2.2.2.2.1 ∧ RelC u.2.2.1 cch cway cval u.2.2.2.2.2.2.2.2.2.2.2.2.1 ∧ RelL u.2.2.2.1 u.2.2.2.2.1 u.2.2.2.2.2.2.2.2.2.2.2.2.2.1 ∧ ∀ j, j < 16 → u.2.2.2.2.2.1 j < 5) (fun u t => va_P G vwCl [(a_dk, .inr (3, [.ref a_ch, .ref a_cs, .ref a_ln, .ref a_ss, .ref a_rr, .ref a_wn, .ref a_cd, .int u.2.2.2.2.2.2.2.2.2.1, .int u.2.2.2.2.2.2.2.2.2.2.1])), (a_ch, .inr (1, [.ref a_rm, .ref a_hd, .ref a_sh, .ref a_vl, .int (nI n)])), (a_rm, .inl (cI, 40, .inl (fun j => nI (room j)))), (a_hd, .inl (cI, 40, .inl (fun j => nI (u.1 j)))), (a_sh, .inl (cZ, 40, .inl (fun j => bI (shut j)))), (a_vl, .inl (cI, 320, .inl u.2.1)), (a_cs, .inr (0, [.ref a_cn, .ref a_cc, .ref a_cw, .ref a_cv])), (a_cn, .inl (cI, 16, .inl (fun j => nI (u.2.2.1 j)))), (a_cc, .inl (cI, 96, .inl (fun j => nI (cch j)))), (a_cw, .inl (cI, 96, .inl (fun j => nI (cway j)))), (a_cv, .inl (cI, 96, .inl cval)), (a_ln, .inr (2, [.ref a_mm, .int (nI u.2.2.2.1)])), (a_mm, .inl (cI, 16, .inl (fun j => nI (u.2.2.2.2.1 j)))), (a_ss, .inl (cI, 16, .inl (fun j => nI (u.2.2.2.2.2.1 j)))), (a_rr, .inl (cI, 16, .inl u.2.2.2.2.2.2.1)), (a_wn, .inl (cI, 16, .inl (fun j => nI (u.2.2.2.2.2.2.2.1 j)))), (a_cd, .inl (cI, 16, .inl u.2.2.2.2.2.2.2.2.1))] t.heap) (va_A [(a_dk, .inr (3, [.ref a_ch, .ref a_cs, .ref a_ln, .ref a_ss, .ref a_rr, .ref a_wn, .ref a_cd, .int mt, .int ft])), (a_ch, .inr (1, [.ref a_rm, .ref a_hd, .ref a_sh, .ref a_vl, .int (nI n)])), (a_rm, .inl (cI, 40, .inl (fun j => nI (room j)))), (a_hd, .inl (cI, 40, .inl (fun j => nI (held j)))), (a_sh, .inl (cZ, 40, .inl (fun j => bI (shut j)))), (a_vl, .inl (cI, 320, .inl vals)), (a_cs, .inr (0, [.ref a_cn, .ref a_cc, .ref a_cw, .ref a_cv])), (a_cn, .inl (cI, 16, .inl (fun j => nI (cnum j)))), (a_cc, .inl (cI, 96, .inl (fun j => nI (cch j)))), (a_cw, .inl (cI, 96, .inl (fun j => nI (cway j)))), (a_cv, .inl (cI, 96, .inl cval)), (a_ln, .inr (2, [.ref a_mm, .int (nI len)])), (a_mm, .inl (cI, 16, .inl (fun j => nI (mem j)))), (a_ss, .inl (cI, 16, .inl (fun j => nI (st j)))), (a_rr, .inl (cI, 16, .inl rc)), (a_wn, .inl (cI, 16, .inl (fun j => nI (sn j)))), (a_cd, .inl (cI, 16, .inl cd))] sz)) 0 0 (va_A [(a_dk, .inr (3, [.ref a_ch, .ref a_cs, .ref a_ln, .ref a_ss, .ref a_rr, .ref a_wn, .ref a_cd, .int mt, .int ft])), (a_ch, .inr (1, [.ref a_rm, .ref a_hd, .ref a_sh, .ref a_vl, .int (nI n)])), (a_rm, .inl (cI, 40, .inl (fun j => nI (room j)))), (a_hd, .inl (cI, 40, .inl (fun j => nI (held j)))), (a_sh, .inl (cZ, 40, .inl (fun j => bI (shut j)))), (a_vl, .inl (cI, 320, .inl vals)), (a_cs, .inr (0, [.ref a_cn, .ref a_cc, .ref a_cw, .ref a_cv])), (a_cn, .inl (cI, 16, .inl (fun j => nI (cnum j)))), (a_cc, .inl (cI, 96, .inl (fun j => nI (cch j)))), (a_cw, .inl (cI, 96, .inl (fun j => nI (cway j)))), (a_cv, .inl (cI, 96, .inl cval)), (a_ln, .inr (2, [.ref a_mm, .int (nI len)])), (a_mm, .inl (cI, 16, .inl (fun j => nI (mem j)))), (a_ss, .inl (cI, 16, .inl (fun j => nI (st j)))), (a_rr, .inl (cI, 16, .inl rc)), (a_wn, .inl (cI, 16, .inl (fun j => nI (sn j)))), (a_cd, .inl (cI, 16, .inl cd))] sz) := by
  refine Met.ofW (cc := b_Dk_trySend) (maxL := 5) (ret := (some .int)) (by decide) rfl ?_
  intro p e s m args below meth c s₁ B hml hv
  obtain ⟨rfl, hsz, hP, hK, hD0⟩ := hv
  have hx := B.exec
  have hb := B.bytes
  have hr := B.returns
  have hts : ∀ w ∈ TT, w.before _ s = true := fun w h => atoms_spec (ws := (w_Dk_trySend)) B.pre w (List.mem_cons_of_mem _ h)
  have hown : s.vm.findClass R_Dk = some m.cls := findClass_of_methodNamed B.named
  have hlocks := B.notSynchronized
  subst hsz
  have hD := hD0.self (sz := s.heap.size)
  generalize hAe : va_A [(a_dk, .inr (3, [.ref a_ch, .ref a_cs, .ref a_ln, .ref a_ss, .ref a_rr, .ref a_wn, .ref a_cd, .int mt, .int ft])), (a_ch, .inr (1, [.ref a_rm, .ref a_hd, .ref a_sh, .ref a_vl, .int (nI n)])), (a_rm, .inl (cI, 40, .inl (fun j => nI (room j)))), (a_hd, .inl (cI, 40, .inl (fun j => nI (held j)))), (a_sh, .inl (cZ, 40, .inl (fun j => bI (shut j)))), (a_vl, .inl (cI, 320, .inl vals)), (a_cs, .inr (0, [.ref a_cn, .ref a_cc, .ref a_cw, .ref a_cv])), (a_cn, .inl (cI, 16, .inl (fun j => nI (cnum j)))), (a_cc, .inl (cI, 96, .inl (fun j => nI (cch j)))), (a_cw, .inl (cI, 96, .inl (fun j => nI (cway j)))), (a_cv, .inl (cI, 96, .inl cval)), (a_ln, .inr (2, [.ref a_mm, .int (nI len)])), (a_mm, .inl (cI, 16, .inl (fun j => nI (mem j)))), (a_ss, .inl (cI, 16, .inl (fun j => nI (st j)))), (a_rr, .inl (cI, 16, .inl rc)), (a_wn, .inl (cI, 16, .inl (fun j => nI (sn j)))), (a_cd, .inl (cI, 16, .inl cd))] s.heap.size = A at hD ⊢
  have hA : ∀ q : Nat, s.heap.size ≤ q → A q := fun q h => by rw [← hAe]; exact Or.inr h
  have hS : va_S A s.heap s.heap [] := va_S.rf
  have hP : va_P G vwCl [(a_dk, .inr (3, [.ref a_ch, .ref a_cs, .ref a_ln, .ref a_ss, .ref a_rr, .ref a_wn, .ref a_cd, .int mt, .int ft])), (a_ch, .inr (1, [.ref a_rm, .ref a_hd, .ref a_sh, .ref a_vl, .int (nI n)])), (a_rm, .inl (cI, 40, .inl (fun j => nI (room j)))), (a_hd, .inl (cI, 40, .inl (fun j => nI (held j)))), (a_sh, .inl (cZ, 40, .inl (fun j => bI (shut j)))), (a_vl, .inl (cI, 320, .inl vals)), (a_cs, .inr (0, [.ref a_cn, .ref a_cc, .ref a_cw, .ref a_cv])), (a_cn, .inl (cI, 16, .inl (fun j => nI (cnum j)))), (a_cc, .inl (cI, 96, .inl (fun j => nI (cch j)))), (a_cw, .inl (cI, 96, .inl (fun j => nI (cway j)))), (a_cv, .inl (cI, 96, .inl cval)), (a_ln, .inr (2, [.ref a_mm, .int (nI len)])), (a_mm, .inl (cI, 16, .inl (fun j => nI (mem j)))), (a_ss, .inl (cI, 16, .inl (fun j => nI (st j)))), (a_rr, .inl (cI, 16, .inl rc)), (a_wn, .inl (cI, 16, .inl (fun j => nI (sn j)))), (a_cd, .inl (cI, 16, .inl cd))] s.heap := hP
  have hl := lv_entry ([.ref a_dk, .int (nI q), .int (nI x), .int v]) (n := 5) (Nat.le_of_ble_eq_true rfl)
  rw [lg_entry_eq]
  generalize (lg_sl ([.ref a_dk, .int (nI q), .int (nI x), .int v]) ++ List.replicate (5 - (lg_sl ([.ref a_dk, .int (nI q), .int (nI x), .int v])).length) Slot.unset).toArray = ls at hl ⊢
  have hl : lv_has ls 5 [(0, .ref a_dk), (1, .int (nI q)), (2, .int (nI x)), (3, .int v)] := hl
  refine lv_aload_n hx hb d_Dk_trySend_0 rfl (lv_at hl 0 rfl) ?_
  refine va_get (D := G) (ci := 3) (v := .ref a_ch) (C := R_Dk) (T := T_Dk) (N := 9) hx hb hts uw_Dk hown hK hP 0 rfl rfl 0 (by decide) (hts _ t_105) (fun _ h9 => h9) rfl d_Dk_trySend_1 ?_
  refine lv_iload_n hx hb d_Dk_trySend_4 rfl (lv_at hl 2 rfl) ?_
  refine k_ro (va_runV (As := [.int (nI x)]) (rest := []) ⟨hx, hb, hml, hown, hts⟩ (c_Ch_isShut l G cI cZ cJ a_ch a_rm a_hd a_sh a_vl n shut x hx0) (cwV 1 hts (gV t_155 t_156 t_157 t_33 t_158) rfl rfl rfl (by decide +kernel) ⟨Nat.le_of_ble_eq_true rfl, Nat.le_of_ble_eq_true rfl⟩) (kR_V (ci := 1) (q0 := 1) hK hP rfl rfl [1, 4] rfl) rfl rfl hl.1 rfl (lv_room (Nat.le_of_ble_eq_true rfl)) d_Dk_trySend_5 ⟨Nat.le_of_ble_eq_true rfl, Nat.le_of_ble_eq_true rfl⟩) ?_
  refine b_if_eq (tgt := 18) hx hb d_Dk_trySend_8 (by decide) (fun c_a => ?_) (fun c_a => ?_)
  · refine lv_aload_n hx hb d_Dk_trySend_18 rfl (lv_at hl 0 rfl) ?_
    refine lv_iload_n hx hb d_Dk_trySend_19 rfl (lv_at hl 2 rfl) ?_
    refine lv_iconst (v := (nI 1)) hx hb d_Dk_trySend_20 (by decide +kernel) ?_
    refine k_ro (va_runV (As := [.int (nI x), .int (nI 1)]) (rest := []) ⟨hx, hb, hml, hown, hts⟩ (c_Dk_firstWaiting l G cI cZ cJ a_dk a_ch a_cs a_ln a_ss a_rr a_wn a_cd a_mm a_cn a_cc a_cw a_cv mt ft len mem cnum cch cway cval cs line x 1 hx0 (by decide) hC hL) (cwV 2 hts (gV t_162 t_163 t_5 t_32 t_164) rfl rfl rfl (by decide +kernel) ⟨Nat.le_of_ble_eq_true rfl, Nat.le_of_ble_eq_true rfl⟩) (kR_V (ci := 3) (q0 := 0) hK hP rfl rfl [0, 11, 12, 6, 7, 8, 9] rfl) rfl rfl hl.1 rfl (lv_room (Nat.le_of_ble_eq_true rfl)) d_Dk_trySend_21 ⟨Nat.le_of_ble_eq_true rfl, Nat.le_of_ble_eq_true rfl⟩) ?_
    rcases hz : (wl cs line x 1)[0]? with _ | ⟨q1, i1⟩
    · refine k_top (y := (-1)) (rfl) ?_
      refine lv_istore (lv' := [(4, .int (-1)), (0, .ref a_dk), (1, .int (nI q)), (2, .int (nI x)), (3, .int v)]) hx hb d_Dk_trySend_24 hl (by decide) rfl (fun ls hl => ?_)
      refine lv_iload hx hb d_Dk_trySend_26 (lv_at hl 0 rfl) ?_
      refine lv_iconst (v := (-1)) hx hb d_Dk_trySend_28 (by decide +kernel) ?_
      refine lv_icmp_eq (tgt := 61) hx hb d_Dk_trySend_29 (by decide) (fun c_b => ?_) (fun c_b => absurd rfl c_b)
      refine lv_aload_n hx hb d_Dk_trySend_61 rfl (lv_at hl 1 rfl) ?_
      refine va_get (D := G) (ci := 3) (v := .ref a_ch) (C := R_Dk) (T := T_Dk) (N := 9) hx hb hts uw_Dk hown hK hP 0 rfl rfl 0 (by decide) (hts _ t_105) (fun _ h9 => h9) rfl d_Dk_trySend_62 ?_
      refine lv_iload_n hx hb d_Dk_trySend_65 rfl (lv_at hl 3 rfl) ?_
      refine lv_iload_n hx hb d_Dk_trySend_66 rfl (lv_at hl 4 rfl) ?_
      refine k_rwi (va_runV (As := [.int (nI x), .int v]) (rest := []) ⟨hx, hb, hml, hown, hts⟩ (c_Ch_put l G cI cZ cJ s.heap.size a_ch a_rm a_hd a_sh a_vl n room held vals L x v hx0 hV (hrm x hx0)) (cwV 2 hts (gV t_199 t_200 t_201 t_33 t_202) rfl rfl rfl (by decide +kernel) ⟨Nat.le_of_ble_eq_true rfl, Nat.le_of_ble_eq_true rfl⟩) (kW_V (ci := 1) (q0 := 1) hK hP hD rfl rfl [1, 2, 3, 5] rfl (by decide) rfl) rfl rfl hl.1 rfl (lv_room (Nat.le_of_ble_eq_true rfl)) d_Dk_trySend_67 ⟨Nat.le_of_ble_eq_true rfl, Nat.le_of_ble_eq_true rfl⟩) hP hD hS hA [1, 2, 3, 5] rfl (fun _ => rfl) (fun r_3 u H locs hw hP hD hS => ?_)
      obtain ⟨held_3, vals_3⟩ := u
      obtain ⟨rfl, hV⟩ := hw
      have hV : RelV held_3 vals_3 (putL L room x v) := hV
      have hP : va_P G vwCl [(a_dk, .inr (3, [.ref a_ch, .ref a_cs, .ref a_ln, .ref a_ss, .ref a_rr, .ref a_wn, .ref a_cd, .int mt, .int ft])), (a_ch, .inr (1, [.ref a_rm, .ref a_hd, .ref a_sh, .ref a_vl, .int (nI n)])), (a_rm, .inl (cI, 40, .inl (fun j => nI (room j)))), (a_hd, .inl (cI, 40, .inl (fun j => nI (held_3 j)))), (a_sh, .inl (cZ, 40, .inl (fun j => bI (shut j)))), (a_vl, .inl (cI, 320, .inl vals_3)), (a_cs, .inr (0, [.ref a_cn, .ref a_cc, .ref a_cw, .ref a_cv])), (a_cn, .inl (cI, 16, .inl (fun j => nI (cnum j)))), (a_cc, .inl (cI, 96, .inl (fun j => nI (cch j)))), (a_cw, .inl (cI, 96, .inl (fun j => nI (cway j)))), (a_cv, .inl (cI, 96, .inl cval)), (a_ln, .inr (2, [.ref a_mm, .int (nI len)])), (a_mm, .inl (cI, 16, .inl (fun j => nI (mem j)))), (a_ss, .inl (cI, 16, .inl (fun j => nI (st j)))), (a_rr, .inl (cI, 16, .inl rc)), (a_wn, .inl (cI, 16, .inl (fun j => nI (sn j)))), (a_cd, .inl (cI, 16, .inl cd))] H := hP
      have hD : va_D A [(a_dk, .inr (3, [.ref a_ch, .ref a_cs, .ref a_ln, .ref a_ss, .ref a_rr, .ref a_wn, .ref a_cd, .int mt, .int ft])), (a_ch, .inr (1, [.ref a_rm, .ref a_hd, .ref a_sh, .ref a_vl, .int (nI n)])), (a_rm, .inl (cI, 40, .inl (fun j => nI (room j)))), (a_hd, .inl (cI, 40, .inl (fun j => nI (held_3 j)))), (a_sh, .inl (cZ, 40, .inl (fun j => bI (shut j)))), (a_vl, .inl (cI, 320, .inl vals_3)), (a_cs, .inr (0, [.ref a_cn, .ref a_cc, .ref a_cw, .ref a_cv])), (a_cn, .inl (cI, 16, .inl (fun j => nI (cnum j)))), (a_cc, .inl (cI, 96, .inl (fun j => nI (cch j)))), (a_cw, .inl (cI, 96, .inl (fun j => nI (cway j)))), (a_cv, .inl (cI, 96, .inl cval)), (a_ln, .inr (2, [.ref a_mm, .int (nI len)])), (a_mm, .inl (cI, 16, .inl (fun j => nI (mem j)))), (a_ss, .inl (cI, 16, .inl (fun j => nI (st j)))), (a_rr, .inl (cI, 16, .inl rc)), (a_wn, .inl (cI, 16, .inl (fun j => nI (sn j)))), (a_cd, .inl (cI, 16, .inl cd))] := hD
      refine b_if_eq (tgt := 77) hx hb d_Dk_trySend_70 (by decide) (fun c_c => ?_) (fun c_c => ?_)
      · refine lv_iconst (v := (nI 2)) hx hb d_Dk_trySend_77 (by decide +kernel) ?_
        exact k_wi hx hb hr hlocks hP hS (held_3, vals_3, cnum, len, mem, st, rc, sn, cd, mt, ft, L, cs, line, 2) (rfl) (⟨rfl, m_tsend_4 c_a hz (of_decide_eq_false c_c), Nat.le_of_ble_eq_true rfl, (show putL L room x v = L from if_neg (of_decide_eq_false c_c)) ▸ hV, hC, hL, hst⟩) d_Dk_trySend_78
      · refine lv_iconst (v := (nI 1)) hx hb d_Dk_trySend_73 (by decide +kernel) ?_
        refine lv_goto (tgt := 78) hx hb d_Dk_trySend_74 (by decide) ?_
        exact k_wi hx hb hr hlocks hP hS (held_3, vals_3, cnum, len, mem, st, rc, sn, cd, mt, ft, putL L room x v, cs, line, 1) (rfl) (⟨rfl, m_tsend_3 c_a hz (of_decide_eq_true c_c), Nat.le_of_ble_eq_true rfl, hV, hC, hL, hst⟩) d_Dk_trySend_78
    · have hz1 := wl_mem (List.mem_of_getElem? hz)
      have hq1 : q1 < 16 := RelL_lt hL hz1.1
      have hi1 : i1 < (cs q1).length := fa_lt hz1.2
      have h61 := (hC q1 hq1).2.1
      refine k_top (y := (nI (q1 * 6 + i1))) (rfl) ?_
      refine lv_istore (lv' := [(4, .int (nI (q1 * 6 + i1))), (0, .ref a_dk), (1, .int (nI q)), (2, .int (nI x)), (3, .int v)]) hx hb d_Dk_trySend_24 hl (by decide) rfl (fun ls hl => ?_)
      refine lv_iload hx hb d_Dk_trySend_26 (lv_at hl 0 rfl) ?_
      refine lv_iconst (v := (-1)) hx hb d_Dk_trySend_28 (by decide +kernel) ?_
      refine lv_icmp_eq (tgt := 61) hx hb d_Dk_trySend_29 (by decide) (fun c_b => absurd c_b (nI_m1 (by omega))) (fun c_b => ?_)
      refine lv_aload_n hx hb d_Dk_trySend_32 rfl (lv_at hl 1 rfl) ?_
      refine lv_dup hx hb d_Dk_trySend_33 rfl ?_
      refine va_get (D := G) (ci := 3) (v := .int mt) (C := R_Dk) (T := T_Dk) (N := 9) hx hb hts uw_Dk hown hK hP 0 rfl rfl 7 (by decide) (hts _ t_112) (fun _ h9 => h9) rfl d_Dk_trySend_34 ?_
      refine lv_iconst (v := (nI 1)) hx hb d_Dk_trySend_37 (by decide +kernel) ?_
      refine lv_iadd hx hb d_Dk_trySend_38 ?_
      refine va_put (D := G) (ci := 3) (v := .int (mt + (nI 1))) (ty := .int) (C := R_Dk) (T := T_Dk) (N := 9) hx hb hts uw_Dk ty_Dk tyok_Dk nm_Dk hown hK hP hD hS 0 rfl rfl 7 (by decide) (hts _ t_112) (fun _ h9 => h9) rfl (by decide +kernel) rfl rfl (Nat.le_of_ble_eq_true rfl) d_Dk_trySend_39 (fun H locs hP hD hS => ?_)
      have hP : va_P G vwCl [(a_dk, .inr (3, [.ref a_ch, .ref a_cs, .ref a_ln, .ref a_ss, .ref a_rr, .ref a_wn, .ref a_cd, .int (mt + (nI 1)), .int ft])), (a_ch, .inr (1, [.ref a_rm, .ref a_hd, .ref a_sh, .ref a_vl, .int (nI n)])), (a_rm, .inl (cI, 40, .inl (fun j => nI (room j)))), (a_hd, .inl (cI, 40, .inl (fun j => nI (held j)))), (a_sh, .inl (cZ, 40, .inl (fun j => bI (shut j)))), (a_vl, .inl (cI, 320, .inl vals)), (a_cs, .inr (0, [.ref a_cn, .ref a_cc, .ref a_cw, .ref a_cv])), (a_cn, .inl (cI, 16, .inl (fun j => nI (cnum j)))), (a_cc, .inl (cI, 96, .inl (fun j => nI (cch j)))), (a_cw, .inl (cI, 96, .inl (fun j => nI (cway j)))), (a_cv, .inl (cI, 96, .inl cval)), (a_ln, .inr (2, [.ref a_mm, .int (nI len)])), (a_mm, .inl (cI, 16, .inl (fun j => nI (mem j)))), (a_ss, .inl (cI, 16, .inl (fun j => nI (st j)))), (a_rr, .inl (cI, 16, .inl rc)), (a_wn, .inl (cI, 16, .inl (fun j => nI (sn j)))), (a_cd, .inl (cI, 16, .inl cd))] H := hP
      have hD : va_D A [(a_dk, .inr (3, [.ref a_ch, .ref a_cs, .ref a_ln, .ref a_ss, .ref a_rr, .ref a_wn, .ref a_cd, .int (mt + (nI 1)), .int ft])), (a_ch, .inr (1, [.ref a_rm, .ref a_hd, .ref a_sh, .ref a_vl, .int (nI n)])), (a_rm, .inl (cI, 40, .inl (fun j => nI (room j)))), (a_hd, .inl (cI, 40, .inl (fun j => nI (held j)))), (a_sh, .inl (cZ, 40, .inl (fun j => bI (shut j)))), (a_vl, .inl (cI, 320, .inl vals)), (a_cs, .inr (0, [.ref a_cn, .ref a_cc, .ref a_cw, .ref a_cv])), (a_cn, .inl (cI, 16, .inl (fun j => nI (cnum j)))), (a_cc, .inl (cI, 96, .inl (fun j => nI (cch j)))), (a_cw, .inl (cI, 96, .inl (fun j => nI (cway j)))), (a_cv, .inl (cI, 96, .inl cval)), (a_ln, .inr (2, [.ref a_mm, .int (nI len)])), (a_mm, .inl (cI, 16, .inl (fun j => nI (mem j)))), (a_ss, .inl (cI, 16, .inl (fun j => nI (st j)))), (a_rr, .inl (cI, 16, .inl rc)), (a_wn, .inl (cI, 16, .inl (fun j => nI (sn j)))), (a_cd, .inl (cI, 16, .inl cd))] := hD
      refine lv_aload_n hx hb d_Dk_trySend_42 rfl (lv_at hl 1 rfl) ?_
      refine lv_iload hx hb d_Dk_trySend_43 (lv_at hl 0 rfl) ?_
      refine k_rwv (va_runV (As := [.int (nI (q1 * 6 + i1))]) (rest := []) ⟨hx, hb, hml, hown, hts⟩ (c_Dk_endWait l G cI cZ cJ H.size a_dk a_ch a_cs a_ln a_ss a_rr a_wn a_cd a_cn a_cc a_cw a_cv a_mm (mt + (nI 1)) ft st cd cnum len mem cch cway cval cs line q1 i1 hq1 (by omega) hst hC hL) (cwV 1 hts (gV t_183 t_184 t_7 t_32 t_185) rfl rfl rfl (by decide +kernel) ⟨Nat.le_of_ble_eq_true rfl, Nat.le_of_ble_eq_true rfl⟩) (kW_V (ci := 3) (q0 := 0) hK hP hD rfl rfl [0, 13, 16, 6, 7, 11, 12] rfl (by decide) rfl) rfl rfl hl.1 rfl (lv_room (Nat.le_of_ble_eq_true rfl)) d_Dk_trySend_45 ⟨Nat.le_of_ble_eq_true rfl, Nat.le_of_ble_eq_true rfl⟩) hP hD hS hA [0, 13, 16, 6, 7, 11, 12] rfl (fun _ => rfl) (fun u H locs hw hP hD hS => ?_)
      obtain ⟨len_6, mem_6⟩ := u
      obtain ⟨hC, hL⟩ := hw
      have hC : RelC (va_up cnum q1 0) cch cway cval (va_up cs q1 []) := hC
      have hL : RelL len_6 mem_6 (outL line q1) := hL
      have hP : va_P G vwCl [(a_dk, .inr (3, [.ref a_ch, .ref a_cs, .ref a_ln, .ref a_ss, .ref a_rr, .ref a_wn, .ref a_cd, .int (mt + (nI 1)), .int ft])), (a_ch, .inr (1, [.ref a_rm, .ref a_hd, .ref a_sh, .ref a_vl, .int (nI n)])), (a_rm, .inl (cI, 40, .inl (fun j => nI (room j)))), (a_hd, .inl (cI, 40, .inl (fun j => nI (held j)))), (a_sh, .inl (cZ, 40, .inl (fun j => bI (shut j)))), (a_vl, .inl (cI, 320, .inl vals)), (a_cs, .inr (0, [.ref a_cn, .ref a_cc, .ref a_cw, .ref a_cv])), (a_cn, .inl (cI, 16, .inl (fun j => nI ((va_up cnum q1 0) j)))), (a_cc, .inl (cI, 96, .inl (fun j => nI (cch j)))), (a_cw, .inl (cI, 96, .inl (fun j => nI (cway j)))), (a_cv, .inl (cI, 96, .inl cval)), (a_ln, .inr (2, [.ref a_mm, .int (nI len_6)])), (a_mm, .inl (cI, 16, .inl (fun j => nI (mem_6 j)))), (a_ss, .inl (cI, 16, .inl (fun j => nI ((va_up st q1 0) j)))), (a_rr, .inl (cI, 16, .inl rc)), (a_wn, .inl (cI, 16, .inl (fun j => nI (sn j)))), (a_cd, .inl (cI, 16, .inl (cdE st cd q1 i1)))] H := hP
      have hD : va_D A [(a_dk, .inr (3, [.ref a_ch, .ref a_cs, .ref a_ln, .ref a_ss, .ref a_rr, .ref a_wn, .ref a_cd, .int (mt + (nI 1)), .int ft])), (a_ch, .inr (1, [.ref a_rm, .ref a_hd, .ref a_sh, .ref a_vl, .int (nI n)])), (a_rm, .inl (cI, 40, .inl (fun j => nI (room j)))), (a_hd, .inl (cI, 40, .inl (fun j => nI (held j)))), (a_sh, .inl (cZ, 40, .inl (fun j => bI (shut j)))), (a_vl, .inl (cI, 320, .inl vals)), (a_cs, .inr (0, [.ref a_cn, .ref a_cc, .ref a_cw, .ref a_cv])), (a_cn, .inl (cI, 16, .inl (fun j => nI ((va_up cnum q1 0) j)))), (a_cc, .inl (cI, 96, .inl (fun j => nI (cch j)))), (a_cw, .inl (cI, 96, .inl (fun j => nI (cway j)))), (a_cv, .inl (cI, 96, .inl cval)), (a_ln, .inr (2, [.ref a_mm, .int (nI len_6)])), (a_mm, .inl (cI, 16, .inl (fun j => nI (mem_6 j)))), (a_ss, .inl (cI, 16, .inl (fun j => nI ((va_up st q1 0) j)))), (a_rr, .inl (cI, 16, .inl rc)), (a_wn, .inl (cI, 16, .inl (fun j => nI (sn j)))), (a_cd, .inl (cI, 16, .inl (cdE st cd q1 i1)))] := hD
      refine lv_aload_n hx hb d_Dk_trySend_48 rfl (lv_at hl 1 rfl) ?_
      refine lv_iload hx hb d_Dk_trySend_49 (lv_at hl 0 rfl) ?_
      refine k_ro (va_runS (As := [.int (nI (q1 * 6 + i1))]) (rest := [.ref a_dk]) ⟨hx, hb, hml, hown, hts⟩ (c_Cs_routineAt l G cI cZ cJ (q1 * 6 + i1) (by omega)) (va_cwS 1 hts (gS t_186 t_187 t_34 t_188) rfl rfl rfl (by decide +kernel) ⟨Nat.le_of_ble_eq_true rfl, Nat.le_of_ble_eq_true rfl⟩) (kR_S hK hP [] rfl) rfl rfl hl.1 rfl (lv_room (Nat.le_of_ble_eq_true rfl)) d_Dk_trySend_51 ⟨Nat.le_of_ble_eq_true rfl, Nat.le_of_ble_eq_true rfl⟩) ?_
      refine k_top (y := (nI q1)) (congrArg nI (by omega)) ?_
      refine lv_iload_n hx hb d_Dk_trySend_54 rfl (lv_at hl 4 rfl) ?_
      refine lv_iconst (v := (nI 1)) hx hb d_Dk_trySend_55 (by decide +kernel) ?_
      refine k_rwv (va_runV (As := [.int (nI q1), .int v, .int (nI 1)]) (rest := []) ⟨hx, hb, hml, hown, hts⟩ (c_Dk_hand l G cI cZ cJ H.size a_dk a_ch a_cs a_ln a_ss a_rr a_wn a_cd (mt + (nI 1)) ft rc sn q1 v 1 hq1) (cwV 3 hts (gV t_196 t_197 t_8 t_32 t_198) rfl rfl rfl (by decide +kernel) ⟨Nat.le_of_ble_eq_true rfl, Nat.le_of_ble_eq_true rfl⟩) (kW_V (ci := 3) (q0 := 0) hK hP hD rfl rfl [0, 14, 15] rfl (by decide) rfl) rfl rfl hl.1 rfl (lv_room (Nat.le_of_ble_eq_true rfl)) d_Dk_trySend_56 ⟨Nat.le_of_ble_eq_true rfl, Nat.le_of_ble_eq_true rfl⟩) hP hD hS hA [0, 14, 15] rfl (fun _ => rfl) (fun u H locs hw hP hD hS => ?_)
      have hP : va_P G vwCl [(a_dk, .inr (3, [.ref a_ch, .ref a_cs, .ref a_ln, .ref a_ss, .ref a_rr, .ref a_wn, .ref a_cd, .int (mt + (nI 1)), .int ft])), (a_ch, .inr (1, [.ref a_rm, .ref a_hd, .ref a_sh, .ref a_vl, .int (nI n)])), (a_rm, .inl (cI, 40, .inl (fun j => nI (room j)))), (a_hd, .inl (cI, 40, .inl (fun j => nI (held j)))), (a_sh, .inl (cZ, 40, .inl (fun j => bI (shut j)))), (a_vl, .inl (cI, 320, .inl vals)), (a_cs, .inr (0, [.ref a_cn, .ref a_cc, .ref a_cw, .ref a_cv])), (a_cn, .inl (cI, 16, .inl (fun j => nI ((va_up cnum q1 0) j)))), (a_cc, .inl (cI, 96, .inl (fun j => nI (cch j)))), (a_cw, .inl (cI, 96, .inl (fun j => nI (cway j)))), (a_cv, .inl (cI, 96, .inl cval)), (a_ln, .inr (2, [.ref a_mm, .int (nI len_6)])), (a_mm, .inl (cI, 16, .inl (fun j => nI (mem_6 j)))), (a_ss, .inl (cI, 16, .inl (fun j => nI ((va_up st q1 0) j)))), (a_rr, .inl (cI, 16, .inl (va_up rc q1 v))), (a_wn, .inl (cI, 16, .inl (fun j => nI ((va_up sn q1 1) j)))), (a_cd, .inl (cI, 16, .inl (cdE st cd q1 i1)))] H := hP
      have hD : va_D A [(a_dk, .inr (3, [.ref a_ch, .ref a_cs, .ref a_ln, .ref a_ss, .ref a_rr, .ref a_wn, .ref a_cd, .int (mt + (nI 1)), .int ft])), (a_ch, .inr (1, [.ref a_rm, .ref a_hd, .ref a_sh, .ref a_vl, .int (nI n)])), (a_rm, .inl (cI, 40, .inl (fun j => nI (room j)))), (a_hd, .inl (cI, 40, .inl (fun j => nI (held j)))), (a_sh, .inl (cZ, 40, .inl (fun j => bI (shut j)))), (a_vl, .inl (cI, 320, .inl vals)), (a_cs, .inr (0, [.ref a_cn, .ref a_cc, .ref a_cw, .ref a_cv])), (a_cn, .inl (cI, 16, .inl (fun j => nI ((va_up cnum q1 0) j)))), (a_cc, .inl (cI, 96, .inl (fun j => nI (cch j)))), (a_cw, .inl (cI, 96, .inl (fun j => nI (cway j)))), (a_cv, .inl (cI, 96, .inl cval)), (a_ln, .inr (2, [.ref a_mm, .int (nI len_6)])), (a_mm, .inl (cI, 16, .inl (fun j => nI (mem_6 j)))), (a_ss, .inl (cI, 16, .inl (fun j => nI ((va_up st q1 0) j)))), (a_rr, .inl (cI, 16, .inl (va_up rc q1 v))), (a_wn, .inl (cI, 16, .inl (fun j => nI ((va_up sn q1 1) j)))), (a_cd, .inl (cI, 16, .inl (cdE st cd q1 i1)))] := hD
      refine lv_iconst (v := (nI 1)) hx hb d_Dk_trySend_59 (by decide +kernel) ?_
      exact k_wi hx hb hr hlocks hP hS (held, vals, va_up cnum q1 0, len_6, mem_6, va_up st q1 0, va_up rc q1 v, va_up sn q1 1, cdE st cd q1 i1, mt + (nI 1), ft, L, va_up cs q1 [], outL line q1, 1) (rfl) (⟨rfl, m_tsend_2 (z := (q1, i1)) c_a hz, Nat.le_of_ble_eq_true rfl, hV, hC, hL, st_up hst q1 (by decide)⟩) d_Dk_trySend_60
  · refine lv_aload_n hx hb d_Dk_trySend_11 rfl (lv_at hl 0 rfl) ?_
    refine lv_iload_n hx hb d_Dk_trySend_12 rfl (lv_at hl 1 rfl) ?_
    refine k_rwv (va_runV (As := [.int (nI q)]) (rest := []) ⟨hx, hb, hml, hown, hts⟩ (c_Dk_sufferFault l G cI cZ cJ s.heap.size a_dk a_ch a_cs a_ln a_ss a_rr a_wn a_cd mt ft st q hq) (cwV 1 hts (gV t_159 t_160 t_4 t_32 t_161) rfl rfl rfl (by decide +kernel) ⟨Nat.le_of_ble_eq_true rfl, Nat.le_of_ble_eq_true rfl⟩) (kW_V (ci := 3) (q0 := 0) hK hP hD rfl rfl [0, 13] rfl (by decide) rfl) rfl rfl hl.1 rfl (lv_room (Nat.le_of_ble_eq_true rfl)) d_Dk_trySend_13 ⟨Nat.le_of_ble_eq_true rfl, Nat.le_of_ble_eq_true rfl⟩) hP hD hS hA [0, 13] rfl (fun _ => rfl) (fun u H locs hw hP hD hS => ?_)
    have hP : va_P G vwCl [(a_dk, .inr (3, [.ref a_ch, .ref a_cs, .ref a_ln, .ref a_ss, .ref a_rr, .ref a_wn, .ref a_cd, .int mt, .int (ft + nI 1)])), (a_ch, .inr (1, [.ref a_rm, .ref a_hd, .ref a_sh, .ref a_vl, .int (nI n)])), (a_rm, .inl (cI, 40, .inl (fun j => nI (room j)))), (a_hd, .inl (cI, 40, .inl (fun j => nI (held j)))), (a_sh, .inl (cZ, 40, .inl (fun j => bI (shut j)))), (a_vl, .inl (cI, 320, .inl vals)), (a_cs, .inr (0, [.ref a_cn, .ref a_cc, .ref a_cw, .ref a_cv])), (a_cn, .inl (cI, 16, .inl (fun j => nI (cnum j)))), (a_cc, .inl (cI, 96, .inl (fun j => nI (cch j)))), (a_cw, .inl (cI, 96, .inl (fun j => nI (cway j)))), (a_cv, .inl (cI, 96, .inl cval)), (a_ln, .inr (2, [.ref a_mm, .int (nI len)])), (a_mm, .inl (cI, 16, .inl (fun j => nI (mem j)))), (a_ss, .inl (cI, 16, .inl (fun j => nI ((va_up st q 4) j)))), (a_rr, .inl (cI, 16, .inl rc)), (a_wn, .inl (cI, 16, .inl (fun j => nI (sn j)))), (a_cd, .inl (cI, 16, .inl cd))] H := hP
    have hD : va_D A [(a_dk, .inr (3, [.ref a_ch, .ref a_cs, .ref a_ln, .ref a_ss, .ref a_rr, .ref a_wn, .ref a_cd, .int mt, .int (ft + nI 1)])), (a_ch, .inr (1, [.ref a_rm, .ref a_hd, .ref a_sh, .ref a_vl, .int (nI n)])), (a_rm, .inl (cI, 40, .inl (fun j => nI (room j)))), (a_hd, .inl (cI, 40, .inl (fun j => nI (held j)))), (a_sh, .inl (cZ, 40, .inl (fun j => bI (shut j)))), (a_vl, .inl (cI, 320, .inl vals)), (a_cs, .inr (0, [.ref a_cn, .ref a_cc, .ref a_cw, .ref a_cv])), (a_cn, .inl (cI, 16, .inl (fun j => nI (cnum j)))), (a_cc, .inl (cI, 96, .inl (fun j => nI (cch j)))), (a_cw, .inl (cI, 96, .inl (fun j => nI (cway j)))), (a_cv, .inl (cI, 96, .inl cval)), (a_ln, .inr (2, [.ref a_mm, .int (nI len)])), (a_mm, .inl (cI, 16, .inl (fun j => nI (mem j)))), (a_ss, .inl (cI, 16, .inl (fun j => nI ((va_up st q 4) j)))), (a_rr, .inl (cI, 16, .inl rc)), (a_wn, .inl (cI, 16, .inl (fun j => nI (sn j)))), (a_cd, .inl (cI, 16, .inl cd))] := hD
    refine lv_iconst (v := (nI 3)) hx hb d_Dk_trySend_16 (by decide +kernel) ?_
    exact k_wi hx hb hr hlocks hP hS (held, vals, cnum, len, mem, va_up st q 4, rc, sn, cd, mt, ft + nI 1, L, cs, line, 3) (rfl) (⟨rfl, m_tsend_1 c_a, Nat.le_of_ble_eq_true rfl, hV, hC, hL, st_up hst q (by decide)⟩) d_Dk_trySend_17
set_option maxHeartbeats 4000000 in
set_option maxRecDepth 100000 in
theorem c_Dk_tryReceive (l : Launch) (G : va_G) (cI cZ cJ : ClassId) (sz : Nat) (a_dk : Nat) (a_ch : Nat) (a_cs : Nat) (a_ln : Nat) (a_ss : Nat) (a_rr : Nat) (a_wn : Nat) (a_cd : Nat) (a_rm : Nat) (a_hd : Nat) (a_sh : Nat) (a_vl : Nat) (a_cn : Nat) (a_cc : Nat) (a_cw : Nat) (a_cv : Nat) (a_mm : Nat) (mt : Int32) (ft : Int32) (n : Nat) (room : Nat → Nat) (held : Nat → Nat) (shut : Nat → Bool) (vals : Nat → Int32) (cnum : Nat → Nat) (cch : Nat → Nat) (cway : Nat → Nat) (cval : Nat → Int32) (len : Nat) (mem : Nat → Nat) (st : Nat → Nat) (rc : Nat → Int32) (sn : Nat → Nat) (cd : Nat → Int32) (L : Nat → List Int32) (cs : Nat → List Kase) (line : List Nat) (q : Nat) (x : Nat) (hq : q < 16) (hx0 : x < 40) (hrm : ∀ j, j < 40 → room j ≤ 8) (hV : RelV held vals L) (hC : RelC cnum cch cway cval cs) (hL : RelL len mem line) (hst : ∀ j, j < 16 → st j < 5) : Met l y_Dk_tryReceive (w_Dk_tryReceive) ({ frames := 4, cells := 0, slots := 0, locals := 94 }) (va_Pc [.ref a_dk, .int (nI q), .int (nI x)] (kW G vwCl [(cI, .int), (cZ, .boolean), (cJ, .long)] [(a_dk, .inr (3, [.ref a_ch, .ref a_cs, .ref a_ln, .ref a_ss, .ref a_rr, .ref a_wn, .ref a_cd, .int mt, .int ft])), (a_ch, .inr (1, [.ref a_rm, .ref a_hd, .ref a_sh, .ref a_vl, .int (nI n)])), (a_rm, .inl (cI, 40, .inl (fun j => nI (room j)))), (a_hd, .inl (cI, 40, .inl (fun j => nI (held j)))), (a_sh, .inl (cZ, 40, .inl (fun j => bI (shut j)))), (a_vl, .inl (cI, 320, .inl vals)), (a_cs, .inr (0, [.ref a_cn, .ref a_cc, .ref a_cw, .ref a_cv])), (a_cn, .inl (cI, 16, .inl (fun j => nI (cnum j)))), (a_cc, .inl (cI, 96, .inl (fun j => nI (cch j)))), (a_cw, .inl (cI, 96, .inl (fun j => nI (cway j)))), (a_cv, .inl (cI, 96, .inl cval)), (a_ln, .inr (2, [.ref a_mm, .int (nI len)])), (a_mm, .inl (cI, 16, .inl (fun j => nI (mem j)))), (a_ss, .inl (cI, 16, .inl (fun j => nI (st j)))), (a_rr, .inl (cI, 16, .inl rc)), (a_wn, .inl (cI, 16, .inl (fun j => nI (sn j)))), (a_cd, .inl (cI, 16, .inl cd))] sz)) (va_Qi (fun (r : Int32) (u : (Nat → Nat) × (Nat → Int32) × (Nat → Nat) × Nat × (Nat → Nat) × (Nat → Nat) × (Nat → Int32) × (Nat → Nat) × (Nat → Int32) × Int32 × Int32 × (Nat → List Int32) × (Nat → List Kase) × List Nat × Nat) => r = (nI u.2.2.2.2.2.2.2.2.2.2.2.2.2.2) ∧ m_trecv (n, room, shut, L, cs, line, st, rc, sn, cd, mt, ft) q x = ((n, room, shut, u.2.2.2.2.2.2.2.2.2.2.2.1, u.2.2.2.2.2.2.2.2.2.2.2.2.1, u.2.2.2.2.2.2.2.2.2.2.2.2.2.1, u.2.2.2.2.2.1, u.2.2.2.2.2.2.1, u.2.2.2.2.2.2.2.1, u.2.2.2.2.2.2.2.2.1, u.2.2.2.2.2.2.2.2.2.1, u.2.2.2.2.2.2.2.2.2.2.1), u.2.2.2.2.2.2.2.2.2.2.2.2.2.2) ∧ u.2.2.2.2.2.2.2.2.2.2.2.2.2.2 ≤ 3 ∧ RelV u.1 u.2.1 u.2.2.2.2.2.2.2.2.2.2.2.1 ∧ RelC u.2.2.1 cch cway cval u.2.2.2.2.2.2.2.2.2.2.2.2.1 ∧ RelL u.2.2.2.1 u.2.2.2.2.1 u.2.2.2.2.2.2.2.2.2.2.2.2.2.1 ∧ ∀ j, j < 16 → u.2.2.2.2.2.1 j < 5) (fun u t => va_P G vwCl [(a_dk, .inr (3, [.ref a_ch, .ref a_cs, .ref a_ln, .ref a_ss, .ref a_rr, .ref a_wn, .ref a_cd, .int u.2.2.2.2.2.2.2.2.2.1, .int u.2.2.2.2.2.2.2.2.2.2.1])), (a_ch, .inr (1, [.ref a_rm, .ref a_hd, .ref a_sh, .ref a_vl, .int (nI n)])), (a_rm, .inl (cI, 40, .inl (fun j => nI (room j)))), (a_hd, .inl (cI, 40, .inl (fun j => nI (u.1 j)))), (a_sh, .inl (cZ, 40, .inl (fun j => bI (shut j)))), (a_vl, .inl (cI, 320, .inl u.2.1)), (a_cs, .inr (0, [.ref a_cn, .ref a_cc, .ref a_cw, .ref a_cv])), (a_cn, .inl (cI, 16, .inl (fun j => nI (u.2.2.1 j)))), (a_cc, .inl (cI, 96, .inl (fun j => nI (cch j)))), (a_cw, .inl (cI, 96, .inl (fun j => nI (cway j)))), (a_cv, .inl (cI, 96, .inl cval)), (a_ln, .inr (2, [.ref a_mm, .int (nI u.2.2.2.1)])), (a_mm, .inl (cI, 16, .inl (fun j => nI (u.2.2.2.2.1 j)))), (a_ss, .inl (cI, 16, .inl (fun j => nI (u.2.2.2.2.2.1 j)))), (a_rr, .inl (cI, 16, .inl u.2.2.2.2.2.2.1)), (a_wn, .inl (cI, 16, .inl (fun j => nI (u.2.2.2.2.2.2.2.1 j)))), (a_cd, .inl (cI, 16, .inl u.2.2.2.2.2.2.2.2.1))] t.heap) (va_A [(a_dk, .inr (3, [.ref a_ch, .ref a_cs, .ref a_ln, .ref a_ss, .ref a_rr, .ref a_wn, .ref a_cd, .int mt, .int ft])), (a_ch, .inr (1, [.ref a_rm, .ref a_hd, .ref a_sh, .ref a_vl, .int (nI n)])), (a_rm, .inl (cI, 40, .inl (fun j => nI (room j)))), (a_hd, .inl (cI, 40, .inl (fun j => nI (held j)))), (a_sh, .inl (cZ, 40, .inl (fun j => bI (shut j)))), (a_vl, .inl (cI, 320, .inl vals)), (a_cs, .inr (0, [.ref a_cn, .ref a_cc, .ref a_cw, .ref a_cv])), (a_cn, .inl (cI, 16, .inl (fun j => nI (cnum j)))), (a_cc, .inl (cI, 96, .inl (fun j => nI (cch j)))), (a_cw, .inl (cI, 96, .inl (fun j => nI (cway j)))), (a_cv, .inl (cI, 96, .inl cval)), (a_ln, .inr (2, [.ref a_mm, .int (nI len)])), (a_mm, .inl (cI, 16, .inl (fun j => nI (mem j)))), (a_ss, .inl (cI, 16, .inl (fun j => nI (st j)))), (a_rr, .inl (cI, 16, .inl rc)), (a_wn, .inl (cI, 16, .inl (fun j => nI (sn j)))), (a_cd, .inl (cI, 16, .inl cd))] sz)) 0 0 (va_A [(a_dk, .inr (3, [.ref a_ch, .ref a_cs, .ref a_ln, .ref a_ss, .ref a_rr, .ref a_wn, .ref a_cd, .int mt, .int ft])), (a_ch, .inr (1, [.ref a_rm, .ref a_hd, .ref a_sh, .ref a_vl, .int (nI n)])), (a_rm, .inl (cI, 40, .inl (fun j => nI (room j)))), (a_hd, .inl (cI, 40, .inl (fun j => nI (held j)))), (a_sh, .inl (cZ, 40, .inl (fun j => bI (shut j)))), (a_vl, .inl (cI, 320, .inl vals)), (a_cs, .inr (0, [.ref a_cn, .ref a_cc, .ref a_cw, .ref a_cv])), (a_cn, .inl (cI, 16, .inl (fun j => nI (cnum j)))), (a_cc, .inl (cI, 96, .inl (fun j => nI (cch j)))), (a_cw, .inl (cI, 96, .inl (fun j => nI (cway j)))), (a_cv, .inl (cI, 96, .inl cval)), (a_ln, .inr (2, [.ref a_mm, .int (nI len)])), (a_mm, .inl (cI, 16, .inl (fun j => nI (mem j)))), (a_ss, .inl (cI, 16, .inl (fun j => nI (st j)))), (a_rr, .inl (cI, 16, .inl rc)), (a_wn, .inl (cI, 16, .inl (fun j => nI (sn j)))), (a_cd, .inl (cI, 16, .inl cd))] sz) := by
  refine Met.ofW (cc := b_Dk_tryReceive) (maxL := 4) (ret := (some .int)) (by decide) rfl ?_
  intro p e s m args below meth c s₁ B hml hv
  obtain ⟨rfl, hsz, hP, hK, hD0⟩ := hv
  have hx := B.exec
  have hb := B.bytes
  have hr := B.returns
  have hts : ∀ w ∈ TT, w.before _ s = true := fun w h => atoms_spec (ws := (w_Dk_tryReceive)) B.pre w (List.mem_cons_of_mem _ h)
  have hown : s.vm.findClass R_Dk = some m.cls := findClass_of_methodNamed B.named
  have hlocks := B.notSynchronized
  subst hsz
  have hD := hD0.self (sz := s.heap.size)
  generalize hAe : va_A [(a_dk, .inr (3, [.ref a_ch, .ref a_cs, .ref a_ln, .ref a_ss, .ref a_rr, .ref a_wn, .ref a_cd, .int mt, .int ft])), (a_ch, .inr (1, [.ref a_rm, .ref a_hd, .ref a_sh, .ref a_vl, .int (nI n)])), (a_rm, .inl (cI, 40, .inl (fun j => nI (room j)))), (a_hd, .inl (cI, 40, .inl (fun j => nI (held j)))), (a_sh, .inl (cZ, 40, .inl (fun j => bI (shut j)))), (a_vl, .inl (cI, 320, .inl vals)), (a_cs, .inr (0, [.ref a_cn, .ref a_cc, .ref a_cw, .ref a_cv])), (a_cn, .inl (cI, 16, .inl (fun j => nI (cnum j)))), (a_cc, .inl (cI, 96, .inl (fun j => nI (cch j)))), (a_cw, .inl (cI, 96, .inl (fun j => nI (cway j)))), (a_cv, .inl (cI, 96, .inl cval)), (a_ln, .inr (2, [.ref a_mm, .int (nI len)])), (a_mm, .inl (cI, 16, .inl (fun j => nI (mem j)))), (a_ss, .inl (cI, 16, .inl (fun j => nI (st j)))), (a_rr, .inl (cI, 16, .inl rc)), (a_wn, .inl (cI, 16, .inl (fun j => nI (sn j)))), (a_cd, .inl (cI, 16, .inl cd))] s.heap.size = A at hD ⊢
  have hA : ∀ q : Nat, s.heap.size ≤ q → A q := fun q h => by rw [← hAe]; exact Or.inr h
  have hS : va_S A s.heap s.heap [] := va_S.rf
  have hP : va_P G vwCl [(a_dk, .inr (3, [.ref a_ch, .ref a_cs, .ref a_ln, .ref a_ss, .ref a_rr, .ref a_wn, .ref a_cd, .int mt, .int ft])), (a_ch, .inr (1, [.ref a_rm, .ref a_hd, .ref a_sh, .ref a_vl, .int (nI n)])), (a_rm, .inl (cI, 40, .inl (fun j => nI (room j)))), (a_hd, .inl (cI, 40, .inl (fun j => nI (held j)))), (a_sh, .inl (cZ, 40, .inl (fun j => bI (shut j)))), (a_vl, .inl (cI, 320, .inl vals)), (a_cs, .inr (0, [.ref a_cn, .ref a_cc, .ref a_cw, .ref a_cv])), (a_cn, .inl (cI, 16, .inl (fun j => nI (cnum j)))), (a_cc, .inl (cI, 96, .inl (fun j => nI (cch j)))), (a_cw, .inl (cI, 96, .inl (fun j => nI (cway j)))), (a_cv, .inl (cI, 96, .inl cval)), (a_ln, .inr (2, [.ref a_mm, .int (nI len)])), (a_mm, .inl (cI, 16, .inl (fun j => nI (mem j)))), (a_ss, .inl (cI, 16, .inl (fun j => nI (st j)))), (a_rr, .inl (cI, 16, .inl rc)), (a_wn, .inl (cI, 16, .inl (fun j => nI (sn j)))), (a_cd, .inl (cI, 16, .inl cd))] s.heap := hP
  have hl := lv_entry ([.ref a_dk, .int (nI q), .int (nI x)]) (n := 4) (Nat.le_of_ble_eq_true rfl)
  rw [lg_entry_eq]
  generalize (lg_sl ([.ref a_dk, .int (nI q), .int (nI x)]) ++ List.replicate (4 - (lg_sl ([.ref a_dk, .int (nI q), .int (nI x)])).length) Slot.unset).toArray = ls at hl ⊢
  have hl : lv_has ls 4 [(0, .ref a_dk), (1, .int (nI q)), (2, .int (nI x))] := hl
  have hv8 := (hV x hx0).2.1
  refine lv_aload_n hx hb d_Dk_tryReceive_0 rfl (lv_at hl 0 rfl) ?_
  refine lv_iload_n hx hb d_Dk_tryReceive_1 rfl (lv_at hl 2 rfl) ?_
  refine lv_iconst (v := (nI 0)) hx hb d_Dk_tryReceive_2 (by decide +kernel) ?_
  refine k_ro (va_runV (As := [.int (nI x), .int (nI 0)]) (rest := []) ⟨hx, hb, hml, hown, hts⟩ (c_Dk_firstWaiting l G cI cZ cJ a_dk a_ch a_cs a_ln a_ss a_rr a_wn a_cd a_mm a_cn a_cc a_cw a_cv mt ft len mem cnum cch cway cval cs line x 0 hx0 (by decide) hC hL) (cwV 2 hts (gV t_162 t_163 t_5 t_32 t_164) rfl rfl rfl (by decide +kernel) ⟨Nat.le_of_ble_eq_true rfl, Nat.le_of_ble_eq_true rfl⟩) (kR_V (ci := 3) (q0 := 0) hK hP rfl rfl [0, 11, 12, 6, 7, 8, 9] rfl) rfl rfl hl.1 rfl (lv_room (Nat.le_of_ble_eq_true rfl)) d_Dk_tryReceive_3 ⟨Nat.le_of_ble_eq_true rfl, Nat.le_of_ble_eq_true rfl⟩) ?_
  rcases hz : (wl cs line x 0)[0]? with _ | ⟨q1, i1⟩
  · refine k_top (y := (-1)) (rfl) ?_
    refine lv_istore_n (lv' := [(3, .int (-1)), (0, .ref a_dk), (1, .int (nI q)), (2, .int (nI x))]) hx hb d_Dk_tryReceive_6 rfl hl (by decide) rfl (fun ls hl => ?_)
    refine lv_aload_n hx hb d_Dk_tryReceive_7 rfl (lv_at hl 1 rfl) ?_
    refine va_get (D := G) (ci := 3) (v := .ref a_ch) (C := R_Dk) (T := T_Dk) (N := 9) hx hb hts uw_Dk hown hK hP 0 rfl rfl 0 (by decide) (hts _ t_105) (fun _ h9 => h9) rfl d_Dk_tryReceive_8 ?_
    refine lv_iload_n hx hb d_Dk_tryReceive_11 rfl (lv_at hl 3 rfl) ?_
    refine k_ro (va_runV (As := [.int (nI x)]) (rest := []) ⟨hx, hb, hml, hown, hts⟩ (c_Ch_held l G cI cZ cJ a_ch a_rm a_hd a_sh a_vl n held vals L x hx0 hV) (cwV 1 hts (gV t_225 t_226 t_227 t_33 t_228) rfl rfl rfl (by decide +kernel) ⟨Nat.le_of_ble_eq_true rfl, Nat.le_of_ble_eq_true rfl⟩) (kR_V (ci := 1) (q0 := 1) hK hP rfl rfl [1, 3] rfl) rfl rfl hl.1 rfl (lv_room (Nat.le_of_ble_eq_true rfl)) d_Dk_tryReceive_12 ⟨Nat.le_of_ble_eq_true rfl, Nat.le_of_ble_eq_true rfl⟩) ?_
    refine n_if_le (tgt := 53) hx hb d_Dk_tryReceive_15 (by decide) (by omega) (fun c_a => ?_) (fun c_a => ?_)
    · have hL0 : L x = [] := List.eq_nil_of_length_eq_zero c_a
      refine lv_iload_n hx hb d_Dk_tryReceive_53 rfl (lv_at hl 0 rfl) ?_
      refine lv_iconst (v := (-1)) hx hb d_Dk_tryReceive_54 (by decide +kernel) ?_
      refine lv_icmp_eq (tgt := 71) hx hb d_Dk_tryReceive_55 (by decide) (fun c_c => ?_) (fun c_c => absurd rfl c_c)
      refine lv_aload_n hx hb d_Dk_tryReceive_71 rfl (lv_at hl 1 rfl) ?_
      refine va_get (D := G) (ci := 3) (v := .ref a_ch) (C := R_Dk) (T := T_Dk) (N := 9) hx hb hts uw_Dk hown hK hP 0 rfl rfl 0 (by decide) (hts _ t_105) (fun _ h9 => h9) rfl d_Dk_tryReceive_72 ?_
      refine lv_iload_n hx hb d_Dk_tryReceive_75 rfl (lv_at hl 3 rfl) ?_
      refine k_ro (va_runV (As := [.int (nI x)]) (rest := []) ⟨hx, hb, hml, hown, hts⟩ (c_Ch_isShut l G cI cZ cJ a_ch a_rm a_hd a_sh a_vl n shut x hx0) (cwV 1 hts (gV t_155 t_156 t_157 t_33 t_158) rfl rfl rfl (by decide +kernel) ⟨Nat.le_of_ble_eq_true rfl, Nat.le_of_ble_eq_true rfl⟩) (kR_V (ci := 1) (q0 := 1) hK hP rfl rfl [1, 4] rfl) rfl rfl hl.1 rfl (lv_room (Nat.le_of_ble_eq_true rfl)) d_Dk_tryReceive_76 ⟨Nat.le_of_ble_eq_true rfl, Nat.le_of_ble_eq_true rfl⟩) ?_
      refine b_if_eq (tgt := 91) hx hb d_Dk_tryReceive_79 (by decide) (fun c_d => ?_) (fun c_d => ?_)
      · refine lv_iconst (v := (nI 2)) hx hb d_Dk_tryReceive_91 (by decide +kernel) ?_
        exact k_wi hx hb hr hlocks hP hS (held, vals, cnum, len, mem, st, rc, sn, cd, mt, ft, L, cs, line, 2) (rfl) (⟨rfl, m_trecv_5 hL0 hz c_d, Nat.le_of_ble_eq_true rfl, hV, hC, hL, hst⟩) d_Dk_tryReceive_92
      · refine lv_aload_n hx hb d_Dk_tryReceive_82 rfl (lv_at hl 1 rfl) ?_
        refine lv_iload_n hx hb d_Dk_tryReceive_83 rfl (lv_at hl 2 rfl) ?_
        refine lv_iconst (v := (nI 0)) hx hb d_Dk_tryReceive_84 (by decide +kernel) ?_
        refine lv_iconst (v := (nI 0)) hx hb d_Dk_tryReceive_85 (by decide +kernel) ?_
        refine k_rwv (va_runV (As := [.int (nI q), .int (nI 0), .int (nI 0)]) (rest := []) ⟨hx, hb, hml, hown, hts⟩ (c_Dk_hand l G cI cZ cJ s.heap.size a_dk a_ch a_cs a_ln a_ss a_rr a_wn a_cd mt ft rc sn q (nI 0) 0 hq) (cwV 3 hts (gV t_196 t_197 t_8 t_32 t_198) rfl rfl rfl (by decide +kernel) ⟨Nat.le_of_ble_eq_true rfl, Nat.le_of_ble_eq_true rfl⟩) (kW_V (ci := 3) (q0 := 0) hK hP hD rfl rfl [0, 14, 15] rfl (by decide) rfl) rfl rfl hl.1 rfl (lv_room (Nat.le_of_ble_eq_true rfl)) d_Dk_tryReceive_86 ⟨Nat.le_of_ble_eq_true rfl, Nat.le_of_ble_eq_true rfl⟩) hP hD hS hA [0, 14, 15] rfl (fun _ => rfl) (fun u H locs hw hP hD hS => ?_)
        have hP : va_P G vwCl [(a_dk, .inr (3, [.ref a_ch, .ref a_cs, .ref a_ln, .ref a_ss, .ref a_rr, .ref a_wn, .ref a_cd, .int mt, .int ft])), (a_ch, .inr (1, [.ref a_rm, .ref a_hd, .ref a_sh, .ref a_vl, .int (nI n)])), (a_rm, .inl (cI, 40, .inl (fun j => nI (room j)))), (a_hd, .inl (cI, 40, .inl (fun j => nI (held j)))), (a_sh, .inl (cZ, 40, .inl (fun j => bI (shut j)))), (a_vl, .inl (cI, 320, .inl vals)), (a_cs, .inr (0, [.ref a_cn, .ref a_cc, .ref a_cw, .ref a_cv])), (a_cn, .inl (cI, 16, .inl (fun j => nI (cnum j)))), (a_cc, .inl (cI, 96, .inl (fun j => nI (cch j)))), (a_cw, .inl (cI, 96, .inl (fun j => nI (cway j)))), (a_cv, .inl (cI, 96, .inl cval)), (a_ln, .inr (2, [.ref a_mm, .int (nI len)])), (a_mm, .inl (cI, 16, .inl (fun j => nI (mem j)))), (a_ss, .inl (cI, 16, .inl (fun j => nI (st j)))), (a_rr, .inl (cI, 16, .inl (va_up rc q (nI 0)))), (a_wn, .inl (cI, 16, .inl (fun j => nI ((va_up sn q 0) j)))), (a_cd, .inl (cI, 16, .inl cd))] H := hP
        have hD : va_D A [(a_dk, .inr (3, [.ref a_ch, .ref a_cs, .ref a_ln, .ref a_ss, .ref a_rr, .ref a_wn, .ref a_cd, .int mt, .int ft])), (a_ch, .inr (1, [.ref a_rm, .ref a_hd, .ref a_sh, .ref a_vl, .int (nI n)])), (a_rm, .inl (cI, 40, .inl (fun j => nI (room j)))), (a_hd, .inl (cI, 40, .inl (fun j => nI (held j)))), (a_sh, .inl (cZ, 40, .inl (fun j => bI (shut j)))), (a_vl, .inl (cI, 320, .inl vals)), (a_cs, .inr (0, [.ref a_cn, .ref a_cc, .ref a_cw, .ref a_cv])), (a_cn, .inl (cI, 16, .inl (fun j => nI (cnum j)))), (a_cc, .inl (cI, 96, .inl (fun j => nI (cch j)))), (a_cw, .inl (cI, 96, .inl (fun j => nI (cway j)))), (a_cv, .inl (cI, 96, .inl cval)), (a_ln, .inr (2, [.ref a_mm, .int (nI len)])), (a_mm, .inl (cI, 16, .inl (fun j => nI (mem j)))), (a_ss, .inl (cI, 16, .inl (fun j => nI (st j)))), (a_rr, .inl (cI, 16, .inl (va_up rc q (nI 0)))), (a_wn, .inl (cI, 16, .inl (fun j => nI ((va_up sn q 0) j)))), (a_cd, .inl (cI, 16, .inl cd))] := hD
        refine lv_iconst (v := (nI 1)) hx hb d_Dk_tryReceive_89 (by decide +kernel) ?_
        exact k_wi hx hb hr hlocks hP hS (held, vals, cnum, len, mem, st, va_up rc q (nI 0), va_up sn q 0, cd, mt, ft, L, cs, line, 1) (rfl) (⟨rfl, m_trecv_4 hL0 hz c_d, Nat.le_of_ble_eq_true rfl, hV, hC, hL, hst⟩) d_Dk_tryReceive_90
    · obtain ⟨v0, vs, hLx⟩ := cons_of c_a
      refine lv_aload_n hx hb d_Dk_tryReceive_18 rfl (lv_at hl 1 rfl) ?_
      refine lv_iload_n hx hb d_Dk_tryReceive_19 rfl (lv_at hl 2 rfl) ?_
      refine lv_aload_n hx hb d_Dk_tryReceive_20 rfl (lv_at hl 1 rfl) ?_
      refine va_get (D := G) (ci := 3) (v := .ref a_ch) (C := R_Dk) (T := T_Dk) (N := 9) hx hb hts uw_Dk hown hK hP 0 rfl rfl 0 (by decide) (hts _ t_105) (fun _ h9 => h9) rfl d_Dk_tryReceive_21 ?_
      refine lv_iload_n hx hb d_Dk_tryReceive_24 rfl (lv_at hl 3 rfl) ?_
      refine k_rwi (va_runV (As := [.int (nI x)]) (rest := [.int (nI q), .ref a_dk]) ⟨hx, hb, hml, hown, hts⟩ (c_Ch_takeFirst l G cI cZ cJ s.heap.size a_ch a_rm a_hd a_sh a_vl n held vals L x hx0 hV) (cwV 1 hts (gV t_229 t_230 t_231 t_33 t_232) rfl rfl rfl (by decide +kernel) ⟨Nat.le_of_ble_eq_true rfl, Nat.le_of_ble_eq_true rfl⟩) (kW_V (ci := 1) (q0 := 1) hK hP hD rfl rfl [1, 3, 5] rfl (by decide) rfl) rfl rfl hl.1 rfl (lv_room (Nat.le_of_ble_eq_true rfl)) d_Dk_tryReceive_25 ⟨Nat.le_of_ble_eq_true rfl, Nat.le_of_ble_eq_true rfl⟩) hP hD hS hA [1, 3, 5] rfl (fun _ => rfl) (fun r_5 u H locs hw hP hD hS => ?_)
      obtain ⟨held_5, vals_5⟩ := u
      obtain ⟨rfl, hV⟩ := hw
      have hV : RelV held_5 vals_5 (popL L x) := hV
      have hP : va_P G vwCl [(a_dk, .inr (3, [.ref a_ch, .ref a_cs, .ref a_ln, .ref a_ss, .ref a_rr, .ref a_wn, .ref a_cd, .int mt, .int ft])), (a_ch, .inr (1, [.ref a_rm, .ref a_hd, .ref a_sh, .ref a_vl, .int (nI n)])), (a_rm, .inl (cI, 40, .inl (fun j => nI (room j)))), (a_hd, .inl (cI, 40, .inl (fun j => nI (held_5 j)))), (a_sh, .inl (cZ, 40, .inl (fun j => bI (shut j)))), (a_vl, .inl (cI, 320, .inl vals_5)), (a_cs, .inr (0, [.ref a_cn, .ref a_cc, .ref a_cw, .ref a_cv])), (a_cn, .inl (cI, 16, .inl (fun j => nI (cnum j)))), (a_cc, .inl (cI, 96, .inl (fun j => nI (cch j)))), (a_cw, .inl (cI, 96, .inl (fun j => nI (cway j)))), (a_cv, .inl (cI, 96, .inl cval)), (a_ln, .inr (2, [.ref a_mm, .int (nI len)])), (a_mm, .inl (cI, 16, .inl (fun j => nI (mem j)))), (a_ss, .inl (cI, 16, .inl (fun j => nI (st j)))), (a_rr, .inl (cI, 16, .inl rc)), (a_wn, .inl (cI, 16, .inl (fun j => nI (sn j)))), (a_cd, .inl (cI, 16, .inl cd))] H := hP
      have hD : va_D A [(a_dk, .inr (3, [.ref a_ch, .ref a_cs, .ref a_ln, .ref a_ss, .ref a_rr, .ref a_wn, .ref a_cd, .int mt, .int ft])), (a_ch, .inr (1, [.ref a_rm, .ref a_hd, .ref a_sh, .ref a_vl, .int (nI n)])), (a_rm, .inl (cI, 40, .inl (fun j => nI (room j)))), (a_hd, .inl (cI, 40, .inl (fun j => nI (held_5 j)))), (a_sh, .inl (cZ, 40, .inl (fun j => bI (shut j)))), (a_vl, .inl (cI, 320, .inl vals_5)), (a_cs, .inr (0, [.ref a_cn, .ref a_cc, .ref a_cw, .ref a_cv])), (a_cn, .inl (cI, 16, .inl (fun j => nI (cnum j)))), (a_cc, .inl (cI, 96, .inl (fun j => nI (cch j)))), (a_cw, .inl (cI, 96, .inl (fun j => nI (cway j)))), (a_cv, .inl (cI, 96, .inl cval)), (a_ln, .inr (2, [.ref a_mm, .int (nI len)])), (a_mm, .inl (cI, 16, .inl (fun j => nI (mem j)))), (a_ss, .inl (cI, 16, .inl (fun j => nI (st j)))), (a_rr, .inl (cI, 16, .inl rc)), (a_wn, .inl (cI, 16, .inl (fun j => nI (sn j)))), (a_cd, .inl (cI, 16, .inl cd))] := hD
      refine k_top (y := v0) (by rw [hLx]; rfl) ?_
      refine lv_iconst (v := (nI 1)) hx hb d_Dk_tryReceive_28 (by decide +kernel) ?_
      refine k_rwv (va_runV (As := [.int (nI q), .int v0, .int (nI 1)]) (rest := []) ⟨hx, hb, hml, hown, hts⟩ (c_Dk_hand l G cI cZ cJ H.size a_dk a_ch a_cs a_ln a_ss a_rr a_wn a_cd mt ft rc sn q v0 1 hq) (cwV 3 hts (gV t_196 t_197 t_8 t_32 t_198) rfl rfl rfl (by decide +kernel) ⟨Nat.le_of_ble_eq_true rfl, Nat.le_of_ble_eq_true rfl⟩) (kW_V (ci := 3) (q0 := 0) hK hP hD rfl rfl [0, 14, 15] rfl (by decide) rfl) rfl rfl hl.1 rfl (lv_room (Nat.le_of_ble_eq_true rfl)) d_Dk_tryReceive_29 ⟨Nat.le_of_ble_eq_true rfl, Nat.le_of_ble_eq_true rfl⟩) hP hD hS hA [0, 14, 15] rfl (fun _ => rfl) (fun u H locs hw hP hD hS => ?_)
      have hP : va_P G vwCl [(a_dk, .inr (3, [.ref a_ch, .ref a_cs, .ref a_ln, .ref a_ss, .ref a_rr, .ref a_wn, .ref a_cd, .int mt, .int ft])), (a_ch, .inr (1, [.ref a_rm, .ref a_hd, .ref a_sh, .ref a_vl, .int (nI n)])), (a_rm, .inl (cI, 40, .inl (fun j => nI (room j)))), (a_hd, .inl (cI, 40, .inl (fun j => nI (held_5 j)))), (a_sh, .inl (cZ, 40, .inl (fun j => bI (shut j)))), (a_vl, .inl (cI, 320, .inl vals_5)), (a_cs, .inr (0, [.ref a_cn, .ref a_cc, .ref a_cw, .ref a_cv])), (a_cn, .inl (cI, 16, .inl (fun j => nI (cnum j)))), (a_cc, .inl (cI, 96, .inl (fun j => nI (cch j)))), (a_cw, .inl (cI, 96, .inl (fun j => nI (cway j)))), (a_cv, .inl (cI, 96, .inl cval)), (a_ln, .inr (2, [.ref a_mm, .int (nI len)])), (a_mm, .inl (cI, 16, .inl (fun j => nI (mem j)))), (a_ss, .inl (cI, 16, .inl (fun j => nI (st j)))), (a_rr, .inl (cI, 16, .inl (va_up rc q v0))), (a_wn, .inl (cI, 16, .inl (fun j => nI ((va_up sn q 1) j)))), (a_cd, .inl (cI, 16, .inl cd))] H := hP
      have hD : va_D A [(a_dk, .inr (3, [.ref a_ch, .ref a_cs, .ref a_ln, .ref a_ss, .ref a_rr, .ref a_wn, .ref a_cd, .int mt, .int ft])), (a_ch, .inr (1, [.ref a_rm, .ref a_hd, .ref a_sh, .ref a_vl, .int (nI n)])), (a_rm, .inl (cI, 40, .inl (fun j => nI (room j)))), (a_hd, .inl (cI, 40, .inl (fun j => nI (held_5 j)))), (a_sh, .inl (cZ, 40, .inl (fun j => bI (shut j)))), (a_vl, .inl (cI, 320, .inl vals_5)), (a_cs, .inr (0, [.ref a_cn, .ref a_cc, .ref a_cw, .ref a_cv])), (a_cn, .inl (cI, 16, .inl (fun j => nI (cnum j)))), (a_cc, .inl (cI, 96, .inl (fun j => nI (cch j)))), (a_cw, .inl (cI, 96, .inl (fun j => nI (cway j)))), (a_cv, .inl (cI, 96, .inl cval)), (a_ln, .inr (2, [.ref a_mm, .int (nI len)])), (a_mm, .inl (cI, 16, .inl (fun j => nI (mem j)))), (a_ss, .inl (cI, 16, .inl (fun j => nI (st j)))), (a_rr, .inl (cI, 16, .inl (va_up rc q v0))), (a_wn, .inl (cI, 16, .inl (fun j => nI ((va_up sn q 1) j)))), (a_cd, .inl (cI, 16, .inl cd))] := hD
      refine lv_iload_n hx hb d_Dk_tryReceive_32 rfl (lv_at hl 0 rfl) ?_
      refine lv_iconst (v := (-1)) hx hb d_Dk_tryReceive_33 (by decide +kernel) ?_
      refine lv_icmp_eq (tgt := 51) hx hb d_Dk_tryReceive_34 (by decide) (fun c_b => ?_) (fun c_b => absurd rfl c_b)
      refine lv_iconst (v := (nI 1)) hx hb d_Dk_tryReceive_51 (by decide +kernel) ?_
      exact k_wi hx hb hr hlocks hP hS (held_5, vals_5, cnum, len, mem, st, va_up rc q v0, va_up sn q 1, cd, mt, ft, popL L x, cs, line, 1) (rfl) (⟨rfl, m_trecv_2 hLx hz, Nat.le_of_ble_eq_true rfl, hV, hC, hL, hst⟩) d_Dk_tryReceive_52
  · have hz1 := wl_mem (List.mem_of_getElem? hz)
    have hq1 : q1 < 16 := RelL_lt hL hz1.1
    have hi1 : i1 < (cs q1).length := fa_lt hz1.2
    have h61 := (hC q1 hq1).2.1
    refine k_top (y := (nI (q1 * 6 + i1))) (rfl) ?_
    refine lv_istore_n (lv' := [(3, .int (nI (q1 * 6 + i1))), (0, .ref a_dk), (1, .int (nI q)), (2, .int (nI x))]) hx hb d_Dk_tryReceive_6 rfl hl (by decide) rfl (fun ls hl => ?_)
    refine lv_aload_n hx hb d_Dk_tryReceive_7 rfl (lv_at hl 1 rfl) ?_
    refine va_get (D := G) (ci := 3) (v := .ref a_ch) (C := R_Dk) (T := T_Dk) (N := 9) hx hb hts uw_Dk hown hK hP 0 rfl rfl 0 (by decide) (hts _ t_105) (fun _ h9 => h9) rfl d_Dk_tryReceive_8 ?_
    refine lv_iload_n hx hb d_Dk_tryReceive_11 rfl (lv_at hl 3 rfl) ?_
    refine k_ro (va_runV (As := [.int (nI x)]) (rest := []) ⟨hx, hb, hml, hown, hts⟩ (c_Ch_held l G cI cZ cJ a_ch a_rm a_hd a_sh a_vl n held vals L x hx0 hV) (cwV 1 hts (gV t_225 t_226 t_227 t_33 t_228) rfl rfl rfl (by decide +kernel) ⟨Nat.le_of_ble_eq_true rfl, Nat.le_of_ble_eq_true rfl⟩) (kR_V (ci := 1) (q0 := 1) hK hP rfl rfl [1, 3] rfl) rfl rfl hl.1 rfl (lv_room (Nat.le_of_ble_eq_true rfl)) d_Dk_tryReceive_12 ⟨Nat.le_of_ble_eq_true rfl, Nat.le_of_ble_eq_true rfl⟩) ?_
    refine n_if_le (tgt := 53) hx hb d_Dk_tryReceive_15 (by decide) (by omega) (fun c_a => ?_) (fun c_a => ?_)
    · have hL0 : L x = [] := List.eq_nil_of_length_eq_zero c_a
      refine lv_iload_n hx hb d_Dk_tryReceive_53 rfl (lv_at hl 0 rfl) ?_
      refine lv_iconst (v := (-1)) hx hb d_Dk_tryReceive_54 (by decide +kernel) ?_
      refine lv_icmp_eq (tgt := 71) hx hb d_Dk_tryReceive_55 (by decide) (fun c_c => absurd c_c (nI_m1 (by omega))) (fun c_c => ?_)
      refine lv_aload_n hx hb d_Dk_tryReceive_58 rfl (lv_at hl 1 rfl) ?_
      refine lv_iload_n hx hb d_Dk_tryReceive_59 rfl (lv_at hl 2 rfl) ?_
      refine lv_aload_n hx hb d_Dk_tryReceive_60 rfl (lv_at hl 1 rfl) ?_
      refine lv_iload_n hx hb d_Dk_tryReceive_61 rfl (lv_at hl 0 rfl) ?_
      refine k_rwi (va_runV (As := [.int (nI (q1 * 6 + i1))]) (rest := [.int (nI q), .ref a_dk]) ⟨hx, hb, hml, hown, hts⟩ (c_Dk_takeFromSender l G cI cZ cJ s.heap.size a_dk a_ch a_cs a_ln a_ss a_rr a_wn a_cd a_cn a_cc a_cw a_cv a_mm mt ft st cd cnum cval len mem cch cway cs line q1 i1 hq1 hi1 hst hC hL) (cwV 1 hts (gV t_236 t_237 t_11 t_32 t_238) rfl rfl rfl (by decide +kernel) ⟨Nat.le_of_ble_eq_true rfl, Nat.le_of_ble_eq_true rfl⟩) (kW_V (ci := 3) (q0 := 0) hK hP hD rfl rfl [0, 13, 16, 6, 7, 10, 11, 12] rfl (by decide) rfl) rfl rfl hl.1 rfl (lv_room (Nat.le_of_ble_eq_true rfl)) d_Dk_tryReceive_62 ⟨Nat.le_of_ble_eq_true rfl, Nat.le_of_ble_eq_true rfl⟩) hP hD hS hA [0, 13, 16, 6, 7, 10, 11, 12] rfl (fun _ => rfl) (fun r_10 u H locs hw hP hD hS => ?_)
      obtain ⟨len_10, mem_10⟩ := u
      obtain ⟨rfl, hC, hL⟩ := hw
      have hC : RelC (va_up cnum q1 0) cch cway cval (va_up cs q1 []) := hC
      have hL : RelL len_10 mem_10 (outL line q1) := hL
      have hP : va_P G vwCl [(a_dk, .inr (3, [.ref a_ch, .ref a_cs, .ref a_ln, .ref a_ss, .ref a_rr, .ref a_wn, .ref a_cd, .int (mt + nI 1), .int ft])), (a_ch, .inr (1, [.ref a_rm, .ref a_hd, .ref a_sh, .ref a_vl, .int (nI n)])), (a_rm, .inl (cI, 40, .inl (fun j => nI (room j)))), (a_hd, .inl (cI, 40, .inl (fun j => nI (held j)))), (a_sh, .inl (cZ, 40, .inl (fun j => bI (shut j)))), (a_vl, .inl (cI, 320, .inl vals)), (a_cs, .inr (0, [.ref a_cn, .ref a_cc, .ref a_cw, .ref a_cv])), (a_cn, .inl (cI, 16, .inl (fun j => nI ((va_up cnum q1 0) j)))), (a_cc, .inl (cI, 96, .inl (fun j => nI (cch j)))), (a_cw, .inl (cI, 96, .inl (fun j => nI (cway j)))), (a_cv, .inl (cI, 96, .inl cval)), (a_ln, .inr (2, [.ref a_mm, .int (nI len_10)])), (a_mm, .inl (cI, 16, .inl (fun j => nI (mem_10 j)))), (a_ss, .inl (cI, 16, .inl (fun j => nI ((va_up st q1 0) j)))), (a_rr, .inl (cI, 16, .inl rc)), (a_wn, .inl (cI, 16, .inl (fun j => nI (sn j)))), (a_cd, .inl (cI, 16, .inl (cdE st cd q1 i1)))] H := hP
      have hD : va_D A [(a_dk, .inr (3, [.ref a_ch, .ref a_cs, .ref a_ln, .ref a_ss, .ref a_rr, .ref a_wn, .ref a_cd, .int (mt + nI 1), .int ft])), (a_ch, .inr (1, [.ref a_rm, .ref a_hd, .ref a_sh, .ref a_vl, .int (nI n)])), (a_rm, .inl (cI, 40, .inl (fun j => nI (room j)))), (a_hd, .inl (cI, 40, .inl (fun j => nI (held j)))), (a_sh, .inl (cZ, 40, .inl (fun j => bI (shut j)))), (a_vl, .inl (cI, 320, .inl vals)), (a_cs, .inr (0, [.ref a_cn, .ref a_cc, .ref a_cw, .ref a_cv])), (a_cn, .inl (cI, 16, .inl (fun j => nI ((va_up cnum q1 0) j)))), (a_cc, .inl (cI, 96, .inl (fun j => nI (cch j)))), (a_cw, .inl (cI, 96, .inl (fun j => nI (cway j)))), (a_cv, .inl (cI, 96, .inl cval)), (a_ln, .inr (2, [.ref a_mm, .int (nI len_10)])), (a_mm, .inl (cI, 16, .inl (fun j => nI (mem_10 j)))), (a_ss, .inl (cI, 16, .inl (fun j => nI ((va_up st q1 0) j)))), (a_rr, .inl (cI, 16, .inl rc)), (a_wn, .inl (cI, 16, .inl (fun j => nI (sn j)))), (a_cd, .inl (cI, 16, .inl (cdE st cd q1 i1)))] := hD
      refine lv_iconst (v := (nI 1)) hx hb d_Dk_tryReceive_65 (by decide +kernel) ?_
      refine k_rwv (va_runV (As := [.int (nI q), .int ((kAt cs q1 i1).2.2), .int (nI 1)]) (rest := []) ⟨hx, hb, hml, hown, hts⟩ (c_Dk_hand l G cI cZ cJ H.size a_dk a_ch a_cs a_ln a_ss a_rr a_wn a_cd (mt + nI 1) ft rc sn q ((kAt cs q1 i1).2.2) 1 hq) (cwV 3 hts (gV t_196 t_197 t_8 t_32 t_198) rfl rfl rfl (by decide +kernel) ⟨Nat.le_of_ble_eq_true rfl, Nat.le_of_ble_eq_true rfl⟩) (kW_V (ci := 3) (q0 := 0) hK hP hD rfl rfl [0, 14, 15] rfl (by decide) rfl) rfl rfl hl.1 rfl (lv_room (Nat.le_of_ble_eq_true rfl)) d_Dk_tryReceive_66 ⟨Nat.le_of_ble_eq_true rfl, Nat.le_of_ble_eq_true rfl⟩) hP hD hS hA [0, 14, 15] rfl (fun _ => rfl) (fun u H locs hw hP hD hS => ?_)
      have hP : va_P G vwCl [(a_dk, .inr (3, [.ref a_ch, .ref a_cs, .ref a_ln, .ref a_ss, .ref a_rr, .ref a_wn, .ref a_cd, .int (mt + nI 1), .int ft])), (a_ch, .inr (1, [.ref a_rm, .ref a_hd, .ref a_sh, .ref a_vl, .int (nI n)])), (a_rm, .inl (cI, 40, .inl (fun j => nI (room j)))), (a_hd, .inl (cI, 40, .inl (fun j => nI (held j)))), (a_sh, .inl (cZ, 40, .inl (fun j => bI (shut j)))), (a_vl, .inl (cI, 320, .inl vals)), (a_cs, .inr (0, [.ref a_cn, .ref a_cc, .ref a_cw, .ref a_cv])), (a_cn, .inl (cI, 16, .inl (fun j => nI ((va_up cnum q1 0) j)))), (a_cc, .inl (cI, 96, .inl (fun j => nI (cch j)))), (a_cw, .inl (cI, 96, .inl (fun j => nI (cway j)))), (a_cv, .inl (cI, 96, .inl cval)), (a_ln, .inr (2, [.ref a_mm, .int (nI len_10)])), (a_mm, .inl (cI, 16, .inl (fun j => nI (mem_10 j)))), (a_ss, .inl (cI, 16, .inl (fun j => nI ((va_up st q1 0) j)))), (a_rr, .inl (cI, 16, .inl (va_up rc q ((kAt cs q1 i1).2.2)))), (a_wn, .inl (cI, 16, .inl (fun j => nI ((va_up sn q 1) j)))), (a_cd, .inl (cI, 16, .inl (cdE st cd q1 i1)))] H := hP
      have hD : va_D A [(a_dk, .inr (3, [.ref a_ch, .ref a_cs, .ref a_ln, .ref a_ss, .ref a_rr, .ref a_wn, .ref a_cd, .int (mt + nI 1), .int ft])), (a_ch, .inr (1, [.ref a_rm, .ref a_hd, .ref a_sh, .ref a_vl, .int (nI n)])), (a_rm, .inl (cI, 40, .inl (fun j => nI (room j)))), (a_hd, .inl (cI, 40, .inl (fun j => nI (held j)))), (a_sh, .inl (cZ, 40, .inl (fun j => bI (shut j)))), (a_vl, .inl (cI, 320, .inl vals)), (a_cs, .inr (0, [.ref a_cn, .ref a_cc, .ref a_cw, .ref a_cv])), (a_cn, .inl (cI, 16, .inl (fun j => nI ((va_up cnum q1 0) j)))), (a_cc, .inl (cI, 96, .inl (fun j => nI (cch j)))), (a_cw, .inl (cI, 96, .inl (fun j => nI (cway j)))), (a_cv, .inl (cI, 96, .inl cval)), (a_ln, .inr (2, [.ref a_mm, .int (nI len_10)])), (a_mm, .inl (cI, 16, .inl (fun j => nI (mem_10 j)))), (a_ss, .inl (cI, 16, .inl (fun j => nI ((va_up st q1 0) j)))), (a_rr, .inl (cI, 16, .inl (va_up rc q ((kAt cs q1 i1).2.2)))), (a_wn, .inl (cI, 16, .inl (fun j => nI ((va_up sn q 1) j)))), (a_cd, .inl (cI, 16, .inl (cdE st cd q1 i1)))] := hD
      refine lv_iconst (v := (nI 1)) hx hb d_Dk_tryReceive_69 (by decide +kernel) ?_
      exact k_wi hx hb hr hlocks hP hS (held, vals, va_up cnum q1 0, len_10, mem_10, va_up st q1 0, va_up rc q ((kAt cs q1 i1).2.2), va_up sn q 1, cdE st cd q1 i1, mt + nI 1, ft, L, va_up cs q1 [], outL line q1, 1) (rfl) (⟨rfl, m_trecv_3 (z := (q1, i1)) hL0 hz, Nat.le_of_ble_eq_true rfl, hV, hC, hL, st_up hst q1 (by decide)⟩) d_Dk_tryReceive_70
    · obtain ⟨v0, vs, hLx⟩ := cons_of c_a
      refine lv_aload_n hx hb d_Dk_tryReceive_18 rfl (lv_at hl 1 rfl) ?_
      refine lv_iload_n hx hb d_Dk_tryReceive_19 rfl (lv_at hl 2 rfl) ?_
      refine lv_aload_n hx hb d_Dk_tryReceive_20 rfl (lv_at hl 1 rfl) ?_
      refine va_get (D := G) (ci := 3) (v := .ref a_ch) (C := R_Dk) (T := T_Dk) (N := 9) hx hb hts uw_Dk hown hK hP 0 rfl rfl 0 (by decide) (hts _ t_105) (fun _ h9 => h9) rfl d_Dk_tryReceive_21 ?_
      refine lv_iload_n hx hb d_Dk_tryReceive_24 rfl (lv_at hl 3 rfl) ?_
      refine k_rwi (va_runV (As := [.int (nI x)]) (rest := [.int (nI q), .ref a_dk]) ⟨hx, hb, hml, hown, hts⟩ (c_Ch_takeFirst l G cI cZ cJ s.heap.size a_ch a_rm a_hd a_sh a_vl n held vals L x hx0 hV) (cwV 1 hts (gV t_229 t_230 t_231 t_33 t_232) rfl rfl rfl (by decide +kernel) ⟨Nat.le_of_ble_eq_true rfl, Nat.le_of_ble_eq_true rfl⟩) (kW_V (ci := 1) (q0 := 1) hK hP hD rfl rfl [1, 3, 5] rfl (by decide) rfl) rfl rfl hl.1 rfl (lv_room (Nat.le_of_ble_eq_true rfl)) d_Dk_tryReceive_25 ⟨Nat.le_of_ble_eq_true rfl, Nat.le_of_ble_eq_true rfl⟩) hP hD hS hA [1, 3, 5] rfl (fun _ => rfl) (fun r_12 u H locs hw hP hD hS => ?_)
      obtain ⟨held_12, vals_12⟩ := u
      obtain ⟨rfl, hV⟩ := hw
      have hV : RelV held_12 vals_12 (popL L x) := hV
      have hP : va_P G vwCl [(a_dk, .inr (3, [.ref a_ch, .ref a_cs, .ref a_ln, .ref a_ss, .ref a_rr, .ref a_wn, .ref a_cd, .int mt, .int ft])), (a_ch, .inr (1, [.ref a_rm, .ref a_hd, .ref a_sh, .ref a_vl, .int (nI n)])), (a_rm, .inl (cI, 40, .inl (fun j => nI (room j)))), (a_hd, .inl (cI, 40, .inl (fun j => nI (held_12 j)))), (a_sh, .inl (cZ, 40, .inl (fun j => bI (shut j)))), (a_vl, .inl (cI, 320, .inl vals_12)), (a_cs, .inr (0, [.ref a_cn, .ref a_cc, .ref a_cw, .ref a_cv])), (a_cn, .inl (cI, 16, .inl (fun j => nI (cnum j)))), (a_cc, .inl (cI, 96, .inl (fun j => nI (cch j)))), (a_cw, .inl (cI, 96, .inl (fun j => nI (cway j)))), (a_cv, .inl (cI, 96, .inl cval)), (a_ln, .inr (2, [.ref a_mm, .int (nI len)])), (a_mm, .inl (cI, 16, .inl (fun j => nI (mem j)))), (a_ss, .inl (cI, 16, .inl (fun j => nI (st j)))), (a_rr, .inl (cI, 16, .inl rc)), (a_wn, .inl (cI, 16, .inl (fun j => nI (sn j)))), (a_cd, .inl (cI, 16, .inl cd))] H := hP
      have hD : va_D A [(a_dk, .inr (3, [.ref a_ch, .ref a_cs, .ref a_ln, .ref a_ss, .ref a_rr, .ref a_wn, .ref a_cd, .int mt, .int ft])), (a_ch, .inr (1, [.ref a_rm, .ref a_hd, .ref a_sh, .ref a_vl, .int (nI n)])), (a_rm, .inl (cI, 40, .inl (fun j => nI (room j)))), (a_hd, .inl (cI, 40, .inl (fun j => nI (held_12 j)))), (a_sh, .inl (cZ, 40, .inl (fun j => bI (shut j)))), (a_vl, .inl (cI, 320, .inl vals_12)), (a_cs, .inr (0, [.ref a_cn, .ref a_cc, .ref a_cw, .ref a_cv])), (a_cn, .inl (cI, 16, .inl (fun j => nI (cnum j)))), (a_cc, .inl (cI, 96, .inl (fun j => nI (cch j)))), (a_cw, .inl (cI, 96, .inl (fun j => nI (cway j)))), (a_cv, .inl (cI, 96, .inl cval)), (a_ln, .inr (2, [.ref a_mm, .int (nI len)])), (a_mm, .inl (cI, 16, .inl (fun j => nI (mem j)))), (a_ss, .inl (cI, 16, .inl (fun j => nI (st j)))), (a_rr, .inl (cI, 16, .inl rc)), (a_wn, .inl (cI, 16, .inl (fun j => nI (sn j)))), (a_cd, .inl (cI, 16, .inl cd))] := hD
      refine k_top (y := v0) (by rw [hLx]; rfl) ?_
      refine lv_iconst (v := (nI 1)) hx hb d_Dk_tryReceive_28 (by decide +kernel) ?_
      refine k_rwv (va_runV (As := [.int (nI q), .int v0, .int (nI 1)]) (rest := []) ⟨hx, hb, hml, hown, hts⟩ (c_Dk_hand l G cI cZ cJ H.size a_dk a_ch a_cs a_ln a_ss a_rr a_wn a_cd mt ft rc sn q v0 1 hq) (cwV 3 hts (gV t_196 t_197 t_8 t_32 t_198) rfl rfl rfl (by decide +kernel) ⟨Nat.le_of_ble_eq_true rfl, Nat.le_of_ble_eq_true rfl⟩) (kW_V (ci := 3) (q0 := 0) hK hP hD rfl rfl [0, 14, 15] rfl (by decide) rfl) rfl rfl hl.1 rfl (lv_room (Nat.le_of_ble_eq_true rfl)) d_Dk_tryReceive_29 ⟨Nat.le_of_ble_eq_true rfl, Nat.le_of_ble_eq_true rfl⟩) hP hD hS hA [0, 14, 15] rfl (fun _ => rfl) (fun u H locs hw hP hD hS => ?_)
      have hP : va_P G vwCl [(a_dk, .inr (3, [.ref a_ch, .ref a_cs, .ref a_ln, .ref a_ss, .ref a_rr, .ref a_wn, .ref a_cd, .int mt, .int ft])), (a_ch, .inr (1, [.ref a_rm, .ref a_hd, .ref a_sh, .ref a_vl, .int (nI n)])), (a_rm, .inl (cI, 40, .inl (fun j => nI (room j)))), (a_hd, .inl (cI, 40, .inl (fun j => nI (held_12 j)))), (a_sh, .inl (cZ, 40, .inl (fun j => bI (shut j)))), (a_vl, .inl (cI, 320, .inl vals_12)), (a_cs, .inr (0, [.ref a_cn, .ref a_cc, .ref a_cw, .ref a_cv])), (a_cn, .inl (cI, 16, .inl (fun j => nI (cnum j)))), (a_cc, .inl (cI, 96, .inl (fun j => nI (cch j)))), (a_cw, .inl (cI, 96, .inl (fun j => nI (cway j)))), (a_cv, .inl (cI, 96, .inl cval)), (a_ln, .inr (2, [.ref a_mm, .int (nI len)])), (a_mm, .inl (cI, 16, .inl (fun j => nI (mem j)))), (a_ss, .inl (cI, 16, .inl (fun j => nI (st j)))), (a_rr, .inl (cI, 16, .inl (va_up rc q v0))), (a_wn, .inl (cI, 16, .inl (fun j => nI ((va_up sn q 1) j)))), (a_cd, .inl (cI, 16, .inl cd))] H := hP
      have hD : va_D A [(a_dk, .inr (3, [.ref a_ch, .ref a_cs, .ref a_ln, .ref a_ss, .ref a_rr, .ref a_wn, .ref a_cd, .int mt, .int ft])), (a_ch, .inr (1, [.ref a_rm, .ref a_hd, .ref a_sh, .ref a_vl, .int (nI n)])), (a_rm, .inl (cI, 40, .inl (fun j => nI (room j)))), (a_hd, .inl (cI, 40, .inl (fun j => nI (held_12 j)))), (a_sh, .inl (cZ, 40, .inl (fun j => bI (shut j)))), (a_vl, .inl (cI, 320, .inl vals_12)), (a_cs, .inr (0, [.ref a_cn, .ref a_cc, .ref a_cw, .ref a_cv])), (a_cn, .inl (cI, 16, .inl (fun j => nI (cnum j)))), (a_cc, .inl (cI, 96, .inl (fun j => nI (cch j)))), (a_cw, .inl (cI, 96, .inl (fun j => nI (cway j)))), (a_cv, .inl (cI, 96, .inl cval)), (a_ln, .inr (2, [.ref a_mm, .int (nI len)])), (a_mm, .inl (cI, 16, .inl (fun j => nI (mem j)))), (a_ss, .inl (cI, 16, .inl (fun j => nI (st j)))), (a_rr, .inl (cI, 16, .inl (va_up rc q v0))), (a_wn, .inl (cI, 16, .inl (fun j => nI ((va_up sn q 1) j)))), (a_cd, .inl (cI, 16, .inl cd))] := hD
      refine lv_iload_n hx hb d_Dk_tryReceive_32 rfl (lv_at hl 0 rfl) ?_
      refine lv_iconst (v := (-1)) hx hb d_Dk_tryReceive_33 (by decide +kernel) ?_
      refine lv_icmp_eq (tgt := 51) hx hb d_Dk_tryReceive_34 (by decide) (fun c_b => absurd c_b (nI_m1 (by omega))) (fun c_b => ?_)
      refine lv_aload_n hx hb d_Dk_tryReceive_37 rfl (lv_at hl 1 rfl) ?_
      refine va_get (D := G) (ci := 3) (v := .ref a_ch) (C := R_Dk) (T := T_Dk) (N := 9) hx hb hts uw_Dk hown hK hP 0 rfl rfl 0 (by decide) (hts _ t_105) (fun _ h9 => h9) rfl d_Dk_tryReceive_38 ?_
      refine lv_iload_n hx hb d_Dk_tryReceive_41 rfl (lv_at hl 3 rfl) ?_
      refine lv_aload_n hx hb d_Dk_tryReceive_42 rfl (lv_at hl 1 rfl) ?_
      refine lv_iload_n hx hb d_Dk_tryReceive_43 rfl (lv_at hl 0 rfl) ?_
      refine k_rwi (va_runV (As := [.int (nI (q1 * 6 + i1))]) (rest := [.int (nI x), .ref a_ch]) ⟨hx, hb, hml, hown, hts⟩ (c_Dk_takeFromSender l G cI cZ cJ H.size a_dk a_ch a_cs a_ln a_ss a_rr a_wn a_cd a_cn a_cc a_cw a_cv a_mm mt ft st cd cnum cval len mem cch cway cs line q1 i1 hq1 hi1 hst hC hL) (cwV 1 hts (gV t_236 t_237 t_11 t_32 t_238) rfl rfl rfl (by decide +kernel) ⟨Nat.le_of_ble_eq_true rfl, Nat.le_of_ble_eq_true rfl⟩) (kW_V (ci := 3) (q0 := 0) hK hP hD rfl rfl [0, 13, 16, 6, 7, 10, 11, 12] rfl (by decide) rfl) rfl rfl hl.1 rfl (lv_room (Nat.le_of_ble_eq_true rfl)) d_Dk_tryReceive_44 ⟨Nat.le_of_ble_eq_true rfl, Nat.le_of_ble_eq_true rfl⟩) hP hD hS hA [0, 13, 16, 6, 7, 10, 11, 12] rfl (fun _ => rfl) (fun r_15 u H locs hw hP hD hS => ?_)
      obtain ⟨len_15, mem_15⟩ := u
      obtain ⟨rfl, hC, hL⟩ := hw
      have hC : RelC (va_up cnum q1 0) cch cway cval (va_up cs q1 []) := hC
      have hL : RelL len_15 mem_15 (outL line q1) := hL
      have hP : va_P G vwCl [(a_dk, .inr (3, [.ref a_ch, .ref a_cs, .ref a_ln, .ref a_ss, .ref a_rr, .ref a_wn, .ref a_cd, .int (mt + nI 1), .int ft])), (a_ch, .inr (1, [.ref a_rm, .ref a_hd, .ref a_sh, .ref a_vl, .int (nI n)])), (a_rm, .inl (cI, 40, .inl (fun j => nI (room j)))), (a_hd, .inl (cI, 40, .inl (fun j => nI (held_12 j)))), (a_sh, .inl (cZ, 40, .inl (fun j => bI (shut j)))), (a_vl, .inl (cI, 320, .inl vals_12)), (a_cs, .inr (0, [.ref a_cn, .ref a_cc, .ref a_cw, .ref a_cv])), (a_cn, .inl (cI, 16, .inl (fun j => nI ((va_up cnum q1 0) j)))), (a_cc, .inl (cI, 96, .inl (fun j => nI (cch j)))), (a_cw, .inl (cI, 96, .inl (fun j => nI (cway j)))), (a_cv, .inl (cI, 96, .inl cval)), (a_ln, .inr (2, [.ref a_mm, .int (nI len_15)])), (a_mm, .inl (cI, 16, .inl (fun j => nI (mem_15 j)))), (a_ss, .inl (cI, 16, .inl (fun j => nI ((va_up st q1 0) j)))), (a_rr, .inl (cI, 16, .inl (va_up rc q v0))), (a_wn, .inl (cI, 16, .inl (fun j => nI ((va_up sn q 1) j)))), (a_cd, .inl (cI, 16, .inl (cdE st cd q1 i1)))] H := hP
      have hD : va_D A [(a_dk, .inr (3, [.ref a_ch, .ref a_cs, .ref a_ln, .ref a_ss, .ref a_rr, .ref a_wn, .ref a_cd, .int (mt + nI 1), .int ft])), (a_ch, .inr (1, [.ref a_rm, .ref a_hd, .ref a_sh, .ref a_vl, .int (nI n)])), (a_rm, .inl (cI, 40, .inl (fun j => nI (room j)))), (a_hd, .inl (cI, 40, .inl (fun j => nI (held_12 j)))), (a_sh, .inl (cZ, 40, .inl (fun j => bI (shut j)))), (a_vl, .inl (cI, 320, .inl vals_12)), (a_cs, .inr (0, [.ref a_cn, .ref a_cc, .ref a_cw, .ref a_cv])), (a_cn, .inl (cI, 16, .inl (fun j => nI ((va_up cnum q1 0) j)))), (a_cc, .inl (cI, 96, .inl (fun j => nI (cch j)))), (a_cw, .inl (cI, 96, .inl (fun j => nI (cway j)))), (a_cv, .inl (cI, 96, .inl cval)), (a_ln, .inr (2, [.ref a_mm, .int (nI len_15)])), (a_mm, .inl (cI, 16, .inl (fun j => nI (mem_15 j)))), (a_ss, .inl (cI, 16, .inl (fun j => nI ((va_up st q1 0) j)))), (a_rr, .inl (cI, 16, .inl (va_up rc q v0))), (a_wn, .inl (cI, 16, .inl (fun j => nI ((va_up sn q 1) j)))), (a_cd, .inl (cI, 16, .inl (cdE st cd q1 i1)))] := hD
      refine k_rwi (va_runV (As := [.int (nI x), .int ((kAt cs q1 i1).2.2)]) (rest := []) ⟨hx, hb, hml, hown, hts⟩ (c_Ch_put l G cI cZ cJ H.size a_ch a_rm a_hd a_sh a_vl n room held_12 vals_12 (popL L x) x ((kAt cs q1 i1).2.2) hx0 hV (hrm x hx0)) (cwV 2 hts (gV t_199 t_200 t_201 t_33 t_202) rfl rfl rfl (by decide +kernel) ⟨Nat.le_of_ble_eq_true rfl, Nat.le_of_ble_eq_true rfl⟩) (kW_V (ci := 1) (q0 := 1) hK hP hD rfl rfl [1, 2, 3, 5] rfl (by decide) rfl) rfl rfl hl.1 rfl (lv_room (Nat.le_of_ble_eq_true rfl)) d_Dk_tryReceive_47 ⟨Nat.le_of_ble_eq_true rfl, Nat.le_of_ble_eq_true rfl⟩) hP hD hS hA [1, 2, 3, 5] rfl (fun _ => rfl) (fun r_16 u H locs hw hP hD hS => ?_)
      obtain ⟨held_16, vals_16⟩ := u
      obtain ⟨rfl, hV⟩ := hw
      have hV : RelV held_16 vals_16 (putL (popL L x) room x ((kAt cs q1 i1).2.2)) := hV
      have hP : va_P G vwCl [(a_dk, .inr (3, [.ref a_ch, .ref a_cs, .ref a_ln, .ref a_ss, .ref a_rr, .ref a_wn, .ref a_cd, .int (mt + nI 1), .int ft])), (a_ch, .inr (1, [.ref a_rm, .ref a_hd, .ref a_sh, .ref a_vl, .int (nI n)])), (a_rm, .inl (cI, 40, .inl (fun j => nI (room j)))), (a_hd, .inl (cI, 40, .inl (fun j => nI (held_16 j)))), (a_sh, .inl (cZ, 40, .inl (fun j => bI (shut j)))), (a_vl, .inl (cI, 320, .inl vals_16)), (a_cs, .inr (0, [.ref a_cn, .ref a_cc, .ref a_cw, .ref a_cv])), (a_cn, .inl (cI, 16, .inl (fun j => nI ((va_up cnum q1 0) j)))), (a_cc, .inl (cI, 96, .inl (fun j => nI (cch j)))), (a_cw, .inl (cI, 96, .inl (fun j => nI (cway j)))), (a_cv, .inl (cI, 96, .inl cval)), (a_ln, .inr (2, [.ref a_mm, .int (nI len_15)])), (a_mm, .inl (cI, 16, .inl (fun j => nI (mem_15 j)))), (a_ss, .inl (cI, 16, .inl (fun j => nI ((va_up st q1 0) j)))), (a_rr, .inl (cI, 16, .inl (va_up rc q v0))), (a_wn, .inl (cI, 16, .inl (fun j => nI ((va_up sn q 1) j)))), (a_cd, .inl (cI, 16, .inl (cdE st cd q1 i1)))] H := hP
      have hD : va_D A [(a_dk, .inr (3, [.ref a_ch, .ref a_cs, .ref a_ln, .ref a_ss, .ref a_rr, .ref a_wn, .ref a_cd, .int (mt + nI 1), .int ft])), (a_ch, .inr (1, [.ref a_rm, .ref a_hd, .ref a_sh, .ref a_vl, .int (nI n)])), (a_rm, .inl (cI, 40, .inl (fun j => nI (room j)))), (a_hd, .inl (cI, 40, .inl (fun j => nI (held_16 j)))), (a_sh, .inl (cZ, 40, .inl (fun j => bI (shut j)))), (a_vl, .inl (cI, 320, .inl vals_16)), (a_cs, .inr (0, [.ref a_cn, .ref a_cc, .ref a_cw, .ref a_cv])), (a_cn, .inl (cI, 16, .inl (fun j => nI ((va_up cnum q1 0) j)))), (a_cc, .inl (cI, 96, .inl (fun j => nI (cch j)))), (a_cw, .inl (cI, 96, .inl (fun j => nI (cway j)))), (a_cv, .inl (cI, 96, .inl cval)), (a_ln, .inr (2, [.ref a_mm, .int (nI len_15)])), (a_mm, .inl (cI, 16, .inl (fun j => nI (mem_15 j)))), (a_ss, .inl (cI, 16, .inl (fun j => nI ((va_up st q1 0) j)))), (a_rr, .inl (cI, 16, .inl (va_up rc q v0))), (a_wn, .inl (cI, 16, .inl (fun j => nI ((va_up sn q 1) j)))), (a_cd, .inl (cI, 16, .inl (cdE st cd q1 i1)))] := hD
      refine lv_pop hx hb d_Dk_tryReceive_50 rfl ?_
      refine lv_iconst (v := (nI 1)) hx hb d_Dk_tryReceive_51 (by decide +kernel) ?_
      exact k_wi hx hb hr hlocks hP hS (held_16, vals_16, va_up cnum q1 0, len_15, mem_15, va_up st q1 0, va_up rc q v0, va_up sn q 1, cdE st cd q1 i1, mt + nI 1, ft, putL (popL L x) room x ((kAt cs q1 i1).2.2), va_up cs q1 [], outL line q1, 1) (rfl) (⟨rfl, m_trecv_1 (z := (q1, i1)) hLx hz, Nat.le_of_ble_eq_true rfl, hV, hC, hL, st_up hst q1 (by decide)⟩) d_Dk_tryReceive_52
set_option maxHeartbeats 4000000 in
set_option maxRecDepth 100000 in
theorem c_Dk_wakeAtShutChannel (l : Launch) (G : va_G) (cI cZ cJ : ClassId) (sz : Nat) (a_dk : Nat) (a_ch : Nat) (a_cs : Nat) (a_ln : Nat) (a_ss : Nat) (a_rr : Nat) (a_wn : Nat) (a_cd : Nat) (a_rm : Nat) (a_hd : Nat) (a_sh : Nat) (a_vl : Nat) (a_cn : Nat) (a_cc : Nat) (a_cw : Nat) (a_cv : Nat) (a_mm : Nat) (mt : Int32) (ft : Int32) (n : Nat) (room : Nat → Nat) (held : Nat → Nat) (shut : Nat → Bool) (vals : Nat → Int32) (cnum : Nat → Nat) (cch : Nat → Nat) (cway : Nat → Nat) (cval : Nat → Int32) (len : Nat) (mem : Nat → Nat) (st : Nat → Nat) (rc : Nat → Int32) (sn : Nat → Nat) (cd : Nat → Int32) (L : Nat → List Int32) (cs : Nat → List Kase) (line : List Nat) (q : Nat) (i : Nat) (hq : q < 16) (hi : i < (cs q).length) (hV : RelV held vals L) (hC : RelC cnum cch cway cval cs) (hL : RelL len mem line) (hst : ∀ j, j < 16 → st j < 5) : Met l y_Dk_wakeAtShutChannel (w_Dk_wakeAtShutChannel) ({ frames := 3, cells := 0, slots := 0, locals := 64 }) (va_Pc [.ref a_dk, .int (nI (q * 6 + i))] (kW G vwCl [(cI, .int), (cZ, .boolean), (cJ, .long)] [(a_dk, .inr (3, [.ref a_ch, .ref a_cs, .ref a_ln, .ref a_ss, .ref a_rr, .ref a_wn, .ref a_cd, .int mt, .int ft])), (a_ch, .inr (1, [.ref a_rm, .ref a_hd, .ref a_sh, .ref a_vl, .int (nI n)])), (a_rm, .inl (cI, 40, .inl (fun j => nI (room j)))), (a_hd, .inl (cI, 40, .inl (fun j => nI (held j)))), (a_sh, .inl (cZ, 40, .inl (fun j => bI (shut j)))), (a_vl, .inl (cI, 320, .inl vals)), (a_cs, .inr (0, [.ref a_cn, .ref a_cc, .ref a_cw, .ref a_cv])), (a_cn, .inl (cI, 16, .inl (fun j => nI (cnum j)))), (a_cc, .inl (cI, 96, .inl (fun j => nI (cch j)))), (a_cw, .inl (cI, 96, .inl (fun j => nI (cway j)))), (a_cv, .inl (cI, 96, .inl cval)), (a_ln, .inr (2, [.ref a_mm, .int (nI len)])), (a_mm, .inl (cI, 16, .inl (fun j => nI (mem j)))), (a_ss, .inl (cI, 16, .inl (fun j => nI (st j)))), (a_rr, .inl (cI, 16, .inl rc)), (a_wn, .inl (cI, 16, .inl (fun j => nI (sn j)))), (a_cd, .inl (cI, 16, .inl cd))] sz)) (va_Qv (fun (u : (Nat → Nat) × (Nat → Int32) × (Nat → Nat) × Nat × (Nat → Nat) × (Nat → Nat) × (Nat → Int32) × (Nat → Nat) × (Nat → Int32) × Int32 × Int32 × (Nat → List Int32) × (Nat → List Kase) × List Nat) => m_wake (n, room, shut, L, cs, line, st, rc, sn, cd, mt, ft) q i = (n, room, shut, u.2.2.2.2.2.2.2.2.2.2.2.1, u.2.2.2.2.2.2.2.2.2.2.2.2.1, u.2.2.2.2.2.2.2.2.2.2.2.2.2, u.2.2.2.2.2.1, u.2.2.2.2.2.2.1, u.2.2.2.2.2.2.2.1, u.2.2.2.2.2.2.2.2.1, u.2.2.2.2.2.2.2.2.2.1, u.2.2.2.2.2.2.2.2.2.2.1) ∧ RelV u.1 u.2.1 u.2.2.2.2.2.2.2.2.2.2.2.1 ∧ RelC u.2.2.1 cch cway cval u.2.2.2.2.2.2.2.2.2.2.2.2.1 ∧ RelL u.2.2.2.1 u.2.2.2.2.1 u.2.2.2.2.2.2.2.2.2.2.2.2.2 ∧ ∀ j, j < 16 → u.2.2.2.2.2.1 j < 5) (fun u t => va_P G vwCl [(a_dk, .inr (3, [.ref a_ch, .ref a_cs, .ref a_ln, .ref a_ss, .ref a_rr, .ref a_wn, .ref a_cd, .int u.2.2.2.2.2.2.2.2.2.1, .int u.2.2.2.2.2.2.2.2.2.2.1])), (a_ch, .inr (1, [.ref a_rm, .ref a_hd, .ref a_sh, .ref a_vl, .int (nI n)])), (a_rm, .inl (cI, 40, .inl (fun j => nI (room j)))), (a_hd, .inl (cI, 40, .inl (fun j => nI (u.1 j)))), (a_sh, .inl (cZ, 40, .inl (fun j => bI (shut j)))), (a_vl, .inl (cI, 320, .inl u.2.1)), (a_cs, .inr (0, [.ref a_cn, .ref a_cc, .ref a_cw, .ref a_cv])), (a_cn, .inl (cI, 16, .inl (fun j => nI (u.2.2.1 j)))), (a_cc, .inl (cI, 96, .inl (fun j => nI (cch j)))), (a_cw, .inl (cI, 96, .inl (fun j => nI (cway j)))), (a_cv, .inl (cI, 96, .inl cval)), (a_ln, .inr (2, [.ref a_mm, .int (nI u.2.2.2.1)])), (a_mm, .inl (cI, 16, .inl (fun j => nI (u.2.2.2.2.1 j)))), (a_ss, .inl (cI, 16, .inl (fun j => nI (u.2.2.2.2.2.1 j)))), (a_rr, .inl (cI, 16, .inl u.2.2.2.2.2.2.1)), (a_wn, .inl (cI, 16, .inl (fun j => nI (u.2.2.2.2.2.2.2.1 j)))), (a_cd, .inl (cI, 16, .inl u.2.2.2.2.2.2.2.2.1))] t.heap) (va_A [(a_dk, .inr (3, [.ref a_ch, .ref a_cs, .ref a_ln, .ref a_ss, .ref a_rr, .ref a_wn, .ref a_cd, .int mt, .int ft])), (a_ch, .inr (1, [.ref a_rm, .ref a_hd, .ref a_sh, .ref a_vl, .int (nI n)])), (a_rm, .inl (cI, 40, .inl (fun j => nI (room j)))), (a_hd, .inl (cI, 40, .inl (fun j => nI (held j)))), (a_sh, .inl (cZ, 40, .inl (fun j => bI (shut j)))), (a_vl, .inl (cI, 320, .inl vals)), (a_cs, .inr (0, [.ref a_cn, .ref a_cc, .ref a_cw, .ref a_cv])), (a_cn, .inl (cI, 16, .inl (fun j => nI (cnum j)))), (a_cc, .inl (cI, 96, .inl (fun j => nI (cch j)))), (a_cw, .inl (cI, 96, .inl (fun j => nI (cway j)))), (a_cv, .inl (cI, 96, .inl cval)), (a_ln, .inr (2, [.ref a_mm, .int (nI len)])), (a_mm, .inl (cI, 16, .inl (fun j => nI (mem j)))), (a_ss, .inl (cI, 16, .inl (fun j => nI (st j)))), (a_rr, .inl (cI, 16, .inl rc)), (a_wn, .inl (cI, 16, .inl (fun j => nI (sn j)))), (a_cd, .inl (cI, 16, .inl cd))] sz)) 0 0 (va_A [(a_dk, .inr (3, [.ref a_ch, .ref a_cs, .ref a_ln, .ref a_ss, .ref a_rr, .ref a_wn, .ref a_cd, .int mt, .int ft])), (a_ch, .inr (1, [.ref a_rm, .ref a_hd, .ref a_sh, .ref a_vl, .int (nI n)])), (a_rm, .inl (cI, 40, .inl (fun j => nI (room j)))), (a_hd, .inl (cI, 40, .inl (fun j => nI (held j)))), (a_sh, .inl (cZ, 40, .inl (fun j => bI (shut j)))), (a_vl, .inl (cI, 320, .inl vals)), (a_cs, .inr (0, [.ref a_cn, .ref a_cc, .ref a_cw, .ref a_cv])), (a_cn, .inl (cI, 16, .inl (fun j => nI (cnum j)))), (a_cc, .inl (cI, 96, .inl (fun j => nI (cch j)))), (a_cw, .inl (cI, 96, .inl (fun j => nI (cway j)))), (a_cv, .inl (cI, 96, .inl cval)), (a_ln, .inr (2, [.ref a_mm, .int (nI len)])), (a_mm, .inl (cI, 16, .inl (fun j => nI (mem j)))), (a_ss, .inl (cI, 16, .inl (fun j => nI (st j)))), (a_rr, .inl (cI, 16, .inl rc)), (a_wn, .inl (cI, 16, .inl (fun j => nI (sn j)))), (a_cd, .inl (cI, 16, .inl cd))] sz) := by
  refine Met.ofW (cc := b_Dk_wakeAtShutChannel) (maxL := 4) (ret := none) (by decide) rfl ?_
  intro p e s m args below meth c s₁ B hml hv
  obtain ⟨rfl, hsz, hP, hK, hD0⟩ := hv
  have hx := B.exec
  have hb := B.bytes
  have hr := B.returns
  have hts : ∀ w ∈ TT, w.before _ s = true := fun w h => atoms_spec (ws := (w_Dk_wakeAtShutChannel)) B.pre w (List.mem_cons_of_mem _ h)
  have hown : s.vm.findClass R_Dk = some m.cls := findClass_of_methodNamed B.named
  have hlocks := B.notSynchronized
  subst hsz
  have hD := hD0.self (sz := s.heap.size)
  generalize hAe : va_A [(a_dk, .inr (3, [.ref a_ch, .ref a_cs, .ref a_ln, .ref a_ss, .ref a_rr, .ref a_wn, .ref a_cd, .int mt, .int ft])), (a_ch, .inr (1, [.ref a_rm, .ref a_hd, .ref a_sh, .ref a_vl, .int (nI n)])), (a_rm, .inl (cI, 40, .inl (fun j => nI (room j)))), (a_hd, .inl (cI, 40, .inl (fun j => nI (held j)))), (a_sh, .inl (cZ, 40, .inl (fun j => bI (shut j)))), (a_vl, .inl (cI, 320, .inl vals)), (a_cs, .inr (0, [.ref a_cn, .ref a_cc, .ref a_cw, .ref a_cv])), (a_cn, .inl (cI, 16, .inl (fun j => nI (cnum j)))), (a_cc, .inl (cI, 96, .inl (fun j => nI (cch j)))), (a_cw, .inl (cI, 96, .inl (fun j => nI (cway j)))), (a_cv, .inl (cI, 96, .inl cval)), (a_ln, .inr (2, [.ref a_mm, .int (nI len)])), (a_mm, .inl (cI, 16, .inl (fun j => nI (mem j)))), (a_ss, .inl (cI, 16, .inl (fun j => nI (st j)))), (a_rr, .inl (cI, 16, .inl rc)), (a_wn, .inl (cI, 16, .inl (fun j => nI (sn j)))), (a_cd, .inl (cI, 16, .inl cd))] s.heap.size = A at hD ⊢
  have hA : ∀ q : Nat, s.heap.size ≤ q → A q := fun q h => by rw [← hAe]; exact Or.inr h
  have hS : va_S A s.heap s.heap [] := va_S.rf
  have hP : va_P G vwCl [(a_dk, .inr (3, [.ref a_ch, .ref a_cs, .ref a_ln, .ref a_ss, .ref a_rr, .ref a_wn, .ref a_cd, .int mt, .int ft])), (a_ch, .inr (1, [.ref a_rm, .ref a_hd, .ref a_sh, .ref a_vl, .int (nI n)])), (a_rm, .inl (cI, 40, .inl (fun j => nI (room j)))), (a_hd, .inl (cI, 40, .inl (fun j => nI (held j)))), (a_sh, .inl (cZ, 40, .inl (fun j => bI (shut j)))), (a_vl, .inl (cI, 320, .inl vals)), (a_cs, .inr (0, [.ref a_cn, .ref a_cc, .ref a_cw, .ref a_cv])), (a_cn, .inl (cI, 16, .inl (fun j => nI (cnum j)))), (a_cc, .inl (cI, 96, .inl (fun j => nI (cch j)))), (a_cw, .inl (cI, 96, .inl (fun j => nI (cway j)))), (a_cv, .inl (cI, 96, .inl cval)), (a_ln, .inr (2, [.ref a_mm, .int (nI len)])), (a_mm, .inl (cI, 16, .inl (fun j => nI (mem j)))), (a_ss, .inl (cI, 16, .inl (fun j => nI (st j)))), (a_rr, .inl (cI, 16, .inl rc)), (a_wn, .inl (cI, 16, .inl (fun j => nI (sn j)))), (a_cd, .inl (cI, 16, .inl cd))] s.heap := hP
  have hl := lv_entry ([.ref a_dk, .int (nI (q * 6 + i))]) (n := 4) (Nat.le_of_ble_eq_true rfl)
  rw [lg_entry_eq]
  generalize (lg_sl ([.ref a_dk, .int (nI (q * 6 + i))]) ++ List.replicate (4 - (lg_sl ([.ref a_dk, .int (nI (q * 6 + i))])).length) Slot.unset).toArray = ls at hl ⊢
  have hl : lv_has ls 4 [(0, .ref a_dk), (1, .int (nI (q * 6 + i)))] := hl
  have hh2 := (hC q hq).2.1
  have hkk := RelC_k hC hq hi
  refine lv_iload_n hx hb d_Dk_wakeAtShutChannel_0 rfl (lv_at hl 1 rfl) ?_
  refine k_ro (va_runS (As := [.int (nI (q * 6 + i))]) (rest := []) ⟨hx, hb, hml, hown, hts⟩ (c_Cs_routineAt l G cI cZ cJ (q * 6 + i) (by omega)) (va_cwS 1 hts (gS t_186 t_187 t_34 t_188) rfl rfl rfl (by decide +kernel) ⟨Nat.le_of_ble_eq_true rfl, Nat.le_of_ble_eq_true rfl⟩) (kR_S hK hP [] rfl) rfl rfl hl.1 rfl (lv_room (Nat.le_of_ble_eq_true rfl)) d_Dk_wakeAtShutChannel_1 ⟨Nat.le_of_ble_eq_true rfl, Nat.le_of_ble_eq_true rfl⟩) ?_
  refine k_top (y := (nI q)) (congrArg nI (by omega)) ?_
  refine lv_istore_n (lv' := [(2, .int (nI q)), (0, .ref a_dk), (1, .int (nI (q * 6 + i)))]) hx hb d_Dk_wakeAtShutChannel_4 rfl hl (by decide) rfl (fun ls hl => ?_)
  refine lv_aload_n hx hb d_Dk_wakeAtShutChannel_5 rfl (lv_at hl 1 rfl) ?_
  refine va_get (D := G) (ci := 3) (v := .ref a_cs) (C := R_Dk) (T := T_Dk) (N := 9) hx hb hts uw_Dk hown hK hP 0 rfl rfl 1 (by decide) (hts _ t_106) (fun _ h9 => h9) rfl d_Dk_wakeAtShutChannel_6 ?_
  refine lv_iload_n hx hb d_Dk_wakeAtShutChannel_9 rfl (lv_at hl 2 rfl) ?_
  refine k_ro (va_runV (As := [.int (nI (q * 6 + i))]) (rest := []) ⟨hx, hb, hml, hown, hts⟩ (c_Cs_wayAt l G cI cZ cJ a_cs a_cn a_cc a_cw a_cv cway cnum cch cval cs q i hq hC hi) (cwV 1 hts (gV t_269 t_270 t_271 t_34 t_272) rfl rfl rfl (by decide +kernel) ⟨Nat.le_of_ble_eq_true rfl, Nat.le_of_ble_eq_true rfl⟩) (kR_V (ci := 0) (q0 := 6) hK hP rfl rfl [6, 9] rfl) rfl rfl hl.1 rfl (lv_room (Nat.le_of_ble_eq_true rfl)) d_Dk_wakeAtShutChannel_10 ⟨Nat.le_of_ble_eq_true rfl, Nat.le_of_ble_eq_true rfl⟩) ?_
  refine lv_istore_n (lv' := [(3, .int (nI ((kAt cs q i).2.1))), (2, .int (nI q)), (0, .ref a_dk), (1, .int (nI (q * 6 + i)))]) hx hb d_Dk_wakeAtShutChannel_13 rfl hl (by decide) rfl (fun ls hl => ?_)
  refine lv_aload_n hx hb d_Dk_wakeAtShutChannel_14 rfl (lv_at hl 2 rfl) ?_
  refine lv_iload_n hx hb d_Dk_wakeAtShutChannel_15 rfl (lv_at hl 3 rfl) ?_
  refine k_rwv (va_runV (As := [.int (nI (q * 6 + i))]) (rest := []) ⟨hx, hb, hml, hown, hts⟩ (c_Dk_endWait l G cI cZ cJ s.heap.size a_dk a_ch a_cs a_ln a_ss a_rr a_wn a_cd a_cn a_cc a_cw a_cv a_mm mt ft st cd cnum len mem cch cway cval cs line q i hq (by omega) hst hC hL) (cwV 1 hts (gV t_183 t_184 t_7 t_32 t_185) rfl rfl rfl (by decide +kernel) ⟨Nat.le_of_ble_eq_true rfl, Nat.le_of_ble_eq_true rfl⟩) (kW_V (ci := 3) (q0 := 0) hK hP hD rfl rfl [0, 13, 16, 6, 7, 11, 12] rfl (by decide) rfl) rfl rfl hl.1 rfl (lv_room (Nat.le_of_ble_eq_true rfl)) d_Dk_wakeAtShutChannel_16 ⟨Nat.le_of_ble_eq_true rfl, Nat.le_of_ble_eq_true rfl⟩) hP hD hS hA [0, 13, 16, 6, 7, 11, 12] rfl (fun _ => rfl) (fun u H locs hw hP hD hS => ?_)
  obtain ⟨len_1, mem_1⟩ := u
  obtain ⟨hC, hL⟩ := hw
  have hC : RelC (va_up cnum q 0) cch cway cval (va_up cs q []) := hC
  have hL : RelL len_1 mem_1 (outL line q) := hL
  have hP : va_P G vwCl [(a_dk, .inr (3, [.ref a_ch, .ref a_cs, .ref a_ln, .ref a_ss, .ref a_rr, .ref a_wn, .ref a_cd, .int mt, .int ft])), (a_ch, .inr (1, [.ref a_rm, .ref a_hd, .ref a_sh, .ref a_vl, .int (nI n)])), (a_rm, .inl (cI, 40, .inl (fun j => nI (room j)))), (a_hd, .inl (cI, 40, .inl (fun j => nI (held j)))), (a_sh, .inl (cZ, 40, .inl (fun j => bI (shut j)))), (a_vl, .inl (cI, 320, .inl vals)), (a_cs, .inr (0, [.ref a_cn, .ref a_cc, .ref a_cw, .ref a_cv])), (a_cn, .inl (cI, 16, .inl (fun j => nI ((va_up cnum q 0) j)))), (a_cc, .inl (cI, 96, .inl (fun j => nI (cch j)))), (a_cw, .inl (cI, 96, .inl (fun j => nI (cway j)))), (a_cv, .inl (cI, 96, .inl cval)), (a_ln, .inr (2, [.ref a_mm, .int (nI len_1)])), (a_mm, .inl (cI, 16, .inl (fun j => nI (mem_1 j)))), (a_ss, .inl (cI, 16, .inl (fun j => nI ((va_up st q 0) j)))), (a_rr, .inl (cI, 16, .inl rc)), (a_wn, .inl (cI, 16, .inl (fun j => nI (sn j)))), (a_cd, .inl (cI, 16, .inl (cdE st cd q i)))] H := hP
  have hD : va_D A [(a_dk, .inr (3, [.ref a_ch, .ref a_cs, .ref a_ln, .ref a_ss, .ref a_rr, .ref a_wn, .ref a_cd, .int mt, .int ft])), (a_ch, .inr (1, [.ref a_rm, .ref a_hd, .ref a_sh, .ref a_vl, .int (nI n)])), (a_rm, .inl (cI, 40, .inl (fun j => nI (room j)))), (a_hd, .inl (cI, 40, .inl (fun j => nI (held j)))), (a_sh, .inl (cZ, 40, .inl (fun j => bI (shut j)))), (a_vl, .inl (cI, 320, .inl vals)), (a_cs, .inr (0, [.ref a_cn, .ref a_cc, .ref a_cw, .ref a_cv])), (a_cn, .inl (cI, 16, .inl (fun j => nI ((va_up cnum q 0) j)))), (a_cc, .inl (cI, 96, .inl (fun j => nI (cch j)))), (a_cw, .inl (cI, 96, .inl (fun j => nI (cway j)))), (a_cv, .inl (cI, 96, .inl cval)), (a_ln, .inr (2, [.ref a_mm, .int (nI len_1)])), (a_mm, .inl (cI, 16, .inl (fun j => nI (mem_1 j)))), (a_ss, .inl (cI, 16, .inl (fun j => nI ((va_up st q 0) j)))), (a_rr, .inl (cI, 16, .inl rc)), (a_wn, .inl (cI, 16, .inl (fun j => nI (sn j)))), (a_cd, .inl (cI, 16, .inl (cdE st cd q i)))] := hD
  refine lv_iload_n hx hb d_Dk_wakeAtShutChannel_19 rfl (lv_at hl 0 rfl) ?_
  refine n_if_ne (tgt := 31) hx hb d_Dk_wakeAtShutChannel_20 (by decide) (by omega) (fun c_a => ?_) (fun c_a => ?_)
  · refine lv_aload_n hx hb d_Dk_wakeAtShutChannel_31 rfl (lv_at hl 2 rfl) ?_
    refine lv_iload_n hx hb d_Dk_wakeAtShutChannel_32 rfl (lv_at hl 1 rfl) ?_
    refine lv_iconst (v := (nI 0)) hx hb d_Dk_wakeAtShutChannel_33 (by decide +kernel) ?_
    refine lv_iconst (v := (nI 0)) hx hb d_Dk_wakeAtShutChannel_34 (by decide +kernel) ?_
    refine k_rwv (va_runV (As := [.int (nI q), .int (nI 0), .int (nI 0)]) (rest := []) ⟨hx, hb, hml, hown, hts⟩ (c_Dk_hand l G cI cZ cJ H.size a_dk a_ch a_cs a_ln a_ss a_rr a_wn a_cd mt ft rc sn q (nI 0) 0 hq) (cwV 3 hts (gV t_196 t_197 t_8 t_32 t_198) rfl rfl rfl (by decide +kernel) ⟨Nat.le_of_ble_eq_true rfl, Nat.le_of_ble_eq_true rfl⟩) (kW_V (ci := 3) (q0 := 0) hK hP hD rfl rfl [0, 14, 15] rfl (by decide) rfl) rfl rfl hl.1 rfl (lv_room (Nat.le_of_ble_eq_true rfl)) d_Dk_wakeAtShutChannel_35 ⟨Nat.le_of_ble_eq_true rfl, Nat.le_of_ble_eq_true rfl⟩) hP hD hS hA [0, 14, 15] rfl (fun _ => rfl) (fun u H locs hw hP hD hS => ?_)
    have hP : va_P G vwCl [(a_dk, .inr (3, [.ref a_ch, .ref a_cs, .ref a_ln, .ref a_ss, .ref a_rr, .ref a_wn, .ref a_cd, .int mt, .int ft])), (a_ch, .inr (1, [.ref a_rm, .ref a_hd, .ref a_sh, .ref a_vl, .int (nI n)])), (a_rm, .inl (cI, 40, .inl (fun j => nI (room j)))), (a_hd, .inl (cI, 40, .inl (fun j => nI (held j)))), (a_sh, .inl (cZ, 40, .inl (fun j => bI (shut j)))), (a_vl, .inl (cI, 320, .inl vals)), (a_cs, .inr (0, [.ref a_cn, .ref a_cc, .ref a_cw, .ref a_cv])), (a_cn, .inl (cI, 16, .inl (fun j => nI ((va_up cnum q 0) j)))), (a_cc, .inl (cI, 96, .inl (fun j => nI (cch j)))), (a_cw, .inl (cI, 96, .inl (fun j => nI (cway j)))), (a_cv, .inl (cI, 96, .inl cval)), (a_ln, .inr (2, [.ref a_mm, .int (nI len_1)])), (a_mm, .inl (cI, 16, .inl (fun j => nI (mem_1 j)))), (a_ss, .inl (cI, 16, .inl (fun j => nI ((va_up st q 0) j)))), (a_rr, .inl (cI, 16, .inl (va_up rc q (nI 0)))), (a_wn, .inl (cI, 16, .inl (fun j => nI ((va_up sn q 0) j)))), (a_cd, .inl (cI, 16, .inl (cdE st cd q i)))] H := hP
    have hD : va_D A [(a_dk, .inr (3, [.ref a_ch, .ref a_cs, .ref a_ln, .ref a_ss, .ref a_rr, .ref a_wn, .ref a_cd, .int mt, .int ft])), (a_ch, .inr (1, [.ref a_rm, .ref a_hd, .ref a_sh, .ref a_vl, .int (nI n)])), (a_rm, .inl (cI, 40, .inl (fun j => nI (room j)))), (a_hd, .inl (cI, 40, .inl (fun j => nI (held j)))), (a_sh, .inl (cZ, 40, .inl (fun j => bI (shut j)))), (a_vl, .inl (cI, 320, .inl vals)), (a_cs, .inr (0, [.ref a_cn, .ref a_cc, .ref a_cw, .ref a_cv])), (a_cn, .inl (cI, 16, .inl (fun j => nI ((va_up cnum q 0) j)))), (a_cc, .inl (cI, 96, .inl (fun j => nI (cch j)))), (a_cw, .inl (cI, 96, .inl (fun j => nI (cway j)))), (a_cv, .inl (cI, 96, .inl cval)), (a_ln, .inr (2, [.ref a_mm, .int (nI len_1)])), (a_mm, .inl (cI, 16, .inl (fun j => nI (mem_1 j)))), (a_ss, .inl (cI, 16, .inl (fun j => nI ((va_up st q 0) j)))), (a_rr, .inl (cI, 16, .inl (va_up rc q (nI 0)))), (a_wn, .inl (cI, 16, .inl (fun j => nI ((va_up sn q 0) j)))), (a_cd, .inl (cI, 16, .inl (cdE st cd q i)))] := hD
    exact k_wv hx hb hr hlocks hP hS (held, vals, va_up cnum q 0, len_1, mem_1, va_up st q 0, va_up rc q (nI 0), va_up sn q 0, cdE st cd q i, mt, ft, L, va_up cs q [], outL line q) (rfl) (⟨m_wake_2 c_a, hV, hC, hL, st_up hst q (by decide)⟩) d_Dk_wakeAtShutChannel_38
  · refine lv_aload_n hx hb d_Dk_wakeAtShutChannel_23 rfl (lv_at hl 2 rfl) ?_
    refine lv_iload_n hx hb d_Dk_wakeAtShutChannel_24 rfl (lv_at hl 1 rfl) ?_
    refine k_rwv (va_runV (As := [.int (nI q)]) (rest := []) ⟨hx, hb, hml, hown, hts⟩ (c_Dk_sufferFault l G cI cZ cJ H.size a_dk a_ch a_cs a_ln a_ss a_rr a_wn a_cd mt ft (va_up st q 0) q hq) (cwV 1 hts (gV t_159 t_160 t_4 t_32 t_161) rfl rfl rfl (by decide +kernel) ⟨Nat.le_of_ble_eq_true rfl, Nat.le_of_ble_eq_true rfl⟩) (kW_V (ci := 3) (q0 := 0) hK hP hD rfl rfl [0, 13] rfl (by decide) rfl) rfl rfl hl.1 rfl (lv_room (Nat.le_of_ble_eq_true rfl)) d_Dk_wakeAtShutChannel_25 ⟨Nat.le_of_ble_eq_true rfl, Nat.le_of_ble_eq_true rfl⟩) hP hD hS hA [0, 13] rfl (fun _ => rfl) (fun u H locs hw hP hD hS => ?_)
    have hP : va_P G vwCl [(a_dk, .inr (3, [.ref a_ch, .ref a_cs, .ref a_ln, .ref a_ss, .ref a_rr, .ref a_wn, .ref a_cd, .int mt, .int (ft + nI 1)])), (a_ch, .inr (1, [.ref a_rm, .ref a_hd, .ref a_sh, .ref a_vl, .int (nI n)])), (a_rm, .inl (cI, 40, .inl (fun j => nI (room j)))), (a_hd, .inl (cI, 40, .inl (fun j => nI (held j)))), (a_sh, .inl (cZ, 40, .inl (fun j => bI (shut j)))), (a_vl, .inl (cI, 320, .inl vals)), (a_cs, .inr (0, [.ref a_cn, .ref a_cc, .ref a_cw, .ref a_cv])), (a_cn, .inl (cI, 16, .inl (fun j => nI ((va_up cnum q 0) j)))), (a_cc, .inl (cI, 96, .inl (fun j => nI (cch j)))), (a_cw, .inl (cI, 96, .inl (fun j => nI (cway j)))), (a_cv, .inl (cI, 96, .inl cval)), (a_ln, .inr (2, [.ref a_mm, .int (nI len_1)])), (a_mm, .inl (cI, 16, .inl (fun j => nI (mem_1 j)))), (a_ss, .inl (cI, 16, .inl (fun j => nI ((va_up (va_up st q 0) q 4) j)))), (a_rr, .inl (cI, 16, .inl rc)), (a_wn, .inl (cI, 16, .inl (fun j => nI (sn j)))), (a_cd, .inl (cI, 16, .inl (cdE st cd q i)))] H := hP
    have hD : va_D A [(a_dk, .inr (3, [.ref a_ch, .ref a_cs, .ref a_ln, .ref a_ss, .ref a_rr, .ref a_wn, .ref a_cd, .int mt, .int (ft + nI 1)])), (a_ch, .inr (1, [.ref a_rm, .ref a_hd, .ref a_sh, .ref a_vl, .int (nI n)])), (a_rm, .inl (cI, 40, .inl (fun j => nI (room j)))), (a_hd, .inl (cI, 40, .inl (fun j => nI (held j)))), (a_sh, .inl (cZ, 40, .inl (fun j => bI (shut j)))), (a_vl, .inl (cI, 320, .inl vals)), (a_cs, .inr (0, [.ref a_cn, .ref a_cc, .ref a_cw, .ref a_cv])), (a_cn, .inl (cI, 16, .inl (fun j => nI ((va_up cnum q 0) j)))), (a_cc, .inl (cI, 96, .inl (fun j => nI (cch j)))), (a_cw, .inl (cI, 96, .inl (fun j => nI (cway j)))), (a_cv, .inl (cI, 96, .inl cval)), (a_ln, .inr (2, [.ref a_mm, .int (nI len_1)])), (a_mm, .inl (cI, 16, .inl (fun j => nI (mem_1 j)))), (a_ss, .inl (cI, 16, .inl (fun j => nI ((va_up (va_up st q 0) q 4) j)))), (a_rr, .inl (cI, 16, .inl rc)), (a_wn, .inl (cI, 16, .inl (fun j => nI (sn j)))), (a_cd, .inl (cI, 16, .inl (cdE st cd q i)))] := hD
    refine lv_goto (tgt := 38) hx hb d_Dk_wakeAtShutChannel_28 (by decide) ?_
    exact k_wv hx hb hr hlocks hP hS (held, vals, va_up cnum q 0, len_1, mem_1, va_up (va_up st q 0) q 4, rc, sn, cdE st cd q i, mt, ft + nI 1, L, va_up cs q [], outL line q) (rfl) (⟨m_wake_1 c_a, hV, hC, hL, st_up (st_up hst q (by decide)) q (by decide)⟩) d_Dk_wakeAtShutChannel_38
end
section
set_option maxHeartbeats 4000000 in
set_option maxRecDepth 100000 in
theorem c_Dk_doCase (l : Launch) (G : va_G) (cI cZ cJ : ClassId) (sz : Nat) (a_dk : Nat) (a_ch : Nat) (a_cs : Nat) (a_ln : Nat) (a_ss : Nat) (a_rr : Nat) (a_wn : Nat) (a_cd : Nat) (a_rm : Nat) (a_hd : Nat) (a_sh : Nat) (a_vl : Nat) (a_cn : Nat) (a_cc : Nat) (a_cw : Nat) (a_cv : Nat) (a_mm : Nat) (mt : Int32) (ft : Int32) (n : Nat) (room : Nat → Nat) (held : Nat → Nat) (shut : Nat → Bool) (vals : Nat → Int32) (cnum : Nat → Nat) (cch : Nat → Nat) (cway : Nat → Nat) (cval : Nat → Int32) (len : Nat) (mem : Nat → Nat) (st : Nat → Nat) (rc : Nat → Int32) (sn : Nat → Nat) (cd : Nat → Int32) (L : Nat → List Int32) (cs : Nat → List Kase) (line : List Nat) (q : Nat) (i : Nat) (hq : q < 16) (hi : i < (cs q).length) (hrm : ∀ j, j < 40 → room j ≤ 8) (hV : RelV held vals L) (hC : RelC cnum cch cway cval cs) (hL : RelL len mem line) (hst : ∀ j, j < 16 → st j < 5) : Met l y_Dk_doCase (w_Dk_doCase) ({ frames := 5, cells := 0, slots := 0, locals := 118 }) (va_Pc [.ref a_dk, .int (nI q), .int (nI (q * 6 + i))] (kW G vwCl [(cI, .int), (cZ, .boolean), (cJ, .long)] [(a_dk, .inr (3, [.ref a_ch, .ref a_cs, .ref a_ln, .ref a_ss, .ref a_rr, .ref a_wn, .ref a_cd, .int mt, .int ft])), (a_ch, .inr (1, [.ref a_rm, .ref a_hd, .ref a_sh, .ref a_vl, .int (nI n)])), (a_rm, .inl (cI, 40, .inl (fun j => nI (room j)))), (a_hd, .inl (cI, 40, .inl (fun j => nI (held j)))), (a_sh, .inl (cZ, 40, .inl (fun j => bI (shut j)))), (a_vl, .inl (cI, 320, .inl vals)), (a_cs, .inr (0, [.ref a_cn, .ref a_cc, .ref a_cw, .ref a_cv])), (a_cn, .inl (cI, 16, .inl (fun j => nI (cnum j)))), (a_cc, .inl (cI, 96, .inl (fun j => nI (cch j)))), (a_cw, .inl (cI, 96, .inl (fun j => nI (cway j)))), (a_cv, .inl (cI, 96, .inl cval)), (a_ln, .inr (2, [.ref a_mm, .int (nI len)])), (a_mm, .inl (cI, 16, .inl (fun j => nI (mem j)))), (a_ss, .inl (cI, 16, .inl (fun j => nI (st j)))), (a_rr, .inl (cI, 16, .inl rc)), (a_wn, .inl (cI, 16, .inl (fun j => nI (sn j)))), (a_cd, .inl (cI, 16, .inl cd))] sz)) (va_Qi (fun (r : Int32) (u : (Nat → Nat) × (Nat → Int32) × (Nat → Nat) × Nat × (Nat → Nat) × (Nat → Nat) × (Nat → Int32) × (Nat → Nat) × (Nat → Int32) × Int32 × Int32 × (Nat → List Int32) × (Nat → List Kase) × List Nat × Nat) => r = (nI u.2.2.2.2.2.2.2.2.2.2.2.2.2.2) ∧ m_doC (n, room, shut, L, cs, line, st, rc, sn, cd, mt, ft) q i = ((n, room, shut, u.2.2.2.2.2.2.2.2.2.2.2.1, u.2.2.2.2.2.2.2.2.2.2.2.2.1, u.2.2.2.2.2.2.2.2.2.2.2.2.2.1, u.2.2.2.2.2.1, u.2.2.2.2.2.2.1, u.2.2.2.2.2.2.2.1, u.2.2.2.2.2.2.2.2.1, u.2.2.2.2.2.2.2.2.2.1, u.2.2.2.2.2.2.2.2.2.2.1), u.2.2.2.2.2.2.2.2.2.2.2.2.2.2) ∧ RelV u.1 u.2.1 u.2.2.2.2.2.2.2.2.2.2.2.1 ∧ RelC u.2.2.1 cch cway cval u.2.2.2.2.2.2.2.2.2.2.2.2.1 ∧ RelL u.2.2.2.1 u.2.2.2.2.1 u.2.2.2.2.2.2.2.2.2.2.2.2.2.1 ∧ ∀ j, j < 16 → u.2.2.2.2.2.1 j < 5) (fun u t => va_P G vwCl [(a_dk, .inr (3, [.ref a_ch, .ref a_cs, .ref a_ln, .ref a_ss, .ref a_rr, .ref a_wn, .ref a_cd, .int u.2.2.2.2.2.2.2.2.2.1, .int u.2.2.2.2.2.2.2.2.2.2.1])), (a_ch, .inr (1, [.ref a_rm, .ref a_hd, .ref a_sh, .ref a_vl, .int (nI n)])), (a_rm, .inl (cI, 40, .inl (fun j => nI (room j)))), (a_hd, .inl (cI, 40, .inl (fun j => nI (u.1 j)))), (a_sh, .inl (cZ, 40, .inl (fun j => bI (shut j)))), (a_vl, .inl (cI, 320, .inl u.2.1)), (a_cs, .inr (0, [.ref a_cn, .ref a_cc, .ref a_cw, .ref a_cv])), (a_cn, .inl (cI, 16, .inl (fun j => nI (u.2.2.1 j)))), (a_cc, .inl (cI, 96, .inl (fun j => nI (cch j)))), (a_cw, .inl (cI, 96, .inl (fun j => nI (cway j)))), (a_cv, .inl (cI, 96, .inl cval)), (a_ln, .inr (2, [.ref a_mm, .int (nI u.2.2.2.1)])), (a_mm, .inl (cI, 16, .inl (fun j => nI (u.2.2.2.2.1 j)))), (a_ss, .inl (cI, 16, .inl (fun j => nI (u.2.2.2.2.2.1 j)))), (a_rr, .inl (cI, 16, .inl u.2.2.2.2.2.2.1)), (a_wn, .inl (cI, 16, .inl (fun j => nI (u.2.2.2.2.2.2.2.1 j)))), (a_cd, .inl (cI, 16, .inl u.2.2.2.2.2.2.2.2.1))] t.heap) (va_A [(a_dk, .inr (3, [.ref a_ch, .ref a_cs, .ref a_ln, .ref a_ss, .ref a_rr, .ref a_wn, .ref a_cd, .int mt, .int ft])), (a_ch, .inr (1, [.ref a_rm, .ref a_hd, .ref a_sh, .ref a_vl, .int (nI n)])), (a_rm, .inl (cI, 40, .inl (fun j => nI (room j)))), (a_hd, .inl (cI, 40, .inl (fun j => nI (held j)))), (a_sh, .inl (cZ, 40, .inl (fun j => bI (shut j)))), (a_vl, .inl (cI, 320, .inl vals)), (a_cs, .inr (0, [.ref a_cn, .ref a_cc, .ref a_cw, .ref a_cv])), (a_cn, .inl (cI, 16, .inl (fun j => nI (cnum j)))), (a_cc, .inl (cI, 96, .inl (fun j => nI (cch j)))), (a_cw, .inl (cI, 96, .inl (fun j => nI (cway j)))), (a_cv, .inl (cI, 96, .inl cval)), (a_ln, .inr (2, [.ref a_mm, .int (nI len)])), (a_mm, .inl (cI, 16, .inl (fun j => nI (mem j)))), (a_ss, .inl (cI, 16, .inl (fun j => nI (st j)))), (a_rr, .inl (cI, 16, .inl rc)), (a_wn, .inl (cI, 16, .inl (fun j => nI (sn j)))), (a_cd, .inl (cI, 16, .inl cd))] sz)) 0 0 (va_A [(a_dk, .inr (3, [.ref a_ch, .ref a_cs, .ref a_ln, .ref a_ss, .ref a_rr, .ref a_wn, .ref a_cd, .int mt, .int ft])), (a_ch, .inr (1, [.ref a_rm, .ref a_hd, .ref a_sh, .ref a_vl, .int (nI n)])), (a_rm, .inl (cI, 40, .inl (fun j => nI (room j)))), (a_hd, .inl (cI, 40, .inl (fun j => nI (held j)))), (a_sh, .inl (cZ, 40, .inl (fun j => bI (shut j)))), (a_vl, .inl (cI, 320, .inl vals)), (a_cs, .inr (0, [.ref a_cn, .ref a_cc, .ref a_cw, .ref a_cv])), (a_cn, .inl (cI, 16, .inl (fun j => nI (cnum j)))), (a_cc, .inl (cI, 96, .inl (fun j => nI (cch j)))), (a_cw, .inl (cI, 96, .inl (fun j => nI (cway j)))), (a_cv, .inl (cI, 96, .inl cval)), (a_ln, .inr (2, [.ref a_mm, .int (nI len)])), (a_mm, .inl (cI, 16, .inl (fun j => nI (mem j)))), (a_ss, .inl (cI, 16, .inl (fun j => nI (st j)))), (a_rr, .inl (cI, 16, .inl rc)), (a_wn, .inl (cI, 16, .inl (fun j => nI (sn j)))), (a_cd, .inl (cI, 16, .inl cd))] sz) := by
  refine Met.ofW (cc := b_Dk_doCase) (maxL := 7) (ret := (some .int)) (by decide) rfl ?_
  intro p e s m args below meth c s₁ B hml hv
  obtain ⟨rfl, hsz, hP, hK, hD0⟩ := hv
  have hx := B.exec
  have hb := B.bytes
  have hr := B.returns
  have hts : ∀ w ∈ TT, w.before _ s = true := fun w h => atoms_spec (ws := (w_Dk_doCase)) B.pre w (List.mem_cons_of_mem _ h)
  have hown : s.vm.findClass R_Dk = some m.cls := findClass_of_methodNamed B.named
  have hlocks := B.notSynchronized
  subst hsz
  have hD := hD0.self (sz := s.heap.size)
  generalize hAe : va_A [(a_dk, .inr (3, [.ref a_ch, .ref a_cs, .ref a_ln, .ref a_ss, .ref a_rr, .ref a_wn, .ref a_cd, .int mt, .int ft])), (a_ch, .inr (1, [.ref a_rm, .ref a_hd, .ref a_sh, .ref a_vl, .int (nI n)])), (a_rm, .inl (cI, 40, .inl (fun j => nI (room j)))), (a_hd, .inl (cI, 40, .inl (fun j => nI (held j)))), (a_sh, .inl (cZ, 40, .inl (fun j => bI (shut j)))), (a_vl, .inl (cI, 320, .inl vals)), (a_cs, .inr (0, [.ref a_cn, .ref a_cc, .ref a_cw, .ref a_cv])), (a_cn, .inl (cI, 16, .inl (fun j => nI (cnum j)))), (a_cc, .inl (cI, 96, .inl (fun j => nI (cch j)))), (a_cw, .inl (cI, 96, .inl (fun j => nI (cway j)))), (a_cv, .inl (cI, 96, .inl cval)), (a_ln, .inr (2, [.ref a_mm, .int (nI len)])), (a_mm, .inl (cI, 16, .inl (fun j => nI (mem j)))), (a_ss, .inl (cI, 16, .inl (fun j => nI (st j)))), (a_rr, .inl (cI, 16, .inl rc)), (a_wn, .inl (cI, 16, .inl (fun j => nI (sn j)))), (a_cd, .inl (cI, 16, .inl cd))] s.heap.size = A at hD ⊢
  have hA : ∀ q : Nat, s.heap.size ≤ q → A q := fun q h => by rw [← hAe]; exact Or.inr h
  have hS : va_S A s.heap s.heap [] := va_S.rf
  have hP : va_P G vwCl [(a_dk, .inr (3, [.ref a_ch, .ref a_cs, .ref a_ln, .ref a_ss, .ref a_rr, .ref a_wn, .ref a_cd, .int mt, .int ft])), (a_ch, .inr (1, [.ref a_rm, .ref a_hd, .ref a_sh, .ref a_vl, .int (nI n)])), (a_rm, .inl (cI, 40, .inl (fun j => nI (room j)))), (a_hd, .inl (cI, 40, .inl (fun j => nI (held j)))), (a_sh, .inl (cZ, 40, .inl (fun j => bI (shut j)))), (a_vl, .inl (cI, 320, .inl vals)), (a_cs, .inr (0, [.ref a_cn, .ref a_cc, .ref a_cw, .ref a_cv])), (a_cn, .inl (cI, 16, .inl (fun j => nI (cnum j)))), (a_cc, .inl (cI, 96, .inl (fun j => nI (cch j)))), (a_cw, .inl (cI, 96, .inl (fun j => nI (cway j)))), (a_cv, .inl (cI, 96, .inl cval)), (a_ln, .inr (2, [.ref a_mm, .int (nI len)])), (a_mm, .inl (cI, 16, .inl (fun j => nI (mem j)))), (a_ss, .inl (cI, 16, .inl (fun j => nI (st j)))), (a_rr, .inl (cI, 16, .inl rc)), (a_wn, .inl (cI, 16, .inl (fun j => nI (sn j)))), (a_cd, .inl (cI, 16, .inl cd))] s.heap := hP
  have hl := lv_entry ([.ref a_dk, .int (nI q), .int (nI (q * 6 + i))]) (n := 7) (Nat.le_of_ble_eq_true rfl)
  rw [lg_entry_eq]
  generalize (lg_sl ([.ref a_dk, .int (nI q), .int (nI (q * 6 + i))]) ++ List.replicate (7 - (lg_sl ([.ref a_dk, .int (nI q), .int (nI (q * 6 + i))])).length) Slot.unset).toArray = ls at hl ⊢
  have hl : lv_has ls 7 [(0, .ref a_dk), (1, .int (nI q)), (2, .int (nI (q * 6 + i)))] := hl
  have hh2 := (hC q hq).2.1
  obtain ⟨x, w, v, hk9⟩ : ∃ x w v, kAt cs q i = (x, w, v) := ⟨_, _, _, rfl⟩
  have hx0 : x < 40 := by have h9 := (RelC_k hC hq hi).1; rw [hk9] at h9; exact h9
  have hw2 : w < 2 := by have h9 := (RelC_k hC hq hi).2; rw [hk9] at h9; exact h9
  refine lv_iload_n hx hb d_Dk_doCase_0 rfl (lv_at hl 2 rfl) ?_
  refine lv_iconst (v := (-1)) hx hb d_Dk_doCase_1 (by decide +kernel) ?_
  refine lv_icmp_ne (tgt := 7) hx hb d_Dk_doCase_2 (by decide) (fun c_a => ?_) (fun c_a => absurd c_a (nI_m1 (by omega)))
  refine lv_aload_n hx hb d_Dk_doCase_7 rfl (lv_at hl 0 rfl) ?_
  refine va_get (D := G) (ci := 3) (v := .ref a_cs) (C := R_Dk) (T := T_Dk) (N := 9) hx hb hts uw_Dk hown hK hP 0 rfl rfl 1 (by decide) (hts _ t_106) (fun _ h9 => h9) rfl d_Dk_doCase_8 ?_
  refine lv_iload_n hx hb d_Dk_doCase_11 rfl (lv_at hl 2 rfl) ?_
  refine k_ro (va_runV (As := [.int (nI (q * 6 + i))]) (rest := []) ⟨hx, hb, hml, hown, hts⟩ (c_Cs_channelAt l G cI cZ cJ a_cs a_cn a_cc a_cw a_cv cch cnum cway cval cs q i hq hC hi) (cwV 1 hts (gV t_265 t_266 t_267 t_34 t_268) rfl rfl rfl (by decide +kernel) ⟨Nat.le_of_ble_eq_true rfl, Nat.le_of_ble_eq_true rfl⟩) (kR_V (ci := 0) (q0 := 6) hK hP rfl rfl [6, 8] rfl) rfl rfl hl.1 rfl (lv_room (Nat.le_of_ble_eq_true rfl)) d_Dk_doCase_12 ⟨Nat.le_of_ble_eq_true rfl, Nat.le_of_ble_eq_true rfl⟩) ?_
  refine k_top (y := (nI x)) (by rw [hk9]) ?_
  refine lv_istore_n (lv' := [(3, .int (nI x)), (0, .ref a_dk), (1, .int (nI q)), (2, .int (nI (q * 6 + i)))]) hx hb d_Dk_doCase_15 rfl hl (by decide) rfl (fun ls hl => ?_)
  refine lv_aload_n hx hb d_Dk_doCase_16 rfl (lv_at hl 1 rfl) ?_
  refine va_get (D := G) (ci := 3) (v := .ref a_cs) (C := R_Dk) (T := T_Dk) (N := 9) hx hb hts uw_Dk hown hK hP 0 rfl rfl 1 (by decide) (hts _ t_106) (fun _ h9 => h9) rfl d_Dk_doCase_17 ?_
  refine lv_iload_n hx hb d_Dk_doCase_20 rfl (lv_at hl 3 rfl) ?_
  refine k_ro (va_runV (As := [.int (nI (q * 6 + i))]) (rest := []) ⟨hx, hb, hml, hown, hts⟩ (c_Cs_wayAt l G cI cZ cJ a_cs a_cn a_cc a_cw a_cv cway cnum cch cval cs q i hq hC hi) (cwV 1 hts (gV t_269 t_270 t_271 t_34 t_272) rfl rfl rfl (by decide +kernel) ⟨Nat.le_of_ble_eq_true rfl, Nat.le_of_ble_eq_true rfl⟩) (kR_V (ci := 0) (q0 := 6) hK hP rfl rfl [6, 9] rfl) rfl rfl hl.1 rfl (lv_room (Nat.le_of_ble_eq_true rfl)) d_Dk_doCase_21 ⟨Nat.le_of_ble_eq_true rfl, Nat.le_of_ble_eq_true rfl⟩) ?_
  refine k_top (y := (nI w)) (by rw [hk9]) ?_
  refine lv_istore (lv' := [(4, .int (nI w)), (3, .int (nI x)), (0, .ref a_dk), (1, .int (nI q)), (2, .int (nI (q * 6 + i)))]) hx hb d_Dk_doCase_24 hl (by decide) rfl (fun ls hl => ?_)
  refine lv_aload_n hx hb d_Dk_doCase_26 rfl (lv_at hl 2 rfl) ?_
  refine va_get (D := G) (ci := 3) (v := .ref a_cs) (C := R_Dk) (T := T_Dk) (N := 9) hx hb hts uw_Dk hown hK hP 0 rfl rfl 1 (by decide) (hts _ t_106) (fun _ h9 => h9) rfl d_Dk_doCase_27 ?_
  refine lv_iload_n hx hb d_Dk_doCase_30 rfl (lv_at hl 4 rfl) ?_
  refine k_ro (va_runV (As := [.int (nI (q * 6 + i))]) (rest := []) ⟨hx, hb, hml, hown, hts⟩ (c_Cs_valueAt l G cI cZ cJ a_cs a_cn a_cc a_cw a_cv cval cnum cch cway cs q i hq hC hi) (cwV 1 hts (gV t_239 t_240 t_241 t_34 t_242) rfl rfl rfl (by decide +kernel) ⟨Nat.le_of_ble_eq_true rfl, Nat.le_of_ble_eq_true rfl⟩) (kR_V (ci := 0) (q0 := 6) hK hP rfl rfl [6, 10] rfl) rfl rfl hl.1 rfl (lv_room (Nat.le_of_ble_eq_true rfl)) d_Dk_doCase_31 ⟨Nat.le_of_ble_eq_true rfl, Nat.le_of_ble_eq_true rfl⟩) ?_
  refine k_top (y := v) (by rw [hk9]) ?_
  refine lv_istore (lv' := [(5, .int v), (4, .int (nI w)), (3, .int (nI x)), (0, .ref a_dk), (1, .int (nI q)), (2, .int (nI (q * 6 + i)))]) hx hb d_Dk_doCase_34 hl (by decide) rfl (fun ls hl => ?_)
  refine lv_aload_n hx hb d_Dk_doCase_36 rfl (lv_at hl 3 rfl) ?_
  refine lv_iload_n hx hb d_Dk_doCase_37 rfl (lv_at hl 4 rfl) ?_
  refine k_rwv (va_runV (As := [.int (nI q)]) (rest := []) ⟨hx, hb, hml, hown, hts⟩ (c_Dk_makeReady l G cI cZ cJ s.heap.size a_dk a_ch a_cs a_ln a_ss a_rr a_wn a_cd a_cn a_cc a_cw a_cv mt ft st cnum cch cway cval cs q hq hC) (cwV 1 hts (gV t_145 t_146 t_2 t_32 t_147) rfl rfl rfl (by decide +kernel) ⟨Nat.le_of_ble_eq_true rfl, Nat.le_of_ble_eq_true rfl⟩) (kW_V (ci := 3) (q0 := 0) hK hP hD rfl rfl [0, 13, 6, 7] rfl (by decide) rfl) rfl rfl hl.1 rfl (lv_room (Nat.le_of_ble_eq_true rfl)) d_Dk_doCase_38 ⟨Nat.le_of_ble_eq_true rfl, Nat.le_of_ble_eq_true rfl⟩) hP hD hS hA [0, 13, 6, 7] rfl (fun _ => rfl) (fun u H locs hw hP hD hS => ?_)
  have hC := hw
  have hC : RelC (va_up cnum q 0) cch cway cval (va_up cs q []) := hC
  have hP : va_P G vwCl [(a_dk, .inr (3, [.ref a_ch, .ref a_cs, .ref a_ln, .ref a_ss, .ref a_rr, .ref a_wn, .ref a_cd, .int mt, .int ft])), (a_ch, .inr (1, [.ref a_rm, .ref a_hd, .ref a_sh, .ref a_vl, .int (nI n)])), (a_rm, .inl (cI, 40, .inl (fun j => nI (room j)))), (a_hd, .inl (cI, 40, .inl (fun j => nI (held j)))), (a_sh, .inl (cZ, 40, .inl (fun j => bI (shut j)))), (a_vl, .inl (cI, 320, .inl vals)), (a_cs, .inr (0, [.ref a_cn, .ref a_cc, .ref a_cw, .ref a_cv])), (a_cn, .inl (cI, 16, .inl (fun j => nI ((va_up cnum q 0) j)))), (a_cc, .inl (cI, 96, .inl (fun j => nI (cch j)))), (a_cw, .inl (cI, 96, .inl (fun j => nI (cway j)))), (a_cv, .inl (cI, 96, .inl cval)), (a_ln, .inr (2, [.ref a_mm, .int (nI len)])), (a_mm, .inl (cI, 16, .inl (fun j => nI (mem j)))), (a_ss, .inl (cI, 16, .inl (fun j => nI ((va_up st q 0) j)))), (a_rr, .inl (cI, 16, .inl rc)), (a_wn, .inl (cI, 16, .inl (fun j => nI (sn j)))), (a_cd, .inl (cI, 16, .inl cd))] H := hP
  have hD : va_D A [(a_dk, .inr (3, [.ref a_ch, .ref a_cs, .ref a_ln, .ref a_ss, .ref a_rr, .ref a_wn, .ref a_cd, .int mt, .int ft])), (a_ch, .inr (1, [.ref a_rm, .ref a_hd, .ref a_sh, .ref a_vl, .int (nI n)])), (a_rm, .inl (cI, 40, .inl (fun j => nI (room j)))), (a_hd, .inl (cI, 40, .inl (fun j => nI (held j)))), (a_sh, .inl (cZ, 40, .inl (fun j => bI (shut j)))), (a_vl, .inl (cI, 320, .inl vals)), (a_cs, .inr (0, [.ref a_cn, .ref a_cc, .ref a_cw, .ref a_cv])), (a_cn, .inl (cI, 16, .inl (fun j => nI ((va_up cnum q 0) j)))), (a_cc, .inl (cI, 96, .inl (fun j => nI (cch j)))), (a_cw, .inl (cI, 96, .inl (fun j => nI (cway j)))), (a_cv, .inl (cI, 96, .inl cval)), (a_ln, .inr (2, [.ref a_mm, .int (nI len)])), (a_mm, .inl (cI, 16, .inl (fun j => nI (mem j)))), (a_ss, .inl (cI, 16, .inl (fun j => nI ((va_up st q 0) j)))), (a_rr, .inl (cI, 16, .inl rc)), (a_wn, .inl (cI, 16, .inl (fun j => nI (sn j)))), (a_cd, .inl (cI, 16, .inl cd))] := hD
  refine lv_aload_n hx hb d_Dk_doCase_41 rfl (lv_at hl 3 rfl) ?_
  refine va_get (D := G) (ci := 3) (v := .ref a_cd) (C := R_Dk) (T := T_Dk) (N := 9) hx hb hts uw_Dk hown hK hP 0 rfl rfl 6 (by decide) (hts _ t_111) (fun _ h9 => h9) rfl d_Dk_doCase_42 ?_
  refine lv_iload_n hx hb d_Dk_doCase_45 rfl (lv_at hl 4 rfl) ?_
  refine lv_iload_n hx hb d_Dk_doCase_46 rfl (lv_at hl 5 rfl) ?_
  refine k_ro (va_runS (As := [.int (nI (q * 6 + i))]) (rest := [.int (nI q), .ref a_cd]) ⟨hx, hb, hml, hown, hts⟩ (c_Cs_numberAt l G cI cZ cJ (q * 6 + i) (by omega)) (va_cwS 1 hts (gS t_189 t_190 t_34 t_191) rfl rfl rfl (by decide +kernel) ⟨Nat.le_of_ble_eq_true rfl, Nat.le_of_ble_eq_true rfl⟩) (kR_S hK hP [] rfl) rfl rfl hl.1 rfl (lv_room (Nat.le_of_ble_eq_true rfl)) d_Dk_doCase_47 ⟨Nat.le_of_ble_eq_true rfl, Nat.le_of_ble_eq_true rfl⟩) ?_
  refine k_top (y := (nI i)) (congrArg nI (by omega)) ?_
  refine k_iast hx hb hK hP hD hS 16 0 rfl rfl (by omega) (by decide) d_Dk_doCase_50 (fun H locs hP hD hS => ?_)
  have hP : va_P G vwCl [(a_dk, .inr (3, [.ref a_ch, .ref a_cs, .ref a_ln, .ref a_ss, .ref a_rr, .ref a_wn, .ref a_cd, .int mt, .int ft])), (a_ch, .inr (1, [.ref a_rm, .ref a_hd, .ref a_sh, .ref a_vl, .int (nI n)])), (a_rm, .inl (cI, 40, .inl (fun j => nI (room j)))), (a_hd, .inl (cI, 40, .inl (fun j => nI (held j)))), (a_sh, .inl (cZ, 40, .inl (fun j => bI (shut j)))), (a_vl, .inl (cI, 320, .inl vals)), (a_cs, .inr (0, [.ref a_cn, .ref a_cc, .ref a_cw, .ref a_cv])), (a_cn, .inl (cI, 16, .inl (fun j => nI ((va_up cnum q 0) j)))), (a_cc, .inl (cI, 96, .inl (fun j => nI (cch j)))), (a_cw, .inl (cI, 96, .inl (fun j => nI (cway j)))), (a_cv, .inl (cI, 96, .inl cval)), (a_ln, .inr (2, [.ref a_mm, .int (nI len)])), (a_mm, .inl (cI, 16, .inl (fun j => nI (mem j)))), (a_ss, .inl (cI, 16, .inl (fun j => nI ((va_up st q 0) j)))), (a_rr, .inl (cI, 16, .inl rc)), (a_wn, .inl (cI, 16, .inl (fun j => nI (sn j)))), (a_cd, .inl (cI, 16, .inl (va_up cd q (nI i))))] H := hP
  have hD : va_D A [(a_dk, .inr (3, [.ref a_ch, .ref a_cs, .ref a_ln, .ref a_ss, .ref a_rr, .ref a_wn, .ref a_cd, .int mt, .int ft])), (a_ch, .inr (1, [.ref a_rm, .ref a_hd, .ref a_sh, .ref a_vl, .int (nI n)])), (a_rm, .inl (cI, 40, .inl (fun j => nI (room j)))), (a_hd, .inl (cI, 40, .inl (fun j => nI (held j)))), (a_sh, .inl (cZ, 40, .inl (fun j => bI (shut j)))), (a_vl, .inl (cI, 320, .inl vals)), (a_cs, .inr (0, [.ref a_cn, .ref a_cc, .ref a_cw, .ref a_cv])), (a_cn, .inl (cI, 16, .inl (fun j => nI ((va_up cnum q 0) j)))), (a_cc, .inl (cI, 96, .inl (fun j => nI (cch j)))), (a_cw, .inl (cI, 96, .inl (fun j => nI (cway j)))), (a_cv, .inl (cI, 96, .inl cval)), (a_ln, .inr (2, [.ref a_mm, .int (nI len)])), (a_mm, .inl (cI, 16, .inl (fun j => nI (mem j)))), (a_ss, .inl (cI, 16, .inl (fun j => nI ((va_up st q 0) j)))), (a_rr, .inl (cI, 16, .inl rc)), (a_wn, .inl (cI, 16, .inl (fun j => nI (sn j)))), (a_cd, .inl (cI, 16, .inl (va_up cd q (nI i))))] := hD
  refine lv_iload hx hb d_Dk_doCase_51 (lv_at hl 1 rfl) ?_
  refine n_if_ne (tgt := 67) hx hb d_Dk_doCase_53 (by decide) (by omega) (fun c_b => ?_) (fun c_b => ?_)
  · refine lv_aload_n hx hb d_Dk_doCase_67 rfl (lv_at hl 3 rfl) ?_
    refine lv_iload_n hx hb d_Dk_doCase_68 rfl (lv_at hl 4 rfl) ?_
    refine lv_iload_n hx hb d_Dk_doCase_69 rfl (lv_at hl 2 rfl) ?_
    refine k_rwi (va_runV (As := [.int (nI q), .int (nI x)]) (rest := []) ⟨hx, hb, hml, hown, hts⟩ (c_Dk_tryReceive l G cI cZ cJ H.size a_dk a_ch a_cs a_ln a_ss a_rr a_wn a_cd a_rm a_hd a_sh a_vl a_cn a_cc a_cw a_cv a_mm mt ft n room held shut vals (va_up cnum q 0) cch cway cval len mem (va_up st q 0) rc sn (va_up cd q (nI i)) L (va_up cs q []) line q x hq (by omega) hrm hV hC hL (st_up hst q (by decide))) (cwV 2 hts (gV t_222 t_223 t_10 t_32 t_224) rfl rfl rfl (by decide +kernel) ⟨Nat.le_of_ble_eq_true rfl, Nat.le_of_ble_eq_true rfl⟩) (kW_V (ci := 3) (q0 := 0) hK hP hD rfl rfl [0, 1, 2, 3, 4, 5, 6, 7, 8, 9, 10, 11, 12, 13, 14, 15, 16] rfl (by decide) rfl) rfl rfl hl.1 rfl (lv_room (Nat.le_of_ble_eq_true rfl)) d_Dk_doCase_70 ⟨Nat.le_of_ble_eq_true rfl, Nat.le_of_ble_eq_true rfl⟩) hP hD hS hA [0, 1, 2, 3, 4, 5, 6, 7, 8, 9, 10, 11, 12, 13, 14, 15, 16] rfl (fun _ => rfl) (fun r_4 u H locs hw hP hD hS => ?_)
    obtain ⟨held_4, vals_4, cnum_4, len_4, mem_4, st_4, rc_4, sn_4, cd_4, mt_4, ft_4, L_4, cs_4, line_4, o_4⟩ := u
    obtain ⟨rfl, hM, ho, hV, hC, hL, hst⟩ := hw
    have hM : m_trecv (n, room, shut, L, (va_up cs q []), line, (va_up st q 0), rc, sn, (va_up cd q (nI i)), mt, ft) q x = ((n, room, shut, L_4, cs_4, line_4, st_4, rc_4, sn_4, cd_4, mt_4, ft_4), o_4) := hM
    have ho : o_4 ≤ 3 := ho
    have hV : RelV held_4 vals_4 L_4 := hV
    have hC : RelC cnum_4 cch cway cval cs_4 := hC
    have hL : RelL len_4 mem_4 line_4 := hL
    have hst : ∀ j, j < 16 → st_4 j < 5 := hst
    have hP : va_P G vwCl [(a_dk, .inr (3, [.ref a_ch, .ref a_cs, .ref a_ln, .ref a_ss, .ref a_rr, .ref a_wn, .ref a_cd, .int mt_4, .int ft_4])), (a_ch, .inr (1, [.ref a_rm, .ref a_hd, .ref a_sh, .ref a_vl, .int (nI n)])), (a_rm, .inl (cI, 40, .inl (fun j => nI (room j)))), (a_hd, .inl (cI, 40, .inl (fun j => nI (held_4 j)))), (a_sh, .inl (cZ, 40, .inl (fun j => bI (shut j)))), (a_vl, .inl (cI, 320, .inl vals_4)), (a_cs, .inr (0, [.ref a_cn, .ref a_cc, .ref a_cw, .ref a_cv])), (a_cn, .inl (cI, 16, .inl (fun j => nI (cnum_4 j)))), (a_cc, .inl (cI, 96, .inl (fun j => nI (cch j)))), (a_cw, .inl (cI, 96, .inl (fun j => nI (cway j)))), (a_cv, .inl (cI, 96, .inl cval)), (a_ln, .inr (2, [.ref a_mm, .int (nI len_4)])), (a_mm, .inl (cI, 16, .inl (fun j => nI (mem_4 j)))), (a_ss, .inl (cI, 16, .inl (fun j => nI (st_4 j)))), (a_rr, .inl (cI, 16, .inl rc_4)), (a_wn, .inl (cI, 16, .inl (fun j => nI (sn_4 j)))), (a_cd, .inl (cI, 16, .inl cd_4))] H := hP
    have hD : va_D A [(a_dk, .inr (3, [.ref a_ch, .ref a_cs, .ref a_ln, .ref a_ss, .ref a_rr, .ref a_wn, .ref a_cd, .int mt_4, .int ft_4])), (a_ch, .inr (1, [.ref a_rm, .ref a_hd, .ref a_sh, .ref a_vl, .int (nI n)])), (a_rm, .inl (cI, 40, .inl (fun j => nI (room j)))), (a_hd, .inl (cI, 40, .inl (fun j => nI (held_4 j)))), (a_sh, .inl (cZ, 40, .inl (fun j => bI (shut j)))), (a_vl, .inl (cI, 320, .inl vals_4)), (a_cs, .inr (0, [.ref a_cn, .ref a_cc, .ref a_cw, .ref a_cv])), (a_cn, .inl (cI, 16, .inl (fun j => nI (cnum_4 j)))), (a_cc, .inl (cI, 96, .inl (fun j => nI (cch j)))), (a_cw, .inl (cI, 96, .inl (fun j => nI (cway j)))), (a_cv, .inl (cI, 96, .inl cval)), (a_ln, .inr (2, [.ref a_mm, .int (nI len_4)])), (a_mm, .inl (cI, 16, .inl (fun j => nI (mem_4 j)))), (a_ss, .inl (cI, 16, .inl (fun j => nI (st_4 j)))), (a_rr, .inl (cI, 16, .inl rc_4)), (a_wn, .inl (cI, 16, .inl (fun j => nI (sn_4 j)))), (a_cd, .inl (cI, 16, .inl cd_4))] := hD
    refine lv_istore (lv' := [(6, .int (nI o_4)), (5, .int v), (4, .int (nI w)), (3, .int (nI x)), (0, .ref a_dk), (1, .int (nI q)), (2, .int (nI (q * 6 + i)))]) hx hb d_Dk_doCase_73 hl (by decide) rfl (fun ls hl => ?_)
    refine lv_iload hx hb d_Dk_doCase_75 (lv_at hl 0 rfl) ?_
    refine lv_iconst (v := (nI 3)) hx hb d_Dk_doCase_77 (by decide +kernel) ?_
    refine n_icmp_ne (tgt := 86) hx hb d_Dk_doCase_78 (by decide) (by omega) (by decide) (fun c_c => ?_) (fun c_c => ?_)
    · refine lv_iload_n hx hb d_Dk_doCase_86 rfl (lv_at hl 6 rfl) ?_
      refine k_ro (va_runS (As := [.int (nI (q * 6 + i))]) (rest := []) ⟨hx, hb, hml, hown, hts⟩ (c_Cs_numberAt l G cI cZ cJ (q * 6 + i) (by omega)) (va_cwS 1 hts (gS t_189 t_190 t_34 t_191) rfl rfl rfl (by decide +kernel) ⟨Nat.le_of_ble_eq_true rfl, Nat.le_of_ble_eq_true rfl⟩) (kR_S hK hP [] rfl) rfl rfl hl.1 rfl (lv_room (Nat.le_of_ble_eq_true rfl)) d_Dk_doCase_87 ⟨Nat.le_of_ble_eq_true rfl, Nat.le_of_ble_eq_true rfl⟩) ?_
      refine k_top (y := (nI i)) (congrArg nI (by omega)) ?_
      exact k_wi hx hb hr hlocks hP hS (held_4, vals_4, cnum_4, len_4, mem_4, st_4, rc_4, sn_4, cd_4, mt_4, ft_4, L_4, cs_4, line_4, i) (rfl) (⟨rfl, (m_doC_2 (σ := (n, room, shut, L, cs, line, st, rc, sn, cd, mt, ft)) hk9 c_b hM).trans (by rw [if_neg c_c]), hV, hC, hL, hst⟩) d_Dk_doCase_90
    · refine lv_bipush (v := (nI 12)) hx hb d_Dk_doCase_81 (by decide +kernel) ?_
      refine lv_goto (tgt := 90) hx hb d_Dk_doCase_83 (by decide) ?_
      exact k_wi hx hb hr hlocks hP hS (held_4, vals_4, cnum_4, len_4, mem_4, st_4, rc_4, sn_4, cd_4, mt_4, ft_4, L_4, cs_4, line_4, 12) (rfl) (⟨rfl, (m_doC_2 (σ := (n, room, shut, L, cs, line, st, rc, sn, cd, mt, ft)) hk9 c_b hM).trans (by rw [if_pos c_c]), hV, hC, hL, hst⟩) d_Dk_doCase_90
  · refine lv_aload_n hx hb d_Dk_doCase_56 rfl (lv_at hl 3 rfl) ?_
    refine lv_iload_n hx hb d_Dk_doCase_57 rfl (lv_at hl 4 rfl) ?_
    refine lv_iload_n hx hb d_Dk_doCase_58 rfl (lv_at hl 2 rfl) ?_
    refine lv_iload hx hb d_Dk_doCase_59 (lv_at hl 0 rfl) ?_
    refine k_rwi (va_runV (As := [.int (nI q), .int (nI x), .int v]) (rest := []) ⟨hx, hb, hml, hown, hts⟩ (c_Dk_trySend l G cI cZ cJ H.size a_dk a_ch a_cs a_ln a_ss a_rr a_wn a_cd a_rm a_hd a_sh a_vl a_cn a_cc a_cw a_cv a_mm mt ft n room held shut vals (va_up cnum q 0) cch cway cval len mem (va_up st q 0) rc sn (va_up cd q (nI i)) L (va_up cs q []) line q x v hq (by omega) hrm hV hC hL (st_up hst q (by decide))) (cwV 3 hts (gV t_152 t_153 t_3 t_32 t_154) rfl rfl rfl (by decide +kernel) ⟨Nat.le_of_ble_eq_true rfl, Nat.le_of_ble_eq_true rfl⟩) (kW_V (ci := 3) (q0 := 0) hK hP hD rfl rfl [0, 1, 2, 3, 4, 5, 6, 7, 8, 9, 10, 11, 12, 13, 14, 15, 16] rfl (by decide) rfl) rfl rfl hl.1 rfl (lv_room (Nat.le_of_ble_eq_true rfl)) d_Dk_doCase_61 ⟨Nat.le_of_ble_eq_true rfl, Nat.le_of_ble_eq_true rfl⟩) hP hD hS hA [0, 1, 2, 3, 4, 5, 6, 7, 8, 9, 10, 11, 12, 13, 14, 15, 16] rfl (fun _ => rfl) (fun r_6 u H locs hw hP hD hS => ?_)
    obtain ⟨held_6, vals_6, cnum_6, len_6, mem_6, st_6, rc_6, sn_6, cd_6, mt_6, ft_6, L_6, cs_6, line_6, o_6⟩ := u
    obtain ⟨rfl, hM, ho, hV, hC, hL, hst⟩ := hw
    have hM : m_tsend (n, room, shut, L, (va_up cs q []), line, (va_up st q 0), rc, sn, (va_up cd q (nI i)), mt, ft) q x v = ((n, room, shut, L_6, cs_6, line_6, st_6, rc_6, sn_6, cd_6, mt_6, ft_6), o_6) := hM
    have ho : o_6 ≤ 3 := ho
    have hV : RelV held_6 vals_6 L_6 := hV
    have hC : RelC cnum_6 cch cway cval cs_6 := hC
    have hL : RelL len_6 mem_6 line_6 := hL
    have hst : ∀ j, j < 16 → st_6 j < 5 := hst
    have hP : va_P G vwCl [(a_dk, .inr (3, [.ref a_ch, .ref a_cs, .ref a_ln, .ref a_ss, .ref a_rr, .ref a_wn, .ref a_cd, .int mt_6, .int ft_6])), (a_ch, .inr (1, [.ref a_rm, .ref a_hd, .ref a_sh, .ref a_vl, .int (nI n)])), (a_rm, .inl (cI, 40, .inl (fun j => nI (room j)))), (a_hd, .inl (cI, 40, .inl (fun j => nI (held_6 j)))), (a_sh, .inl (cZ, 40, .inl (fun j => bI (shut j)))), (a_vl, .inl (cI, 320, .inl vals_6)), (a_cs, .inr (0, [.ref a_cn, .ref a_cc, .ref a_cw, .ref a_cv])), (a_cn, .inl (cI, 16, .inl (fun j => nI (cnum_6 j)))), (a_cc, .inl (cI, 96, .inl (fun j => nI (cch j)))), (a_cw, .inl (cI, 96, .inl (fun j => nI (cway j)))), (a_cv, .inl (cI, 96, .inl cval)), (a_ln, .inr (2, [.ref a_mm, .int (nI len_6)])), (a_mm, .inl (cI, 16, .inl (fun j => nI (mem_6 j)))), (a_ss, .inl (cI, 16, .inl (fun j => nI (st_6 j)))), (a_rr, .inl (cI, 16, .inl rc_6)), (a_wn, .inl (cI, 16, .inl (fun j => nI (sn_6 j)))), (a_cd, .inl (cI, 16, .inl cd_6))] H := hP
    have hD : va_D A [(a_dk, .inr (3, [.ref a_ch, .ref a_cs, .ref a_ln, .ref a_ss, .ref a_rr, .ref a_wn, .ref a_cd, .int mt_6, .int ft_6])), (a_ch, .inr (1, [.ref a_rm, .ref a_hd, .ref a_sh, .ref a_vl, .int (nI n)])), (a_rm, .inl (cI, 40, .inl (fun j => nI (room j)))), (a_hd, .inl (cI, 40, .inl (fun j => nI (held_6 j)))), (a_sh, .inl (cZ, 40, .inl (fun j => bI (shut j)))), (a_vl, .inl (cI, 320, .inl vals_6)), (a_cs, .inr (0, [.ref a_cn, .ref a_cc, .ref a_cw, .ref a_cv])), (a_cn, .inl (cI, 16, .inl (fun j => nI (cnum_6 j)))), (a_cc, .inl (cI, 96, .inl (fun j => nI (cch j)))), (a_cw, .inl (cI, 96, .inl (fun j => nI (cway j)))), (a_cv, .inl (cI, 96, .inl cval)), (a_ln, .inr (2, [.ref a_mm, .int (nI len_6)])), (a_mm, .inl (cI, 16, .inl (fun j => nI (mem_6 j)))), (a_ss, .inl (cI, 16, .inl (fun j => nI (st_6 j)))), (a_rr, .inl (cI, 16, .inl rc_6)), (a_wn, .inl (cI, 16, .inl (fun j => nI (sn_6 j)))), (a_cd, .inl (cI, 16, .inl cd_6))] := hD
    refine lv_goto (tgt := 73) hx hb d_Dk_doCase_64 (by decide) ?_
    refine lv_istore (lv' := [(6, .int (nI o_6)), (5, .int v), (4, .int (nI w)), (3, .int (nI x)), (0, .ref a_dk), (1, .int (nI q)), (2, .int (nI (q * 6 + i)))]) hx hb d_Dk_doCase_73 hl (by decide) rfl (fun ls hl => ?_)
    refine lv_iload hx hb d_Dk_doCase_75 (lv_at hl 0 rfl) ?_
    refine lv_iconst (v := (nI 3)) hx hb d_Dk_doCase_77 (by decide +kernel) ?_
    refine n_icmp_ne (tgt := 86) hx hb d_Dk_doCase_78 (by decide) (by omega) (by decide) (fun c_c => ?_) (fun c_c => ?_)
    · refine lv_iload_n hx hb d_Dk_doCase_86 rfl (lv_at hl 6 rfl) ?_
      refine k_ro (va_runS (As := [.int (nI (q * 6 + i))]) (rest := []) ⟨hx, hb, hml, hown, hts⟩ (c_Cs_numberAt l G cI cZ cJ (q * 6 + i) (by omega)) (va_cwS 1 hts (gS t_189 t_190 t_34 t_191) rfl rfl rfl (by decide +kernel) ⟨Nat.le_of_ble_eq_true rfl, Nat.le_of_ble_eq_true rfl⟩) (kR_S hK hP [] rfl) rfl rfl hl.1 rfl (lv_room (Nat.le_of_ble_eq_true rfl)) d_Dk_doCase_87 ⟨Nat.le_of_ble_eq_true rfl, Nat.le_of_ble_eq_true rfl⟩) ?_
      refine k_top (y := (nI i)) (congrArg nI (by omega)) ?_
      exact k_wi hx hb hr hlocks hP hS (held_6, vals_6, cnum_6, len_6, mem_6, st_6, rc_6, sn_6, cd_6, mt_6, ft_6, L_6, cs_6, line_6, i) (rfl) (⟨rfl, (m_doC_1 (σ := (n, room, shut, L, cs, line, st, rc, sn, cd, mt, ft)) hk9 c_b hM).trans (by rw [if_neg c_c]), hV, hC, hL, hst⟩) d_Dk_doCase_90
    · refine lv_bipush (v := (nI 12)) hx hb d_Dk_doCase_81 (by decide +kernel) ?_
      refine lv_goto (tgt := 90) hx hb d_Dk_doCase_83 (by decide) ?_
      exact k_wi hx hb hr hlocks hP hS (held_6, vals_6, cnum_6, len_6, mem_6, st_6, rc_6, sn_6, cd_6, mt_6, ft_6, L_6, cs_6, line_6, 12) (rfl) (⟨rfl, (m_doC_1 (σ := (n, room, shut, L, cs, line, st, rc, sn, cd, mt, ft)) hk9 c_b hM).trans (by rw [if_pos c_c]), hV, hC, hL, hst⟩) d_Dk_doCase_90
set_option maxHeartbeats 4000000 in
set_option maxRecDepth 100000 in
theorem c_Dk_isPossible (l : Launch) (G : va_G) (cI cZ cJ : ClassId) (a_dk : Nat) (a_ch : Nat) (a_cs : Nat) (a_ln : Nat) (a_ss : Nat) (a_rr : Nat) (a_wn : Nat) (a_cd : Nat) (a_rm : Nat) (a_hd : Nat) (a_sh : Nat) (a_vl : Nat) (a_cn : Nat) (a_cc : Nat) (a_cw : Nat) (a_cv : Nat) (a_mm : Nat) (mt : Int32) (ft : Int32) (n : Nat) (room : Nat → Nat) (held : Nat → Nat) (shut : Nat → Bool) (cnum : Nat → Nat) (cch : Nat → Nat) (cway : Nat → Nat) (len : Nat) (mem : Nat → Nat) (vals : Nat → Int32) (cval : Nat → Int32) (L : Nat → List Int32) (cs : Nat → List Kase) (line : List Nat) (q : Nat) (i : Nat) (hq : q < 16) (hi : i < (cs q).length) (hrm : ∀ j, j < 40 → room j ≤ 8) (hV : RelV held vals L) (hC : RelC cnum cch cway cval cs) (hL : RelL len mem line) : Met l y_Dk_isPossible (w_Dk_isPossible) ({ frames := 4, cells := 0, slots := 0, locals := 94 }) (va_Pc [.ref a_dk, .int (nI (q * 6 + i))] (kR G vwCl [(cI, .int), (cZ, .boolean), (cJ, .long)] [(a_dk, .inr (3, [.ref a_ch, .ref a_cs, .ref a_ln, .ref a_ss, .ref a_rr, .ref a_wn, .ref a_cd, .int mt, .int ft])), (a_ch, .inr (1, [.ref a_rm, .ref a_hd, .ref a_sh, .ref a_vl, .int (nI n)])), (a_rm, .inl (cI, 40, .inl (fun j => nI (room j)))), (a_hd, .inl (cI, 40, .inl (fun j => nI (held j)))), (a_sh, .inl (cZ, 40, .inl (fun j => bI (shut j)))), (a_cs, .inr (0, [.ref a_cn, .ref a_cc, .ref a_cw, .ref a_cv])), (a_cn, .inl (cI, 16, .inl (fun j => nI (cnum j)))), (a_cc, .inl (cI, 96, .inl (fun j => nI (cch j)))), (a_cw, .inl (cI, 96, .inl (fun j => nI (cway j)))), (a_ln, .inr (2, [.ref a_mm, .int (nI len)])), (a_mm, .inl (cI, 16, .inl (fun j => nI (mem j))))])) (QcRead ((bI (m_poss shut room L cs line (kAt cs q i))))) 0 0 (fun _ => False) := by
  refine Met.ofW (cc := b_Dk_isPossible) (maxL := 3) (ret := (some .boolean)) (by decide) rfl ?_
  intro p e s m args below meth c s₁ B hml hv
  obtain ⟨rfl, hP, hK⟩ := hv
  have hx := B.exec
  have hb := B.bytes
  have hr := B.returns
  have hts : ∀ w ∈ TT, w.before _ s = true := fun w h => atoms_spec (ws := (w_Dk_isPossible)) B.pre w (List.mem_cons_of_mem _ h)
  have hown : s.vm.findClass R_Dk = some m.cls := findClass_of_methodNamed B.named
  have hlocks := B.notSynchronized
  have hP : va_P G vwCl [(a_dk, .inr (3, [.ref a_ch, .ref a_cs, .ref a_ln, .ref a_ss, .ref a_rr, .ref a_wn, .ref a_cd, .int mt, .int ft])), (a_ch, .inr (1, [.ref a_rm, .ref a_hd, .ref a_sh, .ref a_vl, .int (nI n)])), (a_rm, .inl (cI, 40, .inl (fun j => nI (room j)))), (a_hd, .inl (cI, 40, .inl (fun j => nI (held j)))), (a_sh, .inl (cZ, 40, .inl (fun j => bI (shut j)))), (a_cs, .inr (0, [.ref a_cn, .ref a_cc, .ref a_cw, .ref a_cv])), (a_cn, .inl (cI, 16, .inl (fun j => nI (cnum j)))), (a_cc, .inl (cI, 96, .inl (fun j => nI (cch j)))), (a_cw, .inl (cI, 96, .inl (fun j => nI (cway j)))), (a_ln, .inr (2, [.ref a_mm, .int (nI len)])), (a_mm, .inl (cI, 16, .inl (fun j => nI (mem j))))] s.heap := hP
  have hl := lv_entry ([.ref a_dk, .int (nI (q * 6 + i))]) (n := 3) (Nat.le_of_ble_eq_true rfl)
  rw [lg_entry_eq]
  generalize (lg_sl ([.ref a_dk, .int (nI (q * 6 + i))]) ++ List.replicate (3 - (lg_sl ([.ref a_dk, .int (nI (q * 6 + i))])).length) Slot.unset).toArray = ls at hl ⊢
  have hl : lv_has ls 3 [(0, .ref a_dk), (1, .int (nI (q * 6 + i)))] := hl
  obtain ⟨x, w, v, hk9⟩ : ∃ x w v, kAt cs q i = (x, w, v) := ⟨_, _, _, rfl⟩
  have hx0 : x < 40 := by have h9 := (RelC_k hC hq hi).1; rw [hk9] at h9; exact h9
  have hw2 : w < 2 := by have h9 := (RelC_k hC hq hi).2; rw [hk9] at h9; exact h9
  have hv8 := (hV x hx0).2.1
  refine lv_aload_n hx hb d_Dk_isPossible_0 rfl (lv_at hl 0 rfl) ?_
  refine va_get (D := G) (ci := 3) (v := .ref a_cs) (C := R_Dk) (T := T_Dk) (N := 9) hx hb hts uw_Dk hown hK hP 0 rfl rfl 1 (by decide) (hts _ t_106) (fun _ h9 => h9) rfl d_Dk_isPossible_1 ?_
  refine lv_iload_n hx hb d_Dk_isPossible_4 rfl (lv_at hl 1 rfl) ?_
  refine k_ro (va_runV (As := [.int (nI (q * 6 + i))]) (rest := []) ⟨hx, hb, hml, hown, hts⟩ (c_Cs_channelAt l G cI cZ cJ a_cs a_cn a_cc a_cw a_cv cch cnum cway cval cs q i hq hC hi) (cwV 1 hts (gV t_265 t_266 t_267 t_34 t_268) rfl rfl rfl (by decide +kernel) ⟨Nat.le_of_ble_eq_true rfl, Nat.le_of_ble_eq_true rfl⟩) (kR_V (ci := 0) (q0 := 5) hK hP rfl rfl [5, 7] rfl) rfl rfl hl.1 rfl (lv_room (Nat.le_of_ble_eq_true rfl)) d_Dk_isPossible_5 ⟨Nat.le_of_ble_eq_true rfl, Nat.le_of_ble_eq_true rfl⟩) ?_
  refine k_top (y := (nI x)) (by rw [hk9]) ?_
  refine lv_istore_n (lv' := [(2, .int (nI x)), (0, .ref a_dk), (1, .int (nI (q * 6 + i)))]) hx hb d_Dk_isPossible_8 rfl hl (by decide) rfl (fun ls hl => ?_)
  refine lv_aload_n hx hb d_Dk_isPossible_9 rfl (lv_at hl 1 rfl) ?_
  refine va_get (D := G) (ci := 3) (v := .ref a_ch) (C := R_Dk) (T := T_Dk) (N := 9) hx hb hts uw_Dk hown hK hP 0 rfl rfl 0 (by decide) (hts _ t_105) (fun _ h9 => h9) rfl d_Dk_isPossible_10 ?_
  refine lv_iload_n hx hb d_Dk_isPossible_13 rfl (lv_at hl 0 rfl) ?_
  refine k_ro (va_runV (As := [.int (nI x)]) (rest := []) ⟨hx, hb, hml, hown, hts⟩ (c_Ch_isShut l G cI cZ cJ a_ch a_rm a_hd a_sh a_vl n shut x (by omega)) (cwV 1 hts (gV t_155 t_156 t_157 t_33 t_158) rfl rfl rfl (by decide +kernel) ⟨Nat.le_of_ble_eq_true rfl, Nat.le_of_ble_eq_true rfl⟩) (kR_V (ci := 1) (q0 := 1) hK hP rfl rfl [1, 4] rfl) rfl rfl hl.1 rfl (lv_room (Nat.le_of_ble_eq_true rfl)) d_Dk_isPossible_14 ⟨Nat.le_of_ble_eq_true rfl, Nat.le_of_ble_eq_true rfl⟩) ?_
  refine b_if_eq (tgt := 22) hx hb d_Dk_isPossible_17 (by decide) (fun c_a => ?_) (fun c_a => ?_)
  · refine lv_aload_n hx hb d_Dk_isPossible_22 rfl (lv_at hl 1 rfl) ?_
    refine va_get (D := G) (ci := 3) (v := .ref a_cs) (C := R_Dk) (T := T_Dk) (N := 9) hx hb hts uw_Dk hown hK hP 0 rfl rfl 1 (by decide) (hts _ t_106) (fun _ h9 => h9) rfl d_Dk_isPossible_23 ?_
    refine lv_iload_n hx hb d_Dk_isPossible_26 rfl (lv_at hl 2 rfl) ?_
    refine k_ro (va_runV (As := [.int (nI (q * 6 + i))]) (rest := []) ⟨hx, hb, hml, hown, hts⟩ (c_Cs_wayAt l G cI cZ cJ a_cs a_cn a_cc a_cw a_cv cway cnum cch cval cs q i hq hC hi) (cwV 1 hts (gV t_269 t_270 t_271 t_34 t_272) rfl rfl rfl (by decide +kernel) ⟨Nat.le_of_ble_eq_true rfl, Nat.le_of_ble_eq_true rfl⟩) (kR_V (ci := 0) (q0 := 5) hK hP rfl rfl [5, 8] rfl) rfl rfl hl.1 rfl (lv_room (Nat.le_of_ble_eq_true rfl)) d_Dk_isPossible_27 ⟨Nat.le_of_ble_eq_true rfl, Nat.le_of_ble_eq_true rfl⟩) ?_
    refine k_top (y := (nI w)) (by rw [hk9]) ?_
    refine n_if_ne (tgt := 60) hx hb d_Dk_isPossible_30 (by decide) (by omega) (fun c_b => ?_) (fun c_b => ?_)
    · refine lv_aload_n hx hb d_Dk_isPossible_60 rfl (lv_at hl 1 rfl) ?_
      refine va_get (D := G) (ci := 3) (v := .ref a_ch) (C := R_Dk) (T := T_Dk) (N := 9) hx hb hts uw_Dk hown hK hP 0 rfl rfl 0 (by decide) (hts _ t_105) (fun _ h9 => h9) rfl d_Dk_isPossible_61 ?_
      refine lv_iload_n hx hb d_Dk_isPossible_64 rfl (lv_at hl 0 rfl) ?_
      refine k_ro (va_runV (As := [.int (nI x)]) (rest := []) ⟨hx, hb, hml, hown, hts⟩ (c_Ch_held l G cI cZ cJ a_ch a_rm a_hd a_sh a_vl n held vals L x (by omega) hV) (cwV 1 hts (gV t_225 t_226 t_227 t_33 t_228) rfl rfl rfl (by decide +kernel) ⟨Nat.le_of_ble_eq_true rfl, Nat.le_of_ble_eq_true rfl⟩) (kR_V (ci := 1) (q0 := 1) hK hP rfl rfl [1, 3] rfl) rfl rfl hl.1 rfl (lv_room (Nat.le_of_ble_eq_true rfl)) d_Dk_isPossible_65 ⟨Nat.le_of_ble_eq_true rfl, Nat.le_of_ble_eq_true rfl⟩) ?_
      refine n_if_gt (tgt := 81) hx hb d_Dk_isPossible_68 (by decide) (by omega) (fun c_e => ?_) (fun c_e => ?_)
      · refine lv_iconst (v := (nI 1)) hx hb d_Dk_isPossible_81 (by decide +kernel) ?_
        refine lv_goto (tgt := 86) hx hb d_Dk_isPossible_82 (by decide) ?_
        exact k_rz hx hb hr hlocks (by decide +kernel) (by rw [hk9]; exact mp_5 c_b c_e) d_Dk_isPossible_86
      · refine lv_aload_n hx hb d_Dk_isPossible_71 rfl (lv_at hl 1 rfl) ?_
        refine lv_iload_n hx hb d_Dk_isPossible_72 rfl (lv_at hl 0 rfl) ?_
        refine lv_iconst (v := (nI 0)) hx hb d_Dk_isPossible_73 (by decide +kernel) ?_
        refine k_ro (va_runV (As := [.int (nI x), .int (nI 0)]) (rest := []) ⟨hx, hb, hml, hown, hts⟩ (c_Dk_firstWaiting l G cI cZ cJ a_dk a_ch a_cs a_ln a_ss a_rr a_wn a_cd a_mm a_cn a_cc a_cw a_cv mt ft len mem cnum cch cway cval cs line x 0 hx0 (by decide) hC hL) (cwV 2 hts (gV t_162 t_163 t_5 t_32 t_164) rfl rfl rfl (by decide +kernel) ⟨Nat.le_of_ble_eq_true rfl, Nat.le_of_ble_eq_true rfl⟩) (kR_V (ci := 3) (q0 := 0) hK hP rfl rfl [0, 9, 10, 5, 6, 7, 8] rfl) rfl rfl hl.1 rfl (lv_room (Nat.le_of_ble_eq_true rfl)) d_Dk_isPossible_74 ⟨Nat.le_of_ble_eq_true rfl, Nat.le_of_ble_eq_true rfl⟩) ?_
        rcases hz : (wl cs line x 0)[0]? with _ | ⟨q1, i1⟩
        · refine k_top (y := (-1)) (rfl) ?_
          refine lv_iconst (v := (-1)) hx hb d_Dk_isPossible_77 (by decide +kernel) ?_
          refine lv_icmp_eq (tgt := 85) hx hb d_Dk_isPossible_78 (by decide) (fun c_f => ?_) (fun c_f => absurd rfl c_f)
          refine lv_iconst (v := (nI 0)) hx hb d_Dk_isPossible_85 (by decide +kernel) ?_
          exact k_rz hx hb hr hlocks (by decide +kernel) (by rw [hk9]; exact mp_7 c_a c_b c_e hz) d_Dk_isPossible_86
        · have hz1 := wl_mem (List.mem_of_getElem? hz)
          have hq1 : q1 < 16 := RelL_lt hL hz1.1
          have hi1 : i1 < (cs q1).length := fa_lt hz1.2
          have h61 := (hC q1 hq1).2.1
          refine k_top (y := (nI (q1 * 6 + i1))) (rfl) ?_
          refine lv_iconst (v := (-1)) hx hb d_Dk_isPossible_77 (by decide +kernel) ?_
          refine lv_icmp_eq (tgt := 85) hx hb d_Dk_isPossible_78 (by decide) (fun c_f => absurd c_f (nI_m1 (by omega))) (fun c_f => ?_)
          refine lv_iconst (v := (nI 1)) hx hb d_Dk_isPossible_81 (by decide +kernel) ?_
          refine lv_goto (tgt := 86) hx hb d_Dk_isPossible_82 (by decide) ?_
          exact k_rz hx hb hr hlocks (by decide +kernel) (by rw [hk9]; exact mp_6 c_b hz) d_Dk_isPossible_86
    · refine lv_aload_n hx hb d_Dk_isPossible_33 rfl (lv_at hl 1 rfl) ?_
      refine va_get (D := G) (ci := 3) (v := .ref a_ch) (C := R_Dk) (T := T_Dk) (N := 9) hx hb hts uw_Dk hown hK hP 0 rfl rfl 0 (by decide) (hts _ t_105) (fun _ h9 => h9) rfl d_Dk_isPossible_34 ?_
      refine lv_iload_n hx hb d_Dk_isPossible_37 rfl (lv_at hl 0 rfl) ?_
      refine k_ro (va_runV (As := [.int (nI x)]) (rest := []) ⟨hx, hb, hml, hown, hts⟩ (c_Ch_hasSpace l G cI cZ cJ a_ch a_rm a_hd a_sh a_vl n room held vals L x (by omega) hV (hrm x hx0)) (cwV 1 hts (gV t_273 t_204 t_205 t_33 t_206) rfl rfl rfl (by decide +kernel) ⟨Nat.le_of_ble_eq_true rfl, Nat.le_of_ble_eq_true rfl⟩) (kR_V (ci := 1) (q0 := 1) hK hP rfl rfl [1, 2, 3] rfl) rfl rfl hl.1 rfl (lv_room (Nat.le_of_ble_eq_true rfl)) d_Dk_isPossible_38 ⟨Nat.le_of_ble_eq_true rfl, Nat.le_of_ble_eq_true rfl⟩) ?_
      refine b_if_ne (tgt := 54) hx hb d_Dk_isPossible_41 (by decide) (fun c_c => ?_) (fun c_c => ?_)
      · refine lv_iconst (v := (nI 1)) hx hb d_Dk_isPossible_54 (by decide +kernel) ?_
        refine lv_goto (tgt := 59) hx hb d_Dk_isPossible_55 (by decide) ?_
        exact k_rz hx hb hr hlocks (by decide +kernel) (by rw [hk9]; exact mp_2 c_b c_c) d_Dk_isPossible_59
      · refine lv_aload_n hx hb d_Dk_isPossible_44 rfl (lv_at hl 1 rfl) ?_
        refine lv_iload_n hx hb d_Dk_isPossible_45 rfl (lv_at hl 0 rfl) ?_
        refine lv_iconst (v := (nI 1)) hx hb d_Dk_isPossible_46 (by decide +kernel) ?_
        refine k_ro (va_runV (As := [.int (nI x), .int (nI 1)]) (rest := []) ⟨hx, hb, hml, hown, hts⟩ (c_Dk_firstWaiting l G cI cZ cJ a_dk a_ch a_cs a_ln a_ss a_rr a_wn a_cd a_mm a_cn a_cc a_cw a_cv mt ft len mem cnum cch cway cval cs line x 1 hx0 (by decide) hC hL) (cwV 2 hts (gV t_162 t_163 t_5 t_32 t_164) rfl rfl rfl (by decide +kernel) ⟨Nat.le_of_ble_eq_true rfl, Nat.le_of_ble_eq_true rfl⟩) (kR_V (ci := 3) (q0 := 0) hK hP rfl rfl [0, 9, 10, 5, 6, 7, 8] rfl) rfl rfl hl.1 rfl (lv_room (Nat.le_of_ble_eq_true rfl)) d_Dk_isPossible_47 ⟨Nat.le_of_ble_eq_true rfl, Nat.le_of_ble_eq_true rfl⟩) ?_
        rcases hz : (wl cs line x 1)[0]? with _ | ⟨q1, i1⟩
        · refine k_top (y := (-1)) (rfl) ?_
          refine lv_iconst (v := (-1)) hx hb d_Dk_isPossible_50 (by decide +kernel) ?_
          refine lv_icmp_eq (tgt := 58) hx hb d_Dk_isPossible_51 (by decide) (fun c_d => ?_) (fun c_d => absurd rfl c_d)
          refine lv_iconst (v := (nI 0)) hx hb d_Dk_isPossible_58 (by decide +kernel) ?_
          exact k_rz hx hb hr hlocks (by decide +kernel) (by rw [hk9]; exact mp_4 c_a c_b c_c hz) d_Dk_isPossible_59
        · have hz1 := wl_mem (List.mem_of_getElem? hz)
          have hq1 : q1 < 16 := RelL_lt hL hz1.1
          have hi1 : i1 < (cs q1).length := fa_lt hz1.2
          have h61 := (hC q1 hq1).2.1
          refine k_top (y := (nI (q1 * 6 + i1))) (rfl) ?_
          refine lv_iconst (v := (-1)) hx hb d_Dk_isPossible_50 (by decide +kernel) ?_
          refine lv_icmp_eq (tgt := 58) hx hb d_Dk_isPossible_51 (by decide) (fun c_d => absurd c_d (nI_m1 (by omega))) (fun c_d => ?_)
          refine lv_iconst (v := (nI 1)) hx hb d_Dk_isPossible_54 (by decide +kernel) ?_
          refine lv_goto (tgt := 59) hx hb d_Dk_isPossible_55 (by decide) ?_
          exact k_rz hx hb hr hlocks (by decide +kernel) (by rw [hk9]; exact mp_3 c_b hz) d_Dk_isPossible_59
  · refine lv_iconst (v := (nI 1)) hx hb d_Dk_isPossible_20 (by decide +kernel) ?_
    exact k_rz hx hb hr hlocks (by decide +kernel) (by rw [hk9]; exact mp_1 c_a) d_Dk_isPossible_21
set_option maxHeartbeats 4000000 in
set_option maxRecDepth 100000 in
theorem c_Dk_countPossible (l : Launch) (G : va_G) (cI cZ cJ : ClassId) (a_dk : Nat) (a_ch : Nat) (a_cs : Nat) (a_ln : Nat) (a_ss : Nat) (a_rr : Nat) (a_wn : Nat) (a_cd : Nat) (a_rm : Nat) (a_hd : Nat) (a_sh : Nat) (a_vl : Nat) (a_cn : Nat) (a_cc : Nat) (a_cw : Nat) (a_cv : Nat) (a_mm : Nat) (mt : Int32) (ft : Int32) (n : Nat) (room : Nat → Nat) (held : Nat → Nat) (shut : Nat → Bool) (cnum : Nat → Nat) (cch : Nat → Nat) (cway : Nat → Nat) (len : Nat) (mem : Nat → Nat) (vals : Nat → Int32) (cval : Nat → Int32) (L : Nat → List Int32) (cs : Nat → List Kase) (line : List Nat) (q : Nat) (hq : q < 16) (hrm : ∀ j, j < 40 → room j ≤ 8) (hV : RelV held vals L) (hC : RelC cnum cch cway cval cs) (hL : RelL len mem line) : Met l y_Dk_countPossible (w_Dk_countPossible) ({ frames := 5, cells := 0, slots := 0, locals := 116 }) (va_Pc [.ref a_dk, .int (nI q)] (kR G vwCl [(cI, .int), (cZ, .boolean), (cJ, .long)] [(a_dk, .inr (3, [.ref a_ch, .ref a_cs, .ref a_ln, .ref a_ss, .ref a_rr, .ref a_wn, .ref a_cd, .int mt, .int ft])), (a_ch, .inr (1, [.ref a_rm, .ref a_hd, .ref a_sh, .ref a_vl, .int (nI n)])), (a_rm, .inl (cI, 40, .inl (fun j => nI (room j)))), (a_hd, .inl (cI, 40, .inl (fun j => nI (held j)))), (a_sh, .inl (cZ, 40, .inl (fun j => bI (shut j)))), (a_cs, .inr (0, [.ref a_cn, .ref a_cc, .ref a_cw, .ref a_cv])), (a_cn, .inl (cI, 16, .inl (fun j => nI (cnum j)))), (a_cc, .inl (cI, 96, .inl (fun j => nI (cch j)))), (a_cw, .inl (cI, 96, .inl (fun j => nI (cway j)))), (a_ln, .inr (2, [.ref a_mm, .int (nI len)])), (a_mm, .inl (cI, 16, .inl (fun j => nI (mem j))))])) (QcRead ((nI ((m_pl shut room L cs line q).length)))) 0 0 (fun _ => False) := by
  refine Met.ofW (cc := b_Dk_countPossible) (maxL := 4) (ret := (some .int)) (by decide) rfl ?_
  intro p e s m args below meth c s₁ B hml hv
  obtain ⟨rfl, hP, hK⟩ := hv
  have hx := B.exec
  have hb := B.bytes
  have hr := B.returns
  have hts : ∀ w ∈ TT, w.before _ s = true := fun w h => atoms_spec (ws := (w_Dk_countPossible)) B.pre w (List.mem_cons_of_mem _ h)
  have hown : s.vm.findClass R_Dk = some m.cls := findClass_of_methodNamed B.named
  have hlocks := B.notSynchronized
  have hP : va_P G vwCl [(a_dk, .inr (3, [.ref a_ch, .ref a_cs, .ref a_ln, .ref a_ss, .ref a_rr, .ref a_wn, .ref a_cd, .int mt, .int ft])), (a_ch, .inr (1, [.ref a_rm, .ref a_hd, .ref a_sh, .ref a_vl, .int (nI n)])), (a_rm, .inl (cI, 40, .inl (fun j => nI (room j)))), (a_hd, .inl (cI, 40, .inl (fun j => nI (held j)))), (a_sh, .inl (cZ, 40, .inl (fun j => bI (shut j)))), (a_cs, .inr (0, [.ref a_cn, .ref a_cc, .ref a_cw, .ref a_cv])), (a_cn, .inl (cI, 16, .inl (fun j => nI (cnum j)))), (a_cc, .inl (cI, 96, .inl (fun j => nI (cch j)))), (a_cw, .inl (cI, 96, .inl (fun j => nI (cway j)))), (a_ln, .inr (2, [.ref a_mm, .int (nI len)])), (a_mm, .inl (cI, 16, .inl (fun j => nI (mem j))))] s.heap := hP
  have hl := lv_entry ([.ref a_dk, .int (nI q)]) (n := 4) (Nat.le_of_ble_eq_true rfl)
  rw [lg_entry_eq]
  generalize (lg_sl ([.ref a_dk, .int (nI q)]) ++ List.replicate (4 - (lg_sl ([.ref a_dk, .int (nI q)])).length) Slot.unset).toArray = ls at hl ⊢
  have hl : lv_has ls 4 [(0, .ref a_dk), (1, .int (nI q))] := hl
  have hh2 := (hC q hq).2.1
  refine lv_iconst (v := (nI 0)) hx hb d_Dk_countPossible_0 (by decide +kernel) ?_
  refine lv_istore_n (lv' := [(2, .int (nI 0)), (0, .ref a_dk), (1, .int (nI q))]) hx hb d_Dk_countPossible_1 rfl hl (by decide) rfl (fun ls hl => ?_)
  refine lv_iconst (v := (nI 0)) hx hb d_Dk_countPossible_2 (by decide +kernel) ?_
  refine lv_istore_n (lv' := [(3, .int (nI 0)), (2, .int (nI 0)), (0, .ref a_dk), (1, .int (nI q))]) hx hb d_Dk_countPossible_3 rfl hl (by decide) rfl (fun ls hl => ?_)
  have loop_4 : ∀ (k : Nat) (ps : Nat) (i : Nat) (ls : Array Slot), i ≤ (cs q).length → ps = ((List.range i).filter (fun j => m_poss shut room L cs line (kAt cs q j))).length → (cs q).length - i < k → lv_has ls 4 [(0, .ref a_dk), (1, .int (nI q)), (2, .int (nI ps)), (3, .int (nI i))] → W p l e (headSpec (w_Dk_countPossible) ({ frames := 5, cells := 0, slots := 0, locals := 116 })).room s m (List.toArray [.ref a_dk, .int (nI q)]) below meth c s.heap [] 0 0 (MQ below (QcRead ((nI ((m_pl shut room L cs line q).length)))) (List.toArray [.ref a_dk, .int (nI q)]) s 0 0 (fun _ => False)) (F0 m 4 ls []) := by
    intro k
    induction k with
    | zero => intro ps i ls hi9 hp9 hk; exact absurd hk (Nat.not_lt_zero _)
    | succ k ih_4 =>
      intro ps i ls hi9 hp9 hk hl
      refine lv_iload_n hx hb d_Dk_countPossible_4 rfl (lv_at hl 3 rfl) ?_
      refine lv_aload_n hx hb d_Dk_countPossible_5 rfl (lv_at hl 0 rfl) ?_
      refine va_get (D := G) (ci := 3) (v := .ref a_cs) (C := R_Dk) (T := T_Dk) (N := 9) hx hb hts uw_Dk hown hK hP 0 rfl rfl 1 (by decide) (hts _ t_106) (fun _ h9 => h9) rfl d_Dk_countPossible_6 ?_
      refine lv_iload_n hx hb d_Dk_countPossible_9 rfl (lv_at hl 1 rfl) ?_
      refine k_ro (va_runV (As := [.int (nI q)]) (rest := [.int (nI i)]) ⟨hx, hb, hml, hown, hts⟩ (c_Cs_numberOf l G cI cZ cJ a_cs a_cn a_cc a_cw a_cv cnum cch cway cval cs q hq hC) (cwV 1 hts (gV t_257 t_258 t_259 t_34 t_260) rfl rfl rfl (by decide +kernel) ⟨Nat.le_of_ble_eq_true rfl, Nat.le_of_ble_eq_true rfl⟩) (kR_V (ci := 0) (q0 := 5) hK hP rfl rfl [5, 6] rfl) rfl rfl hl.1 rfl (lv_room (Nat.le_of_ble_eq_true rfl)) d_Dk_countPossible_10 ⟨Nat.le_of_ble_eq_true rfl, Nat.le_of_ble_eq_true rfl⟩) ?_
      refine n_icmp_ge (tgt := 37) hx hb d_Dk_countPossible_13 (by decide) (by omega) (by omega) (fun c_a => ?_) (fun c_a => ?_)
      · refine lv_iload_n hx hb d_Dk_countPossible_37 rfl (lv_at hl 2 rfl) ?_
        exact k_ri hx hb hr hlocks (congrArg nI (by rw [hp9, show i = (cs q).length by omega]; rfl)) d_Dk_countPossible_38
      · refine lv_aload_n hx hb d_Dk_countPossible_16 rfl (lv_at hl 0 rfl) ?_
        refine lv_iload_n hx hb d_Dk_countPossible_17 rfl (lv_at hl 1 rfl) ?_
        refine lv_iload_n hx hb d_Dk_countPossible_18 rfl (lv_at hl 3 rfl) ?_
        refine k_ro (va_runS (As := [.int (nI q), .int (nI i)]) (rest := [.ref a_dk]) ⟨hx, hb, hml, hown, hts⟩ (c_Cs_slotOf l G cI cZ cJ q i) (va_cwS 2 hts (gS t_261 t_181 t_34 t_182) rfl rfl rfl (by decide +kernel) ⟨Nat.le_of_ble_eq_true rfl, Nat.le_of_ble_eq_true rfl⟩) (kR_S hK hP [] rfl) rfl rfl hl.1 rfl (lv_room (Nat.le_of_ble_eq_true rfl)) d_Dk_countPossible_19 ⟨Nat.le_of_ble_eq_true rfl, Nat.le_of_ble_eq_true rfl⟩) ?_
        refine k_ro (va_runV (As := [.int (nI (q * 6 + i))]) (rest := []) ⟨hx, hb, hml, hown, hts⟩ (c_Dk_isPossible l G cI cZ cJ a_dk a_ch a_cs a_ln a_ss a_rr a_wn a_cd a_rm a_hd a_sh a_vl a_cn a_cc a_cw a_cv a_mm mt ft n room held shut cnum cch cway len mem vals cval L cs line q i hq (by omega) hrm hV hC hL) (cwV 1 hts (gV t_262 t_263 t_13 t_32 t_264) rfl rfl rfl (by decide +kernel) ⟨Nat.le_of_ble_eq_true rfl, Nat.le_of_ble_eq_true rfl⟩) (kR_V (ci := 3) (q0 := 0) hK hP rfl rfl [0, 1, 2, 3, 4, 5, 6, 7, 8, 9, 10] rfl) rfl rfl hl.1 rfl (lv_room (Nat.le_of_ble_eq_true rfl)) d_Dk_countPossible_22 ⟨Nat.le_of_ble_eq_true rfl, Nat.le_of_ble_eq_true rfl⟩) ?_
        refine b_if_eq (tgt := 31) hx hb d_Dk_countPossible_25 (by decide) (fun c_b => ?_) (fun c_b => ?_)
        · refine lv_iinc (v := (nI (i + 1))) (lv' := [(3, .int (nI (i + 1))), (0, .ref a_dk), (1, .int (nI q)), (2, .int (nI ps))]) hx hb d_Dk_countPossible_31 hl (k := 3) rfl (nI_add i 1) (by decide) rfl (fun ls hl => ?_)
          refine lv_goto (tgt := 4) hx hb d_Dk_countPossible_34 (by decide) ?_
          exact ih_4 ps (i + 1) ls (by omega) (by rw [pl_succ, if_neg (by rw [c_b]; decide), List.append_nil]; exact hp9) (by omega) (lv_sub hl [1, 2, 3, 0] rfl)
        · refine lv_iinc (v := (nI (ps + 1))) (lv' := [(2, .int (nI (ps + 1))), (0, .ref a_dk), (1, .int (nI q)), (3, .int (nI i))]) hx hb d_Dk_countPossible_28 hl (k := 2) rfl (nI_add ps 1) (by decide) rfl (fun ls hl => ?_)
          refine lv_iinc (v := (nI (i + 1))) (lv' := [(3, .int (nI (i + 1))), (2, .int (nI (ps + 1))), (0, .ref a_dk), (1, .int (nI q))]) hx hb d_Dk_countPossible_31 hl (k := 3) rfl (nI_add i 1) (by decide) rfl (fun ls hl => ?_)
          refine lv_goto (tgt := 4) hx hb d_Dk_countPossible_34 (by decide) ?_
          exact ih_4 (ps + 1) (i + 1) ls (by omega) (by rw [pl_succ, if_pos c_b, List.length_append, ← hp9]; rfl) (by omega) (lv_sub hl [2, 3, 1, 0] rfl)
  exact loop_4 (((cs q).length - 0) + 1) 0 0 ls (Nat.zero_le _) (rfl) (Nat.lt_succ_self _) (lv_sub hl [2, 3, 1, 0] rfl)
set_option maxHeartbeats 4000000 in
set_option maxRecDepth 100000 in
theorem c_Dk_findPossible (l : Launch) (G : va_G) (cI cZ cJ : ClassId) (a_dk : Nat) (a_ch : Nat) (a_cs : Nat) (a_ln : Nat) (a_ss : Nat) (a_rr : Nat) (a_wn : Nat) (a_cd : Nat) (a_rm : Nat) (a_hd : Nat) (a_sh : Nat) (a_vl : Nat) (a_cn : Nat) (a_cc : Nat) (a_cw : Nat) (a_cv : Nat) (a_mm : Nat) (mt : Int32) (ft : Int32) (n : Nat) (room : Nat → Nat) (held : Nat → Nat) (shut : Nat → Bool) (cnum : Nat → Nat) (cch : Nat → Nat) (cway : Nat → Nat) (len : Nat) (mem : Nat → Nat) (vals : Nat → Int32) (cval : Nat → Int32) (L : Nat → List Int32) (cs : Nat → List Kase) (line : List Nat) (q : Nat) (n9 : Nat) (hq : q < 16) (hrm : ∀ j, j < 40 → room j ≤ 8) (hV : RelV held vals L) (hC : RelC cnum cch cway cval cs) (hL : RelL len mem line) (hn9 : n9 < (m_pl shut room L cs line q).length) : Met l y_Dk_findPossible (w_Dk_findPossible) ({ frames := 5, cells := 0, slots := 0, locals := 116 }) (va_Pc [.ref a_dk, .int (nI q), .int (nI n9)] (kR G vwCl [(cI, .int), (cZ, .boolean), (cJ, .long)] [(a_dk, .inr (3, [.ref a_ch, .ref a_cs, .ref a_ln, .ref a_ss, .ref a_rr, .ref a_wn, .ref a_cd, .int mt, .int ft])), (a_ch, .inr (1, [.ref a_rm, .ref a_hd, .ref a_sh, .ref a_vl, .int (nI n)])), (a_rm, .inl (cI, 40, .inl (fun j => nI (room j)))), (a_hd, .inl (cI, 40, .inl (fun j => nI (held j)))), (a_sh, .inl (cZ, 40, .inl (fun j => bI (shut j)))), (a_cs, .inr (0, [.ref a_cn, .ref a_cc, .ref a_cw, .ref a_cv])), (a_cn, .inl (cI, 16, .inl (fun j => nI (cnum j)))), (a_cc, .inl (cI, 96, .inl (fun j => nI (cch j)))), (a_cw, .inl (cI, 96, .inl (fun j => nI (cway j)))), (a_ln, .inr (2, [.ref a_mm, .int (nI len)])), (a_mm, .inl (cI, 16, .inl (fun j => nI (mem j))))])) (QcRead ((nI (q * 6 + (m_pl shut room L cs line q).getD n9 0)))) 0 0 (fun _ => False) := by
  refine Met.ofW (cc := b_Dk_findPossible) (maxL := 6) (ret := (some .int)) (by decide) rfl ?_
  intro p e s m args below meth c s₁ B hml hv
  obtain ⟨rfl, hP, hK⟩ := hv
  have hx := B.exec
  have hb := B.bytes
  have hr := B.returns
  have hts : ∀ w ∈ TT, w.before _ s = true := fun w h => atoms_spec (ws := (w_Dk_findPossible)) B.pre w (List.mem_cons_of_mem _ h)
  have hown : s.vm.findClass R_Dk = some m.cls := findClass_of_methodNamed B.named
  have hlocks := B.notSynchronized
  have hP : va_P G vwCl [(a_dk, .inr (3, [.ref a_ch, .ref a_cs, .ref a_ln, .ref a_ss, .ref a_rr, .ref a_wn, .ref a_cd, .int mt, .int ft])), (a_ch, .inr (1, [.ref a_rm, .ref a_hd, .ref a_sh, .ref a_vl, .int (nI n)])), (a_rm, .inl (cI, 40, .inl (fun j => nI (room j)))), (a_hd, .inl (cI, 40, .inl (fun j => nI (held j)))), (a_sh, .inl (cZ, 40, .inl (fun j => bI (shut j)))), (a_cs, .inr (0, [.ref a_cn, .ref a_cc, .ref a_cw, .ref a_cv])), (a_cn, .inl (cI, 16, .inl (fun j => nI (cnum j)))), (a_cc, .inl (cI, 96, .inl (fun j => nI (cch j)))), (a_cw, .inl (cI, 96, .inl (fun j => nI (cway j)))), (a_ln, .inr (2, [.ref a_mm, .int (nI len)])), (a_mm, .inl (cI, 16, .inl (fun j => nI (mem j))))] s.heap := hP
  have hl := lv_entry ([.ref a_dk, .int (nI q), .int (nI n9)]) (n := 6) (Nat.le_of_ble_eq_true rfl)
  rw [lg_entry_eq]
  generalize (lg_sl ([.ref a_dk, .int (nI q), .int (nI n9)]) ++ List.replicate (6 - (lg_sl ([.ref a_dk, .int (nI q), .int (nI n9)])).length) Slot.unset).toArray = ls at hl ⊢
  have hl : lv_has ls 6 [(0, .ref a_dk), (1, .int (nI q)), (2, .int (nI n9))] := hl
  have hh2 := (hC q hq).2.1
  have hpl : (m_pl shut room L cs line q).length ≤ (cs q).length := by unfold m_pl; exact Nat.le_trans (List.length_filter_le _ _) (Nat.le_of_eq List.length_range)
  refine lv_iconst (v := (nI 0)) hx hb d_Dk_findPossible_0 (by decide +kernel) ?_
  refine lv_istore_n (lv' := [(3, .int (nI 0)), (0, .ref a_dk), (1, .int (nI q)), (2, .int (nI n9))]) hx hb d_Dk_findPossible_1 rfl hl (by decide) rfl (fun ls hl => ?_)
  refine lv_iconst (v := (nI 0)) hx hb d_Dk_findPossible_2 (by decide +kernel) ?_
  refine lv_istore (lv' := [(4, .int (nI 0)), (3, .int (nI 0)), (0, .ref a_dk), (1, .int (nI q)), (2, .int (nI n9))]) hx hb d_Dk_findPossible_3 hl (by decide) rfl (fun ls hl => ?_)
  have loop_5 : ∀ (k : Nat) (bf : Nat) (i : Nat) (ls : Array Slot), i ≤ (cs q).length → bf = ((List.range i).filter (fun j => m_poss shut room L cs line (kAt cs q j))).length → bf ≤ n9 → (cs q).length - i < k → lv_has ls 6 [(0, .ref a_dk), (1, .int (nI q)), (2, .int (nI n9)), (3, .int (nI bf)), (4, .int (nI i))] → W p l e (headSpec (w_Dk_findPossible) ({ frames := 5, cells := 0, slots := 0, locals := 116 })).room s m (List.toArray [.ref a_dk, .int (nI q), .int (nI n9)]) below meth c s.heap [] 0 0 (MQ below (QcRead ((nI (q * 6 + (m_pl shut room L cs line q).getD n9 0)))) (List.toArray [.ref a_dk, .int (nI q), .int (nI n9)]) s 0 0 (fun _ => False)) (F0 m 5 ls []) := by
    intro k
    induction k with
    | zero => intro bf i ls hi9 hp9 hle hk; exact absurd hk (Nat.not_lt_zero _)
    | succ k ih_5 =>
      intro bf i ls hi9 hp9 hle hk hl
      refine lv_iload hx hb d_Dk_findPossible_5 (lv_at hl 4 rfl) ?_
      refine lv_aload_n hx hb d_Dk_findPossible_7 rfl (lv_at hl 0 rfl) ?_
      refine va_get (D := G) (ci := 3) (v := .ref a_cs) (C := R_Dk) (T := T_Dk) (N := 9) hx hb hts uw_Dk hown hK hP 0 rfl rfl 1 (by decide) (hts _ t_106) (fun _ h9 => h9) rfl d_Dk_findPossible_8 ?_
      refine lv_iload_n hx hb d_Dk_findPossible_11 rfl (lv_at hl 1 rfl) ?_
      refine k_ro (va_runV (As := [.int (nI q)]) (rest := [.int (nI i)]) ⟨hx, hb, hml, hown, hts⟩ (c_Cs_numberOf l G cI cZ cJ a_cs a_cn a_cc a_cw a_cv cnum cch cway cval cs q hq hC) (cwV 1 hts (gV t_257 t_258 t_259 t_34 t_260) rfl rfl rfl (by decide +kernel) ⟨Nat.le_of_ble_eq_true rfl, Nat.le_of_ble_eq_true rfl⟩) (kR_V (ci := 0) (q0 := 5) hK hP rfl rfl [5, 6] rfl) rfl rfl hl.1 rfl (lv_room (Nat.le_of_ble_eq_true rfl)) d_Dk_findPossible_12 ⟨Nat.le_of_ble_eq_true rfl, Nat.le_of_ble_eq_true rfl⟩) ?_
      refine n_icmp_ge (tgt := 52) hx hb d_Dk_findPossible_15 (by decide) (by omega) (by omega) (fun c_a => ?_) (fun c_a => ?_)
      · have e9 : i = (cs q).length := by omega
        rw [e9] at hp9
        exact absurd hn9 (Nat.not_lt.mpr (by unfold m_pl; rw [← hp9]; exact hle))
      · refine lv_iload_n hx hb d_Dk_findPossible_18 rfl (lv_at hl 1 rfl) ?_
        refine lv_iload hx hb d_Dk_findPossible_19 (lv_at hl 4 rfl) ?_
        refine k_ro (va_runS (As := [.int (nI q), .int (nI i)]) (rest := []) ⟨hx, hb, hml, hown, hts⟩ (c_Cs_slotOf l G cI cZ cJ q i) (va_cwS 2 hts (gS t_261 t_181 t_34 t_182) rfl rfl rfl (by decide +kernel) ⟨Nat.le_of_ble_eq_true rfl, Nat.le_of_ble_eq_true rfl⟩) (kR_S hK hP [] rfl) rfl rfl hl.1 rfl (lv_room (Nat.le_of_ble_eq_true rfl)) d_Dk_findPossible_21 ⟨Nat.le_of_ble_eq_true rfl, Nat.le_of_ble_eq_true rfl⟩) ?_
        refine lv_istore (lv' := [(5, .int (nI (q * 6 + i))), (0, .ref a_dk), (1, .int (nI q)), (2, .int (nI n9)), (3, .int (nI bf)), (4, .int (nI i))]) hx hb d_Dk_findPossible_24 hl (by decide) rfl (fun ls hl => ?_)
        refine lv_aload_n hx hb d_Dk_findPossible_26 rfl (lv_at hl 1 rfl) ?_
        refine lv_iload hx hb d_Dk_findPossible_27 (lv_at hl 0 rfl) ?_
        refine k_ro (va_runV (As := [.int (nI (q * 6 + i))]) (rest := []) ⟨hx, hb, hml, hown, hts⟩ (c_Dk_isPossible l G cI cZ cJ a_dk a_ch a_cs a_ln a_ss a_rr a_wn a_cd a_rm a_hd a_sh a_vl a_cn a_cc a_cw a_cv a_mm mt ft n room held shut cnum cch cway len mem vals cval L cs line q i hq (by omega) hrm hV hC hL) (cwV 1 hts (gV t_262 t_263 t_13 t_32 t_264) rfl rfl rfl (by decide +kernel) ⟨Nat.le_of_ble_eq_true rfl, Nat.le_of_ble_eq_true rfl⟩) (kR_V (ci := 3) (q0 := 0) hK hP rfl rfl [0, 1, 2, 3, 4, 5, 6, 7, 8, 9, 10] rfl) rfl rfl hl.1 rfl (lv_room (Nat.le_of_ble_eq_true rfl)) d_Dk_findPossible_29 ⟨Nat.le_of_ble_eq_true rfl, Nat.le_of_ble_eq_true rfl⟩) ?_
        refine b_if_eq (tgt := 46) hx hb d_Dk_findPossible_32 (by decide) (fun c_b => ?_) (fun c_b => ?_)
        · refine lv_iinc (v := (nI (i + 1))) (lv' := [(4, .int (nI (i + 1))), (5, .int (nI (q * 6 + i))), (0, .ref a_dk), (1, .int (nI q)), (2, .int (nI n9)), (3, .int (nI bf))]) hx hb d_Dk_findPossible_46 hl (k := 5) rfl (nI_add i 1) (by decide) rfl (fun ls hl => ?_)
          refine lv_goto (tgt := 5) hx hb d_Dk_findPossible_49 (by decide) ?_
          exact ih_5 bf (i + 1) ls (by omega) (by rw [pl_succ, if_neg (by rw [c_b]; decide), List.append_nil]; exact hp9) (hle) (by omega) (lv_sub hl [2, 3, 4, 5, 0] rfl)
        · refine lv_iload_n hx hb d_Dk_findPossible_35 rfl (lv_at hl 4 rfl) ?_
          refine lv_iload_n hx hb d_Dk_findPossible_36 rfl (lv_at hl 3 rfl) ?_
          refine n_icmp_ne (tgt := 43) hx hb d_Dk_findPossible_37 (by decide) (by omega) (by omega) (fun c_c => ?_) (fun c_c => ?_)
          · refine lv_iinc (v := (nI (bf + 1))) (lv' := [(3, .int (nI (bf + 1))), (5, .int (nI (q * 6 + i))), (0, .ref a_dk), (1, .int (nI q)), (2, .int (nI n9)), (4, .int (nI i))]) hx hb d_Dk_findPossible_43 hl (k := 4) rfl (nI_add bf 1) (by decide) rfl (fun ls hl => ?_)
            refine lv_iinc (v := (nI (i + 1))) (lv' := [(4, .int (nI (i + 1))), (3, .int (nI (bf + 1))), (5, .int (nI (q * 6 + i))), (0, .ref a_dk), (1, .int (nI q)), (2, .int (nI n9))]) hx hb d_Dk_findPossible_46 hl (k := 5) rfl (nI_add i 1) (by decide) rfl (fun ls hl => ?_)
            refine lv_goto (tgt := 5) hx hb d_Dk_findPossible_49 (by decide) ?_
            exact ih_5 (bf + 1) (i + 1) ls (by omega) (by rw [pl_succ, if_pos c_b, List.length_append, ← hp9]; rfl) (by omega) (by omega) (lv_sub hl [3, 4, 5, 1, 0] rfl)
          · refine lv_iload hx hb d_Dk_findPossible_40 (lv_at hl 0 rfl) ?_
            exact k_ri hx hb hr hlocks (congrArg nI (by have h9 : (m_pl shut room L cs line q).getD n9 0 = i := pl_get (by omega) c_b (c_c ▸ hp9); rw [h9])) d_Dk_findPossible_42
  exact loop_5 (((cs q).length - 0) + 1) 0 0 ls (Nat.zero_le _) (rfl) (Nat.zero_le _) (Nat.lt_succ_self _) (lv_sub hl [2, 3, 4, 1, 0] rfl)
end
section
/-! WHAT EACH CALL ANSWERS AND MAKES, for any ints -/
def DI (n : Nat) (room held : Nat → Nat) (vals : Nat → Int32) (cnum cch cway : Nat → Nat) (cval : Nat → Int32) (len : Nat) (mem st : Nat → Nat) (L : Nat → List Int32) (cs : Nat → List Kase) (line : List Nat) : Prop :=
  n ≤ 40 ∧ (∀ j, j < 40 → room j ≤ 8) ∧ RelV held vals L ∧ RelC cnum cch cway cval cs ∧ RelL len mem line ∧ ∀ j, j < 16 → st j < 5
def m_new (σ : Sg) (k : Nat) : Sg := (gN σ + 1, va_up (gRoom σ) (gN σ) k, va_up (gShut σ) (gN σ) false, va_up (gL σ) (gN σ) [], gCs σ, gLine σ, gSt σ, gRc σ, gSn σ, gCd σ, gMt σ, gFt σ)
def M_make (σ : Sg) (y : Int32) : Sg × Int32 := if y < 0 ∨ nI 8 < y ∨ 40 ≤ gN σ then (σ, -1) else (m_new σ y.toNatClampNeg, nI (gN σ))
def M_send (σ : Sg) (a b v : Int32) : Sg × Int32 := if rdyB (gSt σ) a = true ∧ hasB (gN σ) b = true then ((m_send σ a.toNatClampNeg b.toNatClampNeg v).1, nI (m_send σ a.toNatClampNeg b.toNatClampNeg v).2) else (σ, -1)
def M_recv (σ : Sg) (a b : Int32) : Sg × Int32 := if rdyB (gSt σ) a = true ∧ hasB (gN σ) b = true then ((m_recv σ a.toNatClampNeg b.toNatClampNeg).1, nI (m_recv σ a.toNatClampNeg b.toNatClampNeg).2) else (σ, -1)
def M_add (σ : Sg) (a b w v : Int32) : Sg × Int32 := if rdyB (gSt σ) a = true ∧ hasB (gN σ) b = true ∧ wayB w = true then (m_Cs σ (addC (gCs σ) a.toNatClampNeg (b.toNatClampNeg, w.toNatClampNeg, v)), if (gCs σ a.toNatClampNeg).length < 6 then nI ((gCs σ a.toNatClampNeg).length + 1) else -1) else (σ, -1)
def M_choose (σ : Sg) (a y : Int32) (d : Bool) : Sg × Int32 := if rdyB (gSt σ) a = true ∧ ¬ y < 0 then ((m_choose σ a.toNatClampNeg y.toNatClampNeg d).1, nI (m_choose σ a.toNatClampNeg y.toNatClampNeg d).2) else (σ, -1)
def M_close (σ : Sg) (b : Int32) : Sg × Int32 := if hasB (gN σ) b = true then (if gShut σ b.toNatClampNeg = true then (σ, -2) else ((m_clo b.toNatClampNeg 16 (m_shut σ b.toNatClampNeg) 0).1, nI (m_clo b.toNatClampNeg 16 (m_shut σ b.toNatClampNeg) 0).2)) else (σ, -1)
def M_state (st : Nat → Nat) (y : Int32) : Int32 := if hasB 16 y = true then nI (st y.toNatClampNeg) else -1
def M_got (rc : Nat → Int32) (y : Int32) : Int32 := if hasB 16 y = true then rc y.toNatClampNeg else nI 0
def M_last (sn : Nat → Nat) (cd : Nat → Int32) (y : Int32) : Int32 := if hasB 16 y = true then nI (sn y.toNatClampNeg) + nI 2 * (cd y.toNatClampNeg + nI 2) else -1
def wlR (o : Option (Nat × Nat)) : Int32 := match o with
  | none => -1
  | some z => nI z.1
def M_waiting (n : Nat) (cs : Nat → List Kase) (line : List Nat) (b w y : Int32) : Int32 := if hasB n b = true ∧ wayB w = true then wlR (wlAt (wl cs line b.toNatClampNeg w.toNatClampNeg) y) else -1
def M_channel (n : Nat) (room : Nat → Nat) (shut : Nat → Bool) (L : Nat → List Int32) (b y : Int32) : Int32 := if hasB n b = true then
  (if y = nI 0 then nI (L b.toNatClampNeg).length else if y = nI 1 then nI (room b.toNatClampNeg) else if y = nI 2 then bI (shut b.toNatClampNeg) else if y < nI 3 ∨ nI 11 ≤ y then -1 else (L b.toNatClampNeg).getD (y.toNatClampNeg - 3) 0) else -1
def M_count (n len : Nat) (mt ft : Int32) (y : Int32) : Int32 := if y = nI 0 then nI n else if y = nI 1 then nI len else if y = nI 2 then mt else if y = nI 3 then ft else -1
def m_clr (σ : Sg) : Sg := (0, gRoom σ, gShut σ, gL σ, fl 16 [] (gCs σ), [], fl 16 0 (gSt σ), fl 16 (nI 0) (gRc σ), fl 16 0 (gSn σ), fl 16 (-1) (gCd σ), nI 0, nI 0)
def M_clear (σ : Sg) : Sg × Int32 := (m_clr σ, nI (gN σ))
section MM
variable {σ σ' : Sg} {q x w o : Nat} {v a b y : Int32} {d : Bool}
theorem M_make_0 (h : y < 0 ∨ nI 8 < y ∨ 40 ≤ gN σ) : M_make σ y = (σ, -1) := by unfold M_make; rw [if_pos h]
theorem M_make_1 {k : Nat} (hk : k ≤ 8) (h : gN σ < 40) : M_make σ (nI k) = (m_new σ k, nI (gN σ)) := by
  unfold M_make
  rw [if_neg, nI_clamp (by omega)]
  rintro (h1 | h1 | h1)
  · exact nI_pos (by omega) h1
  · exact nI_nlt hk (by omega) h1
  · omega
theorem M_send_0 (h : rdyB (gSt σ) a = false) : M_send σ a b v = (σ, -1) := by unfold M_send; rw [if_neg (fun z => by rw [h] at z; cases z.1)]
theorem M_send_00 (h : hasB (gN σ) b = false) : M_send σ a b v = (σ, -1) := by unfold M_send; rw [if_neg (fun z => by rw [h] at z; cases z.2)]
theorem M_send_1 (h1 : rdyB (gSt σ) (nI q) = true) (h2 : hasB (gN σ) (nI x) = true) (hq : q < 16) (hx : x < 40) (hz : m_tsend (m_mr σ q) q x v = (σ', o)) (ho : ¬ o = 2) : M_send σ (nI q) (nI x) v = (σ', nI o) := by
  unfold M_send
  rw [if_pos ⟨h1, h2⟩, nI_clamp (by omega), nI_clamp (by omega)]
  unfold m_send
  rw [hz]
  simp only [if_neg ho]
theorem M_send_2 (h1 : rdyB (gSt σ) (nI q) = true) (h2 : hasB (gN σ) (nI x) = true) (hq : q < 16) (hx : x < 40) (hz : m_tsend (m_mr σ q) q x v = (σ', o)) (ho : o = 2) : M_send σ (nI q) (nI x) v = (m_sw (m_Cs σ' (addC (gCs σ') q (x, 0, v))) q 1, nI o) := by
  unfold M_send
  rw [if_pos ⟨h1, h2⟩, nI_clamp (by omega), nI_clamp (by omega)]
  unfold m_send
  rw [hz]
  simp only [ho, if_true]
theorem M_recv_0 (h : rdyB (gSt σ) a = false) : M_recv σ a b = (σ, -1) := by unfold M_recv; rw [if_neg (fun z => by rw [h] at z; cases z.1)]
theorem M_recv_00 (h : hasB (gN σ) b = false) : M_recv σ a b = (σ, -1) := by unfold M_recv; rw [if_neg (fun z => by rw [h] at z; cases z.2)]
theorem M_recv_1 (h1 : rdyB (gSt σ) (nI q) = true) (h2 : hasB (gN σ) (nI x) = true) (hq : q < 16) (hx : x < 40) (hz : m_trecv (m_mr σ q) q x = (σ', o)) (ho : ¬ o = 2) : M_recv σ (nI q) (nI x) = (σ', nI o) := by
  unfold M_recv
  rw [if_pos ⟨h1, h2⟩, nI_clamp (by omega), nI_clamp (by omega)]
  unfold m_recv
  rw [hz]
  simp only [if_neg ho]
theorem M_recv_2 (h1 : rdyB (gSt σ) (nI q) = true) (h2 : hasB (gN σ) (nI x) = true) (hq : q < 16) (hx : x < 40) (hz : m_trecv (m_mr σ q) q x = (σ', o)) (ho : o = 2) : M_recv σ (nI q) (nI x) = (m_sw (m_Cs σ' (addC (gCs σ') q (x, 1, nI 0))) q 2, nI o) := by
  unfold M_recv
  rw [if_pos ⟨h1, h2⟩, nI_clamp (by omega), nI_clamp (by omega)]
  unfold m_recv
  rw [hz]
  simp only [ho, if_true]
theorem M_add_0 {w9 : Int32} (h : rdyB (gSt σ) a = false) : M_add σ a b w9 v = (σ, -1) := by unfold M_add; rw [if_neg (fun z => by rw [h] at z; cases z.1)]
theorem M_add_00 {w9 : Int32} (h : hasB (gN σ) b = false) : M_add σ a b w9 v = (σ, -1) := by unfold M_add; rw [if_neg (fun z => by rw [h] at z; cases z.2.1)]
theorem M_add_000 {w9 : Int32} (h : wayB w9 = false) : M_add σ a b w9 v = (σ, -1) := by unfold M_add; rw [if_neg (fun z => by rw [h] at z; cases z.2.2)]
theorem M_add_1 (h1 : rdyB (gSt σ) (nI q) = true) (h2 : hasB (gN σ) (nI x) = true) (h3 : wayB (nI w) = true) (hq : q < 16) (hx : x < 40) (hw : w < 2) : M_add σ (nI q) (nI x) (nI w) v = (m_Cs σ (addC (gCs σ) q (x, w, v)), if (gCs σ q).length < 6 then nI ((gCs σ q).length + 1) else -1) := by
  unfold M_add
  rw [if_pos ⟨h1, h2, h3⟩, nI_clamp (by omega), nI_clamp (by omega), nI_clamp (by omega)]
theorem M_choose_0 (h : rdyB (gSt σ) a = false) : M_choose σ a y d = (σ, -1) := by unfold M_choose; rw [if_neg (fun z => by rw [h] at z; cases z.1)]
theorem M_choose_00 (h : ¬ 0 ≤ y) : M_choose σ a y d = (σ, -1) := by unfold M_choose; rw [if_neg (fun z => z.2 (Int32.not_le.mp h))]
theorem M_choose_1 {k : Nat} (h1 : rdyB (gSt σ) (nI q) = true) (hq : q < 16) (hk : k < 2 ^ 31) (h : 0 < (m_pl (gShut σ) (gRoom σ) (gL σ) (gCs σ) (gLine σ) q).length) (hz : m_doC σ q ((m_pl (gShut σ) (gRoom σ) (gL σ) (gCs σ) (gLine σ) q).getD (k % (m_pl (gShut σ) (gRoom σ) (gL σ) (gCs σ) (gLine σ) q).length) 0) = (σ', o)) : M_choose σ (nI q) (nI k) d = (σ', nI o) := by
  unfold M_choose
  rw [if_pos ⟨h1, nI_pos hk⟩, nI_clamp (by omega), nI_clamp (by omega)]
  unfold m_choose
  simp only [if_pos h, hz]
theorem M_choose_2 {k : Nat} (h1 : rdyB (gSt σ) (nI q) = true) (hq : q < 16) (hk : k < 2 ^ 31) (h : (m_pl (gShut σ) (gRoom σ) (gL σ) (gCs σ) (gLine σ) q).length = 0) (hd : d = true) : M_choose σ (nI q) (nI k) d = (m_cd (m_mr σ q) q (nI 10), nI 10) := by
  unfold M_choose
  rw [if_pos ⟨h1, nI_pos hk⟩, nI_clamp (by omega), nI_clamp (by omega)]
  unfold m_choose
  simp only [h, Nat.lt_irrefl, if_false, hd, if_true]
theorem M_choose_3 {k : Nat} (h1 : rdyB (gSt σ) (nI q) = true) (hq : q < 16) (hk : k < 2 ^ 31) (h : (m_pl (gShut σ) (gRoom σ) (gL σ) (gCs σ) (gLine σ) q).length = 0) (hd : d = false) : M_choose σ (nI q) (nI k) d = (m_sw (m_cd σ q (-1)) q 3, nI 11) := by
  unfold M_choose
  rw [if_pos ⟨h1, nI_pos hk⟩, nI_clamp (by omega), nI_clamp (by omega)]
  unfold m_choose
  simp only [h, Nat.lt_irrefl, if_false, hd, Bool.false_eq_true]
theorem M_close_0 (h : hasB (gN σ) b = false) : M_close σ b = (σ, -1) := by unfold M_close; rw [if_neg (by rw [h]; decide)]
theorem M_close_1 (h : hasB (gN σ) (nI x) = true) (hx : x < 40) (h2 : gShut σ x = true) : M_close σ (nI x) = (σ, -2) := by
  unfold M_close
  rw [if_pos h, nI_clamp (by omega), if_pos h2]
theorem M_close_2 (h : hasB (gN σ) (nI x) = true) (hx : x < 40) (h2 : gShut σ x = false) (hz : m_clo x 16 (m_shut σ x) 0 = (σ', o)) : M_close σ (nI x) = (σ', nI o) := by
  unfold M_close
  rw [if_pos h, nI_clamp (by omega), if_neg (by rw [h2]; decide), hz]
theorem clo_none {k : Nat} (h : (wl (gCs σ) (gLine σ) x 2)[0]? = none) : m_clo x k σ w = (σ, w) := by
  cases k with
  | zero => rfl
  | succ k => unfold m_clo; rw [h]
theorem clo_full (h : 16 ≤ w) : m_clo x (16 - w) σ w = (σ, w) := by
  rw [show 16 - w = 0 by omega]; rfl
theorem clo_some {z : Nat × Nat} (hw : w < 16) (h : (wl (gCs σ) (gLine σ) x 2)[0]? = some z) : m_clo x (16 - w) σ w = m_clo x (16 - (w + 1)) (m_wake σ z.1 z.2) (w + 1) := by
  rw [show 16 - w = (16 - (w + 1)) + 1 by omega]
  conv => lhs; unfold m_clo
  rw [h]
end MM
theorem M_state_0 {st : Nat → Nat} {y : Int32} (h : hasB 16 y = false) : (-1 : Int32) = M_state st y := by unfold M_state; rw [if_neg (by rw [h]; decide)]
theorem M_state_1 {st : Nat → Nat} {q : Nat} (h : hasB 16 (nI q) = true) (hq : q < 16) : nI (st q) = M_state st (nI q) := by unfold M_state; rw [if_pos h, nI_clamp (by omega)]
theorem M_got_0 {rc : Nat → Int32} {y : Int32} (h : hasB 16 y = false) : nI 0 = M_got rc y := by unfold M_got; rw [if_neg (by rw [h]; decide)]
theorem M_got_1 {rc : Nat → Int32} {q : Nat} (h : hasB 16 (nI q) = true) (hq : q < 16) : rc q = M_got rc (nI q) := by unfold M_got; rw [if_pos h, nI_clamp (by omega)]
theorem M_last_0 {sn : Nat → Nat} {cd : Nat → Int32} {y : Int32} (h : hasB 16 y = false) : (-1 : Int32) = M_last sn cd y := by unfold M_last; rw [if_neg (by rw [h]; decide)]
theorem M_last_1 {sn : Nat → Nat} {cd : Nat → Int32} {q : Nat} (h : hasB 16 (nI q) = true) (hq : q < 16) : nI (sn q) + nI 2 * (cd q + nI 2) = M_last sn cd (nI q) := by unfold M_last; rw [if_pos h, nI_clamp (by omega)]
section MQ2
variable {n : Nat} {cs : Nat → List Kase} {line : List Nat} {b w9 y : Int32} {x w : Nat} {room : Nat → Nat} {shut : Nat → Bool} {L : Nat → List Int32} {mt ft : Int32} {len : Nat}
theorem M_waiting_0 (h : hasB n b = false) : (-1 : Int32) = M_waiting n cs line b w9 y := by unfold M_waiting; rw [if_neg (fun z => by rw [h] at z; cases z.1)]
theorem M_waiting_00 (h : wayB w9 = false) : (-1 : Int32) = M_waiting n cs line b w9 y := by unfold M_waiting; rw [if_neg (fun z => by rw [h] at z; cases z.2)]
theorem M_waiting_1 (h : hasB n (nI x) = true) (h2 : wayB (nI w) = true) (hx : x < 40) (hw : w < 2) {o : Option (Nat × Nat)} (hz : wlAt (wl cs line x w) y = o) : wlR o = M_waiting n cs line (nI x) (nI w) y := by
  unfold M_waiting
  rw [if_pos ⟨h, h2⟩, nI_clamp (by omega), nI_clamp (by omega), hz]
theorem wlAt_mem {l : List (Nat × Nat)} {z : Nat × Nat} (h : wlAt l y = some z) : z ∈ l := by
  unfold wlAt at h
  split at h
  · cases h
  · exact List.mem_of_getElem? h
theorem M_channel_0 (h : hasB n b = false) : (-1 : Int32) = M_channel n room shut L b y := by unfold M_channel; rw [if_neg (by rw [h]; decide)]
theorem M_channel_1 (h : hasB n (nI x) = true) (hx : x < 40) : nI (L x).length = M_channel n room shut L (nI x) (nI 0) := by unfold M_channel; rw [if_pos h, nI_clamp (by omega), if_pos rfl]
theorem M_channel_2 (h : hasB n (nI x) = true) (hx : x < 40) : nI (room x) = M_channel n room shut L (nI x) (nI 1) := by unfold M_channel; rw [if_pos h, nI_clamp (by omega), if_neg (by decide +kernel), if_pos rfl]
theorem M_channel_3 (h : hasB n (nI x) = true) (hx : x < 40) : bI (shut x) = M_channel n room shut L (nI x) (nI 2) := by unfold M_channel; rw [if_pos h, nI_clamp (by omega), if_neg (by decide +kernel), if_neg (by decide +kernel), if_pos rfl]
theorem tsw_ne {k : Nat} (hk : k < 2 ^ 31) {hi : Int} (h : y.toInt < 0 ∨ hi < y.toInt) (hh : (k : Int) ≤ hi) : ¬ y = nI k := by
  intro e
  rw [e, nI_toInt hk] at h
  omega
theorem M_channel_4 (h : hasB n (nI x) = true) (hx : x < 40) (ht : y.toInt < 0 ∨ 2 < y.toInt) (h3 : y < nI 3 ∨ nI 11 ≤ y) : (-1 : Int32) = M_channel n room shut L (nI x) y := by
  unfold M_channel
  rw [if_pos h, if_neg (tsw_ne (by decide) ht (by decide)), if_neg (tsw_ne (by decide) ht (by decide)), if_neg (tsw_ne (by decide) ht (by decide)), if_pos h3]
theorem M_channel_5 (h : hasB n (nI x) = true) (hx : x < 40) {j : Nat} (hj : j < 8) : (L x).getD j 0 = M_channel n room shut L (nI x) (nI (j + 3)) := by
  unfold M_channel
  rw [if_pos h, nI_clamp (by omega), if_neg (fun e => by have := (nI_eq (by omega) (by decide)).mp e; omega), if_neg (fun e => by have := (nI_eq (by omega) (by decide)).mp e; omega), if_neg (fun e => by have := (nI_eq (by omega) (by decide)).mp e; omega), if_neg, nI_clamp (by omega), Nat.add_sub_cancel]
  rintro (e | e)
  · exact nI_nlt (by omega) (by omega) e
  · exact nI_ge (by omega) (by decide) e
theorem rng38 (h : ¬ y < nI 3) (h2 : ¬ nI 11 ≤ y) : ∃ j, j < 8 ∧ y = nI (j + 3) := by
  have h0 : ¬ y < 0 := fun z => h (Int32.lt_trans z (by decide +kernel))
  obtain ⟨k, hk, rfl⟩ := nI_of h0
  have h3 : 3 ≤ k := Nat.le_of_not_lt (fun z => h (nI_lt z (by decide)))
  have h4 : k < 11 := Nat.lt_of_not_le (fun z => h2 (nI_le z hk))
  exact ⟨k - 3, by omega, by rw [Nat.sub_add_cancel h3]⟩
theorem M_count_0 : nI n = M_count n len mt ft (nI 0) := by unfold M_count; rw [if_pos rfl]
theorem M_count_1 : nI len = M_count n len mt ft (nI 1) := by unfold M_count; rw [if_neg (by decide +kernel), if_pos rfl]
theorem M_count_2 : mt = M_count n len mt ft (nI 2) := by unfold M_count; rw [if_neg (by decide +kernel), if_neg (by decide +kernel), if_pos rfl]
theorem M_count_3 : ft = M_count n len mt ft (nI 3) := by unfold M_count; rw [if_neg (by decide +kernel), if_neg (by decide +kernel), if_neg (by decide +kernel), if_pos rfl]
theorem M_count_4 (h : y.toInt < 0 ∨ 3 < y.toInt) : (-1 : Int32) = M_count n len mt ft y := by
  unfold M_count
  rw [if_neg (tsw_ne (by decide) h (by decide)), if_neg (tsw_ne (by decide) h (by decide)), if_neg (tsw_ne (by decide) h (by decide)), if_neg (tsw_ne (by decide) h (by decide))]
theorem tsw_of {y : Int32} {k : Nat} (h : y.toInt = (k : Int)) (hk : k < 2 ^ 31) : y = nI k := Int32.toInt_inj.mp (by rw [h, nI_toInt hk])
theorem tsw3 (y : Int32) : (y.toInt < 0 ∨ 2 < y.toInt) ∨ y = nI 0 ∨ y = nI 1 ∨ y = nI 2 := by
  by_cases h0 : y.toInt = 0
  · exact Or.inr (Or.inl (tsw_of (k := 0) h0 (by decide)))
  by_cases h1 : y.toInt = 1
  · exact Or.inr (Or.inr (Or.inl (tsw_of (k := 1) h1 (by decide))))
  by_cases h2 : y.toInt = 2
  · exact Or.inr (Or.inr (Or.inr (tsw_of (k := 2) h2 (by decide))))
  exact Or.inl (by omega)
theorem tsw4 (y : Int32) : (y.toInt < 0 ∨ 3 < y.toInt) ∨ y = nI 0 ∨ y = nI 1 ∨ y = nI 2 ∨ y = nI 3 := by
  by_cases h0 : y.toInt = 0
  · exact Or.inr (Or.inl (tsw_of (k := 0) h0 (by decide)))
  by_cases h1 : y.toInt = 1
  · exact Or.inr (Or.inr (Or.inl (tsw_of (k := 1) h1 (by decide))))
  by_cases h2 : y.toInt = 2
  · exact Or.inr (Or.inr (Or.inr (Or.inl (tsw_of (k := 2) h2 (by decide)))))
  by_cases h3 : y.toInt = 3
  · exact Or.inr (Or.inr (Or.inr (Or.inr (tsw_of (k := 3) h3 (by decide)))))
  exact Or.inl (by omega)
end MQ2
theorem pl_lt {P : Nat → Bool} {N n : Nat} (h : n < ((List.range N).filter P).length) : ((List.range N).filter P).getD n 0 < N := by
  rw [List.getD_eq_getElem?_getD, List.getElem?_eq_getElem h]
  have := List.getElem_mem h
  exact List.mem_range.mp (List.mem_filter.mp this).1
theorem RelC.clr {cnum cch cway : Nat → Nat} {cval : Nat → Int32} {cs : Nat → List Kase} (h : RelC cnum cch cway cval cs) : RelC (fl 16 0 cnum) cch cway cval (fl 16 [] cs) := by
  intro d hd
  simp only [fl, if_pos hd]
  exact ⟨rfl, by simp, fun i hi => absurd hi (by simp)⟩
theorem RelL.clr (mem : Nat → Nat) : RelL 0 mem [] := ⟨rfl, by simp, fun i hi => absurd hi (by simp)⟩
theorem fl_lt (st : Nat → Nat) : ∀ j, j < 16 → fl 16 0 st j < 5 := fun j hj => by simp only [fl, if_pos hj]; decide
theorem rm_up {room : Nat → Nat} (h : ∀ j, j < 40 → room j ≤ 8) (n : Nat) {k : Nat} (hk : k ≤ 8) : ∀ j, j < 40 → va_up room n k j ≤ 8 := by
  intro j hj
  by_cases e : j = n
  · rw [e, va_up_self]; exact hk
  · rw [va_up_ne _ _ e]; exact h j hj
end
section
set_option maxHeartbeats 4000000 in
set_option maxRecDepth 100000 in
theorem c_Dk_state (l : Launch) (G : va_G) (cI cZ cJ : ClassId) (a_dk : Nat) (a_ch : Nat) (a_cs : Nat) (a_ln : Nat) (a_ss : Nat) (a_rr : Nat) (a_wn : Nat) (a_cd : Nat) (mt : Int32) (ft : Int32) (st : Nat → Nat) (y : Int32)  : Met l y_Dk_state (w_Dk_state) ({ frames := 1, cells := 0, slots := 0, locals := 20 }) (va_Pc [.ref a_dk, .int y] (kR G vwCl [(cI, .int), (cZ, .boolean), (cJ, .long)] [(a_dk, .inr (3, [.ref a_ch, .ref a_cs, .ref a_ln, .ref a_ss, .ref a_rr, .ref a_wn, .ref a_cd, .int mt, .int ft])), (a_ss, .inl (cI, 16, .inl (fun j => nI (st j))))])) (QcRead ((M_state st y))) 0 0 (fun _ => False) := by
  refine Met.ofW (cc := b_Dk_state) (maxL := 2) (ret := (some .int)) (by decide) rfl ?_
  intro p e s m args below meth c s₁ B hml hv
  obtain ⟨rfl, hP, hK⟩ := hv
  have hx := B.exec
  have hb := B.bytes
  have hr := B.returns
  have hts : ∀ w ∈ TT, w.before _ s = true := fun w h => atoms_spec (ws := (w_Dk_state)) B.pre w (List.mem_cons_of_mem _ h)
  have hown : s.vm.findClass R_Dk = some m.cls := findClass_of_methodNamed B.named
  have hlocks := B.notSynchronized
  have hP : va_P G vwCl [(a_dk, .inr (3, [.ref a_ch, .ref a_cs, .ref a_ln, .ref a_ss, .ref a_rr, .ref a_wn, .ref a_cd, .int mt, .int ft])), (a_ss, .inl (cI, 16, .inl (fun j => nI (st j))))] s.heap := hP
  have hl := lv_entry ([.ref a_dk, .int y]) (n := 2) (Nat.le_of_ble_eq_true rfl)
  rw [lg_entry_eq]
  generalize (lg_sl ([.ref a_dk, .int y]) ++ List.replicate (2 - (lg_sl ([.ref a_dk, .int y])).length) Slot.unset).toArray = ls at hl ⊢
  have hl : lv_has ls 2 [(0, .ref a_dk), (1, .int y)] := hl
  refine lv_iload_n hx hb d_Dk_state_0 rfl (lv_at hl 1 rfl) ?_
  refine k_ro (va_runS (As := [.int y]) (rest := []) ⟨hx, hb, hml, hown, hts⟩ (c_Dk_isRoutine l G cI cZ cJ y) (va_cwS 1 hts (gS t_138 t_139 t_32 t_140) rfl rfl rfl (by decide +kernel) ⟨Nat.le_of_ble_eq_true rfl, Nat.le_of_ble_eq_true rfl⟩) (kR_S hK hP [] rfl) rfl rfl hl.1 rfl (lv_room (Nat.le_of_ble_eq_true rfl)) d_Dk_state_1 ⟨Nat.le_of_ble_eq_true rfl, Nat.le_of_ble_eq_true rfl⟩) ?_
  refine b_if_eq (tgt := 16) hx hb d_Dk_state_4 (by decide) (fun c_a => ?_) (fun c_a => ?_)
  · refine lv_iconst (v := (-1)) hx hb d_Dk_state_16 (by decide +kernel) ?_
    exact k_ri hx hb hr hlocks (M_state_0 c_a) d_Dk_state_17
  · obtain ⟨q, hq, rfl⟩ := hasB_of (by decide) c_a
    refine lv_aload_n hx hb d_Dk_state_7 rfl (lv_at hl 0 rfl) ?_
    refine va_get (D := G) (ci := 3) (v := .ref a_ss) (C := R_Dk) (T := T_Dk) (N := 9) hx hb hts uw_Dk hown hK hP 0 rfl rfl 3 (by decide) (hts _ t_108) (fun _ h9 => h9) rfl d_Dk_state_8 ?_
    refine lv_iload_n hx hb d_Dk_state_11 rfl (lv_at hl 1 rfl) ?_
    refine k_iald hx hb hK hP 1 0 rfl rfl (by omega) (by decide) d_Dk_state_12 ?_
    refine lv_goto (tgt := 17) hx hb d_Dk_state_13 (by decide) ?_
    exact k_ri hx hb hr hlocks (M_state_1 c_a hq) d_Dk_state_17
set_option maxHeartbeats 4000000 in
set_option maxRecDepth 100000 in
theorem c_Dk_got (l : Launch) (G : va_G) (cI cZ cJ : ClassId) (a_dk : Nat) (a_ch : Nat) (a_cs : Nat) (a_ln : Nat) (a_ss : Nat) (a_rr : Nat) (a_wn : Nat) (a_cd : Nat) (mt : Int32) (ft : Int32) (rc : Nat → Int32) (y : Int32)  : Met l y_Dk_got (w_Dk_got) ({ frames := 1, cells := 0, slots := 0, locals := 20 }) (va_Pc [.ref a_dk, .int y] (kR G vwCl [(cI, .int), (cZ, .boolean), (cJ, .long)] [(a_dk, .inr (3, [.ref a_ch, .ref a_cs, .ref a_ln, .ref a_ss, .ref a_rr, .ref a_wn, .ref a_cd, .int mt, .int ft])), (a_rr, .inl (cI, 16, .inl rc))])) (QcRead ((M_got rc y))) 0 0 (fun _ => False) := by
  refine Met.ofW (cc := b_Dk_got) (maxL := 2) (ret := (some .int)) (by decide) rfl ?_
  intro p e s m args below meth c s₁ B hml hv
  obtain ⟨rfl, hP, hK⟩ := hv
  have hx := B.exec
  have hb := B.bytes
  have hr := B.returns
  have hts : ∀ w ∈ TT, w.before _ s = true := fun w h => atoms_spec (ws := (w_Dk_got)) B.pre w (List.mem_cons_of_mem _ h)
  have hown : s.vm.findClass R_Dk = some m.cls := findClass_of_methodNamed B.named
  have hlocks := B.notSynchronized
  have hP : va_P G vwCl [(a_dk, .inr (3, [.ref a_ch, .ref a_cs, .ref a_ln, .ref a_ss, .ref a_rr, .ref a_wn, .ref a_cd, .int mt, .int ft])), (a_rr, .inl (cI, 16, .inl rc))] s.heap := hP
  have hl := lv_entry ([.ref a_dk, .int y]) (n := 2) (Nat.le_of_ble_eq_true rfl)
  rw [lg_entry_eq]
  generalize (lg_sl ([.ref a_dk, .int y]) ++ List.replicate (2 - (lg_sl ([.ref a_dk, .int y])).length) Slot.unset).toArray = ls at hl ⊢
  have hl : lv_has ls 2 [(0, .ref a_dk), (1, .int y)] := hl
  refine lv_iload_n hx hb d_Dk_got_0 rfl (lv_at hl 1 rfl) ?_
  refine k_ro (va_runS (As := [.int y]) (rest := []) ⟨hx, hb, hml, hown, hts⟩ (c_Dk_isRoutine l G cI cZ cJ y) (va_cwS 1 hts (gS t_138 t_139 t_32 t_140) rfl rfl rfl (by decide +kernel) ⟨Nat.le_of_ble_eq_true rfl, Nat.le_of_ble_eq_true rfl⟩) (kR_S hK hP [] rfl) rfl rfl hl.1 rfl (lv_room (Nat.le_of_ble_eq_true rfl)) d_Dk_got_1 ⟨Nat.le_of_ble_eq_true rfl, Nat.le_of_ble_eq_true rfl⟩) ?_
  refine b_if_eq (tgt := 16) hx hb d_Dk_got_4 (by decide) (fun c_a => ?_) (fun c_a => ?_)
  · refine lv_iconst (v := (nI 0)) hx hb d_Dk_got_16 (by decide +kernel) ?_
    exact k_ri hx hb hr hlocks (M_got_0 c_a) d_Dk_got_17
  · obtain ⟨q, hq, rfl⟩ := hasB_of (by decide) c_a
    refine lv_aload_n hx hb d_Dk_got_7 rfl (lv_at hl 0 rfl) ?_
    refine va_get (D := G) (ci := 3) (v := .ref a_rr) (C := R_Dk) (T := T_Dk) (N := 9) hx hb hts uw_Dk hown hK hP 0 rfl rfl 4 (by decide) (hts _ t_109) (fun _ h9 => h9) rfl d_Dk_got_8 ?_
    refine lv_iload_n hx hb d_Dk_got_11 rfl (lv_at hl 1 rfl) ?_
    refine k_iald hx hb hK hP 1 0 rfl rfl (by omega) (by decide) d_Dk_got_12 ?_
    refine lv_goto (tgt := 17) hx hb d_Dk_got_13 (by decide) ?_
    exact k_ri hx hb hr hlocks (M_got_1 c_a hq) d_Dk_got_17
set_option maxHeartbeats 4000000 in
set_option maxRecDepth 100000 in
theorem c_Dk_last (l : Launch) (G : va_G) (cI cZ cJ : ClassId) (a_dk : Nat) (a_ch : Nat) (a_cs : Nat) (a_ln : Nat) (a_ss : Nat) (a_rr : Nat) (a_wn : Nat) (a_cd : Nat) (mt : Int32) (ft : Int32) (sn : Nat → Nat) (cd : Nat → Int32) (y : Int32)  : Met l y_Dk_last (w_Dk_last) ({ frames := 1, cells := 0, slots := 0, locals := 20 }) (va_Pc [.ref a_dk, .int y] (kR G vwCl [(cI, .int), (cZ, .boolean), (cJ, .long)] [(a_dk, .inr (3, [.ref a_ch, .ref a_cs, .ref a_ln, .ref a_ss, .ref a_rr, .ref a_wn, .ref a_cd, .int mt, .int ft])), (a_wn, .inl (cI, 16, .inl (fun j => nI (sn j)))), (a_cd, .inl (cI, 16, .inl cd))])) (QcRead ((M_last sn cd y))) 0 0 (fun _ => False) := by
  refine Met.ofW (cc := b_Dk_last) (maxL := 2) (ret := (some .int)) (by decide) rfl ?_
  intro p e s m args below meth c s₁ B hml hv
  obtain ⟨rfl, hP, hK⟩ := hv
  have hx := B.exec
  have hb := B.bytes
  have hr := B.returns
  have hts : ∀ w ∈ TT, w.before _ s = true := fun w h => atoms_spec (ws := (w_Dk_last)) B.pre w (List.mem_cons_of_mem _ h)
  have hown : s.vm.findClass R_Dk = some m.cls := findClass_of_methodNamed B.named
  have hlocks := B.notSynchronized
  have hP : va_P G vwCl [(a_dk, .inr (3, [.ref a_ch, .ref a_cs, .ref a_ln, .ref a_ss, .ref a_rr, .ref a_wn, .ref a_cd, .int mt, .int ft])), (a_wn, .inl (cI, 16, .inl (fun j => nI (sn j)))), (a_cd, .inl (cI, 16, .inl cd))] s.heap := hP
  have hl := lv_entry ([.ref a_dk, .int y]) (n := 2) (Nat.le_of_ble_eq_true rfl)
  rw [lg_entry_eq]
  generalize (lg_sl ([.ref a_dk, .int y]) ++ List.replicate (2 - (lg_sl ([.ref a_dk, .int y])).length) Slot.unset).toArray = ls at hl ⊢
  have hl : lv_has ls 2 [(0, .ref a_dk), (1, .int y)] := hl
  refine lv_iload_n hx hb d_Dk_last_0 rfl (lv_at hl 1 rfl) ?_
  refine k_ro (va_runS (As := [.int y]) (rest := []) ⟨hx, hb, hml, hown, hts⟩ (c_Dk_isRoutine l G cI cZ cJ y) (va_cwS 1 hts (gS t_138 t_139 t_32 t_140) rfl rfl rfl (by decide +kernel) ⟨Nat.le_of_ble_eq_true rfl, Nat.le_of_ble_eq_true rfl⟩) (kR_S hK hP [] rfl) rfl rfl hl.1 rfl (lv_room (Nat.le_of_ble_eq_true rfl)) d_Dk_last_1 ⟨Nat.le_of_ble_eq_true rfl, Nat.le_of_ble_eq_true rfl⟩) ?_
  refine b_if_eq (tgt := 27) hx hb d_Dk_last_4 (by decide) (fun c_a => ?_) (fun c_a => ?_)
  · refine lv_iconst (v := (-1)) hx hb d_Dk_last_27 (by decide +kernel) ?_
    exact k_ri hx hb hr hlocks (M_last_0 c_a) d_Dk_last_28
  · obtain ⟨q, hq, rfl⟩ := hasB_of (by decide) c_a
    refine lv_aload_n hx hb d_Dk_last_7 rfl (lv_at hl 0 rfl) ?_
    refine va_get (D := G) (ci := 3) (v := .ref a_wn) (C := R_Dk) (T := T_Dk) (N := 9) hx hb hts uw_Dk hown hK hP 0 rfl rfl 5 (by decide) (hts _ t_110) (fun _ h9 => h9) rfl d_Dk_last_8 ?_
    refine lv_iload_n hx hb d_Dk_last_11 rfl (lv_at hl 1 rfl) ?_
    refine k_iald hx hb hK hP 1 0 rfl rfl (by omega) (by decide) d_Dk_last_12 ?_
    refine lv_iconst (v := (nI 2)) hx hb d_Dk_last_13 (by decide +kernel) ?_
    refine lv_aload_n hx hb d_Dk_last_14 rfl (lv_at hl 0 rfl) ?_
    refine va_get (D := G) (ci := 3) (v := .ref a_cd) (C := R_Dk) (T := T_Dk) (N := 9) hx hb hts uw_Dk hown hK hP 0 rfl rfl 6 (by decide) (hts _ t_111) (fun _ h9 => h9) rfl d_Dk_last_15 ?_
    refine lv_iload_n hx hb d_Dk_last_18 rfl (lv_at hl 1 rfl) ?_
    refine k_iald hx hb hK hP 2 0 rfl rfl (by omega) (by decide) d_Dk_last_19 ?_
    refine lv_iconst (v := (nI 2)) hx hb d_Dk_last_20 (by decide +kernel) ?_
    refine lv_iadd hx hb d_Dk_last_21 ?_
    refine lv_imul hx hb d_Dk_last_22 ?_
    refine lv_iadd hx hb d_Dk_last_23 ?_
    refine lv_goto (tgt := 28) hx hb d_Dk_last_24 (by decide) ?_
    exact k_ri hx hb hr hlocks (M_last_1 c_a hq) d_Dk_last_28
set_option maxHeartbeats 4000000 in
set_option maxRecDepth 100000 in
theorem c_Dk_waiting (l : Launch) (G : va_G) (cI cZ cJ : ClassId) (a_dk : Nat) (a_ch : Nat) (a_cs : Nat) (a_ln : Nat) (a_ss : Nat) (a_rr : Nat) (a_wn : Nat) (a_cd : Nat) (a_rm : Nat) (a_hd : Nat) (a_sh : Nat) (a_vl : Nat) (a_mm : Nat) (a_cn : Nat) (a_cc : Nat) (a_cw : Nat) (a_cv : Nat) (mt : Int32) (ft : Int32) (n : Nat) (len : Nat) (mem : Nat → Nat) (cnum : Nat → Nat) (cch : Nat → Nat) (cway : Nat → Nat) (cval : Nat → Int32) (cs : Nat → List Kase) (line : List Nat) (b : Int32) (w9 : Int32) (y : Int32) (hn : n ≤ 40) (hC : RelC cnum cch cway cval cs) (hL : RelL len mem line) : Met l y_Dk_waiting (w_Dk_waiting) ({ frames := 3, cells := 0, slots := 0, locals := 72 }) (va_Pc [.ref a_dk, .int b, .int w9, .int y] (kR G vwCl [(cI, .int), (cZ, .boolean), (cJ, .long)] [(a_dk, .inr (3, [.ref a_ch, .ref a_cs, .ref a_ln, .ref a_ss, .ref a_rr, .ref a_wn, .ref a_cd, .int mt, .int ft])), (a_ch, .inr (1, [.ref a_rm, .ref a_hd, .ref a_sh, .ref a_vl, .int (nI n)])), (a_ln, .inr (2, [.ref a_mm, .int (nI len)])), (a_mm, .inl (cI, 16, .inl (fun j => nI (mem j)))), (a_cs, .inr (0, [.ref a_cn, .ref a_cc, .ref a_cw, .ref a_cv])), (a_cn, .inl (cI, 16, .inl (fun j => nI (cnum j)))), (a_cc, .inl (cI, 96, .inl (fun j => nI (cch j)))), (a_cw, .inl (cI, 96, .inl (fun j => nI (cway j))))])) (QcRead ((M_waiting n cs line b w9 y))) 0 0 (fun _ => False) := by
  refine Met.ofW (cc := b_Dk_waiting) (maxL := 5) (ret := (some .int)) (by decide) rfl ?_
  intro p e s m args below meth c s₁ B hml hv
  obtain ⟨rfl, hP, hK⟩ := hv
  have hx := B.exec
  have hb := B.bytes
  have hr := B.returns
  have hts : ∀ w ∈ TT, w.before _ s = true := fun w h => atoms_spec (ws := (w_Dk_waiting)) B.pre w (List.mem_cons_of_mem _ h)
  have hown : s.vm.findClass R_Dk = some m.cls := findClass_of_methodNamed B.named
  have hlocks := B.notSynchronized
  have hP : va_P G vwCl [(a_dk, .inr (3, [.ref a_ch, .ref a_cs, .ref a_ln, .ref a_ss, .ref a_rr, .ref a_wn, .ref a_cd, .int mt, .int ft])), (a_ch, .inr (1, [.ref a_rm, .ref a_hd, .ref a_sh, .ref a_vl, .int (nI n)])), (a_ln, .inr (2, [.ref a_mm, .int (nI len)])), (a_mm, .inl (cI, 16, .inl (fun j => nI (mem j)))), (a_cs, .inr (0, [.ref a_cn, .ref a_cc, .ref a_cw, .ref a_cv])), (a_cn, .inl (cI, 16, .inl (fun j => nI (cnum j)))), (a_cc, .inl (cI, 96, .inl (fun j => nI (cch j)))), (a_cw, .inl (cI, 96, .inl (fun j => nI (cway j))))] s.heap := hP
  have hl := lv_entry ([.ref a_dk, .int b, .int w9, .int y]) (n := 5) (Nat.le_of_ble_eq_true rfl)
  rw [lg_entry_eq]
  generalize (lg_sl ([.ref a_dk, .int b, .int w9, .int y]) ++ List.replicate (5 - (lg_sl ([.ref a_dk, .int b, .int w9, .int y])).length) Slot.unset).toArray = ls at hl ⊢
  have hl : lv_has ls 5 [(0, .ref a_dk), (1, .int b), (2, .int w9), (3, .int y)] := hl
  refine lv_aload_n hx hb d_Dk_waiting_0 rfl (lv_at hl 0 rfl) ?_
  refine va_get (D := G) (ci := 3) (v := .ref a_ch) (C := R_Dk) (T := T_Dk) (N := 9) hx hb hts uw_Dk hown hK hP 0 rfl rfl 0 (by decide) (hts _ t_105) (fun _ h9 => h9) rfl d_Dk_waiting_1 ?_
  refine lv_iload_n hx hb d_Dk_waiting_4 rfl (lv_at hl 1 rfl) ?_
  refine k_ro (va_runV (As := [.int b]) (rest := []) ⟨hx, hb, hml, hown, hts⟩ (c_Ch_has l G cI cZ cJ a_ch a_rm a_hd a_sh a_vl n b) (cwV 1 hts (gV t_141 t_142 t_143 t_33 t_144) rfl rfl rfl (by decide +kernel) ⟨Nat.le_of_ble_eq_true rfl, Nat.le_of_ble_eq_true rfl⟩) (kR_V (ci := 1) (q0 := 1) hK hP rfl rfl [1] rfl) rfl rfl hl.1 rfl (lv_room (Nat.le_of_ble_eq_true rfl)) d_Dk_waiting_5 ⟨Nat.le_of_ble_eq_true rfl, Nat.le_of_ble_eq_true rfl⟩) ?_
  refine b_if_eq (tgt := 18) hx hb d_Dk_waiting_8 (by decide) (fun c_a => ?_) (fun c_a => ?_)
  · refine lv_iconst (v := (-1)) hx hb d_Dk_waiting_18 (by decide +kernel) ?_
    exact k_ri hx hb hr hlocks (M_waiting_0 c_a) d_Dk_waiting_19
  · refine lv_iload_n hx hb d_Dk_waiting_11 rfl (lv_at hl 2 rfl) ?_
    refine k_ro (va_runS (As := [.int w9]) (rest := []) ⟨hx, hb, hml, hown, hts⟩ (c_Dk_isWay l G cI cZ cJ w9) (va_cwS 1 hts (gS t_247 t_248 t_32 t_249) rfl rfl rfl (by decide +kernel) ⟨Nat.le_of_ble_eq_true rfl, Nat.le_of_ble_eq_true rfl⟩) (kR_S hK hP [] rfl) rfl rfl hl.1 rfl (lv_room (Nat.le_of_ble_eq_true rfl)) d_Dk_waiting_12 ⟨Nat.le_of_ble_eq_true rfl, Nat.le_of_ble_eq_true rfl⟩) ?_
    refine b_if_ne (tgt := 20) hx hb d_Dk_waiting_15 (by decide) (fun c_b => ?_) (fun c_b => ?_)
    · obtain ⟨x, hxn, rfl⟩ := hasB_of (by omega) c_a
      have hx0 : x < 40 := by omega
      obtain ⟨w, hw2, rfl⟩ := wayB_of c_b
      refine lv_aload_n hx hb d_Dk_waiting_20 rfl (lv_at hl 0 rfl) ?_
      refine lv_iload_n hx hb d_Dk_waiting_21 rfl (lv_at hl 1 rfl) ?_
      refine lv_iload_n hx hb d_Dk_waiting_22 rfl (lv_at hl 2 rfl) ?_
      refine lv_iload_n hx hb d_Dk_waiting_23 rfl (lv_at hl 3 rfl) ?_
      refine k_ro (va_runV (As := [.int (nI x), .int (nI w), .int y]) (rest := []) ⟨hx, hb, hml, hown, hts⟩ (c_Dk_findWaiting l G cI cZ cJ a_dk a_ch a_cs a_ln a_ss a_rr a_wn a_cd a_mm a_cn a_cc a_cw a_cv mt ft len mem cnum cch cway cval cs line x w y hx0 (by omega) hC hL) (cwV 3 hts (gV t_165 t_166 t_6 t_32 t_167) rfl rfl rfl (by decide +kernel) ⟨Nat.le_of_ble_eq_true rfl, Nat.le_of_ble_eq_true rfl⟩) (kR_V (ci := 3) (q0 := 0) hK hP rfl rfl [0, 2, 3, 4, 5, 6, 7] rfl) rfl rfl hl.1 rfl (lv_room (Nat.le_of_ble_eq_true rfl)) d_Dk_waiting_24 ⟨Nat.le_of_ble_eq_true rfl, Nat.le_of_ble_eq_true rfl⟩) ?_
      rcases hz : wlAt (wl cs line x w) y with _ | ⟨q1, i1⟩
      · refine k_top (y := (-1)) (rfl) ?_
        refine lv_istore (lv' := [(4, .int (-1)), (0, .ref a_dk), (1, .int (nI x)), (2, .int (nI w)), (3, .int y)]) hx hb d_Dk_waiting_27 hl (by decide) rfl (fun ls hl => ?_)
        refine lv_iload hx hb d_Dk_waiting_29 (lv_at hl 0 rfl) ?_
        refine lv_iconst (v := (-1)) hx hb d_Dk_waiting_31 (by decide +kernel) ?_
        refine lv_icmp_ne (tgt := 39) hx hb d_Dk_waiting_32 (by decide) (fun c_c => absurd rfl c_c) (fun c_c => ?_)
        refine lv_iconst (v := (-1)) hx hb d_Dk_waiting_35 (by decide +kernel) ?_
        refine lv_goto (tgt := 44) hx hb d_Dk_waiting_36 (by decide) ?_
        exact k_ri hx hb hr hlocks (M_waiting_1 c_a c_b hx0 hw2 hz) d_Dk_waiting_44
      · have hz1 := wl_mem (wlAt_mem hz)
        have hq1 : q1 < 16 := RelL_lt hL hz1.1
        have hi1 : i1 < (cs q1).length := fa_lt hz1.2
        have h61 := (hC q1 hq1).2.1
        refine k_top (y := (nI (q1 * 6 + i1))) (rfl) ?_
        refine lv_istore (lv' := [(4, .int (nI (q1 * 6 + i1))), (0, .ref a_dk), (1, .int (nI x)), (2, .int (nI w)), (3, .int y)]) hx hb d_Dk_waiting_27 hl (by decide) rfl (fun ls hl => ?_)
        refine lv_iload hx hb d_Dk_waiting_29 (lv_at hl 0 rfl) ?_
        refine lv_iconst (v := (-1)) hx hb d_Dk_waiting_31 (by decide +kernel) ?_
        refine lv_icmp_ne (tgt := 39) hx hb d_Dk_waiting_32 (by decide) (fun c_c => ?_) (fun c_c => absurd c_c (nI_m1 (by omega)))
        refine lv_iload hx hb d_Dk_waiting_39 (lv_at hl 0 rfl) ?_
        refine k_ro (va_runS (As := [.int (nI (q1 * 6 + i1))]) (rest := []) ⟨hx, hb, hml, hown, hts⟩ (c_Cs_routineAt l G cI cZ cJ (q1 * 6 + i1) (by omega)) (va_cwS 1 hts (gS t_186 t_187 t_34 t_188) rfl rfl rfl (by decide +kernel) ⟨Nat.le_of_ble_eq_true rfl, Nat.le_of_ble_eq_true rfl⟩) (kR_S hK hP [] rfl) rfl rfl hl.1 rfl (lv_room (Nat.le_of_ble_eq_true rfl)) d_Dk_waiting_41 ⟨Nat.le_of_ble_eq_true rfl, Nat.le_of_ble_eq_true rfl⟩) ?_
        refine k_top (y := (nI q1)) (congrArg nI (by omega)) ?_
        exact k_ri hx hb hr hlocks (M_waiting_1 c_a c_b hx0 hw2 hz) d_Dk_waiting_44
    · refine lv_iconst (v := (-1)) hx hb d_Dk_waiting_18 (by decide +kernel) ?_
      exact k_ri hx hb hr hlocks (M_waiting_00 c_b) d_Dk_waiting_19
set_option maxHeartbeats 4000000 in
set_option maxRecDepth 100000 in
theorem c_Dk_channel (l : Launch) (G : va_G) (cI cZ cJ : ClassId) (a_dk : Nat) (a_ch : Nat) (a_cs : Nat) (a_ln : Nat) (a_ss : Nat) (a_rr : Nat) (a_wn : Nat) (a_cd : Nat) (a_rm : Nat) (a_hd : Nat) (a_sh : Nat) (a_vl : Nat) (mt : Int32) (ft : Int32) (n : Nat) (room : Nat → Nat) (held : Nat → Nat) (shut : Nat → Bool) (vals : Nat → Int32) (L : Nat → List Int32) (b : Int32) (y : Int32) (hn : n ≤ 40) (hV : RelV held vals L) : Met l y_Dk_channel (w_Dk_channel) ({ frames := 1, cells := 0, slots := 0, locals := 22 }) (va_Pc [.ref a_dk, .int b, .int y] (kR G vwCl [(cI, .int), (cZ, .boolean), (cJ, .long)] [(a_dk, .inr (3, [.ref a_ch, .ref a_cs, .ref a_ln, .ref a_ss, .ref a_rr, .ref a_wn, .ref a_cd, .int mt, .int ft])), (a_ch, .inr (1, [.ref a_rm, .ref a_hd, .ref a_sh, .ref a_vl, .int (nI n)])), (a_rm, .inl (cI, 40, .inl (fun j => nI (room j)))), (a_hd, .inl (cI, 40, .inl (fun j => nI (held j)))), (a_sh, .inl (cZ, 40, .inl (fun j => bI (shut j)))), (a_vl, .inl (cI, 320, .inl vals))])) (QcRead ((M_channel n room shut L b y))) 0 0 (fun _ => False) := by
  refine Met.ofW (cc := b_Dk_channel) (maxL := 3) (ret := (some .int)) (by decide) rfl ?_
  intro p e s m args below meth c s₁ B hml hv
  obtain ⟨rfl, hP, hK⟩ := hv
  have hx := B.exec
  have hb := B.bytes
  have hr := B.returns
  have hts : ∀ w ∈ TT, w.before _ s = true := fun w h => atoms_spec (ws := (w_Dk_channel)) B.pre w (List.mem_cons_of_mem _ h)
  have hown : s.vm.findClass R_Dk = some m.cls := findClass_of_methodNamed B.named
  have hlocks := B.notSynchronized
  have hP : va_P G vwCl [(a_dk, .inr (3, [.ref a_ch, .ref a_cs, .ref a_ln, .ref a_ss, .ref a_rr, .ref a_wn, .ref a_cd, .int mt, .int ft])), (a_ch, .inr (1, [.ref a_rm, .ref a_hd, .ref a_sh, .ref a_vl, .int (nI n)])), (a_rm, .inl (cI, 40, .inl (fun j => nI (room j)))), (a_hd, .inl (cI, 40, .inl (fun j => nI (held j)))), (a_sh, .inl (cZ, 40, .inl (fun j => bI (shut j)))), (a_vl, .inl (cI, 320, .inl vals))] s.heap := hP
  have hl := lv_entry ([.ref a_dk, .int b, .int y]) (n := 3) (Nat.le_of_ble_eq_true rfl)
  rw [lg_entry_eq]
  generalize (lg_sl ([.ref a_dk, .int b, .int y]) ++ List.replicate (3 - (lg_sl ([.ref a_dk, .int b, .int y])).length) Slot.unset).toArray = ls at hl ⊢
  have hl : lv_has ls 3 [(0, .ref a_dk), (1, .int b), (2, .int y)] := hl
  refine lv_aload_n hx hb d_Dk_channel_0 rfl (lv_at hl 0 rfl) ?_
  refine va_get (D := G) (ci := 3) (v := .ref a_ch) (C := R_Dk) (T := T_Dk) (N := 9) hx hb hts uw_Dk hown hK hP 0 rfl rfl 0 (by decide) (hts _ t_105) (fun _ h9 => h9) rfl d_Dk_channel_1 ?_
  refine lv_iload_n hx hb d_Dk_channel_4 rfl (lv_at hl 1 rfl) ?_
  refine k_ro (va_runV (As := [.int b]) (rest := []) ⟨hx, hb, hml, hown, hts⟩ (c_Ch_has l G cI cZ cJ a_ch a_rm a_hd a_sh a_vl n b) (cwV 1 hts (gV t_141 t_142 t_143 t_33 t_144) rfl rfl rfl (by decide +kernel) ⟨Nat.le_of_ble_eq_true rfl, Nat.le_of_ble_eq_true rfl⟩) (kR_V (ci := 1) (q0 := 1) hK hP rfl rfl [1] rfl) rfl rfl hl.1 rfl (lv_room (Nat.le_of_ble_eq_true rfl)) d_Dk_channel_5 ⟨Nat.le_of_ble_eq_true rfl, Nat.le_of_ble_eq_true rfl⟩) ?_
  refine b_if_ne (tgt := 13) hx hb d_Dk_channel_8 (by decide) (fun c_a => ?_) (fun c_a => ?_)
  · obtain ⟨x, hxn, rfl⟩ := hasB_of (by omega) c_a
    have hx0 : x < 40 := by omega
    refine lv_iload_n hx hb d_Dk_channel_13 rfl (lv_at hl 2 rfl) ?_
    rcases tsw3 y with hsw | rfl | rfl | rfl
    · refine lv_tableOut (tgt := 75) hx hb d_Dk_channel_14 hsw (by decide) ?_
      refine lv_iload_n hx hb d_Dk_channel_75 rfl (lv_at hl 2 rfl) ?_
      refine lv_iconst (v := (nI 3)) hx hb d_Dk_channel_76 (by decide +kernel) ?_
      refine lv_icmp_lt (tgt := 100) hx hb d_Dk_channel_77 (by decide) (fun c_c => ?_) (fun c_c => ?_)
      · refine lv_iconst (v := (-1)) hx hb d_Dk_channel_100 (by decide +kernel) ?_
        exact k_ri hx hb hr hlocks (M_channel_4 c_a hx0 hsw (Or.inl c_c)) d_Dk_channel_101
      · refine lv_iload_n hx hb d_Dk_channel_80 rfl (lv_at hl 2 rfl) ?_
        refine lv_bipush (v := (nI 11)) hx hb d_Dk_channel_81 (by decide +kernel) ?_
        refine lv_icmp_ge (tgt := 100) hx hb d_Dk_channel_83 (by decide) (fun c_d => ?_) (fun c_d => ?_)
        · refine lv_iconst (v := (-1)) hx hb d_Dk_channel_100 (by decide +kernel) ?_
          exact k_ri hx hb hr hlocks (M_channel_4 c_a hx0 hsw (Or.inr c_d)) d_Dk_channel_101
        · obtain ⟨j, hj, rfl⟩ := rng38 c_c c_d
          refine lv_aload_n hx hb d_Dk_channel_86 rfl (lv_at hl 0 rfl) ?_
          refine va_get (D := G) (ci := 3) (v := .ref a_ch) (C := R_Dk) (T := T_Dk) (N := 9) hx hb hts uw_Dk hown hK hP 0 rfl rfl 0 (by decide) (hts _ t_105) (fun _ h9 => h9) rfl d_Dk_channel_87 ?_
          refine lv_iload_n hx hb d_Dk_channel_90 rfl (lv_at hl 1 rfl) ?_
          refine lv_iload_n hx hb d_Dk_channel_91 rfl (lv_at hl 2 rfl) ?_
          refine lv_iconst (v := (nI 3)) hx hb d_Dk_channel_92 (by decide +kernel) ?_
          refine lv_isub hx hb d_Dk_channel_93 ?_
          refine k_top (y := (nI ((j + 3) - 3))) (pk_sub (by omega)) ?_
          refine k_top (y := (nI j)) (congrArg nI (by omega)) ?_
          refine k_ro (va_runV (As := [.int (nI x), .int (nI j)]) (rest := []) ⟨hx, hb, hml, hown, hts⟩ (c_Ch_valueAt l G cI cZ cJ a_ch a_rm a_hd a_sh a_vl n held vals L x j (by omega) hV hj) (cwV 2 hts (gV t_315 t_316 t_317 t_33 t_318) rfl rfl rfl (by decide +kernel) ⟨Nat.le_of_ble_eq_true rfl, Nat.le_of_ble_eq_true rfl⟩) (kR_V (ci := 1) (q0 := 1) hK hP rfl rfl [1, 3, 5] rfl) rfl rfl hl.1 rfl (lv_room (Nat.le_of_ble_eq_true rfl)) d_Dk_channel_94 ⟨Nat.le_of_ble_eq_true rfl, Nat.le_of_ble_eq_true rfl⟩) ?_
          refine lv_goto (tgt := 101) hx hb d_Dk_channel_97 (by decide) ?_
          exact k_ri hx hb hr hlocks (M_channel_5 c_a hx0 hj) d_Dk_channel_101
    · refine lv_tableIn (off := 26) (tgt := 40) hx hb d_Dk_channel_14 (by decide +kernel) (by decide +kernel) (by decide +kernel) (by decide) ?_
      refine lv_aload_n hx hb d_Dk_channel_40 rfl (lv_at hl 0 rfl) ?_
      refine va_get (D := G) (ci := 3) (v := .ref a_ch) (C := R_Dk) (T := T_Dk) (N := 9) hx hb hts uw_Dk hown hK hP 0 rfl rfl 0 (by decide) (hts _ t_105) (fun _ h9 => h9) rfl d_Dk_channel_41 ?_
      refine lv_iload_n hx hb d_Dk_channel_44 rfl (lv_at hl 1 rfl) ?_
      refine k_ro (va_runV (As := [.int (nI x)]) (rest := []) ⟨hx, hb, hml, hown, hts⟩ (c_Ch_held l G cI cZ cJ a_ch a_rm a_hd a_sh a_vl n held vals L x (by omega) hV) (cwV 1 hts (gV t_225 t_226 t_227 t_33 t_228) rfl rfl rfl (by decide +kernel) ⟨Nat.le_of_ble_eq_true rfl, Nat.le_of_ble_eq_true rfl⟩) (kR_V (ci := 1) (q0 := 1) hK hP rfl rfl [1, 3] rfl) rfl rfl hl.1 rfl (lv_room (Nat.le_of_ble_eq_true rfl)) d_Dk_channel_45 ⟨Nat.le_of_ble_eq_true rfl, Nat.le_of_ble_eq_true rfl⟩) ?_
      exact k_ri hx hb hr hlocks (M_channel_1 c_a hx0) d_Dk_channel_48
    · refine lv_tableIn (off := 35) (tgt := 49) hx hb d_Dk_channel_14 (by decide +kernel) (by decide +kernel) (by decide +kernel) (by decide) ?_
      refine lv_aload_n hx hb d_Dk_channel_49 rfl (lv_at hl 0 rfl) ?_
      refine va_get (D := G) (ci := 3) (v := .ref a_ch) (C := R_Dk) (T := T_Dk) (N := 9) hx hb hts uw_Dk hown hK hP 0 rfl rfl 0 (by decide) (hts _ t_105) (fun _ h9 => h9) rfl d_Dk_channel_50 ?_
      refine lv_iload_n hx hb d_Dk_channel_53 rfl (lv_at hl 1 rfl) ?_
      refine k_ro (va_runV (As := [.int (nI x)]) (rest := []) ⟨hx, hb, hml, hown, hts⟩ (c_Ch_roomOf l G cI cZ cJ a_ch a_rm a_hd a_sh a_vl n room x (by omega)) (cwV 1 hts (gV t_311 t_312 t_313 t_33 t_314) rfl rfl rfl (by decide +kernel) ⟨Nat.le_of_ble_eq_true rfl, Nat.le_of_ble_eq_true rfl⟩) (kR_V (ci := 1) (q0 := 1) hK hP rfl rfl [1, 2] rfl) rfl rfl hl.1 rfl (lv_room (Nat.le_of_ble_eq_true rfl)) d_Dk_channel_54 ⟨Nat.le_of_ble_eq_true rfl, Nat.le_of_ble_eq_true rfl⟩) ?_
      exact k_ri hx hb hr hlocks (M_channel_2 c_a hx0) d_Dk_channel_57
    · refine lv_tableIn (off := 44) (tgt := 58) hx hb d_Dk_channel_14 (by decide +kernel) (by decide +kernel) (by decide +kernel) (by decide) ?_
      refine lv_aload_n hx hb d_Dk_channel_58 rfl (lv_at hl 0 rfl) ?_
      refine va_get (D := G) (ci := 3) (v := .ref a_ch) (C := R_Dk) (T := T_Dk) (N := 9) hx hb hts uw_Dk hown hK hP 0 rfl rfl 0 (by decide) (hts _ t_105) (fun _ h9 => h9) rfl d_Dk_channel_59 ?_
      refine lv_iload_n hx hb d_Dk_channel_62 rfl (lv_at hl 1 rfl) ?_
      refine k_ro (va_runV (As := [.int (nI x)]) (rest := []) ⟨hx, hb, hml, hown, hts⟩ (c_Ch_isShut l G cI cZ cJ a_ch a_rm a_hd a_sh a_vl n shut x (by omega)) (cwV 1 hts (gV t_155 t_156 t_157 t_33 t_158) rfl rfl rfl (by decide +kernel) ⟨Nat.le_of_ble_eq_true rfl, Nat.le_of_ble_eq_true rfl⟩) (kR_V (ci := 1) (q0 := 1) hK hP rfl rfl [1, 4] rfl) rfl rfl hl.1 rfl (lv_room (Nat.le_of_ble_eq_true rfl)) d_Dk_channel_63 ⟨Nat.le_of_ble_eq_true rfl, Nat.le_of_ble_eq_true rfl⟩) ?_
      refine b_if_eq (tgt := 73) hx hb d_Dk_channel_66 (by decide) (fun c_b => ?_) (fun c_b => ?_)
      · refine lv_iconst (v := (nI 0)) hx hb d_Dk_channel_73 (by decide +kernel) ?_
        exact k_ri hx hb hr hlocks ((congrArg bI c_b).symm.trans (M_channel_3 c_a hx0)) d_Dk_channel_74
      · refine lv_iconst (v := (nI 1)) hx hb d_Dk_channel_69 (by decide +kernel) ?_
        refine lv_goto (tgt := 74) hx hb d_Dk_channel_70 (by decide) ?_
        exact k_ri hx hb hr hlocks ((congrArg bI c_b).symm.trans (M_channel_3 c_a hx0)) d_Dk_channel_74
  · refine lv_iconst (v := (-1)) hx hb d_Dk_channel_11 (by decide +kernel) ?_
    exact k_ri hx hb hr hlocks (M_channel_0 c_a) d_Dk_channel_12
set_option maxHeartbeats 4000000 in
set_option maxRecDepth 100000 in
theorem c_Dk_count (l : Launch) (G : va_G) (cI cZ cJ : ClassId) (a_dk : Nat) (a_ch : Nat) (a_cs : Nat) (a_ln : Nat) (a_ss : Nat) (a_rr : Nat) (a_wn : Nat) (a_cd : Nat) (a_rm : Nat) (a_hd : Nat) (a_sh : Nat) (a_vl : Nat) (a_mm : Nat) (mt : Int32) (ft : Int32) (n : Nat) (len : Nat) (mem : Nat → Nat) (line : List Nat) (y : Int32) (hL : RelL len mem line) : Met l y_Dk_count (w_Dk_count) ({ frames := 1, cells := 0, slots := 0, locals := 20 }) (va_Pc [.ref a_dk, .int y] (kR G vwCl [(cI, .int), (cZ, .boolean), (cJ, .long)] [(a_dk, .inr (3, [.ref a_ch, .ref a_cs, .ref a_ln, .ref a_ss, .ref a_rr, .ref a_wn, .ref a_cd, .int mt, .int ft])), (a_ch, .inr (1, [.ref a_rm, .ref a_hd, .ref a_sh, .ref a_vl, .int (nI n)])), (a_ln, .inr (2, [.ref a_mm, .int (nI len)]))])) (QcRead ((M_count n line.length mt ft y))) 0 0 (fun _ => False) := by
  refine Met.ofW (cc := b_Dk_count) (maxL := 2) (ret := (some .int)) (by decide) rfl ?_
  intro p e s m args below meth c s₁ B hml hv
  obtain ⟨rfl, hP, hK⟩ := hv
  have hx := B.exec
  have hb := B.bytes
  have hr := B.returns
  have hts : ∀ w ∈ TT, w.before _ s = true := fun w h => atoms_spec (ws := (w_Dk_count)) B.pre w (List.mem_cons_of_mem _ h)
  have hown : s.vm.findClass R_Dk = some m.cls := findClass_of_methodNamed B.named
  have hlocks := B.notSynchronized
  have hP : va_P G vwCl [(a_dk, .inr (3, [.ref a_ch, .ref a_cs, .ref a_ln, .ref a_ss, .ref a_rr, .ref a_wn, .ref a_cd, .int mt, .int ft])), (a_ch, .inr (1, [.ref a_rm, .ref a_hd, .ref a_sh, .ref a_vl, .int (nI n)])), (a_ln, .inr (2, [.ref a_mm, .int (nI len)]))] s.heap := hP
  have hl := lv_entry ([.ref a_dk, .int y]) (n := 2) (Nat.le_of_ble_eq_true rfl)
  rw [lg_entry_eq]
  generalize (lg_sl ([.ref a_dk, .int y]) ++ List.replicate (2 - (lg_sl ([.ref a_dk, .int y])).length) Slot.unset).toArray = ls at hl ⊢
  have hl : lv_has ls 2 [(0, .ref a_dk), (1, .int y)] := hl
  refine lv_iload_n hx hb d_Dk_count_0 rfl (lv_at hl 1 rfl) ?_
  rcases tsw4 y with hsw | rfl | rfl | rfl | rfl
  · refine lv_tableOut (tgt := 58) hx hb d_Dk_count_1 hsw (by decide) ?_
    refine lv_iconst (v := (-1)) hx hb d_Dk_count_58 (by decide +kernel) ?_
    exact k_ri hx hb hr hlocks (M_count_4 hsw) d_Dk_count_59
  · refine lv_tableIn (off := 31) (tgt := 32) hx hb d_Dk_count_1 (by decide +kernel) (by decide +kernel) (by decide +kernel) (by decide) ?_
    refine lv_aload_n hx hb d_Dk_count_32 rfl (lv_at hl 0 rfl) ?_
    refine va_get (D := G) (ci := 3) (v := .ref a_ch) (C := R_Dk) (T := T_Dk) (N := 9) hx hb hts uw_Dk hown hK hP 0 rfl rfl 0 (by decide) (hts _ t_105) (fun _ h9 => h9) rfl d_Dk_count_33 ?_
    refine k_ro (va_runV (As := []) (rest := []) ⟨hx, hb, hml, hown, hts⟩ (c_Ch_number l G cI cZ cJ a_ch a_rm a_hd a_sh a_vl n) (cwV 0 hts (gV t_323 t_324 t_325 t_33 t_326) rfl rfl rfl (by decide +kernel) ⟨Nat.le_of_ble_eq_true rfl, Nat.le_of_ble_eq_true rfl⟩) (kR_V (ci := 1) (q0 := 1) hK hP rfl rfl [1] rfl) rfl rfl hl.1 rfl (lv_room (Nat.le_of_ble_eq_true rfl)) d_Dk_count_36 ⟨Nat.le_of_ble_eq_true rfl, Nat.le_of_ble_eq_true rfl⟩) ?_
    exact k_ri hx hb hr hlocks (M_count_0) d_Dk_count_39
  · refine lv_tableIn (off := 39) (tgt := 40) hx hb d_Dk_count_1 (by decide +kernel) (by decide +kernel) (by decide +kernel) (by decide) ?_
    refine lv_aload_n hx hb d_Dk_count_40 rfl (lv_at hl 0 rfl) ?_
    refine va_get (D := G) (ci := 3) (v := .ref a_ln) (C := R_Dk) (T := T_Dk) (N := 9) hx hb hts uw_Dk hown hK hP 0 rfl rfl 2 (by decide) (hts _ t_107) (fun _ h9 => h9) rfl d_Dk_count_41 ?_
    refine k_ro (va_runV (As := []) (rest := []) ⟨hx, hb, hml, hown, hts⟩ (c_Ln_length l G cI cZ cJ a_ln a_mm len mem line hL) (cwV 0 hts (gV t_168 t_169 t_170 t_35 t_171) rfl rfl rfl (by decide +kernel) ⟨Nat.le_of_ble_eq_true rfl, Nat.le_of_ble_eq_true rfl⟩) (kR_V (ci := 2) (q0 := 2) hK hP rfl rfl [2] rfl) rfl rfl hl.1 rfl (lv_room (Nat.le_of_ble_eq_true rfl)) d_Dk_count_44 ⟨Nat.le_of_ble_eq_true rfl, Nat.le_of_ble_eq_true rfl⟩) ?_
    exact k_ri hx hb hr hlocks (M_count_1) d_Dk_count_47
  · refine lv_tableIn (off := 47) (tgt := 48) hx hb d_Dk_count_1 (by decide +kernel) (by decide +kernel) (by decide +kernel) (by decide) ?_
    refine lv_aload_n hx hb d_Dk_count_48 rfl (lv_at hl 0 rfl) ?_
    refine va_get (D := G) (ci := 3) (v := .int mt) (C := R_Dk) (T := T_Dk) (N := 9) hx hb hts uw_Dk hown hK hP 0 rfl rfl 7 (by decide) (hts _ t_112) (fun _ h9 => h9) rfl d_Dk_count_49 ?_
    exact k_ri hx hb hr hlocks (M_count_2) d_Dk_count_52
  · refine lv_tableIn (off := 52) (tgt := 53) hx hb d_Dk_count_1 (by decide +kernel) (by decide +kernel) (by decide +kernel) (by decide) ?_
    refine lv_aload_n hx hb d_Dk_count_53 rfl (lv_at hl 0 rfl) ?_
    refine va_get (D := G) (ci := 3) (v := .int ft) (C := R_Dk) (T := T_Dk) (N := 9) hx hb hts uw_Dk hown hK hP 0 rfl rfl 8 (by decide) (hts _ t_113) (fun _ h9 => h9) rfl d_Dk_count_54 ?_
    exact k_ri hx hb hr hlocks (M_count_3) d_Dk_count_57
set_option maxHeartbeats 4000000 in
set_option maxRecDepth 100000 in
theorem c_Dk_startAfresh (l : Launch) (G : va_G) (cI cZ cJ : ClassId) (sz : Nat) (a_dk : Nat) (a_ch : Nat) (a_cs : Nat) (a_ln : Nat) (a_ss : Nat) (a_rr : Nat) (a_wn : Nat) (a_cd : Nat) (a_rm : Nat) (a_hd : Nat) (a_sh : Nat) (a_vl : Nat) (a_cn : Nat) (a_cc : Nat) (a_cw : Nat) (a_cv : Nat) (a_mm : Nat) (mt : Int32) (ft : Int32) (n : Nat) (room : Nat → Nat) (held : Nat → Nat) (shut : Nat → Bool) (vals : Nat → Int32) (cnum : Nat → Nat) (cch : Nat → Nat) (cway : Nat → Nat) (cval : Nat → Int32) (len : Nat) (mem : Nat → Nat) (st : Nat → Nat) (rc : Nat → Int32) (sn : Nat → Nat) (cd : Nat → Int32)  : Met l y_Dk_startAfresh (w_Dk_startAfresh) ({ frames := 2, cells := 0, slots := 0, locals := 43 }) (va_Pc [.ref a_dk] (kW G vwCl [(cI, .int), (cZ, .boolean), (cJ, .long)] [(a_dk, .inr (3, [.ref a_ch, .ref a_cs, .ref a_ln, .ref a_ss, .ref a_rr, .ref a_wn, .ref a_cd, .int mt, .int ft])), (a_ch, .inr (1, [.ref a_rm, .ref a_hd, .ref a_sh, .ref a_vl, .int (nI n)])), (a_rm, .inl (cI, 40, .inl (fun j => nI (room j)))), (a_hd, .inl (cI, 40, .inl (fun j => nI (held j)))), (a_sh, .inl (cZ, 40, .inl (fun j => bI (shut j)))), (a_vl, .inl (cI, 320, .inl vals)), (a_cs, .inr (0, [.ref a_cn, .ref a_cc, .ref a_cw, .ref a_cv])), (a_cn, .inl (cI, 16, .inl (fun j => nI (cnum j)))), (a_cc, .inl (cI, 96, .inl (fun j => nI (cch j)))), (a_cw, .inl (cI, 96, .inl (fun j => nI (cway j)))), (a_cv, .inl (cI, 96, .inl cval)), (a_ln, .inr (2, [.ref a_mm, .int (nI len)])), (a_mm, .inl (cI, 16, .inl (fun j => nI (mem j)))), (a_ss, .inl (cI, 16, .inl (fun j => nI (st j)))), (a_rr, .inl (cI, 16, .inl rc)), (a_wn, .inl (cI, 16, .inl (fun j => nI (sn j)))), (a_cd, .inl (cI, 16, .inl cd))] sz)) (va_Qv (fun (u : Unit) => True) (fun u t => va_P G vwCl [(a_dk, .inr (3, [.ref a_ch, .ref a_cs, .ref a_ln, .ref a_ss, .ref a_rr, .ref a_wn, .ref a_cd, .int (nI 0), .int (nI 0)])), (a_ch, .inr (1, [.ref a_rm, .ref a_hd, .ref a_sh, .ref a_vl, .int (nI 0)])), (a_rm, .inl (cI, 40, .inl (fun j => nI (room j)))), (a_hd, .inl (cI, 40, .inl (fun j => nI (held j)))), (a_sh, .inl (cZ, 40, .inl (fun j => bI (shut j)))), (a_vl, .inl (cI, 320, .inl vals)), (a_cs, .inr (0, [.ref a_cn, .ref a_cc, .ref a_cw, .ref a_cv])), (a_cn, .inl (cI, 16, .inl (fun j => nI ((fl 16 0 cnum) j)))), (a_cc, .inl (cI, 96, .inl (fun j => nI (cch j)))), (a_cw, .inl (cI, 96, .inl (fun j => nI (cway j)))), (a_cv, .inl (cI, 96, .inl cval)), (a_ln, .inr (2, [.ref a_mm, .int (nI 0)])), (a_mm, .inl (cI, 16, .inl (fun j => nI (mem j)))), (a_ss, .inl (cI, 16, .inl (fun j => nI ((fl 16 0 st) j)))), (a_rr, .inl (cI, 16, .inl (fl 16 (nI 0) rc))), (a_wn, .inl (cI, 16, .inl (fun j => nI ((fl 16 0 sn) j)))), (a_cd, .inl (cI, 16, .inl (fl 16 (-1) cd)))] t.heap) (va_A [(a_dk, .inr (3, [.ref a_ch, .ref a_cs, .ref a_ln, .ref a_ss, .ref a_rr, .ref a_wn, .ref a_cd, .int mt, .int ft])), (a_ch, .inr (1, [.ref a_rm, .ref a_hd, .ref a_sh, .ref a_vl, .int (nI n)])), (a_rm, .inl (cI, 40, .inl (fun j => nI (room j)))), (a_hd, .inl (cI, 40, .inl (fun j => nI (held j)))), (a_sh, .inl (cZ, 40, .inl (fun j => bI (shut j)))), (a_vl, .inl (cI, 320, .inl vals)), (a_cs, .inr (0, [.ref a_cn, .ref a_cc, .ref a_cw, .ref a_cv])), (a_cn, .inl (cI, 16, .inl (fun j => nI (cnum j)))), (a_cc, .inl (cI, 96, .inl (fun j => nI (cch j)))), (a_cw, .inl (cI, 96, .inl (fun j => nI (cway j)))), (a_cv, .inl (cI, 96, .inl cval)), (a_ln, .inr (2, [.ref a_mm, .int (nI len)])), (a_mm, .inl (cI, 16, .inl (fun j => nI (mem j)))), (a_ss, .inl (cI, 16, .inl (fun j => nI (st j)))), (a_rr, .inl (cI, 16, .inl rc)), (a_wn, .inl (cI, 16, .inl (fun j => nI (sn j)))), (a_cd, .inl (cI, 16, .inl cd))] sz)) 0 0 (va_A [(a_dk, .inr (3, [.ref a_ch, .ref a_cs, .ref a_ln, .ref a_ss, .ref a_rr, .ref a_wn, .ref a_cd, .int mt, .int ft])), (a_ch, .inr (1, [.ref a_rm, .ref a_hd, .ref a_sh, .ref a_vl, .int (nI n)])), (a_rm, .inl (cI, 40, .inl (fun j => nI (room j)))), (a_hd, .inl (cI, 40, .inl (fun j => nI (held j)))), (a_sh, .inl (cZ, 40, .inl (fun j => bI (shut j)))), (a_vl, .inl (cI, 320, .inl vals)), (a_cs, .inr (0, [.ref a_cn, .ref a_cc, .ref a_cw, .ref a_cv])), (a_cn, .inl (cI, 16, .inl (fun j => nI (cnum j)))), (a_cc, .inl (cI, 96, .inl (fun j => nI (cch j)))), (a_cw, .inl (cI, 96, .inl (fun j => nI (cway j)))), (a_cv, .inl (cI, 96, .inl cval)), (a_ln, .inr (2, [.ref a_mm, .int (nI len)])), (a_mm, .inl (cI, 16, .inl (fun j => nI (mem j)))), (a_ss, .inl (cI, 16, .inl (fun j => nI (st j)))), (a_rr, .inl (cI, 16, .inl rc)), (a_wn, .inl (cI, 16, .inl (fun j => nI (sn j)))), (a_cd, .inl (cI, 16, .inl cd))] sz) := by
  refine Met.ofW (cc := b_Dk_startAfresh) (maxL := 1) (ret := none) (by decide) rfl ?_
  intro p e s m args below meth c s₁ B hml hv
  obtain ⟨rfl, hsz, hP, hK, hD0⟩ := hv
  have hx := B.exec
  have hb := B.bytes
  have hr := B.returns
  have hts : ∀ w ∈ TT, w.before _ s = true := fun w h => atoms_spec (ws := (w_Dk_startAfresh)) B.pre w (List.mem_cons_of_mem _ h)
  have hown : s.vm.findClass R_Dk = some m.cls := findClass_of_methodNamed B.named
  have hlocks := B.notSynchronized
  subst hsz
  have hD := hD0.self (sz := s.heap.size)
  generalize hAe : va_A [(a_dk, .inr (3, [.ref a_ch, .ref a_cs, .ref a_ln, .ref a_ss, .ref a_rr, .ref a_wn, .ref a_cd, .int mt, .int ft])), (a_ch, .inr (1, [.ref a_rm, .ref a_hd, .ref a_sh, .ref a_vl, .int (nI n)])), (a_rm, .inl (cI, 40, .inl (fun j => nI (room j)))), (a_hd, .inl (cI, 40, .inl (fun j => nI (held j)))), (a_sh, .inl (cZ, 40, .inl (fun j => bI (shut j)))), (a_vl, .inl (cI, 320, .inl vals)), (a_cs, .inr (0, [.ref a_cn, .ref a_cc, .ref a_cw, .ref a_cv])), (a_cn, .inl (cI, 16, .inl (fun j => nI (cnum j)))), (a_cc, .inl (cI, 96, .inl (fun j => nI (cch j)))), (a_cw, .inl (cI, 96, .inl (fun j => nI (cway j)))), (a_cv, .inl (cI, 96, .inl cval)), (a_ln, .inr (2, [.ref a_mm, .int (nI len)])), (a_mm, .inl (cI, 16, .inl (fun j => nI (mem j)))), (a_ss, .inl (cI, 16, .inl (fun j => nI (st j)))), (a_rr, .inl (cI, 16, .inl rc)), (a_wn, .inl (cI, 16, .inl (fun j => nI (sn j)))), (a_cd, .inl (cI, 16, .inl cd))] s.heap.size = A at hD ⊢
  have hA : ∀ q : Nat, s.heap.size ≤ q → A q := fun q h => by rw [← hAe]; exact Or.inr h
  have hS : va_S A s.heap s.heap [] := va_S.rf
  have hP : va_P G vwCl [(a_dk, .inr (3, [.ref a_ch, .ref a_cs, .ref a_ln, .ref a_ss, .ref a_rr, .ref a_wn, .ref a_cd, .int mt, .int ft])), (a_ch, .inr (1, [.ref a_rm, .ref a_hd, .ref a_sh, .ref a_vl, .int (nI n)])), (a_rm, .inl (cI, 40, .inl (fun j => nI (room j)))), (a_hd, .inl (cI, 40, .inl (fun j => nI (held j)))), (a_sh, .inl (cZ, 40, .inl (fun j => bI (shut j)))), (a_vl, .inl (cI, 320, .inl vals)), (a_cs, .inr (0, [.ref a_cn, .ref a_cc, .ref a_cw, .ref a_cv])), (a_cn, .inl (cI, 16, .inl (fun j => nI (cnum j)))), (a_cc, .inl (cI, 96, .inl (fun j => nI (cch j)))), (a_cw, .inl (cI, 96, .inl (fun j => nI (cway j)))), (a_cv, .inl (cI, 96, .inl cval)), (a_ln, .inr (2, [.ref a_mm, .int (nI len)])), (a_mm, .inl (cI, 16, .inl (fun j => nI (mem j)))), (a_ss, .inl (cI, 16, .inl (fun j => nI (st j)))), (a_rr, .inl (cI, 16, .inl rc)), (a_wn, .inl (cI, 16, .inl (fun j => nI (sn j)))), (a_cd, .inl (cI, 16, .inl cd))] s.heap := hP
  have hl := lv_entry ([.ref a_dk]) (n := 1) (Nat.le_of_ble_eq_true rfl)
  rw [lg_entry_eq]
  generalize (lg_sl ([.ref a_dk]) ++ List.replicate (1 - (lg_sl ([.ref a_dk])).length) Slot.unset).toArray = ls at hl ⊢
  have hl : lv_has ls 1 [(0, .ref a_dk)] := hl
  refine lv_aload_n hx hb d_Dk_startAfresh_0 rfl (lv_at hl 0 rfl) ?_
  refine va_get (D := G) (ci := 3) (v := .ref a_ch) (C := R_Dk) (T := T_Dk) (N := 9) hx hb hts uw_Dk hown hK hP 0 rfl rfl 0 (by decide) (hts _ t_105) (fun _ h9 => h9) rfl d_Dk_startAfresh_1 ?_
  refine k_rwv (va_runV (As := []) (rest := []) ⟨hx, hb, hml, hown, hts⟩ (c_Ch_forgetAll l G cI cZ cJ s.heap.size a_ch a_rm a_hd a_sh a_vl n) (cwV 0 hts (gV t_89 t_90 t_91 t_33 t_92) rfl rfl rfl (by decide +kernel) ⟨Nat.le_of_ble_eq_true rfl, Nat.le_of_ble_eq_true rfl⟩) (kW_V (ci := 1) (q0 := 1) hK hP hD rfl rfl [1] rfl (by decide) rfl) rfl rfl hl.1 rfl (lv_room (Nat.le_of_ble_eq_true rfl)) d_Dk_startAfresh_4 ⟨Nat.le_of_ble_eq_true rfl, Nat.le_of_ble_eq_true rfl⟩) hP hD hS hA [1] rfl (fun _ => rfl) (fun u H locs hw hP hD hS => ?_)
  have hP : va_P G vwCl [(a_dk, .inr (3, [.ref a_ch, .ref a_cs, .ref a_ln, .ref a_ss, .ref a_rr, .ref a_wn, .ref a_cd, .int mt, .int ft])), (a_ch, .inr (1, [.ref a_rm, .ref a_hd, .ref a_sh, .ref a_vl, .int (nI 0)])), (a_rm, .inl (cI, 40, .inl (fun j => nI (room j)))), (a_hd, .inl (cI, 40, .inl (fun j => nI (held j)))), (a_sh, .inl (cZ, 40, .inl (fun j => bI (shut j)))), (a_vl, .inl (cI, 320, .inl vals)), (a_cs, .inr (0, [.ref a_cn, .ref a_cc, .ref a_cw, .ref a_cv])), (a_cn, .inl (cI, 16, .inl (fun j => nI (cnum j)))), (a_cc, .inl (cI, 96, .inl (fun j => nI (cch j)))), (a_cw, .inl (cI, 96, .inl (fun j => nI (cway j)))), (a_cv, .inl (cI, 96, .inl cval)), (a_ln, .inr (2, [.ref a_mm, .int (nI len)])), (a_mm, .inl (cI, 16, .inl (fun j => nI (mem j)))), (a_ss, .inl (cI, 16, .inl (fun j => nI (st j)))), (a_rr, .inl (cI, 16, .inl rc)), (a_wn, .inl (cI, 16, .inl (fun j => nI (sn j)))), (a_cd, .inl (cI, 16, .inl cd))] H := hP
  have hD : va_D A [(a_dk, .inr (3, [.ref a_ch, .ref a_cs, .ref a_ln, .ref a_ss, .ref a_rr, .ref a_wn, .ref a_cd, .int mt, .int ft])), (a_ch, .inr (1, [.ref a_rm, .ref a_hd, .ref a_sh, .ref a_vl, .int (nI 0)])), (a_rm, .inl (cI, 40, .inl (fun j => nI (room j)))), (a_hd, .inl (cI, 40, .inl (fun j => nI (held j)))), (a_sh, .inl (cZ, 40, .inl (fun j => bI (shut j)))), (a_vl, .inl (cI, 320, .inl vals)), (a_cs, .inr (0, [.ref a_cn, .ref a_cc, .ref a_cw, .ref a_cv])), (a_cn, .inl (cI, 16, .inl (fun j => nI (cnum j)))), (a_cc, .inl (cI, 96, .inl (fun j => nI (cch j)))), (a_cw, .inl (cI, 96, .inl (fun j => nI (cway j)))), (a_cv, .inl (cI, 96, .inl cval)), (a_ln, .inr (2, [.ref a_mm, .int (nI len)])), (a_mm, .inl (cI, 16, .inl (fun j => nI (mem j)))), (a_ss, .inl (cI, 16, .inl (fun j => nI (st j)))), (a_rr, .inl (cI, 16, .inl rc)), (a_wn, .inl (cI, 16, .inl (fun j => nI (sn j)))), (a_cd, .inl (cI, 16, .inl cd))] := hD
  refine lv_aload_n hx hb d_Dk_startAfresh_7 rfl (lv_at hl 0 rfl) ?_
  refine va_get (D := G) (ci := 3) (v := .ref a_cs) (C := R_Dk) (T := T_Dk) (N := 9) hx hb hts uw_Dk hown hK hP 0 rfl rfl 1 (by decide) (hts _ t_106) (fun _ h9 => h9) rfl d_Dk_startAfresh_8 ?_
  refine k_rwv (va_runV (As := []) (rest := []) ⟨hx, hb, hml, hown, hts⟩ (c_Cs_forgetAll l G cI cZ cJ H.size a_cs a_cn a_cc a_cw a_cv cnum) (cwV 0 hts (gV t_93 t_94 t_95 t_34 t_96) rfl rfl rfl (by decide +kernel) ⟨Nat.le_of_ble_eq_true rfl, Nat.le_of_ble_eq_true rfl⟩) (kW_V (ci := 0) (q0 := 6) hK hP hD rfl rfl [6, 7] rfl (by decide) rfl) rfl rfl hl.1 rfl (lv_room (Nat.le_of_ble_eq_true rfl)) d_Dk_startAfresh_11 ⟨Nat.le_of_ble_eq_true rfl, Nat.le_of_ble_eq_true rfl⟩) hP hD hS hA [6, 7] rfl (fun _ => rfl) (fun u H locs hw hP hD hS => ?_)
  have hP : va_P G vwCl [(a_dk, .inr (3, [.ref a_ch, .ref a_cs, .ref a_ln, .ref a_ss, .ref a_rr, .ref a_wn, .ref a_cd, .int mt, .int ft])), (a_ch, .inr (1, [.ref a_rm, .ref a_hd, .ref a_sh, .ref a_vl, .int (nI 0)])), (a_rm, .inl (cI, 40, .inl (fun j => nI (room j)))), (a_hd, .inl (cI, 40, .inl (fun j => nI (held j)))), (a_sh, .inl (cZ, 40, .inl (fun j => bI (shut j)))), (a_vl, .inl (cI, 320, .inl vals)), (a_cs, .inr (0, [.ref a_cn, .ref a_cc, .ref a_cw, .ref a_cv])), (a_cn, .inl (cI, 16, .inl (fun j => nI ((fl 16 0 cnum) j)))), (a_cc, .inl (cI, 96, .inl (fun j => nI (cch j)))), (a_cw, .inl (cI, 96, .inl (fun j => nI (cway j)))), (a_cv, .inl (cI, 96, .inl cval)), (a_ln, .inr (2, [.ref a_mm, .int (nI len)])), (a_mm, .inl (cI, 16, .inl (fun j => nI (mem j)))), (a_ss, .inl (cI, 16, .inl (fun j => nI (st j)))), (a_rr, .inl (cI, 16, .inl rc)), (a_wn, .inl (cI, 16, .inl (fun j => nI (sn j)))), (a_cd, .inl (cI, 16, .inl cd))] H := hP
  have hD : va_D A [(a_dk, .inr (3, [.ref a_ch, .ref a_cs, .ref a_ln, .ref a_ss, .ref a_rr, .ref a_wn, .ref a_cd, .int mt, .int ft])), (a_ch, .inr (1, [.ref a_rm, .ref a_hd, .ref a_sh, .ref a_vl, .int (nI 0)])), (a_rm, .inl (cI, 40, .inl (fun j => nI (room j)))), (a_hd, .inl (cI, 40, .inl (fun j => nI (held j)))), (a_sh, .inl (cZ, 40, .inl (fun j => bI (shut j)))), (a_vl, .inl (cI, 320, .inl vals)), (a_cs, .inr (0, [.ref a_cn, .ref a_cc, .ref a_cw, .ref a_cv])), (a_cn, .inl (cI, 16, .inl (fun j => nI ((fl 16 0 cnum) j)))), (a_cc, .inl (cI, 96, .inl (fun j => nI (cch j)))), (a_cw, .inl (cI, 96, .inl (fun j => nI (cway j)))), (a_cv, .inl (cI, 96, .inl cval)), (a_ln, .inr (2, [.ref a_mm, .int (nI len)])), (a_mm, .inl (cI, 16, .inl (fun j => nI (mem j)))), (a_ss, .inl (cI, 16, .inl (fun j => nI (st j)))), (a_rr, .inl (cI, 16, .inl rc)), (a_wn, .inl (cI, 16, .inl (fun j => nI (sn j)))), (a_cd, .inl (cI, 16, .inl cd))] := hD
  refine lv_aload_n hx hb d_Dk_startAfresh_14 rfl (lv_at hl 0 rfl) ?_
  refine va_get (D := G) (ci := 3) (v := .ref a_ln) (C := R_Dk) (T := T_Dk) (N := 9) hx hb hts uw_Dk hown hK hP 0 rfl rfl 2 (by decide) (hts _ t_107) (fun _ h9 => h9) rfl d_Dk_startAfresh_15 ?_
  refine k_rwv (va_runV (As := []) (rest := []) ⟨hx, hb, hml, hown, hts⟩ (c_Ln_empty l G cI cZ cJ H.size a_ln a_mm len) (cwV 0 hts (gV t_100 t_101 t_102 t_35 t_103) rfl rfl rfl (by decide +kernel) ⟨Nat.le_of_ble_eq_true rfl, Nat.le_of_ble_eq_true rfl⟩) (kW_V (ci := 2) (q0 := 11) hK hP hD rfl rfl [11] rfl (by decide) rfl) rfl rfl hl.1 rfl (lv_room (Nat.le_of_ble_eq_true rfl)) d_Dk_startAfresh_18 ⟨Nat.le_of_ble_eq_true rfl, Nat.le_of_ble_eq_true rfl⟩) hP hD hS hA [11] rfl (fun _ => rfl) (fun u H locs hw hP hD hS => ?_)
  have hP : va_P G vwCl [(a_dk, .inr (3, [.ref a_ch, .ref a_cs, .ref a_ln, .ref a_ss, .ref a_rr, .ref a_wn, .ref a_cd, .int mt, .int ft])), (a_ch, .inr (1, [.ref a_rm, .ref a_hd, .ref a_sh, .ref a_vl, .int (nI 0)])), (a_rm, .inl (cI, 40, .inl (fun j => nI (room j)))), (a_hd, .inl (cI, 40, .inl (fun j => nI (held j)))), (a_sh, .inl (cZ, 40, .inl (fun j => bI (shut j)))), (a_vl, .inl (cI, 320, .inl vals)), (a_cs, .inr (0, [.ref a_cn, .ref a_cc, .ref a_cw, .ref a_cv])), (a_cn, .inl (cI, 16, .inl (fun j => nI ((fl 16 0 cnum) j)))), (a_cc, .inl (cI, 96, .inl (fun j => nI (cch j)))), (a_cw, .inl (cI, 96, .inl (fun j => nI (cway j)))), (a_cv, .inl (cI, 96, .inl cval)), (a_ln, .inr (2, [.ref a_mm, .int (nI 0)])), (a_mm, .inl (cI, 16, .inl (fun j => nI (mem j)))), (a_ss, .inl (cI, 16, .inl (fun j => nI (st j)))), (a_rr, .inl (cI, 16, .inl rc)), (a_wn, .inl (cI, 16, .inl (fun j => nI (sn j)))), (a_cd, .inl (cI, 16, .inl cd))] H := hP
  have hD : va_D A [(a_dk, .inr (3, [.ref a_ch, .ref a_cs, .ref a_ln, .ref a_ss, .ref a_rr, .ref a_wn, .ref a_cd, .int mt, .int ft])), (a_ch, .inr (1, [.ref a_rm, .ref a_hd, .ref a_sh, .ref a_vl, .int (nI 0)])), (a_rm, .inl (cI, 40, .inl (fun j => nI (room j)))), (a_hd, .inl (cI, 40, .inl (fun j => nI (held j)))), (a_sh, .inl (cZ, 40, .inl (fun j => bI (shut j)))), (a_vl, .inl (cI, 320, .inl vals)), (a_cs, .inr (0, [.ref a_cn, .ref a_cc, .ref a_cw, .ref a_cv])), (a_cn, .inl (cI, 16, .inl (fun j => nI ((fl 16 0 cnum) j)))), (a_cc, .inl (cI, 96, .inl (fun j => nI (cch j)))), (a_cw, .inl (cI, 96, .inl (fun j => nI (cway j)))), (a_cv, .inl (cI, 96, .inl cval)), (a_ln, .inr (2, [.ref a_mm, .int (nI 0)])), (a_mm, .inl (cI, 16, .inl (fun j => nI (mem j)))), (a_ss, .inl (cI, 16, .inl (fun j => nI (st j)))), (a_rr, .inl (cI, 16, .inl rc)), (a_wn, .inl (cI, 16, .inl (fun j => nI (sn j)))), (a_cd, .inl (cI, 16, .inl cd))] := hD
  refine lv_aload_n hx hb d_Dk_startAfresh_21 rfl (lv_at hl 0 rfl) ?_
  refine va_get (D := G) (ci := 3) (v := .ref a_ss) (C := R_Dk) (T := T_Dk) (N := 9) hx hb hts uw_Dk hown hK hP 0 rfl rfl 3 (by decide) (hts _ t_108) (fun _ h9 => h9) rfl d_Dk_startAfresh_22 ?_
  refine lv_iconst (v := (nI 0)) hx hb d_Dk_startAfresh_25 (by decide +kernel) ?_
  refine k_rwv (va_runS (As := [.ref a_ss, .int (nI 0)]) (rest := []) ⟨hx, hb, hml, hown, hts⟩ (c_Ar_fillN l G cI cZ cJ H.size a_ss st 0) (va_cwS 2 hts (gS t_104 t_98 t_36 t_99) rfl rfl rfl (by decide +kernel) ⟨Nat.le_of_ble_eq_true rfl, Nat.le_of_ble_eq_true rfl⟩) (kW_S hK hP hD [13] rfl (by decide) rfl) rfl rfl hl.1 rfl (lv_room (Nat.le_of_ble_eq_true rfl)) d_Dk_startAfresh_26 ⟨Nat.le_of_ble_eq_true rfl, Nat.le_of_ble_eq_true rfl⟩) hP hD hS hA [13] rfl (fun _ => rfl) (fun u H locs hw hP hD hS => ?_)
  have hP : va_P G vwCl [(a_dk, .inr (3, [.ref a_ch, .ref a_cs, .ref a_ln, .ref a_ss, .ref a_rr, .ref a_wn, .ref a_cd, .int mt, .int ft])), (a_ch, .inr (1, [.ref a_rm, .ref a_hd, .ref a_sh, .ref a_vl, .int (nI 0)])), (a_rm, .inl (cI, 40, .inl (fun j => nI (room j)))), (a_hd, .inl (cI, 40, .inl (fun j => nI (held j)))), (a_sh, .inl (cZ, 40, .inl (fun j => bI (shut j)))), (a_vl, .inl (cI, 320, .inl vals)), (a_cs, .inr (0, [.ref a_cn, .ref a_cc, .ref a_cw, .ref a_cv])), (a_cn, .inl (cI, 16, .inl (fun j => nI ((fl 16 0 cnum) j)))), (a_cc, .inl (cI, 96, .inl (fun j => nI (cch j)))), (a_cw, .inl (cI, 96, .inl (fun j => nI (cway j)))), (a_cv, .inl (cI, 96, .inl cval)), (a_ln, .inr (2, [.ref a_mm, .int (nI 0)])), (a_mm, .inl (cI, 16, .inl (fun j => nI (mem j)))), (a_ss, .inl (cI, 16, .inl (fun j => nI ((fl 16 0 st) j)))), (a_rr, .inl (cI, 16, .inl rc)), (a_wn, .inl (cI, 16, .inl (fun j => nI (sn j)))), (a_cd, .inl (cI, 16, .inl cd))] H := hP
  have hD : va_D A [(a_dk, .inr (3, [.ref a_ch, .ref a_cs, .ref a_ln, .ref a_ss, .ref a_rr, .ref a_wn, .ref a_cd, .int mt, .int ft])), (a_ch, .inr (1, [.ref a_rm, .ref a_hd, .ref a_sh, .ref a_vl, .int (nI 0)])), (a_rm, .inl (cI, 40, .inl (fun j => nI (room j)))), (a_hd, .inl (cI, 40, .inl (fun j => nI (held j)))), (a_sh, .inl (cZ, 40, .inl (fun j => bI (shut j)))), (a_vl, .inl (cI, 320, .inl vals)), (a_cs, .inr (0, [.ref a_cn, .ref a_cc, .ref a_cw, .ref a_cv])), (a_cn, .inl (cI, 16, .inl (fun j => nI ((fl 16 0 cnum) j)))), (a_cc, .inl (cI, 96, .inl (fun j => nI (cch j)))), (a_cw, .inl (cI, 96, .inl (fun j => nI (cway j)))), (a_cv, .inl (cI, 96, .inl cval)), (a_ln, .inr (2, [.ref a_mm, .int (nI 0)])), (a_mm, .inl (cI, 16, .inl (fun j => nI (mem j)))), (a_ss, .inl (cI, 16, .inl (fun j => nI ((fl 16 0 st) j)))), (a_rr, .inl (cI, 16, .inl rc)), (a_wn, .inl (cI, 16, .inl (fun j => nI (sn j)))), (a_cd, .inl (cI, 16, .inl cd))] := hD
  refine lv_aload_n hx hb d_Dk_startAfresh_29 rfl (lv_at hl 0 rfl) ?_
  refine va_get (D := G) (ci := 3) (v := .ref a_rr) (C := R_Dk) (T := T_Dk) (N := 9) hx hb hts uw_Dk hown hK hP 0 rfl rfl 4 (by decide) (hts _ t_109) (fun _ h9 => h9) rfl d_Dk_startAfresh_30 ?_
  refine lv_iconst (v := (nI 0)) hx hb d_Dk_startAfresh_33 (by decide +kernel) ?_
  refine k_rwv (va_runS (As := [.ref a_rr, .int (nI 0)]) (rest := []) ⟨hx, hb, hml, hown, hts⟩ (c_Ar_fillI l G cI cZ cJ H.size a_rr rc (nI 0)) (va_cwS 2 hts (gS t_104 t_98 t_36 t_99) rfl rfl rfl (by decide +kernel) ⟨Nat.le_of_ble_eq_true rfl, Nat.le_of_ble_eq_true rfl⟩) (kW_S hK hP hD [14] rfl (by decide) rfl) rfl rfl hl.1 rfl (lv_room (Nat.le_of_ble_eq_true rfl)) d_Dk_startAfresh_34 ⟨Nat.le_of_ble_eq_true rfl, Nat.le_of_ble_eq_true rfl⟩) hP hD hS hA [14] rfl (fun _ => rfl) (fun u H locs hw hP hD hS => ?_)
  have hP : va_P G vwCl [(a_dk, .inr (3, [.ref a_ch, .ref a_cs, .ref a_ln, .ref a_ss, .ref a_rr, .ref a_wn, .ref a_cd, .int mt, .int ft])), (a_ch, .inr (1, [.ref a_rm, .ref a_hd, .ref a_sh, .ref a_vl, .int (nI 0)])), (a_rm, .inl (cI, 40, .inl (fun j => nI (room j)))), (a_hd, .inl (cI, 40, .inl (fun j => nI (held j)))), (a_sh, .inl (cZ, 40, .inl (fun j => bI (shut j)))), (a_vl, .inl (cI, 320, .inl vals)), (a_cs, .inr (0, [.ref a_cn, .ref a_cc, .ref a_cw, .ref a_cv])), (a_cn, .inl (cI, 16, .inl (fun j => nI ((fl 16 0 cnum) j)))), (a_cc, .inl (cI, 96, .inl (fun j => nI (cch j)))), (a_cw, .inl (cI, 96, .inl (fun j => nI (cway j)))), (a_cv, .inl (cI, 96, .inl cval)), (a_ln, .inr (2, [.ref a_mm, .int (nI 0)])), (a_mm, .inl (cI, 16, .inl (fun j => nI (mem j)))), (a_ss, .inl (cI, 16, .inl (fun j => nI ((fl 16 0 st) j)))), (a_rr, .inl (cI, 16, .inl (fl 16 (nI 0) rc))), (a_wn, .inl (cI, 16, .inl (fun j => nI (sn j)))), (a_cd, .inl (cI, 16, .inl cd))] H := hP
  have hD : va_D A [(a_dk, .inr (3, [.ref a_ch, .ref a_cs, .ref a_ln, .ref a_ss, .ref a_rr, .ref a_wn, .ref a_cd, .int mt, .int ft])), (a_ch, .inr (1, [.ref a_rm, .ref a_hd, .ref a_sh, .ref a_vl, .int (nI 0)])), (a_rm, .inl (cI, 40, .inl (fun j => nI (room j)))), (a_hd, .inl (cI, 40, .inl (fun j => nI (held j)))), (a_sh, .inl (cZ, 40, .inl (fun j => bI (shut j)))), (a_vl, .inl (cI, 320, .inl vals)), (a_cs, .inr (0, [.ref a_cn, .ref a_cc, .ref a_cw, .ref a_cv])), (a_cn, .inl (cI, 16, .inl (fun j => nI ((fl 16 0 cnum) j)))), (a_cc, .inl (cI, 96, .inl (fun j => nI (cch j)))), (a_cw, .inl (cI, 96, .inl (fun j => nI (cway j)))), (a_cv, .inl (cI, 96, .inl cval)), (a_ln, .inr (2, [.ref a_mm, .int (nI 0)])), (a_mm, .inl (cI, 16, .inl (fun j => nI (mem j)))), (a_ss, .inl (cI, 16, .inl (fun j => nI ((fl 16 0 st) j)))), (a_rr, .inl (cI, 16, .inl (fl 16 (nI 0) rc))), (a_wn, .inl (cI, 16, .inl (fun j => nI (sn j)))), (a_cd, .inl (cI, 16, .inl cd))] := hD
  refine lv_aload_n hx hb d_Dk_startAfresh_37 rfl (lv_at hl 0 rfl) ?_
  refine va_get (D := G) (ci := 3) (v := .ref a_wn) (C := R_Dk) (T := T_Dk) (N := 9) hx hb hts uw_Dk hown hK hP 0 rfl rfl 5 (by decide) (hts _ t_110) (fun _ h9 => h9) rfl d_Dk_startAfresh_38 ?_
  refine lv_iconst (v := (nI 0)) hx hb d_Dk_startAfresh_41 (by decide +kernel) ?_
  refine k_rwv (va_runS (As := [.ref a_wn, .int (nI 0)]) (rest := []) ⟨hx, hb, hml, hown, hts⟩ (c_Ar_fillN l G cI cZ cJ H.size a_wn sn 0) (va_cwS 2 hts (gS t_104 t_98 t_36 t_99) rfl rfl rfl (by decide +kernel) ⟨Nat.le_of_ble_eq_true rfl, Nat.le_of_ble_eq_true rfl⟩) (kW_S hK hP hD [15] rfl (by decide) rfl) rfl rfl hl.1 rfl (lv_room (Nat.le_of_ble_eq_true rfl)) d_Dk_startAfresh_42 ⟨Nat.le_of_ble_eq_true rfl, Nat.le_of_ble_eq_true rfl⟩) hP hD hS hA [15] rfl (fun _ => rfl) (fun u H locs hw hP hD hS => ?_)
  have hP : va_P G vwCl [(a_dk, .inr (3, [.ref a_ch, .ref a_cs, .ref a_ln, .ref a_ss, .ref a_rr, .ref a_wn, .ref a_cd, .int mt, .int ft])), (a_ch, .inr (1, [.ref a_rm, .ref a_hd, .ref a_sh, .ref a_vl, .int (nI 0)])), (a_rm, .inl (cI, 40, .inl (fun j => nI (room j)))), (a_hd, .inl (cI, 40, .inl (fun j => nI (held j)))), (a_sh, .inl (cZ, 40, .inl (fun j => bI (shut j)))), (a_vl, .inl (cI, 320, .inl vals)), (a_cs, .inr (0, [.ref a_cn, .ref a_cc, .ref a_cw, .ref a_cv])), (a_cn, .inl (cI, 16, .inl (fun j => nI ((fl 16 0 cnum) j)))), (a_cc, .inl (cI, 96, .inl (fun j => nI (cch j)))), (a_cw, .inl (cI, 96, .inl (fun j => nI (cway j)))), (a_cv, .inl (cI, 96, .inl cval)), (a_ln, .inr (2, [.ref a_mm, .int (nI 0)])), (a_mm, .inl (cI, 16, .inl (fun j => nI (mem j)))), (a_ss, .inl (cI, 16, .inl (fun j => nI ((fl 16 0 st) j)))), (a_rr, .inl (cI, 16, .inl (fl 16 (nI 0) rc))), (a_wn, .inl (cI, 16, .inl (fun j => nI ((fl 16 0 sn) j)))), (a_cd, .inl (cI, 16, .inl cd))] H := hP
  have hD : va_D A [(a_dk, .inr (3, [.ref a_ch, .ref a_cs, .ref a_ln, .ref a_ss, .ref a_rr, .ref a_wn, .ref a_cd, .int mt, .int ft])), (a_ch, .inr (1, [.ref a_rm, .ref a_hd, .ref a_sh, .ref a_vl, .int (nI 0)])), (a_rm, .inl (cI, 40, .inl (fun j => nI (room j)))), (a_hd, .inl (cI, 40, .inl (fun j => nI (held j)))), (a_sh, .inl (cZ, 40, .inl (fun j => bI (shut j)))), (a_vl, .inl (cI, 320, .inl vals)), (a_cs, .inr (0, [.ref a_cn, .ref a_cc, .ref a_cw, .ref a_cv])), (a_cn, .inl (cI, 16, .inl (fun j => nI ((fl 16 0 cnum) j)))), (a_cc, .inl (cI, 96, .inl (fun j => nI (cch j)))), (a_cw, .inl (cI, 96, .inl (fun j => nI (cway j)))), (a_cv, .inl (cI, 96, .inl cval)), (a_ln, .inr (2, [.ref a_mm, .int (nI 0)])), (a_mm, .inl (cI, 16, .inl (fun j => nI (mem j)))), (a_ss, .inl (cI, 16, .inl (fun j => nI ((fl 16 0 st) j)))), (a_rr, .inl (cI, 16, .inl (fl 16 (nI 0) rc))), (a_wn, .inl (cI, 16, .inl (fun j => nI ((fl 16 0 sn) j)))), (a_cd, .inl (cI, 16, .inl cd))] := hD
  refine lv_aload_n hx hb d_Dk_startAfresh_45 rfl (lv_at hl 0 rfl) ?_
  refine va_get (D := G) (ci := 3) (v := .ref a_cd) (C := R_Dk) (T := T_Dk) (N := 9) hx hb hts uw_Dk hown hK hP 0 rfl rfl 6 (by decide) (hts _ t_111) (fun _ h9 => h9) rfl d_Dk_startAfresh_46 ?_
  refine lv_iconst (v := (-1)) hx hb d_Dk_startAfresh_49 (by decide +kernel) ?_
  refine k_rwv (va_runS (As := [.ref a_cd, .int (-1)]) (rest := []) ⟨hx, hb, hml, hown, hts⟩ (c_Ar_fillI l G cI cZ cJ H.size a_cd cd (-1)) (va_cwS 2 hts (gS t_104 t_98 t_36 t_99) rfl rfl rfl (by decide +kernel) ⟨Nat.le_of_ble_eq_true rfl, Nat.le_of_ble_eq_true rfl⟩) (kW_S hK hP hD [16] rfl (by decide) rfl) rfl rfl hl.1 rfl (lv_room (Nat.le_of_ble_eq_true rfl)) d_Dk_startAfresh_50 ⟨Nat.le_of_ble_eq_true rfl, Nat.le_of_ble_eq_true rfl⟩) hP hD hS hA [16] rfl (fun _ => rfl) (fun u H locs hw hP hD hS => ?_)
  have hP : va_P G vwCl [(a_dk, .inr (3, [.ref a_ch, .ref a_cs, .ref a_ln, .ref a_ss, .ref a_rr, .ref a_wn, .ref a_cd, .int mt, .int ft])), (a_ch, .inr (1, [.ref a_rm, .ref a_hd, .ref a_sh, .ref a_vl, .int (nI 0)])), (a_rm, .inl (cI, 40, .inl (fun j => nI (room j)))), (a_hd, .inl (cI, 40, .inl (fun j => nI (held j)))), (a_sh, .inl (cZ, 40, .inl (fun j => bI (shut j)))), (a_vl, .inl (cI, 320, .inl vals)), (a_cs, .inr (0, [.ref a_cn, .ref a_cc, .ref a_cw, .ref a_cv])), (a_cn, .inl (cI, 16, .inl (fun j => nI ((fl 16 0 cnum) j)))), (a_cc, .inl (cI, 96, .inl (fun j => nI (cch j)))), (a_cw, .inl (cI, 96, .inl (fun j => nI (cway j)))), (a_cv, .inl (cI, 96, .inl cval)), (a_ln, .inr (2, [.ref a_mm, .int (nI 0)])), (a_mm, .inl (cI, 16, .inl (fun j => nI (mem j)))), (a_ss, .inl (cI, 16, .inl (fun j => nI ((fl 16 0 st) j)))), (a_rr, .inl (cI, 16, .inl (fl 16 (nI 0) rc))), (a_wn, .inl (cI, 16, .inl (fun j => nI ((fl 16 0 sn) j)))), (a_cd, .inl (cI, 16, .inl (fl 16 (-1) cd)))] H := hP
  have hD : va_D A [(a_dk, .inr (3, [.ref a_ch, .ref a_cs, .ref a_ln, .ref a_ss, .ref a_rr, .ref a_wn, .ref a_cd, .int mt, .int ft])), (a_ch, .inr (1, [.ref a_rm, .ref a_hd, .ref a_sh, .ref a_vl, .int (nI 0)])), (a_rm, .inl (cI, 40, .inl (fun j => nI (room j)))), (a_hd, .inl (cI, 40, .inl (fun j => nI (held j)))), (a_sh, .inl (cZ, 40, .inl (fun j => bI (shut j)))), (a_vl, .inl (cI, 320, .inl vals)), (a_cs, .inr (0, [.ref a_cn, .ref a_cc, .ref a_cw, .ref a_cv])), (a_cn, .inl (cI, 16, .inl (fun j => nI ((fl 16 0 cnum) j)))), (a_cc, .inl (cI, 96, .inl (fun j => nI (cch j)))), (a_cw, .inl (cI, 96, .inl (fun j => nI (cway j)))), (a_cv, .inl (cI, 96, .inl cval)), (a_ln, .inr (2, [.ref a_mm, .int (nI 0)])), (a_mm, .inl (cI, 16, .inl (fun j => nI (mem j)))), (a_ss, .inl (cI, 16, .inl (fun j => nI ((fl 16 0 st) j)))), (a_rr, .inl (cI, 16, .inl (fl 16 (nI 0) rc))), (a_wn, .inl (cI, 16, .inl (fun j => nI ((fl 16 0 sn) j)))), (a_cd, .inl (cI, 16, .inl (fl 16 (-1) cd)))] := hD
  refine lv_aload_n hx hb d_Dk_startAfresh_53 rfl (lv_at hl 0 rfl) ?_
  refine lv_iconst (v := (nI 0)) hx hb d_Dk_startAfresh_54 (by decide +kernel) ?_
  refine va_put (D := G) (ci := 3) (v := .int (nI 0)) (ty := .int) (C := R_Dk) (T := T_Dk) (N := 9) hx hb hts uw_Dk ty_Dk tyok_Dk nm_Dk hown hK hP hD hS 0 rfl rfl 7 (by decide) (hts _ t_112) (fun _ h9 => h9) rfl (by decide +kernel) rfl rfl (Nat.le_of_ble_eq_true rfl) d_Dk_startAfresh_55 (fun H locs hP hD hS => ?_)
  have hP : va_P G vwCl [(a_dk, .inr (3, [.ref a_ch, .ref a_cs, .ref a_ln, .ref a_ss, .ref a_rr, .ref a_wn, .ref a_cd, .int (nI 0), .int ft])), (a_ch, .inr (1, [.ref a_rm, .ref a_hd, .ref a_sh, .ref a_vl, .int (nI 0)])), (a_rm, .inl (cI, 40, .inl (fun j => nI (room j)))), (a_hd, .inl (cI, 40, .inl (fun j => nI (held j)))), (a_sh, .inl (cZ, 40, .inl (fun j => bI (shut j)))), (a_vl, .inl (cI, 320, .inl vals)), (a_cs, .inr (0, [.ref a_cn, .ref a_cc, .ref a_cw, .ref a_cv])), (a_cn, .inl (cI, 16, .inl (fun j => nI ((fl 16 0 cnum) j)))), (a_cc, .inl (cI, 96, .inl (fun j => nI (cch j)))), (a_cw, .inl (cI, 96, .inl (fun j => nI (cway j)))), (a_cv, .inl (cI, 96, .inl cval)), (a_ln, .inr (2, [.ref a_mm, .int (nI 0)])), (a_mm, .inl (cI, 16, .inl (fun j => nI (mem j)))), (a_ss, .inl (cI, 16, .inl (fun j => nI ((fl 16 0 st) j)))), (a_rr, .inl (cI, 16, .inl (fl 16 (nI 0) rc))), (a_wn, .inl (cI, 16, .inl (fun j => nI ((fl 16 0 sn) j)))), (a_cd, .inl (cI, 16, .inl (fl 16 (-1) cd)))] H := hP
  have hD : va_D A [(a_dk, .inr (3, [.ref a_ch, .ref a_cs, .ref a_ln, .ref a_ss, .ref a_rr, .ref a_wn, .ref a_cd, .int (nI 0), .int ft])), (a_ch, .inr (1, [.ref a_rm, .ref a_hd, .ref a_sh, .ref a_vl, .int (nI 0)])), (a_rm, .inl (cI, 40, .inl (fun j => nI (room j)))), (a_hd, .inl (cI, 40, .inl (fun j => nI (held j)))), (a_sh, .inl (cZ, 40, .inl (fun j => bI (shut j)))), (a_vl, .inl (cI, 320, .inl vals)), (a_cs, .inr (0, [.ref a_cn, .ref a_cc, .ref a_cw, .ref a_cv])), (a_cn, .inl (cI, 16, .inl (fun j => nI ((fl 16 0 cnum) j)))), (a_cc, .inl (cI, 96, .inl (fun j => nI (cch j)))), (a_cw, .inl (cI, 96, .inl (fun j => nI (cway j)))), (a_cv, .inl (cI, 96, .inl cval)), (a_ln, .inr (2, [.ref a_mm, .int (nI 0)])), (a_mm, .inl (cI, 16, .inl (fun j => nI (mem j)))), (a_ss, .inl (cI, 16, .inl (fun j => nI ((fl 16 0 st) j)))), (a_rr, .inl (cI, 16, .inl (fl 16 (nI 0) rc))), (a_wn, .inl (cI, 16, .inl (fun j => nI ((fl 16 0 sn) j)))), (a_cd, .inl (cI, 16, .inl (fl 16 (-1) cd)))] := hD
  refine lv_aload_n hx hb d_Dk_startAfresh_58 rfl (lv_at hl 0 rfl) ?_
  refine lv_iconst (v := (nI 0)) hx hb d_Dk_startAfresh_59 (by decide +kernel) ?_
  refine va_put (D := G) (ci := 3) (v := .int (nI 0)) (ty := .int) (C := R_Dk) (T := T_Dk) (N := 9) hx hb hts uw_Dk ty_Dk tyok_Dk nm_Dk hown hK hP hD hS 0 rfl rfl 8 (by decide) (hts _ t_113) (fun _ h9 => h9) rfl (by decide +kernel) rfl rfl (Nat.le_of_ble_eq_true rfl) d_Dk_startAfresh_60 (fun H locs hP hD hS => ?_)
  have hP : va_P G vwCl [(a_dk, .inr (3, [.ref a_ch, .ref a_cs, .ref a_ln, .ref a_ss, .ref a_rr, .ref a_wn, .ref a_cd, .int (nI 0), .int (nI 0)])), (a_ch, .inr (1, [.ref a_rm, .ref a_hd, .ref a_sh, .ref a_vl, .int (nI 0)])), (a_rm, .inl (cI, 40, .inl (fun j => nI (room j)))), (a_hd, .inl (cI, 40, .inl (fun j => nI (held j)))), (a_sh, .inl (cZ, 40, .inl (fun j => bI (shut j)))), (a_vl, .inl (cI, 320, .inl vals)), (a_cs, .inr (0, [.ref a_cn, .ref a_cc, .ref a_cw, .ref a_cv])), (a_cn, .inl (cI, 16, .inl (fun j => nI ((fl 16 0 cnum) j)))), (a_cc, .inl (cI, 96, .inl (fun j => nI (cch j)))), (a_cw, .inl (cI, 96, .inl (fun j => nI (cway j)))), (a_cv, .inl (cI, 96, .inl cval)), (a_ln, .inr (2, [.ref a_mm, .int (nI 0)])), (a_mm, .inl (cI, 16, .inl (fun j => nI (mem j)))), (a_ss, .inl (cI, 16, .inl (fun j => nI ((fl 16 0 st) j)))), (a_rr, .inl (cI, 16, .inl (fl 16 (nI 0) rc))), (a_wn, .inl (cI, 16, .inl (fun j => nI ((fl 16 0 sn) j)))), (a_cd, .inl (cI, 16, .inl (fl 16 (-1) cd)))] H := hP
  have hD : va_D A [(a_dk, .inr (3, [.ref a_ch, .ref a_cs, .ref a_ln, .ref a_ss, .ref a_rr, .ref a_wn, .ref a_cd, .int (nI 0), .int (nI 0)])), (a_ch, .inr (1, [.ref a_rm, .ref a_hd, .ref a_sh, .ref a_vl, .int (nI 0)])), (a_rm, .inl (cI, 40, .inl (fun j => nI (room j)))), (a_hd, .inl (cI, 40, .inl (fun j => nI (held j)))), (a_sh, .inl (cZ, 40, .inl (fun j => bI (shut j)))), (a_vl, .inl (cI, 320, .inl vals)), (a_cs, .inr (0, [.ref a_cn, .ref a_cc, .ref a_cw, .ref a_cv])), (a_cn, .inl (cI, 16, .inl (fun j => nI ((fl 16 0 cnum) j)))), (a_cc, .inl (cI, 96, .inl (fun j => nI (cch j)))), (a_cw, .inl (cI, 96, .inl (fun j => nI (cway j)))), (a_cv, .inl (cI, 96, .inl cval)), (a_ln, .inr (2, [.ref a_mm, .int (nI 0)])), (a_mm, .inl (cI, 16, .inl (fun j => nI (mem j)))), (a_ss, .inl (cI, 16, .inl (fun j => nI ((fl 16 0 st) j)))), (a_rr, .inl (cI, 16, .inl (fl 16 (nI 0) rc))), (a_wn, .inl (cI, 16, .inl (fun j => nI ((fl 16 0 sn) j)))), (a_cd, .inl (cI, 16, .inl (fl 16 (-1) cd)))] := hD
  exact k_wv hx hb hr hlocks hP hS () (rfl) (trivial) d_Dk_startAfresh_63
set_option maxHeartbeats 4000000 in
set_option maxRecDepth 100000 in
theorem c_Dk_clear (l : Launch) (G : va_G) (cI cZ cJ : ClassId) (sz : Nat) (a_dk : Nat) (a_ch : Nat) (a_cs : Nat) (a_ln : Nat) (a_ss : Nat) (a_rr : Nat) (a_wn : Nat) (a_cd : Nat) (a_rm : Nat) (a_hd : Nat) (a_sh : Nat) (a_vl : Nat) (a_cn : Nat) (a_cc : Nat) (a_cw : Nat) (a_cv : Nat) (a_mm : Nat) (mt : Int32) (ft : Int32) (n : Nat) (room : Nat → Nat) (held : Nat → Nat) (shut : Nat → Bool) (vals : Nat → Int32) (cnum : Nat → Nat) (cch : Nat → Nat) (cway : Nat → Nat) (cval : Nat → Int32) (len : Nat) (mem : Nat → Nat) (st : Nat → Nat) (rc : Nat → Int32) (sn : Nat → Nat) (cd : Nat → Int32) (L : Nat → List Int32) (cs : Nat → List Kase) (line : List Nat) (hI : DI n room held vals cnum cch cway cval len mem st L cs line) : Met l y_Dk_clear (w_Dk_clear) ({ frames := 3, cells := 0, slots := 0, locals := 63 }) (va_Pc [.ref a_dk] (kW G vwCl [(cI, .int), (cZ, .boolean), (cJ, .long)] [(a_dk, .inr (3, [.ref a_ch, .ref a_cs, .ref a_ln, .ref a_ss, .ref a_rr, .ref a_wn, .ref a_cd, .int mt, .int ft])), (a_ch, .inr (1, [.ref a_rm, .ref a_hd, .ref a_sh, .ref a_vl, .int (nI n)])), (a_rm, .inl (cI, 40, .inl (fun j => nI (room j)))), (a_hd, .inl (cI, 40, .inl (fun j => nI (held j)))), (a_sh, .inl (cZ, 40, .inl (fun j => bI (shut j)))), (a_vl, .inl (cI, 320, .inl vals)), (a_cs, .inr (0, [.ref a_cn, .ref a_cc, .ref a_cw, .ref a_cv])), (a_cn, .inl (cI, 16, .inl (fun j => nI (cnum j)))), (a_cc, .inl (cI, 96, .inl (fun j => nI (cch j)))), (a_cw, .inl (cI, 96, .inl (fun j => nI (cway j)))), (a_cv, .inl (cI, 96, .inl cval)), (a_ln, .inr (2, [.ref a_mm, .int (nI len)])), (a_mm, .inl (cI, 16, .inl (fun j => nI (mem j)))), (a_ss, .inl (cI, 16, .inl (fun j => nI (st j)))), (a_rr, .inl (cI, 16, .inl rc)), (a_wn, .inl (cI, 16, .inl (fun j => nI (sn j)))), (a_cd, .inl (cI, 16, .inl cd))] sz)) (va_Qi (fun (r : Int32) (u : Nat × (Nat → Nat) × (Nat → Nat) × (Nat → Bool) × (Nat → Int32) × (Nat → Nat) × (Nat → Nat) × (Nat → Nat) × (Nat → Int32) × Nat × (Nat → Nat) × (Nat → Nat) × (Nat → Int32) × (Nat → Nat) × (Nat → Int32) × Int32 × Int32 × (Nat → List Int32) × (Nat → List Kase) × List Nat) => M_clear (n, room, shut, L, cs, line, st, rc, sn, cd, mt, ft) = ((u.1, u.2.1, u.2.2.2.1, u.2.2.2.2.2.2.2.2.2.2.2.2.2.2.2.2.2.1, u.2.2.2.2.2.2.2.2.2.2.2.2.2.2.2.2.2.2.1, u.2.2.2.2.2.2.2.2.2.2.2.2.2.2.2.2.2.2.2, u.2.2.2.2.2.2.2.2.2.2.2.1, u.2.2.2.2.2.2.2.2.2.2.2.2.1, u.2.2.2.2.2.2.2.2.2.2.2.2.2.1, u.2.2.2.2.2.2.2.2.2.2.2.2.2.2.1, u.2.2.2.2.2.2.2.2.2.2.2.2.2.2.2.1, u.2.2.2.2.2.2.2.2.2.2.2.2.2.2.2.2.1), r) ∧ DI u.1 u.2.1 u.2.2.1 u.2.2.2.2.1 u.2.2.2.2.2.1 u.2.2.2.2.2.2.1 u.2.2.2.2.2.2.2.1 u.2.2.2.2.2.2.2.2.1 u.2.2.2.2.2.2.2.2.2.1 u.2.2.2.2.2.2.2.2.2.2.1 u.2.2.2.2.2.2.2.2.2.2.2.1 u.2.2.2.2.2.2.2.2.2.2.2.2.2.2.2.2.2.1 u.2.2.2.2.2.2.2.2.2.2.2.2.2.2.2.2.2.2.1 u.2.2.2.2.2.2.2.2.2.2.2.2.2.2.2.2.2.2.2) (fun u t => va_P G vwCl [(a_dk, .inr (3, [.ref a_ch, .ref a_cs, .ref a_ln, .ref a_ss, .ref a_rr, .ref a_wn, .ref a_cd, .int u.2.2.2.2.2.2.2.2.2.2.2.2.2.2.2.1, .int u.2.2.2.2.2.2.2.2.2.2.2.2.2.2.2.2.1])), (a_ch, .inr (1, [.ref a_rm, .ref a_hd, .ref a_sh, .ref a_vl, .int (nI u.1)])), (a_rm, .inl (cI, 40, .inl (fun j => nI (u.2.1 j)))), (a_hd, .inl (cI, 40, .inl (fun j => nI (u.2.2.1 j)))), (a_sh, .inl (cZ, 40, .inl (fun j => bI (u.2.2.2.1 j)))), (a_vl, .inl (cI, 320, .inl u.2.2.2.2.1)), (a_cs, .inr (0, [.ref a_cn, .ref a_cc, .ref a_cw, .ref a_cv])), (a_cn, .inl (cI, 16, .inl (fun j => nI (u.2.2.2.2.2.1 j)))), (a_cc, .inl (cI, 96, .inl (fun j => nI (u.2.2.2.2.2.2.1 j)))), (a_cw, .inl (cI, 96, .inl (fun j => nI (u.2.2.2.2.2.2.2.1 j)))), (a_cv, .inl (cI, 96, .inl u.2.2.2.2.2.2.2.2.1)), (a_ln, .inr (2, [.ref a_mm, .int (nI u.2.2.2.2.2.2.2.2.2.1)])), (a_mm, .inl (cI, 16, .inl (fun j => nI (u.2.2.2.2.2.2.2.2.2.2.1 j)))), (a_ss, .inl (cI, 16, .inl (fun j => nI (u.2.2.2.2.2.2.2.2.2.2.2.1 j)))), (a_rr, .inl (cI, 16, .inl u.2.2.2.2.2.2.2.2.2.2.2.2.1)), (a_wn, .inl (cI, 16, .inl (fun j => nI (u.2.2.2.2.2.2.2.2.2.2.2.2.2.1 j)))), (a_cd, .inl (cI, 16, .inl u.2.2.2.2.2.2.2.2.2.2.2.2.2.2.1))] t.heap) (va_A [(a_dk, .inr (3, [.ref a_ch, .ref a_cs, .ref a_ln, .ref a_ss, .ref a_rr, .ref a_wn, .ref a_cd, .int mt, .int ft])), (a_ch, .inr (1, [.ref a_rm, .ref a_hd, .ref a_sh, .ref a_vl, .int (nI n)])), (a_rm, .inl (cI, 40, .inl (fun j => nI (room j)))), (a_hd, .inl (cI, 40, .inl (fun j => nI (held j)))), (a_sh, .inl (cZ, 40, .inl (fun j => bI (shut j)))), (a_vl, .inl (cI, 320, .inl vals)), (a_cs, .inr (0, [.ref a_cn, .ref a_cc, .ref a_cw, .ref a_cv])), (a_cn, .inl (cI, 16, .inl (fun j => nI (cnum j)))), (a_cc, .inl (cI, 96, .inl (fun j => nI (cch j)))), (a_cw, .inl (cI, 96, .inl (fun j => nI (cway j)))), (a_cv, .inl (cI, 96, .inl cval)), (a_ln, .inr (2, [.ref a_mm, .int (nI len)])), (a_mm, .inl (cI, 16, .inl (fun j => nI (mem j)))), (a_ss, .inl (cI, 16, .inl (fun j => nI (st j)))), (a_rr, .inl (cI, 16, .inl rc)), (a_wn, .inl (cI, 16, .inl (fun j => nI (sn j)))), (a_cd, .inl (cI, 16, .inl cd))] sz)) 0 0 (va_A [(a_dk, .inr (3, [.ref a_ch, .ref a_cs, .ref a_ln, .ref a_ss, .ref a_rr, .ref a_wn, .ref a_cd, .int mt, .int ft])), (a_ch, .inr (1, [.ref a_rm, .ref a_hd, .ref a_sh, .ref a_vl, .int (nI n)])), (a_rm, .inl (cI, 40, .inl (fun j => nI (room j)))), (a_hd, .inl (cI, 40, .inl (fun j => nI (held j)))), (a_sh, .inl (cZ, 40, .inl (fun j => bI (shut j)))), (a_vl, .inl (cI, 320, .inl vals)), (a_cs, .inr (0, [.ref a_cn, .ref a_cc, .ref a_cw, .ref a_cv])), (a_cn, .inl (cI, 16, .inl (fun j => nI (cnum j)))), (a_cc, .inl (cI, 96, .inl (fun j => nI (cch j)))), (a_cw, .inl (cI, 96, .inl (fun j => nI (cway j)))), (a_cv, .inl (cI, 96, .inl cval)), (a_ln, .inr (2, [.ref a_mm, .int (nI len)])), (a_mm, .inl (cI, 16, .inl (fun j => nI (mem j)))), (a_ss, .inl (cI, 16, .inl (fun j => nI (st j)))), (a_rr, .inl (cI, 16, .inl rc)), (a_wn, .inl (cI, 16, .inl (fun j => nI (sn j)))), (a_cd, .inl (cI, 16, .inl cd))] sz) := by
  refine Met.ofW (cc := b_Dk_clear) (maxL := 2) (ret := (some .int)) (by decide) rfl ?_
  intro p e s m args below meth c s₁ B hml hv
  obtain ⟨rfl, hsz, hP, hK, hD0⟩ := hv
  have hx := B.exec
  have hb := B.bytes
  have hr := B.returns
  have hts : ∀ w ∈ TT, w.before _ s = true := fun w h => atoms_spec (ws := (w_Dk_clear)) B.pre w (List.mem_cons_of_mem _ h)
  have hown : s.vm.findClass R_Dk = some m.cls := findClass_of_methodNamed B.named
  have hlocks := B.notSynchronized
  subst hsz
  have hD := hD0.self (sz := s.heap.size)
  generalize hAe : va_A [(a_dk, .inr (3, [.ref a_ch, .ref a_cs, .ref a_ln, .ref a_ss, .ref a_rr, .ref a_wn, .ref a_cd, .int mt, .int ft])), (a_ch, .inr (1, [.ref a_rm, .ref a_hd, .ref a_sh, .ref a_vl, .int (nI n)])), (a_rm, .inl (cI, 40, .inl (fun j => nI (room j)))), (a_hd, .inl (cI, 40, .inl (fun j => nI (held j)))), (a_sh, .inl (cZ, 40, .inl (fun j => bI (shut j)))), (a_vl, .inl (cI, 320, .inl vals)), (a_cs, .inr (0, [.ref a_cn, .ref a_cc, .ref a_cw, .ref a_cv])), (a_cn, .inl (cI, 16, .inl (fun j => nI (cnum j)))), (a_cc, .inl (cI, 96, .inl (fun j => nI (cch j)))), (a_cw, .inl (cI, 96, .inl (fun j => nI (cway j)))), (a_cv, .inl (cI, 96, .inl cval)), (a_ln, .inr (2, [.ref a_mm, .int (nI len)])), (a_mm, .inl (cI, 16, .inl (fun j => nI (mem j)))), (a_ss, .inl (cI, 16, .inl (fun j => nI (st j)))), (a_rr, .inl (cI, 16, .inl rc)), (a_wn, .inl (cI, 16, .inl (fun j => nI (sn j)))), (a_cd, .inl (cI, 16, .inl cd))] s.heap.size = A at hD ⊢
  have hA : ∀ q : Nat, s.heap.size ≤ q → A q := fun q h => by rw [← hAe]; exact Or.inr h
  have hS : va_S A s.heap s.heap [] := va_S.rf
  have hP : va_P G vwCl [(a_dk, .inr (3, [.ref a_ch, .ref a_cs, .ref a_ln, .ref a_ss, .ref a_rr, .ref a_wn, .ref a_cd, .int mt, .int ft])), (a_ch, .inr (1, [.ref a_rm, .ref a_hd, .ref a_sh, .ref a_vl, .int (nI n)])), (a_rm, .inl (cI, 40, .inl (fun j => nI (room j)))), (a_hd, .inl (cI, 40, .inl (fun j => nI (held j)))), (a_sh, .inl (cZ, 40, .inl (fun j => bI (shut j)))), (a_vl, .inl (cI, 320, .inl vals)), (a_cs, .inr (0, [.ref a_cn, .ref a_cc, .ref a_cw, .ref a_cv])), (a_cn, .inl (cI, 16, .inl (fun j => nI (cnum j)))), (a_cc, .inl (cI, 96, .inl (fun j => nI (cch j)))), (a_cw, .inl (cI, 96, .inl (fun j => nI (cway j)))), (a_cv, .inl (cI, 96, .inl cval)), (a_ln, .inr (2, [.ref a_mm, .int (nI len)])), (a_mm, .inl (cI, 16, .inl (fun j => nI (mem j)))), (a_ss, .inl (cI, 16, .inl (fun j => nI (st j)))), (a_rr, .inl (cI, 16, .inl rc)), (a_wn, .inl (cI, 16, .inl (fun j => nI (sn j)))), (a_cd, .inl (cI, 16, .inl cd))] s.heap := hP
  have hl := lv_entry ([.ref a_dk]) (n := 2) (Nat.le_of_ble_eq_true rfl)
  rw [lg_entry_eq]
  generalize (lg_sl ([.ref a_dk]) ++ List.replicate (2 - (lg_sl ([.ref a_dk])).length) Slot.unset).toArray = ls at hl ⊢
  have hl : lv_has ls 2 [(0, .ref a_dk)] := hl
  obtain ⟨hn, hrm, hV, hC, hL, hst⟩ := hI
  refine lv_aload_n hx hb d_Dk_clear_0 rfl (lv_at hl 0 rfl) ?_
  refine va_get (D := G) (ci := 3) (v := .ref a_ch) (C := R_Dk) (T := T_Dk) (N := 9) hx hb hts uw_Dk hown hK hP 0 rfl rfl 0 (by decide) (hts _ t_105) (fun _ h9 => h9) rfl d_Dk_clear_1 ?_
  refine k_ro (va_runV (As := []) (rest := []) ⟨hx, hb, hml, hown, hts⟩ (c_Ch_number l G cI cZ cJ a_ch a_rm a_hd a_sh a_vl n) (cwV 0 hts (gV t_323 t_324 t_325 t_33 t_326) rfl rfl rfl (by decide +kernel) ⟨Nat.le_of_ble_eq_true rfl, Nat.le_of_ble_eq_true rfl⟩) (kR_V (ci := 1) (q0 := 1) hK hP rfl rfl [1] rfl) rfl rfl hl.1 rfl (lv_room (Nat.le_of_ble_eq_true rfl)) d_Dk_clear_4 ⟨Nat.le_of_ble_eq_true rfl, Nat.le_of_ble_eq_true rfl⟩) ?_
  refine lv_istore_n (lv' := [(1, .int (nI n)), (0, .ref a_dk)]) hx hb d_Dk_clear_7 rfl hl (by decide) rfl (fun ls hl => ?_)
  refine lv_aload_n hx hb d_Dk_clear_8 rfl (lv_at hl 1 rfl) ?_
  refine k_rwv (va_runV (As := []) (rest := []) ⟨hx, hb, hml, hown, hts⟩ (c_Dk_startAfresh l G cI cZ cJ s.heap.size a_dk a_ch a_cs a_ln a_ss a_rr a_wn a_cd a_rm a_hd a_sh a_vl a_cn a_cc a_cw a_cv a_mm mt ft n room held shut vals cnum cch cway cval len mem st rc sn cd) (cwV 0 hts (gV t_86 t_87 t_0 t_32 t_88) rfl rfl rfl (by decide +kernel) ⟨Nat.le_of_ble_eq_true rfl, Nat.le_of_ble_eq_true rfl⟩) (kW_V (ci := 3) (q0 := 0) hK hP hD rfl rfl [0, 1, 2, 3, 4, 5, 6, 7, 8, 9, 10, 11, 12, 13, 14, 15, 16] rfl (by decide) rfl) rfl rfl hl.1 rfl (lv_room (Nat.le_of_ble_eq_true rfl)) d_Dk_clear_9 ⟨Nat.le_of_ble_eq_true rfl, Nat.le_of_ble_eq_true rfl⟩) hP hD hS hA [0, 1, 2, 3, 4, 5, 6, 7, 8, 9, 10, 11, 12, 13, 14, 15, 16] rfl (fun _ => rfl) (fun u H locs hw hP hD hS => ?_)
  have hP : va_P G vwCl [(a_dk, .inr (3, [.ref a_ch, .ref a_cs, .ref a_ln, .ref a_ss, .ref a_rr, .ref a_wn, .ref a_cd, .int (nI 0), .int (nI 0)])), (a_ch, .inr (1, [.ref a_rm, .ref a_hd, .ref a_sh, .ref a_vl, .int (nI 0)])), (a_rm, .inl (cI, 40, .inl (fun j => nI (room j)))), (a_hd, .inl (cI, 40, .inl (fun j => nI (held j)))), (a_sh, .inl (cZ, 40, .inl (fun j => bI (shut j)))), (a_vl, .inl (cI, 320, .inl vals)), (a_cs, .inr (0, [.ref a_cn, .ref a_cc, .ref a_cw, .ref a_cv])), (a_cn, .inl (cI, 16, .inl (fun j => nI ((fl 16 0 cnum) j)))), (a_cc, .inl (cI, 96, .inl (fun j => nI (cch j)))), (a_cw, .inl (cI, 96, .inl (fun j => nI (cway j)))), (a_cv, .inl (cI, 96, .inl cval)), (a_ln, .inr (2, [.ref a_mm, .int (nI 0)])), (a_mm, .inl (cI, 16, .inl (fun j => nI (mem j)))), (a_ss, .inl (cI, 16, .inl (fun j => nI ((fl 16 0 st) j)))), (a_rr, .inl (cI, 16, .inl (fl 16 (nI 0) rc))), (a_wn, .inl (cI, 16, .inl (fun j => nI ((fl 16 0 sn) j)))), (a_cd, .inl (cI, 16, .inl (fl 16 (-1) cd)))] H := hP
  have hD : va_D A [(a_dk, .inr (3, [.ref a_ch, .ref a_cs, .ref a_ln, .ref a_ss, .ref a_rr, .ref a_wn, .ref a_cd, .int (nI 0), .int (nI 0)])), (a_ch, .inr (1, [.ref a_rm, .ref a_hd, .ref a_sh, .ref a_vl, .int (nI 0)])), (a_rm, .inl (cI, 40, .inl (fun j => nI (room j)))), (a_hd, .inl (cI, 40, .inl (fun j => nI (held j)))), (a_sh, .inl (cZ, 40, .inl (fun j => bI (shut j)))), (a_vl, .inl (cI, 320, .inl vals)), (a_cs, .inr (0, [.ref a_cn, .ref a_cc, .ref a_cw, .ref a_cv])), (a_cn, .inl (cI, 16, .inl (fun j => nI ((fl 16 0 cnum) j)))), (a_cc, .inl (cI, 96, .inl (fun j => nI (cch j)))), (a_cw, .inl (cI, 96, .inl (fun j => nI (cway j)))), (a_cv, .inl (cI, 96, .inl cval)), (a_ln, .inr (2, [.ref a_mm, .int (nI 0)])), (a_mm, .inl (cI, 16, .inl (fun j => nI (mem j)))), (a_ss, .inl (cI, 16, .inl (fun j => nI ((fl 16 0 st) j)))), (a_rr, .inl (cI, 16, .inl (fl 16 (nI 0) rc))), (a_wn, .inl (cI, 16, .inl (fun j => nI ((fl 16 0 sn) j)))), (a_cd, .inl (cI, 16, .inl (fl 16 (-1) cd)))] := hD
  refine lv_iload_n hx hb d_Dk_clear_12 rfl (lv_at hl 0 rfl) ?_
  exact k_wi hx hb hr hlocks hP hS (0, room, held, shut, vals, fl 16 0 cnum, cch, cway, cval, 0, mem, fl 16 0 st, fl 16 (nI 0) rc, fl 16 0 sn, fl 16 (-1) cd, nI 0, nI 0, L, fl 16 [] cs, []) (rfl) (⟨rfl, Nat.zero_le _, hrm, hV, hC.clr, RelL.clr mem, fl_lt st⟩) d_Dk_clear_13
set_option maxHeartbeats 4000000 in
set_option maxRecDepth 100000 in
theorem c_Dk_make (l : Launch) (G : va_G) (cI cZ cJ : ClassId) (sz : Nat) (a_dk : Nat) (a_ch : Nat) (a_cs : Nat) (a_ln : Nat) (a_ss : Nat) (a_rr : Nat) (a_wn : Nat) (a_cd : Nat) (a_rm : Nat) (a_hd : Nat) (a_sh : Nat) (a_vl : Nat) (a_cn : Nat) (a_cc : Nat) (a_cw : Nat) (a_cv : Nat) (a_mm : Nat) (mt : Int32) (ft : Int32) (n : Nat) (room : Nat → Nat) (held : Nat → Nat) (shut : Nat → Bool) (vals : Nat → Int32) (cnum : Nat → Nat) (cch : Nat → Nat) (cway : Nat → Nat) (cval : Nat → Int32) (len : Nat) (mem : Nat → Nat) (st : Nat → Nat) (rc : Nat → Int32) (sn : Nat → Nat) (cd : Nat → Int32) (L : Nat → List Int32) (cs : Nat → List Kase) (line : List Nat) (y : Int32) (hI : DI n room held vals cnum cch cway cval len mem st L cs line) : Met l y_Dk_make (w_Dk_make) ({ frames := 1, cells := 0, slots := 0, locals := 22 }) (va_Pc [.ref a_dk, .int y] (kW G vwCl [(cI, .int), (cZ, .boolean), (cJ, .long)] [(a_dk, .inr (3, [.ref a_ch, .ref a_cs, .ref a_ln, .ref a_ss, .ref a_rr, .ref a_wn, .ref a_cd, .int mt, .int ft])), (a_ch, .inr (1, [.ref a_rm, .ref a_hd, .ref a_sh, .ref a_vl, .int (nI n)])), (a_rm, .inl (cI, 40, .inl (fun j => nI (room j)))), (a_hd, .inl (cI, 40, .inl (fun j => nI (held j)))), (a_sh, .inl (cZ, 40, .inl (fun j => bI (shut j)))), (a_vl, .inl (cI, 320, .inl vals)), (a_cs, .inr (0, [.ref a_cn, .ref a_cc, .ref a_cw, .ref a_cv])), (a_cn, .inl (cI, 16, .inl (fun j => nI (cnum j)))), (a_cc, .inl (cI, 96, .inl (fun j => nI (cch j)))), (a_cw, .inl (cI, 96, .inl (fun j => nI (cway j)))), (a_cv, .inl (cI, 96, .inl cval)), (a_ln, .inr (2, [.ref a_mm, .int (nI len)])), (a_mm, .inl (cI, 16, .inl (fun j => nI (mem j)))), (a_ss, .inl (cI, 16, .inl (fun j => nI (st j)))), (a_rr, .inl (cI, 16, .inl rc)), (a_wn, .inl (cI, 16, .inl (fun j => nI (sn j)))), (a_cd, .inl (cI, 16, .inl cd))] sz)) (va_Qi (fun (r : Int32) (u : Nat × (Nat → Nat) × (Nat → Nat) × (Nat → Bool) × (Nat → Int32) × (Nat → Nat) × (Nat → Nat) × (Nat → Nat) × (Nat → Int32) × Nat × (Nat → Nat) × (Nat → Nat) × (Nat → Int32) × (Nat → Nat) × (Nat → Int32) × Int32 × Int32 × (Nat → List Int32) × (Nat → List Kase) × List Nat) => M_make (n, room, shut, L, cs, line, st, rc, sn, cd, mt, ft) y = ((u.1, u.2.1, u.2.2.2.1, u.2.2.2.2.2.2.2.2.2.2.2.2.2.2.2.2.2.1, u.2.2.2.2.2.2.2.2.2.2.2.2.2.2.2.2.2.2.1, u.2.2.2.2.2.2.2.2.2.2.2.2.2.2.2.2.2.2.2, u.2.2.2.2.2.2.2.2.2.2.2.1, u.2.2.2.2.2.2.2.2.2.2.2.2.1, u.2.2.2.2.2.2.2.2.2.2.2.2.2.1, u.2.2.2.2.2.2.2.2.2.2.2.2.2.2.1, u.2.2.2.2.2.2.2.2.2.2.2.2.2.2.2.1, u.2.2.2.2.2.2.2.2.2.2.2.2.2.2.2.2.1), r) ∧ DI u.1 u.2.1 u.2.2.1 u.2.2.2.2.1 u.2.2.2.2.2.1 u.2.2.2.2.2.2.1 u.2.2.2.2.2.2.2.1 u.2.2.2.2.2.2.2.2.1 u.2.2.2.2.2.2.2.2.2.1 u.2.2.2.2.2.2.2.2.2.2.1 u.2.2.2.2.2.2.2.2.2.2.2.1 u.2.2.2.2.2.2.2.2.2.2.2.2.2.2.2.2.2.1 u.2.2.2.2.2.2.2.2.2.2.2.2.2.2.2.2.2.2.1 u.2.2.2.2.2.2.2.2.2.2.2.2.2.2.2.2.2.2.2) (fun u t => va_P G vwCl [(a_dk, .inr (3, [.ref a_ch, .ref a_cs, .ref a_ln, .ref a_ss, .ref a_rr, .ref a_wn, .ref a_cd, .int u.2.2.2.2.2.2.2.2.2.2.2.2.2.2.2.1, .int u.2.2.2.2.2.2.2.2.2.2.2.2.2.2.2.2.1])), (a_ch, .inr (1, [.ref a_rm, .ref a_hd, .ref a_sh, .ref a_vl, .int (nI u.1)])), (a_rm, .inl (cI, 40, .inl (fun j => nI (u.2.1 j)))), (a_hd, .inl (cI, 40, .inl (fun j => nI (u.2.2.1 j)))), (a_sh, .inl (cZ, 40, .inl (fun j => bI (u.2.2.2.1 j)))), (a_vl, .inl (cI, 320, .inl u.2.2.2.2.1)), (a_cs, .inr (0, [.ref a_cn, .ref a_cc, .ref a_cw, .ref a_cv])), (a_cn, .inl (cI, 16, .inl (fun j => nI (u.2.2.2.2.2.1 j)))), (a_cc, .inl (cI, 96, .inl (fun j => nI (u.2.2.2.2.2.2.1 j)))), (a_cw, .inl (cI, 96, .inl (fun j => nI (u.2.2.2.2.2.2.2.1 j)))), (a_cv, .inl (cI, 96, .inl u.2.2.2.2.2.2.2.2.1)), (a_ln, .inr (2, [.ref a_mm, .int (nI u.2.2.2.2.2.2.2.2.2.1)])), (a_mm, .inl (cI, 16, .inl (fun j => nI (u.2.2.2.2.2.2.2.2.2.2.1 j)))), (a_ss, .inl (cI, 16, .inl (fun j => nI (u.2.2.2.2.2.2.2.2.2.2.2.1 j)))), (a_rr, .inl (cI, 16, .inl u.2.2.2.2.2.2.2.2.2.2.2.2.1)), (a_wn, .inl (cI, 16, .inl (fun j => nI (u.2.2.2.2.2.2.2.2.2.2.2.2.2.1 j)))), (a_cd, .inl (cI, 16, .inl u.2.2.2.2.2.2.2.2.2.2.2.2.2.2.1))] t.heap) (va_A [(a_dk, .inr (3, [.ref a_ch, .ref a_cs, .ref a_ln, .ref a_ss, .ref a_rr, .ref a_wn, .ref a_cd, .int mt, .int ft])), (a_ch, .inr (1, [.ref a_rm, .ref a_hd, .ref a_sh, .ref a_vl, .int (nI n)])), (a_rm, .inl (cI, 40, .inl (fun j => nI (room j)))), (a_hd, .inl (cI, 40, .inl (fun j => nI (held j)))), (a_sh, .inl (cZ, 40, .inl (fun j => bI (shut j)))), (a_vl, .inl (cI, 320, .inl vals)), (a_cs, .inr (0, [.ref a_cn, .ref a_cc, .ref a_cw, .ref a_cv])), (a_cn, .inl (cI, 16, .inl (fun j => nI (cnum j)))), (a_cc, .inl (cI, 96, .inl (fun j => nI (cch j)))), (a_cw, .inl (cI, 96, .inl (fun j => nI (cway j)))), (a_cv, .inl (cI, 96, .inl cval)), (a_ln, .inr (2, [.ref a_mm, .int (nI len)])), (a_mm, .inl (cI, 16, .inl (fun j => nI (mem j)))), (a_ss, .inl (cI, 16, .inl (fun j => nI (st j)))), (a_rr, .inl (cI, 16, .inl rc)), (a_wn, .inl (cI, 16, .inl (fun j => nI (sn j)))), (a_cd, .inl (cI, 16, .inl cd))] sz)) 0 0 (va_A [(a_dk, .inr (3, [.ref a_ch, .ref a_cs, .ref a_ln, .ref a_ss, .ref a_rr, .ref a_wn, .ref a_cd, .int mt, .int ft])), (a_ch, .inr (1, [.ref a_rm, .ref a_hd, .ref a_sh, .ref a_vl, .int (nI n)])), (a_rm, .inl (cI, 40, .inl (fun j => nI (room j)))), (a_hd, .inl (cI, 40, .inl (fun j => nI (held j)))), (a_sh, .inl (cZ, 40, .inl (fun j => bI (shut j)))), (a_vl, .inl (cI, 320, .inl vals)), (a_cs, .inr (0, [.ref a_cn, .ref a_cc, .ref a_cw, .ref a_cv])), (a_cn, .inl (cI, 16, .inl (fun j => nI (cnum j)))), (a_cc, .inl (cI, 96, .inl (fun j => nI (cch j)))), (a_cw, .inl (cI, 96, .inl (fun j => nI (cway j)))), (a_cv, .inl (cI, 96, .inl cval)), (a_ln, .inr (2, [.ref a_mm, .int (nI len)])), (a_mm, .inl (cI, 16, .inl (fun j => nI (mem j)))), (a_ss, .inl (cI, 16, .inl (fun j => nI (st j)))), (a_rr, .inl (cI, 16, .inl rc)), (a_wn, .inl (cI, 16, .inl (fun j => nI (sn j)))), (a_cd, .inl (cI, 16, .inl cd))] sz) := by
  refine Met.ofW (cc := b_Dk_make) (maxL := 2) (ret := (some .int)) (by decide) rfl ?_
  intro p e s m args below meth c s₁ B hml hv
  obtain ⟨rfl, hsz, hP, hK, hD0⟩ := hv
  have hx := B.exec
  have hb := B.bytes
  have hr := B.returns
  have hts : ∀ w ∈ TT, w.before _ s = true := fun w h => atoms_spec (ws := (w_Dk_make)) B.pre w (List.mem_cons_of_mem _ h)
  have hown : s.vm.findClass R_Dk = some m.cls := findClass_of_methodNamed B.named
  have hlocks := B.notSynchronized
  subst hsz
  have hD := hD0.self (sz := s.heap.size)
  generalize hAe : va_A [(a_dk, .inr (3, [.ref a_ch, .ref a_cs, .ref a_ln, .ref a_ss, .ref a_rr, .ref a_wn, .ref a_cd, .int mt, .int ft])), (a_ch, .inr (1, [.ref a_rm, .ref a_hd, .ref a_sh, .ref a_vl, .int (nI n)])), (a_rm, .inl (cI, 40, .inl (fun j => nI (room j)))), (a_hd, .inl (cI, 40, .inl (fun j => nI (held j)))), (a_sh, .inl (cZ, 40, .inl (fun j => bI (shut j)))), (a_vl, .inl (cI, 320, .inl vals)), (a_cs, .inr (0, [.ref a_cn, .ref a_cc, .ref a_cw, .ref a_cv])), (a_cn, .inl (cI, 16, .inl (fun j => nI (cnum j)))), (a_cc, .inl (cI, 96, .inl (fun j => nI (cch j)))), (a_cw, .inl (cI, 96, .inl (fun j => nI (cway j)))), (a_cv, .inl (cI, 96, .inl cval)), (a_ln, .inr (2, [.ref a_mm, .int (nI len)])), (a_mm, .inl (cI, 16, .inl (fun j => nI (mem j)))), (a_ss, .inl (cI, 16, .inl (fun j => nI (st j)))), (a_rr, .inl (cI, 16, .inl rc)), (a_wn, .inl (cI, 16, .inl (fun j => nI (sn j)))), (a_cd, .inl (cI, 16, .inl cd))] s.heap.size = A at hD ⊢
  have hA : ∀ q : Nat, s.heap.size ≤ q → A q := fun q h => by rw [← hAe]; exact Or.inr h
  have hS : va_S A s.heap s.heap [] := va_S.rf
  have hP : va_P G vwCl [(a_dk, .inr (3, [.ref a_ch, .ref a_cs, .ref a_ln, .ref a_ss, .ref a_rr, .ref a_wn, .ref a_cd, .int mt, .int ft])), (a_ch, .inr (1, [.ref a_rm, .ref a_hd, .ref a_sh, .ref a_vl, .int (nI n)])), (a_rm, .inl (cI, 40, .inl (fun j => nI (room j)))), (a_hd, .inl (cI, 40, .inl (fun j => nI (held j)))), (a_sh, .inl (cZ, 40, .inl (fun j => bI (shut j)))), (a_vl, .inl (cI, 320, .inl vals)), (a_cs, .inr (0, [.ref a_cn, .ref a_cc, .ref a_cw, .ref a_cv])), (a_cn, .inl (cI, 16, .inl (fun j => nI (cnum j)))), (a_cc, .inl (cI, 96, .inl (fun j => nI (cch j)))), (a_cw, .inl (cI, 96, .inl (fun j => nI (cway j)))), (a_cv, .inl (cI, 96, .inl cval)), (a_ln, .inr (2, [.ref a_mm, .int (nI len)])), (a_mm, .inl (cI, 16, .inl (fun j => nI (mem j)))), (a_ss, .inl (cI, 16, .inl (fun j => nI (st j)))), (a_rr, .inl (cI, 16, .inl rc)), (a_wn, .inl (cI, 16, .inl (fun j => nI (sn j)))), (a_cd, .inl (cI, 16, .inl cd))] s.heap := hP
  have hl := lv_entry ([.ref a_dk, .int y]) (n := 2) (Nat.le_of_ble_eq_true rfl)
  rw [lg_entry_eq]
  generalize (lg_sl ([.ref a_dk, .int y]) ++ List.replicate (2 - (lg_sl ([.ref a_dk, .int y])).length) Slot.unset).toArray = ls at hl ⊢
  have hl : lv_has ls 2 [(0, .ref a_dk), (1, .int y)] := hl
  obtain ⟨hn, hrm, hV, hC, hL, hst⟩ := hI
  refine lv_iload_n hx hb d_Dk_make_0 rfl (lv_at hl 1 rfl) ?_
  refine lv_if_lt (tgt := 10) hx hb d_Dk_make_1 (by decide) (fun c_a => ?_) (fun c_a => ?_)
  · refine lv_iconst (v := (-1)) hx hb d_Dk_make_10 (by decide +kernel) ?_
    exact k_wi hx hb hr hlocks hP hS (n, room, held, shut, vals, cnum, cch, cway, cval, len, mem, st, rc, sn, cd, mt, ft, L, cs, line) (rfl) (⟨M_make_0 (Or.inl c_a), hn, hrm, hV, hC, hL, hst⟩) d_Dk_make_11
  · refine lv_iload_n hx hb d_Dk_make_4 rfl (lv_at hl 1 rfl) ?_
    refine lv_bipush (v := (nI 8)) hx hb d_Dk_make_5 (by decide +kernel) ?_
    refine lv_icmp_le (tgt := 12) hx hb d_Dk_make_7 (by decide) (fun c_b => ?_) (fun c_b => ?_)
    · obtain ⟨k0, hk0, rfl⟩ := nI_of2 (M := nI 8) (n := 8) (by decide +kernel) c_a c_b
      refine lv_aload_n hx hb d_Dk_make_12 rfl (lv_at hl 0 rfl) ?_
      refine va_get (D := G) (ci := 3) (v := .ref a_ch) (C := R_Dk) (T := T_Dk) (N := 9) hx hb hts uw_Dk hown hK hP 0 rfl rfl 0 (by decide) (hts _ t_105) (fun _ h9 => h9) rfl d_Dk_make_13 ?_
      refine lv_iload_n hx hb d_Dk_make_16 rfl (lv_at hl 1 rfl) ?_
      refine k_rwi (va_runV (As := [.int (nI k0)]) (rest := []) ⟨hx, hb, hml, hown, hts⟩ (c_Ch_open l G cI cZ cJ s.heap.size a_ch a_rm a_hd a_sh a_vl n room held shut k0 (by omega)) (cwV 1 hts (gV t_127 t_128 t_129 t_33 t_130) rfl rfl rfl (by decide +kernel) ⟨Nat.le_of_ble_eq_true rfl, Nat.le_of_ble_eq_true rfl⟩) (kW_V (ci := 1) (q0 := 1) hK hP hD rfl rfl [1, 2, 3, 4] rfl (by decide) rfl) rfl rfl hl.1 rfl (lv_room (Nat.le_of_ble_eq_true rfl)) d_Dk_make_17 ⟨Nat.le_of_ble_eq_true rfl, Nat.le_of_ble_eq_true rfl⟩) hP hD hS hA [1, 2, 3, 4] rfl (fun _ => rfl) (fun r_3 u H locs hw hP hD hS => ?_)
      subst hw
      have hP : va_P G vwCl [(a_dk, .inr (3, [.ref a_ch, .ref a_cs, .ref a_ln, .ref a_ss, .ref a_rr, .ref a_wn, .ref a_cd, .int mt, .int ft])), (a_ch, .inr (1, [.ref a_rm, .ref a_hd, .ref a_sh, .ref a_vl, .int (nI (if n < 40 then n + 1 else n))])), (a_rm, .inl (cI, 40, .inl (fun j => nI ((if n < 40 then va_up room n k0 else room) j)))), (a_hd, .inl (cI, 40, .inl (fun j => nI ((if n < 40 then va_up held n 0 else held) j)))), (a_sh, .inl (cZ, 40, .inl (fun j => bI ((if n < 40 then va_up shut n false else shut) j)))), (a_vl, .inl (cI, 320, .inl vals)), (a_cs, .inr (0, [.ref a_cn, .ref a_cc, .ref a_cw, .ref a_cv])), (a_cn, .inl (cI, 16, .inl (fun j => nI (cnum j)))), (a_cc, .inl (cI, 96, .inl (fun j => nI (cch j)))), (a_cw, .inl (cI, 96, .inl (fun j => nI (cway j)))), (a_cv, .inl (cI, 96, .inl cval)), (a_ln, .inr (2, [.ref a_mm, .int (nI len)])), (a_mm, .inl (cI, 16, .inl (fun j => nI (mem j)))), (a_ss, .inl (cI, 16, .inl (fun j => nI (st j)))), (a_rr, .inl (cI, 16, .inl rc)), (a_wn, .inl (cI, 16, .inl (fun j => nI (sn j)))), (a_cd, .inl (cI, 16, .inl cd))] H := hP
      have hD : va_D A [(a_dk, .inr (3, [.ref a_ch, .ref a_cs, .ref a_ln, .ref a_ss, .ref a_rr, .ref a_wn, .ref a_cd, .int mt, .int ft])), (a_ch, .inr (1, [.ref a_rm, .ref a_hd, .ref a_sh, .ref a_vl, .int (nI (if n < 40 then n + 1 else n))])), (a_rm, .inl (cI, 40, .inl (fun j => nI ((if n < 40 then va_up room n k0 else room) j)))), (a_hd, .inl (cI, 40, .inl (fun j => nI ((if n < 40 then va_up held n 0 else held) j)))), (a_sh, .inl (cZ, 40, .inl (fun j => bI ((if n < 40 then va_up shut n false else shut) j)))), (a_vl, .inl (cI, 320, .inl vals)), (a_cs, .inr (0, [.ref a_cn, .ref a_cc, .ref a_cw, .ref a_cv])), (a_cn, .inl (cI, 16, .inl (fun j => nI (cnum j)))), (a_cc, .inl (cI, 96, .inl (fun j => nI (cch j)))), (a_cw, .inl (cI, 96, .inl (fun j => nI (cway j)))), (a_cv, .inl (cI, 96, .inl cval)), (a_ln, .inr (2, [.ref a_mm, .int (nI len)])), (a_mm, .inl (cI, 16, .inl (fun j => nI (mem j)))), (a_ss, .inl (cI, 16, .inl (fun j => nI (st j)))), (a_rr, .inl (cI, 16, .inl rc)), (a_wn, .inl (cI, 16, .inl (fun j => nI (sn j)))), (a_cd, .inl (cI, 16, .inl cd))] := hD
      rcases Nat.lt_or_ge n 40 with h40 | h40
      · simp only [if_pos h40] at hP hD
        refine k_top (if_pos h40) ?_
        have hP : va_P G vwCl [(a_dk, .inr (3, [.ref a_ch, .ref a_cs, .ref a_ln, .ref a_ss, .ref a_rr, .ref a_wn, .ref a_cd, .int mt, .int ft])), (a_ch, .inr (1, [.ref a_rm, .ref a_hd, .ref a_sh, .ref a_vl, .int (nI (n + 1))])), (a_rm, .inl (cI, 40, .inl (fun j => nI ((va_up room n k0) j)))), (a_hd, .inl (cI, 40, .inl (fun j => nI ((va_up held n 0) j)))), (a_sh, .inl (cZ, 40, .inl (fun j => bI ((va_up shut n false) j)))), (a_vl, .inl (cI, 320, .inl vals)), (a_cs, .inr (0, [.ref a_cn, .ref a_cc, .ref a_cw, .ref a_cv])), (a_cn, .inl (cI, 16, .inl (fun j => nI (cnum j)))), (a_cc, .inl (cI, 96, .inl (fun j => nI (cch j)))), (a_cw, .inl (cI, 96, .inl (fun j => nI (cway j)))), (a_cv, .inl (cI, 96, .inl cval)), (a_ln, .inr (2, [.ref a_mm, .int (nI len)])), (a_mm, .inl (cI, 16, .inl (fun j => nI (mem j)))), (a_ss, .inl (cI, 16, .inl (fun j => nI (st j)))), (a_rr, .inl (cI, 16, .inl rc)), (a_wn, .inl (cI, 16, .inl (fun j => nI (sn j)))), (a_cd, .inl (cI, 16, .inl cd))] H := hP
        have hD : va_D A [(a_dk, .inr (3, [.ref a_ch, .ref a_cs, .ref a_ln, .ref a_ss, .ref a_rr, .ref a_wn, .ref a_cd, .int mt, .int ft])), (a_ch, .inr (1, [.ref a_rm, .ref a_hd, .ref a_sh, .ref a_vl, .int (nI (n + 1))])), (a_rm, .inl (cI, 40, .inl (fun j => nI ((va_up room n k0) j)))), (a_hd, .inl (cI, 40, .inl (fun j => nI ((va_up held n 0) j)))), (a_sh, .inl (cZ, 40, .inl (fun j => bI ((va_up shut n false) j)))), (a_vl, .inl (cI, 320, .inl vals)), (a_cs, .inr (0, [.ref a_cn, .ref a_cc, .ref a_cw, .ref a_cv])), (a_cn, .inl (cI, 16, .inl (fun j => nI (cnum j)))), (a_cc, .inl (cI, 96, .inl (fun j => nI (cch j)))), (a_cw, .inl (cI, 96, .inl (fun j => nI (cway j)))), (a_cv, .inl (cI, 96, .inl cval)), (a_ln, .inr (2, [.ref a_mm, .int (nI len)])), (a_mm, .inl (cI, 16, .inl (fun j => nI (mem j)))), (a_ss, .inl (cI, 16, .inl (fun j => nI (st j)))), (a_rr, .inl (cI, 16, .inl rc)), (a_wn, .inl (cI, 16, .inl (fun j => nI (sn j)))), (a_cd, .inl (cI, 16, .inl cd))] := hD
        exact k_wi hx hb hr hlocks hP hS (n + 1, va_up room n k0, va_up held n 0, va_up shut n false, vals, cnum, cch, cway, cval, len, mem, st, rc, sn, cd, mt, ft, va_up L n [], cs, line) (rfl) (⟨M_make_1 hk0 h40, (show n + 1 ≤ 40 by omega), rm_up hrm n hk0, hV.new n, hC, hL, hst⟩) d_Dk_make_20
      · simp only [if_neg (Nat.not_lt.mpr h40)] at hP hD
        refine k_top (if_neg (Nat.not_lt.mpr h40)) ?_
        have hP : va_P G vwCl [(a_dk, .inr (3, [.ref a_ch, .ref a_cs, .ref a_ln, .ref a_ss, .ref a_rr, .ref a_wn, .ref a_cd, .int mt, .int ft])), (a_ch, .inr (1, [.ref a_rm, .ref a_hd, .ref a_sh, .ref a_vl, .int (nI n)])), (a_rm, .inl (cI, 40, .inl (fun j => nI (room j)))), (a_hd, .inl (cI, 40, .inl (fun j => nI (held j)))), (a_sh, .inl (cZ, 40, .inl (fun j => bI (shut j)))), (a_vl, .inl (cI, 320, .inl vals)), (a_cs, .inr (0, [.ref a_cn, .ref a_cc, .ref a_cw, .ref a_cv])), (a_cn, .inl (cI, 16, .inl (fun j => nI (cnum j)))), (a_cc, .inl (cI, 96, .inl (fun j => nI (cch j)))), (a_cw, .inl (cI, 96, .inl (fun j => nI (cway j)))), (a_cv, .inl (cI, 96, .inl cval)), (a_ln, .inr (2, [.ref a_mm, .int (nI len)])), (a_mm, .inl (cI, 16, .inl (fun j => nI (mem j)))), (a_ss, .inl (cI, 16, .inl (fun j => nI (st j)))), (a_rr, .inl (cI, 16, .inl rc)), (a_wn, .inl (cI, 16, .inl (fun j => nI (sn j)))), (a_cd, .inl (cI, 16, .inl cd))] H := hP
        have hD : va_D A [(a_dk, .inr (3, [.ref a_ch, .ref a_cs, .ref a_ln, .ref a_ss, .ref a_rr, .ref a_wn, .ref a_cd, .int mt, .int ft])), (a_ch, .inr (1, [.ref a_rm, .ref a_hd, .ref a_sh, .ref a_vl, .int (nI n)])), (a_rm, .inl (cI, 40, .inl (fun j => nI (room j)))), (a_hd, .inl (cI, 40, .inl (fun j => nI (held j)))), (a_sh, .inl (cZ, 40, .inl (fun j => bI (shut j)))), (a_vl, .inl (cI, 320, .inl vals)), (a_cs, .inr (0, [.ref a_cn, .ref a_cc, .ref a_cw, .ref a_cv])), (a_cn, .inl (cI, 16, .inl (fun j => nI (cnum j)))), (a_cc, .inl (cI, 96, .inl (fun j => nI (cch j)))), (a_cw, .inl (cI, 96, .inl (fun j => nI (cway j)))), (a_cv, .inl (cI, 96, .inl cval)), (a_ln, .inr (2, [.ref a_mm, .int (nI len)])), (a_mm, .inl (cI, 16, .inl (fun j => nI (mem j)))), (a_ss, .inl (cI, 16, .inl (fun j => nI (st j)))), (a_rr, .inl (cI, 16, .inl rc)), (a_wn, .inl (cI, 16, .inl (fun j => nI (sn j)))), (a_cd, .inl (cI, 16, .inl cd))] := hD
        exact k_wi hx hb hr hlocks hP hS (n, room, held, shut, vals, cnum, cch, cway, cval, len, mem, st, rc, sn, cd, mt, ft, L, cs, line) (rfl) (⟨M_make_0 (Or.inr (Or.inr h40)), hn, hrm, hV, hC, hL, hst⟩) d_Dk_make_20
    · refine lv_iconst (v := (-1)) hx hb d_Dk_make_10 (by decide +kernel) ?_
      exact k_wi hx hb hr hlocks hP hS (n, room, held, shut, vals, cnum, cch, cway, cval, len, mem, st, rc, sn, cd, mt, ft, L, cs, line) (rfl) (⟨M_make_0 (Or.inr (Or.inl (Int32.not_le.mp c_b))), hn, hrm, hV, hC, hL, hst⟩) d_Dk_make_11
set_option maxHeartbeats 4000000 in
set_option maxRecDepth 100000 in
theorem c_Dk_add (l : Launch) (G : va_G) (cI cZ cJ : ClassId) (sz : Nat) (a_dk : Nat) (a_ch : Nat) (a_cs : Nat) (a_ln : Nat) (a_ss : Nat) (a_rr : Nat) (a_wn : Nat) (a_cd : Nat) (a_rm : Nat) (a_hd : Nat) (a_sh : Nat) (a_vl : Nat) (a_cn : Nat) (a_cc : Nat) (a_cw : Nat) (a_cv : Nat) (a_mm : Nat) (mt : Int32) (ft : Int32) (n : Nat) (room : Nat → Nat) (held : Nat → Nat) (shut : Nat → Bool) (vals : Nat → Int32) (cnum : Nat → Nat) (cch : Nat → Nat) (cway : Nat → Nat) (cval : Nat → Int32) (len : Nat) (mem : Nat → Nat) (st : Nat → Nat) (rc : Nat → Int32) (sn : Nat → Nat) (cd : Nat → Int32) (L : Nat → List Int32) (cs : Nat → List Kase) (line : List Nat) (a : Int32) (b : Int32) (w9 : Int32) (v : Int32) (hI : DI n room held vals cnum cch cway cval len mem st L cs line) : Met l y_Dk_add (w_Dk_add) ({ frames := 2, cells := 0, slots := 0, locals := 46 }) (va_Pc [.ref a_dk, .int a, .int b, .int w9, .int v] (kW G vwCl [(cI, .int), (cZ, .boolean), (cJ, .long)] [(a_dk, .inr (3, [.ref a_ch, .ref a_cs, .ref a_ln, .ref a_ss, .ref a_rr, .ref a_wn, .ref a_cd, .int mt, .int ft])), (a_ch, .inr (1, [.ref a_rm, .ref a_hd, .ref a_sh, .ref a_vl, .int (nI n)])), (a_rm, .inl (cI, 40, .inl (fun j => nI (room j)))), (a_hd, .inl (cI, 40, .inl (fun j => nI (held j)))), (a_sh, .inl (cZ, 40, .inl (fun j => bI (shut j)))), (a_vl, .inl (cI, 320, .inl vals)), (a_cs, .inr (0, [.ref a_cn, .ref a_cc, .ref a_cw, .ref a_cv])), (a_cn, .inl (cI, 16, .inl (fun j => nI (cnum j)))), (a_cc, .inl (cI, 96, .inl (fun j => nI (cch j)))), (a_cw, .inl (cI, 96, .inl (fun j => nI (cway j)))), (a_cv, .inl (cI, 96, .inl cval)), (a_ln, .inr (2, [.ref a_mm, .int (nI len)])), (a_mm, .inl (cI, 16, .inl (fun j => nI (mem j)))), (a_ss, .inl (cI, 16, .inl (fun j => nI (st j)))), (a_rr, .inl (cI, 16, .inl rc)), (a_wn, .inl (cI, 16, .inl (fun j => nI (sn j)))), (a_cd, .inl (cI, 16, .inl cd))] sz)) (va_Qi (fun (r : Int32) (u : Nat × (Nat → Nat) × (Nat → Nat) × (Nat → Bool) × (Nat → Int32) × (Nat → Nat) × (Nat → Nat) × (Nat → Nat) × (Nat → Int32) × Nat × (Nat → Nat) × (Nat → Nat) × (Nat → Int32) × (Nat → Nat) × (Nat → Int32) × Int32 × Int32 × (Nat → List Int32) × (Nat → List Kase) × List Nat) => M_add (n, room, shut, L, cs, line, st, rc, sn, cd, mt, ft) a b w9 v = ((u.1, u.2.1, u.2.2.2.1, u.2.2.2.2.2.2.2.2.2.2.2.2.2.2.2.2.2.1, u.2.2.2.2.2.2.2.2.2.2.2.2.2.2.2.2.2.2.1, u.2.2.2.2.2.2.2.2.2.2.2.2.2.2.2.2.2.2.2, u.2.2.2.2.2.2.2.2.2.2.2.1, u.2.2.2.2.2.2.2.2.2.2.2.2.1, u.2.2.2.2.2.2.2.2.2.2.2.2.2.1, u.2.2.2.2.2.2.2.2.2.2.2.2.2.2.1, u.2.2.2.2.2.2.2.2.2.2.2.2.2.2.2.1, u.2.2.2.2.2.2.2.2.2.2.2.2.2.2.2.2.1), r) ∧ DI u.1 u.2.1 u.2.2.1 u.2.2.2.2.1 u.2.2.2.2.2.1 u.2.2.2.2.2.2.1 u.2.2.2.2.2.2.2.1 u.2.2.2.2.2.2.2.2.1 u.2.2.2.2.2.2.2.2.2.1 u.2.2.2.2.2.2.2.2.2.2.1 u.2.2.2.2.2.2.2.2.2.2.2.1 u.2.2.2.2.2.2.2.2.2.2.2.2.2.2.2.2.2.1 u.2.2.2.2.2.2.2.2.2.2.2.2.2.2.2.2.2.2.1 u.2.2.2.2.2.2.2.2.2.2.2.2.2.2.2.2.2.2.2) (fun u t => va_P G vwCl [(a_dk, .inr (3, [.ref a_ch, .ref a_cs, .ref a_ln, .ref a_ss, .ref a_rr, .ref a_wn, .ref a_cd, .int u.2.2.2.2.2.2.2.2.2.2.2.2.2.2.2.1, .int u.2.2.2.2.2.2.2.2.2.2.2.2.2.2.2.2.1])), (a_ch, .inr (1, [.ref a_rm, .ref a_hd, .ref a_sh, .ref a_vl, .int (nI u.1)])), (a_rm, .inl (cI, 40, .inl (fun j => nI (u.2.1 j)))), (a_hd, .inl (cI, 40, .inl (fun j => nI (u.2.2.1 j)))), (a_sh, .inl (cZ, 40, .inl (fun j => bI (u.2.2.2.1 j)))), (a_vl, .inl (cI, 320, .inl u.2.2.2.2.1)), (a_cs, .inr (0, [.ref a_cn, .ref a_cc, .ref a_cw, .ref a_cv])), (a_cn, .inl (cI, 16, .inl (fun j => nI (u.2.2.2.2.2.1 j)))), (a_cc, .inl (cI, 96, .inl (fun j => nI (u.2.2.2.2.2.2.1 j)))), (a_cw, .inl (cI, 96, .inl (fun j => nI (u.2.2.2.2.2.2.2.1 j)))), (a_cv, .inl (cI, 96, .inl u.2.2.2.2.2.2.2.2.1)), (a_ln, .inr (2, [.ref a_mm, .int (nI u.2.2.2.2.2.2.2.2.2.1)])), (a_mm, .inl (cI, 16, .inl (fun j => nI (u.2.2.2.2.2.2.2.2.2.2.1 j)))), (a_ss, .inl (cI, 16, .inl (fun j => nI (u.2.2.2.2.2.2.2.2.2.2.2.1 j)))), (a_rr, .inl (cI, 16, .inl u.2.2.2.2.2.2.2.2.2.2.2.2.1)), (a_wn, .inl (cI, 16, .inl (fun j => nI (u.2.2.2.2.2.2.2.2.2.2.2.2.2.1 j)))), (a_cd, .inl (cI, 16, .inl u.2.2.2.2.2.2.2.2.2.2.2.2.2.2.1))] t.heap) (va_A [(a_dk, .inr (3, [.ref a_ch, .ref a_cs, .ref a_ln, .ref a_ss, .ref a_rr, .ref a_wn, .ref a_cd, .int mt, .int ft])), (a_ch, .inr (1, [.ref a_rm, .ref a_hd, .ref a_sh, .ref a_vl, .int (nI n)])), (a_rm, .inl (cI, 40, .inl (fun j => nI (room j)))), (a_hd, .inl (cI, 40, .inl (fun j => nI (held j)))), (a_sh, .inl (cZ, 40, .inl (fun j => bI (shut j)))), (a_vl, .inl (cI, 320, .inl vals)), (a_cs, .inr (0, [.ref a_cn, .ref a_cc, .ref a_cw, .ref a_cv])), (a_cn, .inl (cI, 16, .inl (fun j => nI (cnum j)))), (a_cc, .inl (cI, 96, .inl (fun j => nI (cch j)))), (a_cw, .inl (cI, 96, .inl (fun j => nI (cway j)))), (a_cv, .inl (cI, 96, .inl cval)), (a_ln, .inr (2, [.ref a_mm, .int (nI len)])), (a_mm, .inl (cI, 16, .inl (fun j => nI (mem j)))), (a_ss, .inl (cI, 16, .inl (fun j => nI (st j)))), (a_rr, .inl (cI, 16, .inl rc)), (a_wn, .inl (cI, 16, .inl (fun j => nI (sn j)))), (a_cd, .inl (cI, 16, .inl cd))] sz)) 0 0 (va_A [(a_dk, .inr (3, [.ref a_ch, .ref a_cs, .ref a_ln, .ref a_ss, .ref a_rr, .ref a_wn, .ref a_cd, .int mt, .int ft])), (a_ch, .inr (1, [.ref a_rm, .ref a_hd, .ref a_sh, .ref a_vl, .int (nI n)])), (a_rm, .inl (cI, 40, .inl (fun j => nI (room j)))), (a_hd, .inl (cI, 40, .inl (fun j => nI (held j)))), (a_sh, .inl (cZ, 40, .inl (fun j => bI (shut j)))), (a_vl, .inl (cI, 320, .inl vals)), (a_cs, .inr (0, [.ref a_cn, .ref a_cc, .ref a_cw, .ref a_cv])), (a_cn, .inl (cI, 16, .inl (fun j => nI (cnum j)))), (a_cc, .inl (cI, 96, .inl (fun j => nI (cch j)))), (a_cw, .inl (cI, 96, .inl (fun j => nI (cway j)))), (a_cv, .inl (cI, 96, .inl cval)), (a_ln, .inr (2, [.ref a_mm, .int (nI len)])), (a_mm, .inl (cI, 16, .inl (fun j => nI (mem j)))), (a_ss, .inl (cI, 16, .inl (fun j => nI (st j)))), (a_rr, .inl (cI, 16, .inl rc)), (a_wn, .inl (cI, 16, .inl (fun j => nI (sn j)))), (a_cd, .inl (cI, 16, .inl cd))] sz) := by
  refine Met.ofW (cc := b_Dk_add) (maxL := 5) (ret := (some .int)) (by decide) rfl ?_
  intro p e s m args below meth c s₁ B hml hv
  obtain ⟨rfl, hsz, hP, hK, hD0⟩ := hv
  have hx := B.exec
  have hb := B.bytes
  have hr := B.returns
  have hts : ∀ w ∈ TT, w.before _ s = true := fun w h => atoms_spec (ws := (w_Dk_add)) B.pre w (List.mem_cons_of_mem _ h)
  have hown : s.vm.findClass R_Dk = some m.cls := findClass_of_methodNamed B.named
  have hlocks := B.notSynchronized
  subst hsz
  have hD := hD0.self (sz := s.heap.size)
  generalize hAe : va_A [(a_dk, .inr (3, [.ref a_ch, .ref a_cs, .ref a_ln, .ref a_ss, .ref a_rr, .ref a_wn, .ref a_cd, .int mt, .int ft])), (a_ch, .inr (1, [.ref a_rm, .ref a_hd, .ref a_sh, .ref a_vl, .int (nI n)])), (a_rm, .inl (cI, 40, .inl (fun j => nI (room j)))), (a_hd, .inl (cI, 40, .inl (fun j => nI (held j)))), (a_sh, .inl (cZ, 40, .inl (fun j => bI (shut j)))), (a_vl, .inl (cI, 320, .inl vals)), (a_cs, .inr (0, [.ref a_cn, .ref a_cc, .ref a_cw, .ref a_cv])), (a_cn, .inl (cI, 16, .inl (fun j => nI (cnum j)))), (a_cc, .inl (cI, 96, .inl (fun j => nI (cch j)))), (a_cw, .inl (cI, 96, .inl (fun j => nI (cway j)))), (a_cv, .inl (cI, 96, .inl cval)), (a_ln, .inr (2, [.ref a_mm, .int (nI len)])), (a_mm, .inl (cI, 16, .inl (fun j => nI (mem j)))), (a_ss, .inl (cI, 16, .inl (fun j => nI (st j)))), (a_rr, .inl (cI, 16, .inl rc)), (a_wn, .inl (cI, 16, .inl (fun j => nI (sn j)))), (a_cd, .inl (cI, 16, .inl cd))] s.heap.size = A at hD ⊢
  have hA : ∀ q : Nat, s.heap.size ≤ q → A q := fun q h => by rw [← hAe]; exact Or.inr h
  have hS : va_S A s.heap s.heap [] := va_S.rf
  have hP : va_P G vwCl [(a_dk, .inr (3, [.ref a_ch, .ref a_cs, .ref a_ln, .ref a_ss, .ref a_rr, .ref a_wn, .ref a_cd, .int mt, .int ft])), (a_ch, .inr (1, [.ref a_rm, .ref a_hd, .ref a_sh, .ref a_vl, .int (nI n)])), (a_rm, .inl (cI, 40, .inl (fun j => nI (room j)))), (a_hd, .inl (cI, 40, .inl (fun j => nI (held j)))), (a_sh, .inl (cZ, 40, .inl (fun j => bI (shut j)))), (a_vl, .inl (cI, 320, .inl vals)), (a_cs, .inr (0, [.ref a_cn, .ref a_cc, .ref a_cw, .ref a_cv])), (a_cn, .inl (cI, 16, .inl (fun j => nI (cnum j)))), (a_cc, .inl (cI, 96, .inl (fun j => nI (cch j)))), (a_cw, .inl (cI, 96, .inl (fun j => nI (cway j)))), (a_cv, .inl (cI, 96, .inl cval)), (a_ln, .inr (2, [.ref a_mm, .int (nI len)])), (a_mm, .inl (cI, 16, .inl (fun j => nI (mem j)))), (a_ss, .inl (cI, 16, .inl (fun j => nI (st j)))), (a_rr, .inl (cI, 16, .inl rc)), (a_wn, .inl (cI, 16, .inl (fun j => nI (sn j)))), (a_cd, .inl (cI, 16, .inl cd))] s.heap := hP
  have hl := lv_entry ([.ref a_dk, .int a, .int b, .int w9, .int v]) (n := 5) (Nat.le_of_ble_eq_true rfl)
  rw [lg_entry_eq]
  generalize (lg_sl ([.ref a_dk, .int a, .int b, .int w9, .int v]) ++ List.replicate (5 - (lg_sl ([.ref a_dk, .int a, .int b, .int w9, .int v])).length) Slot.unset).toArray = ls at hl ⊢
  have hl : lv_has ls 5 [(0, .ref a_dk), (1, .int a), (2, .int b), (3, .int w9), (4, .int v)] := hl
  obtain ⟨hn, hrm, hV, hC, hL, hst⟩ := hI
  refine lv_aload_n hx hb d_Dk_add_0 rfl (lv_at hl 0 rfl) ?_
  refine lv_iload_n hx hb d_Dk_add_1 rfl (lv_at hl 1 rfl) ?_
  refine k_ro (va_runV (As := [.int a]) (rest := []) ⟨hx, hb, hml, hown, hts⟩ (c_Dk_isReady l G cI cZ cJ a_dk a_ch a_cs a_ln a_ss a_rr a_wn a_cd mt ft st a (by omega)) (cwV 1 hts (gV t_135 t_136 t_1 t_32 t_137) rfl rfl rfl (by decide +kernel) ⟨Nat.le_of_ble_eq_true rfl, Nat.le_of_ble_eq_true rfl⟩) (kR_V (ci := 3) (q0 := 0) hK hP rfl rfl [0, 13] rfl) rfl rfl hl.1 rfl (lv_room (Nat.le_of_ble_eq_true rfl)) d_Dk_add_2 ⟨Nat.le_of_ble_eq_true rfl, Nat.le_of_ble_eq_true rfl⟩) ?_
  refine b_if_eq (tgt := 26) hx hb d_Dk_add_5 (by decide) (fun c_a => ?_) (fun c_a => ?_)
  · refine lv_iconst (v := (-1)) hx hb d_Dk_add_26 (by decide +kernel) ?_
    exact k_wi hx hb hr hlocks hP hS (n, room, held, shut, vals, cnum, cch, cway, cval, len, mem, st, rc, sn, cd, mt, ft, L, cs, line) (rfl) (⟨M_add_0 c_a, hn, hrm, hV, hC, hL, hst⟩) d_Dk_add_27
  · refine lv_aload_n hx hb d_Dk_add_8 rfl (lv_at hl 0 rfl) ?_
    refine va_get (D := G) (ci := 3) (v := .ref a_ch) (C := R_Dk) (T := T_Dk) (N := 9) hx hb hts uw_Dk hown hK hP 0 rfl rfl 0 (by decide) (hts _ t_105) (fun _ h9 => h9) rfl d_Dk_add_9 ?_
    refine lv_iload_n hx hb d_Dk_add_12 rfl (lv_at hl 2 rfl) ?_
    refine k_ro (va_runV (As := [.int b]) (rest := []) ⟨hx, hb, hml, hown, hts⟩ (c_Ch_has l G cI cZ cJ a_ch a_rm a_hd a_sh a_vl n b) (cwV 1 hts (gV t_141 t_142 t_143 t_33 t_144) rfl rfl rfl (by decide +kernel) ⟨Nat.le_of_ble_eq_true rfl, Nat.le_of_ble_eq_true rfl⟩) (kR_V (ci := 1) (q0 := 1) hK hP rfl rfl [1] rfl) rfl rfl hl.1 rfl (lv_room (Nat.le_of_ble_eq_true rfl)) d_Dk_add_13 ⟨Nat.le_of_ble_eq_true rfl, Nat.le_of_ble_eq_true rfl⟩) ?_
    refine b_if_eq (tgt := 26) hx hb d_Dk_add_16 (by decide) (fun c_b => ?_) (fun c_b => ?_)
    · refine lv_iconst (v := (-1)) hx hb d_Dk_add_26 (by decide +kernel) ?_
      exact k_wi hx hb hr hlocks hP hS (n, room, held, shut, vals, cnum, cch, cway, cval, len, mem, st, rc, sn, cd, mt, ft, L, cs, line) (rfl) (⟨M_add_00 c_b, hn, hrm, hV, hC, hL, hst⟩) d_Dk_add_27
    · refine lv_iload_n hx hb d_Dk_add_19 rfl (lv_at hl 3 rfl) ?_
      refine k_ro (va_runS (As := [.int w9]) (rest := []) ⟨hx, hb, hml, hown, hts⟩ (c_Dk_isWay l G cI cZ cJ w9) (va_cwS 1 hts (gS t_247 t_248 t_32 t_249) rfl rfl rfl (by decide +kernel) ⟨Nat.le_of_ble_eq_true rfl, Nat.le_of_ble_eq_true rfl⟩) (kR_S hK hP [] rfl) rfl rfl hl.1 rfl (lv_room (Nat.le_of_ble_eq_true rfl)) d_Dk_add_20 ⟨Nat.le_of_ble_eq_true rfl, Nat.le_of_ble_eq_true rfl⟩) ?_
      refine b_if_ne (tgt := 28) hx hb d_Dk_add_23 (by decide) (fun c_c => ?_) (fun c_c => ?_)
      · obtain ⟨q, hq, rfl, hsq⟩ := rdyB_of c_a
        obtain ⟨x, hxn, rfl⟩ := hasB_of (by omega) c_b
        have hx0 : x < 40 := by omega
        obtain ⟨w, hw2, rfl⟩ := wayB_of c_c
        refine lv_aload_n hx hb d_Dk_add_28 rfl (lv_at hl 0 rfl) ?_
        refine va_get (D := G) (ci := 3) (v := .ref a_cs) (C := R_Dk) (T := T_Dk) (N := 9) hx hb hts uw_Dk hown hK hP 0 rfl rfl 1 (by decide) (hts _ t_106) (fun _ h9 => h9) rfl d_Dk_add_29 ?_
        refine lv_iload_n hx hb d_Dk_add_32 rfl (lv_at hl 1 rfl) ?_
        refine lv_iload_n hx hb d_Dk_add_33 rfl (lv_at hl 2 rfl) ?_
        refine lv_iload_n hx hb d_Dk_add_34 rfl (lv_at hl 3 rfl) ?_
        refine lv_iload hx hb d_Dk_add_35 (lv_at hl 4 rfl) ?_
        refine k_rwi (va_runV (As := [.int (nI q), .int (nI x), .int (nI w), .int v]) (rest := []) ⟨hx, hb, hml, hown, hts⟩ (c_Cs_append l G cI cZ cJ s.heap.size a_cs a_cn a_cc a_cw a_cv cnum cch cway cval cs q x w v (by omega) (by omega) hw2 hC) (cwV 4 hts (gV t_207 t_208 t_209 t_34 t_210) rfl rfl rfl (by decide +kernel) ⟨Nat.le_of_ble_eq_true rfl, Nat.le_of_ble_eq_true rfl⟩) (kW_V (ci := 0) (q0 := 6) hK hP hD rfl rfl [6, 7, 8, 9, 10] rfl (by decide) rfl) rfl rfl hl.1 rfl (lv_room (Nat.le_of_ble_eq_true rfl)) d_Dk_add_37 ⟨Nat.le_of_ble_eq_true rfl, Nat.le_of_ble_eq_true rfl⟩) hP hD hS hA [6, 7, 8, 9, 10] rfl (fun _ => rfl) (fun r_4 u H locs hw hP hD hS => ?_)
        obtain ⟨cnum_4, cch_4, cway_4, cval_4⟩ := u
        obtain ⟨rfl, hC⟩ := hw
        have hC : RelC cnum_4 cch_4 cway_4 cval_4 (addC cs q (x, w, v)) := hC
        have hP : va_P G vwCl [(a_dk, .inr (3, [.ref a_ch, .ref a_cs, .ref a_ln, .ref a_ss, .ref a_rr, .ref a_wn, .ref a_cd, .int mt, .int ft])), (a_ch, .inr (1, [.ref a_rm, .ref a_hd, .ref a_sh, .ref a_vl, .int (nI n)])), (a_rm, .inl (cI, 40, .inl (fun j => nI (room j)))), (a_hd, .inl (cI, 40, .inl (fun j => nI (held j)))), (a_sh, .inl (cZ, 40, .inl (fun j => bI (shut j)))), (a_vl, .inl (cI, 320, .inl vals)), (a_cs, .inr (0, [.ref a_cn, .ref a_cc, .ref a_cw, .ref a_cv])), (a_cn, .inl (cI, 16, .inl (fun j => nI (cnum_4 j)))), (a_cc, .inl (cI, 96, .inl (fun j => nI (cch_4 j)))), (a_cw, .inl (cI, 96, .inl (fun j => nI (cway_4 j)))), (a_cv, .inl (cI, 96, .inl cval_4)), (a_ln, .inr (2, [.ref a_mm, .int (nI len)])), (a_mm, .inl (cI, 16, .inl (fun j => nI (mem j)))), (a_ss, .inl (cI, 16, .inl (fun j => nI (st j)))), (a_rr, .inl (cI, 16, .inl rc)), (a_wn, .inl (cI, 16, .inl (fun j => nI (sn j)))), (a_cd, .inl (cI, 16, .inl cd))] H := hP
        have hD : va_D A [(a_dk, .inr (3, [.ref a_ch, .ref a_cs, .ref a_ln, .ref a_ss, .ref a_rr, .ref a_wn, .ref a_cd, .int mt, .int ft])), (a_ch, .inr (1, [.ref a_rm, .ref a_hd, .ref a_sh, .ref a_vl, .int (nI n)])), (a_rm, .inl (cI, 40, .inl (fun j => nI (room j)))), (a_hd, .inl (cI, 40, .inl (fun j => nI (held j)))), (a_sh, .inl (cZ, 40, .inl (fun j => bI (shut j)))), (a_vl, .inl (cI, 320, .inl vals)), (a_cs, .inr (0, [.ref a_cn, .ref a_cc, .ref a_cw, .ref a_cv])), (a_cn, .inl (cI, 16, .inl (fun j => nI (cnum_4 j)))), (a_cc, .inl (cI, 96, .inl (fun j => nI (cch_4 j)))), (a_cw, .inl (cI, 96, .inl (fun j => nI (cway_4 j)))), (a_cv, .inl (cI, 96, .inl cval_4)), (a_ln, .inr (2, [.ref a_mm, .int (nI len)])), (a_mm, .inl (cI, 16, .inl (fun j => nI (mem j)))), (a_ss, .inl (cI, 16, .inl (fun j => nI (st j)))), (a_rr, .inl (cI, 16, .inl rc)), (a_wn, .inl (cI, 16, .inl (fun j => nI (sn j)))), (a_cd, .inl (cI, 16, .inl cd))] := hD
        exact k_wi hx hb hr hlocks hP hS (n, room, held, shut, vals, cnum_4, cch_4, cway_4, cval_4, len, mem, st, rc, sn, cd, mt, ft, L, addC cs q (x, w, v), line) (rfl) (⟨M_add_1 c_a c_b c_c hq hx0 hw2, hn, hrm, hV, hC, hL, hst⟩) d_Dk_add_40
      · refine lv_iconst (v := (-1)) hx hb d_Dk_add_26 (by decide +kernel) ?_
        exact k_wi hx hb hr hlocks hP hS (n, room, held, shut, vals, cnum, cch, cway, cval, len, mem, st, rc, sn, cd, mt, ft, L, cs, line) (rfl) (⟨M_add_000 c_c, hn, hrm, hV, hC, hL, hst⟩) d_Dk_add_27
end
section
set_option maxHeartbeats 4000000 in
set_option maxRecDepth 100000 in
theorem c_Dk_send (l : Launch) (G : va_G) (cI cZ cJ : ClassId) (sz : Nat) (a_dk : Nat) (a_ch : Nat) (a_cs : Nat) (a_ln : Nat) (a_ss : Nat) (a_rr : Nat) (a_wn : Nat) (a_cd : Nat) (a_rm : Nat) (a_hd : Nat) (a_sh : Nat) (a_vl : Nat) (a_cn : Nat) (a_cc : Nat) (a_cw : Nat) (a_cv : Nat) (a_mm : Nat) (mt : Int32) (ft : Int32) (n : Nat) (room : Nat → Nat) (held : Nat → Nat) (shut : Nat → Bool) (vals : Nat → Int32) (cnum : Nat → Nat) (cch : Nat → Nat) (cway : Nat → Nat) (cval : Nat → Int32) (len : Nat) (mem : Nat → Nat) (st : Nat → Nat) (rc : Nat → Int32) (sn : Nat → Nat) (cd : Nat → Int32) (L : Nat → List Int32) (cs : Nat → List Kase) (line : List Nat) (a : Int32) (b : Int32) (v : Int32) (hI : DI n room held vals cnum cch cway cval len mem st L cs line) (hlt0 : ∀ q, q < 16 → (st q = 0 ∨ st q = 4) → line.length < 16) : Met l y_Dk_send (w_Dk_send) ({ frames := 5, cells := 0, slots := 0, locals := 118 }) (va_Pc [.ref a_dk, .int a, .int b, .int v] (kW G vwCl [(cI, .int), (cZ, .boolean), (cJ, .long)] [(a_dk, .inr (3, [.ref a_ch, .ref a_cs, .ref a_ln, .ref a_ss, .ref a_rr, .ref a_wn, .ref a_cd, .int mt, .int ft])), (a_ch, .inr (1, [.ref a_rm, .ref a_hd, .ref a_sh, .ref a_vl, .int (nI n)])), (a_rm, .inl (cI, 40, .inl (fun j => nI (room j)))), (a_hd, .inl (cI, 40, .inl (fun j => nI (held j)))), (a_sh, .inl (cZ, 40, .inl (fun j => bI (shut j)))), (a_vl, .inl (cI, 320, .inl vals)), (a_cs, .inr (0, [.ref a_cn, .ref a_cc, .ref a_cw, .ref a_cv])), (a_cn, .inl (cI, 16, .inl (fun j => nI (cnum j)))), (a_cc, .inl (cI, 96, .inl (fun j => nI (cch j)))), (a_cw, .inl (cI, 96, .inl (fun j => nI (cway j)))), (a_cv, .inl (cI, 96, .inl cval)), (a_ln, .inr (2, [.ref a_mm, .int (nI len)])), (a_mm, .inl (cI, 16, .inl (fun j => nI (mem j)))), (a_ss, .inl (cI, 16, .inl (fun j => nI (st j)))), (a_rr, .inl (cI, 16, .inl rc)), (a_wn, .inl (cI, 16, .inl (fun j => nI (sn j)))), (a_cd, .inl (cI, 16, .inl cd))] sz)) (va_Qi (fun (r : Int32) (u : Nat × (Nat → Nat) × (Nat → Nat) × (Nat → Bool) × (Nat → Int32) × (Nat → Nat) × (Nat → Nat) × (Nat → Nat) × (Nat → Int32) × Nat × (Nat → Nat) × (Nat → Nat) × (Nat → Int32) × (Nat → Nat) × (Nat → Int32) × Int32 × Int32 × (Nat → List Int32) × (Nat → List Kase) × List Nat) => M_send (n, room, shut, L, cs, line, st, rc, sn, cd, mt, ft) a b v = ((u.1, u.2.1, u.2.2.2.1, u.2.2.2.2.2.2.2.2.2.2.2.2.2.2.2.2.2.1, u.2.2.2.2.2.2.2.2.2.2.2.2.2.2.2.2.2.2.1, u.2.2.2.2.2.2.2.2.2.2.2.2.2.2.2.2.2.2.2, u.2.2.2.2.2.2.2.2.2.2.2.1, u.2.2.2.2.2.2.2.2.2.2.2.2.1, u.2.2.2.2.2.2.2.2.2.2.2.2.2.1, u.2.2.2.2.2.2.2.2.2.2.2.2.2.2.1, u.2.2.2.2.2.2.2.2.2.2.2.2.2.2.2.1, u.2.2.2.2.2.2.2.2.2.2.2.2.2.2.2.2.1), r) ∧ DI u.1 u.2.1 u.2.2.1 u.2.2.2.2.1 u.2.2.2.2.2.1 u.2.2.2.2.2.2.1 u.2.2.2.2.2.2.2.1 u.2.2.2.2.2.2.2.2.1 u.2.2.2.2.2.2.2.2.2.1 u.2.2.2.2.2.2.2.2.2.2.1 u.2.2.2.2.2.2.2.2.2.2.2.1 u.2.2.2.2.2.2.2.2.2.2.2.2.2.2.2.2.2.1 u.2.2.2.2.2.2.2.2.2.2.2.2.2.2.2.2.2.2.1 u.2.2.2.2.2.2.2.2.2.2.2.2.2.2.2.2.2.2.2) (fun u t => va_P G vwCl [(a_dk, .inr (3, [.ref a_ch, .ref a_cs, .ref a_ln, .ref a_ss, .ref a_rr, .ref a_wn, .ref a_cd, .int u.2.2.2.2.2.2.2.2.2.2.2.2.2.2.2.1, .int u.2.2.2.2.2.2.2.2.2.2.2.2.2.2.2.2.1])), (a_ch, .inr (1, [.ref a_rm, .ref a_hd, .ref a_sh, .ref a_vl, .int (nI u.1)])), (a_rm, .inl (cI, 40, .inl (fun j => nI (u.2.1 j)))), (a_hd, .inl (cI, 40, .inl (fun j => nI (u.2.2.1 j)))), (a_sh, .inl (cZ, 40, .inl (fun j => bI (u.2.2.2.1 j)))), (a_vl, .inl (cI, 320, .inl u.2.2.2.2.1)), (a_cs, .inr (0, [.ref a_cn, .ref a_cc, .ref a_cw, .ref a_cv])), (a_cn, .inl (cI, 16, .inl (fun j => nI (u.2.2.2.2.2.1 j)))), (a_cc, .inl (cI, 96, .inl (fun j => nI (u.2.2.2.2.2.2.1 j)))), (a_cw, .inl (cI, 96, .inl (fun j => nI (u.2.2.2.2.2.2.2.1 j)))), (a_cv, .inl (cI, 96, .inl u.2.2.2.2.2.2.2.2.1)), (a_ln, .inr (2, [.ref a_mm, .int (nI u.2.2.2.2.2.2.2.2.2.1)])), (a_mm, .inl (cI, 16, .inl (fun j => nI (u.2.2.2.2.2.2.2.2.2.2.1 j)))), (a_ss, .inl (cI, 16, .inl (fun j => nI (u.2.2.2.2.2.2.2.2.2.2.2.1 j)))), (a_rr, .inl (cI, 16, .inl u.2.2.2.2.2.2.2.2.2.2.2.2.1)), (a_wn, .inl (cI, 16, .inl (fun j => nI (u.2.2.2.2.2.2.2.2.2.2.2.2.2.1 j)))), (a_cd, .inl (cI, 16, .inl u.2.2.2.2.2.2.2.2.2.2.2.2.2.2.1))] t.heap) (va_A [(a_dk, .inr (3, [.ref a_ch, .ref a_cs, .ref a_ln, .ref a_ss, .ref a_rr, .ref a_wn, .ref a_cd, .int mt, .int ft])), (a_ch, .inr (1, [.ref a_rm, .ref a_hd, .ref a_sh, .ref a_vl, .int (nI n)])), (a_rm, .inl (cI, 40, .inl (fun j => nI (room j)))), (a_hd, .inl (cI, 40, .inl (fun j => nI (held j)))), (a_sh, .inl (cZ, 40, .inl (fun j => bI (shut j)))), (a_vl, .inl (cI, 320, .inl vals)), (a_cs, .inr (0, [.ref a_cn, .ref a_cc, .ref a_cw, .ref a_cv])), (a_cn, .inl (cI, 16, .inl (fun j => nI (cnum j)))), (a_cc, .inl (cI, 96, .inl (fun j => nI (cch j)))), (a_cw, .inl (cI, 96, .inl (fun j => nI (cway j)))), (a_cv, .inl (cI, 96, .inl cval)), (a_ln, .inr (2, [.ref a_mm, .int (nI len)])), (a_mm, .inl (cI, 16, .inl (fun j => nI (mem j)))), (a_ss, .inl (cI, 16, .inl (fun j => nI (st j)))), (a_rr, .inl (cI, 16, .inl rc)), (a_wn, .inl (cI, 16, .inl (fun j => nI (sn j)))), (a_cd, .inl (cI, 16, .inl cd))] sz)) 0 0 (va_A [(a_dk, .inr (3, [.ref a_ch, .ref a_cs, .ref a_ln, .ref a_ss, .ref a_rr, .ref a_wn, .ref a_cd, .int mt, .int ft])), (a_ch, .inr (1, [.ref a_rm, .ref a_hd, .ref a_sh, .ref a_vl, .int (nI n)])), (a_rm, .inl (cI, 40, .inl (fun j => nI (room j)))), (a_hd, .inl (cI, 40, .inl (fun j => nI (held j)))), (a_sh, .inl (cZ, 40, .inl (fun j => bI (shut j)))), (a_vl, .inl (cI, 320, .inl vals)), (a_cs, .inr (0, [.ref a_cn, .ref a_cc, .ref a_cw, .ref a_cv])), (a_cn, .inl (cI, 16, .inl (fun j => nI (cnum j)))), (a_cc, .inl (cI, 96, .inl (fun j => nI (cch j)))), (a_cw, .inl (cI, 96, .inl (fun j => nI (cway j)))), (a_cv, .inl (cI, 96, .inl cval)), (a_ln, .inr (2, [.ref a_mm, .int (nI len)])), (a_mm, .inl (cI, 16, .inl (fun j => nI (mem j)))), (a_ss, .inl (cI, 16, .inl (fun j => nI (st j)))), (a_rr, .inl (cI, 16, .inl rc)), (a_wn, .inl (cI, 16, .inl (fun j => nI (sn j)))), (a_cd, .inl (cI, 16, .inl cd))] sz) := by
  refine Met.ofW (cc := b_Dk_send) (maxL := 5) (ret := (some .int)) (by decide) rfl ?_
  intro p e s m args below meth c s₁ B hml hv
  obtain ⟨rfl, hsz, hP, hK, hD0⟩ := hv
  have hx := B.exec
  have hb := B.bytes
  have hr := B.returns
  have hts : ∀ w ∈ TT, w.before _ s = true := fun w h => atoms_spec (ws := (w_Dk_send)) B.pre w (List.mem_cons_of_mem _ h)
  have hown : s.vm.findClass R_Dk = some m.cls := findClass_of_methodNamed B.named
  have hlocks := B.notSynchronized
  subst hsz
  have hD := hD0.self (sz := s.heap.size)
  generalize hAe : va_A [(a_dk, .inr (3, [.ref a_ch, .ref a_cs, .ref a_ln, .ref a_ss, .ref a_rr, .ref a_wn, .ref a_cd, .int mt, .int ft])), (a_ch, .inr (1, [.ref a_rm, .ref a_hd, .ref a_sh, .ref a_vl, .int (nI n)])), (a_rm, .inl (cI, 40, .inl (fun j => nI (room j)))), (a_hd, .inl (cI, 40, .inl (fun j => nI (held j)))), (a_sh, .inl (cZ, 40, .inl (fun j => bI (shut j)))), (a_vl, .inl (cI, 320, .inl vals)), (a_cs, .inr (0, [.ref a_cn, .ref a_cc, .ref a_cw, .ref a_cv])), (a_cn, .inl (cI, 16, .inl (fun j => nI (cnum j)))), (a_cc, .inl (cI, 96, .inl (fun j => nI (cch j)))), (a_cw, .inl (cI, 96, .inl (fun j => nI (cway j)))), (a_cv, .inl (cI, 96, .inl cval)), (a_ln, .inr (2, [.ref a_mm, .int (nI len)])), (a_mm, .inl (cI, 16, .inl (fun j => nI (mem j)))), (a_ss, .inl (cI, 16, .inl (fun j => nI (st j)))), (a_rr, .inl (cI, 16, .inl rc)), (a_wn, .inl (cI, 16, .inl (fun j => nI (sn j)))), (a_cd, .inl (cI, 16, .inl cd))] s.heap.size = A at hD ⊢
  have hA : ∀ q : Nat, s.heap.size ≤ q → A q := fun q h => by rw [← hAe]; exact Or.inr h
  have hS : va_S A s.heap s.heap [] := va_S.rf
  have hP : va_P G vwCl [(a_dk, .inr (3, [.ref a_ch, .ref a_cs, .ref a_ln, .ref a_ss, .ref a_rr, .ref a_wn, .ref a_cd, .int mt, .int ft])), (a_ch, .inr (1, [.ref a_rm, .ref a_hd, .ref a_sh, .ref a_vl, .int (nI n)])), (a_rm, .inl (cI, 40, .inl (fun j => nI (room j)))), (a_hd, .inl (cI, 40, .inl (fun j => nI (held j)))), (a_sh, .inl (cZ, 40, .inl (fun j => bI (shut j)))), (a_vl, .inl (cI, 320, .inl vals)), (a_cs, .inr (0, [.ref a_cn, .ref a_cc, .ref a_cw, .ref a_cv])), (a_cn, .inl (cI, 16, .inl (fun j => nI (cnum j)))), (a_cc, .inl (cI, 96, .inl (fun j => nI (cch j)))), (a_cw, .inl (cI, 96, .inl (fun j => nI (cway j)))), (a_cv, .inl (cI, 96, .inl cval)), (a_ln, .inr (2, [.ref a_mm, .int (nI len)])), (a_mm, .inl (cI, 16, .inl (fun j => nI (mem j)))), (a_ss, .inl (cI, 16, .inl (fun j => nI (st j)))), (a_rr, .inl (cI, 16, .inl rc)), (a_wn, .inl (cI, 16, .inl (fun j => nI (sn j)))), (a_cd, .inl (cI, 16, .inl cd))] s.heap := hP
  have hl := lv_entry ([.ref a_dk, .int a, .int b, .int v]) (n := 5) (Nat.le_of_ble_eq_true rfl)
  rw [lg_entry_eq]
  generalize (lg_sl ([.ref a_dk, .int a, .int b, .int v]) ++ List.replicate (5 - (lg_sl ([.ref a_dk, .int a, .int b, .int v])).length) Slot.unset).toArray = ls at hl ⊢
  have hl : lv_has ls 5 [(0, .ref a_dk), (1, .int a), (2, .int b), (3, .int v)] := hl
  obtain ⟨hn, hrm, hV, hC, hL, hst⟩ := hI
  refine lv_aload_n hx hb d_Dk_send_0 rfl (lv_at hl 0 rfl) ?_
  refine lv_iload_n hx hb d_Dk_send_1 rfl (lv_at hl 1 rfl) ?_
  refine k_ro (va_runV (As := [.int a]) (rest := []) ⟨hx, hb, hml, hown, hts⟩ (c_Dk_isReady l G cI cZ cJ a_dk a_ch a_cs a_ln a_ss a_rr a_wn a_cd mt ft st a (by omega)) (cwV 1 hts (gV t_135 t_136 t_1 t_32 t_137) rfl rfl rfl (by decide +kernel) ⟨Nat.le_of_ble_eq_true rfl, Nat.le_of_ble_eq_true rfl⟩) (kR_V (ci := 3) (q0 := 0) hK hP rfl rfl [0, 13] rfl) rfl rfl hl.1 rfl (lv_room (Nat.le_of_ble_eq_true rfl)) d_Dk_send_2 ⟨Nat.le_of_ble_eq_true rfl, Nat.le_of_ble_eq_true rfl⟩) ?_
  refine b_if_eq (tgt := 19) hx hb d_Dk_send_5 (by decide) (fun c_a => ?_) (fun c_a => ?_)
  · refine lv_iconst (v := (-1)) hx hb d_Dk_send_19 (by decide +kernel) ?_
    exact k_wi hx hb hr hlocks hP hS (n, room, held, shut, vals, cnum, cch, cway, cval, len, mem, st, rc, sn, cd, mt, ft, L, cs, line) (rfl) (⟨M_send_0 c_a, hn, hrm, hV, hC, hL, hst⟩) d_Dk_send_20
  · refine lv_aload_n hx hb d_Dk_send_8 rfl (lv_at hl 0 rfl) ?_
    refine va_get (D := G) (ci := 3) (v := .ref a_ch) (C := R_Dk) (T := T_Dk) (N := 9) hx hb hts uw_Dk hown hK hP 0 rfl rfl 0 (by decide) (hts _ t_105) (fun _ h9 => h9) rfl d_Dk_send_9 ?_
    refine lv_iload_n hx hb d_Dk_send_12 rfl (lv_at hl 2 rfl) ?_
    refine k_ro (va_runV (As := [.int b]) (rest := []) ⟨hx, hb, hml, hown, hts⟩ (c_Ch_has l G cI cZ cJ a_ch a_rm a_hd a_sh a_vl n b) (cwV 1 hts (gV t_141 t_142 t_143 t_33 t_144) rfl rfl rfl (by decide +kernel) ⟨Nat.le_of_ble_eq_true rfl, Nat.le_of_ble_eq_true rfl⟩) (kR_V (ci := 1) (q0 := 1) hK hP rfl rfl [1] rfl) rfl rfl hl.1 rfl (lv_room (Nat.le_of_ble_eq_true rfl)) d_Dk_send_13 ⟨Nat.le_of_ble_eq_true rfl, Nat.le_of_ble_eq_true rfl⟩) ?_
    refine b_if_ne (tgt := 21) hx hb d_Dk_send_16 (by decide) (fun c_b => ?_) (fun c_b => ?_)
    · obtain ⟨q, hq, rfl, hsq⟩ := rdyB_of c_a
      obtain ⟨x, hxn, rfl⟩ := hasB_of (by omega) c_b
      have hx0 : x < 40 := by omega
      have hlt := hlt0 q hq hsq
      refine lv_aload_n hx hb d_Dk_send_21 rfl (lv_at hl 0 rfl) ?_
      refine lv_iload_n hx hb d_Dk_send_22 rfl (lv_at hl 1 rfl) ?_
      refine k_rwv (va_runV (As := [.int (nI q)]) (rest := []) ⟨hx, hb, hml, hown, hts⟩ (c_Dk_makeReady l G cI cZ cJ s.heap.size a_dk a_ch a_cs a_ln a_ss a_rr a_wn a_cd a_cn a_cc a_cw a_cv mt ft st cnum cch cway cval cs q (by omega) hC) (cwV 1 hts (gV t_145 t_146 t_2 t_32 t_147) rfl rfl rfl (by decide +kernel) ⟨Nat.le_of_ble_eq_true rfl, Nat.le_of_ble_eq_true rfl⟩) (kW_V (ci := 3) (q0 := 0) hK hP hD rfl rfl [0, 13, 6, 7] rfl (by decide) rfl) rfl rfl hl.1 rfl (lv_room (Nat.le_of_ble_eq_true rfl)) d_Dk_send_23 ⟨Nat.le_of_ble_eq_true rfl, Nat.le_of_ble_eq_true rfl⟩) hP hD hS hA [0, 13, 6, 7] rfl (fun _ => rfl) (fun u H locs hw hP hD hS => ?_)
      have hC := hw
      have hC : RelC (va_up cnum q 0) cch cway cval (va_up cs q []) := hC
      have hP : va_P G vwCl [(a_dk, .inr (3, [.ref a_ch, .ref a_cs, .ref a_ln, .ref a_ss, .ref a_rr, .ref a_wn, .ref a_cd, .int mt, .int ft])), (a_ch, .inr (1, [.ref a_rm, .ref a_hd, .ref a_sh, .ref a_vl, .int (nI n)])), (a_rm, .inl (cI, 40, .inl (fun j => nI (room j)))), (a_hd, .inl (cI, 40, .inl (fun j => nI (held j)))), (a_sh, .inl (cZ, 40, .inl (fun j => bI (shut j)))), (a_vl, .inl (cI, 320, .inl vals)), (a_cs, .inr (0, [.ref a_cn, .ref a_cc, .ref a_cw, .ref a_cv])), (a_cn, .inl (cI, 16, .inl (fun j => nI ((va_up cnum q 0) j)))), (a_cc, .inl (cI, 96, .inl (fun j => nI (cch j)))), (a_cw, .inl (cI, 96, .inl (fun j => nI (cway j)))), (a_cv, .inl (cI, 96, .inl cval)), (a_ln, .inr (2, [.ref a_mm, .int (nI len)])), (a_mm, .inl (cI, 16, .inl (fun j => nI (mem j)))), (a_ss, .inl (cI, 16, .inl (fun j => nI ((va_up st q 0) j)))), (a_rr, .inl (cI, 16, .inl rc)), (a_wn, .inl (cI, 16, .inl (fun j => nI (sn j)))), (a_cd, .inl (cI, 16, .inl cd))] H := hP
      have hD : va_D A [(a_dk, .inr (3, [.ref a_ch, .ref a_cs, .ref a_ln, .ref a_ss, .ref a_rr, .ref a_wn, .ref a_cd, .int mt, .int ft])), (a_ch, .inr (1, [.ref a_rm, .ref a_hd, .ref a_sh, .ref a_vl, .int (nI n)])), (a_rm, .inl (cI, 40, .inl (fun j => nI (room j)))), (a_hd, .inl (cI, 40, .inl (fun j => nI (held j)))), (a_sh, .inl (cZ, 40, .inl (fun j => bI (shut j)))), (a_vl, .inl (cI, 320, .inl vals)), (a_cs, .inr (0, [.ref a_cn, .ref a_cc, .ref a_cw, .ref a_cv])), (a_cn, .inl (cI, 16, .inl (fun j => nI ((va_up cnum q 0) j)))), (a_cc, .inl (cI, 96, .inl (fun j => nI (cch j)))), (a_cw, .inl (cI, 96, .inl (fun j => nI (cway j)))), (a_cv, .inl (cI, 96, .inl cval)), (a_ln, .inr (2, [.ref a_mm, .int (nI len)])), (a_mm, .inl (cI, 16, .inl (fun j => nI (mem j)))), (a_ss, .inl (cI, 16, .inl (fun j => nI ((va_up st q 0) j)))), (a_rr, .inl (cI, 16, .inl rc)), (a_wn, .inl (cI, 16, .inl (fun j => nI (sn j)))), (a_cd, .inl (cI, 16, .inl cd))] := hD
      refine lv_aload_n hx hb d_Dk_send_26 rfl (lv_at hl 0 rfl) ?_
      refine lv_iload_n hx hb d_Dk_send_27 rfl (lv_at hl 1 rfl) ?_
      refine lv_iload_n hx hb d_Dk_send_28 rfl (lv_at hl 2 rfl) ?_
      refine lv_iload_n hx hb d_Dk_send_29 rfl (lv_at hl 3 rfl) ?_
      refine k_rwi (va_runV (As := [.int (nI q), .int (nI x), .int v]) (rest := []) ⟨hx, hb, hml, hown, hts⟩ (c_Dk_trySend l G cI cZ cJ H.size a_dk a_ch a_cs a_ln a_ss a_rr a_wn a_cd a_rm a_hd a_sh a_vl a_cn a_cc a_cw a_cv a_mm mt ft n room held shut vals (va_up cnum q 0) cch cway cval len mem (va_up st q 0) rc sn cd L (va_up cs q []) line q x v (by omega) (by omega) (by omega) hV hC hL (st_up hst q (by decide))) (cwV 3 hts (gV t_152 t_153 t_3 t_32 t_154) rfl rfl rfl (by decide +kernel) ⟨Nat.le_of_ble_eq_true rfl, Nat.le_of_ble_eq_true rfl⟩) (kW_V (ci := 3) (q0 := 0) hK hP hD rfl rfl [0, 1, 2, 3, 4, 5, 6, 7, 8, 9, 10, 11, 12, 13, 14, 15, 16] rfl (by decide) rfl) rfl rfl hl.1 rfl (lv_room (Nat.le_of_ble_eq_true rfl)) d_Dk_send_30 ⟨Nat.le_of_ble_eq_true rfl, Nat.le_of_ble_eq_true rfl⟩) hP hD hS hA [0, 1, 2, 3, 4, 5, 6, 7, 8, 9, 10, 11, 12, 13, 14, 15, 16] rfl (fun _ => rfl) (fun r_4 u H locs hw hP hD hS => ?_)
      obtain ⟨held_4, vals_4, cnum_4, len_4, mem_4, st_4, rc_4, sn_4, cd_4, mt_4, ft_4, L_4, cs_4, line_4, o_4⟩ := u
      obtain ⟨rfl, hM, ho, hV, hC, hL, hst⟩ := hw
      have hM : m_tsend (n, room, shut, L, (va_up cs q []), line, (va_up st q 0), rc, sn, cd, mt, ft) q x v = ((n, room, shut, L_4, cs_4, line_4, st_4, rc_4, sn_4, cd_4, mt_4, ft_4), o_4) := hM
      have ho : o_4 ≤ 3 := ho
      have hV : RelV held_4 vals_4 L_4 := hV
      have hC : RelC cnum_4 cch cway cval cs_4 := hC
      have hL : RelL len_4 mem_4 line_4 := hL
      have hst : ∀ j, j < 16 → st_4 j < 5 := hst
      have hP : va_P G vwCl [(a_dk, .inr (3, [.ref a_ch, .ref a_cs, .ref a_ln, .ref a_ss, .ref a_rr, .ref a_wn, .ref a_cd, .int mt_4, .int ft_4])), (a_ch, .inr (1, [.ref a_rm, .ref a_hd, .ref a_sh, .ref a_vl, .int (nI n)])), (a_rm, .inl (cI, 40, .inl (fun j => nI (room j)))), (a_hd, .inl (cI, 40, .inl (fun j => nI (held_4 j)))), (a_sh, .inl (cZ, 40, .inl (fun j => bI (shut j)))), (a_vl, .inl (cI, 320, .inl vals_4)), (a_cs, .inr (0, [.ref a_cn, .ref a_cc, .ref a_cw, .ref a_cv])), (a_cn, .inl (cI, 16, .inl (fun j => nI (cnum_4 j)))), (a_cc, .inl (cI, 96, .inl (fun j => nI (cch j)))), (a_cw, .inl (cI, 96, .inl (fun j => nI (cway j)))), (a_cv, .inl (cI, 96, .inl cval)), (a_ln, .inr (2, [.ref a_mm, .int (nI len_4)])), (a_mm, .inl (cI, 16, .inl (fun j => nI (mem_4 j)))), (a_ss, .inl (cI, 16, .inl (fun j => nI (st_4 j)))), (a_rr, .inl (cI, 16, .inl rc_4)), (a_wn, .inl (cI, 16, .inl (fun j => nI (sn_4 j)))), (a_cd, .inl (cI, 16, .inl cd_4))] H := hP
      have hD : va_D A [(a_dk, .inr (3, [.ref a_ch, .ref a_cs, .ref a_ln, .ref a_ss, .ref a_rr, .ref a_wn, .ref a_cd, .int mt_4, .int ft_4])), (a_ch, .inr (1, [.ref a_rm, .ref a_hd, .ref a_sh, .ref a_vl, .int (nI n)])), (a_rm, .inl (cI, 40, .inl (fun j => nI (room j)))), (a_hd, .inl (cI, 40, .inl (fun j => nI (held_4 j)))), (a_sh, .inl (cZ, 40, .inl (fun j => bI (shut j)))), (a_vl, .inl (cI, 320, .inl vals_4)), (a_cs, .inr (0, [.ref a_cn, .ref a_cc, .ref a_cw, .ref a_cv])), (a_cn, .inl (cI, 16, .inl (fun j => nI (cnum_4 j)))), (a_cc, .inl (cI, 96, .inl (fun j => nI (cch j)))), (a_cw, .inl (cI, 96, .inl (fun j => nI (cway j)))), (a_cv, .inl (cI, 96, .inl cval)), (a_ln, .inr (2, [.ref a_mm, .int (nI len_4)])), (a_mm, .inl (cI, 16, .inl (fun j => nI (mem_4 j)))), (a_ss, .inl (cI, 16, .inl (fun j => nI (st_4 j)))), (a_rr, .inl (cI, 16, .inl rc_4)), (a_wn, .inl (cI, 16, .inl (fun j => nI (sn_4 j)))), (a_cd, .inl (cI, 16, .inl cd_4))] := hD
      refine lv_istore (lv' := [(4, .int (nI o_4)), (0, .ref a_dk), (1, .int (nI q)), (2, .int (nI x)), (3, .int v)]) hx hb d_Dk_send_33 hl (by decide) rfl (fun ls hl => ?_)
      refine lv_iload hx hb d_Dk_send_35 (lv_at hl 0 rfl) ?_
      refine lv_iconst (v := (nI 2)) hx hb d_Dk_send_37 (by decide +kernel) ?_
      refine n_icmp_ne (tgt := 59) hx hb d_Dk_send_38 (by decide) (by omega) (by decide) (fun c_c => ?_) (fun c_c => ?_)
      · refine lv_iload hx hb d_Dk_send_59 (lv_at hl 0 rfl) ?_
        exact k_wi hx hb hr hlocks hP hS (n, room, held_4, shut, vals_4, cnum_4, cch, cway, cval, len_4, mem_4, st_4, rc_4, sn_4, cd_4, mt_4, ft_4, L_4, cs_4, line_4) (rfl) (⟨M_send_1 (σ := (n, room, shut, L, cs, line, st, rc, sn, cd, mt, ft)) c_a c_b hq hx0 hM c_c, hn, hrm, hV, hC, hL, hst⟩) d_Dk_send_61
      · refine lv_aload_n hx hb d_Dk_send_41 rfl (lv_at hl 1 rfl) ?_
        refine va_get (D := G) (ci := 3) (v := .ref a_cs) (C := R_Dk) (T := T_Dk) (N := 9) hx hb hts uw_Dk hown hK hP 0 rfl rfl 1 (by decide) (hts _ t_106) (fun _ h9 => h9) rfl d_Dk_send_42 ?_
        refine lv_iload_n hx hb d_Dk_send_45 rfl (lv_at hl 2 rfl) ?_
        refine lv_iload_n hx hb d_Dk_send_46 rfl (lv_at hl 3 rfl) ?_
        refine lv_iconst (v := (nI 0)) hx hb d_Dk_send_47 (by decide +kernel) ?_
        refine lv_iload_n hx hb d_Dk_send_48 rfl (lv_at hl 4 rfl) ?_
        refine k_rwi (va_runV (As := [.int (nI q), .int (nI x), .int (nI 0), .int v]) (rest := []) ⟨hx, hb, hml, hown, hts⟩ (c_Cs_append l G cI cZ cJ H.size a_cs a_cn a_cc a_cw a_cv cnum_4 cch cway cval cs_4 q x 0 v (by omega) (by omega) (by decide) hC) (cwV 4 hts (gV t_207 t_208 t_209 t_34 t_210) rfl rfl rfl (by decide +kernel) ⟨Nat.le_of_ble_eq_true rfl, Nat.le_of_ble_eq_true rfl⟩) (kW_V (ci := 0) (q0 := 6) hK hP hD rfl rfl [6, 7, 8, 9, 10] rfl (by decide) rfl) rfl rfl hl.1 rfl (lv_room (Nat.le_of_ble_eq_true rfl)) d_Dk_send_49 ⟨Nat.le_of_ble_eq_true rfl, Nat.le_of_ble_eq_true rfl⟩) hP hD hS hA [6, 7, 8, 9, 10] rfl (fun _ => rfl) (fun r_6 u H locs hw hP hD hS => ?_)
        obtain ⟨cnum_6, cch_6, cway_6, cval_6⟩ := u
        obtain ⟨rfl, hC⟩ := hw
        have hC : RelC cnum_6 cch_6 cway_6 cval_6 (addC cs_4 q (x, 0, v)) := hC
        have hP : va_P G vwCl [(a_dk, .inr (3, [.ref a_ch, .ref a_cs, .ref a_ln, .ref a_ss, .ref a_rr, .ref a_wn, .ref a_cd, .int mt_4, .int ft_4])), (a_ch, .inr (1, [.ref a_rm, .ref a_hd, .ref a_sh, .ref a_vl, .int (nI n)])), (a_rm, .inl (cI, 40, .inl (fun j => nI (room j)))), (a_hd, .inl (cI, 40, .inl (fun j => nI (held_4 j)))), (a_sh, .inl (cZ, 40, .inl (fun j => bI (shut j)))), (a_vl, .inl (cI, 320, .inl vals_4)), (a_cs, .inr (0, [.ref a_cn, .ref a_cc, .ref a_cw, .ref a_cv])), (a_cn, .inl (cI, 16, .inl (fun j => nI (cnum_6 j)))), (a_cc, .inl (cI, 96, .inl (fun j => nI (cch_6 j)))), (a_cw, .inl (cI, 96, .inl (fun j => nI (cway_6 j)))), (a_cv, .inl (cI, 96, .inl cval_6)), (a_ln, .inr (2, [.ref a_mm, .int (nI len_4)])), (a_mm, .inl (cI, 16, .inl (fun j => nI (mem_4 j)))), (a_ss, .inl (cI, 16, .inl (fun j => nI (st_4 j)))), (a_rr, .inl (cI, 16, .inl rc_4)), (a_wn, .inl (cI, 16, .inl (fun j => nI (sn_4 j)))), (a_cd, .inl (cI, 16, .inl cd_4))] H := hP
        have hD : va_D A [(a_dk, .inr (3, [.ref a_ch, .ref a_cs, .ref a_ln, .ref a_ss, .ref a_rr, .ref a_wn, .ref a_cd, .int mt_4, .int ft_4])), (a_ch, .inr (1, [.ref a_rm, .ref a_hd, .ref a_sh, .ref a_vl, .int (nI n)])), (a_rm, .inl (cI, 40, .inl (fun j => nI (room j)))), (a_hd, .inl (cI, 40, .inl (fun j => nI (held_4 j)))), (a_sh, .inl (cZ, 40, .inl (fun j => bI (shut j)))), (a_vl, .inl (cI, 320, .inl vals_4)), (a_cs, .inr (0, [.ref a_cn, .ref a_cc, .ref a_cw, .ref a_cv])), (a_cn, .inl (cI, 16, .inl (fun j => nI (cnum_6 j)))), (a_cc, .inl (cI, 96, .inl (fun j => nI (cch_6 j)))), (a_cw, .inl (cI, 96, .inl (fun j => nI (cway_6 j)))), (a_cv, .inl (cI, 96, .inl cval_6)), (a_ln, .inr (2, [.ref a_mm, .int (nI len_4)])), (a_mm, .inl (cI, 16, .inl (fun j => nI (mem_4 j)))), (a_ss, .inl (cI, 16, .inl (fun j => nI (st_4 j)))), (a_rr, .inl (cI, 16, .inl rc_4)), (a_wn, .inl (cI, 16, .inl (fun j => nI (sn_4 j)))), (a_cd, .inl (cI, 16, .inl cd_4))] := hD
        refine lv_pop hx hb d_Dk_send_52 rfl ?_
        refine lv_aload_n hx hb d_Dk_send_53 rfl (lv_at hl 1 rfl) ?_
        refine lv_iload_n hx hb d_Dk_send_54 rfl (lv_at hl 2 rfl) ?_
        refine lv_iconst (v := (nI 1)) hx hb d_Dk_send_55 (by decide +kernel) ?_
        refine k_rwv (va_runV (As := [.int (nI q), .int (nI 1)]) (rest := []) ⟨hx, hb, hml, hown, hts⟩ (c_Dk_startWaiting l G cI cZ cJ H.size a_dk a_ch a_cs a_ln a_ss a_rr a_wn a_cd a_mm mt_4 ft_4 st_4 len_4 mem_4 line_4 q 1 (by omega) hL (by have e9 := tsend2 hM c_c; have e8 : line_4 = line := congrArg (fun z => gLine z) e9; rw [e8]; exact hlt)) (cwV 2 hts (gV t_211 t_212 t_9 t_32 t_213) rfl rfl rfl (by decide +kernel) ⟨Nat.le_of_ble_eq_true rfl, Nat.le_of_ble_eq_true rfl⟩) (kW_V (ci := 3) (q0 := 0) hK hP hD rfl rfl [0, 13, 11, 12] rfl (by decide) rfl) rfl rfl hl.1 rfl (lv_room (Nat.le_of_ble_eq_true rfl)) d_Dk_send_56 ⟨Nat.le_of_ble_eq_true rfl, Nat.le_of_ble_eq_true rfl⟩) hP hD hS hA [0, 13, 11, 12] rfl (fun _ => rfl) (fun u H locs hw hP hD hS => ?_)
        obtain ⟨len_7, mem_7⟩ := u
        have hL := hw
        have hL : RelL len_7 mem_7 (line_4 ++ [q]) := hL
        have hP : va_P G vwCl [(a_dk, .inr (3, [.ref a_ch, .ref a_cs, .ref a_ln, .ref a_ss, .ref a_rr, .ref a_wn, .ref a_cd, .int mt_4, .int ft_4])), (a_ch, .inr (1, [.ref a_rm, .ref a_hd, .ref a_sh, .ref a_vl, .int (nI n)])), (a_rm, .inl (cI, 40, .inl (fun j => nI (room j)))), (a_hd, .inl (cI, 40, .inl (fun j => nI (held_4 j)))), (a_sh, .inl (cZ, 40, .inl (fun j => bI (shut j)))), (a_vl, .inl (cI, 320, .inl vals_4)), (a_cs, .inr (0, [.ref a_cn, .ref a_cc, .ref a_cw, .ref a_cv])), (a_cn, .inl (cI, 16, .inl (fun j => nI (cnum_6 j)))), (a_cc, .inl (cI, 96, .inl (fun j => nI (cch_6 j)))), (a_cw, .inl (cI, 96, .inl (fun j => nI (cway_6 j)))), (a_cv, .inl (cI, 96, .inl cval_6)), (a_ln, .inr (2, [.ref a_mm, .int (nI len_7)])), (a_mm, .inl (cI, 16, .inl (fun j => nI (mem_7 j)))), (a_ss, .inl (cI, 16, .inl (fun j => nI ((va_up st_4 q 1) j)))), (a_rr, .inl (cI, 16, .inl rc_4)), (a_wn, .inl (cI, 16, .inl (fun j => nI (sn_4 j)))), (a_cd, .inl (cI, 16, .inl cd_4))] H := hP
        have hD : va_D A [(a_dk, .inr (3, [.ref a_ch, .ref a_cs, .ref a_ln, .ref a_ss, .ref a_rr, .ref a_wn, .ref a_cd, .int mt_4, .int ft_4])), (a_ch, .inr (1, [.ref a_rm, .ref a_hd, .ref a_sh, .ref a_vl, .int (nI n)])), (a_rm, .inl (cI, 40, .inl (fun j => nI (room j)))), (a_hd, .inl (cI, 40, .inl (fun j => nI (held_4 j)))), (a_sh, .inl (cZ, 40, .inl (fun j => bI (shut j)))), (a_vl, .inl (cI, 320, .inl vals_4)), (a_cs, .inr (0, [.ref a_cn, .ref a_cc, .ref a_cw, .ref a_cv])), (a_cn, .inl (cI, 16, .inl (fun j => nI (cnum_6 j)))), (a_cc, .inl (cI, 96, .inl (fun j => nI (cch_6 j)))), (a_cw, .inl (cI, 96, .inl (fun j => nI (cway_6 j)))), (a_cv, .inl (cI, 96, .inl cval_6)), (a_ln, .inr (2, [.ref a_mm, .int (nI len_7)])), (a_mm, .inl (cI, 16, .inl (fun j => nI (mem_7 j)))), (a_ss, .inl (cI, 16, .inl (fun j => nI ((va_up st_4 q 1) j)))), (a_rr, .inl (cI, 16, .inl rc_4)), (a_wn, .inl (cI, 16, .inl (fun j => nI (sn_4 j)))), (a_cd, .inl (cI, 16, .inl cd_4))] := hD
        refine lv_iload hx hb d_Dk_send_59 (lv_at hl 0 rfl) ?_
        exact k_wi hx hb hr hlocks hP hS (n, room, held_4, shut, vals_4, cnum_6, cch_6, cway_6, cval_6, len_7, mem_7, va_up st_4 q 1, rc_4, sn_4, cd_4, mt_4, ft_4, L_4, addC cs_4 q (x, 0, v), line_4 ++ [q]) (rfl) (⟨M_send_2 (σ := (n, room, shut, L, cs, line, st, rc, sn, cd, mt, ft)) c_a c_b hq hx0 hM c_c, hn, hrm, hV, hC, hL, st_up hst q (by decide)⟩) d_Dk_send_61
    · refine lv_iconst (v := (-1)) hx hb d_Dk_send_19 (by decide +kernel) ?_
      exact k_wi hx hb hr hlocks hP hS (n, room, held, shut, vals, cnum, cch, cway, cval, len, mem, st, rc, sn, cd, mt, ft, L, cs, line) (rfl) (⟨M_send_00 c_b, hn, hrm, hV, hC, hL, hst⟩) d_Dk_send_20
set_option maxHeartbeats 4000000 in
set_option maxRecDepth 100000 in
theorem c_Dk_receive (l : Launch) (G : va_G) (cI cZ cJ : ClassId) (sz : Nat) (a_dk : Nat) (a_ch : Nat) (a_cs : Nat) (a_ln : Nat) (a_ss : Nat) (a_rr : Nat) (a_wn : Nat) (a_cd : Nat) (a_rm : Nat) (a_hd : Nat) (a_sh : Nat) (a_vl : Nat) (a_cn : Nat) (a_cc : Nat) (a_cw : Nat) (a_cv : Nat) (a_mm : Nat) (mt : Int32) (ft : Int32) (n : Nat) (room : Nat → Nat) (held : Nat → Nat) (shut : Nat → Bool) (vals : Nat → Int32) (cnum : Nat → Nat) (cch : Nat → Nat) (cway : Nat → Nat) (cval : Nat → Int32) (len : Nat) (mem : Nat → Nat) (st : Nat → Nat) (rc : Nat → Int32) (sn : Nat → Nat) (cd : Nat → Int32) (L : Nat → List Int32) (cs : Nat → List Kase) (line : List Nat) (a : Int32) (b : Int32) (hI : DI n room held vals cnum cch cway cval len mem st L cs line) (hlt0 : ∀ q, q < 16 → (st q = 0 ∨ st q = 4) → line.length < 16) : Met l y_Dk_receive (w_Dk_receive) ({ frames := 5, cells := 0, slots := 0, locals := 117 }) (va_Pc [.ref a_dk, .int a, .int b] (kW G vwCl [(cI, .int), (cZ, .boolean), (cJ, .long)] [(a_dk, .inr (3, [.ref a_ch, .ref a_cs, .ref a_ln, .ref a_ss, .ref a_rr, .ref a_wn, .ref a_cd, .int mt, .int ft])), (a_ch, .inr (1, [.ref a_rm, .ref a_hd, .ref a_sh, .ref a_vl, .int (nI n)])), (a_rm, .inl (cI, 40, .inl (fun j => nI (room j)))), (a_hd, .inl (cI, 40, .inl (fun j => nI (held j)))), (a_sh, .inl (cZ, 40, .inl (fun j => bI (shut j)))), (a_vl, .inl (cI, 320, .inl vals)), (a_cs, .inr (0, [.ref a_cn, .ref a_cc, .ref a_cw, .ref a_cv])), (a_cn, .inl (cI, 16, .inl (fun j => nI (cnum j)))), (a_cc, .inl (cI, 96, .inl (fun j => nI (cch j)))), (a_cw, .inl (cI, 96, .inl (fun j => nI (cway j)))), (a_cv, .inl (cI, 96, .inl cval)), (a_ln, .inr (2, [.ref a_mm, .int (nI len)])), (a_mm, .inl (cI, 16, .inl (fun j => nI (mem j)))), (a_ss, .inl (cI, 16, .inl (fun j => nI (st j)))), (a_rr, .inl (cI, 16, .inl rc)), (a_wn, .inl (cI, 16, .inl (fun j => nI (sn j)))), (a_cd, .inl (cI, 16, .inl cd))] sz)) (va_Qi (fun (r : Int32) (u : Nat × (Nat → Nat) × (Nat → Nat) × (Nat → Bool) × (Nat → Int32) × (Nat → Nat) × (Nat → Nat) × (Nat → Nat) × (Nat → Int32) × Nat × (Nat → Nat) × (Nat → Nat) × (Nat → Int32) × (Nat → Nat) × (Nat → Int32) × Int32 × Int32 × (Nat → List Int32) × (Nat → List Kase) × List Nat) => M_recv (n, room, shut, L, cs, line, st, rc, sn, cd, mt, ft) a b = ((u.1, u.2.1, u.2.2.2.1, u.2.2.2.2.2.2.2.2.2.2.2.2.2.2.2.2.2.1, u.2.2.2.2.2.2.2.2.2.2.2.2.2.2.2.2.2.2.1, u.2.2.2.2.2.2.2.2.2.2.2.2.2.2.2.2.2.2.2, u.2.2.2.2.2.2.2.2.2.2.2.1, u.2.2.2.2.2.2.2.2.2.2.2.2.1, u.2.2.2.2.2.2.2.2.2.2.2.2.2.1, u.2.2.2.2.2.2.2.2.2.2.2.2.2.2.1, u.2.2.2.2.2.2.2.2.2.2.2.2.2.2.2.1, u.2.2.2.2.2.2.2.2.2.2.2.2.2.2.2.2.1), r) ∧ DI u.1 u.2.1 u.2.2.1 u.2.2.2.2.1 u.2.2.2.2.2.1 u.2.2.2.2.2.2.1 u.2.2.2.2.2.2.2.1 u.2.2.2.2.2.2.2.2.1 u.2.2.2.2.2.2.2.2.2.1 u.2.2.2.2.2.2.2.2.2.2.1 u.2.2.2.2.2.2.2.2.2.2.2.1 u.2.2.2.2.2.2.2.2.2.2.2.2.2.2.2.2.2.1 u.2.2.2.2.2.2.2.2.2.2.2.2.2.2.2.2.2.2.1 u.2.2.2.2.2.2.2.2.2.2.2.2.2.2.2.2.2.2.2) (fun u t => va_P G vwCl [(a_dk, .inr (3, [.ref a_ch, .ref a_cs, .ref a_ln, .ref a_ss, .ref a_rr, .ref a_wn, .ref a_cd, .int u.2.2.2.2.2.2.2.2.2.2.2.2.2.2.2.1, .int u.2.2.2.2.2.2.2.2.2.2.2.2.2.2.2.2.1])), (a_ch, .inr (1, [.ref a_rm, .ref a_hd, .ref a_sh, .ref a_vl, .int (nI u.1)])), (a_rm, .inl (cI, 40, .inl (fun j => nI (u.2.1 j)))), (a_hd, .inl (cI, 40, .inl (fun j => nI (u.2.2.1 j)))), (a_sh, .inl (cZ, 40, .inl (fun j => bI (u.2.2.2.1 j)))), (a_vl, .inl (cI, 320, .inl u.2.2.2.2.1)), (a_cs, .inr (0, [.ref a_cn, .ref a_cc, .ref a_cw, .ref a_cv])), (a_cn, .inl (cI, 16, .inl (fun j => nI (u.2.2.2.2.2.1 j)))), (a_cc, .inl (cI, 96, .inl (fun j => nI (u.2.2.2.2.2.2.1 j)))), (a_cw, .inl (cI, 96, .inl (fun j => nI (u.2.2.2.2.2.2.2.1 j)))), (a_cv, .inl (cI, 96, .inl u.2.2.2.2.2.2.2.2.1)), (a_ln, .inr (2, [.ref a_mm, .int (nI u.2.2.2.2.2.2.2.2.2.1)])), (a_mm, .inl (cI, 16, .inl (fun j => nI (u.2.2.2.2.2.2.2.2.2.2.1 j)))), (a_ss, .inl (cI, 16, .inl (fun j => nI (u.2.2.2.2.2.2.2.2.2.2.2.1 j)))), (a_rr, .inl (cI, 16, .inl u.2.2.2.2.2.2.2.2.2.2.2.2.1)), (a_wn, .inl (cI, 16, .inl (fun j => nI (u.2.2.2.2.2.2.2.2.2.2.2.2.2.1 j)))), (a_cd, .inl (cI, 16, .inl u.2.2.2.2.2.2.2.2.2.2.2.2.2.2.1))] t.heap) (va_A [(a_dk, .inr (3, [.ref a_ch, .ref a_cs, .ref a_ln, .ref a_ss, .ref a_rr, .ref a_wn, .ref a_cd, .int mt, .int ft])), (a_ch, .inr (1, [.ref a_rm, .ref a_hd, .ref a_sh, .ref a_vl, .int (nI n)])), (a_rm, .inl (cI, 40, .inl (fun j => nI (room j)))), (a_hd, .inl (cI, 40, .inl (fun j => nI (held j)))), (a_sh, .inl (cZ, 40, .inl (fun j => bI (shut j)))), (a_vl, .inl (cI, 320, .inl vals)), (a_cs, .inr (0, [.ref a_cn, .ref a_cc, .ref a_cw, .ref a_cv])), (a_cn, .inl (cI, 16, .inl (fun j => nI (cnum j)))), (a_cc, .inl (cI, 96, .inl (fun j => nI (cch j)))), (a_cw, .inl (cI, 96, .inl (fun j => nI (cway j)))), (a_cv, .inl (cI, 96, .inl cval)), (a_ln, .inr (2, [.ref a_mm, .int (nI len)])), (a_mm, .inl (cI, 16, .inl (fun j => nI (mem j)))), (a_ss, .inl (cI, 16, .inl (fun j => nI (st j)))), (a_rr, .inl (cI, 16, .inl rc)), (a_wn, .inl (cI, 16, .inl (fun j => nI (sn j)))), (a_cd, .inl (cI, 16, .inl cd))] sz)) 0 0 (va_A [(a_dk, .inr (3, [.ref a_ch, .ref a_cs, .ref a_ln, .ref a_ss, .ref a_rr, .ref a_wn, .ref a_cd, .int mt, .int ft])), (a_ch, .inr (1, [.ref a_rm, .ref a_hd, .ref a_sh, .ref a_vl, .int (nI n)])), (a_rm, .inl (cI, 40, .inl (fun j => nI (room j)))), (a_hd, .inl (cI, 40, .inl (fun j => nI (held j)))), (a_sh, .inl (cZ, 40, .inl (fun j => bI (shut j)))), (a_vl, .inl (cI, 320, .inl vals)), (a_cs, .inr (0, [.ref a_cn, .ref a_cc, .ref a_cw, .ref a_cv])), (a_cn, .inl (cI, 16, .inl (fun j => nI (cnum j)))), (a_cc, .inl (cI, 96, .inl (fun j => nI (cch j)))), (a_cw, .inl (cI, 96, .inl (fun j => nI (cway j)))), (a_cv, .inl (cI, 96, .inl cval)), (a_ln, .inr (2, [.ref a_mm, .int (nI len)])), (a_mm, .inl (cI, 16, .inl (fun j => nI (mem j)))), (a_ss, .inl (cI, 16, .inl (fun j => nI (st j)))), (a_rr, .inl (cI, 16, .inl rc)), (a_wn, .inl (cI, 16, .inl (fun j => nI (sn j)))), (a_cd, .inl (cI, 16, .inl cd))] sz) := by
  refine Met.ofW (cc := b_Dk_receive) (maxL := 4) (ret := (some .int)) (by decide) rfl ?_
  intro p e s m args below meth c s₁ B hml hv
  obtain ⟨rfl, hsz, hP, hK, hD0⟩ := hv
  have hx := B.exec
  have hb := B.bytes
  have hr := B.returns
  have hts : ∀ w ∈ TT, w.before _ s = true := fun w h => atoms_spec (ws := (w_Dk_receive)) B.pre w (List.mem_cons_of_mem _ h)
  have hown : s.vm.findClass R_Dk = some m.cls := findClass_of_methodNamed B.named
  have hlocks := B.notSynchronized
  subst hsz
  have hD := hD0.self (sz := s.heap.size)
  generalize hAe : va_A [(a_dk, .inr (3, [.ref a_ch, .ref a_cs, .ref a_ln, .ref a_ss, .ref a_rr, .ref a_wn, .ref a_cd, .int mt, .int ft])), (a_ch, .inr (1, [.ref a_rm, .ref a_hd, .ref a_sh, .ref a_vl, .int (nI n)])), (a_rm, .inl (cI, 40, .inl (fun j => nI (room j)))), (a_hd, .inl (cI, 40, .inl (fun j => nI (held j)))), (a_sh, .inl (cZ, 40, .inl (fun j => bI (shut j)))), (a_vl, .inl (cI, 320, .inl vals)), (a_cs, .inr (0, [.ref a_cn, .ref a_cc, .ref a_cw, .ref a_cv])), (a_cn, .inl (cI, 16, .inl (fun j => nI (cnum j)))), (a_cc, .inl (cI, 96, .inl (fun j => nI (cch j)))), (a_cw, .inl (cI, 96, .inl (fun j => nI (cway j)))), (a_cv, .inl (cI, 96, .inl cval)), (a_ln, .inr (2, [.ref a_mm, .int (nI len)])), (a_mm, .inl (cI, 16, .inl (fun j => nI (mem j)))), (a_ss, .inl (cI, 16, .inl (fun j => nI (st j)))), (a_rr, .inl (cI, 16, .inl rc)), (a_wn, .inl (cI, 16, .inl (fun j => nI (sn j)))), (a_cd, .inl (cI, 16, .inl cd))] s.heap.size = A at hD ⊢
  have hA : ∀ q : Nat, s.heap.size ≤ q → A q := fun q h => by rw [← hAe]; exact Or.inr h
  have hS : va_S A s.heap s.heap [] := va_S.rf
  have hP : va_P G vwCl [(a_dk, .inr (3, [.ref a_ch, .ref a_cs, .ref a_ln, .ref a_ss, .ref a_rr, .ref a_wn, .ref a_cd, .int mt, .int ft])), (a_ch, .inr (1, [.ref a_rm, .ref a_hd, .ref a_sh, .ref a_vl, .int (nI n)])), (a_rm, .inl (cI, 40, .inl (fun j => nI (room j)))), (a_hd, .inl (cI, 40, .inl (fun j => nI (held j)))), (a_sh, .inl (cZ, 40, .inl (fun j => bI (shut j)))), (a_vl, .inl (cI, 320, .inl vals)), (a_cs, .inr (0, [.ref a_cn, .ref a_cc, .ref a_cw, .ref a_cv])), (a_cn, .inl (cI, 16, .inl (fun j => nI (cnum j)))), (a_cc, .inl (cI, 96, .inl (fun j => nI (cch j)))), (a_cw, .inl (cI, 96, .inl (fun j => nI (cway j)))), (a_cv, .inl (cI, 96, .inl cval)), (a_ln, .inr (2, [.ref a_mm, .int (nI len)])), (a_mm, .inl (cI, 16, .inl (fun j => nI (mem j)))), (a_ss, .inl (cI, 16, .inl (fun j => nI (st j)))), (a_rr, .inl (cI, 16, .inl rc)), (a_wn, .inl (cI, 16, .inl (fun j => nI (sn j)))), (a_cd, .inl (cI, 16, .inl cd))] s.heap := hP
  have hl := lv_entry ([.ref a_dk, .int a, .int b]) (n := 4) (Nat.le_of_ble_eq_true rfl)
  rw [lg_entry_eq]
  generalize (lg_sl ([.ref a_dk, .int a, .int b]) ++ List.replicate (4 - (lg_sl ([.ref a_dk, .int a, .int b])).length) Slot.unset).toArray = ls at hl ⊢
  have hl : lv_has ls 4 [(0, .ref a_dk), (1, .int a), (2, .int b)] := hl
  obtain ⟨hn, hrm, hV, hC, hL, hst⟩ := hI
  refine lv_aload_n hx hb d_Dk_receive_0 rfl (lv_at hl 0 rfl) ?_
  refine lv_iload_n hx hb d_Dk_receive_1 rfl (lv_at hl 1 rfl) ?_
  refine k_ro (va_runV (As := [.int a]) (rest := []) ⟨hx, hb, hml, hown, hts⟩ (c_Dk_isReady l G cI cZ cJ a_dk a_ch a_cs a_ln a_ss a_rr a_wn a_cd mt ft st a (by omega)) (cwV 1 hts (gV t_135 t_136 t_1 t_32 t_137) rfl rfl rfl (by decide +kernel) ⟨Nat.le_of_ble_eq_true rfl, Nat.le_of_ble_eq_true rfl⟩) (kR_V (ci := 3) (q0 := 0) hK hP rfl rfl [0, 13] rfl) rfl rfl hl.1 rfl (lv_room (Nat.le_of_ble_eq_true rfl)) d_Dk_receive_2 ⟨Nat.le_of_ble_eq_true rfl, Nat.le_of_ble_eq_true rfl⟩) ?_
  refine b_if_eq (tgt := 19) hx hb d_Dk_receive_5 (by decide) (fun c_a => ?_) (fun c_a => ?_)
  · refine lv_iconst (v := (-1)) hx hb d_Dk_receive_19 (by decide +kernel) ?_
    exact k_wi hx hb hr hlocks hP hS (n, room, held, shut, vals, cnum, cch, cway, cval, len, mem, st, rc, sn, cd, mt, ft, L, cs, line) (rfl) (⟨M_recv_0 c_a, hn, hrm, hV, hC, hL, hst⟩) d_Dk_receive_20
  · refine lv_aload_n hx hb d_Dk_receive_8 rfl (lv_at hl 0 rfl) ?_
    refine va_get (D := G) (ci := 3) (v := .ref a_ch) (C := R_Dk) (T := T_Dk) (N := 9) hx hb hts uw_Dk hown hK hP 0 rfl rfl 0 (by decide) (hts _ t_105) (fun _ h9 => h9) rfl d_Dk_receive_9 ?_
    refine lv_iload_n hx hb d_Dk_receive_12 rfl (lv_at hl 2 rfl) ?_
    refine k_ro (va_runV (As := [.int b]) (rest := []) ⟨hx, hb, hml, hown, hts⟩ (c_Ch_has l G cI cZ cJ a_ch a_rm a_hd a_sh a_vl n b) (cwV 1 hts (gV t_141 t_142 t_143 t_33 t_144) rfl rfl rfl (by decide +kernel) ⟨Nat.le_of_ble_eq_true rfl, Nat.le_of_ble_eq_true rfl⟩) (kR_V (ci := 1) (q0 := 1) hK hP rfl rfl [1] rfl) rfl rfl hl.1 rfl (lv_room (Nat.le_of_ble_eq_true rfl)) d_Dk_receive_13 ⟨Nat.le_of_ble_eq_true rfl, Nat.le_of_ble_eq_true rfl⟩) ?_
    refine b_if_ne (tgt := 21) hx hb d_Dk_receive_16 (by decide) (fun c_b => ?_) (fun c_b => ?_)
    · obtain ⟨q, hq, rfl, hsq⟩ := rdyB_of c_a
      obtain ⟨x, hxn, rfl⟩ := hasB_of (by omega) c_b
      have hx0 : x < 40 := by omega
      have hlt := hlt0 q hq hsq
      refine lv_aload_n hx hb d_Dk_receive_21 rfl (lv_at hl 0 rfl) ?_
      refine lv_iload_n hx hb d_Dk_receive_22 rfl (lv_at hl 1 rfl) ?_
      refine k_rwv (va_runV (As := [.int (nI q)]) (rest := []) ⟨hx, hb, hml, hown, hts⟩ (c_Dk_makeReady l G cI cZ cJ s.heap.size a_dk a_ch a_cs a_ln a_ss a_rr a_wn a_cd a_cn a_cc a_cw a_cv mt ft st cnum cch cway cval cs q (by omega) hC) (cwV 1 hts (gV t_145 t_146 t_2 t_32 t_147) rfl rfl rfl (by decide +kernel) ⟨Nat.le_of_ble_eq_true rfl, Nat.le_of_ble_eq_true rfl⟩) (kW_V (ci := 3) (q0 := 0) hK hP hD rfl rfl [0, 13, 6, 7] rfl (by decide) rfl) rfl rfl hl.1 rfl (lv_room (Nat.le_of_ble_eq_true rfl)) d_Dk_receive_23 ⟨Nat.le_of_ble_eq_true rfl, Nat.le_of_ble_eq_true rfl⟩) hP hD hS hA [0, 13, 6, 7] rfl (fun _ => rfl) (fun u H locs hw hP hD hS => ?_)
      have hC := hw
      have hC : RelC (va_up cnum q 0) cch cway cval (va_up cs q []) := hC
      have hP : va_P G vwCl [(a_dk, .inr (3, [.ref a_ch, .ref a_cs, .ref a_ln, .ref a_ss, .ref a_rr, .ref a_wn, .ref a_cd, .int mt, .int ft])), (a_ch, .inr (1, [.ref a_rm, .ref a_hd, .ref a_sh, .ref a_vl, .int (nI n)])), (a_rm, .inl (cI, 40, .inl (fun j => nI (room j)))), (a_hd, .inl (cI, 40, .inl (fun j => nI (held j)))), (a_sh, .inl (cZ, 40, .inl (fun j => bI (shut j)))), (a_vl, .inl (cI, 320, .inl vals)), (a_cs, .inr (0, [.ref a_cn, .ref a_cc, .ref a_cw, .ref a_cv])), (a_cn, .inl (cI, 16, .inl (fun j => nI ((va_up cnum q 0) j)))), (a_cc, .inl (cI, 96, .inl (fun j => nI (cch j)))), (a_cw, .inl (cI, 96, .inl (fun j => nI (cway j)))), (a_cv, .inl (cI, 96, .inl cval)), (a_ln, .inr (2, [.ref a_mm, .int (nI len)])), (a_mm, .inl (cI, 16, .inl (fun j => nI (mem j)))), (a_ss, .inl (cI, 16, .inl (fun j => nI ((va_up st q 0) j)))), (a_rr, .inl (cI, 16, .inl rc)), (a_wn, .inl (cI, 16, .inl (fun j => nI (sn j)))), (a_cd, .inl (cI, 16, .inl cd))] H := hP
      have hD : va_D A [(a_dk, .inr (3, [.ref a_ch, .ref a_cs, .ref a_ln, .ref a_ss, .ref a_rr, .ref a_wn, .ref a_cd, .int mt, .int ft])), (a_ch, .inr (1, [.ref a_rm, .ref a_hd, .ref a_sh, .ref a_vl, .int (nI n)])), (a_rm, .inl (cI, 40, .inl (fun j => nI (room j)))), (a_hd, .inl (cI, 40, .inl (fun j => nI (held j)))), (a_sh, .inl (cZ, 40, .inl (fun j => bI (shut j)))), (a_vl, .inl (cI, 320, .inl vals)), (a_cs, .inr (0, [.ref a_cn, .ref a_cc, .ref a_cw, .ref a_cv])), (a_cn, .inl (cI, 16, .inl (fun j => nI ((va_up cnum q 0) j)))), (a_cc, .inl (cI, 96, .inl (fun j => nI (cch j)))), (a_cw, .inl (cI, 96, .inl (fun j => nI (cway j)))), (a_cv, .inl (cI, 96, .inl cval)), (a_ln, .inr (2, [.ref a_mm, .int (nI len)])), (a_mm, .inl (cI, 16, .inl (fun j => nI (mem j)))), (a_ss, .inl (cI, 16, .inl (fun j => nI ((va_up st q 0) j)))), (a_rr, .inl (cI, 16, .inl rc)), (a_wn, .inl (cI, 16, .inl (fun j => nI (sn j)))), (a_cd, .inl (cI, 16, .inl cd))] := hD
      refine lv_aload_n hx hb d_Dk_receive_26 rfl (lv_at hl 0 rfl) ?_
      refine lv_iload_n hx hb d_Dk_receive_27 rfl (lv_at hl 1 rfl) ?_
      refine lv_iload_n hx hb d_Dk_receive_28 rfl (lv_at hl 2 rfl) ?_
      refine k_rwi (va_runV (As := [.int (nI q), .int (nI x)]) (rest := []) ⟨hx, hb, hml, hown, hts⟩ (c_Dk_tryReceive l G cI cZ cJ H.size a_dk a_ch a_cs a_ln a_ss a_rr a_wn a_cd a_rm a_hd a_sh a_vl a_cn a_cc a_cw a_cv a_mm mt ft n room held shut vals (va_up cnum q 0) cch cway cval len mem (va_up st q 0) rc sn cd L (va_up cs q []) line q x (by omega) (by omega) (by omega) hV hC hL (st_up hst q (by decide))) (cwV 2 hts (gV t_222 t_223 t_10 t_32 t_224) rfl rfl rfl (by decide +kernel) ⟨Nat.le_of_ble_eq_true rfl, Nat.le_of_ble_eq_true rfl⟩) (kW_V (ci := 3) (q0 := 0) hK hP hD rfl rfl [0, 1, 2, 3, 4, 5, 6, 7, 8, 9, 10, 11, 12, 13, 14, 15, 16] rfl (by decide) rfl) rfl rfl hl.1 rfl (lv_room (Nat.le_of_ble_eq_true rfl)) d_Dk_receive_29 ⟨Nat.le_of_ble_eq_true rfl, Nat.le_of_ble_eq_true rfl⟩) hP hD hS hA [0, 1, 2, 3, 4, 5, 6, 7, 8, 9, 10, 11, 12, 13, 14, 15, 16] rfl (fun _ => rfl) (fun r_4 u H locs hw hP hD hS => ?_)
      obtain ⟨held_4, vals_4, cnum_4, len_4, mem_4, st_4, rc_4, sn_4, cd_4, mt_4, ft_4, L_4, cs_4, line_4, o_4⟩ := u
      obtain ⟨rfl, hM, ho, hV, hC, hL, hst⟩ := hw
      have hM : m_trecv (n, room, shut, L, (va_up cs q []), line, (va_up st q 0), rc, sn, cd, mt, ft) q x = ((n, room, shut, L_4, cs_4, line_4, st_4, rc_4, sn_4, cd_4, mt_4, ft_4), o_4) := hM
      have ho : o_4 ≤ 3 := ho
      have hV : RelV held_4 vals_4 L_4 := hV
      have hC : RelC cnum_4 cch cway cval cs_4 := hC
      have hL : RelL len_4 mem_4 line_4 := hL
      have hst : ∀ j, j < 16 → st_4 j < 5 := hst
      have hP : va_P G vwCl [(a_dk, .inr (3, [.ref a_ch, .ref a_cs, .ref a_ln, .ref a_ss, .ref a_rr, .ref a_wn, .ref a_cd, .int mt_4, .int ft_4])), (a_ch, .inr (1, [.ref a_rm, .ref a_hd, .ref a_sh, .ref a_vl, .int (nI n)])), (a_rm, .inl (cI, 40, .inl (fun j => nI (room j)))), (a_hd, .inl (cI, 40, .inl (fun j => nI (held_4 j)))), (a_sh, .inl (cZ, 40, .inl (fun j => bI (shut j)))), (a_vl, .inl (cI, 320, .inl vals_4)), (a_cs, .inr (0, [.ref a_cn, .ref a_cc, .ref a_cw, .ref a_cv])), (a_cn, .inl (cI, 16, .inl (fun j => nI (cnum_4 j)))), (a_cc, .inl (cI, 96, .inl (fun j => nI (cch j)))), (a_cw, .inl (cI, 96, .inl (fun j => nI (cway j)))), (a_cv, .inl (cI, 96, .inl cval)), (a_ln, .inr (2, [.ref a_mm, .int (nI len_4)])), (a_mm, .inl (cI, 16, .inl (fun j => nI (mem_4 j)))), (a_ss, .inl (cI, 16, .inl (fun j => nI (st_4 j)))), (a_rr, .inl (cI, 16, .inl rc_4)), (a_wn, .inl (cI, 16, .inl (fun j => nI (sn_4 j)))), (a_cd, .inl (cI, 16, .inl cd_4))] H := hP
      have hD : va_D A [(a_dk, .inr (3, [.ref a_ch, .ref a_cs, .ref a_ln, .ref a_ss, .ref a_rr, .ref a_wn, .ref a_cd, .int mt_4, .int ft_4])), (a_ch, .inr (1, [.ref a_rm, .ref a_hd, .ref a_sh, .ref a_vl, .int (nI n)])), (a_rm, .inl (cI, 40, .inl (fun j => nI (room j)))), (a_hd, .inl (cI, 40, .inl (fun j => nI (held_4 j)))), (a_sh, .inl (cZ, 40, .inl (fun j => bI (shut j)))), (a_vl, .inl (cI, 320, .inl vals_4)), (a_cs, .inr (0, [.ref a_cn, .ref a_cc, .ref a_cw, .ref a_cv])), (a_cn, .inl (cI, 16, .inl (fun j => nI (cnum_4 j)))), (a_cc, .inl (cI, 96, .inl (fun j => nI (cch j)))), (a_cw, .inl (cI, 96, .inl (fun j => nI (cway j)))), (a_cv, .inl (cI, 96, .inl cval)), (a_ln, .inr (2, [.ref a_mm, .int (nI len_4)])), (a_mm, .inl (cI, 16, .inl (fun j => nI (mem_4 j)))), (a_ss, .inl (cI, 16, .inl (fun j => nI (st_4 j)))), (a_rr, .inl (cI, 16, .inl rc_4)), (a_wn, .inl (cI, 16, .inl (fun j => nI (sn_4 j)))), (a_cd, .inl (cI, 16, .inl cd_4))] := hD
      refine lv_istore_n (lv' := [(3, .int (nI o_4)), (0, .ref a_dk), (1, .int (nI q)), (2, .int (nI x))]) hx hb d_Dk_receive_32 rfl hl (by decide) rfl (fun ls hl => ?_)
      refine lv_iload_n hx hb d_Dk_receive_33 rfl (lv_at hl 0 rfl) ?_
      refine lv_iconst (v := (nI 2)) hx hb d_Dk_receive_34 (by decide +kernel) ?_
      refine n_icmp_ne (tgt := 56) hx hb d_Dk_receive_35 (by decide) (by omega) (by decide) (fun c_c => ?_) (fun c_c => ?_)
      · refine lv_iload_n hx hb d_Dk_receive_56 rfl (lv_at hl 0 rfl) ?_
        exact k_wi hx hb hr hlocks hP hS (n, room, held_4, shut, vals_4, cnum_4, cch, cway, cval, len_4, mem_4, st_4, rc_4, sn_4, cd_4, mt_4, ft_4, L_4, cs_4, line_4) (rfl) (⟨M_recv_1 (σ := (n, room, shut, L, cs, line, st, rc, sn, cd, mt, ft)) c_a c_b hq hx0 hM c_c, hn, hrm, hV, hC, hL, hst⟩) d_Dk_receive_57
      · refine lv_aload_n hx hb d_Dk_receive_38 rfl (lv_at hl 1 rfl) ?_
        refine va_get (D := G) (ci := 3) (v := .ref a_cs) (C := R_Dk) (T := T_Dk) (N := 9) hx hb hts uw_Dk hown hK hP 0 rfl rfl 1 (by decide) (hts _ t_106) (fun _ h9 => h9) rfl d_Dk_receive_39 ?_
        refine lv_iload_n hx hb d_Dk_receive_42 rfl (lv_at hl 2 rfl) ?_
        refine lv_iload_n hx hb d_Dk_receive_43 rfl (lv_at hl 3 rfl) ?_
        refine lv_iconst (v := (nI 1)) hx hb d_Dk_receive_44 (by decide +kernel) ?_
        refine lv_iconst (v := (nI 0)) hx hb d_Dk_receive_45 (by decide +kernel) ?_
        refine k_rwi (va_runV (As := [.int (nI q), .int (nI x), .int (nI 1), .int (nI 0)]) (rest := []) ⟨hx, hb, hml, hown, hts⟩ (c_Cs_append l G cI cZ cJ H.size a_cs a_cn a_cc a_cw a_cv cnum_4 cch cway cval cs_4 q x 1 (nI 0) (by omega) (by omega) (by decide) hC) (cwV 4 hts (gV t_207 t_208 t_209 t_34 t_210) rfl rfl rfl (by decide +kernel) ⟨Nat.le_of_ble_eq_true rfl, Nat.le_of_ble_eq_true rfl⟩) (kW_V (ci := 0) (q0 := 6) hK hP hD rfl rfl [6, 7, 8, 9, 10] rfl (by decide) rfl) rfl rfl hl.1 rfl (lv_room (Nat.le_of_ble_eq_true rfl)) d_Dk_receive_46 ⟨Nat.le_of_ble_eq_true rfl, Nat.le_of_ble_eq_true rfl⟩) hP hD hS hA [6, 7, 8, 9, 10] rfl (fun _ => rfl) (fun r_6 u H locs hw hP hD hS => ?_)
        obtain ⟨cnum_6, cch_6, cway_6, cval_6⟩ := u
        obtain ⟨rfl, hC⟩ := hw
        have hC : RelC cnum_6 cch_6 cway_6 cval_6 (addC cs_4 q (x, 1, (nI 0))) := hC
        have hP : va_P G vwCl [(a_dk, .inr (3, [.ref a_ch, .ref a_cs, .ref a_ln, .ref a_ss, .ref a_rr, .ref a_wn, .ref a_cd, .int mt_4, .int ft_4])), (a_ch, .inr (1, [.ref a_rm, .ref a_hd, .ref a_sh, .ref a_vl, .int (nI n)])), (a_rm, .inl (cI, 40, .inl (fun j => nI (room j)))), (a_hd, .inl (cI, 40, .inl (fun j => nI (held_4 j)))), (a_sh, .inl (cZ, 40, .inl (fun j => bI (shut j)))), (a_vl, .inl (cI, 320, .inl vals_4)), (a_cs, .inr (0, [.ref a_cn, .ref a_cc, .ref a_cw, .ref a_cv])), (a_cn, .inl (cI, 16, .inl (fun j => nI (cnum_6 j)))), (a_cc, .inl (cI, 96, .inl (fun j => nI (cch_6 j)))), (a_cw, .inl (cI, 96, .inl (fun j => nI (cway_6 j)))), (a_cv, .inl (cI, 96, .inl cval_6)), (a_ln, .inr (2, [.ref a_mm, .int (nI len_4)])), (a_mm, .inl (cI, 16, .inl (fun j => nI (mem_4 j)))), (a_ss, .inl (cI, 16, .inl (fun j => nI (st_4 j)))), (a_rr, .inl (cI, 16, .inl rc_4)), (a_wn, .inl (cI, 16, .inl (fun j => nI (sn_4 j)))), (a_cd, .inl (cI, 16, .inl cd_4))] H := hP
        have hD : va_D A [(a_dk, .inr (3, [.ref a_ch, .ref a_cs, .ref a_ln, .ref a_ss, .ref a_rr, .ref a_wn, .ref a_cd, .int mt_4, .int ft_4])), (a_ch, .inr (1, [.ref a_rm, .ref a_hd, .ref a_sh, .ref a_vl, .int (nI n)])), (a_rm, .inl (cI, 40, .inl (fun j => nI (room j)))), (a_hd, .inl (cI, 40, .inl (fun j => nI (held_4 j)))), (a_sh, .inl (cZ, 40, .inl (fun j => bI (shut j)))), (a_vl, .inl (cI, 320, .inl vals_4)), (a_cs, .inr (0, [.ref a_cn, .ref a_cc, .ref a_cw, .ref a_cv])), (a_cn, .inl (cI, 16, .inl (fun j => nI (cnum_6 j)))), (a_cc, .inl (cI, 96, .inl (fun j => nI (cch_6 j)))), (a_cw, .inl (cI, 96, .inl (fun j => nI (cway_6 j)))), (a_cv, .inl (cI, 96, .inl cval_6)), (a_ln, .inr (2, [.ref a_mm, .int (nI len_4)])), (a_mm, .inl (cI, 16, .inl (fun j => nI (mem_4 j)))), (a_ss, .inl (cI, 16, .inl (fun j => nI (st_4 j)))), (a_rr, .inl (cI, 16, .inl rc_4)), (a_wn, .inl (cI, 16, .inl (fun j => nI (sn_4 j)))), (a_cd, .inl (cI, 16, .inl cd_4))] := hD
        refine lv_pop hx hb d_Dk_receive_49 rfl ?_
        refine lv_aload_n hx hb d_Dk_receive_50 rfl (lv_at hl 1 rfl) ?_
        refine lv_iload_n hx hb d_Dk_receive_51 rfl (lv_at hl 2 rfl) ?_
        refine lv_iconst (v := (nI 2)) hx hb d_Dk_receive_52 (by decide +kernel) ?_
        refine k_rwv (va_runV (As := [.int (nI q), .int (nI 2)]) (rest := []) ⟨hx, hb, hml, hown, hts⟩ (c_Dk_startWaiting l G cI cZ cJ H.size a_dk a_ch a_cs a_ln a_ss a_rr a_wn a_cd a_mm mt_4 ft_4 st_4 len_4 mem_4 line_4 q 2 (by omega) hL (by have e9 := trecv2 hM c_c; have e8 : line_4 = line := congrArg (fun z => gLine z) e9; rw [e8]; exact hlt)) (cwV 2 hts (gV t_211 t_212 t_9 t_32 t_213) rfl rfl rfl (by decide +kernel) ⟨Nat.le_of_ble_eq_true rfl, Nat.le_of_ble_eq_true rfl⟩) (kW_V (ci := 3) (q0 := 0) hK hP hD rfl rfl [0, 13, 11, 12] rfl (by decide) rfl) rfl rfl hl.1 rfl (lv_room (Nat.le_of_ble_eq_true rfl)) d_Dk_receive_53 ⟨Nat.le_of_ble_eq_true rfl, Nat.le_of_ble_eq_true rfl⟩) hP hD hS hA [0, 13, 11, 12] rfl (fun _ => rfl) (fun u H locs hw hP hD hS => ?_)
        obtain ⟨len_7, mem_7⟩ := u
        have hL := hw
        have hL : RelL len_7 mem_7 (line_4 ++ [q]) := hL
        have hP : va_P G vwCl [(a_dk, .inr (3, [.ref a_ch, .ref a_cs, .ref a_ln, .ref a_ss, .ref a_rr, .ref a_wn, .ref a_cd, .int mt_4, .int ft_4])), (a_ch, .inr (1, [.ref a_rm, .ref a_hd, .ref a_sh, .ref a_vl, .int (nI n)])), (a_rm, .inl (cI, 40, .inl (fun j => nI (room j)))), (a_hd, .inl (cI, 40, .inl (fun j => nI (held_4 j)))), (a_sh, .inl (cZ, 40, .inl (fun j => bI (shut j)))), (a_vl, .inl (cI, 320, .inl vals_4)), (a_cs, .inr (0, [.ref a_cn, .ref a_cc, .ref a_cw, .ref a_cv])), (a_cn, .inl (cI, 16, .inl (fun j => nI (cnum_6 j)))), (a_cc, .inl (cI, 96, .inl (fun j => nI (cch_6 j)))), (a_cw, .inl (cI, 96, .inl (fun j => nI (cway_6 j)))), (a_cv, .inl (cI, 96, .inl cval_6)), (a_ln, .inr (2, [.ref a_mm, .int (nI len_7)])), (a_mm, .inl (cI, 16, .inl (fun j => nI (mem_7 j)))), (a_ss, .inl (cI, 16, .inl (fun j => nI ((va_up st_4 q 2) j)))), (a_rr, .inl (cI, 16, .inl rc_4)), (a_wn, .inl (cI, 16, .inl (fun j => nI (sn_4 j)))), (a_cd, .inl (cI, 16, .inl cd_4))] H := hP
        have hD : va_D A [(a_dk, .inr (3, [.ref a_ch, .ref a_cs, .ref a_ln, .ref a_ss, .ref a_rr, .ref a_wn, .ref a_cd, .int mt_4, .int ft_4])), (a_ch, .inr (1, [.ref a_rm, .ref a_hd, .ref a_sh, .ref a_vl, .int (nI n)])), (a_rm, .inl (cI, 40, .inl (fun j => nI (room j)))), (a_hd, .inl (cI, 40, .inl (fun j => nI (held_4 j)))), (a_sh, .inl (cZ, 40, .inl (fun j => bI (shut j)))), (a_vl, .inl (cI, 320, .inl vals_4)), (a_cs, .inr (0, [.ref a_cn, .ref a_cc, .ref a_cw, .ref a_cv])), (a_cn, .inl (cI, 16, .inl (fun j => nI (cnum_6 j)))), (a_cc, .inl (cI, 96, .inl (fun j => nI (cch_6 j)))), (a_cw, .inl (cI, 96, .inl (fun j => nI (cway_6 j)))), (a_cv, .inl (cI, 96, .inl cval_6)), (a_ln, .inr (2, [.ref a_mm, .int (nI len_7)])), (a_mm, .inl (cI, 16, .inl (fun j => nI (mem_7 j)))), (a_ss, .inl (cI, 16, .inl (fun j => nI ((va_up st_4 q 2) j)))), (a_rr, .inl (cI, 16, .inl rc_4)), (a_wn, .inl (cI, 16, .inl (fun j => nI (sn_4 j)))), (a_cd, .inl (cI, 16, .inl cd_4))] := hD
        refine lv_iload_n hx hb d_Dk_receive_56 rfl (lv_at hl 0 rfl) ?_
        exact k_wi hx hb hr hlocks hP hS (n, room, held_4, shut, vals_4, cnum_6, cch_6, cway_6, cval_6, len_7, mem_7, va_up st_4 q 2, rc_4, sn_4, cd_4, mt_4, ft_4, L_4, addC cs_4 q (x, 1, (nI 0)), line_4 ++ [q]) (rfl) (⟨M_recv_2 (σ := (n, room, shut, L, cs, line, st, rc, sn, cd, mt, ft)) c_a c_b hq hx0 hM c_c, hn, hrm, hV, hC, hL, st_up hst q (by decide)⟩) d_Dk_receive_57
    · refine lv_iconst (v := (-1)) hx hb d_Dk_receive_19 (by decide +kernel) ?_
      exact k_wi hx hb hr hlocks hP hS (n, room, held, shut, vals, cnum, cch, cway, cval, len, mem, st, rc, sn, cd, mt, ft, L, cs, line) (rfl) (⟨M_recv_00 c_b, hn, hrm, hV, hC, hL, hst⟩) d_Dk_receive_20
end
section
set_option maxHeartbeats 4000000 in
set_option maxRecDepth 100000 in
theorem c_Dk_choose (l : Launch) (G : va_G) (cI cZ cJ : ClassId) (sz : Nat) (a_dk : Nat) (a_ch : Nat) (a_cs : Nat) (a_ln : Nat) (a_ss : Nat) (a_rr : Nat) (a_wn : Nat) (a_cd : Nat) (a_rm : Nat) (a_hd : Nat) (a_sh : Nat) (a_vl : Nat) (a_cn : Nat) (a_cc : Nat) (a_cw : Nat) (a_cv : Nat) (a_mm : Nat) (mt : Int32) (ft : Int32) (n : Nat) (room : Nat → Nat) (held : Nat → Nat) (shut : Nat → Bool) (vals : Nat → Int32) (cnum : Nat → Nat) (cch : Nat → Nat) (cway : Nat → Nat) (cval : Nat → Int32) (len : Nat) (mem : Nat → Nat) (st : Nat → Nat) (rc : Nat → Int32) (sn : Nat → Nat) (cd : Nat → Int32) (L : Nat → List Int32) (cs : Nat → List Kase) (line : List Nat) (a : Int32) (y : Int32) (d : Bool) (hI : DI n room held vals cnum cch cway cval len mem st L cs line) (hlt0 : ∀ q, q < 16 → (st q = 0 ∨ st q = 4) → line.length < 16) : Met l y_Dk_choose (w_Dk_choose) ({ frames := 6, cells := 0, slots := 0, locals := 144 }) (va_Pc [.ref a_dk, .int a, .int y, .int (bI d)] (kW G vwCl [(cI, .int), (cZ, .boolean), (cJ, .long)] [(a_dk, .inr (3, [.ref a_ch, .ref a_cs, .ref a_ln, .ref a_ss, .ref a_rr, .ref a_wn, .ref a_cd, .int mt, .int ft])), (a_ch, .inr (1, [.ref a_rm, .ref a_hd, .ref a_sh, .ref a_vl, .int (nI n)])), (a_rm, .inl (cI, 40, .inl (fun j => nI (room j)))), (a_hd, .inl (cI, 40, .inl (fun j => nI (held j)))), (a_sh, .inl (cZ, 40, .inl (fun j => bI (shut j)))), (a_vl, .inl (cI, 320, .inl vals)), (a_cs, .inr (0, [.ref a_cn, .ref a_cc, .ref a_cw, .ref a_cv])), (a_cn, .inl (cI, 16, .inl (fun j => nI (cnum j)))), (a_cc, .inl (cI, 96, .inl (fun j => nI (cch j)))), (a_cw, .inl (cI, 96, .inl (fun j => nI (cway j)))), (a_cv, .inl (cI, 96, .inl cval)), (a_ln, .inr (2, [.ref a_mm, .int (nI len)])), (a_mm, .inl (cI, 16, .inl (fun j => nI (mem j)))), (a_ss, .inl (cI, 16, .inl (fun j => nI (st j)))), (a_rr, .inl (cI, 16, .inl rc)), (a_wn, .inl (cI, 16, .inl (fun j => nI (sn j)))), (a_cd, .inl (cI, 16, .inl cd))] sz)) (va_Qi (fun (r : Int32) (u : Nat × (Nat → Nat) × (Nat → Nat) × (Nat → Bool) × (Nat → Int32) × (Nat → Nat) × (Nat → Nat) × (Nat → Nat) × (Nat → Int32) × Nat × (Nat → Nat) × (Nat → Nat) × (Nat → Int32) × (Nat → Nat) × (Nat → Int32) × Int32 × Int32 × (Nat → List Int32) × (Nat → List Kase) × List Nat) => M_choose (n, room, shut, L, cs, line, st, rc, sn, cd, mt, ft) a y d = ((u.1, u.2.1, u.2.2.2.1, u.2.2.2.2.2.2.2.2.2.2.2.2.2.2.2.2.2.1, u.2.2.2.2.2.2.2.2.2.2.2.2.2.2.2.2.2.2.1, u.2.2.2.2.2.2.2.2.2.2.2.2.2.2.2.2.2.2.2, u.2.2.2.2.2.2.2.2.2.2.2.1, u.2.2.2.2.2.2.2.2.2.2.2.2.1, u.2.2.2.2.2.2.2.2.2.2.2.2.2.1, u.2.2.2.2.2.2.2.2.2.2.2.2.2.2.1, u.2.2.2.2.2.2.2.2.2.2.2.2.2.2.2.1, u.2.2.2.2.2.2.2.2.2.2.2.2.2.2.2.2.1), r) ∧ DI u.1 u.2.1 u.2.2.1 u.2.2.2.2.1 u.2.2.2.2.2.1 u.2.2.2.2.2.2.1 u.2.2.2.2.2.2.2.1 u.2.2.2.2.2.2.2.2.1 u.2.2.2.2.2.2.2.2.2.1 u.2.2.2.2.2.2.2.2.2.2.1 u.2.2.2.2.2.2.2.2.2.2.2.1 u.2.2.2.2.2.2.2.2.2.2.2.2.2.2.2.2.2.1 u.2.2.2.2.2.2.2.2.2.2.2.2.2.2.2.2.2.2.1 u.2.2.2.2.2.2.2.2.2.2.2.2.2.2.2.2.2.2.2) (fun u t => va_P G vwCl [(a_dk, .inr (3, [.ref a_ch, .ref a_cs, .ref a_ln, .ref a_ss, .ref a_rr, .ref a_wn, .ref a_cd, .int u.2.2.2.2.2.2.2.2.2.2.2.2.2.2.2.1, .int u.2.2.2.2.2.2.2.2.2.2.2.2.2.2.2.2.1])), (a_ch, .inr (1, [.ref a_rm, .ref a_hd, .ref a_sh, .ref a_vl, .int (nI u.1)])), (a_rm, .inl (cI, 40, .inl (fun j => nI (u.2.1 j)))), (a_hd, .inl (cI, 40, .inl (fun j => nI (u.2.2.1 j)))), (a_sh, .inl (cZ, 40, .inl (fun j => bI (u.2.2.2.1 j)))), (a_vl, .inl (cI, 320, .inl u.2.2.2.2.1)), (a_cs, .inr (0, [.ref a_cn, .ref a_cc, .ref a_cw, .ref a_cv])), (a_cn, .inl (cI, 16, .inl (fun j => nI (u.2.2.2.2.2.1 j)))), (a_cc, .inl (cI, 96, .inl (fun j => nI (u.2.2.2.2.2.2.1 j)))), (a_cw, .inl (cI, 96, .inl (fun j => nI (u.2.2.2.2.2.2.2.1 j)))), (a_cv, .inl (cI, 96, .inl u.2.2.2.2.2.2.2.2.1)), (a_ln, .inr (2, [.ref a_mm, .int (nI u.2.2.2.2.2.2.2.2.2.1)])), (a_mm, .inl (cI, 16, .inl (fun j => nI (u.2.2.2.2.2.2.2.2.2.2.1 j)))), (a_ss, .inl (cI, 16, .inl (fun j => nI (u.2.2.2.2.2.2.2.2.2.2.2.1 j)))), (a_rr, .inl (cI, 16, .inl u.2.2.2.2.2.2.2.2.2.2.2.2.1)), (a_wn, .inl (cI, 16, .inl (fun j => nI (u.2.2.2.2.2.2.2.2.2.2.2.2.2.1 j)))), (a_cd, .inl (cI, 16, .inl u.2.2.2.2.2.2.2.2.2.2.2.2.2.2.1))] t.heap) (va_A [(a_dk, .inr (3, [.ref a_ch, .ref a_cs, .ref a_ln, .ref a_ss, .ref a_rr, .ref a_wn, .ref a_cd, .int mt, .int ft])), (a_ch, .inr (1, [.ref a_rm, .ref a_hd, .ref a_sh, .ref a_vl, .int (nI n)])), (a_rm, .inl (cI, 40, .inl (fun j => nI (room j)))), (a_hd, .inl (cI, 40, .inl (fun j => nI (held j)))), (a_sh, .inl (cZ, 40, .inl (fun j => bI (shut j)))), (a_vl, .inl (cI, 320, .inl vals)), (a_cs, .inr (0, [.ref a_cn, .ref a_cc, .ref a_cw, .ref a_cv])), (a_cn, .inl (cI, 16, .inl (fun j => nI (cnum j)))), (a_cc, .inl (cI, 96, .inl (fun j => nI (cch j)))), (a_cw, .inl (cI, 96, .inl (fun j => nI (cway j)))), (a_cv, .inl (cI, 96, .inl cval)), (a_ln, .inr (2, [.ref a_mm, .int (nI len)])), (a_mm, .inl (cI, 16, .inl (fun j => nI (mem j)))), (a_ss, .inl (cI, 16, .inl (fun j => nI (st j)))), (a_rr, .inl (cI, 16, .inl rc)), (a_wn, .inl (cI, 16, .inl (fun j => nI (sn j)))), (a_cd, .inl (cI, 16, .inl cd))] sz)) 0 0 (va_A [(a_dk, .inr (3, [.ref a_ch, .ref a_cs, .ref a_ln, .ref a_ss, .ref a_rr, .ref a_wn, .ref a_cd, .int mt, .int ft])), (a_ch, .inr (1, [.ref a_rm, .ref a_hd, .ref a_sh, .ref a_vl, .int (nI n)])), (a_rm, .inl (cI, 40, .inl (fun j => nI (room j)))), (a_hd, .inl (cI, 40, .inl (fun j => nI (held j)))), (a_sh, .inl (cZ, 40, .inl (fun j => bI (shut j)))), (a_vl, .inl (cI, 320, .inl vals)), (a_cs, .inr (0, [.ref a_cn, .ref a_cc, .ref a_cw, .ref a_cv])), (a_cn, .inl (cI, 16, .inl (fun j => nI (cnum j)))), (a_cc, .inl (cI, 96, .inl (fun j => nI (cch j)))), (a_cw, .inl (cI, 96, .inl (fun j => nI (cway j)))), (a_cv, .inl (cI, 96, .inl cval)), (a_ln, .inr (2, [.ref a_mm, .int (nI len)])), (a_mm, .inl (cI, 16, .inl (fun j => nI (mem j)))), (a_ss, .inl (cI, 16, .inl (fun j => nI (st j)))), (a_rr, .inl (cI, 16, .inl rc)), (a_wn, .inl (cI, 16, .inl (fun j => nI (sn j)))), (a_cd, .inl (cI, 16, .inl cd))] sz) := by
  refine Met.ofW (cc := b_Dk_choose) (maxL := 5) (ret := (some .int)) (by decide) rfl ?_
  intro p e s m args below meth c s₁ B hml hv
  obtain ⟨rfl, hsz, hP, hK, hD0⟩ := hv
  have hx := B.exec
  have hb := B.bytes
  have hr := B.returns
  have hts : ∀ w ∈ TT, w.before _ s = true := fun w h => atoms_spec (ws := (w_Dk_choose)) B.pre w (List.mem_cons_of_mem _ h)
  have hown : s.vm.findClass R_Dk = some m.cls := findClass_of_methodNamed B.named
  have hlocks := B.notSynchronized
  subst hsz
  have hD := hD0.self (sz := s.heap.size)
  generalize hAe : va_A [(a_dk, .inr (3, [.ref a_ch, .ref a_cs, .ref a_ln, .ref a_ss, .ref a_rr, .ref a_wn, .ref a_cd, .int mt, .int ft])), (a_ch, .inr (1, [.ref a_rm, .ref a_hd, .ref a_sh, .ref a_vl, .int (nI n)])), (a_rm, .inl (cI, 40, .inl (fun j => nI (room j)))), (a_hd, .inl (cI, 40, .inl (fun j => nI (held j)))), (a_sh, .inl (cZ, 40, .inl (fun j => bI (shut j)))), (a_vl, .inl (cI, 320, .inl vals)), (a_cs, .inr (0, [.ref a_cn, .ref a_cc, .ref a_cw, .ref a_cv])), (a_cn, .inl (cI, 16, .inl (fun j => nI (cnum j)))), (a_cc, .inl (cI, 96, .inl (fun j => nI (cch j)))), (a_cw, .inl (cI, 96, .inl (fun j => nI (cway j)))), (a_cv, .inl (cI, 96, .inl cval)), (a_ln, .inr (2, [.ref a_mm, .int (nI len)])), (a_mm, .inl (cI, 16, .inl (fun j => nI (mem j)))), (a_ss, .inl (cI, 16, .inl (fun j => nI (st j)))), (a_rr, .inl (cI, 16, .inl rc)), (a_wn, .inl (cI, 16, .inl (fun j => nI (sn j)))), (a_cd, .inl (cI, 16, .inl cd))] s.heap.size = A at hD ⊢
  have hA : ∀ q : Nat, s.heap.size ≤ q → A q := fun q h => by rw [← hAe]; exact Or.inr h
  have hS : va_S A s.heap s.heap [] := va_S.rf
  have hP : va_P G vwCl [(a_dk, .inr (3, [.ref a_ch, .ref a_cs, .ref a_ln, .ref a_ss, .ref a_rr, .ref a_wn, .ref a_cd, .int mt, .int ft])), (a_ch, .inr (1, [.ref a_rm, .ref a_hd, .ref a_sh, .ref a_vl, .int (nI n)])), (a_rm, .inl (cI, 40, .inl (fun j => nI (room j)))), (a_hd, .inl (cI, 40, .inl (fun j => nI (held j)))), (a_sh, .inl (cZ, 40, .inl (fun j => bI (shut j)))), (a_vl, .inl (cI, 320, .inl vals)), (a_cs, .inr (0, [.ref a_cn, .ref a_cc, .ref a_cw, .ref a_cv])), (a_cn, .inl (cI, 16, .inl (fun j => nI (cnum j)))), (a_cc, .inl (cI, 96, .inl (fun j => nI (cch j)))), (a_cw, .inl (cI, 96, .inl (fun j => nI (cway j)))), (a_cv, .inl (cI, 96, .inl cval)), (a_ln, .inr (2, [.ref a_mm, .int (nI len)])), (a_mm, .inl (cI, 16, .inl (fun j => nI (mem j)))), (a_ss, .inl (cI, 16, .inl (fun j => nI (st j)))), (a_rr, .inl (cI, 16, .inl rc)), (a_wn, .inl (cI, 16, .inl (fun j => nI (sn j)))), (a_cd, .inl (cI, 16, .inl cd))] s.heap := hP
  have hl := lv_entry ([.ref a_dk, .int a, .int y, .int (bI d)]) (n := 5) (Nat.le_of_ble_eq_true rfl)
  rw [lg_entry_eq]
  generalize (lg_sl ([.ref a_dk, .int a, .int y, .int (bI d)]) ++ List.replicate (5 - (lg_sl ([.ref a_dk, .int a, .int y, .int (bI d)])).length) Slot.unset).toArray = ls at hl ⊢
  have hl : lv_has ls 5 [(0, .ref a_dk), (1, .int a), (2, .int y), (3, .int (bI d))] := hl
  obtain ⟨hn, hrm, hV, hC, hL, hst⟩ := hI
  refine lv_aload_n hx hb d_Dk_choose_0 rfl (lv_at hl 0 rfl) ?_
  refine lv_iload_n hx hb d_Dk_choose_1 rfl (lv_at hl 1 rfl) ?_
  refine k_ro (va_runV (As := [.int a]) (rest := []) ⟨hx, hb, hml, hown, hts⟩ (c_Dk_isReady l G cI cZ cJ a_dk a_ch a_cs a_ln a_ss a_rr a_wn a_cd mt ft st a (by omega)) (cwV 1 hts (gV t_135 t_136 t_1 t_32 t_137) rfl rfl rfl (by decide +kernel) ⟨Nat.le_of_ble_eq_true rfl, Nat.le_of_ble_eq_true rfl⟩) (kR_V (ci := 3) (q0 := 0) hK hP rfl rfl [0, 13] rfl) rfl rfl hl.1 rfl (lv_room (Nat.le_of_ble_eq_true rfl)) d_Dk_choose_2 ⟨Nat.le_of_ble_eq_true rfl, Nat.le_of_ble_eq_true rfl⟩) ?_
  refine b_if_eq (tgt := 12) hx hb d_Dk_choose_5 (by decide) (fun c_a => ?_) (fun c_a => ?_)
  · refine lv_iconst (v := (-1)) hx hb d_Dk_choose_12 (by decide +kernel) ?_
    exact k_wi hx hb hr hlocks hP hS (n, room, held, shut, vals, cnum, cch, cway, cval, len, mem, st, rc, sn, cd, mt, ft, L, cs, line) (rfl) (⟨M_choose_0 c_a, hn, hrm, hV, hC, hL, hst⟩) d_Dk_choose_13
  · refine lv_iload_n hx hb d_Dk_choose_8 rfl (lv_at hl 2 rfl) ?_
    refine lv_if_ge (tgt := 14) hx hb d_Dk_choose_9 (by decide) (fun c_b => ?_) (fun c_b => ?_)
    · obtain ⟨q, hq, rfl, hsq⟩ := rdyB_of c_a
      have hlt := hlt0 q hq hsq
      obtain ⟨k0, hk0, rfl⟩ := nI_of (Int32.not_lt.mpr c_b)
      have hh2 := (hC q hq).2.1
      have hpl : (m_pl shut room L cs line q).length ≤ (cs q).length := by unfold m_pl; exact Nat.le_trans (List.length_filter_le _ _) (Nat.le_of_eq List.length_range)
      refine lv_aload_n hx hb d_Dk_choose_14 rfl (lv_at hl 0 rfl) ?_
      refine lv_iload_n hx hb d_Dk_choose_15 rfl (lv_at hl 1 rfl) ?_
      refine k_ro (va_runV (As := [.int (nI q)]) (rest := []) ⟨hx, hb, hml, hown, hts⟩ (c_Dk_countPossible l G cI cZ cJ a_dk a_ch a_cs a_ln a_ss a_rr a_wn a_cd a_rm a_hd a_sh a_vl a_cn a_cc a_cw a_cv a_mm mt ft n room held shut cnum cch cway len mem vals cval L cs line q (by omega) (by omega) hV hC hL) (cwV 1 hts (gV t_254 t_255 t_12 t_32 t_256) rfl rfl rfl (by decide +kernel) ⟨Nat.le_of_ble_eq_true rfl, Nat.le_of_ble_eq_true rfl⟩) (kR_V (ci := 3) (q0 := 0) hK hP rfl rfl [0, 1, 2, 3, 4, 6, 7, 8, 9, 11, 12] rfl) rfl rfl hl.1 rfl (lv_room (Nat.le_of_ble_eq_true rfl)) d_Dk_choose_16 ⟨Nat.le_of_ble_eq_true rfl, Nat.le_of_ble_eq_true rfl⟩) ?_
      refine lv_istore (lv' := [(4, .int (nI ((m_pl shut room L cs line q).length))), (0, .ref a_dk), (1, .int (nI q)), (2, .int (nI k0)), (3, .int (bI d))]) hx hb d_Dk_choose_19 hl (by decide) rfl (fun ls hl => ?_)
      refine lv_iload hx hb d_Dk_choose_21 (lv_at hl 0 rfl) ?_
      refine n_if_le (tgt := 41) hx hb d_Dk_choose_23 (by decide) (by omega) (fun c_c => ?_) (fun c_c => ?_)
      · refine lv_iload_n hx hb d_Dk_choose_41 rfl (lv_at hl 4 rfl) ?_
        refine b_if_eq (tgt := 61) hx hb d_Dk_choose_42 (by decide) (fun c_d => ?_) (fun c_d => ?_)
        · refine lv_aload_n hx hb d_Dk_choose_61 rfl (lv_at hl 1 rfl) ?_
          refine va_get (D := G) (ci := 3) (v := .ref a_cd) (C := R_Dk) (T := T_Dk) (N := 9) hx hb hts uw_Dk hown hK hP 0 rfl rfl 6 (by decide) (hts _ t_111) (fun _ h9 => h9) rfl d_Dk_choose_62 ?_
          refine lv_iload_n hx hb d_Dk_choose_65 rfl (lv_at hl 2 rfl) ?_
          refine lv_iconst (v := (-1)) hx hb d_Dk_choose_66 (by decide +kernel) ?_
          refine k_iast hx hb hK hP hD hS 16 0 rfl rfl (by omega) (by decide) d_Dk_choose_67 (fun H locs hP hD hS => ?_)
          have hP : va_P G vwCl [(a_dk, .inr (3, [.ref a_ch, .ref a_cs, .ref a_ln, .ref a_ss, .ref a_rr, .ref a_wn, .ref a_cd, .int mt, .int ft])), (a_ch, .inr (1, [.ref a_rm, .ref a_hd, .ref a_sh, .ref a_vl, .int (nI n)])), (a_rm, .inl (cI, 40, .inl (fun j => nI (room j)))), (a_hd, .inl (cI, 40, .inl (fun j => nI (held j)))), (a_sh, .inl (cZ, 40, .inl (fun j => bI (shut j)))), (a_vl, .inl (cI, 320, .inl vals)), (a_cs, .inr (0, [.ref a_cn, .ref a_cc, .ref a_cw, .ref a_cv])), (a_cn, .inl (cI, 16, .inl (fun j => nI (cnum j)))), (a_cc, .inl (cI, 96, .inl (fun j => nI (cch j)))), (a_cw, .inl (cI, 96, .inl (fun j => nI (cway j)))), (a_cv, .inl (cI, 96, .inl cval)), (a_ln, .inr (2, [.ref a_mm, .int (nI len)])), (a_mm, .inl (cI, 16, .inl (fun j => nI (mem j)))), (a_ss, .inl (cI, 16, .inl (fun j => nI (st j)))), (a_rr, .inl (cI, 16, .inl rc)), (a_wn, .inl (cI, 16, .inl (fun j => nI (sn j)))), (a_cd, .inl (cI, 16, .inl (va_up cd q (-1))))] H := hP
          have hD : va_D A [(a_dk, .inr (3, [.ref a_ch, .ref a_cs, .ref a_ln, .ref a_ss, .ref a_rr, .ref a_wn, .ref a_cd, .int mt, .int ft])), (a_ch, .inr (1, [.ref a_rm, .ref a_hd, .ref a_sh, .ref a_vl, .int (nI n)])), (a_rm, .inl (cI, 40, .inl (fun j => nI (room j)))), (a_hd, .inl (cI, 40, .inl (fun j => nI (held j)))), (a_sh, .inl (cZ, 40, .inl (fun j => bI (shut j)))), (a_vl, .inl (cI, 320, .inl vals)), (a_cs, .inr (0, [.ref a_cn, .ref a_cc, .ref a_cw, .ref a_cv])), (a_cn, .inl (cI, 16, .inl (fun j => nI (cnum j)))), (a_cc, .inl (cI, 96, .inl (fun j => nI (cch j)))), (a_cw, .inl (cI, 96, .inl (fun j => nI (cway j)))), (a_cv, .inl (cI, 96, .inl cval)), (a_ln, .inr (2, [.ref a_mm, .int (nI len)])), (a_mm, .inl (cI, 16, .inl (fun j => nI (mem j)))), (a_ss, .inl (cI, 16, .inl (fun j => nI (st j)))), (a_rr, .inl (cI, 16, .inl rc)), (a_wn, .inl (cI, 16, .inl (fun j => nI (sn j)))), (a_cd, .inl (cI, 16, .inl (va_up cd q (-1))))] := hD
          refine lv_aload_n hx hb d_Dk_choose_68 rfl (lv_at hl 1 rfl) ?_
          refine lv_iload_n hx hb d_Dk_choose_69 rfl (lv_at hl 2 rfl) ?_
          refine lv_iconst (v := (nI 3)) hx hb d_Dk_choose_70 (by decide +kernel) ?_
          refine k_rwv (va_runV (As := [.int (nI q), .int (nI 3)]) (rest := []) ⟨hx, hb, hml, hown, hts⟩ (c_Dk_startWaiting l G cI cZ cJ H.size a_dk a_ch a_cs a_ln a_ss a_rr a_wn a_cd a_mm mt ft st len mem line q 3 (by omega) hL hlt) (cwV 2 hts (gV t_211 t_212 t_9 t_32 t_213) rfl rfl rfl (by decide +kernel) ⟨Nat.le_of_ble_eq_true rfl, Nat.le_of_ble_eq_true rfl⟩) (kW_V (ci := 3) (q0 := 0) hK hP hD rfl rfl [0, 13, 11, 12] rfl (by decide) rfl) rfl rfl hl.1 rfl (lv_room (Nat.le_of_ble_eq_true rfl)) d_Dk_choose_71 ⟨Nat.le_of_ble_eq_true rfl, Nat.le_of_ble_eq_true rfl⟩) hP hD hS hA [0, 13, 11, 12] rfl (fun _ => rfl) (fun u H locs hw hP hD hS => ?_)
          obtain ⟨len_5, mem_5⟩ := u
          have hL := hw
          have hL : RelL len_5 mem_5 (line ++ [q]) := hL
          have hP : va_P G vwCl [(a_dk, .inr (3, [.ref a_ch, .ref a_cs, .ref a_ln, .ref a_ss, .ref a_rr, .ref a_wn, .ref a_cd, .int mt, .int ft])), (a_ch, .inr (1, [.ref a_rm, .ref a_hd, .ref a_sh, .ref a_vl, .int (nI n)])), (a_rm, .inl (cI, 40, .inl (fun j => nI (room j)))), (a_hd, .inl (cI, 40, .inl (fun j => nI (held j)))), (a_sh, .inl (cZ, 40, .inl (fun j => bI (shut j)))), (a_vl, .inl (cI, 320, .inl vals)), (a_cs, .inr (0, [.ref a_cn, .ref a_cc, .ref a_cw, .ref a_cv])), (a_cn, .inl (cI, 16, .inl (fun j => nI (cnum j)))), (a_cc, .inl (cI, 96, .inl (fun j => nI (cch j)))), (a_cw, .inl (cI, 96, .inl (fun j => nI (cway j)))), (a_cv, .inl (cI, 96, .inl cval)), (a_ln, .inr (2, [.ref a_mm, .int (nI len_5)])), (a_mm, .inl (cI, 16, .inl (fun j => nI (mem_5 j)))), (a_ss, .inl (cI, 16, .inl (fun j => nI ((va_up st q 3) j)))), (a_rr, .inl (cI, 16, .inl rc)), (a_wn, .inl (cI, 16, .inl (fun j => nI (sn j)))), (a_cd, .inl (cI, 16, .inl (va_up cd q (-1))))] H := hP
          have hD : va_D A [(a_dk, .inr (3, [.ref a_ch, .ref a_cs, .ref a_ln, .ref a_ss, .ref a_rr, .ref a_wn, .ref a_cd, .int mt, .int ft])), (a_ch, .inr (1, [.ref a_rm, .ref a_hd, .ref a_sh, .ref a_vl, .int (nI n)])), (a_rm, .inl (cI, 40, .inl (fun j => nI (room j)))), (a_hd, .inl (cI, 40, .inl (fun j => nI (held j)))), (a_sh, .inl (cZ, 40, .inl (fun j => bI (shut j)))), (a_vl, .inl (cI, 320, .inl vals)), (a_cs, .inr (0, [.ref a_cn, .ref a_cc, .ref a_cw, .ref a_cv])), (a_cn, .inl (cI, 16, .inl (fun j => nI (cnum j)))), (a_cc, .inl (cI, 96, .inl (fun j => nI (cch j)))), (a_cw, .inl (cI, 96, .inl (fun j => nI (cway j)))), (a_cv, .inl (cI, 96, .inl cval)), (a_ln, .inr (2, [.ref a_mm, .int (nI len_5)])), (a_mm, .inl (cI, 16, .inl (fun j => nI (mem_5 j)))), (a_ss, .inl (cI, 16, .inl (fun j => nI ((va_up st q 3) j)))), (a_rr, .inl (cI, 16, .inl rc)), (a_wn, .inl (cI, 16, .inl (fun j => nI (sn j)))), (a_cd, .inl (cI, 16, .inl (va_up cd q (-1))))] := hD
          refine lv_bipush (v := (nI 11)) hx hb d_Dk_choose_74 (by decide +kernel) ?_
          exact k_wi hx hb hr hlocks hP hS (n, room, held, shut, vals, cnum, cch, cway, cval, len_5, mem_5, va_up st q 3, rc, sn, va_up cd q (-1), mt, ft, L, cs, line ++ [q]) (rfl) (⟨M_choose_3 (σ := (n, room, shut, L, cs, line, st, rc, sn, cd, mt, ft)) c_a hq hk0 c_c c_d, hn, hrm, hV, hC, hL, st_up hst q (by decide)⟩) d_Dk_choose_76
        · refine lv_aload_n hx hb d_Dk_choose_45 rfl (lv_at hl 1 rfl) ?_
          refine lv_iload_n hx hb d_Dk_choose_46 rfl (lv_at hl 2 rfl) ?_
          refine k_rwv (va_runV (As := [.int (nI q)]) (rest := []) ⟨hx, hb, hml, hown, hts⟩ (c_Dk_makeReady l G cI cZ cJ s.heap.size a_dk a_ch a_cs a_ln a_ss a_rr a_wn a_cd a_cn a_cc a_cw a_cv mt ft st cnum cch cway cval cs q (by omega) hC) (cwV 1 hts (gV t_145 t_146 t_2 t_32 t_147) rfl rfl rfl (by decide +kernel) ⟨Nat.le_of_ble_eq_true rfl, Nat.le_of_ble_eq_true rfl⟩) (kW_V (ci := 3) (q0 := 0) hK hP hD rfl rfl [0, 13, 6, 7] rfl (by decide) rfl) rfl rfl hl.1 rfl (lv_room (Nat.le_of_ble_eq_true rfl)) d_Dk_choose_47 ⟨Nat.le_of_ble_eq_true rfl, Nat.le_of_ble_eq_true rfl⟩) hP hD hS hA [0, 13, 6, 7] rfl (fun _ => rfl) (fun u H locs hw hP hD hS => ?_)
          have hC := hw
          have hC : RelC (va_up cnum q 0) cch cway cval (va_up cs q []) := hC
          have hP : va_P G vwCl [(a_dk, .inr (3, [.ref a_ch, .ref a_cs, .ref a_ln, .ref a_ss, .ref a_rr, .ref a_wn, .ref a_cd, .int mt, .int ft])), (a_ch, .inr (1, [.ref a_rm, .ref a_hd, .ref a_sh, .ref a_vl, .int (nI n)])), (a_rm, .inl (cI, 40, .inl (fun j => nI (room j)))), (a_hd, .inl (cI, 40, .inl (fun j => nI (held j)))), (a_sh, .inl (cZ, 40, .inl (fun j => bI (shut j)))), (a_vl, .inl (cI, 320, .inl vals)), (a_cs, .inr (0, [.ref a_cn, .ref a_cc, .ref a_cw, .ref a_cv])), (a_cn, .inl (cI, 16, .inl (fun j => nI ((va_up cnum q 0) j)))), (a_cc, .inl (cI, 96, .inl (fun j => nI (cch j)))), (a_cw, .inl (cI, 96, .inl (fun j => nI (cway j)))), (a_cv, .inl (cI, 96, .inl cval)), (a_ln, .inr (2, [.ref a_mm, .int (nI len)])), (a_mm, .inl (cI, 16, .inl (fun j => nI (mem j)))), (a_ss, .inl (cI, 16, .inl (fun j => nI ((va_up st q 0) j)))), (a_rr, .inl (cI, 16, .inl rc)), (a_wn, .inl (cI, 16, .inl (fun j => nI (sn j)))), (a_cd, .inl (cI, 16, .inl cd))] H := hP
          have hD : va_D A [(a_dk, .inr (3, [.ref a_ch, .ref a_cs, .ref a_ln, .ref a_ss, .ref a_rr, .ref a_wn, .ref a_cd, .int mt, .int ft])), (a_ch, .inr (1, [.ref a_rm, .ref a_hd, .ref a_sh, .ref a_vl, .int (nI n)])), (a_rm, .inl (cI, 40, .inl (fun j => nI (room j)))), (a_hd, .inl (cI, 40, .inl (fun j => nI (held j)))), (a_sh, .inl (cZ, 40, .inl (fun j => bI (shut j)))), (a_vl, .inl (cI, 320, .inl vals)), (a_cs, .inr (0, [.ref a_cn, .ref a_cc, .ref a_cw, .ref a_cv])), (a_cn, .inl (cI, 16, .inl (fun j => nI ((va_up cnum q 0) j)))), (a_cc, .inl (cI, 96, .inl (fun j => nI (cch j)))), (a_cw, .inl (cI, 96, .inl (fun j => nI (cway j)))), (a_cv, .inl (cI, 96, .inl cval)), (a_ln, .inr (2, [.ref a_mm, .int (nI len)])), (a_mm, .inl (cI, 16, .inl (fun j => nI (mem j)))), (a_ss, .inl (cI, 16, .inl (fun j => nI ((va_up st q 0) j)))), (a_rr, .inl (cI, 16, .inl rc)), (a_wn, .inl (cI, 16, .inl (fun j => nI (sn j)))), (a_cd, .inl (cI, 16, .inl cd))] := hD
          refine lv_aload_n hx hb d_Dk_choose_50 rfl (lv_at hl 1 rfl) ?_
          refine va_get (D := G) (ci := 3) (v := .ref a_cd) (C := R_Dk) (T := T_Dk) (N := 9) hx hb hts uw_Dk hown hK hP 0 rfl rfl 6 (by decide) (hts _ t_111) (fun _ h9 => h9) rfl d_Dk_choose_51 ?_
          refine lv_iload_n hx hb d_Dk_choose_54 rfl (lv_at hl 2 rfl) ?_
          refine lv_bipush (v := (nI 10)) hx hb d_Dk_choose_55 (by decide +kernel) ?_
          refine k_iast hx hb hK hP hD hS 16 0 rfl rfl (by omega) (by decide) d_Dk_choose_57 (fun H locs hP hD hS => ?_)
          have hP : va_P G vwCl [(a_dk, .inr (3, [.ref a_ch, .ref a_cs, .ref a_ln, .ref a_ss, .ref a_rr, .ref a_wn, .ref a_cd, .int mt, .int ft])), (a_ch, .inr (1, [.ref a_rm, .ref a_hd, .ref a_sh, .ref a_vl, .int (nI n)])), (a_rm, .inl (cI, 40, .inl (fun j => nI (room j)))), (a_hd, .inl (cI, 40, .inl (fun j => nI (held j)))), (a_sh, .inl (cZ, 40, .inl (fun j => bI (shut j)))), (a_vl, .inl (cI, 320, .inl vals)), (a_cs, .inr (0, [.ref a_cn, .ref a_cc, .ref a_cw, .ref a_cv])), (a_cn, .inl (cI, 16, .inl (fun j => nI ((va_up cnum q 0) j)))), (a_cc, .inl (cI, 96, .inl (fun j => nI (cch j)))), (a_cw, .inl (cI, 96, .inl (fun j => nI (cway j)))), (a_cv, .inl (cI, 96, .inl cval)), (a_ln, .inr (2, [.ref a_mm, .int (nI len)])), (a_mm, .inl (cI, 16, .inl (fun j => nI (mem j)))), (a_ss, .inl (cI, 16, .inl (fun j => nI ((va_up st q 0) j)))), (a_rr, .inl (cI, 16, .inl rc)), (a_wn, .inl (cI, 16, .inl (fun j => nI (sn j)))), (a_cd, .inl (cI, 16, .inl (va_up cd q (nI 10))))] H := hP
          have hD : va_D A [(a_dk, .inr (3, [.ref a_ch, .ref a_cs, .ref a_ln, .ref a_ss, .ref a_rr, .ref a_wn, .ref a_cd, .int mt, .int ft])), (a_ch, .inr (1, [.ref a_rm, .ref a_hd, .ref a_sh, .ref a_vl, .int (nI n)])), (a_rm, .inl (cI, 40, .inl (fun j => nI (room j)))), (a_hd, .inl (cI, 40, .inl (fun j => nI (held j)))), (a_sh, .inl (cZ, 40, .inl (fun j => bI (shut j)))), (a_vl, .inl (cI, 320, .inl vals)), (a_cs, .inr (0, [.ref a_cn, .ref a_cc, .ref a_cw, .ref a_cv])), (a_cn, .inl (cI, 16, .inl (fun j => nI ((va_up cnum q 0) j)))), (a_cc, .inl (cI, 96, .inl (fun j => nI (cch j)))), (a_cw, .inl (cI, 96, .inl (fun j => nI (cway j)))), (a_cv, .inl (cI, 96, .inl cval)), (a_ln, .inr (2, [.ref a_mm, .int (nI len)])), (a_mm, .inl (cI, 16, .inl (fun j => nI (mem j)))), (a_ss, .inl (cI, 16, .inl (fun j => nI ((va_up st q 0) j)))), (a_rr, .inl (cI, 16, .inl rc)), (a_wn, .inl (cI, 16, .inl (fun j => nI (sn j)))), (a_cd, .inl (cI, 16, .inl (va_up cd q (nI 10))))] := hD
          refine lv_bipush (v := (nI 10)) hx hb d_Dk_choose_58 (by decide +kernel) ?_
          exact k_wi hx hb hr hlocks hP hS (n, room, held, shut, vals, va_up cnum q 0, cch, cway, cval, len, mem, va_up st q 0, rc, sn, va_up cd q (nI 10), mt, ft, L, va_up cs q [], line) (rfl) (⟨M_choose_2 (σ := (n, room, shut, L, cs, line, st, rc, sn, cd, mt, ft)) c_a hq hk0 c_c c_d, hn, hrm, hV, hC, hL, st_up hst q (by decide)⟩) d_Dk_choose_60
      · refine lv_aload_n hx hb d_Dk_choose_26 rfl (lv_at hl 1 rfl) ?_
        refine lv_iload_n hx hb d_Dk_choose_27 rfl (lv_at hl 2 rfl) ?_
        refine lv_aload_n hx hb d_Dk_choose_28 rfl (lv_at hl 1 rfl) ?_
        refine lv_iload_n hx hb d_Dk_choose_29 rfl (lv_at hl 2 rfl) ?_
        refine lv_iload_n hx hb d_Dk_choose_30 rfl (lv_at hl 3 rfl) ?_
        refine lv_iload hx hb d_Dk_choose_31 (lv_at hl 0 rfl) ?_
        refine lv_irem hx hb d_Dk_choose_33 (nI_ne0 c_c (by omega)) ?_
        refine k_top (y := (nI (k0 % ((m_pl shut room L cs line q).length)))) (pk_rem (by omega) (by omega) (by omega)) ?_
        refine k_ro (va_runV (As := [.int (nI q), .int (nI (k0 % ((m_pl shut room L cs line q).length)))]) (rest := [.int (nI q), .ref a_dk]) ⟨hx, hb, hml, hown, hts⟩ (c_Dk_findPossible l G cI cZ cJ a_dk a_ch a_cs a_ln a_ss a_rr a_wn a_cd a_rm a_hd a_sh a_vl a_cn a_cc a_cw a_cv a_mm mt ft n room held shut cnum cch cway len mem vals cval L cs line q (k0 % ((m_pl shut room L cs line q).length)) (by omega) (by omega) hV hC hL (Nat.mod_lt _ c_c)) (cwV 2 hts (gV t_274 t_275 t_14 t_32 t_276) rfl rfl rfl (by decide +kernel) ⟨Nat.le_of_ble_eq_true rfl, Nat.le_of_ble_eq_true rfl⟩) (kR_V (ci := 3) (q0 := 0) hK hP rfl rfl [0, 1, 2, 3, 4, 6, 7, 8, 9, 11, 12] rfl) rfl rfl hl.1 rfl (lv_room (Nat.le_of_ble_eq_true rfl)) d_Dk_choose_34 ⟨Nat.le_of_ble_eq_true rfl, Nat.le_of_ble_eq_true rfl⟩) ?_
        refine k_rwi (va_runV (As := [.int (nI q), .int (nI (q * 6 + (m_pl shut room L cs line q).getD (k0 % ((m_pl shut room L cs line q).length)) 0))]) (rest := []) ⟨hx, hb, hml, hown, hts⟩ (c_Dk_doCase l G cI cZ cJ s.heap.size a_dk a_ch a_cs a_ln a_ss a_rr a_wn a_cd a_rm a_hd a_sh a_vl a_cn a_cc a_cw a_cv a_mm mt ft n room held shut vals cnum cch cway cval len mem st rc sn cd L cs line q ((m_pl shut room L cs line q).getD (k0 % (m_pl shut room L cs line q).length) 0) (by omega) (pl_lt (Nat.mod_lt _ c_c)) (by omega) hV hC hL (by omega)) (cwV 2 hts (gV t_277 t_278 t_15 t_32 t_279) rfl rfl rfl (by decide +kernel) ⟨Nat.le_of_ble_eq_true rfl, Nat.le_of_ble_eq_true rfl⟩) (kW_V (ci := 3) (q0 := 0) hK hP hD rfl rfl [0, 1, 2, 3, 4, 5, 6, 7, 8, 9, 10, 11, 12, 13, 14, 15, 16] rfl (by decide) rfl) rfl rfl hl.1 rfl (lv_room (Nat.le_of_ble_eq_true rfl)) d_Dk_choose_37 ⟨Nat.le_of_ble_eq_true rfl, Nat.le_of_ble_eq_true rfl⟩) hP hD hS hA [0, 1, 2, 3, 4, 5, 6, 7, 8, 9, 10, 11, 12, 13, 14, 15, 16] rfl (fun _ => rfl) (fun r_7 u H locs hw hP hD hS => ?_)
        obtain ⟨held_7, vals_7, cnum_7, len_7, mem_7, st_7, rc_7, sn_7, cd_7, mt_7, ft_7, L_7, cs_7, line_7, o_7⟩ := u
        obtain ⟨rfl, hM, hV, hC, hL, hst⟩ := hw
        have hM : m_doC (n, room, shut, L, cs, line, st, rc, sn, cd, mt, ft) q ((m_pl shut room L cs line q).getD (k0 % (m_pl shut room L cs line q).length) 0) = ((n, room, shut, L_7, cs_7, line_7, st_7, rc_7, sn_7, cd_7, mt_7, ft_7), o_7) := hM
        have hV : RelV held_7 vals_7 L_7 := hV
        have hC : RelC cnum_7 cch cway cval cs_7 := hC
        have hL : RelL len_7 mem_7 line_7 := hL
        have hst : ∀ j, j < 16 → st_7 j < 5 := hst
        have hP : va_P G vwCl [(a_dk, .inr (3, [.ref a_ch, .ref a_cs, .ref a_ln, .ref a_ss, .ref a_rr, .ref a_wn, .ref a_cd, .int mt_7, .int ft_7])), (a_ch, .inr (1, [.ref a_rm, .ref a_hd, .ref a_sh, .ref a_vl, .int (nI n)])), (a_rm, .inl (cI, 40, .inl (fun j => nI (room j)))), (a_hd, .inl (cI, 40, .inl (fun j => nI (held_7 j)))), (a_sh, .inl (cZ, 40, .inl (fun j => bI (shut j)))), (a_vl, .inl (cI, 320, .inl vals_7)), (a_cs, .inr (0, [.ref a_cn, .ref a_cc, .ref a_cw, .ref a_cv])), (a_cn, .inl (cI, 16, .inl (fun j => nI (cnum_7 j)))), (a_cc, .inl (cI, 96, .inl (fun j => nI (cch j)))), (a_cw, .inl (cI, 96, .inl (fun j => nI (cway j)))), (a_cv, .inl (cI, 96, .inl cval)), (a_ln, .inr (2, [.ref a_mm, .int (nI len_7)])), (a_mm, .inl (cI, 16, .inl (fun j => nI (mem_7 j)))), (a_ss, .inl (cI, 16, .inl (fun j => nI (st_7 j)))), (a_rr, .inl (cI, 16, .inl rc_7)), (a_wn, .inl (cI, 16, .inl (fun j => nI (sn_7 j)))), (a_cd, .inl (cI, 16, .inl cd_7))] H := hP
        have hD : va_D A [(a_dk, .inr (3, [.ref a_ch, .ref a_cs, .ref a_ln, .ref a_ss, .ref a_rr, .ref a_wn, .ref a_cd, .int mt_7, .int ft_7])), (a_ch, .inr (1, [.ref a_rm, .ref a_hd, .ref a_sh, .ref a_vl, .int (nI n)])), (a_rm, .inl (cI, 40, .inl (fun j => nI (room j)))), (a_hd, .inl (cI, 40, .inl (fun j => nI (held_7 j)))), (a_sh, .inl (cZ, 40, .inl (fun j => bI (shut j)))), (a_vl, .inl (cI, 320, .inl vals_7)), (a_cs, .inr (0, [.ref a_cn, .ref a_cc, .ref a_cw, .ref a_cv])), (a_cn, .inl (cI, 16, .inl (fun j => nI (cnum_7 j)))), (a_cc, .inl (cI, 96, .inl (fun j => nI (cch j)))), (a_cw, .inl (cI, 96, .inl (fun j => nI (cway j)))), (a_cv, .inl (cI, 96, .inl cval)), (a_ln, .inr (2, [.ref a_mm, .int (nI len_7)])), (a_mm, .inl (cI, 16, .inl (fun j => nI (mem_7 j)))), (a_ss, .inl (cI, 16, .inl (fun j => nI (st_7 j)))), (a_rr, .inl (cI, 16, .inl rc_7)), (a_wn, .inl (cI, 16, .inl (fun j => nI (sn_7 j)))), (a_cd, .inl (cI, 16, .inl cd_7))] := hD
        exact k_wi hx hb hr hlocks hP hS (n, room, held_7, shut, vals_7, cnum_7, cch, cway, cval, len_7, mem_7, st_7, rc_7, sn_7, cd_7, mt_7, ft_7, L_7, cs_7, line_7) (rfl) (⟨M_choose_1 (σ := (n, room, shut, L, cs, line, st, rc, sn, cd, mt, ft)) c_a hq hk0 c_c hM, hn, hrm, hV, hC, hL, hst⟩) d_Dk_choose_40
    · refine lv_iconst (v := (-1)) hx hb d_Dk_choose_12 (by decide +kernel) ?_
      exact k_wi hx hb hr hlocks hP hS (n, room, held, shut, vals, cnum, cch, cway, cval, len, mem, st, rc, sn, cd, mt, ft, L, cs, line) (rfl) (⟨M_choose_00 c_b, hn, hrm, hV, hC, hL, hst⟩) d_Dk_choose_13
end
section
set_option maxHeartbeats 4000000 in
set_option maxRecDepth 100000 in
theorem c_Dk_close (l : Launch) (G : va_G) (cI cZ cJ : ClassId) (sz : Nat) (a_dk : Nat) (a_ch : Nat) (a_cs : Nat) (a_ln : Nat) (a_ss : Nat) (a_rr : Nat) (a_wn : Nat) (a_cd : Nat) (a_rm : Nat) (a_hd : Nat) (a_sh : Nat) (a_vl : Nat) (a_cn : Nat) (a_cc : Nat) (a_cw : Nat) (a_cv : Nat) (a_mm : Nat) (mt : Int32) (ft : Int32) (n : Nat) (room : Nat → Nat) (held : Nat → Nat) (shut : Nat → Bool) (vals : Nat → Int32) (cnum : Nat → Nat) (cch : Nat → Nat) (cway : Nat → Nat) (cval : Nat → Int32) (len : Nat) (mem : Nat → Nat) (st : Nat → Nat) (rc : Nat → Int32) (sn : Nat → Nat) (cd : Nat → Int32) (L : Nat → List Int32) (cs : Nat → List Kase) (line : List Nat) (b : Int32) (hI : DI n room held vals cnum cch cway cval len mem st L cs line) : Met l y_Dk_close (w_Dk_close) ({ frames := 4, cells := 0, slots := 0, locals := 94 }) (va_Pc [.ref a_dk, .int b] (kW G vwCl [(cI, .int), (cZ, .boolean), (cJ, .long)] [(a_dk, .inr (3, [.ref a_ch, .ref a_cs, .ref a_ln, .ref a_ss, .ref a_rr, .ref a_wn, .ref a_cd, .int mt, .int ft])), (a_ch, .inr (1, [.ref a_rm, .ref a_hd, .ref a_sh, .ref a_vl, .int (nI n)])), (a_rm, .inl (cI, 40, .inl (fun j => nI (room j)))), (a_hd, .inl (cI, 40, .inl (fun j => nI (held j)))), (a_sh, .inl (cZ, 40, .inl (fun j => bI (shut j)))), (a_vl, .inl (cI, 320, .inl vals)), (a_cs, .inr (0, [.ref a_cn, .ref a_cc, .ref a_cw, .ref a_cv])), (a_cn, .inl (cI, 16, .inl (fun j => nI (cnum j)))), (a_cc, .inl (cI, 96, .inl (fun j => nI (cch j)))), (a_cw, .inl (cI, 96, .inl (fun j => nI (cway j)))), (a_cv, .inl (cI, 96, .inl cval)), (a_ln, .inr (2, [.ref a_mm, .int (nI len)])), (a_mm, .inl (cI, 16, .inl (fun j => nI (mem j)))), (a_ss, .inl (cI, 16, .inl (fun j => nI (st j)))), (a_rr, .inl (cI, 16, .inl rc)), (a_wn, .inl (cI, 16, .inl (fun j => nI (sn j)))), (a_cd, .inl (cI, 16, .inl cd))] sz)) (va_Qi (fun (r : Int32) (u : Nat × (Nat → Nat) × (Nat → Nat) × (Nat → Bool) × (Nat → Int32) × (Nat → Nat) × (Nat → Nat) × (Nat → Nat) × (Nat → Int32) × Nat × (Nat → Nat) × (Nat → Nat) × (Nat → Int32) × (Nat → Nat) × (Nat → Int32) × Int32 × Int32 × (Nat → List Int32) × (Nat → List Kase) × List Nat) => M_close (n, room, shut, L, cs, line, st, rc, sn, cd, mt, ft) b = ((u.1, u.2.1, u.2.2.2.1, u.2.2.2.2.2.2.2.2.2.2.2.2.2.2.2.2.2.1, u.2.2.2.2.2.2.2.2.2.2.2.2.2.2.2.2.2.2.1, u.2.2.2.2.2.2.2.2.2.2.2.2.2.2.2.2.2.2.2, u.2.2.2.2.2.2.2.2.2.2.2.1, u.2.2.2.2.2.2.2.2.2.2.2.2.1, u.2.2.2.2.2.2.2.2.2.2.2.2.2.1, u.2.2.2.2.2.2.2.2.2.2.2.2.2.2.1, u.2.2.2.2.2.2.2.2.2.2.2.2.2.2.2.1, u.2.2.2.2.2.2.2.2.2.2.2.2.2.2.2.2.1), r) ∧ DI u.1 u.2.1 u.2.2.1 u.2.2.2.2.1 u.2.2.2.2.2.1 u.2.2.2.2.2.2.1 u.2.2.2.2.2.2.2.1 u.2.2.2.2.2.2.2.2.1 u.2.2.2.2.2.2.2.2.2.1 u.2.2.2.2.2.2.2.2.2.2.1 u.2.2.2.2.2.2.2.2.2.2.2.1 u.2.2.2.2.2.2.2.2.2.2.2.2.2.2.2.2.2.1 u.2.2.2.2.2.2.2.2.2.2.2.2.2.2.2.2.2.2.1 u.2.2.2.2.2.2.2.2.2.2.2.2.2.2.2.2.2.2.2) (fun u t => va_P G vwCl [(a_dk, .inr (3, [.ref a_ch, .ref a_cs, .ref a_ln, .ref a_ss, .ref a_rr, .ref a_wn, .ref a_cd, .int u.2.2.2.2.2.2.2.2.2.2.2.2.2.2.2.1, .int u.2.2.2.2.2.2.2.2.2.2.2.2.2.2.2.2.1])), (a_ch, .inr (1, [.ref a_rm, .ref a_hd, .ref a_sh, .ref a_vl, .int (nI u.1)])), (a_rm, .inl (cI, 40, .inl (fun j => nI (u.2.1 j)))), (a_hd, .inl (cI, 40, .inl (fun j => nI (u.2.2.1 j)))), (a_sh, .inl (cZ, 40, .inl (fun j => bI (u.2.2.2.1 j)))), (a_vl, .inl (cI, 320, .inl u.2.2.2.2.1)), (a_cs, .inr (0, [.ref a_cn, .ref a_cc, .ref a_cw, .ref a_cv])), (a_cn, .inl (cI, 16, .inl (fun j => nI (u.2.2.2.2.2.1 j)))), (a_cc, .inl (cI, 96, .inl (fun j => nI (u.2.2.2.2.2.2.1 j)))), (a_cw, .inl (cI, 96, .inl (fun j => nI (u.2.2.2.2.2.2.2.1 j)))), (a_cv, .inl (cI, 96, .inl u.2.2.2.2.2.2.2.2.1)), (a_ln, .inr (2, [.ref a_mm, .int (nI u.2.2.2.2.2.2.2.2.2.1)])), (a_mm, .inl (cI, 16, .inl (fun j => nI (u.2.2.2.2.2.2.2.2.2.2.1 j)))), (a_ss, .inl (cI, 16, .inl (fun j => nI (u.2.2.2.2.2.2.2.2.2.2.2.1 j)))), (a_rr, .inl (cI, 16, .inl u.2.2.2.2.2.2.2.2.2.2.2.2.1)), (a_wn, .inl (cI, 16, .inl (fun j => nI (u.2.2.2.2.2.2.2.2.2.2.2.2.2.1 j)))), (a_cd, .inl (cI, 16, .inl u.2.2.2.2.2.2.2.2.2.2.2.2.2.2.1))] t.heap) (va_A [(a_dk, .inr (3, [.ref a_ch, .ref a_cs, .ref a_ln, .ref a_ss, .ref a_rr, .ref a_wn, .ref a_cd, .int mt, .int ft])), (a_ch, .inr (1, [.ref a_rm, .ref a_hd, .ref a_sh, .ref a_vl, .int (nI n)])), (a_rm, .inl (cI, 40, .inl (fun j => nI (room j)))), (a_hd, .inl (cI, 40, .inl (fun j => nI (held j)))), (a_sh, .inl (cZ, 40, .inl (fun j => bI (shut j)))), (a_vl, .inl (cI, 320, .inl vals)), (a_cs, .inr (0, [.ref a_cn, .ref a_cc, .ref a_cw, .ref a_cv])), (a_cn, .inl (cI, 16, .inl (fun j => nI (cnum j)))), (a_cc, .inl (cI, 96, .inl (fun j => nI (cch j)))), (a_cw, .inl (cI, 96, .inl (fun j => nI (cway j)))), (a_cv, .inl (cI, 96, .inl cval)), (a_ln, .inr (2, [.ref a_mm, .int (nI len)])), (a_mm, .inl (cI, 16, .inl (fun j => nI (mem j)))), (a_ss, .inl (cI, 16, .inl (fun j => nI (st j)))), (a_rr, .inl (cI, 16, .inl rc)), (a_wn, .inl (cI, 16, .inl (fun j => nI (sn j)))), (a_cd, .inl (cI, 16, .inl cd))] sz)) 0 0 (va_A [(a_dk, .inr (3, [.ref a_ch, .ref a_cs, .ref a_ln, .ref a_ss, .ref a_rr, .ref a_wn, .ref a_cd, .int mt, .int ft])), (a_ch, .inr (1, [.ref a_rm, .ref a_hd, .ref a_sh, .ref a_vl, .int (nI n)])), (a_rm, .inl (cI, 40, .inl (fun j => nI (room j)))), (a_hd, .inl (cI, 40, .inl (fun j => nI (held j)))), (a_sh, .inl (cZ, 40, .inl (fun j => bI (shut j)))), (a_vl, .inl (cI, 320, .inl vals)), (a_cs, .inr (0, [.ref a_cn, .ref a_cc, .ref a_cw, .ref a_cv])), (a_cn, .inl (cI, 16, .inl (fun j => nI (cnum j)))), (a_cc, .inl (cI, 96, .inl (fun j => nI (cch j)))), (a_cw, .inl (cI, 96, .inl (fun j => nI (cway j)))), (a_cv, .inl (cI, 96, .inl cval)), (a_ln, .inr (2, [.ref a_mm, .int (nI len)])), (a_mm, .inl (cI, 16, .inl (fun j => nI (mem j)))), (a_ss, .inl (cI, 16, .inl (fun j => nI (st j)))), (a_rr, .inl (cI, 16, .inl rc)), (a_wn, .inl (cI, 16, .inl (fun j => nI (sn j)))), (a_cd, .inl (cI, 16, .inl cd))] sz) := by
  refine Met.ofW (cc := b_Dk_close) (maxL := 4) (ret := (some .int)) (by decide) rfl ?_
  intro p e s m args below meth c s₁ B hml hv
  obtain ⟨rfl, hsz, hP, hK, hD0⟩ := hv
  have hx := B.exec
  have hb := B.bytes
  have hr := B.returns
  have hts : ∀ w ∈ TT, w.before _ s = true := fun w h => atoms_spec (ws := (w_Dk_close)) B.pre w (List.mem_cons_of_mem _ h)
  have hown : s.vm.findClass R_Dk = some m.cls := findClass_of_methodNamed B.named
  have hlocks := B.notSynchronized
  subst hsz
  have hD := hD0.self (sz := s.heap.size)
  generalize hAe : va_A [(a_dk, .inr (3, [.ref a_ch, .ref a_cs, .ref a_ln, .ref a_ss, .ref a_rr, .ref a_wn, .ref a_cd, .int mt, .int ft])), (a_ch, .inr (1, [.ref a_rm, .ref a_hd, .ref a_sh, .ref a_vl, .int (nI n)])), (a_rm, .inl (cI, 40, .inl (fun j => nI (room j)))), (a_hd, .inl (cI, 40, .inl (fun j => nI (held j)))), (a_sh, .inl (cZ, 40, .inl (fun j => bI (shut j)))), (a_vl, .inl (cI, 320, .inl vals)), (a_cs, .inr (0, [.ref a_cn, .ref a_cc, .ref a_cw, .ref a_cv])), (a_cn, .inl (cI, 16, .inl (fun j => nI (cnum j)))), (a_cc, .inl (cI, 96, .inl (fun j => nI (cch j)))), (a_cw, .inl (cI, 96, .inl (fun j => nI (cway j)))), (a_cv, .inl (cI, 96, .inl cval)), (a_ln, .inr (2, [.ref a_mm, .int (nI len)])), (a_mm, .inl (cI, 16, .inl (fun j => nI (mem j)))), (a_ss, .inl (cI, 16, .inl (fun j => nI (st j)))), (a_rr, .inl (cI, 16, .inl rc)), (a_wn, .inl (cI, 16, .inl (fun j => nI (sn j)))), (a_cd, .inl (cI, 16, .inl cd))] s.heap.size = A at hD ⊢
  have hA : ∀ q : Nat, s.heap.size ≤ q → A q := fun q h => by rw [← hAe]; exact Or.inr h
  have hS : va_S A s.heap s.heap [] := va_S.rf
  have hP : va_P G vwCl [(a_dk, .inr (3, [.ref a_ch, .ref a_cs, .ref a_ln, .ref a_ss, .ref a_rr, .ref a_wn, .ref a_cd, .int mt, .int ft])), (a_ch, .inr (1, [.ref a_rm, .ref a_hd, .ref a_sh, .ref a_vl, .int (nI n)])), (a_rm, .inl (cI, 40, .inl (fun j => nI (room j)))), (a_hd, .inl (cI, 40, .inl (fun j => nI (held j)))), (a_sh, .inl (cZ, 40, .inl (fun j => bI (shut j)))), (a_vl, .inl (cI, 320, .inl vals)), (a_cs, .inr (0, [.ref a_cn, .ref a_cc, .ref a_cw, .ref a_cv])), (a_cn, .inl (cI, 16, .inl (fun j => nI (cnum j)))), (a_cc, .inl (cI, 96, .inl (fun j => nI (cch j)))), (a_cw, .inl (cI, 96, .inl (fun j => nI (cway j)))), (a_cv, .inl (cI, 96, .inl cval)), (a_ln, .inr (2, [.ref a_mm, .int (nI len)])), (a_mm, .inl (cI, 16, .inl (fun j => nI (mem j)))), (a_ss, .inl (cI, 16, .inl (fun j => nI (st j)))), (a_rr, .inl (cI, 16, .inl rc)), (a_wn, .inl (cI, 16, .inl (fun j => nI (sn j)))), (a_cd, .inl (cI, 16, .inl cd))] s.heap := hP
  have hl := lv_entry ([.ref a_dk, .int b]) (n := 4) (Nat.le_of_ble_eq_true rfl)
  rw [lg_entry_eq]
  generalize (lg_sl ([.ref a_dk, .int b]) ++ List.replicate (4 - (lg_sl ([.ref a_dk, .int b])).length) Slot.unset).toArray = ls at hl ⊢
  have hl : lv_has ls 4 [(0, .ref a_dk), (1, .int b)] := hl
  obtain ⟨hn, hrm, hV, hC, hL, hst⟩ := hI
  refine lv_aload_n hx hb d_Dk_close_0 rfl (lv_at hl 0 rfl) ?_
  refine va_get (D := G) (ci := 3) (v := .ref a_ch) (C := R_Dk) (T := T_Dk) (N := 9) hx hb hts uw_Dk hown hK hP 0 rfl rfl 0 (by decide) (hts _ t_105) (fun _ h9 => h9) rfl d_Dk_close_1 ?_
  refine lv_iload_n hx hb d_Dk_close_4 rfl (lv_at hl 1 rfl) ?_
  refine k_ro (va_runV (As := [.int b]) (rest := []) ⟨hx, hb, hml, hown, hts⟩ (c_Ch_has l G cI cZ cJ a_ch a_rm a_hd a_sh a_vl n b) (cwV 1 hts (gV t_141 t_142 t_143 t_33 t_144) rfl rfl rfl (by decide +kernel) ⟨Nat.le_of_ble_eq_true rfl, Nat.le_of_ble_eq_true rfl⟩) (kR_V (ci := 1) (q0 := 1) hK hP rfl rfl [1] rfl) rfl rfl hl.1 rfl (lv_room (Nat.le_of_ble_eq_true rfl)) d_Dk_close_5 ⟨Nat.le_of_ble_eq_true rfl, Nat.le_of_ble_eq_true rfl⟩) ?_
  refine b_if_ne (tgt := 13) hx hb d_Dk_close_8 (by decide) (fun c_a => ?_) (fun c_a => ?_)
  · obtain ⟨x, hxn, rfl⟩ := hasB_of (by omega) c_a
    have hx0 : x < 40 := by omega
    refine lv_aload_n hx hb d_Dk_close_13 rfl (lv_at hl 0 rfl) ?_
    refine va_get (D := G) (ci := 3) (v := .ref a_ch) (C := R_Dk) (T := T_Dk) (N := 9) hx hb hts uw_Dk hown hK hP 0 rfl rfl 0 (by decide) (hts _ t_105) (fun _ h9 => h9) rfl d_Dk_close_14 ?_
    refine lv_iload_n hx hb d_Dk_close_17 rfl (lv_at hl 1 rfl) ?_
    refine k_ro (va_runV (As := [.int (nI x)]) (rest := []) ⟨hx, hb, hml, hown, hts⟩ (c_Ch_isShut l G cI cZ cJ a_ch a_rm a_hd a_sh a_vl n shut x (by omega)) (cwV 1 hts (gV t_155 t_156 t_157 t_33 t_158) rfl rfl rfl (by decide +kernel) ⟨Nat.le_of_ble_eq_true rfl, Nat.le_of_ble_eq_true rfl⟩) (kR_V (ci := 1) (q0 := 1) hK hP rfl rfl [1, 4] rfl) rfl rfl hl.1 rfl (lv_room (Nat.le_of_ble_eq_true rfl)) d_Dk_close_18 ⟨Nat.le_of_ble_eq_true rfl, Nat.le_of_ble_eq_true rfl⟩) ?_
    refine b_if_eq (tgt := 27) hx hb d_Dk_close_21 (by decide) (fun c_b => ?_) (fun c_b => ?_)
    · refine lv_aload_n hx hb d_Dk_close_27 rfl (lv_at hl 0 rfl) ?_
      refine va_get (D := G) (ci := 3) (v := .ref a_ch) (C := R_Dk) (T := T_Dk) (N := 9) hx hb hts uw_Dk hown hK hP 0 rfl rfl 0 (by decide) (hts _ t_105) (fun _ h9 => h9) rfl d_Dk_close_28 ?_
      refine lv_iload_n hx hb d_Dk_close_31 rfl (lv_at hl 1 rfl) ?_
      refine k_rwv (va_runV (As := [.int (nI x)]) (rest := []) ⟨hx, hb, hml, hown, hts⟩ (c_Ch_shut l G cI cZ cJ s.heap.size a_ch a_rm a_hd a_sh a_vl n shut x (by omega)) (cwV 1 hts (gV t_284 t_285 t_286 t_33 t_287) rfl rfl rfl (by decide +kernel) ⟨Nat.le_of_ble_eq_true rfl, Nat.le_of_ble_eq_true rfl⟩) (kW_V (ci := 1) (q0 := 1) hK hP hD rfl rfl [1, 4] rfl (by decide) rfl) rfl rfl hl.1 rfl (lv_room (Nat.le_of_ble_eq_true rfl)) d_Dk_close_32 ⟨Nat.le_of_ble_eq_true rfl, Nat.le_of_ble_eq_true rfl⟩) hP hD hS hA [1, 4] rfl (fun _ => rfl) (fun u H locs hw hP hD hS => ?_)
      have hP : va_P G vwCl [(a_dk, .inr (3, [.ref a_ch, .ref a_cs, .ref a_ln, .ref a_ss, .ref a_rr, .ref a_wn, .ref a_cd, .int mt, .int ft])), (a_ch, .inr (1, [.ref a_rm, .ref a_hd, .ref a_sh, .ref a_vl, .int (nI n)])), (a_rm, .inl (cI, 40, .inl (fun j => nI (room j)))), (a_hd, .inl (cI, 40, .inl (fun j => nI (held j)))), (a_sh, .inl (cZ, 40, .inl (fun j => bI ((va_up shut x true) j)))), (a_vl, .inl (cI, 320, .inl vals)), (a_cs, .inr (0, [.ref a_cn, .ref a_cc, .ref a_cw, .ref a_cv])), (a_cn, .inl (cI, 16, .inl (fun j => nI (cnum j)))), (a_cc, .inl (cI, 96, .inl (fun j => nI (cch j)))), (a_cw, .inl (cI, 96, .inl (fun j => nI (cway j)))), (a_cv, .inl (cI, 96, .inl cval)), (a_ln, .inr (2, [.ref a_mm, .int (nI len)])), (a_mm, .inl (cI, 16, .inl (fun j => nI (mem j)))), (a_ss, .inl (cI, 16, .inl (fun j => nI (st j)))), (a_rr, .inl (cI, 16, .inl rc)), (a_wn, .inl (cI, 16, .inl (fun j => nI (sn j)))), (a_cd, .inl (cI, 16, .inl cd))] H := hP
      have hD : va_D A [(a_dk, .inr (3, [.ref a_ch, .ref a_cs, .ref a_ln, .ref a_ss, .ref a_rr, .ref a_wn, .ref a_cd, .int mt, .int ft])), (a_ch, .inr (1, [.ref a_rm, .ref a_hd, .ref a_sh, .ref a_vl, .int (nI n)])), (a_rm, .inl (cI, 40, .inl (fun j => nI (room j)))), (a_hd, .inl (cI, 40, .inl (fun j => nI (held j)))), (a_sh, .inl (cZ, 40, .inl (fun j => bI ((va_up shut x true) j)))), (a_vl, .inl (cI, 320, .inl vals)), (a_cs, .inr (0, [.ref a_cn, .ref a_cc, .ref a_cw, .ref a_cv])), (a_cn, .inl (cI, 16, .inl (fun j => nI (cnum j)))), (a_cc, .inl (cI, 96, .inl (fun j => nI (cch j)))), (a_cw, .inl (cI, 96, .inl (fun j => nI (cway j)))), (a_cv, .inl (cI, 96, .inl cval)), (a_ln, .inr (2, [.ref a_mm, .int (nI len)])), (a_mm, .inl (cI, 16, .inl (fun j => nI (mem j)))), (a_ss, .inl (cI, 16, .inl (fun j => nI (st j)))), (a_rr, .inl (cI, 16, .inl rc)), (a_wn, .inl (cI, 16, .inl (fun j => nI (sn j)))), (a_cd, .inl (cI, 16, .inl cd))] := hD
      refine lv_iconst (v := (nI 0)) hx hb d_Dk_close_35 (by decide +kernel) ?_
      refine lv_istore_n (lv' := [(2, .int (nI 0)), (0, .ref a_dk), (1, .int (nI x))]) hx hb d_Dk_close_36 rfl hl (by decide) rfl (fun ls hl => ?_)
      refine lv_aload_n hx hb d_Dk_close_37 rfl (lv_at hl 1 rfl) ?_
      refine lv_iload_n hx hb d_Dk_close_38 rfl (lv_at hl 2 rfl) ?_
      refine lv_iconst (v := (nI 2)) hx hb d_Dk_close_39 (by decide +kernel) ?_
      refine k_ro (va_runV (As := [.int (nI x), .int (nI 2)]) (rest := []) ⟨hx, hb, hml, hown, hts⟩ (c_Dk_firstWaiting l G cI cZ cJ a_dk a_ch a_cs a_ln a_ss a_rr a_wn a_cd a_mm a_cn a_cc a_cw a_cv mt ft len mem cnum cch cway cval cs line x 2 hx0 (by decide) hC hL) (cwV 2 hts (gV t_162 t_163 t_5 t_32 t_164) rfl rfl rfl (by decide +kernel) ⟨Nat.le_of_ble_eq_true rfl, Nat.le_of_ble_eq_true rfl⟩) (kR_V (ci := 3) (q0 := 0) hK hP rfl rfl [0, 11, 12, 6, 7, 8, 9] rfl) rfl rfl hl.1 rfl (lv_room (Nat.le_of_ble_eq_true rfl)) d_Dk_close_40 ⟨Nat.le_of_ble_eq_true rfl, Nat.le_of_ble_eq_true rfl⟩) ?_
      refine lv_istore_n (lv' := [(3, .int (slI ((wl cs line x 2)[0]?))), (2, .int (nI 0)), (0, .ref a_dk), (1, .int (nI x))]) hx hb d_Dk_close_43 rfl hl (by decide) rfl (fun ls hl => ?_)
      have loop_44 : ∀ (k : Nat) (w9 : Nat) (held9 : Nat → Nat) (vals9 : Nat → Int32) (cnum9 : Nat → Nat) (len9 : Nat) (mem9 : Nat → Nat) (st9 : Nat → Nat) (rc9 : Nat → Int32) (sn9 : Nat → Nat) (cd9 : Nat → Int32) (mt9 : Int32) (ft9 : Int32) (L9 : Nat → List Int32) (cs9 : Nat → List Kase) (line9 : List Nat) (H : Heap) (locs : List Loc) (ls : Array Slot), w9 ≤ 16 → RelV held9 vals9 L9 → RelC cnum9 cch cway cval cs9 → RelL len9 mem9 line9 → (∀ j, j < 16 → st9 j < 5) → m_clo x (16 - w9) (n, room, va_up shut x true, L9, cs9, line9, st9, rc9, sn9, cd9, mt9, ft9) w9 = m_clo x 16 (n, room, va_up shut x true, L, cs, line, st, rc, sn, cd, mt, ft) 0 → 16 - w9 < k → va_P G vwCl [(a_dk, .inr (3, [.ref a_ch, .ref a_cs, .ref a_ln, .ref a_ss, .ref a_rr, .ref a_wn, .ref a_cd, .int mt9, .int ft9])), (a_ch, .inr (1, [.ref a_rm, .ref a_hd, .ref a_sh, .ref a_vl, .int (nI n)])), (a_rm, .inl (cI, 40, .inl (fun j => nI (room j)))), (a_hd, .inl (cI, 40, .inl (fun j => nI (held9 j)))), (a_sh, .inl (cZ, 40, .inl (fun j => bI ((va_up shut x true) j)))), (a_vl, .inl (cI, 320, .inl vals9)), (a_cs, .inr (0, [.ref a_cn, .ref a_cc, .ref a_cw, .ref a_cv])), (a_cn, .inl (cI, 16, .inl (fun j => nI (cnum9 j)))), (a_cc, .inl (cI, 96, .inl (fun j => nI (cch j)))), (a_cw, .inl (cI, 96, .inl (fun j => nI (cway j)))), (a_cv, .inl (cI, 96, .inl cval)), (a_ln, .inr (2, [.ref a_mm, .int (nI len9)])), (a_mm, .inl (cI, 16, .inl (fun j => nI (mem9 j)))), (a_ss, .inl (cI, 16, .inl (fun j => nI (st9 j)))), (a_rr, .inl (cI, 16, .inl rc9)), (a_wn, .inl (cI, 16, .inl (fun j => nI (sn9 j)))), (a_cd, .inl (cI, 16, .inl cd9))] H → va_D A [(a_dk, .inr (3, [.ref a_ch, .ref a_cs, .ref a_ln, .ref a_ss, .ref a_rr, .ref a_wn, .ref a_cd, .int mt9, .int ft9])), (a_ch, .inr (1, [.ref a_rm, .ref a_hd, .ref a_sh, .ref a_vl, .int (nI n)])), (a_rm, .inl (cI, 40, .inl (fun j => nI (room j)))), (a_hd, .inl (cI, 40, .inl (fun j => nI (held9 j)))), (a_sh, .inl (cZ, 40, .inl (fun j => bI ((va_up shut x true) j)))), (a_vl, .inl (cI, 320, .inl vals9)), (a_cs, .inr (0, [.ref a_cn, .ref a_cc, .ref a_cw, .ref a_cv])), (a_cn, .inl (cI, 16, .inl (fun j => nI (cnum9 j)))), (a_cc, .inl (cI, 96, .inl (fun j => nI (cch j)))), (a_cw, .inl (cI, 96, .inl (fun j => nI (cway j)))), (a_cv, .inl (cI, 96, .inl cval)), (a_ln, .inr (2, [.ref a_mm, .int (nI len9)])), (a_mm, .inl (cI, 16, .inl (fun j => nI (mem9 j)))), (a_ss, .inl (cI, 16, .inl (fun j => nI (st9 j)))), (a_rr, .inl (cI, 16, .inl rc9)), (a_wn, .inl (cI, 16, .inl (fun j => nI (sn9 j)))), (a_cd, .inl (cI, 16, .inl cd9))] → va_S A s.heap H locs → lv_has ls 4 [(0, .ref a_dk), (1, .int (nI x)), (2, .int (nI w9)), (3, .int (slI ((wl cs9 line9 x 2)[0]?)))] → W p l e (headSpec (w_Dk_close) ({ frames := 4, cells := 0, slots := 0, locals := 94 })).room s m (List.toArray [.ref a_dk, .int (nI x)]) below meth c H locs 0 0 (MQ below (va_Qi (fun (r : Int32) (u : Nat × (Nat → Nat) × (Nat → Nat) × (Nat → Bool) × (Nat → Int32) × (Nat → Nat) × (Nat → Nat) × (Nat → Nat) × (Nat → Int32) × Nat × (Nat → Nat) × (Nat → Nat) × (Nat → Int32) × (Nat → Nat) × (Nat → Int32) × Int32 × Int32 × (Nat → List Int32) × (Nat → List Kase) × List Nat) => M_close (n, room, shut, L, cs, line, st, rc, sn, cd, mt, ft) (nI x) = ((u.1, u.2.1, u.2.2.2.1, u.2.2.2.2.2.2.2.2.2.2.2.2.2.2.2.2.2.1, u.2.2.2.2.2.2.2.2.2.2.2.2.2.2.2.2.2.2.1, u.2.2.2.2.2.2.2.2.2.2.2.2.2.2.2.2.2.2.2, u.2.2.2.2.2.2.2.2.2.2.2.1, u.2.2.2.2.2.2.2.2.2.2.2.2.1, u.2.2.2.2.2.2.2.2.2.2.2.2.2.1, u.2.2.2.2.2.2.2.2.2.2.2.2.2.2.1, u.2.2.2.2.2.2.2.2.2.2.2.2.2.2.2.1, u.2.2.2.2.2.2.2.2.2.2.2.2.2.2.2.2.1), r) ∧ DI u.1 u.2.1 u.2.2.1 u.2.2.2.2.1 u.2.2.2.2.2.1 u.2.2.2.2.2.2.1 u.2.2.2.2.2.2.2.1 u.2.2.2.2.2.2.2.2.1 u.2.2.2.2.2.2.2.2.2.1 u.2.2.2.2.2.2.2.2.2.2.1 u.2.2.2.2.2.2.2.2.2.2.2.1 u.2.2.2.2.2.2.2.2.2.2.2.2.2.2.2.2.2.1 u.2.2.2.2.2.2.2.2.2.2.2.2.2.2.2.2.2.2.1 u.2.2.2.2.2.2.2.2.2.2.2.2.2.2.2.2.2.2.2) (fun u t => va_P G vwCl [(a_dk, .inr (3, [.ref a_ch, .ref a_cs, .ref a_ln, .ref a_ss, .ref a_rr, .ref a_wn, .ref a_cd, .int u.2.2.2.2.2.2.2.2.2.2.2.2.2.2.2.1, .int u.2.2.2.2.2.2.2.2.2.2.2.2.2.2.2.2.1])), (a_ch, .inr (1, [.ref a_rm, .ref a_hd, .ref a_sh, .ref a_vl, .int (nI u.1)])), (a_rm, .inl (cI, 40, .inl (fun j => nI (u.2.1 j)))), (a_hd, .inl (cI, 40, .inl (fun j => nI (u.2.2.1 j)))), (a_sh, .inl (cZ, 40, .inl (fun j => bI (u.2.2.2.1 j)))), (a_vl, .inl (cI, 320, .inl u.2.2.2.2.1)), (a_cs, .inr (0, [.ref a_cn, .ref a_cc, .ref a_cw, .ref a_cv])), (a_cn, .inl (cI, 16, .inl (fun j => nI (u.2.2.2.2.2.1 j)))), (a_cc, .inl (cI, 96, .inl (fun j => nI (u.2.2.2.2.2.2.1 j)))), (a_cw, .inl (cI, 96, .inl (fun j => nI (u.2.2.2.2.2.2.2.1 j)))), (a_cv, .inl (cI, 96, .inl u.2.2.2.2.2.2.2.2.1)), (a_ln, .inr (2, [.ref a_mm, .int (nI u.2.2.2.2.2.2.2.2.2.1)])), (a_mm, .inl (cI, 16, .inl (fun j => nI (u.2.2.2.2.2.2.2.2.2.2.1 j)))), (a_ss, .inl (cI, 16, .inl (fun j => nI (u.2.2.2.2.2.2.2.2.2.2.2.1 j)))), (a_rr, .inl (cI, 16, .inl u.2.2.2.2.2.2.2.2.2.2.2.2.1)), (a_wn, .inl (cI, 16, .inl (fun j => nI (u.2.2.2.2.2.2.2.2.2.2.2.2.2.1 j)))), (a_cd, .inl (cI, 16, .inl u.2.2.2.2.2.2.2.2.2.2.2.2.2.2.1))] t.heap) A) (List.toArray [.ref a_dk, .int (nI x)]) s 0 0 A) (F0 m 44 ls []) := by
        intro k
        induction k with
        | zero => intro w9 held9 vals9 cnum9 len9 mem9 st9 rc9 sn9 cd9 mt9 ft9 L9 cs9 line9 H locs ls hw16 hV hC hL hst hM9 hk; exact absurd hk (Nat.not_lt_zero _)
        | succ k ih_44 =>
          intro w9 held9 vals9 cnum9 len9 mem9 st9 rc9 sn9 cd9 mt9 ft9 L9 cs9 line9 H locs ls hw16 hV hC hL hst hM9 hk hP hD hS hl
          refine lv_iload_n hx hb d_Dk_close_44 rfl (lv_at hl 3 rfl) ?_
          rcases hz : (wl cs9 line9 x 2)[0]? with _ | ⟨q1, i1⟩
          · refine k_top (y := (-1)) (rfl) ?_
            refine lv_iconst (v := (-1)) hx hb d_Dk_close_45 (by decide +kernel) ?_
            refine lv_icmp_eq (tgt := 73) hx hb d_Dk_close_46 (by decide) (fun c_c => ?_) (fun c_c => absurd rfl c_c)
            refine lv_iload_n hx hb d_Dk_close_73 rfl (lv_at hl 2 rfl) ?_
            exact k_wi hx hb hr hlocks hP hS (n, room, held9, va_up shut x true, vals9, cnum9, cch, cway, cval, len9, mem9, st9, rc9, sn9, cd9, mt9, ft9, L9, cs9, line9) (rfl) (⟨M_close_2 (σ := (n, room, shut, L, cs, line, st, rc, sn, cd, mt, ft)) c_a hx0 c_b (hM9.symm.trans (clo_none hz)), hn, hrm, hV, hC, hL, hst⟩) d_Dk_close_74
          · have hz1 := wl_mem (List.mem_of_getElem? hz)
            have hq1 : q1 < 16 := RelL_lt hL hz1.1
            have hi1 : i1 < (cs9 q1).length := fa_lt hz1.2
            have h61 := (hC q1 hq1).2.1
            refine k_top (y := (nI (q1 * 6 + i1))) (rfl) ?_
            refine lv_iconst (v := (-1)) hx hb d_Dk_close_45 (by decide +kernel) ?_
            refine lv_icmp_eq (tgt := 73) hx hb d_Dk_close_46 (by decide) (fun c_c => absurd c_c (nI_m1 (by omega))) (fun c_c => ?_)
            refine lv_iload_n hx hb d_Dk_close_49 rfl (lv_at hl 2 rfl) ?_
            refine lv_bipush (v := (nI 16)) hx hb d_Dk_close_50 (by decide +kernel) ?_
            refine n_icmp_ge (tgt := 73) hx hb d_Dk_close_52 (by decide) (by omega) (by decide) (fun c_d => ?_) (fun c_d => ?_)
            · refine lv_iload_n hx hb d_Dk_close_73 rfl (lv_at hl 2 rfl) ?_
              exact k_wi hx hb hr hlocks hP hS (n, room, held9, va_up shut x true, vals9, cnum9, cch, cway, cval, len9, mem9, st9, rc9, sn9, cd9, mt9, ft9, L9, cs9, line9) (rfl) (⟨M_close_2 (σ := (n, room, shut, L, cs, line, st, rc, sn, cd, mt, ft)) c_a hx0 c_b (hM9.symm.trans (clo_full c_d)), hn, hrm, hV, hC, hL, hst⟩) d_Dk_close_74
            · refine lv_aload_n hx hb d_Dk_close_55 rfl (lv_at hl 0 rfl) ?_
              refine lv_iload_n hx hb d_Dk_close_56 rfl (lv_at hl 3 rfl) ?_
              refine k_top (y := (nI (q1 * 6 + i1))) (by rw [hz]; rfl) ?_
              refine k_rwv (va_runV (As := [.int (nI (q1 * 6 + i1))]) (rest := []) ⟨hx, hb, hml, hown, hts⟩ (c_Dk_wakeAtShutChannel l G cI cZ cJ H.size a_dk a_ch a_cs a_ln a_ss a_rr a_wn a_cd a_rm a_hd a_sh a_vl a_cn a_cc a_cw a_cv a_mm mt9 ft9 n room held9 (va_up shut x true) vals9 cnum9 cch cway cval len9 mem9 st9 rc9 sn9 cd9 L9 cs9 line9 q1 i1 hq1 hi1 hV hC hL (by omega)) (cwV 1 hts (gV t_288 t_289 t_16 t_32 t_290) rfl rfl rfl (by decide +kernel) ⟨Nat.le_of_ble_eq_true rfl, Nat.le_of_ble_eq_true rfl⟩) (kW_V (ci := 3) (q0 := 0) hK hP hD rfl rfl [0, 1, 2, 3, 4, 5, 6, 7, 8, 9, 10, 11, 12, 13, 14, 15, 16] rfl (by decide) rfl) rfl rfl hl.1 rfl (lv_room (Nat.le_of_ble_eq_true rfl)) d_Dk_close_57 ⟨Nat.le_of_ble_eq_true rfl, Nat.le_of_ble_eq_true rfl⟩) hP hD hS hA [0, 1, 2, 3, 4, 5, 6, 7, 8, 9, 10, 11, 12, 13, 14, 15, 16] rfl (fun _ => rfl) (fun u H locs hw hP hD hS => ?_)
              obtain ⟨held_7, vals_7, cnum_7, len_7, mem_7, st_7, rc_7, sn_7, cd_7, mt_7, ft_7, L_7, cs_7, line_7⟩ := u
              obtain ⟨hM, hV, hC, hL, hst⟩ := hw
              have hM : m_wake (n, room, (va_up shut x true), L9, cs9, line9, st9, rc9, sn9, cd9, mt9, ft9) q1 i1 = (n, room, (va_up shut x true), L_7, cs_7, line_7, st_7, rc_7, sn_7, cd_7, mt_7, ft_7) := hM
              have hV : RelV held_7 vals_7 L_7 := hV
              have hC : RelC cnum_7 cch cway cval cs_7 := hC
              have hL : RelL len_7 mem_7 line_7 := hL
              have hst : ∀ j, j < 16 → st_7 j < 5 := hst
              have hP : va_P G vwCl [(a_dk, .inr (3, [.ref a_ch, .ref a_cs, .ref a_ln, .ref a_ss, .ref a_rr, .ref a_wn, .ref a_cd, .int mt_7, .int ft_7])), (a_ch, .inr (1, [.ref a_rm, .ref a_hd, .ref a_sh, .ref a_vl, .int (nI n)])), (a_rm, .inl (cI, 40, .inl (fun j => nI (room j)))), (a_hd, .inl (cI, 40, .inl (fun j => nI (held_7 j)))), (a_sh, .inl (cZ, 40, .inl (fun j => bI ((va_up shut x true) j)))), (a_vl, .inl (cI, 320, .inl vals_7)), (a_cs, .inr (0, [.ref a_cn, .ref a_cc, .ref a_cw, .ref a_cv])), (a_cn, .inl (cI, 16, .inl (fun j => nI (cnum_7 j)))), (a_cc, .inl (cI, 96, .inl (fun j => nI (cch j)))), (a_cw, .inl (cI, 96, .inl (fun j => nI (cway j)))), (a_cv, .inl (cI, 96, .inl cval)), (a_ln, .inr (2, [.ref a_mm, .int (nI len_7)])), (a_mm, .inl (cI, 16, .inl (fun j => nI (mem_7 j)))), (a_ss, .inl (cI, 16, .inl (fun j => nI (st_7 j)))), (a_rr, .inl (cI, 16, .inl rc_7)), (a_wn, .inl (cI, 16, .inl (fun j => nI (sn_7 j)))), (a_cd, .inl (cI, 16, .inl cd_7))] H := hP
              have hD : va_D A [(a_dk, .inr (3, [.ref a_ch, .ref a_cs, .ref a_ln, .ref a_ss, .ref a_rr, .ref a_wn, .ref a_cd, .int mt_7, .int ft_7])), (a_ch, .inr (1, [.ref a_rm, .ref a_hd, .ref a_sh, .ref a_vl, .int (nI n)])), (a_rm, .inl (cI, 40, .inl (fun j => nI (room j)))), (a_hd, .inl (cI, 40, .inl (fun j => nI (held_7 j)))), (a_sh, .inl (cZ, 40, .inl (fun j => bI ((va_up shut x true) j)))), (a_vl, .inl (cI, 320, .inl vals_7)), (a_cs, .inr (0, [.ref a_cn, .ref a_cc, .ref a_cw, .ref a_cv])), (a_cn, .inl (cI, 16, .inl (fun j => nI (cnum_7 j)))), (a_cc, .inl (cI, 96, .inl (fun j => nI (cch j)))), (a_cw, .inl (cI, 96, .inl (fun j => nI (cway j)))), (a_cv, .inl (cI, 96, .inl cval)), (a_ln, .inr (2, [.ref a_mm, .int (nI len_7)])), (a_mm, .inl (cI, 16, .inl (fun j => nI (mem_7 j)))), (a_ss, .inl (cI, 16, .inl (fun j => nI (st_7 j)))), (a_rr, .inl (cI, 16, .inl rc_7)), (a_wn, .inl (cI, 16, .inl (fun j => nI (sn_7 j)))), (a_cd, .inl (cI, 16, .inl cd_7))] := hD
              refine lv_iinc (v := (nI (w9 + 1))) (lv' := [(2, .int (nI (w9 + 1))), (0, .ref a_dk), (1, .int (nI x)), (3, .int (slI ((wl cs9 line9 x 2)[0]?)))]) hx hb d_Dk_close_60 hl (k := 2) rfl (nI_add w9 1) (by decide) rfl (fun ls hl => ?_)
              refine lv_aload_n hx hb d_Dk_close_63 rfl (lv_at hl 1 rfl) ?_
              refine lv_iload_n hx hb d_Dk_close_64 rfl (lv_at hl 2 rfl) ?_
              refine lv_iconst (v := (nI 2)) hx hb d_Dk_close_65 (by decide +kernel) ?_
              refine k_ro (va_runV (As := [.int (nI x), .int (nI 2)]) (rest := []) ⟨hx, hb, hml, hown, hts⟩ (c_Dk_firstWaiting l G cI cZ cJ a_dk a_ch a_cs a_ln a_ss a_rr a_wn a_cd a_mm a_cn a_cc a_cw a_cv mt_7 ft_7 len_7 mem_7 cnum_7 cch cway cval cs_7 line_7 x 2 hx0 (by decide) hC hL) (cwV 2 hts (gV t_162 t_163 t_5 t_32 t_164) rfl rfl rfl (by decide +kernel) ⟨Nat.le_of_ble_eq_true rfl, Nat.le_of_ble_eq_true rfl⟩) (kR_V (ci := 3) (q0 := 0) hK hP rfl rfl [0, 11, 12, 6, 7, 8, 9] rfl) rfl rfl hl.1 rfl (lv_room (Nat.le_of_ble_eq_true rfl)) d_Dk_close_66 ⟨Nat.le_of_ble_eq_true rfl, Nat.le_of_ble_eq_true rfl⟩) ?_
              refine lv_istore_n (lv' := [(3, .int (slI ((wl cs_7 line_7 x 2)[0]?))), (2, .int (nI (w9 + 1))), (0, .ref a_dk), (1, .int (nI x))]) hx hb d_Dk_close_69 rfl hl (by decide) rfl (fun ls hl => ?_)
              refine lv_goto (tgt := 44) hx hb d_Dk_close_70 (by decide) ?_
              exact ih_44 (w9 + 1) held_7 vals_7 cnum_7 len_7 mem_7 st_7 rc_7 sn_7 cd_7 mt_7 ft_7 L_7 cs_7 line_7 _ _ ls (by omega) (hV) (hC) (hL) (hst) (((clo_some (σ := (n, room, va_up shut x true, L9, cs9, line9, st9, rc9, sn9, cd9, mt9, ft9)) (z := (q1, i1)) c_d hz).symm.trans hM9 |> fun h => by rw [← hM]; exact h)) (by omega) (hP.sub [0, 1, 2, 3, 4, 5, 6, 7, 8, 9, 10, 11, 12, 13, 14, 15, 16] rfl) (hD.sub [0, 1, 2, 3, 4, 5, 6, 7, 8, 9, 10, 11, 12, 13, 14, 15, 16] (by decide) rfl) hS (lv_sub hl [2, 3, 1, 0] rfl)
      exact loop_44 ((16 - 0) + 1) 0 held vals cnum len mem st rc sn cd mt ft L cs line _ _ ls (by decide) (hV) (hC) (hL) (hst) (rfl) (Nat.lt_succ_self _) (hP.sub [0, 1, 2, 3, 4, 5, 6, 7, 8, 9, 10, 11, 12, 13, 14, 15, 16] rfl) (hD.sub [0, 1, 2, 3, 4, 5, 6, 7, 8, 9, 10, 11, 12, 13, 14, 15, 16] (by decide) rfl) hS (lv_sub hl [2, 3, 1, 0] rfl)
    · refine lv_bipush (v := (-2)) hx hb d_Dk_close_24 (by decide +kernel) ?_
      exact k_wi hx hb hr hlocks hP hS (n, room, held, shut, vals, cnum, cch, cway, cval, len, mem, st, rc, sn, cd, mt, ft, L, cs, line) (rfl) (⟨M_close_1 c_a hx0 c_b, hn, hrm, hV, hC, hL, hst⟩) d_Dk_close_26
  · refine lv_iconst (v := (-1)) hx hb d_Dk_close_11 (by decide +kernel) ?_
    exact k_wi hx hb hr hlocks hP hS (n, room, held, shut, vals, cnum, cch, cway, cval, len, mem, st, rc, sn, cd, mt, ft, L, cs, line) (rfl) (⟨M_close_0 c_a, hn, hrm, hV, hC, hL, hst⟩) d_Dk_close_12
end
