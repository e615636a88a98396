-- ===== PART A: goes FIRST, ahead of the names: the tables' words, and 'selects' of the private methods out of them =====
/-- a private method of a class that the tables say can be made, by its rows of tables_1 -/
def lw_okq (q : MethodName × Nat) : Prop := (q.1.cls ≠ "java/lang/invoke/MethodHandle" ∧ q.1.cls ≠ "java/lang/invoke/VarHandle") ∧ Cond.instantiable q.1.cls q.2 ∈ tables_1 ∧ Cond.privateMethod q.1 ∈ tables_1 ∧ Cond.instanceMethod q.1 ∈ tables_1
theorem lw_p0 : lw_okq (⟨"ChannelDesk", "startAfresh", "()V"⟩, 9) := ⟨⟨by decide +kernel, by decide +kernel⟩, List.mem_of_getElem? (i := 9) (by decide +kernel), List.mem_of_getElem? (i := 73) (by decide +kernel), List.mem_of_getElem? (i := 74) (by decide +kernel)⟩
theorem lw_p1 : lw_okq (⟨"ChannelDesk", "isReady", "(I)Z"⟩, 9) := ⟨⟨by decide +kernel, by decide +kernel⟩, List.mem_of_getElem? (i := 9) (by decide +kernel), List.mem_of_getElem? (i := 133) (by decide +kernel), List.mem_of_getElem? (i := 134) (by decide +kernel)⟩
theorem lw_p2 : lw_okq (⟨"ChannelDesk", "makeReady", "(I)V"⟩, 9) := ⟨⟨by decide +kernel, by decide +kernel⟩, List.mem_of_getElem? (i := 9) (by decide +kernel), List.mem_of_getElem? (i := 144) (by decide +kernel), List.mem_of_getElem? (i := 145) (by decide +kernel)⟩
theorem lw_p3 : lw_okq (⟨"ChannelDesk", "trySend", "(III)I"⟩, 9) := ⟨⟨by decide +kernel, by decide +kernel⟩, List.mem_of_getElem? (i := 9) (by decide +kernel), List.mem_of_getElem? (i := 152) (by decide +kernel), List.mem_of_getElem? (i := 153) (by decide +kernel)⟩
theorem lw_p4 : lw_okq (⟨"ChannelDesk", "sufferFault", "(I)V"⟩, 9) := ⟨⟨by decide +kernel, by decide +kernel⟩, List.mem_of_getElem? (i := 9) (by decide +kernel), List.mem_of_getElem? (i := 160) (by decide +kernel), List.mem_of_getElem? (i := 161) (by decide +kernel)⟩
theorem lw_p5 : lw_okq (⟨"ChannelDesk", "firstWaiting", "(II)I"⟩, 9) := ⟨⟨by decide +kernel, by decide +kernel⟩, List.mem_of_getElem? (i := 9) (by decide +kernel), List.mem_of_getElem? (i := 164) (by decide +kernel), List.mem_of_getElem? (i := 165) (by decide +kernel)⟩
theorem lw_p6 : lw_okq (⟨"ChannelDesk", "findWaiting", "(III)I"⟩, 9) := ⟨⟨by decide +kernel, by decide +kernel⟩, List.mem_of_getElem? (i := 9) (by decide +kernel), List.mem_of_getElem? (i := 168) (by decide +kernel), List.mem_of_getElem? (i := 169) (by decide +kernel)⟩
theorem lw_p7 : lw_okq (⟨"ChannelDesk", "endWait", "(I)V"⟩, 9) := ⟨⟨by decide +kernel, by decide +kernel⟩, List.mem_of_getElem? (i := 9) (by decide +kernel), List.mem_of_getElem? (i := 187) (by decide +kernel), List.mem_of_getElem? (i := 188) (by decide +kernel)⟩
theorem lw_p8 : lw_okq (⟨"ChannelDesk", "hand", "(III)V"⟩, 9) := ⟨⟨by decide +kernel, by decide +kernel⟩, List.mem_of_getElem? (i := 9) (by decide +kernel), List.mem_of_getElem? (i := 201) (by decide +kernel), List.mem_of_getElem? (i := 202) (by decide +kernel)⟩
theorem lw_p9 : lw_okq (⟨"ChannelDesk", "startWaiting", "(II)V"⟩, 9) := ⟨⟨by decide +kernel, by decide +kernel⟩, List.mem_of_getElem? (i := 9) (by decide +kernel), List.mem_of_getElem? (i := 217) (by decide +kernel), List.mem_of_getElem? (i := 218) (by decide +kernel)⟩
theorem lw_p10 : lw_okq (⟨"ChannelDesk", "tryReceive", "(II)I"⟩, 9) := ⟨⟨by decide +kernel, by decide +kernel⟩, List.mem_of_getElem? (i := 9) (by decide +kernel), List.mem_of_getElem? (i := 229) (by decide +kernel), List.mem_of_getElem? (i := 230) (by decide +kernel)⟩
theorem lw_p11 : lw_okq (⟨"ChannelDesk", "takeFromSender", "(I)I"⟩, 9) := ⟨⟨by decide +kernel, by decide +kernel⟩, List.mem_of_getElem? (i := 9) (by decide +kernel), List.mem_of_getElem? (i := 244) (by decide +kernel), List.mem_of_getElem? (i := 245) (by decide +kernel)⟩
theorem lw_p12 : lw_okq (⟨"ChannelDesk", "countPossible", "(I)I"⟩, 9) := ⟨⟨by decide +kernel, by decide +kernel⟩, List.mem_of_getElem? (i := 9) (by decide +kernel), List.mem_of_getElem? (i := 263) (by decide +kernel), List.mem_of_getElem? (i := 264) (by decide +kernel)⟩
theorem lw_p13 : lw_okq (⟨"ChannelDesk", "isPossible", "(I)Z"⟩, 9) := ⟨⟨by decide +kernel, by decide +kernel⟩, List.mem_of_getElem? (i := 9) (by decide +kernel), List.mem_of_getElem? (i := 272) (by decide +kernel), List.mem_of_getElem? (i := 273) (by decide +kernel)⟩
theorem lw_p14 : lw_okq (⟨"ChannelDesk", "findPossible", "(II)I"⟩, 9) := ⟨⟨by decide +kernel, by decide +kernel⟩, List.mem_of_getElem? (i := 9) (by decide +kernel), List.mem_of_getElem? (i := 285) (by decide +kernel), List.mem_of_getElem? (i := 286) (by decide +kernel)⟩
theorem lw_p15 : lw_okq (⟨"ChannelDesk", "doCase", "(II)I"⟩, 9) := ⟨⟨by decide +kernel, by decide +kernel⟩, List.mem_of_getElem? (i := 9) (by decide +kernel), List.mem_of_getElem? (i := 289) (by decide +kernel), List.mem_of_getElem? (i := 290) (by decide +kernel)⟩
def lw_privs_1 : List (MethodName × Nat) := [(⟨"ChannelDesk", "startAfresh", "()V"⟩, 9), (⟨"ChannelDesk", "isReady", "(I)Z"⟩, 9), (⟨"ChannelDesk", "makeReady", "(I)V"⟩, 9), (⟨"ChannelDesk", "trySend", "(III)I"⟩, 9), (⟨"ChannelDesk", "sufferFault", "(I)V"⟩, 9), (⟨"ChannelDesk", "firstWaiting", "(II)I"⟩, 9), (⟨"ChannelDesk", "findWaiting", "(III)I"⟩, 9), (⟨"ChannelDesk", "endWait", "(I)V"⟩, 9), (⟨"ChannelDesk", "hand", "(III)V"⟩, 9), (⟨"ChannelDesk", "startWaiting", "(II)V"⟩, 9), (⟨"ChannelDesk", "tryReceive", "(II)I"⟩, 9), (⟨"ChannelDesk", "takeFromSender", "(I)I"⟩, 9), (⟨"ChannelDesk", "countPossible", "(I)I"⟩, 9), (⟨"ChannelDesk", "isPossible", "(I)Z"⟩, 9), (⟨"ChannelDesk", "findPossible", "(II)I"⟩, 9), (⟨"ChannelDesk", "doCase", "(II)I"⟩, 9)]
theorem lw_r1 : ∀ q ∈ lw_privs_1, lw_okq q := List.forall_mem_cons.mpr ⟨lw_p0, List.forall_mem_cons.mpr ⟨lw_p1, List.forall_mem_cons.mpr ⟨lw_p2, List.forall_mem_cons.mpr ⟨lw_p3, List.forall_mem_cons.mpr ⟨lw_p4, List.forall_mem_cons.mpr ⟨lw_p5, List.forall_mem_cons.mpr ⟨lw_p6, List.forall_mem_cons.mpr ⟨lw_p7, List.forall_mem_cons.mpr ⟨lw_p8, List.forall_mem_cons.mpr ⟨lw_p9, List.forall_mem_cons.mpr ⟨lw_p10, List.forall_mem_cons.mpr ⟨lw_p11, List.forall_mem_cons.mpr ⟨lw_p12, List.forall_mem_cons.mpr ⟨lw_p13, List.forall_mem_cons.mpr ⟨lw_p14, List.forall_mem_cons.mpr ⟨lw_p15, fun _ h => absurd h List.not_mem_nil⟩⟩⟩⟩⟩⟩⟩⟩⟩⟩⟩⟩⟩⟩⟩⟩
theorem lw_p16 : lw_okq (⟨"ChannelDesk", "wakeAtShutChannel", "(I)V"⟩, 9) := ⟨⟨by decide +kernel, by decide +kernel⟩, List.mem_of_getElem? (i := 9) (by decide +kernel), List.mem_of_getElem? (i := 301) (by decide +kernel), List.mem_of_getElem? (i := 302) (by decide +kernel)⟩
theorem lw_p17 : lw_okq (⟨"ChannelDeskModel", "isReady", "(I)Z"⟩, 19) := ⟨⟨by decide +kernel, by decide +kernel⟩, List.mem_of_getElem? (i := 345) (by decide +kernel), List.mem_of_getElem? (i := 418) (by decide +kernel), List.mem_of_getElem? (i := 419) (by decide +kernel)⟩
theorem lw_p18 : lw_okq (⟨"ChannelDeskModel", "isChannel", "(I)Z"⟩, 19) := ⟨⟨by decide +kernel, by decide +kernel⟩, List.mem_of_getElem? (i := 345) (by decide +kernel), List.mem_of_getElem? (i := 425) (by decide +kernel), List.mem_of_getElem? (i := 426) (by decide +kernel)⟩
theorem lw_p19 : lw_okq (⟨"ChannelDeskModel", "ready", "(II)V"⟩, 19) := ⟨⟨by decide +kernel, by decide +kernel⟩, List.mem_of_getElem? (i := 345) (by decide +kernel), List.mem_of_getElem? (i := 429) (by decide +kernel), List.mem_of_getElem? (i := 430) (by decide +kernel)⟩
theorem lw_p20 : lw_okq (⟨"ChannelDeskModel", "isPossible", "(II)Z"⟩, 19) := ⟨⟨by decide +kernel, by decide +kernel⟩, List.mem_of_getElem? (i := 345) (by decide +kernel), List.mem_of_getElem? (i := 433) (by decide +kernel), List.mem_of_getElem? (i := 434) (by decide +kernel)⟩
theorem lw_p21 : lw_okq (⟨"ChannelDeskModel", "waiter", "(III)I"⟩, 19) := ⟨⟨by decide +kernel, by decide +kernel⟩, List.mem_of_getElem? (i := 345) (by decide +kernel), List.mem_of_getElem? (i := 437) (by decide +kernel), List.mem_of_getElem? (i := 438) (by decide +kernel)⟩
theorem lw_p22 : lw_okq (⟨"ChannelDeskModel", "waitsAt", "(III)Z"⟩, 19) := ⟨⟨by decide +kernel, by decide +kernel⟩, List.mem_of_getElem? (i := 345) (by decide +kernel), List.mem_of_getElem? (i := 441) (by decide +kernel), List.mem_of_getElem? (i := 442) (by decide +kernel)⟩
theorem lw_p23 : lw_okq (⟨"ChannelDeskModel", "caseAt", "(III)I"⟩, 19) := ⟨⟨by decide +kernel, by decide +kernel⟩, List.mem_of_getElem? (i := 345) (by decide +kernel), List.mem_of_getElem? (i := 445) (by decide +kernel), List.mem_of_getElem? (i := 446) (by decide +kernel)⟩
theorem lw_p24 : lw_okq (⟨"ChannelDeskModel", "sendNow", "(III)I"⟩, 19) := ⟨⟨by decide +kernel, by decide +kernel⟩, List.mem_of_getElem? (i := 345) (by decide +kernel), List.mem_of_getElem? (i := 449) (by decide +kernel), List.mem_of_getElem? (i := 450) (by decide +kernel)⟩
theorem lw_p25 : lw_okq (⟨"ChannelDeskModel", "receives", "(IIIZ)V"⟩, 19) := ⟨⟨by decide +kernel, by decide +kernel⟩, List.mem_of_getElem? (i := 345) (by decide +kernel), List.mem_of_getElem? (i := 453) (by decide +kernel), List.mem_of_getElem? (i := 454) (by decide +kernel)⟩
theorem lw_p26 : lw_okq (⟨"ChannelDeskModel", "push", "(II)V"⟩, 19) := ⟨⟨by decide +kernel, by decide +kernel⟩, List.mem_of_getElem? (i := 345) (by decide +kernel), List.mem_of_getElem? (i := 457) (by decide +kernel), List.mem_of_getElem? (i := 458) (by decide +kernel)⟩
theorem lw_p27 : lw_okq (⟨"ChannelDeskModel", "waits", "(II)V"⟩, 19) := ⟨⟨by decide +kernel, by decide +kernel⟩, List.mem_of_getElem? (i := 345) (by decide +kernel), List.mem_of_getElem? (i := 461) (by decide +kernel), List.mem_of_getElem? (i := 462) (by decide +kernel)⟩
theorem lw_p28 : lw_okq (⟨"ChannelDeskModel", "receiveNow", "(II)V"⟩, 19) := ⟨⟨by decide +kernel, by decide +kernel⟩, List.mem_of_getElem? (i := 345) (by decide +kernel), List.mem_of_getElem? (i := 469) (by decide +kernel), List.mem_of_getElem? (i := 470) (by decide +kernel)⟩
theorem lw_p29 : lw_okq (⟨"ChannelDeskModel", "take", "(I)I"⟩, 19) := ⟨⟨by decide +kernel, by decide +kernel⟩, List.mem_of_getElem? (i := 345) (by decide +kernel), List.mem_of_getElem? (i := 473) (by decide +kernel), List.mem_of_getElem? (i := 474) (by decide +kernel)⟩
theorem lw_p30 : lw_okq (⟨"ChannelDeskModel", "sends", "(II)I"⟩, 19) := ⟨⟨by decide +kernel, by decide +kernel⟩, List.mem_of_getElem? (i := 345) (by decide +kernel), List.mem_of_getElem? (i := 477) (by decide +kernel), List.mem_of_getElem? (i := 478) (by decide +kernel)⟩
def lw_privs_2 : List (MethodName × Nat) := [(⟨"ChannelDesk", "wakeAtShutChannel", "(I)V"⟩, 9), (⟨"ChannelDeskModel", "isReady", "(I)Z"⟩, 19), (⟨"ChannelDeskModel", "isChannel", "(I)Z"⟩, 19), (⟨"ChannelDeskModel", "ready", "(II)V"⟩, 19), (⟨"ChannelDeskModel", "isPossible", "(II)Z"⟩, 19), (⟨"ChannelDeskModel", "waiter", "(III)I"⟩, 19), (⟨"ChannelDeskModel", "waitsAt", "(III)Z"⟩, 19), (⟨"ChannelDeskModel", "caseAt", "(III)I"⟩, 19), (⟨"ChannelDeskModel", "sendNow", "(III)I"⟩, 19), (⟨"ChannelDeskModel", "receives", "(IIIZ)V"⟩, 19), (⟨"ChannelDeskModel", "push", "(II)V"⟩, 19), (⟨"ChannelDeskModel", "waits", "(II)V"⟩, 19), (⟨"ChannelDeskModel", "receiveNow", "(II)V"⟩, 19), (⟨"ChannelDeskModel", "take", "(I)I"⟩, 19), (⟨"ChannelDeskModel", "sends", "(II)I"⟩, 19)]
theorem lw_r2 : ∀ q ∈ lw_privs_2, lw_okq q := List.forall_mem_cons.mpr ⟨lw_p16, List.forall_mem_cons.mpr ⟨lw_p17, List.forall_mem_cons.mpr ⟨lw_p18, List.forall_mem_cons.mpr ⟨lw_p19, List.forall_mem_cons.mpr ⟨lw_p20, List.forall_mem_cons.mpr ⟨lw_p21, List.forall_mem_cons.mpr ⟨lw_p22, List.forall_mem_cons.mpr ⟨lw_p23, List.forall_mem_cons.mpr ⟨lw_p24, List.forall_mem_cons.mpr ⟨lw_p25, List.forall_mem_cons.mpr ⟨lw_p26, List.forall_mem_cons.mpr ⟨lw_p27, List.forall_mem_cons.mpr ⟨lw_p28, List.forall_mem_cons.mpr ⟨lw_p29, List.forall_mem_cons.mpr ⟨lw_p30, fun _ h => absurd h List.not_mem_nil⟩⟩⟩⟩⟩⟩⟩⟩⟩⟩⟩⟩⟩⟩⟩
def lw_privs : List (MethodName × Nat) := lw_privs_1 ++ (lw_privs_2)
def lw_tbl : List Cond := k2_sels lw_privs ++ tables_1
theorem lw_privs_ok : ∀ q ∈ lw_privs, lw_okq q := by
  show ∀ q ∈ lw_privs_1 ++ (lw_privs_2), lw_okq q
  exact List.forall_mem_append.mpr ⟨lw_r1, lw_r2⟩
abbrev R_Dk : String := "ChannelDesk"
abbrev R_Cs : String := "ChannelDesk$Cases"
abbrev R_Ch : String := "ChannelDesk$Channels"
abbrev R_Ln : String := "ChannelDesk$Line"
abbrev R_Md : String := "ChannelDeskModel"
abbrev R_Ar : String := "java/util/Arrays"
abbrev R_Lw : String := "ChannelDeskLaw"
abbrev R_Sy : String := "java/lang/System"
abbrev R_Ob : String := "java/lang/Object"
def T_Cs : u_T := fun k => match k with
  | 0 => ("ChannelDesk$Cases", "number", "[I", true)
  | 1 => ("ChannelDesk$Cases", "channels", "[I", true)
  | 2 => ("ChannelDesk$Cases", "ways", "[I", true)
  | _ => ("ChannelDesk$Cases", "values", "[I", true)
def ty_Cs : Nat → FieldType := fun k => match k with
  | 0 => .array .int
  | 1 => .array .int
  | 2 => .array .int
  | _ => .array .int
theorem nm_Cs : ∀ a, a < 4 → ∀ b, b < 4 → a ≠ b → (T_Cs a).2.1 ≠ (T_Cs b).2.1 := by decide +kernel
theorem tyok_Cs : ∀ k, k < 4 → parseFieldDescriptor (T_Cs k).2.2.1 = some (ty_Cs k) := by decide +kernel
def T_Ch : u_T := fun k => match k with
  | 0 => ("ChannelDesk$Channels", "room", "[I", true)
  | 1 => ("ChannelDesk$Channels", "held", "[I", true)
  | 2 => ("ChannelDesk$Channels", "shut", "[Z", true)
  | 3 => ("ChannelDesk$Channels", "values", "[I", true)
  | _ => ("ChannelDesk$Channels", "number", "I", false)
def ty_Ch : Nat → FieldType := fun k => match k with
  | 0 => .array .int
  | 1 => .array .int
  | 2 => .array .boolean
  | 3 => .array .int
  | _ => .int
theorem nm_Ch : ∀ a, a < 5 → ∀ b, b < 5 → a ≠ b → (T_Ch a).2.1 ≠ (T_Ch b).2.1 := by decide +kernel
theorem tyok_Ch : ∀ k, k < 5 → parseFieldDescriptor (T_Ch k).2.2.1 = some (ty_Ch k) := by decide +kernel
def T_Ln : u_T := fun k => match k with
  | 0 => ("ChannelDesk$Line", "members", "[I", true)
  | _ => ("ChannelDesk$Line", "length", "I", false)
def ty_Ln : Nat → FieldType := fun k => match k with
  | 0 => .array .int
  | _ => .int
theorem nm_Ln : ∀ a, a < 2 → ∀ b, b < 2 → a ≠ b → (T_Ln a).2.1 ≠ (T_Ln b).2.1 := by decide +kernel
theorem tyok_Ln : ∀ k, k < 2 → parseFieldDescriptor (T_Ln k).2.2.1 = some (ty_Ln k) := by decide +kernel
def T_Dk : u_T := fun k => match k with
  | 0 => ("ChannelDesk", "channels", "LChannelDesk$Channels;", true)
  | 1 => ("ChannelDesk", "cases", "LChannelDesk$Cases;", true)
  | 2 => ("ChannelDesk", "line", "LChannelDesk$Line;", true)
  | 3 => ("ChannelDesk", "status", "[I", true)
  | 4 => ("ChannelDesk", "received", "[I", true)
  | 5 => ("ChannelDesk", "wasSent", "[I", true)
  | 6 => ("ChannelDesk", "caseDone", "[I", true)
  | 7 => ("ChannelDesk", "meetings", "I", false)
  | _ => ("ChannelDesk", "faults", "I", false)
def ty_Dk : Nat → FieldType := fun k => match k with
  | 0 => .object "ChannelDesk$Channels"
  | 1 => .object "ChannelDesk$Cases"
  | 2 => .object "ChannelDesk$Line"
  | 3 => .array .int
  | 4 => .array .int
  | 5 => .array .int
  | 6 => .array .int
  | 7 => .int
  | _ => .int
theorem nm_Dk : ∀ a, a < 9 → ∀ b, b < 9 → a ≠ b → (T_Dk a).2.1 ≠ (T_Dk b).2.1 := by decide +kernel
theorem tyok_Dk : ∀ k, k < 9 → parseFieldDescriptor (T_Dk k).2.2.1 = some (ty_Dk k) := by decide +kernel
def T_Md : u_T := fun k => match k with
  | 0 => ("ChannelDeskModel", "channels", "I", false)
  | 1 => ("ChannelDeskModel", "room", "[I", true)
  | 2 => ("ChannelDeskModel", "closed", "[Z", true)
  | 3 => ("ChannelDeskModel", "many", "[I", true)
  | 4 => ("ChannelDeskModel", "values", "[I", true)
  | 5 => ("ChannelDeskModel", "states", "[I", true)
  | 6 => ("ChannelDeskModel", "since", "[J", true)
  | 7 => ("ChannelDeskModel", "place", "[I", true)
  | 8 => ("ChannelDeskModel", "offer", "[I", true)
  | 9 => ("ChannelDeskModel", "got", "[I", true)
  | 10 => ("ChannelDeskModel", "sent", "[Z", true)
  | 11 => ("ChannelDeskModel", "done", "[I", true)
  | 12 => ("ChannelDeskModel", "cases", "[I", true)
  | 13 => ("ChannelDeskModel", "caseChannel", "[I", true)
  | 14 => ("ChannelDeskModel", "caseWay", "[I", true)
  | 15 => ("ChannelDeskModel", "caseValue", "[I", true)
  | 16 => ("ChannelDeskModel", "moment", "J", false)
  | 17 => ("ChannelDeskModel", "meetings", "I", false)
  | _ => ("ChannelDeskModel", "faults", "I", false)
def ty_Md : Nat → FieldType := fun k => match k with
  | 0 => .int
  | 1 => .array .int
  | 2 => .array .boolean
  | 3 => .array .int
  | 4 => .array .int
  | 5 => .array .int
  | 6 => .array .long
  | 7 => .array .int
  | 8 => .array .int
  | 9 => .array .int
  | 10 => .array .boolean
  | 11 => .array .int
  | 12 => .array .int
  | 13 => .array .int
  | 14 => .array .int
  | 15 => .array .int
  | 16 => .long
  | 17 => .int
  | _ => .int
theorem nm_Md : ∀ a, a < 19 → ∀ b, b < 19 → a ≠ b → (T_Md a).2.1 ≠ (T_Md b).2.1 := by decide +kernel
theorem tyok_Md : ∀ k, k < 19 → parseFieldDescriptor (T_Md k).2.2.1 = some (ty_Md k) := by decide +kernel
abbrev b_Dk_init : ByteArray := prog_1_method_1_code
abbrev y_Dk_init : MethodName := ⟨R_Dk, "<init>", "()V"⟩
abbrev b_Dk_make : ByteArray := prog_1_method_2_code
abbrev y_Dk_make : MethodName := ⟨R_Dk, "make", "(I)I"⟩
abbrev b_Dk_send : ByteArray := prog_1_method_3_code
abbrev y_Dk_send : MethodName := ⟨R_Dk, "send", "(III)I"⟩
abbrev b_Dk_receive : ByteArray := prog_1_method_4_code
abbrev y_Dk_receive : MethodName := ⟨R_Dk, "receive", "(II)I"⟩
abbrev b_Dk_add : ByteArray := prog_1_method_5_code
abbrev y_Dk_add : MethodName := ⟨R_Dk, "add", "(IIII)I"⟩
abbrev b_Dk_choose : ByteArray := prog_1_method_6_code
abbrev y_Dk_choose : MethodName := ⟨R_Dk, "choose", "(IIZ)I"⟩
abbrev b_Dk_close : ByteArray := prog_1_method_7_code
abbrev y_Dk_close : MethodName := ⟨R_Dk, "close", "(I)I"⟩
abbrev b_Dk_state : ByteArray := prog_1_method_8_code
abbrev y_Dk_state : MethodName := ⟨R_Dk, "state", "(I)I"⟩
abbrev b_Dk_got : ByteArray := prog_1_method_9_code
abbrev y_Dk_got : MethodName := ⟨R_Dk, "got", "(I)I"⟩
abbrev b_Dk_last : ByteArray := prog_1_method_10_code
abbrev y_Dk_last : MethodName := ⟨R_Dk, "last", "(I)I"⟩
abbrev b_Dk_waiting : ByteArray := prog_1_method_11_code
abbrev y_Dk_waiting : MethodName := ⟨R_Dk, "waiting", "(III)I"⟩
abbrev b_Dk_channel : ByteArray := prog_1_method_12_code
abbrev y_Dk_channel : MethodName := ⟨R_Dk, "channel", "(II)I"⟩
abbrev b_Dk_count : ByteArray := prog_1_method_13_code
abbrev y_Dk_count : MethodName := ⟨R_Dk, "count", "(I)I"⟩
abbrev b_Dk_clear : ByteArray := prog_1_method_14_code
abbrev y_Dk_clear : MethodName := ⟨R_Dk, "clear", "()I"⟩
abbrev b_Dk_startAfresh : ByteArray := prog_1_method_15_code
abbrev y_Dk_startAfresh : MethodName := ⟨R_Dk, "startAfresh", "()V"⟩
abbrev b_Dk_isRoutine : ByteArray := prog_1_method_16_code
abbrev y_Dk_isRoutine : MethodName := ⟨R_Dk, "isRoutine", "(I)Z"⟩
abbrev b_Dk_isWay : ByteArray := prog_1_method_17_code
abbrev y_Dk_isWay : MethodName := ⟨R_Dk, "isWay", "(I)Z"⟩
abbrev b_Dk_isReady : ByteArray := prog_1_method_18_code
abbrev y_Dk_isReady : MethodName := ⟨R_Dk, "isReady", "(I)Z"⟩
abbrev b_Dk_makeReady : ByteArray := prog_1_method_19_code
abbrev y_Dk_makeReady : MethodName := ⟨R_Dk, "makeReady", "(I)V"⟩
abbrev b_Dk_startWaiting : ByteArray := prog_1_method_20_code
abbrev y_Dk_startWaiting : MethodName := ⟨R_Dk, "startWaiting", "(II)V"⟩
abbrev b_Dk_trySend : ByteArray := prog_1_method_21_code
abbrev y_Dk_trySend : MethodName := ⟨R_Dk, "trySend", "(III)I"⟩
abbrev b_Dk_tryReceive : ByteArray := prog_1_method_22_code
abbrev y_Dk_tryReceive : MethodName := ⟨R_Dk, "tryReceive", "(II)I"⟩
abbrev b_Dk_takeFromSender : ByteArray := prog_1_method_23_code
abbrev y_Dk_takeFromSender : MethodName := ⟨R_Dk, "takeFromSender", "(I)I"⟩
abbrev b_Dk_hand : ByteArray := prog_1_method_24_code
abbrev y_Dk_hand : MethodName := ⟨R_Dk, "hand", "(III)V"⟩
abbrev b_Dk_sufferFault : ByteArray := prog_1_method_25_code
abbrev y_Dk_sufferFault : MethodName := ⟨R_Dk, "sufferFault", "(I)V"⟩
abbrev b_Dk_endWait : ByteArray := prog_1_method_26_code
abbrev y_Dk_endWait : MethodName := ⟨R_Dk, "endWait", "(I)V"⟩
abbrev b_Dk_wakeAtShutChannel : ByteArray := prog_1_method_27_code
abbrev y_Dk_wakeAtShutChannel : MethodName := ⟨R_Dk, "wakeAtShutChannel", "(I)V"⟩
abbrev b_Dk_doCase : ByteArray := prog_1_method_28_code
abbrev y_Dk_doCase : MethodName := ⟨R_Dk, "doCase", "(II)I"⟩
abbrev b_Dk_countPossible : ByteArray := prog_1_method_29_code
abbrev y_Dk_countPossible : MethodName := ⟨R_Dk, "countPossible", "(I)I"⟩
abbrev b_Dk_findPossible : ByteArray := prog_1_method_30_code
abbrev y_Dk_findPossible : MethodName := ⟨R_Dk, "findPossible", "(II)I"⟩
abbrev b_Dk_isPossible : ByteArray := prog_1_method_31_code
abbrev y_Dk_isPossible : MethodName := ⟨R_Dk, "isPossible", "(I)Z"⟩
abbrev b_Dk_firstWaiting : ByteArray := prog_1_method_32_code
abbrev y_Dk_firstWaiting : MethodName := ⟨R_Dk, "firstWaiting", "(II)I"⟩
abbrev b_Dk_findWaiting : ByteArray := prog_1_method_33_code
abbrev y_Dk_findWaiting : MethodName := ⟨R_Dk, "findWaiting", "(III)I"⟩
abbrev b_Md_init : ByteArray := prog_6_method_1_code
abbrev y_Md_init : MethodName := ⟨R_Md, "<init>", "()V"⟩
abbrev b_Md_isRoutine : ByteArray := prog_6_method_2_code
abbrev y_Md_isRoutine : MethodName := ⟨R_Md, "isRoutine", "(I)Z"⟩
abbrev b_Md_isChannel : ByteArray := prog_6_method_3_code
abbrev y_Md_isChannel : MethodName := ⟨R_Md, "isChannel", "(I)Z"⟩
abbrev b_Md_isReady : ByteArray := prog_6_method_4_code
abbrev y_Md_isReady : MethodName := ⟨R_Md, "isReady", "(I)Z"⟩
abbrev b_Md_make : ByteArray := prog_6_method_5_code
abbrev y_Md_make : MethodName := ⟨R_Md, "make", "(I)I"⟩
abbrev b_Md_caseAt : ByteArray := prog_6_method_6_code
abbrev y_Md_caseAt : MethodName := ⟨R_Md, "caseAt", "(III)I"⟩
abbrev b_Md_waitsAt : ByteArray := prog_6_method_7_code
abbrev y_Md_waitsAt : MethodName := ⟨R_Md, "waitsAt", "(III)Z"⟩
abbrev b_Md_waiter : ByteArray := prog_6_method_8_code
abbrev y_Md_waiter : MethodName := ⟨R_Md, "waiter", "(III)I"⟩
abbrev b_Md_ready : ByteArray := prog_6_method_9_code
abbrev y_Md_ready : MethodName := ⟨R_Md, "ready", "(II)V"⟩
abbrev b_Md_waits : ByteArray := prog_6_method_10_code
abbrev y_Md_waits : MethodName := ⟨R_Md, "waits", "(II)V"⟩
abbrev b_Md_receives : ByteArray := prog_6_method_11_code
abbrev y_Md_receives : MethodName := ⟨R_Md, "receives", "(IIIZ)V"⟩
abbrev b_Md_sends : ByteArray := prog_6_method_12_code
abbrev y_Md_sends : MethodName := ⟨R_Md, "sends", "(II)I"⟩
abbrev b_Md_push : ByteArray := prog_6_method_13_code
abbrev y_Md_push : MethodName := ⟨R_Md, "push", "(II)V"⟩
abbrev b_Md_take : ByteArray := prog_6_method_14_code
abbrev y_Md_take : MethodName := ⟨R_Md, "take", "(I)I"⟩
abbrev b_Md_isPossible : ByteArray := prog_6_method_15_code
abbrev y_Md_isPossible : MethodName := ⟨R_Md, "isPossible", "(II)Z"⟩
abbrev b_Md_sendNow : ByteArray := prog_6_method_16_code
abbrev y_Md_sendNow : MethodName := ⟨R_Md, "sendNow", "(III)I"⟩
abbrev b_Md_receiveNow : ByteArray := prog_6_method_17_code
abbrev y_Md_receiveNow : MethodName := ⟨R_Md, "receiveNow", "(II)V"⟩
abbrev b_Md_send : ByteArray := prog_6_method_18_code
abbrev y_Md_send : MethodName := ⟨R_Md, "send", "(III)I"⟩
abbrev b_Md_receive : ByteArray := prog_6_method_19_code
abbrev y_Md_receive : MethodName := ⟨R_Md, "receive", "(II)I"⟩
abbrev b_Md_add : ByteArray := prog_6_method_20_code
abbrev y_Md_add : MethodName := ⟨R_Md, "add", "(IIII)I"⟩
abbrev b_Md_choose : ByteArray := prog_6_method_21_code
abbrev y_Md_choose : MethodName := ⟨R_Md, "choose", "(IIZ)I"⟩
abbrev b_Md_close : ByteArray := prog_6_method_22_code
abbrev y_Md_close : MethodName := ⟨R_Md, "close", "(I)I"⟩
abbrev b_Md_state : ByteArray := prog_6_method_23_code
abbrev y_Md_state : MethodName := ⟨R_Md, "state", "(I)I"⟩
abbrev b_Md_got : ByteArray := prog_6_method_24_code
abbrev y_Md_got : MethodName := ⟨R_Md, "got", "(I)I"⟩
abbrev b_Md_last : ByteArray := prog_6_method_25_code
abbrev y_Md_last : MethodName := ⟨R_Md, "last", "(I)I"⟩
abbrev b_Md_waiting : ByteArray := prog_6_method_26_code
abbrev y_Md_waiting : MethodName := ⟨R_Md, "waiting", "(III)I"⟩
abbrev b_Md_channel : ByteArray := prog_6_method_27_code
abbrev y_Md_channel : MethodName := ⟨R_Md, "channel", "(II)I"⟩
abbrev b_Md_count : ByteArray := prog_6_method_28_code
abbrev y_Md_count : MethodName := ⟨R_Md, "count", "(I)I"⟩
abbrev b_Md_clear : ByteArray := prog_6_method_29_code
abbrev y_Md_clear : MethodName := ⟨R_Md, "clear", "()I"⟩
abbrev b_Cs_init : ByteArray := prog_2_method_1_code
abbrev y_Cs_init : MethodName := ⟨R_Cs, "<init>", "()V"⟩
abbrev b_Cs_slotOf : ByteArray := prog_2_method_2_code
abbrev y_Cs_slotOf : MethodName := ⟨R_Cs, "slotOf", "(II)I"⟩
abbrev b_Cs_routineAt : ByteArray := prog_2_method_3_code
abbrev y_Cs_routineAt : MethodName := ⟨R_Cs, "routineAt", "(I)I"⟩
abbrev b_Cs_numberAt : ByteArray := prog_2_method_4_code
abbrev y_Cs_numberAt : MethodName := ⟨R_Cs, "numberAt", "(I)I"⟩
abbrev b_Cs_forgetAll : ByteArray := prog_2_method_5_code
abbrev y_Cs_forgetAll : MethodName := ⟨R_Cs, "forgetAll", "()V"⟩
abbrev b_Cs_forget : ByteArray := prog_2_method_6_code
abbrev y_Cs_forget : MethodName := ⟨R_Cs, "forget", "(I)V"⟩
abbrev b_Cs_numberOf : ByteArray := prog_2_method_7_code
abbrev y_Cs_numberOf : MethodName := ⟨R_Cs, "numberOf", "(I)I"⟩
abbrev b_Cs_append : ByteArray := prog_2_method_8_code
abbrev y_Cs_append : MethodName := ⟨R_Cs, "append", "(IIII)I"⟩
abbrev b_Cs_channelAt : ByteArray := prog_2_method_9_code
abbrev y_Cs_channelAt : MethodName := ⟨R_Cs, "channelAt", "(I)I"⟩
abbrev b_Cs_wayAt : ByteArray := prog_2_method_10_code
abbrev y_Cs_wayAt : MethodName := ⟨R_Cs, "wayAt", "(I)I"⟩
abbrev b_Cs_valueAt : ByteArray := prog_2_method_11_code
abbrev y_Cs_valueAt : MethodName := ⟨R_Cs, "valueAt", "(I)I"⟩
abbrev b_Cs_firstAt : ByteArray := prog_2_method_12_code
abbrev y_Cs_firstAt : MethodName := ⟨R_Cs, "firstAt", "(III)I"⟩
abbrev b_Ch_init : ByteArray := prog_3_method_1_code
abbrev y_Ch_init : MethodName := ⟨R_Ch, "<init>", "()V"⟩
abbrev b_Ch_forgetAll : ByteArray := prog_3_method_2_code
abbrev y_Ch_forgetAll : MethodName := ⟨R_Ch, "forgetAll", "()V"⟩
abbrev b_Ch_number : ByteArray := prog_3_method_3_code
abbrev y_Ch_number : MethodName := ⟨R_Ch, "number", "()I"⟩
abbrev b_Ch_has : ByteArray := prog_3_method_4_code
abbrev y_Ch_has : MethodName := ⟨R_Ch, "has", "(I)Z"⟩
abbrev b_Ch_open : ByteArray := prog_3_method_5_code
abbrev y_Ch_open : MethodName := ⟨R_Ch, "open", "(I)I"⟩
abbrev b_Ch_shut : ByteArray := prog_3_method_6_code
abbrev y_Ch_shut : MethodName := ⟨R_Ch, "shut", "(I)V"⟩
abbrev b_Ch_isShut : ByteArray := prog_3_method_7_code
abbrev y_Ch_isShut : MethodName := ⟨R_Ch, "isShut", "(I)Z"⟩
abbrev b_Ch_roomOf : ByteArray := prog_3_method_8_code
abbrev y_Ch_roomOf : MethodName := ⟨R_Ch, "roomOf", "(I)I"⟩
abbrev b_Ch_held : ByteArray := prog_3_method_9_code
abbrev y_Ch_held : MethodName := ⟨R_Ch, "held", "(I)I"⟩
abbrev b_Ch_hasSpace : ByteArray := prog_3_method_10_code
abbrev y_Ch_hasSpace : MethodName := ⟨R_Ch, "hasSpace", "(I)Z"⟩
abbrev b_Ch_valueAt : ByteArray := prog_3_method_11_code
abbrev y_Ch_valueAt : MethodName := ⟨R_Ch, "valueAt", "(II)I"⟩
abbrev b_Ch_put : ByteArray := prog_3_method_12_code
abbrev y_Ch_put : MethodName := ⟨R_Ch, "put", "(II)Z"⟩
abbrev b_Ch_takeFirst : ByteArray := prog_3_method_13_code
abbrev y_Ch_takeFirst : MethodName := ⟨R_Ch, "takeFirst", "(I)I"⟩
abbrev b_Ln_init : ByteArray := prog_4_method_1_code
abbrev y_Ln_init : MethodName := ⟨R_Ln, "<init>", "()V"⟩
abbrev b_Ln_empty : ByteArray := prog_4_method_2_code
abbrev y_Ln_empty : MethodName := ⟨R_Ln, "empty", "()V"⟩
abbrev b_Ln_length : ByteArray := prog_4_method_3_code
abbrev y_Ln_length : MethodName := ⟨R_Ln, "length", "()I"⟩
abbrev b_Ln_memberAt : ByteArray := prog_4_method_4_code
abbrev y_Ln_memberAt : MethodName := ⟨R_Ln, "memberAt", "(I)I"⟩
abbrev b_Ln_join : ByteArray := prog_4_method_5_code
abbrev y_Ln_join : MethodName := ⟨R_Ln, "join", "(I)V"⟩
abbrev b_Ln_leave : ByteArray := prog_4_method_6_code
abbrev y_Ln_leave : MethodName := ⟨R_Ln, "leave", "(I)V"⟩
abbrev b_Ar_fill : ByteArray := prog_8_method_103_code
abbrev y_Ar_fill : MethodName := ⟨R_Ar, "fill", "([II)V"⟩
def TT_0 : List Cond := [Cond.selects R_Dk y_Dk_startAfresh y_Dk_startAfresh, Cond.selects R_Dk y_Dk_isReady y_Dk_isReady, Cond.selects R_Dk y_Dk_makeReady y_Dk_makeReady, Cond.selects R_Dk y_Dk_trySend y_Dk_trySend, Cond.selects R_Dk y_Dk_sufferFault y_Dk_sufferFault, Cond.selects R_Dk y_Dk_firstWaiting y_Dk_firstWaiting, Cond.selects R_Dk y_Dk_findWaiting y_Dk_findWaiting, Cond.selects R_Dk y_Dk_endWait y_Dk_endWait, Cond.selects R_Dk y_Dk_hand y_Dk_hand, Cond.selects R_Dk y_Dk_startWaiting y_Dk_startWaiting, Cond.selects R_Dk y_Dk_tryReceive y_Dk_tryReceive, Cond.selects R_Dk y_Dk_takeFromSender y_Dk_takeFromSender, Cond.selects R_Dk y_Dk_countPossible y_Dk_countPossible, Cond.selects R_Dk y_Dk_isPossible y_Dk_isPossible, Cond.selects R_Dk y_Dk_findPossible y_Dk_findPossible, Cond.selects R_Dk y_Dk_doCase y_Dk_doCase]
def TT_1 : List Cond := [Cond.selects R_Dk y_Dk_wakeAtShutChannel y_Dk_wakeAtShutChannel, Cond.selects R_Md y_Md_isReady y_Md_isReady, Cond.selects R_Md y_Md_isChannel y_Md_isChannel, Cond.selects R_Md y_Md_ready y_Md_ready, Cond.selects R_Md y_Md_isPossible y_Md_isPossible, Cond.selects R_Md y_Md_waiter y_Md_waiter, Cond.selects R_Md y_Md_waitsAt y_Md_waitsAt, Cond.selects R_Md y_Md_caseAt y_Md_caseAt, Cond.selects R_Md y_Md_sendNow y_Md_sendNow, Cond.selects R_Md y_Md_receives y_Md_receives, Cond.selects R_Md y_Md_push y_Md_push, Cond.selects R_Md y_Md_waits y_Md_waits, Cond.selects R_Md y_Md_receiveNow y_Md_receiveNow, Cond.selects R_Md y_Md_take y_Md_take, Cond.selects R_Md y_Md_sends y_Md_sends, Cond.initialized R_Lw]
def TT_2 : List Cond := [Cond.initialized R_Dk, Cond.initialized R_Ch, Cond.initialized R_Cs, Cond.initialized R_Ln, Cond.initialized R_Ar, Cond.initialized R_Md, Cond.initialized R_Sy, Cond.classLink R_Lw 7 R_Dk, Cond.instantiable R_Dk 9, Cond.methodLink R_Lw 9 y_Dk_init, Cond.instanceMethod y_Dk_init, Cond.code y_Dk_init b_Dk_init 1 none, Cond.methodLink R_Dk 1 objectInit, Cond.instanceMethod objectInit, Cond.code objectInit ⟨#[0xb1]⟩ 1 none, Cond.classLink R_Dk 7 R_Ch]
def TT_3 : List Cond := [Cond.instantiable R_Ch 5, Cond.instanceMethod y_Ch_init, Cond.code y_Ch_init b_Ch_init 1 none, Cond.methodLink R_Ch 3 objectInit, Cond.fieldLink R_Ch 9 R_Ch "room" "[I", Cond.fieldLink R_Ch 15 R_Ch "held" "[I", Cond.fieldLink R_Ch 18 R_Ch "shut" "[Z", Cond.fieldLink R_Ch 22 R_Ch "values" "[I", Cond.fieldLink R_Ch 25 R_Ch "number" "I", Cond.laysFinal R_Ch R_Ch "room" "[I", Cond.laysFinal R_Ch R_Ch "held" "[I", Cond.laysFinal R_Ch R_Ch "shut" "[Z", Cond.laysFinal R_Ch R_Ch "values" "[I", Cond.lays R_Ch R_Ch "number" "I", Cond.arrayClass .int, Cond.arrayClass .boolean]
def TT_4 : List Cond := [Cond.classLink R_Dk 16 R_Cs, Cond.instantiable R_Cs 4, Cond.instanceMethod y_Cs_init, Cond.code y_Cs_init b_Cs_init 1 none, Cond.methodLink R_Cs 3 objectInit, Cond.fieldLink R_Cs 9 R_Cs "number" "[I", Cond.fieldLink R_Cs 15 R_Cs "channels" "[I", Cond.fieldLink R_Cs 18 R_Cs "ways" "[I", Cond.fieldLink R_Cs 21 R_Cs "values" "[I", Cond.laysFinal R_Cs R_Cs "number" "[I", Cond.laysFinal R_Cs R_Cs "channels" "[I", Cond.laysFinal R_Cs R_Cs "ways" "[I", Cond.laysFinal R_Cs R_Cs "values" "[I", Cond.classLink R_Dk 23 R_Ln, Cond.instantiable R_Ln 2, Cond.instanceMethod y_Ln_init]
def TT_5 : List Cond := [Cond.code y_Ln_init b_Ln_init 1 none, Cond.methodLink R_Ln 3 objectInit, Cond.fieldLink R_Ln 9 R_Ln "members" "[I", Cond.fieldLink R_Ln 15 R_Ln "length" "I", Cond.laysFinal R_Ln R_Ln "members" "[I", Cond.lays R_Ln R_Ln "length" "I", Cond.methodLink R_Dk 43 y_Dk_startAfresh, Cond.instanceMethod y_Dk_startAfresh, Cond.code y_Dk_startAfresh b_Dk_startAfresh 1 none, Cond.methodLink R_Dk 133 y_Ch_forgetAll, Cond.instanceMethod y_Ch_forgetAll, Cond.selects R_Ch y_Ch_forgetAll y_Ch_forgetAll, Cond.code y_Ch_forgetAll b_Ch_forgetAll 1 none, Cond.methodLink R_Dk 136 y_Cs_forgetAll, Cond.instanceMethod y_Cs_forgetAll, Cond.selects R_Cs y_Cs_forgetAll y_Cs_forgetAll]
def TT_6 : List Cond := [Cond.code y_Cs_forgetAll b_Cs_forgetAll 1 none, Cond.methodLink R_Cs 24 y_Ar_fill, Cond.static y_Ar_fill, Cond.code y_Ar_fill b_Ar_fill 4 none, Cond.methodLink R_Dk 137 y_Ln_empty, Cond.instanceMethod y_Ln_empty, Cond.selects R_Ln y_Ln_empty y_Ln_empty, Cond.code y_Ln_empty b_Ln_empty 1 none, Cond.methodLink R_Dk 140 y_Ar_fill, Cond.fieldLink R_Dk 10 R_Dk "channels" "LChannelDesk$Channels;", Cond.fieldLink R_Dk 19 R_Dk "cases" "LChannelDesk$Cases;", Cond.fieldLink R_Dk 26 R_Dk "line" "LChannelDesk$Line;", Cond.fieldLink R_Dk 30 R_Dk "status" "[I", Cond.fieldLink R_Dk 34 R_Dk "received" "[I", Cond.fieldLink R_Dk 37 R_Dk "wasSent" "[I", Cond.fieldLink R_Dk 40 R_Dk "caseDone" "[I"]
def TT_7 : List Cond := [Cond.fieldLink R_Dk 126 R_Dk "meetings" "I", Cond.fieldLink R_Dk 130 R_Dk "faults" "I", Cond.laysFinal R_Dk R_Dk "channels" "LChannelDesk$Channels;", Cond.laysFinal R_Dk R_Dk "cases" "LChannelDesk$Cases;", Cond.laysFinal R_Dk R_Dk "line" "LChannelDesk$Line;", Cond.laysFinal R_Dk R_Dk "status" "[I", Cond.laysFinal R_Dk R_Dk "received" "[I", Cond.laysFinal R_Dk R_Dk "wasSent" "[I", Cond.laysFinal R_Dk R_Dk "caseDone" "[I", Cond.lays R_Dk R_Dk "meetings" "I", Cond.lays R_Dk R_Dk "faults" "I", Cond.methodLink R_Lw 13 y_Dk_make, Cond.instanceMethod y_Dk_make, Cond.selects R_Dk y_Dk_make y_Dk_make, Cond.code y_Dk_make b_Dk_make 2 (some .int), Cond.methodLink R_Dk 46 y_Ch_open]
def TT_8 : List Cond := [Cond.instanceMethod y_Ch_open, Cond.selects R_Ch y_Ch_open y_Ch_open, Cond.code y_Ch_open b_Ch_open 3 (some .int), Cond.methodLink R_Lw 18 y_Dk_send, Cond.instanceMethod y_Dk_send, Cond.selects R_Dk y_Dk_send y_Dk_send, Cond.code y_Dk_send b_Dk_send 5 (some .int), Cond.methodLink R_Dk 50 y_Dk_isReady, Cond.instanceMethod y_Dk_isReady, Cond.code y_Dk_isReady b_Dk_isReady 2 (some .boolean), Cond.methodLink R_Dk 101 y_Dk_isRoutine, Cond.static y_Dk_isRoutine, Cond.code y_Dk_isRoutine b_Dk_isRoutine 1 (some .boolean), Cond.methodLink R_Dk 54 y_Ch_has, Cond.instanceMethod y_Ch_has, Cond.selects R_Ch y_Ch_has y_Ch_has]
def TT_9 : List Cond := [Cond.code y_Ch_has b_Ch_has 2 (some .boolean), Cond.methodLink R_Dk 57 y_Dk_makeReady, Cond.instanceMethod y_Dk_makeReady, Cond.code y_Dk_makeReady b_Dk_makeReady 2 none, Cond.methodLink R_Dk 146 y_Cs_forget, Cond.instanceMethod y_Cs_forget, Cond.selects R_Cs y_Cs_forget y_Cs_forget, Cond.code y_Cs_forget b_Cs_forget 2 none, Cond.methodLink R_Dk 61 y_Dk_trySend, Cond.instanceMethod y_Dk_trySend, Cond.code y_Dk_trySend b_Dk_trySend 5 (some .int), Cond.methodLink R_Dk 89 y_Ch_isShut, Cond.instanceMethod y_Ch_isShut, Cond.selects R_Ch y_Ch_isShut y_Ch_isShut, Cond.code y_Ch_isShut b_Ch_isShut 2 (some .boolean), Cond.methodLink R_Dk 152 y_Dk_sufferFault]
def TT_10 : List Cond := [Cond.instanceMethod y_Dk_sufferFault, Cond.code y_Dk_sufferFault b_Dk_sufferFault 2 none, Cond.methodLink R_Dk 95 y_Dk_firstWaiting, Cond.instanceMethod y_Dk_firstWaiting, Cond.code y_Dk_firstWaiting b_Dk_firstWaiting 3 (some .int), Cond.methodLink R_Dk 104 y_Dk_findWaiting, Cond.instanceMethod y_Dk_findWaiting, Cond.code y_Dk_findWaiting b_Dk_findWaiting 7 (some .int), Cond.methodLink R_Dk 123 y_Ln_length, Cond.instanceMethod y_Ln_length, Cond.selects R_Ln y_Ln_length y_Ln_length, Cond.code y_Ln_length b_Ln_length 1 (some .int), Cond.methodLink R_Dk 198 y_Ln_memberAt, Cond.instanceMethod y_Ln_memberAt, Cond.selects R_Ln y_Ln_memberAt y_Ln_memberAt, Cond.code y_Ln_memberAt b_Ln_memberAt 2 (some .int)]
def TT_11 : List Cond := [Cond.methodLink R_Dk 201 y_Cs_firstAt, Cond.instanceMethod y_Cs_firstAt, Cond.selects R_Cs y_Cs_firstAt y_Cs_firstAt, Cond.code y_Cs_firstAt b_Cs_firstAt 6 (some .int), Cond.methodLink R_Cs 30 y_Cs_slotOf, Cond.static y_Cs_slotOf, Cond.code y_Cs_slotOf b_Cs_slotOf 2 (some .int), Cond.methodLink R_Dk 155 y_Dk_endWait, Cond.instanceMethod y_Dk_endWait, Cond.code y_Dk_endWait b_Dk_endWait 3 none, Cond.methodLink R_Dk 107 y_Cs_routineAt, Cond.static y_Cs_routineAt, Cond.code y_Cs_routineAt b_Cs_routineAt 1 (some .int), Cond.methodLink R_Dk 174 y_Cs_numberAt, Cond.static y_Cs_numberAt, Cond.code y_Cs_numberAt b_Cs_numberAt 1 (some .int)]
def TT_12 : List Cond := [Cond.methodLink R_Dk 177 y_Ln_leave, Cond.instanceMethod y_Ln_leave, Cond.selects R_Ln y_Ln_leave y_Ln_leave, Cond.code y_Ln_leave b_Ln_leave 4 none, Cond.methodLink R_Dk 158 y_Dk_hand, Cond.instanceMethod y_Dk_hand, Cond.code y_Dk_hand b_Dk_hand 4 none, Cond.methodLink R_Dk 162 y_Ch_put, Cond.instanceMethod y_Ch_put, Cond.selects R_Ch y_Ch_put y_Ch_put, Cond.code y_Ch_put b_Ch_put 3 (some .boolean), Cond.methodLink R_Ch 29 y_Ch_hasSpace, Cond.instanceMethod y_Ch_hasSpace, Cond.selects R_Ch y_Ch_hasSpace y_Ch_hasSpace, Cond.code y_Ch_hasSpace b_Ch_hasSpace 2 (some .boolean), Cond.methodLink R_Dk 65 y_Cs_append]
def TT_13 : List Cond := [Cond.instanceMethod y_Cs_append, Cond.selects R_Cs y_Cs_append y_Cs_append, Cond.code y_Cs_append b_Cs_append 6 (some .int), Cond.methodLink R_Dk 69 y_Dk_startWaiting, Cond.instanceMethod y_Dk_startWaiting, Cond.code y_Dk_startWaiting b_Dk_startWaiting 3 none, Cond.methodLink R_Dk 149 y_Ln_join, Cond.instanceMethod y_Ln_join, Cond.selects R_Ln y_Ln_join y_Ln_join, Cond.code y_Ln_join b_Ln_join 2 none, Cond.methodLink R_Lw 23 y_Dk_receive, Cond.instanceMethod y_Dk_receive, Cond.selects R_Dk y_Dk_receive y_Dk_receive, Cond.code y_Dk_receive b_Dk_receive 4 (some .int), Cond.methodLink R_Dk 73 y_Dk_tryReceive, Cond.instanceMethod y_Dk_tryReceive]
def TT_14 : List Cond := [Cond.code y_Dk_tryReceive b_Dk_tryReceive 4 (some .int), Cond.methodLink R_Dk 110 y_Ch_held, Cond.instanceMethod y_Ch_held, Cond.selects R_Ch y_Ch_held y_Ch_held, Cond.code y_Ch_held b_Ch_held 2 (some .int), Cond.methodLink R_Dk 166 y_Ch_takeFirst, Cond.instanceMethod y_Ch_takeFirst, Cond.selects R_Ch y_Ch_takeFirst y_Ch_takeFirst, Cond.code y_Ch_takeFirst b_Ch_takeFirst 4 (some .int), Cond.methodLink R_Ch 33 arraycopyName, Cond.static arraycopyName, Cond.native arraycopyName, Cond.methodLink R_Dk 169 y_Dk_takeFromSender, Cond.instanceMethod y_Dk_takeFromSender, Cond.code y_Dk_takeFromSender b_Dk_takeFromSender 3 (some .int), Cond.methodLink R_Dk 172 y_Cs_valueAt]
def TT_15 : List Cond := [Cond.instanceMethod y_Cs_valueAt, Cond.selects R_Cs y_Cs_valueAt y_Cs_valueAt, Cond.code y_Cs_valueAt b_Cs_valueAt 2 (some .int), Cond.methodLink R_Lw 28 y_Dk_add, Cond.instanceMethod y_Dk_add, Cond.selects R_Dk y_Dk_add y_Dk_add, Cond.code y_Dk_add b_Dk_add 5 (some .int), Cond.methodLink R_Dk 77 y_Dk_isWay, Cond.static y_Dk_isWay, Cond.code y_Dk_isWay b_Dk_isWay 1 (some .boolean), Cond.methodLink R_Lw 33 y_Dk_choose, Cond.instanceMethod y_Dk_choose, Cond.selects R_Dk y_Dk_choose y_Dk_choose, Cond.code y_Dk_choose b_Dk_choose 5 (some .int), Cond.methodLink R_Dk 80 y_Dk_countPossible, Cond.instanceMethod y_Dk_countPossible]
def TT_16 : List Cond := [Cond.code y_Dk_countPossible b_Dk_countPossible 4 (some .int), Cond.methodLink R_Dk 186 y_Cs_numberOf, Cond.instanceMethod y_Cs_numberOf, Cond.selects R_Cs y_Cs_numberOf y_Cs_numberOf, Cond.code y_Cs_numberOf b_Cs_numberOf 2 (some .int), Cond.methodLink R_Dk 189 y_Cs_slotOf, Cond.methodLink R_Dk 192 y_Dk_isPossible, Cond.instanceMethod y_Dk_isPossible, Cond.code y_Dk_isPossible b_Dk_isPossible 3 (some .boolean), Cond.methodLink R_Dk 183 y_Cs_channelAt, Cond.instanceMethod y_Cs_channelAt, Cond.selects R_Cs y_Cs_channelAt y_Cs_channelAt, Cond.code y_Cs_channelAt b_Cs_channelAt 2 (some .int), Cond.methodLink R_Dk 180 y_Cs_wayAt, Cond.instanceMethod y_Cs_wayAt, Cond.selects R_Cs y_Cs_wayAt y_Cs_wayAt]
def TT_17 : List Cond := [Cond.code y_Cs_wayAt b_Cs_wayAt 2 (some .int), Cond.methodLink R_Dk 195 y_Ch_hasSpace, Cond.methodLink R_Dk 83 y_Dk_findPossible, Cond.instanceMethod y_Dk_findPossible, Cond.code y_Dk_findPossible b_Dk_findPossible 6 (some .int), Cond.methodLink R_Dk 86 y_Dk_doCase, Cond.instanceMethod y_Dk_doCase, Cond.code y_Dk_doCase b_Dk_doCase 7 (some .int), Cond.methodLink R_Lw 38 y_Dk_close, Cond.instanceMethod y_Dk_close, Cond.selects R_Dk y_Dk_close y_Dk_close, Cond.code y_Dk_close b_Dk_close 4 (some .int), Cond.methodLink R_Dk 92 y_Ch_shut, Cond.instanceMethod y_Ch_shut, Cond.selects R_Ch y_Ch_shut y_Ch_shut, Cond.code y_Ch_shut b_Ch_shut 2 none]
def TT_18 : List Cond := [Cond.methodLink R_Dk 98 y_Dk_wakeAtShutChannel, Cond.instanceMethod y_Dk_wakeAtShutChannel, Cond.code y_Dk_wakeAtShutChannel b_Dk_wakeAtShutChannel 4 none, Cond.methodLink R_Lw 42 y_Dk_state, Cond.instanceMethod y_Dk_state, Cond.selects R_Dk y_Dk_state y_Dk_state, Cond.code y_Dk_state b_Dk_state 2 (some .int), Cond.methodLink R_Lw 46 y_Dk_got, Cond.instanceMethod y_Dk_got, Cond.selects R_Dk y_Dk_got y_Dk_got, Cond.code y_Dk_got b_Dk_got 2 (some .int), Cond.methodLink R_Lw 50 y_Dk_last, Cond.instanceMethod y_Dk_last, Cond.selects R_Dk y_Dk_last y_Dk_last, Cond.code y_Dk_last b_Dk_last 2 (some .int), Cond.methodLink R_Lw 54 y_Dk_waiting]
def TT_19 : List Cond := [Cond.instanceMethod y_Dk_waiting, Cond.selects R_Dk y_Dk_waiting y_Dk_waiting, Cond.code y_Dk_waiting b_Dk_waiting 5 (some .int), Cond.methodLink R_Lw 58 y_Dk_channel, Cond.instanceMethod y_Dk_channel, Cond.selects R_Dk y_Dk_channel y_Dk_channel, Cond.code y_Dk_channel b_Dk_channel 3 (some .int), Cond.methodLink R_Dk 113 y_Ch_roomOf, Cond.instanceMethod y_Ch_roomOf, Cond.selects R_Ch y_Ch_roomOf y_Ch_roomOf, Cond.code y_Ch_roomOf b_Ch_roomOf 2 (some .int), Cond.methodLink R_Dk 116 y_Ch_valueAt, Cond.instanceMethod y_Ch_valueAt, Cond.selects R_Ch y_Ch_valueAt y_Ch_valueAt, Cond.code y_Ch_valueAt b_Ch_valueAt 3 (some .int), Cond.methodLink R_Lw 62 y_Dk_count]
def TT_20 : List Cond := [Cond.instanceMethod y_Dk_count, Cond.selects R_Dk y_Dk_count y_Dk_count, Cond.code y_Dk_count b_Dk_count 2 (some .int), Cond.methodLink R_Dk 119 y_Ch_number, Cond.instanceMethod y_Ch_number, Cond.selects R_Ch y_Ch_number y_Ch_number, Cond.code y_Ch_number b_Ch_number 1 (some .int), Cond.methodLink R_Lw 66 y_Dk_clear, Cond.instanceMethod y_Dk_clear, Cond.selects R_Dk y_Dk_clear y_Dk_clear, Cond.code y_Dk_clear b_Dk_clear 2 (some .int), Cond.classLink R_Lw 10 R_Md, Cond.instantiable R_Md 19, Cond.methodLink R_Lw 12 y_Md_init, Cond.instanceMethod y_Md_init, Cond.code y_Md_init b_Md_init 2 none]
def TT_21 : List Cond := [Cond.methodLink R_Md 1 objectInit, Cond.fieldLink R_Md 57 R_Md "channels" "I", Cond.fieldLink R_Md 7 R_Md "room" "[I", Cond.fieldLink R_Md 13 R_Md "closed" "[Z", Cond.fieldLink R_Md 17 R_Md "many" "[I", Cond.fieldLink R_Md 20 R_Md "values" "[I", Cond.fieldLink R_Md 23 R_Md "states" "[I", Cond.fieldLink R_Md 26 R_Md "since" "[J", Cond.fieldLink R_Md 30 R_Md "place" "[I", Cond.fieldLink R_Md 33 R_Md "offer" "[I", Cond.fieldLink R_Md 36 R_Md "got" "[I", Cond.fieldLink R_Md 39 R_Md "sent" "[Z", Cond.fieldLink R_Md 42 R_Md "done" "[I", Cond.fieldLink R_Md 45 R_Md "cases" "[I", Cond.fieldLink R_Md 48 R_Md "caseChannel" "[I", Cond.fieldLink R_Md 51 R_Md "caseWay" "[I"]
def TT_22 : List Cond := [Cond.fieldLink R_Md 54 R_Md "caseValue" "[I", Cond.fieldLink R_Md 76 R_Md "moment" "J", Cond.fieldLink R_Md 84 R_Md "meetings" "I", Cond.fieldLink R_Md 73 R_Md "faults" "I", Cond.lays R_Md R_Md "channels" "I", Cond.laysFinal R_Md R_Md "room" "[I", Cond.laysFinal R_Md R_Md "closed" "[Z", Cond.laysFinal R_Md R_Md "many" "[I", Cond.laysFinal R_Md R_Md "values" "[I", Cond.laysFinal R_Md R_Md "states" "[I", Cond.laysFinal R_Md R_Md "since" "[J", Cond.laysFinal R_Md R_Md "place" "[I", Cond.laysFinal R_Md R_Md "offer" "[I", Cond.laysFinal R_Md R_Md "got" "[I", Cond.laysFinal R_Md R_Md "sent" "[Z", Cond.laysFinal R_Md R_Md "done" "[I"]
def TT_23 : List Cond := [Cond.laysFinal R_Md R_Md "cases" "[I", Cond.laysFinal R_Md R_Md "caseChannel" "[I", Cond.laysFinal R_Md R_Md "caseWay" "[I", Cond.laysFinal R_Md R_Md "caseValue" "[I", Cond.lays R_Md R_Md "moment" "J", Cond.lays R_Md R_Md "meetings" "I", Cond.lays R_Md R_Md "faults" "I", Cond.arrayClass .long, Cond.methodLink R_Lw 17 y_Md_make, Cond.instanceMethod y_Md_make, Cond.selects R_Md y_Md_make y_Md_make, Cond.code y_Md_make b_Md_make 2 (some .int), Cond.methodLink R_Lw 22 y_Md_send, Cond.instanceMethod y_Md_send, Cond.selects R_Md y_Md_send y_Md_send, Cond.code y_Md_send b_Md_send 4 (some .int)]
def TT_24 : List Cond := [Cond.methodLink R_Md 105 y_Md_isReady, Cond.instanceMethod y_Md_isReady, Cond.code y_Md_isReady b_Md_isReady 2 (some .boolean), Cond.methodLink R_Md 61 y_Md_isRoutine, Cond.static y_Md_isRoutine, Cond.code y_Md_isRoutine b_Md_isRoutine 1 (some .boolean), Cond.methodLink R_Md 108 y_Md_isChannel, Cond.instanceMethod y_Md_isChannel, Cond.code y_Md_isChannel b_Md_isChannel 2 (some .boolean), Cond.methodLink R_Md 80 y_Md_ready, Cond.instanceMethod y_Md_ready, Cond.code y_Md_ready b_Md_ready 3 none, Cond.methodLink R_Md 111 y_Md_isPossible, Cond.instanceMethod y_Md_isPossible, Cond.code y_Md_isPossible b_Md_isPossible 3 (some .boolean), Cond.methodLink R_Md 87 y_Md_waiter]
def TT_25 : List Cond := [Cond.instanceMethod y_Md_waiter, Cond.code y_Md_waiter b_Md_waiter 7 (some .int), Cond.methodLink R_Md 69 y_Md_waitsAt, Cond.instanceMethod y_Md_waitsAt, Cond.code y_Md_waitsAt b_Md_waitsAt 5 (some .boolean), Cond.methodLink R_Md 65 y_Md_caseAt, Cond.instanceMethod y_Md_caseAt, Cond.code y_Md_caseAt b_Md_caseAt 5 (some .int), Cond.methodLink R_Md 115 y_Md_sendNow, Cond.instanceMethod y_Md_sendNow, Cond.code y_Md_sendNow b_Md_sendNow 5 (some .int), Cond.methodLink R_Md 90 y_Md_receives, Cond.instanceMethod y_Md_receives, Cond.code y_Md_receives b_Md_receives 5 none, Cond.methodLink R_Md 94 y_Md_push, Cond.instanceMethod y_Md_push]
def TT_26 : List Cond := [Cond.code y_Md_push b_Md_push 3 none, Cond.methodLink R_Md 118 y_Md_waits, Cond.instanceMethod y_Md_waits, Cond.code y_Md_waits b_Md_waits 3 none, Cond.methodLink R_Lw 27 y_Md_receive, Cond.instanceMethod y_Md_receive, Cond.selects R_Md y_Md_receive y_Md_receive, Cond.code y_Md_receive b_Md_receive 3 (some .int), Cond.methodLink R_Md 121 y_Md_receiveNow, Cond.instanceMethod y_Md_receiveNow, Cond.code y_Md_receiveNow b_Md_receiveNow 4 none, Cond.methodLink R_Md 97 y_Md_take, Cond.instanceMethod y_Md_take, Cond.code y_Md_take b_Md_take 4 (some .int), Cond.methodLink R_Md 101 y_Md_sends, Cond.instanceMethod y_Md_sends]
def TT_27 : List Cond := [Cond.code y_Md_sends b_Md_sends 5 (some .int), Cond.methodLink R_Lw 32 y_Md_add, Cond.instanceMethod y_Md_add, Cond.selects R_Md y_Md_add y_Md_add, Cond.code y_Md_add b_Md_add 6 (some .int), Cond.methodLink R_Lw 37 y_Md_choose, Cond.instanceMethod y_Md_choose, Cond.selects R_Md y_Md_choose y_Md_choose, Cond.code y_Md_choose b_Md_choose 11 (some .int), Cond.methodLink R_Lw 41 y_Md_close, Cond.instanceMethod y_Md_close, Cond.selects R_Md y_Md_close y_Md_close, Cond.code y_Md_close b_Md_close 6 (some .int), Cond.methodLink R_Lw 45 y_Md_state, Cond.instanceMethod y_Md_state, Cond.selects R_Md y_Md_state y_Md_state]
def TT_28 : List Cond := [Cond.code y_Md_state b_Md_state 2 (some .int), Cond.methodLink R_Lw 49 y_Md_got, Cond.instanceMethod y_Md_got, Cond.selects R_Md y_Md_got y_Md_got, Cond.code y_Md_got b_Md_got 2 (some .int), Cond.methodLink R_Lw 53 y_Md_last, Cond.instanceMethod y_Md_last, Cond.selects R_Md y_Md_last y_Md_last, Cond.code y_Md_last b_Md_last 2 (some .int), Cond.methodLink R_Lw 57 y_Md_waiting, Cond.instanceMethod y_Md_waiting, Cond.selects R_Md y_Md_waiting y_Md_waiting, Cond.code y_Md_waiting b_Md_waiting 4 (some .int), Cond.methodLink R_Lw 61 y_Md_channel, Cond.instanceMethod y_Md_channel, Cond.selects R_Md y_Md_channel y_Md_channel]
def TT_29 : List Cond := [Cond.code y_Md_channel b_Md_channel 3 (some .int), Cond.methodLink R_Lw 65 y_Md_count, Cond.instanceMethod y_Md_count, Cond.selects R_Md y_Md_count y_Md_count, Cond.code y_Md_count b_Md_count 4 (some .int), Cond.methodLink R_Lw 70 y_Md_clear, Cond.instanceMethod y_Md_clear, Cond.selects R_Md y_Md_clear y_Md_clear, Cond.code y_Md_clear b_Md_clear 3 (some .int)]
def TT : List Cond := TT_0 ++ (TT_1 ++ (TT_2 ++ (TT_3 ++ (TT_4 ++ (TT_5 ++ (TT_6 ++ (TT_7 ++ (TT_8 ++ (TT_9 ++ (TT_10 ++ (TT_11 ++ (TT_12 ++ (TT_13 ++ (TT_14 ++ (TT_15 ++ (TT_16 ++ (TT_17 ++ (TT_18 ++ (TT_19 ++ (TT_20 ++ (TT_21 ++ (TT_22 ++ (TT_23 ++ (TT_24 ++ (TT_25 ++ (TT_26 ++ (TT_27 ++ (TT_28 ++ (TT_29)))))))))))))))))))))))))))))
theorem tt_0 : ∀ w ∈ TT_0, w ∈ TT := fun w h => List.mem_append_left _ h
theorem tt_1 : ∀ w ∈ TT_1, w ∈ TT := fun w h => List.mem_append_right _ (List.mem_append_left _ h)
theorem tt_2 : ∀ w ∈ TT_2, w ∈ TT := fun w h => List.mem_append_right _ (List.mem_append_right _ (List.mem_append_left _ h))
theorem tt_3 : ∀ w ∈ TT_3, w ∈ TT := fun w h => List.mem_append_right _ (List.mem_append_right _ (List.mem_append_right _ (List.mem_append_left _ h)))
theorem tt_4 : ∀ w ∈ TT_4, w ∈ TT := fun w h => List.mem_append_right _ (List.mem_append_right _ (List.mem_append_right _ (List.mem_append_right _ (List.mem_append_left _ h))))
theorem tt_5 : ∀ w ∈ TT_5, w ∈ TT := fun w h => List.mem_append_right _ (List.mem_append_right _ (List.mem_append_right _ (List.mem_append_right _ (List.mem_append_right _ (List.mem_append_left _ h)))))
theorem tt_6 : ∀ w ∈ TT_6, w ∈ TT := fun w h => List.mem_append_right _ (List.mem_append_right _ (List.mem_append_right _ (List.mem_append_right _ (List.mem_append_right _ (List.mem_append_right _ (List.mem_append_left _ h))))))
theorem tt_7 : ∀ w ∈ TT_7, w ∈ TT := fun w h => List.mem_append_right _ (List.mem_append_right _ (List.mem_append_right _ (List.mem_append_right _ (List.mem_append_right _ (List.mem_append_right _ (List.mem_append_right _ (List.mem_append_left _ h)))))))
theorem tt_8 : ∀ w ∈ TT_8, w ∈ TT := fun w h => List.mem_append_right _ (List.mem_append_right _ (List.mem_append_right _ (List.mem_append_right _ (List.mem_append_right _ (List.mem_append_right _ (List.mem_append_right _ (List.mem_append_right _ (List.mem_append_left _ h))))))))
theorem tt_9 : ∀ w ∈ TT_9, w ∈ TT := fun w h => List.mem_append_right _ (List.mem_append_right _ (List.mem_append_right _ (List.mem_append_right _ (List.mem_append_right _ (List.mem_append_right _ (List.mem_append_right _ (List.mem_append_right _ (List.mem_append_right _ (List.mem_append_left _ h)))))))))
theorem tt_10 : ∀ w ∈ TT_10, w ∈ TT := fun w h => List.mem_append_right _ (List.mem_append_right _ (List.mem_append_right _ (List.mem_append_right _ (List.mem_append_right _ (List.mem_append_right _ (List.mem_append_right _ (List.mem_append_right _ (List.mem_append_right _ (List.mem_append_right _ (List.mem_append_left _ h))))))))))
theorem tt_11 : ∀ w ∈ TT_11, w ∈ TT := fun w h => List.mem_append_right _ (List.mem_append_right _ (List.mem_append_right _ (List.mem_append_right _ (List.mem_append_right _ (List.mem_append_right _ (List.mem_append_right _ (List.mem_append_right _ (List.mem_append_right _ (List.mem_append_right _ (List.mem_append_right _ (List.mem_append_left _ h)))))))))))
theorem tt_12 : ∀ w ∈ TT_12, w ∈ TT := fun w h => List.mem_append_right _ (List.mem_append_right _ (List.mem_append_right _ (List.mem_append_right _ (List.mem_append_right _ (List.mem_append_right _ (List.mem_append_right _ (List.mem_append_right _ (List.mem_append_right _ (List.mem_append_right _ (List.mem_append_right _ (List.mem_append_right _ (List.mem_append_left _ h))))))))))))
theorem tt_13 : ∀ w ∈ TT_13, w ∈ TT := fun w h => List.mem_append_right _ (List.mem_append_right _ (List.mem_append_right _ (List.mem_append_right _ (List.mem_append_right _ (List.mem_append_right _ (List.mem_append_right _ (List.mem_append_right _ (List.mem_append_right _ (List.mem_append_right _ (List.mem_append_right _ (List.mem_append_right _ (List.mem_append_right _ (List.mem_append_left _ h)))))))))))))
theorem tt_14 : ∀ w ∈ TT_14, w ∈ TT := fun w h => List.mem_append_right _ (List.mem_append_right _ (List.mem_append_right _ (List.mem_append_right _ (List.mem_append_right _ (List.mem_append_right _ (List.mem_append_right _ (List.mem_append_right _ (List.mem_append_right _ (List.mem_append_right _ (List.mem_append_right _ (List.mem_append_right _ (List.mem_append_right _ (List.mem_append_right _ (List.mem_append_left _ h))))))))))))))
theorem tt_15 : ∀ w ∈ TT_15, w ∈ TT := fun w h => List.mem_append_right _ (List.mem_append_right _ (List.mem_append_right _ (List.mem_append_right _ (List.mem_append_right _ (List.mem_append_right _ (List.mem_append_right _ (List.mem_append_right _ (List.mem_append_right _ (List.mem_append_right _ (List.mem_append_right _ (List.mem_append_right _ (List.mem_append_right _ (List.mem_append_right _ (List.mem_append_right _ (List.mem_append_left _ h)))))))))))))))
theorem tt_16 : ∀ w ∈ TT_16, w ∈ TT := fun w h => List.mem_append_right _ (List.mem_append_right _ (List.mem_append_right _ (List.mem_append_right _ (List.mem_append_right _ (List.mem_append_right _ (List.mem_append_right _ (List.mem_append_right _ (List.mem_append_right _ (List.mem_append_right _ (List.mem_append_right _ (List.mem_append_right _ (List.mem_append_right _ (List.mem_append_right _ (List.mem_append_right _ (List.mem_append_right _ (List.mem_append_left _ h))))))))))))))))
theorem tt_17 : ∀ w ∈ TT_17, w ∈ TT := fun w h => List.mem_append_right _ (List.mem_append_right _ (List.mem_append_right _ (List.mem_append_right _ (List.mem_append_right _ (List.mem_append_right _ (List.mem_append_right _ (List.mem_append_right _ (List.mem_append_right _ (List.mem_append_right _ (List.mem_append_right _ (List.mem_append_right _ (List.mem_append_right _ (List.mem_append_right _ (List.mem_append_right _ (List.mem_append_right _ (List.mem_append_right _ (List.mem_append_left _ h)))))))))))))))))
theorem tt_18 : ∀ w ∈ TT_18, w ∈ TT := fun w h => List.mem_append_right _ (List.mem_append_right _ (List.mem_append_right _ (List.mem_append_right _ (List.mem_append_right _ (List.mem_append_right _ (List.mem_append_right _ (List.mem_append_right _ (List.mem_append_right _ (List.mem_append_right _ (List.mem_append_right _ (List.mem_append_right _ (List.mem_append_right _ (List.mem_append_right _ (List.mem_append_right _ (List.mem_append_right _ (List.mem_append_right _ (List.mem_append_right _ (List.mem_append_left _ h))))))))))))))))))
theorem tt_19 : ∀ w ∈ TT_19, w ∈ TT := fun w h => List.mem_append_right _ (List.mem_append_right _ (List.mem_append_right _ (List.mem_append_right _ (List.mem_append_right _ (List.mem_append_right _ (List.mem_append_right _ (List.mem_append_right _ (List.mem_append_right _ (List.mem_append_right _ (List.mem_append_right _ (List.mem_append_right _ (List.mem_append_right _ (List.mem_append_right _ (List.mem_append_right _ (List.mem_append_right _ (List.mem_append_right _ (List.mem_append_right _ (List.mem_append_right _ (List.mem_append_left _ h)))))))))))))))))))
theorem tt_20 : ∀ w ∈ TT_20, w ∈ TT := fun w h => List.mem_append_right _ (List.mem_append_right _ (List.mem_append_right _ (List.mem_append_right _ (List.mem_append_right _ (List.mem_append_right _ (List.mem_append_right _ (List.mem_append_right _ (List.mem_append_right _ (List.mem_append_right _ (List.mem_append_right _ (List.mem_append_right _ (List.mem_append_right _ (List.mem_append_right _ (List.mem_append_right _ (List.mem_append_right _ (List.mem_append_right _ (List.mem_append_right _ (List.mem_append_right _ (List.mem_append_right _ (List.mem_append_left _ h))))))))))))))))))))
theorem tt_21 : ∀ w ∈ TT_21, w ∈ TT := fun w h => List.mem_append_right _ (List.mem_append_right _ (List.mem_append_right _ (List.mem_append_right _ (List.mem_append_right _ (List.mem_append_right _ (List.mem_append_right _ (List.mem_append_right _ (List.mem_append_right _ (List.mem_append_right _ (List.mem_append_right _ (List.mem_append_right _ (List.mem_append_right _ (List.mem_append_right _ (List.mem_append_right _ (List.mem_append_right _ (List.mem_append_right _ (List.mem_append_right _ (List.mem_append_right _ (List.mem_append_right _ (List.mem_append_right _ (List.mem_append_left _ h)))))))))))))))))))))
theorem tt_22 : ∀ w ∈ TT_22, w ∈ TT := fun w h => List.mem_append_right _ (List.mem_append_right _ (List.mem_append_right _ (List.mem_append_right _ (List.mem_append_right _ (List.mem_append_right _ (List.mem_append_right _ (List.mem_append_right _ (List.mem_append_right _ (List.mem_append_right _ (List.mem_append_right _ (List.mem_append_right _ (List.mem_append_right _ (List.mem_append_right _ (List.mem_append_right _ (List.mem_append_right _ (List.mem_append_right _ (List.mem_append_right _ (List.mem_append_right _ (List.mem_append_right _ (List.mem_append_right _ (List.mem_append_right _ (List.mem_append_left _ h))))))))))))))))))))))
theorem tt_23 : ∀ w ∈ TT_23, w ∈ TT := fun w h => List.mem_append_right _ (List.mem_append_right _ (List.mem_append_right _ (List.mem_append_right _ (List.mem_append_right _ (List.mem_append_right _ (List.mem_append_right _ (List.mem_append_right _ (List.mem_append_right _ (List.mem_append_right _ (List.mem_append_right _ (List.mem_append_right _ (List.mem_append_right _ (List.mem_append_right _ (List.mem_append_right _ (List.mem_append_right _ (List.mem_append_right _ (List.mem_append_right _ (List.mem_append_right _ (List.mem_append_right _ (List.mem_append_right _ (List.mem_append_right _ (List.mem_append_right _ (List.mem_append_left _ h)))))))))))))))))))))))
theorem tt_24 : ∀ w ∈ TT_24, w ∈ TT := fun w h => List.mem_append_right _ (List.mem_append_right _ (List.mem_append_right _ (List.mem_append_right _ (List.mem_append_right _ (List.mem_append_right _ (List.mem_append_right _ (List.mem_append_right _ (List.mem_append_right _ (List.mem_append_right _ (List.mem_append_right _ (List.mem_append_right _ (List.mem_append_right _ (List.mem_append_right _ (List.mem_append_right _ (List.mem_append_right _ (List.mem_append_right _ (List.mem_append_right _ (List.mem_append_right _ (List.mem_append_right _ (List.mem_append_right _ (List.mem_append_right _ (List.mem_append_right _ (List.mem_append_right _ (List.mem_append_left _ h))))))))))))))))))))))))
theorem tt_25 : ∀ w ∈ TT_25, w ∈ TT := fun w h => List.mem_append_right _ (List.mem_append_right _ (List.mem_append_right _ (List.mem_append_right _ (List.mem_append_right _ (List.mem_append_right _ (List.mem_append_right _ (List.mem_append_right _ (List.mem_append_right _ (List.mem_append_right _ (List.mem_append_right _ (List.mem_append_right _ (List.mem_append_right _ (List.mem_append_right _ (List.mem_append_right _ (List.mem_append_right _ (List.mem_append_right _ (List.mem_append_right _ (List.mem_append_right _ (List.mem_append_right _ (List.mem_append_right _ (List.mem_append_right _ (List.mem_append_right _ (List.mem_append_right _ (List.mem_append_right _ (List.mem_append_left _ h)))))))))))))))))))))))))
theorem tt_26 : ∀ w ∈ TT_26, w ∈ TT := fun w h => List.mem_append_right _ (List.mem_append_right _ (List.mem_append_right _ (List.mem_append_right _ (List.mem_append_right _ (List.mem_append_right _ (List.mem_append_right _ (List.mem_append_right _ (List.mem_append_right _ (List.mem_append_right _ (List.mem_append_right _ (List.mem_append_right _ (List.mem_append_right _ (List.mem_append_right _ (List.mem_append_right _ (List.mem_append_right _ (List.mem_append_right _ (List.mem_append_right _ (List.mem_append_right _ (List.mem_append_right _ (List.mem_append_right _ (List.mem_append_right _ (List.mem_append_right _ (List.mem_append_right _ (List.mem_append_right _ (List.mem_append_right _ (List.mem_append_left _ h))))))))))))))))))))))))))
theorem tt_27 : ∀ w ∈ TT_27, w ∈ TT := fun w h => List.mem_append_right _ (List.mem_append_right _ (List.mem_append_right _ (List.mem_append_right _ (List.mem_append_right _ (List.mem_append_right _ (List.mem_append_right _ (List.mem_append_right _ (List.mem_append_right _ (List.mem_append_right _ (List.mem_append_right _ (List.mem_append_right _ (List.mem_append_right _ (List.mem_append_right _ (List.mem_append_right _ (List.mem_append_right _ (List.mem_append_right _ (List.mem_append_right _ (List.mem_append_right _ (List.mem_append_right _ (List.mem_append_right _ (List.mem_append_right _ (List.mem_append_right _ (List.mem_append_right _ (List.mem_append_right _ (List.mem_append_right _ (List.mem_append_right _ (List.mem_append_left _ h)))))))))))))))))))))))))))
theorem tt_28 : ∀ w ∈ TT_28, w ∈ TT := fun w h => List.mem_append_right _ (List.mem_append_right _ (List.mem_append_right _ (List.mem_append_right _ (List.mem_append_right _ (List.mem_append_right _ (List.mem_append_right _ (List.mem_append_right _ (List.mem_append_right _ (List.mem_append_right _ (List.mem_append_right _ (List.mem_append_right _ (List.mem_append_right _ (List.mem_append_right _ (List.mem_append_right _ (List.mem_append_right _ (List.mem_append_right _ (List.mem_append_right _ (List.mem_append_right _ (List.mem_append_right _ (List.mem_append_right _ (List.mem_append_right _ (List.mem_append_right _ (List.mem_append_right _ (List.mem_append_right _ (List.mem_append_right _ (List.mem_append_right _ (List.mem_append_right _ (List.mem_append_left _ h))))))))))))))))))))))))))))
theorem tt_29 : ∀ w ∈ TT_29, w ∈ TT := fun w h => List.mem_append_right _ (List.mem_append_right _ (List.mem_append_right _ (List.mem_append_right _ (List.mem_append_right _ (List.mem_append_right _ (List.mem_append_right _ (List.mem_append_right _ (List.mem_append_right _ (List.mem_append_right _ (List.mem_append_right _ (List.mem_append_right _ (List.mem_append_right _ (List.mem_append_right _ (List.mem_append_right _ (List.mem_append_right _ (List.mem_append_right _ (List.mem_append_right _ (List.mem_append_right _ (List.mem_append_right _ (List.mem_append_right _ (List.mem_append_right _ (List.mem_append_right _ (List.mem_append_right _ (List.mem_append_right _ (List.mem_append_right _ (List.mem_append_right _ (List.mem_append_right _ (List.mem_append_right _ (h)))))))))))))))))))))))))))))
theorem t_0 : Cond.selects R_Dk y_Dk_startAfresh y_Dk_startAfresh ∈ TT := tt_0 _ (List.mem_of_getElem? (i := 0) rfl)
theorem t_1 : Cond.selects R_Dk y_Dk_isReady y_Dk_isReady ∈ TT := tt_0 _ (List.mem_of_getElem? (i := 1) rfl)
theorem t_2 : Cond.selects R_Dk y_Dk_makeReady y_Dk_makeReady ∈ TT := tt_0 _ (List.mem_of_getElem? (i := 2) rfl)
theorem t_3 : Cond.selects R_Dk y_Dk_trySend y_Dk_trySend ∈ TT := tt_0 _ (List.mem_of_getElem? (i := 3) rfl)
theorem t_4 : Cond.selects R_Dk y_Dk_sufferFault y_Dk_sufferFault ∈ TT := tt_0 _ (List.mem_of_getElem? (i := 4) rfl)
theorem t_5 : Cond.selects R_Dk y_Dk_firstWaiting y_Dk_firstWaiting ∈ TT := tt_0 _ (List.mem_of_getElem? (i := 5) rfl)
theorem t_6 : Cond.selects R_Dk y_Dk_findWaiting y_Dk_findWaiting ∈ TT := tt_0 _ (List.mem_of_getElem? (i := 6) rfl)
theorem t_7 : Cond.selects R_Dk y_Dk_endWait y_Dk_endWait ∈ TT := tt_0 _ (List.mem_of_getElem? (i := 7) rfl)
theorem t_8 : Cond.selects R_Dk y_Dk_hand y_Dk_hand ∈ TT := tt_0 _ (List.mem_of_getElem? (i := 8) rfl)
theorem t_9 : Cond.selects R_Dk y_Dk_startWaiting y_Dk_startWaiting ∈ TT := tt_0 _ (List.mem_of_getElem? (i := 9) rfl)
theorem t_10 : Cond.selects R_Dk y_Dk_tryReceive y_Dk_tryReceive ∈ TT := tt_0 _ (List.mem_of_getElem? (i := 10) rfl)
theorem t_11 : Cond.selects R_Dk y_Dk_takeFromSender y_Dk_takeFromSender ∈ TT := tt_0 _ (List.mem_of_getElem? (i := 11) rfl)
theorem t_12 : Cond.selects R_Dk y_Dk_countPossible y_Dk_countPossible ∈ TT := tt_0 _ (List.mem_of_getElem? (i := 12) rfl)
theorem t_13 : Cond.selects R_Dk y_Dk_isPossible y_Dk_isPossible ∈ TT := tt_0 _ (List.mem_of_getElem? (i := 13) rfl)
theorem t_14 : Cond.selects R_Dk y_Dk_findPossible y_Dk_findPossible ∈ TT := tt_0 _ (List.mem_of_getElem? (i := 14) rfl)
theorem t_15 : Cond.selects R_Dk y_Dk_doCase y_Dk_doCase ∈ TT := tt_0 _ (List.mem_of_getElem? (i := 15) rfl)
theorem t_16 : Cond.selects R_Dk y_Dk_wakeAtShutChannel y_Dk_wakeAtShutChannel ∈ TT := tt_1 _ (List.mem_of_getElem? (i := 0) rfl)
theorem t_17 : Cond.selects R_Md y_Md_isReady y_Md_isReady ∈ TT := tt_1 _ (List.mem_of_getElem? (i := 1) rfl)
theorem t_18 : Cond.selects R_Md y_Md_isChannel y_Md_isChannel ∈ TT := tt_1 _ (List.mem_of_getElem? (i := 2) rfl)
theorem t_19 : Cond.selects R_Md y_Md_ready y_Md_ready ∈ TT := tt_1 _ (List.mem_of_getElem? (i := 3) rfl)
theorem t_20 : Cond.selects R_Md y_Md_isPossible y_Md_isPossible ∈ TT := tt_1 _ (List.mem_of_getElem? (i := 4) rfl)
theorem t_21 : Cond.selects R_Md y_Md_waiter y_Md_waiter ∈ TT := tt_1 _ (List.mem_of_getElem? (i := 5) rfl)
theorem t_22 : Cond.selects R_Md y_Md_waitsAt y_Md_waitsAt ∈ TT := tt_1 _ (List.mem_of_getElem? (i := 6) rfl)
theorem t_23 : Cond.selects R_Md y_Md_caseAt y_Md_caseAt ∈ TT := tt_1 _ (List.mem_of_getElem? (i := 7) rfl)
theorem t_24 : Cond.selects R_Md y_Md_sendNow y_Md_sendNow ∈ TT := tt_1 _ (List.mem_of_getElem? (i := 8) rfl)
theorem t_25 : Cond.selects R_Md y_Md_receives y_Md_receives ∈ TT := tt_1 _ (List.mem_of_getElem? (i := 9) rfl)
theorem t_26 : Cond.selects R_Md y_Md_push y_Md_push ∈ TT := tt_1 _ (List.mem_of_getElem? (i := 10) rfl)
theorem t_27 : Cond.selects R_Md y_Md_waits y_Md_waits ∈ TT := tt_1 _ (List.mem_of_getElem? (i := 11) rfl)
theorem t_28 : Cond.selects R_Md y_Md_receiveNow y_Md_receiveNow ∈ TT := tt_1 _ (List.mem_of_getElem? (i := 12) rfl)
theorem t_29 : Cond.selects R_Md y_Md_take y_Md_take ∈ TT := tt_1 _ (List.mem_of_getElem? (i := 13) rfl)
theorem t_30 : Cond.selects R_Md y_Md_sends y_Md_sends ∈ TT := tt_1 _ (List.mem_of_getElem? (i := 14) rfl)
theorem t_31 : Cond.initialized R_Lw ∈ TT := tt_1 _ (List.mem_of_getElem? (i := 15) rfl)
theorem t_32 : Cond.initialized R_Dk ∈ TT := tt_2 _ (List.mem_of_getElem? (i := 0) rfl)
theorem t_33 : Cond.initialized R_Ch ∈ TT := tt_2 _ (List.mem_of_getElem? (i := 1) rfl)
theorem t_34 : Cond.initialized R_Cs ∈ TT := tt_2 _ (List.mem_of_getElem? (i := 2) rfl)
theorem t_35 : Cond.initialized R_Ln ∈ TT := tt_2 _ (List.mem_of_getElem? (i := 3) rfl)
theorem t_36 : Cond.initialized R_Ar ∈ TT := tt_2 _ (List.mem_of_getElem? (i := 4) rfl)
theorem t_37 : Cond.initialized R_Md ∈ TT := tt_2 _ (List.mem_of_getElem? (i := 5) rfl)
theorem t_38 : Cond.initialized R_Sy ∈ TT := tt_2 _ (List.mem_of_getElem? (i := 6) rfl)
theorem t_39 : Cond.classLink R_Lw 7 R_Dk ∈ TT := tt_2 _ (List.mem_of_getElem? (i := 7) rfl)
theorem t_40 : Cond.instantiable R_Dk 9 ∈ TT := tt_2 _ (List.mem_of_getElem? (i := 8) rfl)
theorem t_41 : Cond.methodLink R_Lw 9 y_Dk_init ∈ TT := tt_2 _ (List.mem_of_getElem? (i := 9) rfl)
theorem t_42 : Cond.instanceMethod y_Dk_init ∈ TT := tt_2 _ (List.mem_of_getElem? (i := 10) rfl)
theorem t_43 : Cond.code y_Dk_init b_Dk_init 1 none ∈ TT := tt_2 _ (List.mem_of_getElem? (i := 11) rfl)
theorem t_44 : Cond.methodLink R_Dk 1 objectInit ∈ TT := tt_2 _ (List.mem_of_getElem? (i := 12) rfl)
theorem t_45 : Cond.instanceMethod objectInit ∈ TT := tt_2 _ (List.mem_of_getElem? (i := 13) rfl)
theorem t_46 : Cond.code objectInit ⟨#[0xb1]⟩ 1 none ∈ TT := tt_2 _ (List.mem_of_getElem? (i := 14) rfl)
theorem t_47 : Cond.classLink R_Dk 7 R_Ch ∈ TT := tt_2 _ (List.mem_of_getElem? (i := 15) rfl)
theorem t_48 : Cond.instantiable R_Ch 5 ∈ TT := tt_3 _ (List.mem_of_getElem? (i := 0) rfl)
theorem t_49 : Cond.instanceMethod y_Ch_init ∈ TT := tt_3 _ (List.mem_of_getElem? (i := 1) rfl)
theorem t_50 : Cond.code y_Ch_init b_Ch_init 1 none ∈ TT := tt_3 _ (List.mem_of_getElem? (i := 2) rfl)
theorem t_51 : Cond.methodLink R_Ch 3 objectInit ∈ TT := tt_3 _ (List.mem_of_getElem? (i := 3) rfl)
theorem t_52 : Cond.fieldLink R_Ch 9 R_Ch "room" "[I" ∈ TT := tt_3 _ (List.mem_of_getElem? (i := 4) rfl)
theorem t_53 : Cond.fieldLink R_Ch 15 R_Ch "held" "[I" ∈ TT := tt_3 _ (List.mem_of_getElem? (i := 5) rfl)
theorem t_54 : Cond.fieldLink R_Ch 18 R_Ch "shut" "[Z" ∈ TT := tt_3 _ (List.mem_of_getElem? (i := 6) rfl)
theorem t_55 : Cond.fieldLink R_Ch 22 R_Ch "values" "[I" ∈ TT := tt_3 _ (List.mem_of_getElem? (i := 7) rfl)
theorem t_56 : Cond.fieldLink R_Ch 25 R_Ch "number" "I" ∈ TT := tt_3 _ (List.mem_of_getElem? (i := 8) rfl)
theorem t_57 : Cond.laysFinal R_Ch R_Ch "room" "[I" ∈ TT := tt_3 _ (List.mem_of_getElem? (i := 9) rfl)
theorem t_58 : Cond.laysFinal R_Ch R_Ch "held" "[I" ∈ TT := tt_3 _ (List.mem_of_getElem? (i := 10) rfl)
theorem t_59 : Cond.laysFinal R_Ch R_Ch "shut" "[Z" ∈ TT := tt_3 _ (List.mem_of_getElem? (i := 11) rfl)
theorem t_60 : Cond.laysFinal R_Ch R_Ch "values" "[I" ∈ TT := tt_3 _ (List.mem_of_getElem? (i := 12) rfl)
theorem t_61 : Cond.lays R_Ch R_Ch "number" "I" ∈ TT := tt_3 _ (List.mem_of_getElem? (i := 13) rfl)
theorem t_62 : Cond.arrayClass .int ∈ TT := tt_3 _ (List.mem_of_getElem? (i := 14) rfl)
theorem t_63 : Cond.arrayClass .boolean ∈ TT := tt_3 _ (List.mem_of_getElem? (i := 15) rfl)
theorem t_64 : Cond.classLink R_Dk 16 R_Cs ∈ TT := tt_4 _ (List.mem_of_getElem? (i := 0) rfl)
theorem t_65 : Cond.instantiable R_Cs 4 ∈ TT := tt_4 _ (List.mem_of_getElem? (i := 1) rfl)
theorem t_66 : Cond.instanceMethod y_Cs_init ∈ TT := tt_4 _ (List.mem_of_getElem? (i := 2) rfl)
theorem t_67 : Cond.code y_Cs_init b_Cs_init 1 none ∈ TT := tt_4 _ (List.mem_of_getElem? (i := 3) rfl)
theorem t_68 : Cond.methodLink R_Cs 3 objectInit ∈ TT := tt_4 _ (List.mem_of_getElem? (i := 4) rfl)
theorem t_69 : Cond.fieldLink R_Cs 9 R_Cs "number" "[I" ∈ TT := tt_4 _ (List.mem_of_getElem? (i := 5) rfl)
theorem t_70 : Cond.fieldLink R_Cs 15 R_Cs "channels" "[I" ∈ TT := tt_4 _ (List.mem_of_getElem? (i := 6) rfl)
theorem t_71 : Cond.fieldLink R_Cs 18 R_Cs "ways" "[I" ∈ TT := tt_4 _ (List.mem_of_getElem? (i := 7) rfl)
theorem t_72 : Cond.fieldLink R_Cs 21 R_Cs "values" "[I" ∈ TT := tt_4 _ (List.mem_of_getElem? (i := 8) rfl)
theorem t_73 : Cond.laysFinal R_Cs R_Cs "number" "[I" ∈ TT := tt_4 _ (List.mem_of_getElem? (i := 9) rfl)
theorem t_74 : Cond.laysFinal R_Cs R_Cs "channels" "[I" ∈ TT := tt_4 _ (List.mem_of_getElem? (i := 10) rfl)
theorem t_75 : Cond.laysFinal R_Cs R_Cs "ways" "[I" ∈ TT := tt_4 _ (List.mem_of_getElem? (i := 11) rfl)
theorem t_76 : Cond.laysFinal R_Cs R_Cs "values" "[I" ∈ TT := tt_4 _ (List.mem_of_getElem? (i := 12) rfl)
theorem t_77 : Cond.classLink R_Dk 23 R_Ln ∈ TT := tt_4 _ (List.mem_of_getElem? (i := 13) rfl)
theorem t_78 : Cond.instantiable R_Ln 2 ∈ TT := tt_4 _ (List.mem_of_getElem? (i := 14) rfl)
theorem t_79 : Cond.instanceMethod y_Ln_init ∈ TT := tt_4 _ (List.mem_of_getElem? (i := 15) rfl)
theorem t_80 : Cond.code y_Ln_init b_Ln_init 1 none ∈ TT := tt_5 _ (List.mem_of_getElem? (i := 0) rfl)
theorem t_81 : Cond.methodLink R_Ln 3 objectInit ∈ TT := tt_5 _ (List.mem_of_getElem? (i := 1) rfl)
theorem t_82 : Cond.fieldLink R_Ln 9 R_Ln "members" "[I" ∈ TT := tt_5 _ (List.mem_of_getElem? (i := 2) rfl)
theorem t_83 : Cond.fieldLink R_Ln 15 R_Ln "length" "I" ∈ TT := tt_5 _ (List.mem_of_getElem? (i := 3) rfl)
theorem t_84 : Cond.laysFinal R_Ln R_Ln "members" "[I" ∈ TT := tt_5 _ (List.mem_of_getElem? (i := 4) rfl)
theorem t_85 : Cond.lays R_Ln R_Ln "length" "I" ∈ TT := tt_5 _ (List.mem_of_getElem? (i := 5) rfl)
theorem t_86 : Cond.methodLink R_Dk 43 y_Dk_startAfresh ∈ TT := tt_5 _ (List.mem_of_getElem? (i := 6) rfl)
theorem t_87 : Cond.instanceMethod y_Dk_startAfresh ∈ TT := tt_5 _ (List.mem_of_getElem? (i := 7) rfl)
theorem t_88 : Cond.code y_Dk_startAfresh b_Dk_startAfresh 1 none ∈ TT := tt_5 _ (List.mem_of_getElem? (i := 8) rfl)
theorem t_89 : Cond.methodLink R_Dk 133 y_Ch_forgetAll ∈ TT := tt_5 _ (List.mem_of_getElem? (i := 9) rfl)
theorem t_90 : Cond.instanceMethod y_Ch_forgetAll ∈ TT := tt_5 _ (List.mem_of_getElem? (i := 10) rfl)
theorem t_91 : Cond.selects R_Ch y_Ch_forgetAll y_Ch_forgetAll ∈ TT := tt_5 _ (List.mem_of_getElem? (i := 11) rfl)
theorem t_92 : Cond.code y_Ch_forgetAll b_Ch_forgetAll 1 none ∈ TT := tt_5 _ (List.mem_of_getElem? (i := 12) rfl)
theorem t_93 : Cond.methodLink R_Dk 136 y_Cs_forgetAll ∈ TT := tt_5 _ (List.mem_of_getElem? (i := 13) rfl)
theorem t_94 : Cond.instanceMethod y_Cs_forgetAll ∈ TT := tt_5 _ (List.mem_of_getElem? (i := 14) rfl)
theorem t_95 : Cond.selects R_Cs y_Cs_forgetAll y_Cs_forgetAll ∈ TT := tt_5 _ (List.mem_of_getElem? (i := 15) rfl)
theorem t_96 : Cond.code y_Cs_forgetAll b_Cs_forgetAll 1 none ∈ TT := tt_6 _ (List.mem_of_getElem? (i := 0) rfl)
theorem t_97 : Cond.methodLink R_Cs 24 y_Ar_fill ∈ TT := tt_6 _ (List.mem_of_getElem? (i := 1) rfl)
theorem t_98 : Cond.static y_Ar_fill ∈ TT := tt_6 _ (List.mem_of_getElem? (i := 2) rfl)
theorem t_99 : Cond.code y_Ar_fill b_Ar_fill 4 none ∈ TT := tt_6 _ (List.mem_of_getElem? (i := 3) rfl)
theorem t_100 : Cond.methodLink R_Dk 137 y_Ln_empty ∈ TT := tt_6 _ (List.mem_of_getElem? (i := 4) rfl)
theorem t_101 : Cond.instanceMethod y_Ln_empty ∈ TT := tt_6 _ (List.mem_of_getElem? (i := 5) rfl)
theorem t_102 : Cond.selects R_Ln y_Ln_empty y_Ln_empty ∈ TT := tt_6 _ (List.mem_of_getElem? (i := 6) rfl)
theorem t_103 : Cond.code y_Ln_empty b_Ln_empty 1 none ∈ TT := tt_6 _ (List.mem_of_getElem? (i := 7) rfl)
theorem t_104 : Cond.methodLink R_Dk 140 y_Ar_fill ∈ TT := tt_6 _ (List.mem_of_getElem? (i := 8) rfl)
theorem t_105 : Cond.fieldLink R_Dk 10 R_Dk "channels" "LChannelDesk$Channels;" ∈ TT := tt_6 _ (List.mem_of_getElem? (i := 9) rfl)
theorem t_106 : Cond.fieldLink R_Dk 19 R_Dk "cases" "LChannelDesk$Cases;" ∈ TT := tt_6 _ (List.mem_of_getElem? (i := 10) rfl)
theorem t_107 : Cond.fieldLink R_Dk 26 R_Dk "line" "LChannelDesk$Line;" ∈ TT := tt_6 _ (List.mem_of_getElem? (i := 11) rfl)
theorem t_108 : Cond.fieldLink R_Dk 30 R_Dk "status" "[I" ∈ TT := tt_6 _ (List.mem_of_getElem? (i := 12) rfl)
theorem t_109 : Cond.fieldLink R_Dk 34 R_Dk "received" "[I" ∈ TT := tt_6 _ (List.mem_of_getElem? (i := 13) rfl)
theorem t_110 : Cond.fieldLink R_Dk 37 R_Dk "wasSent" "[I" ∈ TT := tt_6 _ (List.mem_of_getElem? (i := 14) rfl)
theorem t_111 : Cond.fieldLink R_Dk 40 R_Dk "caseDone" "[I" ∈ TT := tt_6 _ (List.mem_of_getElem? (i := 15) rfl)
theorem t_112 : Cond.fieldLink R_Dk 126 R_Dk "meetings" "I" ∈ TT := tt_7 _ (List.mem_of_getElem? (i := 0) rfl)
theorem t_113 : Cond.fieldLink R_Dk 130 R_Dk "faults" "I" ∈ TT := tt_7 _ (List.mem_of_getElem? (i := 1) rfl)
theorem t_114 : Cond.laysFinal R_Dk R_Dk "channels" "LChannelDesk$Channels;" ∈ TT := tt_7 _ (List.mem_of_getElem? (i := 2) rfl)
theorem t_115 : Cond.laysFinal R_Dk R_Dk "cases" "LChannelDesk$Cases;" ∈ TT := tt_7 _ (List.mem_of_getElem? (i := 3) rfl)
theorem t_116 : Cond.laysFinal R_Dk R_Dk "line" "LChannelDesk$Line;" ∈ TT := tt_7 _ (List.mem_of_getElem? (i := 4) rfl)
theorem t_117 : Cond.laysFinal R_Dk R_Dk "status" "[I" ∈ TT := tt_7 _ (List.mem_of_getElem? (i := 5) rfl)
theorem t_118 : Cond.laysFinal R_Dk R_Dk "received" "[I" ∈ TT := tt_7 _ (List.mem_of_getElem? (i := 6) rfl)
theorem t_119 : Cond.laysFinal R_Dk R_Dk "wasSent" "[I" ∈ TT := tt_7 _ (List.mem_of_getElem? (i := 7) rfl)
theorem t_120 : Cond.laysFinal R_Dk R_Dk "caseDone" "[I" ∈ TT := tt_7 _ (List.mem_of_getElem? (i := 8) rfl)
theorem t_121 : Cond.lays R_Dk R_Dk "meetings" "I" ∈ TT := tt_7 _ (List.mem_of_getElem? (i := 9) rfl)
theorem t_122 : Cond.lays R_Dk R_Dk "faults" "I" ∈ TT := tt_7 _ (List.mem_of_getElem? (i := 10) rfl)
theorem t_123 : Cond.methodLink R_Lw 13 y_Dk_make ∈ TT := tt_7 _ (List.mem_of_getElem? (i := 11) rfl)
theorem t_124 : Cond.instanceMethod y_Dk_make ∈ TT := tt_7 _ (List.mem_of_getElem? (i := 12) rfl)
theorem t_125 : Cond.selects R_Dk y_Dk_make y_Dk_make ∈ TT := tt_7 _ (List.mem_of_getElem? (i := 13) rfl)
theorem t_126 : Cond.code y_Dk_make b_Dk_make 2 (some .int) ∈ TT := tt_7 _ (List.mem_of_getElem? (i := 14) rfl)
theorem t_127 : Cond.methodLink R_Dk 46 y_Ch_open ∈ TT := tt_7 _ (List.mem_of_getElem? (i := 15) rfl)
theorem t_128 : Cond.instanceMethod y_Ch_open ∈ TT := tt_8 _ (List.mem_of_getElem? (i := 0) rfl)
theorem t_129 : Cond.selects R_Ch y_Ch_open y_Ch_open ∈ TT := tt_8 _ (List.mem_of_getElem? (i := 1) rfl)
theorem t_130 : Cond.code y_Ch_open b_Ch_open 3 (some .int) ∈ TT := tt_8 _ (List.mem_of_getElem? (i := 2) rfl)
theorem t_131 : Cond.methodLink R_Lw 18 y_Dk_send ∈ TT := tt_8 _ (List.mem_of_getElem? (i := 3) rfl)
theorem t_132 : Cond.instanceMethod y_Dk_send ∈ TT := tt_8 _ (List.mem_of_getElem? (i := 4) rfl)
theorem t_133 : Cond.selects R_Dk y_Dk_send y_Dk_send ∈ TT := tt_8 _ (List.mem_of_getElem? (i := 5) rfl)
theorem t_134 : Cond.code y_Dk_send b_Dk_send 5 (some .int) ∈ TT := tt_8 _ (List.mem_of_getElem? (i := 6) rfl)
theorem t_135 : Cond.methodLink R_Dk 50 y_Dk_isReady ∈ TT := tt_8 _ (List.mem_of_getElem? (i := 7) rfl)
theorem t_136 : Cond.instanceMethod y_Dk_isReady ∈ TT := tt_8 _ (List.mem_of_getElem? (i := 8) rfl)
theorem t_137 : Cond.code y_Dk_isReady b_Dk_isReady 2 (some .boolean) ∈ TT := tt_8 _ (List.mem_of_getElem? (i := 9) rfl)
theorem t_138 : Cond.methodLink R_Dk 101 y_Dk_isRoutine ∈ TT := tt_8 _ (List.mem_of_getElem? (i := 10) rfl)
theorem t_139 : Cond.static y_Dk_isRoutine ∈ TT := tt_8 _ (List.mem_of_getElem? (i := 11) rfl)
theorem t_140 : Cond.code y_Dk_isRoutine b_Dk_isRoutine 1 (some .boolean) ∈ TT := tt_8 _ (List.mem_of_getElem? (i := 12) rfl)
theorem t_141 : Cond.methodLink R_Dk 54 y_Ch_has ∈ TT := tt_8 _ (List.mem_of_getElem? (i := 13) rfl)
theorem t_142 : Cond.instanceMethod y_Ch_has ∈ TT := tt_8 _ (List.mem_of_getElem? (i := 14) rfl)
theorem t_143 : Cond.selects R_Ch y_Ch_has y_Ch_has ∈ TT := tt_8 _ (List.mem_of_getElem? (i := 15) rfl)
theorem t_144 : Cond.code y_Ch_has b_Ch_has 2 (some .boolean) ∈ TT := tt_9 _ (List.mem_of_getElem? (i := 0) rfl)
theorem t_145 : Cond.methodLink R_Dk 57 y_Dk_makeReady ∈ TT := tt_9 _ (List.mem_of_getElem? (i := 1) rfl)
theorem t_146 : Cond.instanceMethod y_Dk_makeReady ∈ TT := tt_9 _ (List.mem_of_getElem? (i := 2) rfl)
theorem t_147 : Cond.code y_Dk_makeReady b_Dk_makeReady 2 none ∈ TT := tt_9 _ (List.mem_of_getElem? (i := 3) rfl)
theorem t_148 : Cond.methodLink R_Dk 146 y_Cs_forget ∈ TT := tt_9 _ (List.mem_of_getElem? (i := 4) rfl)
theorem t_149 : Cond.instanceMethod y_Cs_forget ∈ TT := tt_9 _ (List.mem_of_getElem? (i := 5) rfl)
theorem t_150 : Cond.selects R_Cs y_Cs_forget y_Cs_forget ∈ TT := tt_9 _ (List.mem_of_getElem? (i := 6) rfl)
theorem t_151 : Cond.code y_Cs_forget b_Cs_forget 2 none ∈ TT := tt_9 _ (List.mem_of_getElem? (i := 7) rfl)
theorem t_152 : Cond.methodLink R_Dk 61 y_Dk_trySend ∈ TT := tt_9 _ (List.mem_of_getElem? (i := 8) rfl)
theorem t_153 : Cond.instanceMethod y_Dk_trySend ∈ TT := tt_9 _ (List.mem_of_getElem? (i := 9) rfl)
theorem t_154 : Cond.code y_Dk_trySend b_Dk_trySend 5 (some .int) ∈ TT := tt_9 _ (List.mem_of_getElem? (i := 10) rfl)
theorem t_155 : Cond.methodLink R_Dk 89 y_Ch_isShut ∈ TT := tt_9 _ (List.mem_of_getElem? (i := 11) rfl)
theorem t_156 : Cond.instanceMethod y_Ch_isShut ∈ TT := tt_9 _ (List.mem_of_getElem? (i := 12) rfl)
theorem t_157 : Cond.selects R_Ch y_Ch_isShut y_Ch_isShut ∈ TT := tt_9 _ (List.mem_of_getElem? (i := 13) rfl)
theorem t_158 : Cond.code y_Ch_isShut b_Ch_isShut 2 (some .boolean) ∈ TT := tt_9 _ (List.mem_of_getElem? (i := 14) rfl)
theorem t_159 : Cond.methodLink R_Dk 152 y_Dk_sufferFault ∈ TT := tt_9 _ (List.mem_of_getElem? (i := 15) rfl)
theorem t_160 : Cond.instanceMethod y_Dk_sufferFault ∈ TT := tt_10 _ (List.mem_of_getElem? (i := 0) rfl)
theorem t_161 : Cond.code y_Dk_sufferFault b_Dk_sufferFault 2 none ∈ TT := tt_10 _ (List.mem_of_getElem? (i := 1) rfl)
theorem t_162 : Cond.methodLink R_Dk 95 y_Dk_firstWaiting ∈ TT := tt_10 _ (List.mem_of_getElem? (i := 2) rfl)
theorem t_163 : Cond.instanceMethod y_Dk_firstWaiting ∈ TT := tt_10 _ (List.mem_of_getElem? (i := 3) rfl)
theorem t_164 : Cond.code y_Dk_firstWaiting b_Dk_firstWaiting 3 (some .int) ∈ TT := tt_10 _ (List.mem_of_getElem? (i := 4) rfl)
theorem t_165 : Cond.methodLink R_Dk 104 y_Dk_findWaiting ∈ TT := tt_10 _ (List.mem_of_getElem? (i := 5) rfl)
theorem t_166 : Cond.instanceMethod y_Dk_findWaiting ∈ TT := tt_10 _ (List.mem_of_getElem? (i := 6) rfl)
theorem t_167 : Cond.code y_Dk_findWaiting b_Dk_findWaiting 7 (some .int) ∈ TT := tt_10 _ (List.mem_of_getElem? (i := 7) rfl)
theorem t_168 : Cond.methodLink R_Dk 123 y_Ln_length ∈ TT := tt_10 _ (List.mem_of_getElem? (i := 8) rfl)
theorem t_169 : Cond.instanceMethod y_Ln_length ∈ TT := tt_10 _ (List.mem_of_getElem? (i := 9) rfl)
theorem t_170 : Cond.selects R_Ln y_Ln_length y_Ln_length ∈ TT := tt_10 _ (List.mem_of_getElem? (i := 10) rfl)
theorem t_171 : Cond.code y_Ln_length b_Ln_length 1 (some .int) ∈ TT := tt_10 _ (List.mem_of_getElem? (i := 11) rfl)
theorem t_172 : Cond.methodLink R_Dk 198 y_Ln_memberAt ∈ TT := tt_10 _ (List.mem_of_getElem? (i := 12) rfl)
theorem t_173 : Cond.instanceMethod y_Ln_memberAt ∈ TT := tt_10 _ (List.mem_of_getElem? (i := 13) rfl)
theorem t_174 : Cond.selects R_Ln y_Ln_memberAt y_Ln_memberAt ∈ TT := tt_10 _ (List.mem_of_getElem? (i := 14) rfl)
theorem t_175 : Cond.code y_Ln_memberAt b_Ln_memberAt 2 (some .int) ∈ TT := tt_10 _ (List.mem_of_getElem? (i := 15) rfl)
theorem t_176 : Cond.methodLink R_Dk 201 y_Cs_firstAt ∈ TT := tt_11 _ (List.mem_of_getElem? (i := 0) rfl)
theorem t_177 : Cond.instanceMethod y_Cs_firstAt ∈ TT := tt_11 _ (List.mem_of_getElem? (i := 1) rfl)
theorem t_178 : Cond.selects R_Cs y_Cs_firstAt y_Cs_firstAt ∈ TT := tt_11 _ (List.mem_of_getElem? (i := 2) rfl)
theorem t_179 : Cond.code y_Cs_firstAt b_Cs_firstAt 6 (some .int) ∈ TT := tt_11 _ (List.mem_of_getElem? (i := 3) rfl)
theorem t_180 : Cond.methodLink R_Cs 30 y_Cs_slotOf ∈ TT := tt_11 _ (List.mem_of_getElem? (i := 4) rfl)
theorem t_181 : Cond.static y_Cs_slotOf ∈ TT := tt_11 _ (List.mem_of_getElem? (i := 5) rfl)
theorem t_182 : Cond.code y_Cs_slotOf b_Cs_slotOf 2 (some .int) ∈ TT := tt_11 _ (List.mem_of_getElem? (i := 6) rfl)
theorem t_183 : Cond.methodLink R_Dk 155 y_Dk_endWait ∈ TT := tt_11 _ (List.mem_of_getElem? (i := 7) rfl)
theorem t_184 : Cond.instanceMethod y_Dk_endWait ∈ TT := tt_11 _ (List.mem_of_getElem? (i := 8) rfl)
theorem t_185 : Cond.code y_Dk_endWait b_Dk_endWait 3 none ∈ TT := tt_11 _ (List.mem_of_getElem? (i := 9) rfl)
theorem t_186 : Cond.methodLink R_Dk 107 y_Cs_routineAt ∈ TT := tt_11 _ (List.mem_of_getElem? (i := 10) rfl)
theorem t_187 : Cond.static y_Cs_routineAt ∈ TT := tt_11 _ (List.mem_of_getElem? (i := 11) rfl)
theorem t_188 : Cond.code y_Cs_routineAt b_Cs_routineAt 1 (some .int) ∈ TT := tt_11 _ (List.mem_of_getElem? (i := 12) rfl)
theorem t_189 : Cond.methodLink R_Dk 174 y_Cs_numberAt ∈ TT := tt_11 _ (List.mem_of_getElem? (i := 13) rfl)
theorem t_190 : Cond.static y_Cs_numberAt ∈ TT := tt_11 _ (List.mem_of_getElem? (i := 14) rfl)
theorem t_191 : Cond.code y_Cs_numberAt b_Cs_numberAt 1 (some .int) ∈ TT := tt_11 _ (List.mem_of_getElem? (i := 15) rfl)
theorem t_192 : Cond.methodLink R_Dk 177 y_Ln_leave ∈ TT := tt_12 _ (List.mem_of_getElem? (i := 0) rfl)
theorem t_193 : Cond.instanceMethod y_Ln_leave ∈ TT := tt_12 _ (List.mem_of_getElem? (i := 1) rfl)
theorem t_194 : Cond.selects R_Ln y_Ln_leave y_Ln_leave ∈ TT := tt_12 _ (List.mem_of_getElem? (i := 2) rfl)
theorem t_195 : Cond.code y_Ln_leave b_Ln_leave 4 none ∈ TT := tt_12 _ (List.mem_of_getElem? (i := 3) rfl)
theorem t_196 : Cond.methodLink R_Dk 158 y_Dk_hand ∈ TT := tt_12 _ (List.mem_of_getElem? (i := 4) rfl)
theorem t_197 : Cond.instanceMethod y_Dk_hand ∈ TT := tt_12 _ (List.mem_of_getElem? (i := 5) rfl)
theorem t_198 : Cond.code y_Dk_hand b_Dk_hand 4 none ∈ TT := tt_12 _ (List.mem_of_getElem? (i := 6) rfl)
theorem t_199 : Cond.methodLink R_Dk 162 y_Ch_put ∈ TT := tt_12 _ (List.mem_of_getElem? (i := 7) rfl)
theorem t_200 : Cond.instanceMethod y_Ch_put ∈ TT := tt_12 _ (List.mem_of_getElem? (i := 8) rfl)
theorem t_201 : Cond.selects R_Ch y_Ch_put y_Ch_put ∈ TT := tt_12 _ (List.mem_of_getElem? (i := 9) rfl)
theorem t_202 : Cond.code y_Ch_put b_Ch_put 3 (some .boolean) ∈ TT := tt_12 _ (List.mem_of_getElem? (i := 10) rfl)
theorem t_203 : Cond.methodLink R_Ch 29 y_Ch_hasSpace ∈ TT := tt_12 _ (List.mem_of_getElem? (i := 11) rfl)
theorem t_204 : Cond.instanceMethod y_Ch_hasSpace ∈ TT := tt_12 _ (List.mem_of_getElem? (i := 12) rfl)
theorem t_205 : Cond.selects R_Ch y_Ch_hasSpace y_Ch_hasSpace ∈ TT := tt_12 _ (List.mem_of_getElem? (i := 13) rfl)
theorem t_206 : Cond.code y_Ch_hasSpace b_Ch_hasSpace 2 (some .boolean) ∈ TT := tt_12 _ (List.mem_of_getElem? (i := 14) rfl)
theorem t_207 : Cond.methodLink R_Dk 65 y_Cs_append ∈ TT := tt_12 _ (List.mem_of_getElem? (i := 15) rfl)
theorem t_208 : Cond.instanceMethod y_Cs_append ∈ TT := tt_13 _ (List.mem_of_getElem? (i := 0) rfl)
theorem t_209 : Cond.selects R_Cs y_Cs_append y_Cs_append ∈ TT := tt_13 _ (List.mem_of_getElem? (i := 1) rfl)
theorem t_210 : Cond.code y_Cs_append b_Cs_append 6 (some .int) ∈ TT := tt_13 _ (List.mem_of_getElem? (i := 2) rfl)
theorem t_211 : Cond.methodLink R_Dk 69 y_Dk_startWaiting ∈ TT := tt_13 _ (List.mem_of_getElem? (i := 3) rfl)
theorem t_212 : Cond.instanceMethod y_Dk_startWaiting ∈ TT := tt_13 _ (List.mem_of_getElem? (i := 4) rfl)
theorem t_213 : Cond.code y_Dk_startWaiting b_Dk_startWaiting 3 none ∈ TT := tt_13 _ (List.mem_of_getElem? (i := 5) rfl)
theorem t_214 : Cond.methodLink R_Dk 149 y_Ln_join ∈ TT := tt_13 _ (List.mem_of_getElem? (i := 6) rfl)
theorem t_215 : Cond.instanceMethod y_Ln_join ∈ TT := tt_13 _ (List.mem_of_getElem? (i := 7) rfl)
theorem t_216 : Cond.selects R_Ln y_Ln_join y_Ln_join ∈ TT := tt_13 _ (List.mem_of_getElem? (i := 8) rfl)
theorem t_217 : Cond.code y_Ln_join b_Ln_join 2 none ∈ TT := tt_13 _ (List.mem_of_getElem? (i := 9) rfl)
theorem t_218 : Cond.methodLink R_Lw 23 y_Dk_receive ∈ TT := tt_13 _ (List.mem_of_getElem? (i := 10) rfl)
theorem t_219 : Cond.instanceMethod y_Dk_receive ∈ TT := tt_13 _ (List.mem_of_getElem? (i := 11) rfl)
theorem t_220 : Cond.selects R_Dk y_Dk_receive y_Dk_receive ∈ TT := tt_13 _ (List.mem_of_getElem? (i := 12) rfl)
theorem t_221 : Cond.code y_Dk_receive b_Dk_receive 4 (some .int) ∈ TT := tt_13 _ (List.mem_of_getElem? (i := 13) rfl)
theorem t_222 : Cond.methodLink R_Dk 73 y_Dk_tryReceive ∈ TT := tt_13 _ (List.mem_of_getElem? (i := 14) rfl)
theorem t_223 : Cond.instanceMethod y_Dk_tryReceive ∈ TT := tt_13 _ (List.mem_of_getElem? (i := 15) rfl)
theorem t_224 : Cond.code y_Dk_tryReceive b_Dk_tryReceive 4 (some .int) ∈ TT := tt_14 _ (List.mem_of_getElem? (i := 0) rfl)
theorem t_225 : Cond.methodLink R_Dk 110 y_Ch_held ∈ TT := tt_14 _ (List.mem_of_getElem? (i := 1) rfl)
theorem t_226 : Cond.instanceMethod y_Ch_held ∈ TT := tt_14 _ (List.mem_of_getElem? (i := 2) rfl)
theorem t_227 : Cond.selects R_Ch y_Ch_held y_Ch_held ∈ TT := tt_14 _ (List.mem_of_getElem? (i := 3) rfl)
theorem t_228 : Cond.code y_Ch_held b_Ch_held 2 (some .int) ∈ TT := tt_14 _ (List.mem_of_getElem? (i := 4) rfl)
theorem t_229 : Cond.methodLink R_Dk 166 y_Ch_takeFirst ∈ TT := tt_14 _ (List.mem_of_getElem? (i := 5) rfl)
theorem t_230 : Cond.instanceMethod y_Ch_takeFirst ∈ TT := tt_14 _ (List.mem_of_getElem? (i := 6) rfl)
theorem t_231 : Cond.selects R_Ch y_Ch_takeFirst y_Ch_takeFirst ∈ TT := tt_14 _ (List.mem_of_getElem? (i := 7) rfl)
theorem t_232 : Cond.code y_Ch_takeFirst b_Ch_takeFirst 4 (some .int) ∈ TT := tt_14 _ (List.mem_of_getElem? (i := 8) rfl)
theorem t_233 : Cond.methodLink R_Ch 33 arraycopyName ∈ TT := tt_14 _ (List.mem_of_getElem? (i := 9) rfl)
theorem t_234 : Cond.static arraycopyName ∈ TT := tt_14 _ (List.mem_of_getElem? (i := 10) rfl)
theorem t_235 : Cond.native arraycopyName ∈ TT := tt_14 _ (List.mem_of_getElem? (i := 11) rfl)
theorem t_236 : Cond.methodLink R_Dk 169 y_Dk_takeFromSender ∈ TT := tt_14 _ (List.mem_of_getElem? (i := 12) rfl)
theorem t_237 : Cond.instanceMethod y_Dk_takeFromSender ∈ TT := tt_14 _ (List.mem_of_getElem? (i := 13) rfl)
theorem t_238 : Cond.code y_Dk_takeFromSender b_Dk_takeFromSender 3 (some .int) ∈ TT := tt_14 _ (List.mem_of_getElem? (i := 14) rfl)
theorem t_239 : Cond.methodLink R_Dk 172 y_Cs_valueAt ∈ TT := tt_14 _ (List.mem_of_getElem? (i := 15) rfl)
theorem t_240 : Cond.instanceMethod y_Cs_valueAt ∈ TT := tt_15 _ (List.mem_of_getElem? (i := 0) rfl)
theorem t_241 : Cond.selects R_Cs y_Cs_valueAt y_Cs_valueAt ∈ TT := tt_15 _ (List.mem_of_getElem? (i := 1) rfl)
theorem t_242 : Cond.code y_Cs_valueAt b_Cs_valueAt 2 (some .int) ∈ TT := tt_15 _ (List.mem_of_getElem? (i := 2) rfl)
theorem t_243 : Cond.methodLink R_Lw 28 y_Dk_add ∈ TT := tt_15 _ (List.mem_of_getElem? (i := 3) rfl)
theorem t_244 : Cond.instanceMethod y_Dk_add ∈ TT := tt_15 _ (List.mem_of_getElem? (i := 4) rfl)
theorem t_245 : Cond.selects R_Dk y_Dk_add y_Dk_add ∈ TT := tt_15 _ (List.mem_of_getElem? (i := 5) rfl)
theorem t_246 : Cond.code y_Dk_add b_Dk_add 5 (some .int) ∈ TT := tt_15 _ (List.mem_of_getElem? (i := 6) rfl)
theorem t_247 : Cond.methodLink R_Dk 77 y_Dk_isWay ∈ TT := tt_15 _ (List.mem_of_getElem? (i := 7) rfl)
theorem t_248 : Cond.static y_Dk_isWay ∈ TT := tt_15 _ (List.mem_of_getElem? (i := 8) rfl)
theorem t_249 : Cond.code y_Dk_isWay b_Dk_isWay 1 (some .boolean) ∈ TT := tt_15 _ (List.mem_of_getElem? (i := 9) rfl)
theorem t_250 : Cond.methodLink R_Lw 33 y_Dk_choose ∈ TT := tt_15 _ (List.mem_of_getElem? (i := 10) rfl)
theorem t_251 : Cond.instanceMethod y_Dk_choose ∈ TT := tt_15 _ (List.mem_of_getElem? (i := 11) rfl)
theorem t_252 : Cond.selects R_Dk y_Dk_choose y_Dk_choose ∈ TT := tt_15 _ (List.mem_of_getElem? (i := 12) rfl)
theorem t_253 : Cond.code y_Dk_choose b_Dk_choose 5 (some .int) ∈ TT := tt_15 _ (List.mem_of_getElem? (i := 13) rfl)
theorem t_254 : Cond.methodLink R_Dk 80 y_Dk_countPossible ∈ TT := tt_15 _ (List.mem_of_getElem? (i := 14) rfl)
theorem t_255 : Cond.instanceMethod y_Dk_countPossible ∈ TT := tt_15 _ (List.mem_of_getElem? (i := 15) rfl)
theorem t_256 : Cond.code y_Dk_countPossible b_Dk_countPossible 4 (some .int) ∈ TT := tt_16 _ (List.mem_of_getElem? (i := 0) rfl)
theorem t_257 : Cond.methodLink R_Dk 186 y_Cs_numberOf ∈ TT := tt_16 _ (List.mem_of_getElem? (i := 1) rfl)
theorem t_258 : Cond.instanceMethod y_Cs_numberOf ∈ TT := tt_16 _ (List.mem_of_getElem? (i := 2) rfl)
theorem t_259 : Cond.selects R_Cs y_Cs_numberOf y_Cs_numberOf ∈ TT := tt_16 _ (List.mem_of_getElem? (i := 3) rfl)
theorem t_260 : Cond.code y_Cs_numberOf b_Cs_numberOf 2 (some .int) ∈ TT := tt_16 _ (List.mem_of_getElem? (i := 4) rfl)
theorem t_261 : Cond.methodLink R_Dk 189 y_Cs_slotOf ∈ TT := tt_16 _ (List.mem_of_getElem? (i := 5) rfl)
theorem t_262 : Cond.methodLink R_Dk 192 y_Dk_isPossible ∈ TT := tt_16 _ (List.mem_of_getElem? (i := 6) rfl)
theorem t_263 : Cond.instanceMethod y_Dk_isPossible ∈ TT := tt_16 _ (List.mem_of_getElem? (i := 7) rfl)
theorem t_264 : Cond.code y_Dk_isPossible b_Dk_isPossible 3 (some .boolean) ∈ TT := tt_16 _ (List.mem_of_getElem? (i := 8) rfl)
theorem t_265 : Cond.methodLink R_Dk 183 y_Cs_channelAt ∈ TT := tt_16 _ (List.mem_of_getElem? (i := 9) rfl)
theorem t_266 : Cond.instanceMethod y_Cs_channelAt ∈ TT := tt_16 _ (List.mem_of_getElem? (i := 10) rfl)
theorem t_267 : Cond.selects R_Cs y_Cs_channelAt y_Cs_channelAt ∈ TT := tt_16 _ (List.mem_of_getElem? (i := 11) rfl)
theorem t_268 : Cond.code y_Cs_channelAt b_Cs_channelAt 2 (some .int) ∈ TT := tt_16 _ (List.mem_of_getElem? (i := 12) rfl)
theorem t_269 : Cond.methodLink R_Dk 180 y_Cs_wayAt ∈ TT := tt_16 _ (List.mem_of_getElem? (i := 13) rfl)
theorem t_270 : Cond.instanceMethod y_Cs_wayAt ∈ TT := tt_16 _ (List.mem_of_getElem? (i := 14) rfl)
theorem t_271 : Cond.selects R_Cs y_Cs_wayAt y_Cs_wayAt ∈ TT := tt_16 _ (List.mem_of_getElem? (i := 15) rfl)
theorem t_272 : Cond.code y_Cs_wayAt b_Cs_wayAt 2 (some .int) ∈ TT := tt_17 _ (List.mem_of_getElem? (i := 0) rfl)
theorem t_273 : Cond.methodLink R_Dk 195 y_Ch_hasSpace ∈ TT := tt_17 _ (List.mem_of_getElem? (i := 1) rfl)
theorem t_274 : Cond.methodLink R_Dk 83 y_Dk_findPossible ∈ TT := tt_17 _ (List.mem_of_getElem? (i := 2) rfl)
theorem t_275 : Cond.instanceMethod y_Dk_findPossible ∈ TT := tt_17 _ (List.mem_of_getElem? (i := 3) rfl)
theorem t_276 : Cond.code y_Dk_findPossible b_Dk_findPossible 6 (some .int) ∈ TT := tt_17 _ (List.mem_of_getElem? (i := 4) rfl)
theorem t_277 : Cond.methodLink R_Dk 86 y_Dk_doCase ∈ TT := tt_17 _ (List.mem_of_getElem? (i := 5) rfl)
theorem t_278 : Cond.instanceMethod y_Dk_doCase ∈ TT := tt_17 _ (List.mem_of_getElem? (i := 6) rfl)
theorem t_279 : Cond.code y_Dk_doCase b_Dk_doCase 7 (some .int) ∈ TT := tt_17 _ (List.mem_of_getElem? (i := 7) rfl)
theorem t_280 : Cond.methodLink R_Lw 38 y_Dk_close ∈ TT := tt_17 _ (List.mem_of_getElem? (i := 8) rfl)
theorem t_281 : Cond.instanceMethod y_Dk_close ∈ TT := tt_17 _ (List.mem_of_getElem? (i := 9) rfl)
theorem t_282 : Cond.selects R_Dk y_Dk_close y_Dk_close ∈ TT := tt_17 _ (List.mem_of_getElem? (i := 10) rfl)
theorem t_283 : Cond.code y_Dk_close b_Dk_close 4 (some .int) ∈ TT := tt_17 _ (List.mem_of_getElem? (i := 11) rfl)
theorem t_284 : Cond.methodLink R_Dk 92 y_Ch_shut ∈ TT := tt_17 _ (List.mem_of_getElem? (i := 12) rfl)
theorem t_285 : Cond.instanceMethod y_Ch_shut ∈ TT := tt_17 _ (List.mem_of_getElem? (i := 13) rfl)
theorem t_286 : Cond.selects R_Ch y_Ch_shut y_Ch_shut ∈ TT := tt_17 _ (List.mem_of_getElem? (i := 14) rfl)
theorem t_287 : Cond.code y_Ch_shut b_Ch_shut 2 none ∈ TT := tt_17 _ (List.mem_of_getElem? (i := 15) rfl)
theorem t_288 : Cond.methodLink R_Dk 98 y_Dk_wakeAtShutChannel ∈ TT := tt_18 _ (List.mem_of_getElem? (i := 0) rfl)
theorem t_289 : Cond.instanceMethod y_Dk_wakeAtShutChannel ∈ TT := tt_18 _ (List.mem_of_getElem? (i := 1) rfl)
theorem t_290 : Cond.code y_Dk_wakeAtShutChannel b_Dk_wakeAtShutChannel 4 none ∈ TT := tt_18 _ (List.mem_of_getElem? (i := 2) rfl)
theorem t_291 : Cond.methodLink R_Lw 42 y_Dk_state ∈ TT := tt_18 _ (List.mem_of_getElem? (i := 3) rfl)
theorem t_292 : Cond.instanceMethod y_Dk_state ∈ TT := tt_18 _ (List.mem_of_getElem? (i := 4) rfl)
theorem t_293 : Cond.selects R_Dk y_Dk_state y_Dk_state ∈ TT := tt_18 _ (List.mem_of_getElem? (i := 5) rfl)
theorem t_294 : Cond.code y_Dk_state b_Dk_state 2 (some .int) ∈ TT := tt_18 _ (List.mem_of_getElem? (i := 6) rfl)
theorem t_295 : Cond.methodLink R_Lw 46 y_Dk_got ∈ TT := tt_18 _ (List.mem_of_getElem? (i := 7) rfl)
theorem t_296 : Cond.instanceMethod y_Dk_got ∈ TT := tt_18 _ (List.mem_of_getElem? (i := 8) rfl)
theorem t_297 : Cond.selects R_Dk y_Dk_got y_Dk_got ∈ TT := tt_18 _ (List.mem_of_getElem? (i := 9) rfl)
theorem t_298 : Cond.code y_Dk_got b_Dk_got 2 (some .int) ∈ TT := tt_18 _ (List.mem_of_getElem? (i := 10) rfl)
theorem t_299 : Cond.methodLink R_Lw 50 y_Dk_last ∈ TT := tt_18 _ (List.mem_of_getElem? (i := 11) rfl)
theorem t_300 : Cond.instanceMethod y_Dk_last ∈ TT := tt_18 _ (List.mem_of_getElem? (i := 12) rfl)
theorem t_301 : Cond.selects R_Dk y_Dk_last y_Dk_last ∈ TT := tt_18 _ (List.mem_of_getElem? (i := 13) rfl)
theorem t_302 : Cond.code y_Dk_last b_Dk_last 2 (some .int) ∈ TT := tt_18 _ (List.mem_of_getElem? (i := 14) rfl)
theorem t_303 : Cond.methodLink R_Lw 54 y_Dk_waiting ∈ TT := tt_18 _ (List.mem_of_getElem? (i := 15) rfl)
theorem t_304 : Cond.instanceMethod y_Dk_waiting ∈ TT := tt_19 _ (List.mem_of_getElem? (i := 0) rfl)
theorem t_305 : Cond.selects R_Dk y_Dk_waiting y_Dk_waiting ∈ TT := tt_19 _ (List.mem_of_getElem? (i := 1) rfl)
theorem t_306 : Cond.code y_Dk_waiting b_Dk_waiting 5 (some .int) ∈ TT := tt_19 _ (List.mem_of_getElem? (i := 2) rfl)
theorem t_307 : Cond.methodLink R_Lw 58 y_Dk_channel ∈ TT := tt_19 _ (List.mem_of_getElem? (i := 3) rfl)
theorem t_308 : Cond.instanceMethod y_Dk_channel ∈ TT := tt_19 _ (List.mem_of_getElem? (i := 4) rfl)
theorem t_309 : Cond.selects R_Dk y_Dk_channel y_Dk_channel ∈ TT := tt_19 _ (List.mem_of_getElem? (i := 5) rfl)
theorem t_310 : Cond.code y_Dk_channel b_Dk_channel 3 (some .int) ∈ TT := tt_19 _ (List.mem_of_getElem? (i := 6) rfl)
theorem t_311 : Cond.methodLink R_Dk 113 y_Ch_roomOf ∈ TT := tt_19 _ (List.mem_of_getElem? (i := 7) rfl)
theorem t_312 : Cond.instanceMethod y_Ch_roomOf ∈ TT := tt_19 _ (List.mem_of_getElem? (i := 8) rfl)
theorem t_313 : Cond.selects R_Ch y_Ch_roomOf y_Ch_roomOf ∈ TT := tt_19 _ (List.mem_of_getElem? (i := 9) rfl)
theorem t_314 : Cond.code y_Ch_roomOf b_Ch_roomOf 2 (some .int) ∈ TT := tt_19 _ (List.mem_of_getElem? (i := 10) rfl)
theorem t_315 : Cond.methodLink R_Dk 116 y_Ch_valueAt ∈ TT := tt_19 _ (List.mem_of_getElem? (i := 11) rfl)
theorem t_316 : Cond.instanceMethod y_Ch_valueAt ∈ TT := tt_19 _ (List.mem_of_getElem? (i := 12) rfl)
theorem t_317 : Cond.selects R_Ch y_Ch_valueAt y_Ch_valueAt ∈ TT := tt_19 _ (List.mem_of_getElem? (i := 13) rfl)
theorem t_318 : Cond.code y_Ch_valueAt b_Ch_valueAt 3 (some .int) ∈ TT := tt_19 _ (List.mem_of_getElem? (i := 14) rfl)
theorem t_319 : Cond.methodLink R_Lw 62 y_Dk_count ∈ TT := tt_19 _ (List.mem_of_getElem? (i := 15) rfl)
theorem t_320 : Cond.instanceMethod y_Dk_count ∈ TT := tt_20 _ (List.mem_of_getElem? (i := 0) rfl)
theorem t_321 : Cond.selects R_Dk y_Dk_count y_Dk_count ∈ TT := tt_20 _ (List.mem_of_getElem? (i := 1) rfl)
theorem t_322 : Cond.code y_Dk_count b_Dk_count 2 (some .int) ∈ TT := tt_20 _ (List.mem_of_getElem? (i := 2) rfl)
theorem t_323 : Cond.methodLink R_Dk 119 y_Ch_number ∈ TT := tt_20 _ (List.mem_of_getElem? (i := 3) rfl)
theorem t_324 : Cond.instanceMethod y_Ch_number ∈ TT := tt_20 _ (List.mem_of_getElem? (i := 4) rfl)
theorem t_325 : Cond.selects R_Ch y_Ch_number y_Ch_number ∈ TT := tt_20 _ (List.mem_of_getElem? (i := 5) rfl)
theorem t_326 : Cond.code y_Ch_number b_Ch_number 1 (some .int) ∈ TT := tt_20 _ (List.mem_of_getElem? (i := 6) rfl)
theorem t_327 : Cond.methodLink R_Lw 66 y_Dk_clear ∈ TT := tt_20 _ (List.mem_of_getElem? (i := 7) rfl)
theorem t_328 : Cond.instanceMethod y_Dk_clear ∈ TT := tt_20 _ (List.mem_of_getElem? (i := 8) rfl)
theorem t_329 : Cond.selects R_Dk y_Dk_clear y_Dk_clear ∈ TT := tt_20 _ (List.mem_of_getElem? (i := 9) rfl)
theorem t_330 : Cond.code y_Dk_clear b_Dk_clear 2 (some .int) ∈ TT := tt_20 _ (List.mem_of_getElem? (i := 10) rfl)
theorem t_331 : Cond.classLink R_Lw 10 R_Md ∈ TT := tt_20 _ (List.mem_of_getElem? (i := 11) rfl)
theorem t_332 : Cond.instantiable R_Md 19 ∈ TT := tt_20 _ (List.mem_of_getElem? (i := 12) rfl)
theorem t_333 : Cond.methodLink R_Lw 12 y_Md_init ∈ TT := tt_20 _ (List.mem_of_getElem? (i := 13) rfl)
theorem t_334 : Cond.instanceMethod y_Md_init ∈ TT := tt_20 _ (List.mem_of_getElem? (i := 14) rfl)
theorem t_335 : Cond.code y_Md_init b_Md_init 2 none ∈ TT := tt_20 _ (List.mem_of_getElem? (i := 15) rfl)
theorem t_336 : Cond.methodLink R_Md 1 objectInit ∈ TT := tt_21 _ (List.mem_of_getElem? (i := 0) rfl)
theorem t_337 : Cond.fieldLink R_Md 57 R_Md "channels" "I" ∈ TT := tt_21 _ (List.mem_of_getElem? (i := 1) rfl)
theorem t_338 : Cond.fieldLink R_Md 7 R_Md "room" "[I" ∈ TT := tt_21 _ (List.mem_of_getElem? (i := 2) rfl)
theorem t_339 : Cond.fieldLink R_Md 13 R_Md "closed" "[Z" ∈ TT := tt_21 _ (List.mem_of_getElem? (i := 3) rfl)
theorem t_340 : Cond.fieldLink R_Md 17 R_Md "many" "[I" ∈ TT := tt_21 _ (List.mem_of_getElem? (i := 4) rfl)
theorem t_341 : Cond.fieldLink R_Md 20 R_Md "values" "[I" ∈ TT := tt_21 _ (List.mem_of_getElem? (i := 5) rfl)
theorem t_342 : Cond.fieldLink R_Md 23 R_Md "states" "[I" ∈ TT := tt_21 _ (List.mem_of_getElem? (i := 6) rfl)
theorem t_343 : Cond.fieldLink R_Md 26 R_Md "since" "[J" ∈ TT := tt_21 _ (List.mem_of_getElem? (i := 7) rfl)
theorem t_344 : Cond.fieldLink R_Md 30 R_Md "place" "[I" ∈ TT := tt_21 _ (List.mem_of_getElem? (i := 8) rfl)
theorem t_345 : Cond.fieldLink R_Md 33 R_Md "offer" "[I" ∈ TT := tt_21 _ (List.mem_of_getElem? (i := 9) rfl)
theorem t_346 : Cond.fieldLink R_Md 36 R_Md "got" "[I" ∈ TT := tt_21 _ (List.mem_of_getElem? (i := 10) rfl)
theorem t_347 : Cond.fieldLink R_Md 39 R_Md "sent" "[Z" ∈ TT := tt_21 _ (List.mem_of_getElem? (i := 11) rfl)
theorem t_348 : Cond.fieldLink R_Md 42 R_Md "done" "[I" ∈ TT := tt_21 _ (List.mem_of_getElem? (i := 12) rfl)
theorem t_349 : Cond.fieldLink R_Md 45 R_Md "cases" "[I" ∈ TT := tt_21 _ (List.mem_of_getElem? (i := 13) rfl)
theorem t_350 : Cond.fieldLink R_Md 48 R_Md "caseChannel" "[I" ∈ TT := tt_21 _ (List.mem_of_getElem? (i := 14) rfl)
theorem t_351 : Cond.fieldLink R_Md 51 R_Md "caseWay" "[I" ∈ TT := tt_21 _ (List.mem_of_getElem? (i := 15) rfl)
theorem t_352 : Cond.fieldLink R_Md 54 R_Md "caseValue" "[I" ∈ TT := tt_22 _ (List.mem_of_getElem? (i := 0) rfl)
theorem t_353 : Cond.fieldLink R_Md 76 R_Md "moment" "J" ∈ TT := tt_22 _ (List.mem_of_getElem? (i := 1) rfl)
theorem t_354 : Cond.fieldLink R_Md 84 R_Md "meetings" "I" ∈ TT := tt_22 _ (List.mem_of_getElem? (i := 2) rfl)
theorem t_355 : Cond.fieldLink R_Md 73 R_Md "faults" "I" ∈ TT := tt_22 _ (List.mem_of_getElem? (i := 3) rfl)
theorem t_356 : Cond.lays R_Md R_Md "channels" "I" ∈ TT := tt_22 _ (List.mem_of_getElem? (i := 4) rfl)
theorem t_357 : Cond.laysFinal R_Md R_Md "room" "[I" ∈ TT := tt_22 _ (List.mem_of_getElem? (i := 5) rfl)
theorem t_358 : Cond.laysFinal R_Md R_Md "closed" "[Z" ∈ TT := tt_22 _ (List.mem_of_getElem? (i := 6) rfl)
theorem t_359 : Cond.laysFinal R_Md R_Md "many" "[I" ∈ TT := tt_22 _ (List.mem_of_getElem? (i := 7) rfl)
theorem t_360 : Cond.laysFinal R_Md R_Md "values" "[I" ∈ TT := tt_22 _ (List.mem_of_getElem? (i := 8) rfl)
theorem t_361 : Cond.laysFinal R_Md R_Md "states" "[I" ∈ TT := tt_22 _ (List.mem_of_getElem? (i := 9) rfl)
theorem t_362 : Cond.laysFinal R_Md R_Md "since" "[J" ∈ TT := tt_22 _ (List.mem_of_getElem? (i := 10) rfl)
theorem t_363 : Cond.laysFinal R_Md R_Md "place" "[I" ∈ TT := tt_22 _ (List.mem_of_getElem? (i := 11) rfl)
theorem t_364 : Cond.laysFinal R_Md R_Md "offer" "[I" ∈ TT := tt_22 _ (List.mem_of_getElem? (i := 12) rfl)
theorem t_365 : Cond.laysFinal R_Md R_Md "got" "[I" ∈ TT := tt_22 _ (List.mem_of_getElem? (i := 13) rfl)
theorem t_366 : Cond.laysFinal R_Md R_Md "sent" "[Z" ∈ TT := tt_22 _ (List.mem_of_getElem? (i := 14) rfl)
theorem t_367 : Cond.laysFinal R_Md R_Md "done" "[I" ∈ TT := tt_22 _ (List.mem_of_getElem? (i := 15) rfl)
theorem t_368 : Cond.laysFinal R_Md R_Md "cases" "[I" ∈ TT := tt_23 _ (List.mem_of_getElem? (i := 0) rfl)
theorem t_369 : Cond.laysFinal R_Md R_Md "caseChannel" "[I" ∈ TT := tt_23 _ (List.mem_of_getElem? (i := 1) rfl)
theorem t_370 : Cond.laysFinal R_Md R_Md "caseWay" "[I" ∈ TT := tt_23 _ (List.mem_of_getElem? (i := 2) rfl)
theorem t_371 : Cond.laysFinal R_Md R_Md "caseValue" "[I" ∈ TT := tt_23 _ (List.mem_of_getElem? (i := 3) rfl)
theorem t_372 : Cond.lays R_Md R_Md "moment" "J" ∈ TT := tt_23 _ (List.mem_of_getElem? (i := 4) rfl)
theorem t_373 : Cond.lays R_Md R_Md "meetings" "I" ∈ TT := tt_23 _ (List.mem_of_getElem? (i := 5) rfl)
theorem t_374 : Cond.lays R_Md R_Md "faults" "I" ∈ TT := tt_23 _ (List.mem_of_getElem? (i := 6) rfl)
theorem t_375 : Cond.arrayClass .long ∈ TT := tt_23 _ (List.mem_of_getElem? (i := 7) rfl)
theorem t_376 : Cond.methodLink R_Lw 17 y_Md_make ∈ TT := tt_23 _ (List.mem_of_getElem? (i := 8) rfl)
theorem t_377 : Cond.instanceMethod y_Md_make ∈ TT := tt_23 _ (List.mem_of_getElem? (i := 9) rfl)
theorem t_378 : Cond.selects R_Md y_Md_make y_Md_make ∈ TT := tt_23 _ (List.mem_of_getElem? (i := 10) rfl)
theorem t_379 : Cond.code y_Md_make b_Md_make 2 (some .int) ∈ TT := tt_23 _ (List.mem_of_getElem? (i := 11) rfl)
theorem t_380 : Cond.methodLink R_Lw 22 y_Md_send ∈ TT := tt_23 _ (List.mem_of_getElem? (i := 12) rfl)
theorem t_381 : Cond.instanceMethod y_Md_send ∈ TT := tt_23 _ (List.mem_of_getElem? (i := 13) rfl)
theorem t_382 : Cond.selects R_Md y_Md_send y_Md_send ∈ TT := tt_23 _ (List.mem_of_getElem? (i := 14) rfl)
theorem t_383 : Cond.code y_Md_send b_Md_send 4 (some .int) ∈ TT := tt_23 _ (List.mem_of_getElem? (i := 15) rfl)
theorem t_384 : Cond.methodLink R_Md 105 y_Md_isReady ∈ TT := tt_24 _ (List.mem_of_getElem? (i := 0) rfl)
theorem t_385 : Cond.instanceMethod y_Md_isReady ∈ TT := tt_24 _ (List.mem_of_getElem? (i := 1) rfl)
theorem t_386 : Cond.code y_Md_isReady b_Md_isReady 2 (some .boolean) ∈ TT := tt_24 _ (List.mem_of_getElem? (i := 2) rfl)
theorem t_387 : Cond.methodLink R_Md 61 y_Md_isRoutine ∈ TT := tt_24 _ (List.mem_of_getElem? (i := 3) rfl)
theorem t_388 : Cond.static y_Md_isRoutine ∈ TT := tt_24 _ (List.mem_of_getElem? (i := 4) rfl)
theorem t_389 : Cond.code y_Md_isRoutine b_Md_isRoutine 1 (some .boolean) ∈ TT := tt_24 _ (List.mem_of_getElem? (i := 5) rfl)
theorem t_390 : Cond.methodLink R_Md 108 y_Md_isChannel ∈ TT := tt_24 _ (List.mem_of_getElem? (i := 6) rfl)
theorem t_391 : Cond.instanceMethod y_Md_isChannel ∈ TT := tt_24 _ (List.mem_of_getElem? (i := 7) rfl)
theorem t_392 : Cond.code y_Md_isChannel b_Md_isChannel 2 (some .boolean) ∈ TT := tt_24 _ (List.mem_of_getElem? (i := 8) rfl)
theorem t_393 : Cond.methodLink R_Md 80 y_Md_ready ∈ TT := tt_24 _ (List.mem_of_getElem? (i := 9) rfl)
theorem t_394 : Cond.instanceMethod y_Md_ready ∈ TT := tt_24 _ (List.mem_of_getElem? (i := 10) rfl)
theorem t_395 : Cond.code y_Md_ready b_Md_ready 3 none ∈ TT := tt_24 _ (List.mem_of_getElem? (i := 11) rfl)
theorem t_396 : Cond.methodLink R_Md 111 y_Md_isPossible ∈ TT := tt_24 _ (List.mem_of_getElem? (i := 12) rfl)
theorem t_397 : Cond.instanceMethod y_Md_isPossible ∈ TT := tt_24 _ (List.mem_of_getElem? (i := 13) rfl)
theorem t_398 : Cond.code y_Md_isPossible b_Md_isPossible 3 (some .boolean) ∈ TT := tt_24 _ (List.mem_of_getElem? (i := 14) rfl)
theorem t_399 : Cond.methodLink R_Md 87 y_Md_waiter ∈ TT := tt_24 _ (List.mem_of_getElem? (i := 15) rfl)
theorem t_400 : Cond.instanceMethod y_Md_waiter ∈ TT := tt_25 _ (List.mem_of_getElem? (i := 0) rfl)
theorem t_401 : Cond.code y_Md_waiter b_Md_waiter 7 (some .int) ∈ TT := tt_25 _ (List.mem_of_getElem? (i := 1) rfl)
theorem t_402 : Cond.methodLink R_Md 69 y_Md_waitsAt ∈ TT := tt_25 _ (List.mem_of_getElem? (i := 2) rfl)
theorem t_403 : Cond.instanceMethod y_Md_waitsAt ∈ TT := tt_25 _ (List.mem_of_getElem? (i := 3) rfl)
theorem t_404 : Cond.code y_Md_waitsAt b_Md_waitsAt 5 (some .boolean) ∈ TT := tt_25 _ (List.mem_of_getElem? (i := 4) rfl)
theorem t_405 : Cond.methodLink R_Md 65 y_Md_caseAt ∈ TT := tt_25 _ (List.mem_of_getElem? (i := 5) rfl)
theorem t_406 : Cond.instanceMethod y_Md_caseAt ∈ TT := tt_25 _ (List.mem_of_getElem? (i := 6) rfl)
theorem t_407 : Cond.code y_Md_caseAt b_Md_caseAt 5 (some .int) ∈ TT := tt_25 _ (List.mem_of_getElem? (i := 7) rfl)
theorem t_408 : Cond.methodLink R_Md 115 y_Md_sendNow ∈ TT := tt_25 _ (List.mem_of_getElem? (i := 8) rfl)
theorem t_409 : Cond.instanceMethod y_Md_sendNow ∈ TT := tt_25 _ (List.mem_of_getElem? (i := 9) rfl)
theorem t_410 : Cond.code y_Md_sendNow b_Md_sendNow 5 (some .int) ∈ TT := tt_25 _ (List.mem_of_getElem? (i := 10) rfl)
theorem t_411 : Cond.methodLink R_Md 90 y_Md_receives ∈ TT := tt_25 _ (List.mem_of_getElem? (i := 11) rfl)
theorem t_412 : Cond.instanceMethod y_Md_receives ∈ TT := tt_25 _ (List.mem_of_getElem? (i := 12) rfl)
theorem t_413 : Cond.code y_Md_receives b_Md_receives 5 none ∈ TT := tt_25 _ (List.mem_of_getElem? (i := 13) rfl)
theorem t_414 : Cond.methodLink R_Md 94 y_Md_push ∈ TT := tt_25 _ (List.mem_of_getElem? (i := 14) rfl)
theorem t_415 : Cond.instanceMethod y_Md_push ∈ TT := tt_25 _ (List.mem_of_getElem? (i := 15) rfl)
theorem t_416 : Cond.code y_Md_push b_Md_push 3 none ∈ TT := tt_26 _ (List.mem_of_getElem? (i := 0) rfl)
theorem t_417 : Cond.methodLink R_Md 118 y_Md_waits ∈ TT := tt_26 _ (List.mem_of_getElem? (i := 1) rfl)
theorem t_418 : Cond.instanceMethod y_Md_waits ∈ TT := tt_26 _ (List.mem_of_getElem? (i := 2) rfl)
theorem t_419 : Cond.code y_Md_waits b_Md_waits 3 none ∈ TT := tt_26 _ (List.mem_of_getElem? (i := 3) rfl)
theorem t_420 : Cond.methodLink R_Lw 27 y_Md_receive ∈ TT := tt_26 _ (List.mem_of_getElem? (i := 4) rfl)
theorem t_421 : Cond.instanceMethod y_Md_receive ∈ TT := tt_26 _ (List.mem_of_getElem? (i := 5) rfl)
theorem t_422 : Cond.selects R_Md y_Md_receive y_Md_receive ∈ TT := tt_26 _ (List.mem_of_getElem? (i := 6) rfl)
theorem t_423 : Cond.code y_Md_receive b_Md_receive 3 (some .int) ∈ TT := tt_26 _ (List.mem_of_getElem? (i := 7) rfl)
theorem t_424 : Cond.methodLink R_Md 121 y_Md_receiveNow ∈ TT := tt_26 _ (List.mem_of_getElem? (i := 8) rfl)
theorem t_425 : Cond.instanceMethod y_Md_receiveNow ∈ TT := tt_26 _ (List.mem_of_getElem? (i := 9) rfl)
theorem t_426 : Cond.code y_Md_receiveNow b_Md_receiveNow 4 none ∈ TT := tt_26 _ (List.mem_of_getElem? (i := 10) rfl)
theorem t_427 : Cond.methodLink R_Md 97 y_Md_take ∈ TT := tt_26 _ (List.mem_of_getElem? (i := 11) rfl)
theorem t_428 : Cond.instanceMethod y_Md_take ∈ TT := tt_26 _ (List.mem_of_getElem? (i := 12) rfl)
theorem t_429 : Cond.code y_Md_take b_Md_take 4 (some .int) ∈ TT := tt_26 _ (List.mem_of_getElem? (i := 13) rfl)
theorem t_430 : Cond.methodLink R_Md 101 y_Md_sends ∈ TT := tt_26 _ (List.mem_of_getElem? (i := 14) rfl)
theorem t_431 : Cond.instanceMethod y_Md_sends ∈ TT := tt_26 _ (List.mem_of_getElem? (i := 15) rfl)
theorem t_432 : Cond.code y_Md_sends b_Md_sends 5 (some .int) ∈ TT := tt_27 _ (List.mem_of_getElem? (i := 0) rfl)
theorem t_433 : Cond.methodLink R_Lw 32 y_Md_add ∈ TT := tt_27 _ (List.mem_of_getElem? (i := 1) rfl)
theorem t_434 : Cond.instanceMethod y_Md_add ∈ TT := tt_27 _ (List.mem_of_getElem? (i := 2) rfl)
theorem t_435 : Cond.selects R_Md y_Md_add y_Md_add ∈ TT := tt_27 _ (List.mem_of_getElem? (i := 3) rfl)
theorem t_436 : Cond.code y_Md_add b_Md_add 6 (some .int) ∈ TT := tt_27 _ (List.mem_of_getElem? (i := 4) rfl)
theorem t_437 : Cond.methodLink R_Lw 37 y_Md_choose ∈ TT := tt_27 _ (List.mem_of_getElem? (i := 5) rfl)
theorem t_438 : Cond.instanceMethod y_Md_choose ∈ TT := tt_27 _ (List.mem_of_getElem? (i := 6) rfl)
theorem t_439 : Cond.selects R_Md y_Md_choose y_Md_choose ∈ TT := tt_27 _ (List.mem_of_getElem? (i := 7) rfl)
theorem t_440 : Cond.code y_Md_choose b_Md_choose 11 (some .int) ∈ TT := tt_27 _ (List.mem_of_getElem? (i := 8) rfl)
theorem t_441 : Cond.methodLink R_Lw 41 y_Md_close ∈ TT := tt_27 _ (List.mem_of_getElem? (i := 9) rfl)
theorem t_442 : Cond.instanceMethod y_Md_close ∈ TT := tt_27 _ (List.mem_of_getElem? (i := 10) rfl)
theorem t_443 : Cond.selects R_Md y_Md_close y_Md_close ∈ TT := tt_27 _ (List.mem_of_getElem? (i := 11) rfl)
theorem t_444 : Cond.code y_Md_close b_Md_close 6 (some .int) ∈ TT := tt_27 _ (List.mem_of_getElem? (i := 12) rfl)
theorem t_445 : Cond.methodLink R_Lw 45 y_Md_state ∈ TT := tt_27 _ (List.mem_of_getElem? (i := 13) rfl)
theorem t_446 : Cond.instanceMethod y_Md_state ∈ TT := tt_27 _ (List.mem_of_getElem? (i := 14) rfl)
theorem t_447 : Cond.selects R_Md y_Md_state y_Md_state ∈ TT := tt_27 _ (List.mem_of_getElem? (i := 15) rfl)
theorem t_448 : Cond.code y_Md_state b_Md_state 2 (some .int) ∈ TT := tt_28 _ (List.mem_of_getElem? (i := 0) rfl)
theorem t_449 : Cond.methodLink R_Lw 49 y_Md_got ∈ TT := tt_28 _ (List.mem_of_getElem? (i := 1) rfl)
theorem t_450 : Cond.instanceMethod y_Md_got ∈ TT := tt_28 _ (List.mem_of_getElem? (i := 2) rfl)
theorem t_451 : Cond.selects R_Md y_Md_got y_Md_got ∈ TT := tt_28 _ (List.mem_of_getElem? (i := 3) rfl)
theorem t_452 : Cond.code y_Md_got b_Md_got 2 (some .int) ∈ TT := tt_28 _ (List.mem_of_getElem? (i := 4) rfl)
theorem t_453 : Cond.methodLink R_Lw 53 y_Md_last ∈ TT := tt_28 _ (List.mem_of_getElem? (i := 5) rfl)
theorem t_454 : Cond.instanceMethod y_Md_last ∈ TT := tt_28 _ (List.mem_of_getElem? (i := 6) rfl)
theorem t_455 : Cond.selects R_Md y_Md_last y_Md_last ∈ TT := tt_28 _ (List.mem_of_getElem? (i := 7) rfl)
theorem t_456 : Cond.code y_Md_last b_Md_last 2 (some .int) ∈ TT := tt_28 _ (List.mem_of_getElem? (i := 8) rfl)
theorem t_457 : Cond.methodLink R_Lw 57 y_Md_waiting ∈ TT := tt_28 _ (List.mem_of_getElem? (i := 9) rfl)
theorem t_458 : Cond.instanceMethod y_Md_waiting ∈ TT := tt_28 _ (List.mem_of_getElem? (i := 10) rfl)
theorem t_459 : Cond.selects R_Md y_Md_waiting y_Md_waiting ∈ TT := tt_28 _ (List.mem_of_getElem? (i := 11) rfl)
theorem t_460 : Cond.code y_Md_waiting b_Md_waiting 4 (some .int) ∈ TT := tt_28 _ (List.mem_of_getElem? (i := 12) rfl)
theorem t_461 : Cond.methodLink R_Lw 61 y_Md_channel ∈ TT := tt_28 _ (List.mem_of_getElem? (i := 13) rfl)
theorem t_462 : Cond.instanceMethod y_Md_channel ∈ TT := tt_28 _ (List.mem_of_getElem? (i := 14) rfl)
theorem t_463 : Cond.selects R_Md y_Md_channel y_Md_channel ∈ TT := tt_28 _ (List.mem_of_getElem? (i := 15) rfl)
theorem t_464 : Cond.code y_Md_channel b_Md_channel 3 (some .int) ∈ TT := tt_29 _ (List.mem_of_getElem? (i := 0) rfl)
theorem t_465 : Cond.methodLink R_Lw 65 y_Md_count ∈ TT := tt_29 _ (List.mem_of_getElem? (i := 1) rfl)
theorem t_466 : Cond.instanceMethod y_Md_count ∈ TT := tt_29 _ (List.mem_of_getElem? (i := 2) rfl)
theorem t_467 : Cond.selects R_Md y_Md_count y_Md_count ∈ TT := tt_29 _ (List.mem_of_getElem? (i := 3) rfl)
theorem t_468 : Cond.code y_Md_count b_Md_count 4 (some .int) ∈ TT := tt_29 _ (List.mem_of_getElem? (i := 4) rfl)
theorem t_469 : Cond.methodLink R_Lw 70 y_Md_clear ∈ TT := tt_29 _ (List.mem_of_getElem? (i := 5) rfl)
theorem t_470 : Cond.instanceMethod y_Md_clear ∈ TT := tt_29 _ (List.mem_of_getElem? (i := 6) rfl)
theorem t_471 : Cond.selects R_Md y_Md_clear y_Md_clear ∈ TT := tt_29 _ (List.mem_of_getElem? (i := 7) rfl)
theorem t_472 : Cond.code y_Md_clear b_Md_clear 3 (some .int) ∈ TT := tt_29 _ (List.mem_of_getElem? (i := 8) rfl)
theorem tg_0 : TT_0.all goodWord = true := by decide +kernel
theorem tg_1 : TT_1.all goodWord = true := by decide +kernel
theorem tg_2 : TT_2.all goodWord = true := by decide +kernel
theorem tg_3 : TT_3.all goodWord = true := by decide +kernel
theorem tg_4 : TT_4.all goodWord = true := by decide +kernel
theorem tg_5 : TT_5.all goodWord = true := by decide +kernel
theorem tg_6 : TT_6.all goodWord = true := by decide +kernel
theorem tg_7 : TT_7.all goodWord = true := by decide +kernel
theorem tg_8 : TT_8.all goodWord = true := by decide +kernel
theorem tg_9 : TT_9.all goodWord = true := by decide +kernel
theorem tg_10 : TT_10.all goodWord = true := by decide +kernel
theorem tg_11 : TT_11.all goodWord = true := by decide +kernel
theorem tg_12 : TT_12.all goodWord = true := by decide +kernel
theorem tg_13 : TT_13.all goodWord = true := by decide +kernel
theorem tg_14 : TT_14.all goodWord = true := by decide +kernel
theorem tg_15 : TT_15.all goodWord = true := by decide +kernel
theorem tg_16 : TT_16.all goodWord = true := by decide +kernel
theorem tg_17 : TT_17.all goodWord = true := by decide +kernel
theorem tg_18 : TT_18.all goodWord = true := by decide +kernel
theorem tg_19 : TT_19.all goodWord = true := by decide +kernel
theorem tg_20 : TT_20.all goodWord = true := by decide +kernel
theorem tg_21 : TT_21.all goodWord = true := by decide +kernel
theorem tg_22 : TT_22.all goodWord = true := by decide +kernel
theorem tg_23 : TT_23.all goodWord = true := by decide +kernel
theorem tg_24 : TT_24.all goodWord = true := by decide +kernel
theorem tg_25 : TT_25.all goodWord = true := by decide +kernel
theorem tg_26 : TT_26.all goodWord = true := by decide +kernel
theorem tg_27 : TT_27.all goodWord = true := by decide +kernel
theorem tg_28 : TT_28.all goodWord = true := by decide +kernel
theorem tg_29 : TT_29.all goodWord = true := by decide +kernel
theorem tt_all {P : Cond → Prop} (h0 : ∀ w ∈ TT_0, P w) (h1 : ∀ w ∈ TT_1, P w) (h2 : ∀ w ∈ TT_2, P w) (h3 : ∀ w ∈ TT_3, P w) (h4 : ∀ w ∈ TT_4, P w) (h5 : ∀ w ∈ TT_5, P w) (h6 : ∀ w ∈ TT_6, P w) (h7 : ∀ w ∈ TT_7, P w) (h8 : ∀ w ∈ TT_8, P w) (h9 : ∀ w ∈ TT_9, P w) (h10 : ∀ w ∈ TT_10, P w) (h11 : ∀ w ∈ TT_11, P w) (h12 : ∀ w ∈ TT_12, P w) (h13 : ∀ w ∈ TT_13, P w) (h14 : ∀ w ∈ TT_14, P w) (h15 : ∀ w ∈ TT_15, P w) (h16 : ∀ w ∈ TT_16, P w) (h17 : ∀ w ∈ TT_17, P w) (h18 : ∀ w ∈ TT_18, P w) (h19 : ∀ w ∈ TT_19, P w) (h20 : ∀ w ∈ TT_20, P w) (h21 : ∀ w ∈ TT_21, P w) (h22 : ∀ w ∈ TT_22, P w) (h23 : ∀ w ∈ TT_23, P w) (h24 : ∀ w ∈ TT_24, P w) (h25 : ∀ w ∈ TT_25, P w) (h26 : ∀ w ∈ TT_26, P w) (h27 : ∀ w ∈ TT_27, P w) (h28 : ∀ w ∈ TT_28, P w) (h29 : ∀ w ∈ TT_29, P w) : ∀ w ∈ TT, P w := by
  intro w h
  rcases List.mem_append.mp h with h | h
  · exact h0 w h
  rcases List.mem_append.mp h with h | h
  · exact h1 w h
  rcases List.mem_append.mp h with h | h
  · exact h2 w h
  rcases List.mem_append.mp h with h | h
  · exact h3 w h
  rcases List.mem_append.mp h with h | h
  · exact h4 w h
  rcases List.mem_append.mp h with h | h
  · exact h5 w h
  rcases List.mem_append.mp h with h | h
  · exact h6 w h
  rcases List.mem_append.mp h with h | h
  · exact h7 w h
  rcases List.mem_append.mp h with h | h
  · exact h8 w h
  rcases List.mem_append.mp h with h | h
  · exact h9 w h
  rcases List.mem_append.mp h with h | h
  · exact h10 w h
  rcases List.mem_append.mp h with h | h
  · exact h11 w h
  rcases List.mem_append.mp h with h | h
  · exact h12 w h
  rcases List.mem_append.mp h with h | h
  · exact h13 w h
  rcases List.mem_append.mp h with h | h
  · exact h14 w h
  rcases List.mem_append.mp h with h | h
  · exact h15 w h
  rcases List.mem_append.mp h with h | h
  · exact h16 w h
  rcases List.mem_append.mp h with h | h
  · exact h17 w h
  rcases List.mem_append.mp h with h | h
  · exact h18 w h
  rcases List.mem_append.mp h with h | h
  · exact h19 w h
  rcases List.mem_append.mp h with h | h
  · exact h20 w h
  rcases List.mem_append.mp h with h | h
  · exact h21 w h
  rcases List.mem_append.mp h with h | h
  · exact h22 w h
  rcases List.mem_append.mp h with h | h
  · exact h23 w h
  rcases List.mem_append.mp h with h | h
  · exact h24 w h
  rcases List.mem_append.mp h with h | h
  · exact h25 w h
  rcases List.mem_append.mp h with h | h
  · exact h26 w h
  rcases List.mem_append.mp h with h | h
  · exact h27 w h
  rcases List.mem_append.mp h with h | h
  · exact h28 w h
  exact h29 w h
theorem TT_good : ∀ w ∈ TT, (w.onTables && w.keeps) = true ∨ ∃ ty, w = .arrayClass ty := tt_all (fun w h => good_of_word (List.all_eq_true.mp tg_0 w h)) (fun w h => good_of_word (List.all_eq_true.mp tg_1 w h)) (fun w h => good_of_word (List.all_eq_true.mp tg_2 w h)) (fun w h => good_of_word (List.all_eq_true.mp tg_3 w h)) (fun w h => good_of_word (List.all_eq_true.mp tg_4 w h)) (fun w h => good_of_word (List.all_eq_true.mp tg_5 w h)) (fun w h => good_of_word (List.all_eq_true.mp tg_6 w h)) (fun w h => good_of_word (List.all_eq_true.mp tg_7 w h)) (fun w h => good_of_word (List.all_eq_true.mp tg_8 w h)) (fun w h => good_of_word (List.all_eq_true.mp tg_9 w h)) (fun w h => good_of_word (List.all_eq_true.mp tg_10 w h)) (fun w h => good_of_word (List.all_eq_true.mp tg_11 w h)) (fun w h => good_of_word (List.all_eq_true.mp tg_12 w h)) (fun w h => good_of_word (List.all_eq_true.mp tg_13 w h)) (fun w h => good_of_word (List.all_eq_true.mp tg_14 w h)) (fun w h => good_of_word (List.all_eq_true.mp tg_15 w h)) (fun w h => good_of_word (List.all_eq_true.mp tg_16 w h)) (fun w h => good_of_word (List.all_eq_true.mp tg_17 w h)) (fun w h => good_of_word (List.all_eq_true.mp tg_18 w h)) (fun w h => good_of_word (List.all_eq_true.mp tg_19 w h)) (fun w h => good_of_word (List.all_eq_true.mp tg_20 w h)) (fun w h => good_of_word (List.all_eq_true.mp tg_21 w h)) (fun w h => good_of_word (List.all_eq_true.mp tg_22 w h)) (fun w h => good_of_word (List.all_eq_true.mp tg_23 w h)) (fun w h => good_of_word (List.all_eq_true.mp tg_24 w h)) (fun w h => good_of_word (List.all_eq_true.mp tg_25 w h)) (fun w h => good_of_word (List.all_eq_true.mp tg_26 w h)) (fun w h => good_of_word (List.all_eq_true.mp tg_27 w h)) (fun w h => good_of_word (List.all_eq_true.mp tg_28 w h)) (fun w h => good_of_word (List.all_eq_true.mp tg_29 w h))
theorem tl_0 : ∀ w ∈ TT_0, w ∈ lw_tbl := List.forall_mem_cons.mpr ⟨List.mem_append_left _ (List.mem_of_getElem? (i := 0) (by decide +kernel)), List.forall_mem_cons.mpr ⟨List.mem_append_left _ (List.mem_of_getElem? (i := 1) (by decide +kernel)), List.forall_mem_cons.mpr ⟨List.mem_append_left _ (List.mem_of_getElem? (i := 2) (by decide +kernel)), List.forall_mem_cons.mpr ⟨List.mem_append_left _ (List.mem_of_getElem? (i := 3) (by decide +kernel)), List.forall_mem_cons.mpr ⟨List.mem_append_left _ (List.mem_of_getElem? (i := 4) (by decide +kernel)), List.forall_mem_cons.mpr ⟨List.mem_append_left _ (List.mem_of_getElem? (i := 5) (by decide +kernel)), List.forall_mem_cons.mpr ⟨List.mem_append_left _ (List.mem_of_getElem? (i := 6) (by decide +kernel)), List.forall_mem_cons.mpr ⟨List.mem_append_left _ (List.mem_of_getElem? (i := 7) (by decide +kernel)), List.forall_mem_cons.mpr ⟨List.mem_append_left _ (List.mem_of_getElem? (i := 8) (by decide +kernel)), List.forall_mem_cons.mpr ⟨List.mem_append_left _ (List.mem_of_getElem? (i := 9) (by decide +kernel)), List.forall_mem_cons.mpr ⟨List.mem_append_left _ (List.mem_of_getElem? (i := 10) (by decide +kernel)), List.forall_mem_cons.mpr ⟨List.mem_append_left _ (List.mem_of_getElem? (i := 11) (by decide +kernel)), List.forall_mem_cons.mpr ⟨List.mem_append_left _ (List.mem_of_getElem? (i := 12) (by decide +kernel)), List.forall_mem_cons.mpr ⟨List.mem_append_left _ (List.mem_of_getElem? (i := 13) (by decide +kernel)), List.forall_mem_cons.mpr ⟨List.mem_append_left _ (List.mem_of_getElem? (i := 14) (by decide +kernel)), List.forall_mem_cons.mpr ⟨List.mem_append_left _ (List.mem_of_getElem? (i := 15) (by decide +kernel)), fun _ h => absurd h List.not_mem_nil⟩⟩⟩⟩⟩⟩⟩⟩⟩⟩⟩⟩⟩⟩⟩⟩
theorem tl_1 : ∀ w ∈ TT_1, w ∈ lw_tbl := List.forall_mem_cons.mpr ⟨List.mem_append_left _ (List.mem_of_getElem? (i := 16) (by decide +kernel)), List.forall_mem_cons.mpr ⟨List.mem_append_left _ (List.mem_of_getElem? (i := 17) (by decide +kernel)), List.forall_mem_cons.mpr ⟨List.mem_append_left _ (List.mem_of_getElem? (i := 18) (by decide +kernel)), List.forall_mem_cons.mpr ⟨List.mem_append_left _ (List.mem_of_getElem? (i := 19) (by decide +kernel)), List.forall_mem_cons.mpr ⟨List.mem_append_left _ (List.mem_of_getElem? (i := 20) (by decide +kernel)), List.forall_mem_cons.mpr ⟨List.mem_append_left _ (List.mem_of_getElem? (i := 21) (by decide +kernel)), List.forall_mem_cons.mpr ⟨List.mem_append_left _ (List.mem_of_getElem? (i := 22) (by decide +kernel)), List.forall_mem_cons.mpr ⟨List.mem_append_left _ (List.mem_of_getElem? (i := 23) (by decide +kernel)), List.forall_mem_cons.mpr ⟨List.mem_append_left _ (List.mem_of_getElem? (i := 24) (by decide +kernel)), List.forall_mem_cons.mpr ⟨List.mem_append_left _ (List.mem_of_getElem? (i := 25) (by decide +kernel)), List.forall_mem_cons.mpr ⟨List.mem_append_left _ (List.mem_of_getElem? (i := 26) (by decide +kernel)), List.forall_mem_cons.mpr ⟨List.mem_append_left _ (List.mem_of_getElem? (i := 27) (by decide +kernel)), List.forall_mem_cons.mpr ⟨List.mem_append_left _ (List.mem_of_getElem? (i := 28) (by decide +kernel)), List.forall_mem_cons.mpr ⟨List.mem_append_left _ (List.mem_of_getElem? (i := 29) (by decide +kernel)), List.forall_mem_cons.mpr ⟨List.mem_append_left _ (List.mem_of_getElem? (i := 30) (by decide +kernel)), List.forall_mem_cons.mpr ⟨List.mem_append_right _ (List.mem_of_getElem? (i := 0) (by decide +kernel)), fun _ h => absurd h List.not_mem_nil⟩⟩⟩⟩⟩⟩⟩⟩⟩⟩⟩⟩⟩⟩⟩⟩
theorem tl_2 : ∀ w ∈ TT_2, w ∈ lw_tbl := List.forall_mem_cons.mpr ⟨List.mem_append_right _ (List.mem_of_getElem? (i := 1) (by decide +kernel)), List.forall_mem_cons.mpr ⟨List.mem_append_right _ (List.mem_of_getElem? (i := 2) (by decide +kernel)), List.forall_mem_cons.mpr ⟨List.mem_append_right _ (List.mem_of_getElem? (i := 3) (by decide +kernel)), List.forall_mem_cons.mpr ⟨List.mem_append_right _ (List.mem_of_getElem? (i := 4) (by decide +kernel)), List.forall_mem_cons.mpr ⟨List.mem_append_right _ (List.mem_of_getElem? (i := 5) (by decide +kernel)), List.forall_mem_cons.mpr ⟨List.mem_append_right _ (List.mem_of_getElem? (i := 6) (by decide +kernel)), List.forall_mem_cons.mpr ⟨List.mem_append_right _ (List.mem_of_getElem? (i := 7) (by decide +kernel)), List.forall_mem_cons.mpr ⟨List.mem_append_right _ (List.mem_of_getElem? (i := 8) (by decide +kernel)), List.forall_mem_cons.mpr ⟨List.mem_append_right _ (List.mem_of_getElem? (i := 9) (by decide +kernel)), List.forall_mem_cons.mpr ⟨List.mem_append_right _ (List.mem_of_getElem? (i := 10) (by decide +kernel)), List.forall_mem_cons.mpr ⟨List.mem_append_right _ (List.mem_of_getElem? (i := 11) (by decide +kernel)), List.forall_mem_cons.mpr ⟨List.mem_append_right _ (List.mem_of_getElem? (i := 12) (by decide +kernel)), List.forall_mem_cons.mpr ⟨List.mem_append_right _ (List.mem_of_getElem? (i := 13) (by decide +kernel)), List.forall_mem_cons.mpr ⟨List.mem_append_right _ (List.mem_of_getElem? (i := 14) (by decide +kernel)), List.forall_mem_cons.mpr ⟨List.mem_append_right _ (List.mem_of_getElem? (i := 15) (by decide +kernel)), List.forall_mem_cons.mpr ⟨List.mem_append_right _ (List.mem_of_getElem? (i := 16) (by decide +kernel)), fun _ h => absurd h List.not_mem_nil⟩⟩⟩⟩⟩⟩⟩⟩⟩⟩⟩⟩⟩⟩⟩⟩
theorem tl_3 : ∀ w ∈ TT_3, w ∈ lw_tbl := List.forall_mem_cons.mpr ⟨List.mem_append_right _ (List.mem_of_getElem? (i := 17) (by decide +kernel)), List.forall_mem_cons.mpr ⟨List.mem_append_right _ (List.mem_of_getElem? (i := 19) (by decide +kernel)), List.forall_mem_cons.mpr ⟨List.mem_append_right _ (List.mem_of_getElem? (i := 20) (by decide +kernel)), List.forall_mem_cons.mpr ⟨List.mem_append_right _ (List.mem_of_getElem? (i := 21) (by decide +kernel)), List.forall_mem_cons.mpr ⟨List.mem_append_right _ (List.mem_of_getElem? (i := 22) (by decide +kernel)), List.forall_mem_cons.mpr ⟨List.mem_append_right _ (List.mem_of_getElem? (i := 23) (by decide +kernel)), List.forall_mem_cons.mpr ⟨List.mem_append_right _ (List.mem_of_getElem? (i := 24) (by decide +kernel)), List.forall_mem_cons.mpr ⟨List.mem_append_right _ (List.mem_of_getElem? (i := 25) (by decide +kernel)), List.forall_mem_cons.mpr ⟨List.mem_append_right _ (List.mem_of_getElem? (i := 26) (by decide +kernel)), List.forall_mem_cons.mpr ⟨List.mem_append_right _ (List.mem_of_getElem? (i := 27) (by decide +kernel)), List.forall_mem_cons.mpr ⟨List.mem_append_right _ (List.mem_of_getElem? (i := 29) (by decide +kernel)), List.forall_mem_cons.mpr ⟨List.mem_append_right _ (List.mem_of_getElem? (i := 31) (by decide +kernel)), List.forall_mem_cons.mpr ⟨List.mem_append_right _ (List.mem_of_getElem? (i := 33) (by decide +kernel)), List.forall_mem_cons.mpr ⟨List.mem_append_right _ (List.mem_of_getElem? (i := 35) (by decide +kernel)), List.forall_mem_cons.mpr ⟨List.mem_append_right _ (List.mem_of_getElem? (i := 38) (by decide +kernel)), List.forall_mem_cons.mpr ⟨List.mem_append_right _ (List.mem_of_getElem? (i := 39) (by decide +kernel)), fun _ h => absurd h List.not_mem_nil⟩⟩⟩⟩⟩⟩⟩⟩⟩⟩⟩⟩⟩⟩⟩⟩
theorem tl_4 : ∀ w ∈ TT_4, w ∈ lw_tbl := List.forall_mem_cons.mpr ⟨List.mem_append_right _ (List.mem_of_getElem? (i := 40) (by decide +kernel)), List.forall_mem_cons.mpr ⟨List.mem_append_right _ (List.mem_of_getElem? (i := 41) (by decide +kernel)), List.forall_mem_cons.mpr ⟨List.mem_append_right _ (List.mem_of_getElem? (i := 43) (by decide +kernel)), List.forall_mem_cons.mpr ⟨List.mem_append_right _ (List.mem_of_getElem? (i := 44) (by decide +kernel)), List.forall_mem_cons.mpr ⟨List.mem_append_right _ (List.mem_of_getElem? (i := 45) (by decide +kernel)), List.forall_mem_cons.mpr ⟨List.mem_append_right _ (List.mem_of_getElem? (i := 46) (by decide +kernel)), List.forall_mem_cons.mpr ⟨List.mem_append_right _ (List.mem_of_getElem? (i := 47) (by decide +kernel)), List.forall_mem_cons.mpr ⟨List.mem_append_right _ (List.mem_of_getElem? (i := 48) (by decide +kernel)), List.forall_mem_cons.mpr ⟨List.mem_append_right _ (List.mem_of_getElem? (i := 49) (by decide +kernel)), List.forall_mem_cons.mpr ⟨List.mem_append_right _ (List.mem_of_getElem? (i := 50) (by decide +kernel)), List.forall_mem_cons.mpr ⟨List.mem_append_right _ (List.mem_of_getElem? (i := 52) (by decide +kernel)), List.forall_mem_cons.mpr ⟨List.mem_append_right _ (List.mem_of_getElem? (i := 54) (by decide +kernel)), List.forall_mem_cons.mpr ⟨List.mem_append_right _ (List.mem_of_getElem? (i := 56) (by decide +kernel)), List.forall_mem_cons.mpr ⟨List.mem_append_right _ (List.mem_of_getElem? (i := 59) (by decide +kernel)), List.forall_mem_cons.mpr ⟨List.mem_append_right _ (List.mem_of_getElem? (i := 60) (by decide +kernel)), List.forall_mem_cons.mpr ⟨List.mem_append_right _ (List.mem_of_getElem? (i := 62) (by decide +kernel)), fun _ h => absurd h List.not_mem_nil⟩⟩⟩⟩⟩⟩⟩⟩⟩⟩⟩⟩⟩⟩⟩⟩
theorem tl_5 : ∀ w ∈ TT_5, w ∈ lw_tbl := List.forall_mem_cons.mpr ⟨List.mem_append_right _ (List.mem_of_getElem? (i := 63) (by decide +kernel)), List.forall_mem_cons.mpr ⟨List.mem_append_right _ (List.mem_of_getElem? (i := 64) (by decide +kernel)), List.forall_mem_cons.mpr ⟨List.mem_append_right _ (List.mem_of_getElem? (i := 65) (by decide +kernel)), List.forall_mem_cons.mpr ⟨List.mem_append_right _ (List.mem_of_getElem? (i := 66) (by decide +kernel)), List.forall_mem_cons.mpr ⟨List.mem_append_right _ (List.mem_of_getElem? (i := 67) (by decide +kernel)), List.forall_mem_cons.mpr ⟨List.mem_append_right _ (List.mem_of_getElem? (i := 69) (by decide +kernel)), List.forall_mem_cons.mpr ⟨List.mem_append_right _ (List.mem_of_getElem? (i := 72) (by decide +kernel)), List.forall_mem_cons.mpr ⟨List.mem_append_right _ (List.mem_of_getElem? (i := 74) (by decide +kernel)), List.forall_mem_cons.mpr ⟨List.mem_append_right _ (List.mem_of_getElem? (i := 75) (by decide +kernel)), List.forall_mem_cons.mpr ⟨List.mem_append_right _ (List.mem_of_getElem? (i := 76) (by decide +kernel)), List.forall_mem_cons.mpr ⟨List.mem_append_right _ (List.mem_of_getElem? (i := 77) (by decide +kernel)), List.forall_mem_cons.mpr ⟨List.mem_append_right _ (List.mem_of_getElem? (i := 78) (by decide +kernel)), List.forall_mem_cons.mpr ⟨List.mem_append_right _ (List.mem_of_getElem? (i := 79) (by decide +kernel)), List.forall_mem_cons.mpr ⟨List.mem_append_right _ (List.mem_of_getElem? (i := 80) (by decide +kernel)), List.forall_mem_cons.mpr ⟨List.mem_append_right _ (List.mem_of_getElem? (i := 81) (by decide +kernel)), List.forall_mem_cons.mpr ⟨List.mem_append_right _ (List.mem_of_getElem? (i := 82) (by decide +kernel)), fun _ h => absurd h List.not_mem_nil⟩⟩⟩⟩⟩⟩⟩⟩⟩⟩⟩⟩⟩⟩⟩⟩
theorem tl_6 : ∀ w ∈ TT_6, w ∈ lw_tbl := List.forall_mem_cons.mpr ⟨List.mem_append_right _ (List.mem_of_getElem? (i := 83) (by decide +kernel)), List.forall_mem_cons.mpr ⟨List.mem_append_right _ (List.mem_of_getElem? (i := 84) (by decide +kernel)), List.forall_mem_cons.mpr ⟨List.mem_append_right _ (List.mem_of_getElem? (i := 85) (by decide +kernel)), List.forall_mem_cons.mpr ⟨List.mem_append_right _ (List.mem_of_getElem? (i := 86) (by decide +kernel)), List.forall_mem_cons.mpr ⟨List.mem_append_right _ (List.mem_of_getElem? (i := 87) (by decide +kernel)), List.forall_mem_cons.mpr ⟨List.mem_append_right _ (List.mem_of_getElem? (i := 88) (by decide +kernel)), List.forall_mem_cons.mpr ⟨List.mem_append_right _ (List.mem_of_getElem? (i := 89) (by decide +kernel)), List.forall_mem_cons.mpr ⟨List.mem_append_right _ (List.mem_of_getElem? (i := 90) (by decide +kernel)), List.forall_mem_cons.mpr ⟨List.mem_append_right _ (List.mem_of_getElem? (i := 91) (by decide +kernel)), List.forall_mem_cons.mpr ⟨List.mem_append_right _ (List.mem_of_getElem? (i := 92) (by decide +kernel)), List.forall_mem_cons.mpr ⟨List.mem_append_right _ (List.mem_of_getElem? (i := 93) (by decide +kernel)), List.forall_mem_cons.mpr ⟨List.mem_append_right _ (List.mem_of_getElem? (i := 94) (by decide +kernel)), List.forall_mem_cons.mpr ⟨List.mem_append_right _ (List.mem_of_getElem? (i := 95) (by decide +kernel)), List.forall_mem_cons.mpr ⟨List.mem_append_right _ (List.mem_of_getElem? (i := 96) (by decide +kernel)), List.forall_mem_cons.mpr ⟨List.mem_append_right _ (List.mem_of_getElem? (i := 97) (by decide +kernel)), List.forall_mem_cons.mpr ⟨List.mem_append_right _ (List.mem_of_getElem? (i := 98) (by decide +kernel)), fun _ h => absurd h List.not_mem_nil⟩⟩⟩⟩⟩⟩⟩⟩⟩⟩⟩⟩⟩⟩⟩⟩
theorem tl_7 : ∀ w ∈ TT_7, w ∈ lw_tbl := List.forall_mem_cons.mpr ⟨List.mem_append_right _ (List.mem_of_getElem? (i := 99) (by decide +kernel)), List.forall_mem_cons.mpr ⟨List.mem_append_right _ (List.mem_of_getElem? (i := 100) (by decide +kernel)), List.forall_mem_cons.mpr ⟨List.mem_append_right _ (List.mem_of_getElem? (i := 101) (by decide +kernel)), List.forall_mem_cons.mpr ⟨List.mem_append_right _ (List.mem_of_getElem? (i := 103) (by decide +kernel)), List.forall_mem_cons.mpr ⟨List.mem_append_right _ (List.mem_of_getElem? (i := 105) (by decide +kernel)), List.forall_mem_cons.mpr ⟨List.mem_append_right _ (List.mem_of_getElem? (i := 107) (by decide +kernel)), List.forall_mem_cons.mpr ⟨List.mem_append_right _ (List.mem_of_getElem? (i := 109) (by decide +kernel)), List.forall_mem_cons.mpr ⟨List.mem_append_right _ (List.mem_of_getElem? (i := 111) (by decide +kernel)), List.forall_mem_cons.mpr ⟨List.mem_append_right _ (List.mem_of_getElem? (i := 113) (by decide +kernel)), List.forall_mem_cons.mpr ⟨List.mem_append_right _ (List.mem_of_getElem? (i := 115) (by decide +kernel)), List.forall_mem_cons.mpr ⟨List.mem_append_right _ (List.mem_of_getElem? (i := 117) (by decide +kernel)), List.forall_mem_cons.mpr ⟨List.mem_append_right _ (List.mem_of_getElem? (i := 120) (by decide +kernel)), List.forall_mem_cons.mpr ⟨List.mem_append_right _ (List.mem_of_getElem? (i := 121) (by decide +kernel)), List.forall_mem_cons.mpr ⟨List.mem_append_right _ (List.mem_of_getElem? (i := 122) (by decide +kernel)), List.forall_mem_cons.mpr ⟨List.mem_append_right _ (List.mem_of_getElem? (i := 123) (by decide +kernel)), List.forall_mem_cons.mpr ⟨List.mem_append_right _ (List.mem_of_getElem? (i := 124) (by decide +kernel)), fun _ h => absurd h List.not_mem_nil⟩⟩⟩⟩⟩⟩⟩⟩⟩⟩⟩⟩⟩⟩⟩⟩
theorem tl_8 : ∀ w ∈ TT_8, w ∈ lw_tbl := List.forall_mem_cons.mpr ⟨List.mem_append_right _ (List.mem_of_getElem? (i := 125) (by decide +kernel)), List.forall_mem_cons.mpr ⟨List.mem_append_right _ (List.mem_of_getElem? (i := 126) (by decide +kernel)), List.forall_mem_cons.mpr ⟨List.mem_append_right _ (List.mem_of_getElem? (i := 127) (by decide +kernel)), List.forall_mem_cons.mpr ⟨List.mem_append_right _ (List.mem_of_getElem? (i := 128) (by decide +kernel)), List.forall_mem_cons.mpr ⟨List.mem_append_right _ (List.mem_of_getElem? (i := 129) (by decide +kernel)), List.forall_mem_cons.mpr ⟨List.mem_append_right _ (List.mem_of_getElem? (i := 130) (by decide +kernel)), List.forall_mem_cons.mpr ⟨List.mem_append_right _ (List.mem_of_getElem? (i := 131) (by decide +kernel)), List.forall_mem_cons.mpr ⟨List.mem_append_right _ (List.mem_of_getElem? (i := 132) (by decide +kernel)), List.forall_mem_cons.mpr ⟨List.mem_append_right _ (List.mem_of_getElem? (i := 134) (by decide +kernel)), List.forall_mem_cons.mpr ⟨List.mem_append_right _ (List.mem_of_getElem? (i := 135) (by decide +kernel)), List.forall_mem_cons.mpr ⟨List.mem_append_right _ (List.mem_of_getElem? (i := 136) (by decide +kernel)), List.forall_mem_cons.mpr ⟨List.mem_append_right _ (List.mem_of_getElem? (i := 137) (by decide +kernel)), List.forall_mem_cons.mpr ⟨List.mem_append_right _ (List.mem_of_getElem? (i := 138) (by decide +kernel)), List.forall_mem_cons.mpr ⟨List.mem_append_right _ (List.mem_of_getElem? (i := 139) (by decide +kernel)), List.forall_mem_cons.mpr ⟨List.mem_append_right _ (List.mem_of_getElem? (i := 140) (by decide +kernel)), List.forall_mem_cons.mpr ⟨List.mem_append_right _ (List.mem_of_getElem? (i := 141) (by decide +kernel)), fun _ h => absurd h List.not_mem_nil⟩⟩⟩⟩⟩⟩⟩⟩⟩⟩⟩⟩⟩⟩⟩⟩
theorem tl_9 : ∀ w ∈ TT_9, w ∈ lw_tbl := List.forall_mem_cons.mpr ⟨List.mem_append_right _ (List.mem_of_getElem? (i := 142) (by decide +kernel)), List.forall_mem_cons.mpr ⟨List.mem_append_right _ (List.mem_of_getElem? (i := 143) (by decide +kernel)), List.forall_mem_cons.mpr ⟨List.mem_append_right _ (List.mem_of_getElem? (i := 145) (by decide +kernel)), List.forall_mem_cons.mpr ⟨List.mem_append_right _ (List.mem_of_getElem? (i := 146) (by decide +kernel)), List.forall_mem_cons.mpr ⟨List.mem_append_right _ (List.mem_of_getElem? (i := 147) (by decide +kernel)), List.forall_mem_cons.mpr ⟨List.mem_append_right _ (List.mem_of_getElem? (i := 148) (by decide +kernel)), List.forall_mem_cons.mpr ⟨List.mem_append_right _ (List.mem_of_getElem? (i := 149) (by decide +kernel)), List.forall_mem_cons.mpr ⟨List.mem_append_right _ (List.mem_of_getElem? (i := 150) (by decide +kernel)), List.forall_mem_cons.mpr ⟨List.mem_append_right _ (List.mem_of_getElem? (i := 151) (by decide +kernel)), List.forall_mem_cons.mpr ⟨List.mem_append_right _ (List.mem_of_getElem? (i := 153) (by decide +kernel)), List.forall_mem_cons.mpr ⟨List.mem_append_right _ (List.mem_of_getElem? (i := 154) (by decide +kernel)), List.forall_mem_cons.mpr ⟨List.mem_append_right _ (List.mem_of_getElem? (i := 155) (by decide +kernel)), List.forall_mem_cons.mpr ⟨List.mem_append_right _ (List.mem_of_getElem? (i := 156) (by decide +kernel)), List.forall_mem_cons.mpr ⟨List.mem_append_right _ (List.mem_of_getElem? (i := 157) (by decide +kernel)), List.forall_mem_cons.mpr ⟨List.mem_append_right _ (List.mem_of_getElem? (i := 158) (by decide +kernel)), List.forall_mem_cons.mpr ⟨List.mem_append_right _ (List.mem_of_getElem? (i := 159) (by decide +kernel)), fun _ h => absurd h List.not_mem_nil⟩⟩⟩⟩⟩⟩⟩⟩⟩⟩⟩⟩⟩⟩⟩⟩
theorem tl_10 : ∀ w ∈ TT_10, w ∈ lw_tbl := List.forall_mem_cons.mpr ⟨List.mem_append_right _ (List.mem_of_getElem? (i := 161) (by decide +kernel)), List.forall_mem_cons.mpr ⟨List.mem_append_right _ (List.mem_of_getElem? (i := 162) (by decide +kernel)), List.forall_mem_cons.mpr ⟨List.mem_append_right _ (List.mem_of_getElem? (i := 163) (by decide +kernel)), List.forall_mem_cons.mpr ⟨List.mem_append_right _ (List.mem_of_getElem? (i := 165) (by decide +kernel)), List.forall_mem_cons.mpr ⟨List.mem_append_right _ (List.mem_of_getElem? (i := 166) (by decide +kernel)), List.forall_mem_cons.mpr ⟨List.mem_append_right _ (List.mem_of_getElem? (i := 167) (by decide +kernel)), List.forall_mem_cons.mpr ⟨List.mem_append_right _ (List.mem_of_getElem? (i := 169) (by decide +kernel)), List.forall_mem_cons.mpr ⟨List.mem_append_right _ (List.mem_of_getElem? (i := 170) (by decide +kernel)), List.forall_mem_cons.mpr ⟨List.mem_append_right _ (List.mem_of_getElem? (i := 171) (by decide +kernel)), List.forall_mem_cons.mpr ⟨List.mem_append_right _ (List.mem_of_getElem? (i := 172) (by decide +kernel)), List.forall_mem_cons.mpr ⟨List.mem_append_right _ (List.mem_of_getElem? (i := 173) (by decide +kernel)), List.forall_mem_cons.mpr ⟨List.mem_append_right _ (List.mem_of_getElem? (i := 174) (by decide +kernel)), List.forall_mem_cons.mpr ⟨List.mem_append_right _ (List.mem_of_getElem? (i := 175) (by decide +kernel)), List.forall_mem_cons.mpr ⟨List.mem_append_right _ (List.mem_of_getElem? (i := 176) (by decide +kernel)), List.forall_mem_cons.mpr ⟨List.mem_append_right _ (List.mem_of_getElem? (i := 177) (by decide +kernel)), List.forall_mem_cons.mpr ⟨List.mem_append_right _ (List.mem_of_getElem? (i := 178) (by decide +kernel)), fun _ h => absurd h List.not_mem_nil⟩⟩⟩⟩⟩⟩⟩⟩⟩⟩⟩⟩⟩⟩⟩⟩
theorem tl_11 : ∀ w ∈ TT_11, w ∈ lw_tbl := List.forall_mem_cons.mpr ⟨List.mem_append_right _ (List.mem_of_getElem? (i := 179) (by decide +kernel)), List.forall_mem_cons.mpr ⟨List.mem_append_right _ (List.mem_of_getElem? (i := 180) (by decide +kernel)), List.forall_mem_cons.mpr ⟨List.mem_append_right _ (List.mem_of_getElem? (i := 181) (by decide +kernel)), List.forall_mem_cons.mpr ⟨List.mem_append_right _ (List.mem_of_getElem? (i := 182) (by decide +kernel)), List.forall_mem_cons.mpr ⟨List.mem_append_right _ (List.mem_of_getElem? (i := 183) (by decide +kernel)), List.forall_mem_cons.mpr ⟨List.mem_append_right _ (List.mem_of_getElem? (i := 184) (by decide +kernel)), List.forall_mem_cons.mpr ⟨List.mem_append_right _ (List.mem_of_getElem? (i := 185) (by decide +kernel)), List.forall_mem_cons.mpr ⟨List.mem_append_right _ (List.mem_of_getElem? (i := 186) (by decide +kernel)), List.forall_mem_cons.mpr ⟨List.mem_append_right _ (List.mem_of_getElem? (i := 188) (by decide +kernel)), List.forall_mem_cons.mpr ⟨List.mem_append_right _ (List.mem_of_getElem? (i := 189) (by decide +kernel)), List.forall_mem_cons.mpr ⟨List.mem_append_right _ (List.mem_of_getElem? (i := 190) (by decide +kernel)), List.forall_mem_cons.mpr ⟨List.mem_append_right _ (List.mem_of_getElem? (i := 191) (by decide +kernel)), List.forall_mem_cons.mpr ⟨List.mem_append_right _ (List.mem_of_getElem? (i := 192) (by decide +kernel)), List.forall_mem_cons.mpr ⟨List.mem_append_right _ (List.mem_of_getElem? (i := 193) (by decide +kernel)), List.forall_mem_cons.mpr ⟨List.mem_append_right _ (List.mem_of_getElem? (i := 194) (by decide +kernel)), List.forall_mem_cons.mpr ⟨List.mem_append_right _ (List.mem_of_getElem? (i := 195) (by decide +kernel)), fun _ h => absurd h List.not_mem_nil⟩⟩⟩⟩⟩⟩⟩⟩⟩⟩⟩⟩⟩⟩⟩⟩
theorem tl_12 : ∀ w ∈ TT_12, w ∈ lw_tbl := List.forall_mem_cons.mpr ⟨List.mem_append_right _ (List.mem_of_getElem? (i := 196) (by decide +kernel)), List.forall_mem_cons.mpr ⟨List.mem_append_right _ (List.mem_of_getElem? (i := 197) (by decide +kernel)), List.forall_mem_cons.mpr ⟨List.mem_append_right _ (List.mem_of_getElem? (i := 198) (by decide +kernel)), List.forall_mem_cons.mpr ⟨List.mem_append_right _ (List.mem_of_getElem? (i := 199) (by decide +kernel)), List.forall_mem_cons.mpr ⟨List.mem_append_right _ (List.mem_of_getElem? (i := 200) (by decide +kernel)), List.forall_mem_cons.mpr ⟨List.mem_append_right _ (List.mem_of_getElem? (i := 202) (by decide +kernel)), List.forall_mem_cons.mpr ⟨List.mem_append_right _ (List.mem_of_getElem? (i := 203) (by decide +kernel)), List.forall_mem_cons.mpr ⟨List.mem_append_right _ (List.mem_of_getElem? (i := 204) (by decide +kernel)), List.forall_mem_cons.mpr ⟨List.mem_append_right _ (List.mem_of_getElem? (i := 205) (by decide +kernel)), List.forall_mem_cons.mpr ⟨List.mem_append_right _ (List.mem_of_getElem? (i := 206) (by decide +kernel)), List.forall_mem_cons.mpr ⟨List.mem_append_right _ (List.mem_of_getElem? (i := 207) (by decide +kernel)), List.forall_mem_cons.mpr ⟨List.mem_append_right _ (List.mem_of_getElem? (i := 208) (by decide +kernel)), List.forall_mem_cons.mpr ⟨List.mem_append_right _ (List.mem_of_getElem? (i := 209) (by decide +kernel)), List.forall_mem_cons.mpr ⟨List.mem_append_right _ (List.mem_of_getElem? (i := 210) (by decide +kernel)), List.forall_mem_cons.mpr ⟨List.mem_append_right _ (List.mem_of_getElem? (i := 211) (by decide +kernel)), List.forall_mem_cons.mpr ⟨List.mem_append_right _ (List.mem_of_getElem? (i := 212) (by decide +kernel)), fun _ h => absurd h List.not_mem_nil⟩⟩⟩⟩⟩⟩⟩⟩⟩⟩⟩⟩⟩⟩⟩⟩
theorem tl_13 : ∀ w ∈ TT_13, w ∈ lw_tbl := List.forall_mem_cons.mpr ⟨List.mem_append_right _ (List.mem_of_getElem? (i := 213) (by decide +kernel)), List.forall_mem_cons.mpr ⟨List.mem_append_right _ (List.mem_of_getElem? (i := 214) (by decide +kernel)), List.forall_mem_cons.mpr ⟨List.mem_append_right _ (List.mem_of_getElem? (i := 215) (by decide +kernel)), List.forall_mem_cons.mpr ⟨List.mem_append_right _ (List.mem_of_getElem? (i := 216) (by decide +kernel)), List.forall_mem_cons.mpr ⟨List.mem_append_right _ (List.mem_of_getElem? (i := 218) (by decide +kernel)), List.forall_mem_cons.mpr ⟨List.mem_append_right _ (List.mem_of_getElem? (i := 219) (by decide +kernel)), List.forall_mem_cons.mpr ⟨List.mem_append_right _ (List.mem_of_getElem? (i := 220) (by decide +kernel)), List.forall_mem_cons.mpr ⟨List.mem_append_right _ (List.mem_of_getElem? (i := 221) (by decide +kernel)), List.forall_mem_cons.mpr ⟨List.mem_append_right _ (List.mem_of_getElem? (i := 222) (by decide +kernel)), List.forall_mem_cons.mpr ⟨List.mem_append_right _ (List.mem_of_getElem? (i := 223) (by decide +kernel)), List.forall_mem_cons.mpr ⟨List.mem_append_right _ (List.mem_of_getElem? (i := 224) (by decide +kernel)), List.forall_mem_cons.mpr ⟨List.mem_append_right _ (List.mem_of_getElem? (i := 225) (by decide +kernel)), List.forall_mem_cons.mpr ⟨List.mem_append_right _ (List.mem_of_getElem? (i := 226) (by decide +kernel)), List.forall_mem_cons.mpr ⟨List.mem_append_right _ (List.mem_of_getElem? (i := 227) (by decide +kernel)), List.forall_mem_cons.mpr ⟨List.mem_append_right _ (List.mem_of_getElem? (i := 228) (by decide +kernel)), List.forall_mem_cons.mpr ⟨List.mem_append_right _ (List.mem_of_getElem? (i := 230) (by decide +kernel)), fun _ h => absurd h List.not_mem_nil⟩⟩⟩⟩⟩⟩⟩⟩⟩⟩⟩⟩⟩⟩⟩⟩
theorem tl_14 : ∀ w ∈ TT_14, w ∈ lw_tbl := List.forall_mem_cons.mpr ⟨List.mem_append_right _ (List.mem_of_getElem? (i := 231) (by decide +kernel)), List.forall_mem_cons.mpr ⟨List.mem_append_right _ (List.mem_of_getElem? (i := 232) (by decide +kernel)), List.forall_mem_cons.mpr ⟨List.mem_append_right _ (List.mem_of_getElem? (i := 233) (by decide +kernel)), List.forall_mem_cons.mpr ⟨List.mem_append_right _ (List.mem_of_getElem? (i := 234) (by decide +kernel)), List.forall_mem_cons.mpr ⟨List.mem_append_right _ (List.mem_of_getElem? (i := 235) (by decide +kernel)), List.forall_mem_cons.mpr ⟨List.mem_append_right _ (List.mem_of_getElem? (i := 236) (by decide +kernel)), List.forall_mem_cons.mpr ⟨List.mem_append_right _ (List.mem_of_getElem? (i := 237) (by decide +kernel)), List.forall_mem_cons.mpr ⟨List.mem_append_right _ (List.mem_of_getElem? (i := 238) (by decide +kernel)), List.forall_mem_cons.mpr ⟨List.mem_append_right _ (List.mem_of_getElem? (i := 239) (by decide +kernel)), List.forall_mem_cons.mpr ⟨List.mem_append_right _ (List.mem_of_getElem? (i := 240) (by decide +kernel)), List.forall_mem_cons.mpr ⟨List.mem_append_right _ (List.mem_of_getElem? (i := 241) (by decide +kernel)), List.forall_mem_cons.mpr ⟨List.mem_append_right _ (List.mem_of_getElem? (i := 242) (by decide +kernel)), List.forall_mem_cons.mpr ⟨List.mem_append_right _ (List.mem_of_getElem? (i := 243) (by decide +kernel)), List.forall_mem_cons.mpr ⟨List.mem_append_right _ (List.mem_of_getElem? (i := 245) (by decide +kernel)), List.forall_mem_cons.mpr ⟨List.mem_append_right _ (List.mem_of_getElem? (i := 246) (by decide +kernel)), List.forall_mem_cons.mpr ⟨List.mem_append_right _ (List.mem_of_getElem? (i := 247) (by decide +kernel)), fun _ h => absurd h List.not_mem_nil⟩⟩⟩⟩⟩⟩⟩⟩⟩⟩⟩⟩⟩⟩⟩⟩
theorem tl_15 : ∀ w ∈ TT_15, w ∈ lw_tbl := List.forall_mem_cons.mpr ⟨List.mem_append_right _ (List.mem_of_getElem? (i := 248) (by decide +kernel)), List.forall_mem_cons.mpr ⟨List.mem_append_right _ (List.mem_of_getElem? (i := 249) (by decide +kernel)), List.forall_mem_cons.mpr ⟨List.mem_append_right _ (List.mem_of_getElem? (i := 250) (by decide +kernel)), List.forall_mem_cons.mpr ⟨List.mem_append_right _ (List.mem_of_getElem? (i := 251) (by decide +kernel)), List.forall_mem_cons.mpr ⟨List.mem_append_right _ (List.mem_of_getElem? (i := 252) (by decide +kernel)), List.forall_mem_cons.mpr ⟨List.mem_append_right _ (List.mem_of_getElem? (i := 253) (by decide +kernel)), List.forall_mem_cons.mpr ⟨List.mem_append_right _ (List.mem_of_getElem? (i := 254) (by decide +kernel)), List.forall_mem_cons.mpr ⟨List.mem_append_right _ (List.mem_of_getElem? (i := 255) (by decide +kernel)), List.forall_mem_cons.mpr ⟨List.mem_append_right _ (List.mem_of_getElem? (i := 256) (by decide +kernel)), List.forall_mem_cons.mpr ⟨List.mem_append_right _ (List.mem_of_getElem? (i := 257) (by decide +kernel)), List.forall_mem_cons.mpr ⟨List.mem_append_right _ (List.mem_of_getElem? (i := 258) (by decide +kernel)), List.forall_mem_cons.mpr ⟨List.mem_append_right _ (List.mem_of_getElem? (i := 259) (by decide +kernel)), List.forall_mem_cons.mpr ⟨List.mem_append_right _ (List.mem_of_getElem? (i := 260) (by decide +kernel)), List.forall_mem_cons.mpr ⟨List.mem_append_right _ (List.mem_of_getElem? (i := 261) (by decide +kernel)), List.forall_mem_cons.mpr ⟨List.mem_append_right _ (List.mem_of_getElem? (i := 262) (by decide +kernel)), List.forall_mem_cons.mpr ⟨List.mem_append_right _ (List.mem_of_getElem? (i := 264) (by decide +kernel)), fun _ h => absurd h List.not_mem_nil⟩⟩⟩⟩⟩⟩⟩⟩⟩⟩⟩⟩⟩⟩⟩⟩
theorem tl_16 : ∀ w ∈ TT_16, w ∈ lw_tbl := List.forall_mem_cons.mpr ⟨List.mem_append_right _ (List.mem_of_getElem? (i := 265) (by decide +kernel)), List.forall_mem_cons.mpr ⟨List.mem_append_right _ (List.mem_of_getElem? (i := 266) (by decide +kernel)), List.forall_mem_cons.mpr ⟨List.mem_append_right _ (List.mem_of_getElem? (i := 267) (by decide +kernel)), List.forall_mem_cons.mpr ⟨List.mem_append_right _ (List.mem_of_getElem? (i := 268) (by decide +kernel)), List.forall_mem_cons.mpr ⟨List.mem_append_right _ (List.mem_of_getElem? (i := 269) (by decide +kernel)), List.forall_mem_cons.mpr ⟨List.mem_append_right _ (List.mem_of_getElem? (i := 270) (by decide +kernel)), List.forall_mem_cons.mpr ⟨List.mem_append_right _ (List.mem_of_getElem? (i := 271) (by decide +kernel)), List.forall_mem_cons.mpr ⟨List.mem_append_right _ (List.mem_of_getElem? (i := 273) (by decide +kernel)), List.forall_mem_cons.mpr ⟨List.mem_append_right _ (List.mem_of_getElem? (i := 274) (by decide +kernel)), List.forall_mem_cons.mpr ⟨List.mem_append_right _ (List.mem_of_getElem? (i := 275) (by decide +kernel)), List.forall_mem_cons.mpr ⟨List.mem_append_right _ (List.mem_of_getElem? (i := 276) (by decide +kernel)), List.forall_mem_cons.mpr ⟨List.mem_append_right _ (List.mem_of_getElem? (i := 277) (by decide +kernel)), List.forall_mem_cons.mpr ⟨List.mem_append_right _ (List.mem_of_getElem? (i := 278) (by decide +kernel)), List.forall_mem_cons.mpr ⟨List.mem_append_right _ (List.mem_of_getElem? (i := 279) (by decide +kernel)), List.forall_mem_cons.mpr ⟨List.mem_append_right _ (List.mem_of_getElem? (i := 280) (by decide +kernel)), List.forall_mem_cons.mpr ⟨List.mem_append_right _ (List.mem_of_getElem? (i := 281) (by decide +kernel)), fun _ h => absurd h List.not_mem_nil⟩⟩⟩⟩⟩⟩⟩⟩⟩⟩⟩⟩⟩⟩⟩⟩
theorem tl_17 : ∀ w ∈ TT_17, w ∈ lw_tbl := List.forall_mem_cons.mpr ⟨List.mem_append_right _ (List.mem_of_getElem? (i := 282) (by decide +kernel)), List.forall_mem_cons.mpr ⟨List.mem_append_right _ (List.mem_of_getElem? (i := 283) (by decide +kernel)), List.forall_mem_cons.mpr ⟨List.mem_append_right _ (List.mem_of_getElem? (i := 284) (by decide +kernel)), List.forall_mem_cons.mpr ⟨List.mem_append_right _ (List.mem_of_getElem? (i := 286) (by decide +kernel)), List.forall_mem_cons.mpr ⟨List.mem_append_right _ (List.mem_of_getElem? (i := 287) (by decide +kernel)), List.forall_mem_cons.mpr ⟨List.mem_append_right _ (List.mem_of_getElem? (i := 288) (by decide +kernel)), List.forall_mem_cons.mpr ⟨List.mem_append_right _ (List.mem_of_getElem? (i := 290) (by decide +kernel)), List.forall_mem_cons.mpr ⟨List.mem_append_right _ (List.mem_of_getElem? (i := 291) (by decide +kernel)), List.forall_mem_cons.mpr ⟨List.mem_append_right _ (List.mem_of_getElem? (i := 292) (by decide +kernel)), List.forall_mem_cons.mpr ⟨List.mem_append_right _ (List.mem_of_getElem? (i := 293) (by decide +kernel)), List.forall_mem_cons.mpr ⟨List.mem_append_right _ (List.mem_of_getElem? (i := 294) (by decide +kernel)), List.forall_mem_cons.mpr ⟨List.mem_append_right _ (List.mem_of_getElem? (i := 295) (by decide +kernel)), List.forall_mem_cons.mpr ⟨List.mem_append_right _ (List.mem_of_getElem? (i := 296) (by decide +kernel)), List.forall_mem_cons.mpr ⟨List.mem_append_right _ (List.mem_of_getElem? (i := 297) (by decide +kernel)), List.forall_mem_cons.mpr ⟨List.mem_append_right _ (List.mem_of_getElem? (i := 298) (by decide +kernel)), List.forall_mem_cons.mpr ⟨List.mem_append_right _ (List.mem_of_getElem? (i := 299) (by decide +kernel)), fun _ h => absurd h List.not_mem_nil⟩⟩⟩⟩⟩⟩⟩⟩⟩⟩⟩⟩⟩⟩⟩⟩
theorem tl_18 : ∀ w ∈ TT_18, w ∈ lw_tbl := List.forall_mem_cons.mpr ⟨List.mem_append_right _ (List.mem_of_getElem? (i := 300) (by decide +kernel)), List.forall_mem_cons.mpr ⟨List.mem_append_right _ (List.mem_of_getElem? (i := 302) (by decide +kernel)), List.forall_mem_cons.mpr ⟨List.mem_append_right _ (List.mem_of_getElem? (i := 303) (by decide +kernel)), List.forall_mem_cons.mpr ⟨List.mem_append_right _ (List.mem_of_getElem? (i := 304) (by decide +kernel)), List.forall_mem_cons.mpr ⟨List.mem_append_right _ (List.mem_of_getElem? (i := 305) (by decide +kernel)), List.forall_mem_cons.mpr ⟨List.mem_append_right _ (List.mem_of_getElem? (i := 306) (by decide +kernel)), List.forall_mem_cons.mpr ⟨List.mem_append_right _ (List.mem_of_getElem? (i := 307) (by decide +kernel)), List.forall_mem_cons.mpr ⟨List.mem_append_right _ (List.mem_of_getElem? (i := 308) (by decide +kernel)), List.forall_mem_cons.mpr ⟨List.mem_append_right _ (List.mem_of_getElem? (i := 309) (by decide +kernel)), List.forall_mem_cons.mpr ⟨List.mem_append_right _ (List.mem_of_getElem? (i := 310) (by decide +kernel)), List.forall_mem_cons.mpr ⟨List.mem_append_right _ (List.mem_of_getElem? (i := 311) (by decide +kernel)), List.forall_mem_cons.mpr ⟨List.mem_append_right _ (List.mem_of_getElem? (i := 312) (by decide +kernel)), List.forall_mem_cons.mpr ⟨List.mem_append_right _ (List.mem_of_getElem? (i := 313) (by decide +kernel)), List.forall_mem_cons.mpr ⟨List.mem_append_right _ (List.mem_of_getElem? (i := 314) (by decide +kernel)), List.forall_mem_cons.mpr ⟨List.mem_append_right _ (List.mem_of_getElem? (i := 315) (by decide +kernel)), List.forall_mem_cons.mpr ⟨List.mem_append_right _ (List.mem_of_getElem? (i := 316) (by decide +kernel)), fun _ h => absurd h List.not_mem_nil⟩⟩⟩⟩⟩⟩⟩⟩⟩⟩⟩⟩⟩⟩⟩⟩
theorem tl_19 : ∀ w ∈ TT_19, w ∈ lw_tbl := List.forall_mem_cons.mpr ⟨List.mem_append_right _ (List.mem_of_getElem? (i := 317) (by decide +kernel)), List.forall_mem_cons.mpr ⟨List.mem_append_right _ (List.mem_of_getElem? (i := 318) (by decide +kernel)), List.forall_mem_cons.mpr ⟨List.mem_append_right _ (List.mem_of_getElem? (i := 319) (by decide +kernel)), List.forall_mem_cons.mpr ⟨List.mem_append_right _ (List.mem_of_getElem? (i := 320) (by decide +kernel)), List.forall_mem_cons.mpr ⟨List.mem_append_right _ (List.mem_of_getElem? (i := 321) (by decide +kernel)), List.forall_mem_cons.mpr ⟨List.mem_append_right _ (List.mem_of_getElem? (i := 322) (by decide +kernel)), List.forall_mem_cons.mpr ⟨List.mem_append_right _ (List.mem_of_getElem? (i := 323) (by decide +kernel)), List.forall_mem_cons.mpr ⟨List.mem_append_right _ (List.mem_of_getElem? (i := 324) (by decide +kernel)), List.forall_mem_cons.mpr ⟨List.mem_append_right _ (List.mem_of_getElem? (i := 325) (by decide +kernel)), List.forall_mem_cons.mpr ⟨List.mem_append_right _ (List.mem_of_getElem? (i := 326) (by decide +kernel)), List.forall_mem_cons.mpr ⟨List.mem_append_right _ (List.mem_of_getElem? (i := 327) (by decide +kernel)), List.forall_mem_cons.mpr ⟨List.mem_append_right _ (List.mem_of_getElem? (i := 328) (by decide +kernel)), List.forall_mem_cons.mpr ⟨List.mem_append_right _ (List.mem_of_getElem? (i := 329) (by decide +kernel)), List.forall_mem_cons.mpr ⟨List.mem_append_right _ (List.mem_of_getElem? (i := 330) (by decide +kernel)), List.forall_mem_cons.mpr ⟨List.mem_append_right _ (List.mem_of_getElem? (i := 331) (by decide +kernel)), List.forall_mem_cons.mpr ⟨List.mem_append_right _ (List.mem_of_getElem? (i := 332) (by decide +kernel)), fun _ h => absurd h List.not_mem_nil⟩⟩⟩⟩⟩⟩⟩⟩⟩⟩⟩⟩⟩⟩⟩⟩
theorem tl_20 : ∀ w ∈ TT_20, w ∈ lw_tbl := List.forall_mem_cons.mpr ⟨List.mem_append_right _ (List.mem_of_getElem? (i := 333) (by decide +kernel)), List.forall_mem_cons.mpr ⟨List.mem_append_right _ (List.mem_of_getElem? (i := 334) (by decide +kernel)), List.forall_mem_cons.mpr ⟨List.mem_append_right _ (List.mem_of_getElem? (i := 335) (by decide +kernel)), List.forall_mem_cons.mpr ⟨List.mem_append_right _ (List.mem_of_getElem? (i := 336) (by decide +kernel)), List.forall_mem_cons.mpr ⟨List.mem_append_right _ (List.mem_of_getElem? (i := 337) (by decide +kernel)), List.forall_mem_cons.mpr ⟨List.mem_append_right _ (List.mem_of_getElem? (i := 338) (by decide +kernel)), List.forall_mem_cons.mpr ⟨List.mem_append_right _ (List.mem_of_getElem? (i := 339) (by decide +kernel)), List.forall_mem_cons.mpr ⟨List.mem_append_right _ (List.mem_of_getElem? (i := 340) (by decide +kernel)), List.forall_mem_cons.mpr ⟨List.mem_append_right _ (List.mem_of_getElem? (i := 341) (by decide +kernel)), List.forall_mem_cons.mpr ⟨List.mem_append_right _ (List.mem_of_getElem? (i := 342) (by decide +kernel)), List.forall_mem_cons.mpr ⟨List.mem_append_right _ (List.mem_of_getElem? (i := 343) (by decide +kernel)), List.forall_mem_cons.mpr ⟨List.mem_append_right _ (List.mem_of_getElem? (i := 344) (by decide +kernel)), List.forall_mem_cons.mpr ⟨List.mem_append_right _ (List.mem_of_getElem? (i := 345) (by decide +kernel)), List.forall_mem_cons.mpr ⟨List.mem_append_right _ (List.mem_of_getElem? (i := 346) (by decide +kernel)), List.forall_mem_cons.mpr ⟨List.mem_append_right _ (List.mem_of_getElem? (i := 347) (by decide +kernel)), List.forall_mem_cons.mpr ⟨List.mem_append_right _ (List.mem_of_getElem? (i := 348) (by decide +kernel)), fun _ h => absurd h List.not_mem_nil⟩⟩⟩⟩⟩⟩⟩⟩⟩⟩⟩⟩⟩⟩⟩⟩
theorem tl_21 : ∀ w ∈ TT_21, w ∈ lw_tbl := List.forall_mem_cons.mpr ⟨List.mem_append_right _ (List.mem_of_getElem? (i := 349) (by decide +kernel)), List.forall_mem_cons.mpr ⟨List.mem_append_right _ (List.mem_of_getElem? (i := 350) (by decide +kernel)), List.forall_mem_cons.mpr ⟨List.mem_append_right _ (List.mem_of_getElem? (i := 351) (by decide +kernel)), List.forall_mem_cons.mpr ⟨List.mem_append_right _ (List.mem_of_getElem? (i := 352) (by decide +kernel)), List.forall_mem_cons.mpr ⟨List.mem_append_right _ (List.mem_of_getElem? (i := 353) (by decide +kernel)), List.forall_mem_cons.mpr ⟨List.mem_append_right _ (List.mem_of_getElem? (i := 354) (by decide +kernel)), List.forall_mem_cons.mpr ⟨List.mem_append_right _ (List.mem_of_getElem? (i := 355) (by decide +kernel)), List.forall_mem_cons.mpr ⟨List.mem_append_right _ (List.mem_of_getElem? (i := 356) (by decide +kernel)), List.forall_mem_cons.mpr ⟨List.mem_append_right _ (List.mem_of_getElem? (i := 357) (by decide +kernel)), List.forall_mem_cons.mpr ⟨List.mem_append_right _ (List.mem_of_getElem? (i := 358) (by decide +kernel)), List.forall_mem_cons.mpr ⟨List.mem_append_right _ (List.mem_of_getElem? (i := 359) (by decide +kernel)), List.forall_mem_cons.mpr ⟨List.mem_append_right _ (List.mem_of_getElem? (i := 360) (by decide +kernel)), List.forall_mem_cons.mpr ⟨List.mem_append_right _ (List.mem_of_getElem? (i := 361) (by decide +kernel)), List.forall_mem_cons.mpr ⟨List.mem_append_right _ (List.mem_of_getElem? (i := 362) (by decide +kernel)), List.forall_mem_cons.mpr ⟨List.mem_append_right _ (List.mem_of_getElem? (i := 363) (by decide +kernel)), List.forall_mem_cons.mpr ⟨List.mem_append_right _ (List.mem_of_getElem? (i := 364) (by decide +kernel)), fun _ h => absurd h List.not_mem_nil⟩⟩⟩⟩⟩⟩⟩⟩⟩⟩⟩⟩⟩⟩⟩⟩
theorem tl_22 : ∀ w ∈ TT_22, w ∈ lw_tbl := List.forall_mem_cons.mpr ⟨List.mem_append_right _ (List.mem_of_getElem? (i := 365) (by decide +kernel)), List.forall_mem_cons.mpr ⟨List.mem_append_right _ (List.mem_of_getElem? (i := 366) (by decide +kernel)), List.forall_mem_cons.mpr ⟨List.mem_append_right _ (List.mem_of_getElem? (i := 367) (by decide +kernel)), List.forall_mem_cons.mpr ⟨List.mem_append_right _ (List.mem_of_getElem? (i := 368) (by decide +kernel)), List.forall_mem_cons.mpr ⟨List.mem_append_right _ (List.mem_of_getElem? (i := 369) (by decide +kernel)), List.forall_mem_cons.mpr ⟨List.mem_append_right _ (List.mem_of_getElem? (i := 371) (by decide +kernel)), List.forall_mem_cons.mpr ⟨List.mem_append_right _ (List.mem_of_getElem? (i := 373) (by decide +kernel)), List.forall_mem_cons.mpr ⟨List.mem_append_right _ (List.mem_of_getElem? (i := 375) (by decide +kernel)), List.forall_mem_cons.mpr ⟨List.mem_append_right _ (List.mem_of_getElem? (i := 377) (by decide +kernel)), List.forall_mem_cons.mpr ⟨List.mem_append_right _ (List.mem_of_getElem? (i := 379) (by decide +kernel)), List.forall_mem_cons.mpr ⟨List.mem_append_right _ (List.mem_of_getElem? (i := 381) (by decide +kernel)), List.forall_mem_cons.mpr ⟨List.mem_append_right _ (List.mem_of_getElem? (i := 383) (by decide +kernel)), List.forall_mem_cons.mpr ⟨List.mem_append_right _ (List.mem_of_getElem? (i := 385) (by decide +kernel)), List.forall_mem_cons.mpr ⟨List.mem_append_right _ (List.mem_of_getElem? (i := 387) (by decide +kernel)), List.forall_mem_cons.mpr ⟨List.mem_append_right _ (List.mem_of_getElem? (i := 389) (by decide +kernel)), List.forall_mem_cons.mpr ⟨List.mem_append_right _ (List.mem_of_getElem? (i := 391) (by decide +kernel)), fun _ h => absurd h List.not_mem_nil⟩⟩⟩⟩⟩⟩⟩⟩⟩⟩⟩⟩⟩⟩⟩⟩
theorem tl_23 : ∀ w ∈ TT_23, w ∈ lw_tbl := List.forall_mem_cons.mpr ⟨List.mem_append_right _ (List.mem_of_getElem? (i := 393) (by decide +kernel)), List.forall_mem_cons.mpr ⟨List.mem_append_right _ (List.mem_of_getElem? (i := 395) (by decide +kernel)), List.forall_mem_cons.mpr ⟨List.mem_append_right _ (List.mem_of_getElem? (i := 397) (by decide +kernel)), List.forall_mem_cons.mpr ⟨List.mem_append_right _ (List.mem_of_getElem? (i := 399) (by decide +kernel)), List.forall_mem_cons.mpr ⟨List.mem_append_right _ (List.mem_of_getElem? (i := 401) (by decide +kernel)), List.forall_mem_cons.mpr ⟨List.mem_append_right _ (List.mem_of_getElem? (i := 403) (by decide +kernel)), List.forall_mem_cons.mpr ⟨List.mem_append_right _ (List.mem_of_getElem? (i := 405) (by decide +kernel)), List.forall_mem_cons.mpr ⟨List.mem_append_right _ (List.mem_of_getElem? (i := 408) (by decide +kernel)), List.forall_mem_cons.mpr ⟨List.mem_append_right _ (List.mem_of_getElem? (i := 409) (by decide +kernel)), List.forall_mem_cons.mpr ⟨List.mem_append_right _ (List.mem_of_getElem? (i := 410) (by decide +kernel)), List.forall_mem_cons.mpr ⟨List.mem_append_right _ (List.mem_of_getElem? (i := 411) (by decide +kernel)), List.forall_mem_cons.mpr ⟨List.mem_append_right _ (List.mem_of_getElem? (i := 412) (by decide +kernel)), List.forall_mem_cons.mpr ⟨List.mem_append_right _ (List.mem_of_getElem? (i := 413) (by decide +kernel)), List.forall_mem_cons.mpr ⟨List.mem_append_right _ (List.mem_of_getElem? (i := 414) (by decide +kernel)), List.forall_mem_cons.mpr ⟨List.mem_append_right _ (List.mem_of_getElem? (i := 415) (by decide +kernel)), List.forall_mem_cons.mpr ⟨List.mem_append_right _ (List.mem_of_getElem? (i := 416) (by decide +kernel)), fun _ h => absurd h List.not_mem_nil⟩⟩⟩⟩⟩⟩⟩⟩⟩⟩⟩⟩⟩⟩⟩⟩
theorem tl_24 : ∀ w ∈ TT_24, w ∈ lw_tbl := List.forall_mem_cons.mpr ⟨List.mem_append_right _ (List.mem_of_getElem? (i := 417) (by decide +kernel)), List.forall_mem_cons.mpr ⟨List.mem_append_right _ (List.mem_of_getElem? (i := 419) (by decide +kernel)), List.forall_mem_cons.mpr ⟨List.mem_append_right _ (List.mem_of_getElem? (i := 420) (by decide +kernel)), List.forall_mem_cons.mpr ⟨List.mem_append_right _ (List.mem_of_getElem? (i := 421) (by decide +kernel)), List.forall_mem_cons.mpr ⟨List.mem_append_right _ (List.mem_of_getElem? (i := 422) (by decide +kernel)), List.forall_mem_cons.mpr ⟨List.mem_append_right _ (List.mem_of_getElem? (i := 423) (by decide +kernel)), List.forall_mem_cons.mpr ⟨List.mem_append_right _ (List.mem_of_getElem? (i := 424) (by decide +kernel)), List.forall_mem_cons.mpr ⟨List.mem_append_right _ (List.mem_of_getElem? (i := 426) (by decide +kernel)), List.forall_mem_cons.mpr ⟨List.mem_append_right _ (List.mem_of_getElem? (i := 427) (by decide +kernel)), List.forall_mem_cons.mpr ⟨List.mem_append_right _ (List.mem_of_getElem? (i := 428) (by decide +kernel)), List.forall_mem_cons.mpr ⟨List.mem_append_right _ (List.mem_of_getElem? (i := 430) (by decide +kernel)), List.forall_mem_cons.mpr ⟨List.mem_append_right _ (List.mem_of_getElem? (i := 431) (by decide +kernel)), List.forall_mem_cons.mpr ⟨List.mem_append_right _ (List.mem_of_getElem? (i := 432) (by decide +kernel)), List.forall_mem_cons.mpr ⟨List.mem_append_right _ (List.mem_of_getElem? (i := 434) (by decide +kernel)), List.forall_mem_cons.mpr ⟨List.mem_append_right _ (List.mem_of_getElem? (i := 435) (by decide +kernel)), List.forall_mem_cons.mpr ⟨List.mem_append_right _ (List.mem_of_getElem? (i := 436) (by decide +kernel)), fun _ h => absurd h List.not_mem_nil⟩⟩⟩⟩⟩⟩⟩⟩⟩⟩⟩⟩⟩⟩⟩⟩
theorem tl_25 : ∀ w ∈ TT_25, w ∈ lw_tbl := List.forall_mem_cons.mpr ⟨List.mem_append_right _ (List.mem_of_getElem? (i := 438) (by decide +kernel)), List.forall_mem_cons.mpr ⟨List.mem_append_right _ (List.mem_of_getElem? (i := 439) (by decide +kernel)), List.forall_mem_cons.mpr ⟨List.mem_append_right _ (List.mem_of_getElem? (i := 440) (by decide +kernel)), List.forall_mem_cons.mpr ⟨List.mem_append_right _ (List.mem_of_getElem? (i := 442) (by decide +kernel)), List.forall_mem_cons.mpr ⟨List.mem_append_right _ (List.mem_of_getElem? (i := 443) (by decide +kernel)), List.forall_mem_cons.mpr ⟨List.mem_append_right _ (List.mem_of_getElem? (i := 444) (by decide +kernel)), List.forall_mem_cons.mpr ⟨List.mem_append_right _ (List.mem_of_getElem? (i := 446) (by decide +kernel)), List.forall_mem_cons.mpr ⟨List.mem_append_right _ (List.mem_of_getElem? (i := 447) (by decide +kernel)), List.forall_mem_cons.mpr ⟨List.mem_append_right _ (List.mem_of_getElem? (i := 448) (by decide +kernel)), List.forall_mem_cons.mpr ⟨List.mem_append_right _ (List.mem_of_getElem? (i := 450) (by decide +kernel)), List.forall_mem_cons.mpr ⟨List.mem_append_right _ (List.mem_of_getElem? (i := 451) (by decide +kernel)), List.forall_mem_cons.mpr ⟨List.mem_append_right _ (List.mem_of_getElem? (i := 452) (by decide +kernel)), List.forall_mem_cons.mpr ⟨List.mem_append_right _ (List.mem_of_getElem? (i := 454) (by decide +kernel)), List.forall_mem_cons.mpr ⟨List.mem_append_right _ (List.mem_of_getElem? (i := 455) (by decide +kernel)), List.forall_mem_cons.mpr ⟨List.mem_append_right _ (List.mem_of_getElem? (i := 456) (by decide +kernel)), List.forall_mem_cons.mpr ⟨List.mem_append_right _ (List.mem_of_getElem? (i := 458) (by decide +kernel)), fun _ h => absurd h List.not_mem_nil⟩⟩⟩⟩⟩⟩⟩⟩⟩⟩⟩⟩⟩⟩⟩⟩
theorem tl_26 : ∀ w ∈ TT_26, w ∈ lw_tbl := List.forall_mem_cons.mpr ⟨List.mem_append_right _ (List.mem_of_getElem? (i := 459) (by decide +kernel)), List.forall_mem_cons.mpr ⟨List.mem_append_right _ (List.mem_of_getElem? (i := 460) (by decide +kernel)), List.forall_mem_cons.mpr ⟨List.mem_append_right _ (List.mem_of_getElem? (i := 462) (by decide +kernel)), List.forall_mem_cons.mpr ⟨List.mem_append_right _ (List.mem_of_getElem? (i := 463) (by decide +kernel)), List.forall_mem_cons.mpr ⟨List.mem_append_right _ (List.mem_of_getElem? (i := 464) (by decide +kernel)), List.forall_mem_cons.mpr ⟨List.mem_append_right _ (List.mem_of_getElem? (i := 465) (by decide +kernel)), List.forall_mem_cons.mpr ⟨List.mem_append_right _ (List.mem_of_getElem? (i := 466) (by decide +kernel)), List.forall_mem_cons.mpr ⟨List.mem_append_right _ (List.mem_of_getElem? (i := 467) (by decide +kernel)), List.forall_mem_cons.mpr ⟨List.mem_append_right _ (List.mem_of_getElem? (i := 468) (by decide +kernel)), List.forall_mem_cons.mpr ⟨List.mem_append_right _ (List.mem_of_getElem? (i := 470) (by decide +kernel)), List.forall_mem_cons.mpr ⟨List.mem_append_right _ (List.mem_of_getElem? (i := 471) (by decide +kernel)), List.forall_mem_cons.mpr ⟨List.mem_append_right _ (List.mem_of_getElem? (i := 472) (by decide +kernel)), List.forall_mem_cons.mpr ⟨List.mem_append_right _ (List.mem_of_getElem? (i := 474) (by decide +kernel)), List.forall_mem_cons.mpr ⟨List.mem_append_right _ (List.mem_of_getElem? (i := 475) (by decide +kernel)), List.forall_mem_cons.mpr ⟨List.mem_append_right _ (List.mem_of_getElem? (i := 476) (by decide +kernel)), List.forall_mem_cons.mpr ⟨List.mem_append_right _ (List.mem_of_getElem? (i := 478) (by decide +kernel)), fun _ h => absurd h List.not_mem_nil⟩⟩⟩⟩⟩⟩⟩⟩⟩⟩⟩⟩⟩⟩⟩⟩
theorem tl_27 : ∀ w ∈ TT_27, w ∈ lw_tbl := List.forall_mem_cons.mpr ⟨List.mem_append_right _ (List.mem_of_getElem? (i := 479) (by decide +kernel)), List.forall_mem_cons.mpr ⟨List.mem_append_right _ (List.mem_of_getElem? (i := 480) (by decide +kernel)), List.forall_mem_cons.mpr ⟨List.mem_append_right _ (List.mem_of_getElem? (i := 481) (by decide +kernel)), List.forall_mem_cons.mpr ⟨List.mem_append_right _ (List.mem_of_getElem? (i := 482) (by decide +kernel)), List.forall_mem_cons.mpr ⟨List.mem_append_right _ (List.mem_of_getElem? (i := 483) (by decide +kernel)), List.forall_mem_cons.mpr ⟨List.mem_append_right _ (List.mem_of_getElem? (i := 484) (by decide +kernel)), List.forall_mem_cons.mpr ⟨List.mem_append_right _ (List.mem_of_getElem? (i := 485) (by decide +kernel)), List.forall_mem_cons.mpr ⟨List.mem_append_right _ (List.mem_of_getElem? (i := 486) (by decide +kernel)), List.forall_mem_cons.mpr ⟨List.mem_append_right _ (List.mem_of_getElem? (i := 487) (by decide +kernel)), List.forall_mem_cons.mpr ⟨List.mem_append_right _ (List.mem_of_getElem? (i := 488) (by decide +kernel)), List.forall_mem_cons.mpr ⟨List.mem_append_right _ (List.mem_of_getElem? (i := 489) (by decide +kernel)), List.forall_mem_cons.mpr ⟨List.mem_append_right _ (List.mem_of_getElem? (i := 490) (by decide +kernel)), List.forall_mem_cons.mpr ⟨List.mem_append_right _ (List.mem_of_getElem? (i := 491) (by decide +kernel)), List.forall_mem_cons.mpr ⟨List.mem_append_right _ (List.mem_of_getElem? (i := 492) (by decide +kernel)), List.forall_mem_cons.mpr ⟨List.mem_append_right _ (List.mem_of_getElem? (i := 493) (by decide +kernel)), List.forall_mem_cons.mpr ⟨List.mem_append_right _ (List.mem_of_getElem? (i := 494) (by decide +kernel)), fun _ h => absurd h List.not_mem_nil⟩⟩⟩⟩⟩⟩⟩⟩⟩⟩⟩⟩⟩⟩⟩⟩
theorem tl_28 : ∀ w ∈ TT_28, w ∈ lw_tbl := List.forall_mem_cons.mpr ⟨List.mem_append_right _ (List.mem_of_getElem? (i := 495) (by decide +kernel)), List.forall_mem_cons.mpr ⟨List.mem_append_right _ (List.mem_of_getElem? (i := 496) (by decide +kernel)), List.forall_mem_cons.mpr ⟨List.mem_append_right _ (List.mem_of_getElem? (i := 497) (by decide +kernel)), List.forall_mem_cons.mpr ⟨List.mem_append_right _ (List.mem_of_getElem? (i := 498) (by decide +kernel)), List.forall_mem_cons.mpr ⟨List.mem_append_right _ (List.mem_of_getElem? (i := 499) (by decide +kernel)), List.forall_mem_cons.mpr ⟨List.mem_append_right _ (List.mem_of_getElem? (i := 500) (by decide +kernel)), List.forall_mem_cons.mpr ⟨List.mem_append_right _ (List.mem_of_getElem? (i := 501) (by decide +kernel)), List.forall_mem_cons.mpr ⟨List.mem_append_right _ (List.mem_of_getElem? (i := 502) (by decide +kernel)), List.forall_mem_cons.mpr ⟨List.mem_append_right _ (List.mem_of_getElem? (i := 503) (by decide +kernel)), List.forall_mem_cons.mpr ⟨List.mem_append_right _ (List.mem_of_getElem? (i := 504) (by decide +kernel)), List.forall_mem_cons.mpr ⟨List.mem_append_right _ (List.mem_of_getElem? (i := 505) (by decide +kernel)), List.forall_mem_cons.mpr ⟨List.mem_append_right _ (List.mem_of_getElem? (i := 506) (by decide +kernel)), List.forall_mem_cons.mpr ⟨List.mem_append_right _ (List.mem_of_getElem? (i := 507) (by decide +kernel)), List.forall_mem_cons.mpr ⟨List.mem_append_right _ (List.mem_of_getElem? (i := 508) (by decide +kernel)), List.forall_mem_cons.mpr ⟨List.mem_append_right _ (List.mem_of_getElem? (i := 509) (by decide +kernel)), List.forall_mem_cons.mpr ⟨List.mem_append_right _ (List.mem_of_getElem? (i := 510) (by decide +kernel)), fun _ h => absurd h List.not_mem_nil⟩⟩⟩⟩⟩⟩⟩⟩⟩⟩⟩⟩⟩⟩⟩⟩
theorem tl_29 : ∀ w ∈ TT_29, w ∈ lw_tbl := List.forall_mem_cons.mpr ⟨List.mem_append_right _ (List.mem_of_getElem? (i := 511) (by decide +kernel)), List.forall_mem_cons.mpr ⟨List.mem_append_right _ (List.mem_of_getElem? (i := 512) (by decide +kernel)), List.forall_mem_cons.mpr ⟨List.mem_append_right _ (List.mem_of_getElem? (i := 513) (by decide +kernel)), List.forall_mem_cons.mpr ⟨List.mem_append_right _ (List.mem_of_getElem? (i := 514) (by decide +kernel)), List.forall_mem_cons.mpr ⟨List.mem_append_right _ (List.mem_of_getElem? (i := 515) (by decide +kernel)), List.forall_mem_cons.mpr ⟨List.mem_append_right _ (List.mem_of_getElem? (i := 516) (by decide +kernel)), List.forall_mem_cons.mpr ⟨List.mem_append_right _ (List.mem_of_getElem? (i := 517) (by decide +kernel)), List.forall_mem_cons.mpr ⟨List.mem_append_right _ (List.mem_of_getElem? (i := 518) (by decide +kernel)), List.forall_mem_cons.mpr ⟨List.mem_append_right _ (List.mem_of_getElem? (i := 519) (by decide +kernel)), fun _ h => absurd h List.not_mem_nil⟩⟩⟩⟩⟩⟩⟩⟩⟩
theorem TT_in : ∀ w ∈ TT, w ∈ lw_tbl := tt_all tl_0 tl_1 tl_2 tl_3 tl_4 tl_5 tl_6 tl_7 tl_8 tl_9 tl_10 tl_11 tl_12 tl_13 tl_14 tl_15 tl_16 tl_17 tl_18 tl_19 tl_20 tl_21 tl_22 tl_23 tl_24 tl_25 tl_26 tl_27 tl_28 tl_29
abbrev w_Dk_init : List Cond := Cond.code y_Dk_init b_Dk_init 1 none :: TT
abbrev w_Dk_make : List Cond := Cond.code y_Dk_make b_Dk_make 2 (some .int) :: TT
abbrev w_Dk_send : List Cond := Cond.code y_Dk_send b_Dk_send 5 (some .int) :: TT
abbrev w_Dk_receive : List Cond := Cond.code y_Dk_receive b_Dk_receive 4 (some .int) :: TT
abbrev w_Dk_add : List Cond := Cond.code y_Dk_add b_Dk_add 5 (some .int) :: TT
abbrev w_Dk_choose : List Cond := Cond.code y_Dk_choose b_Dk_choose 5 (some .int) :: TT
abbrev w_Dk_close : List Cond := Cond.code y_Dk_close b_Dk_close 4 (some .int) :: TT
abbrev w_Dk_state : List Cond := Cond.code y_Dk_state b_Dk_state 2 (some .int) :: TT
abbrev w_Dk_got : List Cond := Cond.code y_Dk_got b_Dk_got 2 (some .int) :: TT
abbrev w_Dk_last : List Cond := Cond.code y_Dk_last b_Dk_last 2 (some .int) :: TT
abbrev w_Dk_waiting : List Cond := Cond.code y_Dk_waiting b_Dk_waiting 5 (some .int) :: TT
abbrev w_Dk_channel : List Cond := Cond.code y_Dk_channel b_Dk_channel 3 (some .int) :: TT
abbrev w_Dk_count : List Cond := Cond.code y_Dk_count b_Dk_count 2 (some .int) :: TT
abbrev w_Dk_clear : List Cond := Cond.code y_Dk_clear b_Dk_clear 2 (some .int) :: TT
abbrev w_Dk_startAfresh : List Cond := Cond.code y_Dk_startAfresh b_Dk_startAfresh 1 none :: TT
abbrev w_Dk_isRoutine : List Cond := Cond.code y_Dk_isRoutine b_Dk_isRoutine 1 (some .boolean) :: TT
abbrev w_Dk_isWay : List Cond := Cond.code y_Dk_isWay b_Dk_isWay 1 (some .boolean) :: TT
abbrev w_Dk_isReady : List Cond := Cond.code y_Dk_isReady b_Dk_isReady 2 (some .boolean) :: TT
abbrev w_Dk_makeReady : List Cond := Cond.code y_Dk_makeReady b_Dk_makeReady 2 none :: TT
abbrev w_Dk_startWaiting : List Cond := Cond.code y_Dk_startWaiting b_Dk_startWaiting 3 none :: TT
abbrev w_Dk_trySend : List Cond := Cond.code y_Dk_trySend b_Dk_trySend 5 (some .int) :: TT
abbrev w_Dk_tryReceive : List Cond := Cond.code y_Dk_tryReceive b_Dk_tryReceive 4 (some .int) :: TT
abbrev w_Dk_takeFromSender : List Cond := Cond.code y_Dk_takeFromSender b_Dk_takeFromSender 3 (some .int) :: TT
abbrev w_Dk_hand : List Cond := Cond.code y_Dk_hand b_Dk_hand 4 none :: TT
abbrev w_Dk_sufferFault : List Cond := Cond.code y_Dk_sufferFault b_Dk_sufferFault 2 none :: TT
abbrev w_Dk_endWait : List Cond := Cond.code y_Dk_endWait b_Dk_endWait 3 none :: TT
abbrev w_Dk_wakeAtShutChannel : List Cond := Cond.code y_Dk_wakeAtShutChannel b_Dk_wakeAtShutChannel 4 none :: TT
abbrev w_Dk_doCase : List Cond := Cond.code y_Dk_doCase b_Dk_doCase 7 (some .int) :: TT
abbrev w_Dk_countPossible : List Cond := Cond.code y_Dk_countPossible b_Dk_countPossible 4 (some .int) :: TT
abbrev w_Dk_findPossible : List Cond := Cond.code y_Dk_findPossible b_Dk_findPossible 6 (some .int) :: TT
abbrev w_Dk_isPossible : List Cond := Cond.code y_Dk_isPossible b_Dk_isPossible 3 (some .boolean) :: TT
abbrev w_Dk_firstWaiting : List Cond := Cond.code y_Dk_firstWaiting b_Dk_firstWaiting 3 (some .int) :: TT
abbrev w_Dk_findWaiting : List Cond := Cond.code y_Dk_findWaiting b_Dk_findWaiting 7 (some .int) :: TT
abbrev w_Md_init : List Cond := Cond.code y_Md_init b_Md_init 2 none :: TT
abbrev w_Md_isRoutine : List Cond := Cond.code y_Md_isRoutine b_Md_isRoutine 1 (some .boolean) :: TT
abbrev w_Md_isChannel : List Cond := Cond.code y_Md_isChannel b_Md_isChannel 2 (some .boolean) :: TT
abbrev w_Md_isReady : List Cond := Cond.code y_Md_isReady b_Md_isReady 2 (some .boolean) :: TT
abbrev w_Md_make : List Cond := Cond.code y_Md_make b_Md_make 2 (some .int) :: TT
abbrev w_Md_caseAt : List Cond := Cond.code y_Md_caseAt b_Md_caseAt 5 (some .int) :: TT
abbrev w_Md_waitsAt : List Cond := Cond.code y_Md_waitsAt b_Md_waitsAt 5 (some .boolean) :: TT
abbrev w_Md_waiter : List Cond := Cond.code y_Md_waiter b_Md_waiter 7 (some .int) :: TT
abbrev w_Md_ready : List Cond := Cond.code y_Md_ready b_Md_ready 3 none :: TT
abbrev w_Md_waits : List Cond := Cond.code y_Md_waits b_Md_waits 3 none :: TT
abbrev w_Md_receives : List Cond := Cond.code y_Md_receives b_Md_receives 5 none :: TT
abbrev w_Md_sends : List Cond := Cond.code y_Md_sends b_Md_sends 5 (some .int) :: TT
abbrev w_Md_push : List Cond := Cond.code y_Md_push b_Md_push 3 none :: TT
abbrev w_Md_take : List Cond := Cond.code y_Md_take b_Md_take 4 (some .int) :: TT
abbrev w_Md_isPossible : List Cond := Cond.code y_Md_isPossible b_Md_isPossible 3 (some .boolean) :: TT
abbrev w_Md_sendNow : List Cond := Cond.code y_Md_sendNow b_Md_sendNow 5 (some .int) :: TT
abbrev w_Md_receiveNow : List Cond := Cond.code y_Md_receiveNow b_Md_receiveNow 4 none :: TT
abbrev w_Md_send : List Cond := Cond.code y_Md_send b_Md_send 4 (some .int) :: TT
abbrev w_Md_receive : List Cond := Cond.code y_Md_receive b_Md_receive 3 (some .int) :: TT
abbrev w_Md_add : List Cond := Cond.code y_Md_add b_Md_add 6 (some .int) :: TT
abbrev w_Md_choose : List Cond := Cond.code y_Md_choose b_Md_choose 11 (some .int) :: TT
abbrev w_Md_close : List Cond := Cond.code y_Md_close b_Md_close 6 (some .int) :: TT
abbrev w_Md_state : List Cond := Cond.code y_Md_state b_Md_state 2 (some .int) :: TT
abbrev w_Md_got : List Cond := Cond.code y_Md_got b_Md_got 2 (some .int) :: TT
abbrev w_Md_last : List Cond := Cond.code y_Md_last b_Md_last 2 (some .int) :: TT
abbrev w_Md_waiting : List Cond := Cond.code y_Md_waiting b_Md_waiting 4 (some .int) :: TT
abbrev w_Md_channel : List Cond := Cond.code y_Md_channel b_Md_channel 3 (some .int) :: TT
abbrev w_Md_count : List Cond := Cond.code y_Md_count b_Md_count 4 (some .int) :: TT
abbrev w_Md_clear : List Cond := Cond.code y_Md_clear b_Md_clear 3 (some .int) :: TT
abbrev w_Cs_init : List Cond := Cond.code y_Cs_init b_Cs_init 1 none :: TT
abbrev w_Cs_slotOf : List Cond := Cond.code y_Cs_slotOf b_Cs_slotOf 2 (some .int) :: TT
abbrev w_Cs_routineAt : List Cond := Cond.code y_Cs_routineAt b_Cs_routineAt 1 (some .int) :: TT
abbrev w_Cs_numberAt : List Cond := Cond.code y_Cs_numberAt b_Cs_numberAt 1 (some .int) :: TT
abbrev w_Cs_forgetAll : List Cond := Cond.code y_Cs_forgetAll b_Cs_forgetAll 1 none :: TT
abbrev w_Cs_forget : List Cond := Cond.code y_Cs_forget b_Cs_forget 2 none :: TT
abbrev w_Cs_numberOf : List Cond := Cond.code y_Cs_numberOf b_Cs_numberOf 2 (some .int) :: TT
abbrev w_Cs_append : List Cond := Cond.code y_Cs_append b_Cs_append 6 (some .int) :: TT
abbrev w_Cs_channelAt : List Cond := Cond.code y_Cs_channelAt b_Cs_channelAt 2 (some .int) :: TT
abbrev w_Cs_wayAt : List Cond := Cond.code y_Cs_wayAt b_Cs_wayAt 2 (some .int) :: TT
abbrev w_Cs_valueAt : List Cond := Cond.code y_Cs_valueAt b_Cs_valueAt 2 (some .int) :: TT
abbrev w_Cs_firstAt : List Cond := Cond.code y_Cs_firstAt b_Cs_firstAt 6 (some .int) :: TT
abbrev w_Ch_init : List Cond := Cond.code y_Ch_init b_Ch_init 1 none :: TT
abbrev w_Ch_forgetAll : List Cond := Cond.code y_Ch_forgetAll b_Ch_forgetAll 1 none :: TT
abbrev w_Ch_number : List Cond := Cond.code y_Ch_number b_Ch_number 1 (some .int) :: TT
abbrev w_Ch_has : List Cond := Cond.code y_Ch_has b_Ch_has 2 (some .boolean) :: TT
abbrev w_Ch_open : List Cond := Cond.code y_Ch_open b_Ch_open 3 (some .int) :: TT
abbrev w_Ch_shut : List Cond := Cond.code y_Ch_shut b_Ch_shut 2 none :: TT
abbrev w_Ch_isShut : List Cond := Cond.code y_Ch_isShut b_Ch_isShut 2 (some .boolean) :: TT
abbrev w_Ch_roomOf : List Cond := Cond.code y_Ch_roomOf b_Ch_roomOf 2 (some .int) :: TT
abbrev w_Ch_held : List Cond := Cond.code y_Ch_held b_Ch_held 2 (some .int) :: TT
abbrev w_Ch_hasSpace : List Cond := Cond.code y_Ch_hasSpace b_Ch_hasSpace 2 (some .boolean) :: TT
abbrev w_Ch_valueAt : List Cond := Cond.code y_Ch_valueAt b_Ch_valueAt 3 (some .int) :: TT
abbrev w_Ch_put : List Cond := Cond.code y_Ch_put b_Ch_put 3 (some .boolean) :: TT
abbrev w_Ch_takeFirst : List Cond := Cond.code y_Ch_takeFirst b_Ch_takeFirst 4 (some .int) :: TT
abbrev w_Ln_init : List Cond := Cond.code y_Ln_init b_Ln_init 1 none :: TT
abbrev w_Ln_empty : List Cond := Cond.code y_Ln_empty b_Ln_empty 1 none :: TT
abbrev w_Ln_length : List Cond := Cond.code y_Ln_length b_Ln_length 1 (some .int) :: TT
abbrev w_Ln_memberAt : List Cond := Cond.code y_Ln_memberAt b_Ln_memberAt 2 (some .int) :: TT
abbrev w_Ln_join : List Cond := Cond.code y_Ln_join b_Ln_join 2 none :: TT
abbrev w_Ln_leave : List Cond := Cond.code y_Ln_leave b_Ln_leave 4 none :: TT
abbrev w_Ar_fill : List Cond := Cond.code y_Ar_fill b_Ar_fill 4 none :: TT
theorem uw_Cs : ∀ w ∈ u_ws R_Cs T_Cs 4, w ∈ TT := List.forall_mem_cons.mpr ⟨t_73, List.forall_mem_cons.mpr ⟨t_74, List.forall_mem_cons.mpr ⟨t_75, List.forall_mem_cons.mpr ⟨t_76, fun _ h => absurd h List.not_mem_nil⟩⟩⟩⟩
theorem uw_Ch : ∀ w ∈ u_ws R_Ch T_Ch 5, w ∈ TT := List.forall_mem_cons.mpr ⟨t_57, List.forall_mem_cons.mpr ⟨t_58, List.forall_mem_cons.mpr ⟨t_59, List.forall_mem_cons.mpr ⟨t_60, List.forall_mem_cons.mpr ⟨t_61, fun _ h => absurd h List.not_mem_nil⟩⟩⟩⟩⟩
theorem uw_Ln : ∀ w ∈ u_ws R_Ln T_Ln 2, w ∈ TT := List.forall_mem_cons.mpr ⟨t_84, List.forall_mem_cons.mpr ⟨t_85, fun _ h => absurd h List.not_mem_nil⟩⟩
theorem uw_Dk : ∀ w ∈ u_ws R_Dk T_Dk 9, w ∈ TT := List.forall_mem_cons.mpr ⟨t_114, List.forall_mem_cons.mpr ⟨t_115, List.forall_mem_cons.mpr ⟨t_116, List.forall_mem_cons.mpr ⟨t_117, List.forall_mem_cons.mpr ⟨t_118, List.forall_mem_cons.mpr ⟨t_119, List.forall_mem_cons.mpr ⟨t_120, List.forall_mem_cons.mpr ⟨t_121, List.forall_mem_cons.mpr ⟨t_122, fun _ h => absurd h List.not_mem_nil⟩⟩⟩⟩⟩⟩⟩⟩⟩
theorem uw_Md : ∀ w ∈ u_ws R_Md T_Md 19, w ∈ TT := List.forall_mem_cons.mpr ⟨t_356, List.forall_mem_cons.mpr ⟨t_357, List.forall_mem_cons.mpr ⟨t_358, List.forall_mem_cons.mpr ⟨t_359, List.forall_mem_cons.mpr ⟨t_360, List.forall_mem_cons.mpr ⟨t_361, List.forall_mem_cons.mpr ⟨t_362, List.forall_mem_cons.mpr ⟨t_363, List.forall_mem_cons.mpr ⟨t_364, List.forall_mem_cons.mpr ⟨t_365, List.forall_mem_cons.mpr ⟨t_366, List.forall_mem_cons.mpr ⟨t_367, List.forall_mem_cons.mpr ⟨t_368, List.forall_mem_cons.mpr ⟨t_369, List.forall_mem_cons.mpr ⟨t_370, List.forall_mem_cons.mpr ⟨t_371, List.forall_mem_cons.mpr ⟨t_372, List.forall_mem_cons.mpr ⟨t_373, List.forall_mem_cons.mpr ⟨t_374, fun _ h => absurd h List.not_mem_nil⟩⟩⟩⟩⟩⟩⟩⟩⟩⟩⟩⟩⟩⟩⟩⟩⟩⟩⟩
abbrev vwCl : List vw_C := [(R_Cs, T_Cs, 4), (R_Ch, T_Ch, 5), (R_Ln, T_Ln, 2), (R_Dk, T_Dk, 9), (R_Md, T_Md, 19)]
theorem gV {own C : String} {i : Nat} {y : MethodName} {cd : Cond} (h1 : Cond.methodLink own i y ∈ TT) (h2 : Cond.instanceMethod y ∈ TT) (h3 : Cond.selects C y y ∈ TT) (h4 : Cond.initialized C ∈ TT) (h5 : cd ∈ TT) : GoodIn TT (wsV own i C y (cd :: TT)) := by
  have h : ∀ w ∈ wsV own i C y (cd :: TT), w ∈ TT := List.forall_mem_cons.mpr ⟨h1, List.forall_mem_cons.mpr ⟨h2, List.forall_mem_cons.mpr ⟨h3, List.forall_mem_cons.mpr ⟨h4, List.forall_mem_cons.mpr ⟨h5, fun _ h => h⟩⟩⟩⟩⟩
  exact fun w hw => ⟨h w hw, TT_good w (h w hw)⟩
theorem gS {own : String} {i : Nat} {y : MethodName} {cd : Cond} (h1 : Cond.methodLink own i y ∈ TT) (h2 : Cond.static y ∈ TT) (h3 : Cond.initialized y.cls ∈ TT) (h5 : cd ∈ TT) : GoodIn TT (va_wsS own i y (cd :: TT)) := by
  have h : ∀ w ∈ va_wsS own i y (cd :: TT), w ∈ TT := List.forall_mem_cons.mpr ⟨h1, List.forall_mem_cons.mpr ⟨h2, List.forall_mem_cons.mpr ⟨h3, List.forall_mem_cons.mpr ⟨h5, fun _ h => h⟩⟩⟩⟩
  exact fun w hw => ⟨h w hw, TT_good w (h w hw)⟩
theorem gI {cd : Cond} (h5 : cd ∈ TT) : GoodIn TT (cd :: TT) := by
  have h : ∀ w ∈ cd :: TT, w ∈ TT := List.forall_mem_cons.mpr ⟨h5, fun _ h => h⟩
  exact fun w hw => ⟨h w hw, TT_good w (h w hw)⟩
