-- ===== PART A: goes FIRST, ahead of the names: the tables' words, and 'selects' of the private methods out of them =====
/-- a private method of a class that the tables say can be made, by its rows of tables_1 -/
def lw_okq (q : MethodName × Nat) : Prop := (q.1.cls ≠ "java/lang/invoke/MethodHandle" ∧ q.1.cls ≠ "java/lang/invoke/VarHandle") ∧ Cond.instantiable q.1.cls q.2 ∈ tables_1 ∧ Cond.privateMethod q.1 ∈ tables_1 ∧ Cond.instanceMethod q.1 ∈ tables_1
theorem lw_p0 : lw_okq (⟨"TelemetryTree", "isNode", "(I)Z"⟩, 4) := ⟨⟨by decide +kernel, by decide +kernel⟩, List.mem_of_getElem? (i := 10) (by decide +kernel), List.mem_of_getElem? (i := 175) (by decide +kernel), List.mem_of_getElem? (i := 176) (by decide +kernel)⟩
theorem lw_p1 : lw_okq (⟨"TelemetryTree", "isLeaf", "(I)Z"⟩, 4) := ⟨⟨by decide +kernel, by decide +kernel⟩, List.mem_of_getElem? (i := 10) (by decide +kernel), List.mem_of_getElem? (i := 183) (by decide +kernel), List.mem_of_getElem? (i := 184) (by decide +kernel)⟩
theorem lw_p2 : lw_okq (⟨"TelemetryTree", "forgetChildren", "(I)V"⟩, 4) := ⟨⟨by decide +kernel, by decide +kernel⟩, List.mem_of_getElem? (i := 10) (by decide +kernel), List.mem_of_getElem? (i := 250) (by decide +kernel), List.mem_of_getElem? (i := 251) (by decide +kernel)⟩
theorem lw_p3 : lw_okq (⟨"TelemetryTree", "mergeKept", "(I)V"⟩, 4) := ⟨⟨by decide +kernel, by decide +kernel⟩, List.mem_of_getElem? (i := 10) (by decide +kernel), List.mem_of_getElem? (i := 254) (by decide +kernel), List.mem_of_getElem? (i := 255) (by decide +kernel)⟩
theorem lw_p4 : lw_okq (⟨"TelemetryTree", "freeSlot", "()I"⟩, 4) := ⟨⟨by decide +kernel, by decide +kernel⟩, List.mem_of_getElem? (i := 10) (by decide +kernel), List.mem_of_getElem? (i := 286) (by decide +kernel), List.mem_of_getElem? (i := 287) (by decide +kernel)⟩
theorem lw_p5 : lw_okq (⟨"TelemetryTree", "slotWithNumber", "(I)I"⟩, 4) := ⟨⟨by decide +kernel, by decide +kernel⟩, List.mem_of_getElem? (i := 10) (by decide +kernel), List.mem_of_getElem? (i := 290) (by decide +kernel), List.mem_of_getElem? (i := 291) (by decide +kernel)⟩
theorem lw_p6 : lw_okq (⟨"TelemetryTree", "slotOf", "(I)I"⟩, 4) := ⟨⟨by decide +kernel, by decide +kernel⟩, List.mem_of_getElem? (i := 10) (by decide +kernel), List.mem_of_getElem? (i := 309) (by decide +kernel), List.mem_of_getElem? (i := 310) (by decide +kernel)⟩
theorem lw_p7 : lw_okq (⟨"TelemetryTreeModel", "isNode", "(I)Z"⟩, 22) := ⟨⟨by decide +kernel, by decide +kernel⟩, List.mem_of_getElem? (i := 391) (by decide +kernel), List.mem_of_getElem? (i := 469) (by decide +kernel), List.mem_of_getElem? (i := 470) (by decide +kernel)⟩
theorem lw_p8 : lw_okq (⟨"TelemetryTreeModel", "leafNode", "(I)Z"⟩, 22) := ⟨⟨by decide +kernel, by decide +kernel⟩, List.mem_of_getElem? (i := 391) (by decide +kernel), List.mem_of_getElem? (i := 477) (by decide +kernel), List.mem_of_getElem? (i := 478) (by decide +kernel)⟩
theorem lw_p9 : lw_okq (⟨"TelemetryTreeModel", "writeBlock", "(I)V"⟩, 22) := ⟨⟨by decide +kernel, by decide +kernel⟩, List.mem_of_getElem? (i := 391) (by decide +kernel), List.mem_of_getElem? (i := 481) (by decide +kernel), List.mem_of_getElem? (i := 482) (by decide +kernel)⟩
theorem lw_p10 : lw_okq (⟨"TelemetryTreeModel", "freePlace", "()I"⟩, 22) := ⟨⟨by decide +kernel, by decide +kernel⟩, List.mem_of_getElem? (i := 391) (by decide +kernel), List.mem_of_getElem? (i := 497) (by decide +kernel), List.mem_of_getElem? (i := 498) (by decide +kernel)⟩
theorem lw_p11 : lw_okq (⟨"TelemetryTreeModel", "know", "(I)V"⟩, 22) := ⟨⟨by decide +kernel, by decide +kernel⟩, List.mem_of_getElem? (i := 391) (by decide +kernel), List.mem_of_getElem? (i := 501) (by decide +kernel), List.mem_of_getElem? (i := 502) (by decide +kernel)⟩
theorem lw_p12 : lw_okq (⟨"TelemetryTreeModel", "placeOf", "(I)I"⟩, 22) := ⟨⟨by decide +kernel, by decide +kernel⟩, List.mem_of_getElem? (i := 391) (by decide +kernel), List.mem_of_getElem? (i := 509) (by decide +kernel), List.mem_of_getElem? (i := 510) (by decide +kernel)⟩
theorem lw_p13 : lw_okq (⟨"TelemetryTreeModel", "work", "(I)V"⟩, 22) := ⟨⟨by decide +kernel, by decide +kernel⟩, List.mem_of_getElem? (i := 391) (by decide +kernel), List.mem_of_getElem? (i := 546) (by decide +kernel), List.mem_of_getElem? (i := 547) (by decide +kernel)⟩
theorem lw_p14 : lw_okq (⟨"TelemetryTreeModel", "clear", "(I)V"⟩, 22) := ⟨⟨by decide +kernel, by decide +kernel⟩, List.mem_of_getElem? (i := 391) (by decide +kernel), List.mem_of_getElem? (i := 550) (by decide +kernel), List.mem_of_getElem? (i := 551) (by decide +kernel)⟩
theorem lw_p15 : lw_okq (⟨"TelemetryTreeModel", "take", "(II)V"⟩, 22) := ⟨⟨by decide +kernel, by decide +kernel⟩, List.mem_of_getElem? (i := 391) (by decide +kernel), List.mem_of_getElem? (i := 554) (by decide +kernel), List.mem_of_getElem? (i := 555) (by decide +kernel)⟩
def lw_privs_1 : List (MethodName × Nat) := [(⟨"TelemetryTree", "isNode", "(I)Z"⟩, 4), (⟨"TelemetryTree", "isLeaf", "(I)Z"⟩, 4), (⟨"TelemetryTree", "forgetChildren", "(I)V"⟩, 4), (⟨"TelemetryTree", "mergeKept", "(I)V"⟩, 4), (⟨"TelemetryTree", "freeSlot", "()I"⟩, 4), (⟨"TelemetryTree", "slotWithNumber", "(I)I"⟩, 4), (⟨"TelemetryTree", "slotOf", "(I)I"⟩, 4), (⟨"TelemetryTreeModel", "isNode", "(I)Z"⟩, 22), (⟨"TelemetryTreeModel", "leafNode", "(I)Z"⟩, 22), (⟨"TelemetryTreeModel", "writeBlock", "(I)V"⟩, 22), (⟨"TelemetryTreeModel", "freePlace", "()I"⟩, 22), (⟨"TelemetryTreeModel", "know", "(I)V"⟩, 22), (⟨"TelemetryTreeModel", "placeOf", "(I)I"⟩, 22), (⟨"TelemetryTreeModel", "work", "(I)V"⟩, 22), (⟨"TelemetryTreeModel", "clear", "(I)V"⟩, 22), (⟨"TelemetryTreeModel", "take", "(II)V"⟩, 22)]
theorem lw_r1 : ∀ q ∈ lw_privs_1, lw_okq q := List.forall_mem_cons.mpr ⟨lw_p0, List.forall_mem_cons.mpr ⟨lw_p1, List.forall_mem_cons.mpr ⟨lw_p2, List.forall_mem_cons.mpr ⟨lw_p3, List.forall_mem_cons.mpr ⟨lw_p4, List.forall_mem_cons.mpr ⟨lw_p5, List.forall_mem_cons.mpr ⟨lw_p6, List.forall_mem_cons.mpr ⟨lw_p7, List.forall_mem_cons.mpr ⟨lw_p8, List.forall_mem_cons.mpr ⟨lw_p9, List.forall_mem_cons.mpr ⟨lw_p10, List.forall_mem_cons.mpr ⟨lw_p11, List.forall_mem_cons.mpr ⟨lw_p12, List.forall_mem_cons.mpr ⟨lw_p13, List.forall_mem_cons.mpr ⟨lw_p14, List.forall_mem_cons.mpr ⟨lw_p15, fun _ h => absurd h List.not_mem_nil⟩⟩⟩⟩⟩⟩⟩⟩⟩⟩⟩⟩⟩⟩⟩⟩
theorem lw_p16 : lw_okq (⟨"TelemetryTreeModel", "counters", "(I)I"⟩, 22) := ⟨⟨by decide +kernel, by decide +kernel⟩, List.mem_of_getElem? (i := 391) (by decide +kernel), List.mem_of_getElem? (i := 558) (by decide +kernel), List.mem_of_getElem? (i := 559) (by decide +kernel)⟩
theorem lw_p17 : lw_okq (⟨"TelemetryTreeModel", "lower", "(II)V"⟩, 22) := ⟨⟨by decide +kernel, by decide +kernel⟩, List.mem_of_getElem? (i := 391) (by decide +kernel), List.mem_of_getElem? (i := 562) (by decide +kernel), List.mem_of_getElem? (i := 563) (by decide +kernel)⟩
theorem lw_p18 : lw_okq (⟨"TelemetryTreeModel", "compress", "(I)V"⟩, 22) := ⟨⟨by decide +kernel, by decide +kernel⟩, List.mem_of_getElem? (i := 391) (by decide +kernel), List.mem_of_getElem? (i := 566) (by decide +kernel), List.mem_of_getElem? (i := 567) (by decide +kernel)⟩
theorem lw_p19 : lw_okq (⟨"TelemetryTreeModel", "merge", "(II)V"⟩, 22) := ⟨⟨by decide +kernel, by decide +kernel⟩, List.mem_of_getElem? (i := 391) (by decide +kernel), List.mem_of_getElem? (i := 570) (by decide +kernel), List.mem_of_getElem? (i := 571) (by decide +kernel)⟩
theorem lw_p20 : lw_okq (⟨"TelemetryTreeModel", "clearUsed", "()V"⟩, 22) := ⟨⟨by decide +kernel, by decide +kernel⟩, List.mem_of_getElem? (i := 391) (by decide +kernel), List.mem_of_getElem? (i := 574) (by decide +kernel), List.mem_of_getElem? (i := 575) (by decide +kernel)⟩
theorem lw_p21 : lw_okq (⟨"TelemetryTreeModel", "greatestUnused", "(I)I"⟩, 22) := ⟨⟨by decide +kernel, by decide +kernel⟩, List.mem_of_getElem? (i := 391) (by decide +kernel), List.mem_of_getElem? (i := 578) (by decide +kernel), List.mem_of_getElem? (i := 579) (by decide +kernel)⟩
def lw_privs_2 : List (MethodName × Nat) := [(⟨"TelemetryTreeModel", "counters", "(I)I"⟩, 22), (⟨"TelemetryTreeModel", "lower", "(II)V"⟩, 22), (⟨"TelemetryTreeModel", "compress", "(I)V"⟩, 22), (⟨"TelemetryTreeModel", "merge", "(II)V"⟩, 22), (⟨"TelemetryTreeModel", "clearUsed", "()V"⟩, 22), (⟨"TelemetryTreeModel", "greatestUnused", "(I)I"⟩, 22)]
theorem lw_r2 : ∀ q ∈ lw_privs_2, lw_okq q := List.forall_mem_cons.mpr ⟨lw_p16, List.forall_mem_cons.mpr ⟨lw_p17, List.forall_mem_cons.mpr ⟨lw_p18, List.forall_mem_cons.mpr ⟨lw_p19, List.forall_mem_cons.mpr ⟨lw_p20, List.forall_mem_cons.mpr ⟨lw_p21, fun _ h => absurd h List.not_mem_nil⟩⟩⟩⟩⟩⟩
def lw_privs : List (MethodName × Nat) := lw_privs_1 ++ (lw_privs_2)
def lw_tbl : List Cond := k2_sels lw_privs ++ tables_1
theorem lw_privs_ok : ∀ q ∈ lw_privs, lw_okq q := by
  show ∀ q ∈ lw_privs_1 ++ (lw_privs_2), lw_okq q
  exact List.forall_mem_append.mpr ⟨lw_r1, lw_r2⟩
def R_C : String := "TelemetryTree$Counters"
def F_C : u_T := fun k => match k with
  | 0 => ("TelemetryTree$Counters", "limit", "I", true)
  | _ => ("TelemetryTree$Counters", "counts", "[I", true)
def ty_C : Nat → FieldType := fun k => match k with
  | 0 => .int
  | _ => .array .int
theorem n_C : ∀ a, a < 2 → ∀ b, b < 2 → a ≠ b → (F_C a).2.1 ≠ (F_C b).2.1 := by decide +kernel
theorem ty_C_ok : ∀ k, k < 2 → parseFieldDescriptor (F_C k).2.2.1 = some (ty_C k) := by decide +kernel
def R_D : String := "TelemetryTree$Digest"
def F_D : u_T := fun k => match k with
  | 0 => ("TelemetryTree$Digest", "divisor", "I", true)
  | _ => ("TelemetryTree$Digest", "counts", "[I", true)
def ty_D : Nat → FieldType := fun k => match k with
  | 0 => .int
  | _ => .array .int
theorem n_D : ∀ a, a < 2 → ∀ b, b < 2 → a ≠ b → (F_D a).2.1 ≠ (F_D b).2.1 := by decide +kernel
theorem ty_D_ok : ∀ k, k < 2 → parseFieldDescriptor (F_D k).2.2.1 = some (ty_D k) := by decide +kernel
def R_M : String := "TelemetryTree$Message"
def F_M : u_T := fun k => match k with
  | 0 => ("TelemetryTree$Message", "number", "I", false)
  | 1 => ("TelemetryTree$Message", "sender", "I", false)
  | 2 => ("TelemetryTree$Message", "version", "I", false)
  | _ => ("TelemetryTree$Message", "summary", "LTelemetryTree$Summary;", true)
def ty_M : Nat → FieldType := fun k => match k with
  | 0 => .int
  | 1 => .int
  | 2 => .int
  | _ => .object "TelemetryTree$Summary"
theorem n_M : ∀ a, a < 4 → ∀ b, b < 4 → a ≠ b → (F_M a).2.1 ≠ (F_M b).2.1 := by decide +kernel
theorem ty_M_ok : ∀ k, k < 4 → parseFieldDescriptor (F_M k).2.2.1 = some (ty_M k) := by decide +kernel
def R_N : String := "TelemetryTree$Node"
def F_N : u_T := fun k => match k with
  | 0 => ("TelemetryTree$Node", "number", "I", true)
  | 1 => ("TelemetryTree$Node", "parent", "I", false)
  | 2 => ("TelemetryTree$Node", "leaf", "Z", false)
  | 3 => ("TelemetryTree$Node", "open", "[I", true)
  | 4 => ("TelemetryTree$Node", "openCount", "I", false)
  | 5 => ("TelemetryTree$Node", "reports", "I", false)
  | 6 => ("TelemetryTree$Node", "summary", "LTelemetryTree$Summary;", true)
  | 7 => ("TelemetryTree$Node", "kept", "LTelemetryTree$Summary;", true)
  | _ => ("TelemetryTree$Node", "keptVersion", "I", false)
def ty_N : Nat → FieldType := fun k => match k with
  | 0 => .int
  | 1 => .int
  | 2 => .boolean
  | 3 => .array .int
  | 4 => .int
  | 5 => .int
  | 6 => .object "TelemetryTree$Summary"
  | 7 => .object "TelemetryTree$Summary"
  | _ => .int
theorem n_N : ∀ a, a < 9 → ∀ b, b < 9 → a ≠ b → (F_N a).2.1 ≠ (F_N b).2.1 := by decide +kernel
theorem ty_N_ok : ∀ k, k < 9 → parseFieldDescriptor (F_N k).2.2.1 = some (ty_N k) := by decide +kernel
def R_S : String := "TelemetryTree$Summary"
def F_S : u_T := fun k => match k with
  | 0 => ("TelemetryTree$Summary", "n", "I", false)
  | 1 => ("TelemetryTree$Summary", "itemSum", "J", false)
  | 2 => ("TelemetryTree$Summary", "least", "I", false)
  | 3 => ("TelemetryTree$Summary", "greatest", "I", false)
  | 4 => ("TelemetryTree$Summary", "fromLeaf", "[I", true)
  | 5 => ("TelemetryTree$Summary", "counters", "LTelemetryTree$Counters;", true)
  | _ => ("TelemetryTree$Summary", "digest", "LTelemetryTree$Digest;", true)
def ty_S : Nat → FieldType := fun k => match k with
  | 0 => .int
  | 1 => .long
  | 2 => .int
  | 3 => .int
  | 4 => .array .int
  | 5 => .object "TelemetryTree$Counters"
  | _ => .object "TelemetryTree$Digest"
theorem n_S : ∀ a, a < 7 → ∀ b, b < 7 → a ≠ b → (F_S a).2.1 ≠ (F_S b).2.1 := by decide +kernel
theorem ty_S_ok : ∀ k, k < 7 → parseFieldDescriptor (F_S k).2.2.1 = some (ty_S k) := by decide +kernel
def R_T : String := "TelemetryTree"
def F_T : u_T := fun k => match k with
  | 0 => ("TelemetryTree", "nodes", "[LTelemetryTree$Node;", true)
  | 1 => ("TelemetryTree", "nodeCount", "I", false)
  | 2 => ("TelemetryTree", "slots", "[LTelemetryTree$Message;", true)
  | _ => ("TelemetryTree", "lastMessage", "I", false)
def ty_T : Nat → FieldType := fun k => match k with
  | 0 => .array (.object "TelemetryTree$Node")
  | 1 => .int
  | 2 => .array (.object "TelemetryTree$Message")
  | _ => .int
theorem n_T : ∀ a, a < 4 → ∀ b, b < 4 → a ≠ b → (F_T a).2.1 ≠ (F_T b).2.1 := by decide +kernel
theorem ty_T_ok : ∀ k, k < 4 → parseFieldDescriptor (F_T k).2.2.1 = some (ty_T k) := by decide +kernel
def R_R : String := "TelemetryTreeModel"
def F_R : u_T := fun k => match k with
  | 0 => ("TelemetryTreeModel", "k", "I", false)
  | 1 => ("TelemetryTreeModel", "d", "I", false)
  | 2 => ("TelemetryTreeModel", "nodes", "I", false)
  | 3 => ("TelemetryTreeModel", "up", "[I", false)
  | 4 => ("TelemetryTreeModel", "isLeaf", "[Z", false)
  | 5 => ("TelemetryTreeModel", "reports", "[I", false)
  | 6 => ("TelemetryTreeModel", "journal", "[I", false)
  | 7 => ("TelemetryTreeModel", "written", "[I", false)
  | 8 => ("TelemetryTreeModel", "open", "[I", false)
  | 9 => ("TelemetryTreeModel", "opened", "[I", false)
  | 10 => ("TelemetryTreeModel", "keptVersion", "[I", false)
  | 11 => ("TelemetryTreeModel", "kept", "[I", false)
  | 12 => ("TelemetryTreeModel", "messages", "I", false)
  | 13 => ("TelemetryTreeModel", "number", "[I", false)
  | 14 => ("TelemetryTreeModel", "sender", "[I", false)
  | 15 => ("TelemetryTreeModel", "version", "[I", false)
  | 16 => ("TelemetryTreeModel", "carried", "[I", false)
  | 17 => ("TelemetryTreeModel", "known", "[I", false)
  | 18 => ("TelemetryTreeModel", "n", "[I", false)
  | 19 => ("TelemetryTreeModel", "counter", "[I", false)
  | 20 => ("TelemetryTreeModel", "digest", "[I", false)
  | _ => ("TelemetryTreeModel", "used", "[Z", false)
def ty_R : Nat → FieldType := fun k => match k with
  | 0 => .int
  | 1 => .int
  | 2 => .int
  | 3 => .array .int
  | 4 => .array .boolean
  | 5 => .array .int
  | 6 => .array .int
  | 7 => .array .int
  | 8 => .array .int
  | 9 => .array .int
  | 10 => .array .int
  | 11 => .array .int
  | 12 => .int
  | 13 => .array .int
  | 14 => .array .int
  | 15 => .array .int
  | 16 => .array .int
  | 17 => .array .int
  | 18 => .array .int
  | 19 => .array .int
  | 20 => .array .int
  | _ => .array .boolean
theorem n_R : ∀ a, a < 22 → ∀ b, b < 22 → a ≠ b → (F_R a).2.1 ≠ (F_R b).2.1 := by decide +kernel
theorem ty_R_ok : ∀ k, k < 22 → parseFieldDescriptor (F_R k).2.2.1 = some (ty_R k) := by decide +kernel
def R_L : String := "TelemetryTreeLaw"
abbrev classes : List vw_C := [(R_C, F_C, 2), (R_D, F_D, 2), (R_M, F_M, 4), (R_N, F_N, 9), (R_S, F_S, 7), (R_T, F_T, 4), (R_R, F_R, 22)]
abbrev b_T_init : ByteArray := prog_1_method_1_code
def y_T_init : MethodName := ⟨R_T, "<init>", "(II)V"⟩
abbrev b_T_attach : ByteArray := prog_1_method_2_code
def y_T_attach : MethodName := ⟨R_T, "attach", "(IZ)I"⟩
abbrev b_T_add : ByteArray := prog_1_method_3_code
def y_T_add : MethodName := ⟨R_T, "add", "(II)Z"⟩
abbrev b_T_flush : ByteArray := prog_1_method_4_code
def y_T_flush : MethodName := ⟨R_T, "flush", "(I)I"⟩
abbrev b_T_crash : ByteArray := prog_1_method_5_code
def y_T_crash : MethodName := ⟨R_T, "crash", "(I)Z"⟩
abbrev b_T_report : ByteArray := prog_1_method_6_code
def y_T_report : MethodName := ⟨R_T, "report", "(I)I"⟩
abbrev b_T_copy : ByteArray := prog_1_method_7_code
def y_T_copy : MethodName := ⟨R_T, "copy", "(I)I"⟩
abbrev b_T_drop : ByteArray := prog_1_method_8_code
def y_T_drop : MethodName := ⟨R_T, "drop", "(I)Z"⟩
abbrev b_T_deliver : ByteArray := prog_1_method_9_code
def y_T_deliver : MethodName := ⟨R_T, "deliver", "(I)I"⟩
abbrev b_T_onTheWay : ByteArray := prog_1_method_10_code
def y_T_onTheWay : MethodName := ⟨R_T, "onTheWay", "()I"⟩
abbrev b_T_total : ByteArray := prog_1_method_11_code
def y_T_total : MethodName := ⟨R_T, "total", "(I)I"⟩
abbrev b_T_sum : ByteArray := prog_1_method_12_code
def y_T_sum : MethodName := ⟨R_T, "sum", "(I)J"⟩
abbrev b_T_extreme : ByteArray := prog_1_method_13_code
def y_T_extreme : MethodName := ⟨R_T, "extreme", "(IZ)I"⟩
abbrev b_T_covered : ByteArray := prog_1_method_14_code
def y_T_covered : MethodName := ⟨R_T, "covered", "(II)I"⟩
abbrev b_T_estimate : ByteArray := prog_1_method_15_code
def y_T_estimate : MethodName := ⟨R_T, "estimate", "(II)I"⟩
abbrev b_T_top : ByteArray := prog_1_method_16_code
def y_T_top : MethodName := ⟨R_T, "top", "(II)I"⟩
abbrev b_T_digestSize : ByteArray := prog_1_method_17_code
def y_T_digestSize : MethodName := ⟨R_T, "digestSize", "(I)I"⟩
abbrev b_T_below : ByteArray := prog_1_method_18_code
def y_T_below : MethodName := ⟨R_T, "below", "(IIZ)I"⟩
abbrev b_T_quantile : ByteArray := prog_1_method_19_code
def y_T_quantile : MethodName := ⟨R_T, "quantile", "(II)I"⟩
abbrev b_T_isNode : ByteArray := prog_1_method_20_code
def y_T_isNode : MethodName := ⟨R_T, "isNode", "(I)Z"⟩
abbrev b_T_isLeaf : ByteArray := prog_1_method_21_code
def y_T_isLeaf : MethodName := ⟨R_T, "isLeaf", "(I)Z"⟩
abbrev b_T_isValue : ByteArray := prog_1_method_22_code
def y_T_isValue : MethodName := ⟨R_T, "isValue", "(I)Z"⟩
abbrev b_T_slotOf : ByteArray := prog_1_method_23_code
def y_T_slotOf : MethodName := ⟨R_T, "slotOf", "(I)I"⟩
abbrev b_T_freeSlot : ByteArray := prog_1_method_24_code
def y_T_freeSlot : MethodName := ⟨R_T, "freeSlot", "()I"⟩
abbrev b_T_slotWithNumber : ByteArray := prog_1_method_25_code
def y_T_slotWithNumber : MethodName := ⟨R_T, "slotWithNumber", "(I)I"⟩
abbrev b_T_forgetChildren : ByteArray := prog_1_method_26_code
def y_T_forgetChildren : MethodName := ⟨R_T, "forgetChildren", "(I)V"⟩
abbrev b_T_mergeKept : ByteArray := prog_1_method_27_code
def y_T_mergeKept : MethodName := ⟨R_T, "mergeKept", "(I)V"⟩
abbrev b_T_clear : ByteArray := prog_1_method_28_code
def y_T_clear : MethodName := ⟨R_T, "clear", "([I)V"⟩
abbrev b_T_overwrite : ByteArray := prog_1_method_29_code
def y_T_overwrite : MethodName := ⟨R_T, "overwrite", "([I[I)V"⟩
abbrev b_T_addTo : ByteArray := prog_1_method_30_code
def y_T_addTo : MethodName := ⟨R_T, "addTo", "([I[I)V"⟩
abbrev b_R_init : ByteArray := prog_8_method_1_code
def y_R_init : MethodName := ⟨R_R, "<init>", "(II)V"⟩
abbrev b_R_isNode : ByteArray := prog_8_method_2_code
def y_R_isNode : MethodName := ⟨R_R, "isNode", "(I)Z"⟩
abbrev b_R_leafNode : ByteArray := prog_8_method_3_code
def y_R_leafNode : MethodName := ⟨R_R, "leafNode", "(I)Z"⟩
abbrev b_R_attach : ByteArray := prog_8_method_4_code
def y_R_attach : MethodName := ⟨R_R, "attach", "(IZ)I"⟩
abbrev b_R_add : ByteArray := prog_8_method_5_code
def y_R_add : MethodName := ⟨R_R, "add", "(II)Z"⟩
abbrev b_R_writeBlock : ByteArray := prog_8_method_6_code
def y_R_writeBlock : MethodName := ⟨R_R, "writeBlock", "(I)V"⟩
abbrev b_R_flush : ByteArray := prog_8_method_7_code
def y_R_flush : MethodName := ⟨R_R, "flush", "(I)I"⟩
abbrev b_R_crash : ByteArray := prog_8_method_8_code
def y_R_crash : MethodName := ⟨R_R, "crash", "(I)Z"⟩
abbrev b_R_placeOf : ByteArray := prog_8_method_9_code
def y_R_placeOf : MethodName := ⟨R_R, "placeOf", "(I)I"⟩
abbrev b_R_freePlace : ByteArray := prog_8_method_10_code
def y_R_freePlace : MethodName := ⟨R_R, "freePlace", "()I"⟩
abbrev b_R_report : ByteArray := prog_8_method_11_code
def y_R_report : MethodName := ⟨R_R, "report", "(I)I"⟩
abbrev b_R_copy : ByteArray := prog_8_method_12_code
def y_R_copy : MethodName := ⟨R_R, "copy", "(I)I"⟩
abbrev b_R_drop : ByteArray := prog_8_method_13_code
def y_R_drop : MethodName := ⟨R_R, "drop", "(I)Z"⟩
abbrev b_R_deliver : ByteArray := prog_8_method_14_code
def y_R_deliver : MethodName := ⟨R_R, "deliver", "(I)I"⟩
abbrev b_R_onTheWay : ByteArray := prog_8_method_15_code
def y_R_onTheWay : MethodName := ⟨R_R, "onTheWay", "()I"⟩
abbrev b_R_know : ByteArray := prog_8_method_16_code
def y_R_know : MethodName := ⟨R_R, "know", "(I)V"⟩
abbrev b_R_work : ByteArray := prog_8_method_17_code
def y_R_work : MethodName := ⟨R_R, "work", "(I)V"⟩
abbrev b_R_clear : ByteArray := prog_8_method_18_code
def y_R_clear : MethodName := ⟨R_R, "clear", "(I)V"⟩
abbrev b_R_counters : ByteArray := prog_8_method_19_code
def y_R_counters : MethodName := ⟨R_R, "counters", "(I)I"⟩
abbrev b_R_lower : ByteArray := prog_8_method_20_code
def y_R_lower : MethodName := ⟨R_R, "lower", "(II)V"⟩
abbrev b_R_take : ByteArray := prog_8_method_21_code
def y_R_take : MethodName := ⟨R_R, "take", "(II)V"⟩
abbrev b_R_merge : ByteArray := prog_8_method_22_code
def y_R_merge : MethodName := ⟨R_R, "merge", "(II)V"⟩
abbrev b_R_clearUsed : ByteArray := prog_8_method_23_code
def y_R_clearUsed : MethodName := ⟨R_R, "clearUsed", "()V"⟩
abbrev b_R_greatestUnused : ByteArray := prog_8_method_24_code
def y_R_greatestUnused : MethodName := ⟨R_R, "greatestUnused", "(I)I"⟩
abbrev b_R_compress : ByteArray := prog_8_method_25_code
def y_R_compress : MethodName := ⟨R_R, "compress", "(I)V"⟩
abbrev b_R_total : ByteArray := prog_8_method_26_code
def y_R_total : MethodName := ⟨R_R, "total", "(I)I"⟩
abbrev b_R_sum : ByteArray := prog_8_method_27_code
def y_R_sum : MethodName := ⟨R_R, "sum", "(I)J"⟩
abbrev b_R_extreme : ByteArray := prog_8_method_28_code
def y_R_extreme : MethodName := ⟨R_R, "extreme", "(IZ)I"⟩
abbrev b_R_covered : ByteArray := prog_8_method_29_code
def y_R_covered : MethodName := ⟨R_R, "covered", "(II)I"⟩
abbrev b_R_estimate : ByteArray := prog_8_method_30_code
def y_R_estimate : MethodName := ⟨R_R, "estimate", "(II)I"⟩
abbrev b_R_top : ByteArray := prog_8_method_31_code
def y_R_top : MethodName := ⟨R_R, "top", "(II)I"⟩
abbrev b_R_digestSize : ByteArray := prog_8_method_32_code
def y_R_digestSize : MethodName := ⟨R_R, "digestSize", "(I)I"⟩
abbrev b_R_width : ByteArray := prog_8_method_33_code
def y_R_width : MethodName := ⟨R_R, "width", "(I)I"⟩
abbrev b_R_least : ByteArray := prog_8_method_34_code
def y_R_least : MethodName := ⟨R_R, "least", "(I)I"⟩
abbrev b_R_below : ByteArray := prog_8_method_35_code
def y_R_below : MethodName := ⟨R_R, "below", "(IIZ)I"⟩
abbrev b_R_quantile : ByteArray := prog_8_method_36_code
def y_R_quantile : MethodName := ⟨R_R, "quantile", "(II)I"⟩
abbrev b_C_init : ByteArray := prog_2_method_1_code
def y_C_init : MethodName := ⟨R_C, "<init>", "(I)V"⟩
abbrev b_C_take : ByteArray := prog_2_method_2_code
def y_C_take : MethodName := ⟨R_C, "take", "(I)V"⟩
abbrev b_C_merge : ByteArray := prog_2_method_3_code
def y_C_merge : MethodName := ⟨R_C, "merge", "(LTelemetryTree$Counters;)V"⟩
abbrev b_C_lowerAll : ByteArray := prog_2_method_4_code
def y_C_lowerAll : MethodName := ⟨R_C, "lowerAll", "(I)V"⟩
abbrev b_C_valueAtRank : ByteArray := prog_2_method_5_code
def y_C_valueAtRank : MethodName := ⟨R_C, "valueAtRank", "(I)I"⟩
abbrev b_C_rankOf : ByteArray := prog_2_method_6_code
def y_C_rankOf : MethodName := ⟨R_C, "rankOf", "(I)I"⟩
abbrev b_D_init : ByteArray := prog_3_method_1_code
def y_D_init : MethodName := ⟨R_D, "<init>", "(I)V"⟩
abbrev b_D_take : ByteArray := prog_3_method_2_code
def y_D_take : MethodName := ⟨R_D, "take", "(II)V"⟩
abbrev b_D_merge : ByteArray := prog_3_method_3_code
def y_D_merge : MethodName := ⟨R_D, "merge", "(LTelemetryTree$Digest;I)V"⟩
abbrev b_D_compress : ByteArray := prog_3_method_4_code
def y_D_compress : MethodName := ⟨R_D, "compress", "(I)V"⟩
abbrev b_D_pass : ByteArray := prog_3_method_5_code
def y_D_pass : MethodName := ⟨R_D, "pass", "(I)Z"⟩
abbrev b_D_rangesInUse : ByteArray := prog_3_method_6_code
def y_D_rangesInUse : MethodName := ⟨R_D, "rangesInUse", "()I"⟩
abbrev b_D_endingBefore : ByteArray := prog_3_method_7_code
def y_D_endingBefore : MethodName := ⟨R_D, "endingBefore", "(I)I"⟩
abbrev b_D_startingBefore : ByteArray := prog_3_method_8_code
def y_D_startingBefore : MethodName := ⟨R_D, "startingBefore", "(I)I"⟩
abbrev b_D_endingAt : ByteArray := prog_3_method_9_code
def y_D_endingAt : MethodName := ⟨R_D, "endingAt", "(I)I"⟩
abbrev b_D_startingAt : ByteArray := prog_3_method_10_code
def y_D_startingAt : MethodName := ⟨R_D, "startingAt", "(I)I"⟩
abbrev b_D_valueReaching : ByteArray := prog_3_method_11_code
def y_D_valueReaching : MethodName := ⟨R_D, "valueReaching", "(I)I"⟩
abbrev b_M_init : ByteArray := prog_4_method_1_code
def y_M_init : MethodName := ⟨R_M, "<init>", "(II)V"⟩
abbrev b_M_send : ByteArray := prog_4_method_2_code
def y_M_send : MethodName := ⟨R_M, "send", "(IIILTelemetryTree$Summary;)V"⟩
abbrev b_N_init : ByteArray := prog_5_method_1_code
def y_N_init : MethodName := ⟨R_N, "<init>", "(III)V"⟩
abbrev b_N_itemCount : ByteArray := prog_5_method_2_code
def y_N_itemCount : MethodName := ⟨R_N, "itemCount", "()I"⟩
abbrev b_N_putIntoOpenBlock : ByteArray := prog_5_method_3_code
def y_N_putIntoOpenBlock : MethodName := ⟨R_N, "putIntoOpenBlock", "(I)V"⟩
abbrev b_N_writeOpenBlock : ByteArray := prog_5_method_4_code
def y_N_writeOpenBlock : MethodName := ⟨R_N, "writeOpenBlock", "()I"⟩
abbrev b_S_init : ByteArray := prog_6_method_1_code
def y_S_init : MethodName := ⟨R_S, "<init>", "(II)V"⟩
abbrev b_S_makeEmpty : ByteArray := prog_6_method_2_code
def y_S_makeEmpty : MethodName := ⟨R_S, "makeEmpty", "()V"⟩
abbrev b_S_setTo : ByteArray := prog_6_method_3_code
def y_S_setTo : MethodName := ⟨R_S, "setTo", "(LTelemetryTree$Summary;)V"⟩
abbrev b_S_take : ByteArray := prog_6_method_4_code
def y_S_take : MethodName := ⟨R_S, "take", "(II)V"⟩
abbrev b_S_merge : ByteArray := prog_6_method_5_code
def y_S_merge : MethodName := ⟨R_S, "merge", "(LTelemetryTree$Summary;)V"⟩
abbrev b_S_widen : ByteArray := prog_6_method_6_code
def y_S_widen : MethodName := ⟨R_S, "widen", "(II)V"⟩
abbrev b_L_cell : ByteArray := method_2_code
def y_L_cell : MethodName := ⟨R_L, "cell", "([II)I"⟩
/-- the words of the tables that any state keeps -/
def WG : List Cond := lw_tbl.filter goodWord
theorem wq {x w : Cond} (h : w ∈ WG) : w ∈ x :: WG := List.mem_cons_of_mem _ h
theorem wg1 {w : Cond} (h : w ∈ tables_1_1) (hg : goodWord w = true) : w ∈ WG := List.mem_filter.mpr ⟨List.mem_append_right _ (List.mem_append_left _ h), hg⟩
theorem wg2 {w : Cond} (h : w ∈ tables_1_2) (hg : goodWord w = true) : w ∈ WG := List.mem_filter.mpr ⟨List.mem_append_right _ (List.mem_append_right _ (List.mem_append_left _ h)), hg⟩
theorem wg3 {w : Cond} (h : w ∈ tables_1_3) (hg : goodWord w = true) : w ∈ WG := List.mem_filter.mpr ⟨List.mem_append_right _ (List.mem_append_right _ (List.mem_append_right _ h)), hg⟩
theorem vn_L : Cond.initialized R_L ∈ WG := wg1 (List.mem_of_getElem? (i := 0) rfl) rfl
theorem vn_T : Cond.initialized R_T ∈ WG := wg1 (List.mem_of_getElem? (i := 1) rfl) rfl
theorem vn_Math : Cond.initialized "java/lang/Math" ∈ WG := wg1 (List.mem_of_getElem? (i := 2) rfl) rfl
theorem vn_N : Cond.initialized R_N ∈ WG := wg1 (List.mem_of_getElem? (i := 3) rfl) rfl
theorem vn_S : Cond.initialized R_S ∈ WG := wg1 (List.mem_of_getElem? (i := 4) rfl) rfl
theorem vn_C : Cond.initialized R_C ∈ WG := wg1 (List.mem_of_getElem? (i := 5) rfl) rfl
theorem vn_D : Cond.initialized R_D ∈ WG := wg1 (List.mem_of_getElem? (i := 6) rfl) rfl
theorem vn_M : Cond.initialized R_M ∈ WG := wg1 (List.mem_of_getElem? (i := 7) rfl) rfl
theorem vn_R : Cond.initialized R_R ∈ WG := wg1 (List.mem_of_getElem? (i := 8) rfl) rfl
theorem lc_L_7 : Cond.classLink R_L 7 R_T ∈ WG := wg1 (List.mem_of_getElem? (i := 9) rfl) rfl
theorem vm_T : Cond.instantiable R_T 4 ∈ WG := wg1 (List.mem_of_getElem? (i := 10) rfl) rfl
theorem lm_L_15 : Cond.methodLink R_L 15 y_T_init ∈ WG := wg1 (List.mem_of_getElem? (i := 11) rfl) rfl
theorem vi_T_init : Cond.instanceMethod y_T_init ∈ WG := wg1 (List.mem_of_getElem? (i := 12) rfl) rfl
theorem vc_T_init : Cond.code y_T_init b_T_init 6 none ∈ WG := wg1 (List.mem_of_getElem? (i := 13) rfl) rfl
theorem lm_T_1 : Cond.methodLink R_T 1 objectInit ∈ WG := wg1 (List.mem_of_getElem? (i := 14) rfl) rfl
theorem vi_O : Cond.instanceMethod objectInit ∈ WG := wg1 (List.mem_of_getElem? (i := 15) rfl) rfl
theorem vc_O : Cond.code objectInit ⟨#[0xb1]⟩ 1 none ∈ WG := wg1 (List.mem_of_getElem? (i := 16) rfl) rfl
theorem lc_T_9 : Cond.classLink R_T 9 R_N ∈ WG := wg1 (List.mem_of_getElem? (i := 17) rfl) rfl
theorem lc_T_19 : Cond.classLink R_T 19 R_M ∈ WG := wg1 (List.mem_of_getElem? (i := 19) rfl) rfl
theorem lm_T_28 : Cond.methodLink R_T 28 Lib.Math.min.name ∈ WG := wg1 (List.mem_of_getElem? (i := 21) rfl) rfl
theorem vs_min : Cond.static Lib.Math.min.name ∈ WG := wg1 (List.mem_of_getElem? (i := 22) rfl) rfl
theorem vc_min : Cond.code Lib.Math.min.name Lib.Math.min.code 2 (some .int) ∈ WG := wg1 (List.mem_of_getElem? (i := 23) rfl) rfl
theorem lm_T_34 : Cond.methodLink R_T 34 Lib.Math.max.name ∈ WG := wg1 (List.mem_of_getElem? (i := 24) rfl) rfl
theorem vs_max : Cond.static Lib.Math.max.name ∈ WG := wg1 (List.mem_of_getElem? (i := 25) rfl) rfl
theorem vc_max : Cond.code Lib.Math.max.name Lib.Math.max.code 2 (some .int) ∈ WG := wg1 (List.mem_of_getElem? (i := 26) rfl) rfl
theorem vm_N : Cond.instantiable R_N 9 ∈ WG := wg1 (List.mem_of_getElem? (i := 27) rfl) rfl
theorem lm_T_37 : Cond.methodLink R_T 37 y_N_init ∈ WG := wg1 (List.mem_of_getElem? (i := 28) rfl) rfl
theorem vi_N_init : Cond.instanceMethod y_N_init ∈ WG := wg1 (List.mem_of_getElem? (i := 29) rfl) rfl
theorem vc_N_init : Cond.code y_N_init b_N_init 4 none ∈ WG := wg1 (List.mem_of_getElem? (i := 30) rfl) rfl
theorem lm_N_3 : Cond.methodLink R_N 3 objectInit ∈ WG := wg1 (List.mem_of_getElem? (i := 31) rfl) rfl
theorem lc_N_35 : Cond.classLink R_N 35 R_S ∈ WG := wg1 (List.mem_of_getElem? (i := 32) rfl) rfl
theorem vm_S : Cond.instantiable R_S 7 ∈ WG := wg1 (List.mem_of_getElem? (i := 33) rfl) rfl
theorem lm_N_37 : Cond.methodLink R_N 37 y_S_init ∈ WG := wg1 (List.mem_of_getElem? (i := 34) rfl) rfl
theorem vi_S_init : Cond.instanceMethod y_S_init ∈ WG := wg1 (List.mem_of_getElem? (i := 35) rfl) rfl
theorem vc_S_init : Cond.code y_S_init b_S_init 3 none ∈ WG := wg1 (List.mem_of_getElem? (i := 36) rfl) rfl
theorem lm_S_3 : Cond.methodLink R_S 3 objectInit ∈ WG := wg1 (List.mem_of_getElem? (i := 37) rfl) rfl
theorem lc_S_29 : Cond.classLink R_S 29 R_C ∈ WG := wg1 (List.mem_of_getElem? (i := 38) rfl) rfl
theorem vm_C : Cond.instantiable R_C 2 ∈ WG := wg1 (List.mem_of_getElem? (i := 39) rfl) rfl
theorem lm_S_31 : Cond.methodLink R_S 31 y_C_init ∈ WG := wg1 (List.mem_of_getElem? (i := 40) rfl) rfl
theorem vi_C_init : Cond.instanceMethod y_C_init ∈ WG := wg1 (List.mem_of_getElem? (i := 41) rfl) rfl
theorem vc_C_init : Cond.code y_C_init b_C_init 2 none ∈ WG := wg1 (List.mem_of_getElem? (i := 42) rfl) rfl
theorem lm_C_3 : Cond.methodLink R_C 3 objectInit ∈ WG := wg1 (List.mem_of_getElem? (i := 43) rfl) rfl
theorem lf_C_15 : Cond.fieldLink R_C 15 "TelemetryTree$Counters" "limit" "I" ∈ WG := wg1 (List.mem_of_getElem? (i := 44) rfl) rfl
theorem lf_C_9 : Cond.fieldLink R_C 9 "TelemetryTree$Counters" "counts" "[I" ∈ WG := wg1 (List.mem_of_getElem? (i := 45) rfl) rfl
theorem lf_S_49 : Cond.fieldLink R_S 49 "TelemetryTree$Counters" "counts" "[I" ∈ WG := wg1 (List.mem_of_getElem? (i := 46) rfl) rfl
theorem lf_T_143 : Cond.fieldLink R_T 143 "TelemetryTree$Counters" "counts" "[I" ∈ WG := wg1 (List.mem_of_getElem? (i := 47) rfl) rfl
theorem vk_int : Cond.arrayClass .int ∈ WG := wg1 (List.mem_of_getElem? (i := 53) rfl) rfl
theorem lc_S_38 : Cond.classLink R_S 38 R_D ∈ WG := wg1 (List.mem_of_getElem? (i := 54) rfl) rfl
theorem vm_D : Cond.instantiable R_D 2 ∈ WG := wg1 (List.mem_of_getElem? (i := 55) rfl) rfl
theorem lm_S_40 : Cond.methodLink R_S 40 y_D_init ∈ WG := wg1 (List.mem_of_getElem? (i := 56) rfl) rfl
theorem vi_D_init : Cond.instanceMethod y_D_init ∈ WG := wg1 (List.mem_of_getElem? (i := 57) rfl) rfl
theorem vc_D_init : Cond.code y_D_init b_D_init 2 none ∈ WG := wg1 (List.mem_of_getElem? (i := 58) rfl) rfl
theorem lm_D_3 : Cond.methodLink R_D 3 objectInit ∈ WG := wg1 (List.mem_of_getElem? (i := 59) rfl) rfl
theorem lf_D_15 : Cond.fieldLink R_D 15 "TelemetryTree$Digest" "divisor" "I" ∈ WG := wg1 (List.mem_of_getElem? (i := 60) rfl) rfl
theorem lf_D_9 : Cond.fieldLink R_D 9 "TelemetryTree$Digest" "counts" "[I" ∈ WG := wg1 (List.mem_of_getElem? (i := 61) rfl) rfl
theorem lf_S_52 : Cond.fieldLink R_S 52 "TelemetryTree$Digest" "counts" "[I" ∈ WG := wg1 (List.mem_of_getElem? (i := 62) rfl) rfl
theorem lf_S_9 : Cond.fieldLink R_S 9 "TelemetryTree$Summary" "n" "I" ∈ WG := wg1 (List.mem_of_getElem? (i := 68) rfl) rfl
theorem lf_N_47 : Cond.fieldLink R_N 47 "TelemetryTree$Summary" "n" "I" ∈ WG := wg1 (List.mem_of_getElem? (i := 69) rfl) rfl
theorem lf_T_120 : Cond.fieldLink R_T 120 "TelemetryTree$Summary" "n" "I" ∈ WG := wg1 (List.mem_of_getElem? (i := 70) rfl) rfl
theorem lf_S_15 : Cond.fieldLink R_S 15 "TelemetryTree$Summary" "itemSum" "J" ∈ WG := wg1 (List.mem_of_getElem? (i := 71) rfl) rfl
theorem lf_T_123 : Cond.fieldLink R_T 123 "TelemetryTree$Summary" "itemSum" "J" ∈ WG := wg1 (List.mem_of_getElem? (i := 72) rfl) rfl
theorem lf_S_19 : Cond.fieldLink R_S 19 "TelemetryTree$Summary" "least" "I" ∈ WG := wg1 (List.mem_of_getElem? (i := 73) rfl) rfl
theorem lf_T_132 : Cond.fieldLink R_T 132 "TelemetryTree$Summary" "least" "I" ∈ WG := wg1 (List.mem_of_getElem? (i := 74) rfl) rfl
theorem lf_S_22 : Cond.fieldLink R_S 22 "TelemetryTree$Summary" "greatest" "I" ∈ WG := wg1 (List.mem_of_getElem? (i := 75) rfl) rfl
theorem lf_T_129 : Cond.fieldLink R_T 129 "TelemetryTree$Summary" "greatest" "I" ∈ WG := wg1 (List.mem_of_getElem? (i := 76) rfl) rfl
theorem lf_S_25 : Cond.fieldLink R_S 25 "TelemetryTree$Summary" "fromLeaf" "[I" ∈ WG := wg1 (List.mem_of_getElem? (i := 77) rfl) rfl
theorem lf_T_135 : Cond.fieldLink R_T 135 "TelemetryTree$Summary" "fromLeaf" "[I" ∈ WG := wg1 (List.mem_of_getElem? (i := 78) rfl) rfl
theorem lf_S_34 : Cond.fieldLink R_S 34 "TelemetryTree$Summary" "counters" "LTelemetryTree$Counters;" ∈ WG := wg1 (List.mem_of_getElem? (i := 79) rfl) rfl
theorem lf_T_139 : Cond.fieldLink R_T 139 "TelemetryTree$Summary" "counters" "LTelemetryTree$Counters;" ∈ WG := wg1 (List.mem_of_getElem? (i := 80) rfl) rfl
theorem lf_S_41 : Cond.fieldLink R_S 41 "TelemetryTree$Summary" "digest" "LTelemetryTree$Digest;" ∈ WG := wg1 (List.mem_of_getElem? (i := 81) rfl) rfl
theorem lf_T_151 : Cond.fieldLink R_T 151 "TelemetryTree$Summary" "digest" "LTelemetryTree$Digest;" ∈ WG := wg1 (List.mem_of_getElem? (i := 82) rfl) rfl
theorem lf_N_32 : Cond.fieldLink R_N 32 "TelemetryTree$Node" "number" "I" ∈ WG := wg1 (List.mem_of_getElem? (i := 98) rfl) rfl
theorem lf_N_9 : Cond.fieldLink R_N 9 "TelemetryTree$Node" "parent" "I" ∈ WG := wg1 (List.mem_of_getElem? (i := 99) rfl) rfl
theorem lf_T_51 : Cond.fieldLink R_T 51 "TelemetryTree$Node" "parent" "I" ∈ WG := wg1 (List.mem_of_getElem? (i := 100) rfl) rfl
theorem lf_N_15 : Cond.fieldLink R_N 15 "TelemetryTree$Node" "leaf" "Z" ∈ WG := wg1 (List.mem_of_getElem? (i := 101) rfl) rfl
theorem lf_T_47 : Cond.fieldLink R_T 47 "TelemetryTree$Node" "leaf" "Z" ∈ WG := wg1 (List.mem_of_getElem? (i := 102) rfl) rfl
theorem lf_N_19 : Cond.fieldLink R_N 19 "TelemetryTree$Node" "open" "[I" ∈ WG := wg1 (List.mem_of_getElem? (i := 103) rfl) rfl
theorem lf_N_23 : Cond.fieldLink R_N 23 "TelemetryTree$Node" "openCount" "I" ∈ WG := wg1 (List.mem_of_getElem? (i := 104) rfl) rfl
theorem lf_T_71 : Cond.fieldLink R_T 71 "TelemetryTree$Node" "openCount" "I" ∈ WG := wg1 (List.mem_of_getElem? (i := 105) rfl) rfl
theorem lf_N_26 : Cond.fieldLink R_N 26 "TelemetryTree$Node" "reports" "I" ∈ WG := wg1 (List.mem_of_getElem? (i := 106) rfl) rfl
theorem lf_T_83 : Cond.fieldLink R_T 83 "TelemetryTree$Node" "reports" "I" ∈ WG := wg1 (List.mem_of_getElem? (i := 107) rfl) rfl
theorem lf_N_40 : Cond.fieldLink R_N 40 "TelemetryTree$Node" "summary" "LTelemetryTree$Summary;" ∈ WG := wg1 (List.mem_of_getElem? (i := 108) rfl) rfl
theorem lf_T_86 : Cond.fieldLink R_T 86 "TelemetryTree$Node" "summary" "LTelemetryTree$Summary;" ∈ WG := wg1 (List.mem_of_getElem? (i := 109) rfl) rfl
theorem lf_N_44 : Cond.fieldLink R_N 44 "TelemetryTree$Node" "kept" "LTelemetryTree$Summary;" ∈ WG := wg1 (List.mem_of_getElem? (i := 110) rfl) rfl
theorem lf_T_111 : Cond.fieldLink R_T 111 "TelemetryTree$Node" "kept" "LTelemetryTree$Summary;" ∈ WG := wg1 (List.mem_of_getElem? (i := 111) rfl) rfl
theorem lf_N_29 : Cond.fieldLink R_N 29 "TelemetryTree$Node" "keptVersion" "I" ∈ WG := wg1 (List.mem_of_getElem? (i := 112) rfl) rfl
theorem lf_T_108 : Cond.fieldLink R_T 108 "TelemetryTree$Node" "keptVersion" "I" ∈ WG := wg1 (List.mem_of_getElem? (i := 113) rfl) rfl
theorem vm_M : Cond.instantiable R_M 4 ∈ WG := wg1 (List.mem_of_getElem? (i := 133) rfl) rfl
theorem lm_T_40 : Cond.methodLink R_T 40 y_M_init ∈ WG := wg1 (List.mem_of_getElem? (i := 134) rfl) rfl
theorem vi_M_init : Cond.instanceMethod y_M_init ∈ WG := wg1 (List.mem_of_getElem? (i := 135) rfl) rfl
theorem vc_M_init : Cond.code y_M_init b_M_init 3 none ∈ WG := wg1 (List.mem_of_getElem? (i := 136) rfl) rfl
theorem lm_M_1 : Cond.methodLink R_M 1 objectInit ∈ WG := wg1 (List.mem_of_getElem? (i := 137) rfl) rfl
theorem lc_M_19 : Cond.classLink R_M 19 R_S ∈ WG := wg1 (List.mem_of_getElem? (i := 138) rfl) rfl
theorem lm_M_21 : Cond.methodLink R_M 21 y_S_init ∈ WG := wg1 (List.mem_of_getElem? (i := 139) rfl) rfl
theorem lf_M_7 : Cond.fieldLink R_M 7 "TelemetryTree$Message" "number" "I" ∈ WG := wg1 (List.mem_of_getElem? (i := 140) rfl) rfl
theorem lf_T_105 : Cond.fieldLink R_T 105 "TelemetryTree$Message" "number" "I" ∈ WG := wg1 (List.mem_of_getElem? (i := 141) rfl) rfl
theorem lf_M_13 : Cond.fieldLink R_M 13 "TelemetryTree$Message" "sender" "I" ∈ WG := wg1 (List.mem_of_getElem? (i := 142) rfl) rfl
theorem lf_T_98 : Cond.fieldLink R_T 98 "TelemetryTree$Message" "sender" "I" ∈ WG := wg1 (List.mem_of_getElem? (i := 143) rfl) rfl
theorem lf_M_16 : Cond.fieldLink R_M 16 "TelemetryTree$Message" "version" "I" ∈ WG := wg1 (List.mem_of_getElem? (i := 144) rfl) rfl
theorem lf_T_101 : Cond.fieldLink R_T 101 "TelemetryTree$Message" "version" "I" ∈ WG := wg1 (List.mem_of_getElem? (i := 145) rfl) rfl
theorem lf_M_24 : Cond.fieldLink R_M 24 "TelemetryTree$Message" "summary" "LTelemetryTree$Summary;" ∈ WG := wg1 (List.mem_of_getElem? (i := 146) rfl) rfl
theorem lf_T_104 : Cond.fieldLink R_T 104 "TelemetryTree$Message" "summary" "LTelemetryTree$Summary;" ∈ WG := wg1 (List.mem_of_getElem? (i := 147) rfl) rfl
theorem lf_T_11 : Cond.fieldLink R_T 11 "TelemetryTree" "nodes" "[LTelemetryTree$Node;" ∈ WG := wg1 (List.mem_of_getElem? (i := 157) rfl) rfl
theorem lf_T_15 : Cond.fieldLink R_T 15 "TelemetryTree" "nodeCount" "I" ∈ WG := wg1 (List.mem_of_getElem? (i := 158) rfl) rfl
theorem lf_T_21 : Cond.fieldLink R_T 21 "TelemetryTree" "slots" "[LTelemetryTree$Message;" ∈ WG := wg1 (List.mem_of_getElem? (i := 159) rfl) rfl
theorem lf_T_25 : Cond.fieldLink R_T 25 "TelemetryTree" "lastMessage" "I" ∈ WG := wg1 (List.mem_of_getElem? (i := 160) rfl) rfl
theorem lm_L_21 : Cond.methodLink R_L 21 y_T_attach ∈ WG := wg1 (List.mem_of_getElem? (i := 170) rfl) rfl
theorem vi_T_attach : Cond.instanceMethod y_T_attach ∈ WG := wg1 (List.mem_of_getElem? (i := 171) rfl) rfl
theorem ve_T_attach : Cond.selects R_T y_T_attach y_T_attach ∈ WG := wg1 (List.mem_of_getElem? (i := 172) rfl) rfl
theorem vc_T_attach : Cond.code y_T_attach b_T_attach 4 (some .int) ∈ WG := wg1 (List.mem_of_getElem? (i := 173) rfl) rfl
theorem lm_T_43 : Cond.methodLink R_T 43 y_T_isNode ∈ WG := wg1 (List.mem_of_getElem? (i := 174) rfl) rfl
theorem vi_T_isNode : Cond.instanceMethod y_T_isNode ∈ WG := wg1 (List.mem_of_getElem? (i := 176) rfl) rfl
theorem vc_T_isNode : Cond.code y_T_isNode b_T_isNode 2 (some .boolean) ∈ WG := wg1 (List.mem_of_getElem? (i := 177) rfl) rfl
theorem lm_L_26 : Cond.methodLink R_L 26 y_T_add ∈ WG := wg1 (List.mem_of_getElem? (i := 178) rfl) rfl
theorem vi_T_add : Cond.instanceMethod y_T_add ∈ WG := wg1 (List.mem_of_getElem? (i := 179) rfl) rfl
theorem ve_T_add : Cond.selects R_T y_T_add y_T_add ∈ WG := wg1 (List.mem_of_getElem? (i := 180) rfl) rfl
theorem vc_T_add : Cond.code y_T_add b_T_add 3 (some .boolean) ∈ WG := wg1 (List.mem_of_getElem? (i := 181) rfl) rfl
theorem lm_T_54 : Cond.methodLink R_T 54 y_T_isLeaf ∈ WG := wg1 (List.mem_of_getElem? (i := 182) rfl) rfl
theorem vi_T_isLeaf : Cond.instanceMethod y_T_isLeaf ∈ WG := wg1 (List.mem_of_getElem? (i := 184) rfl) rfl
theorem vc_T_isLeaf : Cond.code y_T_isLeaf b_T_isLeaf 2 (some .boolean) ∈ WG := wg1 (List.mem_of_getElem? (i := 185) rfl) rfl
theorem lm_T_57 : Cond.methodLink R_T 57 y_T_isValue ∈ WG := wg1 (List.mem_of_getElem? (i := 186) rfl) rfl
theorem vs_T_isValue : Cond.static y_T_isValue ∈ WG := wg1 (List.mem_of_getElem? (i := 187) rfl) rfl
theorem vc_T_isValue : Cond.code y_T_isValue b_T_isValue 1 (some .boolean) ∈ WG := wg1 (List.mem_of_getElem? (i := 188) rfl) rfl
theorem lm_T_60 : Cond.methodLink R_T 60 y_N_itemCount ∈ WG := wg1 (List.mem_of_getElem? (i := 189) rfl) rfl
theorem vi_N_itemCount : Cond.instanceMethod y_N_itemCount ∈ WG := wg1 (List.mem_of_getElem? (i := 190) rfl) rfl
theorem ve_N_itemCount : Cond.selects R_N y_N_itemCount y_N_itemCount ∈ WG := wg1 (List.mem_of_getElem? (i := 191) rfl) rfl
theorem vc_N_itemCount : Cond.code y_N_itemCount b_N_itemCount 1 (some .int) ∈ WG := wg1 (List.mem_of_getElem? (i := 192) rfl) rfl
theorem lm_T_64 : Cond.methodLink R_T 64 y_N_putIntoOpenBlock ∈ WG := wg1 (List.mem_of_getElem? (i := 193) rfl) rfl
theorem vi_N_putIntoOpenBlock : Cond.instanceMethod y_N_putIntoOpenBlock ∈ WG := wg1 (List.mem_of_getElem? (i := 194) rfl) rfl
theorem ve_N_putIntoOpenBlock : Cond.selects R_N y_N_putIntoOpenBlock y_N_putIntoOpenBlock ∈ WG := wg1 (List.mem_of_getElem? (i := 195) rfl) rfl
theorem vc_N_putIntoOpenBlock : Cond.code y_N_putIntoOpenBlock b_N_putIntoOpenBlock 2 none ∈ WG := wg1 (List.mem_of_getElem? (i := 196) rfl) rfl
theorem lm_N_50 : Cond.methodLink R_N 50 y_N_writeOpenBlock ∈ WG := wg1 (List.mem_of_getElem? (i := 197) rfl) rfl
theorem vi_N_writeOpenBlock : Cond.instanceMethod y_N_writeOpenBlock ∈ WG := wg1 (List.mem_of_getElem? (i := 198) rfl) rfl
theorem ve_N_writeOpenBlock : Cond.selects R_N y_N_writeOpenBlock y_N_writeOpenBlock ∈ WG := wg1 (List.mem_of_getElem? (i := 199) rfl) rfl
theorem vc_N_writeOpenBlock : Cond.code y_N_writeOpenBlock b_N_writeOpenBlock 3 (some .int) ∈ WG := wg1 (List.mem_of_getElem? (i := 200) rfl) rfl
theorem lm_N_54 : Cond.methodLink R_N 54 y_S_take ∈ WG := wg1 (List.mem_of_getElem? (i := 201) rfl) rfl
theorem vi_S_take : Cond.instanceMethod y_S_take ∈ WG := wg1 (List.mem_of_getElem? (i := 202) rfl) rfl
theorem ve_S_take : Cond.selects R_S y_S_take y_S_take ∈ WG := wg1 (List.mem_of_getElem? (i := 203) rfl) rfl
theorem vc_S_take : Cond.code y_S_take b_S_take 3 none ∈ WG := wg1 (List.mem_of_getElem? (i := 204) rfl) rfl
theorem lm_S_57 : Cond.methodLink R_S 57 y_S_widen ∈ WG := wg1 (List.mem_of_getElem? (i := 205) rfl) rfl
theorem vi_S_widen : Cond.instanceMethod y_S_widen ∈ WG := wg1 (List.mem_of_getElem? (i := 206) rfl) rfl
theorem ve_S_widen : Cond.selects R_S y_S_widen y_S_widen ∈ WG := wg1 (List.mem_of_getElem? (i := 207) rfl) rfl
theorem vc_S_widen : Cond.code y_S_widen b_S_widen 3 none ∈ WG := wg1 (List.mem_of_getElem? (i := 208) rfl) rfl
theorem lm_S_76 : Cond.methodLink R_S 76 Lib.Math.min.name ∈ WG := wg1 (List.mem_of_getElem? (i := 209) rfl) rfl
theorem lm_S_82 : Cond.methodLink R_S 82 Lib.Math.max.name ∈ WG := wg1 (List.mem_of_getElem? (i := 210) rfl) rfl
theorem lm_S_61 : Cond.methodLink R_S 61 y_C_take ∈ WG := wg1 (List.mem_of_getElem? (i := 211) rfl) rfl
theorem vi_C_take : Cond.instanceMethod y_C_take ∈ WG := wg1 (List.mem_of_getElem? (i := 212) rfl) rfl
theorem ve_C_take : Cond.selects R_C y_C_take y_C_take ∈ WG := wg1 (List.mem_of_getElem? (i := 213) rfl) rfl
theorem vc_C_take : Cond.code y_C_take b_C_take 2 none ∈ WG := wg1 (List.mem_of_getElem? (i := 214) rfl) rfl
theorem lm_C_19 : Cond.methodLink R_C 19 y_C_valueAtRank ∈ WG := wg1 (List.mem_of_getElem? (i := 215) rfl) rfl
theorem vi_C_valueAtRank : Cond.instanceMethod y_C_valueAtRank ∈ WG := wg1 (List.mem_of_getElem? (i := 216) rfl) rfl
theorem ve_C_valueAtRank : Cond.selects R_C y_C_valueAtRank y_C_valueAtRank ∈ WG := wg1 (List.mem_of_getElem? (i := 217) rfl) rfl
theorem vc_C_valueAtRank : Cond.code y_C_valueAtRank b_C_valueAtRank 3 (some .int) ∈ WG := wg1 (List.mem_of_getElem? (i := 218) rfl) rfl
theorem lm_C_37 : Cond.methodLink R_C 37 y_C_rankOf ∈ WG := wg1 (List.mem_of_getElem? (i := 219) rfl) rfl
theorem vi_C_rankOf : Cond.instanceMethod y_C_rankOf ∈ WG := wg1 (List.mem_of_getElem? (i := 220) rfl) rfl
theorem ve_C_rankOf : Cond.selects R_C y_C_rankOf y_C_rankOf ∈ WG := wg1 (List.mem_of_getElem? (i := 221) rfl) rfl
theorem vc_C_rankOf : Cond.code y_C_rankOf b_C_rankOf 4 (some .int) ∈ WG := wg1 (List.mem_of_getElem? (i := 222) rfl) rfl
theorem lm_C_23 : Cond.methodLink R_C 23 y_C_lowerAll ∈ WG := wg1 (List.mem_of_getElem? (i := 223) rfl) rfl
theorem vi_C_lowerAll : Cond.instanceMethod y_C_lowerAll ∈ WG := wg1 (List.mem_of_getElem? (i := 224) rfl) rfl
theorem ve_C_lowerAll : Cond.selects R_C y_C_lowerAll y_C_lowerAll ∈ WG := wg1 (List.mem_of_getElem? (i := 225) rfl) rfl
theorem vc_C_lowerAll : Cond.code y_C_lowerAll b_C_lowerAll 3 none ∈ WG := wg1 (List.mem_of_getElem? (i := 226) rfl) rfl
theorem lm_C_31 : Cond.methodLink R_C 31 Lib.Math.max.name ∈ WG := wg1 (List.mem_of_getElem? (i := 227) rfl) rfl
theorem lm_S_64 : Cond.methodLink R_S 64 y_D_take ∈ WG := wg1 (List.mem_of_getElem? (i := 228) rfl) rfl
theorem vi_D_take : Cond.instanceMethod y_D_take ∈ WG := wg1 (List.mem_of_getElem? (i := 229) rfl) rfl
theorem ve_D_take : Cond.selects R_D y_D_take y_D_take ∈ WG := wg1 (List.mem_of_getElem? (i := 230) rfl) rfl
theorem vc_D_take : Cond.code y_D_take b_D_take 3 none ∈ WG := wg1 (List.mem_of_getElem? (i := 231) rfl) rfl
theorem lm_D_19 : Cond.methodLink R_D 19 y_D_compress ∈ WG := wg1 (List.mem_of_getElem? (i := 232) rfl) rfl
theorem vi_D_compress : Cond.instanceMethod y_D_compress ∈ WG := wg1 (List.mem_of_getElem? (i := 233) rfl) rfl
theorem ve_D_compress : Cond.selects R_D y_D_compress y_D_compress ∈ WG := wg1 (List.mem_of_getElem? (i := 234) rfl) rfl
theorem vc_D_compress : Cond.code y_D_compress b_D_compress 4 none ∈ WG := wg1 (List.mem_of_getElem? (i := 235) rfl) rfl
theorem lm_D_27 : Cond.methodLink R_D 27 y_D_pass ∈ WG := wg1 (List.mem_of_getElem? (i := 236) rfl) rfl
theorem vi_D_pass : Cond.instanceMethod y_D_pass ∈ WG := wg1 (List.mem_of_getElem? (i := 237) rfl) rfl
theorem ve_D_pass : Cond.selects R_D y_D_pass y_D_pass ∈ WG := wg1 (List.mem_of_getElem? (i := 238) rfl) rfl
theorem vc_D_pass : Cond.code y_D_pass b_D_pass 5 (some .boolean) ∈ WG := wg1 (List.mem_of_getElem? (i := 239) rfl) rfl
theorem lm_L_31 : Cond.methodLink R_L 31 y_T_flush ∈ WG := wg2 (List.mem_of_getElem? (i := 0) rfl) rfl
theorem vi_T_flush : Cond.instanceMethod y_T_flush ∈ WG := wg2 (List.mem_of_getElem? (i := 1) rfl) rfl
theorem ve_T_flush : Cond.selects R_T y_T_flush y_T_flush ∈ WG := wg2 (List.mem_of_getElem? (i := 2) rfl) rfl
theorem vc_T_flush : Cond.code y_T_flush b_T_flush 2 (some .int) ∈ WG := wg2 (List.mem_of_getElem? (i := 3) rfl) rfl
theorem lm_T_68 : Cond.methodLink R_T 68 y_N_writeOpenBlock ∈ WG := wg2 (List.mem_of_getElem? (i := 4) rfl) rfl
theorem lm_L_36 : Cond.methodLink R_L 36 y_T_crash ∈ WG := wg2 (List.mem_of_getElem? (i := 5) rfl) rfl
theorem vi_T_crash : Cond.instanceMethod y_T_crash ∈ WG := wg2 (List.mem_of_getElem? (i := 6) rfl) rfl
theorem ve_T_crash : Cond.selects R_T y_T_crash y_T_crash ∈ WG := wg2 (List.mem_of_getElem? (i := 7) rfl) rfl
theorem vc_T_crash : Cond.code y_T_crash b_T_crash 2 (some .boolean) ∈ WG := wg2 (List.mem_of_getElem? (i := 8) rfl) rfl
theorem lm_T_74 : Cond.methodLink R_T 74 y_T_forgetChildren ∈ WG := wg2 (List.mem_of_getElem? (i := 9) rfl) rfl
theorem vi_T_forgetChildren : Cond.instanceMethod y_T_forgetChildren ∈ WG := wg2 (List.mem_of_getElem? (i := 11) rfl) rfl
theorem vc_T_forgetChildren : Cond.code y_T_forgetChildren b_T_forgetChildren 3 none ∈ WG := wg2 (List.mem_of_getElem? (i := 12) rfl) rfl
theorem lm_T_77 : Cond.methodLink R_T 77 y_T_mergeKept ∈ WG := wg2 (List.mem_of_getElem? (i := 13) rfl) rfl
theorem vi_T_mergeKept : Cond.instanceMethod y_T_mergeKept ∈ WG := wg2 (List.mem_of_getElem? (i := 15) rfl) rfl
theorem vc_T_mergeKept : Cond.code y_T_mergeKept b_T_mergeKept 5 none ∈ WG := wg2 (List.mem_of_getElem? (i := 16) rfl) rfl
theorem lm_T_172 : Cond.methodLink R_T 172 y_S_makeEmpty ∈ WG := wg2 (List.mem_of_getElem? (i := 17) rfl) rfl
theorem vi_S_makeEmpty : Cond.instanceMethod y_S_makeEmpty ∈ WG := wg2 (List.mem_of_getElem? (i := 18) rfl) rfl
theorem ve_S_makeEmpty : Cond.selects R_S y_S_makeEmpty y_S_makeEmpty ∈ WG := wg2 (List.mem_of_getElem? (i := 19) rfl) rfl
theorem vc_S_makeEmpty : Cond.code y_S_makeEmpty b_S_makeEmpty 1 none ∈ WG := wg2 (List.mem_of_getElem? (i := 20) rfl) rfl
theorem vs_T_clear : Cond.static y_T_clear ∈ WG := wg2 (List.mem_of_getElem? (i := 22) rfl) rfl
theorem vc_T_clear : Cond.code y_T_clear b_T_clear 2 none ∈ WG := wg2 (List.mem_of_getElem? (i := 23) rfl) rfl
theorem lm_T_175 : Cond.methodLink R_T 175 y_S_merge ∈ WG := wg2 (List.mem_of_getElem? (i := 24) rfl) rfl
theorem vi_S_merge : Cond.instanceMethod y_S_merge ∈ WG := wg2 (List.mem_of_getElem? (i := 25) rfl) rfl
theorem ve_S_merge : Cond.selects R_S y_S_merge y_S_merge ∈ WG := wg2 (List.mem_of_getElem? (i := 26) rfl) rfl
theorem vc_S_merge : Cond.code y_S_merge b_S_merge 2 none ∈ WG := wg2 (List.mem_of_getElem? (i := 27) rfl) rfl
theorem vs_T_addTo : Cond.static y_T_addTo ∈ WG := wg2 (List.mem_of_getElem? (i := 29) rfl) rfl
theorem vc_T_addTo : Cond.code y_T_addTo b_T_addTo 3 none ∈ WG := wg2 (List.mem_of_getElem? (i := 30) rfl) rfl
theorem lm_S_69 : Cond.methodLink R_S 69 y_C_merge ∈ WG := wg2 (List.mem_of_getElem? (i := 31) rfl) rfl
theorem vi_C_merge : Cond.instanceMethod y_C_merge ∈ WG := wg2 (List.mem_of_getElem? (i := 32) rfl) rfl
theorem ve_C_merge : Cond.selects R_C y_C_merge y_C_merge ∈ WG := wg2 (List.mem_of_getElem? (i := 33) rfl) rfl
theorem vc_C_merge : Cond.code y_C_merge b_C_merge 3 none ∈ WG := wg2 (List.mem_of_getElem? (i := 34) rfl) rfl
theorem lm_S_73 : Cond.methodLink R_S 73 y_D_merge ∈ WG := wg2 (List.mem_of_getElem? (i := 36) rfl) rfl
theorem vi_D_merge : Cond.instanceMethod y_D_merge ∈ WG := wg2 (List.mem_of_getElem? (i := 37) rfl) rfl
theorem ve_D_merge : Cond.selects R_D y_D_merge y_D_merge ∈ WG := wg2 (List.mem_of_getElem? (i := 38) rfl) rfl
theorem vc_D_merge : Cond.code y_D_merge b_D_merge 3 none ∈ WG := wg2 (List.mem_of_getElem? (i := 39) rfl) rfl
theorem lm_L_41 : Cond.methodLink R_L 41 y_T_report ∈ WG := wg2 (List.mem_of_getElem? (i := 41) rfl) rfl
theorem vi_T_report : Cond.instanceMethod y_T_report ∈ WG := wg2 (List.mem_of_getElem? (i := 42) rfl) rfl
theorem ve_T_report : Cond.selects R_T y_T_report y_T_report ∈ WG := wg2 (List.mem_of_getElem? (i := 43) rfl) rfl
theorem vc_T_report : Cond.code y_T_report b_T_report 3 (some .int) ∈ WG := wg2 (List.mem_of_getElem? (i := 44) rfl) rfl
theorem lm_T_80 : Cond.methodLink R_T 80 y_T_freeSlot ∈ WG := wg2 (List.mem_of_getElem? (i := 45) rfl) rfl
theorem vi_T_freeSlot : Cond.instanceMethod y_T_freeSlot ∈ WG := wg2 (List.mem_of_getElem? (i := 47) rfl) rfl
theorem vc_T_freeSlot : Cond.code y_T_freeSlot b_T_freeSlot 1 (some .int) ∈ WG := wg2 (List.mem_of_getElem? (i := 48) rfl) rfl
theorem lm_T_169 : Cond.methodLink R_T 169 y_T_slotWithNumber ∈ WG := wg2 (List.mem_of_getElem? (i := 49) rfl) rfl
theorem vi_T_slotWithNumber : Cond.instanceMethod y_T_slotWithNumber ∈ WG := wg2 (List.mem_of_getElem? (i := 51) rfl) rfl
theorem vc_T_slotWithNumber : Cond.code y_T_slotWithNumber b_T_slotWithNumber 3 (some .int) ∈ WG := wg2 (List.mem_of_getElem? (i := 52) rfl) rfl
theorem lm_T_90 : Cond.methodLink R_T 90 y_M_send ∈ WG := wg2 (List.mem_of_getElem? (i := 53) rfl) rfl
theorem vi_M_send : Cond.instanceMethod y_M_send ∈ WG := wg2 (List.mem_of_getElem? (i := 54) rfl) rfl
theorem ve_M_send : Cond.selects R_M y_M_send y_M_send ∈ WG := wg2 (List.mem_of_getElem? (i := 55) rfl) rfl
theorem vc_M_send : Cond.code y_M_send b_M_send 5 none ∈ WG := wg2 (List.mem_of_getElem? (i := 56) rfl) rfl
theorem lm_M_28 : Cond.methodLink R_M 28 y_S_setTo ∈ WG := wg2 (List.mem_of_getElem? (i := 57) rfl) rfl
theorem vi_S_setTo : Cond.instanceMethod y_S_setTo ∈ WG := wg2 (List.mem_of_getElem? (i := 58) rfl) rfl
theorem ve_S_setTo : Cond.selects R_S y_S_setTo y_S_setTo ∈ WG := wg2 (List.mem_of_getElem? (i := 59) rfl) rfl
theorem vc_S_setTo : Cond.code y_S_setTo b_S_setTo 2 none ∈ WG := wg2 (List.mem_of_getElem? (i := 60) rfl) rfl
theorem vs_T_overwrite : Cond.static y_T_overwrite ∈ WG := wg2 (List.mem_of_getElem? (i := 62) rfl) rfl
theorem vc_T_overwrite : Cond.code y_T_overwrite b_T_overwrite 3 none ∈ WG := wg2 (List.mem_of_getElem? (i := 63) rfl) rfl
theorem lm_L_45 : Cond.methodLink R_L 45 y_T_copy ∈ WG := wg2 (List.mem_of_getElem? (i := 64) rfl) rfl
theorem vi_T_copy : Cond.instanceMethod y_T_copy ∈ WG := wg2 (List.mem_of_getElem? (i := 65) rfl) rfl
theorem ve_T_copy : Cond.selects R_T y_T_copy y_T_copy ∈ WG := wg2 (List.mem_of_getElem? (i := 66) rfl) rfl
theorem vc_T_copy : Cond.code y_T_copy b_T_copy 5 (some .int) ∈ WG := wg2 (List.mem_of_getElem? (i := 67) rfl) rfl
theorem lm_T_94 : Cond.methodLink R_T 94 y_T_slotOf ∈ WG := wg2 (List.mem_of_getElem? (i := 68) rfl) rfl
theorem vi_T_slotOf : Cond.instanceMethod y_T_slotOf ∈ WG := wg2 (List.mem_of_getElem? (i := 70) rfl) rfl
theorem vc_T_slotOf : Cond.code y_T_slotOf b_T_slotOf 2 (some .int) ∈ WG := wg2 (List.mem_of_getElem? (i := 71) rfl) rfl
theorem lm_L_49 : Cond.methodLink R_L 49 y_T_drop ∈ WG := wg2 (List.mem_of_getElem? (i := 72) rfl) rfl
theorem vi_T_drop : Cond.instanceMethod y_T_drop ∈ WG := wg2 (List.mem_of_getElem? (i := 73) rfl) rfl
theorem ve_T_drop : Cond.selects R_T y_T_drop y_T_drop ∈ WG := wg2 (List.mem_of_getElem? (i := 74) rfl) rfl
theorem vc_T_drop : Cond.code y_T_drop b_T_drop 3 (some .boolean) ∈ WG := wg2 (List.mem_of_getElem? (i := 75) rfl) rfl
theorem lm_L_53 : Cond.methodLink R_L 53 y_T_deliver ∈ WG := wg2 (List.mem_of_getElem? (i := 76) rfl) rfl
theorem vi_T_deliver : Cond.instanceMethod y_T_deliver ∈ WG := wg2 (List.mem_of_getElem? (i := 77) rfl) rfl
theorem ve_T_deliver : Cond.selects R_T y_T_deliver y_T_deliver ∈ WG := wg2 (List.mem_of_getElem? (i := 78) rfl) rfl
theorem vc_T_deliver : Cond.code y_T_deliver b_T_deliver 5 (some .int) ∈ WG := wg2 (List.mem_of_getElem? (i := 79) rfl) rfl
theorem lm_T_114 : Cond.methodLink R_T 114 y_S_setTo ∈ WG := wg2 (List.mem_of_getElem? (i := 80) rfl) rfl
theorem lm_L_57 : Cond.methodLink R_L 57 y_T_onTheWay ∈ WG := wg2 (List.mem_of_getElem? (i := 81) rfl) rfl
theorem vi_T_onTheWay : Cond.instanceMethod y_T_onTheWay ∈ WG := wg2 (List.mem_of_getElem? (i := 82) rfl) rfl
theorem ve_T_onTheWay : Cond.selects R_T y_T_onTheWay y_T_onTheWay ∈ WG := wg2 (List.mem_of_getElem? (i := 83) rfl) rfl
theorem vc_T_onTheWay : Cond.code y_T_onTheWay b_T_onTheWay 3 (some .int) ∈ WG := wg2 (List.mem_of_getElem? (i := 84) rfl) rfl
theorem lm_L_62 : Cond.methodLink R_L 62 y_T_total ∈ WG := wg2 (List.mem_of_getElem? (i := 85) rfl) rfl
theorem vi_T_total : Cond.instanceMethod y_T_total ∈ WG := wg2 (List.mem_of_getElem? (i := 86) rfl) rfl
theorem ve_T_total : Cond.selects R_T y_T_total y_T_total ∈ WG := wg2 (List.mem_of_getElem? (i := 87) rfl) rfl
theorem vc_T_total : Cond.code y_T_total b_T_total 2 (some .int) ∈ WG := wg2 (List.mem_of_getElem? (i := 88) rfl) rfl
theorem lm_L_66 : Cond.methodLink R_L 66 y_T_sum ∈ WG := wg2 (List.mem_of_getElem? (i := 89) rfl) rfl
theorem vi_T_sum : Cond.instanceMethod y_T_sum ∈ WG := wg2 (List.mem_of_getElem? (i := 90) rfl) rfl
theorem ve_T_sum : Cond.selects R_T y_T_sum y_T_sum ∈ WG := wg2 (List.mem_of_getElem? (i := 91) rfl) rfl
theorem vc_T_sum : Cond.code y_T_sum b_T_sum 2 (some .long) ∈ WG := wg2 (List.mem_of_getElem? (i := 92) rfl) rfl
theorem lk_T_127 : Cond.constantLong R_T 127 (-1) ∈ WG := wg2 (List.mem_of_getElem? (i := 93) rfl) rfl
theorem lm_L_71 : Cond.methodLink R_L 71 y_T_extreme ∈ WG := wg2 (List.mem_of_getElem? (i := 94) rfl) rfl
theorem vi_T_extreme : Cond.instanceMethod y_T_extreme ∈ WG := wg2 (List.mem_of_getElem? (i := 95) rfl) rfl
theorem ve_T_extreme : Cond.selects R_T y_T_extreme y_T_extreme ∈ WG := wg2 (List.mem_of_getElem? (i := 96) rfl) rfl
theorem vc_T_extreme : Cond.code y_T_extreme b_T_extreme 3 (some .int) ∈ WG := wg2 (List.mem_of_getElem? (i := 97) rfl) rfl
theorem lm_L_75 : Cond.methodLink R_L 75 y_T_covered ∈ WG := wg2 (List.mem_of_getElem? (i := 98) rfl) rfl
theorem vi_T_covered : Cond.instanceMethod y_T_covered ∈ WG := wg2 (List.mem_of_getElem? (i := 99) rfl) rfl
theorem ve_T_covered : Cond.selects R_T y_T_covered y_T_covered ∈ WG := wg2 (List.mem_of_getElem? (i := 100) rfl) rfl
theorem vc_T_covered : Cond.code y_T_covered b_T_covered 3 (some .int) ∈ WG := wg2 (List.mem_of_getElem? (i := 101) rfl) rfl
theorem lm_L_80 : Cond.methodLink R_L 80 y_T_estimate ∈ WG := wg2 (List.mem_of_getElem? (i := 102) rfl) rfl
theorem vi_T_estimate : Cond.instanceMethod y_T_estimate ∈ WG := wg2 (List.mem_of_getElem? (i := 103) rfl) rfl
theorem ve_T_estimate : Cond.selects R_T y_T_estimate y_T_estimate ∈ WG := wg2 (List.mem_of_getElem? (i := 104) rfl) rfl
theorem vc_T_estimate : Cond.code y_T_estimate b_T_estimate 3 (some .int) ∈ WG := wg2 (List.mem_of_getElem? (i := 105) rfl) rfl
theorem lm_L_84 : Cond.methodLink R_L 84 y_T_top ∈ WG := wg2 (List.mem_of_getElem? (i := 106) rfl) rfl
theorem vi_T_top : Cond.instanceMethod y_T_top ∈ WG := wg2 (List.mem_of_getElem? (i := 107) rfl) rfl
theorem ve_T_top : Cond.selects R_T y_T_top y_T_top ∈ WG := wg2 (List.mem_of_getElem? (i := 108) rfl) rfl
theorem vc_T_top : Cond.code y_T_top b_T_top 3 (some .int) ∈ WG := wg2 (List.mem_of_getElem? (i := 109) rfl) rfl
theorem lm_T_148 : Cond.methodLink R_T 148 y_C_valueAtRank ∈ WG := wg2 (List.mem_of_getElem? (i := 110) rfl) rfl
theorem lm_L_88 : Cond.methodLink R_L 88 y_T_digestSize ∈ WG := wg2 (List.mem_of_getElem? (i := 111) rfl) rfl
theorem vi_T_digestSize : Cond.instanceMethod y_T_digestSize ∈ WG := wg2 (List.mem_of_getElem? (i := 112) rfl) rfl
theorem ve_T_digestSize : Cond.selects R_T y_T_digestSize y_T_digestSize ∈ WG := wg2 (List.mem_of_getElem? (i := 113) rfl) rfl
theorem vc_T_digestSize : Cond.code y_T_digestSize b_T_digestSize 2 (some .int) ∈ WG := wg2 (List.mem_of_getElem? (i := 114) rfl) rfl
theorem lm_T_155 : Cond.methodLink R_T 155 y_D_rangesInUse ∈ WG := wg2 (List.mem_of_getElem? (i := 115) rfl) rfl
theorem vi_D_rangesInUse : Cond.instanceMethod y_D_rangesInUse ∈ WG := wg2 (List.mem_of_getElem? (i := 116) rfl) rfl
theorem ve_D_rangesInUse : Cond.selects R_D y_D_rangesInUse y_D_rangesInUse ∈ WG := wg2 (List.mem_of_getElem? (i := 117) rfl) rfl
theorem vc_D_rangesInUse : Cond.code y_D_rangesInUse b_D_rangesInUse 3 (some .int) ∈ WG := wg2 (List.mem_of_getElem? (i := 118) rfl) rfl
theorem lm_L_92 : Cond.methodLink R_L 92 y_T_below ∈ WG := wg2 (List.mem_of_getElem? (i := 119) rfl) rfl
theorem vi_T_below : Cond.instanceMethod y_T_below ∈ WG := wg2 (List.mem_of_getElem? (i := 120) rfl) rfl
theorem ve_T_below : Cond.selects R_T y_T_below y_T_below ∈ WG := wg2 (List.mem_of_getElem? (i := 121) rfl) rfl
theorem vc_T_below : Cond.code y_T_below b_T_below 5 (some .int) ∈ WG := wg2 (List.mem_of_getElem? (i := 122) rfl) rfl
theorem lm_T_160 : Cond.methodLink R_T 160 y_D_startingBefore ∈ WG := wg2 (List.mem_of_getElem? (i := 123) rfl) rfl
theorem vi_D_startingBefore : Cond.instanceMethod y_D_startingBefore ∈ WG := wg2 (List.mem_of_getElem? (i := 124) rfl) rfl
theorem ve_D_startingBefore : Cond.selects R_D y_D_startingBefore y_D_startingBefore ∈ WG := wg2 (List.mem_of_getElem? (i := 125) rfl) rfl
theorem vc_D_startingBefore : Cond.code y_D_startingBefore b_D_startingBefore 4 (some .int) ∈ WG := wg2 (List.mem_of_getElem? (i := 126) rfl) rfl
theorem lm_D_35 : Cond.methodLink R_D 35 y_D_startingAt ∈ WG := wg2 (List.mem_of_getElem? (i := 127) rfl) rfl
theorem vi_D_startingAt : Cond.instanceMethod y_D_startingAt ∈ WG := wg2 (List.mem_of_getElem? (i := 128) rfl) rfl
theorem ve_D_startingAt : Cond.selects R_D y_D_startingAt y_D_startingAt ∈ WG := wg2 (List.mem_of_getElem? (i := 129) rfl) rfl
theorem vc_D_startingAt : Cond.code y_D_startingAt b_D_startingAt 4 (some .int) ∈ WG := wg2 (List.mem_of_getElem? (i := 130) rfl) rfl
theorem lm_T_163 : Cond.methodLink R_T 163 y_D_endingBefore ∈ WG := wg2 (List.mem_of_getElem? (i := 131) rfl) rfl
theorem vi_D_endingBefore : Cond.instanceMethod y_D_endingBefore ∈ WG := wg2 (List.mem_of_getElem? (i := 132) rfl) rfl
theorem ve_D_endingBefore : Cond.selects R_D y_D_endingBefore y_D_endingBefore ∈ WG := wg2 (List.mem_of_getElem? (i := 133) rfl) rfl
theorem vc_D_endingBefore : Cond.code y_D_endingBefore b_D_endingBefore 4 (some .int) ∈ WG := wg2 (List.mem_of_getElem? (i := 134) rfl) rfl
theorem lm_D_31 : Cond.methodLink R_D 31 y_D_endingAt ∈ WG := wg2 (List.mem_of_getElem? (i := 135) rfl) rfl
theorem vi_D_endingAt : Cond.instanceMethod y_D_endingAt ∈ WG := wg2 (List.mem_of_getElem? (i := 136) rfl) rfl
theorem ve_D_endingAt : Cond.selects R_D y_D_endingAt y_D_endingAt ∈ WG := wg2 (List.mem_of_getElem? (i := 137) rfl) rfl
theorem vc_D_endingAt : Cond.code y_D_endingAt b_D_endingAt 4 (some .int) ∈ WG := wg2 (List.mem_of_getElem? (i := 138) rfl) rfl
theorem lm_L_97 : Cond.methodLink R_L 97 y_T_quantile ∈ WG := wg2 (List.mem_of_getElem? (i := 139) rfl) rfl
theorem vi_T_quantile : Cond.instanceMethod y_T_quantile ∈ WG := wg2 (List.mem_of_getElem? (i := 140) rfl) rfl
theorem ve_T_quantile : Cond.selects R_T y_T_quantile y_T_quantile ∈ WG := wg2 (List.mem_of_getElem? (i := 141) rfl) rfl
theorem vc_T_quantile : Cond.code y_T_quantile b_T_quantile 4 (some .int) ∈ WG := wg2 (List.mem_of_getElem? (i := 142) rfl) rfl
theorem lm_T_166 : Cond.methodLink R_T 166 y_D_valueReaching ∈ WG := wg2 (List.mem_of_getElem? (i := 143) rfl) rfl
theorem vi_D_valueReaching : Cond.instanceMethod y_D_valueReaching ∈ WG := wg2 (List.mem_of_getElem? (i := 144) rfl) rfl
theorem ve_D_valueReaching : Cond.selects R_D y_D_valueReaching y_D_valueReaching ∈ WG := wg2 (List.mem_of_getElem? (i := 145) rfl) rfl
theorem vc_D_valueReaching : Cond.code y_D_valueReaching b_D_valueReaching 4 (some .int) ∈ WG := wg2 (List.mem_of_getElem? (i := 146) rfl) rfl
theorem lm_L_9 : Cond.methodLink R_L 9 y_L_cell ∈ WG := wg2 (List.mem_of_getElem? (i := 147) rfl) rfl
theorem vs_L_cell : Cond.static y_L_cell ∈ WG := wg2 (List.mem_of_getElem? (i := 148) rfl) rfl
theorem vc_L_cell : Cond.code y_L_cell b_L_cell 2 (some .int) ∈ WG := wg2 (List.mem_of_getElem? (i := 149) rfl) rfl
theorem lc_L_18 : Cond.classLink R_L 18 R_R ∈ WG := wg2 (List.mem_of_getElem? (i := 150) rfl) rfl
theorem vm_R : Cond.instantiable R_R 22 ∈ WG := wg2 (List.mem_of_getElem? (i := 151) rfl) rfl
theorem lm_L_20 : Cond.methodLink R_L 20 y_R_init ∈ WG := wg2 (List.mem_of_getElem? (i := 152) rfl) rfl
theorem vi_R_init : Cond.instanceMethod y_R_init ∈ WG := wg2 (List.mem_of_getElem? (i := 153) rfl) rfl
theorem vc_R_init : Cond.code y_R_init b_R_init 3 none ∈ WG := wg2 (List.mem_of_getElem? (i := 154) rfl) rfl
theorem lm_R_1 : Cond.methodLink R_R 1 objectInit ∈ WG := wg2 (List.mem_of_getElem? (i := 155) rfl) rfl
theorem lf_R_69 : Cond.fieldLink R_R 69 "TelemetryTreeModel" "k" "I" ∈ WG := wg2 (List.mem_of_getElem? (i := 156) rfl) rfl
theorem lf_R_72 : Cond.fieldLink R_R 72 "TelemetryTreeModel" "d" "I" ∈ WG := wg2 (List.mem_of_getElem? (i := 157) rfl) rfl
theorem lf_R_7 : Cond.fieldLink R_R 7 "TelemetryTreeModel" "nodes" "I" ∈ WG := wg2 (List.mem_of_getElem? (i := 158) rfl) rfl
theorem lf_R_13 : Cond.fieldLink R_R 13 "TelemetryTreeModel" "up" "[I" ∈ WG := wg2 (List.mem_of_getElem? (i := 159) rfl) rfl
theorem lf_R_17 : Cond.fieldLink R_R 17 "TelemetryTreeModel" "isLeaf" "[Z" ∈ WG := wg2 (List.mem_of_getElem? (i := 160) rfl) rfl
theorem lf_R_21 : Cond.fieldLink R_R 21 "TelemetryTreeModel" "reports" "[I" ∈ WG := wg2 (List.mem_of_getElem? (i := 161) rfl) rfl
theorem lf_R_24 : Cond.fieldLink R_R 24 "TelemetryTreeModel" "journal" "[I" ∈ WG := wg2 (List.mem_of_getElem? (i := 162) rfl) rfl
theorem lf_R_27 : Cond.fieldLink R_R 27 "TelemetryTreeModel" "written" "[I" ∈ WG := wg2 (List.mem_of_getElem? (i := 163) rfl) rfl
theorem lf_R_30 : Cond.fieldLink R_R 30 "TelemetryTreeModel" "open" "[I" ∈ WG := wg2 (List.mem_of_getElem? (i := 164) rfl) rfl
theorem lf_R_33 : Cond.fieldLink R_R 33 "TelemetryTreeModel" "opened" "[I" ∈ WG := wg2 (List.mem_of_getElem? (i := 165) rfl) rfl
theorem lf_R_36 : Cond.fieldLink R_R 36 "TelemetryTreeModel" "keptVersion" "[I" ∈ WG := wg2 (List.mem_of_getElem? (i := 166) rfl) rfl
theorem lf_R_39 : Cond.fieldLink R_R 39 "TelemetryTreeModel" "kept" "[I" ∈ WG := wg2 (List.mem_of_getElem? (i := 167) rfl) rfl
theorem lf_R_93 : Cond.fieldLink R_R 93 "TelemetryTreeModel" "messages" "I" ∈ WG := wg2 (List.mem_of_getElem? (i := 168) rfl) rfl
theorem lf_R_42 : Cond.fieldLink R_R 42 "TelemetryTreeModel" "number" "[I" ∈ WG := wg2 (List.mem_of_getElem? (i := 169) rfl) rfl
theorem lf_R_45 : Cond.fieldLink R_R 45 "TelemetryTreeModel" "sender" "[I" ∈ WG := wg2 (List.mem_of_getElem? (i := 170) rfl) rfl
theorem lf_R_48 : Cond.fieldLink R_R 48 "TelemetryTreeModel" "version" "[I" ∈ WG := wg2 (List.mem_of_getElem? (i := 171) rfl) rfl
theorem lf_R_51 : Cond.fieldLink R_R 51 "TelemetryTreeModel" "carried" "[I" ∈ WG := wg2 (List.mem_of_getElem? (i := 172) rfl) rfl
theorem lf_R_54 : Cond.fieldLink R_R 54 "TelemetryTreeModel" "known" "[I" ∈ WG := wg2 (List.mem_of_getElem? (i := 173) rfl) rfl
theorem lf_R_57 : Cond.fieldLink R_R 57 "TelemetryTreeModel" "n" "[I" ∈ WG := wg2 (List.mem_of_getElem? (i := 174) rfl) rfl
theorem lf_R_60 : Cond.fieldLink R_R 60 "TelemetryTreeModel" "counter" "[I" ∈ WG := wg2 (List.mem_of_getElem? (i := 175) rfl) rfl
theorem lf_R_63 : Cond.fieldLink R_R 63 "TelemetryTreeModel" "digest" "[I" ∈ WG := wg2 (List.mem_of_getElem? (i := 176) rfl) rfl
theorem lf_R_66 : Cond.fieldLink R_R 66 "TelemetryTreeModel" "used" "[Z" ∈ WG := wg2 (List.mem_of_getElem? (i := 177) rfl) rfl
theorem vk_boolean : Cond.arrayClass .boolean ∈ WG := wg2 (List.mem_of_getElem? (i := 223) rfl) rfl
theorem lm_L_25 : Cond.methodLink R_L 25 y_R_attach ∈ WG := wg2 (List.mem_of_getElem? (i := 224) rfl) rfl
theorem vi_R_attach : Cond.instanceMethod y_R_attach ∈ WG := wg2 (List.mem_of_getElem? (i := 225) rfl) rfl
theorem ve_R_attach : Cond.selects R_R y_R_attach y_R_attach ∈ WG := wg2 (List.mem_of_getElem? (i := 226) rfl) rfl
theorem vc_R_attach : Cond.code y_R_attach b_R_attach 3 (some .int) ∈ WG := wg2 (List.mem_of_getElem? (i := 227) rfl) rfl
theorem lm_R_75 : Cond.methodLink R_R 75 y_R_isNode ∈ WG := wg2 (List.mem_of_getElem? (i := 228) rfl) rfl
theorem vi_R_isNode : Cond.instanceMethod y_R_isNode ∈ WG := wg2 (List.mem_of_getElem? (i := 230) rfl) rfl
theorem vc_R_isNode : Cond.code y_R_isNode b_R_isNode 2 (some .boolean) ∈ WG := wg2 (List.mem_of_getElem? (i := 231) rfl) rfl
theorem lm_L_30 : Cond.methodLink R_L 30 y_R_add ∈ WG := wg2 (List.mem_of_getElem? (i := 232) rfl) rfl
theorem vi_R_add : Cond.instanceMethod y_R_add ∈ WG := wg2 (List.mem_of_getElem? (i := 233) rfl) rfl
theorem ve_R_add : Cond.selects R_R y_R_add y_R_add ∈ WG := wg2 (List.mem_of_getElem? (i := 234) rfl) rfl
theorem vc_R_add : Cond.code y_R_add b_R_add 3 (some .boolean) ∈ WG := wg2 (List.mem_of_getElem? (i := 235) rfl) rfl
theorem lm_R_79 : Cond.methodLink R_R 79 y_R_leafNode ∈ WG := wg2 (List.mem_of_getElem? (i := 236) rfl) rfl
theorem vi_R_leafNode : Cond.instanceMethod y_R_leafNode ∈ WG := wg2 (List.mem_of_getElem? (i := 238) rfl) rfl
theorem vc_R_leafNode : Cond.code y_R_leafNode b_R_leafNode 2 (some .boolean) ∈ WG := wg2 (List.mem_of_getElem? (i := 239) rfl) rfl
theorem lm_R_82 : Cond.methodLink R_R 82 y_R_writeBlock ∈ WG := wg3 (List.mem_of_getElem? (i := 0) rfl) rfl
theorem vi_R_writeBlock : Cond.instanceMethod y_R_writeBlock ∈ WG := wg3 (List.mem_of_getElem? (i := 2) rfl) rfl
theorem vc_R_writeBlock : Cond.code y_R_writeBlock b_R_writeBlock 3 none ∈ WG := wg3 (List.mem_of_getElem? (i := 3) rfl) rfl
theorem lm_L_35 : Cond.methodLink R_L 35 y_R_flush ∈ WG := wg3 (List.mem_of_getElem? (i := 4) rfl) rfl
theorem vi_R_flush : Cond.instanceMethod y_R_flush ∈ WG := wg3 (List.mem_of_getElem? (i := 5) rfl) rfl
theorem ve_R_flush : Cond.selects R_R y_R_flush y_R_flush ∈ WG := wg3 (List.mem_of_getElem? (i := 6) rfl) rfl
theorem vc_R_flush : Cond.code y_R_flush b_R_flush 3 (some .int) ∈ WG := wg3 (List.mem_of_getElem? (i := 7) rfl) rfl
theorem lm_L_40 : Cond.methodLink R_L 40 y_R_crash ∈ WG := wg3 (List.mem_of_getElem? (i := 8) rfl) rfl
theorem vi_R_crash : Cond.instanceMethod y_R_crash ∈ WG := wg3 (List.mem_of_getElem? (i := 9) rfl) rfl
theorem ve_R_crash : Cond.selects R_R y_R_crash y_R_crash ∈ WG := wg3 (List.mem_of_getElem? (i := 10) rfl) rfl
theorem vc_R_crash : Cond.code y_R_crash b_R_crash 3 (some .boolean) ∈ WG := wg3 (List.mem_of_getElem? (i := 11) rfl) rfl
theorem lm_L_44 : Cond.methodLink R_L 44 y_R_report ∈ WG := wg3 (List.mem_of_getElem? (i := 12) rfl) rfl
theorem vi_R_report : Cond.instanceMethod y_R_report ∈ WG := wg3 (List.mem_of_getElem? (i := 13) rfl) rfl
theorem ve_R_report : Cond.selects R_R y_R_report y_R_report ∈ WG := wg3 (List.mem_of_getElem? (i := 14) rfl) rfl
theorem vc_R_report : Cond.code y_R_report b_R_report 4 (some .int) ∈ WG := wg3 (List.mem_of_getElem? (i := 15) rfl) rfl
theorem lm_R_86 : Cond.methodLink R_R 86 y_R_freePlace ∈ WG := wg3 (List.mem_of_getElem? (i := 16) rfl) rfl
theorem vi_R_freePlace : Cond.instanceMethod y_R_freePlace ∈ WG := wg3 (List.mem_of_getElem? (i := 18) rfl) rfl
theorem vc_R_freePlace : Cond.code y_R_freePlace b_R_freePlace 2 (some .int) ∈ WG := wg3 (List.mem_of_getElem? (i := 19) rfl) rfl
theorem lm_R_90 : Cond.methodLink R_R 90 y_R_know ∈ WG := wg3 (List.mem_of_getElem? (i := 20) rfl) rfl
theorem vi_R_know : Cond.instanceMethod y_R_know ∈ WG := wg3 (List.mem_of_getElem? (i := 22) rfl) rfl
theorem vc_R_know : Cond.code y_R_know b_R_know 4 none ∈ WG := wg3 (List.mem_of_getElem? (i := 23) rfl) rfl
theorem lm_L_48 : Cond.methodLink R_L 48 y_R_copy ∈ WG := wg3 (List.mem_of_getElem? (i := 24) rfl) rfl
theorem vi_R_copy : Cond.instanceMethod y_R_copy ∈ WG := wg3 (List.mem_of_getElem? (i := 25) rfl) rfl
theorem ve_R_copy : Cond.selects R_R y_R_copy y_R_copy ∈ WG := wg3 (List.mem_of_getElem? (i := 26) rfl) rfl
theorem vc_R_copy : Cond.code y_R_copy b_R_copy 5 (some .int) ∈ WG := wg3 (List.mem_of_getElem? (i := 27) rfl) rfl
theorem lm_R_96 : Cond.methodLink R_R 96 y_R_placeOf ∈ WG := wg3 (List.mem_of_getElem? (i := 28) rfl) rfl
theorem vi_R_placeOf : Cond.instanceMethod y_R_placeOf ∈ WG := wg3 (List.mem_of_getElem? (i := 30) rfl) rfl
theorem vc_R_placeOf : Cond.code y_R_placeOf b_R_placeOf 3 (some .int) ∈ WG := wg3 (List.mem_of_getElem? (i := 31) rfl) rfl
theorem lm_L_52 : Cond.methodLink R_L 52 y_R_drop ∈ WG := wg3 (List.mem_of_getElem? (i := 32) rfl) rfl
theorem vi_R_drop : Cond.instanceMethod y_R_drop ∈ WG := wg3 (List.mem_of_getElem? (i := 33) rfl) rfl
theorem ve_R_drop : Cond.selects R_R y_R_drop y_R_drop ∈ WG := wg3 (List.mem_of_getElem? (i := 34) rfl) rfl
theorem vc_R_drop : Cond.code y_R_drop b_R_drop 3 (some .boolean) ∈ WG := wg3 (List.mem_of_getElem? (i := 35) rfl) rfl
theorem lm_L_56 : Cond.methodLink R_L 56 y_R_deliver ∈ WG := wg3 (List.mem_of_getElem? (i := 36) rfl) rfl
theorem vi_R_deliver : Cond.instanceMethod y_R_deliver ∈ WG := wg3 (List.mem_of_getElem? (i := 37) rfl) rfl
theorem ve_R_deliver : Cond.selects R_R y_R_deliver y_R_deliver ∈ WG := wg3 (List.mem_of_getElem? (i := 38) rfl) rfl
theorem vc_R_deliver : Cond.code y_R_deliver b_R_deliver 5 (some .int) ∈ WG := wg3 (List.mem_of_getElem? (i := 39) rfl) rfl
theorem lm_L_61 : Cond.methodLink R_L 61 y_R_onTheWay ∈ WG := wg3 (List.mem_of_getElem? (i := 40) rfl) rfl
theorem vi_R_onTheWay : Cond.instanceMethod y_R_onTheWay ∈ WG := wg3 (List.mem_of_getElem? (i := 41) rfl) rfl
theorem ve_R_onTheWay : Cond.selects R_R y_R_onTheWay y_R_onTheWay ∈ WG := wg3 (List.mem_of_getElem? (i := 42) rfl) rfl
theorem vc_R_onTheWay : Cond.code y_R_onTheWay b_R_onTheWay 3 (some .int) ∈ WG := wg3 (List.mem_of_getElem? (i := 43) rfl) rfl
theorem lm_L_65 : Cond.methodLink R_L 65 y_R_total ∈ WG := wg3 (List.mem_of_getElem? (i := 44) rfl) rfl
theorem vi_R_total : Cond.instanceMethod y_R_total ∈ WG := wg3 (List.mem_of_getElem? (i := 45) rfl) rfl
theorem ve_R_total : Cond.selects R_R y_R_total y_R_total ∈ WG := wg3 (List.mem_of_getElem? (i := 46) rfl) rfl
theorem vc_R_total : Cond.code y_R_total b_R_total 4 (some .int) ∈ WG := wg3 (List.mem_of_getElem? (i := 47) rfl) rfl
theorem lm_L_70 : Cond.methodLink R_L 70 y_R_sum ∈ WG := wg3 (List.mem_of_getElem? (i := 48) rfl) rfl
theorem vi_R_sum : Cond.instanceMethod y_R_sum ∈ WG := wg3 (List.mem_of_getElem? (i := 49) rfl) rfl
theorem ve_R_sum : Cond.selects R_R y_R_sum y_R_sum ∈ WG := wg3 (List.mem_of_getElem? (i := 50) rfl) rfl
theorem vc_R_sum : Cond.code y_R_sum b_R_sum 6 (some .long) ∈ WG := wg3 (List.mem_of_getElem? (i := 51) rfl) rfl
theorem lk_R_125 : Cond.constantLong R_R 125 (-1) ∈ WG := wg3 (List.mem_of_getElem? (i := 52) rfl) rfl
theorem lm_L_74 : Cond.methodLink R_L 74 y_R_extreme ∈ WG := wg3 (List.mem_of_getElem? (i := 53) rfl) rfl
theorem vi_R_extreme : Cond.instanceMethod y_R_extreme ∈ WG := wg3 (List.mem_of_getElem? (i := 54) rfl) rfl
theorem ve_R_extreme : Cond.selects R_R y_R_extreme y_R_extreme ∈ WG := wg3 (List.mem_of_getElem? (i := 55) rfl) rfl
theorem vc_R_extreme : Cond.code y_R_extreme b_R_extreme 7 (some .int) ∈ WG := wg3 (List.mem_of_getElem? (i := 56) rfl) rfl
theorem lm_L_79 : Cond.methodLink R_L 79 y_R_covered ∈ WG := wg3 (List.mem_of_getElem? (i := 57) rfl) rfl
theorem vi_R_covered : Cond.instanceMethod y_R_covered ∈ WG := wg3 (List.mem_of_getElem? (i := 58) rfl) rfl
theorem ve_R_covered : Cond.selects R_R y_R_covered y_R_covered ∈ WG := wg3 (List.mem_of_getElem? (i := 59) rfl) rfl
theorem vc_R_covered : Cond.code y_R_covered b_R_covered 3 (some .int) ∈ WG := wg3 (List.mem_of_getElem? (i := 60) rfl) rfl
theorem lm_L_83 : Cond.methodLink R_L 83 y_R_estimate ∈ WG := wg3 (List.mem_of_getElem? (i := 61) rfl) rfl
theorem vi_R_estimate : Cond.instanceMethod y_R_estimate ∈ WG := wg3 (List.mem_of_getElem? (i := 62) rfl) rfl
theorem ve_R_estimate : Cond.selects R_R y_R_estimate y_R_estimate ∈ WG := wg3 (List.mem_of_getElem? (i := 63) rfl) rfl
theorem vc_R_estimate : Cond.code y_R_estimate b_R_estimate 3 (some .int) ∈ WG := wg3 (List.mem_of_getElem? (i := 64) rfl) rfl
theorem lm_R_127 : Cond.methodLink R_R 127 y_R_work ∈ WG := wg3 (List.mem_of_getElem? (i := 65) rfl) rfl
theorem vi_R_work : Cond.instanceMethod y_R_work ∈ WG := wg3 (List.mem_of_getElem? (i := 67) rfl) rfl
theorem vc_R_work : Cond.code y_R_work b_R_work 4 none ∈ WG := wg3 (List.mem_of_getElem? (i := 68) rfl) rfl
theorem lm_R_100 : Cond.methodLink R_R 100 y_R_clear ∈ WG := wg3 (List.mem_of_getElem? (i := 69) rfl) rfl
theorem vi_R_clear : Cond.instanceMethod y_R_clear ∈ WG := wg3 (List.mem_of_getElem? (i := 71) rfl) rfl
theorem vc_R_clear : Cond.code y_R_clear b_R_clear 3 none ∈ WG := wg3 (List.mem_of_getElem? (i := 72) rfl) rfl
theorem lm_R_103 : Cond.methodLink R_R 103 y_R_take ∈ WG := wg3 (List.mem_of_getElem? (i := 73) rfl) rfl
theorem vi_R_take : Cond.instanceMethod y_R_take ∈ WG := wg3 (List.mem_of_getElem? (i := 75) rfl) rfl
theorem vc_R_take : Cond.code y_R_take b_R_take 3 none ∈ WG := wg3 (List.mem_of_getElem? (i := 76) rfl) rfl
theorem lm_R_110 : Cond.methodLink R_R 110 y_R_counters ∈ WG := wg3 (List.mem_of_getElem? (i := 77) rfl) rfl
theorem vi_R_counters : Cond.instanceMethod y_R_counters ∈ WG := wg3 (List.mem_of_getElem? (i := 79) rfl) rfl
theorem vc_R_counters : Cond.code y_R_counters b_R_counters 4 (some .int) ∈ WG := wg3 (List.mem_of_getElem? (i := 80) rfl) rfl
theorem lm_R_113 : Cond.methodLink R_R 113 y_R_lower ∈ WG := wg3 (List.mem_of_getElem? (i := 81) rfl) rfl
theorem vi_R_lower : Cond.instanceMethod y_R_lower ∈ WG := wg3 (List.mem_of_getElem? (i := 83) rfl) rfl
theorem vc_R_lower : Cond.code y_R_lower b_R_lower 5 none ∈ WG := wg3 (List.mem_of_getElem? (i := 84) rfl) rfl
theorem lm_R_116 : Cond.methodLink R_R 116 y_R_compress ∈ WG := wg3 (List.mem_of_getElem? (i := 85) rfl) rfl
theorem vi_R_compress : Cond.instanceMethod y_R_compress ∈ WG := wg3 (List.mem_of_getElem? (i := 87) rfl) rfl
theorem vc_R_compress : Cond.code y_R_compress b_R_compress 9 none ∈ WG := wg3 (List.mem_of_getElem? (i := 88) rfl) rfl
theorem lm_R_107 : Cond.methodLink R_R 107 y_R_merge ∈ WG := wg3 (List.mem_of_getElem? (i := 89) rfl) rfl
theorem vi_R_merge : Cond.instanceMethod y_R_merge ∈ WG := wg3 (List.mem_of_getElem? (i := 91) rfl) rfl
theorem vc_R_merge : Cond.code y_R_merge b_R_merge 6 none ∈ WG := wg3 (List.mem_of_getElem? (i := 92) rfl) rfl
theorem lm_R_119 : Cond.methodLink R_R 119 y_R_clearUsed ∈ WG := wg3 (List.mem_of_getElem? (i := 93) rfl) rfl
theorem vi_R_clearUsed : Cond.instanceMethod y_R_clearUsed ∈ WG := wg3 (List.mem_of_getElem? (i := 95) rfl) rfl
theorem vc_R_clearUsed : Cond.code y_R_clearUsed b_R_clearUsed 2 none ∈ WG := wg3 (List.mem_of_getElem? (i := 96) rfl) rfl
theorem lm_R_122 : Cond.methodLink R_R 122 y_R_greatestUnused ∈ WG := wg3 (List.mem_of_getElem? (i := 97) rfl) rfl
theorem vi_R_greatestUnused : Cond.instanceMethod y_R_greatestUnused ∈ WG := wg3 (List.mem_of_getElem? (i := 99) rfl) rfl
theorem vc_R_greatestUnused : Cond.code y_R_greatestUnused b_R_greatestUnused 4 (some .int) ∈ WG := wg3 (List.mem_of_getElem? (i := 100) rfl) rfl
theorem lm_L_87 : Cond.methodLink R_L 87 y_R_top ∈ WG := wg3 (List.mem_of_getElem? (i := 101) rfl) rfl
theorem vi_R_top : Cond.instanceMethod y_R_top ∈ WG := wg3 (List.mem_of_getElem? (i := 102) rfl) rfl
theorem ve_R_top : Cond.selects R_R y_R_top y_R_top ∈ WG := wg3 (List.mem_of_getElem? (i := 103) rfl) rfl
theorem vc_R_top : Cond.code y_R_top b_R_top 5 (some .int) ∈ WG := wg3 (List.mem_of_getElem? (i := 104) rfl) rfl
theorem lm_L_91 : Cond.methodLink R_L 91 y_R_digestSize ∈ WG := wg3 (List.mem_of_getElem? (i := 105) rfl) rfl
theorem vi_R_digestSize : Cond.instanceMethod y_R_digestSize ∈ WG := wg3 (List.mem_of_getElem? (i := 106) rfl) rfl
theorem ve_R_digestSize : Cond.selects R_R y_R_digestSize y_R_digestSize ∈ WG := wg3 (List.mem_of_getElem? (i := 107) rfl) rfl
theorem vc_R_digestSize : Cond.code y_R_digestSize b_R_digestSize 4 (some .int) ∈ WG := wg3 (List.mem_of_getElem? (i := 108) rfl) rfl
theorem lm_L_96 : Cond.methodLink R_L 96 y_R_below ∈ WG := wg3 (List.mem_of_getElem? (i := 109) rfl) rfl
theorem vi_R_below : Cond.instanceMethod y_R_below ∈ WG := wg3 (List.mem_of_getElem? (i := 110) rfl) rfl
theorem ve_R_below : Cond.selects R_R y_R_below y_R_below ∈ WG := wg3 (List.mem_of_getElem? (i := 111) rfl) rfl
theorem vc_R_below : Cond.code y_R_below b_R_below 9 (some .int) ∈ WG := wg3 (List.mem_of_getElem? (i := 112) rfl) rfl
theorem lm_R_130 : Cond.methodLink R_R 130 y_R_width ∈ WG := wg3 (List.mem_of_getElem? (i := 113) rfl) rfl
theorem vs_R_width : Cond.static y_R_width ∈ WG := wg3 (List.mem_of_getElem? (i := 114) rfl) rfl
theorem vc_R_width : Cond.code y_R_width b_R_width 1 (some .int) ∈ WG := wg3 (List.mem_of_getElem? (i := 115) rfl) rfl
theorem lm_R_133 : Cond.methodLink R_R 133 y_R_least ∈ WG := wg3 (List.mem_of_getElem? (i := 116) rfl) rfl
theorem vs_R_least : Cond.static y_R_least ∈ WG := wg3 (List.mem_of_getElem? (i := 117) rfl) rfl
theorem vc_R_least : Cond.code y_R_least b_R_least 2 (some .int) ∈ WG := wg3 (List.mem_of_getElem? (i := 118) rfl) rfl
theorem lm_L_100 : Cond.methodLink R_L 100 y_R_quantile ∈ WG := wg3 (List.mem_of_getElem? (i := 119) rfl) rfl
theorem vi_R_quantile : Cond.instanceMethod y_R_quantile ∈ WG := wg3 (List.mem_of_getElem? (i := 120) rfl) rfl
theorem ve_R_quantile : Cond.selects R_R y_R_quantile y_R_quantile ∈ WG := wg3 (List.mem_of_getElem? (i := 121) rfl) rfl
theorem vc_R_quantile : Cond.code y_R_quantile b_R_quantile 8 (some .int) ∈ WG := wg3 (List.mem_of_getElem? (i := 122) rfl) rfl
theorem ve_T_isNode : Cond.selects R_T y_T_isNode y_T_isNode ∈ WG := List.mem_filter.mpr ⟨List.mem_append_left _ (by decide +kernel), rfl⟩
theorem ve_T_isLeaf : Cond.selects R_T y_T_isLeaf y_T_isLeaf ∈ WG := List.mem_filter.mpr ⟨List.mem_append_left _ (by decide +kernel), rfl⟩
theorem ve_T_slotOf : Cond.selects R_T y_T_slotOf y_T_slotOf ∈ WG := List.mem_filter.mpr ⟨List.mem_append_left _ (by decide +kernel), rfl⟩
theorem ve_T_freeSlot : Cond.selects R_T y_T_freeSlot y_T_freeSlot ∈ WG := List.mem_filter.mpr ⟨List.mem_append_left _ (by decide +kernel), rfl⟩
theorem ve_T_slotWithNumber : Cond.selects R_T y_T_slotWithNumber y_T_slotWithNumber ∈ WG := List.mem_filter.mpr ⟨List.mem_append_left _ (by decide +kernel), rfl⟩
theorem ve_T_forgetChildren : Cond.selects R_T y_T_forgetChildren y_T_forgetChildren ∈ WG := List.mem_filter.mpr ⟨List.mem_append_left _ (by decide +kernel), rfl⟩
theorem ve_T_mergeKept : Cond.selects R_T y_T_mergeKept y_T_mergeKept ∈ WG := List.mem_filter.mpr ⟨List.mem_append_left _ (by decide +kernel), rfl⟩
theorem ve_R_isNode : Cond.selects R_R y_R_isNode y_R_isNode ∈ WG := List.mem_filter.mpr ⟨List.mem_append_left _ (by decide +kernel), rfl⟩
theorem ve_R_leafNode : Cond.selects R_R y_R_leafNode y_R_leafNode ∈ WG := List.mem_filter.mpr ⟨List.mem_append_left _ (by decide +kernel), rfl⟩
theorem ve_R_writeBlock : Cond.selects R_R y_R_writeBlock y_R_writeBlock ∈ WG := List.mem_filter.mpr ⟨List.mem_append_left _ (by decide +kernel), rfl⟩
theorem ve_R_placeOf : Cond.selects R_R y_R_placeOf y_R_placeOf ∈ WG := List.mem_filter.mpr ⟨List.mem_append_left _ (by decide +kernel), rfl⟩
theorem ve_R_freePlace : Cond.selects R_R y_R_freePlace y_R_freePlace ∈ WG := List.mem_filter.mpr ⟨List.mem_append_left _ (by decide +kernel), rfl⟩
theorem ve_R_know : Cond.selects R_R y_R_know y_R_know ∈ WG := List.mem_filter.mpr ⟨List.mem_append_left _ (by decide +kernel), rfl⟩
theorem ve_R_work : Cond.selects R_R y_R_work y_R_work ∈ WG := List.mem_filter.mpr ⟨List.mem_append_left _ (by decide +kernel), rfl⟩
theorem ve_R_clear : Cond.selects R_R y_R_clear y_R_clear ∈ WG := List.mem_filter.mpr ⟨List.mem_append_left _ (by decide +kernel), rfl⟩
theorem ve_R_counters : Cond.selects R_R y_R_counters y_R_counters ∈ WG := List.mem_filter.mpr ⟨List.mem_append_left _ (by decide +kernel), rfl⟩
theorem ve_R_lower : Cond.selects R_R y_R_lower y_R_lower ∈ WG := List.mem_filter.mpr ⟨List.mem_append_left _ (by decide +kernel), rfl⟩
theorem ve_R_take : Cond.selects R_R y_R_take y_R_take ∈ WG := List.mem_filter.mpr ⟨List.mem_append_left _ (by decide +kernel), rfl⟩
theorem ve_R_merge : Cond.selects R_R y_R_merge y_R_merge ∈ WG := List.mem_filter.mpr ⟨List.mem_append_left _ (by decide +kernel), rfl⟩
theorem ve_R_clearUsed : Cond.selects R_R y_R_clearUsed y_R_clearUsed ∈ WG := List.mem_filter.mpr ⟨List.mem_append_left _ (by decide +kernel), rfl⟩
theorem ve_R_greatestUnused : Cond.selects R_R y_R_greatestUnused y_R_greatestUnused ∈ WG := List.mem_filter.mpr ⟨List.mem_append_left _ (by decide +kernel), rfl⟩
theorem ve_R_compress : Cond.selects R_R y_R_compress y_R_compress ∈ WG := List.mem_filter.mpr ⟨List.mem_append_left _ (by decide +kernel), rfl⟩
theorem in_C {x : Cond} : ∀ w ∈ u_ws R_C F_C 2, w ∈ x :: WG := by
  have h : u_ws R_C F_C 2 = [.laysFinal "TelemetryTree$Counters" "TelemetryTree$Counters" "limit" "I", .laysFinal "TelemetryTree$Counters" "TelemetryTree$Counters" "counts" "[I"] := by decide +kernel
  rw [h]
  intro w hw
  refine wq ?_
  simp only [List.mem_cons, List.not_mem_nil, or_false] at hw
  rcases hw with rfl | rfl
  · exact wg1 (List.mem_of_getElem? (i := 48) rfl) rfl
  · exact wg1 (List.mem_of_getElem? (i := 50) rfl) rfl
theorem in_D {x : Cond} : ∀ w ∈ u_ws R_D F_D 2, w ∈ x :: WG := by
  have h : u_ws R_D F_D 2 = [.laysFinal "TelemetryTree$Digest" "TelemetryTree$Digest" "divisor" "I", .laysFinal "TelemetryTree$Digest" "TelemetryTree$Digest" "counts" "[I"] := by decide +kernel
  rw [h]
  intro w hw
  refine wq ?_
  simp only [List.mem_cons, List.not_mem_nil, or_false] at hw
  rcases hw with rfl | rfl
  · exact wg1 (List.mem_of_getElem? (i := 63) rfl) rfl
  · exact wg1 (List.mem_of_getElem? (i := 65) rfl) rfl
theorem in_M {x : Cond} : ∀ w ∈ u_ws R_M F_M 4, w ∈ x :: WG := by
  have h : u_ws R_M F_M 4 = [.lays "TelemetryTree$Message" "TelemetryTree$Message" "number" "I", .lays "TelemetryTree$Message" "TelemetryTree$Message" "sender" "I", .lays "TelemetryTree$Message" "TelemetryTree$Message" "version" "I", .laysFinal "TelemetryTree$Message" "TelemetryTree$Message" "summary" "LTelemetryTree$Summary;"] := by decide +kernel
  rw [h]
  intro w hw
  refine wq ?_
  simp only [List.mem_cons, List.not_mem_nil, or_false] at hw
  rcases hw with rfl | rfl | rfl | rfl
  · exact wg1 (List.mem_of_getElem? (i := 148) rfl) rfl
  · exact wg1 (List.mem_of_getElem? (i := 150) rfl) rfl
  · exact wg1 (List.mem_of_getElem? (i := 152) rfl) rfl
  · exact wg1 (List.mem_of_getElem? (i := 154) rfl) rfl
theorem in_N {x : Cond} : ∀ w ∈ u_ws R_N F_N 9, w ∈ x :: WG := by
  have h : u_ws R_N F_N 9 = [.laysFinal "TelemetryTree$Node" "TelemetryTree$Node" "number" "I", .lays "TelemetryTree$Node" "TelemetryTree$Node" "parent" "I", .lays "TelemetryTree$Node" "TelemetryTree$Node" "leaf" "Z", .laysFinal "TelemetryTree$Node" "TelemetryTree$Node" "open" "[I", .lays "TelemetryTree$Node" "TelemetryTree$Node" "openCount" "I", .lays "TelemetryTree$Node" "TelemetryTree$Node" "reports" "I", .laysFinal "TelemetryTree$Node" "TelemetryTree$Node" "summary" "LTelemetryTree$Summary;", .laysFinal "TelemetryTree$Node" "TelemetryTree$Node" "kept" "LTelemetryTree$Summary;", .lays "TelemetryTree$Node" "TelemetryTree$Node" "keptVersion" "I"] := by decide +kernel
  rw [h]
  intro w hw
  refine wq ?_
  simp only [List.mem_cons, List.not_mem_nil, or_false] at hw
  rcases hw with rfl | rfl | rfl | rfl | rfl | rfl | rfl | rfl | rfl
  · exact wg1 (List.mem_of_getElem? (i := 114) rfl) rfl
  · exact wg1 (List.mem_of_getElem? (i := 116) rfl) rfl
  · exact wg1 (List.mem_of_getElem? (i := 118) rfl) rfl
  · exact wg1 (List.mem_of_getElem? (i := 120) rfl) rfl
  · exact wg1 (List.mem_of_getElem? (i := 122) rfl) rfl
  · exact wg1 (List.mem_of_getElem? (i := 124) rfl) rfl
  · exact wg1 (List.mem_of_getElem? (i := 126) rfl) rfl
  · exact wg1 (List.mem_of_getElem? (i := 128) rfl) rfl
  · exact wg1 (List.mem_of_getElem? (i := 130) rfl) rfl
theorem in_S {x : Cond} : ∀ w ∈ u_ws R_S F_S 7, w ∈ x :: WG := by
  have h : u_ws R_S F_S 7 = [.lays "TelemetryTree$Summary" "TelemetryTree$Summary" "n" "I", .lays "TelemetryTree$Summary" "TelemetryTree$Summary" "itemSum" "J", .lays "TelemetryTree$Summary" "TelemetryTree$Summary" "least" "I", .lays "TelemetryTree$Summary" "TelemetryTree$Summary" "greatest" "I", .laysFinal "TelemetryTree$Summary" "TelemetryTree$Summary" "fromLeaf" "[I", .laysFinal "TelemetryTree$Summary" "TelemetryTree$Summary" "counters" "LTelemetryTree$Counters;", .laysFinal "TelemetryTree$Summary" "TelemetryTree$Summary" "digest" "LTelemetryTree$Digest;"] := by decide +kernel
  rw [h]
  intro w hw
  refine wq ?_
  simp only [List.mem_cons, List.not_mem_nil, or_false] at hw
  rcases hw with rfl | rfl | rfl | rfl | rfl | rfl | rfl
  · exact wg1 (List.mem_of_getElem? (i := 83) rfl) rfl
  · exact wg1 (List.mem_of_getElem? (i := 85) rfl) rfl
  · exact wg1 (List.mem_of_getElem? (i := 87) rfl) rfl
  · exact wg1 (List.mem_of_getElem? (i := 89) rfl) rfl
  · exact wg1 (List.mem_of_getElem? (i := 91) rfl) rfl
  · exact wg1 (List.mem_of_getElem? (i := 93) rfl) rfl
  · exact wg1 (List.mem_of_getElem? (i := 95) rfl) rfl
theorem in_T {x : Cond} : ∀ w ∈ u_ws R_T F_T 4, w ∈ x :: WG := by
  have h : u_ws R_T F_T 4 = [.laysFinal "TelemetryTree" "TelemetryTree" "nodes" "[LTelemetryTree$Node;", .lays "TelemetryTree" "TelemetryTree" "nodeCount" "I", .laysFinal "TelemetryTree" "TelemetryTree" "slots" "[LTelemetryTree$Message;", .lays "TelemetryTree" "TelemetryTree" "lastMessage" "I"] := by decide +kernel
  rw [h]
  intro w hw
  refine wq ?_
  simp only [List.mem_cons, List.not_mem_nil, or_false] at hw
  rcases hw with rfl | rfl | rfl | rfl
  · exact wg1 (List.mem_of_getElem? (i := 161) rfl) rfl
  · exact wg1 (List.mem_of_getElem? (i := 163) rfl) rfl
  · exact wg1 (List.mem_of_getElem? (i := 165) rfl) rfl
  · exact wg1 (List.mem_of_getElem? (i := 167) rfl) rfl
theorem in_R {x : Cond} : ∀ w ∈ u_ws R_R F_R 22, w ∈ x :: WG := by
  have h : u_ws R_R F_R 22 = [.lays "TelemetryTreeModel" "TelemetryTreeModel" "k" "I", .lays "TelemetryTreeModel" "TelemetryTreeModel" "d" "I", .lays "TelemetryTreeModel" "TelemetryTreeModel" "nodes" "I", .lays "TelemetryTreeModel" "TelemetryTreeModel" "up" "[I", .lays "TelemetryTreeModel" "TelemetryTreeModel" "isLeaf" "[Z", .lays "TelemetryTreeModel" "TelemetryTreeModel" "reports" "[I", .lays "TelemetryTreeModel" "TelemetryTreeModel" "journal" "[I", .lays "TelemetryTreeModel" "TelemetryTreeModel" "written" "[I", .lays "TelemetryTreeModel" "TelemetryTreeModel" "open" "[I", .lays "TelemetryTreeModel" "TelemetryTreeModel" "opened" "[I", .lays "TelemetryTreeModel" "TelemetryTreeModel" "keptVersion" "[I", .lays "TelemetryTreeModel" "TelemetryTreeModel" "kept" "[I", .lays "TelemetryTreeModel" "TelemetryTreeModel" "messages" "I", .lays "TelemetryTreeModel" "TelemetryTreeModel" "number" "[I", .lays "TelemetryTreeModel" "TelemetryTreeModel" "sender" "[I", .lays "TelemetryTreeModel" "TelemetryTreeModel" "version" "[I", .lays "TelemetryTreeModel" "TelemetryTreeModel" "carried" "[I", .lays "TelemetryTreeModel" "TelemetryTreeModel" "known" "[I", .lays "TelemetryTreeModel" "TelemetryTreeModel" "n" "[I", .lays "TelemetryTreeModel" "TelemetryTreeModel" "counter" "[I", .lays "TelemetryTreeModel" "TelemetryTreeModel" "digest" "[I", .lays "TelemetryTreeModel" "TelemetryTreeModel" "used" "[Z"] := by decide +kernel
  rw [h]
  intro w hw
  refine wq ?_
  simp only [List.mem_cons, List.not_mem_nil, or_false] at hw
  rcases hw with rfl | rfl | rfl | rfl | rfl | rfl | rfl | rfl | rfl | rfl | rfl | rfl | rfl | rfl | rfl | rfl | rfl | rfl | rfl | rfl | rfl | rfl
  · exact wg2 (List.mem_of_getElem? (i := 178) rfl) rfl
  · exact wg2 (List.mem_of_getElem? (i := 180) rfl) rfl
  · exact wg2 (List.mem_of_getElem? (i := 182) rfl) rfl
  · exact wg2 (List.mem_of_getElem? (i := 184) rfl) rfl
  · exact wg2 (List.mem_of_getElem? (i := 186) rfl) rfl
  · exact wg2 (List.mem_of_getElem? (i := 188) rfl) rfl
  · exact wg2 (List.mem_of_getElem? (i := 190) rfl) rfl
  · exact wg2 (List.mem_of_getElem? (i := 192) rfl) rfl
  · exact wg2 (List.mem_of_getElem? (i := 194) rfl) rfl
  · exact wg2 (List.mem_of_getElem? (i := 196) rfl) rfl
  · exact wg2 (List.mem_of_getElem? (i := 198) rfl) rfl
  · exact wg2 (List.mem_of_getElem? (i := 200) rfl) rfl
  · exact wg2 (List.mem_of_getElem? (i := 202) rfl) rfl
  · exact wg2 (List.mem_of_getElem? (i := 204) rfl) rfl
  · exact wg2 (List.mem_of_getElem? (i := 206) rfl) rfl
  · exact wg2 (List.mem_of_getElem? (i := 208) rfl) rfl
  · exact wg2 (List.mem_of_getElem? (i := 210) rfl) rfl
  · exact wg2 (List.mem_of_getElem? (i := 212) rfl) rfl
  · exact wg2 (List.mem_of_getElem? (i := 214) rfl) rfl
  · exact wg2 (List.mem_of_getElem? (i := 216) rfl) rfl
  · exact wg2 (List.mem_of_getElem? (i := 218) rfl) rfl
  · exact wg2 (List.mem_of_getElem? (i := 220) rfl) rfl
/-- the words that are carried by themselves: calls of a nest mate, arrays of references -/
def zN (s : State) : Prop := va_Nw (.methodLinkNest R_S 45 y_T_clear "TelemetryTree") s ∧ va_Nw (.methodLinkNest R_S 66 y_T_addTo "TelemetryTree") s ∧ va_Nw (.methodLinkNest R_C 27 y_T_addTo "TelemetryTree") s ∧ va_Nw (.methodLinkNest R_D 23 y_T_addTo "TelemetryTree") s ∧ va_Nw (.methodLinkNest R_S 53 y_T_overwrite "TelemetryTree") s ∧ va_AO R_N s ∧ va_AO R_M s
theorem zN.moved {s U : State} (hW : s.WarmedH U.vm) (h : zN s) : zN U := by
  obtain ⟨h0, h1, h2, h3, h4, h5, h6⟩ := h
  exact ⟨va_Nw.warmM hW h0, va_Nw.warmM hW h1, va_Nw.warmM hW h2, va_Nw.warmM hW h3, va_Nw.warmM hW h4, va_AO.moved hW.alike h5, va_AO.moved hW.alike h6⟩
theorem zN.blind {U : State} {g : JFrame} {mk : MethodId} {a : Array Value} (h : zN U) : zN (U.calling g mk a) := by
  obtain ⟨h0, h1, h2, h3, h4, h5, h6⟩ := h
  exact ⟨va_Nw.same rfl rfl h0, va_Nw.same rfl rfl h1, va_Nw.same rfl rfl h2, va_Nw.same rfl rfl h3, va_Nw.same rfl rfl h4, va_AO.moved (u := U) (U := U.calling g mk a) (Vm.Alike.refl U.vm) h5, va_AO.moved (u := U) (U := U.calling g mk a) (Vm.Alike.refl U.vm) h6⟩
theorem zn_S_45 {s : State} (h : zN s) : va_Nw (.methodLinkNest R_S 45 y_T_clear "TelemetryTree") s := h.1
theorem zn_S_66 {s : State} (h : zN s) : va_Nw (.methodLinkNest R_S 66 y_T_addTo "TelemetryTree") s := h.2.1
theorem zn_C_27 {s : State} (h : zN s) : va_Nw (.methodLinkNest R_C 27 y_T_addTo "TelemetryTree") s := h.2.2.1
theorem zn_D_23 {s : State} (h : zN s) : va_Nw (.methodLinkNest R_D 23 y_T_addTo "TelemetryTree") s := h.2.2.2.1
theorem zn_S_53 {s : State} (h : zN s) : va_Nw (.methodLinkNest R_S 53 y_T_overwrite "TelemetryTree") s := h.2.2.2.2.1
theorem zn_N {s : State} (h : zN s) : va_AO R_N s := h.2.2.2.2.2.1
theorem zn_M {s : State} (h : zN s) : va_AO R_M s := h.2.2.2.2.2.2
/-- what a method asks of the tables: its own code, and all the rest -/
abbrev wy (y : MethodName) (code : ByteArray) (n : Nat) (ret : Option FieldType) : List Cond := Cond.code y code n ret :: WG
def rm (d mc ms : Nat) : Room := { frames := d, cells := mc, slots := ms, locals := 40 * d }
theorem wg_good {w : Cond} (h : w ∈ WG) : (w.onTables && w.keeps) = true ∨ ∃ ty, w = .arrayClass ty := good_of_word (List.mem_filter.mp h).2
theorem gi_wy {x : Cond} {y : MethodName} {code : ByteArray} {n : Nat} {ret : Option FieldType} (h : Cond.code y code n ret ∈ WG) : GoodIn (x :: WG) (wy y code n ret) := fun w hw => by
  rcases List.mem_cons.mp hw with rfl | hw
  · exact ⟨wq h, wg_good h⟩
  · exact ⟨wq hw, wg_good hw⟩
theorem gi_V {x : Cond} {own C : String} {idx : Nat} {y : MethodName} {code : ByteArray} {n : Nat} {ret : Option FieldType} (h1 : Cond.methodLink own idx y ∈ WG) (h2 : Cond.instanceMethod y ∈ WG) (h3 : Cond.selects C y y ∈ WG) (h4 : Cond.initialized C ∈ WG) (h : Cond.code y code n ret ∈ WG) : GoodIn (x :: WG) (wsV own idx C y (wy y code n ret)) := fun w hw => by
  unfold wsV at hw
  rcases List.mem_append.mp hw with hw | hw
  · have hm : w ∈ WG := by
      simp only [List.mem_cons, List.not_mem_nil, or_false] at hw
      rcases hw with rfl | rfl | rfl | rfl
      · exact h1
      · exact h2
      · exact h3
      · exact h4
    exact ⟨wq hm, wg_good hm⟩
  · exact gi_wy h w hw
theorem gi_S {x : Cond} {own : String} {idx : Nat} {y : MethodName} {code : ByteArray} {n : Nat} {ret : Option FieldType} (h1 : Cond.methodLink own idx y ∈ WG) (h2 : Cond.static y ∈ WG) (h4 : Cond.initialized own ∈ WG) (h : Cond.code y code n ret ∈ WG) : GoodIn (x :: WG) (wsS own idx y (wy y code n ret)) := fun w hw => by
  unfold wsS at hw
  rcases List.mem_append.mp hw with hw | hw
  · have hm : w ∈ WG := by
      simp only [List.mem_cons, List.not_mem_nil, or_false] at hw
      rcases hw with rfl | rfl | rfl
      · exact h1
      · exact h2
      · exact h4
    exact ⟨wq hm, wg_good hm⟩
  · exact gi_wy h w hw
