section
-- ===== PART A: goes FIRST, ahead of the names: the tables' words, and 'selects' of the private methods out of them =====
/-- a private method of a class that the tables say can be made, by its rows of tables_1 -/
def lw_okq (q : MethodName × Nat) : Prop := (q.1.cls ≠ "java/lang/invoke/MethodHandle" ∧ q.1.cls ≠ "java/lang/invoke/VarHandle") ∧ Cond.instantiable q.1.cls q.2 ∈ tables_1 ∧ Cond.privateMethod q.1 ∈ tables_1 ∧ Cond.instanceMethod q.1 ∈ tables_1
theorem lw_p0 : lw_okq (⟨"TelemetryTree", "isNode", "(I)Z"⟩, 4) := ⟨⟨by decide +kernel, by decide +kernel⟩, List.mem_of_getElem? (i := 10) (by decide +kernel), List.mem_of_getElem? (i := 175) (by decide +kernel), List.mem_of_getElem? (i := 176) (by decide +kernel)⟩
theorem lw_p1 : lw_okq (⟨"TelemetryTree", "isLeaf", "(I)Z"⟩, 4) := ⟨⟨by decide +kernel, by decide +kernel⟩, List.mem_of_getElem? (i := 10) (by decide +kernel), List.mem_of_getElem? (i := 183) (by decide +kernel), List.mem_of_getElem? (i := 184) (by decide +kernel)⟩
theorem lw_p2 : lw_okq (⟨"TelemetryTree", "forgetChildren", "(I)V"⟩, 4) := ⟨⟨by decide +kernel, by decide +kernel⟩, List.mem_of_getElem? (i := 10) (by decide +kernel), List.mem_of_getElem? (i := 250) (by decide +kernel), List.mem_of_getElem? (i := 251) (by decide +kernel)⟩
theorem lw_p3 : lw_okq (⟨"TelemetryTree", "mergeKept", "(I)V"⟩, 4) := ⟨⟨by decide +kernel, by decide +kernel⟩, List.mem_of_getElem? (i := 10) (by decide +kernel), List.mem_of_getElem? (i := 254) (by decide +kernel), List.mem_of_getElem? (i := 255) (by decide +kernel)⟩
theorem lw_p4 : lw_okq (⟨"TelemetryTree", "freeSlot", "()I"⟩, 4) := ⟨⟨by decide +kernel, by decide +kernel⟩, List.mem_of_getElem? (i := 10) (by decide +kernel), List.mem_of_getElem? (i := 286) (by decide +kernel), List.mem_of_getElem? (i := 287) (by decide +kernel)⟩
theorem lw_p5 : lw_okq (⟨"TelemetryTree", "slotWithNumber", "(I)I"⟩, 4) := ⟨⟨by decide +kernel, by decide +kernel⟩, List.mem_of_getElem? (i := 10) (by decide +kernel), List.mem_of_getElem? (i := 290) (by decide +kernel), List.mem_of_getElem? (i := 291) (by decide +kernel)⟩
theorem lw_p6 : lw_okq (⟨"TelemetryTree", "slotOf", "(I)I"⟩, 4) := ⟨⟨by decide +kernel, by decide +kernel⟩, List.mem_of_getElem? (i := 10) (by decide +kernel), List.mem_of_getElem? (i := 309) (by decide +kernel), List.mem_of_getElem? (i := 310) (by decide +kernel)⟩
theorem lw_p7 : lw_okq (⟨"TelemetryTreeModel", "isNode", "(I)Z"⟩, 22) := ⟨⟨by decide +kernel, by decide +kernel⟩, List.mem_of_getElem? (i := 391) (by decide +kernel), List.mem_of_getElem? (i := 469) (by decide +kernel), List.mem_of_getElem? (i := 470) (by decide +kernel)⟩
theorem lw_p8 : lw_okq (⟨"TelemetryTreeModel", "leafNode", "(I)Z"⟩, 22) := ⟨⟨by decide +kernel, by decide +kernel⟩, List.mem_of_getElem? (i := 391) (by decide +kernel), List.mem_of_getElem? (i := 477) (by decide +kernel), List.mem_of_getElem? (i := 478) (by decide +kernel)⟩
theorem lw_p9 : lw_okq (⟨"TelemetryTreeModel", "writeBlock", "(I)V"⟩, 22) := ⟨⟨by decide +kernel, by decide +kernel⟩, List.mem_of_getElem? (i := 391) (by decide +kernel), List.mem_of_getElem? (i := 481) (by decide +kernel), List.mem_of_getElem? (i := 482) (by decide +kernel)⟩
theorem lw_p10 : lw_okq (⟨"TelemetryTreeModel", "freePlace", "()I"⟩, 22) := ⟨⟨by decide +kernel, by decide +kernel⟩, List.mem_of_getElem? (i := 391) (by decide +kernel), List.mem_of_getElem? (i := 497) (by decide +kernel), List.mem_of_getElem? (i := 498) (by decide +kernel)⟩
theorem lw_p11 : lw_okq (⟨"TelemetryTreeModel", "know", "(I)V"⟩, 22) := ⟨⟨by decide +kernel, by decide +kernel⟩, List.mem_of_getElem? (i := 391) (by decide +kernel), List.mem_of_getElem? (i := 501) (by decide +kernel), List.mem_of_getElem? (i := 502) (by decide +kernel)⟩
theorem lw_p12 : lw_okq (⟨"TelemetryTreeModel", "placeOf", "(I)I"⟩, 22) := ⟨⟨by decide +kernel, by decide +kernel⟩, List.mem_of_getElem? (i := 391) (by decide +kernel), List.mem_of_getElem? (i := 509) (by decide +kernel), List.mem_of_getElem? (i := 510) (by decide +kernel)⟩
theorem lw_p13 : lw_okq (⟨"TelemetryTreeModel", "work", "(I)V"⟩, 22) := ⟨⟨by decide +kernel, by decide +kernel⟩, List.mem_of_getElem? (i := 391) (by decide +kernel), List.mem_of_getElem? (i := 546) (by decide +kernel), List.mem_of_getElem? (i := 547) (by decide +kernel)⟩
theorem lw_p14 : lw_okq (⟨"TelemetryTreeModel", "clear", "(I)V"⟩, 22) := ⟨⟨by decide +kernel, by decide +kernel⟩, List.mem_of_getElem? (i := 391) (by decide +kernel), List.mem_of_getElem? (i := 550) (by decide +kernel), List.mem_of_getElem? (i := 551) (by decide +kernel)⟩
theorem lw_p15 : lw_okq (⟨"TelemetryTreeModel", "take", "(II)V"⟩, 22) := ⟨⟨by decide +kernel, by decide +kernel⟩, List.mem_of_getElem? (i := 391) (by decide +kernel), List.mem_of_getElem? (i := 554) (by decide +kernel), List.mem_of_getElem? (i := 555) (by decide +kernel)⟩
def lw_privs_1 : List (MethodName × Nat) := [(⟨"TelemetryTree", "isNode", "(I)Z"⟩, 4), (⟨"TelemetryTree", "isLeaf", "(I)Z"⟩, 4), (⟨"TelemetryTree", "forgetChildren", "(I)V"⟩, 4), (⟨"TelemetryTree", "mergeKept", "(I)V"⟩, 4), (⟨"TelemetryTree", "freeSlot", "()I"⟩, 4), (⟨"TelemetryTree", "slotWithNumber", "(I)I"⟩, 4), (⟨"TelemetryTree", "slotOf", "(I)I"⟩, 4), (⟨"TelemetryTreeModel", "isNode", "(I)Z"⟩, 22), (⟨"TelemetryTreeModel", "leafNode", "(I)Z"⟩, 22), (⟨"TelemetryTreeModel", "writeBlock", "(I)V"⟩, 22), (⟨"TelemetryTreeModel", "freePlace", "()I"⟩, 22), (⟨"TelemetryTreeModel", "know", "(I)V"⟩, 22), (⟨"TelemetryTreeModel", "placeOf", "(I)I"⟩, 22), (⟨"TelemetryTreeModel", "work", "(I)V"⟩, 22), (⟨"TelemetryTreeModel", "clear", "(I)V"⟩, 22), (⟨"TelemetryTreeModel", "take", "(II)V"⟩, 22)]
theorem lw_r1 : ∀ q ∈ lw_privs_1, lw_okq q := List.forall_mem_cons.mpr ⟨lw_p0, List.forall_mem_cons.mpr ⟨lw_p1, List.forall_mem_cons.mpr ⟨lw_p2, List.forall_mem_cons.mpr ⟨lw_p3, List.forall_mem_cons.mpr ⟨lw_p4, List.forall_mem_cons.mpr ⟨lw_p5, List.forall_mem_cons.mpr ⟨lw_p6, List.forall_mem_cons.mpr ⟨lw_p7, List.forall_mem_cons.mpr ⟨lw_p8, List.forall_mem_cons.mpr ⟨lw_p9, List.forall_mem_cons.mpr ⟨lw_p10, List.forall_mem_cons.mpr ⟨lw_p11, List.forall_mem_cons.mpr ⟨lw_p12, List.forall_mem_cons.mpr ⟨lw_p13, List.forall_mem_cons.mpr ⟨lw_p14, List.forall_mem_cons.mpr ⟨lw_p15, fun _ h => absurd h List.not_mem_nil⟩⟩⟩⟩⟩⟩⟩⟩⟩⟩⟩⟩⟩⟩⟩⟩
theorem lw_p16 : lw_okq (⟨"TelemetryTreeModel", "counters", "(I)I"⟩, 22) := ⟨⟨by decide +kernel, by decide +kernel⟩, List.mem_of_getElem? (i := 391) (by decide +kernel), List.mem_of_getElem? (i := 558) (by decide +kernel), List.mem_of_getElem? (i := 559) (by decide +kernel)⟩
theorem lw_p17 : lw_okq (⟨"TelemetryTreeModel", "lower", "(II)V"⟩, 22) := ⟨⟨by decide +kernel, by decide +kernel⟩, List.mem_of_getElem? (i := 391) (by decide +kernel), List.mem_of_getElem? (i := 562) (by decide +kernel), List.mem_of_getElem? (i := 563) (by decide +kernel)⟩
theorem lw_p18 : lw_okq (⟨"TelemetryTreeModel", "compress", "(I)V"⟩, 22) := ⟨⟨by decide +kernel, by decide +kernel⟩, List.mem_of_getElem? (i := 391) (by decide +kernel), List.mem_of_getElem? (i := 566) (by decide +kernel), List.mem_of_getElem? (i := 567) (by decide +kernel)⟩
theorem lw_p19 : lw_okq (⟨"TelemetryTreeModel", "merge", "(II)V"⟩, 22) := ⟨⟨by decide +kernel, by decide +kernel⟩, List.mem_of_getElem? (i := 391) (by decide +kernel), List.mem_of_getElem? (i := 570) (by decide +kernel), List.mem_of_getElem? (i := 571) (by decide +kernel)⟩
theorem lw_p20 : lw_okq (⟨"TelemetryTreeModel", "clearUsed", "()V"⟩, 22) := ⟨⟨by decide +kernel, by decide +kernel⟩, List.mem_of_getElem? (i := 391) (by decide +kernel), List.mem_of_getElem? (i := 574) (by decide +kernel), List.mem_of_getElem? (i := 575) (by decide +kernel)⟩
theorem lw_p21 : lw_okq (⟨"TelemetryTreeModel", "greatestUnused", "(I)I"⟩, 22) := ⟨⟨by decide +kernel, by decide +kernel⟩, List.mem_of_getElem? (i := 391) (by decide +kernel), List.mem_of_getElem? (i := 578) (by decide +kernel), List.mem_of_getElem? (i := 579) (by decide +kernel)⟩
def lw_privs_2 : List (MethodName × Nat) := [(⟨"TelemetryTreeModel", "counters", "(I)I"⟩, 22), (⟨"TelemetryTreeModel", "lower", "(II)V"⟩, 22), (⟨"TelemetryTreeModel", "compress", "(I)V"⟩, 22), (⟨"TelemetryTreeModel", "merge", "(II)V"⟩, 22), (⟨"TelemetryTreeModel", "clearUsed", "()V"⟩, 22), (⟨"TelemetryTreeModel", "greatestUnused", "(I)I"⟩, 22)]
theorem lw_r2 : ∀ q ∈ lw_privs_2, lw_okq q := List.forall_mem_cons.mpr ⟨lw_p16, List.forall_mem_cons.mpr ⟨lw_p17, List.forall_mem_cons.mpr ⟨lw_p18, List.forall_mem_cons.mpr ⟨lw_p19, List.forall_mem_cons.mpr ⟨lw_p20, List.forall_mem_cons.mpr ⟨lw_p21, fun _ h => absurd h List.not_mem_nil⟩⟩⟩⟩⟩⟩
def lw_privs : List (MethodName × Nat) := lw_privs_1 ++ (lw_privs_2)
def lw_tbl : List Cond := k2_sels lw_privs ++ tables_1
theorem lw_privs_ok : ∀ q ∈ lw_privs, lw_okq q := by
  show ∀ q ∈ lw_privs_1 ++ (lw_privs_2), lw_okq q
  exact List.forall_mem_append.mpr ⟨lw_r1, lw_r2⟩
def R_C : String := "TelemetryTree$Counters"
def F_C : u_T := fun k => match k with
  | 0 => ("TelemetryTree$Counters", "limit", "I", true)
  | _ => ("TelemetryTree$Counters", "counts", "[I", true)
def ty_C : Nat → FieldType := fun k => match k with
  | 0 => .int
  | _ => .array .int
theorem n_C : ∀ a, a < 2 → ∀ b, b < 2 → a ≠ b → (F_C a).2.1 ≠ (F_C b).2.1 := by decide +kernel
theorem ty_C_ok : ∀ k, k < 2 → parseFieldDescriptor (F_C k).2.2.1 = some (ty_C k) := by decide +kernel
def R_D : String := "TelemetryTree$Digest"
def F_D : u_T := fun k => match k with
  | 0 => ("TelemetryTree$Digest", "divisor", "I", true)
  | _ => ("TelemetryTree$Digest", "counts", "[I", true)
def ty_D : Nat → FieldType := fun k => match k with
  | 0 => .int
  | _ => .array .int
theorem n_D : ∀ a, a < 2 → ∀ b, b < 2 → a ≠ b → (F_D a).2.1 ≠ (F_D b).2.1 := by decide +kernel
theorem ty_D_ok : ∀ k, k < 2 → parseFieldDescriptor (F_D k).2.2.1 = some (ty_D k) := by decide +kernel
def R_M : String := "TelemetryTree$Message"
def F_M : u_T := fun k => match k with
  | 0 => ("TelemetryTree$Message", "number", "I", false)
  | 1 => ("TelemetryTree$Message", "sender", "I", false)
  | 2 => ("TelemetryTree$Message", "version", "I", false)
  | _ => ("TelemetryTree$Message", "summary", "LTelemetryTree$Summary;", true)
def ty_M : Nat → FieldType := fun k => match k with
  | 0 => .int
  | 1 => .int
  | 2 => .int
  | _ => .object "TelemetryTree$Summary"
theorem n_M : ∀ a, a < 4 → ∀ b, b < 4 → a ≠ b → (F_M a).2.1 ≠ (F_M b).2.1 := by decide +kernel
theorem ty_M_ok : ∀ k, k < 4 → parseFieldDescriptor (F_M k).2.2.1 = some (ty_M k) := by decide +kernel
def R_N : String := "TelemetryTree$Node"
def F_N : u_T := fun k => match k with
  | 0 => ("TelemetryTree$Node", "number", "I", true)
  | 1 => ("TelemetryTree$Node", "parent", "I", false)
  | 2 => ("TelemetryTree$Node", "leaf", "Z", false)
  | 3 => ("TelemetryTree$Node", "open", "[I", true)
  | 4 => ("TelemetryTree$Node", "openCount", "I", false)
  | 5 => ("TelemetryTree$Node", "reports", "I", false)
  | 6 => ("TelemetryTree$Node", "summary", "LTelemetryTree$Summary;", true)
  | 7 => ("TelemetryTree$Node", "kept", "LTelemetryTree$Summary;", true)
  | _ => ("TelemetryTree$Node", "keptVersion", "I", false)
def ty_N : Nat → FieldType := fun k => match k with
  | 0 => .int
  | 1 => .int
  | 2 => .boolean
  | 3 => .array .int
  | 4 => .int
  | 5 => .int
  | 6 => .object "TelemetryTree$Summary"
  | 7 => .object "TelemetryTree$Summary"
  | _ => .int
theorem n_N : ∀ a, a < 9 → ∀ b, b < 9 → a ≠ b → (F_N a).2.1 ≠ (F_N b).2.1 := by decide +kernel
theorem ty_N_ok : ∀ k, k < 9 → parseFieldDescriptor (F_N k).2.2.1 = some (ty_N k) := by decide +kernel
def R_S : String := "TelemetryTree$Summary"
def F_S : u_T := fun k => match k with
  | 0 => ("TelemetryTree$Summary", "n", "I", false)
  | 1 => ("TelemetryTree$Summary", "itemSum", "J", false)
  | 2 => ("TelemetryTree$Summary", "least", "I", false)
  | 3 => ("TelemetryTree$Summary", "greatest", "I", false)
  | 4 => ("TelemetryTree$Summary", "fromLeaf", "[I", true)
  | 5 => ("TelemetryTree$Summary", "counters", "LTelemetryTree$Counters;", true)
  | _ => ("TelemetryTree$Summary", "digest", "LTelemetryTree$Digest;", true)
def ty_S : Nat → FieldType := fun k => match k with
  | 0 => .int
  | 1 => .long
  | 2 => .int
  | 3 => .int
  | 4 => .array .int
  | 5 => .object "TelemetryTree$Counters"
  | _ => .object "TelemetryTree$Digest"
theorem n_S : ∀ a, a < 7 → ∀ b, b < 7 → a ≠ b → (F_S a).2.1 ≠ (F_S b).2.1 := by decide +kernel
theorem ty_S_ok : ∀ k, k < 7 → parseFieldDescriptor (F_S k).2.2.1 = some (ty_S k) := by decide +kernel
def R_T : String := "TelemetryTree"
def F_T : u_T := fun k => match k with
  | 0 => ("TelemetryTree", "nodes", "[LTelemetryTree$Node;", true)
  | 1 => ("TelemetryTree", "nodeCount", "I", false)
  | 2 => ("TelemetryTree", "slots", "[LTelemetryTree$Message;", true)
  | _ => ("TelemetryTree", "lastMessage", "I", false)
def ty_T : Nat → FieldType := fun k => match k with
  | 0 => .array (.object "TelemetryTree$Node")
  | 1 => .int
  | 2 => .array (.object "TelemetryTree$Message")
  | _ => .int
theorem n_T : ∀ a, a < 4 → ∀ b, b < 4 → a ≠ b → (F_T a).2.1 ≠ (F_T b).2.1 := by decide +kernel
theorem ty_T_ok : ∀ k, k < 4 → parseFieldDescriptor (F_T k).2.2.1 = some (ty_T k) := by decide +kernel
def R_R : String := "TelemetryTreeModel"
def F_R : u_T := fun k => match k with
  | 0 => ("TelemetryTreeModel", "k", "I", false)
  | 1 => ("TelemetryTreeModel", "d", "I", false)
  | 2 => ("TelemetryTreeModel", "nodes", "I", false)
  | 3 => ("TelemetryTreeModel", "up", "[I", false)
  | 4 => ("TelemetryTreeModel", "isLeaf", "[Z", false)
  | 5 => ("TelemetryTreeModel", "reports", "[I", false)
  | 6 => ("TelemetryTreeModel", "journal", "[I", false)
  | 7 => ("TelemetryTreeModel", "written", "[I", false)
  | 8 => ("TelemetryTreeModel", "open", "[I", false)
  | 9 => ("TelemetryTreeModel", "opened", "[I", false)
  | 10 => ("TelemetryTreeModel", "keptVersion", "[I", false)
  | 11 => ("TelemetryTreeModel", "kept", "[I", false)
  | 12 => ("TelemetryTreeModel", "messages", "I", false)
  | 13 => ("TelemetryTreeModel", "number", "[I", false)
  | 14 => ("TelemetryTreeModel", "sender", "[I", false)
  | 15 => ("TelemetryTreeModel", "version", "[I", false)
  | 16 => ("TelemetryTreeModel", "carried", "[I", false)
  | 17 => ("TelemetryTreeModel", "known", "[I", false)
  | 18 => ("TelemetryTreeModel", "n", "[I", false)
  | 19 => ("TelemetryTreeModel", "counter", "[I", false)
  | 20 => ("TelemetryTreeModel", "digest", "[I", false)
  | _ => ("TelemetryTreeModel", "used", "[Z", false)
def ty_R : Nat → FieldType := fun k => match k with
  | 0 => .int
  | 1 => .int
  | 2 => .int
  | 3 => .array .int
  | 4 => .array .boolean
  | 5 => .array .int
  | 6 => .array .int
  | 7 => .array .int
  | 8 => .array .int
  | 9 => .array .int
  | 10 => .array .int
  | 11 => .array .int
  | 12 => .int
  | 13 => .array .int
  | 14 => .array .int
  | 15 => .array .int
  | 16 => .array .int
  | 17 => .array .int
  | 18 => .array .int
  | 19 => .array .int
  | 20 => .array .int
  | _ => .array .boolean
theorem n_R : ∀ a, a < 22 → ∀ b, b < 22 → a ≠ b → (F_R a).2.1 ≠ (F_R b).2.1 := by decide +kernel
theorem ty_R_ok : ∀ k, k < 22 → parseFieldDescriptor (F_R k).2.2.1 = some (ty_R k) := by decide +kernel
def R_L : String := "TelemetryTreeLaw"
abbrev classes : List vw_C := [(R_C, F_C, 2), (R_D, F_D, 2), (R_M, F_M, 4), (R_N, F_N, 9), (R_S, F_S, 7), (R_T, F_T, 4), (R_R, F_R, 22)]
abbrev b_T_init : ByteArray := prog_1_method_1_code
def y_T_init : MethodName := ⟨R_T, "<init>", "(II)V"⟩
abbrev b_T_attach : ByteArray := prog_1_method_2_code
def y_T_attach : MethodName := ⟨R_T, "attach", "(IZ)I"⟩
abbrev b_T_add : ByteArray := prog_1_method_3_code
def y_T_add : MethodName := ⟨R_T, "add", "(II)Z"⟩
abbrev b_T_flush : ByteArray := prog_1_method_4_code
def y_T_flush : MethodName := ⟨R_T, "flush", "(I)I"⟩
abbrev b_T_crash : ByteArray := prog_1_method_5_code
def y_T_crash : MethodName := ⟨R_T, "crash", "(I)Z"⟩
abbrev b_T_report : ByteArray := prog_1_method_6_code
def y_T_report : MethodName := ⟨R_T, "report", "(I)I"⟩
abbrev b_T_copy : ByteArray := prog_1_method_7_code
def y_T_copy : MethodName := ⟨R_T, "copy", "(I)I"⟩
abbrev b_T_drop : ByteArray := prog_1_method_8_code
def y_T_drop : MethodName := ⟨R_T, "drop", "(I)Z"⟩
abbrev b_T_deliver : ByteArray := prog_1_method_9_code
def y_T_deliver : MethodName := ⟨R_T, "deliver", "(I)I"⟩
abbrev b_T_onTheWay : ByteArray := prog_1_method_10_code
def y_T_onTheWay : MethodName := ⟨R_T, "onTheWay", "()I"⟩
abbrev b_T_total : ByteArray := prog_1_method_11_code
def y_T_total : MethodName := ⟨R_T, "total", "(I)I"⟩
abbrev b_T_sum : ByteArray := prog_1_method_12_code
def y_T_sum : MethodName := ⟨R_T, "sum", "(I)J"⟩
abbrev b_T_extreme : ByteArray := prog_1_method_13_code
def y_T_extreme : MethodName := ⟨R_T, "extreme", "(IZ)I"⟩
abbrev b_T_covered : ByteArray := prog_1_method_14_code
def y_T_covered : MethodName := ⟨R_T, "covered", "(II)I"⟩
abbrev b_T_estimate : ByteArray := prog_1_method_15_code
def y_T_estimate : MethodName := ⟨R_T, "estimate", "(II)I"⟩
abbrev b_T_top : ByteArray := prog_1_method_16_code
def y_T_top : MethodName := ⟨R_T, "top", "(II)I"⟩
abbrev b_T_digestSize : ByteArray := prog_1_method_17_code
def y_T_digestSize : MethodName := ⟨R_T, "digestSize", "(I)I"⟩
abbrev b_T_below : ByteArray := prog_1_method_18_code
def y_T_below : MethodName := ⟨R_T, "below", "(IIZ)I"⟩
abbrev b_T_quantile : ByteArray := prog_1_method_19_code
def y_T_quantile : MethodName := ⟨R_T, "quantile", "(II)I"⟩
abbrev b_T_isNode : ByteArray := prog_1_method_20_code
def y_T_isNode : MethodName := ⟨R_T, "isNode", "(I)Z"⟩
abbrev b_T_isLeaf : ByteArray := prog_1_method_21_code
def y_T_isLeaf : MethodName := ⟨R_T, "isLeaf", "(I)Z"⟩
abbrev b_T_isValue : ByteArray := prog_1_method_22_code
def y_T_isValue : MethodName := ⟨R_T, "isValue", "(I)Z"⟩
abbrev b_T_slotOf : ByteArray := prog_1_method_23_code
def y_T_slotOf : MethodName := ⟨R_T, "slotOf", "(I)I"⟩
abbrev b_T_freeSlot : ByteArray := prog_1_method_24_code
def y_T_freeSlot : MethodName := ⟨R_T, "freeSlot", "()I"⟩
abbrev b_T_slotWithNumber : ByteArray := prog_1_method_25_code
def y_T_slotWithNumber : MethodName := ⟨R_T, "slotWithNumber", "(I)I"⟩
abbrev b_T_forgetChildren : ByteArray := prog_1_method_26_code
def y_T_forgetChildren : MethodName := ⟨R_T, "forgetChildren", "(I)V"⟩
abbrev b_T_mergeKept : ByteArray := prog_1_method_27_code
def y_T_mergeKept : MethodName := ⟨R_T, "mergeKept", "(I)V"⟩
abbrev b_T_clear : ByteArray := prog_1_method_28_code
def y_T_clear : MethodName := ⟨R_T, "clear", "([I)V"⟩
abbrev b_T_overwrite : ByteArray := prog_1_method_29_code
def y_T_overwrite : MethodName := ⟨R_T, "overwrite", "([I[I)V"⟩
abbrev b_T_addTo : ByteArray := prog_1_method_30_code
def y_T_addTo : MethodName := ⟨R_T, "addTo", "([I[I)V"⟩
abbrev b_R_init : ByteArray := prog_8_method_1_code
def y_R_init : MethodName := ⟨R_R, "<init>", "(II)V"⟩
abbrev b_R_isNode : ByteArray := prog_8_method_2_code
def y_R_isNode : MethodName := ⟨R_R, "isNode", "(I)Z"⟩
abbrev b_R_leafNode : ByteArray := prog_8_method_3_code
def y_R_leafNode : MethodName := ⟨R_R, "leafNode", "(I)Z"⟩
abbrev b_R_attach : ByteArray := prog_8_method_4_code
def y_R_attach : MethodName := ⟨R_R, "attach", "(IZ)I"⟩
abbrev b_R_add : ByteArray := prog_8_method_5_code
def y_R_add : MethodName := ⟨R_R, "add", "(II)Z"⟩
abbrev b_R_writeBlock : ByteArray := prog_8_method_6_code
def y_R_writeBlock : MethodName := ⟨R_R, "writeBlock", "(I)V"⟩
abbrev b_R_flush : ByteArray := prog_8_method_7_code
def y_R_flush : MethodName := ⟨R_R, "flush", "(I)I"⟩
abbrev b_R_crash : ByteArray := prog_8_method_8_code
def y_R_crash : MethodName := ⟨R_R, "crash", "(I)Z"⟩
abbrev b_R_placeOf : ByteArray := prog_8_method_9_code
def y_R_placeOf : MethodName := ⟨R_R, "placeOf", "(I)I"⟩
abbrev b_R_freePlace : ByteArray := prog_8_method_10_code
def y_R_freePlace : MethodName := ⟨R_R, "freePlace", "()I"⟩
abbrev b_R_report : ByteArray := prog_8_method_11_code
def y_R_report : MethodName := ⟨R_R, "report", "(I)I"⟩
abbrev b_R_copy : ByteArray := prog_8_method_12_code
def y_R_copy : MethodName := ⟨R_R, "copy", "(I)I"⟩
abbrev b_R_drop : ByteArray := prog_8_method_13_code
def y_R_drop : MethodName := ⟨R_R, "drop", "(I)Z"⟩
abbrev b_R_deliver : ByteArray := prog_8_method_14_code
def y_R_deliver : MethodName := ⟨R_R, "deliver", "(I)I"⟩
abbrev b_R_onTheWay : ByteArray := prog_8_method_15_code
def y_R_onTheWay : MethodName := ⟨R_R, "onTheWay", "()I"⟩
abbrev b_R_know : ByteArray := prog_8_method_16_code
def y_R_know : MethodName := ⟨R_R, "know", "(I)V"⟩
abbrev b_R_work : ByteArray := prog_8_method_17_code
def y_R_work : MethodName := ⟨R_R, "work", "(I)V"⟩
abbrev b_R_clear : ByteArray := prog_8_method_18_code
def y_R_clear : MethodName := ⟨R_R, "clear", "(I)V"⟩
abbrev b_R_counters : ByteArray := prog_8_method_19_code
def y_R_counters : MethodName := ⟨R_R, "counters", "(I)I"⟩
abbrev b_R_lower : ByteArray := prog_8_method_20_code
def y_R_lower : MethodName := ⟨R_R, "lower", "(II)V"⟩
abbrev b_R_take : ByteArray := prog_8_method_21_code
def y_R_take : MethodName := ⟨R_R, "take", "(II)V"⟩
abbrev b_R_merge : ByteArray := prog_8_method_22_code
def y_R_merge : MethodName := ⟨R_R, "merge", "(II)V"⟩
abbrev b_R_clearUsed : ByteArray := prog_8_method_23_code
def y_R_clearUsed : MethodName := ⟨R_R, "clearUsed", "()V"⟩
abbrev b_R_greatestUnused : ByteArray := prog_8_method_24_code
def y_R_greatestUnused : MethodName := ⟨R_R, "greatestUnused", "(I)I"⟩
abbrev b_R_compress : ByteArray := prog_8_method_25_code
def y_R_compress : MethodName := ⟨R_R, "compress", "(I)V"⟩
abbrev b_R_total : ByteArray := prog_8_method_26_code
def y_R_total : MethodName := ⟨R_R, "total", "(I)I"⟩
abbrev b_R_sum : ByteArray := prog_8_method_27_code
def y_R_sum : MethodName := ⟨R_R, "sum", "(I)J"⟩
abbrev b_R_extreme : ByteArray := prog_8_method_28_code
def y_R_extreme : MethodName := ⟨R_R, "extreme", "(IZ)I"⟩
abbrev b_R_covered : ByteArray := prog_8_method_29_code
def y_R_covered : MethodName := ⟨R_R, "covered", "(II)I"⟩
abbrev b_R_estimate : ByteArray := prog_8_method_30_code
def y_R_estimate : MethodName := ⟨R_R, "estimate", "(II)I"⟩
abbrev b_R_top : ByteArray := prog_8_method_31_code
def y_R_top : MethodName := ⟨R_R, "top", "(II)I"⟩
abbrev b_R_digestSize : ByteArray := prog_8_method_32_code
def y_R_digestSize : MethodName := ⟨R_R, "digestSize", "(I)I"⟩
abbrev b_R_width : ByteArray := prog_8_method_33_code
def y_R_width : MethodName := ⟨R_R, "width", "(I)I"⟩
abbrev b_R_least : ByteArray := prog_8_method_34_code
def y_R_least : MethodName := ⟨R_R, "least", "(I)I"⟩
abbrev b_R_below : ByteArray := prog_8_method_35_code
def y_R_below : MethodName := ⟨R_R, "below", "(IIZ)I"⟩
abbrev b_R_quantile : ByteArray := prog_8_method_36_code
def y_R_quantile : MethodName := ⟨R_R, "quantile", "(II)I"⟩
abbrev b_C_init : ByteArray := prog_2_method_1_code
def y_C_init : MethodName := ⟨R_C, "<init>", "(I)V"⟩
abbrev b_C_take : ByteArray := prog_2_method_2_code
def y_C_take : MethodName := ⟨R_C, "take", "(I)V"⟩
abbrev b_C_merge : ByteArray := prog_2_method_3_code
def y_C_merge : MethodName := ⟨R_C, "merge", "(LTelemetryTree$Counters;)V"⟩
abbrev b_C_lowerAll : ByteArray := prog_2_method_4_code
def y_C_lowerAll : MethodName := ⟨R_C, "lowerAll", "(I)V"⟩
abbrev b_C_valueAtRank : ByteArray := prog_2_method_5_code
def y_C_valueAtRank : MethodName := ⟨R_C, "valueAtRank", "(I)I"⟩
abbrev b_C_rankOf : ByteArray := prog_2_method_6_code
def y_C_rankOf : MethodName := ⟨R_C, "rankOf", "(I)I"⟩
abbrev b_D_init : ByteArray := prog_3_method_1_code
def y_D_init : MethodName := ⟨R_D, "<init>", "(I)V"⟩
abbrev b_D_take : ByteArray := prog_3_method_2_code
def y_D_take : MethodName := ⟨R_D, "take", "(II)V"⟩
abbrev b_D_merge : ByteArray := prog_3_method_3_code
def y_D_merge : MethodName := ⟨R_D, "merge", "(LTelemetryTree$Digest;I)V"⟩
abbrev b_D_compress : ByteArray := prog_3_method_4_code
def y_D_compress : MethodName := ⟨R_D, "compress", "(I)V"⟩
abbrev b_D_pass : ByteArray := prog_3_method_5_code
def y_D_pass : MethodName := ⟨R_D, "pass", "(I)Z"⟩
abbrev b_D_rangesInUse : ByteArray := prog_3_method_6_code
def y_D_rangesInUse : MethodName := ⟨R_D, "rangesInUse", "()I"⟩
abbrev b_D_endingBefore : ByteArray := prog_3_method_7_code
def y_D_endingBefore : MethodName := ⟨R_D, "endingBefore", "(I)I"⟩
abbrev b_D_startingBefore : ByteArray := prog_3_method_8_code
def y_D_startingBefore : MethodName := ⟨R_D, "startingBefore", "(I)I"⟩
abbrev b_D_endingAt : ByteArray := prog_3_method_9_code
def y_D_endingAt : MethodName := ⟨R_D, "endingAt", "(I)I"⟩
abbrev b_D_startingAt : ByteArray := prog_3_method_10_code
def y_D_startingAt : MethodName := ⟨R_D, "startingAt", "(I)I"⟩
abbrev b_D_valueReaching : ByteArray := prog_3_method_11_code
def y_D_valueReaching : MethodName := ⟨R_D, "valueReaching", "(I)I"⟩
abbrev b_M_init : ByteArray := prog_4_method_1_code
def y_M_init : MethodName := ⟨R_M, "<init>", "(II)V"⟩
abbrev b_M_send : ByteArray := prog_4_method_2_code
def y_M_send : MethodName := ⟨R_M, "send", "(IIILTelemetryTree$Summary;)V"⟩
abbrev b_N_init : ByteArray := prog_5_method_1_code
def y_N_init : MethodName := ⟨R_N, "<init>", "(III)V"⟩
abbrev b_N_itemCount : ByteArray := prog_5_method_2_code
def y_N_itemCount : MethodName := ⟨R_N, "itemCount", "()I"⟩
abbrev b_N_putIntoOpenBlock : ByteArray := prog_5_method_3_code
def y_N_putIntoOpenBlock : MethodName := ⟨R_N, "putIntoOpenBlock", "(I)V"⟩
abbrev b_N_writeOpenBlock : ByteArray := prog_5_method_4_code
def y_N_writeOpenBlock : MethodName := ⟨R_N, "writeOpenBlock", "()I"⟩
abbrev b_S_init : ByteArray := prog_6_method_1_code
def y_S_init : MethodName := ⟨R_S, "<init>", "(II)V"⟩
abbrev b_S_makeEmpty : ByteArray := prog_6_method_2_code
def y_S_makeEmpty : MethodName := ⟨R_S, "makeEmpty", "()V"⟩
abbrev b_S_setTo : ByteArray := prog_6_method_3_code
def y_S_setTo : MethodName := ⟨R_S, "setTo", "(LTelemetryTree$Summary;)V"⟩
abbrev b_S_take : ByteArray := prog_6_method_4_code
def y_S_take : MethodName := ⟨R_S, "take", "(II)V"⟩
abbrev b_S_merge : ByteArray := prog_6_method_5_code
def y_S_merge : MethodName := ⟨R_S, "merge", "(LTelemetryTree$Summary;)V"⟩
abbrev b_S_widen : ByteArray := prog_6_method_6_code
def y_S_widen : MethodName := ⟨R_S, "widen", "(II)V"⟩
abbrev b_L_cell : ByteArray := method_2_code
def y_L_cell : MethodName := ⟨R_L, "cell", "([II)I"⟩
/-- the words of the tables that any state keeps -/
def WG : List Cond := lw_tbl.filter goodWord
theorem wq {x w : Cond} (h : w ∈ WG) : w ∈ x :: WG := List.mem_cons_of_mem _ h
theorem wg1 {w : Cond} (h : w ∈ tables_1_1) (hg : goodWord w = true) : w ∈ WG := List.mem_filter.mpr ⟨List.mem_append_right _ (List.mem_append_left _ h), hg⟩
theorem wg2 {w : Cond} (h : w ∈ tables_1_2) (hg : goodWord w = true) : w ∈ WG := List.mem_filter.mpr ⟨List.mem_append_right _ (List.mem_append_right _ (List.mem_append_left _ h)), hg⟩
theorem wg3 {w : Cond} (h : w ∈ tables_1_3) (hg : goodWord w = true) : w ∈ WG := List.mem_filter.mpr ⟨List.mem_append_right _ (List.mem_append_right _ (List.mem_append_right _ h)), hg⟩
theorem vn_L : Cond.initialized R_L ∈ WG := wg1 (List.mem_of_getElem? (i := 0) rfl) rfl
theorem vn_T : Cond.initialized R_T ∈ WG := wg1 (List.mem_of_getElem? (i := 1) rfl) rfl
theorem vn_Math : Cond.initialized "java/lang/Math" ∈ WG := wg1 (List.mem_of_getElem? (i := 2) rfl) rfl
theorem vn_N : Cond.initialized R_N ∈ WG := wg1 (List.mem_of_getElem? (i := 3) rfl) rfl
theorem vn_S : Cond.initialized R_S ∈ WG := wg1 (List.mem_of_getElem? (i := 4) rfl) rfl
theorem vn_C : Cond.initialized R_C ∈ WG := wg1 (List.mem_of_getElem? (i := 5) rfl) rfl
theorem vn_D : Cond.initialized R_D ∈ WG := wg1 (List.mem_of_getElem? (i := 6) rfl) rfl
theorem vn_M : Cond.initialized R_M ∈ WG := wg1 (List.mem_of_getElem? (i := 7) rfl) rfl
theorem vn_R : Cond.initialized R_R ∈ WG := wg1 (List.mem_of_getElem? (i := 8) rfl) rfl
theorem lc_L_7 : Cond.classLink R_L 7 R_T ∈ WG := wg1 (List.mem_of_getElem? (i := 9) rfl) rfl
theorem vm_T : Cond.instantiable R_T 4 ∈ WG := wg1 (List.mem_of_getElem? (i := 10) rfl) rfl
theorem lm_L_15 : Cond.methodLink R_L 15 y_T_init ∈ WG := wg1 (List.mem_of_getElem? (i := 11) rfl) rfl
theorem vi_T_init : Cond.instanceMethod y_T_init ∈ WG := wg1 (List.mem_of_getElem? (i := 12) rfl) rfl
theorem vc_T_init : Cond.code y_T_init b_T_init 6 none ∈ WG := wg1 (List.mem_of_getElem? (i := 13) rfl) rfl
theorem lm_T_1 : Cond.methodLink R_T 1 objectInit ∈ WG := wg1 (List.mem_of_getElem? (i := 14) rfl) rfl
theorem vi_O : Cond.instanceMethod objectInit ∈ WG := wg1 (List.mem_of_getElem? (i := 15) rfl) rfl
theorem vc_O : Cond.code objectInit ⟨#[0xb1]⟩ 1 none ∈ WG := wg1 (List.mem_of_getElem? (i := 16) rfl) rfl
theorem lc_T_9 : Cond.classLink R_T 9 R_N ∈ WG := wg1 (List.mem_of_getElem? (i := 17) rfl) rfl
theorem lc_T_19 : Cond.classLink R_T 19 R_M ∈ WG := wg1 (List.mem_of_getElem? (i := 19) rfl) rfl
theorem lm_T_28 : Cond.methodLink R_T 28 Lib.Math.min.name ∈ WG := wg1 (List.mem_of_getElem? (i := 21) rfl) rfl
theorem vs_min : Cond.static Lib.Math.min.name ∈ WG := wg1 (List.mem_of_getElem? (i := 22) rfl) rfl
theorem vc_min : Cond.code Lib.Math.min.name Lib.Math.min.code 2 (some .int) ∈ WG := wg1 (List.mem_of_getElem? (i := 23) rfl) rfl
theorem lm_T_34 : Cond.methodLink R_T 34 Lib.Math.max.name ∈ WG := wg1 (List.mem_of_getElem? (i := 24) rfl) rfl
theorem vs_max : Cond.static Lib.Math.max.name ∈ WG := wg1 (List.mem_of_getElem? (i := 25) rfl) rfl
theorem vc_max : Cond.code Lib.Math.max.name Lib.Math.max.code 2 (some .int) ∈ WG := wg1 (List.mem_of_getElem? (i := 26) rfl) rfl
theorem vm_N : Cond.instantiable R_N 9 ∈ WG := wg1 (List.mem_of_getElem? (i := 27) rfl) rfl
theorem lm_T_37 : Cond.methodLink R_T 37 y_N_init ∈ WG := wg1 (List.mem_of_getElem? (i := 28) rfl) rfl
theorem vi_N_init : Cond.instanceMethod y_N_init ∈ WG := wg1 (List.mem_of_getElem? (i := 29) rfl) rfl
theorem vc_N_init : Cond.code y_N_init b_N_init 4 none ∈ WG := wg1 (List.mem_of_getElem? (i := 30) rfl) rfl
theorem lm_N_3 : Cond.methodLink R_N 3 objectInit ∈ WG := wg1 (List.mem_of_getElem? (i := 31) rfl) rfl
theorem lc_N_35 : Cond.classLink R_N 35 R_S ∈ WG := wg1 (List.mem_of_getElem? (i := 32) rfl) rfl
theorem vm_S : Cond.instantiable R_S 7 ∈ WG := wg1 (List.mem_of_getElem? (i := 33) rfl) rfl
theorem lm_N_37 : Cond.methodLink R_N 37 y_S_init ∈ WG := wg1 (List.mem_of_getElem? (i := 34) rfl) rfl
theorem vi_S_init : Cond.instanceMethod y_S_init ∈ WG := wg1 (List.mem_of_getElem? (i := 35) rfl) rfl
theorem vc_S_init : Cond.code y_S_init b_S_init 3 none ∈ WG := wg1 (List.mem_of_getElem? (i := 36) rfl) rfl
theorem lm_S_3 : Cond.methodLink R_S 3 objectInit ∈ WG := wg1 (List.mem_of_getElem? (i := 37) rfl) rfl
theorem lc_S_29 : Cond.classLink R_S 29 R_C ∈ WG := wg1 (List.mem_of_getElem? (i := 38) rfl) rfl
theorem vm_C : Cond.instantiable R_C 2 ∈ WG := wg1 (List.mem_of_getElem? (i := 39) rfl) rfl
theorem lm_S_31 : Cond.methodLink R_S 31 y_C_init ∈ WG := wg1 (List.mem_of_getElem? (i := 40) rfl) rfl
theorem vi_C_init : Cond.instanceMethod y_C_init ∈ WG := wg1 (List.mem_of_getElem? (i := 41) rfl) rfl
theorem vc_C_init : Cond.code y_C_init b_C_init 2 none ∈ WG := wg1 (List.mem_of_getElem? (i := 42) rfl) rfl
theorem lm_C_3 : Cond.methodLink R_C 3 objectInit ∈ WG := wg1 (List.mem_of_getElem? (i := 43) rfl) rfl
theorem lf_C_15 : Cond.fieldLink R_C 15 "TelemetryTree$Counters" "limit" "I" ∈ WG := wg1 (List.mem_of_getElem? (i := 44) rfl) rfl
theorem lf_C_9 : Cond.fieldLink R_C 9 "TelemetryTree$Counters" "counts" "[I" ∈ WG := wg1 (List.mem_of_getElem? (i := 45) rfl) rfl
theorem lf_S_49 : Cond.fieldLink R_S 49 "TelemetryTree$Counters" "counts" "[I" ∈ WG := wg1 (List.mem_of_getElem? (i := 46) rfl) rfl
theorem lf_T_143 : Cond.fieldLink R_T 143 "TelemetryTree$Counters" "counts" "[I" ∈ WG := wg1 (List.mem_of_getElem? (i := 47) rfl) rfl
theorem vk_int : Cond.arrayClass .int ∈ WG := wg1 (List.mem_of_getElem? (i := 53) rfl) rfl
theorem lc_S_38 : Cond.classLink R_S 38 R_D ∈ WG := wg1 (List.mem_of_getElem? (i := 54) rfl) rfl
theorem vm_D : Cond.instantiable R_D 2 ∈ WG := wg1 (List.mem_of_getElem? (i := 55) rfl) rfl
theorem lm_S_40 : Cond.methodLink R_S 40 y_D_init ∈ WG := wg1 (List.mem_of_getElem? (i := 56) rfl) rfl
theorem vi_D_init : Cond.instanceMethod y_D_init ∈ WG := wg1 (List.mem_of_getElem? (i := 57) rfl) rfl
theorem vc_D_init : Cond.code y_D_init b_D_init 2 none ∈ WG := wg1 (List.mem_of_getElem? (i := 58) rfl) rfl
theorem lm_D_3 : Cond.methodLink R_D 3 objectInit ∈ WG := wg1 (List.mem_of_getElem? (i := 59) rfl) rfl
theorem lf_D_15 : Cond.fieldLink R_D 15 "TelemetryTree$Digest" "divisor" "I" ∈ WG := wg1 (List.mem_of_getElem? (i := 60) rfl) rfl
theorem lf_D_9 : Cond.fieldLink R_D 9 "TelemetryTree$Digest" "counts" "[I" ∈ WG := wg1 (List.mem_of_getElem? (i := 61) rfl) rfl
theorem lf_S_52 : Cond.fieldLink R_S 52 "TelemetryTree$Digest" "counts" "[I" ∈ WG := wg1 (List.mem_of_getElem? (i := 62) rfl) rfl
theorem lf_S_9 : Cond.fieldLink R_S 9 "TelemetryTree$Summary" "n" "I" ∈ WG := wg1 (List.mem_of_getElem? (i := 68) rfl) rfl
theorem lf_N_47 : Cond.fieldLink R_N 47 "TelemetryTree$Summary" "n" "I" ∈ WG := wg1 (List.mem_of_getElem? (i := 69) rfl) rfl
theorem lf_T_120 : Cond.fieldLink R_T 120 "TelemetryTree$Summary" "n" "I" ∈ WG := wg1 (List.mem_of_getElem? (i := 70) rfl) rfl
theorem lf_S_15 : Cond.fieldLink R_S 15 "TelemetryTree$Summary" "itemSum" "J" ∈ WG := wg1 (List.mem_of_getElem? (i := 71) rfl) rfl
theorem lf_T_123 : Cond.fieldLink R_T 123 "TelemetryTree$Summary" "itemSum" "J" ∈ WG := wg1 (List.mem_of_getElem? (i := 72) rfl) rfl
theorem lf_S_19 : Cond.fieldLink R_S 19 "TelemetryTree$Summary" "least" "I" ∈ WG := wg1 (List.mem_of_getElem? (i := 73) rfl) rfl
theorem lf_T_132 : Cond.fieldLink R_T 132 "TelemetryTree$Summary" "least" "I" ∈ WG := wg1 (List.mem_of_getElem? (i := 74) rfl) rfl
theorem lf_S_22 : Cond.fieldLink R_S 22 "TelemetryTree$Summary" "greatest" "I" ∈ WG := wg1 (List.mem_of_getElem? (i := 75) rfl) rfl
theorem lf_T_129 : Cond.fieldLink R_T 129 "TelemetryTree$Summary" "greatest" "I" ∈ WG := wg1 (List.mem_of_getElem? (i := 76) rfl) rfl
theorem lf_S_25 : Cond.fieldLink R_S 25 "TelemetryTree$Summary" "fromLeaf" "[I" ∈ WG := wg1 (List.mem_of_getElem? (i := 77) rfl) rfl
theorem lf_T_135 : Cond.fieldLink R_T 135 "TelemetryTree$Summary" "fromLeaf" "[I" ∈ WG := wg1 (List.mem_of_getElem? (i := 78) rfl) rfl
theorem lf_S_34 : Cond.fieldLink R_S 34 "TelemetryTree$Summary" "counters" "LTelemetryTree$Counters;" ∈ WG := wg1 (List.mem_of_getElem? (i := 79) rfl) rfl
theorem lf_T_139 : Cond.fieldLink R_T 139 "TelemetryTree$Summary" "counters" "LTelemetryTree$Counters;" ∈ WG := wg1 (List.mem_of_getElem? (i := 80) rfl) rfl
theorem lf_S_41 : Cond.fieldLink R_S 41 "TelemetryTree$Summary" "digest" "LTelemetryTree$Digest;" ∈ WG := wg1 (List.mem_of_getElem? (i := 81) rfl) rfl
theorem lf_T_151 : Cond.fieldLink R_T 151 "TelemetryTree$Summary" "digest" "LTelemetryTree$Digest;" ∈ WG := wg1 (List.mem_of_getElem? (i := 82) rfl) rfl
theorem lf_N_32 : Cond.fieldLink R_N 32 "TelemetryTree$Node" "number" "I" ∈ WG := wg1 (List.mem_of_getElem? (i := 98) rfl) rfl
theorem lf_N_9 : Cond.fieldLink R_N 9 "TelemetryTree$Node" "parent" "I" ∈ WG := wg1 (List.mem_of_getElem? (i := 99) rfl) rfl
theorem lf_T_51 : Cond.fieldLink R_T 51 "TelemetryTree$Node" "parent" "I" ∈ WG := wg1 (List.mem_of_getElem? (i := 100) rfl) rfl
theorem lf_N_15 : Cond.fieldLink R_N 15 "TelemetryTree$Node" "leaf" "Z" ∈ WG := wg1 (List.mem_of_getElem? (i := 101) rfl) rfl
theorem lf_T_47 : Cond.fieldLink R_T 47 "TelemetryTree$Node" "leaf" "Z" ∈ WG := wg1 (List.mem_of_getElem? (i := 102) rfl) rfl
theorem lf_N_19 : Cond.fieldLink R_N 19 "TelemetryTree$Node" "open" "[I" ∈ WG := wg1 (List.mem_of_getElem? (i := 103) rfl) rfl
theorem lf_N_23 : Cond.fieldLink R_N 23 "TelemetryTree$Node" "openCount" "I" ∈ WG := wg1 (List.mem_of_getElem? (i := 104) rfl) rfl
theorem lf_T_71 : Cond.fieldLink R_T 71 "TelemetryTree$Node" "openCount" "I" ∈ WG := wg1 (List.mem_of_getElem? (i := 105) rfl) rfl
theorem lf_N_26 : Cond.fieldLink R_N 26 "TelemetryTree$Node" "reports" "I" ∈ WG := wg1 (List.mem_of_getElem? (i := 106) rfl) rfl
theorem lf_T_83 : Cond.fieldLink R_T 83 "TelemetryTree$Node" "reports" "I" ∈ WG := wg1 (List.mem_of_getElem? (i := 107) rfl) rfl
theorem lf_N_40 : Cond.fieldLink R_N 40 "TelemetryTree$Node" "summary" "LTelemetryTree$Summary;" ∈ WG := wg1 (List.mem_of_getElem? (i := 108) rfl) rfl
theorem lf_T_86 : Cond.fieldLink R_T 86 "TelemetryTree$Node" "summary" "LTelemetryTree$Summary;" ∈ WG := wg1 (List.mem_of_getElem? (i := 109) rfl) rfl
theorem lf_N_44 : Cond.fieldLink R_N 44 "TelemetryTree$Node" "kept" "LTelemetryTree$Summary;" ∈ WG := wg1 (List.mem_of_getElem? (i := 110) rfl) rfl
theorem lf_T_111 : Cond.fieldLink R_T 111 "TelemetryTree$Node" "kept" "LTelemetryTree$Summary;" ∈ WG := wg1 (List.mem_of_getElem? (i := 111) rfl) rfl
theorem lf_N_29 : Cond.fieldLink R_N 29 "TelemetryTree$Node" "keptVersion" "I" ∈ WG := wg1 (List.mem_of_getElem? (i := 112) rfl) rfl
theorem lf_T_108 : Cond.fieldLink R_T 108 "TelemetryTree$Node" "keptVersion" "I" ∈ WG := wg1 (List.mem_of_getElem? (i := 113) rfl) rfl
theorem vm_M : Cond.instantiable R_M 4 ∈ WG := wg1 (List.mem_of_getElem? (i := 133) rfl) rfl
theorem lm_T_40 : Cond.methodLink R_T 40 y_M_init ∈ WG := wg1 (List.mem_of_getElem? (i := 134) rfl) rfl
theorem vi_M_init : Cond.instanceMethod y_M_init ∈ WG := wg1 (List.mem_of_getElem? (i := 135) rfl) rfl
theorem vc_M_init : Cond.code y_M_init b_M_init 3 none ∈ WG := wg1 (List.mem_of_getElem? (i := 136) rfl) rfl
theorem lm_M_1 : Cond.methodLink R_M 1 objectInit ∈ WG := wg1 (List.mem_of_getElem? (i := 137) rfl) rfl
theorem lc_M_19 : Cond.classLink R_M 19 R_S ∈ WG := wg1 (List.mem_of_getElem? (i := 138) rfl) rfl
theorem lm_M_21 : Cond.methodLink R_M 21 y_S_init ∈ WG := wg1 (List.mem_of_getElem? (i := 139) rfl) rfl
theorem lf_M_7 : Cond.fieldLink R_M 7 "TelemetryTree$Message" "number" "I" ∈ WG := wg1 (List.mem_of_getElem? (i := 140) rfl) rfl
theorem lf_T_105 : Cond.fieldLink R_T 105 "TelemetryTree$Message" "number" "I" ∈ WG := wg1 (List.mem_of_getElem? (i := 141) rfl) rfl
theorem lf_M_13 : Cond.fieldLink R_M 13 "TelemetryTree$Message" "sender" "I" ∈ WG := wg1 (List.mem_of_getElem? (i := 142) rfl) rfl
theorem lf_T_98 : Cond.fieldLink R_T 98 "TelemetryTree$Message" "sender" "I" ∈ WG := wg1 (List.mem_of_getElem? (i := 143) rfl) rfl
theorem lf_M_16 : Cond.fieldLink R_M 16 "TelemetryTree$Message" "version" "I" ∈ WG := wg1 (List.mem_of_getElem? (i := 144) rfl) rfl
theorem lf_T_101 : Cond.fieldLink R_T 101 "TelemetryTree$Message" "version" "I" ∈ WG := wg1 (List.mem_of_getElem? (i := 145) rfl) rfl
theorem lf_M_24 : Cond.fieldLink R_M 24 "TelemetryTree$Message" "summary" "LTelemetryTree$Summary;" ∈ WG := wg1 (List.mem_of_getElem? (i := 146) rfl) rfl
theorem lf_T_104 : Cond.fieldLink R_T 104 "TelemetryTree$Message" "summary" "LTelemetryTree$Summary;" ∈ WG := wg1 (List.mem_of_getElem? (i := 147) rfl) rfl
theorem lf_T_11 : Cond.fieldLink R_T 11 "TelemetryTree" "nodes" "[LTelemetryTree$Node;" ∈ WG := wg1 (List.mem_of_getElem? (i := 157) rfl) rfl
theorem lf_T_15 : Cond.fieldLink R_T 15 "TelemetryTree" "nodeCount" "I" ∈ WG := wg1 (List.mem_of_getElem? (i := 158) rfl) rfl
theorem lf_T_21 : Cond.fieldLink R_T 21 "TelemetryTree" "slots" "[LTelemetryTree$Message;" ∈ WG := wg1 (List.mem_of_getElem? (i := 159) rfl) rfl
theorem lf_T_25 : Cond.fieldLink R_T 25 "TelemetryTree" "lastMessage" "I" ∈ WG := wg1 (List.mem_of_getElem? (i := 160) rfl) rfl
theorem lm_L_21 : Cond.methodLink R_L 21 y_T_attach ∈ WG := wg1 (List.mem_of_getElem? (i := 170) rfl) rfl
theorem vi_T_attach : Cond.instanceMethod y_T_attach ∈ WG := wg1 (List.mem_of_getElem? (i := 171) rfl) rfl
theorem ve_T_attach : Cond.selects R_T y_T_attach y_T_attach ∈ WG := wg1 (List.mem_of_getElem? (i := 172) rfl) rfl
theorem vc_T_attach : Cond.code y_T_attach b_T_attach 4 (some .int) ∈ WG := wg1 (List.mem_of_getElem? (i := 173) rfl) rfl
theorem lm_T_43 : Cond.methodLink R_T 43 y_T_isNode ∈ WG := wg1 (List.mem_of_getElem? (i := 174) rfl) rfl
theorem vi_T_isNode : Cond.instanceMethod y_T_isNode ∈ WG := wg1 (List.mem_of_getElem? (i := 176) rfl) rfl
theorem vc_T_isNode : Cond.code y_T_isNode b_T_isNode 2 (some .boolean) ∈ WG := wg1 (List.mem_of_getElem? (i := 177) rfl) rfl
theorem lm_L_26 : Cond.methodLink R_L 26 y_T_add ∈ WG := wg1 (List.mem_of_getElem? (i := 178) rfl) rfl
theorem vi_T_add : Cond.instanceMethod y_T_add ∈ WG := wg1 (List.mem_of_getElem? (i := 179) rfl) rfl
theorem ve_T_add : Cond.selects R_T y_T_add y_T_add ∈ WG := wg1 (List.mem_of_getElem? (i := 180) rfl) rfl
theorem vc_T_add : Cond.code y_T_add b_T_add 3 (some .boolean) ∈ WG := wg1 (List.mem_of_getElem? (i := 181) rfl) rfl
theorem lm_T_54 : Cond.methodLink R_T 54 y_T_isLeaf ∈ WG := wg1 (List.mem_of_getElem? (i := 182) rfl) rfl
theorem vi_T_isLeaf : Cond.instanceMethod y_T_isLeaf ∈ WG := wg1 (List.mem_of_getElem? (i := 184) rfl) rfl
theorem vc_T_isLeaf : Cond.code y_T_isLeaf b_T_isLeaf 2 (some .boolean) ∈ WG := wg1 (List.mem_of_getElem? (i := 185) rfl) rfl
theorem lm_T_57 : Cond.methodLink R_T 57 y_T_isValue ∈ WG := wg1 (List.mem_of_getElem? (i := 186) rfl) rfl
theorem vs_T_isValue : Cond.static y_T_isValue ∈ WG := wg1 (List.mem_of_getElem? (i := 187) rfl) rfl
theorem vc_T_isValue : Cond.code y_T_isValue b_T_isValue 1 (some .boolean) ∈ WG := wg1 (List.mem_of_getElem? (i := 188) rfl) rfl
theorem lm_T_60 : Cond.methodLink R_T 60 y_N_itemCount ∈ WG := wg1 (List.mem_of_getElem? (i := 189) rfl) rfl
theorem vi_N_itemCount : Cond.instanceMethod y_N_itemCount ∈ WG := wg1 (List.mem_of_getElem? (i := 190) rfl) rfl
theorem ve_N_itemCount : Cond.selects R_N y_N_itemCount y_N_itemCount ∈ WG := wg1 (List.mem_of_getElem? (i := 191) rfl) rfl
theorem vc_N_itemCount : Cond.code y_N_itemCount b_N_itemCount 1 (some .int) ∈ WG := wg1 (List.mem_of_getElem? (i := 192) rfl) rfl
theorem lm_T_64 : Cond.methodLink R_T 64 y_N_putIntoOpenBlock ∈ WG := wg1 (List.mem_of_getElem? (i := 193) rfl) rfl
theorem vi_N_putIntoOpenBlock : Cond.instanceMethod y_N_putIntoOpenBlock ∈ WG := wg1 (List.mem_of_getElem? (i := 194) rfl) rfl
theorem ve_N_putIntoOpenBlock : Cond.selects R_N y_N_putIntoOpenBlock y_N_putIntoOpenBlock ∈ WG := wg1 (List.mem_of_getElem? (i := 195) rfl) rfl
theorem vc_N_putIntoOpenBlock : Cond.code y_N_putIntoOpenBlock b_N_putIntoOpenBlock 2 none ∈ WG := wg1 (List.mem_of_getElem? (i := 196) rfl) rfl
theorem lm_N_50 : Cond.methodLink R_N 50 y_N_writeOpenBlock ∈ WG := wg1 (List.mem_of_getElem? (i := 197) rfl) rfl
theorem vi_N_writeOpenBlock : Cond.instanceMethod y_N_writeOpenBlock ∈ WG := wg1 (List.mem_of_getElem? (i := 198) rfl) rfl
theorem ve_N_writeOpenBlock : Cond.selects R_N y_N_writeOpenBlock y_N_writeOpenBlock ∈ WG := wg1 (List.mem_of_getElem? (i := 199) rfl) rfl
theorem vc_N_writeOpenBlock : Cond.code y_N_writeOpenBlock b_N_writeOpenBlock 3 (some .int) ∈ WG := wg1 (List.mem_of_getElem? (i := 200) rfl) rfl
theorem lm_N_54 : Cond.methodLink R_N 54 y_S_take ∈ WG := wg1 (List.mem_of_getElem? (i := 201) rfl) rfl
theorem vi_S_take : Cond.instanceMethod y_S_take ∈ WG := wg1 (List.mem_of_getElem? (i := 202) rfl) rfl
theorem ve_S_take : Cond.selects R_S y_S_take y_S_take ∈ WG := wg1 (List.mem_of_getElem? (i := 203) rfl) rfl
theorem vc_S_take : Cond.code y_S_take b_S_take 3 none ∈ WG := wg1 (List.mem_of_getElem? (i := 204) rfl) rfl
theorem lm_S_57 : Cond.methodLink R_S 57 y_S_widen ∈ WG := wg1 (List.mem_of_getElem? (i := 205) rfl) rfl
theorem vi_S_widen : Cond.instanceMethod y_S_widen ∈ WG := wg1 (List.mem_of_getElem? (i := 206) rfl) rfl
theorem ve_S_widen : Cond.selects R_S y_S_widen y_S_widen ∈ WG := wg1 (List.mem_of_getElem? (i := 207) rfl) rfl
theorem vc_S_widen : Cond.code y_S_widen b_S_widen 3 none ∈ WG := wg1 (List.mem_of_getElem? (i := 208) rfl) rfl
theorem lm_S_76 : Cond.methodLink R_S 76 Lib.Math.min.name ∈ WG := wg1 (List.mem_of_getElem? (i := 209) rfl) rfl
theorem lm_S_82 : Cond.methodLink R_S 82 Lib.Math.max.name ∈ WG := wg1 (List.mem_of_getElem? (i := 210) rfl) rfl
theorem lm_S_61 : Cond.methodLink R_S 61 y_C_take ∈ WG := wg1 (List.mem_of_getElem? (i := 211) rfl) rfl
theorem vi_C_take : Cond.instanceMethod y_C_take ∈ WG := wg1 (List.mem_of_getElem? (i := 212) rfl) rfl
theorem ve_C_take : Cond.selects R_C y_C_take y_C_take ∈ WG := wg1 (List.mem_of_getElem? (i := 213) rfl) rfl
theorem vc_C_take : Cond.code y_C_take b_C_take 2 none ∈ WG := wg1 (List.mem_of_getElem? (i := 214) rfl) rfl
theorem lm_C_19 : Cond.methodLink R_C 19 y_C_valueAtRank ∈ WG := wg1 (List.mem_of_getElem? (i := 215) rfl) rfl
theorem vi_C_valueAtRank : Cond.instanceMethod y_C_valueAtRank ∈ WG := wg1 (List.mem_of_getElem? (i := 216) rfl) rfl
theorem ve_C_valueAtRank : Cond.selects R_C y_C_valueAtRank y_C_valueAtRank ∈ WG := wg1 (List.mem_of_getElem? (i := 217) rfl) rfl
theorem vc_C_valueAtRank : Cond.code y_C_valueAtRank b_C_valueAtRank 3 (some .int) ∈ WG := wg1 (List.mem_of_getElem? (i := 218) rfl) rfl
theorem lm_C_37 : Cond.methodLink R_C 37 y_C_rankOf ∈ WG := wg1 (List.mem_of_getElem? (i := 219) rfl) rfl
theorem vi_C_rankOf : Cond.instanceMethod y_C_rankOf ∈ WG := wg1 (List.mem_of_getElem? (i := 220) rfl) rfl
theorem ve_C_rankOf : Cond.selects R_C y_C_rankOf y_C_rankOf ∈ WG := wg1 (List.mem_of_getElem? (i := 221) rfl) rfl
theorem vc_C_rankOf : Cond.code y_C_rankOf b_C_rankOf 4 (some .int) ∈ WG := wg1 (List.mem_of_getElem? (i := 222) rfl) rfl
theorem lm_C_23 : Cond.methodLink R_C 23 y_C_lowerAll ∈ WG := wg1 (List.mem_of_getElem? (i := 223) rfl) rfl
theorem vi_C_lowerAll : Cond.instanceMethod y_C_lowerAll ∈ WG := wg1 (List.mem_of_getElem? (i := 224) rfl) rfl
theorem ve_C_lowerAll : Cond.selects R_C y_C_lowerAll y_C_lowerAll ∈ WG := wg1 (List.mem_of_getElem? (i := 225) rfl) rfl
theorem vc_C_lowerAll : Cond.code y_C_lowerAll b_C_lowerAll 3 none ∈ WG := wg1 (List.mem_of_getElem? (i := 226) rfl) rfl
theorem lm_C_31 : Cond.methodLink R_C 31 Lib.Math.max.name ∈ WG := wg1 (List.mem_of_getElem? (i := 227) rfl) rfl
theorem lm_S_64 : Cond.methodLink R_S 64 y_D_take ∈ WG := wg1 (List.mem_of_getElem? (i := 228) rfl) rfl
theorem vi_D_take : Cond.instanceMethod y_D_take ∈ WG := wg1 (List.mem_of_getElem? (i := 229) rfl) rfl
theorem ve_D_take : Cond.selects R_D y_D_take y_D_take ∈ WG := wg1 (List.mem_of_getElem? (i := 230) rfl) rfl
theorem vc_D_take : Cond.code y_D_take b_D_take 3 none ∈ WG := wg1 (List.mem_of_getElem? (i := 231) rfl) rfl
theorem lm_D_19 : Cond.methodLink R_D 19 y_D_compress ∈ WG := wg1 (List.mem_of_getElem? (i := 232) rfl) rfl
theorem vi_D_compress : Cond.instanceMethod y_D_compress ∈ WG := wg1 (List.mem_of_getElem? (i := 233) rfl) rfl
theorem ve_D_compress : Cond.selects R_D y_D_compress y_D_compress ∈ WG := wg1 (List.mem_of_getElem? (i := 234) rfl) rfl
theorem vc_D_compress : Cond.code y_D_compress b_D_compress 4 none ∈ WG := wg1 (List.mem_of_getElem? (i := 235) rfl) rfl
theorem lm_D_27 : Cond.methodLink R_D 27 y_D_pass ∈ WG := wg1 (List.mem_of_getElem? (i := 236) rfl) rfl
theorem vi_D_pass : Cond.instanceMethod y_D_pass ∈ WG := wg1 (List.mem_of_getElem? (i := 237) rfl) rfl
theorem ve_D_pass : Cond.selects R_D y_D_pass y_D_pass ∈ WG := wg1 (List.mem_of_getElem? (i := 238) rfl) rfl
theorem vc_D_pass : Cond.code y_D_pass b_D_pass 5 (some .boolean) ∈ WG := wg1 (List.mem_of_getElem? (i := 239) rfl) rfl
theorem lm_L_31 : Cond.methodLink R_L 31 y_T_flush ∈ WG := wg2 (List.mem_of_getElem? (i := 0) rfl) rfl
theorem vi_T_flush : Cond.instanceMethod y_T_flush ∈ WG := wg2 (List.mem_of_getElem? (i := 1) rfl) rfl
theorem ve_T_flush : Cond.selects R_T y_T_flush y_T_flush ∈ WG := wg2 (List.mem_of_getElem? (i := 2) rfl) rfl
theorem vc_T_flush : Cond.code y_T_flush b_T_flush 2 (some .int) ∈ WG := wg2 (List.mem_of_getElem? (i := 3) rfl) rfl
theorem lm_T_68 : Cond.methodLink R_T 68 y_N_writeOpenBlock ∈ WG := wg2 (List.mem_of_getElem? (i := 4) rfl) rfl
theorem lm_L_36 : Cond.methodLink R_L 36 y_T_crash ∈ WG := wg2 (List.mem_of_getElem? (i := 5) rfl) rfl
theorem vi_T_crash : Cond.instanceMethod y_T_crash ∈ WG := wg2 (List.mem_of_getElem? (i := 6) rfl) rfl
theorem ve_T_crash : Cond.selects R_T y_T_crash y_T_crash ∈ WG := wg2 (List.mem_of_getElem? (i := 7) rfl) rfl
theorem vc_T_crash : Cond.code y_T_crash b_T_crash 2 (some .boolean) ∈ WG := wg2 (List.mem_of_getElem? (i := 8) rfl) rfl
theorem lm_T_74 : Cond.methodLink R_T 74 y_T_forgetChildren ∈ WG := wg2 (List.mem_of_getElem? (i := 9) rfl) rfl
theorem vi_T_forgetChildren : Cond.instanceMethod y_T_forgetChildren ∈ WG := wg2 (List.mem_of_getElem? (i := 11) rfl) rfl
theorem vc_T_forgetChildren : Cond.code y_T_forgetChildren b_T_forgetChildren 3 none ∈ WG := wg2 (List.mem_of_getElem? (i := 12) rfl) rfl
theorem lm_T_77 : Cond.methodLink R_T 77 y_T_mergeKept ∈ WG := wg2 (List.mem_of_getElem? (i := 13) rfl) rfl
theorem vi_T_mergeKept : Cond.instanceMethod y_T_mergeKept ∈ WG := wg2 (List.mem_of_getElem? (i := 15) rfl) rfl
theorem vc_T_mergeKept : Cond.code y_T_mergeKept b_T_mergeKept 5 none ∈ WG := wg2 (List.mem_of_getElem? (i := 16) rfl) rfl
theorem lm_T_172 : Cond.methodLink R_T 172 y_S_makeEmpty ∈ WG := wg2 (List.mem_of_getElem? (i := 17) rfl) rfl
theorem vi_S_makeEmpty : Cond.instanceMethod y_S_makeEmpty ∈ WG := wg2 (List.mem_of_getElem? (i := 18) rfl) rfl
theorem ve_S_makeEmpty : Cond.selects R_S y_S_makeEmpty y_S_makeEmpty ∈ WG := wg2 (List.mem_of_getElem? (i := 19) rfl) rfl
theorem vc_S_makeEmpty : Cond.code y_S_makeEmpty b_S_makeEmpty 1 none ∈ WG := wg2 (List.mem_of_getElem? (i := 20) rfl) rfl
theorem vs_T_clear : Cond.static y_T_clear ∈ WG := wg2 (List.mem_of_getElem? (i := 22) rfl) rfl
theorem vc_T_clear : Cond.code y_T_clear b_T_clear 2 none ∈ WG := wg2 (List.mem_of_getElem? (i := 23) rfl) rfl
theorem lm_T_175 : Cond.methodLink R_T 175 y_S_merge ∈ WG := wg2 (List.mem_of_getElem? (i := 24) rfl) rfl
theorem vi_S_merge : Cond.instanceMethod y_S_merge ∈ WG := wg2 (List.mem_of_getElem? (i := 25) rfl) rfl
theorem ve_S_merge : Cond.selects R_S y_S_merge y_S_merge ∈ WG := wg2 (List.mem_of_getElem? (i := 26) rfl) rfl
theorem vc_S_merge : Cond.code y_S_merge b_S_merge 2 none ∈ WG := wg2 (List.mem_of_getElem? (i := 27) rfl) rfl
theorem vs_T_addTo : Cond.static y_T_addTo ∈ WG := wg2 (List.mem_of_getElem? (i := 29) rfl) rfl
theorem vc_T_addTo : Cond.code y_T_addTo b_T_addTo 3 none ∈ WG := wg2 (List.mem_of_getElem? (i := 30) rfl) rfl
theorem lm_S_69 : Cond.methodLink R_S 69 y_C_merge ∈ WG := wg2 (List.mem_of_getElem? (i := 31) rfl) rfl
theorem vi_C_merge : Cond.instanceMethod y_C_merge ∈ WG := wg2 (List.mem_of_getElem? (i := 32) rfl) rfl
theorem ve_C_merge : Cond.selects R_C y_C_merge y_C_merge ∈ WG := wg2 (List.mem_of_getElem? (i := 33) rfl) rfl
theorem vc_C_merge : Cond.code y_C_merge b_C_merge 3 none ∈ WG := wg2 (List.mem_of_getElem? (i := 34) rfl) rfl
theorem lm_S_73 : Cond.methodLink R_S 73 y_D_merge ∈ WG := wg2 (List.mem_of_getElem? (i := 36) rfl) rfl
theorem vi_D_merge : Cond.instanceMethod y_D_merge ∈ WG := wg2 (List.mem_of_getElem? (i := 37) rfl) rfl
theorem ve_D_merge : Cond.selects R_D y_D_merge y_D_merge ∈ WG := wg2 (List.mem_of_getElem? (i := 38) rfl) rfl
theorem vc_D_merge : Cond.code y_D_merge b_D_merge 3 none ∈ WG := wg2 (List.mem_of_getElem? (i := 39) rfl) rfl
theorem lm_L_41 : Cond.methodLink R_L 41 y_T_report ∈ WG := wg2 (List.mem_of_getElem? (i := 41) rfl) rfl
theorem vi_T_report : Cond.instanceMethod y_T_report ∈ WG := wg2 (List.mem_of_getElem? (i := 42) rfl) rfl
theorem ve_T_report : Cond.selects R_T y_T_report y_T_report ∈ WG := wg2 (List.mem_of_getElem? (i := 43) rfl) rfl
theorem vc_T_report : Cond.code y_T_report b_T_report 3 (some .int) ∈ WG := wg2 (List.mem_of_getElem? (i := 44) rfl) rfl
theorem lm_T_80 : Cond.methodLink R_T 80 y_T_freeSlot ∈ WG := wg2 (List.mem_of_getElem? (i := 45) rfl) rfl
theorem vi_T_freeSlot : Cond.instanceMethod y_T_freeSlot ∈ WG := wg2 (List.mem_of_getElem? (i := 47) rfl) rfl
theorem vc_T_freeSlot : Cond.code y_T_freeSlot b_T_freeSlot 1 (some .int) ∈ WG := wg2 (List.mem_of_getElem? (i := 48) rfl) rfl
theorem lm_T_169 : Cond.methodLink R_T 169 y_T_slotWithNumber ∈ WG := wg2 (List.mem_of_getElem? (i := 49) rfl) rfl
theorem vi_T_slotWithNumber : Cond.instanceMethod y_T_slotWithNumber ∈ WG := wg2 (List.mem_of_getElem? (i := 51) rfl) rfl
theorem vc_T_slotWithNumber : Cond.code y_T_slotWithNumber b_T_slotWithNumber 3 (some .int) ∈ WG := wg2 (List.mem_of_getElem? (i := 52) rfl) rfl
theorem lm_T_90 : Cond.methodLink R_T 90 y_M_send ∈ WG := wg2 (List.mem_of_getElem? (i := 53) rfl) rfl
theorem vi_M_send : Cond.instanceMethod y_M_send ∈ WG := wg2 (List.mem_of_getElem? (i := 54) rfl) rfl
theorem ve_M_send : Cond.selects R_M y_M_send y_M_send ∈ WG := wg2 (List.mem_of_getElem? (i := 55) rfl) rfl
theorem vc_M_send : Cond.code y_M_send b_M_send 5 none ∈ WG := wg2 (List.mem_of_getElem? (i := 56) rfl) rfl
theorem lm_M_28 : Cond.methodLink R_M 28 y_S_setTo ∈ WG := wg2 (List.mem_of_getElem? (i := 57) rfl) rfl
theorem vi_S_setTo : Cond.instanceMethod y_S_setTo ∈ WG := wg2 (List.mem_of_getElem? (i := 58) rfl) rfl
theorem ve_S_setTo : Cond.selects R_S y_S_setTo y_S_setTo ∈ WG := wg2 (List.mem_of_getElem? (i := 59) rfl) rfl
theorem vc_S_setTo : Cond.code y_S_setTo b_S_setTo 2 none ∈ WG := wg2 (List.mem_of_getElem? (i := 60) rfl) rfl
theorem vs_T_overwrite : Cond.static y_T_overwrite ∈ WG := wg2 (List.mem_of_getElem? (i := 62) rfl) rfl
theorem vc_T_overwrite : Cond.code y_T_overwrite b_T_overwrite 3 none ∈ WG := wg2 (List.mem_of_getElem? (i := 63) rfl) rfl
theorem lm_L_45 : Cond.methodLink R_L 45 y_T_copy ∈ WG := wg2 (List.mem_of_getElem? (i := 64) rfl) rfl
theorem vi_T_copy : Cond.instanceMethod y_T_copy ∈ WG := wg2 (List.mem_of_getElem? (i := 65) rfl) rfl
theorem ve_T_copy : Cond.selects R_T y_T_copy y_T_copy ∈ WG := wg2 (List.mem_of_getElem? (i := 66) rfl) rfl
theorem vc_T_copy : Cond.code y_T_copy b_T_copy 5 (some .int) ∈ WG := wg2 (List.mem_of_getElem? (i := 67) rfl) rfl
theorem lm_T_94 : Cond.methodLink R_T 94 y_T_slotOf ∈ WG := wg2 (List.mem_of_getElem? (i := 68) rfl) rfl
theorem vi_T_slotOf : Cond.instanceMethod y_T_slotOf ∈ WG := wg2 (List.mem_of_getElem? (i := 70) rfl) rfl
theorem vc_T_slotOf : Cond.code y_T_slotOf b_T_slotOf 2 (some .int) ∈ WG := wg2 (List.mem_of_getElem? (i := 71) rfl) rfl
theorem lm_L_49 : Cond.methodLink R_L 49 y_T_drop ∈ WG := wg2 (List.mem_of_getElem? (i := 72) rfl) rfl
theorem vi_T_drop : Cond.instanceMethod y_T_drop ∈ WG := wg2 (List.mem_of_getElem? (i := 73) rfl) rfl
theorem ve_T_drop : Cond.selects R_T y_T_drop y_T_drop ∈ WG := wg2 (List.mem_of_getElem? (i := 74) rfl) rfl
theorem vc_T_drop : Cond.code y_T_drop b_T_drop 3 (some .boolean) ∈ WG := wg2 (List.mem_of_getElem? (i := 75) rfl) rfl
theorem lm_L_53 : Cond.methodLink R_L 53 y_T_deliver ∈ WG := wg2 (List.mem_of_getElem? (i := 76) rfl) rfl
theorem vi_T_deliver : Cond.instanceMethod y_T_deliver ∈ WG := wg2 (List.mem_of_getElem? (i := 77) rfl) rfl
theorem ve_T_deliver : Cond.selects R_T y_T_deliver y_T_deliver ∈ WG := wg2 (List.mem_of_getElem? (i := 78) rfl) rfl
theorem vc_T_deliver : Cond.code y_T_deliver b_T_deliver 5 (some .int) ∈ WG := wg2 (List.mem_of_getElem? (i := 79) rfl) rfl
theorem lm_T_114 : Cond.methodLink R_T 114 y_S_setTo ∈ WG := wg2 (List.mem_of_getElem? (i := 80) rfl) rfl
theorem lm_L_57 : Cond.methodLink R_L 57 y_T_onTheWay ∈ WG := wg2 (List.mem_of_getElem? (i := 81) rfl) rfl
theorem vi_T_onTheWay : Cond.instanceMethod y_T_onTheWay ∈ WG := wg2 (List.mem_of_getElem? (i := 82) rfl) rfl
theorem ve_T_onTheWay : Cond.selects R_T y_T_onTheWay y_T_onTheWay ∈ WG := wg2 (List.mem_of_getElem? (i := 83) rfl) rfl
theorem vc_T_onTheWay : Cond.code y_T_onTheWay b_T_onTheWay 3 (some .int) ∈ WG := wg2 (List.mem_of_getElem? (i := 84) rfl) rfl
theorem lm_L_62 : Cond.methodLink R_L 62 y_T_total ∈ WG := wg2 (List.mem_of_getElem? (i := 85) rfl) rfl
theorem vi_T_total : Cond.instanceMethod y_T_total ∈ WG := wg2 (List.mem_of_getElem? (i := 86) rfl) rfl
theorem ve_T_total : Cond.selects R_T y_T_total y_T_total ∈ WG := wg2 (List.mem_of_getElem? (i := 87) rfl) rfl
theorem vc_T_total : Cond.code y_T_total b_T_total 2 (some .int) ∈ WG := wg2 (List.mem_of_getElem? (i := 88) rfl) rfl
theorem lm_L_66 : Cond.methodLink R_L 66 y_T_sum ∈ WG := wg2 (List.mem_of_getElem? (i := 89) rfl) rfl
theorem vi_T_sum : Cond.instanceMethod y_T_sum ∈ WG := wg2 (List.mem_of_getElem? (i := 90) rfl) rfl
theorem ve_T_sum : Cond.selects R_T y_T_sum y_T_sum ∈ WG := wg2 (List.mem_of_getElem? (i := 91) rfl) rfl
theorem vc_T_sum : Cond.code y_T_sum b_T_sum 2 (some .long) ∈ WG := wg2 (List.mem_of_getElem? (i := 92) rfl) rfl
theorem lk_T_127 : Cond.constantLong R_T 127 (-1) ∈ WG := wg2 (List.mem_of_getElem? (i := 93) rfl) rfl
theorem lm_L_71 : Cond.methodLink R_L 71 y_T_extreme ∈ WG := wg2 (List.mem_of_getElem? (i := 94) rfl) rfl
theorem vi_T_extreme : Cond.instanceMethod y_T_extreme ∈ WG := wg2 (List.mem_of_getElem? (i := 95) rfl) rfl
theorem ve_T_extreme : Cond.selects R_T y_T_extreme y_T_extreme ∈ WG := wg2 (List.mem_of_getElem? (i := 96) rfl) rfl
theorem vc_T_extreme : Cond.code y_T_extreme b_T_extreme 3 (some .int) ∈ WG := wg2 (List.mem_of_getElem? (i := 97) rfl) rfl
theorem lm_L_75 : Cond.methodLink R_L 75 y_T_covered ∈ WG := wg2 (List.mem_of_getElem? (i := 98) rfl) rfl
theorem vi_T_covered : Cond.instanceMethod y_T_covered ∈ WG := wg2 (List.mem_of_getElem? (i := 99) rfl) rfl
theorem ve_T_covered : Cond.selects R_T y_T_covered y_T_covered ∈ WG := wg2 (List.mem_of_getElem? (i := 100) rfl) rfl
theorem vc_T_covered : Cond.code y_T_covered b_T_covered 3 (some .int) ∈ WG := wg2 (List.mem_of_getElem? (i := 101) rfl) rfl
theorem lm_L_80 : Cond.methodLink R_L 80 y_T_estimate ∈ WG := wg2 (List.mem_of_getElem? (i := 102) rfl) rfl
theorem vi_T_estimate : Cond.instanceMethod y_T_estimate ∈ WG := wg2 (List.mem_of_getElem? (i := 103) rfl) rfl
theorem ve_T_estimate : Cond.selects R_T y_T_estimate y_T_estimate ∈ WG := wg2 (List.mem_of_getElem? (i := 104) rfl) rfl
theorem vc_T_estimate : Cond.code y_T_estimate b_T_estimate 3 (some .int) ∈ WG := wg2 (List.mem_of_getElem? (i := 105) rfl) rfl
theorem lm_L_84 : Cond.methodLink R_L 84 y_T_top ∈ WG := wg2 (List.mem_of_getElem? (i := 106) rfl) rfl
theorem vi_T_top : Cond.instanceMethod y_T_top ∈ WG := wg2 (List.mem_of_getElem? (i := 107) rfl) rfl
theorem ve_T_top : Cond.selects R_T y_T_top y_T_top ∈ WG := wg2 (List.mem_of_getElem? (i := 108) rfl) rfl
theorem vc_T_top : Cond.code y_T_top b_T_top 3 (some .int) ∈ WG := wg2 (List.mem_of_getElem? (i := 109) rfl) rfl
theorem lm_T_148 : Cond.methodLink R_T 148 y_C_valueAtRank ∈ WG := wg2 (List.mem_of_getElem? (i := 110) rfl) rfl
theorem lm_L_88 : Cond.methodLink R_L 88 y_T_digestSize ∈ WG := wg2 (List.mem_of_getElem? (i := 111) rfl) rfl
theorem vi_T_digestSize : Cond.instanceMethod y_T_digestSize ∈ WG := wg2 (List.mem_of_getElem? (i := 112) rfl) rfl
theorem ve_T_digestSize : Cond.selects R_T y_T_digestSize y_T_digestSize ∈ WG := wg2 (List.mem_of_getElem? (i := 113) rfl) rfl
theorem vc_T_digestSize : Cond.code y_T_digestSize b_T_digestSize 2 (some .int) ∈ WG := wg2 (List.mem_of_getElem? (i := 114) rfl) rfl
theorem lm_T_155 : Cond.methodLink R_T 155 y_D_rangesInUse ∈ WG := wg2 (List.mem_of_getElem? (i := 115) rfl) rfl
theorem vi_D_rangesInUse : Cond.instanceMethod y_D_rangesInUse ∈ WG := wg2 (List.mem_of_getElem? (i := 116) rfl) rfl
theorem ve_D_rangesInUse : Cond.selects R_D y_D_rangesInUse y_D_rangesInUse ∈ WG := wg2 (List.mem_of_getElem? (i := 117) rfl) rfl
theorem vc_D_rangesInUse : Cond.code y_D_rangesInUse b_D_rangesInUse 3 (some .int) ∈ WG := wg2 (List.mem_of_getElem? (i := 118) rfl) rfl
theorem lm_L_92 : Cond.methodLink R_L 92 y_T_below ∈ WG := wg2 (List.mem_of_getElem? (i := 119) rfl) rfl
theorem vi_T_below : Cond.instanceMethod y_T_below ∈ WG := wg2 (List.mem_of_getElem? (i := 120) rfl) rfl
theorem ve_T_below : Cond.selects R_T y_T_below y_T_below ∈ WG := wg2 (List.mem_of_getElem? (i := 121) rfl) rfl
theorem vc_T_below : Cond.code y_T_below b_T_below 5 (some .int) ∈ WG := wg2 (List.mem_of_getElem? (i := 122) rfl) rfl
theorem lm_T_160 : Cond.methodLink R_T 160 y_D_startingBefore ∈ WG := wg2 (List.mem_of_getElem? (i := 123) rfl) rfl
theorem vi_D_startingBefore : Cond.instanceMethod y_D_startingBefore ∈ WG := wg2 (List.mem_of_getElem? (i := 124) rfl) rfl
theorem ve_D_startingBefore : Cond.selects R_D y_D_startingBefore y_D_startingBefore ∈ WG := wg2 (List.mem_of_getElem? (i := 125) rfl) rfl
theorem vc_D_startingBefore : Cond.code y_D_startingBefore b_D_startingBefore 4 (some .int) ∈ WG := wg2 (List.mem_of_getElem? (i := 126) rfl) rfl
theorem lm_D_35 : Cond.methodLink R_D 35 y_D_startingAt ∈ WG := wg2 (List.mem_of_getElem? (i := 127) rfl) rfl
theorem vi_D_startingAt : Cond.instanceMethod y_D_startingAt ∈ WG := wg2 (List.mem_of_getElem? (i := 128) rfl) rfl
theorem ve_D_startingAt : Cond.selects R_D y_D_startingAt y_D_startingAt ∈ WG := wg2 (List.mem_of_getElem? (i := 129) rfl) rfl
theorem vc_D_startingAt : Cond.code y_D_startingAt b_D_startingAt 4 (some .int) ∈ WG := wg2 (List.mem_of_getElem? (i := 130) rfl) rfl
theorem lm_T_163 : Cond.methodLink R_T 163 y_D_endingBefore ∈ WG := wg2 (List.mem_of_getElem? (i := 131) rfl) rfl
theorem vi_D_endingBefore : Cond.instanceMethod y_D_endingBefore ∈ WG := wg2 (List.mem_of_getElem? (i := 132) rfl) rfl
theorem ve_D_endingBefore : Cond.selects R_D y_D_endingBefore y_D_endingBefore ∈ WG := wg2 (List.mem_of_getElem? (i := 133) rfl) rfl
theorem vc_D_endingBefore : Cond.code y_D_endingBefore b_D_endingBefore 4 (some .int) ∈ WG := wg2 (List.mem_of_getElem? (i := 134) rfl) rfl
theorem lm_D_31 : Cond.methodLink R_D 31 y_D_endingAt ∈ WG := wg2 (List.mem_of_getElem? (i := 135) rfl) rfl
theorem vi_D_endingAt : Cond.instanceMethod y_D_endingAt ∈ WG := wg2 (List.mem_of_getElem? (i := 136) rfl) rfl
theorem ve_D_endingAt : Cond.selects R_D y_D_endingAt y_D_endingAt ∈ WG := wg2 (List.mem_of_getElem? (i := 137) rfl) rfl
theorem vc_D_endingAt : Cond.code y_D_endingAt b_D_endingAt 4 (some .int) ∈ WG := wg2 (List.mem_of_getElem? (i := 138) rfl) rfl
theorem lm_L_97 : Cond.methodLink R_L 97 y_T_quantile ∈ WG := wg2 (List.mem_of_getElem? (i := 139) rfl) rfl
theorem vi_T_quantile : Cond.instanceMethod y_T_quantile ∈ WG := wg2 (List.mem_of_getElem? (i := 140) rfl) rfl
theorem ve_T_quantile : Cond.selects R_T y_T_quantile y_T_quantile ∈ WG := wg2 (List.mem_of_getElem? (i := 141) rfl) rfl
theorem vc_T_quantile : Cond.code y_T_quantile b_T_quantile 4 (some .int) ∈ WG := wg2 (List.mem_of_getElem? (i := 142) rfl) rfl
theorem lm_T_166 : Cond.methodLink R_T 166 y_D_valueReaching ∈ WG := wg2 (List.mem_of_getElem? (i := 143) rfl) rfl
theorem vi_D_valueReaching : Cond.instanceMethod y_D_valueReaching ∈ WG := wg2 (List.mem_of_getElem? (i := 144) rfl) rfl
theorem ve_D_valueReaching : Cond.selects R_D y_D_valueReaching y_D_valueReaching ∈ WG := wg2 (List.mem_of_getElem? (i := 145) rfl) rfl
theorem vc_D_valueReaching : Cond.code y_D_valueReaching b_D_valueReaching 4 (some .int) ∈ WG := wg2 (List.mem_of_getElem? (i := 146) rfl) rfl
theorem lm_L_9 : Cond.methodLink R_L 9 y_L_cell ∈ WG := wg2 (List.mem_of_getElem? (i := 147) rfl) rfl
theorem vs_L_cell : Cond.static y_L_cell ∈ WG := wg2 (List.mem_of_getElem? (i := 148) rfl) rfl
theorem vc_L_cell : Cond.code y_L_cell b_L_cell 2 (some .int) ∈ WG := wg2 (List.mem_of_getElem? (i := 149) rfl) rfl
theorem lc_L_18 : Cond.classLink R_L 18 R_R ∈ WG := wg2 (List.mem_of_getElem? (i := 150) rfl) rfl
theorem vm_R : Cond.instantiable R_R 22 ∈ WG := wg2 (List.mem_of_getElem? (i := 151) rfl) rfl
theorem lm_L_20 : Cond.methodLink R_L 20 y_R_init ∈ WG := wg2 (List.mem_of_getElem? (i := 152) rfl) rfl
theorem vi_R_init : Cond.instanceMethod y_R_init ∈ WG := wg2 (List.mem_of_getElem? (i := 153) rfl) rfl
theorem vc_R_init : Cond.code y_R_init b_R_init 3 none ∈ WG := wg2 (List.mem_of_getElem? (i := 154) rfl) rfl
theorem lm_R_1 : Cond.methodLink R_R 1 objectInit ∈ WG := wg2 (List.mem_of_getElem? (i := 155) rfl) rfl
theorem lf_R_69 : Cond.fieldLink R_R 69 "TelemetryTreeModel" "k" "I" ∈ WG := wg2 (List.mem_of_getElem? (i := 156) rfl) rfl
theorem lf_R_72 : Cond.fieldLink R_R 72 "TelemetryTreeModel" "d" "I" ∈ WG := wg2 (List.mem_of_getElem? (i := 157) rfl) rfl
theorem lf_R_7 : Cond.fieldLink R_R 7 "TelemetryTreeModel" "nodes" "I" ∈ WG := wg2 (List.mem_of_getElem? (i := 158) rfl) rfl
theorem lf_R_13 : Cond.fieldLink R_R 13 "TelemetryTreeModel" "up" "[I" ∈ WG := wg2 (List.mem_of_getElem? (i := 159) rfl) rfl
theorem lf_R_17 : Cond.fieldLink R_R 17 "TelemetryTreeModel" "isLeaf" "[Z" ∈ WG := wg2 (List.mem_of_getElem? (i := 160) rfl) rfl
theorem lf_R_21 : Cond.fieldLink R_R 21 "TelemetryTreeModel" "reports" "[I" ∈ WG := wg2 (List.mem_of_getElem? (i := 161) rfl) rfl
theorem lf_R_24 : Cond.fieldLink R_R 24 "TelemetryTreeModel" "journal" "[I" ∈ WG := wg2 (List.mem_of_getElem? (i := 162) rfl) rfl
theorem lf_R_27 : Cond.fieldLink R_R 27 "TelemetryTreeModel" "written" "[I" ∈ WG := wg2 (List.mem_of_getElem? (i := 163) rfl) rfl
theorem lf_R_30 : Cond.fieldLink R_R 30 "TelemetryTreeModel" "open" "[I" ∈ WG := wg2 (List.mem_of_getElem? (i := 164) rfl) rfl
theorem lf_R_33 : Cond.fieldLink R_R 33 "TelemetryTreeModel" "opened" "[I" ∈ WG := wg2 (List.mem_of_getElem? (i := 165) rfl) rfl
theorem lf_R_36 : Cond.fieldLink R_R 36 "TelemetryTreeModel" "keptVersion" "[I" ∈ WG := wg2 (List.mem_of_getElem? (i := 166) rfl) rfl
theorem lf_R_39 : Cond.fieldLink R_R 39 "TelemetryTreeModel" "kept" "[I" ∈ WG := wg2 (List.mem_of_getElem? (i := 167) rfl) rfl
theorem lf_R_93 : Cond.fieldLink R_R 93 "TelemetryTreeModel" "messages" "I" ∈ WG := wg2 (List.mem_of_getElem? (i := 168) rfl) rfl
theorem lf_R_42 : Cond.fieldLink R_R 42 "TelemetryTreeModel" "number" "[I" ∈ WG := wg2 (List.mem_of_getElem? (i := 169) rfl) rfl
theorem lf_R_45 : Cond.fieldLink R_R 45 "TelemetryTreeModel" "sender" "[I" ∈ WG := wg2 (List.mem_of_getElem? (i := 170) rfl) rfl
theorem lf_R_48 : Cond.fieldLink R_R 48 "TelemetryTreeModel" "version" "[I" ∈ WG := wg2 (List.mem_of_getElem? (i := 171) rfl) rfl
theorem lf_R_51 : Cond.fieldLink R_R 51 "TelemetryTreeModel" "carried" "[I" ∈ WG := wg2 (List.mem_of_getElem? (i := 172) rfl) rfl
theorem lf_R_54 : Cond.fieldLink R_R 54 "TelemetryTreeModel" "known" "[I" ∈ WG := wg2 (List.mem_of_getElem? (i := 173) rfl) rfl
theorem lf_R_57 : Cond.fieldLink R_R 57 "TelemetryTreeModel" "n" "[I" ∈ WG := wg2 (List.mem_of_getElem? (i := 174) rfl) rfl
theorem lf_R_60 : Cond.fieldLink R_R 60 "TelemetryTreeModel" "counter" "[I" ∈ WG := wg2 (List.mem_of_getElem? (i := 175) rfl) rfl
theorem lf_R_63 : Cond.fieldLink R_R 63 "TelemetryTreeModel" "digest" "[I" ∈ WG := wg2 (List.mem_of_getElem? (i := 176) rfl) rfl
theorem lf_R_66 : Cond.fieldLink R_R 66 "TelemetryTreeModel" "used" "[Z" ∈ WG := wg2 (List.mem_of_getElem? (i := 177) rfl) rfl
theorem vk_boolean : Cond.arrayClass .boolean ∈ WG := wg2 (List.mem_of_getElem? (i := 223) rfl) rfl
theorem lm_L_25 : Cond.methodLink R_L 25 y_R_attach ∈ WG := wg2 (List.mem_of_getElem? (i := 224) rfl) rfl
theorem vi_R_attach : Cond.instanceMethod y_R_attach ∈ WG := wg2 (List.mem_of_getElem? (i := 225) rfl) rfl
theorem ve_R_attach : Cond.selects R_R y_R_attach y_R_attach ∈ WG := wg2 (List.mem_of_getElem? (i := 226) rfl) rfl
theorem vc_R_attach : Cond.code y_R_attach b_R_attach 3 (some .int) ∈ WG := wg2 (List.mem_of_getElem? (i := 227) rfl) rfl
theorem lm_R_75 : Cond.methodLink R_R 75 y_R_isNode ∈ WG := wg2 (List.mem_of_getElem? (i := 228) rfl) rfl
theorem vi_R_isNode : Cond.instanceMethod y_R_isNode ∈ WG := wg2 (List.mem_of_getElem? (i := 230) rfl) rfl
theorem vc_R_isNode : Cond.code y_R_isNode b_R_isNode 2 (some .boolean) ∈ WG := wg2 (List.mem_of_getElem? (i := 231) rfl) rfl
theorem lm_L_30 : Cond.methodLink R_L 30 y_R_add ∈ WG := wg2 (List.mem_of_getElem? (i := 232) rfl) rfl
theorem vi_R_add : Cond.instanceMethod y_R_add ∈ WG := wg2 (List.mem_of_getElem? (i := 233) rfl) rfl
theorem ve_R_add : Cond.selects R_R y_R_add y_R_add ∈ WG := wg2 (List.mem_of_getElem? (i := 234) rfl) rfl
theorem vc_R_add : Cond.code y_R_add b_R_add 3 (some .boolean) ∈ WG := wg2 (List.mem_of_getElem? (i := 235) rfl) rfl
theorem lm_R_79 : Cond.methodLink R_R 79 y_R_leafNode ∈ WG := wg2 (List.mem_of_getElem? (i := 236) rfl) rfl
theorem vi_R_leafNode : Cond.instanceMethod y_R_leafNode ∈ WG := wg2 (List.mem_of_getElem? (i := 238) rfl) rfl
theorem vc_R_leafNode : Cond.code y_R_leafNode b_R_leafNode 2 (some .boolean) ∈ WG := wg2 (List.mem_of_getElem? (i := 239) rfl) rfl
theorem lm_R_82 : Cond.methodLink R_R 82 y_R_writeBlock ∈ WG := wg3 (List.mem_of_getElem? (i := 0) rfl) rfl
theorem vi_R_writeBlock : Cond.instanceMethod y_R_writeBlock ∈ WG := wg3 (List.mem_of_getElem? (i := 2) rfl) rfl
theorem vc_R_writeBlock : Cond.code y_R_writeBlock b_R_writeBlock 3 none ∈ WG := wg3 (List.mem_of_getElem? (i := 3) rfl) rfl
theorem lm_L_35 : Cond.methodLink R_L 35 y_R_flush ∈ WG := wg3 (List.mem_of_getElem? (i := 4) rfl) rfl
theorem vi_R_flush : Cond.instanceMethod y_R_flush ∈ WG := wg3 (List.mem_of_getElem? (i := 5) rfl) rfl
theorem ve_R_flush : Cond.selects R_R y_R_flush y_R_flush ∈ WG := wg3 (List.mem_of_getElem? (i := 6) rfl) rfl
theorem vc_R_flush : Cond.code y_R_flush b_R_flush 3 (some .int) ∈ WG := wg3 (List.mem_of_getElem? (i := 7) rfl) rfl
theorem lm_L_40 : Cond.methodLink R_L 40 y_R_crash ∈ WG := wg3 (List.mem_of_getElem? (i := 8) rfl) rfl
theorem vi_R_crash : Cond.instanceMethod y_R_crash ∈ WG := wg3 (List.mem_of_getElem? (i := 9) rfl) rfl
theorem ve_R_crash : Cond.selects R_R y_R_crash y_R_crash ∈ WG := wg3 (List.mem_of_getElem? (i := 10) rfl) rfl
theorem vc_R_crash : Cond.code y_R_crash b_R_crash 3 (some .boolean) ∈ WG := wg3 (List.mem_of_getElem? (i := 11) rfl) rfl
theorem lm_L_44 : Cond.methodLink R_L 44 y_R_report ∈ WG := wg3 (List.mem_of_getElem? (i := 12) rfl) rfl
theorem vi_R_report : Cond.instanceMethod y_R_report ∈ WG := wg3 (List.mem_of_getElem? (i := 13) rfl) rfl
theorem ve_R_report : Cond.selects R_R y_R_report y_R_report ∈ WG := wg3 (List.mem_of_getElem? (i := 14) rfl) rfl
theorem vc_R_report : Cond.code y_R_report b_R_report 4 (some .int) ∈ WG := wg3 (List.mem_of_getElem? (i := 15) rfl) rfl
theorem lm_R_86 : Cond.methodLink R_R 86 y_R_freePlace ∈ WG := wg3 (List.mem_of_getElem? (i := 16) rfl) rfl
theorem vi_R_freePlace : Cond.instanceMethod y_R_freePlace ∈ WG := wg3 (List.mem_of_getElem? (i := 18) rfl) rfl
theorem vc_R_freePlace : Cond.code y_R_freePlace b_R_freePlace 2 (some .int) ∈ WG := wg3 (List.mem_of_getElem? (i := 19) rfl) rfl
theorem lm_R_90 : Cond.methodLink R_R 90 y_R_know ∈ WG := wg3 (List.mem_of_getElem? (i := 20) rfl) rfl
theorem vi_R_know : Cond.instanceMethod y_R_know ∈ WG := wg3 (List.mem_of_getElem? (i := 22) rfl) rfl
theorem vc_R_know : Cond.code y_R_know b_R_know 4 none ∈ WG := wg3 (List.mem_of_getElem? (i := 23) rfl) rfl
theorem lm_L_48 : Cond.methodLink R_L 48 y_R_copy ∈ WG := wg3 (List.mem_of_getElem? (i := 24) rfl) rfl
theorem vi_R_copy : Cond.instanceMethod y_R_copy ∈ WG := wg3 (List.mem_of_getElem? (i := 25) rfl) rfl
theorem ve_R_copy : Cond.selects R_R y_R_copy y_R_copy ∈ WG := wg3 (List.mem_of_getElem? (i := 26) rfl) rfl
theorem vc_R_copy : Cond.code y_R_copy b_R_copy 5 (some .int) ∈ WG := wg3 (List.mem_of_getElem? (i := 27) rfl) rfl
theorem lm_R_96 : Cond.methodLink R_R 96 y_R_placeOf ∈ WG := wg3 (List.mem_of_getElem? (i := 28) rfl) rfl
theorem vi_R_placeOf : Cond.instanceMethod y_R_placeOf ∈ WG := wg3 (List.mem_of_getElem? (i := 30) rfl) rfl
theorem vc_R_placeOf : Cond.code y_R_placeOf b_R_placeOf 3 (some .int) ∈ WG := wg3 (List.mem_of_getElem? (i := 31) rfl) rfl
theorem lm_L_52 : Cond.methodLink R_L 52 y_R_drop ∈ WG := wg3 (List.mem_of_getElem? (i := 32) rfl) rfl
theorem vi_R_drop : Cond.instanceMethod y_R_drop ∈ WG := wg3 (List.mem_of_getElem? (i := 33) rfl) rfl
theorem ve_R_drop : Cond.selects R_R y_R_drop y_R_drop ∈ WG := wg3 (List.mem_of_getElem? (i := 34) rfl) rfl
theorem vc_R_drop : Cond.code y_R_drop b_R_drop 3 (some .boolean) ∈ WG := wg3 (List.mem_of_getElem? (i := 35) rfl) rfl
theorem lm_L_56 : Cond.methodLink R_L 56 y_R_deliver ∈ WG := wg3 (List.mem_of_getElem? (i := 36) rfl) rfl
theorem vi_R_deliver : Cond.instanceMethod y_R_deliver ∈ WG := wg3 (List.mem_of_getElem? (i := 37) rfl) rfl
theorem ve_R_deliver : Cond.selects R_R y_R_deliver y_R_deliver ∈ WG := wg3 (List.mem_of_getElem? (i := 38) rfl) rfl
theorem vc_R_deliver : Cond.code y_R_deliver b_R_deliver 5 (some .int) ∈ WG := wg3 (List.mem_of_getElem? (i := 39) rfl) rfl
theorem lm_L_61 : Cond.methodLink R_L 61 y_R_onTheWay ∈ WG := wg3 (List.mem_of_getElem? (i := 40) rfl) rfl
theorem vi_R_onTheWay : Cond.instanceMethod y_R_onTheWay ∈ WG := wg3 (List.mem_of_getElem? (i := 41) rfl) rfl
theorem ve_R_onTheWay : Cond.selects R_R y_R_onTheWay y_R_onTheWay ∈ WG := wg3 (List.mem_of_getElem? (i := 42) rfl) rfl
theorem vc_R_onTheWay : Cond.code y_R_onTheWay b_R_onTheWay 3 (some .int) ∈ WG := wg3 (List.mem_of_getElem? (i := 43) rfl) rfl
theorem lm_L_65 : Cond.methodLink R_L 65 y_R_total ∈ WG := wg3 (List.mem_of_getElem? (i := 44) rfl) rfl
theorem vi_R_total : Cond.instanceMethod y_R_total ∈ WG := wg3 (List.mem_of_getElem? (i := 45) rfl) rfl
theorem ve_R_total : Cond.selects R_R y_R_total y_R_total ∈ WG := wg3 (List.mem_of_getElem? (i := 46) rfl) rfl
theorem vc_R_total : Cond.code y_R_total b_R_total 4 (some .int) ∈ WG := wg3 (List.mem_of_getElem? (i := 47) rfl) rfl
theorem lm_L_70 : Cond.methodLink R_L 70 y_R_sum ∈ WG := wg3 (List.mem_of_getElem? (i := 48) rfl) rfl
theorem vi_R_sum : Cond.instanceMethod y_R_sum ∈ WG := wg3 (List.mem_of_getElem? (i := 49) rfl) rfl
theorem ve_R_sum : Cond.selects R_R y_R_sum y_R_sum ∈ WG := wg3 (List.mem_of_getElem? (i := 50) rfl) rfl
theorem vc_R_sum : Cond.code y_R_sum b_R_sum 6 (some .long) ∈ WG := wg3 (List.mem_of_getElem? (i := 51) rfl) rfl
theorem lk_R_125 : Cond.constantLong R_R 125 (-1) ∈ WG := wg3 (List.mem_of_getElem? (i := 52) rfl) rfl
theorem lm_L_74 : Cond.methodLink R_L 74 y_R_extreme ∈ WG := wg3 (List.mem_of_getElem? (i := 53) rfl) rfl
theorem vi_R_extreme : Cond.instanceMethod y_R_extreme ∈ WG := wg3 (List.mem_of_getElem? (i := 54) rfl) rfl
theorem ve_R_extreme : Cond.selects R_R y_R_extreme y_R_extreme ∈ WG := wg3 (List.mem_of_getElem? (i := 55) rfl) rfl
theorem vc_R_extreme : Cond.code y_R_extreme b_R_extreme 7 (some .int) ∈ WG := wg3 (List.mem_of_getElem? (i := 56) rfl) rfl
theorem lm_L_79 : Cond.methodLink R_L 79 y_R_covered ∈ WG := wg3 (List.mem_of_getElem? (i := 57) rfl) rfl
theorem vi_R_covered : Cond.instanceMethod y_R_covered ∈ WG := wg3 (List.mem_of_getElem? (i := 58) rfl) rfl
theorem ve_R_covered : Cond.selects R_R y_R_covered y_R_covered ∈ WG := wg3 (List.mem_of_getElem? (i := 59) rfl) rfl
theorem vc_R_covered : Cond.code y_R_covered b_R_covered 3 (some .int) ∈ WG := wg3 (List.mem_of_getElem? (i := 60) rfl) rfl
theorem lm_L_83 : Cond.methodLink R_L 83 y_R_estimate ∈ WG := wg3 (List.mem_of_getElem? (i := 61) rfl) rfl
theorem vi_R_estimate : Cond.instanceMethod y_R_estimate ∈ WG := wg3 (List.mem_of_getElem? (i := 62) rfl) rfl
theorem ve_R_estimate : Cond.selects R_R y_R_estimate y_R_estimate ∈ WG := wg3 (List.mem_of_getElem? (i := 63) rfl) rfl
theorem vc_R_estimate : Cond.code y_R_estimate b_R_estimate 3 (some .int) ∈ WG := wg3 (List.mem_of_getElem? (i := 64) rfl) rfl
theorem lm_R_127 : Cond.methodLink R_R 127 y_R_work ∈ WG := wg3 (List.mem_of_getElem? (i := 65) rfl) rfl
theorem vi_R_work : Cond.instanceMethod y_R_work ∈ WG := wg3 (List.mem_of_getElem? (i := 67) rfl) rfl
theorem vc_R_work : Cond.code y_R_work b_R_work 4 none ∈ WG := wg3 (List.mem_of_getElem? (i := 68) rfl) rfl
theorem lm_R_100 : Cond.methodLink R_R 100 y_R_clear ∈ WG := wg3 (List.mem_of_getElem? (i := 69) rfl) rfl
theorem vi_R_clear : Cond.instanceMethod y_R_clear ∈ WG := wg3 (List.mem_of_getElem? (i := 71) rfl) rfl
theorem vc_R_clear : Cond.code y_R_clear b_R_clear 3 none ∈ WG := wg3 (List.mem_of_getElem? (i := 72) rfl) rfl
theorem lm_R_103 : Cond.methodLink R_R 103 y_R_take ∈ WG := wg3 (List.mem_of_getElem? (i := 73) rfl) rfl
theorem vi_R_take : Cond.instanceMethod y_R_take ∈ WG := wg3 (List.mem_of_getElem? (i := 75) rfl) rfl
theorem vc_R_take : Cond.code y_R_take b_R_take 3 none ∈ WG := wg3 (List.mem_of_getElem? (i := 76) rfl) rfl
theorem lm_R_110 : Cond.methodLink R_R 110 y_R_counters ∈ WG := wg3 (List.mem_of_getElem? (i := 77) rfl) rfl
theorem vi_R_counters : Cond.instanceMethod y_R_counters ∈ WG := wg3 (List.mem_of_getElem? (i := 79) rfl) rfl
theorem vc_R_counters : Cond.code y_R_counters b_R_counters 4 (some .int) ∈ WG := wg3 (List.mem_of_getElem? (i := 80) rfl) rfl
theorem lm_R_113 : Cond.methodLink R_R 113 y_R_lower ∈ WG := wg3 (List.mem_of_getElem? (i := 81) rfl) rfl
theorem vi_R_lower : Cond.instanceMethod y_R_lower ∈ WG := wg3 (List.mem_of_getElem? (i := 83) rfl) rfl
theorem vc_R_lower : Cond.code y_R_lower b_R_lower 5 none ∈ WG := wg3 (List.mem_of_getElem? (i := 84) rfl) rfl
theorem lm_R_116 : Cond.methodLink R_R 116 y_R_compress ∈ WG := wg3 (List.mem_of_getElem? (i := 85) rfl) rfl
theorem vi_R_compress : Cond.instanceMethod y_R_compress ∈ WG := wg3 (List.mem_of_getElem? (i := 87) rfl) rfl
theorem vc_R_compress : Cond.code y_R_compress b_R_compress 9 none ∈ WG := wg3 (List.mem_of_getElem? (i := 88) rfl) rfl
theorem lm_R_107 : Cond.methodLink R_R 107 y_R_merge ∈ WG := wg3 (List.mem_of_getElem? (i := 89) rfl) rfl
theorem vi_R_merge : Cond.instanceMethod y_R_merge ∈ WG := wg3 (List.mem_of_getElem? (i := 91) rfl) rfl
theorem vc_R_merge : Cond.code y_R_merge b_R_merge 6 none ∈ WG := wg3 (List.mem_of_getElem? (i := 92) rfl) rfl
theorem lm_R_119 : Cond.methodLink R_R 119 y_R_clearUsed ∈ WG := wg3 (List.mem_of_getElem? (i := 93) rfl) rfl
theorem vi_R_clearUsed : Cond.instanceMethod y_R_clearUsed ∈ WG := wg3 (List.mem_of_getElem? (i := 95) rfl) rfl
theorem vc_R_clearUsed : Cond.code y_R_clearUsed b_R_clearUsed 2 none ∈ WG := wg3 (List.mem_of_getElem? (i := 96) rfl) rfl
theorem lm_R_122 : Cond.methodLink R_R 122 y_R_greatestUnused ∈ WG := wg3 (List.mem_of_getElem? (i := 97) rfl) rfl
theorem vi_R_greatestUnused : Cond.instanceMethod y_R_greatestUnused ∈ WG := wg3 (List.mem_of_getElem? (i := 99) rfl) rfl
theorem vc_R_greatestUnused : Cond.code y_R_greatestUnused b_R_greatestUnused 4 (some .int) ∈ WG := wg3 (List.mem_of_getElem? (i := 100) rfl) rfl
theorem lm_L_87 : Cond.methodLink R_L 87 y_R_top ∈ WG := wg3 (List.mem_of_getElem? (i := 101) rfl) rfl
theorem vi_R_top : Cond.instanceMethod y_R_top ∈ WG := wg3 (List.mem_of_getElem? (i := 102) rfl) rfl
theorem ve_R_top : Cond.selects R_R y_R_top y_R_top ∈ WG := wg3 (List.mem_of_getElem? (i := 103) rfl) rfl
theorem vc_R_top : Cond.code y_R_top b_R_top 5 (some .int) ∈ WG := wg3 (List.mem_of_getElem? (i := 104) rfl) rfl
theorem lm_L_91 : Cond.methodLink R_L 91 y_R_digestSize ∈ WG := wg3 (List.mem_of_getElem? (i := 105) rfl) rfl
theorem vi_R_digestSize : Cond.instanceMethod y_R_digestSize ∈ WG := wg3 (List.mem_of_getElem? (i := 106) rfl) rfl
theorem ve_R_digestSize : Cond.selects R_R y_R_digestSize y_R_digestSize ∈ WG := wg3 (List.mem_of_getElem? (i := 107) rfl) rfl
theorem vc_R_digestSize : Cond.code y_R_digestSize b_R_digestSize 4 (some .int) ∈ WG := wg3 (List.mem_of_getElem? (i := 108) rfl) rfl
theorem lm_L_96 : Cond.methodLink R_L 96 y_R_below ∈ WG := wg3 (List.mem_of_getElem? (i := 109) rfl) rfl
theorem vi_R_below : Cond.instanceMethod y_R_below ∈ WG := wg3 (List.mem_of_getElem? (i := 110) rfl) rfl
theorem ve_R_below : Cond.selects R_R y_R_below y_R_below ∈ WG := wg3 (List.mem_of_getElem? (i := 111) rfl) rfl
theorem vc_R_below : Cond.code y_R_below b_R_below 9 (some .int) ∈ WG := wg3 (List.mem_of_getElem? (i := 112) rfl) rfl
theorem lm_R_130 : Cond.methodLink R_R 130 y_R_width ∈ WG := wg3 (List.mem_of_getElem? (i := 113) rfl) rfl
theorem vs_R_width : Cond.static y_R_width ∈ WG := wg3 (List.mem_of_getElem? (i := 114) rfl) rfl
theorem vc_R_width : Cond.code y_R_width b_R_width 1 (some .int) ∈ WG := wg3 (List.mem_of_getElem? (i := 115) rfl) rfl
theorem lm_R_133 : Cond.methodLink R_R 133 y_R_least ∈ WG := wg3 (List.mem_of_getElem? (i := 116) rfl) rfl
theorem vs_R_least : Cond.static y_R_least ∈ WG := wg3 (List.mem_of_getElem? (i := 117) rfl) rfl
theorem vc_R_least : Cond.code y_R_least b_R_least 2 (some .int) ∈ WG := wg3 (List.mem_of_getElem? (i := 118) rfl) rfl
theorem lm_L_100 : Cond.methodLink R_L 100 y_R_quantile ∈ WG := wg3 (List.mem_of_getElem? (i := 119) rfl) rfl
theorem vi_R_quantile : Cond.instanceMethod y_R_quantile ∈ WG := wg3 (List.mem_of_getElem? (i := 120) rfl) rfl
theorem ve_R_quantile : Cond.selects R_R y_R_quantile y_R_quantile ∈ WG := wg3 (List.mem_of_getElem? (i := 121) rfl) rfl
theorem vc_R_quantile : Cond.code y_R_quantile b_R_quantile 8 (some .int) ∈ WG := wg3 (List.mem_of_getElem? (i := 122) rfl) rfl
theorem ve_T_isNode : Cond.selects R_T y_T_isNode y_T_isNode ∈ WG := List.mem_filter.mpr ⟨List.mem_append_left _ (by decide +kernel), rfl⟩
theorem ve_T_isLeaf : Cond.selects R_T y_T_isLeaf y_T_isLeaf ∈ WG := List.mem_filter.mpr ⟨List.mem_append_left _ (by decide +kernel), rfl⟩
theorem ve_T_slotOf : Cond.selects R_T y_T_slotOf y_T_slotOf ∈ WG := List.mem_filter.mpr ⟨List.mem_append_left _ (by decide +kernel), rfl⟩
theorem ve_T_freeSlot : Cond.selects R_T y_T_freeSlot y_T_freeSlot ∈ WG := List.mem_filter.mpr ⟨List.mem_append_left _ (by decide +kernel), rfl⟩
theorem ve_T_slotWithNumber : Cond.selects R_T y_T_slotWithNumber y_T_slotWithNumber ∈ WG := List.mem_filter.mpr ⟨List.mem_append_left _ (by decide +kernel), rfl⟩
theorem ve_T_forgetChildren : Cond.selects R_T y_T_forgetChildren y_T_forgetChildren ∈ WG := List.mem_filter.mpr ⟨List.mem_append_left _ (by decide +kernel), rfl⟩
theorem ve_T_mergeKept : Cond.selects R_T y_T_mergeKept y_T_mergeKept ∈ WG := List.mem_filter.mpr ⟨List.mem_append_left _ (by decide +kernel), rfl⟩
theorem ve_R_isNode : Cond.selects R_R y_R_isNode y_R_isNode ∈ WG := List.mem_filter.mpr ⟨List.mem_append_left _ (by decide +kernel), rfl⟩
theorem ve_R_leafNode : Cond.selects R_R y_R_leafNode y_R_leafNode ∈ WG := List.mem_filter.mpr ⟨List.mem_append_left _ (by decide +kernel), rfl⟩
theorem ve_R_writeBlock : Cond.selects R_R y_R_writeBlock y_R_writeBlock ∈ WG := List.mem_filter.mpr ⟨List.mem_append_left _ (by decide +kernel), rfl⟩
theorem ve_R_placeOf : Cond.selects R_R y_R_placeOf y_R_placeOf ∈ WG := List.mem_filter.mpr ⟨List.mem_append_left _ (by decide +kernel), rfl⟩
theorem ve_R_freePlace : Cond.selects R_R y_R_freePlace y_R_freePlace ∈ WG := List.mem_filter.mpr ⟨List.mem_append_left _ (by decide +kernel), rfl⟩
theorem ve_R_know : Cond.selects R_R y_R_know y_R_know ∈ WG := List.mem_filter.mpr ⟨List.mem_append_left _ (by decide +kernel), rfl⟩
theorem ve_R_work : Cond.selects R_R y_R_work y_R_work ∈ WG := List.mem_filter.mpr ⟨List.mem_append_left _ (by decide +kernel), rfl⟩
theorem ve_R_clear : Cond.selects R_R y_R_clear y_R_clear ∈ WG := List.mem_filter.mpr ⟨List.mem_append_left _ (by decide +kernel), rfl⟩
theorem ve_R_counters : Cond.selects R_R y_R_counters y_R_counters ∈ WG := List.mem_filter.mpr ⟨List.mem_append_left _ (by decide +kernel), rfl⟩
theorem ve_R_lower : Cond.selects R_R y_R_lower y_R_lower ∈ WG := List.mem_filter.mpr ⟨List.mem_append_left _ (by decide +kernel), rfl⟩
theorem ve_R_take : Cond.selects R_R y_R_take y_R_take ∈ WG := List.mem_filter.mpr ⟨List.mem_append_left _ (by decide +kernel), rfl⟩
theorem ve_R_merge : Cond.selects R_R y_R_merge y_R_merge ∈ WG := List.mem_filter.mpr ⟨List.mem_append_left _ (by decide +kernel), rfl⟩
theorem ve_R_clearUsed : Cond.selects R_R y_R_clearUsed y_R_clearUsed ∈ WG := List.mem_filter.mpr ⟨List.mem_append_left _ (by decide +kernel), rfl⟩
theorem ve_R_greatestUnused : Cond.selects R_R y_R_greatestUnused y_R_greatestUnused ∈ WG := List.mem_filter.mpr ⟨List.mem_append_left _ (by decide +kernel), rfl⟩
theorem ve_R_compress : Cond.selects R_R y_R_compress y_R_compress ∈ WG := List.mem_filter.mpr ⟨List.mem_append_left _ (by decide +kernel), rfl⟩
theorem in_C {x : Cond} : ∀ w ∈ u_ws R_C F_C 2, w ∈ x :: WG := by
  have h : u_ws R_C F_C 2 = [.laysFinal "TelemetryTree$Counters" "TelemetryTree$Counters" "limit" "I", .laysFinal "TelemetryTree$Counters" "TelemetryTree$Counters" "counts" "[I"] := by decide +kernel
  rw [h]
  intro w hw
  refine wq ?_
  simp only [List.mem_cons, List.not_mem_nil, or_false] at hw
  rcases hw with rfl | rfl
  · exact wg1 (List.mem_of_getElem? (i := 48) rfl) rfl
  · exact wg1 (List.mem_of_getElem? (i := 50) rfl) rfl
theorem in_D {x : Cond} : ∀ w ∈ u_ws R_D F_D 2, w ∈ x :: WG := by
  have h : u_ws R_D F_D 2 = [.laysFinal "TelemetryTree$Digest" "TelemetryTree$Digest" "divisor" "I", .laysFinal "TelemetryTree$Digest" "TelemetryTree$Digest" "counts" "[I"] := by decide +kernel
  rw [h]
  intro w hw
  refine wq ?_
  simp only [List.mem_cons, List.not_mem_nil, or_false] at hw
  rcases hw with rfl | rfl
  · exact wg1 (List.mem_of_getElem? (i := 63) rfl) rfl
  · exact wg1 (List.mem_of_getElem? (i := 65) rfl) rfl
theorem in_M {x : Cond} : ∀ w ∈ u_ws R_M F_M 4, w ∈ x :: WG := by
  have h : u_ws R_M F_M 4 = [.lays "TelemetryTree$Message" "TelemetryTree$Message" "number" "I", .lays "TelemetryTree$Message" "TelemetryTree$Message" "sender" "I", .lays "TelemetryTree$Message" "TelemetryTree$Message" "version" "I", .laysFinal "TelemetryTree$Message" "TelemetryTree$Message" "summary" "LTelemetryTree$Summary;"] := by decide +kernel
  rw [h]
  intro w hw
  refine wq ?_
  simp only [List.mem_cons, List.not_mem_nil, or_false] at hw
  rcases hw with rfl | rfl | rfl | rfl
  · exact wg1 (List.mem_of_getElem? (i := 148) rfl) rfl
  · exact wg1 (List.mem_of_getElem? (i := 150) rfl) rfl
  · exact wg1 (List.mem_of_getElem? (i := 152) rfl) rfl
  · exact wg1 (List.mem_of_getElem? (i := 154) rfl) rfl
theorem in_N {x : Cond} : ∀ w ∈ u_ws R_N F_N 9, w ∈ x :: WG := by
  have h : u_ws R_N F_N 9 = [.laysFinal "TelemetryTree$Node" "TelemetryTree$Node" "number" "I", .lays "TelemetryTree$Node" "TelemetryTree$Node" "parent" "I", .lays "TelemetryTree$Node" "TelemetryTree$Node" "leaf" "Z", .laysFinal "TelemetryTree$Node" "TelemetryTree$Node" "open" "[I", .lays "TelemetryTree$Node" "TelemetryTree$Node" "openCount" "I", .lays "TelemetryTree$Node" "TelemetryTree$Node" "reports" "I", .laysFinal "TelemetryTree$Node" "TelemetryTree$Node" "summary" "LTelemetryTree$Summary;", .laysFinal "TelemetryTree$Node" "TelemetryTree$Node" "kept" "LTelemetryTree$Summary;", .lays "TelemetryTree$Node" "TelemetryTree$Node" "keptVersion" "I"] := by decide +kernel
  rw [h]
  intro w hw
  refine wq ?_
  simp only [List.mem_cons, List.not_mem_nil, or_false] at hw
  rcases hw with rfl | rfl | rfl | rfl | rfl | rfl | rfl | rfl | rfl
  · exact wg1 (List.mem_of_getElem? (i := 114) rfl) rfl
  · exact wg1 (List.mem_of_getElem? (i := 116) rfl) rfl
  · exact wg1 (List.mem_of_getElem? (i := 118) rfl) rfl
  · exact wg1 (List.mem_of_getElem? (i := 120) rfl) rfl
  · exact wg1 (List.mem_of_getElem? (i := 122) rfl) rfl
  · exact wg1 (List.mem_of_getElem? (i := 124) rfl) rfl
  · exact wg1 (List.mem_of_getElem? (i := 126) rfl) rfl
  · exact wg1 (List.mem_of_getElem? (i := 128) rfl) rfl
  · exact wg1 (List.mem_of_getElem? (i := 130) rfl) rfl
theorem in_S {x : Cond} : ∀ w ∈ u_ws R_S F_S 7, w ∈ x :: WG := by
  have h : u_ws R_S F_S 7 = [.lays "TelemetryTree$Summary" "TelemetryTree$Summary" "n" "I", .lays "TelemetryTree$Summary" "TelemetryTree$Summary" "itemSum" "J", .lays "TelemetryTree$Summary" "TelemetryTree$Summary" "least" "I", .lays "TelemetryTree$Summary" "TelemetryTree$Summary" "greatest" "I", .laysFinal "TelemetryTree$Summary" "TelemetryTree$Summary" "fromLeaf" "[I", .laysFinal "TelemetryTree$Summary" "TelemetryTree$Summary" "counters" "LTelemetryTree$Counters;", .laysFinal "TelemetryTree$Summary" "TelemetryTree$Summary" "digest" "LTelemetryTree$Digest;"] := by decide +kernel
  rw [h]
  intro w hw
  refine wq ?_
  simp only [List.mem_cons, List.not_mem_nil, or_false] at hw
  rcases hw with rfl | rfl | rfl | rfl | rfl | rfl | rfl
  · exact wg1 (List.mem_of_getElem? (i := 83) rfl) rfl
  · exact wg1 (List.mem_of_getElem? (i := 85) rfl) rfl
  · exact wg1 (List.mem_of_getElem? (i := 87) rfl) rfl
  · exact wg1 (List.mem_of_getElem? (i := 89) rfl) rfl
  · exact wg1 (List.mem_of_getElem? (i := 91) rfl) rfl
  · exact wg1 (List.mem_of_getElem? (i := 93) rfl) rfl
  · exact wg1 (List.mem_of_getElem? (i := 95) rfl) rfl
theorem in_T {x : Cond} : ∀ w ∈ u_ws R_T F_T 4, w ∈ x :: WG := by
  have h : u_ws R_T F_T 4 = [.laysFinal "TelemetryTree" "TelemetryTree" "nodes" "[LTelemetryTree$Node;", .lays "TelemetryTree" "TelemetryTree" "nodeCount" "I", .laysFinal "TelemetryTree" "TelemetryTree" "slots" "[LTelemetryTree$Message;", .lays "TelemetryTree" "TelemetryTree" "lastMessage" "I"] := by decide +kernel
  rw [h]
  intro w hw
  refine wq ?_
  simp only [List.mem_cons, List.not_mem_nil, or_false] at hw
  rcases hw with rfl | rfl | rfl | rfl
  · exact wg1 (List.mem_of_getElem? (i := 161) rfl) rfl
  · exact wg1 (List.mem_of_getElem? (i := 163) rfl) rfl
  · exact wg1 (List.mem_of_getElem? (i := 165) rfl) rfl
  · exact wg1 (List.mem_of_getElem? (i := 167) rfl) rfl
theorem in_R {x : Cond} : ∀ w ∈ u_ws R_R F_R 22, w ∈ x :: WG := by
  have h : u_ws R_R F_R 22 = [.lays "TelemetryTreeModel" "TelemetryTreeModel" "k" "I", .lays "TelemetryTreeModel" "TelemetryTreeModel" "d" "I", .lays "TelemetryTreeModel" "TelemetryTreeModel" "nodes" "I", .lays "TelemetryTreeModel" "TelemetryTreeModel" "up" "[I", .lays "TelemetryTreeModel" "TelemetryTreeModel" "isLeaf" "[Z", .lays "TelemetryTreeModel" "TelemetryTreeModel" "reports" "[I", .lays "TelemetryTreeModel" "TelemetryTreeModel" "journal" "[I", .lays "TelemetryTreeModel" "TelemetryTreeModel" "written" "[I", .lays "TelemetryTreeModel" "TelemetryTreeModel" "open" "[I", .lays "TelemetryTreeModel" "TelemetryTreeModel" "opened" "[I", .lays "TelemetryTreeModel" "TelemetryTreeModel" "keptVersion" "[I", .lays "TelemetryTreeModel" "TelemetryTreeModel" "kept" "[I", .lays "TelemetryTreeModel" "TelemetryTreeModel" "messages" "I", .lays "TelemetryTreeModel" "TelemetryTreeModel" "number" "[I", .lays "TelemetryTreeModel" "TelemetryTreeModel" "sender" "[I", .lays "TelemetryTreeModel" "TelemetryTreeModel" "version" "[I", .lays "TelemetryTreeModel" "TelemetryTreeModel" "carried" "[I", .lays "TelemetryTreeModel" "TelemetryTreeModel" "known" "[I", .lays "TelemetryTreeModel" "TelemetryTreeModel" "n" "[I", .lays "TelemetryTreeModel" "TelemetryTreeModel" "counter" "[I", .lays "TelemetryTreeModel" "TelemetryTreeModel" "digest" "[I", .lays "TelemetryTreeModel" "TelemetryTreeModel" "used" "[Z"] := by decide +kernel
  rw [h]
  intro w hw
  refine wq ?_
  simp only [List.mem_cons, List.not_mem_nil, or_false] at hw
  rcases hw with rfl | rfl | rfl | rfl | rfl | rfl | rfl | rfl | rfl | rfl | rfl | rfl | rfl | rfl | rfl | rfl | rfl | rfl | rfl | rfl | rfl | rfl
  · exact wg2 (List.mem_of_getElem? (i := 178) rfl) rfl
  · exact wg2 (List.mem_of_getElem? (i := 180) rfl) rfl
  · exact wg2 (List.mem_of_getElem? (i := 182) rfl) rfl
  · exact wg2 (List.mem_of_getElem? (i := 184) rfl) rfl
  · exact wg2 (List.mem_of_getElem? (i := 186) rfl) rfl
  · exact wg2 (List.mem_of_getElem? (i := 188) rfl) rfl
  · exact wg2 (List.mem_of_getElem? (i := 190) rfl) rfl
  · exact wg2 (List.mem_of_getElem? (i := 192) rfl) rfl
  · exact wg2 (List.mem_of_getElem? (i := 194) rfl) rfl
  · exact wg2 (List.mem_of_getElem? (i := 196) rfl) rfl
  · exact wg2 (List.mem_of_getElem? (i := 198) rfl) rfl
  · exact wg2 (List.mem_of_getElem? (i := 200) rfl) rfl
  · exact wg2 (List.mem_of_getElem? (i := 202) rfl) rfl
  · exact wg2 (List.mem_of_getElem? (i := 204) rfl) rfl
  · exact wg2 (List.mem_of_getElem? (i := 206) rfl) rfl
  · exact wg2 (List.mem_of_getElem? (i := 208) rfl) rfl
  · exact wg2 (List.mem_of_getElem? (i := 210) rfl) rfl
  · exact wg2 (List.mem_of_getElem? (i := 212) rfl) rfl
  · exact wg2 (List.mem_of_getElem? (i := 214) rfl) rfl
  · exact wg2 (List.mem_of_getElem? (i := 216) rfl) rfl
  · exact wg2 (List.mem_of_getElem? (i := 218) rfl) rfl
  · exact wg2 (List.mem_of_getElem? (i := 220) rfl) rfl
/-- the words that are carried by themselves: calls of a nest mate, arrays of references -/
def zN (s : State) : Prop := va_Nw (.methodLinkNest R_S 45 y_T_clear "TelemetryTree") s ∧ va_Nw (.methodLinkNest R_S 66 y_T_addTo "TelemetryTree") s ∧ va_Nw (.methodLinkNest R_C 27 y_T_addTo "TelemetryTree") s ∧ va_Nw (.methodLinkNest R_D 23 y_T_addTo "TelemetryTree") s ∧ va_Nw (.methodLinkNest R_S 53 y_T_overwrite "TelemetryTree") s ∧ va_AO R_N s ∧ va_AO R_M s
theorem zN.moved {s U : State} (hW : s.WarmedH U.vm) (h : zN s) : zN U := by
  obtain ⟨h0, h1, h2, h3, h4, h5, h6⟩ := h
  exact ⟨va_Nw.warmM hW h0, va_Nw.warmM hW h1, va_Nw.warmM hW h2, va_Nw.warmM hW h3, va_Nw.warmM hW h4, va_AO.moved hW.alike h5, va_AO.moved hW.alike h6⟩
theorem zN.blind {U : State} {g : JFrame} {mk : MethodId} {a : Array Value} (h : zN U) : zN (U.calling g mk a) := by
  obtain ⟨h0, h1, h2, h3, h4, h5, h6⟩ := h
  exact ⟨va_Nw.same rfl rfl h0, va_Nw.same rfl rfl h1, va_Nw.same rfl rfl h2, va_Nw.same rfl rfl h3, va_Nw.same rfl rfl h4, va_AO.moved (u := U) (U := U.calling g mk a) (Vm.Alike.refl U.vm) h5, va_AO.moved (u := U) (U := U.calling g mk a) (Vm.Alike.refl U.vm) h6⟩
theorem zn_S_45 {s : State} (h : zN s) : va_Nw (.methodLinkNest R_S 45 y_T_clear "TelemetryTree") s := h.1
theorem zn_S_66 {s : State} (h : zN s) : va_Nw (.methodLinkNest R_S 66 y_T_addTo "TelemetryTree") s := h.2.1
theorem zn_C_27 {s : State} (h : zN s) : va_Nw (.methodLinkNest R_C 27 y_T_addTo "TelemetryTree") s := h.2.2.1
theorem zn_D_23 {s : State} (h : zN s) : va_Nw (.methodLinkNest R_D 23 y_T_addTo "TelemetryTree") s := h.2.2.2.1
theorem zn_S_53 {s : State} (h : zN s) : va_Nw (.methodLinkNest R_S 53 y_T_overwrite "TelemetryTree") s := h.2.2.2.2.1
theorem zn_N {s : State} (h : zN s) : va_AO R_N s := h.2.2.2.2.2.1
theorem zn_M {s : State} (h : zN s) : va_AO R_M s := h.2.2.2.2.2.2
/-- what a method asks of the tables: its own code, and all the rest -/
abbrev wy (y : MethodName) (code : ByteArray) (n : Nat) (ret : Option FieldType) : List Cond := Cond.code y code n ret :: WG
def rm (d mc ms : Nat) : Room := { frames := d, cells := mc, slots := ms, locals := 40 * d }
theorem wg_good {w : Cond} (h : w ∈ WG) : (w.onTables && w.keeps) = true ∨ ∃ ty, w = .arrayClass ty := good_of_word (List.mem_filter.mp h).2
theorem gi_wy {x : Cond} {y : MethodName} {code : ByteArray} {n : Nat} {ret : Option FieldType} (h : Cond.code y code n ret ∈ WG) : GoodIn (x :: WG) (wy y code n ret) := fun w hw => by
  rcases List.mem_cons.mp hw with rfl | hw
  · exact ⟨wq h, wg_good h⟩
  · exact ⟨wq hw, wg_good hw⟩
theorem gi_V {x : Cond} {own C : String} {idx : Nat} {y : MethodName} {code : ByteArray} {n : Nat} {ret : Option FieldType} (h1 : Cond.methodLink own idx y ∈ WG) (h2 : Cond.instanceMethod y ∈ WG) (h3 : Cond.selects C y y ∈ WG) (h4 : Cond.initialized C ∈ WG) (h : Cond.code y code n ret ∈ WG) : GoodIn (x :: WG) (wsV own idx C y (wy y code n ret)) := fun w hw => by
  unfold wsV at hw
  rcases List.mem_append.mp hw with hw | hw
  · have hm : w ∈ WG := by
      simp only [List.mem_cons, List.not_mem_nil, or_false] at hw
      rcases hw with rfl | rfl | rfl | rfl
      · exact h1
      · exact h2
      · exact h3
      · exact h4
    exact ⟨wq hm, wg_good hm⟩
  · exact gi_wy h w hw
theorem gi_S {x : Cond} {own : String} {idx : Nat} {y : MethodName} {code : ByteArray} {n : Nat} {ret : Option FieldType} (h1 : Cond.methodLink own idx y ∈ WG) (h2 : Cond.static y ∈ WG) (h4 : Cond.initialized own ∈ WG) (h : Cond.code y code n ret ∈ WG) : GoodIn (x :: WG) (wsS own idx y (wy y code n ret)) := fun w hw => by
  unfold wsS at hw
  rcases List.mem_append.mp hw with hw | hw
  · have hm : w ∈ WG := by
      simp only [List.mem_cons, List.not_mem_nil, or_false] at hw
      rcases hw with rfl | rfl | rfl
      · exact h1
      · exact h2
      · exact h4
    exact ⟨wq hm, wg_good hm⟩
  · exact gi_wy h w hw
end
section
/-! The judgement Z: the world is a function k of addresses (the cells b .. b + N - 1), the locals are a list; one row an instruction. -/
def zl (b N : Nat) (k : Nat → va_E) : va_W := (List.range N).map (fun i => (b + i, k (b + i)))
theorem zl_at {b N q : Nat} {k : Nat → va_E} {x : va_E} (h1 : b ≤ q) (h2 : q < b + N) (he : k q = x) : (zl b N k)[q - b]? = some (q, x) := by
  unfold zl
  have h3 : q - b < N := by omega
  have h4 : b + (q - b) = q := by omega
  rw [List.getElem?_map, List.getElem?_range h3]
  simp [h4, he]
theorem zl_of {b N i : Nat} {k : Nat → va_E} {q : Nat × va_E} (h : (zl b N k)[i]? = some q) : i < N ∧ q = (b + i, k (b + i)) := by
  unfold zl at h
  rw [List.getElem?_map] at h
  by_cases hi : i < N
  · rw [List.getElem?_range hi] at h
    exact ⟨hi, (Option.some.inj h).symm⟩
  · rw [List.getElem?_eq_none (by simp; omega)] at h
    cases h
theorem zl_D {b N : Nat} {k : Nat → va_E} : va_D (fun q => b ≤ q) (zl b N k) := by
  refine ⟨fun i j x y hi hj hxy => ?_, fun i q h => ?_⟩
  · obtain ⟨-, rfl⟩ := zl_of hi
    obtain ⟨-, rfl⟩ := zl_of hj
    dsimp only at hxy
    omega
  · obtain ⟨-, rfl⟩ := zl_of h
    show b ≤ b + i
    omega
theorem zl_P {D : va_G} {cl : List vw_C} {b N : Nat} {k : Nat → va_E} {H : Heap} : va_P D cl (zl b N k) H ↔ ∀ q, b ≤ q → q < b + N → va_at D cl (q, k q) H := by
  refine ⟨fun h q h1 h2 => h (q - b) _ (zl_at h1 h2 rfl), fun h i q hi => ?_⟩
  obtain ⟨h1, rfl⟩ := zl_of hi
  exact h (b + i) (by omega) (by omega)
theorem zl_set {b N q : Nat} {k : Nat → va_E} {x : va_E} (h1 : b ≤ q) (h2 : q < b + N) : (zl b N k).set (q - b) (q, x) = zl b N (va_up k q x) := by
  apply List.ext_getElem?
  intro i
  by_cases hi : i < N
  · have hr : (zl b N (va_up k q x))[i]? = some (b + i, va_up k q x (b + i)) := by
      have := zl_at (b := b) (N := N) (q := b + i) (k := va_up k q x) (by omega) (by omega) rfl
      rwa [Nat.add_sub_cancel_left] at this
    have hl : (zl b N k)[i]? = some (b + i, k (b + i)) := by
      have := zl_at (b := b) (N := N) (q := b + i) (k := k) (by omega) (by omega) rfl
      rwa [Nat.add_sub_cancel_left] at this
    rw [hr]
    by_cases hq : i = q - b
    · subst hq
      have h3 : b + (q - b) = q := by omega
      rw [List.getElem?_set_self (by unfold zl; simp; omega)]
      simp [va_up, h3]
    · rw [List.getElem?_set_ne (Ne.symm hq), hl]
      have h3 : ¬ b + i = q := by omega
      simp [va_up, h3]
  · rw [List.getElem?_eq_none (by unfold zl; simp; omega), List.getElem?_eq_none (by unfold zl; simp; omega)]
theorem zl_push {b N : Nat} {k : Nat → va_E} {x : va_E} : zl b N k ++ [(b + N, x)] = zl b (N + 1) (va_up k (b + N) x) := by
  unfold zl
  rw [List.range_succ, List.map_append]
  congr 1
  · apply List.map_congr_left
    intro i hi
    have h1 := List.mem_range.mp hi
    have h3 : ¬ i = N := by omega
    simp [va_up, h3]
  · simp [va_up]
theorem zl_congr {b N : Nat} {k k' : Nat → va_E} (h : ∀ q, b ≤ q → q < b + N → k q = k' q) : zl b N k = zl b N k' := by
  unfold zl
  apply List.map_congr_left
  intro i hi
  have h1 := List.mem_range.mp hi
  rw [h (b + i) (by omega) (by omega)]
theorem up_eq {α : Type} {f : Nat → α} {q : Nat} {x : α} : va_up f q x q = x := by simp [va_up]
theorem up_ne {α : Type} {f : Nat → α} {q r : Nat} {x : α} (h : r ≠ q) : va_up f q x r = f r := by simp [va_up, h]
/-- the locals, by their places -/
def zp : Nat → List (Option Value) → List (Nat × Value)
  | _, [] => []
  | i, none :: t => zp (i + 1) t
  | i, some v :: t => (i, v) :: zp (i + 1) t
theorem zp_mem {v : Value} : ∀ (lv : List (Option Value)) (j i : Nat), lv[i]? = some (some v) → (j + i, v) ∈ zp j lv
  | [], j, i, h => by simp at h
  | x :: t, j, 0, h => by
    rw [List.getElem?_cons_zero] at h
    cases h
    simp [zp]
  | x :: t, j, i + 1, h => by
    rw [List.getElem?_cons_succ] at h
    have h1 := zp_mem t (j + 1) i h
    rw [show j + 1 + i = j + (i + 1) by omega] at h1
    cases x with
    | none => exact h1
    | some w => exact List.mem_cons_of_mem _ h1
theorem zp_of {q : Nat × Value} : ∀ (lv : List (Option Value)) (j : Nat), q ∈ zp j lv → j ≤ q.1 ∧ lv[q.1 - j]? = some (some q.2)
  | [], j, h => by simp [zp] at h
  | none :: t, j, h => by
    obtain ⟨h1, h2⟩ := zp_of t (j + 1) h
    refine ⟨by omega, ?_⟩
    rw [show q.1 - j = (q.1 - (j + 1)) + 1 by omega, List.getElem?_cons_succ]
    exact h2
  | some w :: t, j, h => by
    rcases List.mem_cons.mp h with h | h
    · subst h
      simp
    · obtain ⟨h1, h2⟩ := zp_of t (j + 1) h
      refine ⟨by omega, ?_⟩
      rw [show q.1 - j = (q.1 - (j + 1)) + 1 by omega, List.getElem?_cons_succ]
      exact h2
def zk (ls : Array Slot) (nL : Nat) (lv : List (Option Value)) : Prop := lv_has ls nL (zp 0 lv)
theorem zk.at {ls : Array Slot} {nL : Nat} {lv : List (Option Value)} {i : Nat} {v : Value} (h : zk ls nL lv) (hl : lv[i]? = some (some v)) : ls[i]? = some (.val v) := by
  have h1 := h.2.2 _ (zp_mem lv 0 i hl)
  simpa using h1
/-- the place before isn't the first half of a long -/
def zfr (lv : List (Option Value)) : Nat → Bool
  | 0 => true
  | i + 1 => match lv[i]? with
    | some (some v) => v.category == 1
    | _ => true
theorem zp_set {lv : List (Option Value)} {i : Nat} {v : Value} (hf : zfr lv i = true) : ∀ q ∈ zp 0 (lv.set i (some v)), q ∈ (i, v) :: (zp 0 lv).filter (fun q => !(q.1 == i) && !(q.1 + 1 == i && q.2.category == 2)) := by
  intro q hq
  obtain ⟨-, h1⟩ := zp_of _ 0 hq
  rw [Nat.sub_zero] at h1
  by_cases hi : q.1 = i
  · subst hi
    have hl : q.1 < lv.length := by
      have := (List.getElem?_eq_some_iff.mp h1).1
      simpa using this
    rw [List.getElem?_set_self hl] at h1
    have h2 : q.2 = v := (Option.some.inj (Option.some.inj h1)).symm
    exact List.mem_cons.mpr (Or.inl (by rw [← h2]))
  · rw [List.getElem?_set_ne (Ne.symm hi)] at h1
    refine List.mem_cons_of_mem _ (List.mem_filter.mpr ⟨?_, ?_⟩)
    · have := zp_mem lv 0 q.1 h1
      simpa using this
    · have h3 : (q.1 == i) = false := by simpa using hi
      rw [h3]
      by_cases h4 : q.1 + 1 = i
      · subst h4
        simp only [zfr, h1] at hf
        have h5 : q.2.category = 1 := by simpa using hf
        simp [h5]
      · have h6 : (q.1 + 1 == i) = false := by simpa using h4
        simp [h6]
theorem zp_set2 {lv : List (Option Value)} {i : Nat} {v : Value} (hf : zfr lv i = true) : ∀ q ∈ zp 0 ((lv.set i (some v)).set (i + 1) none), q ∈ (i, v) :: (zp 0 lv).filter (fun q => !(q.1 == i) && (!(q.1 == i + 1) && !(q.1 + 1 == i && q.2.category == 2))) := by
  intro q hq
  obtain ⟨-, h1⟩ := zp_of _ 0 hq
  rw [Nat.sub_zero] at h1
  have hn : ¬ q.1 = i + 1 := by
    intro hc
    rw [hc] at h1
    have hl : i + 1 < (lv.set i (some v)).length := by
      have := (List.getElem?_eq_some_iff.mp h1).1
      simpa using this
    rw [List.getElem?_set_self hl] at h1
    cases h1
  rw [List.getElem?_set_ne (Ne.symm hn)] at h1
  have hq2 : q ∈ zp 0 (lv.set i (some v)) := by
    have := zp_mem (lv.set i (some v)) 0 q.1 h1
    simpa using this
  rcases List.mem_cons.mp (zp_set hf q hq2) with h | h
  · exact List.mem_cons.mpr (Or.inl h)
  · obtain ⟨h2, h3⟩ := List.mem_filter.mp h
    refine List.mem_cons_of_mem _ (List.mem_filter.mpr ⟨h2, ?_⟩)
    have h4 : (q.1 == i + 1) = false := by simpa using hn
    rw [h4]
    simpa using h3
theorem zk.sub {ls : Array Slot} {nL : Nat} {l : List (Nat × Value)} {lv : List (Option Value)} (h : lv_has ls nL l) (hs : ∀ q ∈ zp 0 lv, q ∈ l) : zk ls nL lv := ⟨h.1, h.2.1, fun q hq => h.2.2 q (hs q hq)⟩
/-- one of the list is forgotten -/
theorem zk.less {ls : Array Slot} {nL : Nat} {lv lv' : List (Option Value)} (h : zk ls nL lv) (hs : ∀ (i : Nat) (v : Value), lv'[i]? = some (some v) → lv[i]? = some (some v)) : zk ls nL lv' := by
  refine ⟨h.1, h.2.1, fun q hq => ?_⟩
  obtain ⟨-, h1⟩ := zp_of _ 0 hq
  rw [Nat.sub_zero] at h1
  exact h.at (hs _ _ h1)
def zA (b : Nat) : Nat → Prop := fun q => b ≤ q
def Z (p : Program) (l : Launch) (e : Env) (R : Room) (s : State) (m : MethodId) (args : Array Value) (below : List Frame) (meth : Method) (c : Code) (nL : Nat) (D : va_G) (b N : Nat) (k : Nat → va_E) (cells slots : Nat) (Q : State → Prop) (pc : Nat) (lv : List (Option Value)) (st : List Value) : Prop :=
  ∀ (H : Heap) (locs : List Loc) (ls : Array Slot), H.size = b + N → va_P D classes (zl b N k) H → va_S (zA b) s.heap H locs → zk ls nL lv → W p l e R s m args below meth c H locs cells slots Q (F0 m pc ls st)
def zX (p : Program) (s : State) (m : MethodId) (args : Array Value) (meth : Method) (c : Code) (cc : ByteArray) (nL : Nat) (own : String) (ret : Option FieldType) (Ts : List Cond) (D : va_G) (tys : List (ClassId × FieldType)) (b : Nat) : Prop :=
  CallFix p m c cc nL s args Ts own ∧ va_K D classes tys s ∧ meth.sig.returnType = ret ∧ meth.locks = false ∧ b ≤ s.heap.size ∧ zN s
/-- counting up: the end, and a step back -/
theorem z_up {P : Nat → Prop} (e : Nat) (hx : P e) (hs : ∀ i, i < e → P (i + 1) → P i) : ∀ i, i ≤ e → P i := by
  intro i hi
  generalize hn : e - i = n
  induction n generalizing i with
  | zero => rw [show i = e by omega]; exact hx
  | succ n ih => exact hs i (by omega) (ih (i + 1) (by omega) (by omega))
/-- counting down -/
theorem z_dn {P : Nat → Prop} (hx : P 0) (hs : ∀ i, P i → P (i + 1)) : ∀ i, P i := by
  intro i
  induction i with
  | zero => exact hx
  | succ i ih => exact hs i ih
section ZR
variable {p : Program} {l : Launch} {e : Env} {R : Room} {s : State} {m : MethodId} {args : Array Value} {below : List Frame} {meth : Method} {c : Code} {cells slots : Nat} {Q : State → Prop}
variable {cc : ByteArray} {nL : Nat} {own : String} {ret : Option FieldType} {Ts : List Cond} {D : va_G} {tys : List (ClassId × FieldType)} {b N : Nat} {k : Nat → va_E} {pc : Nat} {lv : List (Option Value)} {st : List Value}
theorem z_iconst (X : zX p s m args meth c cc nL own ret Ts D tys b) {n : Int} {v : Int32} (d : decode cc pc = .ok (.iconst n, 1)) (hv : Int32.ofInt n = v) (kk : Z p l e R s m args below meth c nL D b N k cells slots Q (pc + 1) lv (.int v :: st)) : Z p l e R s m args below meth c nL D b N k cells slots Q pc lv st :=
  fun H locs ls h1 h2 h3 h4 => lv_iconst X.1.1 X.1.2.1 d hv (kk H locs ls h1 h2 h3 h4)
theorem z_bipush (X : zX p s m args meth c cc nL own ret Ts D tys b) {n : Int} {v : Int32} (d : decode cc pc = .ok (.bipush n, 2)) (hv : (Int8.ofInt n).toInt32 = v) (kk : Z p l e R s m args below meth c nL D b N k cells slots Q (pc + 2) lv (.int v :: st)) : Z p l e R s m args below meth c nL D b N k cells slots Q pc lv st :=
  fun H locs ls h1 h2 h3 h4 => lv_bipush X.1.1 X.1.2.1 d hv (kk H locs ls h1 h2 h3 h4)
theorem z_sipush (X : zX p s m args meth c cc nL own ret Ts D tys b) {n : Int} {v : Int32} (d : decode cc pc = .ok (.sipush n, 3)) (hv : (Int16.ofInt n).toInt32 = v) (kk : Z p l e R s m args below meth c nL D b N k cells slots Q (pc + 3) lv (.int v :: st)) : Z p l e R s m args below meth c nL D b N k cells slots Q pc lv st :=
  fun H locs ls h1 h2 h3 h4 => lv_sipush X.1.1 X.1.2.1 d hv (kk H locs ls h1 h2 h3 h4)
theorem z_lconst (X : zX p s m args meth c cc nL own ret Ts D tys b) {n : Fin 2} {v : Int64} (d : decode cc pc = .ok (.lconst n, 1)) (hv : Int64.ofNat (n : Nat) = v) (kk : Z p l e R s m args below meth c nL D b N k cells slots Q (pc + 1) lv (.long v :: st)) : Z p l e R s m args below meth c nL D b N k cells slots Q pc lv st :=
  fun H locs ls h1 h2 h3 h4 => lv_lconst X.1.1 X.1.2.1 d hv (kk H locs ls h1 h2 h3 h4)
theorem z_ldc2 (X : zX p s m args meth c cc nL own ret Ts D tys b) {index : Nat} {v : Int64} (d : decode cc pc = .ok (.ldc2_w index, 3)) (hw : Cond.constantLong own index v ∈ Ts) (kk : Z p l e R s m args below meth c nL D b N k cells slots Q (pc + 3) lv (.long v :: st)) : Z p l e R s m args below meth c nL D b N k cells slots Q pc lv st :=
  fun H locs ls h1 h2 h3 h4 => lv_ldc2 X.1.1 X.1.2.1 X.1.2.2.2.1 (X.1.2.2.2.2 _ hw) d (kk H locs ls h1 h2 h3 h4)
theorem z_iload_n (X : zX p s m args meth c cc nL own ret Ts D tys b) {j : Fin 4} {x : Int32} (d : decode cc pc = .ok (.iload_n j, 1)) (hl : lv[(j : Nat)]? = some (some (.int x))) (kk : Z p l e R s m args below meth c nL D b N k cells slots Q (pc + 1) lv (.int x :: st)) : Z p l e R s m args below meth c nL D b N k cells slots Q pc lv st :=
  fun H locs ls h1 h2 h3 h4 => lv_iload_n X.1.1 X.1.2.1 d rfl (h4.at hl) (kk H locs ls h1 h2 h3 h4)
theorem z_iload (X : zX p s m args meth c cc nL own ret Ts D tys b) {i : Nat} {x : Int32} (d : decode cc pc = .ok (.iload i, 2)) (hl : lv[i]? = some (some (.int x))) (kk : Z p l e R s m args below meth c nL D b N k cells slots Q (pc + 2) lv (.int x :: st)) : Z p l e R s m args below meth c nL D b N k cells slots Q pc lv st :=
  fun H locs ls h1 h2 h3 h4 => lv_iload X.1.1 X.1.2.1 d (h4.at hl) (kk H locs ls h1 h2 h3 h4)
theorem z_lload_n (X : zX p s m args meth c cc nL own ret Ts D tys b) {j : Fin 4} {x : Int64} (d : decode cc pc = .ok (.lload_n j, 1)) (hl : lv[(j : Nat)]? = some (some (.long x))) (kk : Z p l e R s m args below meth c nL D b N k cells slots Q (pc + 1) lv (.long x :: st)) : Z p l e R s m args below meth c nL D b N k cells slots Q pc lv st :=
  fun H locs ls h1 h2 h3 h4 => lv_lload_n X.1.1 X.1.2.1 d rfl (h4.at hl) (kk H locs ls h1 h2 h3 h4)
theorem z_lload (X : zX p s m args meth c cc nL own ret Ts D tys b) {i : Nat} {x : Int64} (d : decode cc pc = .ok (.lload i, 2)) (hl : lv[i]? = some (some (.long x))) (kk : Z p l e R s m args below meth c nL D b N k cells slots Q (pc + 2) lv (.long x :: st)) : Z p l e R s m args below meth c nL D b N k cells slots Q pc lv st :=
  fun H locs ls h1 h2 h3 h4 => lv_lload X.1.1 X.1.2.1 d (h4.at hl) (kk H locs ls h1 h2 h3 h4)
theorem z_aload_n (X : zX p s m args meth c cc nL own ret Ts D tys b) {j : Fin 4} {x : Nat} (d : decode cc pc = .ok (.aload_n j, 1)) (hl : lv[(j : Nat)]? = some (some (.ref x))) (kk : Z p l e R s m args below meth c nL D b N k cells slots Q (pc + 1) lv (.ref x :: st)) : Z p l e R s m args below meth c nL D b N k cells slots Q pc lv st :=
  fun H locs ls h1 h2 h3 h4 => lv_aload_n X.1.1 X.1.2.1 d rfl (h4.at hl) (kk H locs ls h1 h2 h3 h4)
theorem z_aload (X : zX p s m args meth c cc nL own ret Ts D tys b) {i : Nat} {x : Nat} (d : decode cc pc = .ok (.aload i, 2)) (hl : lv[i]? = some (some (.ref x))) (kk : Z p l e R s m args below meth c nL D b N k cells slots Q (pc + 2) lv (.ref x :: st)) : Z p l e R s m args below meth c nL D b N k cells slots Q pc lv st :=
  fun H locs ls h1 h2 h3 h4 => lv_aload X.1.1 X.1.2.1 d (h4.at hl) (kk H locs ls h1 h2 h3 h4)
theorem z_istore_n (X : zX p s m args meth c cc nL own ret Ts D tys b) {j : Fin 4} {x : Int32} (d : decode cc pc = .ok (.istore_n j, 1)) (hn : (j : Nat) < nL) (hf : zfr lv (j : Nat) = true) (kk : Z p l e R s m args below meth c nL D b N k cells slots Q (pc + 1) (lv.set (j : Nat) (some (.int x))) st) : Z p l e R s m args below meth c nL D b N k cells slots Q pc lv (.int x :: st) :=
  fun H locs ls h1 h2 h3 h4 => lv_istore_n X.1.1 X.1.2.1 d rfl h4 hn rfl (fun ls9 h9 => kk H locs ls9 h1 h2 h3 (zk.sub h9 (zp_set hf)))
theorem z_istore (X : zX p s m args meth c cc nL own ret Ts D tys b) {i : Nat} {x : Int32} (d : decode cc pc = .ok (.istore i, 2)) (hn : i < nL) (hf : zfr lv i = true) (kk : Z p l e R s m args below meth c nL D b N k cells slots Q (pc + 2) (lv.set i (some (.int x))) st) : Z p l e R s m args below meth c nL D b N k cells slots Q pc lv (.int x :: st) :=
  fun H locs ls h1 h2 h3 h4 => lv_istore X.1.1 X.1.2.1 d h4 hn rfl (fun ls9 h9 => kk H locs ls9 h1 h2 h3 (zk.sub h9 (zp_set hf)))
theorem z_astore_n (X : zX p s m args meth c cc nL own ret Ts D tys b) {j : Fin 4} {x : Nat} (d : decode cc pc = .ok (.astore_n j, 1)) (hn : (j : Nat) < nL) (hf : zfr lv (j : Nat) = true) (kk : Z p l e R s m args below meth c nL D b N k cells slots Q (pc + 1) (lv.set (j : Nat) (some (.ref x))) st) : Z p l e R s m args below meth c nL D b N k cells slots Q pc lv (.ref x :: st) :=
  fun H locs ls h1 h2 h3 h4 => lv_astore_n X.1.1 X.1.2.1 d rfl h4 hn rfl (fun ls9 h9 => kk H locs ls9 h1 h2 h3 (zk.sub h9 (zp_set hf)))
theorem z_astore (X : zX p s m args meth c cc nL own ret Ts D tys b) {i : Nat} {x : Nat} (d : decode cc pc = .ok (.astore i, 2)) (hn : i < nL) (hf : zfr lv i = true) (kk : Z p l e R s m args below meth c nL D b N k cells slots Q (pc + 2) (lv.set i (some (.ref x))) st) : Z p l e R s m args below meth c nL D b N k cells slots Q pc lv (.ref x :: st) :=
  fun H locs ls h1 h2 h3 h4 => lv_astore X.1.1 X.1.2.1 d h4 hn rfl (fun ls9 h9 => kk H locs ls9 h1 h2 h3 (zk.sub h9 (zp_set hf)))
theorem z_lstore_n (X : zX p s m args meth c cc nL own ret Ts D tys b) {j : Fin 4} {x : Int64} (d : decode cc pc = .ok (.lstore_n j, 1)) (hn : (j : Nat) + 1 < nL) (hf : zfr lv (j : Nat) = true) (kk : Z p l e R s m args below meth c nL D b N k cells slots Q (pc + 1) ((lv.set (j : Nat) (some (.long x))).set ((j : Nat) + 1) none) st) : Z p l e R s m args below meth c nL D b N k cells slots Q pc lv (.long x :: st) :=
  fun H locs ls h1 h2 h3 h4 => lv_lstore_n X.1.1 X.1.2.1 d rfl h4 hn rfl (fun ls9 h9 => kk H locs ls9 h1 h2 h3 (zk.sub h9 (zp_set2 hf)))
theorem z_lstore (X : zX p s m args meth c cc nL own ret Ts D tys b) {i : Nat} {x : Int64} (d : decode cc pc = .ok (.lstore i, 2)) (hn : i + 1 < nL) (hf : zfr lv i = true) (kk : Z p l e R s m args below meth c nL D b N k cells slots Q (pc + 2) ((lv.set i (some (.long x))).set (i + 1) none) st) : Z p l e R s m args below meth c nL D b N k cells slots Q pc lv (.long x :: st) :=
  fun H locs ls h1 h2 h3 h4 => lv_lstore X.1.1 X.1.2.1 d h4 hn rfl (fun ls9 h9 => kk H locs ls9 h1 h2 h3 (zk.sub h9 (zp_set2 hf)))
theorem z_iinc (X : zX p s m args meth c cc nL own ret Ts D tys b) {i : Nat} {n : Int} {x v : Int32} (d : decode cc pc = .ok (.iinc i n, 3)) (hl : lv[i]? = some (some (.int x))) (hv : x + Int32.ofInt n = v) (hn : i < nL) (hf : zfr lv i = true) (kk : Z p l e R s m args below meth c nL D b N k cells slots Q (pc + 3) (lv.set i (some (.int v))) st) : Z p l e R s m args below meth c nL D b N k cells slots Q pc lv st := by
  intro H locs ls h1 h2 h3 h4
  obtain ⟨j, hj⟩ := List.getElem?_of_mem (zp_mem lv 0 i hl)
  rw [Nat.zero_add] at hj
  exact lv_iinc X.1.1 X.1.2.1 d h4 hj hv hn rfl (fun ls9 h9 => kk H locs ls9 h1 h2 h3 (zk.sub h9 (zp_set hf)))
theorem z_iadd (X : zX p s m args meth c cc nL own ret Ts D tys b) {x y : Int32} (d : decode cc pc = .ok (.iadd, 1)) (kk : Z p l e R s m args below meth c nL D b N k cells slots Q (pc + 1) lv (.int (x + y) :: st)) : Z p l e R s m args below meth c nL D b N k cells slots Q pc lv (.int y :: .int x :: st) :=
  fun H locs ls h1 h2 h3 h4 => lv_iadd X.1.1 X.1.2.1 d (kk H locs ls h1 h2 h3 h4)
theorem z_isub (X : zX p s m args meth c cc nL own ret Ts D tys b) {x y : Int32} (d : decode cc pc = .ok (.isub, 1)) (kk : Z p l e R s m args below meth c nL D b N k cells slots Q (pc + 1) lv (.int (x - y) :: st)) : Z p l e R s m args below meth c nL D b N k cells slots Q pc lv (.int y :: .int x :: st) :=
  fun H locs ls h1 h2 h3 h4 => lv_isub X.1.1 X.1.2.1 d (kk H locs ls h1 h2 h3 h4)
theorem z_imul (X : zX p s m args meth c cc nL own ret Ts D tys b) {x y : Int32} (d : decode cc pc = .ok (.imul, 1)) (kk : Z p l e R s m args below meth c nL D b N k cells slots Q (pc + 1) lv (.int (x * y) :: st)) : Z p l e R s m args below meth c nL D b N k cells slots Q pc lv (.int y :: .int x :: st) :=
  fun H locs ls h1 h2 h3 h4 => lv_imul X.1.1 X.1.2.1 d (kk H locs ls h1 h2 h3 h4)
theorem z_iand (X : zX p s m args meth c cc nL own ret Ts D tys b) {x y : Int32} (d : decode cc pc = .ok (.iand, 1)) (kk : Z p l e R s m args below meth c nL D b N k cells slots Q (pc + 1) lv (.int (x &&& y) :: st)) : Z p l e R s m args below meth c nL D b N k cells slots Q pc lv (.int y :: .int x :: st) :=
  fun H locs ls h1 h2 h3 h4 => lv_iand X.1.1 X.1.2.1 d (kk H locs ls h1 h2 h3 h4)
theorem z_ladd (X : zX p s m args meth c cc nL own ret Ts D tys b) {x y : Int64} (d : decode cc pc = .ok (.ladd, 1)) (kk : Z p l e R s m args below meth c nL D b N k cells slots Q (pc + 1) lv (.long (x + y) :: st)) : Z p l e R s m args below meth c nL D b N k cells slots Q pc lv (.long y :: .long x :: st) :=
  fun H locs ls h1 h2 h3 h4 => lv_ladd X.1.1 X.1.2.1 d (kk H locs ls h1 h2 h3 h4)
theorem z_idiv (X : zX p s m args meth c cc nL own ret Ts D tys b) {x y : Int32} (d : decode cc pc = .ok (.idiv, 1)) (hne : ¬ y = 0) (kk : Z p l e R s m args below meth c nL D b N k cells slots Q (pc + 1) lv (.int (x / y) :: st)) : Z p l e R s m args below meth c nL D b N k cells slots Q pc lv (.int y :: .int x :: st) :=
  fun H locs ls h1 h2 h3 h4 => lv_idiv X.1.1 X.1.2.1 d hne (kk H locs ls h1 h2 h3 h4)
theorem z_irem (X : zX p s m args meth c cc nL own ret Ts D tys b) {x y : Int32} (d : decode cc pc = .ok (.irem, 1)) (hne : ¬ y = 0) (kk : Z p l e R s m args below meth c nL D b N k cells slots Q (pc + 1) lv (.int (x - x / y * y) :: st)) : Z p l e R s m args below meth c nL D b N k cells slots Q pc lv (.int y :: .int x :: st) :=
  fun H locs ls h1 h2 h3 h4 => lv_irem X.1.1 X.1.2.1 d hne (kk H locs ls h1 h2 h3 h4)
theorem z_i2l (X : zX p s m args meth c cc nL own ret Ts D tys b) {x : Int32} (d : decode cc pc = .ok (.i2l, 1)) (kk : Z p l e R s m args below meth c nL D b N k cells slots Q (pc + 1) lv (.long x.toInt64 :: st)) : Z p l e R s m args below meth c nL D b N k cells slots Q pc lv (.int x :: st) :=
  fun H locs ls h1 h2 h3 h4 => lv_i2l X.1.1 X.1.2.1 d rfl (kk H locs ls h1 h2 h3 h4)
theorem z_lcmp (X : zX p s m args meth c cc nL own ret Ts D tys b) {x y : Int64} (d : decode cc pc = .ok (.lcmp, 1)) (kk : Z p l e R s m args below meth c nL D b N k cells slots Q (pc + 1) lv (.int (lg_cmp x y) :: st)) : Z p l e R s m args below meth c nL D b N k cells slots Q pc lv (.long y :: .long x :: st) :=
  fun H locs ls h1 h2 h3 h4 => W.lcmp X.1.1 X.1.2.1 d (kk H locs ls h1 h2 h3 h4)
theorem z_dup (X : zX p s m args meth c cc nL own ret Ts D tys b) {v : Value} (d : decode cc pc = .ok (.dup, 1)) (hc : v.category = 1) (kk : Z p l e R s m args below meth c nL D b N k cells slots Q (pc + 1) lv (v :: v :: st)) : Z p l e R s m args below meth c nL D b N k cells slots Q pc lv (v :: st) :=
  fun H locs ls h1 h2 h3 h4 => lv_dup X.1.1 X.1.2.1 d hc (kk H locs ls h1 h2 h3 h4)
theorem z_pop (X : zX p s m args meth c cc nL own ret Ts D tys b) {v : Value} (d : decode cc pc = .ok (.pop, 1)) (hc : v.category = 1) (kk : Z p l e R s m args below meth c nL D b N k cells slots Q (pc + 1) lv st) : Z p l e R s m args below meth c nL D b N k cells slots Q pc lv (v :: st) :=
  fun H locs ls h1 h2 h3 h4 => lv_pop X.1.1 X.1.2.1 d hc (kk H locs ls h1 h2 h3 h4)
theorem z_dup2 (X : zX p s m args meth c cc nL own ret Ts D tys b) {v w : Value} (d : decode cc pc = .ok (.dup2, 1)) (hc : v.category = 1) (hw : w.category = 1) (kk : Z p l e R s m args below meth c nL D b N k cells slots Q (pc + 1) lv (v :: w :: v :: w :: st)) : Z p l e R s m args below meth c nL D b N k cells slots Q pc lv (v :: w :: st) :=
  fun H locs ls h1 h2 h3 h4 => lv_dup2_11 X.1.1 X.1.2.1 d hc hw (kk H locs ls h1 h2 h3 h4)
theorem z_dup_x1 (X : zX p s m args meth c cc nL own ret Ts D tys b) {v w : Value} (d : decode cc pc = .ok (.dup_x1, 1)) (hc : v.category = 1) (hw : w.category = 1) (kk : Z p l e R s m args below meth c nL D b N k cells slots Q (pc + 1) lv (v :: w :: v :: st)) : Z p l e R s m args below meth c nL D b N k cells slots Q pc lv (v :: w :: st) :=
  fun H locs ls h1 h2 h3 h4 => lv_dup_x1 X.1.1 X.1.2.1 d hc hw (kk H locs ls h1 h2 h3 h4)
theorem z_goto (X : zX p s m args meth c cc nL own ret Ts D tys b) {off : Int} {tgt : Nat} (d : decode cc pc = .ok (.goto off, 3)) (ht : (pc : Int) + off = (tgt : Int)) (kk : Z p l e R s m args below meth c nL D b N k cells slots Q tgt lv st) : Z p l e R s m args below meth c nL D b N k cells slots Q pc lv st :=
  fun H locs ls h1 h2 h3 h4 => lv_goto X.1.1 X.1.2.1 d ht (kk H locs ls h1 h2 h3 h4)
theorem z_if_eq (X : zX p s m args meth c cc nL own ret Ts D tys b) {x : Int32} {off : Int} {tgt : Nat} (d : decode cc pc = .ok (.ifCond .eq off, 3)) (ht : (pc : Int) + off = (tgt : Int)) (kt : x = 0 → Z p l e R s m args below meth c nL D b N k cells slots Q tgt lv st) (kf : ¬ (x = 0) → Z p l e R s m args below meth c nL D b N k cells slots Q (pc + 3) lv st) : Z p l e R s m args below meth c nL D b N k cells slots Q pc lv (.int x :: st) :=
  fun H locs ls h1 h2 h3 h4 => lv_if_eq X.1.1 X.1.2.1 d ht (fun q => kt q H locs ls h1 h2 h3 h4) (fun q => kf q H locs ls h1 h2 h3 h4)
theorem z_icmp_eq (X : zX p s m args meth c cc nL own ret Ts D tys b) {x y : Int32} {off : Int} {tgt : Nat} (d : decode cc pc = .ok (.if_icmp .eq off, 3)) (ht : (pc : Int) + off = (tgt : Int)) (kt : x = y → Z p l e R s m args below meth c nL D b N k cells slots Q tgt lv st) (kf : ¬ (x = y) → Z p l e R s m args below meth c nL D b N k cells slots Q (pc + 3) lv st) : Z p l e R s m args below meth c nL D b N k cells slots Q pc lv (.int y :: .int x :: st) :=
  fun H locs ls h1 h2 h3 h4 => lv_icmp_eq X.1.1 X.1.2.1 d ht (fun q => kt q H locs ls h1 h2 h3 h4) (fun q => kf q H locs ls h1 h2 h3 h4)
theorem z_if_ne (X : zX p s m args meth c cc nL own ret Ts D tys b) {x : Int32} {off : Int} {tgt : Nat} (d : decode cc pc = .ok (.ifCond .ne off, 3)) (ht : (pc : Int) + off = (tgt : Int)) (kt : ¬ x = 0 → Z p l e R s m args below meth c nL D b N k cells slots Q tgt lv st) (kf : x = 0 → Z p l e R s m args below meth c nL D b N k cells slots Q (pc + 3) lv st) : Z p l e R s m args below meth c nL D b N k cells slots Q pc lv (.int x :: st) :=
  fun H locs ls h1 h2 h3 h4 => lv_if_ne X.1.1 X.1.2.1 d ht (fun q => kt q H locs ls h1 h2 h3 h4) (fun q => kf q H locs ls h1 h2 h3 h4)
theorem z_icmp_ne (X : zX p s m args meth c cc nL own ret Ts D tys b) {x y : Int32} {off : Int} {tgt : Nat} (d : decode cc pc = .ok (.if_icmp .ne off, 3)) (ht : (pc : Int) + off = (tgt : Int)) (kt : ¬ x = y → Z p l e R s m args below meth c nL D b N k cells slots Q tgt lv st) (kf : x = y → Z p l e R s m args below meth c nL D b N k cells slots Q (pc + 3) lv st) : Z p l e R s m args below meth c nL D b N k cells slots Q pc lv (.int y :: .int x :: st) :=
  fun H locs ls h1 h2 h3 h4 => lv_icmp_ne X.1.1 X.1.2.1 d ht (fun q => kt q H locs ls h1 h2 h3 h4) (fun q => kf q H locs ls h1 h2 h3 h4)
theorem z_if_lt (X : zX p s m args meth c cc nL own ret Ts D tys b) {x : Int32} {off : Int} {tgt : Nat} (d : decode cc pc = .ok (.ifCond .lt off, 3)) (ht : (pc : Int) + off = (tgt : Int)) (kt : x < 0 → Z p l e R s m args below meth c nL D b N k cells slots Q tgt lv st) (kf : ¬ (x < 0) → Z p l e R s m args below meth c nL D b N k cells slots Q (pc + 3) lv st) : Z p l e R s m args below meth c nL D b N k cells slots Q pc lv (.int x :: st) :=
  fun H locs ls h1 h2 h3 h4 => lv_if_lt X.1.1 X.1.2.1 d ht (fun q => kt q H locs ls h1 h2 h3 h4) (fun q => kf q H locs ls h1 h2 h3 h4)
theorem z_icmp_lt (X : zX p s m args meth c cc nL own ret Ts D tys b) {x y : Int32} {off : Int} {tgt : Nat} (d : decode cc pc = .ok (.if_icmp .lt off, 3)) (ht : (pc : Int) + off = (tgt : Int)) (kt : x < y → Z p l e R s m args below meth c nL D b N k cells slots Q tgt lv st) (kf : ¬ (x < y) → Z p l e R s m args below meth c nL D b N k cells slots Q (pc + 3) lv st) : Z p l e R s m args below meth c nL D b N k cells slots Q pc lv (.int y :: .int x :: st) :=
  fun H locs ls h1 h2 h3 h4 => lv_icmp_lt X.1.1 X.1.2.1 d ht (fun q => kt q H locs ls h1 h2 h3 h4) (fun q => kf q H locs ls h1 h2 h3 h4)
theorem z_if_ge (X : zX p s m args meth c cc nL own ret Ts D tys b) {x : Int32} {off : Int} {tgt : Nat} (d : decode cc pc = .ok (.ifCond .ge off, 3)) (ht : (pc : Int) + off = (tgt : Int)) (kt : 0 ≤ x → Z p l e R s m args below meth c nL D b N k cells slots Q tgt lv st) (kf : ¬ (0 ≤ x) → Z p l e R s m args below meth c nL D b N k cells slots Q (pc + 3) lv st) : Z p l e R s m args below meth c nL D b N k cells slots Q pc lv (.int x :: st) :=
  fun H locs ls h1 h2 h3 h4 => lv_if_ge X.1.1 X.1.2.1 d ht (fun q => kt q H locs ls h1 h2 h3 h4) (fun q => kf q H locs ls h1 h2 h3 h4)
theorem z_icmp_ge (X : zX p s m args meth c cc nL own ret Ts D tys b) {x y : Int32} {off : Int} {tgt : Nat} (d : decode cc pc = .ok (.if_icmp .ge off, 3)) (ht : (pc : Int) + off = (tgt : Int)) (kt : y ≤ x → Z p l e R s m args below meth c nL D b N k cells slots Q tgt lv st) (kf : ¬ (y ≤ x) → Z p l e R s m args below meth c nL D b N k cells slots Q (pc + 3) lv st) : Z p l e R s m args below meth c nL D b N k cells slots Q pc lv (.int y :: .int x :: st) :=
  fun H locs ls h1 h2 h3 h4 => lv_icmp_ge X.1.1 X.1.2.1 d ht (fun q => kt q H locs ls h1 h2 h3 h4) (fun q => kf q H locs ls h1 h2 h3 h4)
theorem z_if_gt (X : zX p s m args meth c cc nL own ret Ts D tys b) {x : Int32} {off : Int} {tgt : Nat} (d : decode cc pc = .ok (.ifCond .gt off, 3)) (ht : (pc : Int) + off = (tgt : Int)) (kt : 0 < x → Z p l e R s m args below meth c nL D b N k cells slots Q tgt lv st) (kf : ¬ (0 < x) → Z p l e R s m args below meth c nL D b N k cells slots Q (pc + 3) lv st) : Z p l e R s m args below meth c nL D b N k cells slots Q pc lv (.int x :: st) :=
  fun H locs ls h1 h2 h3 h4 => lv_if_gt X.1.1 X.1.2.1 d ht (fun q => kt q H locs ls h1 h2 h3 h4) (fun q => kf q H locs ls h1 h2 h3 h4)
theorem z_icmp_gt (X : zX p s m args meth c cc nL own ret Ts D tys b) {x y : Int32} {off : Int} {tgt : Nat} (d : decode cc pc = .ok (.if_icmp .gt off, 3)) (ht : (pc : Int) + off = (tgt : Int)) (kt : y < x → Z p l e R s m args below meth c nL D b N k cells slots Q tgt lv st) (kf : ¬ (y < x) → Z p l e R s m args below meth c nL D b N k cells slots Q (pc + 3) lv st) : Z p l e R s m args below meth c nL D b N k cells slots Q pc lv (.int y :: .int x :: st) :=
  fun H locs ls h1 h2 h3 h4 => lv_icmp_gt X.1.1 X.1.2.1 d ht (fun q => kt q H locs ls h1 h2 h3 h4) (fun q => kf q H locs ls h1 h2 h3 h4)
theorem z_if_le (X : zX p s m args meth c cc nL own ret Ts D tys b) {x : Int32} {off : Int} {tgt : Nat} (d : decode cc pc = .ok (.ifCond .le off, 3)) (ht : (pc : Int) + off = (tgt : Int)) (kt : x ≤ 0 → Z p l e R s m args below meth c nL D b N k cells slots Q tgt lv st) (kf : ¬ (x ≤ 0) → Z p l e R s m args below meth c nL D b N k cells slots Q (pc + 3) lv st) : Z p l e R s m args below meth c nL D b N k cells slots Q pc lv (.int x :: st) :=
  fun H locs ls h1 h2 h3 h4 => lv_if_le X.1.1 X.1.2.1 d ht (fun q => kt q H locs ls h1 h2 h3 h4) (fun q => kf q H locs ls h1 h2 h3 h4)
theorem z_icmp_le (X : zX p s m args meth c cc nL own ret Ts D tys b) {x y : Int32} {off : Int} {tgt : Nat} (d : decode cc pc = .ok (.if_icmp .le off, 3)) (ht : (pc : Int) + off = (tgt : Int)) (kt : x ≤ y → Z p l e R s m args below meth c nL D b N k cells slots Q tgt lv st) (kf : ¬ (x ≤ y) → Z p l e R s m args below meth c nL D b N k cells slots Q (pc + 3) lv st) : Z p l e R s m args below meth c nL D b N k cells slots Q pc lv (.int y :: .int x :: st) :=
  fun H locs ls h1 h2 h3 h4 => lv_icmp_le X.1.1 X.1.2.1 d ht (fun q => kt q H locs ls h1 h2 h3 h4) (fun q => kf q H locs ls h1 h2 h3 h4)
theorem z_top {x y : Value} (h : x = y) (kk : Z p l e R s m args below meth c nL D b N k cells slots Q pc lv (y :: st)) : Z p l e R s m args below meth c nL D b N k cells slots Q pc lv (x :: st) := by subst h; exact kk
theorem z_k {k2 : Nat → va_E} (h : ∀ q, b ≤ q → q < b + N → k q = k2 q) (kk : Z p l e R s m args below meth c nL D b N k2 cells slots Q pc lv st) : Z p l e R s m args below meth c nL D b N k cells slots Q pc lv st := by
  intro H locs ls h1 h2 h3 h4
  rw [zl_congr h] at h2
  exact kk H locs ls h1 h2 h3 h4
theorem z_lv {lv2 : List (Option Value)} (h : ∀ (i : Nat) (v : Value), lv2[i]? = some (some v) → lv[i]? = some (some v)) (kk : Z p l e R s m args below meth c nL D b N k cells slots Q pc lv2 st) : Z p l e R s m args below meth c nL D b N k cells slots Q pc lv st :=
  fun H locs ls h1 h2 h3 h4 => kk H locs ls h1 h2 h3 (h4.less h)
/-- a cell of the world -/
def zc (b N : Nat) (k : Nat → va_E) (a : Nat) (x : va_E) : Prop := b ≤ a ∧ a < b + N ∧ k a = x
theorem zc.up {b N : Nat} {k : Nat → va_E} {a : Nat} {x y : va_E} (h : zc b N k a x) : zc b N (va_up k a y) a y := ⟨h.1, h.2.1, up_eq⟩
theorem zc.ne {b N : Nat} {k : Nat → va_E} {a q : Nat} {x y : va_E} (h : zc b N k a x) (hne : a ≠ q) : zc b N (va_up k q y) a x := ⟨h.1, h.2.1, (up_ne hne).trans h.2.2⟩
theorem zc.to {b N : Nat} {k k2 : Nat → va_E} {a : Nat} {x : va_E} (h : zc b N k a x) (he : k2 a = k a) : zc b N k2 a x := ⟨h.1, h.2.1, he.trans h.2.2⟩
theorem zc.more {b N N2 : Nat} {k : Nat → va_E} {a : Nat} {x : va_E} (h : zc b N k a x) (hN : N ≤ N2) : zc b N2 k a x := ⟨h.1, by have := h.2.1; omega, h.2.2⟩
theorem zc.at {b N : Nat} {k : Nat → va_E} {a : Nat} {x : va_E} (h : zc b N k a x) : (zl b N k)[a - b]? = some (a, x) := zl_at h.1 h.2.1 h.2.2
theorem zc.set {b N : Nat} {k : Nat → va_E} {a : Nat} {x y : va_E} (h : zc b N k a x) : (zl b N k).set (a - b) (a, y) = zl b N (va_up k a y) := zl_set h.1 h.2.1
theorem z_get (X : zX p s m args meth c cc nL own ret Ts D tys b) {C : String} {T : u_T} {n ci index a : Nat} {fs : List Value} (hk : zc b N k a (.inr (ci, fs))) (hc : classes[ci]? = some (C, T, n)) (hin : ∀ w ∈ u_ws C T n, w ∈ Ts) (j : Nat) (hj : j < n) (hl : Cond.fieldLink own index (T j).1 (T j).2.1 (T j).2.2.1 ∈ Ts) {v : Value} (hv : fs[j]? = some v) (d : decode cc pc = .ok (.getfield index, 3)) (kk : Z p l e R s m args below meth c nL D b N k cells slots Q (pc + 3) lv (v :: st)) : Z p l e R s m args below meth c nL D b N k cells slots Q pc lv (.ref a :: st) :=
  fun H locs ls h1 h2 h3 h4 => va_get X.1.1 X.1.2.1 X.1.2.2.2.2 hin X.1.2.2.2.1 X.2.1 h2 (a - b) hk.at hc j hj (X.1.2.2.2.2 _ hl) (fun _ q => q) hv d (kk H locs ls h1 h2 h3 h4)
theorem z_put (X : zX p s m args meth c cc nL own ret Ts D tys b) {C : String} {T : u_T} {n ci index a : Nat} {fs : List Value} (hk : zc b N k a (.inr (ci, fs))) (hc : classes[ci]? = some (C, T, n)) (hin : ∀ w ∈ u_ws C T n, w ∈ Ts) {ty0 : Nat → FieldType} (hty : ∀ j, j < n → parseFieldDescriptor (T j).2.2.1 = some (ty0 j)) (hnm : ∀ i, i < n → ∀ j, j < n → i ≠ j → (T i).2.1 ≠ (T j).2.1) (j : Nat) (hj : j < n) (hl : Cond.fieldLink own index (T j).1 (T j).2.1 (T j).2.2.1 ∈ Ts) (hfin : (T j).2.2.2 = false) {v : Value} (hn : narrow (ty0 j) v = v) (hfit : fits (ty0 j) v = true) (hlen : j < fs.length) (d : decode cc pc = .ok (.putfield index, 3)) (kk : Z p l e R s m args below meth c nL D b N (va_up k a (.inr (ci, fs.set j v))) cells slots Q (pc + 3) lv st) : Z p l e R s m args below meth c nL D b N k cells slots Q pc lv (v :: .ref a :: st) := by
  intro H locs ls h1 h2 h3 h4
  have hap := va_apart (own := own) X.1.2.2.2.2 hin ty0 hty hnm X.2.1 hc
  have he := hk.at
  obtain ⟨r, g1, cell, q1, q2, q3, q4⟩ := h2 (a - b) _ he
  have hr : r = (C, T, n) := Option.some.inj (g1.symm.trans hc)
  subst hr
  obtain ⟨hS, hfc, kC, hkC, hkind⟩ := X.2.1.1 ci _ hc
  obtain ⟨cf, kf, fi, f, hi, hsl⟩ := hS j hj
  have hlay := X.1.2.2.2.2 _ (hin _ (u_in_lay hj))
  unfold u_lay at hlay
  rw [if_neg (by rw [hfin]; decide)] at hlay
  have hst := (u_facts hfc hkC (u_lays X.1.2.2.2.2 hin hj) hi).1
  have h6 := u_store hfc hkC hkind hlay hi (hty j hj) hn hfit
  refine W.putK X.1.1 X.1.2.1 (f := f) ⟨X.1.2.2.2.1, X.1.2.2.2.2 _ hl, ⟨_, _, _, hi⟩, hst⟩ (by rw [q2]; exact h6) q1 q3 (by rw [hsl]; exact k2_hasslot (q4 j hj)) rfl rfl d fun H' e1 e2 e3 => ?_
  rw [hsl] at e1 ⊢
  exact kk H' _ ls (e2.trans h1) (by rw [← hk.set]; exact h2.set zl_D he ⟨_, hc, t_OB.to (V := updV (vp_V fs) j v) ⟨_, e1, q2, q3, t_set q4 hap hj v⟩ (fun i _ => vp_updV_set hlen v i)⟩ e3) (h3.put e2 e3 hk.1) h4
theorem z_putF (X : zX p s m args meth c cc nL own ret Ts D tys b) {C : String} {T : u_T} {n ci index a : Nat} {fs : List Value} (hk : zc b N k a (.inr (ci, fs))) (hc : classes[ci]? = some (C, T, n)) (hin : ∀ w ∈ u_ws C T n, w ∈ Ts) {ty0 : Nat → FieldType} (hty : ∀ j, j < n → parseFieldDescriptor (T j).2.2.1 = some (ty0 j)) (hnm : ∀ i, i < n → ∀ j, j < n → i ≠ j → (T i).2.1 ≠ (T j).2.1) (j : Nat) (hj : j < n) (hl : Cond.fieldLink own index (T j).1 (T j).2.1 (T j).2.2.1 ∈ Ts) (hfin : (T j).2.2.2 = true) (hin2 : meth.name = "<init>") (hdecl : (T j).1 = own) {v : Value} (hn : narrow (ty0 j) v = v) (hfit : fits (ty0 j) v = true) (hlen : j < fs.length) (d : decode cc pc = .ok (.putfield index, 3)) (kk : Z p l e R s m args below meth c nL D b N (va_up k a (.inr (ci, fs.set j v))) cells slots Q (pc + 3) lv st) : Z p l e R s m args below meth c nL D b N k cells slots Q pc lv (v :: .ref a :: st) := by
  intro H locs ls h1 h2 h3 h4
  have hap := va_apart (own := own) X.1.2.2.2.2 hin ty0 hty hnm X.2.1 hc
  have he := hk.at
  obtain ⟨r, g1, cell, q1, q2, q3, q4⟩ := h2 (a - b) _ he
  have hr : r = (C, T, n) := Option.some.inj (g1.symm.trans hc)
  subst hr
  obtain ⟨hS, hfc, kC, hkC, hkind⟩ := X.2.1.1 ci _ hc
  obtain ⟨cf, kf, fi, f, hi, hsl⟩ := hS j hj
  have hlay := X.1.2.2.2.2 _ (hin _ (u_in_lay hj))
  unfold u_lay at hlay
  rw [if_pos hfin] at hlay
  have hst := (u_facts hfc hkC (u_lays X.1.2.2.2.2 hin hj) hi).1
  have hcf : m.cls = cf := by
    obtain ⟨_, _, c', _, _, _, -, -, hf', -, -, -, hown2, -⟩ := Cond.laysFinal_spec hlay
    have e1 : c' = cf := by have := hi.symm.trans hf'; simp at this; exact this.1.symm
    rw [hdecl] at hown2
    rw [← e1]; exact Option.some.inj (X.1.2.2.2.1.symm.trans hown2)
  have h6 := u_fits hfc hkC hkind (Or.inr hlay) hi (hty j hj) hn hfit
  refine W.putFinK X.1.1 X.1.2.1 X.1.2.2.2.1 (X.1.2.2.2.2 _ hl) hi hst hcf hin2 (by rw [q2]; exact h6) q1 q3 (by rw [hsl]; exact k2_hasslot (q4 j hj)) rfl rfl d fun H' e1 e2 e3 => ?_
  rw [hsl] at e1 ⊢
  exact kk H' _ ls (e2.trans h1) (by rw [← hk.set]; exact h2.set zl_D he ⟨_, hc, t_OB.to (V := updV (vp_V fs) j v) ⟨_, e1, q2, q3, t_set q4 hap hj v⟩ (fun i _ => vp_updV_set hlen v i)⟩ e3) (h3.put e2 e3 hk.1) h4
theorem z_iald (X : zX p s m args meth c cc nL own ret Ts D tys b) {a n : Nat} {cA : ClassId} {f : Nat → Int32} (hk : zc b N k a (.inl (cA, n, .inl f))) (t0 : Nat) (ht : tys[t0]? = some (cA, .int)) {i : Int32} {j : Nat} (hi : i = nI j) (hj : j < n) (hn : n < 2 ^ 31) (d : decode cc pc = .ok (.iaload, 1)) (kk : Z p l e R s m args below meth c nL D b N k cells slots Q (pc + 1) lv (.int (f j) :: st)) : Z p l e R s m args below meth c nL D b N k cells slots Q pc lv (.int i :: .ref a :: st) := by
  intro H locs ls h1 h2 h3 h4
  subst hi
  refine va_iald X.1.1 X.1.2.1 X.2.1 h2 (a - b) t0 hk.at ht (vp_in_nI hj hn) d ?_
  rw [nI_clamp (by omega)]
  exact kk H locs ls h1 h2 h3 h4
theorem z_zald (X : zX p s m args meth c cc nL own ret Ts D tys b) {a n : Nat} {cA : ClassId} {f : Nat → Int32} (hk : zc b N k a (.inl (cA, n, .inl f))) (t0 : Nat) (ht : tys[t0]? = some (cA, .boolean)) {i : Int32} {j : Nat} (hi : i = nI j) (hj : j < n) (hn : n < 2 ^ 31) (d : decode cc pc = .ok (.baload, 1)) (kk : Z p l e R s m args below meth c nL D b N k cells slots Q (pc + 1) lv (.int (f j) :: st)) : Z p l e R s m args below meth c nL D b N k cells slots Q pc lv (.int i :: .ref a :: st) := by
  intro H locs ls h1 h2 h3 h4
  subst hi
  refine va_zald X.1.1 X.1.2.1 X.2.1 h2 (a - b) t0 hk.at ht (vp_in_nI hj hn) d ?_
  rw [nI_clamp (by omega)]
  exact kk H locs ls h1 h2 h3 h4
theorem z_aald (X : zX p s m args meth c cc nL own ret Ts D tys b) {a n : Nat} {cA : ClassId} {C : String} {f : Nat → Option Nat} (hk : zc b N k a (.inl (cA, n, .inr (.inr (.inr (.inr f)))))) (t0 : Nat) (ht : tys[t0]? = some (cA, .object C)) {i : Int32} {j v : Nat} (hi : i = nI j) (hj : j < n) (hn : n < 2 ^ 31) (hv : f j = some v) (d : decode cc pc = .ok (.aaload, 1)) (kk : Z p l e R s m args below meth c nL D b N k cells slots Q (pc + 1) lv (.ref v :: st)) : Z p l e R s m args below meth c nL D b N k cells slots Q pc lv (.int i :: .ref a :: st) := by
  intro H locs ls h1 h2 h3 h4
  subst hi
  refine va_aldq X.1.1 X.1.2.1 X.2.1 h2 (a - b) t0 hk.at ht (vp_in_nI hj hn) d ?_
  rw [nI_clamp (by omega), hv]
  exact kk H locs ls h1 h2 h3 h4
theorem z_iast (X : zX p s m args meth c cc nL own ret Ts D tys b) {a n : Nat} {cA : ClassId} {f : Nat → Int32} (hk : zc b N k a (.inl (cA, n, .inl f))) (t0 : Nat) (ht : tys[t0]? = some (cA, .int)) {i x : Int32} {j : Nat} (hi : i = nI j) (hj : j < n) (hn : n < 2 ^ 31) (d : decode cc pc = .ok (.iastore, 1)) (kk : Z p l e R s m args below meth c nL D b N (va_up k a (.inl (cA, n, .inl (upd f j x)))) cells slots Q (pc + 1) lv st) : Z p l e R s m args below meth c nL D b N k cells slots Q pc lv (.int x :: .int i :: .ref a :: st) := by
  intro H locs ls h1 h2 h3 h4
  have hin : vp_in i n := by rw [hi]; exact vp_in_nI hj hn
  have hcl : i.toNatClampNeg = j := by rw [hi]; exact nI_clamp (by omega)
  refine W.iast X.1.1 X.1.2.1 (h2 (a - b) _ hk.at) ((X.2.1.2 t0 _ ht).1 n (fun j => .int (f j))) (fun q => by cases q) (by show ¬ (i < 0 ∨ (arrV _ _ _).slots.size ≤ _); rw [arrV_size]; exact hin) rfl rfl d fun H1 e1 z oq => ?_
  refine kk H1 _ ls (z.trans h1) ?_ (h3.put z oq hk.1) h4
  rw [← hk.set]
  refine h2.set zl_D hk.at ?_ oq
  show H1[a]? = some (vp_cell _ _)
  rw [e1, hcl, vp_cell_i, vp_cell_i, arrV_store]
  congr 2
  funext q
  by_cases hq : q = j
  · subst hq
    simp [updV, upd, vp_nar]
    try rfl
  · simp [updV, upd, hq]
theorem z_zast (X : zX p s m args meth c cc nL own ret Ts D tys b) {a n : Nat} {cA : ClassId} {f : Nat → Int32} (hk : zc b N k a (.inl (cA, n, .inl f))) (t0 : Nat) (ht : tys[t0]? = some (cA, .boolean)) {i x : Int32} {j : Nat} (hi : i = nI j) (hj : j < n) (hn : n < 2 ^ 31) (d : decode cc pc = .ok (.bastore, 1)) (kk : Z p l e R s m args below meth c nL D b N (va_up k a (.inl (cA, n, .inl (upd f j (vp_nar .boolean x))))) cells slots Q (pc + 1) lv st) : Z p l e R s m args below meth c nL D b N k cells slots Q pc lv (.int x :: .int i :: .ref a :: st) := by
  intro H locs ls h1 h2 h3 h4
  have hin : vp_in i n := by rw [hi]; exact vp_in_nI hj hn
  have hcl : i.toNatClampNeg = j := by rw [hi]; exact nI_clamp (by omega)
  refine W.zast X.1.1 X.1.2.1 (h2 (a - b) _ hk.at) ((X.2.1.2 t0 _ ht).1 n (fun j => .int (f j))) (fun q => by cases q) (by show ¬ (i < 0 ∨ (arrV _ _ _).slots.size ≤ _); rw [arrV_size]; exact hin) rfl rfl d fun H1 e1 z oq => ?_
  refine kk H1 _ ls (z.trans h1) ?_ (h3.put z oq hk.1) h4
  rw [← hk.set]
  refine h2.set zl_D hk.at ?_ oq
  show H1[a]? = some (vp_cell _ _)
  rw [e1, hcl, vp_cell_i, vp_cell_i, arrV_store]
  congr 2
  funext q
  by_cases hq : q = j
  · subst hq
    simp [updV, upd, vp_nar]
    try rfl
  · simp [updV, upd, hq]
theorem z_aast (X : zX p s m args meth c cc nL own ret Ts D tys b) {a n : Nat} {cA : ClassId} {f : Nat → Option Nat} {r : vw_C} {v ci : Nat} {vs : List Value} (hk : zc b N k a (.inl (cA, n, .inr (.inr (.inr (.inr f)))))) (t0 : Nat) (ht : tys[t0]? = some (cA, .object r.1)) (hv : zc b N k v (.inr (ci, vs))) (hc : classes[ci]? = some r) {i : Int32} {j : Nat} (hi : i = nI j) (hj : j < n) (hn : n < 2 ^ 31) (d : decode cc pc = .ok (.aastore, 1)) (kk : Z p l e R s m args below meth c nL D b N (va_up k a (.inl (cA, n, .inr (.inr (.inr (.inr (va_up f j (some v)))))))) cells slots Q (pc + 1) lv st) : Z p l e R s m args below meth c nL D b N k cells slots Q pc lv (.ref v :: .int i :: .ref a :: st) := by
  intro H locs ls h1 h2 h3 h4
  have hin : vp_in i n := by rw [hi]; exact vp_in_nI hj hn
  have hcl : i.toNatClampNeg = j := by rw [hi]; exact nI_clamp (by omega)
  have h0 : ¬ i < 0 := fun q => hin (Or.inl q)
  have hlt : i.toNatClampNeg < n := by omega
  obtain ⟨r', hr', cellV, g1, g2, g3, -⟩ := h2 (v - b) _ hv.at
  have hcls := (X.2.1.1 ci r hc).2
  obtain ⟨kA, comp, k1, k2, k3, -⟩ := (X.2.1.2 t0 _ ht).2
  have hcomp : comp = D.1 ci := Option.some.inj (k3.symm.trans hcls.1)
  subst hcomp
  obtain ⟨kC, hkC, -⟩ := hcls.2
  refine W.aast X.1.1 X.1.2.1 (h2 (a - b) _ hk.at) (fun q h => by cases h) (fun h => by cases h) k1 k2 rfl hkC ⟨h0, by show _ < (arrV _ _ _).slots.size; rw [arrV_size]; exact hlt⟩ g1 (fun q h => by rw [g3] at h; cases h) (by rw [g2]; exact hkC) (by rw [g2]; exact va_assign hcls) rfl rfl d fun H1 e1 z oq => ?_
  refine kk H1 _ ls (z.trans h1) ?_ (h3.put z oq hk.1) h4
  rw [← hk.set]
  refine h2.set zl_D hk.at ?_ oq
  show H1[a]? = some (vp_cell _ _)
  rw [e1, hcl, vp_cell_q, vp_cell_q, arrV_store]
  congr 2
  funext q
  by_cases hq : q = j
  · subst hq
    simp [updV, va_up, va_rf]
  · simp [updV, va_up, hq]
theorem z_alen (X : zX p s m args meth c cc nL own ret Ts D tys b) {a : Nat} {cA : ClassId} {x : vp_A} (hk : zc b N k a (.inl (cA, x))) (t0 : Nat) {ty : FieldType} (ht : tys[t0]? = some (cA, ty)) (d : decode cc pc = .ok (.arraylength, 1)) (kk : Z p l e R s m args below meth c nL D b N k cells slots Q (pc + 1) lv (.int (nI x.1) :: st)) : Z p l e R s m args below meth c nL D b N k cells slots Q pc lv (.ref a :: st) :=
  fun H locs ls h1 h2 h3 h4 => va_alen X.1.1 X.1.2.1 X.2.1 h2 (a - b) t0 hk.at ht rfl d (kk H locs ls h1 h2 h3 h4)
theorem zl_grow {D : va_G} {b N : Nat} {k : Nat → va_E} {H H1 : Heap} {x : va_E} (h1 : H.size = b + N) (h2 : va_P D classes (zl b N k) H) (o1 : ∀ q, q < H.size → H1[q]? = H[q]?) (hx : va_at D classes (b + N, x) H1) : va_P D classes (zl b (N + 1) (va_up k (b + N) x)) H1 := by
  rw [← zl_push]
  refine va_P.app (h2.kept fun i q hq => o1 q.1 ((h2 i q hq).lt)) (fun i q hq => ?_)
  have hz : i < 1 := (List.getElem?_eq_some_iff.mp hq).1
  rw [show i = 0 by omega] at hq
  cases hq
  exact hx
theorem zS_grow {b : Nat} {H0 H H1 : Heap} {locs : List Loc} (h3 : va_S (zA b) H0 H locs) (z1 : H1.size = H.size + 1) (o1 : ∀ q, q < H.size → H1[q]? = H[q]?) : va_S (zA b) H0 H1 locs := ⟨Nat.le_trans h3.1 (by omega), fun x g1 g2 => (o1 x (Nat.lt_of_lt_of_le g1 h3.1)).trans (h3.2.1 x g1 g2), h3.2.2⟩
theorem z_new (X : zX p s m args meth c cc nL own ret Ts D tys b) {C : String} {T : u_T} {n ci index : Nat} {fs : List Value} (hc : classes[ci]? = some (C, T, n)) (hin : ∀ w ∈ u_ws C T n, w ∈ Ts) {ty : Nat → FieldType} (hty : ∀ j, j < n → parseFieldDescriptor (T j).2.2.1 = some (ty j)) (hcl : Cond.classLink own index C ∈ Ts) (hinst : Cond.instantiable C n ∈ Ts) (hini : Cond.initialized C ∈ Ts) (hfs : ∀ j, j < n → defaultValue (ty j) = vp_V fs j) (hcells : cells + 1 ≤ R.cells) (hslots : slots + n ≤ R.slots) (d : decode cc pc = .ok (.new index, 3)) (kk : Z p l e R s m args below meth c nL D b (N + 1) (va_up k (b + N) (.inr (ci, fs))) (cells + 1) (slots + n) Q (pc + 3) lv (.ref (b + N) :: st)) : Z p l e R s m args below meth c nL D b N k cells slots Q pc lv st := by
  intro H locs ls h1 h2 h3 h4
  have hKn := X.2.1.1 ci _ hc
  refine W.newcK X.1.1 X.1.2.1 X.1.2.2.2.1 (X.1.2.2.2.2 _ hcl) (X.1.2.2.2.2 _ hinst) (X.1.2.2.2.2 _ hini) rfl d hcells hslots hKn.2.1 h1 fun H1 kC hkC e1 z1 o1 => ?_
  have o2 : ∀ q, q < H.size → H1[q]? = H[q]? := fun q hq => o1 q (by omega)
  exact kk H1 locs ls (by omega) (zl_grow h1 h2 o2 ⟨_, hc, (u_born ty X.1.2.2.2.2 hin hKn hkC e1 hty).to hfs⟩) (zS_grow h3 (by omega) o2) h4
theorem z_newa (X : zX p s m args meth c cc nL own ret Ts D tys b) {atype : ArrayType} {ty : FieldType} {cA : ClassId} (harr : Cond.arrayClass (newarray.typeOf atype) ∈ Ts) (hty : newarray.typeOf atype = ty) (t0 : Nat) (ht : tys[t0]? = some (cA, ty)) (hprim : va_RA s cA ty → s.vm.findClass ("[" ++ ty.toString) = some cA) {i : Int32} {n : Nat} {a0 : vp_A} (ha : vp_cell cA a0 = arrV cA n (fun _ => defaultValue ty)) (hi : i = nI n) (hn : n < 65536) (hbytes : n * componentBytes ty ≤ 536870912) (hcells : cells + 1 ≤ R.cells) (hslots : slots + n ≤ R.slots) (d : decode cc pc = .ok (.newarray atype, 2)) (kk : Z p l e R s m args below meth c nL D b (N + 1) (va_up k (b + N) (.inl (cA, a0))) (cells + 1) (slots + n) Q (pc + 2) lv (.ref (b + N) :: st)) : Z p l e R s m args below meth c nL D b N k cells slots Q pc lv (.int i :: st) := by
  intro H locs ls h1 h2 h3 h4
  subst hty
  subst hi
  refine va_newaK X.1.1 X.1.2.1 (X.1.2.2.2.2 _ harr) rfl d rfl (nI_pos (by omega)) (nI_clamp (by omega)) hbytes hcells hslots h1 fun H1 cB e1 z1 o1 hAr hNm => ?_
  have hcc : cB = cA := Option.some.inj (hNm.symm.trans (hprim (X.2.1.2 t0 _ ht).2))
  subst hcc
  have o2 : ∀ q, q < H.size → H1[q]? = H[q]? := fun q hq => o1 q (by omega)
  exact kk H1 locs ls (by omega) (zl_grow h1 h2 o2 (by show H1[b + N]? = some (vp_cell _ _); rw [ha]; exact e1)) (zS_grow h3 (by omega) o2) h4
theorem z_newq (X : zX p s m args meth c cc nL own ret Ts D tys b) {C : String} {index : Nat} {cA : ClassId} (hcl : Cond.classLink own index C ∈ Ts) (hover : va_AO C s) (t0 : Nat) (ht : tys[t0]? = some (cA, .object C)) {i : Int32} {n : Nat} (hi : i = nI n) (hn : n < 65536) (hcells : cells + 1 ≤ R.cells) (hslots : slots + n ≤ R.slots) (d : decode cc pc = .ok (.anewarray index, 3)) (kk : Z p l e R s m args below meth c nL D b (N + 1) (va_up k (b + N) (.inl (cA, n, .inr (.inr (.inr (.inr (fun _ => none))))))) (cells + 1) (slots + n) Q (pc + 3) lv (.ref (b + N) :: st)) : Z p l e R s m args below meth c nL D b N k cells slots Q pc lv (.int i :: st) := by
  intro H locs ls h1 h2 h3 h4
  subst hi
  have hcl2 : (nI n).toNatClampNeg = n := nI_clamp (by omega)
  refine W.anew X.1.1 X.1.2.1 X.1.2.2.2.1 (X.1.2.2.2.2 _ hcl) (va_AO.use hover) rfl d rfl (nI_pos (by omega)) (by rw [hcl2]; omega) hcells (by rw [hcl2]; exact hslots) fun cB kA comp f1 f2 f3 f4 => ?_
  rw [hcl2]
  obtain ⟨kB, comp2, g1, g2, g3, g4⟩ := (X.2.1.2 t0 _ ht).2
  have hcc : cB = cA := Option.some.inj (f1.symm.trans g4)
  subst hcc
  generalize hH1 : H.push ({ cls := cB, slots := Array.replicate n .null, vm := .none } : Cell) = H1
  have z1 : H1.size = H.size + 1 := by rw [← hH1, Array.size_push]
  have e1 : H1[H.size]? = some (arrV cB n (fun _ => .null)) := by rw [← hH1, Array.getElem?_push_size, ← arrV_new]
  have o1 : ∀ q : Nat, q < H.size → H1[q]? = H[q]? := fun q hq => by rw [← hH1, Array.getElem?_push, if_neg (Nat.ne_of_lt hq)]
  rw [h1] at e1 ⊢
  exact kk H1 locs ls (by omega) (zl_grow h1 h2 o1 (by show H1[b + N]? = some (vp_cell _ _); rw [vp_cell_q]; exact e1)) (zS_grow h3 z1 o1) h4
theorem z_objInit (X : zX p s m args meth c cc nL own ret Ts D tys b) {idx a : Nat} (hl : Cond.methodLink own idx Lib.objectInit ∈ Ts) (hi : Cond.instanceMethod Lib.objectInit ∈ Ts) (hcd : Cond.code Lib.objectInit ⟨#[0xb1]⟩ 1 none ∈ Ts) (d : decode cc pc = .ok (.invokespecial idx, 3)) (hf : 1 ≤ R.frames) (hlo : (st.map fun v => v.category).sum + 12 ≤ R.locals) (kk : Z p l e R s m args below meth c nL D b N k cells slots Q (pc + 3) lv st) : Z p l e R s m args below meth c nL D b N k cells slots Q pc lv (.ref a :: st) := by
  intro H locs ls h1 h2 h3 h4
  refine W.objInit X.1.1 X.1.2.1 X.1.2.2.2.1 (X.1.2.2.2.2 _ hl) (X.1.2.2.2.2 _ hi) (X.1.2.2.2.2 _ hcd) rfl (by rw [X.1.2.2.1]; exact h4.1) rfl d hf (by show 2 * 0 + _ + 12 ≤ _; omega) ?_
  exact kk H locs ls h1 h2 h3 h4
theorem z_mmax (X : zX p s m args meth c cc nL own ret Ts D tys b) {index : Nat} {x y : Int32} (hl : Cond.methodLink own index Lib.Math.max.name ∈ Ts) (hs : Cond.static Lib.Math.max.name ∈ Ts) (hi : Cond.initialized "java/lang/Math" ∈ Ts) (hcd : Cond.code Lib.Math.max.name Lib.Math.max.code 2 (some .int) ∈ Ts) (d : decode cc pc = .ok (.invokestatic index, 3)) (hf : 1 ≤ R.frames) (hlo : (st.map fun v => v.category).sum + 13 ≤ R.locals) (hcells : cells ≤ R.cells) (hslots : slots ≤ R.slots) (kk : Z p l e R s m args below meth c nL D b N k cells slots Q (pc + 3) lv (.int (if x < y then y else x) :: st)) : Z p l e R s m args below meth c nL D b N k cells slots Q pc lv (.int y :: .int x :: st) :=
  fun H locs ls h1 h2 h3 h4 => va_mmax X.1.1 X.1.2.1 (X.1.2.2.1.trans h4.1.symm) X.1.2.2.2.1 (X.1.2.2.2.2 _ hl) (X.1.2.2.2.2 _ hs) (X.1.2.2.2.2 _ hi) (X.1.2.2.2.2 _ hcd) hf hlo hcells hslots d (kk H locs ls h1 h2 h3 h4)
theorem z_mmin (X : zX p s m args meth c cc nL own ret Ts D tys b) {index : Nat} {x y : Int32} (hl : Cond.methodLink own index Lib.Math.min.name ∈ Ts) (hs : Cond.static Lib.Math.min.name ∈ Ts) (hi : Cond.initialized "java/lang/Math" ∈ Ts) (hcd : Cond.code Lib.Math.min.name Lib.Math.min.code 2 (some .int) ∈ Ts) (d : decode cc pc = .ok (.invokestatic index, 3)) (hf : 1 ≤ R.frames) (hlo : (st.map fun v => v.category).sum + 13 ≤ R.locals) (hcells : cells ≤ R.cells) (hslots : slots ≤ R.slots) (kk : Z p l e R s m args below meth c nL D b N k cells slots Q (pc + 3) lv (.int (if y < x then y else x) :: st)) : Z p l e R s m args below meth c nL D b N k cells slots Q pc lv (.int y :: .int x :: st) :=
  fun H locs ls h1 h2 h3 h4 => va_mmin X.1.1 X.1.2.1 (X.1.2.2.1.trans h4.1.symm) X.1.2.2.2.1 (X.1.2.2.2.2 _ hl) (X.1.2.2.2.2 _ hs) (X.1.2.2.2.2 _ hi) (X.1.2.2.2.2 _ hcd) hf hlo hcells hslots d (kk H locs ls h1 h2 h3 h4)
/-- a method's start and end -/
def zPc (D : va_G) (tys : List (ClassId × FieldType)) (b N : Nat) (k : Nat → va_E) (av : List Value) : Array Value → State → Prop := va_Pc av (fun U => U.heap.size = b + N ∧ va_P D classes (zl b N k) U.heap ∧ va_K D classes tys U ∧ zN U)
def zB (D : va_G) (b N : Nat) (k : Nat → va_E) (t : State) : Prop := t.heap.size = b + N ∧ va_P D classes (zl b N k) t.heap
def zQi (D : va_G) (b N : Nat) (post : Int32 → (Nat → va_E) → Prop) : Array Value → State → Outcome → State → Prop := va_Qi post (zB D b N) (zA b)
def zQl (D : va_G) (b N : Nat) (post : Int64 → (Nat → va_E) → Prop) : Array Value → State → Outcome → State → Prop := va_Ql post (zB D b N) (zA b)
def zQv (D : va_G) (b N : Nat) (post : (Nat → va_E) → Prop) : Array Value → State → Outcome → State → Prop := va_Qv post (zB D b N) (zA b)
theorem zPc.blind {D : va_G} {tys : List (ClassId × FieldType)} {b N : Nat} {k : Nat → va_E} {av : List Value} : FrameBlind (zPc D tys b N k av) := fun a U g mk q => ⟨q.1, q.2.1, q.2.2.1, va_K.moved (u := U) (U := U.calling g mk a) (Vm.Alike.refl U.vm) q.2.2.2.1, q.2.2.2.2.blind⟩
theorem z_iret (X : zX p s m args meth c cc nL own (some .int) Ts D tys b) {mc ms : Nat} {post : Int32 → (Nat → va_E) → Prop} {x : Int32} (d : decode cc pc = .ok (.ireturn, 1)) (hc : cells ≤ mc) (hs : slots ≤ ms) (hp : post x k) : Z p l e R s m args below meth c nL D b N k cells slots (MQ below (zQi D b N post) args s mc ms (zA b)) pc lv [.int x] := by
  intro H locs ls h1 h2 h3 h4
  refine W.widen hc hs ?_
  exact W.iret X.1.1 X.1.2.1 X.2.2.1 (fun t ht hW => ⟨⟨x, k, rfl, hp, by rw [ht]; exact h1, by rw [ht]; exact h2⟩, h3.F ht⟩) h3.2.2 d X.2.2.2.1
theorem z_zret (X : zX p s m args meth c cc nL own (some .boolean) Ts D tys b) {mc ms : Nat} {post : Int32 → (Nat → va_E) → Prop} {x : Int32} (d : decode cc pc = .ok (.ireturn, 1)) (hx : narrow .boolean (.int x) = .int x) (hc : cells ≤ mc) (hs : slots ≤ ms) (hp : post x k) : Z p l e R s m args below meth c nL D b N k cells slots (MQ below (zQi D b N post) args s mc ms (zA b)) pc lv [.int x] := by
  intro H locs ls h1 h2 h3 h4
  refine W.widen hc hs ?_
  exact W.zret X.1.1 X.1.2.1 X.2.2.1 hx (fun t ht hW => ⟨⟨x, k, rfl, hp, by rw [ht]; exact h1, by rw [ht]; exact h2⟩, h3.F ht⟩) h3.2.2 d X.2.2.2.1
theorem z_lret (X : zX p s m args meth c cc nL own (some .long) Ts D tys b) {mc ms : Nat} {post : Int64 → (Nat → va_E) → Prop} {x : Int64} (d : decode cc pc = .ok (.lreturn, 1)) (hc : cells ≤ mc) (hs : slots ≤ ms) (hp : post x k) : Z p l e R s m args below meth c nL D b N k cells slots (MQ below (zQl D b N post) args s mc ms (zA b)) pc lv [.long x] := by
  intro H locs ls h1 h2 h3 h4
  refine W.widen hc hs ?_
  exact W.lret X.1.1 X.1.2.1 X.2.2.1 (fun t ht hW => ⟨⟨x, k, rfl, hp, by rw [ht]; exact h1, by rw [ht]; exact h2⟩, h3.F ht⟩) h3.2.2 d X.2.2.2.1
theorem z_vret (X : zX p s m args meth c cc nL own none Ts D tys b) {mc ms : Nat} {post : (Nat → va_E) → Prop} (d : decode cc pc = .ok (.return_, 1)) (hc : cells ≤ mc) (hs : slots ≤ ms) (hp : post k) : Z p l e R s m args below meth c nL D b N k cells slots (MQ below (zQv D b N post) args s mc ms (zA b)) pc lv [] := by
  intro H locs ls h1 h2 h3 h4
  refine W.widen hc hs ?_
  exact W.vret X.1.1 X.1.2.1 X.2.2.1 (fun t ht hW => ⟨⟨k, rfl, hp, by rw [ht]; exact h1, by rw [ht]; exact h2⟩, h3.F ht⟩) h3.2.2 d X.2.2.2.1
theorem z_widen {mc ms : Nat} (hc : cells ≤ mc) (hs : slots ≤ ms) (kk : Z p l e R s m args below meth c nL D b N k mc ms Q pc lv st) : Z p l e R s m args below meth c nL D b N k cells slots Q pc lv st :=
  fun H locs ls h1 h2 h3 h4 => W.widen hc hs (kk H locs ls h1 h2 h3 h4)
theorem z_callVi (X : zX p s m args meth c cc nL own ret Ts D tys b) {y : MethodName} {bytes : ByteArray} {maxL mc ms n index N2 a : Nat} {rt : Option FieldType} {ws : List Cond} {rm : Room} {As st0 : List Value} {post : Int32 → (Nat → va_E) → Prop} (hM : Met l y ws rm (zPc D tys b N k (.ref a :: As)) (zQi D b N2 post) mc ms (zA b)) {C : String} {T : u_T} {nf ci : Nat} {fs : List Value} (hrec : zc b N k a (.inr (ci, fs))) (hcl : classes[ci]? = some (C, T, nf)) (cw : CallW R s args own C index y bytes maxL rt ws rm mc ms n) (hst : st0 = As.reverse ++ .ref a :: st) (hn : As.length = n) (hcat : (st.map fun v => v.category).sum ≤ 8) (d : decode cc pc = .ok (.invokevirtual index, 3)) (hfit : cells + mc ≤ R.cells ∧ slots + ms ≤ R.slots) (kk : ∀ (r : Int32) (k2 : Nat → va_E), post r k2 → Z p l e R s m args below meth c nL D b N2 k2 (cells + mc) (slots + ms) Q (pc + 3) lv (.int r :: st)) : Z p l e R s m args below meth c nL D b N k cells slots Q pc lv st0 := by
  intro H locs ls h1 h2 h3 h4
  exact va_calli (va_runV X.1 hM cw ⟨zPc.blind, va_recv X.2.1 h2 hcl hrec.at, (fun U hU hW => ⟨rfl, by rw [hU]; exact h1, by rw [hU]; exact h2, va_K.moved hW.alike X.2.1, X.2.2.2.2.2.moved hW⟩)⟩ rfl hn h4.1 hst (lv_room hcat) d hfit) h3 (fun _ _ q => q) (fun _ q => q) (fun r u t H1 locs1 ht hvm hp hB hz hk9 hS => kk r u hp H1 locs1 ls (by rw [← ht]; exact hB.1) (by rw [← ht]; exact hB.2) hS h4)
theorem z_callSi (X : zX p s m args meth c cc nL own ret Ts D tys b) {y : MethodName} {bytes : ByteArray} {maxL mc ms n index N2 a : Nat} {rt : Option FieldType} {ws : List Cond} {rm : Room} {As st0 : List Value} {post : Int32 → (Nat → va_E) → Prop} (hM : Met l y ws rm (zPc D tys b N k As) (zQi D b N2 post) mc ms (zA b)) (cw : CallB R s args own index y bytes maxL rt ws rm mc ms n ∧ (Cond.static y).before args s = true) (hst : st0 = As.reverse ++ st) (hn : As.length = n) (hcat : (st.map fun v => v.category).sum ≤ 8) (d : decode cc pc = .ok (.invokestatic index, 3)) (hfit : cells + mc ≤ R.cells ∧ slots + ms ≤ R.slots) (kk : ∀ (r : Int32) (k2 : Nat → va_E), post r k2 → Z p l e R s m args below meth c nL D b N2 k2 (cells + mc) (slots + ms) Q (pc + 3) lv (.int r :: st)) : Z p l e R s m args below meth c nL D b N k cells slots Q pc lv st0 := by
  intro H locs ls h1 h2 h3 h4
  exact va_calli (va_runS X.1 hM cw ⟨zPc.blind, (fun U hU hW => ⟨rfl, by rw [hU]; exact h1, by rw [hU]; exact h2, va_K.moved hW.alike X.2.1, X.2.2.2.2.2.moved hW⟩)⟩ rfl hn h4.1 hst (lv_room hcat) d hfit) h3 (fun _ _ q => q) (fun _ q => q) (fun r u t H1 locs1 ht hvm hp hB hz hk9 hS => kk r u hp H1 locs1 ls (by rw [← ht]; exact hB.1) (by rw [← ht]; exact hB.2) hS h4)
theorem z_callVNi (X : zX p s m args meth c cc nL own ret Ts D tys b) {y : MethodName} {bytes : ByteArray} {maxL mc ms n index N2 a : Nat} {rt : Option FieldType} {ws : List Cond} {rm : Room} {As st0 : List Value} {post : Int32 → (Nat → va_E) → Prop} (hM : Met l y ws rm (zPc D tys b N k (.ref a :: As)) (zQi D b N2 post) mc ms (zA b)) {C : String} {T : u_T} {nf ci : Nat} {fs : List Value} (hrec : zc b N k a (.inr (ci, fs))) (hcl : classes[ci]? = some (C, T, nf)) {host : String} (cw : va_CN R s args own index y host bytes maxL rt ws rm mc ms n ∧ (Cond.instanceMethod y).before args s = true ∧ (Cond.selects C y y).before args s = true) (hst : st0 = As.reverse ++ .ref a :: st) (hn : As.length = n) (hcat : (st.map fun v => v.category).sum ≤ 8) (d : decode cc pc = .ok (.invokevirtual index, 3)) (hfit : cells + mc ≤ R.cells ∧ slots + ms ≤ R.slots) (kk : ∀ (r : Int32) (k2 : Nat → va_E), post r k2 → Z p l e R s m args below meth c nL D b N2 k2 (cells + mc) (slots + ms) Q (pc + 3) lv (.int r :: st)) : Z p l e R s m args below meth c nL D b N k cells slots Q pc lv st0 := by
  intro H locs ls h1 h2 h3 h4
  exact va_calli (va_runVN X.1 hM cw ⟨zPc.blind, va_recv X.2.1 h2 hcl hrec.at, (fun U hU hW => ⟨rfl, by rw [hU]; exact h1, by rw [hU]; exact h2, va_K.moved hW.alike X.2.1, X.2.2.2.2.2.moved hW⟩)⟩ rfl hn h4.1 hst (lv_room hcat) d hfit) h3 (fun _ _ q => q) (fun _ q => q) (fun r u t H1 locs1 ht hvm hp hB hz hk9 hS => kk r u hp H1 locs1 ls (by rw [← ht]; exact hB.1) (by rw [← ht]; exact hB.2) hS h4)
theorem z_callSNi (X : zX p s m args meth c cc nL own ret Ts D tys b) {y : MethodName} {bytes : ByteArray} {maxL mc ms n index N2 a : Nat} {rt : Option FieldType} {ws : List Cond} {rm : Room} {As st0 : List Value} {post : Int32 → (Nat → va_E) → Prop} (hM : Met l y ws rm (zPc D tys b N k As) (zQi D b N2 post) mc ms (zA b)) {host : String} (cw : va_CN R s args own index y host bytes maxL rt ws rm mc ms n ∧ (Cond.static y).before args s = true ∧ True) (hst : st0 = As.reverse ++ st) (hn : As.length = n) (hcat : (st.map fun v => v.category).sum ≤ 8) (d : decode cc pc = .ok (.invokestatic index, 3)) (hfit : cells + mc ≤ R.cells ∧ slots + ms ≤ R.slots) (kk : ∀ (r : Int32) (k2 : Nat → va_E), post r k2 → Z p l e R s m args below meth c nL D b N2 k2 (cells + mc) (slots + ms) Q (pc + 3) lv (.int r :: st)) : Z p l e R s m args below meth c nL D b N k cells slots Q pc lv st0 := by
  intro H locs ls h1 h2 h3 h4
  exact va_calli (va_runSN X.1 hM cw ⟨zPc.blind, (fun U hU hW => ⟨rfl, by rw [hU]; exact h1, by rw [hU]; exact h2, va_K.moved hW.alike X.2.1, X.2.2.2.2.2.moved hW⟩)⟩ rfl hn h4.1 hst (lv_room hcat) d hfit) h3 (fun _ _ q => q) (fun _ q => q) (fun r u t H1 locs1 ht hvm hp hB hz hk9 hS => kk r u hp H1 locs1 ls (by rw [← ht]; exact hB.1) (by rw [← ht]; exact hB.2) hS h4)
theorem z_callVl (X : zX p s m args meth c cc nL own ret Ts D tys b) {y : MethodName} {bytes : ByteArray} {maxL mc ms n index N2 a : Nat} {rt : Option FieldType} {ws : List Cond} {rm : Room} {As st0 : List Value} {post : Int64 → (Nat → va_E) → Prop} (hM : Met l y ws rm (zPc D tys b N k (.ref a :: As)) (zQl D b N2 post) mc ms (zA b)) {C : String} {T : u_T} {nf ci : Nat} {fs : List Value} (hrec : zc b N k a (.inr (ci, fs))) (hcl : classes[ci]? = some (C, T, nf)) (cw : CallW R s args own C index y bytes maxL rt ws rm mc ms n) (hst : st0 = As.reverse ++ .ref a :: st) (hn : As.length = n) (hcat : (st.map fun v => v.category).sum ≤ 8) (d : decode cc pc = .ok (.invokevirtual index, 3)) (hfit : cells + mc ≤ R.cells ∧ slots + ms ≤ R.slots) (kk : ∀ (r : Int64) (k2 : Nat → va_E), post r k2 → Z p l e R s m args below meth c nL D b N2 k2 (cells + mc) (slots + ms) Q (pc + 3) lv (.long r :: st)) : Z p l e R s m args below meth c nL D b N k cells slots Q pc lv st0 := by
  intro H locs ls h1 h2 h3 h4
  exact va_calll (va_runV X.1 hM cw ⟨zPc.blind, va_recv X.2.1 h2 hcl hrec.at, (fun U hU hW => ⟨rfl, by rw [hU]; exact h1, by rw [hU]; exact h2, va_K.moved hW.alike X.2.1, X.2.2.2.2.2.moved hW⟩)⟩ rfl hn h4.1 hst (lv_room hcat) d hfit) h3 (fun _ _ q => q) (fun _ q => q) (fun r u t H1 locs1 ht hvm hp hB hz hk9 hS => kk r u hp H1 locs1 ls (by rw [← ht]; exact hB.1) (by rw [← ht]; exact hB.2) hS h4)
theorem z_callSl (X : zX p s m args meth c cc nL own ret Ts D tys b) {y : MethodName} {bytes : ByteArray} {maxL mc ms n index N2 a : Nat} {rt : Option FieldType} {ws : List Cond} {rm : Room} {As st0 : List Value} {post : Int64 → (Nat → va_E) → Prop} (hM : Met l y ws rm (zPc D tys b N k As) (zQl D b N2 post) mc ms (zA b)) (cw : CallB R s args own index y bytes maxL rt ws rm mc ms n ∧ (Cond.static y).before args s = true) (hst : st0 = As.reverse ++ st) (hn : As.length = n) (hcat : (st.map fun v => v.category).sum ≤ 8) (d : decode cc pc = .ok (.invokestatic index, 3)) (hfit : cells + mc ≤ R.cells ∧ slots + ms ≤ R.slots) (kk : ∀ (r : Int64) (k2 : Nat → va_E), post r k2 → Z p l e R s m args below meth c nL D b N2 k2 (cells + mc) (slots + ms) Q (pc + 3) lv (.long r :: st)) : Z p l e R s m args below meth c nL D b N k cells slots Q pc lv st0 := by
  intro H locs ls h1 h2 h3 h4
  exact va_calll (va_runS X.1 hM cw ⟨zPc.blind, (fun U hU hW => ⟨rfl, by rw [hU]; exact h1, by rw [hU]; exact h2, va_K.moved hW.alike X.2.1, X.2.2.2.2.2.moved hW⟩)⟩ rfl hn h4.1 hst (lv_room hcat) d hfit) h3 (fun _ _ q => q) (fun _ q => q) (fun r u t H1 locs1 ht hvm hp hB hz hk9 hS => kk r u hp H1 locs1 ls (by rw [← ht]; exact hB.1) (by rw [← ht]; exact hB.2) hS h4)
theorem z_callVNl (X : zX p s m args meth c cc nL own ret Ts D tys b) {y : MethodName} {bytes : ByteArray} {maxL mc ms n index N2 a : Nat} {rt : Option FieldType} {ws : List Cond} {rm : Room} {As st0 : List Value} {post : Int64 → (Nat → va_E) → Prop} (hM : Met l y ws rm (zPc D tys b N k (.ref a :: As)) (zQl D b N2 post) mc ms (zA b)) {C : String} {T : u_T} {nf ci : Nat} {fs : List Value} (hrec : zc b N k a (.inr (ci, fs))) (hcl : classes[ci]? = some (C, T, nf)) {host : String} (cw : va_CN R s args own index y host bytes maxL rt ws rm mc ms n ∧ (Cond.instanceMethod y).before args s = true ∧ (Cond.selects C y y).before args s = true) (hst : st0 = As.reverse ++ .ref a :: st) (hn : As.length = n) (hcat : (st.map fun v => v.category).sum ≤ 8) (d : decode cc pc = .ok (.invokevirtual index, 3)) (hfit : cells + mc ≤ R.cells ∧ slots + ms ≤ R.slots) (kk : ∀ (r : Int64) (k2 : Nat → va_E), post r k2 → Z p l e R s m args below meth c nL D b N2 k2 (cells + mc) (slots + ms) Q (pc + 3) lv (.long r :: st)) : Z p l e R s m args below meth c nL D b N k cells slots Q pc lv st0 := by
  intro H locs ls h1 h2 h3 h4
  exact va_calll (va_runVN X.1 hM cw ⟨zPc.blind, va_recv X.2.1 h2 hcl hrec.at, (fun U hU hW => ⟨rfl, by rw [hU]; exact h1, by rw [hU]; exact h2, va_K.moved hW.alike X.2.1, X.2.2.2.2.2.moved hW⟩)⟩ rfl hn h4.1 hst (lv_room hcat) d hfit) h3 (fun _ _ q => q) (fun _ q => q) (fun r u t H1 locs1 ht hvm hp hB hz hk9 hS => kk r u hp H1 locs1 ls (by rw [← ht]; exact hB.1) (by rw [← ht]; exact hB.2) hS h4)
theorem z_callSNl (X : zX p s m args meth c cc nL own ret Ts D tys b) {y : MethodName} {bytes : ByteArray} {maxL mc ms n index N2 a : Nat} {rt : Option FieldType} {ws : List Cond} {rm : Room} {As st0 : List Value} {post : Int64 → (Nat → va_E) → Prop} (hM : Met l y ws rm (zPc D tys b N k As) (zQl D b N2 post) mc ms (zA b)) {host : String} (cw : va_CN R s args own index y host bytes maxL rt ws rm mc ms n ∧ (Cond.static y).before args s = true ∧ True) (hst : st0 = As.reverse ++ st) (hn : As.length = n) (hcat : (st.map fun v => v.category).sum ≤ 8) (d : decode cc pc = .ok (.invokestatic index, 3)) (hfit : cells + mc ≤ R.cells ∧ slots + ms ≤ R.slots) (kk : ∀ (r : Int64) (k2 : Nat → va_E), post r k2 → Z p l e R s m args below meth c nL D b N2 k2 (cells + mc) (slots + ms) Q (pc + 3) lv (.long r :: st)) : Z p l e R s m args below meth c nL D b N k cells slots Q pc lv st0 := by
  intro H locs ls h1 h2 h3 h4
  exact va_calll (va_runSN X.1 hM cw ⟨zPc.blind, (fun U hU hW => ⟨rfl, by rw [hU]; exact h1, by rw [hU]; exact h2, va_K.moved hW.alike X.2.1, X.2.2.2.2.2.moved hW⟩)⟩ rfl hn h4.1 hst (lv_room hcat) d hfit) h3 (fun _ _ q => q) (fun _ q => q) (fun r u t H1 locs1 ht hvm hp hB hz hk9 hS => kk r u hp H1 locs1 ls (by rw [← ht]; exact hB.1) (by rw [← ht]; exact hB.2) hS h4)
theorem z_callVv (X : zX p s m args meth c cc nL own ret Ts D tys b) {y : MethodName} {bytes : ByteArray} {maxL mc ms n index N2 a : Nat} {rt : Option FieldType} {ws : List Cond} {rm : Room} {As st0 : List Value} {post : (Nat → va_E) → Prop} (hM : Met l y ws rm (zPc D tys b N k (.ref a :: As)) (zQv D b N2 post) mc ms (zA b)) {C : String} {T : u_T} {nf ci : Nat} {fs : List Value} (hrec : zc b N k a (.inr (ci, fs))) (hcl : classes[ci]? = some (C, T, nf)) (cw : CallW R s args own C index y bytes maxL rt ws rm mc ms n) (hst : st0 = As.reverse ++ .ref a :: st) (hn : As.length = n) (hcat : (st.map fun v => v.category).sum ≤ 8) (d : decode cc pc = .ok (.invokevirtual index, 3)) (hfit : cells + mc ≤ R.cells ∧ slots + ms ≤ R.slots) (kk : ∀ (k2 : Nat → va_E), post k2 → Z p l e R s m args below meth c nL D b N2 k2 (cells + mc) (slots + ms) Q (pc + 3) lv st) : Z p l e R s m args below meth c nL D b N k cells slots Q pc lv st0 := by
  intro H locs ls h1 h2 h3 h4
  exact va_callv (va_runV X.1 hM cw ⟨zPc.blind, va_recv X.2.1 h2 hcl hrec.at, (fun U hU hW => ⟨rfl, by rw [hU]; exact h1, by rw [hU]; exact h2, va_K.moved hW.alike X.2.1, X.2.2.2.2.2.moved hW⟩)⟩ rfl hn h4.1 hst (lv_room hcat) d hfit) h3 (fun _ _ q => q) (fun _ q => q) (fun u t H1 locs1 ht hvm hp hB hz hk9 hS => kk u hp H1 locs1 ls (by rw [← ht]; exact hB.1) (by rw [← ht]; exact hB.2) hS h4)
theorem z_callSv (X : zX p s m args meth c cc nL own ret Ts D tys b) {y : MethodName} {bytes : ByteArray} {maxL mc ms n index N2 a : Nat} {rt : Option FieldType} {ws : List Cond} {rm : Room} {As st0 : List Value} {post : (Nat → va_E) → Prop} (hM : Met l y ws rm (zPc D tys b N k As) (zQv D b N2 post) mc ms (zA b)) (cw : CallB R s args own index y bytes maxL rt ws rm mc ms n ∧ (Cond.static y).before args s = true) (hst : st0 = As.reverse ++ st) (hn : As.length = n) (hcat : (st.map fun v => v.category).sum ≤ 8) (d : decode cc pc = .ok (.invokestatic index, 3)) (hfit : cells + mc ≤ R.cells ∧ slots + ms ≤ R.slots) (kk : ∀ (k2 : Nat → va_E), post k2 → Z p l e R s m args below meth c nL D b N2 k2 (cells + mc) (slots + ms) Q (pc + 3) lv st) : Z p l e R s m args below meth c nL D b N k cells slots Q pc lv st0 := by
  intro H locs ls h1 h2 h3 h4
  exact va_callv (va_runS X.1 hM cw ⟨zPc.blind, (fun U hU hW => ⟨rfl, by rw [hU]; exact h1, by rw [hU]; exact h2, va_K.moved hW.alike X.2.1, X.2.2.2.2.2.moved hW⟩)⟩ rfl hn h4.1 hst (lv_room hcat) d hfit) h3 (fun _ _ q => q) (fun _ q => q) (fun u t H1 locs1 ht hvm hp hB hz hk9 hS => kk u hp H1 locs1 ls (by rw [← ht]; exact hB.1) (by rw [← ht]; exact hB.2) hS h4)
theorem z_callIv (X : zX p s m args meth c cc nL own ret Ts D tys b) {y : MethodName} {bytes : ByteArray} {maxL mc ms n index N2 a : Nat} {rt : Option FieldType} {ws : List Cond} {rm : Room} {As st0 : List Value} {post : (Nat → va_E) → Prop} (hM : Met l y ws rm (zPc D tys b N k (.ref a :: As)) (zQv D b N2 post) mc ms (zA b)) (cw : CallB R s args own index y bytes maxL none ws rm mc ms n ∧ y.name = "<init>" ∧ (Cond.instanceMethod y).before args s = true) (hst : st0 = As.reverse ++ .ref a :: st) (hn : As.length = n) (hcat : (st.map fun v => v.category).sum ≤ 8) (d : decode cc pc = .ok (.invokespecial index, 3)) (hfit : cells + mc ≤ R.cells ∧ slots + ms ≤ R.slots) (kk : ∀ (k2 : Nat → va_E), post k2 → Z p l e R s m args below meth c nL D b N2 k2 (cells + mc) (slots + ms) Q (pc + 3) lv st) : Z p l e R s m args below meth c nL D b N k cells slots Q pc lv st0 := by
  intro H locs ls h1 h2 h3 h4
  exact va_callv (va_runI X.1 hM cw ⟨zPc.blind, (fun U hU hW => ⟨rfl, by rw [hU]; exact h1, by rw [hU]; exact h2, va_K.moved hW.alike X.2.1, X.2.2.2.2.2.moved hW⟩)⟩ rfl hn h4.1 hst (lv_room hcat) d hfit) h3 (fun _ _ q => q) (fun _ q => q) (fun u t H1 locs1 ht hvm hp hB hz hk9 hS => kk u hp H1 locs1 ls (by rw [← ht]; exact hB.1) (by rw [← ht]; exact hB.2) hS h4)
theorem z_callVNv (X : zX p s m args meth c cc nL own ret Ts D tys b) {y : MethodName} {bytes : ByteArray} {maxL mc ms n index N2 a : Nat} {rt : Option FieldType} {ws : List Cond} {rm : Room} {As st0 : List Value} {post : (Nat → va_E) → Prop} (hM : Met l y ws rm (zPc D tys b N k (.ref a :: As)) (zQv D b N2 post) mc ms (zA b)) {C : String} {T : u_T} {nf ci : Nat} {fs : List Value} (hrec : zc b N k a (.inr (ci, fs))) (hcl : classes[ci]? = some (C, T, nf)) {host : String} (cw : va_CN R s args own index y host bytes maxL rt ws rm mc ms n ∧ (Cond.instanceMethod y).before args s = true ∧ (Cond.selects C y y).before args s = true) (hst : st0 = As.reverse ++ .ref a :: st) (hn : As.length = n) (hcat : (st.map fun v => v.category).sum ≤ 8) (d : decode cc pc = .ok (.invokevirtual index, 3)) (hfit : cells + mc ≤ R.cells ∧ slots + ms ≤ R.slots) (kk : ∀ (k2 : Nat → va_E), post k2 → Z p l e R s m args below meth c nL D b N2 k2 (cells + mc) (slots + ms) Q (pc + 3) lv st) : Z p l e R s m args below meth c nL D b N k cells slots Q pc lv st0 := by
  intro H locs ls h1 h2 h3 h4
  exact va_callv (va_runVN X.1 hM cw ⟨zPc.blind, va_recv X.2.1 h2 hcl hrec.at, (fun U hU hW => ⟨rfl, by rw [hU]; exact h1, by rw [hU]; exact h2, va_K.moved hW.alike X.2.1, X.2.2.2.2.2.moved hW⟩)⟩ rfl hn h4.1 hst (lv_room hcat) d hfit) h3 (fun _ _ q => q) (fun _ q => q) (fun u t H1 locs1 ht hvm hp hB hz hk9 hS => kk u hp H1 locs1 ls (by rw [← ht]; exact hB.1) (by rw [← ht]; exact hB.2) hS h4)
theorem z_callSNv (X : zX p s m args meth c cc nL own ret Ts D tys b) {y : MethodName} {bytes : ByteArray} {maxL mc ms n index N2 a : Nat} {rt : Option FieldType} {ws : List Cond} {rm : Room} {As st0 : List Value} {post : (Nat → va_E) → Prop} (hM : Met l y ws rm (zPc D tys b N k As) (zQv D b N2 post) mc ms (zA b)) {host : String} (cw : va_CN R s args own index y host bytes maxL rt ws rm mc ms n ∧ (Cond.static y).before args s = true ∧ True) (hst : st0 = As.reverse ++ st) (hn : As.length = n) (hcat : (st.map fun v => v.category).sum ≤ 8) (d : decode cc pc = .ok (.invokestatic index, 3)) (hfit : cells + mc ≤ R.cells ∧ slots + ms ≤ R.slots) (kk : ∀ (k2 : Nat → va_E), post k2 → Z p l e R s m args below meth c nL D b N2 k2 (cells + mc) (slots + ms) Q (pc + 3) lv st) : Z p l e R s m args below meth c nL D b N k cells slots Q pc lv st0 := by
  intro H locs ls h1 h2 h3 h4
  exact va_callv (va_runSN X.1 hM cw ⟨zPc.blind, (fun U hU hW => ⟨rfl, by rw [hU]; exact h1, by rw [hU]; exact h2, va_K.moved hW.alike X.2.1, X.2.2.2.2.2.moved hW⟩)⟩ rfl hn h4.1 hst (lv_room hcat) d hfit) h3 (fun _ _ q => q) (fun _ q => q) (fun u t H1 locs1 ht hvm hp hB hz hk9 hS => kk u hp H1 locs1 ls (by rw [← ht]; exact hB.1) (by rw [← ht]; exact hB.2) hS h4)
theorem z_callINv (X : zX p s m args meth c cc nL own ret Ts D tys b) {y : MethodName} {bytes : ByteArray} {maxL mc ms n index N2 a : Nat} {rt : Option FieldType} {ws : List Cond} {rm : Room} {As st0 : List Value} {post : (Nat → va_E) → Prop} (hM : Met l y ws rm (zPc D tys b N k (.ref a :: As)) (zQv D b N2 post) mc ms (zA b)) {host : String} (cw : va_CN R s args own index y host bytes maxL none ws rm mc ms n ∧ y.name = "<init>" ∧ (Cond.instanceMethod y).before args s = true) (hst : st0 = As.reverse ++ .ref a :: st) (hn : As.length = n) (hcat : (st.map fun v => v.category).sum ≤ 8) (d : decode cc pc = .ok (.invokespecial index, 3)) (hfit : cells + mc ≤ R.cells ∧ slots + ms ≤ R.slots) (kk : ∀ (k2 : Nat → va_E), post k2 → Z p l e R s m args below meth c nL D b N2 k2 (cells + mc) (slots + ms) Q (pc + 3) lv st) : Z p l e R s m args below meth c nL D b N k cells slots Q pc lv st0 := by
  intro H locs ls h1 h2 h3 h4
  exact va_callv (va_runIN X.1 hM cw ⟨zPc.blind, (fun U hU hW => ⟨rfl, by rw [hU]; exact h1, by rw [hU]; exact h2, va_K.moved hW.alike X.2.1, X.2.2.2.2.2.moved hW⟩)⟩ rfl hn h4.1 hst (lv_room hcat) d hfit) h3 (fun _ _ q => q) (fun _ q => q) (fun u t H1 locs1 ht hvm hp hB hz hk9 hS => kk u hp H1 locs1 ls (by rw [← ht]; exact hB.1) (by rw [← ht]; exact hB.2) hS h4)
theorem z_iaddN (X : zX p s m args meth c cc nL own ret Ts D tys b) {x y : Nat} (d : decode cc pc = .ok (.iadd, 1)) (kk : Z p l e R s m args below meth c nL D b N k cells slots Q (pc + 1) lv (.int (nI (x + y)) :: st)) : Z p l e R s m args below meth c nL D b N k cells slots Q pc lv (.int (nI y) :: .int (nI x) :: st) := z_iadd X d (by rw [nI_add]; exact kk)
theorem z_isubN (X : zX p s m args meth c cc nL own ret Ts D tys b) {x y : Nat} (d : decode cc pc = .ok (.isub, 1)) (h : y ≤ x) (kk : Z p l e R s m args below meth c nL D b N k cells slots Q (pc + 1) lv (.int (nI (x - y)) :: st)) : Z p l e R s m args below meth c nL D b N k cells slots Q pc lv (.int (nI y) :: .int (nI x) :: st) := z_isub X d (by rw [pk_sub h]; exact kk)
theorem z_imulN (X : zX p s m args meth c cc nL own ret Ts D tys b) {x y : Nat} (d : decode cc pc = .ok (.imul, 1)) (kk : Z p l e R s m args below meth c nL D b N k cells slots Q (pc + 1) lv (.int (nI (x * y)) :: st)) : Z p l e R s m args below meth c nL D b N k cells slots Q pc lv (.int (nI y) :: .int (nI x) :: st) := z_imul X d (by rw [pk_mul]; exact kk)
theorem z_idivN (X : zX p s m args meth c cc nL own ret Ts D tys b) {x y : Nat} (d : decode cc pc = .ok (.idiv, 1)) (h0 : 0 < y) (hx : x < 2 ^ 31) (hy : y < 2 ^ 31) (kk : Z p l e R s m args below meth c nL D b N k cells slots Q (pc + 1) lv (.int (nI (x / y)) :: st)) : Z p l e R s m args below meth c nL D b N k cells slots Q pc lv (.int (nI y) :: .int (nI x) :: st) := z_idiv X d (nI_ne0 h0 hy) (by rw [pk_div hx h0 hy]; exact kk)
theorem z_iremN (X : zX p s m args meth c cc nL own ret Ts D tys b) {x y : Nat} (d : decode cc pc = .ok (.irem, 1)) (h0 : 0 < y) (hx : x < 2 ^ 31) (hy : y < 2 ^ 31) (kk : Z p l e R s m args below meth c nL D b N k cells slots Q (pc + 1) lv (.int (nI (x % y)) :: st)) : Z p l e R s m args below meth c nL D b N k cells slots Q pc lv (.int (nI y) :: .int (nI x) :: st) := z_irem X d (nI_ne0 h0 hy) (by rw [pk_rem hx h0 hy]; exact kk)
theorem z_iincU (X : zX p s m args meth c cc nL own ret Ts D tys b) {i x : Nat} (d : decode cc pc = .ok (.iinc i 1, 3)) (hl : lv[i]? = some (some (.int (nI x)))) (hn : i < nL) (hf : zfr lv i = true) (kk : Z p l e R s m args below meth c nL D b N k cells slots Q (pc + 3) (lv.set i (some (.int (nI (x + 1))))) st) : Z p l e R s m args below meth c nL D b N k cells slots Q pc lv st := z_iinc X d hl (nI_1 x) hn hf kk
theorem z_iincD (X : zX p s m args meth c cc nL own ret Ts D tys b) {i x : Nat} (d : decode cc pc = .ok (.iinc i (-1), 3)) (hl : lv[i]? = some (some (.int (nI (x + 1))))) (hn : i < nL) (hf : zfr lv i = true) (kk : Z p l e R s m args below meth c nL D b N k cells slots Q (pc + 3) (lv.set i (some (.int (nI x)))) st) : Z p l e R s m args below meth c nL D b N k cells slots Q pc lv st := z_iinc X d hl (pk_m1 x) hn hf kk
theorem z_icmp_eqN (X : zX p s m args meth c cc nL own ret Ts D tys b) {x y : Nat} {off : Int} {tgt : Nat} (d : decode cc pc = .ok (.if_icmp .eq off, 3)) (ht : (pc : Int) + off = (tgt : Int)) (hx : x < 2 ^ 31) (hy : y < 2 ^ 31) (kt : x = y → Z p l e R s m args below meth c nL D b N k cells slots Q tgt lv st) (kf : x ≠ y → Z p l e R s m args below meth c nL D b N k cells slots Q (pc + 3) lv st) : Z p l e R s m args below meth c nL D b N k cells slots Q pc lv (.int (nI y) :: .int (nI x) :: st) :=
  z_icmp_eq X d ht (fun q => kt ((nI_eq hx hy).mp q)) (fun q => kf (fun e => q (by rw [e])))
theorem z_if_eqN (X : zX p s m args meth c cc nL own ret Ts D tys b) {x : Nat} {off : Int} {tgt : Nat} (d : decode cc pc = .ok (.ifCond .eq off, 3)) (ht : (pc : Int) + off = (tgt : Int)) (hx : x < 2 ^ 31) (kt : x = 0 → Z p l e R s m args below meth c nL D b N k cells slots Q tgt lv st) (kf : x ≠ 0 → Z p l e R s m args below meth c nL D b N k cells slots Q (pc + 3) lv st) : Z p l e R s m args below meth c nL D b N k cells slots Q pc lv (.int (nI x) :: st) :=
  z_if_eq X d ht (fun q => kt ((nI_eq hx (show 0 < 2 ^ 31 by omega)).mp (q.trans nI_0.symm))) (fun q => kf (fun e => q (by rw [e]; exact nI_0)))
theorem z_icmp_ltN (X : zX p s m args meth c cc nL own ret Ts D tys b) {x y : Nat} {off : Int} {tgt : Nat} (d : decode cc pc = .ok (.if_icmp .lt off, 3)) (ht : (pc : Int) + off = (tgt : Int)) (hx : x < 2 ^ 31) (hy : y < 2 ^ 31) (kt : x < y → Z p l e R s m args below meth c nL D b N k cells slots Q tgt lv st) (kf : y ≤ x → Z p l e R s m args below meth c nL D b N k cells slots Q (pc + 3) lv st) : Z p l e R s m args below meth c nL D b N k cells slots Q pc lv (.int (nI y) :: .int (nI x) :: st) :=
  z_icmp_lt X d ht (fun q => kt ((nI_ltI hx hy).mp q)) (fun q => kf (Nat.not_lt.mp (fun e => q ((nI_ltI hx hy).mpr e))))
theorem z_if_ltN (X : zX p s m args meth c cc nL own ret Ts D tys b) {x : Nat} {off : Int} {tgt : Nat} (d : decode cc pc = .ok (.ifCond .lt off, 3)) (ht : (pc : Int) + off = (tgt : Int)) (hx : x < 2 ^ 31) (kt : x < 0 → Z p l e R s m args below meth c nL D b N k cells slots Q tgt lv st) (kf : 0 ≤ x → Z p l e R s m args below meth c nL D b N k cells slots Q (pc + 3) lv st) : Z p l e R s m args below meth c nL D b N k cells slots Q pc lv (.int (nI x) :: st) :=
  z_if_lt X d ht (fun q => kt ((nI_ltI hx (show 0 < 2 ^ 31 by omega)).mp (by rw [nI_0]; exact q))) (fun q => kf (Nat.not_lt.mp (fun e => q (by have := (nI_ltI hx (show 0 < 2 ^ 31 by omega)).mpr e; rw [nI_0] at this; exact this))))
theorem z_icmp_leN (X : zX p s m args meth c cc nL own ret Ts D tys b) {x y : Nat} {off : Int} {tgt : Nat} (d : decode cc pc = .ok (.if_icmp .le off, 3)) (ht : (pc : Int) + off = (tgt : Int)) (hx : x < 2 ^ 31) (hy : y < 2 ^ 31) (kt : x ≤ y → Z p l e R s m args below meth c nL D b N k cells slots Q tgt lv st) (kf : y < x → Z p l e R s m args below meth c nL D b N k cells slots Q (pc + 3) lv st) : Z p l e R s m args below meth c nL D b N k cells slots Q pc lv (.int (nI y) :: .int (nI x) :: st) :=
  z_icmp_le X d ht (fun q => kt ((nI_leI hx hy).mp q)) (fun q => kf (Nat.not_le.mp (fun e => q ((nI_leI hx hy).mpr e))))
theorem z_if_leN (X : zX p s m args meth c cc nL own ret Ts D tys b) {x : Nat} {off : Int} {tgt : Nat} (d : decode cc pc = .ok (.ifCond .le off, 3)) (ht : (pc : Int) + off = (tgt : Int)) (hx : x < 2 ^ 31) (kt : x ≤ 0 → Z p l e R s m args below meth c nL D b N k cells slots Q tgt lv st) (kf : 0 < x → Z p l e R s m args below meth c nL D b N k cells slots Q (pc + 3) lv st) : Z p l e R s m args below meth c nL D b N k cells slots Q pc lv (.int (nI x) :: st) :=
  z_if_le X d ht (fun q => kt ((nI_leI hx (show 0 < 2 ^ 31 by omega)).mp (by rw [nI_0]; exact q))) (fun q => kf (Nat.not_le.mp (fun e => q (by have := (nI_leI hx (show 0 < 2 ^ 31 by omega)).mpr e; rw [nI_0] at this; exact this))))
theorem z_icmp_geN (X : zX p s m args meth c cc nL own ret Ts D tys b) {x y : Nat} {off : Int} {tgt : Nat} (d : decode cc pc = .ok (.if_icmp .ge off, 3)) (ht : (pc : Int) + off = (tgt : Int)) (hx : x < 2 ^ 31) (hy : y < 2 ^ 31) (kt : y ≤ x → Z p l e R s m args below meth c nL D b N k cells slots Q tgt lv st) (kf : x < y → Z p l e R s m args below meth c nL D b N k cells slots Q (pc + 3) lv st) : Z p l e R s m args below meth c nL D b N k cells slots Q pc lv (.int (nI y) :: .int (nI x) :: st) :=
  z_icmp_ge X d ht (fun q => kt ((nI_leI hy hx).mp q)) (fun q => kf (Nat.not_le.mp (fun e => q ((nI_leI hy hx).mpr e))))
theorem z_if_geN (X : zX p s m args meth c cc nL own ret Ts D tys b) {x : Nat} {off : Int} {tgt : Nat} (d : decode cc pc = .ok (.ifCond .ge off, 3)) (ht : (pc : Int) + off = (tgt : Int)) (hx : x < 2 ^ 31) (kt : 0 ≤ x → Z p l e R s m args below meth c nL D b N k cells slots Q tgt lv st) (kf : x < 0 → Z p l e R s m args below meth c nL D b N k cells slots Q (pc + 3) lv st) : Z p l e R s m args below meth c nL D b N k cells slots Q pc lv (.int (nI x) :: st) :=
  z_if_ge X d ht (fun q => kt ((nI_leI (show 0 < 2 ^ 31 by omega) hx).mp (by rw [nI_0]; exact q))) (fun q => kf (Nat.not_le.mp (fun e => q (by have := (nI_leI (show 0 < 2 ^ 31 by omega) hx).mpr e; rw [nI_0] at this; exact this))))
theorem z_icmp_gtN (X : zX p s m args meth c cc nL own ret Ts D tys b) {x y : Nat} {off : Int} {tgt : Nat} (d : decode cc pc = .ok (.if_icmp .gt off, 3)) (ht : (pc : Int) + off = (tgt : Int)) (hx : x < 2 ^ 31) (hy : y < 2 ^ 31) (kt : y < x → Z p l e R s m args below meth c nL D b N k cells slots Q tgt lv st) (kf : x ≤ y → Z p l e R s m args below meth c nL D b N k cells slots Q (pc + 3) lv st) : Z p l e R s m args below meth c nL D b N k cells slots Q pc lv (.int (nI y) :: .int (nI x) :: st) :=
  z_icmp_gt X d ht (fun q => kt ((nI_ltI hy hx).mp q)) (fun q => kf (Nat.not_lt.mp (fun e => q ((nI_ltI hy hx).mpr e))))
theorem z_if_gtN (X : zX p s m args meth c cc nL own ret Ts D tys b) {x : Nat} {off : Int} {tgt : Nat} (d : decode cc pc = .ok (.ifCond .gt off, 3)) (ht : (pc : Int) + off = (tgt : Int)) (hx : x < 2 ^ 31) (kt : 0 < x → Z p l e R s m args below meth c nL D b N k cells slots Q tgt lv st) (kf : x ≤ 0 → Z p l e R s m args below meth c nL D b N k cells slots Q (pc + 3) lv st) : Z p l e R s m args below meth c nL D b N k cells slots Q pc lv (.int (nI x) :: st) :=
  z_if_gt X d ht (fun q => kt ((nI_ltI (show 0 < 2 ^ 31 by omega) hx).mp (by rw [nI_0]; exact q))) (fun q => kf (Nat.not_lt.mp (fun e => q (by have := (nI_ltI (show 0 < 2 ^ 31 by omega) hx).mpr e; rw [nI_0] at this; exact this))))
theorem z_icmp_neN (X : zX p s m args meth c cc nL own ret Ts D tys b) {x y : Nat} {off : Int} {tgt : Nat} (d : decode cc pc = .ok (.if_icmp .ne off, 3)) (ht : (pc : Int) + off = (tgt : Int)) (hx : x < 2 ^ 31) (hy : y < 2 ^ 31) (kt : x ≠ y → Z p l e R s m args below meth c nL D b N k cells slots Q tgt lv st) (kf : x = y → Z p l e R s m args below meth c nL D b N k cells slots Q (pc + 3) lv st) : Z p l e R s m args below meth c nL D b N k cells slots Q pc lv (.int (nI y) :: .int (nI x) :: st) :=
  z_icmp_ne X d ht (fun q => kt (fun e => q (by rw [e]))) (fun q => kf ((nI_eq hx hy).mp q))
theorem z_if_neN (X : zX p s m args meth c cc nL own ret Ts D tys b) {x : Nat} {off : Int} {tgt : Nat} (d : decode cc pc = .ok (.ifCond .ne off, 3)) (ht : (pc : Int) + off = (tgt : Int)) (hx : x < 2 ^ 31) (kt : x ≠ 0 → Z p l e R s m args below meth c nL D b N k cells slots Q tgt lv st) (kf : x = 0 → Z p l e R s m args below meth c nL D b N k cells slots Q (pc + 3) lv st) : Z p l e R s m args below meth c nL D b N k cells slots Q pc lv (.int (nI x) :: st) :=
  z_if_ne X d ht (fun q => kt (fun e => q (by rw [e]; exact nI_0))) (fun q => kf ((nI_eq hx (show 0 < 2 ^ 31 by omega)).mp (q.trans nI_0.symm)))
/-- counting up to e: what holds at the head, a step, the end -/
theorem z_loop {σ : Type} (K : Nat → σ → Nat → va_E) (LV : Nat → σ → List (Option Value)) (I : Nat → σ → Prop) (e2 i0 : Nat) (s0 : σ) (h0 : i0 ≤ e2) (hi : I i0 s0) (hk : k = K i0 s0) (hlv : lv = LV i0 s0) (hx : ∀ s1, I e2 s1 → Z p l e R s m args below meth c nL D b N (K e2 s1) cells slots Q pc (LV e2 s1) st) (hs : ∀ i s1, i < e2 → I i s1 → (∀ s2, I (i + 1) s2 → Z p l e R s m args below meth c nL D b N (K (i + 1) s2) cells slots Q pc (LV (i + 1) s2) st) → Z p l e R s m args below meth c nL D b N (K i s1) cells slots Q pc (LV i s1) st) : Z p l e R s m args below meth c nL D b N k cells slots Q pc lv st := by
  subst hk
  subst hlv
  exact z_up (P := fun i => ∀ s1, I i s1 → Z p l e R s m args below meth c nL D b N (K i s1) cells slots Q pc (LV i s1) st) e2 hx (fun i hi ih s1 h1 => hs i s1 hi h1 ih) i0 h0 s0 hi
/-- counting down to 0 -/
theorem z_loopD {σ : Type} (K : Nat → σ → Nat → va_E) (LV : Nat → σ → List (Option Value)) (I : Nat → σ → Prop) (i0 : Nat) (s0 : σ) (hi : I i0 s0) (hk : k = K i0 s0) (hlv : lv = LV i0 s0) (hx : ∀ s1, I 0 s1 → Z p l e R s m args below meth c nL D b N (K 0 s1) cells slots Q pc (LV 0 s1) st) (hs : ∀ i s1, I (i + 1) s1 → (∀ s2, I i s2 → Z p l e R s m args below meth c nL D b N (K i s2) cells slots Q pc (LV i s2) st) → Z p l e R s m args below meth c nL D b N (K (i + 1) s1) cells slots Q pc (LV (i + 1) s1) st) : Z p l e R s m args below meth c nL D b N k cells slots Q pc lv st := by
  subst hk
  subst hlv
  exact z_dn (P := fun i => ∀ s1, I i s1 → Z p l e R s m args below meth c nL D b N (K i s1) cells slots Q pc (LV i s1) st) hx (fun i ih s1 h1 => hs i s1 h1 ih) i0 s0 hi
/-- arrive at a state that is the same up to rewriting -/
theorem z_at {k2 : Nat → va_E} {lv2 : List (Option Value)} (kk : Z p l e R s m args below meth c nL D b N k2 cells slots Q pc lv2 st) (hk : k = k2) (hlv : lv = lv2) : Z p l e R s m args below meth c nL D b N k cells slots Q pc lv st := by
  subst hk
  subst hlv
  exact kk
end ZR
/-- a contract out of a walk from its entry -/
theorem z_met {l : Launch} {y : MethodName} {ws ws2 : List Cond} {rm : Room} {D : va_G} {tys : List (ClassId × FieldType)} {b N : Nat} {k : Nat → va_E} {av : List Value} {Qc : Array Value → State → Outcome → State → Prop} {mc ms : Nat} {cc : ByteArray} {maxL : Nat} {ret : Option FieldType} {own : String} (hy : plainName y.cls = true) (hyc : y.cls = own) (hw : ws = Cond.code y cc maxL ret :: ws2) (hlen : (lg_sl av).length ≤ maxL) (lv : List (Option Value)) (hl : zp 0 lv = lv_args 0 av)
    (body : ∀ (p : Program) (e : Env) (s : State) (m : MethodId) (args : Array Value) (below : List Frame) (meth : Method) (c : Code), zX p s m args meth c cc maxL own ret ws D tys b → meth.name = y.name → Z p l e (headSpec ws rm).room s m args below meth c maxL D b N k 0 0 (MQ below Qc args s mc ms (zA b)) 0 lv []) : Met l y ws rm (zPc D tys b N k av) Qc mc ms (zA b) := by
  refine Met.ofW (cc := cc) (maxL := maxL) (ret := ret) hy hw ?_
  intro p e s m args below meth c s₁ B hml hv
  obtain ⟨rfl, hsz, hP, hK, hN⟩ := hv
  have hts := atoms_spec (ws := ws) B.pre
  have hown : s.vm.findClass own = some m.cls := hyc ▸ findClass_of_methodNamed B.named
  have h4 := lv_entry av (n := maxL) hlen
  rw [lg_entry_eq]
  generalize (lg_sl av ++ List.replicate (maxL - (lg_sl av).length) Slot.unset).toArray = ls at h4 ⊢
  rw [← hl] at h4
  exact body p e s m _ below meth c ⟨⟨B.exec, B.bytes, hml, hown, hts⟩, hK, B.returns, B.notSynchronized, by omega, hN⟩ (name_of_methodNamed B.named B.method).1 s.heap [] ls hsz hP va_S.rf h4
end
section
/-! Pure: counting, ranks, picks -/
def ct (P : Nat → Bool) : Nat → Nat
  | 0 => 0
  | n + 1 => ct P n + (if P n = true then 1 else 0)
theorem ct_le (P : Nat → Bool) : ∀ n, ct P n ≤ n
  | 0 => Nat.le_refl _
  | n + 1 => by
    have := ct_le P n
    simp only [ct]
    split <;> omega
theorem ct_congr {P Q : Nat → Bool} : ∀ n, (∀ v, v < n → P v = Q v) → ct P n = ct Q n
  | 0, _ => rfl
  | n + 1, h => by
    simp only [ct]
    rw [ct_congr n (fun v hv => h v (by omega)), h n (by omega)]
theorem ct_mono {P Q : Nat → Bool} : ∀ n, (∀ v, v < n → P v = true → Q v = true) → ct P n ≤ ct Q n
  | 0, _ => Nat.le_refl _
  | n + 1, h => by
    have h1 := ct_mono n (fun v hv => h v (by omega))
    have h2 := h n (by omega)
    simp only [ct]
    by_cases hP : P n = true
    · simp [hP, h2 hP]; omega
    · simp [hP]; omega
theorem ct_lt {P Q : Nat → Bool} {x : Nat} : ∀ n, (∀ v, v < n → P v = true → Q v = true) → x < n → P x = false → Q x = true → ct P n < ct Q n
  | 0, _, hx, _, _ => by omega
  | n + 1, h, hx, hp, hq => by
    have h1 := ct_mono n (fun v hv => h v (by omega))
    simp only [ct]
    by_cases hxn : x = n
    · subst hxn
      simp [hp, hq]; omega
    · have h3 := ct_lt n (fun v hv => h v (by omega)) (by omega) hp hq
      have h2 := h n (by omega)
      by_cases hP : P n = true
      · simp [hP, h2 hP]; omega
      · simp [hP]; omega
theorem ct_add {P Q : Nat → Bool} {x : Nat} : ∀ n, (∀ v, v < n → v ≠ x → Q v = P v) → x < n → P x = false → Q x = true → ct Q n = ct P n + 1
  | 0, _, hx, _, _ => by omega
  | n + 1, h, hx, hp, hq => by
    simp only [ct]
    by_cases hxn : x = n
    · subst hxn
      rw [ct_congr x (fun v hv => h v (by omega) (by omega))]
      simp [hp, hq]
    · rw [ct_add n (fun v hv => h v (by omega)) (by omega) hp hq, h n (by omega) (Ne.symm hxn)]
      omega
theorem ct_all {P : Nat → Bool} : ∀ n, (∀ v, v < n → P v = true) → ct P n = n
  | 0, _ => rfl
  | n + 1, h => by
    simp only [ct]
    rw [ct_all n (fun v hv => h v (by omega)), h n (by omega)]
    simp
theorem ct_0 {P : Nat → Bool} : ∀ n, (∀ v, v < n → P v = false) → ct P n = 0
  | 0, _ => rfl
  | n + 1, h => by
    simp only [ct]
    rw [ct_0 n (fun v hv => h v (by omega)), h n (by omega)]
    simp
/-- v stands before x -/
def pb (f : Nat → Int32) (x v : Nat) : Bool := decide (f x < f v) || (decide (f v = f x) && decide (v < x))
theorem pb_iff {f : Nat → Int32} {x v : Nat} : pb f x v = true ↔ (f x).toInt < (f v).toInt ∨ ((f v).toInt = (f x).toInt ∧ v < x) := by
  simp only [pb, Bool.or_eq_true, Bool.and_eq_true, decide_eq_true_eq, Int32.lt_iff_toInt_lt, ← Int32.toInt_inj]
def rank (f : Nat → Int32) (x : Nat) : Nat := ct (pb f x) 32
def cn (f : Nat → Int32) : Nat := ct (fun v => decide (0 < f v)) 32
theorem rank_lt (f : Nat → Int32) {x y : Nat} (hx : x < 32) (h : pb f y x = true) : rank f x < rank f y := by
  refine ct_lt (x := x) 32 (fun v hv hp => ?_) hx ?_ h
  · have h1 := pb_iff.mp h
    have h2 := pb_iff.mp hp
    exact pb_iff.mpr (by omega)
  · cases hq : pb f x x with
    | false => rfl
    | true => have := pb_iff.mp hq; omega
theorem rank_inj (f : Nat → Int32) {x y : Nat} (hx : x < 32) (hy : y < 32) (h : rank f x = rank f y) : x = y := by
  by_cases h1 : pb f y x = true
  · have := rank_lt f hx h1; omega
  · by_cases h2 : pb f x y = true
    · have := rank_lt f hy h2; omega
    · rw [pb_iff] at h1 h2; omega
theorem rank_32 (f : Nat → Int32) {x : Nat} (hx : x < 32) : rank f x < 32 := by
  have h1 : ct (pb f x) 32 < ct (fun _ => true) 32 := by
    refine ct_lt (x := x) 32 (fun _ _ _ => rfl) hx ?_ rfl
    cases hq : pb f x x with
    | false => rfl
    | true => have := pb_iff.mp hq; omega
  have h2 := ct_all (P := fun _ => true) 32 (fun _ _ => rfl)
  unfold rank
  omega
/-- the first of the greatest that aren't used -/
def gu (u : Nat → Bool) (f : Nat → Int32) : Nat → Option Nat
  | 0 => none
  | v + 1 => match gu u f v with
    | none => if u v = true then none else some v
    | some x => if u v = false ∧ f x < f v then some v else some x
theorem gu_spec (u : Nat → Bool) (f : Nat → Int32) : ∀ n, (gu u f n = none → ∀ v, v < n → u v = true) ∧ ∀ x, gu u f n = some x → x < n ∧ u x = false ∧ ∀ v, v < n → u v = false → v ≠ x → pb f v x = true
  | 0 => ⟨fun _ v hv => by omega, fun x h => by simp [gu] at h⟩
  | n + 1 => by
    obtain ⟨h1, h2⟩ := gu_spec u f n
    cases hg : gu u f n with
    | none =>
      have h1 := h1 hg
      cases hu : u n with
      | true =>
        have e : gu u f (n + 1) = none := by simp [gu, hg, hu]
        rw [e]
        refine ⟨fun _ v hv => ?_, fun x h => by cases h⟩
        by_cases hvn : v = n
        · subst hvn; exact hu
        · exact h1 v (by omega)
      | false =>
        have e : gu u f (n + 1) = some n := by simp [gu, hg, hu]
        rw [e]
        refine ⟨fun h => by cases h, fun x h => ?_⟩
        cases h
        refine ⟨by omega, hu, fun v hv hv1 hne => ?_⟩
        have := h1 v (by omega)
        rw [this] at hv1
        cases hv1
    | some x =>
      obtain ⟨a1, a2, a3⟩ := h2 x hg
      by_cases hc : u n = false ∧ f x < f n
      · have e : gu u f (n + 1) = some n := by simp [gu, hg, hc]
        rw [e]
        refine ⟨fun h => by cases h, fun y h => ?_⟩
        cases h
        have hlt := Int32.lt_iff_toInt_lt.mp hc.2
        refine ⟨by omega, hc.1, fun v hv hv1 hne => ?_⟩
        by_cases hvx : v = x
        · subst hvx
          exact pb_iff.mpr (by omega)
        · have := pb_iff.mp (a3 v (by omega) hv1 hvx)
          exact pb_iff.mpr (by omega)
      · have e : gu u f (n + 1) = some x := by simp [gu, hg, hc]
        rw [e]
        refine ⟨fun h => by cases h, fun y h => ?_⟩
        cases h
        refine ⟨by omega, a2, fun v hv hv1 hne => ?_⟩
        by_cases hvn : v = n
        · subst hvn
          have hlt : ¬ f x < f v := fun q => hc ⟨hv1, q⟩
          rw [Int32.lt_iff_toInt_lt] at hlt
          exact pb_iff.mpr (by omega)
        · exact a3 v (by omega) hv1 hne
/-- what is used after q picks -/
def pu (f : Nat → Int32) : Nat → Nat → Bool
  | 0 => fun _ => false
  | q + 1 => fun v => pu f q v || decide (gu (pu f q) f 32 = some v)
theorem pu_inv (f : Nat → Int32) : ∀ q, q ≤ 32 → ct (pu f q) 32 = q ∧ ∀ u v, u < 32 → v < 32 → pu f q u = true → pu f q v = false → pb f v u = true
  | 0, _ => ⟨ct_0 32 (fun _ _ => rfl), fun u v _ _ h _ => by simp [pu] at h⟩
  | q + 1, hq => by
    obtain ⟨h1, h2⟩ := pu_inv f q (by omega)
    obtain ⟨g1, g2⟩ := gu_spec (pu f q) f 32
    cases hg : gu (pu f q) f 32 with
    | none =>
      have := ct_all 32 (g1 hg)
      omega
    | some x =>
      obtain ⟨a1, a2, a3⟩ := g2 x hg
      have e : ∀ v, pu f (q + 1) v = (pu f q v || decide (v = x)) := by
        intro v
        simp only [pu, hg, Option.some.injEq]
        rw [show (x = v) = (v = x) from propext ⟨Eq.symm, Eq.symm⟩]
      refine ⟨?_, fun u v hu hv p1 p2 => ?_⟩
      · rw [ct_add (P := pu f q) (Q := pu f (q + 1)) (x := x) 32 (fun v _ hne => by rw [e]; simp [hne]) a1 a2 (by rw [e]; simp), h1]
      · rw [e] at p1 p2
        have q2 : pu f q v = false ∧ v ≠ x := by simpa using p2
        have q1 : pu f q u = true ∨ u = x := by simpa using p1
        rcases q1 with q1 | q1
        · exact h2 u v hu hv q1 q2.1
        · subst q1
          exact a3 v hv q2.1 q2.2
theorem pick (f : Nat → Int32) {q : Nat} (hq : q < 32) : ∃ x, gu (pu f q) f 32 = some x ∧ x < 32 ∧ rank f x = q ∧ pu f q x = false := by
  obtain ⟨h1, h2⟩ := pu_inv f q (by omega)
  obtain ⟨g1, g2⟩ := gu_spec (pu f q) f 32
  cases hg : gu (pu f q) f 32 with
  | none =>
    have := ct_all 32 (g1 hg)
    omega
  | some x =>
    obtain ⟨a1, a2, a3⟩ := g2 x hg
    refine ⟨x, rfl, a1, ?_, a2⟩
    rw [← h1]
    refine ct_congr 32 (fun v hv => ?_)
    cases hu : pu f q v with
    | true => exact h2 v x hv a1 hu a2
    | false =>
      cases hb : pb f x v with
      | false => rfl
      | true =>
        have e1 := pb_iff.mp hb
        by_cases hvx : v = x
        · subst hvx; omega
        · have e2 := pb_iff.mp (a3 v hv hu hvx)
          omega
theorem pick_pos (f : Nat → Int32) {x q : Nat} (hx : x < 32) (hr : rank f x = q) : q < cn f ↔ 0 < f x := by
  constructor
  · intro h
    by_cases hp : 0 < f x
    · exact hp
    · exfalso
      have h1 : cn f ≤ rank f x := by
        refine ct_mono 32 (fun v hv hv1 => ?_)
        have e1 : 0 < f v := by simpa using hv1
        rw [Int32.lt_iff_toInt_lt] at e1 hp
        exact pb_iff.mpr (by omega)
      omega
  · intro hp
    have h1 : rank f x < cn f := by
      refine ct_lt (x := x) 32 (fun v hv hv1 => ?_) hx ?_ (by simpa using hp)
      · have e1 := pb_iff.mp hv1
        have e2 := hp
        rw [Int32.lt_iff_toInt_lt] at e2
        have e3 : (0 : Int32) < f v := by rw [Int32.lt_iff_toInt_lt]; omega
        simpa using e3
      · cases hb : pb f x x with
        | false => rfl
        | true => have := pb_iff.mp hb; omega
    omega
/-- the first value with a counter and that rank, from 32 - n on -/
def vr (f : Nat → Int32) (r : Int32) : Nat → Int32
  | 0 => -1
  | n + 1 => if 0 < f (31 - n) ∧ nI (rank f (31 - n)) = r then nI (31 - n) else vr f r n
theorem vr_pick (f : Nat → Int32) {x q : Nat} (hq : q < 32) (hx : x < 32) (hr : rank f x = q) : ∀ n, n ≤ 32 → vr f (nI q) n = if 32 - n ≤ x ∧ 0 < f x then nI x else -1
  | 0, _ => by rw [if_neg (by omega)]; rfl
  | n + 1, hn => by
    have ih := vr_pick f hq hx hr n (by omega)
    have hv : 31 - n < 32 := by omega
    have hk : nI (rank f (31 - n)) = nI q ↔ 31 - n = x := by
      rw [nI_eq (by have := rank_32 f hv; omega) (by omega)]
      constructor
      · intro h
        exact rank_inj f hv hx (h.trans hr.symm)
      · intro h
        rw [h]; exact hr
    simp only [vr, hk]
    by_cases hc : 31 - n = x
    · subst hc
      by_cases hp : 0 < f (31 - n)
      · rw [if_pos ⟨hp, rfl⟩, if_pos ⟨by omega, hp⟩]
      · rw [if_neg (fun h => hp h.1), ih, if_neg (fun h => hp h.2), if_neg (fun h => hp h.2)]
    · rw [if_neg (fun h => hc h.2), ih]
      by_cases hp : 0 < f x
      · by_cases hlt : 32 - n ≤ x
        · rw [if_pos ⟨hlt, hp⟩, if_pos ⟨by omega, hp⟩]
        · rw [if_neg (fun h => hlt h.1), if_neg (fun h => hlt (by omega))]
      · rw [if_neg (fun h => hp h.2), if_neg (fun h => hp h.2)]
theorem vr_none (f : Nat → Int32) {r : Int32} (h : ∀ v, v < 32 → nI (rank f v) ≠ r) : ∀ n, n ≤ 32 → vr f r n = -1
  | 0, _ => rfl
  | n + 1, hn => by
    simp only [vr]
    rw [if_neg (fun q => h (31 - n) (by omega) q.2)]
    exact vr_none f h n (by omega)
theorem vr_neg (f : Nat → Int32) {q : Nat} (hq : q < 32) : vr f (nI q) 32 < 0 ↔ cn f ≤ q := by
  obtain ⟨x, -, hx, hr, -⟩ := pick f hq
  rw [vr_pick f hq hx hr 32 (Nat.le_refl _)]
  have hp := pick_pos f hx hr
  by_cases h : 0 < f x
  · rw [if_pos ⟨by omega, h⟩]
    have h1 := hp.mpr h
    have h2 := nI_pos (n := x) (by omega)
    constructor
    · intro q; exact absurd q h2
    · intro q; omega
  · rw [if_neg (fun q => h q.2)]
    have h1 : ¬ q < cn f := fun q => h (hp.mp q)
    constructor
    · intro _; omega
    · intro _; decide
end
section
/-! Pure: the digest and its passes -/
def sm (h : Nat → Nat) : Nat → Nat
  | 0 => 0
  | n + 1 => sm h n + h n
theorem sm_congr {h g : Nat → Nat} : ∀ n, (∀ r, r < n → h r = g r) → sm h n = sm g n
  | 0, _ => rfl
  | n + 1, hh => by
    simp only [sm]
    rw [sm_congr n (fun r hr => hh r (by omega)), hh n (by omega)]
theorem sm_up {h : Nat → Nat} {i x : Nat} : ∀ n, i < n → sm (va_up h i x) n + h i = sm h n + x
  | 0, hi => by omega
  | n + 1, hi => by
    simp only [sm]
    by_cases hin : i = n
    · subst hin
      rw [sm_congr (h := va_up h i x) (g := h) i (fun r hr => by simp [va_up, Nat.ne_of_lt hr])]
      simp [va_up]
      omega
    · have ih := sm_up (h := h) (i := i) (x := x) n (by omega)
      have e : va_up h i x n = h n := by simp [va_up, Ne.symm hin]
      rw [e]
      omega
theorem sm_le {h : Nat → Nat} {i : Nat} : ∀ n, i < n → h i ≤ sm h n
  | 0, hi => by omega
  | n + 1, hi => by
    simp only [sm]
    by_cases hin : i = n
    · subst hin; omega
    · have := sm_le (h := h) (i := i) n (by omega); omega
theorem sm_mono {h g : Nat → Nat} : ∀ n, (∀ r, r < n → h r ≤ g r) → sm h n ≤ sm g n
  | 0, _ => Nat.le_refl _
  | n + 1, hh => by
    simp only [sm]
    have := sm_mono n (fun r hr => hh r (by omega))
    have := hh n (by omega)
    omega
theorem sm_add {h g : Nat → Nat} : ∀ n, sm (fun r => h r + g r) n = sm h n + sm g n
  | 0 => rfl
  | n + 1 => by
    simp only [sm]
    rw [sm_add n]
    omega
theorem sm_0 {h : Nat → Nat} : ∀ n, (∀ r, r < n → h r = 0) → sm h n = 0
  | 0, _ => rfl
  | n + 1, hh => by
    simp only [sm]
    rw [sm_0 n (fun r hr => hh r (by omega)), hh n (by omega)]
/-- one range of a pass -/
def bl (g : Nat → Int32) (r : Nat) : Int32 := g (2 * r) + g (2 * r + 1)
def pok (t : Int32) (g : Nat → Int32) (r : Nat) : Bool := decide (0 < bl g r) && decide (g r + bl g r ≤ t)
def pst (g : Nat → Int32) (r : Nat) : Nat → Int32 := upd (upd (upd g r (g r + bl g r)) (2 * r) 0) (2 * r + 1) 0
/-- the ranges r, r - 1, .., 1 -/
def ps (t : Int32) : Nat → (Nat → Int32) → Bool → (Nat → Int32) × Bool
  | 0, g, ch => (g, ch)
  | r + 1, g, ch => if pok t g (r + 1) = true then ps t r (pst g (r + 1)) true else ps t r g ch
/-- passes, at most n -/
def cpr (t : Int32) : Nat → (Nat → Int32) → Nat → Int32
  | 0, g => g
  | n + 1, g => if (ps t 31 g false).2 = true then cpr t n (ps t 31 g false).1 else (ps t 31 g false).1
/-- no count is negative, and their sum is n -/
def dok (g : Nat → Int32) (h : Nat → Nat) (n : Nat) : Prop := (∀ r, r < 64 → g r = nI (h r)) ∧ sm h 64 = n
def wt (h : Nat → Nat) (r : Nat) : Nat := if h r = 0 then 0 else Nat.log2 r
def mu (h : Nat → Nat) : Nat := sm (wt h) 64
theorem log2_half : ∀ r, r < 32 → 1 ≤ r → Nat.log2 (2 * r) = Nat.log2 r + 1 ∧ Nat.log2 (2 * r + 1) = Nat.log2 r + 1 := by decide +kernel
def psth (h : Nat → Nat) (r : Nat) : Nat → Nat := va_up (va_up (va_up h r (h r + (h (2 * r) + h (2 * r + 1)))) (2 * r) 0) (2 * r + 1) 0
theorem pst_dok {g : Nat → Int32} {h : Nat → Nat} {n r : Nat} (hd : dok g h n) (hn : n < 2 ^ 29) (h1 : 1 ≤ r) (h2 : r < 32) (hb : 0 < bl g r) : dok (pst g r) (psth h r) n ∧ mu (psth h r) < mu h := by
  obtain ⟨hg, hs⟩ := hd
  have e0 := hg r (by omega)
  have e1 := hg (2 * r) (by omega)
  have e2 := hg (2 * r + 1) (by omega)
  have ebl : bl g r = nI (h (2 * r) + h (2 * r + 1)) := by unfold bl; rw [e1, e2, nI_add]
  have l1 := sm_le (h := h) (i := 2 * r) 64 (by omega)
  have l2 := sm_le (h := h) (i := 2 * r + 1) 64 (by omega)
  have hpos : 0 < h (2 * r) + h (2 * r + 1) := by
    rw [ebl] at hb
    have h0 : nI 0 < nI (h (2 * r) + h (2 * r + 1)) := by rw [nI_0]; exact hb
    exact (nI_ltI (by omega) (by omega)).mp h0
  refine ⟨⟨fun q hq => ?_, ?_⟩, ?_⟩
  · simp only [pst, psth, upd, va_up]
    by_cases q1 : q = 2 * r + 1
    · simp [q1, nI_0]
    · by_cases q2 : q = 2 * r
      · simp [q2, nI_0]
      · by_cases q3 : q = r
        · simp [q1, q2, q3, e0, ebl, nI_add]
          have a1 : ¬ r = 2 * r + 1 := by omega
          have a2 : ¬ r = 2 * r := by omega
          simp [a1, a2]
        · simp [q1, q2, q3, hg q hq]
  · have a1 := sm_up (h := va_up (va_up h r (h r + (h (2 * r) + h (2 * r + 1)))) (2 * r) 0) (i := 2 * r + 1) (x := 0) 64 (by omega)
    have a2 := sm_up (h := va_up h r (h r + (h (2 * r) + h (2 * r + 1)))) (i := 2 * r) (x := 0) 64 (by omega)
    have a3 := sm_up (h := h) (i := r) (x := h r + (h (2 * r) + h (2 * r + 1))) 64 (by omega)
    have b1 : va_up (va_up h r (h r + (h (2 * r) + h (2 * r + 1)))) (2 * r) 0 (2 * r + 1) = h (2 * r + 1) := by
      have c1 : ¬ 2 * r + 1 = 2 * r := by omega
      have c2 : ¬ 2 * r + 1 = r := by omega
      simp [va_up, c1, c2]
    have b2 : va_up h r (h r + (h (2 * r) + h (2 * r + 1))) (2 * r) = h (2 * r) := by
      have c2 : ¬ 2 * r = r := by omega
      simp [va_up, c2]
    rw [b1] at a1
    rw [b2] at a2
    unfold psth
    omega
  · obtain ⟨g1, g2⟩ := log2_half r h2 h1
    have ew : ∀ q, q < 64 → wt (psth h r) q = va_up (va_up (va_up (wt h) r (Nat.log2 r)) (2 * r) 0) (2 * r + 1) 0 q := by
      intro q hq
      simp only [wt, psth, va_up]
      by_cases q1 : q = 2 * r + 1
      · simp [q1]
      · by_cases q2 : q = 2 * r
        · simp [q2]
        · by_cases q3 : q = r
          · have a1 : ¬ r = 2 * r + 1 := by omega
            have a2 : ¬ r = 2 * r := by omega
            have a3 : ¬ (h r + (h (2 * r) + h (2 * r + 1)) = 0) := by omega
            simp [q3, a1, a2, a3]
          · simp [q1, q2, q3]
    have a1 := sm_up (h := va_up (va_up (wt h) r (Nat.log2 r)) (2 * r) 0) (i := 2 * r + 1) (x := 0) 64 (by omega)
    have a2 := sm_up (h := va_up (wt h) r (Nat.log2 r)) (i := 2 * r) (x := 0) 64 (by omega)
    have a3 := sm_up (h := wt h) (i := r) (x := Nat.log2 r) 64 (by omega)
    have b1 : va_up (va_up (wt h) r (Nat.log2 r)) (2 * r) 0 (2 * r + 1) = wt h (2 * r + 1) := by
      have c1 : ¬ 2 * r + 1 = 2 * r := by omega
      have c2 : ¬ 2 * r + 1 = r := by omega
      simp [va_up, c1, c2]
    have b2 : va_up (wt h) r (Nat.log2 r) (2 * r) = wt h (2 * r) := by
      have c2 : ¬ 2 * r = r := by omega
      simp [va_up, c2]
    rw [b1] at a1
    rw [b2] at a2
    have hw : Nat.log2 r + 1 ≤ wt h (2 * r) + wt h (2 * r + 1) := by
      unfold wt
      by_cases z1 : h (2 * r) = 0
      · have z2 : ¬ h (2 * r + 1) = 0 := by omega
        simp [z1, z2, g2]
      · simp [z1, g1]
        omega
    unfold mu
    rw [sm_congr 64 ew]
    omega
theorem ps_dok {t : Int32} {n : Nat} (hn : n < 2 ^ 29) : ∀ (r : Nat) (g : Nat → Int32) (h : Nat → Nat) (ch : Bool), r < 32 → dok g h n → ∃ h2, dok (ps t r g ch).1 h2 n ∧ mu h2 ≤ mu h ∧ ((ps t r g ch).2 = true → ch = true ∨ mu h2 < mu h)
  | 0, g, h, ch, _, hd => ⟨h, hd, Nat.le_refl _, fun q => Or.inl q⟩
  | r + 1, g, h, ch, hr, hd => by
    simp only [ps]
    by_cases hp : pok t g (r + 1) = true
    · rw [if_pos hp]
      have hb : 0 < bl g (r + 1) := by
        simp only [pok, Bool.and_eq_true, decide_eq_true_eq] at hp
        exact hp.1
      obtain ⟨d1, d2⟩ := pst_dok hd hn (by omega) hr hb
      obtain ⟨h2, e1, e2, e3⟩ := ps_dok hn r (pst g (r + 1)) (psth h (r + 1)) true (by omega) d1
      exact ⟨h2, e1, by omega, fun _ => Or.inr (by omega)⟩
    · rw [if_neg hp]
      exact ps_dok hn r g h ch (by omega) hd
theorem ps_same {t : Int32} : ∀ (r : Nat) (g : Nat → Int32), (ps t r g true).2 = true
  | 0, g => rfl
  | r + 1, g => by
    simp only [ps]
    split
    · exact ps_same r _
    · exact ps_same r g
theorem cpr_stop {t : Int32} {n : Nat} (hn : n < 2 ^ 29) : ∀ (i j : Nat) (g : Nat → Int32) (h : Nat → Nat), dok g h n → mu h < i → mu h < j → cpr t i g = cpr t j g
  | 0, j, g, h, _, hi, _ => by omega
  | i + 1, 0, g, h, _, _, hj => by omega
  | i + 1, j + 1, g, h, hd, hi, hj => by
    simp only [cpr]
    by_cases hc : (ps t 31 g false).2 = true
    · rw [if_pos hc, if_pos hc]
      obtain ⟨h2, e1, e2, e3⟩ := ps_dok (t := t) hn 31 g h false (by omega) hd
      rcases e3 hc with e3 | e3
      · cases e3
      · exact cpr_stop hn i j _ h2 e1 (by omega) (by omega)
    · rw [if_neg hc, if_neg hc]
theorem mu_le (h : Nat → Nat) : mu h ≤ 258 := by
  have h1 : sm (wt h) 64 ≤ sm Nat.log2 64 := sm_mono 64 (fun r _ => by unfold wt; split <;> omega)
  have h2 : sm Nat.log2 64 = 258 := by decide +kernel
  unfold mu
  omega
theorem cpr_dok {t : Int32} {n : Nat} (hn : n < 2 ^ 29) : ∀ (i : Nat) (g : Nat → Int32) (h : Nat → Nat), dok g h n → ∃ h2, dok (cpr t i g) h2 n
  | 0, g, h, hd => ⟨h, hd⟩
  | i + 1, g, h, hd => by
    obtain ⟨h2, e1, e2, e3⟩ := ps_dok (t := t) hn 31 g h false (by omega) hd
    simp only [cpr]
    split
    · exact cpr_dok hn i _ h2 e1
    · exact ⟨h2, e1⟩
/-- 4096 passes or 4000: the same -/
theorem cpr_both {t : Int32} {n : Nat} {g : Nat → Int32} {h : Nat → Nat} (hn : n < 2 ^ 29) (hd : dok g h n) : cpr t 4096 g = cpr t 4000 g := by
  have := mu_le h
  exact cpr_stop hn 4096 4000 g h hd (by omega) (by omega)
end
