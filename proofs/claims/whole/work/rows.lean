section
-- ===== PART A: goes FIRST, ahead of the names: the tables' words, and 'selects' of the private methods out of them =====
/-- a private method of a class that the tables say can be made, by its rows of tables_1 -/
def lw_okq (q : MethodName × Nat) : Prop := (q.1.cls ≠ "java/lang/invoke/MethodHandle" ∧ q.1.cls ≠ "java/lang/invoke/VarHandle") ∧ Cond.instantiable q.1.cls q.2 ∈ tables_1 ∧ Cond.privateMethod q.1 ∈ tables_1 ∧ Cond.instanceMethod q.1 ∈ tables_1
theorem lw_p0 : lw_okq (⟨"TelemetryTree", "isNode", "(I)Z"⟩, 4) := ⟨⟨by decide +kernel, by decide +kernel⟩, List.mem_of_getElem? (i := 10) (by decide +kernel), List.mem_of_getElem? (i := 175) (by decide +kernel), List.mem_of_getElem? (i := 176) (by decide +kernel)⟩
theorem lw_p1 : lw_okq (⟨"TelemetryTree", "isLeaf", "(I)Z"⟩, 4) := ⟨⟨by decide +kernel, by decide +kernel⟩, List.mem_of_getElem? (i := 10) (by decide +kernel), List.mem_of_getElem? (i := 183) (by decide +kernel), List.mem_of_getElem? (i := 184) (by decide +kernel)⟩
theorem lw_p2 : lw_okq (⟨"TelemetryTree", "forgetChildren", "(I)V"⟩, 4) := ⟨⟨by decide +kernel, by decide +kernel⟩, List.mem_of_getElem? (i := 10) (by decide +kernel), List.mem_of_getElem? (i := 250) (by decide +kernel), List.mem_of_getElem? (i := 251) (by decide +kernel)⟩
theorem lw_p3 : lw_okq (⟨"TelemetryTree", "mergeKept", "(I)V"⟩, 4) := ⟨⟨by decide +kernel, by decide +kernel⟩, List.mem_of_getElem? (i := 10) (by decide +kernel), List.mem_of_getElem? (i := 254) (by decide +kernel), List.mem_of_getElem? (i := 255) (by decide +kernel)⟩
theorem lw_p4 : lw_okq (⟨"TelemetryTree", "freeSlot", "()I"⟩, 4) := ⟨⟨by decide +kernel, by decide +kernel⟩, List.mem_of_getElem? (i := 10) (by decide +kernel), List.mem_of_getElem? (i := 286) (by decide +kernel), List.mem_of_getElem? (i := 287) (by decide +kernel)⟩
theorem lw_p5 : lw_okq (⟨"TelemetryTree", "slotWithNumber", "(I)I"⟩, 4) := ⟨⟨by decide +kernel, by decide +kernel⟩, List.mem_of_getElem? (i := 10) (by decide +kernel), List.mem_of_getElem? (i := 290) (by decide +kernel), List.mem_of_getElem? (i := 291) (by decide +kernel)⟩
theorem lw_p6 : lw_okq (⟨"TelemetryTree", "slotOf", "(I)I"⟩, 4) := ⟨⟨by decide +kernel, by decide +kernel⟩, List.mem_of_getElem? (i := 10) (by decide +kernel), List.mem_of_getElem? (i := 309) (by decide +kernel), List.mem_of_getElem? (i := 310) (by decide +kernel)⟩
theorem lw_p7 : lw_okq (⟨"TelemetryTreeModel", "isNode", "(I)Z"⟩, 22) := ⟨⟨by decide +kernel, by decide +kernel⟩, List.mem_of_getElem? (i := 391) (by decide +kernel), List.mem_of_getElem? (i := 469) (by decide +kernel), List.mem_of_getElem? (i := 470) (by decide +kernel)⟩
theorem lw_p8 : lw_okq (⟨"TelemetryTreeModel", "leafNode", "(I)Z"⟩, 22) := ⟨⟨by decide +kernel, by decide +kernel⟩, List.mem_of_getElem? (i := 391) (by decide +kernel), List.mem_of_getElem? (i := 477) (by decide +kernel), List.mem_of_getElem? (i := 478) (by decide +kernel)⟩
theorem lw_p9 : lw_okq (⟨"TelemetryTreeModel", "writeBlock", "(I)V"⟩, 22) := ⟨⟨by decide +kernel, by decide +kernel⟩, List.mem_of_getElem? (i := 391) (by decide +kernel), List.mem_of_getElem? (i := 481) (by decide +kernel), List.mem_of_getElem? (i := 482) (by decide +kernel)⟩
theorem lw_p10 : lw_okq (⟨"TelemetryTreeModel", "freePlace", "()I"⟩, 22) := ⟨⟨by decide +kernel, by decide +kernel⟩, List.mem_of_getElem? (i := 391) (by decide +kernel), List.mem_of_getElem? (i := 497) (by decide +kernel), List.mem_of_getElem? (i := 498) (by decide +kernel)⟩
theorem lw_p11 : lw_okq (⟨"TelemetryTreeModel", "know", "(I)V"⟩, 22) := ⟨⟨by decide +kernel, by decide +kernel⟩, List.mem_of_getElem? (i := 391) (by decide +kernel), List.mem_of_getElem? (i := 501) (by decide +kernel), List.mem_of_getElem? (i := 502) (by decide +kernel)⟩
theorem lw_p12 : lw_okq (⟨"TelemetryTreeModel", "placeOf", "(I)I"⟩, 22) := ⟨⟨by decide +kernel, by decide +kernel⟩, List.mem_of_getElem? (i := 391) (by decide +kernel), List.mem_of_getElem? (i := 509) (by decide +kernel), List.mem_of_getElem? (i := 510) (by decide +kernel)⟩
theorem lw_p13 : lw_okq (⟨"TelemetryTreeModel", "work", "(I)V"⟩, 22) := ⟨⟨by decide +kernel, by decide +kernel⟩, List.mem_of_getElem? (i := 391) (by decide +kernel), List.mem_of_getElem? (i := 546) (by decide +kernel), List.mem_of_getElem? (i := 547) (by decide +kernel)⟩
theorem lw_p14 : lw_okq (⟨"TelemetryTreeModel", "clear", "(I)V"⟩, 22) := ⟨⟨by decide +kernel, by decide +kernel⟩, List.mem_of_getElem? (i := 391) (by decide +kernel), List.mem_of_getElem? (i := 550) (by decide +kernel), List.mem_of_getElem? (i := 551) (by decide +kernel)⟩
theorem lw_p15 : lw_okq (⟨"TelemetryTreeModel", "take", "(II)V"⟩, 22) := ⟨⟨by decide +kernel, by decide +kernel⟩, List.mem_of_getElem? (i := 391) (by decide +kernel), List.mem_of_getElem? (i := 554) (by decide +kernel), List.mem_of_getElem? (i := 555) (by decide +kernel)⟩
def lw_privs_1 : List (MethodName × Nat) := [(⟨"TelemetryTree", "isNode", "(I)Z"⟩, 4), (⟨"TelemetryTree", "isLeaf", "(I)Z"⟩, 4), (⟨"TelemetryTree", "forgetChildren", "(I)V"⟩, 4), (⟨"TelemetryTree", "mergeKept", "(I)V"⟩, 4), (⟨"TelemetryTree", "freeSlot", "()I"⟩, 4), (⟨"TelemetryTree", "slotWithNumber", "(I)I"⟩, 4), (⟨"TelemetryTree", "slotOf", "(I)I"⟩, 4), (⟨"TelemetryTreeModel", "isNode", "(I)Z"⟩, 22), (⟨"TelemetryTreeModel", "leafNode", "(I)Z"⟩, 22), (⟨"TelemetryTreeModel", "writeBlock", "(I)V"⟩, 22), (⟨"TelemetryTreeModel", "freePlace", "()I"⟩, 22), (⟨"TelemetryTreeModel", "know", "(I)V"⟩, 22), (⟨"TelemetryTreeModel", "placeOf", "(I)I"⟩, 22), (⟨"TelemetryTreeModel", "work", "(I)V"⟩, 22), (⟨"TelemetryTreeModel", "clear", "(I)V"⟩, 22), (⟨"TelemetryTreeModel", "take", "(II)V"⟩, 22)]
theorem lw_r1 : ∀ q ∈ lw_privs_1, lw_okq q := List.forall_mem_cons.mpr ⟨lw_p0, List.forall_mem_cons.mpr ⟨lw_p1, List.forall_mem_cons.mpr ⟨lw_p2, List.forall_mem_cons.mpr ⟨lw_p3, List.forall_mem_cons.mpr ⟨lw_p4, List.forall_mem_cons.mpr ⟨lw_p5, List.forall_mem_cons.mpr ⟨lw_p6, List.forall_mem_cons.mpr ⟨lw_p7, List.forall_mem_cons.mpr ⟨lw_p8, List.forall_mem_cons.mpr ⟨lw_p9, List.forall_mem_cons.mpr ⟨lw_p10, List.forall_mem_cons.mpr ⟨lw_p11, List.forall_mem_cons.mpr ⟨lw_p12, List.forall_mem_cons.mpr ⟨lw_p13, List.forall_mem_cons.mpr ⟨lw_p14, List.forall_mem_cons.mpr ⟨lw_p15, fun _ h => absurd h List.not_mem_nil⟩⟩⟩⟩⟩⟩⟩⟩⟩⟩⟩⟩⟩⟩⟩⟩
theorem lw_p16 : lw_okq (⟨"TelemetryTreeModel", "counters", "(I)I"⟩, 22) := ⟨⟨by decide +kernel, by decide +kernel⟩, List.mem_of_getElem? (i := 391) (by decide +kernel), List.mem_of_getElem? (i := 558) (by decide +kernel), List.mem_of_getElem? (i := 559) (by decide +kernel)⟩
theorem lw_p17 : lw_okq (⟨"TelemetryTreeModel", "lower", "(II)V"⟩, 22) := ⟨⟨by decide +kernel, by decide +kernel⟩, List.mem_of_getElem? (i := 391) (by decide +kernel), List.mem_of_getElem? (i := 562) (by decide +kernel), List.mem_of_getElem? (i := 563) (by decide +kernel)⟩
theorem lw_p18 : lw_okq (⟨"TelemetryTreeModel", "compress", "(I)V"⟩, 22) := ⟨⟨by decide +kernel, by decide +kernel⟩, List.mem_of_getElem? (i := 391) (by decide +kernel), List.mem_of_getElem? (i := 566) (by decide +kernel), List.mem_of_getElem? (i := 567) (by decide +kernel)⟩
theorem lw_p19 : lw_okq (⟨"TelemetryTreeModel", "merge", "(II)V"⟩, 22) := ⟨⟨by decide +kernel, by decide +kernel⟩, List.mem_of_getElem? (i := 391) (by decide +kernel), List.mem_of_getElem? (i := 570) (by decide +kernel), List.mem_of_getElem? (i := 571) (by decide +kernel)⟩
theorem lw_p20 : lw_okq (⟨"TelemetryTreeModel", "clearUsed", "()V"⟩, 22) := ⟨⟨by decide +kernel, by decide +kernel⟩, List.mem_of_getElem? (i := 391) (by decide +kernel), List.mem_of_getElem? (i := 574) (by decide +kernel), List.mem_of_getElem? (i := 575) (by decide +kernel)⟩
theorem lw_p21 : lw_okq (⟨"TelemetryTreeModel", "greatestUnused", "(I)I"⟩, 22) := ⟨⟨by decide +kernel, by decide +kernel⟩, List.mem_of_getElem? (i := 391) (by decide +kernel), List.mem_of_getElem? (i := 578) (by decide +kernel), List.mem_of_getElem? (i := 579) (by decide +kernel)⟩
def lw_privs_2 : List (MethodName × Nat) := [(⟨"TelemetryTreeModel", "counters", "(I)I"⟩, 22), (⟨"TelemetryTreeModel", "lower", "(II)V"⟩, 22), (⟨"TelemetryTreeModel", "compress", "(I)V"⟩, 22), (⟨"TelemetryTreeModel", "merge", "(II)V"⟩, 22), (⟨"TelemetryTreeModel", "clearUsed", "()V"⟩, 22), (⟨"TelemetryTreeModel", "greatestUnused", "(I)I"⟩, 22)]
theorem lw_r2 : ∀ q ∈ lw_privs_2, lw_okq q := List.forall_mem_cons.mpr ⟨lw_p16, List.forall_mem_cons.mpr ⟨lw_p17, List.forall_mem_cons.mpr ⟨lw_p18, List.forall_mem_cons.mpr ⟨lw_p19, List.forall_mem_cons.mpr ⟨lw_p20, List.forall_mem_cons.mpr ⟨lw_p21, fun _ h => absurd h List.not_mem_nil⟩⟩⟩⟩⟩⟩
def lw_privs : List (MethodName × Nat) := lw_privs_1 ++ (lw_privs_2)
def lw_tbl : List Cond := k2_sels lw_privs ++ tables_1
theorem lw_privs_ok : ∀ q ∈ lw_privs, lw_okq q := by
  show ∀ q ∈ lw_privs_1 ++ (lw_privs_2), lw_okq q
  exact List.forall_mem_append.mpr ⟨lw_r1, lw_r2⟩
def R_C : String := "TelemetryTree$Counters"
def F_C : u_T := fun k => match k with
  | 0 => ("TelemetryTree$Counters", "limit", "I", true)
  | _ => ("TelemetryTree$Counters", "counts", "[I", true)
def ty_C : Nat → FieldType := fun k => match k with
  | 0 => .int
  | _ => .array .int
theorem n_C : ∀ a, a < 2 → ∀ b, b < 2 → a ≠ b → (F_C a).2.1 ≠ (F_C b).2.1 := by decide +kernel
theorem ty_C_ok : ∀ k, k < 2 → parseFieldDescriptor (F_C k).2.2.1 = some (ty_C k) := by decide +kernel
def R_D : String := "TelemetryTree$Digest"
def F_D : u_T := fun k => match k with
  | 0 => ("TelemetryTree$Digest", "divisor", "I", true)
  | _ => ("TelemetryTree$Digest", "counts", "[I", true)
def ty_D : Nat → FieldType := fun k => match k with
  | 0 => .int
  | _ => .array .int
theorem n_D : ∀ a, a < 2 → ∀ b, b < 2 → a ≠ b → (F_D a).2.1 ≠ (F_D b).2.1 := by decide +kernel
theorem ty_D_ok : ∀ k, k < 2 → parseFieldDescriptor (F_D k).2.2.1 = some (ty_D k) := by decide +kernel
def R_M : String := "TelemetryTree$Message"
def F_M : u_T := fun k => match k with
  | 0 => ("TelemetryTree$Message", "number", "I", false)
  | 1 => ("TelemetryTree$Message", "sender", "I", false)
  | 2 => ("TelemetryTree$Message", "version", "I", false)
  | _ => ("TelemetryTree$Message", "summary", "LTelemetryTree$Summary;", true)
def ty_M : Nat → FieldType := fun k => match k with
  | 0 => .int
  | 1 => .int
  | 2 => .int
  | _ => .object "TelemetryTree$Summary"
theorem n_M : ∀ a, a < 4 → ∀ b, b < 4 → a ≠ b → (F_M a).2.1 ≠ (F_M b).2.1 := by decide +kernel
theorem ty_M_ok : ∀ k, k < 4 → parseFieldDescriptor (F_M k).2.2.1 = some (ty_M k) := by decide +kernel
def R_N : String := "TelemetryTree$Node"
def F_N : u_T := fun k => match k with
  | 0 => ("TelemetryTree$Node", "number", "I", true)
  | 1 => ("TelemetryTree$Node", "parent", "I", false)
  | 2 => ("TelemetryTree$Node", "leaf", "Z", false)
  | 3 => ("TelemetryTree$Node", "open", "[I", true)
  | 4 => ("TelemetryTree$Node", "openCount", "I", false)
  | 5 => ("TelemetryTree$Node", "reports", "I", false)
  | 6 => ("TelemetryTree$Node", "summary", "LTelemetryTree$Summary;", true)
  | 7 => ("TelemetryTree$Node", "kept", "LTelemetryTree$Summary;", true)
  | _ => ("TelemetryTree$Node", "keptVersion", "I", false)
def ty_N : Nat → FieldType := fun k => match k with
  | 0 => .int
  | 1 => .int
  | 2 => .boolean
  | 3 => .array .int
  | 4 => .int
  | 5 => .int
  | 6 => .object "TelemetryTree$Summary"
  | 7 => .object "TelemetryTree$Summary"
  | _ => .int
theorem n_N : ∀ a, a < 9 → ∀ b, b < 9 → a ≠ b → (F_N a).2.1 ≠ (F_N b).2.1 := by decide +kernel
theorem ty_N_ok : ∀ k, k < 9 → parseFieldDescriptor (F_N k).2.2.1 = some (ty_N k) := by decide +kernel
def R_S : String := "TelemetryTree$Summary"
def F_S : u_T := fun k => match k with
  | 0 => ("TelemetryTree$Summary", "n", "I", false)
  | 1 => ("TelemetryTree$Summary", "itemSum", "J", false)
  | 2 => ("TelemetryTree$Summary", "least", "I", false)
  | 3 => ("TelemetryTree$Summary", "greatest", "I", false)
  | 4 => ("TelemetryTree$Summary", "fromLeaf", "[I", true)
  | 5 => ("TelemetryTree$Summary", "counters", "LTelemetryTree$Counters;", true)
  | _ => ("TelemetryTree$Summary", "digest", "LTelemetryTree$Digest;", true)
def ty_S : Nat → FieldType := fun k => match k with
  | 0 => .int
  | 1 => .long
  | 2 => .int
  | 3 => .int
  | 4 => .array .int
  | 5 => .object "TelemetryTree$Counters"
  | _ => .object "TelemetryTree$Digest"
theorem n_S : ∀ a, a < 7 → ∀ b, b < 7 → a ≠ b → (F_S a).2.1 ≠ (F_S b).2.1 := by decide +kernel
theorem ty_S_ok : ∀ k, k < 7 → parseFieldDescriptor (F_S k).2.2.1 = some (ty_S k) := by decide +kernel
def R_T : String := "TelemetryTree"
def F_T : u_T := fun k => match k with
  | 0 => ("TelemetryTree", "nodes", "[LTelemetryTree$Node;", true)
  | 1 => ("TelemetryTree", "nodeCount", "I", false)
  | 2 => ("TelemetryTree", "slots", "[LTelemetryTree$Message;", true)
  | _ => ("TelemetryTree", "lastMessage", "I", false)
def ty_T : Nat → FieldType := fun k => match k with
  | 0 => .array (.object "TelemetryTree$Node")
  | 1 => .int
  | 2 => .array (.object "TelemetryTree$Message")
  | _ => .int
theorem n_T : ∀ a, a < 4 → ∀ b, b < 4 → a ≠ b → (F_T a).2.1 ≠ (F_T b).2.1 := by decide +kernel
theorem ty_T_ok : ∀ k, k < 4 → parseFieldDescriptor (F_T k).2.2.1 = some (ty_T k) := by decide +kernel
def R_R : String := "TelemetryTreeModel"
def F_R : u_T := fun k => match k with
  | 0 => ("TelemetryTreeModel", "k", "I", false)
  | 1 => ("TelemetryTreeModel", "d", "I", false)
  | 2 => ("TelemetryTreeModel", "nodes", "I", false)
  | 3 => ("TelemetryTreeModel", "up", "[I", false)
  | 4 => ("TelemetryTreeModel", "isLeaf", "[Z", false)
  | 5 => ("TelemetryTreeModel", "reports", "[I", false)
  | 6 => ("TelemetryTreeModel", "journal", "[I", false)
  | 7 => ("TelemetryTreeModel", "written", "[I", false)
  | 8 => ("TelemetryTreeModel", "open", "[I", false)
  | 9 => ("TelemetryTreeModel", "opened", "[I", false)
  | 10 => ("TelemetryTreeModel", "keptVersion", "[I", false)
  | 11 => ("TelemetryTreeModel", "kept", "[I", false)
  | 12 => ("TelemetryTreeModel", "messages", "I", false)
  | 13 => ("TelemetryTreeModel", "number", "[I", false)
  | 14 => ("TelemetryTreeModel", "sender", "[I", false)
  | 15 => ("TelemetryTreeModel", "version", "[I", false)
  | 16 => ("TelemetryTreeModel", "carried", "[I", false)
  | 17 => ("TelemetryTreeModel", "known", "[I", false)
  | 18 => ("TelemetryTreeModel", "n", "[I", false)
  | 19 => ("TelemetryTreeModel", "counter", "[I", false)
  | 20 => ("TelemetryTreeModel", "digest", "[I", false)
  | _ => ("TelemetryTreeModel", "used", "[Z", false)
def ty_R : Nat → FieldType := fun k => match k with
  | 0 => .int
  | 1 => .int
  | 2 => .int
  | 3 => .array .int
  | 4 => .array .boolean
  | 5 => .array .int
  | 6 => .array .int
  | 7 => .array .int
  | 8 => .array .int
  | 9 => .array .int
  | 10 => .array .int
  | 11 => .array .int
  | 12 => .int
  | 13 => .array .int
  | 14 => .array .int
  | 15 => .array .int
  | 16 => .array .int
  | 17 => .array .int
  | 18 => .array .int
  | 19 => .array .int
  | 20 => .array .int
  | _ => .array .boolean
theorem n_R : ∀ a, a < 22 → ∀ b, b < 22 → a ≠ b → (F_R a).2.1 ≠ (F_R b).2.1 := by decide +kernel
theorem ty_R_ok : ∀ k, k < 22 → parseFieldDescriptor (F_R k).2.2.1 = some (ty_R k) := by decide +kernel
def R_L : String := "TelemetryTreeLaw"
abbrev classes : List vw_C := [(R_C, F_C, 2), (R_D, F_D, 2), (R_M, F_M, 4), (R_N, F_N, 9), (R_S, F_S, 7), (R_T, F_T, 4), (R_R, F_R, 22)]
abbrev b_T_init : ByteArray := prog_1_method_1_code
def y_T_init : MethodName := ⟨R_T, "<init>", "(II)V"⟩
abbrev b_T_attach : ByteArray := prog_1_method_2_code
def y_T_attach : MethodName := ⟨R_T, "attach", "(IZ)I"⟩
abbrev b_T_add : ByteArray := prog_1_method_3_code
def y_T_add : MethodName := ⟨R_T, "add", "(II)Z"⟩
abbrev b_T_flush : ByteArray := prog_1_method_4_code
def y_T_flush : MethodName := ⟨R_T, "flush", "(I)I"⟩
abbrev b_T_crash : ByteArray := prog_1_method_5_code
def y_T_crash : MethodName := ⟨R_T, "crash", "(I)Z"⟩
abbrev b_T_report : ByteArray := prog_1_method_6_code
def y_T_report : MethodName := ⟨R_T, "report", "(I)I"⟩
abbrev b_T_copy : ByteArray := prog_1_method_7_code
def y_T_copy : MethodName := ⟨R_T, "copy", "(I)I"⟩
abbrev b_T_drop : ByteArray := prog_1_method_8_code
def y_T_drop : MethodName := ⟨R_T, "drop", "(I)Z"⟩
abbrev b_T_deliver : ByteArray := prog_1_method_9_code
def y_T_deliver : MethodName := ⟨R_T, "deliver", "(I)I"⟩
abbrev b_T_onTheWay : ByteArray := prog_1_method_10_code
def y_T_onTheWay : MethodName := ⟨R_T, "onTheWay", "()I"⟩
abbrev b_T_total : ByteArray := prog_1_method_11_code
def y_T_total : MethodName := ⟨R_T, "total", "(I)I"⟩
abbrev b_T_sum : ByteArray := prog_1_method_12_code
def y_T_sum : MethodName := ⟨R_T, "sum", "(I)J"⟩
abbrev b_T_extreme : ByteArray := prog_1_method_13_code
def y_T_extreme : MethodName := ⟨R_T, "extreme", "(IZ)I"⟩
abbrev b_T_covered : ByteArray := prog_1_method_14_code
def y_T_covered : MethodName := ⟨R_T, "covered", "(II)I"⟩
abbrev b_T_estimate : ByteArray := prog_1_method_15_code
def y_T_estimate : MethodName := ⟨R_T, "estimate", "(II)I"⟩
abbrev b_T_top : ByteArray := prog_1_method_16_code
def y_T_top : MethodName := ⟨R_T, "top", "(II)I"⟩
abbrev b_T_digestSize : ByteArray := prog_1_method_17_code
def y_T_digestSize : MethodName := ⟨R_T, "digestSize", "(I)I"⟩
abbrev b_T_below : ByteArray := prog_1_method_18_code
def y_T_below : MethodName := ⟨R_T, "below", "(IIZ)I"⟩
abbrev b_T_quantile : ByteArray := prog_1_method_19_code
def y_T_quantile : MethodName := ⟨R_T, "quantile", "(II)I"⟩
abbrev b_T_isNode : ByteArray := prog_1_method_20_code
def y_T_isNode : MethodName := ⟨R_T, "isNode", "(I)Z"⟩
abbrev b_T_isLeaf : ByteArray := prog_1_method_21_code
def y_T_isLeaf : MethodName := ⟨R_T, "isLeaf", "(I)Z"⟩
abbrev b_T_isValue : ByteArray := prog_1_method_22_code
def y_T_isValue : MethodName := ⟨R_T, "isValue", "(I)Z"⟩
abbrev b_T_slotOf : ByteArray := prog_1_method_23_code
def y_T_slotOf : MethodName := ⟨R_T, "slotOf", "(I)I"⟩
abbrev b_T_freeSlot : ByteArray := prog_1_method_24_code
def y_T_freeSlot : MethodName := ⟨R_T, "freeSlot", "()I"⟩
abbrev b_T_slotWithNumber : ByteArray := prog_1_method_25_code
def y_T_slotWithNumber : MethodName := ⟨R_T, "slotWithNumber", "(I)I"⟩
abbrev b_T_forgetChildren : ByteArray := prog_1_method_26_code
def y_T_forgetChildren : MethodName := ⟨R_T, "forgetChildren", "(I)V"⟩
abbrev b_T_mergeKept : ByteArray := prog_1_method_27_code
def y_T_mergeKept : MethodName := ⟨R_T, "mergeKept", "(I)V"⟩
abbrev b_T_clear : ByteArray := prog_1_method_28_code
def y_T_clear : MethodName := ⟨R_T, "clear", "([I)V"⟩
abbrev b_T_overwrite : ByteArray := prog_1_method_29_code
def y_T_overwrite : MethodName := ⟨R_T, "overwrite", "([I[I)V"⟩
abbrev b_T_addTo : ByteArray := prog_1_method_30_code
def y_T_addTo : MethodName := ⟨R_T, "addTo", "([I[I)V"⟩
abbrev b_R_init : ByteArray := prog_8_method_1_code
def y_R_init : MethodName := ⟨R_R, "<init>", "(II)V"⟩
abbrev b_R_isNode : ByteArray := prog_8_method_2_code
def y_R_isNode : MethodName := ⟨R_R, "isNode", "(I)Z"⟩
abbrev b_R_leafNode : ByteArray := prog_8_method_3_code
def y_R_leafNode : MethodName := ⟨R_R, "leafNode", "(I)Z"⟩
abbrev b_R_attach : ByteArray := prog_8_method_4_code
def y_R_attach : MethodName := ⟨R_R, "attach", "(IZ)I"⟩
abbrev b_R_add : ByteArray := prog_8_method_5_code
def y_R_add : MethodName := ⟨R_R, "add", "(II)Z"⟩
abbrev b_R_writeBlock : ByteArray := prog_8_method_6_code
def y_R_writeBlock : MethodName := ⟨R_R, "writeBlock", "(I)V"⟩
abbrev b_R_flush : ByteArray := prog_8_method_7_code
def y_R_flush : MethodName := ⟨R_R, "flush", "(I)I"⟩
abbrev b_R_crash : ByteArray := prog_8_method_8_code
def y_R_crash : MethodName := ⟨R_R, "crash", "(I)Z"⟩
abbrev b_R_placeOf : ByteArray := prog_8_method_9_code
def y_R_placeOf : MethodName := ⟨R_R, "placeOf", "(I)I"⟩
abbrev b_R_freePlace : ByteArray := prog_8_method_10_code
def y_R_freePlace : MethodName := ⟨R_R, "freePlace", "()I"⟩
abbrev b_R_report : ByteArray := prog_8_method_11_code
def y_R_report : MethodName := ⟨R_R, "report", "(I)I"⟩
abbrev b_R_copy : ByteArray := prog_8_method_12_code
def y_R_copy : MethodName := ⟨R_R, "copy", "(I)I"⟩
abbrev b_R_drop : ByteArray := prog_8_method_13_code
def y_R_drop : MethodName := ⟨R_R, "drop", "(I)Z"⟩
abbrev b_R_deliver : ByteArray := prog_8_method_14_code
def y_R_deliver : MethodName := ⟨R_R, "deliver", "(I)I"⟩
abbrev b_R_onTheWay : ByteArray := prog_8_method_15_code
def y_R_onTheWay : MethodName := ⟨R_R, "onTheWay", "()I"⟩
abbrev b_R_know : ByteArray := prog_8_method_16_code
def y_R_know : MethodName := ⟨R_R, "know", "(I)V"⟩
abbrev b_R_work : ByteArray := prog_8_method_17_code
def y_R_work : MethodName := ⟨R_R, "work", "(I)V"⟩
abbrev b_R_clear : ByteArray := prog_8_method_18_code
def y_R_clear : MethodName := ⟨R_R, "clear", "(I)V"⟩
abbrev b_R_counters : ByteArray := prog_8_method_19_code
def y_R_counters : MethodName := ⟨R_R, "counters", "(I)I"⟩
abbrev b_R_lower : ByteArray := prog_8_method_20_code
def y_R_lower : MethodName := ⟨R_R, "lower", "(II)V"⟩
abbrev b_R_take : ByteArray := prog_8_method_21_code
def y_R_take : MethodName := ⟨R_R, "take", "(II)V"⟩
abbrev b_R_merge : ByteArray := prog_8_method_22_code
def y_R_merge : MethodName := ⟨R_R, "merge", "(II)V"⟩
abbrev b_R_clearUsed : ByteArray := prog_8_method_23_code
def y_R_clearUsed : MethodName := ⟨R_R, "clearUsed", "()V"⟩
abbrev b_R_greatestUnused : ByteArray := prog_8_method_24_code
def y_R_greatestUnused : MethodName := ⟨R_R, "greatestUnused", "(I)I"⟩
abbrev b_R_compress : ByteArray := prog_8_method_25_code
def y_R_compress : MethodName := ⟨R_R, "compress", "(I)V"⟩
abbrev b_R_total : ByteArray := prog_8_method_26_code
def y_R_total : MethodName := ⟨R_R, "total", "(I)I"⟩
abbrev b_R_sum : ByteArray := prog_8_method_27_code
def y_R_sum : MethodName := ⟨R_R, "sum", "(I)J"⟩
abbrev b_R_extreme : ByteArray := prog_8_method_28_code
def y_R_extreme : MethodName := ⟨R_R, "extreme", "(IZ)I"⟩
abbrev b_R_covered : ByteArray := prog_8_method_29_code
def y_R_covered : MethodName := ⟨R_R, "covered", "(II)I"⟩
abbrev b_R_estimate : ByteArray := prog_8_method_30_code
def y_R_estimate : MethodName := ⟨R_R, "estimate", "(II)I"⟩
abbrev b_R_top : ByteArray := prog_8_method_31_code
def y_R_top : MethodName := ⟨R_R, "top", "(II)I"⟩
abbrev b_R_digestSize : ByteArray := prog_8_method_32_code
def y_R_digestSize : MethodName := ⟨R_R, "digestSize", "(I)I"⟩
abbrev b_R_width : ByteArray := prog_8_method_33_code
def y_R_width : MethodName := ⟨R_R, "width", "(I)I"⟩
abbrev b_R_least : ByteArray := prog_8_method_34_code
def y_R_least : MethodName := ⟨R_R, "least", "(I)I"⟩
abbrev b_R_below : ByteArray := prog_8_method_35_code
def y_R_below : MethodName := ⟨R_R, "below", "(IIZ)I"⟩
abbrev b_R_quantile : ByteArray := prog_8_method_36_code
def y_R_quantile : MethodName := ⟨R_R, "quantile", "(II)I"⟩
abbrev b_C_init : ByteArray := prog_2_method_1_code
def y_C_init : MethodName := ⟨R_C, "<init>", "(I)V"⟩
abbrev b_C_take : ByteArray := prog_2_method_2_code
def y_C_take : MethodName := ⟨R_C, "take", "(I)V"⟩
abbrev b_C_merge : ByteArray := prog_2_method_3_code
def y_C_merge : MethodName := ⟨R_C, "merge", "(LTelemetryTree$Counters;)V"⟩
abbrev b_C_lowerAll : ByteArray := prog_2_method_4_code
def y_C_lowerAll : MethodName := ⟨R_C, "lowerAll", "(I)V"⟩
abbrev b_C_valueAtRank : ByteArray := prog_2_method_5_code
def y_C_valueAtRank : MethodName := ⟨R_C, "valueAtRank", "(I)I"⟩
abbrev b_C_rankOf : ByteArray := prog_2_method_6_code
def y_C_rankOf : MethodName := ⟨R_C, "rankOf", "(I)I"⟩
abbrev b_D_init : ByteArray := prog_3_method_1_code
def y_D_init : MethodName := ⟨R_D, "<init>", "(I)V"⟩
abbrev b_D_take : ByteArray := prog_3_method_2_code
def y_D_take : MethodName := ⟨R_D, "take", "(II)V"⟩
abbrev b_D_merge : ByteArray := prog_3_method_3_code
def y_D_merge : MethodName := ⟨R_D, "merge", "(LTelemetryTree$Digest;I)V"⟩
abbrev b_D_compress : ByteArray := prog_3_method_4_code
def y_D_compress : MethodName := ⟨R_D, "compress", "(I)V"⟩
abbrev b_D_pass : ByteArray := prog_3_method_5_code
def y_D_pass : MethodName := ⟨R_D, "pass", "(I)Z"⟩
abbrev b_D_rangesInUse : ByteArray := prog_3_method_6_code
def y_D_rangesInUse : MethodName := ⟨R_D, "rangesInUse", "()I"⟩
abbrev b_D_endingBefore : ByteArray := prog_3_method_7_code
def y_D_endingBefore : MethodName := ⟨R_D, "endingBefore", "(I)I"⟩
abbrev b_D_startingBefore : ByteArray := prog_3_method_8_code
def y_D_startingBefore : MethodName := ⟨R_D, "startingBefore", "(I)I"⟩
abbrev b_D_endingAt : ByteArray := prog_3_method_9_code
def y_D_endingAt : MethodName := ⟨R_D, "endingAt", "(I)I"⟩
abbrev b_D_startingAt : ByteArray := prog_3_method_10_code
def y_D_startingAt : MethodName := ⟨R_D, "startingAt", "(I)I"⟩
abbrev b_D_valueReaching : ByteArray := prog_3_method_11_code
def y_D_valueReaching : MethodName := ⟨R_D, "valueReaching", "(I)I"⟩
abbrev b_M_init : ByteArray := prog_4_method_1_code
def y_M_init : MethodName := ⟨R_M, "<init>", "(II)V"⟩
abbrev b_M_send : ByteArray := prog_4_method_2_code
def y_M_send : MethodName := ⟨R_M, "send", "(IIILTelemetryTree$Summary;)V"⟩
abbrev b_N_init : ByteArray := prog_5_method_1_code
def y_N_init : MethodName := ⟨R_N, "<init>", "(III)V"⟩
abbrev b_N_itemCount : ByteArray := prog_5_method_2_code
def y_N_itemCount : MethodName := ⟨R_N, "itemCount", "()I"⟩
abbrev b_N_putIntoOpenBlock : ByteArray := prog_5_method_3_code
def y_N_putIntoOpenBlock : MethodName := ⟨R_N, "putIntoOpenBlock", "(I)V"⟩
abbrev b_N_writeOpenBlock : ByteArray := prog_5_method_4_code
def y_N_writeOpenBlock : MethodName := ⟨R_N, "writeOpenBlock", "()I"⟩
abbrev b_S_init : ByteArray := prog_6_method_1_code
def y_S_init : MethodName := ⟨R_S, "<init>", "(II)V"⟩
abbrev b_S_makeEmpty : ByteArray := prog_6_method_2_code
def y_S_makeEmpty : MethodName := ⟨R_S, "makeEmpty", "()V"⟩
abbrev b_S_setTo : ByteArray := prog_6_method_3_code
def y_S_setTo : MethodName := ⟨R_S, "setTo", "(LTelemetryTree$Summary;)V"⟩
abbrev b_S_take : ByteArray := prog_6_method_4_code
def y_S_take : MethodName := ⟨R_S, "take", "(II)V"⟩
abbrev b_S_merge : ByteArray := prog_6_method_5_code
def y_S_merge : MethodName := ⟨R_S, "merge", "(LTelemetryTree$Summary;)V"⟩
abbrev b_S_widen : ByteArray := prog_6_method_6_code
def y_S_widen : MethodName := ⟨R_S, "widen", "(II)V"⟩
abbrev b_L_cell : ByteArray := method_2_code
def y_L_cell : MethodName := ⟨R_L, "cell", "([II)I"⟩
/-- the words of the tables that any state keeps -/
def WG : List Cond := lw_tbl.filter goodWord
theorem wq {x w : Cond} (h : w ∈ WG) : w ∈ x :: WG := List.mem_cons_of_mem _ h
theorem wg1 {w : Cond} (h : w ∈ tables_1_1) (hg : goodWord w = true) : w ∈ WG := List.mem_filter.mpr ⟨List.mem_append_right _ (List.mem_append_left _ h), hg⟩
theorem wg2 {w : Cond} (h : w ∈ tables_1_2) (hg : goodWord w = true) : w ∈ WG := List.mem_filter.mpr ⟨List.mem_append_right _ (List.mem_append_right _ (List.mem_append_left _ h)), hg⟩
theorem wg3 {w : Cond} (h : w ∈ tables_1_3) (hg : goodWord w = true) : w ∈ WG := List.mem_filter.mpr ⟨List.mem_append_right _ (List.mem_append_right _ (List.mem_append_right _ h)), hg⟩
theorem vn_L : Cond.initialized R_L ∈ WG := wg1 (List.mem_of_getElem? (i := 0) rfl) rfl
theorem vn_T : Cond.initialized R_T ∈ WG := wg1 (List.mem_of_getElem? (i := 1) rfl) rfl
theorem vn_Math : Cond.initialized "java/lang/Math" ∈ WG := wg1 (List.mem_of_getElem? (i := 2) rfl) rfl
theorem vn_N : Cond.initialized R_N ∈ WG := wg1 (List.mem_of_getElem? (i := 3) rfl) rfl
theorem vn_S : Cond.initialized R_S ∈ WG := wg1 (List.mem_of_getElem? (i := 4) rfl) rfl
theorem vn_C : Cond.initialized R_C ∈ WG := wg1 (List.mem_of_getElem? (i := 5) rfl) rfl
theorem vn_D : Cond.initialized R_D ∈ WG := wg1 (List.mem_of_getElem? (i := 6) rfl) rfl
theorem vn_M : Cond.initialized R_M ∈ WG := wg1 (List.mem_of_getElem? (i := 7) rfl) rfl
theorem vn_R : Cond.initialized R_R ∈ WG := wg1 (List.mem_of_getElem? (i := 8) rfl) rfl
theorem lc_L_7 : Cond.classLink R_L 7 R_T ∈ WG := wg1 (List.mem_of_getElem? (i := 9) rfl) rfl
theorem vm_T : Cond.instantiable R_T 4 ∈ WG := wg1 (List.mem_of_getElem? (i := 10) rfl) rfl
theorem lm_L_15 : Cond.methodLink R_L 15 y_T_init ∈ WG := wg1 (List.mem_of_getElem? (i := 11) rfl) rfl
theorem vi_T_init : Cond.instanceMethod y_T_init ∈ WG := wg1 (List.mem_of_getElem? (i := 12) rfl) rfl
theorem vc_T_init : Cond.code y_T_init b_T_init 6 none ∈ WG := wg1 (List.mem_of_getElem? (i := 13) rfl) rfl
theorem lm_T_1 : Cond.methodLink R_T 1 objectInit ∈ WG := wg1 (List.mem_of_getElem? (i := 14) rfl) rfl
theorem vi_O : Cond.instanceMethod objectInit ∈ WG := wg1 (List.mem_of_getElem? (i := 15) rfl) rfl
theorem vc_O : Cond.code objectInit ⟨#[0xb1]⟩ 1 none ∈ WG := wg1 (List.mem_of_getElem? (i := 16) rfl) rfl
theorem lc_T_9 : Cond.classLink R_T 9 R_N ∈ WG := wg1 (List.mem_of_getElem? (i := 17) rfl) rfl
theorem lc_T_19 : Cond.classLink R_T 19 R_M ∈ WG := wg1 (List.mem_of_getElem? (i := 19) rfl) rfl
theorem lm_T_28 : Cond.methodLink R_T 28 Lib.Math.min.name ∈ WG := wg1 (List.mem_of_getElem? (i := 21) rfl) rfl
theorem vs_min : Cond.static Lib.Math.min.name ∈ WG := wg1 (List.mem_of_getElem? (i := 22) rfl) rfl
theorem vc_min : Cond.code Lib.Math.min.name Lib.Math.min.code 2 (some .int) ∈ WG := wg1 (List.mem_of_getElem? (i := 23) rfl) rfl
theorem lm_T_34 : Cond.methodLink R_T 34 Lib.Math.max.name ∈ WG := wg1 (List.mem_of_getElem? (i := 24) rfl) rfl
theorem vs_max : Cond.static Lib.Math.max.name ∈ WG := wg1 (List.mem_of_getElem? (i := 25) rfl) rfl
theorem vc_max : Cond.code Lib.Math.max.name Lib.Math.max.code 2 (some .int) ∈ WG := wg1 (List.mem_of_getElem? (i := 26) rfl) rfl
theorem vm_N : Cond.instantiable R_N 9 ∈ WG := wg1 (List.mem_of_getElem? (i := 27) rfl) rfl
theorem lm_T_37 : Cond.methodLink R_T 37 y_N_init ∈ WG := wg1 (List.mem_of_getElem? (i := 28) rfl) rfl
theorem vi_N_init : Cond.instanceMethod y_N_init ∈ WG := wg1 (List.mem_of_getElem? (i := 29) rfl) rfl
theorem vc_N_init : Cond.code y_N_init b_N_init 4 none ∈ WG := wg1 (List.mem_of_getElem? (i := 30) rfl) rfl
theorem lm_N_3 : Cond.methodLink R_N 3 objectInit ∈ WG := wg1 (List.mem_of_getElem? (i := 31) rfl) rfl
theorem lc_N_35 : Cond.classLink R_N 35 R_S ∈ WG := wg1 (List.mem_of_getElem? (i := 32) rfl) rfl
theorem vm_S : Cond.instantiable R_S 7 ∈ WG := wg1 (List.mem_of_getElem? (i := 33) rfl) rfl
theorem lm_N_37 : Cond.methodLink R_N 37 y_S_init ∈ WG := wg1 (List.mem_of_getElem? (i := 34) rfl) rfl
theorem vi_S_init : Cond.instanceMethod y_S_init ∈ WG := wg1 (List.mem_of_getElem? (i := 35) rfl) rfl
theorem vc_S_init : Cond.code y_S_init b_S_init 3 none ∈ WG := wg1 (List.mem_of_getElem? (i := 36) rfl) rfl
theorem lm_S_3 : Cond.methodLink R_S 3 objectInit ∈ WG := wg1 (List.mem_of_getElem? (i := 37) rfl) rfl
theorem lc_S_29 : Cond.classLink R_S 29 R_C ∈ WG := wg1 (List.mem_of_getElem? (i := 38) rfl) rfl
theorem vm_C : Cond.instantiable R_C 2 ∈ WG := wg1 (List.mem_of_getElem? (i := 39) rfl) rfl
theorem lm_S_31 : Cond.methodLink R_S 31 y_C_init ∈ WG := wg1 (List.mem_of_getElem? (i := 40) rfl) rfl
theorem vi_C_init : Cond.instanceMethod y_C_init ∈ WG := wg1 (List.mem_of_getElem? (i := 41) rfl) rfl
theorem vc_C_init : Cond.code y_C_init b_C_init 2 none ∈ WG := wg1 (List.mem_of_getElem? (i := 42) rfl) rfl
theorem lm_C_3 : Cond.methodLink R_C 3 objectInit ∈ WG := wg1 (List.mem_of_getElem? (i := 43) rfl) rfl
theorem lf_C_15 : Cond.fieldLink R_C 15 "TelemetryTree$Counters" "limit" "I" ∈ WG := wg1 (List.mem_of_getElem? (i := 44) rfl) rfl
theorem lf_C_9 : Cond.fieldLink R_C 9 "TelemetryTree$Counters" "counts" "[I" ∈ WG := wg1 (List.mem_of_getElem? (i := 45) rfl) rfl
theorem lf_S_49 : Cond.fieldLink R_S 49 "TelemetryTree$Counters" "counts" "[I" ∈ WG := wg1 (List.mem_of_getElem? (i := 46) rfl) rfl
theorem lf_T_143 : Cond.fieldLink R_T 143 "TelemetryTree$Counters" "counts" "[I" ∈ WG := wg1 (List.mem_of_getElem? (i := 47) rfl) rfl
theorem vk_int : Cond.arrayClass .int ∈ WG := wg1 (List.mem_of_getElem? (i := 53) rfl) rfl
theorem lc_S_38 : Cond.classLink R_S 38 R_D ∈ WG := wg1 (List.mem_of_getElem? (i := 54) rfl) rfl
theorem vm_D : Cond.instantiable R_D 2 ∈ WG := wg1 (List.mem_of_getElem? (i := 55) rfl) rfl
theorem lm_S_40 : Cond.methodLink R_S 40 y_D_init ∈ WG := wg1 (List.mem_of_getElem? (i := 56) rfl) rfl
theorem vi_D_init : Cond.instanceMethod y_D_init ∈ WG := wg1 (List.mem_of_getElem? (i := 57) rfl) rfl
theorem vc_D_init : Cond.code y_D_init b_D_init 2 none ∈ WG := wg1 (List.mem_of_getElem? (i := 58) rfl) rfl
theorem lm_D_3 : Cond.methodLink R_D 3 objectInit ∈ WG := wg1 (List.mem_of_getElem? (i := 59) rfl) rfl
theorem lf_D_15 : Cond.fieldLink R_D 15 "TelemetryTree$Digest" "divisor" "I" ∈ WG := wg1 (List.mem_of_getElem? (i := 60) rfl) rfl
theorem lf_D_9 : Cond.fieldLink R_D 9 "TelemetryTree$Digest" "counts" "[I" ∈ WG := wg1 (List.mem_of_getElem? (i := 61) rfl) rfl
theorem lf_S_52 : Cond.fieldLink R_S 52 "TelemetryTree$Digest" "counts" "[I" ∈ WG := wg1 (List.mem_of_getElem? (i := 62) rfl) rfl
theorem lf_S_9 : Cond.fieldLink R_S 9 "TelemetryTree$Summary" "n" "I" ∈ WG := wg1 (List.mem_of_getElem? (i := 68) rfl) rfl
theorem lf_N_47 : Cond.fieldLink R_N 47 "TelemetryTree$Summary" "n" "I" ∈ WG := wg1 (List.mem_of_getElem? (i := 69) rfl) rfl
theorem lf_T_120 : Cond.fieldLink R_T 120 "TelemetryTree$Summary" "n" "I" ∈ WG := wg1 (List.mem_of_getElem? (i := 70) rfl) rfl
theorem lf_S_15 : Cond.fieldLink R_S 15 "TelemetryTree$Summary" "itemSum" "J" ∈ WG := wg1 (List.mem_of_getElem? (i := 71) rfl) rfl
theorem lf_T_123 : Cond.fieldLink R_T 123 "TelemetryTree$Summary" "itemSum" "J" ∈ WG := wg1 (List.mem_of_getElem? (i := 72) rfl) rfl
theorem lf_S_19 : Cond.fieldLink R_S 19 "TelemetryTree$Summary" "least" "I" ∈ WG := wg1 (List.mem_of_getElem? (i := 73) rfl) rfl
theorem lf_T_132 : Cond.fieldLink R_T 132 "TelemetryTree$Summary" "least" "I" ∈ WG := wg1 (List.mem_of_getElem? (i := 74) rfl) rfl
theorem lf_S_22 : Cond.fieldLink R_S 22 "TelemetryTree$Summary" "greatest" "I" ∈ WG := wg1 (List.mem_of_getElem? (i := 75) rfl) rfl
theorem lf_T_129 : Cond.fieldLink R_T 129 "TelemetryTree$Summary" "greatest" "I" ∈ WG := wg1 (List.mem_of_getElem? (i := 76) rfl) rfl
theorem lf_S_25 : Cond.fieldLink R_S 25 "TelemetryTree$Summary" "fromLeaf" "[I" ∈ WG := wg1 (List.mem_of_getElem? (i := 77) rfl) rfl
theorem lf_T_135 : Cond.fieldLink R_T 135 "TelemetryTree$Summary" "fromLeaf" "[I" ∈ WG := wg1 (List.mem_of_getElem? (i := 78) rfl) rfl
theorem lf_S_34 : Cond.fieldLink R_S 34 "TelemetryTree$Summary" "counters" "LTelemetryTree$Counters;" ∈ WG := wg1 (List.mem_of_getElem? (i := 79) rfl) rfl
theorem lf_T_139 : Cond.fieldLink R_T 139 "TelemetryTree$Summary" "counters" "LTelemetryTree$Counters;" ∈ WG := wg1 (List.mem_of_getElem? (i := 80) rfl) rfl
theorem lf_S_41 : Cond.fieldLink R_S 41 "TelemetryTree$Summary" "digest" "LTelemetryTree$Digest;" ∈ WG := wg1 (List.mem_of_getElem? (i := 81) rfl) rfl
theorem lf_T_151 : Cond.fieldLink R_T 151 "TelemetryTree$Summary" "digest" "LTelemetryTree$Digest;" ∈ WG := wg1 (List.mem_of_getElem? (i := 82) rfl) rfl
theorem lf_N_32 : Cond.fieldLink R_N 32 "TelemetryTree$Node" "number" "I" ∈ WG := wg1 (List.mem_of_getElem? (i := 98) rfl) rfl
theorem lf_N_9 : Cond.fieldLink R_N 9 "TelemetryTree$Node" "parent" "I" ∈ WG := wg1 (List.mem_of_getElem? (i := 99) rfl) rfl
theorem lf_T_51 : Cond.fieldLink R_T 51 "TelemetryTree$Node" "parent" "I" ∈ WG := wg1 (List.mem_of_getElem? (i := 100) rfl) rfl
theorem lf_N_15 : Cond.fieldLink R_N 15 "TelemetryTree$Node" "leaf" "Z" ∈ WG := wg1 (List.mem_of_getElem? (i := 101) rfl) rfl
theorem lf_T_47 : Cond.fieldLink R_T 47 "TelemetryTree$Node" "leaf" "Z" ∈ WG := wg1 (List.mem_of_getElem? (i := 102) rfl) rfl
theorem lf_N_19 : Cond.fieldLink R_N 19 "TelemetryTree$Node" "open" "[I" ∈ WG := wg1 (List.mem_of_getElem? (i := 103) rfl) rfl
theorem lf_N_23 : Cond.fieldLink R_N 23 "TelemetryTree$Node" "openCount" "I" ∈ WG := wg1 (List.mem_of_getElem? (i := 104) rfl) rfl
theorem lf_T_71 : Cond.fieldLink R_T 71 "TelemetryTree$Node" "openCount" "I" ∈ WG := wg1 (List.mem_of_getElem? (i := 105) rfl) rfl
theorem lf_N_26 : Cond.fieldLink R_N 26 "TelemetryTree$Node" "reports" "I" ∈ WG := wg1 (List.mem_of_getElem? (i := 106) rfl) rfl
theorem lf_T_83 : Cond.fieldLink R_T 83 "TelemetryTree$Node" "reports" "I" ∈ WG := wg1 (List.mem_of_getElem? (i := 107) rfl) rfl
theorem lf_N_40 : Cond.fieldLink R_N 40 "TelemetryTree$Node" "summary" "LTelemetryTree$Summary;" ∈ WG := wg1 (List.mem_of_getElem? (i := 108) rfl) rfl
theorem lf_T_86 : Cond.fieldLink R_T 86 "TelemetryTree$Node" "summary" "LTelemetryTree$Summary;" ∈ WG := wg1 (List.mem_of_getElem? (i := 109) rfl) rfl
theorem lf_N_44 : Cond.fieldLink R_N 44 "TelemetryTree$Node" "kept" "LTelemetryTree$Summary;" ∈ WG := wg1 (List.mem_of_getElem? (i := 110) rfl) rfl
theorem lf_T_111 : Cond.fieldLink R_T 111 "TelemetryTree$Node" "kept" "LTelemetryTree$Summary;" ∈ WG := wg1 (List.mem_of_getElem? (i := 111) rfl) rfl
theorem lf_N_29 : Cond.fieldLink R_N 29 "TelemetryTree$Node" "keptVersion" "I" ∈ WG := wg1 (List.mem_of_getElem? (i := 112) rfl) rfl
theorem lf_T_108 : Cond.fieldLink R_T 108 "TelemetryTree$Node" "keptVersion" "I" ∈ WG := wg1 (List.mem_of_getElem? (i := 113) rfl) rfl
theorem vm_M : Cond.instantiable R_M 4 ∈ WG := wg1 (List.mem_of_getElem? (i := 133) rfl) rfl
theorem lm_T_40 : Cond.methodLink R_T 40 y_M_init ∈ WG := wg1 (List.mem_of_getElem? (i := 134) rfl) rfl
theorem vi_M_init : Cond.instanceMethod y_M_init ∈ WG := wg1 (List.mem_of_getElem? (i := 135) rfl) rfl
theorem vc_M_init : Cond.code y_M_init b_M_init 3 none ∈ WG := wg1 (List.mem_of_getElem? (i := 136) rfl) rfl
theorem lm_M_1 : Cond.methodLink R_M 1 objectInit ∈ WG := wg1 (List.mem_of_getElem? (i := 137) rfl) rfl
theorem lc_M_19 : Cond.classLink R_M 19 R_S ∈ WG := wg1 (List.mem_of_getElem? (i := 138) rfl) rfl
theorem lm_M_21 : Cond.methodLink R_M 21 y_S_init ∈ WG := wg1 (List.mem_of_getElem? (i := 139) rfl) rfl
theorem lf_M_7 : Cond.fieldLink R_M 7 "TelemetryTree$Message" "number" "I" ∈ WG := wg1 (List.mem_of_getElem? (i := 140) rfl) rfl
theorem lf_T_105 : Cond.fieldLink R_T 105 "TelemetryTree$Message" "number" "I" ∈ WG := wg1 (List.mem_of_getElem? (i := 141) rfl) rfl
theorem lf_M_13 : Cond.fieldLink R_M 13 "TelemetryTree$Message" "sender" "I" ∈ WG := wg1 (List.mem_of_getElem? (i := 142) rfl) rfl
theorem lf_T_98 : Cond.fieldLink R_T 98 "TelemetryTree$Message" "sender" "I" ∈ WG := wg1 (List.mem_of_getElem? (i := 143) rfl) rfl
theorem lf_M_16 : Cond.fieldLink R_M 16 "TelemetryTree$Message" "version" "I" ∈ WG := wg1 (List.mem_of_getElem? (i := 144) rfl) rfl
theorem lf_T_101 : Cond.fieldLink R_T 101 "TelemetryTree$Message" "version" "I" ∈ WG := wg1 (List.mem_of_getElem? (i := 145) rfl) rfl
theorem lf_M_24 : Cond.fieldLink R_M 24 "TelemetryTree$Message" "summary" "LTelemetryTree$Summary;" ∈ WG := wg1 (List.mem_of_getElem? (i := 146) rfl) rfl
theorem lf_T_104 : Cond.fieldLink R_T 104 "TelemetryTree$Message" "summary" "LTelemetryTree$Summary;" ∈ WG := wg1 (List.mem_of_getElem? (i := 147) rfl) rfl
theorem lf_T_11 : Cond.fieldLink R_T 11 "TelemetryTree" "nodes" "[LTelemetryTree$Node;" ∈ WG := wg1 (List.mem_of_getElem? (i := 157) rfl) rfl
theorem lf_T_15 : Cond.fieldLink R_T 15 "TelemetryTree" "nodeCount" "I" ∈ WG := wg1 (List.mem_of_getElem? (i := 158) rfl) rfl
theorem lf_T_21 : Cond.fieldLink R_T 21 "TelemetryTree" "slots" "[LTelemetryTree$Message;" ∈ WG := wg1 (List.mem_of_getElem? (i := 159) rfl) rfl
theorem lf_T_25 : Cond.fieldLink R_T 25 "TelemetryTree" "lastMessage" "I" ∈ WG := wg1 (List.mem_of_getElem? (i := 160) rfl) rfl
theorem lm_L_21 : Cond.methodLink R_L 21 y_T_attach ∈ WG := wg1 (List.mem_of_getElem? (i := 170) rfl) rfl
theorem vi_T_attach : Cond.instanceMethod y_T_attach ∈ WG := wg1 (List.mem_of_getElem? (i := 171) rfl) rfl
theorem ve_T_attach : Cond.selects R_T y_T_attach y_T_attach ∈ WG := wg1 (List.mem_of_getElem? (i := 172) rfl) rfl
theorem vc_T_attach : Cond.code y_T_attach b_T_attach 4 (some .int) ∈ WG := wg1 (List.mem_of_getElem? (i := 173) rfl) rfl
theorem lm_T_43 : Cond.methodLink R_T 43 y_T_isNode ∈ WG := wg1 (List.mem_of_getElem? (i := 174) rfl) rfl
theorem vi_T_isNode : Cond.instanceMethod y_T_isNode ∈ WG := wg1 (List.mem_of_getElem? (i := 176) rfl) rfl
theorem vc_T_isNode : Cond.code y_T_isNode b_T_isNode 2 (some .boolean) ∈ WG := wg1 (List.mem_of_getElem? (i := 177) rfl) rfl
theorem lm_L_26 : Cond.methodLink R_L 26 y_T_add ∈ WG := wg1 (List.mem_of_getElem? (i := 178) rfl) rfl
theorem vi_T_add : Cond.instanceMethod y_T_add ∈ WG := wg1 (List.mem_of_getElem? (i := 179) rfl) rfl
theorem ve_T_add : Cond.selects R_T y_T_add y_T_add ∈ WG := wg1 (List.mem_of_getElem? (i := 180) rfl) rfl
theorem vc_T_add : Cond.code y_T_add b_T_add 3 (some .boolean) ∈ WG := wg1 (List.mem_of_getElem? (i := 181) rfl) rfl
theorem lm_T_54 : Cond.methodLink R_T 54 y_T_isLeaf ∈ WG := wg1 (List.mem_of_getElem? (i := 182) rfl) rfl
theorem vi_T_isLeaf : Cond.instanceMethod y_T_isLeaf ∈ WG := wg1 (List.mem_of_getElem? (i := 184) rfl) rfl
theorem vc_T_isLeaf : Cond.code y_T_isLeaf b_T_isLeaf 2 (some .boolean) ∈ WG := wg1 (List.mem_of_getElem? (i := 185) rfl) rfl
theorem lm_T_57 : Cond.methodLink R_T 57 y_T_isValue ∈ WG := wg1 (List.mem_of_getElem? (i := 186) rfl) rfl
theorem vs_T_isValue : Cond.static y_T_isValue ∈ WG := wg1 (List.mem_of_getElem? (i := 187) rfl) rfl
theorem vc_T_isValue : Cond.code y_T_isValue b_T_isValue 1 (some .boolean) ∈ WG := wg1 (List.mem_of_getElem? (i := 188) rfl) rfl
theorem lm_T_60 : Cond.methodLink R_T 60 y_N_itemCount ∈ WG := wg1 (List.mem_of_getElem? (i := 189) rfl) rfl
theorem vi_N_itemCount : Cond.instanceMethod y_N_itemCount ∈ WG := wg1 (List.mem_of_getElem? (i := 190) rfl) rfl
theorem ve_N_itemCount : Cond.selects R_N y_N_itemCount y_N_itemCount ∈ WG := wg1 (List.mem_of_getElem? (i := 191) rfl) rfl
theorem vc_N_itemCount : Cond.code y_N_itemCount b_N_itemCount 1 (some .int) ∈ WG := wg1 (List.mem_of_getElem? (i := 192) rfl) rfl
theorem lm_T_64 : Cond.methodLink R_T 64 y_N_putIntoOpenBlock ∈ WG := wg1 (List.mem_of_getElem? (i := 193) rfl) rfl
theorem vi_N_putIntoOpenBlock : Cond.instanceMethod y_N_putIntoOpenBlock ∈ WG := wg1 (List.mem_of_getElem? (i := 194) rfl) rfl
theorem ve_N_putIntoOpenBlock : Cond.selects R_N y_N_putIntoOpenBlock y_N_putIntoOpenBlock ∈ WG := wg1 (List.mem_of_getElem? (i := 195) rfl) rfl
theorem vc_N_putIntoOpenBlock : Cond.code y_N_putIntoOpenBlock b_N_putIntoOpenBlock 2 none ∈ WG := wg1 (List.mem_of_getElem? (i := 196) rfl) rfl
theorem lm_N_50 : Cond.methodLink R_N 50 y_N_writeOpenBlock ∈ WG := wg1 (List.mem_of_getElem? (i := 197) rfl) rfl
theorem vi_N_writeOpenBlock : Cond.instanceMethod y_N_writeOpenBlock ∈ WG := wg1 (List.mem_of_getElem? (i := 198) rfl) rfl
theorem ve_N_writeOpenBlock : Cond.selects R_N y_N_writeOpenBlock y_N_writeOpenBlock ∈ WG := wg1 (List.mem_of_getElem? (i := 199) rfl) rfl
theorem vc_N_writeOpenBlock : Cond.code y_N_writeOpenBlock b_N_writeOpenBlock 3 (some .int) ∈ WG := wg1 (List.mem_of_getElem? (i := 200) rfl) rfl
theorem lm_N_54 : Cond.methodLink R_N 54 y_S_take ∈ WG := wg1 (List.mem_of_getElem? (i := 201) rfl) rfl
theorem vi_S_take : Cond.instanceMethod y_S_take ∈ WG := wg1 (List.mem_of_getElem? (i := 202) rfl) rfl
theorem ve_S_take : Cond.selects R_S y_S_take y_S_take ∈ WG := wg1 (List.mem_of_getElem? (i := 203) rfl) rfl
theorem vc_S_take : Cond.code y_S_take b_S_take 3 none ∈ WG := wg1 (List.mem_of_getElem? (i := 204) rfl) rfl
theorem lm_S_57 : Cond.methodLink R_S 57 y_S_widen ∈ WG := wg1 (List.mem_of_getElem? (i := 205) rfl) rfl
theorem vi_S_widen : Cond.instanceMethod y_S_widen ∈ WG := wg1 (List.mem_of_getElem? (i := 206) rfl) rfl
theorem ve_S_widen : Cond.selects R_S y_S_widen y_S_widen ∈ WG := wg1 (List.mem_of_getElem? (i := 207) rfl) rfl
theorem vc_S_widen : Cond.code y_S_widen b_S_widen 3 none ∈ WG := wg1 (List.mem_of_getElem? (i := 208) rfl) rfl
theorem lm_S_76 : Cond.methodLink R_S 76 Lib.Math.min.name ∈ WG := wg1 (List.mem_of_getElem? (i := 209) rfl) rfl
theorem lm_S_82 : Cond.methodLink R_S 82 Lib.Math.max.name ∈ WG := wg1 (List.mem_of_getElem? (i := 210) rfl) rfl
theorem lm_S_61 : Cond.methodLink R_S 61 y_C_take ∈ WG := wg1 (List.mem_of_getElem? (i := 211) rfl) rfl
theorem vi_C_take : Cond.instanceMethod y_C_take ∈ WG := wg1 (List.mem_of_getElem? (i := 212) rfl) rfl
theorem ve_C_take : Cond.selects R_C y_C_take y_C_take ∈ WG := wg1 (List.mem_of_getElem? (i := 213) rfl) rfl
theorem vc_C_take : Cond.code y_C_take b_C_take 2 none ∈ WG := wg1 (List.mem_of_getElem? (i := 214) rfl) rfl
theorem lm_C_19 : Cond.methodLink R_C 19 y_C_valueAtRank ∈ WG := wg1 (List.mem_of_getElem? (i := 215) rfl) rfl
theorem vi_C_valueAtRank : Cond.instanceMethod y_C_valueAtRank ∈ WG := wg1 (List.mem_of_getElem? (i := 216) rfl) rfl
theorem ve_C_valueAtRank : Cond.selects R_C y_C_valueAtRank y_C_valueAtRank ∈ WG := wg1 (List.mem_of_getElem? (i := 217) rfl) rfl
theorem vc_C_valueAtRank : Cond.code y_C_valueAtRank b_C_valueAtRank 3 (some .int) ∈ WG := wg1 (List.mem_of_getElem? (i := 218) rfl) rfl
theorem lm_C_37 : Cond.methodLink R_C 37 y_C_rankOf ∈ WG := wg1 (List.mem_of_getElem? (i := 219) rfl) rfl
theorem vi_C_rankOf : Cond.instanceMethod y_C_rankOf ∈ WG := wg1 (List.mem_of_getElem? (i := 220) rfl) rfl
theorem ve_C_rankOf : Cond.selects R_C y_C_rankOf y_C_rankOf ∈ WG := wg1 (List.mem_of_getElem? (i := 221) rfl) rfl
theorem vc_C_rankOf : Cond.code y_C_rankOf b_C_rankOf 4 (some .int) ∈ WG := wg1 (List.mem_of_getElem? (i := 222) rfl) rfl
theorem lm_C_23 : Cond.methodLink R_C 23 y_C_lowerAll ∈ WG := wg1 (List.mem_of_getElem? (i := 223) rfl) rfl
theorem vi_C_lowerAll : Cond.instanceMethod y_C_lowerAll ∈ WG := wg1 (List.mem_of_getElem? (i := 224) rfl) rfl
theorem ve_C_lowerAll : Cond.selects R_C y_C_lowerAll y_C_lowerAll ∈ WG := wg1 (List.mem_of_getElem? (i := 225) rfl) rfl
theorem vc_C_lowerAll : Cond.code y_C_lowerAll b_C_lowerAll 3 none ∈ WG := wg1 (List.mem_of_getElem? (i := 226) rfl) rfl
theorem lm_C_31 : Cond.methodLink R_C 31 Lib.Math.max.name ∈ WG := wg1 (List.mem_of_getElem? (i := 227) rfl) rfl
theorem lm_S_64 : Cond.methodLink R_S 64 y_D_take ∈ WG := wg1 (List.mem_of_getElem? (i := 228) rfl) rfl
theorem vi_D_take : Cond.instanceMethod y_D_take ∈ WG := wg1 (List.mem_of_getElem? (i := 229) rfl) rfl
theorem ve_D_take : Cond.selects R_D y_D_take y_D_take ∈ WG := wg1 (List.mem_of_getElem? (i := 230) rfl) rfl
theorem vc_D_take : Cond.code y_D_take b_D_take 3 none ∈ WG := wg1 (List.mem_of_getElem? (i := 231) rfl) rfl
theorem lm_D_19 : Cond.methodLink R_D 19 y_D_compress ∈ WG := wg1 (List.mem_of_getElem? (i := 232) rfl) rfl
theorem vi_D_compress : Cond.instanceMethod y_D_compress ∈ WG := wg1 (List.mem_of_getElem? (i := 233) rfl) rfl
theorem ve_D_compress : Cond.selects R_D y_D_compress y_D_compress ∈ WG := wg1 (List.mem_of_getElem? (i := 234) rfl) rfl
theorem vc_D_compress : Cond.code y_D_compress b_D_compress 4 none ∈ WG := wg1 (List.mem_of_getElem? (i := 235) rfl) rfl
theorem lm_D_27 : Cond.methodLink R_D 27 y_D_pass ∈ WG := wg1 (List.mem_of_getElem? (i := 236) rfl) rfl
theorem vi_D_pass : Cond.instanceMethod y_D_pass ∈ WG := wg1 (List.mem_of_getElem? (i := 237) rfl) rfl
theorem ve_D_pass : Cond.selects R_D y_D_pass y_D_pass ∈ WG := wg1 (List.mem_of_getElem? (i := 238) rfl) rfl
theorem vc_D_pass : Cond.code y_D_pass b_D_pass 5 (some .boolean) ∈ WG := wg1 (List.mem_of_getElem? (i := 239) rfl) rfl
theorem lm_L_31 : Cond.methodLink R_L 31 y_T_flush ∈ WG := wg2 (List.mem_of_getElem? (i := 0) rfl) rfl
theorem vi_T_flush : Cond.instanceMethod y_T_flush ∈ WG := wg2 (List.mem_of_getElem? (i := 1) rfl) rfl
theorem ve_T_flush : Cond.selects R_T y_T_flush y_T_flush ∈ WG := wg2 (List.mem_of_getElem? (i := 2) rfl) rfl
theorem vc_T_flush : Cond.code y_T_flush b_T_flush 2 (some .int) ∈ WG := wg2 (List.mem_of_getElem? (i := 3) rfl) rfl
theorem lm_T_68 : Cond.methodLink R_T 68 y_N_writeOpenBlock ∈ WG := wg2 (List.mem_of_getElem? (i := 4) rfl) rfl
theorem lm_L_36 : Cond.methodLink R_L 36 y_T_crash ∈ WG := wg2 (List.mem_of_getElem? (i := 5) rfl) rfl
theorem vi_T_crash : Cond.instanceMethod y_T_crash ∈ WG := wg2 (List.mem_of_getElem? (i := 6) rfl) rfl
theorem ve_T_crash : Cond.selects R_T y_T_crash y_T_crash ∈ WG := wg2 (List.mem_of_getElem? (i := 7) rfl) rfl
theorem vc_T_crash : Cond.code y_T_crash b_T_crash 2 (some .boolean) ∈ WG := wg2 (List.mem_of_getElem? (i := 8) rfl) rfl
theorem lm_T_74 : Cond.methodLink R_T 74 y_T_forgetChildren ∈ WG := wg2 (List.mem_of_getElem? (i := 9) rfl) rfl
theorem vi_T_forgetChildren : Cond.instanceMethod y_T_forgetChildren ∈ WG := wg2 (List.mem_of_getElem? (i := 11) rfl) rfl
theorem vc_T_forgetChildren : Cond.code y_T_forgetChildren b_T_forgetChildren 3 none ∈ WG := wg2 (List.mem_of_getElem? (i := 12) rfl) rfl
theorem lm_T_77 : Cond.methodLink R_T 77 y_T_mergeKept ∈ WG := wg2 (List.mem_of_getElem? (i := 13) rfl) rfl
theorem vi_T_mergeKept : Cond.instanceMethod y_T_mergeKept ∈ WG := wg2 (List.mem_of_getElem? (i := 15) rfl) rfl
theorem vc_T_mergeKept : Cond.code y_T_mergeKept b_T_mergeKept 5 none ∈ WG := wg2 (List.mem_of_getElem? (i := 16) rfl) rfl
theorem lm_T_172 : Cond.methodLink R_T 172 y_S_makeEmpty ∈ WG := wg2 (List.mem_of_getElem? (i := 17) rfl) rfl
theorem vi_S_makeEmpty : Cond.instanceMethod y_S_makeEmpty ∈ WG := wg2 (List.mem_of_getElem? (i := 18) rfl) rfl
theorem ve_S_makeEmpty : Cond.selects R_S y_S_makeEmpty y_S_makeEmpty ∈ WG := wg2 (List.mem_of_getElem? (i := 19) rfl) rfl
theorem vc_S_makeEmpty : Cond.code y_S_makeEmpty b_S_makeEmpty 1 none ∈ WG := wg2 (List.mem_of_getElem? (i := 20) rfl) rfl
theorem vs_T_clear : Cond.static y_T_clear ∈ WG := wg2 (List.mem_of_getElem? (i := 22) rfl) rfl
theorem vc_T_clear : Cond.code y_T_clear b_T_clear 2 none ∈ WG := wg2 (List.mem_of_getElem? (i := 23) rfl) rfl
theorem lm_T_175 : Cond.methodLink R_T 175 y_S_merge ∈ WG := wg2 (List.mem_of_getElem? (i := 24) rfl) rfl
theorem vi_S_merge : Cond.instanceMethod y_S_merge ∈ WG := wg2 (List.mem_of_getElem? (i := 25) rfl) rfl
theorem ve_S_merge : Cond.selects R_S y_S_merge y_S_merge ∈ WG := wg2 (List.mem_of_getElem? (i := 26) rfl) rfl
theorem vc_S_merge : Cond.code y_S_merge b_S_merge 2 none ∈ WG := wg2 (List.mem_of_getElem? (i := 27) rfl) rfl
theorem vs_T_addTo : Cond.static y_T_addTo ∈ WG := wg2 (List.mem_of_getElem? (i := 29) rfl) rfl
theorem vc_T_addTo : Cond.code y_T_addTo b_T_addTo 3 none ∈ WG := wg2 (List.mem_of_getElem? (i := 30) rfl) rfl
theorem lm_S_69 : Cond.methodLink R_S 69 y_C_merge ∈ WG := wg2 (List.mem_of_getElem? (i := 31) rfl) rfl
theorem vi_C_merge : Cond.instanceMethod y_C_merge ∈ WG := wg2 (List.mem_of_getElem? (i := 32) rfl) rfl
theorem ve_C_merge : Cond.selects R_C y_C_merge y_C_merge ∈ WG := wg2 (List.mem_of_getElem? (i := 33) rfl) rfl
theorem vc_C_merge : Cond.code y_C_merge b_C_merge 3 none ∈ WG := wg2 (List.mem_of_getElem? (i := 34) rfl) rfl
theorem lm_S_73 : Cond.methodLink R_S 73 y_D_merge ∈ WG := wg2 (List.mem_of_getElem? (i := 36) rfl) rfl
theorem vi_D_merge : Cond.instanceMethod y_D_merge ∈ WG := wg2 (List.mem_of_getElem? (i := 37) rfl) rfl
theorem ve_D_merge : Cond.selects R_D y_D_merge y_D_merge ∈ WG := wg2 (List.mem_of_getElem? (i := 38) rfl) rfl
theorem vc_D_merge : Cond.code y_D_merge b_D_merge 3 none ∈ WG := wg2 (List.mem_of_getElem? (i := 39) rfl) rfl
theorem lm_L_41 : Cond.methodLink R_L 41 y_T_report ∈ WG := wg2 (List.mem_of_getElem? (i := 41) rfl) rfl
theorem vi_T_report : Cond.instanceMethod y_T_report ∈ WG := wg2 (List.mem_of_getElem? (i := 42) rfl) rfl
theorem ve_T_report : Cond.selects R_T y_T_report y_T_report ∈ WG := wg2 (List.mem_of_getElem? (i := 43) rfl) rfl
theorem vc_T_report : Cond.code y_T_report b_T_report 3 (some .int) ∈ WG := wg2 (List.mem_of_getElem? (i := 44) rfl) rfl
theorem lm_T_80 : Cond.methodLink R_T 80 y_T_freeSlot ∈ WG := wg2 (List.mem_of_getElem? (i := 45) rfl) rfl
theorem vi_T_freeSlot : Cond.instanceMethod y_T_freeSlot ∈ WG := wg2 (List.mem_of_getElem? (i := 47) rfl) rfl
theorem vc_T_freeSlot : Cond.code y_T_freeSlot b_T_freeSlot 1 (some .int) ∈ WG := wg2 (List.mem_of_getElem? (i := 48) rfl) rfl
theorem lm_T_169 : Cond.methodLink R_T 169 y_T_slotWithNumber ∈ WG := wg2 (List.mem_of_getElem? (i := 49) rfl) rfl
theorem vi_T_slotWithNumber : Cond.instanceMethod y_T_slotWithNumber ∈ WG := wg2 (List.mem_of_getElem? (i := 51) rfl) rfl
theorem vc_T_slotWithNumber : Cond.code y_T_slotWithNumber b_T_slotWithNumber 3 (some .int) ∈ WG := wg2 (List.mem_of_getElem? (i := 52) rfl) rfl
theorem lm_T_90 : Cond.methodLink R_T 90 y_M_send ∈ WG := wg2 (List.mem_of_getElem? (i := 53) rfl) rfl
theorem vi_M_send : Cond.instanceMethod y_M_send ∈ WG := wg2 (List.mem_of_getElem? (i := 54) rfl) rfl
theorem ve_M_send : Cond.selects R_M y_M_send y_M_send ∈ WG := wg2 (List.mem_of_getElem? (i := 55) rfl) rfl
theorem vc_M_send : Cond.code y_M_send b_M_send 5 none ∈ WG := wg2 (List.mem_of_getElem? (i := 56) rfl) rfl
theorem lm_M_28 : Cond.methodLink R_M 28 y_S_setTo ∈ WG := wg2 (List.mem_of_getElem? (i := 57) rfl) rfl
theorem vi_S_setTo : Cond.instanceMethod y_S_setTo ∈ WG := wg2 (List.mem_of_getElem? (i := 58) rfl) rfl
theorem ve_S_setTo : Cond.selects R_S y_S_setTo y_S_setTo ∈ WG := wg2 (List.mem_of_getElem? (i := 59) rfl) rfl
theorem vc_S_setTo : Cond.code y_S_setTo b_S_setTo 2 none ∈ WG := wg2 (List.mem_of_getElem? (i := 60) rfl) rfl
theorem vs_T_overwrite : Cond.static y_T_overwrite ∈ WG := wg2 (List.mem_of_getElem? (i := 62) rfl) rfl
theorem vc_T_overwrite : Cond.code y_T_overwrite b_T_overwrite 3 none ∈ WG := wg2 (List.mem_of_getElem? (i := 63) rfl) rfl
theorem lm_L_45 : Cond.methodLink R_L 45 y_T_copy ∈ WG := wg2 (List.mem_of_getElem? (i := 64) rfl) rfl
theorem vi_T_copy : Cond.instanceMethod y_T_copy ∈ WG := wg2 (List.mem_of_getElem? (i := 65) rfl) rfl
theorem ve_T_copy : Cond.selects R_T y_T_copy y_T_copy ∈ WG := wg2 (List.mem_of_getElem? (i := 66) rfl) rfl
theorem vc_T_copy : Cond.code y_T_copy b_T_copy 5 (some .int) ∈ WG := wg2 (List.mem_of_getElem? (i := 67) rfl) rfl
theorem lm_T_94 : Cond.methodLink R_T 94 y_T_slotOf ∈ WG := wg2 (List.mem_of_getElem? (i := 68) rfl) rfl
theorem vi_T_slotOf : Cond.instanceMethod y_T_slotOf ∈ WG := wg2 (List.mem_of_getElem? (i := 70) rfl) rfl
theorem vc_T_slotOf : Cond.code y_T_slotOf b_T_slotOf 2 (some .int) ∈ WG := wg2 (List.mem_of_getElem? (i := 71) rfl) rfl
theorem lm_L_49 : Cond.methodLink R_L 49 y_T_drop ∈ WG := wg2 (List.mem_of_getElem? (i := 72) rfl) rfl
theorem vi_T_drop : Cond.instanceMethod y_T_drop ∈ WG := wg2 (List.mem_of_getElem? (i := 73) rfl) rfl
theorem ve_T_drop : Cond.selects R_T y_T_drop y_T_drop ∈ WG := wg2 (List.mem_of_getElem? (i := 74) rfl) rfl
theorem vc_T_drop : Cond.code y_T_drop b_T_drop 3 (some .boolean) ∈ WG := wg2 (List.mem_of_getElem? (i := 75) rfl) rfl
theorem lm_L_53 : Cond.methodLink R_L 53 y_T_deliver ∈ WG := wg2 (List.mem_of_getElem? (i := 76) rfl) rfl
theorem vi_T_deliver : Cond.instanceMethod y_T_deliver ∈ WG := wg2 (List.mem_of_getElem? (i := 77) rfl) rfl
theorem ve_T_deliver : Cond.selects R_T y_T_deliver y_T_deliver ∈ WG := wg2 (List.mem_of_getElem? (i := 78) rfl) rfl
theorem vc_T_deliver : Cond.code y_T_deliver b_T_deliver 5 (some .int) ∈ WG := wg2 (List.mem_of_getElem? (i := 79) rfl) rfl
theorem lm_T_114 : Cond.methodLink R_T 114 y_S_setTo ∈ WG := wg2 (List.mem_of_getElem? (i := 80) rfl) rfl
theorem lm_L_57 : Cond.methodLink R_L 57 y_T_onTheWay ∈ WG := wg2 (List.mem_of_getElem? (i := 81) rfl) rfl
theorem vi_T_onTheWay : Cond.instanceMethod y_T_onTheWay ∈ WG := wg2 (List.mem_of_getElem? (i := 82) rfl) rfl
theorem ve_T_onTheWay : Cond.selects R_T y_T_onTheWay y_T_onTheWay ∈ WG := wg2 (List.mem_of_getElem? (i := 83) rfl) rfl
theorem vc_T_onTheWay : Cond.code y_T_onTheWay b_T_onTheWay 3 (some .int) ∈ WG := wg2 (List.mem_of_getElem? (i := 84) rfl) rfl
theorem lm_L_62 : Cond.methodLink R_L 62 y_T_total ∈ WG := wg2 (List.mem_of_getElem? (i := 85) rfl) rfl
theorem vi_T_total : Cond.instanceMethod y_T_total ∈ WG := wg2 (List.mem_of_getElem? (i := 86) rfl) rfl
theorem ve_T_total : Cond.selects R_T y_T_total y_T_total ∈ WG := wg2 (List.mem_of_getElem? (i := 87) rfl) rfl
theorem vc_T_total : Cond.code y_T_total b_T_total 2 (some .int) ∈ WG := wg2 (List.mem_of_getElem? (i := 88) rfl) rfl
theorem lm_L_66 : Cond.methodLink R_L 66 y_T_sum ∈ WG := wg2 (List.mem_of_getElem? (i := 89) rfl) rfl
theorem vi_T_sum : Cond.instanceMethod y_T_sum ∈ WG := wg2 (List.mem_of_getElem? (i := 90) rfl) rfl
theorem ve_T_sum : Cond.selects R_T y_T_sum y_T_sum ∈ WG := wg2 (List.mem_of_getElem? (i := 91) rfl) rfl
theorem vc_T_sum : Cond.code y_T_sum b_T_sum 2 (some .long) ∈ WG := wg2 (List.mem_of_getElem? (i := 92) rfl) rfl
theorem lk_T_127 : Cond.constantLong R_T 127 (-1) ∈ WG := wg2 (List.mem_of_getElem? (i := 93) rfl) rfl
theorem lm_L_71 : Cond.methodLink R_L 71 y_T_extreme ∈ WG := wg2 (List.mem_of_getElem? (i := 94) rfl) rfl
theorem vi_T_extreme : Cond.instanceMethod y_T_extreme ∈ WG := wg2 (List.mem_of_getElem? (i := 95) rfl) rfl
theorem ve_T_extreme : Cond.selects R_T y_T_extreme y_T_extreme ∈ WG := wg2 (List.mem_of_getElem? (i := 96) rfl) rfl
theorem vc_T_extreme : Cond.code y_T_extreme b_T_extreme 3 (some .int) ∈ WG := wg2 (List.mem_of_getElem? (i := 97) rfl) rfl
theorem lm_L_75 : Cond.methodLink R_L 75 y_T_covered ∈ WG := wg2 (List.mem_of_getElem? (i := 98) rfl) rfl
theorem vi_T_covered : Cond.instanceMethod y_T_covered ∈ WG := wg2 (List.mem_of_getElem? (i := 99) rfl) rfl
theorem ve_T_covered : Cond.selects R_T y_T_covered y_T_covered ∈ WG := wg2 (List.mem_of_getElem? (i := 100) rfl) rfl
theorem vc_T_covered : Cond.code y_T_covered b_T_covered 3 (some .int) ∈ WG := wg2 (List.mem_of_getElem? (i := 101) rfl) rfl
theorem lm_L_80 : Cond.methodLink R_L 80 y_T_estimate ∈ WG := wg2 (List.mem_of_getElem? (i := 102) rfl) rfl
theorem vi_T_estimate : Cond.instanceMethod y_T_estimate ∈ WG := wg2 (List.mem_of_getElem? (i := 103) rfl) rfl
theorem ve_T_estimate : Cond.selects R_T y_T_estimate y_T_estimate ∈ WG := wg2 (List.mem_of_getElem? (i := 104) rfl) rfl
theorem vc_T_estimate : Cond.code y_T_estimate b_T_estimate 3 (some .int) ∈ WG := wg2 (List.mem_of_getElem? (i := 105) rfl) rfl
theorem lm_L_84 : Cond.methodLink R_L 84 y_T_top ∈ WG := wg2 (List.mem_of_getElem? (i := 106) rfl) rfl
theorem vi_T_top : Cond.instanceMethod y_T_top ∈ WG := wg2 (List.mem_of_getElem? (i := 107) rfl) rfl
theorem ve_T_top : Cond.selects R_T y_T_top y_T_top ∈ WG := wg2 (List.mem_of_getElem? (i := 108) rfl) rfl
theorem vc_T_top : Cond.code y_T_top b_T_top 3 (some .int) ∈ WG := wg2 (List.mem_of_getElem? (i := 109) rfl) rfl
theorem lm_T_148 : Cond.methodLink R_T 148 y_C_valueAtRank ∈ WG := wg2 (List.mem_of_getElem? (i := 110) rfl) rfl
theorem lm_L_88 : Cond.methodLink R_L 88 y_T_digestSize ∈ WG := wg2 (List.mem_of_getElem? (i := 111) rfl) rfl
theorem vi_T_digestSize : Cond.instanceMethod y_T_digestSize ∈ WG := wg2 (List.mem_of_getElem? (i := 112) rfl) rfl
theorem ve_T_digestSize : Cond.selects R_T y_T_digestSize y_T_digestSize ∈ WG := wg2 (List.mem_of_getElem? (i := 113) rfl) rfl
theorem vc_T_digestSize : Cond.code y_T_digestSize b_T_digestSize 2 (some .int) ∈ WG := wg2 (List.mem_of_getElem? (i := 114) rfl) rfl
theorem lm_T_155 : Cond.methodLink R_T 155 y_D_rangesInUse ∈ WG := wg2 (List.mem_of_getElem? (i := 115) rfl) rfl
theorem vi_D_rangesInUse : Cond.instanceMethod y_D_rangesInUse ∈ WG := wg2 (List.mem_of_getElem? (i := 116) rfl) rfl
theorem ve_D_rangesInUse : Cond.selects R_D y_D_rangesInUse y_D_rangesInUse ∈ WG := wg2 (List.mem_of_getElem? (i := 117) rfl) rfl
theorem vc_D_rangesInUse : Cond.code y_D_rangesInUse b_D_rangesInUse 3 (some .int) ∈ WG := wg2 (List.mem_of_getElem? (i := 118) rfl) rfl
theorem lm_L_92 : Cond.methodLink R_L 92 y_T_below ∈ WG := wg2 (List.mem_of_getElem? (i := 119) rfl) rfl
theorem vi_T_below : Cond.instanceMethod y_T_below ∈ WG := wg2 (List.mem_of_getElem? (i := 120) rfl) rfl
theorem ve_T_below : Cond.selects R_T y_T_below y_T_below ∈ WG := wg2 (List.mem_of_getElem? (i := 121) rfl) rfl
theorem vc_T_below : Cond.code y_T_below b_T_below 5 (some .int) ∈ WG := wg2 (List.mem_of_getElem? (i := 122) rfl) rfl
theorem lm_T_160 : Cond.methodLink R_T 160 y_D_startingBefore ∈ WG := wg2 (List.mem_of_getElem? (i := 123) rfl) rfl
theorem vi_D_startingBefore : Cond.instanceMethod y_D_startingBefore ∈ WG := wg2 (List.mem_of_getElem? (i := 124) rfl) rfl
theorem ve_D_startingBefore : Cond.selects R_D y_D_startingBefore y_D_startingBefore ∈ WG := wg2 (List.mem_of_getElem? (i := 125) rfl) rfl
theorem vc_D_startingBefore : Cond.code y_D_startingBefore b_D_startingBefore 4 (some .int) ∈ WG := wg2 (List.mem_of_getElem? (i := 126) rfl) rfl
theorem lm_D_35 : Cond.methodLink R_D 35 y_D_startingAt ∈ WG := wg2 (List.mem_of_getElem? (i := 127) rfl) rfl
theorem vi_D_startingAt : Cond.instanceMethod y_D_startingAt ∈ WG := wg2 (List.mem_of_getElem? (i := 128) rfl) rfl
theorem ve_D_startingAt : Cond.selects R_D y_D_startingAt y_D_startingAt ∈ WG := wg2 (List.mem_of_getElem? (i := 129) rfl) rfl
theorem vc_D_startingAt : Cond.code y_D_startingAt b_D_startingAt 4 (some .int) ∈ WG := wg2 (List.mem_of_getElem? (i := 130) rfl) rfl
theorem lm_T_163 : Cond.methodLink R_T 163 y_D_endingBefore ∈ WG := wg2 (List.mem_of_getElem? (i := 131) rfl) rfl
theorem vi_D_endingBefore : Cond.instanceMethod y_D_endingBefore ∈ WG := wg2 (List.mem_of_getElem? (i := 132) rfl) rfl
theorem ve_D_endingBefore : Cond.selects R_D y_D_endingBefore y_D_endingBefore ∈ WG := wg2 (List.mem_of_getElem? (i := 133) rfl) rfl
theorem vc_D_endingBefore : Cond.code y_D_endingBefore b_D_endingBefore 4 (some .int) ∈ WG := wg2 (List.mem_of_getElem? (i := 134) rfl) rfl
theorem lm_D_31 : Cond.methodLink R_D 31 y_D_endingAt ∈ WG := wg2 (List.mem_of_getElem? (i := 135) rfl) rfl
theorem vi_D_endingAt : Cond.instanceMethod y_D_endingAt ∈ WG := wg2 (List.mem_of_getElem? (i := 136) rfl) rfl
theorem ve_D_endingAt : Cond.selects R_D y_D_endingAt y_D_endingAt ∈ WG := wg2 (List.mem_of_getElem? (i := 137) rfl) rfl
theorem vc_D_endingAt : Cond.code y_D_endingAt b_D_endingAt 4 (some .int) ∈ WG := wg2 (List.mem_of_getElem? (i := 138) rfl) rfl
theorem lm_L_97 : Cond.methodLink R_L 97 y_T_quantile ∈ WG := wg2 (List.mem_of_getElem? (i := 139) rfl) rfl
theorem vi_T_quantile : Cond.instanceMethod y_T_quantile ∈ WG := wg2 (List.mem_of_getElem? (i := 140) rfl) rfl
theorem ve_T_quantile : Cond.selects R_T y_T_quantile y_T_quantile ∈ WG := wg2 (List.mem_of_getElem? (i := 141) rfl) rfl
theorem vc_T_quantile : Cond.code y_T_quantile b_T_quantile 4 (some .int) ∈ WG := wg2 (List.mem_of_getElem? (i := 142) rfl) rfl
theorem lm_T_166 : Cond.methodLink R_T 166 y_D_valueReaching ∈ WG := wg2 (List.mem_of_getElem? (i := 143) rfl) rfl
theorem vi_D_valueReaching : Cond.instanceMethod y_D_valueReaching ∈ WG := wg2 (List.mem_of_getElem? (i := 144) rfl) rfl
theorem ve_D_valueReaching : Cond.selects R_D y_D_valueReaching y_D_valueReaching ∈ WG := wg2 (List.mem_of_getElem? (i := 145) rfl) rfl
theorem vc_D_valueReaching : Cond.code y_D_valueReaching b_D_valueReaching 4 (some .int) ∈ WG := wg2 (List.mem_of_getElem? (i := 146) rfl) rfl
theorem lm_L_9 : Cond.methodLink R_L 9 y_L_cell ∈ WG := wg2 (List.mem_of_getElem? (i := 147) rfl) rfl
theorem vs_L_cell : Cond.static y_L_cell ∈ WG := wg2 (List.mem_of_getElem? (i := 148) rfl) rfl
theorem vc_L_cell : Cond.code y_L_cell b_L_cell 2 (some .int) ∈ WG := wg2 (List.mem_of_getElem? (i := 149) rfl) rfl
theorem lc_L_18 : Cond.classLink R_L 18 R_R ∈ WG := wg2 (List.mem_of_getElem? (i := 150) rfl) rfl
theorem vm_R : Cond.instantiable R_R 22 ∈ WG := wg2 (List.mem_of_getElem? (i := 151) rfl) rfl
theorem lm_L_20 : Cond.methodLink R_L 20 y_R_init ∈ WG := wg2 (List.mem_of_getElem? (i := 152) rfl) rfl
theorem vi_R_init : Cond.instanceMethod y_R_init ∈ WG := wg2 (List.mem_of_getElem? (i := 153) rfl) rfl
theorem vc_R_init : Cond.code y_R_init b_R_init 3 none ∈ WG := wg2 (List.mem_of_getElem? (i := 154) rfl) rfl
theorem lm_R_1 : Cond.methodLink R_R 1 objectInit ∈ WG := wg2 (List.mem_of_getElem? (i := 155) rfl) rfl
theorem lf_R_69 : Cond.fieldLink R_R 69 "TelemetryTreeModel" "k" "I" ∈ WG := wg2 (List.mem_of_getElem? (i := 156) rfl) rfl
theorem lf_R_72 : Cond.fieldLink R_R 72 "TelemetryTreeModel" "d" "I" ∈ WG := wg2 (List.mem_of_getElem? (i := 157) rfl) rfl
theorem lf_R_7 : Cond.fieldLink R_R 7 "TelemetryTreeModel" "nodes" "I" ∈ WG := wg2 (List.mem_of_getElem? (i := 158) rfl) rfl
theorem lf_R_13 : Cond.fieldLink R_R 13 "TelemetryTreeModel" "up" "[I" ∈ WG := wg2 (List.mem_of_getElem? (i := 159) rfl) rfl
theorem lf_R_17 : Cond.fieldLink R_R 17 "TelemetryTreeModel" "isLeaf" "[Z" ∈ WG := wg2 (List.mem_of_getElem? (i := 160) rfl) rfl
theorem lf_R_21 : Cond.fieldLink R_R 21 "TelemetryTreeModel" "reports" "[I" ∈ WG := wg2 (List.mem_of_getElem? (i := 161) rfl) rfl
theorem lf_R_24 : Cond.fieldLink R_R 24 "TelemetryTreeModel" "journal" "[I" ∈ WG := wg2 (List.mem_of_getElem? (i := 162) rfl) rfl
theorem lf_R_27 : Cond.fieldLink R_R 27 "TelemetryTreeModel" "written" "[I" ∈ WG := wg2 (List.mem_of_getElem? (i := 163) rfl) rfl
theorem lf_R_30 : Cond.fieldLink R_R 30 "TelemetryTreeModel" "open" "[I" ∈ WG := wg2 (List.mem_of_getElem? (i := 164) rfl) rfl
theorem lf_R_33 : Cond.fieldLink R_R 33 "TelemetryTreeModel" "opened" "[I" ∈ WG := wg2 (List.mem_of_getElem? (i := 165) rfl) rfl
theorem lf_R_36 : Cond.fieldLink R_R 36 "TelemetryTreeModel" "keptVersion" "[I" ∈ WG := wg2 (List.mem_of_getElem? (i := 166) rfl) rfl
theorem lf_R_39 : Cond.fieldLink R_R 39 "TelemetryTreeModel" "kept" "[I" ∈ WG := wg2 (List.mem_of_getElem? (i := 167) rfl) rfl
theorem lf_R_93 : Cond.fieldLink R_R 93 "TelemetryTreeModel" "messages" "I" ∈ WG := wg2 (List.mem_of_getElem? (i := 168) rfl) rfl
theorem lf_R_42 : Cond.fieldLink R_R 42 "TelemetryTreeModel" "number" "[I" ∈ WG := wg2 (List.mem_of_getElem? (i := 169) rfl) rfl
theorem lf_R_45 : Cond.fieldLink R_R 45 "TelemetryTreeModel" "sender" "[I" ∈ WG := wg2 (List.mem_of_getElem? (i := 170) rfl) rfl
theorem lf_R_48 : Cond.fieldLink R_R 48 "TelemetryTreeModel" "version" "[I" ∈ WG := wg2 (List.mem_of_getElem? (i := 171) rfl) rfl
theorem lf_R_51 : Cond.fieldLink R_R 51 "TelemetryTreeModel" "carried" "[I" ∈ WG := wg2 (List.mem_of_getElem? (i := 172) rfl) rfl
theorem lf_R_54 : Cond.fieldLink R_R 54 "TelemetryTreeModel" "known" "[I" ∈ WG := wg2 (List.mem_of_getElem? (i := 173) rfl) rfl
theorem lf_R_57 : Cond.fieldLink R_R 57 "TelemetryTreeModel" "n" "[I" ∈ WG := wg2 (List.mem_of_getElem? (i := 174) rfl) rfl
theorem lf_R_60 : Cond.fieldLink R_R 60 "TelemetryTreeModel" "counter" "[I" ∈ WG := wg2 (List.mem_of_getElem? (i := 175) rfl) rfl
theorem lf_R_63 : Cond.fieldLink R_R 63 "TelemetryTreeModel" "digest" "[I" ∈ WG := wg2 (List.mem_of_getElem? (i := 176) rfl) rfl
theorem lf_R_66 : Cond.fieldLink R_R 66 "TelemetryTreeModel" "used" "[Z" ∈ WG := wg2 (List.mem_of_getElem? (i := 177) rfl) rfl
theorem vk_boolean : Cond.arrayClass .boolean ∈ WG := wg2 (List.mem_of_getElem? (i := 223) rfl) rfl
theorem lm_L_25 : Cond.methodLink R_L 25 y_R_attach ∈ WG := wg2 (List.mem_of_getElem? (i := 224) rfl) rfl
theorem vi_R_attach : Cond.instanceMethod y_R_attach ∈ WG := wg2 (List.mem_of_getElem? (i := 225) rfl) rfl
theorem ve_R_attach : Cond.selects R_R y_R_attach y_R_attach ∈ WG := wg2 (List.mem_of_getElem? (i := 226) rfl) rfl
theorem vc_R_attach : Cond.code y_R_attach b_R_attach 3 (some .int) ∈ WG := wg2 (List.mem_of_getElem? (i := 227) rfl) rfl
theorem lm_R_75 : Cond.methodLink R_R 75 y_R_isNode ∈ WG := wg2 (List.mem_of_getElem? (i := 228) rfl) rfl
theorem vi_R_isNode : Cond.instanceMethod y_R_isNode ∈ WG := wg2 (List.mem_of_getElem? (i := 230) rfl) rfl
theorem vc_R_isNode : Cond.code y_R_isNode b_R_isNode 2 (some .boolean) ∈ WG := wg2 (List.mem_of_getElem? (i := 231) rfl) rfl
theorem lm_L_30 : Cond.methodLink R_L 30 y_R_add ∈ WG := wg2 (List.mem_of_getElem? (i := 232) rfl) rfl
theorem vi_R_add : Cond.instanceMethod y_R_add ∈ WG := wg2 (List.mem_of_getElem? (i := 233) rfl) rfl
theorem ve_R_add : Cond.selects R_R y_R_add y_R_add ∈ WG := wg2 (List.mem_of_getElem? (i := 234) rfl) rfl
theorem vc_R_add : Cond.code y_R_add b_R_add 3 (some .boolean) ∈ WG := wg2 (List.mem_of_getElem? (i := 235) rfl) rfl
theorem lm_R_79 : Cond.methodLink R_R 79 y_R_leafNode ∈ WG := wg2 (List.mem_of_getElem? (i := 236) rfl) rfl
theorem vi_R_leafNode : Cond.instanceMethod y_R_leafNode ∈ WG := wg2 (List.mem_of_getElem? (i := 238) rfl) rfl
theorem vc_R_leafNode : Cond.code y_R_leafNode b_R_leafNode 2 (some .boolean) ∈ WG := wg2 (List.mem_of_getElem? (i := 239) rfl) rfl
theorem lm_R_82 : Cond.methodLink R_R 82 y_R_writeBlock ∈ WG := wg3 (List.mem_of_getElem? (i := 0) rfl) rfl
theorem vi_R_writeBlock : Cond.instanceMethod y_R_writeBlock ∈ WG := wg3 (List.mem_of_getElem? (i := 2) rfl) rfl
theorem vc_R_writeBlock : Cond.code y_R_writeBlock b_R_writeBlock 3 none ∈ WG := wg3 (List.mem_of_getElem? (i := 3) rfl) rfl
theorem lm_L_35 : Cond.methodLink R_L 35 y_R_flush ∈ WG := wg3 (List.mem_of_getElem? (i := 4) rfl) rfl
theorem vi_R_flush : Cond.instanceMethod y_R_flush ∈ WG := wg3 (List.mem_of_getElem? (i := 5) rfl) rfl
theorem ve_R_flush : Cond.selects R_R y_R_flush y_R_flush ∈ WG := wg3 (List.mem_of_getElem? (i := 6) rfl) rfl
theorem vc_R_flush : Cond.code y_R_flush b_R_flush 3 (some .int) ∈ WG := wg3 (List.mem_of_getElem? (i := 7) rfl) rfl
theorem lm_L_40 : Cond.methodLink R_L 40 y_R_crash ∈ WG := wg3 (List.mem_of_getElem? (i := 8) rfl) rfl
theorem vi_R_crash : Cond.instanceMethod y_R_crash ∈ WG := wg3 (List.mem_of_getElem? (i := 9) rfl) rfl
theorem ve_R_crash : Cond.selects R_R y_R_crash y_R_crash ∈ WG := wg3 (List.mem_of_getElem? (i := 10) rfl) rfl
theorem vc_R_crash : Cond.code y_R_crash b_R_crash 3 (some .boolean) ∈ WG := wg3 (List.mem_of_getElem? (i := 11) rfl) rfl
theorem lm_L_44 : Cond.methodLink R_L 44 y_R_report ∈ WG := wg3 (List.mem_of_getElem? (i := 12) rfl) rfl
theorem vi_R_report : Cond.instanceMethod y_R_report ∈ WG := wg3 (List.mem_of_getElem? (i := 13) rfl) rfl
theorem ve_R_report : Cond.selects R_R y_R_report y_R_report ∈ WG := wg3 (List.mem_of_getElem? (i := 14) rfl) rfl
theorem vc_R_report : Cond.code y_R_report b_R_report 4 (some .int) ∈ WG := wg3 (List.mem_of_getElem? (i := 15) rfl) rfl
theorem lm_R_86 : Cond.methodLink R_R 86 y_R_freePlace ∈ WG := wg3 (List.mem_of_getElem? (i := 16) rfl) rfl
theorem vi_R_freePlace : Cond.instanceMethod y_R_freePlace ∈ WG := wg3 (List.mem_of_getElem? (i := 18) rfl) rfl
theorem vc_R_freePlace : Cond.code y_R_freePlace b_R_freePlace 2 (some .int) ∈ WG := wg3 (List.mem_of_getElem? (i := 19) rfl) rfl
theorem lm_R_90 : Cond.methodLink R_R 90 y_R_know ∈ WG := wg3 (List.mem_of_getElem? (i := 20) rfl) rfl
theorem vi_R_know : Cond.instanceMethod y_R_know ∈ WG := wg3 (List.mem_of_getElem? (i := 22) rfl) rfl
theorem vc_R_know : Cond.code y_R_know b_R_know 4 none ∈ WG := wg3 (List.mem_of_getElem? (i := 23) rfl) rfl
theorem lm_L_48 : Cond.methodLink R_L 48 y_R_copy ∈ WG := wg3 (List.mem_of_getElem? (i := 24) rfl) rfl
theorem vi_R_copy : Cond.instanceMethod y_R_copy ∈ WG := wg3 (List.mem_of_getElem? (i := 25) rfl) rfl
theorem ve_R_copy : Cond.selects R_R y_R_copy y_R_copy ∈ WG := wg3 (List.mem_of_getElem? (i := 26) rfl) rfl
theorem vc_R_copy : Cond.code y_R_copy b_R_copy 5 (some .int) ∈ WG := wg3 (List.mem_of_getElem? (i := 27) rfl) rfl
theorem lm_R_96 : Cond.methodLink R_R 96 y_R_placeOf ∈ WG := wg3 (List.mem_of_getElem? (i := 28) rfl) rfl
theorem vi_R_placeOf : Cond.instanceMethod y_R_placeOf ∈ WG := wg3 (List.mem_of_getElem? (i := 30) rfl) rfl
theorem vc_R_placeOf : Cond.code y_R_placeOf b_R_placeOf 3 (some .int) ∈ WG := wg3 (List.mem_of_getElem? (i := 31) rfl) rfl
theorem lm_L_52 : Cond.methodLink R_L 52 y_R_drop ∈ WG := wg3 (List.mem_of_getElem? (i := 32) rfl) rfl
theorem vi_R_drop : Cond.instanceMethod y_R_drop ∈ WG := wg3 (List.mem_of_getElem? (i := 33) rfl) rfl
theorem ve_R_drop : Cond.selects R_R y_R_drop y_R_drop ∈ WG := wg3 (List.mem_of_getElem? (i := 34) rfl) rfl
theorem vc_R_drop : Cond.code y_R_drop b_R_drop 3 (some .boolean) ∈ WG := wg3 (List.mem_of_getElem? (i := 35) rfl) rfl
theorem lm_L_56 : Cond.methodLink R_L 56 y_R_deliver ∈ WG := wg3 (List.mem_of_getElem? (i := 36) rfl) rfl
theorem vi_R_deliver : Cond.instanceMethod y_R_deliver ∈ WG := wg3 (List.mem_of_getElem? (i := 37) rfl) rfl
theorem ve_R_deliver : Cond.selects R_R y_R_deliver y_R_deliver ∈ WG := wg3 (List.mem_of_getElem? (i := 38) rfl) rfl
theorem vc_R_deliver : Cond.code y_R_deliver b_R_deliver 5 (some .int) ∈ WG := wg3 (List.mem_of_getElem? (i := 39) rfl) rfl
theorem lm_L_61 : Cond.methodLink R_L 61 y_R_onTheWay ∈ WG := wg3 (List.mem_of_getElem? (i := 40) rfl) rfl
theorem vi_R_onTheWay : Cond.instanceMethod y_R_onTheWay ∈ WG := wg3 (List.mem_of_getElem? (i := 41) rfl) rfl
theorem ve_R_onTheWay : Cond.selects R_R y_R_onTheWay y_R_onTheWay ∈ WG := wg3 (List.mem_of_getElem? (i := 42) rfl) rfl
theorem vc_R_onTheWay : Cond.code y_R_onTheWay b_R_onTheWay 3 (some .int) ∈ WG := wg3 (List.mem_of_getElem? (i := 43) rfl) rfl
theorem lm_L_65 : Cond.methodLink R_L 65 y_R_total ∈ WG := wg3 (List.mem_of_getElem? (i := 44) rfl) rfl
theorem vi_R_total : Cond.instanceMethod y_R_total ∈ WG := wg3 (List.mem_of_getElem? (i := 45) rfl) rfl
theorem ve_R_total : Cond.selects R_R y_R_total y_R_total ∈ WG := wg3 (List.mem_of_getElem? (i := 46) rfl) rfl
theorem vc_R_total : Cond.code y_R_total b_R_total 4 (some .int) ∈ WG := wg3 (List.mem_of_getElem? (i := 47) rfl) rfl
theorem lm_L_70 : Cond.methodLink R_L 70 y_R_sum ∈ WG := wg3 (List.mem_of_getElem? (i := 48) rfl) rfl
theorem vi_R_sum : Cond.instanceMethod y_R_sum ∈ WG := wg3 (List.mem_of_getElem? (i := 49) rfl) rfl
theorem ve_R_sum : Cond.selects R_R y_R_sum y_R_sum ∈ WG := wg3 (List.mem_of_getElem? (i := 50) rfl) rfl
theorem vc_R_sum : Cond.code y_R_sum b_R_sum 6 (some .long) ∈ WG := wg3 (List.mem_of_getElem? (i := 51) rfl) rfl
theorem lk_R_125 : Cond.constantLong R_R 125 (-1) ∈ WG := wg3 (List.mem_of_getElem? (i := 52) rfl) rfl
theorem lm_L_74 : Cond.methodLink R_L 74 y_R_extreme ∈ WG := wg3 (List.mem_of_getElem? (i := 53) rfl) rfl
theorem vi_R_extreme : Cond.instanceMethod y_R_extreme ∈ WG := wg3 (List.mem_of_getElem? (i := 54) rfl) rfl
theorem ve_R_extreme : Cond.selects R_R y_R_extreme y_R_extreme ∈ WG := wg3 (List.mem_of_getElem? (i := 55) rfl) rfl
theorem vc_R_extreme : Cond.code y_R_extreme b_R_extreme 7 (some .int) ∈ WG := wg3 (List.mem_of_getElem? (i := 56) rfl) rfl
theorem lm_L_79 : Cond.methodLink R_L 79 y_R_covered ∈ WG := wg3 (List.mem_of_getElem? (i := 57) rfl) rfl
theorem vi_R_covered : Cond.instanceMethod y_R_covered ∈ WG := wg3 (List.mem_of_getElem? (i := 58) rfl) rfl
theorem ve_R_covered : Cond.selects R_R y_R_covered y_R_covered ∈ WG := wg3 (List.mem_of_getElem? (i := 59) rfl) rfl
theorem vc_R_covered : Cond.code y_R_covered b_R_covered 3 (some .int) ∈ WG := wg3 (List.mem_of_getElem? (i := 60) rfl) rfl
theorem lm_L_83 : Cond.methodLink R_L 83 y_R_estimate ∈ WG := wg3 (List.mem_of_getElem? (i := 61) rfl) rfl
theorem vi_R_estimate : Cond.instanceMethod y_R_estimate ∈ WG := wg3 (List.mem_of_getElem? (i := 62) rfl) rfl
theorem ve_R_estimate : Cond.selects R_R y_R_estimate y_R_estimate ∈ WG := wg3 (List.mem_of_getElem? (i := 63) rfl) rfl
theorem vc_R_estimate : Cond.code y_R_estimate b_R_estimate 3 (some .int) ∈ WG := wg3 (List.mem_of_getElem? (i := 64) rfl) rfl
theorem lm_R_127 : Cond.methodLink R_R 127 y_R_work ∈ WG := wg3 (List.mem_of_getElem? (i := 65) rfl) rfl
theorem vi_R_work : Cond.instanceMethod y_R_work ∈ WG := wg3 (List.mem_of_getElem? (i := 67) rfl) rfl
theorem vc_R_work : Cond.code y_R_work b_R_work 4 none ∈ WG := wg3 (List.mem_of_getElem? (i := 68) rfl) rfl
theorem lm_R_100 : Cond.methodLink R_R 100 y_R_clear ∈ WG := wg3 (List.mem_of_getElem? (i := 69) rfl) rfl
theorem vi_R_clear : Cond.instanceMethod y_R_clear ∈ WG := wg3 (List.mem_of_getElem? (i := 71) rfl) rfl
theorem vc_R_clear : Cond.code y_R_clear b_R_clear 3 none ∈ WG := wg3 (List.mem_of_getElem? (i := 72) rfl) rfl
theorem lm_R_103 : Cond.methodLink R_R 103 y_R_take ∈ WG := wg3 (List.mem_of_getElem? (i := 73) rfl) rfl
theorem vi_R_take : Cond.instanceMethod y_R_take ∈ WG := wg3 (List.mem_of_getElem? (i := 75) rfl) rfl
theorem vc_R_take : Cond.code y_R_take b_R_take 3 none ∈ WG := wg3 (List.mem_of_getElem? (i := 76) rfl) rfl
theorem lm_R_110 : Cond.methodLink R_R 110 y_R_counters ∈ WG := wg3 (List.mem_of_getElem? (i := 77) rfl) rfl
theorem vi_R_counters : Cond.instanceMethod y_R_counters ∈ WG := wg3 (List.mem_of_getElem? (i := 79) rfl) rfl
theorem vc_R_counters : Cond.code y_R_counters b_R_counters 4 (some .int) ∈ WG := wg3 (List.mem_of_getElem? (i := 80) rfl) rfl
theorem lm_R_113 : Cond.methodLink R_R 113 y_R_lower ∈ WG := wg3 (List.mem_of_getElem? (i := 81) rfl) rfl
theorem vi_R_lower : Cond.instanceMethod y_R_lower ∈ WG := wg3 (List.mem_of_getElem? (i := 83) rfl) rfl
theorem vc_R_lower : Cond.code y_R_lower b_R_lower 5 none ∈ WG := wg3 (List.mem_of_getElem? (i := 84) rfl) rfl
theorem lm_R_116 : Cond.methodLink R_R 116 y_R_compress ∈ WG := wg3 (List.mem_of_getElem? (i := 85) rfl) rfl
theorem vi_R_compress : Cond.instanceMethod y_R_compress ∈ WG := wg3 (List.mem_of_getElem? (i := 87) rfl) rfl
theorem vc_R_compress : Cond.code y_R_compress b_R_compress 9 none ∈ WG := wg3 (List.mem_of_getElem? (i := 88) rfl) rfl
theorem lm_R_107 : Cond.methodLink R_R 107 y_R_merge ∈ WG := wg3 (List.mem_of_getElem? (i := 89) rfl) rfl
theorem vi_R_merge : Cond.instanceMethod y_R_merge ∈ WG := wg3 (List.mem_of_getElem? (i := 91) rfl) rfl
theorem vc_R_merge : Cond.code y_R_merge b_R_merge 6 none ∈ WG := wg3 (List.mem_of_getElem? (i := 92) rfl) rfl
theorem lm_R_119 : Cond.methodLink R_R 119 y_R_clearUsed ∈ WG := wg3 (List.mem_of_getElem? (i := 93) rfl) rfl
theorem vi_R_clearUsed : Cond.instanceMethod y_R_clearUsed ∈ WG := wg3 (List.mem_of_getElem? (i := 95) rfl) rfl
theorem vc_R_clearUsed : Cond.code y_R_clearUsed b_R_clearUsed 2 none ∈ WG := wg3 (List.mem_of_getElem? (i := 96) rfl) rfl
theorem lm_R_122 : Cond.methodLink R_R 122 y_R_greatestUnused ∈ WG := wg3 (List.mem_of_getElem? (i := 97) rfl) rfl
theorem vi_R_greatestUnused : Cond.instanceMethod y_R_greatestUnused ∈ WG := wg3 (List.mem_of_getElem? (i := 99) rfl) rfl
theorem vc_R_greatestUnused : Cond.code y_R_greatestUnused b_R_greatestUnused 4 (some .int) ∈ WG := wg3 (List.mem_of_getElem? (i := 100) rfl) rfl
theorem lm_L_87 : Cond.methodLink R_L 87 y_R_top ∈ WG := wg3 (List.mem_of_getElem? (i := 101) rfl) rfl
theorem vi_R_top : Cond.instanceMethod y_R_top ∈ WG := wg3 (List.mem_of_getElem? (i := 102) rfl) rfl
theorem ve_R_top : Cond.selects R_R y_R_top y_R_top ∈ WG := wg3 (List.mem_of_getElem? (i := 103) rfl) rfl
theorem vc_R_top : Cond.code y_R_top b_R_top 5 (some .int) ∈ WG := wg3 (List.mem_of_getElem? (i := 104) rfl) rfl
theorem lm_L_91 : Cond.methodLink R_L 91 y_R_digestSize ∈ WG := wg3 (List.mem_of_getElem? (i := 105) rfl) rfl
theorem vi_R_digestSize : Cond.instanceMethod y_R_digestSize ∈ WG := wg3 (List.mem_of_getElem? (i := 106) rfl) rfl
theorem ve_R_digestSize : Cond.selects R_R y_R_digestSize y_R_digestSize ∈ WG := wg3 (List.mem_of_getElem? (i := 107) rfl) rfl
theorem vc_R_digestSize : Cond.code y_R_digestSize b_R_digestSize 4 (some .int) ∈ WG := wg3 (List.mem_of_getElem? (i := 108) rfl) rfl
theorem lm_L_96 : Cond.methodLink R_L 96 y_R_below ∈ WG := wg3 (List.mem_of_getElem? (i := 109) rfl) rfl
theorem vi_R_below : Cond.instanceMethod y_R_below ∈ WG := wg3 (List.mem_of_getElem? (i := 110) rfl) rfl
theorem ve_R_below : Cond.selects R_R y_R_below y_R_below ∈ WG := wg3 (List.mem_of_getElem? (i := 111) rfl) rfl
theorem vc_R_below : Cond.code y_R_below b_R_below 9 (some .int) ∈ WG := wg3 (List.mem_of_getElem? (i := 112) rfl) rfl
theorem lm_R_130 : Cond.methodLink R_R 130 y_R_width ∈ WG := wg3 (List.mem_of_getElem? (i := 113) rfl) rfl
theorem vs_R_width : Cond.static y_R_width ∈ WG := wg3 (List.mem_of_getElem? (i := 114) rfl) rfl
theorem vc_R_width : Cond.code y_R_width b_R_width 1 (some .int) ∈ WG := wg3 (List.mem_of_getElem? (i := 115) rfl) rfl
theorem lm_R_133 : Cond.methodLink R_R 133 y_R_least ∈ WG := wg3 (List.mem_of_getElem? (i := 116) rfl) rfl
theorem vs_R_least : Cond.static y_R_least ∈ WG := wg3 (List.mem_of_getElem? (i := 117) rfl) rfl
theorem vc_R_least : Cond.code y_R_least b_R_least 2 (some .int) ∈ WG := wg3 (List.mem_of_getElem? (i := 118) rfl) rfl
theorem lm_L_100 : Cond.methodLink R_L 100 y_R_quantile ∈ WG := wg3 (List.mem_of_getElem? (i := 119) rfl) rfl
theorem vi_R_quantile : Cond.instanceMethod y_R_quantile ∈ WG := wg3 (List.mem_of_getElem? (i := 120) rfl) rfl
theorem ve_R_quantile : Cond.selects R_R y_R_quantile y_R_quantile ∈ WG := wg3 (List.mem_of_getElem? (i := 121) rfl) rfl
theorem vc_R_quantile : Cond.code y_R_quantile b_R_quantile 8 (some .int) ∈ WG := wg3 (List.mem_of_getElem? (i := 122) rfl) rfl
theorem ve_T_isNode : Cond.selects R_T y_T_isNode y_T_isNode ∈ WG := List.mem_filter.mpr ⟨List.mem_append_left _ (by decide +kernel), rfl⟩
theorem ve_T_isLeaf : Cond.selects R_T y_T_isLeaf y_T_isLeaf ∈ WG := List.mem_filter.mpr ⟨List.mem_append_left _ (by decide +kernel), rfl⟩
theorem ve_T_slotOf : Cond.selects R_T y_T_slotOf y_T_slotOf ∈ WG := List.mem_filter.mpr ⟨List.mem_append_left _ (by decide +kernel), rfl⟩
theorem ve_T_freeSlot : Cond.selects R_T y_T_freeSlot y_T_freeSlot ∈ WG := List.mem_filter.mpr ⟨List.mem_append_left _ (by decide +kernel), rfl⟩
theorem ve_T_slotWithNumber : Cond.selects R_T y_T_slotWithNumber y_T_slotWithNumber ∈ WG := List.mem_filter.mpr ⟨List.mem_append_left _ (by decide +kernel), rfl⟩
theorem ve_T_forgetChildren : Cond.selects R_T y_T_forgetChildren y_T_forgetChildren ∈ WG := List.mem_filter.mpr ⟨List.mem_append_left _ (by decide +kernel), rfl⟩
theorem ve_T_mergeKept : Cond.selects R_T y_T_mergeKept y_T_mergeKept ∈ WG := List.mem_filter.mpr ⟨List.mem_append_left _ (by decide +kernel), rfl⟩
theorem ve_R_isNode : Cond.selects R_R y_R_isNode y_R_isNode ∈ WG := List.mem_filter.mpr ⟨List.mem_append_left _ (by decide +kernel), rfl⟩
theorem ve_R_leafNode : Cond.selects R_R y_R_leafNode y_R_leafNode ∈ WG := List.mem_filter.mpr ⟨List.mem_append_left _ (by decide +kernel), rfl⟩
theorem ve_R_writeBlock : Cond.selects R_R y_R_writeBlock y_R_writeBlock ∈ WG := List.mem_filter.mpr ⟨List.mem_append_left _ (by decide +kernel), rfl⟩
theorem ve_R_placeOf : Cond.selects R_R y_R_placeOf y_R_placeOf ∈ WG := List.mem_filter.mpr ⟨List.mem_append_left _ (by decide +kernel), rfl⟩
theorem ve_R_freePlace : Cond.selects R_R y_R_freePlace y_R_freePlace ∈ WG := List.mem_filter.mpr ⟨List.mem_append_left _ (by decide +kernel), rfl⟩
theorem ve_R_know : Cond.selects R_R y_R_know y_R_know ∈ WG := List.mem_filter.mpr ⟨List.mem_append_left _ (by decide +kernel), rfl⟩
theorem ve_R_work : Cond.selects R_R y_R_work y_R_work ∈ WG := List.mem_filter.mpr ⟨List.mem_append_left _ (by decide +kernel), rfl⟩
theorem ve_R_clear : Cond.selects R_R y_R_clear y_R_clear ∈ WG := List.mem_filter.mpr ⟨List.mem_append_left _ (by decide +kernel), rfl⟩
theorem ve_R_counters : Cond.selects R_R y_R_counters y_R_counters ∈ WG := List.mem_filter.mpr ⟨List.mem_append_left _ (by decide +kernel), rfl⟩
theorem ve_R_lower : Cond.selects R_R y_R_lower y_R_lower ∈ WG := List.mem_filter.mpr ⟨List.mem_append_left _ (by decide +kernel), rfl⟩
theorem ve_R_take : Cond.selects R_R y_R_take y_R_take ∈ WG := List.mem_filter.mpr ⟨List.mem_append_left _ (by decide +kernel), rfl⟩
theorem ve_R_merge : Cond.selects R_R y_R_merge y_R_merge ∈ WG := List.mem_filter.mpr ⟨List.mem_append_left _ (by decide +kernel), rfl⟩
theorem ve_R_clearUsed : Cond.selects R_R y_R_clearUsed y_R_clearUsed ∈ WG := List.mem_filter.mpr ⟨List.mem_append_left _ (by decide +kernel), rfl⟩
theorem ve_R_greatestUnused : Cond.selects R_R y_R_greatestUnused y_R_greatestUnused ∈ WG := List.mem_filter.mpr ⟨List.mem_append_left _ (by decide +kernel), rfl⟩
theorem ve_R_compress : Cond.selects R_R y_R_compress y_R_compress ∈ WG := List.mem_filter.mpr ⟨List.mem_append_left _ (by decide +kernel), rfl⟩
theorem in_C {x : Cond} : ∀ w ∈ u_ws R_C F_C 2, w ∈ x :: WG := by
  have h : u_ws R_C F_C 2 = [.laysFinal "TelemetryTree$Counters" "TelemetryTree$Counters" "limit" "I", .laysFinal "TelemetryTree$Counters" "TelemetryTree$Counters" "counts" "[I"] := by decide +kernel
  rw [h]
  intro w hw
  refine wq ?_
  simp only [List.mem_cons, List.not_mem_nil, or_false] at hw
  rcases hw with rfl | rfl
  · exact wg1 (List.mem_of_getElem? (i := 48) rfl) rfl
  · exact wg1 (List.mem_of_getElem? (i := 50) rfl) rfl
theorem in_D {x : Cond} : ∀ w ∈ u_ws R_D F_D 2, w ∈ x :: WG := by
  have h : u_ws R_D F_D 2 = [.laysFinal "TelemetryTree$Digest" "TelemetryTree$Digest" "divisor" "I", .laysFinal "TelemetryTree$Digest" "TelemetryTree$Digest" "counts" "[I"] := by decide +kernel
  rw [h]
  intro w hw
  refine wq ?_
  simp only [List.mem_cons, List.not_mem_nil, or_false] at hw
  rcases hw with rfl | rfl
  · exact wg1 (List.mem_of_getElem? (i := 63) rfl) rfl
  · exact wg1 (List.mem_of_getElem? (i := 65) rfl) rfl
theorem in_M {x : Cond} : ∀ w ∈ u_ws R_M F_M 4, w ∈ x :: WG := by
  have h : u_ws R_M F_M 4 = [.lays "TelemetryTree$Message" "TelemetryTree$Message" "number" "I", .lays "TelemetryTree$Message" "TelemetryTree$Message" "sender" "I", .lays "TelemetryTree$Message" "TelemetryTree$Message" "version" "I", .laysFinal "TelemetryTree$Message" "TelemetryTree$Message" "summary" "LTelemetryTree$Summary;"] := by decide +kernel
  rw [h]
  intro w hw
  refine wq ?_
  simp only [List.mem_cons, List.not_mem_nil, or_false] at hw
  rcases hw with rfl | rfl | rfl | rfl
  · exact wg1 (List.mem_of_getElem? (i := 148) rfl) rfl
  · exact wg1 (List.mem_of_getElem? (i := 150) rfl) rfl
  · exact wg1 (List.mem_of_getElem? (i := 152) rfl) rfl
  · exact wg1 (List.mem_of_getElem? (i := 154) rfl) rfl
theorem in_N {x : Cond} : ∀ w ∈ u_ws R_N F_N 9, w ∈ x :: WG := by
  have h : u_ws R_N F_N 9 = [.laysFinal "TelemetryTree$Node" "TelemetryTree$Node" "number" "I", .lays "TelemetryTree$Node" "TelemetryTree$Node" "parent" "I", .lays "TelemetryTree$Node" "TelemetryTree$Node" "leaf" "Z", .laysFinal "TelemetryTree$Node" "TelemetryTree$Node" "open" "[I", .lays "TelemetryTree$Node" "TelemetryTree$Node" "openCount" "I", .lays "TelemetryTree$Node" "TelemetryTree$Node" "reports" "I", .laysFinal "TelemetryTree$Node" "TelemetryTree$Node" "summary" "LTelemetryTree$Summary;", .laysFinal "TelemetryTree$Node" "TelemetryTree$Node" "kept" "LTelemetryTree$Summary;", .lays "TelemetryTree$Node" "TelemetryTree$Node" "keptVersion" "I"] := by decide +kernel
  rw [h]
  intro w hw
  refine wq ?_
  simp only [List.mem_cons, List.not_mem_nil, or_false] at hw
  rcases hw with rfl | rfl | rfl | rfl | rfl | rfl | rfl | rfl | rfl
  · exact wg1 (List.mem_of_getElem? (i := 114) rfl) rfl
  · exact wg1 (List.mem_of_getElem? (i := 116) rfl) rfl
  · exact wg1 (List.mem_of_getElem? (i := 118) rfl) rfl
  · exact wg1 (List.mem_of_getElem? (i := 120) rfl) rfl
  · exact wg1 (List.mem_of_getElem? (i := 122) rfl) rfl
  · exact wg1 (List.mem_of_getElem? (i := 124) rfl) rfl
  · exact wg1 (List.mem_of_getElem? (i := 126) rfl) rfl
  · exact wg1 (List.mem_of_getElem? (i := 128) rfl) rfl
  · exact wg1 (List.mem_of_getElem? (i := 130) rfl) rfl
theorem in_S {x : Cond} : ∀ w ∈ u_ws R_S F_S 7, w ∈ x :: WG := by
  have h : u_ws R_S F_S 7 = [.lays "TelemetryTree$Summary" "TelemetryTree$Summary" "n" "I", .lays "TelemetryTree$Summary" "TelemetryTree$Summary" "itemSum" "J", .lays "TelemetryTree$Summary" "TelemetryTree$Summary" "least" "I", .lays "TelemetryTree$Summary" "TelemetryTree$Summary" "greatest" "I", .laysFinal "TelemetryTree$Summary" "TelemetryTree$Summary" "fromLeaf" "[I", .laysFinal "TelemetryTree$Summary" "TelemetryTree$Summary" "counters" "LTelemetryTree$Counters;", .laysFinal "TelemetryTree$Summary" "TelemetryTree$Summary" "digest" "LTelemetryTree$Digest;"] := by decide +kernel
  rw [h]
  intro w hw
  refine wq ?_
  simp only [List.mem_cons, List.not_mem_nil, or_false] at hw
  rcases hw with rfl | rfl | rfl | rfl | rfl | rfl | rfl
  · exact wg1 (List.mem_of_getElem? (i := 83) rfl) rfl
  · exact wg1 (List.mem_of_getElem? (i := 85) rfl) rfl
  · exact wg1 (List.mem_of_getElem? (i := 87) rfl) rfl
  · exact wg1 (List.mem_of_getElem? (i := 89) rfl) rfl
  · exact wg1 (List.mem_of_getElem? (i := 91) rfl) rfl
  · exact wg1 (List.mem_of_getElem? (i := 93) rfl) rfl
  · exact wg1 (List.mem_of_getElem? (i := 95) rfl) rfl
theorem in_T {x : Cond} : ∀ w ∈ u_ws R_T F_T 4, w ∈ x :: WG := by
  have h : u_ws R_T F_T 4 = [.laysFinal "TelemetryTree" "TelemetryTree" "nodes" "[LTelemetryTree$Node;", .lays "TelemetryTree" "TelemetryTree" "nodeCount" "I", .laysFinal "TelemetryTree" "TelemetryTree" "slots" "[LTelemetryTree$Message;", .lays "TelemetryTree" "TelemetryTree" "lastMessage" "I"] := by decide +kernel
  rw [h]
  intro w hw
  refine wq ?_
  simp only [List.mem_cons, List.not_mem_nil, or_false] at hw
  rcases hw with rfl | rfl | rfl | rfl
  · exact wg1 (List.mem_of_getElem? (i := 161) rfl) rfl
  · exact wg1 (List.mem_of_getElem? (i := 163) rfl) rfl
  · exact wg1 (List.mem_of_getElem? (i := 165) rfl) rfl
  · exact wg1 (List.mem_of_getElem? (i := 167) rfl) rfl
theorem in_R {x : Cond} : ∀ w ∈ u_ws R_R F_R 22, w ∈ x :: WG := by
  have h : u_ws R_R F_R 22 = [.lays "TelemetryTreeModel" "TelemetryTreeModel" "k" "I", .lays "TelemetryTreeModel" "TelemetryTreeModel" "d" "I", .lays "TelemetryTreeModel" "TelemetryTreeModel" "nodes" "I", .lays "TelemetryTreeModel" "TelemetryTreeModel" "up" "[I", .lays "TelemetryTreeModel" "TelemetryTreeModel" "isLeaf" "[Z", .lays "TelemetryTreeModel" "TelemetryTreeModel" "reports" "[I", .lays "TelemetryTreeModel" "TelemetryTreeModel" "journal" "[I", .lays "TelemetryTreeModel" "TelemetryTreeModel" "written" "[I", .lays "TelemetryTreeModel" "TelemetryTreeModel" "open" "[I", .lays "TelemetryTreeModel" "TelemetryTreeModel" "opened" "[I", .lays "TelemetryTreeModel" "TelemetryTreeModel" "keptVersion" "[I", .lays "TelemetryTreeModel" "TelemetryTreeModel" "kept" "[I", .lays "TelemetryTreeModel" "TelemetryTreeModel" "messages" "I", .lays "TelemetryTreeModel" "TelemetryTreeModel" "number" "[I", .lays "TelemetryTreeModel" "TelemetryTreeModel" "sender" "[I", .lays "TelemetryTreeModel" "TelemetryTreeModel" "version" "[I", .lays "TelemetryTreeModel" "TelemetryTreeModel" "carried" "[I", .lays "TelemetryTreeModel" "TelemetryTreeModel" "known" "[I", .lays "TelemetryTreeModel" "TelemetryTreeModel" "n" "[I", .lays "TelemetryTreeModel" "TelemetryTreeModel" "counter" "[I", .lays "TelemetryTreeModel" "TelemetryTreeModel" "digest" "[I", .lays "TelemetryTreeModel" "TelemetryTreeModel" "used" "[Z"] := by decide +kernel
  rw [h]
  intro w hw
  refine wq ?_
  simp only [List.mem_cons, List.not_mem_nil, or_false] at hw
  rcases hw with rfl | rfl | rfl | rfl | rfl | rfl | rfl | rfl | rfl | rfl | rfl | rfl | rfl | rfl | rfl | rfl | rfl | rfl | rfl | rfl | rfl | rfl
  · exact wg2 (List.mem_of_getElem? (i := 178) rfl) rfl
  · exact wg2 (List.mem_of_getElem? (i := 180) rfl) rfl
  · exact wg2 (List.mem_of_getElem? (i := 182) rfl) rfl
  · exact wg2 (List.mem_of_getElem? (i := 184) rfl) rfl
  · exact wg2 (List.mem_of_getElem? (i := 186) rfl) rfl
  · exact wg2 (List.mem_of_getElem? (i := 188) rfl) rfl
  · exact wg2 (List.mem_of_getElem? (i := 190) rfl) rfl
  · exact wg2 (List.mem_of_getElem? (i := 192) rfl) rfl
  · exact wg2 (List.mem_of_getElem? (i := 194) rfl) rfl
  · exact wg2 (List.mem_of_getElem? (i := 196) rfl) rfl
  · exact wg2 (List.mem_of_getElem? (i := 198) rfl) rfl
  · exact wg2 (List.mem_of_getElem? (i := 200) rfl) rfl
  · exact wg2 (List.mem_of_getElem? (i := 202) rfl) rfl
  · exact wg2 (List.mem_of_getElem? (i := 204) rfl) rfl
  · exact wg2 (List.mem_of_getElem? (i := 206) rfl) rfl
  · exact wg2 (List.mem_of_getElem? (i := 208) rfl) rfl
  · exact wg2 (List.mem_of_getElem? (i := 210) rfl) rfl
  · exact wg2 (List.mem_of_getElem? (i := 212) rfl) rfl
  · exact wg2 (List.mem_of_getElem? (i := 214) rfl) rfl
  · exact wg2 (List.mem_of_getElem? (i := 216) rfl) rfl
  · exact wg2 (List.mem_of_getElem? (i := 218) rfl) rfl
  · exact wg2 (List.mem_of_getElem? (i := 220) rfl) rfl
/-- the words that are carried by themselves: calls of a nest mate, arrays of references -/
def zN (s : State) : Prop := va_Nw (.methodLinkNest R_S 45 y_T_clear "TelemetryTree") s ∧ va_Nw (.methodLinkNest R_S 66 y_T_addTo "TelemetryTree") s ∧ va_Nw (.methodLinkNest R_C 27 y_T_addTo "TelemetryTree") s ∧ va_Nw (.methodLinkNest R_D 23 y_T_addTo "TelemetryTree") s ∧ va_Nw (.methodLinkNest R_S 53 y_T_overwrite "TelemetryTree") s ∧ va_AO R_N s ∧ va_AO R_M s
theorem zN.moved {s U : State} (hW : s.WarmedH U.vm) (h : zN s) : zN U := by
  obtain ⟨h0, h1, h2, h3, h4, h5, h6⟩ := h
  exact ⟨va_Nw.warmM hW h0, va_Nw.warmM hW h1, va_Nw.warmM hW h2, va_Nw.warmM hW h3, va_Nw.warmM hW h4, va_AO.moved hW.alike h5, va_AO.moved hW.alike h6⟩
theorem zN.blind {U : State} {g : JFrame} {mk : MethodId} {a : Array Value} (h : zN U) : zN (U.calling g mk a) := by
  obtain ⟨h0, h1, h2, h3, h4, h5, h6⟩ := h
  exact ⟨va_Nw.same rfl rfl h0, va_Nw.same rfl rfl h1, va_Nw.same rfl rfl h2, va_Nw.same rfl rfl h3, va_Nw.same rfl rfl h4, va_AO.moved (u := U) (U := U.calling g mk a) (Vm.Alike.refl U.vm) h5, va_AO.moved (u := U) (U := U.calling g mk a) (Vm.Alike.refl U.vm) h6⟩
theorem zn_S_45 {s : State} (h : zN s) : va_Nw (.methodLinkNest R_S 45 y_T_clear "TelemetryTree") s := h.1
theorem zn_S_66 {s : State} (h : zN s) : va_Nw (.methodLinkNest R_S 66 y_T_addTo "TelemetryTree") s := h.2.1
theorem zn_C_27 {s : State} (h : zN s) : va_Nw (.methodLinkNest R_C 27 y_T_addTo "TelemetryTree") s := h.2.2.1
theorem zn_D_23 {s : State} (h : zN s) : va_Nw (.methodLinkNest R_D 23 y_T_addTo "TelemetryTree") s := h.2.2.2.1
theorem zn_S_53 {s : State} (h : zN s) : va_Nw (.methodLinkNest R_S 53 y_T_overwrite "TelemetryTree") s := h.2.2.2.2.1
theorem zn_N {s : State} (h : zN s) : va_AO R_N s := h.2.2.2.2.2.1
theorem zn_M {s : State} (h : zN s) : va_AO R_M s := h.2.2.2.2.2.2
/-- what a method asks of the tables: its own code, and all the rest -/
abbrev wy (y : MethodName) (code : ByteArray) (n : Nat) (ret : Option FieldType) : List Cond := Cond.code y code n ret :: WG
def rm (d mc ms : Nat) : Room := { frames := d, cells := mc, slots := ms, locals := 40 * d }
theorem wg_good {w : Cond} (h : w ∈ WG) : (w.onTables && w.keeps) = true ∨ ∃ ty, w = .arrayClass ty := good_of_word (List.mem_filter.mp h).2
theorem gi_wy {x : Cond} {y : MethodName} {code : ByteArray} {n : Nat} {ret : Option FieldType} (h : Cond.code y code n ret ∈ WG) : GoodIn (x :: WG) (wy y code n ret) := fun w hw => by
  rcases List.mem_cons.mp hw with rfl | hw
  · exact ⟨wq h, wg_good h⟩
  · exact ⟨wq hw, wg_good hw⟩
theorem gi_V {x : Cond} {own C : String} {idx : Nat} {y : MethodName} {code : ByteArray} {n : Nat} {ret : Option FieldType} (h1 : Cond.methodLink own idx y ∈ WG) (h2 : Cond.instanceMethod y ∈ WG) (h3 : Cond.selects C y y ∈ WG) (h4 : Cond.initialized C ∈ WG) (h : Cond.code y code n ret ∈ WG) : GoodIn (x :: WG) (wsV own idx C y (wy y code n ret)) := fun w hw => by
  unfold wsV at hw
  rcases List.mem_append.mp hw with hw | hw
  · have hm : w ∈ WG := by
      simp only [List.mem_cons, List.not_mem_nil, or_false] at hw
      rcases hw with rfl | rfl | rfl | rfl
      · exact h1
      · exact h2
      · exact h3
      · exact h4
    exact ⟨wq hm, wg_good hm⟩
  · exact gi_wy h w hw
theorem gi_S {x : Cond} {own : String} {idx : Nat} {y : MethodName} {code : ByteArray} {n : Nat} {ret : Option FieldType} (h1 : Cond.methodLink own idx y ∈ WG) (h2 : Cond.static y ∈ WG) (h4 : Cond.initialized own ∈ WG) (h : Cond.code y code n ret ∈ WG) : GoodIn (x :: WG) (wsS own idx y (wy y code n ret)) := fun w hw => by
  unfold wsS at hw
  rcases List.mem_append.mp hw with hw | hw
  · have hm : w ∈ WG := by
      simp only [List.mem_cons, List.not_mem_nil, or_false] at hw
      rcases hw with rfl | rfl | rfl
      · exact h1
      · exact h2
      · exact h4
    exact ⟨wq hm, wg_good hm⟩
  · exact gi_wy h w hw
end
section
/-! The judgement Z: the world is a function k of addresses (the cells b .. b + N - 1), the locals are a list; one row an instruction. -/
def zl (b N : Nat) (k : Nat → va_E) : va_W := (List.range N).map (fun i => (b + i, k (b + i)))
theorem zl_at {b N q : Nat} {k : Nat → va_E} {x : va_E} (h1 : b ≤ q) (h2 : q < b + N) (he : k q = x) : (zl b N k)[q - b]? = some (q, x) := by
  unfold zl
  have h3 : q - b < N := by omega
  have h4 : b + (q - b) = q := by omega
  rw [List.getElem?_map, List.getElem?_range h3]
  simp [h4, he]
theorem zl_of {b N i : Nat} {k : Nat → va_E} {q : Nat × va_E} (h : (zl b N k)[i]? = some q) : i < N ∧ q = (b + i, k (b + i)) := by
  unfold zl at h
  rw [List.getElem?_map] at h
  by_cases hi : i < N
  · rw [List.getElem?_range hi] at h
    exact ⟨hi, (Option.some.inj h).symm⟩
  · rw [List.getElem?_eq_none (by simp; omega)] at h
    cases h
theorem zl_D {b N : Nat} {k : Nat → va_E} : va_D (fun q => b ≤ q) (zl b N k) := by
  refine ⟨fun i j x y hi hj hxy => ?_, fun i q h => ?_⟩
  · obtain ⟨-, rfl⟩ := zl_of hi
    obtain ⟨-, rfl⟩ := zl_of hj
    dsimp only at hxy
    omega
  · obtain ⟨-, rfl⟩ := zl_of h
    show b ≤ b + i
    omega
theorem zl_P {D : va_G} {cl : List vw_C} {b N : Nat} {k : Nat → va_E} {H : Heap} : va_P D cl (zl b N k) H ↔ ∀ q, b ≤ q → q < b + N → va_at D cl (q, k q) H := by
  refine ⟨fun h q h1 h2 => h (q - b) _ (zl_at h1 h2 rfl), fun h i q hi => ?_⟩
  obtain ⟨h1, rfl⟩ := zl_of hi
  exact h (b + i) (by omega) (by omega)
theorem zl_set {b N q : Nat} {k : Nat → va_E} {x : va_E} (h1 : b ≤ q) (h2 : q < b + N) : (zl b N k).set (q - b) (q, x) = zl b N (va_up k q x) := by
  apply List.ext_getElem?
  intro i
  by_cases hi : i < N
  · have hr : (zl b N (va_up k q x))[i]? = some (b + i, va_up k q x (b + i)) := by
      have := zl_at (b := b) (N := N) (q := b + i) (k := va_up k q x) (by omega) (by omega) rfl
      rwa [Nat.add_sub_cancel_left] at this
    have hl : (zl b N k)[i]? = some (b + i, k (b + i)) := by
      have := zl_at (b := b) (N := N) (q := b + i) (k := k) (by omega) (by omega) rfl
      rwa [Nat.add_sub_cancel_left] at this
    rw [hr]
    by_cases hq : i = q - b
    · subst hq
      have h3 : b + (q - b) = q := by omega
      rw [List.getElem?_set_self (by unfold zl; simp; omega)]
      simp [va_up, h3]
    · rw [List.getElem?_set_ne (Ne.symm hq), hl]
      have h3 : ¬ b + i = q := by omega
      simp [va_up, h3]
  · rw [List.getElem?_eq_none (by unfold zl; simp; omega), List.getElem?_eq_none (by unfold zl; simp; omega)]
theorem zl_push {b N : Nat} {k : Nat → va_E} {x : va_E} : zl b N k ++ [(b + N, x)] = zl b (N + 1) (va_up k (b + N) x) := by
  unfold zl
  rw [List.range_succ, List.map_append]
  congr 1
  · apply List.map_congr_left
    intro i hi
    have h1 := List.mem_range.mp hi
    have h3 : ¬ i = N := by omega
    simp [va_up, h3]
  · simp [va_up]
theorem zl_congr {b N : Nat} {k k' : Nat → va_E} (h : ∀ q, b ≤ q → q < b + N → k q = k' q) : zl b N k = zl b N k' := by
  unfold zl
  apply List.map_congr_left
  intro i hi
  have h1 := List.mem_range.mp hi
  rw [h (b + i) (by omega) (by omega)]
theorem up_eq {α : Type} {f : Nat → α} {q : Nat} {x : α} : va_up f q x q = x := by simp [va_up]
theorem up_ne {α : Type} {f : Nat → α} {q r : Nat} {x : α} (h : r ≠ q) : va_up f q x r = f r := by simp [va_up, h]
/-- the locals, by their places -/
def zp : Nat → List (Option Value) → List (Nat × Value)
  | _, [] => []
  | i, none :: t => zp (i + 1) t
  | i, some v :: t => (i, v) :: zp (i + 1) t
theorem zp_mem {v : Value} : ∀ (lv : List (Option Value)) (j i : Nat), lv[i]? = some (some v) → (j + i, v) ∈ zp j lv
  | [], j, i, h => by simp at h
  | x :: t, j, 0, h => by
    rw [List.getElem?_cons_zero] at h
    cases h
    simp [zp]
  | x :: t, j, i + 1, h => by
    rw [List.getElem?_cons_succ] at h
    have h1 := zp_mem t (j + 1) i h
    rw [show j + 1 + i = j + (i + 1) by omega] at h1
    cases x with
    | none => exact h1
    | some w => exact List.mem_cons_of_mem _ h1
theorem zp_of {q : Nat × Value} : ∀ (lv : List (Option Value)) (j : Nat), q ∈ zp j lv → j ≤ q.1 ∧ lv[q.1 - j]? = some (some q.2)
  | [], j, h => by simp [zp] at h
  | none :: t, j, h => by
    obtain ⟨h1, h2⟩ := zp_of t (j + 1) h
    refine ⟨by omega, ?_⟩
    rw [show q.1 - j = (q.1 - (j + 1)) + 1 by omega, List.getElem?_cons_succ]
    exact h2
  | some w :: t, j, h => by
    rcases List.mem_cons.mp h with h | h
    · subst h
      simp
    · obtain ⟨h1, h2⟩ := zp_of t (j + 1) h
      refine ⟨by omega, ?_⟩
      rw [show q.1 - j = (q.1 - (j + 1)) + 1 by omega, List.getElem?_cons_succ]
      exact h2
def zk (ls : Array Slot) (nL : Nat) (lv : List (Option Value)) : Prop := lv_has ls nL (zp 0 lv)
theorem zk.at {ls : Array Slot} {nL : Nat} {lv : List (Option Value)} {i : Nat} {v : Value} (h : zk ls nL lv) (hl : lv[i]? = some (some v)) : ls[i]? = some (.val v) := by
  have h1 := h.2.2 _ (zp_mem lv 0 i hl)
  simpa using h1
/-- the place before isn't the first half of a long -/
def zfr (lv : List (Option Value)) : Nat → Bool
  | 0 => true
  | i + 1 => match lv[i]? with
    | some (some v) => v.category == 1
    | _ => true
theorem zp_set {lv : List (Option Value)} {i : Nat} {v : Value} (hf : zfr lv i = true) : ∀ q ∈ zp 0 (lv.set i (some v)), q ∈ (i, v) :: (zp 0 lv).filter (fun q => !(q.1 == i) && !(q.1 + 1 == i && q.2.category == 2)) := by
  intro q hq
  obtain ⟨-, h1⟩ := zp_of _ 0 hq
  rw [Nat.sub_zero] at h1
  by_cases hi : q.1 = i
  · subst hi
    have hl : q.1 < lv.length := by
      have := (List.getElem?_eq_some_iff.mp h1).1
      simpa using this
    rw [List.getElem?_set_self hl] at h1
    have h2 : q.2 = v := (Option.some.inj (Option.some.inj h1)).symm
    exact List.mem_cons.mpr (Or.inl (by rw [← h2]))
  · rw [List.getElem?_set_ne (Ne.symm hi)] at h1
    refine List.mem_cons_of_mem _ (List.mem_filter.mpr ⟨?_, ?_⟩)
    · have := zp_mem lv 0 q.1 h1
      simpa using this
    · have h3 : (q.1 == i) = false := by simpa using hi
      rw [h3]
      by_cases h4 : q.1 + 1 = i
      · subst h4
        simp only [zfr, h1] at hf
        have h5 : q.2.category = 1 := by simpa using hf
        simp [h5]
      · have h6 : (q.1 + 1 == i) = false := by simpa using h4
        simp [h6]
theorem zp_set2 {lv : List (Option Value)} {i : Nat} {v : Value} (hf : zfr lv i = true) : ∀ q ∈ zp 0 ((lv.set i (some v)).set (i + 1) none), q ∈ (i, v) :: (zp 0 lv).filter (fun q => !(q.1 == i) && (!(q.1 == i + 1) && !(q.1 + 1 == i && q.2.category == 2))) := by
  intro q hq
  obtain ⟨-, h1⟩ := zp_of _ 0 hq
  rw [Nat.sub_zero] at h1
  have hn : ¬ q.1 = i + 1 := by
    intro hc
    rw [hc] at h1
    have hl : i + 1 < (lv.set i (some v)).length := by
      have := (List.getElem?_eq_some_iff.mp h1).1
      simpa using this
    rw [List.getElem?_set_self hl] at h1
    cases h1
  rw [List.getElem?_set_ne (Ne.symm hn)] at h1
  have hq2 : q ∈ zp 0 (lv.set i (some v)) := by
    have := zp_mem (lv.set i (some v)) 0 q.1 h1
    simpa using this
  rcases List.mem_cons.mp (zp_set hf q hq2) with h | h
  · exact List.mem_cons.mpr (Or.inl h)
  · obtain ⟨h2, h3⟩ := List.mem_filter.mp h
    refine List.mem_cons_of_mem _ (List.mem_filter.mpr ⟨h2, ?_⟩)
    have h4 : (q.1 == i + 1) = false := by simpa using hn
    rw [h4]
    simpa using h3
theorem zk.sub {ls : Array Slot} {nL : Nat} {l : List (Nat × Value)} {lv : List (Option Value)} (h : lv_has ls nL l) (hs : ∀ q ∈ zp 0 lv, q ∈ l) : zk ls nL lv := ⟨h.1, h.2.1, fun q hq => h.2.2 q (hs q hq)⟩
/-- one of the list is forgotten -/
theorem zk.less {ls : Array Slot} {nL : Nat} {lv lv' : List (Option Value)} (h : zk ls nL lv) (hs : ∀ (i : Nat) (v : Value), lv'[i]? = some (some v) → lv[i]? = some (some v)) : zk ls nL lv' := by
  refine ⟨h.1, h.2.1, fun q hq => ?_⟩
  obtain ⟨-, h1⟩ := zp_of _ 0 hq
  rw [Nat.sub_zero] at h1
  exact h.at (hs _ _ h1)
def zA (b : Nat) : Nat → Prop := fun q => b ≤ q
def Z (p : Program) (l : Launch) (e : Env) (R : Room) (s : State) (m : MethodId) (args : Array Value) (below : List Frame) (meth : Method) (c : Code) (nL : Nat) (D : va_G) (b N : Nat) (k : Nat → va_E) (cells slots : Nat) (Q : State → Prop) (pc : Nat) (lv : List (Option Value)) (st : List Value) : Prop :=
  ∀ (H : Heap) (locs : List Loc) (ls : Array Slot), H.size = b + N → va_P D classes (zl b N k) H → va_S (zA b) s.heap H locs → zk ls nL lv → W p l e R s m args below meth c H locs cells slots Q (F0 m pc ls st)
def zX (p : Program) (s : State) (m : MethodId) (args : Array Value) (meth : Method) (c : Code) (cc : ByteArray) (nL : Nat) (own : String) (ret : Option FieldType) (Ts : List Cond) (D : va_G) (tys : List (ClassId × FieldType)) (b : Nat) : Prop :=
  CallFix p m c cc nL s args Ts own ∧ va_K D classes tys s ∧ meth.sig.returnType = ret ∧ meth.locks = false ∧ b ≤ s.heap.size ∧ zN s
/-- counting up: the end, and a step back -/
theorem z_up {P : Nat → Prop} (e : Nat) (hx : P e) (hs : ∀ i, i < e → P (i + 1) → P i) : ∀ i, i ≤ e → P i := by
  intro i hi
  generalize hn : e - i = n
  induction n generalizing i with
  | zero => rw [show i = e by omega]; exact hx
  | succ n ih => exact hs i (by omega) (ih (i + 1) (by omega) (by omega))
/-- counting down -/
theorem z_dn {P : Nat → Prop} (hx : P 0) (hs : ∀ i, P i → P (i + 1)) : ∀ i, P i := by
  intro i
  induction i with
  | zero => exact hx
  | succ i ih => exact hs i ih
section ZR
variable {p : Program} {l : Launch} {e : Env} {R : Room} {s : State} {m : MethodId} {args : Array Value} {below : List Frame} {meth : Method} {c : Code} {cells slots : Nat} {Q : State → Prop}
variable {cc : ByteArray} {nL : Nat} {own : String} {ret : Option FieldType} {Ts : List Cond} {D : va_G} {tys : List (ClassId × FieldType)} {b N : Nat} {k : Nat → va_E} {pc : Nat} {lv : List (Option Value)} {st : List Value}
theorem z_iconst (X : zX p s m args meth c cc nL own ret Ts D tys b) {n : Int} {v : Int32} (d : decode cc pc = .ok (.iconst n, 1)) (hv : Int32.ofInt n = v) (kk : Z p l e R s m args below meth c nL D b N k cells slots Q (pc + 1) lv (.int v :: st)) : Z p l e R s m args below meth c nL D b N k cells slots Q pc lv st :=
  fun H locs ls h1 h2 h3 h4 => lv_iconst X.1.1 X.1.2.1 d hv (kk H locs ls h1 h2 h3 h4)
theorem z_bipush (X : zX p s m args meth c cc nL own ret Ts D tys b) {n : Int} {v : Int32} (d : decode cc pc = .ok (.bipush n, 2)) (hv : (Int8.ofInt n).toInt32 = v) (kk : Z p l e R s m args below meth c nL D b N k cells slots Q (pc + 2) lv (.int v :: st)) : Z p l e R s m args below meth c nL D b N k cells slots Q pc lv st :=
  fun H locs ls h1 h2 h3 h4 => lv_bipush X.1.1 X.1.2.1 d hv (kk H locs ls h1 h2 h3 h4)
theorem z_sipush (X : zX p s m args meth c cc nL own ret Ts D tys b) {n : Int} {v : Int32} (d : decode cc pc = .ok (.sipush n, 3)) (hv : (Int16.ofInt n).toInt32 = v) (kk : Z p l e R s m args below meth c nL D b N k cells slots Q (pc + 3) lv (.int v :: st)) : Z p l e R s m args below meth c nL D b N k cells slots Q pc lv st :=
  fun H locs ls h1 h2 h3 h4 => lv_sipush X.1.1 X.1.2.1 d hv (kk H locs ls h1 h2 h3 h4)
theorem z_lconst (X : zX p s m args meth c cc nL own ret Ts D tys b) {n : Fin 2} {v : Int64} (d : decode cc pc = .ok (.lconst n, 1)) (hv : Int64.ofNat (n : Nat) = v) (kk : Z p l e R s m args below meth c nL D b N k cells slots Q (pc + 1) lv (.long v :: st)) : Z p l e R s m args below meth c nL D b N k cells slots Q pc lv st :=
  fun H locs ls h1 h2 h3 h4 => lv_lconst X.1.1 X.1.2.1 d hv (kk H locs ls h1 h2 h3 h4)
theorem z_ldc2 (X : zX p s m args meth c cc nL own ret Ts D tys b) {index : Nat} {v : Int64} (d : decode cc pc = .ok (.ldc2_w index, 3)) (hw : Cond.constantLong own index v ∈ Ts) (kk : Z p l e R s m args below meth c nL D b N k cells slots Q (pc + 3) lv (.long v :: st)) : Z p l e R s m args below meth c nL D b N k cells slots Q pc lv st :=
  fun H locs ls h1 h2 h3 h4 => lv_ldc2 X.1.1 X.1.2.1 X.1.2.2.2.1 (X.1.2.2.2.2 _ hw) d (kk H locs ls h1 h2 h3 h4)
theorem z_iload_n (X : zX p s m args meth c cc nL own ret Ts D tys b) {j : Fin 4} {x : Int32} (d : decode cc pc = .ok (.iload_n j, 1)) (hl : lv[(j : Nat)]? = some (some (.int x))) (kk : Z p l e R s m args below meth c nL D b N k cells slots Q (pc + 1) lv (.int x :: st)) : Z p l e R s m args below meth c nL D b N k cells slots Q pc lv st :=
  fun H locs ls h1 h2 h3 h4 => lv_iload_n X.1.1 X.1.2.1 d rfl (h4.at hl) (kk H locs ls h1 h2 h3 h4)
theorem z_iload (X : zX p s m args meth c cc nL own ret Ts D tys b) {i : Nat} {x : Int32} (d : decode cc pc = .ok (.iload i, 2)) (hl : lv[i]? = some (some (.int x))) (kk : Z p l e R s m args below meth c nL D b N k cells slots Q (pc + 2) lv (.int x :: st)) : Z p l e R s m args below meth c nL D b N k cells slots Q pc lv st :=
  fun H locs ls h1 h2 h3 h4 => lv_iload X.1.1 X.1.2.1 d (h4.at hl) (kk H locs ls h1 h2 h3 h4)
theorem z_lload_n (X : zX p s m args meth c cc nL own ret Ts D tys b) {j : Fin 4} {x : Int64} (d : decode cc pc = .ok (.lload_n j, 1)) (hl : lv[(j : Nat)]? = some (some (.long x))) (kk : Z p l e R s m args below meth c nL D b N k cells slots Q (pc + 1) lv (.long x :: st)) : Z p l e R s m args below meth c nL D b N k cells slots Q pc lv st :=
  fun H locs ls h1 h2 h3 h4 => lv_lload_n X.1.1 X.1.2.1 d rfl (h4.at hl) (kk H locs ls h1 h2 h3 h4)
theorem z_lload (X : zX p s m args meth c cc nL own ret Ts D tys b) {i : Nat} {x : Int64} (d : decode cc pc = .ok (.lload i, 2)) (hl : lv[i]? = some (some (.long x))) (kk : Z p l e R s m args below meth c nL D b N k cells slots Q (pc + 2) lv (.long x :: st)) : Z p l e R s m args below meth c nL D b N k cells slots Q pc lv st :=
  fun H locs ls h1 h2 h3 h4 => lv_lload X.1.1 X.1.2.1 d (h4.at hl) (kk H locs ls h1 h2 h3 h4)
theorem z_aload_n (X : zX p s m args meth c cc nL own ret Ts D tys b) {j : Fin 4} {x : Nat} (d : decode cc pc = .ok (.aload_n j, 1)) (hl : lv[(j : Nat)]? = some (some (.ref x))) (kk : Z p l e R s m args below meth c nL D b N k cells slots Q (pc + 1) lv (.ref x :: st)) : Z p l e R s m args below meth c nL D b N k cells slots Q pc lv st :=
  fun H locs ls h1 h2 h3 h4 => lv_aload_n X.1.1 X.1.2.1 d rfl (h4.at hl) (kk H locs ls h1 h2 h3 h4)
theorem z_aload (X : zX p s m args meth c cc nL own ret Ts D tys b) {i : Nat} {x : Nat} (d : decode cc pc = .ok (.aload i, 2)) (hl : lv[i]? = some (some (.ref x))) (kk : Z p l e R s m args below meth c nL D b N k cells slots Q (pc + 2) lv (.ref x :: st)) : Z p l e R s m args below meth c nL D b N k cells slots Q pc lv st :=
  fun H locs ls h1 h2 h3 h4 => lv_aload X.1.1 X.1.2.1 d (h4.at hl) (kk H locs ls h1 h2 h3 h4)
theorem z_istore_n (X : zX p s m args meth c cc nL own ret Ts D tys b) {j : Fin 4} {x : Int32} (d : decode cc pc = .ok (.istore_n j, 1)) (hn : (j : Nat) < nL) (hf : zfr lv (j : Nat) = true) (kk : Z p l e R s m args below meth c nL D b N k cells slots Q (pc + 1) (lv.set (j : Nat) (some (.int x))) st) : Z p l e R s m args below meth c nL D b N k cells slots Q pc lv (.int x :: st) :=
  fun H locs ls h1 h2 h3 h4 => lv_istore_n X.1.1 X.1.2.1 d rfl h4 hn rfl (fun ls9 h9 => kk H locs ls9 h1 h2 h3 (zk.sub h9 (zp_set hf)))
theorem z_istore (X : zX p s m args meth c cc nL own ret Ts D tys b) {i : Nat} {x : Int32} (d : decode cc pc = .ok (.istore i, 2)) (hn : i < nL) (hf : zfr lv i = true) (kk : Z p l e R s m args below meth c nL D b N k cells slots Q (pc + 2) (lv.set i (some (.int x))) st) : Z p l e R s m args below meth c nL D b N k cells slots Q pc lv (.int x :: st) :=
  fun H locs ls h1 h2 h3 h4 => lv_istore X.1.1 X.1.2.1 d h4 hn rfl (fun ls9 h9 => kk H locs ls9 h1 h2 h3 (zk.sub h9 (zp_set hf)))
theorem z_astore_n (X : zX p s m args meth c cc nL own ret Ts D tys b) {j : Fin 4} {x : Nat} (d : decode cc pc = .ok (.astore_n j, 1)) (hn : (j : Nat) < nL) (hf : zfr lv (j : Nat) = true) (kk : Z p l e R s m args below meth c nL D b N k cells slots Q (pc + 1) (lv.set (j : Nat) (some (.ref x))) st) : Z p l e R s m args below meth c nL D b N k cells slots Q pc lv (.ref x :: st) :=
  fun H locs ls h1 h2 h3 h4 => lv_astore_n X.1.1 X.1.2.1 d rfl h4 hn rfl (fun ls9 h9 => kk H locs ls9 h1 h2 h3 (zk.sub h9 (zp_set hf)))
theorem z_astore (X : zX p s m args meth c cc nL own ret Ts D tys b) {i : Nat} {x : Nat} (d : decode cc pc = .ok (.astore i, 2)) (hn : i < nL) (hf : zfr lv i = true) (kk : Z p l e R s m args below meth c nL D b N k cells slots Q (pc + 2) (lv.set i (some (.ref x))) st) : Z p l e R s m args below meth c nL D b N k cells slots Q pc lv (.ref x :: st) :=
  fun H locs ls h1 h2 h3 h4 => lv_astore X.1.1 X.1.2.1 d h4 hn rfl (fun ls9 h9 => kk H locs ls9 h1 h2 h3 (zk.sub h9 (zp_set hf)))
theorem z_lstore_n (X : zX p s m args meth c cc nL own ret Ts D tys b) {j : Fin 4} {x : Int64} (d : decode cc pc = .ok (.lstore_n j, 1)) (hn : (j : Nat) + 1 < nL) (hf : zfr lv (j : Nat) = true) (kk : Z p l e R s m args below meth c nL D b N k cells slots Q (pc + 1) ((lv.set (j : Nat) (some (.long x))).set ((j : Nat) + 1) none) st) : Z p l e R s m args below meth c nL D b N k cells slots Q pc lv (.long x :: st) :=
  fun H locs ls h1 h2 h3 h4 => lv_lstore_n X.1.1 X.1.2.1 d rfl h4 hn rfl (fun ls9 h9 => kk H locs ls9 h1 h2 h3 (zk.sub h9 (zp_set2 hf)))
theorem z_lstore (X : zX p s m args meth c cc nL own ret Ts D tys b) {i : Nat} {x : Int64} (d : decode cc pc = .ok (.lstore i, 2)) (hn : i + 1 < nL) (hf : zfr lv i = true) (kk : Z p l e R s m args below meth c nL D b N k cells slots Q (pc + 2) ((lv.set i (some (.long x))).set (i + 1) none) st) : Z p l e R s m args below meth c nL D b N k cells slots Q pc lv (.long x :: st) :=
  fun H locs ls h1 h2 h3 h4 => lv_lstore X.1.1 X.1.2.1 d h4 hn rfl (fun ls9 h9 => kk H locs ls9 h1 h2 h3 (zk.sub h9 (zp_set2 hf)))
theorem z_iinc (X : zX p s m args meth c cc nL own ret Ts D tys b) {i : Nat} {n : Int} {x v : Int32} (d : decode cc pc = .ok (.iinc i n, 3)) (hl : lv[i]? = some (some (.int x))) (hv : x + Int32.ofInt n = v) (hn : i < nL) (hf : zfr lv i = true) (kk : Z p l e R s m args below meth c nL D b N k cells slots Q (pc + 3) (lv.set i (some (.int v))) st) : Z p l e R s m args below meth c nL D b N k cells slots Q pc lv st := by
  intro H locs ls h1 h2 h3 h4
  obtain ⟨j, hj⟩ := List.getElem?_of_mem (zp_mem lv 0 i hl)
  rw [Nat.zero_add] at hj
  exact lv_iinc X.1.1 X.1.2.1 d h4 hj hv hn rfl (fun ls9 h9 => kk H locs ls9 h1 h2 h3 (zk.sub h9 (zp_set hf)))
theorem z_iadd (X : zX p s m args meth c cc nL own ret Ts D tys b) {x y : Int32} (d : decode cc pc = .ok (.iadd, 1)) (kk : Z p l e R s m args below meth c nL D b N k cells slots Q (pc + 1) lv (.int (x + y) :: st)) : Z p l e R s m args below meth c nL D b N k cells slots Q pc lv (.int y :: .int x :: st) :=
  fun H locs ls h1 h2 h3 h4 => lv_iadd X.1.1 X.1.2.1 d (kk H locs ls h1 h2 h3 h4)
theorem z_isub (X : zX p s m args meth c cc nL own ret Ts D tys b) {x y : Int32} (d : decode cc pc = .ok (.isub, 1)) (kk : Z p l e R s m args below meth c nL D b N k cells slots Q (pc + 1) lv (.int (x - y) :: st)) : Z p l e R s m args below meth c nL D b N k cells slots Q pc lv (.int y :: .int x :: st) :=
  fun H locs ls h1 h2 h3 h4 => lv_isub X.1.1 X.1.2.1 d (kk H locs ls h1 h2 h3 h4)
theorem z_imul (X : zX p s m args meth c cc nL own ret Ts D tys b) {x y : Int32} (d : decode cc pc = .ok (.imul, 1)) (kk : Z p l e R s m args below meth c nL D b N k cells slots Q (pc + 1) lv (.int (x * y) :: st)) : Z p l e R s m args below meth c nL D b N k cells slots Q pc lv (.int y :: .int x :: st) :=
  fun H locs ls h1 h2 h3 h4 => lv_imul X.1.1 X.1.2.1 d (kk H locs ls h1 h2 h3 h4)
theorem z_iand (X : zX p s m args meth c cc nL own ret Ts D tys b) {x y : Int32} (d : decode cc pc = .ok (.iand, 1)) (kk : Z p l e R s m args below meth c nL D b N k cells slots Q (pc + 1) lv (.int (x &&& y) :: st)) : Z p l e R s m args below meth c nL D b N k cells slots Q pc lv (.int y :: .int x :: st) :=
  fun H locs ls h1 h2 h3 h4 => lv_iand X.1.1 X.1.2.1 d (kk H locs ls h1 h2 h3 h4)
theorem z_ladd (X : zX p s m args meth c cc nL own ret Ts D tys b) {x y : Int64} (d : decode cc pc = .ok (.ladd, 1)) (kk : Z p l e R s m args below meth c nL D b N k cells slots Q (pc + 1) lv (.long (x + y) :: st)) : Z p l e R s m args below meth c nL D b N k cells slots Q pc lv (.long y :: .long x :: st) :=
  fun H locs ls h1 h2 h3 h4 => lv_ladd X.1.1 X.1.2.1 d (kk H locs ls h1 h2 h3 h4)
theorem z_idiv (X : zX p s m args meth c cc nL own ret Ts D tys b) {x y : Int32} (d : decode cc pc = .ok (.idiv, 1)) (hne : ¬ y = 0) (kk : Z p l e R s m args below meth c nL D b N k cells slots Q (pc + 1) lv (.int (x / y) :: st)) : Z p l e R s m args below meth c nL D b N k cells slots Q pc lv (.int y :: .int x :: st) :=
  fun H locs ls h1 h2 h3 h4 => lv_idiv X.1.1 X.1.2.1 d hne (kk H locs ls h1 h2 h3 h4)
theorem z_irem (X : zX p s m args meth c cc nL own ret Ts D tys b) {x y : Int32} (d : decode cc pc = .ok (.irem, 1)) (hne : ¬ y = 0) (kk : Z p l e R s m args below meth c nL D b N k cells slots Q (pc + 1) lv (.int (x - x / y * y) :: st)) : Z p l e R s m args below meth c nL D b N k cells slots Q pc lv (.int y :: .int x :: st) :=
  fun H locs ls h1 h2 h3 h4 => lv_irem X.1.1 X.1.2.1 d hne (kk H locs ls h1 h2 h3 h4)
theorem z_i2l (X : zX p s m args meth c cc nL own ret Ts D tys b) {x : Int32} (d : decode cc pc = .ok (.i2l, 1)) (kk : Z p l e R s m args below meth c nL D b N k cells slots Q (pc + 1) lv (.long x.toInt64 :: st)) : Z p l e R s m args below meth c nL D b N k cells slots Q pc lv (.int x :: st) :=
  fun H locs ls h1 h2 h3 h4 => lv_i2l X.1.1 X.1.2.1 d rfl (kk H locs ls h1 h2 h3 h4)
theorem z_lcmp (X : zX p s m args meth c cc nL own ret Ts D tys b) {x y : Int64} (d : decode cc pc = .ok (.lcmp, 1)) (kk : Z p l e R s m args below meth c nL D b N k cells slots Q (pc + 1) lv (.int (lg_cmp x y) :: st)) : Z p l e R s m args below meth c nL D b N k cells slots Q pc lv (.long y :: .long x :: st) :=
  fun H locs ls h1 h2 h3 h4 => W.lcmp X.1.1 X.1.2.1 d (kk H locs ls h1 h2 h3 h4)
theorem z_dup (X : zX p s m args meth c cc nL own ret Ts D tys b) {v : Value} (d : decode cc pc = .ok (.dup, 1)) (hc : v.category = 1) (kk : Z p l e R s m args below meth c nL D b N k cells slots Q (pc + 1) lv (v :: v :: st)) : Z p l e R s m args below meth c nL D b N k cells slots Q pc lv (v :: st) :=
  fun H locs ls h1 h2 h3 h4 => lv_dup X.1.1 X.1.2.1 d hc (kk H locs ls h1 h2 h3 h4)
theorem z_pop (X : zX p s m args meth c cc nL own ret Ts D tys b) {v : Value} (d : decode cc pc = .ok (.pop, 1)) (hc : v.category = 1) (kk : Z p l e R s m args below meth c nL D b N k cells slots Q (pc + 1) lv st) : Z p l e R s m args below meth c nL D b N k cells slots Q pc lv (v :: st) :=
  fun H locs ls h1 h2 h3 h4 => lv_pop X.1.1 X.1.2.1 d hc (kk H locs ls h1 h2 h3 h4)
theorem z_dup2 (X : zX p s m args meth c cc nL own ret Ts D tys b) {v w : Value} (d : decode cc pc = .ok (.dup2, 1)) (hc : v.category = 1) (hw : w.category = 1) (kk : Z p l e R s m args below meth c nL D b N k cells slots Q (pc + 1) lv (v :: w :: v :: w :: st)) : Z p l e R s m args below meth c nL D b N k cells slots Q pc lv (v :: w :: st) :=
  fun H locs ls h1 h2 h3 h4 => lv_dup2_11 X.1.1 X.1.2.1 d hc hw (kk H locs ls h1 h2 h3 h4)
theorem z_dup_x1 (X : zX p s m args meth c cc nL own ret Ts D tys b) {v w : Value} (d : decode cc pc = .ok (.dup_x1, 1)) (hc : v.category = 1) (hw : w.category = 1) (kk : Z p l e R s m args below meth c nL D b N k cells slots Q (pc + 1) lv (v :: w :: v :: st)) : Z p l e R s m args below meth c nL D b N k cells slots Q pc lv (v :: w :: st) :=
  fun H locs ls h1 h2 h3 h4 => lv_dup_x1 X.1.1 X.1.2.1 d hc hw (kk H locs ls h1 h2 h3 h4)
theorem z_goto (X : zX p s m args meth c cc nL own ret Ts D tys b) {off : Int} {tgt : Nat} (d : decode cc pc = .ok (.goto off, 3)) (ht : (pc : Int) + off = (tgt : Int)) (kk : Z p l e R s m args below meth c nL D b N k cells slots Q tgt lv st) : Z p l e R s m args below meth c nL D b N k cells slots Q pc lv st :=
  fun H locs ls h1 h2 h3 h4 => lv_goto X.1.1 X.1.2.1 d ht (kk H locs ls h1 h2 h3 h4)
theorem z_if_eq (X : zX p s m args meth c cc nL own ret Ts D tys b) {x : Int32} {off : Int} {tgt : Nat} (d : decode cc pc = .ok (.ifCond .eq off, 3)) (ht : (pc : Int) + off = (tgt : Int)) (kt : x = 0 → Z p l e R s m args below meth c nL D b N k cells slots Q tgt lv st) (kf : ¬ (x = 0) → Z p l e R s m args below meth c nL D b N k cells slots Q (pc + 3) lv st) : Z p l e R s m args below meth c nL D b N k cells slots Q pc lv (.int x :: st) :=
  fun H locs ls h1 h2 h3 h4 => lv_if_eq X.1.1 X.1.2.1 d ht (fun q => kt q H locs ls h1 h2 h3 h4) (fun q => kf q H locs ls h1 h2 h3 h4)
theorem z_icmp_eq (X : zX p s m args meth c cc nL own ret Ts D tys b) {x y : Int32} {off : Int} {tgt : Nat} (d : decode cc pc = .ok (.if_icmp .eq off, 3)) (ht : (pc : Int) + off = (tgt : Int)) (kt : x = y → Z p l e R s m args below meth c nL D b N k cells slots Q tgt lv st) (kf : ¬ (x = y) → Z p l e R s m args below meth c nL D b N k cells slots Q (pc + 3) lv st) : Z p l e R s m args below meth c nL D b N k cells slots Q pc lv (.int y :: .int x :: st) :=
  fun H locs ls h1 h2 h3 h4 => lv_icmp_eq X.1.1 X.1.2.1 d ht (fun q => kt q H locs ls h1 h2 h3 h4) (fun q => kf q H locs ls h1 h2 h3 h4)
theorem z_if_ne (X : zX p s m args meth c cc nL own ret Ts D tys b) {x : Int32} {off : Int} {tgt : Nat} (d : decode cc pc = .ok (.ifCond .ne off, 3)) (ht : (pc : Int) + off = (tgt : Int)) (kt : ¬ x = 0 → Z p l e R s m args below meth c nL D b N k cells slots Q tgt lv st) (kf : x = 0 → Z p l e R s m args below meth c nL D b N k cells slots Q (pc + 3) lv st) : Z p l e R s m args below meth c nL D b N k cells slots Q pc lv (.int x :: st) :=
  fun H locs ls h1 h2 h3 h4 => lv_if_ne X.1.1 X.1.2.1 d ht (fun q => kt q H locs ls h1 h2 h3 h4) (fun q => kf q H locs ls h1 h2 h3 h4)
theorem z_icmp_ne (X : zX p s m args meth c cc nL own ret Ts D tys b) {x y : Int32} {off : Int} {tgt : Nat} (d : decode cc pc = .ok (.if_icmp .ne off, 3)) (ht : (pc : Int) + off = (tgt : Int)) (kt : ¬ x = y → Z p l e R s m args below meth c nL D b N k cells slots Q tgt lv st) (kf : x = y → Z p l e R s m args below meth c nL D b N k cells slots Q (pc + 3) lv st) : Z p l e R s m args below meth c nL D b N k cells slots Q pc lv (.int y :: .int x :: st) :=
  fun H locs ls h1 h2 h3 h4 => lv_icmp_ne X.1.1 X.1.2.1 d ht (fun q => kt q H locs ls h1 h2 h3 h4) (fun q => kf q H locs ls h1 h2 h3 h4)
theorem z_if_lt (X : zX p s m args meth c cc nL own ret Ts D tys b) {x : Int32} {off : Int} {tgt : Nat} (d : decode cc pc = .ok (.ifCond .lt off, 3)) (ht : (pc : Int) + off = (tgt : Int)) (kt : x < 0 → Z p l e R s m args below meth c nL D b N k cells slots Q tgt lv st) (kf : ¬ (x < 0) → Z p l e R s m args below meth c nL D b N k cells slots Q (pc + 3) lv st) : Z p l e R s m args below meth c nL D b N k cells slots Q pc lv (.int x :: st) :=
  fun H locs ls h1 h2 h3 h4 => lv_if_lt X.1.1 X.1.2.1 d ht (fun q => kt q H locs ls h1 h2 h3 h4) (fun q => kf q H locs ls h1 h2 h3 h4)
theorem z_icmp_lt (X : zX p s m args meth c cc nL own ret Ts D tys b) {x y : Int32} {off : Int} {tgt : Nat} (d : decode cc pc = .ok (.if_icmp .lt off, 3)) (ht : (pc : Int) + off = (tgt : Int)) (kt : x < y → Z p l e R s m args below meth c nL D b N k cells slots Q tgt lv st) (kf : ¬ (x < y) → Z p l e R s m args below meth c nL D b N k cells slots Q (pc + 3) lv st) : Z p l e R s m args below meth c nL D b N k cells slots Q pc lv (.int y :: .int x :: st) :=
  fun H locs ls h1 h2 h3 h4 => lv_icmp_lt X.1.1 X.1.2.1 d ht (fun q => kt q H locs ls h1 h2 h3 h4) (fun q => kf q H locs ls h1 h2 h3 h4)
theorem z_if_ge (X : zX p s m args meth c cc nL own ret Ts D tys b) {x : Int32} {off : Int} {tgt : Nat} (d : decode cc pc = .ok (.ifCond .ge off, 3)) (ht : (pc : Int) + off = (tgt : Int)) (kt : 0 ≤ x → Z p l e R s m args below meth c nL D b N k cells slots Q tgt lv st) (kf : ¬ (0 ≤ x) → Z p l e R s m args below meth c nL D b N k cells slots Q (pc + 3) lv st) : Z p l e R s m args below meth c nL D b N k cells slots Q pc lv (.int x :: st) :=
  fun H locs ls h1 h2 h3 h4 => lv_if_ge X.1.1 X.1.2.1 d ht (fun q => kt q H locs ls h1 h2 h3 h4) (fun q => kf q H locs ls h1 h2 h3 h4)
theorem z_icmp_ge (X : zX p s m args meth c cc nL own ret Ts D tys b) {x y : Int32} {off : Int} {tgt : Nat} (d : decode cc pc = .ok (.if_icmp .ge off, 3)) (ht : (pc : Int) + off = (tgt : Int)) (kt : y ≤ x → Z p l e R s m args below meth c nL D b N k cells slots Q tgt lv st) (kf : ¬ (y ≤ x) → Z p l e R s m args below meth c nL D b N k cells slots Q (pc + 3) lv st) : Z p l e R s m args below meth c nL D b N k cells slots Q pc lv (.int y :: .int x :: st) :=
  fun H locs ls h1 h2 h3 h4 => lv_icmp_ge X.1.1 X.1.2.1 d ht (fun q => kt q H locs ls h1 h2 h3 h4) (fun q => kf q H locs ls h1 h2 h3 h4)
theorem z_if_gt (X : zX p s m args meth c cc nL own ret Ts D tys b) {x : Int32} {off : Int} {tgt : Nat} (d : decode cc pc = .ok (.ifCond .gt off, 3)) (ht : (pc : Int) + off = (tgt : Int)) (kt : 0 < x → Z p l e R s m args below meth c nL D b N k cells slots Q tgt lv st) (kf : ¬ (0 < x) → Z p l e R s m args below meth c nL D b N k cells slots Q (pc + 3) lv st) : Z p l e R s m args below meth c nL D b N k cells slots Q pc lv (.int x :: st) :=
  fun H locs ls h1 h2 h3 h4 => lv_if_gt X.1.1 X.1.2.1 d ht (fun q => kt q H locs ls h1 h2 h3 h4) (fun q => kf q H locs ls h1 h2 h3 h4)
theorem z_icmp_gt (X : zX p s m args meth c cc nL own ret Ts D tys b) {x y : Int32} {off : Int} {tgt : Nat} (d : decode cc pc = .ok (.if_icmp .gt off, 3)) (ht : (pc : Int) + off = (tgt : Int)) (kt : y < x → Z p l e R s m args below meth c nL D b N k cells slots Q tgt lv st) (kf : ¬ (y < x) → Z p l e R s m args below meth c nL D b N k cells slots Q (pc + 3) lv st) : Z p l e R s m args below meth c nL D b N k cells slots Q pc lv (.int y :: .int x :: st) :=
  fun H locs ls h1 h2 h3 h4 => lv_icmp_gt X.1.1 X.1.2.1 d ht (fun q => kt q H locs ls h1 h2 h3 h4) (fun q => kf q H locs ls h1 h2 h3 h4)
theorem z_if_le (X : zX p s m args meth c cc nL own ret Ts D tys b) {x : Int32} {off : Int} {tgt : Nat} (d : decode cc pc = .ok (.ifCond .le off, 3)) (ht : (pc : Int) + off = (tgt : Int)) (kt : x ≤ 0 → Z p l e R s m args below meth c nL D b N k cells slots Q tgt lv st) (kf : ¬ (x ≤ 0) → Z p l e R s m args below meth c nL D b N k cells slots Q (pc + 3) lv st) : Z p l e R s m args below meth c nL D b N k cells slots Q pc lv (.int x :: st) :=
  fun H locs ls h1 h2 h3 h4 => lv_if_le X.1.1 X.1.2.1 d ht (fun q => kt q H locs ls h1 h2 h3 h4) (fun q => kf q H locs ls h1 h2 h3 h4)
theorem z_icmp_le (X : zX p s m args meth c cc nL own ret Ts D tys b) {x y : Int32} {off : Int} {tgt : Nat} (d : decode cc pc = .ok (.if_icmp .le off, 3)) (ht : (pc : Int) + off = (tgt : Int)) (kt : x ≤ y → Z p l e R s m args below meth c nL D b N k cells slots Q tgt lv st) (kf : ¬ (x ≤ y) → Z p l e R s m args below meth c nL D b N k cells slots Q (pc + 3) lv st) : Z p l e R s m args below meth c nL D b N k cells slots Q pc lv (.int y :: .int x :: st) :=
  fun H locs ls h1 h2 h3 h4 => lv_icmp_le X.1.1 X.1.2.1 d ht (fun q => kt q H locs ls h1 h2 h3 h4) (fun q => kf q H locs ls h1 h2 h3 h4)
theorem z_top {x y : Value} (h : x = y) (kk : Z p l e R s m args below meth c nL D b N k cells slots Q pc lv (y :: st)) : Z p l e R s m args below meth c nL D b N k cells slots Q pc lv (x :: st) := by subst h; exact kk
theorem z_k {k2 : Nat → va_E} (h : ∀ q, b ≤ q → q < b + N → k q = k2 q) (kk : Z p l e R s m args below meth c nL D b N k2 cells slots Q pc lv st) : Z p l e R s m args below meth c nL D b N k cells slots Q pc lv st := by
  intro H locs ls h1 h2 h3 h4
  rw [zl_congr h] at h2
  exact kk H locs ls h1 h2 h3 h4
theorem z_lv {lv2 : List (Option Value)} (h : ∀ (i : Nat) (v : Value), lv2[i]? = some (some v) → lv[i]? = some (some v)) (kk : Z p l e R s m args below meth c nL D b N k cells slots Q pc lv2 st) : Z p l e R s m args below meth c nL D b N k cells slots Q pc lv st :=
  fun H locs ls h1 h2 h3 h4 => kk H locs ls h1 h2 h3 (h4.less h)
/-- a cell of the world -/
def zc (b N : Nat) (k : Nat → va_E) (a : Nat) (x : va_E) : Prop := b ≤ a ∧ a < b + N ∧ k a = x
theorem zc.up {b N : Nat} {k : Nat → va_E} {a : Nat} {x y : va_E} (h : zc b N k a x) : zc b N (va_up k a y) a y := ⟨h.1, h.2.1, up_eq⟩
theorem zc.ne {b N : Nat} {k : Nat → va_E} {a q : Nat} {x y : va_E} (h : zc b N k a x) (hne : a ≠ q) : zc b N (va_up k q y) a x := ⟨h.1, h.2.1, (up_ne hne).trans h.2.2⟩
theorem zc.to {b N : Nat} {k k2 : Nat → va_E} {a : Nat} {x : va_E} (h : zc b N k a x) (he : k2 a = k a) : zc b N k2 a x := ⟨h.1, h.2.1, he.trans h.2.2⟩
theorem zc.more {b N N2 : Nat} {k : Nat → va_E} {a : Nat} {x : va_E} (h : zc b N k a x) (hN : N ≤ N2) : zc b N2 k a x := ⟨h.1, by have := h.2.1; omega, h.2.2⟩
theorem zc.at {b N : Nat} {k : Nat → va_E} {a : Nat} {x : va_E} (h : zc b N k a x) : (zl b N k)[a - b]? = some (a, x) := zl_at h.1 h.2.1 h.2.2
theorem zc.set {b N : Nat} {k : Nat → va_E} {a : Nat} {x y : va_E} (h : zc b N k a x) : (zl b N k).set (a - b) (a, y) = zl b N (va_up k a y) := zl_set h.1 h.2.1
theorem z_get (X : zX p s m args meth c cc nL own ret Ts D tys b) {C : String} {T : u_T} {n ci index a : Nat} {fs : List Value} (hk : zc b N k a (.inr (ci, fs))) (hc : classes[ci]? = some (C, T, n)) (hin : ∀ w ∈ u_ws C T n, w ∈ Ts) (j : Nat) (hj : j < n) (hl : Cond.fieldLink own index (T j).1 (T j).2.1 (T j).2.2.1 ∈ Ts) {v : Value} (hv : fs[j]? = some v) (d : decode cc pc = .ok (.getfield index, 3)) (kk : Z p l e R s m args below meth c nL D b N k cells slots Q (pc + 3) lv (v :: st)) : Z p l e R s m args below meth c nL D b N k cells slots Q pc lv (.ref a :: st) :=
  fun H locs ls h1 h2 h3 h4 => va_get X.1.1 X.1.2.1 X.1.2.2.2.2 hin X.1.2.2.2.1 X.2.1 h2 (a - b) hk.at hc j hj (X.1.2.2.2.2 _ hl) (fun _ q => q) hv d (kk H locs ls h1 h2 h3 h4)
theorem z_put (X : zX p s m args meth c cc nL own ret Ts D tys b) {C : String} {T : u_T} {n ci index a : Nat} {fs : List Value} (hk : zc b N k a (.inr (ci, fs))) (hc : classes[ci]? = some (C, T, n)) (hin : ∀ w ∈ u_ws C T n, w ∈ Ts) {ty0 : Nat → FieldType} (hty : ∀ j, j < n → parseFieldDescriptor (T j).2.2.1 = some (ty0 j)) (hnm : ∀ i, i < n → ∀ j, j < n → i ≠ j → (T i).2.1 ≠ (T j).2.1) (j : Nat) (hj : j < n) (hl : Cond.fieldLink own index (T j).1 (T j).2.1 (T j).2.2.1 ∈ Ts) (hfin : (T j).2.2.2 = false) {v : Value} (hn : narrow (ty0 j) v = v) (hfit : fits (ty0 j) v = true) (hlen : j < fs.length) (d : decode cc pc = .ok (.putfield index, 3)) (kk : Z p l e R s m args below meth c nL D b N (va_up k a (.inr (ci, fs.set j v))) cells slots Q (pc + 3) lv st) : Z p l e R s m args below meth c nL D b N k cells slots Q pc lv (v :: .ref a :: st) := by
  intro H locs ls h1 h2 h3 h4
  have hap := va_apart (own := own) X.1.2.2.2.2 hin ty0 hty hnm X.2.1 hc
  have he := hk.at
  obtain ⟨r, g1, cell, q1, q2, q3, q4⟩ := h2 (a - b) _ he
  have hr : r = (C, T, n) := Option.some.inj (g1.symm.trans hc)
  subst hr
  obtain ⟨hS, hfc, kC, hkC, hkind⟩ := X.2.1.1 ci _ hc
  obtain ⟨cf, kf, fi, f, hi, hsl⟩ := hS j hj
  have hlay := X.1.2.2.2.2 _ (hin _ (u_in_lay hj))
  unfold u_lay at hlay
  rw [if_neg (by rw [hfin]; decide)] at hlay
  have hst := (u_facts hfc hkC (u_lays X.1.2.2.2.2 hin hj) hi).1
  have h6 := u_store hfc hkC hkind hlay hi (hty j hj) hn hfit
  refine W.putK X.1.1 X.1.2.1 (f := f) ⟨X.1.2.2.2.1, X.1.2.2.2.2 _ hl, ⟨_, _, _, hi⟩, hst⟩ (by rw [q2]; exact h6) q1 q3 (by rw [hsl]; exact k2_hasslot (q4 j hj)) rfl rfl d fun H' e1 e2 e3 => ?_
  rw [hsl] at e1 ⊢
  exact kk H' _ ls (e2.trans h1) (by rw [← hk.set]; exact h2.set zl_D he ⟨_, hc, t_OB.to (V := updV (vp_V fs) j v) ⟨_, e1, q2, q3, t_set q4 hap hj v⟩ (fun i _ => vp_updV_set hlen v i)⟩ e3) (h3.put e2 e3 hk.1) h4
theorem z_putF (X : zX p s m args meth c cc nL own ret Ts D tys b) {C : String} {T : u_T} {n ci index a : Nat} {fs : List Value} (hk : zc b N k a (.inr (ci, fs))) (hc : classes[ci]? = some (C, T, n)) (hin : ∀ w ∈ u_ws C T n, w ∈ Ts) {ty0 : Nat → FieldType} (hty : ∀ j, j < n → parseFieldDescriptor (T j).2.2.1 = some (ty0 j)) (hnm : ∀ i, i < n → ∀ j, j < n → i ≠ j → (T i).2.1 ≠ (T j).2.1) (j : Nat) (hj : j < n) (hl : Cond.fieldLink own index (T j).1 (T j).2.1 (T j).2.2.1 ∈ Ts) (hfin : (T j).2.2.2 = true) (hin2 : meth.name = "<init>") (hdecl : (T j).1 = own) {v : Value} (hn : narrow (ty0 j) v = v) (hfit : fits (ty0 j) v = true) (hlen : j < fs.length) (d : decode cc pc = .ok (.putfield index, 3)) (kk : Z p l e R s m args below meth c nL D b N (va_up k a (.inr (ci, fs.set j v))) cells slots Q (pc + 3) lv st) : Z p l e R s m args below meth c nL D b N k cells slots Q pc lv (v :: .ref a :: st) := by
  intro H locs ls h1 h2 h3 h4
  have hap := va_apart (own := own) X.1.2.2.2.2 hin ty0 hty hnm X.2.1 hc
  have he := hk.at
  obtain ⟨r, g1, cell, q1, q2, q3, q4⟩ := h2 (a - b) _ he
  have hr : r = (C, T, n) := Option.some.inj (g1.symm.trans hc)
  subst hr
  obtain ⟨hS, hfc, kC, hkC, hkind⟩ := X.2.1.1 ci _ hc
  obtain ⟨cf, kf, fi, f, hi, hsl⟩ := hS j hj
  have hlay := X.1.2.2.2.2 _ (hin _ (u_in_lay hj))
  unfold u_lay at hlay
  rw [if_pos hfin] at hlay
  have hst := (u_facts hfc hkC (u_lays X.1.2.2.2.2 hin hj) hi).1
  have hcf : m.cls = cf := by
    obtain ⟨_, _, c', _, _, _, -, -, hf', -, -, -, hown2, -⟩ := Cond.laysFinal_spec hlay
    have e1 : c' = cf := by have := hi.symm.trans hf'; simp at this; exact this.1.symm
    rw [hdecl] at hown2
    rw [← e1]; exact Option.some.inj (X.1.2.2.2.1.symm.trans hown2)
  have h6 := u_fits hfc hkC hkind (Or.inr hlay) hi (hty j hj) hn hfit
  refine W.putFinK X.1.1 X.1.2.1 X.1.2.2.2.1 (X.1.2.2.2.2 _ hl) hi hst hcf hin2 (by rw [q2]; exact h6) q1 q3 (by rw [hsl]; exact k2_hasslot (q4 j hj)) rfl rfl d fun H' e1 e2 e3 => ?_
  rw [hsl] at e1 ⊢
  exact kk H' _ ls (e2.trans h1) (by rw [← hk.set]; exact h2.set zl_D he ⟨_, hc, t_OB.to (V := updV (vp_V fs) j v) ⟨_, e1, q2, q3, t_set q4 hap hj v⟩ (fun i _ => vp_updV_set hlen v i)⟩ e3) (h3.put e2 e3 hk.1) h4
theorem z_iald (X : zX p s m args meth c cc nL own ret Ts D tys b) {a n : Nat} {cA : ClassId} {f : Nat → Int32} (hk : zc b N k a (.inl (cA, n, .inl f))) (t0 : Nat) (ht : tys[t0]? = some (cA, .int)) {i : Int32} {j : Nat} (hi : i = nI j) (hj : j < n) (hn : n < 2 ^ 31) (d : decode cc pc = .ok (.iaload, 1)) (kk : Z p l e R s m args below meth c nL D b N k cells slots Q (pc + 1) lv (.int (f j) :: st)) : Z p l e R s m args below meth c nL D b N k cells slots Q pc lv (.int i :: .ref a :: st) := by
  intro H locs ls h1 h2 h3 h4
  subst hi
  refine va_iald X.1.1 X.1.2.1 X.2.1 h2 (a - b) t0 hk.at ht (vp_in_nI hj hn) d ?_
  rw [nI_clamp (by omega)]
  exact kk H locs ls h1 h2 h3 h4
theorem z_zald (X : zX p s m args meth c cc nL own ret Ts D tys b) {a n : Nat} {cA : ClassId} {f : Nat → Int32} (hk : zc b N k a (.inl (cA, n, .inl f))) (t0 : Nat) (ht : tys[t0]? = some (cA, .boolean)) {i : Int32} {j : Nat} (hi : i = nI j) (hj : j < n) (hn : n < 2 ^ 31) (d : decode cc pc = .ok (.baload, 1)) (kk : Z p l e R s m args below meth c nL D b N k cells slots Q (pc + 1) lv (.int (f j) :: st)) : Z p l e R s m args below meth c nL D b N k cells slots Q pc lv (.int i :: .ref a :: st) := by
  intro H locs ls h1 h2 h3 h4
  subst hi
  refine va_zald X.1.1 X.1.2.1 X.2.1 h2 (a - b) t0 hk.at ht (vp_in_nI hj hn) d ?_
  rw [nI_clamp (by omega)]
  exact kk H locs ls h1 h2 h3 h4
theorem z_aald (X : zX p s m args meth c cc nL own ret Ts D tys b) {a n : Nat} {cA : ClassId} {C : String} {f : Nat → Option Nat} (hk : zc b N k a (.inl (cA, n, .inr (.inr (.inr (.inr f)))))) (t0 : Nat) (ht : tys[t0]? = some (cA, .object C)) {i : Int32} {j v : Nat} (hi : i = nI j) (hj : j < n) (hn : n < 2 ^ 31) (hv : f j = some v) (d : decode cc pc = .ok (.aaload, 1)) (kk : Z p l e R s m args below meth c nL D b N k cells slots Q (pc + 1) lv (.ref v :: st)) : Z p l e R s m args below meth c nL D b N k cells slots Q pc lv (.int i :: .ref a :: st) := by
  intro H locs ls h1 h2 h3 h4
  subst hi
  refine va_aldq X.1.1 X.1.2.1 X.2.1 h2 (a - b) t0 hk.at ht (vp_in_nI hj hn) d ?_
  rw [nI_clamp (by omega), hv]
  exact kk H locs ls h1 h2 h3 h4
theorem z_iast (X : zX p s m args meth c cc nL own ret Ts D tys b) {a n : Nat} {cA : ClassId} {f : Nat → Int32} (hk : zc b N k a (.inl (cA, n, .inl f))) (t0 : Nat) (ht : tys[t0]? = some (cA, .int)) {i x : Int32} {j : Nat} (hi : i = nI j) (hj : j < n) (hn : n < 2 ^ 31) (d : decode cc pc = .ok (.iastore, 1)) (kk : Z p l e R s m args below meth c nL D b N (va_up k a (.inl (cA, n, .inl (upd f j x)))) cells slots Q (pc + 1) lv st) : Z p l e R s m args below meth c nL D b N k cells slots Q pc lv (.int x :: .int i :: .ref a :: st) := by
  intro H locs ls h1 h2 h3 h4
  have hin : vp_in i n := by rw [hi]; exact vp_in_nI hj hn
  have hcl : i.toNatClampNeg = j := by rw [hi]; exact nI_clamp (by omega)
  refine W.iast X.1.1 X.1.2.1 (h2 (a - b) _ hk.at) ((X.2.1.2 t0 _ ht).1 n (fun j => .int (f j))) (fun q => by cases q) (by show ¬ (i < 0 ∨ (arrV _ _ _).slots.size ≤ _); rw [arrV_size]; exact hin) rfl rfl d fun H1 e1 z oq => ?_
  refine kk H1 _ ls (z.trans h1) ?_ (h3.put z oq hk.1) h4
  rw [← hk.set]
  refine h2.set zl_D hk.at ?_ oq
  show H1[a]? = some (vp_cell _ _)
  rw [e1, hcl, vp_cell_i, vp_cell_i, arrV_store]
  congr 2
  funext q
  by_cases hq : q = j
  · subst hq
    simp [updV, upd, vp_nar]
    try rfl
  · simp [updV, upd, hq]
theorem z_zast (X : zX p s m args meth c cc nL own ret Ts D tys b) {a n : Nat} {cA : ClassId} {f : Nat → Int32} (hk : zc b N k a (.inl (cA, n, .inl f))) (t0 : Nat) (ht : tys[t0]? = some (cA, .boolean)) {i x : Int32} {j : Nat} (hi : i = nI j) (hj : j < n) (hn : n < 2 ^ 31) (d : decode cc pc = .ok (.bastore, 1)) (kk : Z p l e R s m args below meth c nL D b N (va_up k a (.inl (cA, n, .inl (upd f j (vp_nar .boolean x))))) cells slots Q (pc + 1) lv st) : Z p l e R s m args below meth c nL D b N k cells slots Q pc lv (.int x :: .int i :: .ref a :: st) := by
  intro H locs ls h1 h2 h3 h4
  have hin : vp_in i n := by rw [hi]; exact vp_in_nI hj hn
  have hcl : i.toNatClampNeg = j := by rw [hi]; exact nI_clamp (by omega)
  refine W.zast X.1.1 X.1.2.1 (h2 (a - b) _ hk.at) ((X.2.1.2 t0 _ ht).1 n (fun j => .int (f j))) (fun q => by cases q) (by show ¬ (i < 0 ∨ (arrV _ _ _).slots.size ≤ _); rw [arrV_size]; exact hin) rfl rfl d fun H1 e1 z oq => ?_
  refine kk H1 _ ls (z.trans h1) ?_ (h3.put z oq hk.1) h4
  rw [← hk.set]
  refine h2.set zl_D hk.at ?_ oq
  show H1[a]? = some (vp_cell _ _)
  rw [e1, hcl, vp_cell_i, vp_cell_i, arrV_store]
  congr 2
  funext q
  by_cases hq : q = j
  · subst hq
    simp [updV, upd, vp_nar]
    try rfl
  · simp [updV, upd, hq]
theorem z_aast (X : zX p s m args meth c cc nL own ret Ts D tys b) {a n : Nat} {cA : ClassId} {f : Nat → Option Nat} {r : vw_C} {v ci : Nat} {vs : List Value} (hk : zc b N k a (.inl (cA, n, .inr (.inr (.inr (.inr f)))))) (t0 : Nat) (ht : tys[t0]? = some (cA, .object r.1)) (hv : zc b N k v (.inr (ci, vs))) (hc : classes[ci]? = some r) {i : Int32} {j : Nat} (hi : i = nI j) (hj : j < n) (hn : n < 2 ^ 31) (d : decode cc pc = .ok (.aastore, 1)) (kk : Z p l e R s m args below meth c nL D b N (va_up k a (.inl (cA, n, .inr (.inr (.inr (.inr (va_up f j (some v)))))))) cells slots Q (pc + 1) lv st) : Z p l e R s m args below meth c nL D b N k cells slots Q pc lv (.ref v :: .int i :: .ref a :: st) := by
  intro H locs ls h1 h2 h3 h4
  have hin : vp_in i n := by rw [hi]; exact vp_in_nI hj hn
  have hcl : i.toNatClampNeg = j := by rw [hi]; exact nI_clamp (by omega)
  have h0 : ¬ i < 0 := fun q => hin (Or.inl q)
  have hlt : i.toNatClampNeg < n := by omega
  obtain ⟨r', hr', cellV, g1, g2, g3, -⟩ := h2 (v - b) _ hv.at
  have hcls := (X.2.1.1 ci r hc).2
  obtain ⟨kA, comp, k1, k2, k3, -⟩ := (X.2.1.2 t0 _ ht).2
  have hcomp : comp = D.1 ci := Option.some.inj (k3.symm.trans hcls.1)
  subst hcomp
  obtain ⟨kC, hkC, -⟩ := hcls.2
  refine W.aast X.1.1 X.1.2.1 (h2 (a - b) _ hk.at) (fun q h => by cases h) (fun h => by cases h) k1 k2 rfl hkC ⟨h0, by show _ < (arrV _ _ _).slots.size; rw [arrV_size]; exact hlt⟩ g1 (fun q h => by rw [g3] at h; cases h) (by rw [g2]; exact hkC) (by rw [g2]; exact va_assign hcls) rfl rfl d fun H1 e1 z oq => ?_
  refine kk H1 _ ls (z.trans h1) ?_ (h3.put z oq hk.1) h4
  rw [← hk.set]
  refine h2.set zl_D hk.at ?_ oq
  show H1[a]? = some (vp_cell _ _)
  rw [e1, hcl, vp_cell_q, vp_cell_q, arrV_store]
  congr 2
  funext q
  by_cases hq : q = j
  · subst hq
    simp [updV, va_up, va_rf]
  · simp [updV, va_up, hq]
theorem z_alen (X : zX p s m args meth c cc nL own ret Ts D tys b) {a : Nat} {cA : ClassId} {x : vp_A} (hk : zc b N k a (.inl (cA, x))) (t0 : Nat) {ty : FieldType} (ht : tys[t0]? = some (cA, ty)) (d : decode cc pc = .ok (.arraylength, 1)) (kk : Z p l e R s m args below meth c nL D b N k cells slots Q (pc + 1) lv (.int (nI x.1) :: st)) : Z p l e R s m args below meth c nL D b N k cells slots Q pc lv (.ref a :: st) :=
  fun H locs ls h1 h2 h3 h4 => va_alen X.1.1 X.1.2.1 X.2.1 h2 (a - b) t0 hk.at ht rfl d (kk H locs ls h1 h2 h3 h4)
theorem zl_grow {D : va_G} {b N : Nat} {k : Nat → va_E} {H H1 : Heap} {x : va_E} (h1 : H.size = b + N) (h2 : va_P D classes (zl b N k) H) (o1 : ∀ q, q < H.size → H1[q]? = H[q]?) (hx : va_at D classes (b + N, x) H1) : va_P D classes (zl b (N + 1) (va_up k (b + N) x)) H1 := by
  rw [← zl_push]
  refine va_P.app (h2.kept fun i q hq => o1 q.1 ((h2 i q hq).lt)) (fun i q hq => ?_)
  have hz : i < 1 := (List.getElem?_eq_some_iff.mp hq).1
  rw [show i = 0 by omega] at hq
  cases hq
  exact hx
theorem zS_grow {b : Nat} {H0 H H1 : Heap} {locs : List Loc} (h3 : va_S (zA b) H0 H locs) (z1 : H1.size = H.size + 1) (o1 : ∀ q, q < H.size → H1[q]? = H[q]?) : va_S (zA b) H0 H1 locs := ⟨Nat.le_trans h3.1 (by omega), fun x g1 g2 => (o1 x (Nat.lt_of_lt_of_le g1 h3.1)).trans (h3.2.1 x g1 g2), h3.2.2⟩
theorem z_new (X : zX p s m args meth c cc nL own ret Ts D tys b) {C : String} {T : u_T} {n ci index : Nat} {fs : List Value} (hc : classes[ci]? = some (C, T, n)) (hin : ∀ w ∈ u_ws C T n, w ∈ Ts) {ty : Nat → FieldType} (hty : ∀ j, j < n → parseFieldDescriptor (T j).2.2.1 = some (ty j)) (hcl : Cond.classLink own index C ∈ Ts) (hinst : Cond.instantiable C n ∈ Ts) (hini : Cond.initialized C ∈ Ts) (hfs : ∀ j, j < n → defaultValue (ty j) = vp_V fs j) (hcells : cells + 1 ≤ R.cells) (hslots : slots + n ≤ R.slots) (d : decode cc pc = .ok (.new index, 3)) (kk : Z p l e R s m args below meth c nL D b (N + 1) (va_up k (b + N) (.inr (ci, fs))) (cells + 1) (slots + n) Q (pc + 3) lv (.ref (b + N) :: st)) : Z p l e R s m args below meth c nL D b N k cells slots Q pc lv st := by
  intro H locs ls h1 h2 h3 h4
  have hKn := X.2.1.1 ci _ hc
  refine W.newcK X.1.1 X.1.2.1 X.1.2.2.2.1 (X.1.2.2.2.2 _ hcl) (X.1.2.2.2.2 _ hinst) (X.1.2.2.2.2 _ hini) rfl d hcells hslots hKn.2.1 h1 fun H1 kC hkC e1 z1 o1 => ?_
  have o2 : ∀ q, q < H.size → H1[q]? = H[q]? := fun q hq => o1 q (by omega)
  exact kk H1 locs ls (by omega) (zl_grow h1 h2 o2 ⟨_, hc, (u_born ty X.1.2.2.2.2 hin hKn hkC e1 hty).to hfs⟩) (zS_grow h3 (by omega) o2) h4
theorem z_newa (X : zX p s m args meth c cc nL own ret Ts D tys b) {atype : ArrayType} {ty : FieldType} {cA : ClassId} (harr : Cond.arrayClass (newarray.typeOf atype) ∈ Ts) (hty : newarray.typeOf atype = ty) (t0 : Nat) (ht : tys[t0]? = some (cA, ty)) (hprim : va_RA s cA ty → s.vm.findClass ("[" ++ ty.toString) = some cA) {i : Int32} {n : Nat} {a0 : vp_A} (ha : vp_cell cA a0 = arrV cA n (fun _ => defaultValue ty)) (hi : i = nI n) (hn : n < 65536) (hbytes : n * componentBytes ty ≤ 536870912) (hcells : cells + 1 ≤ R.cells) (hslots : slots + n ≤ R.slots) (d : decode cc pc = .ok (.newarray atype, 2)) (kk : Z p l e R s m args below meth c nL D b (N + 1) (va_up k (b + N) (.inl (cA, a0))) (cells + 1) (slots + n) Q (pc + 2) lv (.ref (b + N) :: st)) : Z p l e R s m args below meth c nL D b N k cells slots Q pc lv (.int i :: st) := by
  intro H locs ls h1 h2 h3 h4
  subst hty
  subst hi
  refine va_newaK X.1.1 X.1.2.1 (X.1.2.2.2.2 _ harr) rfl d rfl (nI_pos (by omega)) (nI_clamp (by omega)) hbytes hcells hslots h1 fun H1 cB e1 z1 o1 hAr hNm => ?_
  have hcc : cB = cA := Option.some.inj (hNm.symm.trans (hprim (X.2.1.2 t0 _ ht).2))
  subst hcc
  have o2 : ∀ q, q < H.size → H1[q]? = H[q]? := fun q hq => o1 q (by omega)
  exact kk H1 locs ls (by omega) (zl_grow h1 h2 o2 (by show H1[b + N]? = some (vp_cell _ _); rw [ha]; exact e1)) (zS_grow h3 (by omega) o2) h4
theorem z_newq (X : zX p s m args meth c cc nL own ret Ts D tys b) {C : String} {index : Nat} {cA : ClassId} (hcl : Cond.classLink own index C ∈ Ts) (hover : va_AO C s) (t0 : Nat) (ht : tys[t0]? = some (cA, .object C)) {i : Int32} {n : Nat} (hi : i = nI n) (hn : n < 65536) (hcells : cells + 1 ≤ R.cells) (hslots : slots + n ≤ R.slots) (d : decode cc pc = .ok (.anewarray index, 3)) (kk : Z p l e R s m args below meth c nL D b (N + 1) (va_up k (b + N) (.inl (cA, n, .inr (.inr (.inr (.inr (fun _ => none))))))) (cells + 1) (slots + n) Q (pc + 3) lv (.ref (b + N) :: st)) : Z p l e R s m args below meth c nL D b N k cells slots Q pc lv (.int i :: st) := by
  intro H locs ls h1 h2 h3 h4
  subst hi
  have hcl2 : (nI n).toNatClampNeg = n := nI_clamp (by omega)
  refine W.anew X.1.1 X.1.2.1 X.1.2.2.2.1 (X.1.2.2.2.2 _ hcl) (va_AO.use hover) rfl d rfl (nI_pos (by omega)) (by rw [hcl2]; omega) hcells (by rw [hcl2]; exact hslots) fun cB kA comp f1 f2 f3 f4 => ?_
  rw [hcl2]
  obtain ⟨kB, comp2, g1, g2, g3, g4⟩ := (X.2.1.2 t0 _ ht).2
  have hcc : cB = cA := Option.some.inj (f1.symm.trans g4)
  subst hcc
  generalize hH1 : H.push ({ cls := cB, slots := Array.replicate n .null, vm := .none } : Cell) = H1
  have z1 : H1.size = H.size + 1 := by rw [← hH1, Array.size_push]
  have e1 : H1[H.size]? = some (arrV cB n (fun _ => .null)) := by rw [← hH1, Array.getElem?_push_size, ← arrV_new]
  have o1 : ∀ q : Nat, q < H.size → H1[q]? = H[q]? := fun q hq => by rw [← hH1, Array.getElem?_push, if_neg (Nat.ne_of_lt hq)]
  rw [h1] at e1 ⊢
  exact kk H1 locs ls (by omega) (zl_grow h1 h2 o1 (by show H1[b + N]? = some (vp_cell _ _); rw [vp_cell_q]; exact e1)) (zS_grow h3 z1 o1) h4
theorem z_objInit (X : zX p s m args meth c cc nL own ret Ts D tys b) {idx a : Nat} (hl : Cond.methodLink own idx Lib.objectInit ∈ Ts) (hi : Cond.instanceMethod Lib.objectInit ∈ Ts) (hcd : Cond.code Lib.objectInit ⟨#[0xb1]⟩ 1 none ∈ Ts) (d : decode cc pc = .ok (.invokespecial idx, 3)) (hf : 1 ≤ R.frames) (hlo : (st.map fun v => v.category).sum + 12 ≤ R.locals) (kk : Z p l e R s m args below meth c nL D b N k cells slots Q (pc + 3) lv st) : Z p l e R s m args below meth c nL D b N k cells slots Q pc lv (.ref a :: st) := by
  intro H locs ls h1 h2 h3 h4
  refine W.objInit X.1.1 X.1.2.1 X.1.2.2.2.1 (X.1.2.2.2.2 _ hl) (X.1.2.2.2.2 _ hi) (X.1.2.2.2.2 _ hcd) rfl (by rw [X.1.2.2.1]; exact h4.1) rfl d hf (by show 2 * 0 + _ + 12 ≤ _; omega) ?_
  exact kk H locs ls h1 h2 h3 h4
theorem z_mmax (X : zX p s m args meth c cc nL own ret Ts D tys b) {index : Nat} {x y : Int32} (hl : Cond.methodLink own index Lib.Math.max.name ∈ Ts) (hs : Cond.static Lib.Math.max.name ∈ Ts) (hi : Cond.initialized "java/lang/Math" ∈ Ts) (hcd : Cond.code Lib.Math.max.name Lib.Math.max.code 2 (some .int) ∈ Ts) (d : decode cc pc = .ok (.invokestatic index, 3)) (hf : 1 ≤ R.frames) (hlo : (st.map fun v => v.category).sum + 13 ≤ R.locals) (hcells : cells ≤ R.cells) (hslots : slots ≤ R.slots) (kk : Z p l e R s m args below meth c nL D b N k cells slots Q (pc + 3) lv (.int (if x < y then y else x) :: st)) : Z p l e R s m args below meth c nL D b N k cells slots Q pc lv (.int y :: .int x :: st) :=
  fun H locs ls h1 h2 h3 h4 => va_mmax X.1.1 X.1.2.1 (X.1.2.2.1.trans h4.1.symm) X.1.2.2.2.1 (X.1.2.2.2.2 _ hl) (X.1.2.2.2.2 _ hs) (X.1.2.2.2.2 _ hi) (X.1.2.2.2.2 _ hcd) hf hlo hcells hslots d (kk H locs ls h1 h2 h3 h4)
theorem z_mmin (X : zX p s m args meth c cc nL own ret Ts D tys b) {index : Nat} {x y : Int32} (hl : Cond.methodLink own index Lib.Math.min.name ∈ Ts) (hs : Cond.static Lib.Math.min.name ∈ Ts) (hi : Cond.initialized "java/lang/Math" ∈ Ts) (hcd : Cond.code Lib.Math.min.name Lib.Math.min.code 2 (some .int) ∈ Ts) (d : decode cc pc = .ok (.invokestatic index, 3)) (hf : 1 ≤ R.frames) (hlo : (st.map fun v => v.category).sum + 13 ≤ R.locals) (hcells : cells ≤ R.cells) (hslots : slots ≤ R.slots) (kk : Z p l e R s m args below meth c nL D b N k cells slots Q (pc + 3) lv (.int (if y < x then y else x) :: st)) : Z p l e R s m args below meth c nL D b N k cells slots Q pc lv (.int y :: .int x :: st) :=
  fun H locs ls h1 h2 h3 h4 => va_mmin X.1.1 X.1.2.1 (X.1.2.2.1.trans h4.1.symm) X.1.2.2.2.1 (X.1.2.2.2.2 _ hl) (X.1.2.2.2.2 _ hs) (X.1.2.2.2.2 _ hi) (X.1.2.2.2.2 _ hcd) hf hlo hcells hslots d (kk H locs ls h1 h2 h3 h4)
/-- a method's start and end -/
def zPc (D : va_G) (tys : List (ClassId × FieldType)) (b N : Nat) (k : Nat → va_E) (av : List Value) : Array Value → State → Prop := va_Pc av (fun U => U.heap.size = b + N ∧ va_P D classes (zl b N k) U.heap ∧ va_K D classes tys U ∧ zN U)
def zB (D : va_G) (b N : Nat) (k : Nat → va_E) (t : State) : Prop := t.heap.size = b + N ∧ va_P D classes (zl b N k) t.heap
def zQi (D : va_G) (b N : Nat) (post : Int32 → (Nat → va_E) → Prop) : Array Value → State → Outcome → State → Prop := va_Qi post (zB D b N) (zA b)
def zQl (D : va_G) (b N : Nat) (post : Int64 → (Nat → va_E) → Prop) : Array Value → State → Outcome → State → Prop := va_Ql post (zB D b N) (zA b)
def zQv (D : va_G) (b N : Nat) (post : (Nat → va_E) → Prop) : Array Value → State → Outcome → State → Prop := va_Qv post (zB D b N) (zA b)
theorem zPc.blind {D : va_G} {tys : List (ClassId × FieldType)} {b N : Nat} {k : Nat → va_E} {av : List Value} : FrameBlind (zPc D tys b N k av) := fun a U g mk q => ⟨q.1, q.2.1, q.2.2.1, va_K.moved (u := U) (U := U.calling g mk a) (Vm.Alike.refl U.vm) q.2.2.2.1, q.2.2.2.2.blind⟩
theorem z_iret (X : zX p s m args meth c cc nL own (some .int) Ts D tys b) {mc ms : Nat} {post : Int32 → (Nat → va_E) → Prop} {x : Int32} (d : decode cc pc = .ok (.ireturn, 1)) (hc : cells ≤ mc) (hs : slots ≤ ms) (hp : post x k) : Z p l e R s m args below meth c nL D b N k cells slots (MQ below (zQi D b N post) args s mc ms (zA b)) pc lv [.int x] := by
  intro H locs ls h1 h2 h3 h4
  refine W.widen hc hs ?_
  exact W.iret X.1.1 X.1.2.1 X.2.2.1 (fun t ht hW => ⟨⟨x, k, rfl, hp, by rw [ht]; exact h1, by rw [ht]; exact h2⟩, h3.F ht⟩) h3.2.2 d X.2.2.2.1
theorem z_zret (X : zX p s m args meth c cc nL own (some .boolean) Ts D tys b) {mc ms : Nat} {post : Int32 → (Nat → va_E) → Prop} {x : Int32} (d : decode cc pc = .ok (.ireturn, 1)) (hx : narrow .boolean (.int x) = .int x) (hc : cells ≤ mc) (hs : slots ≤ ms) (hp : post x k) : Z p l e R s m args below meth c nL D b N k cells slots (MQ below (zQi D b N post) args s mc ms (zA b)) pc lv [.int x] := by
  intro H locs ls h1 h2 h3 h4
  refine W.widen hc hs ?_
  exact W.zret X.1.1 X.1.2.1 X.2.2.1 hx (fun t ht hW => ⟨⟨x, k, rfl, hp, by rw [ht]; exact h1, by rw [ht]; exact h2⟩, h3.F ht⟩) h3.2.2 d X.2.2.2.1
theorem z_lret (X : zX p s m args meth c cc nL own (some .long) Ts D tys b) {mc ms : Nat} {post : Int64 → (Nat → va_E) → Prop} {x : Int64} (d : decode cc pc = .ok (.lreturn, 1)) (hc : cells ≤ mc) (hs : slots ≤ ms) (hp : post x k) : Z p l e R s m args below meth c nL D b N k cells slots (MQ below (zQl D b N post) args s mc ms (zA b)) pc lv [.long x] := by
  intro H locs ls h1 h2 h3 h4
  refine W.widen hc hs ?_
  exact W.lret X.1.1 X.1.2.1 X.2.2.1 (fun t ht hW => ⟨⟨x, k, rfl, hp, by rw [ht]; exact h1, by rw [ht]; exact h2⟩, h3.F ht⟩) h3.2.2 d X.2.2.2.1
theorem z_vret (X : zX p s m args meth c cc nL own none Ts D tys b) {mc ms : Nat} {post : (Nat → va_E) → Prop} (d : decode cc pc = .ok (.return_, 1)) (hc : cells ≤ mc) (hs : slots ≤ ms) (hp : post k) : Z p l e R s m args below meth c nL D b N k cells slots (MQ below (zQv D b N post) args s mc ms (zA b)) pc lv [] := by
  intro H locs ls h1 h2 h3 h4
  refine W.widen hc hs ?_
  exact W.vret X.1.1 X.1.2.1 X.2.2.1 (fun t ht hW => ⟨⟨k, rfl, hp, by rw [ht]; exact h1, by rw [ht]; exact h2⟩, h3.F ht⟩) h3.2.2 d X.2.2.2.1
theorem z_widen {mc ms : Nat} (hc : cells ≤ mc) (hs : slots ≤ ms) (kk : Z p l e R s m args below meth c nL D b N k mc ms Q pc lv st) : Z p l e R s m args below meth c nL D b N k cells slots Q pc lv st :=
  fun H locs ls h1 h2 h3 h4 => W.widen hc hs (kk H locs ls h1 h2 h3 h4)
theorem z_callVi (X : zX p s m args meth c cc nL own ret Ts D tys b) {y : MethodName} {bytes : ByteArray} {maxL mc ms n index N2 a : Nat} {rt : Option FieldType} {ws : List Cond} {rm : Room} {As st0 : List Value} {post : Int32 → (Nat → va_E) → Prop} (hM : Met l y ws rm (zPc D tys b N k (.ref a :: As)) (zQi D b N2 post) mc ms (zA b)) {C : String} {T : u_T} {nf ci : Nat} {fs : List Value} (hrec : zc b N k a (.inr (ci, fs))) (hcl : classes[ci]? = some (C, T, nf)) (cw : CallW R s args own C index y bytes maxL rt ws rm mc ms n) (hst : st0 = As.reverse ++ .ref a :: st) (hn : As.length = n) (hcat : (st.map fun v => v.category).sum ≤ 8) (d : decode cc pc = .ok (.invokevirtual index, 3)) (hfit : cells + mc ≤ R.cells ∧ slots + ms ≤ R.slots) (kk : ∀ (r : Int32) (k2 : Nat → va_E), post r k2 → Z p l e R s m args below meth c nL D b N2 k2 (cells + mc) (slots + ms) Q (pc + 3) lv (.int r :: st)) : Z p l e R s m args below meth c nL D b N k cells slots Q pc lv st0 := by
  intro H locs ls h1 h2 h3 h4
  exact va_calli (va_runV X.1 hM cw ⟨zPc.blind, va_recv X.2.1 h2 hcl hrec.at, (fun U hU hW => ⟨rfl, by rw [hU]; exact h1, by rw [hU]; exact h2, va_K.moved hW.alike X.2.1, X.2.2.2.2.2.moved hW⟩)⟩ rfl hn h4.1 hst (lv_room hcat) d hfit) h3 (fun _ _ q => q) (fun _ q => q) (fun r u t H1 locs1 ht hvm hp hB hz hk9 hS => kk r u hp H1 locs1 ls (by rw [← ht]; exact hB.1) (by rw [← ht]; exact hB.2) hS h4)
theorem z_callSi (X : zX p s m args meth c cc nL own ret Ts D tys b) {y : MethodName} {bytes : ByteArray} {maxL mc ms n index N2 a : Nat} {rt : Option FieldType} {ws : List Cond} {rm : Room} {As st0 : List Value} {post : Int32 → (Nat → va_E) → Prop} (hM : Met l y ws rm (zPc D tys b N k As) (zQi D b N2 post) mc ms (zA b)) (cw : CallB R s args own index y bytes maxL rt ws rm mc ms n ∧ (Cond.static y).before args s = true) (hst : st0 = As.reverse ++ st) (hn : As.length = n) (hcat : (st.map fun v => v.category).sum ≤ 8) (d : decode cc pc = .ok (.invokestatic index, 3)) (hfit : cells + mc ≤ R.cells ∧ slots + ms ≤ R.slots) (kk : ∀ (r : Int32) (k2 : Nat → va_E), post r k2 → Z p l e R s m args below meth c nL D b N2 k2 (cells + mc) (slots + ms) Q (pc + 3) lv (.int r :: st)) : Z p l e R s m args below meth c nL D b N k cells slots Q pc lv st0 := by
  intro H locs ls h1 h2 h3 h4
  exact va_calli (va_runS X.1 hM cw ⟨zPc.blind, (fun U hU hW => ⟨rfl, by rw [hU]; exact h1, by rw [hU]; exact h2, va_K.moved hW.alike X.2.1, X.2.2.2.2.2.moved hW⟩)⟩ rfl hn h4.1 hst (lv_room hcat) d hfit) h3 (fun _ _ q => q) (fun _ q => q) (fun r u t H1 locs1 ht hvm hp hB hz hk9 hS => kk r u hp H1 locs1 ls (by rw [← ht]; exact hB.1) (by rw [← ht]; exact hB.2) hS h4)
theorem z_callVNi (X : zX p s m args meth c cc nL own ret Ts D tys b) {y : MethodName} {bytes : ByteArray} {maxL mc ms n index N2 a : Nat} {rt : Option FieldType} {ws : List Cond} {rm : Room} {As st0 : List Value} {post : Int32 → (Nat → va_E) → Prop} (hM : Met l y ws rm (zPc D tys b N k (.ref a :: As)) (zQi D b N2 post) mc ms (zA b)) {C : String} {T : u_T} {nf ci : Nat} {fs : List Value} (hrec : zc b N k a (.inr (ci, fs))) (hcl : classes[ci]? = some (C, T, nf)) {host : String} (cw : va_CN R s args own index y host bytes maxL rt ws rm mc ms n ∧ (Cond.instanceMethod y).before args s = true ∧ (Cond.selects C y y).before args s = true) (hst : st0 = As.reverse ++ .ref a :: st) (hn : As.length = n) (hcat : (st.map fun v => v.category).sum ≤ 8) (d : decode cc pc = .ok (.invokevirtual index, 3)) (hfit : cells + mc ≤ R.cells ∧ slots + ms ≤ R.slots) (kk : ∀ (r : Int32) (k2 : Nat → va_E), post r k2 → Z p l e R s m args below meth c nL D b N2 k2 (cells + mc) (slots + ms) Q (pc + 3) lv (.int r :: st)) : Z p l e R s m args below meth c nL D b N k cells slots Q pc lv st0 := by
  intro H locs ls h1 h2 h3 h4
  exact va_calli (va_runVN X.1 hM cw ⟨zPc.blind, va_recv X.2.1 h2 hcl hrec.at, (fun U hU hW => ⟨rfl, by rw [hU]; exact h1, by rw [hU]; exact h2, va_K.moved hW.alike X.2.1, X.2.2.2.2.2.moved hW⟩)⟩ rfl hn h4.1 hst (lv_room hcat) d hfit) h3 (fun _ _ q => q) (fun _ q => q) (fun r u t H1 locs1 ht hvm hp hB hz hk9 hS => kk r u hp H1 locs1 ls (by rw [← ht]; exact hB.1) (by rw [← ht]; exact hB.2) hS h4)
theorem z_callSNi (X : zX p s m args meth c cc nL own ret Ts D tys b) {y : MethodName} {bytes : ByteArray} {maxL mc ms n index N2 a : Nat} {rt : Option FieldType} {ws : List Cond} {rm : Room} {As st0 : List Value} {post : Int32 → (Nat → va_E) → Prop} (hM : Met l y ws rm (zPc D tys b N k As) (zQi D b N2 post) mc ms (zA b)) {host : String} (cw : va_CN R s args own index y host bytes maxL rt ws rm mc ms n ∧ (Cond.static y).before args s = true ∧ True) (hst : st0 = As.reverse ++ st) (hn : As.length = n) (hcat : (st.map fun v => v.category).sum ≤ 8) (d : decode cc pc = .ok (.invokestatic index, 3)) (hfit : cells + mc ≤ R.cells ∧ slots + ms ≤ R.slots) (kk : ∀ (r : Int32) (k2 : Nat → va_E), post r k2 → Z p l e R s m args below meth c nL D b N2 k2 (cells + mc) (slots + ms) Q (pc + 3) lv (.int r :: st)) : Z p l e R s m args below meth c nL D b N k cells slots Q pc lv st0 := by
  intro H locs ls h1 h2 h3 h4
  exact va_calli (va_runSN X.1 hM cw ⟨zPc.blind, (fun U hU hW => ⟨rfl, by rw [hU]; exact h1, by rw [hU]; exact h2, va_K.moved hW.alike X.2.1, X.2.2.2.2.2.moved hW⟩)⟩ rfl hn h4.1 hst (lv_room hcat) d hfit) h3 (fun _ _ q => q) (fun _ q => q) (fun r u t H1 locs1 ht hvm hp hB hz hk9 hS => kk r u hp H1 locs1 ls (by rw [← ht]; exact hB.1) (by rw [← ht]; exact hB.2) hS h4)
theorem z_callVl (X : zX p s m args meth c cc nL own ret Ts D tys b) {y : MethodName} {bytes : ByteArray} {maxL mc ms n index N2 a : Nat} {rt : Option FieldType} {ws : List Cond} {rm : Room} {As st0 : List Value} {post : Int64 → (Nat → va_E) → Prop} (hM : Met l y ws rm (zPc D tys b N k (.ref a :: As)) (zQl D b N2 post) mc ms (zA b)) {C : String} {T : u_T} {nf ci : Nat} {fs : List Value} (hrec : zc b N k a (.inr (ci, fs))) (hcl : classes[ci]? = some (C, T, nf)) (cw : CallW R s args own C index y bytes maxL rt ws rm mc ms n) (hst : st0 = As.reverse ++ .ref a :: st) (hn : As.length = n) (hcat : (st.map fun v => v.category).sum ≤ 8) (d : decode cc pc = .ok (.invokevirtual index, 3)) (hfit : cells + mc ≤ R.cells ∧ slots + ms ≤ R.slots) (kk : ∀ (r : Int64) (k2 : Nat → va_E), post r k2 → Z p l e R s m args below meth c nL D b N2 k2 (cells + mc) (slots + ms) Q (pc + 3) lv (.long r :: st)) : Z p l e R s m args below meth c nL D b N k cells slots Q pc lv st0 := by
  intro H locs ls h1 h2 h3 h4
  exact va_calll (va_runV X.1 hM cw ⟨zPc.blind, va_recv X.2.1 h2 hcl hrec.at, (fun U hU hW => ⟨rfl, by rw [hU]; exact h1, by rw [hU]; exact h2, va_K.moved hW.alike X.2.1, X.2.2.2.2.2.moved hW⟩)⟩ rfl hn h4.1 hst (lv_room hcat) d hfit) h3 (fun _ _ q => q) (fun _ q => q) (fun r u t H1 locs1 ht hvm hp hB hz hk9 hS => kk r u hp H1 locs1 ls (by rw [← ht]; exact hB.1) (by rw [← ht]; exact hB.2) hS h4)
theorem z_callSl (X : zX p s m args meth c cc nL own ret Ts D tys b) {y : MethodName} {bytes : ByteArray} {maxL mc ms n index N2 a : Nat} {rt : Option FieldType} {ws : List Cond} {rm : Room} {As st0 : List Value} {post : Int64 → (Nat → va_E) → Prop} (hM : Met l y ws rm (zPc D tys b N k As) (zQl D b N2 post) mc ms (zA b)) (cw : CallB R s args own index y bytes maxL rt ws rm mc ms n ∧ (Cond.static y).before args s = true) (hst : st0 = As.reverse ++ st) (hn : As.length = n) (hcat : (st.map fun v => v.category).sum ≤ 8) (d : decode cc pc = .ok (.invokestatic index, 3)) (hfit : cells + mc ≤ R.cells ∧ slots + ms ≤ R.slots) (kk : ∀ (r : Int64) (k2 : Nat → va_E), post r k2 → Z p l e R s m args below meth c nL D b N2 k2 (cells + mc) (slots + ms) Q (pc + 3) lv (.long r :: st)) : Z p l e R s m args below meth c nL D b N k cells slots Q pc lv st0 := by
  intro H locs ls h1 h2 h3 h4
  exact va_calll (va_runS X.1 hM cw ⟨zPc.blind, (fun U hU hW => ⟨rfl, by rw [hU]; exact h1, by rw [hU]; exact h2, va_K.moved hW.alike X.2.1, X.2.2.2.2.2.moved hW⟩)⟩ rfl hn h4.1 hst (lv_room hcat) d hfit) h3 (fun _ _ q => q) (fun _ q => q) (fun r u t H1 locs1 ht hvm hp hB hz hk9 hS => kk r u hp H1 locs1 ls (by rw [← ht]; exact hB.1) (by rw [← ht]; exact hB.2) hS h4)
theorem z_callVNl (X : zX p s m args meth c cc nL own ret Ts D tys b) {y : MethodName} {bytes : ByteArray} {maxL mc ms n index N2 a : Nat} {rt : Option FieldType} {ws : List Cond} {rm : Room} {As st0 : List Value} {post : Int64 → (Nat → va_E) → Prop} (hM : Met l y ws rm (zPc D tys b N k (.ref a :: As)) (zQl D b N2 post) mc ms (zA b)) {C : String} {T : u_T} {nf ci : Nat} {fs : List Value} (hrec : zc b N k a (.inr (ci, fs))) (hcl : classes[ci]? = some (C, T, nf)) {host : String} (cw : va_CN R s args own index y host bytes maxL rt ws rm mc ms n ∧ (Cond.instanceMethod y).before args s = true ∧ (Cond.selects C y y).before args s = true) (hst : st0 = As.reverse ++ .ref a :: st) (hn : As.length = n) (hcat : (st.map fun v => v.category).sum ≤ 8) (d : decode cc pc = .ok (.invokevirtual index, 3)) (hfit : cells + mc ≤ R.cells ∧ slots + ms ≤ R.slots) (kk : ∀ (r : Int64) (k2 : Nat → va_E), post r k2 → Z p l e R s m args below meth c nL D b N2 k2 (cells + mc) (slots + ms) Q (pc + 3) lv (.long r :: st)) : Z p l e R s m args below meth c nL D b N k cells slots Q pc lv st0 := by
  intro H locs ls h1 h2 h3 h4
  exact va_calll (va_runVN X.1 hM cw ⟨zPc.blind, va_recv X.2.1 h2 hcl hrec.at, (fun U hU hW => ⟨rfl, by rw [hU]; exact h1, by rw [hU]; exact h2, va_K.moved hW.alike X.2.1, X.2.2.2.2.2.moved hW⟩)⟩ rfl hn h4.1 hst (lv_room hcat) d hfit) h3 (fun _ _ q => q) (fun _ q => q) (fun r u t H1 locs1 ht hvm hp hB hz hk9 hS => kk r u hp H1 locs1 ls (by rw [← ht]; exact hB.1) (by rw [← ht]; exact hB.2) hS h4)
theorem z_callSNl (X : zX p s m args meth c cc nL own ret Ts D tys b) {y : MethodName} {bytes : ByteArray} {maxL mc ms n index N2 a : Nat} {rt : Option FieldType} {ws : List Cond} {rm : Room} {As st0 : List Value} {post : Int64 → (Nat → va_E) → Prop} (hM : Met l y ws rm (zPc D tys b N k As) (zQl D b N2 post) mc ms (zA b)) {host : String} (cw : va_CN R s args own index y host bytes maxL rt ws rm mc ms n ∧ (Cond.static y).before args s = true ∧ True) (hst : st0 = As.reverse ++ st) (hn : As.length = n) (hcat : (st.map fun v => v.category).sum ≤ 8) (d : decode cc pc = .ok (.invokestatic index, 3)) (hfit : cells + mc ≤ R.cells ∧ slots + ms ≤ R.slots) (kk : ∀ (r : Int64) (k2 : Nat → va_E), post r k2 → Z p l e R s m args below meth c nL D b N2 k2 (cells + mc) (slots + ms) Q (pc + 3) lv (.long r :: st)) : Z p l e R s m args below meth c nL D b N k cells slots Q pc lv st0 := by
  intro H locs ls h1 h2 h3 h4
  exact va_calll (va_runSN X.1 hM cw ⟨zPc.blind, (fun U hU hW => ⟨rfl, by rw [hU]; exact h1, by rw [hU]; exact h2, va_K.moved hW.alike X.2.1, X.2.2.2.2.2.moved hW⟩)⟩ rfl hn h4.1 hst (lv_room hcat) d hfit) h3 (fun _ _ q => q) (fun _ q => q) (fun r u t H1 locs1 ht hvm hp hB hz hk9 hS => kk r u hp H1 locs1 ls (by rw [← ht]; exact hB.1) (by rw [← ht]; exact hB.2) hS h4)
theorem z_callVv (X : zX p s m args meth c cc nL own ret Ts D tys b) {y : MethodName} {bytes : ByteArray} {maxL mc ms n index N2 a : Nat} {rt : Option FieldType} {ws : List Cond} {rm : Room} {As st0 : List Value} {post : (Nat → va_E) → Prop} (hM : Met l y ws rm (zPc D tys b N k (.ref a :: As)) (zQv D b N2 post) mc ms (zA b)) {C : String} {T : u_T} {nf ci : Nat} {fs : List Value} (hrec : zc b N k a (.inr (ci, fs))) (hcl : classes[ci]? = some (C, T, nf)) (cw : CallW R s args own C index y bytes maxL rt ws rm mc ms n) (hst : st0 = As.reverse ++ .ref a :: st) (hn : As.length = n) (hcat : (st.map fun v => v.category).sum ≤ 8) (d : decode cc pc = .ok (.invokevirtual index, 3)) (hfit : cells + mc ≤ R.cells ∧ slots + ms ≤ R.slots) (kk : ∀ (k2 : Nat → va_E), post k2 → Z p l e R s m args below meth c nL D b N2 k2 (cells + mc) (slots + ms) Q (pc + 3) lv st) : Z p l e R s m args below meth c nL D b N k cells slots Q pc lv st0 := by
  intro H locs ls h1 h2 h3 h4
  exact va_callv (va_runV X.1 hM cw ⟨zPc.blind, va_recv X.2.1 h2 hcl hrec.at, (fun U hU hW => ⟨rfl, by rw [hU]; exact h1, by rw [hU]; exact h2, va_K.moved hW.alike X.2.1, X.2.2.2.2.2.moved hW⟩)⟩ rfl hn h4.1 hst (lv_room hcat) d hfit) h3 (fun _ _ q => q) (fun _ q => q) (fun u t H1 locs1 ht hvm hp hB hz hk9 hS => kk u hp H1 locs1 ls (by rw [← ht]; exact hB.1) (by rw [← ht]; exact hB.2) hS h4)
theorem z_callSv (X : zX p s m args meth c cc nL own ret Ts D tys b) {y : MethodName} {bytes : ByteArray} {maxL mc ms n index N2 a : Nat} {rt : Option FieldType} {ws : List Cond} {rm : Room} {As st0 : List Value} {post : (Nat → va_E) → Prop} (hM : Met l y ws rm (zPc D tys b N k As) (zQv D b N2 post) mc ms (zA b)) (cw : CallB R s args own index y bytes maxL rt ws rm mc ms n ∧ (Cond.static y).before args s = true) (hst : st0 = As.reverse ++ st) (hn : As.length = n) (hcat : (st.map fun v => v.category).sum ≤ 8) (d : decode cc pc = .ok (.invokestatic index, 3)) (hfit : cells + mc ≤ R.cells ∧ slots + ms ≤ R.slots) (kk : ∀ (k2 : Nat → va_E), post k2 → Z p l e R s m args below meth c nL D b N2 k2 (cells + mc) (slots + ms) Q (pc + 3) lv st) : Z p l e R s m args below meth c nL D b N k cells slots Q pc lv st0 := by
  intro H locs ls h1 h2 h3 h4
  exact va_callv (va_runS X.1 hM cw ⟨zPc.blind, (fun U hU hW => ⟨rfl, by rw [hU]; exact h1, by rw [hU]; exact h2, va_K.moved hW.alike X.2.1, X.2.2.2.2.2.moved hW⟩)⟩ rfl hn h4.1 hst (lv_room hcat) d hfit) h3 (fun _ _ q => q) (fun _ q => q) (fun u t H1 locs1 ht hvm hp hB hz hk9 hS => kk u hp H1 locs1 ls (by rw [← ht]; exact hB.1) (by rw [← ht]; exact hB.2) hS h4)
theorem z_callIv (X : zX p s m args meth c cc nL own ret Ts D tys b) {y : MethodName} {bytes : ByteArray} {maxL mc ms n index N2 a : Nat} {rt : Option FieldType} {ws : List Cond} {rm : Room} {As st0 : List Value} {post : (Nat → va_E) → Prop} (hM : Met l y ws rm (zPc D tys b N k (.ref a :: As)) (zQv D b N2 post) mc ms (zA b)) (cw : CallB R s args own index y bytes maxL none ws rm mc ms n ∧ y.name = "<init>" ∧ (Cond.instanceMethod y).before args s = true) (hst : st0 = As.reverse ++ .ref a :: st) (hn : As.length = n) (hcat : (st.map fun v => v.category).sum ≤ 8) (d : decode cc pc = .ok (.invokespecial index, 3)) (hfit : cells + mc ≤ R.cells ∧ slots + ms ≤ R.slots) (kk : ∀ (k2 : Nat → va_E), post k2 → Z p l e R s m args below meth c nL D b N2 k2 (cells + mc) (slots + ms) Q (pc + 3) lv st) : Z p l e R s m args below meth c nL D b N k cells slots Q pc lv st0 := by
  intro H locs ls h1 h2 h3 h4
  exact va_callv (va_runI X.1 hM cw ⟨zPc.blind, (fun U hU hW => ⟨rfl, by rw [hU]; exact h1, by rw [hU]; exact h2, va_K.moved hW.alike X.2.1, X.2.2.2.2.2.moved hW⟩)⟩ rfl hn h4.1 hst (lv_room hcat) d hfit) h3 (fun _ _ q => q) (fun _ q => q) (fun u t H1 locs1 ht hvm hp hB hz hk9 hS => kk u hp H1 locs1 ls (by rw [← ht]; exact hB.1) (by rw [← ht]; exact hB.2) hS h4)
theorem z_callVNv (X : zX p s m args meth c cc nL own ret Ts D tys b) {y : MethodName} {bytes : ByteArray} {maxL mc ms n index N2 a : Nat} {rt : Option FieldType} {ws : List Cond} {rm : Room} {As st0 : List Value} {post : (Nat → va_E) → Prop} (hM : Met l y ws rm (zPc D tys b N k (.ref a :: As)) (zQv D b N2 post) mc ms (zA b)) {C : String} {T : u_T} {nf ci : Nat} {fs : List Value} (hrec : zc b N k a (.inr (ci, fs))) (hcl : classes[ci]? = some (C, T, nf)) {host : String} (cw : va_CN R s args own index y host bytes maxL rt ws rm mc ms n ∧ (Cond.instanceMethod y).before args s = true ∧ (Cond.selects C y y).before args s = true) (hst : st0 = As.reverse ++ .ref a :: st) (hn : As.length = n) (hcat : (st.map fun v => v.category).sum ≤ 8) (d : decode cc pc = .ok (.invokevirtual index, 3)) (hfit : cells + mc ≤ R.cells ∧ slots + ms ≤ R.slots) (kk : ∀ (k2 : Nat → va_E), post k2 → Z p l e R s m args below meth c nL D b N2 k2 (cells + mc) (slots + ms) Q (pc + 3) lv st) : Z p l e R s m args below meth c nL D b N k cells slots Q pc lv st0 := by
  intro H locs ls h1 h2 h3 h4
  exact va_callv (va_runVN X.1 hM cw ⟨zPc.blind, va_recv X.2.1 h2 hcl hrec.at, (fun U hU hW => ⟨rfl, by rw [hU]; exact h1, by rw [hU]; exact h2, va_K.moved hW.alike X.2.1, X.2.2.2.2.2.moved hW⟩)⟩ rfl hn h4.1 hst (lv_room hcat) d hfit) h3 (fun _ _ q => q) (fun _ q => q) (fun u t H1 locs1 ht hvm hp hB hz hk9 hS => kk u hp H1 locs1 ls (by rw [← ht]; exact hB.1) (by rw [← ht]; exact hB.2) hS h4)
theorem z_callSNv (X : zX p s m args meth c cc nL own ret Ts D tys b) {y : MethodName} {bytes : ByteArray} {maxL mc ms n index N2 a : Nat} {rt : Option FieldType} {ws : List Cond} {rm : Room} {As st0 : List Value} {post : (Nat → va_E) → Prop} (hM : Met l y ws rm (zPc D tys b N k As) (zQv D b N2 post) mc ms (zA b)) {host : String} (cw : va_CN R s args own index y host bytes maxL rt ws rm mc ms n ∧ (Cond.static y).before args s = true ∧ True) (hst : st0 = As.reverse ++ st) (hn : As.length = n) (hcat : (st.map fun v => v.category).sum ≤ 8) (d : decode cc pc = .ok (.invokestatic index, 3)) (hfit : cells + mc ≤ R.cells ∧ slots + ms ≤ R.slots) (kk : ∀ (k2 : Nat → va_E), post k2 → Z p l e R s m args below meth c nL D b N2 k2 (cells + mc) (slots + ms) Q (pc + 3) lv st) : Z p l e R s m args below meth c nL D b N k cells slots Q pc lv st0 := by
  intro H locs ls h1 h2 h3 h4
  exact va_callv (va_runSN X.1 hM cw ⟨zPc.blind, (fun U hU hW => ⟨rfl, by rw [hU]; exact h1, by rw [hU]; exact h2, va_K.moved hW.alike X.2.1, X.2.2.2.2.2.moved hW⟩)⟩ rfl hn h4.1 hst (lv_room hcat) d hfit) h3 (fun _ _ q => q) (fun _ q => q) (fun u t H1 locs1 ht hvm hp hB hz hk9 hS => kk u hp H1 locs1 ls (by rw [← ht]; exact hB.1) (by rw [← ht]; exact hB.2) hS h4)
theorem z_callINv (X : zX p s m args meth c cc nL own ret Ts D tys b) {y : MethodName} {bytes : ByteArray} {maxL mc ms n index N2 a : Nat} {rt : Option FieldType} {ws : List Cond} {rm : Room} {As st0 : List Value} {post : (Nat → va_E) → Prop} (hM : Met l y ws rm (zPc D tys b N k (.ref a :: As)) (zQv D b N2 post) mc ms (zA b)) {host : String} (cw : va_CN R s args own index y host bytes maxL none ws rm mc ms n ∧ y.name = "<init>" ∧ (Cond.instanceMethod y).before args s = true) (hst : st0 = As.reverse ++ .ref a :: st) (hn : As.length = n) (hcat : (st.map fun v => v.category).sum ≤ 8) (d : decode cc pc = .ok (.invokespecial index, 3)) (hfit : cells + mc ≤ R.cells ∧ slots + ms ≤ R.slots) (kk : ∀ (k2 : Nat → va_E), post k2 → Z p l e R s m args below meth c nL D b N2 k2 (cells + mc) (slots + ms) Q (pc + 3) lv st) : Z p l e R s m args below meth c nL D b N k cells slots Q pc lv st0 := by
  intro H locs ls h1 h2 h3 h4
  exact va_callv (va_runIN X.1 hM cw ⟨zPc.blind, (fun U hU hW => ⟨rfl, by rw [hU]; exact h1, by rw [hU]; exact h2, va_K.moved hW.alike X.2.1, X.2.2.2.2.2.moved hW⟩)⟩ rfl hn h4.1 hst (lv_room hcat) d hfit) h3 (fun _ _ q => q) (fun _ q => q) (fun u t H1 locs1 ht hvm hp hB hz hk9 hS => kk u hp H1 locs1 ls (by rw [← ht]; exact hB.1) (by rw [← ht]; exact hB.2) hS h4)
theorem z_iaddN (X : zX p s m args meth c cc nL own ret Ts D tys b) {x y : Nat} (d : decode cc pc = .ok (.iadd, 1)) (kk : Z p l e R s m args below meth c nL D b N k cells slots Q (pc + 1) lv (.int (nI (x + y)) :: st)) : Z p l e R s m args below meth c nL D b N k cells slots Q pc lv (.int (nI y) :: .int (nI x) :: st) := z_iadd X d (by rw [nI_add]; exact kk)
theorem z_isubN (X : zX p s m args meth c cc nL own ret Ts D tys b) {x y : Nat} (d : decode cc pc = .ok (.isub, 1)) (h : y ≤ x) (kk : Z p l e R s m args below meth c nL D b N k cells slots Q (pc + 1) lv (.int (nI (x - y)) :: st)) : Z p l e R s m args below meth c nL D b N k cells slots Q pc lv (.int (nI y) :: .int (nI x) :: st) := z_isub X d (by rw [pk_sub h]; exact kk)
theorem z_imulN (X : zX p s m args meth c cc nL own ret Ts D tys b) {x y : Nat} (d : decode cc pc = .ok (.imul, 1)) (kk : Z p l e R s m args below meth c nL D b N k cells slots Q (pc + 1) lv (.int (nI (x * y)) :: st)) : Z p l e R s m args below meth c nL D b N k cells slots Q pc lv (.int (nI y) :: .int (nI x) :: st) := z_imul X d (by rw [pk_mul]; exact kk)
theorem z_idivN (X : zX p s m args meth c cc nL own ret Ts D tys b) {x y : Nat} (d : decode cc pc = .ok (.idiv, 1)) (h0 : 0 < y) (hx : x < 2 ^ 31) (hy : y < 2 ^ 31) (kk : Z p l e R s m args below meth c nL D b N k cells slots Q (pc + 1) lv (.int (nI (x / y)) :: st)) : Z p l e R s m args below meth c nL D b N k cells slots Q pc lv (.int (nI y) :: .int (nI x) :: st) := z_idiv X d (nI_ne0 h0 hy) (by rw [pk_div hx h0 hy]; exact kk)
theorem z_iremN (X : zX p s m args meth c cc nL own ret Ts D tys b) {x y : Nat} (d : decode cc pc = .ok (.irem, 1)) (h0 : 0 < y) (hx : x < 2 ^ 31) (hy : y < 2 ^ 31) (kk : Z p l e R s m args below meth c nL D b N k cells slots Q (pc + 1) lv (.int (nI (x % y)) :: st)) : Z p l e R s m args below meth c nL D b N k cells slots Q pc lv (.int (nI y) :: .int (nI x) :: st) := z_irem X d (nI_ne0 h0 hy) (by rw [pk_rem hx h0 hy]; exact kk)
theorem z_iincU (X : zX p s m args meth c cc nL own ret Ts D tys b) {i x : Nat} (d : decode cc pc = .ok (.iinc i 1, 3)) (hl : lv[i]? = some (some (.int (nI x)))) (hn : i < nL) (hf : zfr lv i = true) (kk : Z p l e R s m args below meth c nL D b N k cells slots Q (pc + 3) (lv.set i (some (.int (nI (x + 1))))) st) : Z p l e R s m args below meth c nL D b N k cells slots Q pc lv st := z_iinc X d hl (nI_1 x) hn hf kk
theorem z_iincD (X : zX p s m args meth c cc nL own ret Ts D tys b) {i x : Nat} (d : decode cc pc = .ok (.iinc i (-1), 3)) (hl : lv[i]? = some (some (.int (nI (x + 1))))) (hn : i < nL) (hf : zfr lv i = true) (kk : Z p l e R s m args below meth c nL D b N k cells slots Q (pc + 3) (lv.set i (some (.int (nI x)))) st) : Z p l e R s m args below meth c nL D b N k cells slots Q pc lv st := z_iinc X d hl (pk_m1 x) hn hf kk
theorem z_icmp_eqN (X : zX p s m args meth c cc nL own ret Ts D tys b) {x y : Nat} {off : Int} {tgt : Nat} (d : decode cc pc = .ok (.if_icmp .eq off, 3)) (ht : (pc : Int) + off = (tgt : Int)) (hx : x < 2 ^ 31) (hy : y < 2 ^ 31) (kt : x = y → Z p l e R s m args below meth c nL D b N k cells slots Q tgt lv st) (kf : x ≠ y → Z p l e R s m args below meth c nL D b N k cells slots Q (pc + 3) lv st) : Z p l e R s m args below meth c nL D b N k cells slots Q pc lv (.int (nI y) :: .int (nI x) :: st) :=
  z_icmp_eq X d ht (fun q => kt ((nI_eq hx hy).mp q)) (fun q => kf (fun e => q (by rw [e])))
theorem z_if_eqN (X : zX p s m args meth c cc nL own ret Ts D tys b) {x : Nat} {off : Int} {tgt : Nat} (d : decode cc pc = .ok (.ifCond .eq off, 3)) (ht : (pc : Int) + off = (tgt : Int)) (hx : x < 2 ^ 31) (kt : x = 0 → Z p l e R s m args below meth c nL D b N k cells slots Q tgt lv st) (kf : x ≠ 0 → Z p l e R s m args below meth c nL D b N k cells slots Q (pc + 3) lv st) : Z p l e R s m args below meth c nL D b N k cells slots Q pc lv (.int (nI x) :: st) :=
  z_if_eq X d ht (fun q => kt ((nI_eq hx (show 0 < 2 ^ 31 by omega)).mp (q.trans nI_0.symm))) (fun q => kf (fun e => q (by rw [e]; exact nI_0)))
theorem z_icmp_ltN (X : zX p s m args meth c cc nL own ret Ts D tys b) {x y : Nat} {off : Int} {tgt : Nat} (d : decode cc pc = .ok (.if_icmp .lt off, 3)) (ht : (pc : Int) + off = (tgt : Int)) (hx : x < 2 ^ 31) (hy : y < 2 ^ 31) (kt : x < y → Z p l e R s m args below meth c nL D b N k cells slots Q tgt lv st) (kf : y ≤ x → Z p l e R s m args below meth c nL D b N k cells slots Q (pc + 3) lv st) : Z p l e R s m args below meth c nL D b N k cells slots Q pc lv (.int (nI y) :: .int (nI x) :: st) :=
  z_icmp_lt X d ht (fun q => kt ((nI_ltI hx hy).mp q)) (fun q => kf (Nat.not_lt.mp (fun e => q ((nI_ltI hx hy).mpr e))))
theorem z_if_ltN (X : zX p s m args meth c cc nL own ret Ts D tys b) {x : Nat} {off : Int} {tgt : Nat} (d : decode cc pc = .ok (.ifCond .lt off, 3)) (ht : (pc : Int) + off = (tgt : Int)) (hx : x < 2 ^ 31) (kt : x < 0 → Z p l e R s m args below meth c nL D b N k cells slots Q tgt lv st) (kf : 0 ≤ x → Z p l e R s m args below meth c nL D b N k cells slots Q (pc + 3) lv st) : Z p l e R s m args below meth c nL D b N k cells slots Q pc lv (.int (nI x) :: st) :=
  z_if_lt X d ht (fun q => kt ((nI_ltI hx (show 0 < 2 ^ 31 by omega)).mp (by rw [nI_0]; exact q))) (fun q => kf (Nat.not_lt.mp (fun e => q (by have := (nI_ltI hx (show 0 < 2 ^ 31 by omega)).mpr e; rw [nI_0] at this; exact this))))
theorem z_icmp_leN (X : zX p s m args meth c cc nL own ret Ts D tys b) {x y : Nat} {off : Int} {tgt : Nat} (d : decode cc pc = .ok (.if_icmp .le off, 3)) (ht : (pc : Int) + off = (tgt : Int)) (hx : x < 2 ^ 31) (hy : y < 2 ^ 31) (kt : x ≤ y → Z p l e R s m args below meth c nL D b N k cells slots Q tgt lv st) (kf : y < x → Z p l e R s m args below meth c nL D b N k cells slots Q (pc + 3) lv st) : Z p l e R s m args below meth c nL D b N k cells slots Q pc lv (.int (nI y) :: .int (nI x) :: st) :=
  z_icmp_le X d ht (fun q => kt ((nI_leI hx hy).mp q)) (fun q => kf (Nat.not_le.mp (fun e => q ((nI_leI hx hy).mpr e))))
theorem z_if_leN (X : zX p s m args meth c cc nL own ret Ts D tys b) {x : Nat} {off : Int} {tgt : Nat} (d : decode cc pc = .ok (.ifCond .le off, 3)) (ht : (pc : Int) + off = (tgt : Int)) (hx : x < 2 ^ 31) (kt : x ≤ 0 → Z p l e R s m args below meth c nL D b N k cells slots Q tgt lv st) (kf : 0 < x → Z p l e R s m args below meth c nL D b N k cells slots Q (pc + 3) lv st) : Z p l e R s m args below meth c nL D b N k cells slots Q pc lv (.int (nI x) :: st) :=
  z_if_le X d ht (fun q => kt ((nI_leI hx (show 0 < 2 ^ 31 by omega)).mp (by rw [nI_0]; exact q))) (fun q => kf (Nat.not_le.mp (fun e => q (by have := (nI_leI hx (show 0 < 2 ^ 31 by omega)).mpr e; rw [nI_0] at this; exact this))))
theorem z_icmp_geN (X : zX p s m args meth c cc nL own ret Ts D tys b) {x y : Nat} {off : Int} {tgt : Nat} (d : decode cc pc = .ok (.if_icmp .ge off, 3)) (ht : (pc : Int) + off = (tgt : Int)) (hx : x < 2 ^ 31) (hy : y < 2 ^ 31) (kt : y ≤ x → Z p l e R s m args below meth c nL D b N k cells slots Q tgt lv st) (kf : x < y → Z p l e R s m args below meth c nL D b N k cells slots Q (pc + 3) lv st) : Z p l e R s m args below meth c nL D b N k cells slots Q pc lv (.int (nI y) :: .int (nI x) :: st) :=
  z_icmp_ge X d ht (fun q => kt ((nI_leI hy hx).mp q)) (fun q => kf (Nat.not_le.mp (fun e => q ((nI_leI hy hx).mpr e))))
theorem z_if_geN (X : zX p s m args meth c cc nL own ret Ts D tys b) {x : Nat} {off : Int} {tgt : Nat} (d : decode cc pc = .ok (.ifCond .ge off, 3)) (ht : (pc : Int) + off = (tgt : Int)) (hx : x < 2 ^ 31) (kt : 0 ≤ x → Z p l e R s m args below meth c nL D b N k cells slots Q tgt lv st) (kf : x < 0 → Z p l e R s m args below meth c nL D b N k cells slots Q (pc + 3) lv st) : Z p l e R s m args below meth c nL D b N k cells slots Q pc lv (.int (nI x) :: st) :=
  z_if_ge X d ht (fun q => kt ((nI_leI (show 0 < 2 ^ 31 by omega) hx).mp (by rw [nI_0]; exact q))) (fun q => kf (Nat.not_le.mp (fun e => q (by have := (nI_leI (show 0 < 2 ^ 31 by omega) hx).mpr e; rw [nI_0] at this; exact this))))
theorem z_icmp_gtN (X : zX p s m args meth c cc nL own ret Ts D tys b) {x y : Nat} {off : Int} {tgt : Nat} (d : decode cc pc = .ok (.if_icmp .gt off, 3)) (ht : (pc : Int) + off = (tgt : Int)) (hx : x < 2 ^ 31) (hy : y < 2 ^ 31) (kt : y < x → Z p l e R s m args below meth c nL D b N k cells slots Q tgt lv st) (kf : x ≤ y → Z p l e R s m args below meth c nL D b N k cells slots Q (pc + 3) lv st) : Z p l e R s m args below meth c nL D b N k cells slots Q pc lv (.int (nI y) :: .int (nI x) :: st) :=
  z_icmp_gt X d ht (fun q => kt ((nI_ltI hy hx).mp q)) (fun q => kf (Nat.not_lt.mp (fun e => q ((nI_ltI hy hx).mpr e))))
theorem z_if_gtN (X : zX p s m args meth c cc nL own ret Ts D tys b) {x : Nat} {off : Int} {tgt : Nat} (d : decode cc pc = .ok (.ifCond .gt off, 3)) (ht : (pc : Int) + off = (tgt : Int)) (hx : x < 2 ^ 31) (kt : 0 < x → Z p l e R s m args below meth c nL D b N k cells slots Q tgt lv st) (kf : x ≤ 0 → Z p l e R s m args below meth c nL D b N k cells slots Q (pc + 3) lv st) : Z p l e R s m args below meth c nL D b N k cells slots Q pc lv (.int (nI x) :: st) :=
  z_if_gt X d ht (fun q => kt ((nI_ltI (show 0 < 2 ^ 31 by omega) hx).mp (by rw [nI_0]; exact q))) (fun q => kf (Nat.not_lt.mp (fun e => q (by have := (nI_ltI (show 0 < 2 ^ 31 by omega) hx).mpr e; rw [nI_0] at this; exact this))))
theorem z_icmp_neN (X : zX p s m args meth c cc nL own ret Ts D tys b) {x y : Nat} {off : Int} {tgt : Nat} (d : decode cc pc = .ok (.if_icmp .ne off, 3)) (ht : (pc : Int) + off = (tgt : Int)) (hx : x < 2 ^ 31) (hy : y < 2 ^ 31) (kt : x ≠ y → Z p l e R s m args below meth c nL D b N k cells slots Q tgt lv st) (kf : x = y → Z p l e R s m args below meth c nL D b N k cells slots Q (pc + 3) lv st) : Z p l e R s m args below meth c nL D b N k cells slots Q pc lv (.int (nI y) :: .int (nI x) :: st) :=
  z_icmp_ne X d ht (fun q => kt (fun e => q (by rw [e]))) (fun q => kf ((nI_eq hx hy).mp q))
theorem z_if_neN (X : zX p s m args meth c cc nL own ret Ts D tys b) {x : Nat} {off : Int} {tgt : Nat} (d : decode cc pc = .ok (.ifCond .ne off, 3)) (ht : (pc : Int) + off = (tgt : Int)) (hx : x < 2 ^ 31) (kt : x ≠ 0 → Z p l e R s m args below meth c nL D b N k cells slots Q tgt lv st) (kf : x = 0 → Z p l e R s m args below meth c nL D b N k cells slots Q (pc + 3) lv st) : Z p l e R s m args below meth c nL D b N k cells slots Q pc lv (.int (nI x) :: st) :=
  z_if_ne X d ht (fun q => kt (fun e => q (by rw [e]; exact nI_0))) (fun q => kf ((nI_eq hx (show 0 < 2 ^ 31 by omega)).mp (q.trans nI_0.symm)))
/-- counting up to e: what holds at the head, a step, the end -/
theorem z_loop {σ : Type} (K : Nat → σ → Nat → va_E) (LV : Nat → σ → List (Option Value)) (I : Nat → σ → Prop) (e2 i0 : Nat) (s0 : σ) (h0 : i0 ≤ e2) (hi : I i0 s0) (hk : k = K i0 s0) (hlv : lv = LV i0 s0) (hx : ∀ s1, I e2 s1 → Z p l e R s m args below meth c nL D b N (K e2 s1) cells slots Q pc (LV e2 s1) st) (hs : ∀ i s1, i < e2 → I i s1 → (∀ s2, I (i + 1) s2 → Z p l e R s m args below meth c nL D b N (K (i + 1) s2) cells slots Q pc (LV (i + 1) s2) st) → Z p l e R s m args below meth c nL D b N (K i s1) cells slots Q pc (LV i s1) st) : Z p l e R s m args below meth c nL D b N k cells slots Q pc lv st := by
  subst hk
  subst hlv
  exact z_up (P := fun i => ∀ s1, I i s1 → Z p l e R s m args below meth c nL D b N (K i s1) cells slots Q pc (LV i s1) st) e2 hx (fun i hi ih s1 h1 => hs i s1 hi h1 ih) i0 h0 s0 hi
/-- counting down to 0 -/
theorem z_loopD {σ : Type} (K : Nat → σ → Nat → va_E) (LV : Nat → σ → List (Option Value)) (I : Nat → σ → Prop) (i0 : Nat) (s0 : σ) (hi : I i0 s0) (hk : k = K i0 s0) (hlv : lv = LV i0 s0) (hx : ∀ s1, I 0 s1 → Z p l e R s m args below meth c nL D b N (K 0 s1) cells slots Q pc (LV 0 s1) st) (hs : ∀ i s1, I (i + 1) s1 → (∀ s2, I i s2 → Z p l e R s m args below meth c nL D b N (K i s2) cells slots Q pc (LV i s2) st) → Z p l e R s m args below meth c nL D b N (K (i + 1) s1) cells slots Q pc (LV (i + 1) s1) st) : Z p l e R s m args below meth c nL D b N k cells slots Q pc lv st := by
  subst hk
  subst hlv
  exact z_dn (P := fun i => ∀ s1, I i s1 → Z p l e R s m args below meth c nL D b N (K i s1) cells slots Q pc (LV i s1) st) hx (fun i ih s1 h1 => hs i s1 h1 ih) i0 s0 hi
/-- arrive at a state that is the same up to rewriting -/
theorem z_at {k2 : Nat → va_E} {lv2 : List (Option Value)} (kk : Z p l e R s m args below meth c nL D b N k2 cells slots Q pc lv2 st) (hk : k = k2) (hlv : lv = lv2) : Z p l e R s m args below meth c nL D b N k cells slots Q pc lv st := by
  subst hk
  subst hlv
  exact kk
end ZR
/-- a contract out of a walk from its entry -/
theorem z_met {l : Launch} {y : MethodName} {ws ws2 : List Cond} {rm : Room} {D : va_G} {tys : List (ClassId × FieldType)} {b N : Nat} {k : Nat → va_E} {av : List Value} {Qc : Array Value → State → Outcome → State → Prop} {mc ms : Nat} {cc : ByteArray} {maxL : Nat} {ret : Option FieldType} {own : String} (hy : plainName y.cls = true) (hyc : y.cls = own) (hw : ws = Cond.code y cc maxL ret :: ws2) (hlen : (lg_sl av).length ≤ maxL) (lv : List (Option Value)) (hl : zp 0 lv = lv_args 0 av)
    (body : ∀ (p : Program) (e : Env) (s : State) (m : MethodId) (args : Array Value) (below : List Frame) (meth : Method) (c : Code), zX p s m args meth c cc maxL own ret ws D tys b → meth.name = y.name → Z p l e (headSpec ws rm).room s m args below meth c maxL D b N k 0 0 (MQ below Qc args s mc ms (zA b)) 0 lv []) : Met l y ws rm (zPc D tys b N k av) Qc mc ms (zA b) := by
  refine Met.ofW (cc := cc) (maxL := maxL) (ret := ret) hy hw ?_
  intro p e s m args below meth c s₁ B hml hv
  obtain ⟨rfl, hsz, hP, hK, hN⟩ := hv
  have hts := atoms_spec (ws := ws) B.pre
  have hown : s.vm.findClass own = some m.cls := hyc ▸ findClass_of_methodNamed B.named
  have h4 := lv_entry av (n := maxL) hlen
  rw [lg_entry_eq]
  generalize (lg_sl av ++ List.replicate (maxL - (lg_sl av).length) Slot.unset).toArray = ls at h4 ⊢
  rw [← hl] at h4
  exact body p e s m _ below meth c ⟨⟨B.exec, B.bytes, hml, hown, hts⟩, hK, B.returns, B.notSynchronized, by omega, hN⟩ (name_of_methodNamed B.named B.method).1 s.heap [] ls hsz hP va_S.rf h4
end
section
/-! Pure: counting, ranks, picks -/
def ct (P : Nat → Bool) : Nat → Nat
  | 0 => 0
  | n + 1 => ct P n + (if P n = true then 1 else 0)
theorem ct_le (P : Nat → Bool) : ∀ n, ct P n ≤ n
  | 0 => Nat.le_refl _
  | n + 1 => by
    have := ct_le P n
    simp only [ct]
    split <;> omega
theorem ct_congr {P Q : Nat → Bool} : ∀ n, (∀ v, v < n → P v = Q v) → ct P n = ct Q n
  | 0, _ => rfl
  | n + 1, h => by
    simp only [ct]
    rw [ct_congr n (fun v hv => h v (by omega)), h n (by omega)]
theorem ct_mono {P Q : Nat → Bool} : ∀ n, (∀ v, v < n → P v = true → Q v = true) → ct P n ≤ ct Q n
  | 0, _ => Nat.le_refl _
  | n + 1, h => by
    have h1 := ct_mono n (fun v hv => h v (by omega))
    have h2 := h n (by omega)
    simp only [ct]
    by_cases hP : P n = true
    · simp [hP, h2 hP]; omega
    · simp [hP]; omega
theorem ct_lt {P Q : Nat → Bool} {x : Nat} : ∀ n, (∀ v, v < n → P v = true → Q v = true) → x < n → P x = false → Q x = true → ct P n < ct Q n
  | 0, _, hx, _, _ => by omega
  | n + 1, h, hx, hp, hq => by
    have h1 := ct_mono n (fun v hv => h v (by omega))
    simp only [ct]
    by_cases hxn : x = n
    · subst hxn
      simp [hp, hq]; omega
    · have h3 := ct_lt n (fun v hv => h v (by omega)) (by omega) hp hq
      have h2 := h n (by omega)
      by_cases hP : P n = true
      · simp [hP, h2 hP]; omega
      · simp [hP]; omega
theorem ct_add {P Q : Nat → Bool} {x : Nat} : ∀ n, (∀ v, v < n → v ≠ x → Q v = P v) → x < n → P x = false → Q x = true → ct Q n = ct P n + 1
  | 0, _, hx, _, _ => by omega
  | n + 1, h, hx, hp, hq => by
    simp only [ct]
    by_cases hxn : x = n
    · subst hxn
      rw [ct_congr x (fun v hv => h v (by omega) (by omega))]
      simp [hp, hq]
    · rw [ct_add n (fun v hv => h v (by omega)) (by omega) hp hq, h n (by omega) (Ne.symm hxn)]
      omega
theorem ct_all {P : Nat → Bool} : ∀ n, (∀ v, v < n → P v = true) → ct P n = n
  | 0, _ => rfl
  | n + 1, h => by
    simp only [ct]
    rw [ct_all n (fun v hv => h v (by omega)), h n (by omega)]
    simp
theorem ct_0 {P : Nat → Bool} : ∀ n, (∀ v, v < n → P v = false) → ct P n = 0
  | 0, _ => rfl
  | n + 1, h => by
    simp only [ct]
    rw [ct_0 n (fun v hv => h v (by omega)), h n (by omega)]
    simp
/-- v stands before x -/
def pb (f : Nat → Int32) (x v : Nat) : Bool := decide (f x < f v) || (decide (f v = f x) && decide (v < x))
theorem pb_iff {f : Nat → Int32} {x v : Nat} : pb f x v = true ↔ (f x).toInt < (f v).toInt ∨ ((f v).toInt = (f x).toInt ∧ v < x) := by
  simp only [pb, Bool.or_eq_true, Bool.and_eq_true, decide_eq_true_eq, Int32.lt_iff_toInt_lt, ← Int32.toInt_inj]
def rank (f : Nat → Int32) (x : Nat) : Nat := ct (pb f x) 32
def cn (f : Nat → Int32) : Nat := ct (fun v => decide (0 < f v)) 32
theorem rank_lt (f : Nat → Int32) {x y : Nat} (hx : x < 32) (h : pb f y x = true) : rank f x < rank f y := by
  refine ct_lt (x := x) 32 (fun v hv hp => ?_) hx ?_ h
  · have h1 := pb_iff.mp h
    have h2 := pb_iff.mp hp
    exact pb_iff.mpr (by omega)
  · cases hq : pb f x x with
    | false => rfl
    | true => have := pb_iff.mp hq; omega
theorem rank_inj (f : Nat → Int32) {x y : Nat} (hx : x < 32) (hy : y < 32) (h : rank f x = rank f y) : x = y := by
  by_cases h1 : pb f y x = true
  · have := rank_lt f hx h1; omega
  · by_cases h2 : pb f x y = true
    · have := rank_lt f hy h2; omega
    · rw [pb_iff] at h1 h2; omega
theorem rank_32 (f : Nat → Int32) {x : Nat} (hx : x < 32) : rank f x < 32 := by
  have h1 : ct (pb f x) 32 < ct (fun _ => true) 32 := by
    refine ct_lt (x := x) 32 (fun _ _ _ => rfl) hx ?_ rfl
    cases hq : pb f x x with
    | false => rfl
    | true => have := pb_iff.mp hq; omega
  have h2 := ct_all (P := fun _ => true) 32 (fun _ _ => rfl)
  unfold rank
  omega
/-- the first of the greatest that aren't used -/
def gu (u : Nat → Bool) (f : Nat → Int32) : Nat → Option Nat
  | 0 => none
  | v + 1 => match gu u f v with
    | none => if u v = true then none else some v
    | some x => if u v = false ∧ f x < f v then some v else some x
theorem gu_spec (u : Nat → Bool) (f : Nat → Int32) : ∀ n, (gu u f n = none → ∀ v, v < n → u v = true) ∧ ∀ x, gu u f n = some x → x < n ∧ u x = false ∧ ∀ v, v < n → u v = false → v ≠ x → pb f v x = true
  | 0 => ⟨fun _ v hv => by omega, fun x h => by simp [gu] at h⟩
  | n + 1 => by
    obtain ⟨h1, h2⟩ := gu_spec u f n
    cases hg : gu u f n with
    | none =>
      have h1 := h1 hg
      cases hu : u n with
      | true =>
        have e : gu u f (n + 1) = none := by simp [gu, hg, hu]
        rw [e]
        refine ⟨fun _ v hv => ?_, fun x h => (by cases h)⟩
        by_cases hvn : v = n
        · subst hvn; exact hu
        · exact h1 v (by omega)
      | false =>
        have e : gu u f (n + 1) = some n := by simp [gu, hg, hu]
        rw [e]
        refine ⟨fun h => (by cases h), fun x h => ?_⟩
        cases h
        refine ⟨by omega, hu, fun v hv hv1 hne => ?_⟩
        have := h1 v (by omega)
        rw [this] at hv1
        cases hv1
    | some x =>
      obtain ⟨a1, a2, a3⟩ := h2 x hg
      by_cases hc : u n = false ∧ f x < f n
      · have e : gu u f (n + 1) = some n := by simp [gu, hg, hc]
        rw [e]
        refine ⟨fun h => (by cases h), fun y h => ?_⟩
        cases h
        have hlt := Int32.lt_iff_toInt_lt.mp hc.2
        refine ⟨by omega, hc.1, fun v hv hv1 hne => ?_⟩
        by_cases hvx : v = x
        · subst hvx
          exact pb_iff.mpr (by omega)
        · have := pb_iff.mp (a3 v (by omega) hv1 hvx)
          exact pb_iff.mpr (by omega)
      · have e : gu u f (n + 1) = some x := by simp [gu, hg, hc]
        rw [e]
        refine ⟨fun h => (by cases h), fun y h => ?_⟩
        cases h
        refine ⟨by omega, a2, fun v hv hv1 hne => ?_⟩
        by_cases hvn : v = n
        · subst hvn
          have hlt : ¬ f x < f v := fun q => hc ⟨hv1, q⟩
          rw [Int32.lt_iff_toInt_lt] at hlt
          exact pb_iff.mpr (by omega)
        · exact a3 v (by omega) hv1 hne
/-- what is used after q picks -/
def pu (f : Nat → Int32) : Nat → Nat → Bool
  | 0 => fun _ => false
  | q + 1 => fun v => pu f q v || decide (gu (pu f q) f 32 = some v)
theorem pu_inv (f : Nat → Int32) : ∀ q, q ≤ 32 → ct (pu f q) 32 = q ∧ ∀ u v, u < 32 → v < 32 → pu f q u = true → pu f q v = false → pb f v u = true
  | 0, _ => ⟨ct_0 32 (fun _ _ => rfl), fun u v _ _ h _ => by simp [pu] at h⟩
  | q + 1, hq => by
    obtain ⟨h1, h2⟩ := pu_inv f q (by omega)
    obtain ⟨g1, g2⟩ := gu_spec (pu f q) f 32
    cases hg : gu (pu f q) f 32 with
    | none =>
      have := ct_all 32 (g1 hg)
      omega
    | some x =>
      obtain ⟨a1, a2, a3⟩ := g2 x hg
      have e : ∀ v, pu f (q + 1) v = (pu f q v || decide (v = x)) := by
        intro v
        simp only [pu, hg, Option.some.injEq]
        by_cases hv : v = x
        · simp [hv]
        · simp [hv, Ne.symm hv]
      refine ⟨?_, fun u v hu hv p1 p2 => ?_⟩
      · rw [ct_add (P := pu f q) (Q := pu f (q + 1)) (x := x) 32 (fun v _ hne => by rw [e]; simp [hne]) a1 a2 (by rw [e]; simp), h1]
      · rw [e] at p1 p2
        have q2 : pu f q v = false ∧ v ≠ x := by simpa using p2
        have q1 : pu f q u = true ∨ u = x := by simpa using p1
        rcases q1 with q1 | q1
        · exact h2 u v hu hv q1 q2.1
        · subst q1
          exact a3 v hv q2.1 q2.2
theorem pick (f : Nat → Int32) {q : Nat} (hq : q < 32) : ∃ x, gu (pu f q) f 32 = some x ∧ x < 32 ∧ rank f x = q ∧ pu f q x = false := by
  obtain ⟨h1, h2⟩ := pu_inv f q (by omega)
  obtain ⟨g1, g2⟩ := gu_spec (pu f q) f 32
  cases hg : gu (pu f q) f 32 with
  | none =>
    have := ct_all 32 (g1 hg)
    omega
  | some x =>
    obtain ⟨a1, a2, a3⟩ := g2 x hg
    refine ⟨x, rfl, a1, ?_, a2⟩
    rw [← h1]
    refine ct_congr 32 (fun v hv => ?_)
    cases hu : pu f q v with
    | true => exact h2 v x hv a1 hu a2
    | false =>
      cases hb : pb f x v with
      | false => rfl
      | true =>
        have e1 := pb_iff.mp hb
        by_cases hvx : v = x
        · subst hvx; omega
        · have e2 := pb_iff.mp (a3 v hv hu hvx)
          omega
theorem pick_pos (f : Nat → Int32) {x q : Nat} (hx : x < 32) (hr : rank f x = q) : q < cn f ↔ 0 < f x := by
  constructor
  · intro h
    by_cases hp : 0 < f x
    · exact hp
    · exfalso
      have h1 : cn f ≤ rank f x := by
        refine ct_mono 32 (fun v hv hv1 => ?_)
        have e1 : 0 < f v := by simpa using hv1
        rw [Int32.lt_iff_toInt_lt] at e1 hp
        exact pb_iff.mpr (by omega)
      omega
  · intro hp
    have h1 : rank f x < cn f := by
      refine ct_lt (x := x) 32 (fun v hv hv1 => ?_) hx ?_ (by simpa using hp)
      · have e1 := pb_iff.mp hv1
        have e2 := hp
        rw [Int32.lt_iff_toInt_lt] at e2
        have e3 : (0 : Int32) < f v := by rw [Int32.lt_iff_toInt_lt]; omega
        simpa using e3
      · cases hb : pb f x x with
        | false => rfl
        | true => have := pb_iff.mp hb; omega
    omega
/-- the first value with a counter and that rank, from 32 - n on -/
def vr (f : Nat → Int32) (r : Int32) : Nat → Int32
  | 0 => -1
  | n + 1 => if 0 < f (31 - n) ∧ nI (rank f (31 - n)) = r then nI (31 - n) else vr f r n
theorem vr_pick (f : Nat → Int32) {x q : Nat} (hq : q < 32) (hx : x < 32) (hr : rank f x = q) : ∀ n, n ≤ 32 → vr f (nI q) n = if 32 - n ≤ x ∧ 0 < f x then nI x else -1
  | 0, _ => by rw [if_neg (by omega)]; rfl
  | n + 1, hn => by
    have ih := vr_pick f hq hx hr n (by omega)
    have hv : 31 - n < 32 := by omega
    have hk : nI (rank f (31 - n)) = nI q ↔ 31 - n = x := by
      rw [nI_eq (by have := rank_32 f hv; omega) (by omega)]
      constructor
      · intro h
        exact rank_inj f hv hx (h.trans hr.symm)
      · intro h
        rw [h]; exact hr
    simp only [vr, hk]
    by_cases hc : 31 - n = x
    · subst hc
      by_cases hp : 0 < f (31 - n)
      · rw [if_pos ⟨hp, rfl⟩, if_pos ⟨by omega, hp⟩]
      · rw [if_neg (fun h => hp h.1), ih, if_neg (fun h => hp h.2), if_neg (fun h => hp h.2)]
    · rw [if_neg (fun h => hc h.2), ih]
      by_cases hp : 0 < f x
      · by_cases hlt : 32 - n ≤ x
        · rw [if_pos ⟨hlt, hp⟩, if_pos ⟨by omega, hp⟩]
        · rw [if_neg (fun h => hlt h.1), if_neg (fun h => hlt (by omega))]
      · rw [if_neg (fun h => hp h.2), if_neg (fun h => hp h.2)]
theorem vr_none (f : Nat → Int32) {r : Int32} (h : ∀ v, v < 32 → nI (rank f v) ≠ r) : ∀ n, n ≤ 32 → vr f r n = -1
  | 0, _ => rfl
  | n + 1, hn => by
    simp only [vr]
    rw [if_neg (fun q => h (31 - n) (by omega) q.2)]
    exact vr_none f h n (by omega)
theorem vr_neg (f : Nat → Int32) {q : Nat} (hq : q < 32) : vr f (nI q) 32 < 0 ↔ cn f ≤ q := by
  obtain ⟨x, -, hx, hr, -⟩ := pick f hq
  rw [vr_pick f hq hx hr 32 (Nat.le_refl _)]
  have hp := pick_pos f hx hr
  by_cases h : 0 < f x
  · rw [if_pos ⟨by omega, h⟩]
    have h1 := hp.mpr h
    have h2 := nI_pos (n := x) (by omega)
    constructor
    · intro q; exact absurd q h2
    · intro q; omega
  · rw [if_neg (fun q => h q.2)]
    have h1 : ¬ q < cn f := fun q => h (hp.mp q)
    constructor
    · intro _; omega
    · intro _; decide
end
section
/-! Pure: the digest and its passes -/
def sm (h : Nat → Nat) : Nat → Nat
  | 0 => 0
  | n + 1 => sm h n + h n
theorem sm_congr {h g : Nat → Nat} : ∀ n, (∀ r, r < n → h r = g r) → sm h n = sm g n
  | 0, _ => rfl
  | n + 1, hh => by
    simp only [sm]
    rw [sm_congr n (fun r hr => hh r (by omega)), hh n (by omega)]
theorem sm_up {h : Nat → Nat} {i x : Nat} : ∀ n, i < n → sm (va_up h i x) n + h i = sm h n + x
  | 0, hi => by omega
  | n + 1, hi => by
    simp only [sm]
    by_cases hin : i = n
    · subst hin
      rw [sm_congr (h := va_up h i x) (g := h) i (fun r hr => by simp [va_up, Nat.ne_of_lt hr])]
      simp [va_up]
      omega
    · have ih := sm_up (h := h) (i := i) (x := x) n (by omega)
      have e : va_up h i x n = h n := by simp [va_up, Ne.symm hin]
      rw [e]
      omega
theorem sm_le {h : Nat → Nat} {i : Nat} : ∀ n, i < n → h i ≤ sm h n
  | 0, hi => by omega
  | n + 1, hi => by
    simp only [sm]
    by_cases hin : i = n
    · subst hin; omega
    · have := sm_le (h := h) (i := i) n (by omega); omega
theorem sm_mono {h g : Nat → Nat} : ∀ n, (∀ r, r < n → h r ≤ g r) → sm h n ≤ sm g n
  | 0, _ => Nat.le_refl _
  | n + 1, hh => by
    simp only [sm]
    have := sm_mono n (fun r hr => hh r (by omega))
    have := hh n (by omega)
    omega
theorem sm_add {h g : Nat → Nat} : ∀ n, sm (fun r => h r + g r) n = sm h n + sm g n
  | 0 => rfl
  | n + 1 => by
    simp only [sm]
    rw [sm_add n]
    omega
theorem sm_0 {h : Nat → Nat} : ∀ n, (∀ r, r < n → h r = 0) → sm h n = 0
  | 0, _ => rfl
  | n + 1, hh => by
    simp only [sm]
    rw [sm_0 n (fun r hr => hh r (by omega)), hh n (by omega)]
/-- one range of a pass -/
def bl (g : Nat → Int32) (r : Nat) : Int32 := g (2 * r) + g (2 * r + 1)
def pok (t : Int32) (g : Nat → Int32) (r : Nat) : Bool := decide (0 < bl g r) && decide (g r + bl g r ≤ t)
def pst (g : Nat → Int32) (r : Nat) : Nat → Int32 := upd (upd (upd g r (g r + bl g r)) (2 * r) 0) (2 * r + 1) 0
/-- the ranges r, r - 1, .., 1 -/
def ps (t : Int32) : Nat → (Nat → Int32) → Bool → (Nat → Int32) × Bool
  | 0, g, ch => (g, ch)
  | r + 1, g, ch => if pok t g (r + 1) = true then ps t r (pst g (r + 1)) true else ps t r g ch
/-- passes, at most n -/
def cpr (t : Int32) : Nat → (Nat → Int32) → Nat → Int32
  | 0, g => g
  | n + 1, g => if (ps t 31 g false).2 = true then cpr t n (ps t 31 g false).1 else (ps t 31 g false).1
/-- no count is negative, and their sum is n -/
def dok (g : Nat → Int32) (h : Nat → Nat) (n : Nat) : Prop := (∀ r, r < 64 → g r = nI (h r)) ∧ sm h 64 = n
def wt (h : Nat → Nat) (r : Nat) : Nat := if h r = 0 then 0 else Nat.log2 r
def mu (h : Nat → Nat) : Nat := sm (wt h) 64
theorem log2_half : ∀ r, r < 32 → 1 ≤ r → Nat.log2 (2 * r) = Nat.log2 r + 1 ∧ Nat.log2 (2 * r + 1) = Nat.log2 r + 1 := by decide +kernel
def psth (h : Nat → Nat) (r : Nat) : Nat → Nat := va_up (va_up (va_up h r (h r + (h (2 * r) + h (2 * r + 1)))) (2 * r) 0) (2 * r + 1) 0
theorem pst_dok {g : Nat → Int32} {h : Nat → Nat} {n r : Nat} (hd : dok g h n) (hn : n < 2 ^ 29) (h1 : 1 ≤ r) (h2 : r < 32) (hb : 0 < bl g r) : dok (pst g r) (psth h r) n ∧ mu (psth h r) < mu h := by
  obtain ⟨hg, hs⟩ := hd
  have e0 := hg r (by omega)
  have e1 := hg (2 * r) (by omega)
  have e2 := hg (2 * r + 1) (by omega)
  have ebl : bl g r = nI (h (2 * r) + h (2 * r + 1)) := by unfold bl; rw [e1, e2, nI_add]
  have l1 := sm_le (h := h) (i := 2 * r) 64 (by omega)
  have l2 := sm_le (h := h) (i := 2 * r + 1) 64 (by omega)
  have hpos : 0 < h (2 * r) + h (2 * r + 1) := by
    rw [ebl] at hb
    have h0 : nI 0 < nI (h (2 * r) + h (2 * r + 1)) := by rw [nI_0]; exact hb
    exact (nI_ltI (by omega) (by omega)).mp h0
  refine ⟨⟨fun q hq => ?_, ?_⟩, ?_⟩
  · simp only [pst, psth, upd, va_up]
    by_cases q1 : q = 2 * r + 1
    · simp [q1, nI_0]
    · by_cases q2 : q = 2 * r
      · simp [q2, nI_0]
      · by_cases q3 : q = r
        · simp [q1, q2, q3, e0, ebl, nI_add]
          have a1 : ¬ r = 2 * r + 1 := by omega
          have a2 : ¬ r = 2 * r := by omega
          simp [a1, a2]
        · simp [q1, q2, q3, hg q hq]
  · have a1 := sm_up (h := va_up (va_up h r (h r + (h (2 * r) + h (2 * r + 1)))) (2 * r) 0) (i := 2 * r + 1) (x := 0) 64 (by omega)
    have a2 := sm_up (h := va_up h r (h r + (h (2 * r) + h (2 * r + 1)))) (i := 2 * r) (x := 0) 64 (by omega)
    have a3 := sm_up (h := h) (i := r) (x := h r + (h (2 * r) + h (2 * r + 1))) 64 (by omega)
    have b1 : va_up (va_up h r (h r + (h (2 * r) + h (2 * r + 1)))) (2 * r) 0 (2 * r + 1) = h (2 * r + 1) := by
      have c1 : ¬ 2 * r + 1 = 2 * r := by omega
      have c2 : ¬ 2 * r + 1 = r := by omega
      simp [va_up, c1, c2]
    have b2 : va_up h r (h r + (h (2 * r) + h (2 * r + 1))) (2 * r) = h (2 * r) := by
      have c2 : ¬ 2 * r = r := by omega
      simp [va_up, c2]
    rw [b1] at a1
    rw [b2] at a2
    unfold psth
    omega
  · obtain ⟨g1, g2⟩ := log2_half r h2 h1
    have ew : ∀ q, q < 64 → wt (psth h r) q = va_up (va_up (va_up (wt h) r (Nat.log2 r)) (2 * r) 0) (2 * r + 1) 0 q := by
      intro q hq
      simp only [wt, psth, va_up]
      by_cases q1 : q = 2 * r + 1
      · simp [q1]
      · by_cases q2 : q = 2 * r
        · simp [q2]
        · by_cases q3 : q = r
          · have a1 : ¬ r = 2 * r + 1 := by omega
            have a2 : ¬ r = 2 * r := by omega
            have a3 : ¬ (h r + (h (2 * r) + h (2 * r + 1)) = 0) := by omega
            simp [q3, a1, a2]
            intro z1 z2 z3
            omega
          · simp [q1, q2, q3]
    have a1 := sm_up (h := va_up (va_up (wt h) r (Nat.log2 r)) (2 * r) 0) (i := 2 * r + 1) (x := 0) 64 (by omega)
    have a2 := sm_up (h := va_up (wt h) r (Nat.log2 r)) (i := 2 * r) (x := 0) 64 (by omega)
    have a3 := sm_up (h := wt h) (i := r) (x := Nat.log2 r) 64 (by omega)
    have b1 : va_up (va_up (wt h) r (Nat.log2 r)) (2 * r) 0 (2 * r + 1) = wt h (2 * r + 1) := by
      have c1 : ¬ 2 * r + 1 = 2 * r := by omega
      have c2 : ¬ 2 * r + 1 = r := by omega
      simp [va_up, c1, c2]
    have b2 : va_up (wt h) r (Nat.log2 r) (2 * r) = wt h (2 * r) := by
      have c2 : ¬ 2 * r = r := by omega
      simp [va_up, c2]
    rw [b1] at a1
    rw [b2] at a2
    have hw : Nat.log2 r + 1 ≤ wt h (2 * r) + wt h (2 * r + 1) := by
      unfold wt
      by_cases z1 : h (2 * r) = 0
      · have z2 : ¬ h (2 * r + 1) = 0 := by omega
        simp [z1, z2, g2]
      · simp [z1, g1]
    unfold mu
    rw [sm_congr 64 ew]
    omega
theorem ps_dok {t : Int32} {n : Nat} (hn : n < 2 ^ 29) : ∀ (r : Nat) (g : Nat → Int32) (h : Nat → Nat) (ch : Bool), r < 32 → dok g h n → ∃ h2, dok (ps t r g ch).1 h2 n ∧ mu h2 ≤ mu h ∧ ((ps t r g ch).2 = true → ch = true ∨ mu h2 < mu h)
  | 0, g, h, ch, _, hd => ⟨h, hd, Nat.le_refl _, fun q => Or.inl q⟩
  | r + 1, g, h, ch, hr, hd => by
    simp only [ps]
    by_cases hp : pok t g (r + 1) = true
    · rw [if_pos hp]
      have hb : 0 < bl g (r + 1) := by
        simp only [pok, Bool.and_eq_true, decide_eq_true_eq] at hp
        exact hp.1
      obtain ⟨d1, d2⟩ := pst_dok hd hn (by omega) hr hb
      obtain ⟨h2, e1, e2, e3⟩ := ps_dok hn r (pst g (r + 1)) (psth h (r + 1)) true (by omega) d1
      exact ⟨h2, e1, by omega, fun _ => Or.inr (by omega)⟩
    · rw [if_neg hp]
      exact ps_dok hn r g h ch (by omega) hd
theorem ps_same {t : Int32} : ∀ (r : Nat) (g : Nat → Int32), (ps t r g true).2 = true
  | 0, g => rfl
  | r + 1, g => by
    simp only [ps]
    split
    · exact ps_same r _
    · exact ps_same r g
theorem cpr_stop {t : Int32} {n : Nat} (hn : n < 2 ^ 29) : ∀ (i j : Nat) (g : Nat → Int32) (h : Nat → Nat), dok g h n → mu h < i → mu h < j → cpr t i g = cpr t j g
  | 0, j, g, h, _, hi, _ => by omega
  | i + 1, 0, g, h, _, _, hj => by omega
  | i + 1, j + 1, g, h, hd, hi, hj => by
    simp only [cpr]
    by_cases hc : (ps t 31 g false).2 = true
    · rw [if_pos hc, if_pos hc]
      obtain ⟨h2, e1, e2, e3⟩ := ps_dok (t := t) hn 31 g h false (by omega) hd
      rcases e3 hc with e3 | e3
      · cases e3
      · exact cpr_stop hn i j _ h2 e1 (by omega) (by omega)
    · rw [if_neg hc, if_neg hc]
theorem mu_le (h : Nat → Nat) : mu h ≤ 258 := by
  have h1 : sm (wt h) 64 ≤ sm Nat.log2 64 := sm_mono 64 (fun r _ => by unfold wt; split <;> omega)
  have h2 : sm Nat.log2 64 = 258 := by decide +kernel
  unfold mu
  omega
theorem cpr_dok {t : Int32} {n : Nat} (hn : n < 2 ^ 29) : ∀ (i : Nat) (g : Nat → Int32) (h : Nat → Nat), dok g h n → ∃ h2, dok (cpr t i g) h2 n
  | 0, g, h, hd => ⟨h, hd⟩
  | i + 1, g, h, hd => by
    obtain ⟨h2, e1, e2, e3⟩ := ps_dok (t := t) hn 31 g h false (by omega) hd
    simp only [cpr]
    split
    · exact cpr_dok hn i _ h2 e1
    · exact ⟨h2, e1⟩
/-- 4096 passes or 4000: the same -/
theorem cpr_both {t : Int32} {n : Nat} {g : Nat → Int32} {h : Nat → Nat} (hn : n < 2 ^ 29) (hd : dok g h n) : cpr t 4096 g = cpr t 4000 g := by
  have := mu_le h
  exact cpr_stop hn 4096 4000 g h hd (by omega) (by omega)
end
section
/-! Pure: rows of arrays; a node's row (n, counters, digest) -/
/-- the first m places from w on are F's, the rest is C's -/
def pr (w m : Nat) (F C : Nat → Int32) : Nat → Int32 := fun q => if w ≤ q ∧ q < w + m then F (q - w) else C q
theorem pr_0 (w : Nat) (F C : Nat → Int32) : pr w 0 F C = C := by
  funext q
  unfold pr
  rw [if_neg (by omega)]
theorem pr_succ (w m : Nat) (F C : Nat → Int32) {x : Int32} (hx : x = F m) : upd (pr w m F C) (w + m) x = pr w (m + 1) F C := by
  subst hx
  funext q
  unfold pr upd
  by_cases h1 : q = w + m
  · subst h1
    rw [if_pos rfl, if_pos (by omega)]
    congr 1
    omega
  · rw [if_neg h1]
    show (if w ≤ q ∧ q < w + m then F (q - w) else C q) = _
    by_cases h2 : w ≤ q ∧ q < w + m
    · rw [if_pos h2, if_pos (by omega)]
    · rw [if_neg h2, if_neg (by omega)]
theorem pr_in {w m j : Nat} {F C : Nat → Int32} (h : j < m) : pr w m F C (w + j) = F j := by
  unfold pr
  rw [if_pos (by omega)]
  congr 1
  omega
theorem pr_out {w m q : Nat} {F C : Nat → Int32} (h : q < w ∨ w + m ≤ q) : pr w m F C q = C q := by
  unfold pr
  rw [if_neg (by omega)]
theorem pr_congr {w m : Nat} {F G C : Nat → Int32} (h : ∀ i, i < m → F i = G i) : pr w m F C = pr w m G C := by
  funext q
  unfold pr
  by_cases h2 : w ≤ q ∧ q < w + m
  · rw [if_pos h2, if_pos h2, h _ (by omega)]
  · rw [if_neg h2, if_neg h2]
theorem pr_upd {w m i : Nat} {F C : Nat → Int32} {x : Int32} (hi : i < m) : upd (pr w m F C) (w + i) x = pr w m (upd F i x) C := by
  funext q
  unfold pr upd
  by_cases h1 : q = w + i
  · subst h1
    rw [if_pos rfl, if_pos (by omega), if_pos (by omega)]
  · rw [if_neg h1]
    show (if w ≤ q ∧ q < w + m then F (q - w) else C q) = _
    by_cases h2 : w ≤ q ∧ q < w + m
    · rw [if_pos h2, if_pos h2, if_neg (by omega)]
    · rw [if_neg h2, if_neg h2]
theorem pr_pr {w m : Nat} {F G C : Nat → Int32} : pr w m F (pr w m G C) = pr w m F C := by
  funext q
  unfold pr
  by_cases h2 : w ≤ q ∧ q < w + m
  · rw [if_pos h2, if_pos h2]
  · rw [if_neg h2, if_neg h2, if_neg h2]
theorem pr_self {w m : Nat} {F C : Nat → Int32} (h : ∀ i, i < m → F i = C (w + i)) : pr w m F C = C := by
  funext q
  unfold pr
  by_cases h2 : w ≤ q ∧ q < w + m
  · rw [if_pos h2, h _ (by omega)]
    congr 1
    omega
  · rw [if_neg h2]
theorem pr_all {m : Nat} {F C : Nat → Int32} (h : ∀ i, m ≤ i → F i = C i) : pr 0 m F C = F := by
  funext q
  unfold pr
  by_cases h2 : 0 ≤ q ∧ q < 0 + m
  · rw [if_pos h2, Nat.sub_zero]
  · rw [if_neg h2, h q (by omega)]
/-- row j of an array of rows of w -/
def rw_ (w : Nat) (C : Nat → Int32) (j : Nat) : Nat → Int32 := fun v => if v < w then C (w * j + v) else 0
theorem rw_in {w v j : Nat} {C : Nat → Int32} (h : v < w) : rw_ w C j v = C (w * j + v) := by
  unfold rw_
  rw [if_pos h]
theorem rw_pr {w j : Nat} {F C : Nat → Int32} (h : ∀ i, w ≤ i → F i = 0) : rw_ w (pr (w * j) w F C) j = F := by
  funext v
  unfold rw_
  by_cases hv : v < w
  · rw [if_pos hv, pr_in hv]
  · rw [if_neg hv, h v (by omega)]
theorem rw_pr_ne {w j i : Nat} {F C : Nat → Int32} (h : i ≠ j) : rw_ w (pr (w * j) w F C) i = rw_ w C i := by
  funext v
  unfold rw_
  by_cases hv : v < w
  · rw [if_pos hv, if_pos hv, pr_out]
    rcases Nat.lt_or_gt_of_ne h with h1 | h1
    · have h2 : w * (i + 1) ≤ w * j := Nat.mul_le_mul_left w h1
      rw [Nat.mul_add, Nat.mul_one] at h2
      omega
    · have h2 : w * (j + 1) ≤ w * i := Nat.mul_le_mul_left w h1
      rw [Nat.mul_add, Nat.mul_one] at h2
      omega
  · rw [if_neg hv, if_neg hv]
theorem pr_rw {w j : Nat} {C : Nat → Int32} : pr (w * j) w (rw_ w C j) C = C := pr_self (fun i hi => by unfold rw_; rw [if_pos hi])
/-- lowering -/
def lw (f : Nat → Int32) (x : Int32) : Nat → Int32 := fun v => if v < 32 then (if 0 < f v - x then f v - x else 0) else f v
def ad (f g : Nat → Int32) : Nat → Int32 := fun i => f i + g i
def tkC (kk : Nat) (f : Nat → Int32) (v : Nat) : Nat → Int32 := if 0 < f v ∨ cn f < kk then upd f v (f v + 1) else lw f 1
def mgC (kk : Nat) (f g : Nat → Int32) : Nat → Int32 := if kk < cn (ad f g) then lw (ad f g) (ad f g ((gu (pu (ad f g) kk) (ad f g) 32).getD 0)) else ad f g
abbrev Row : Type := Int32 × (Nat → Int32) × (Nat → Int32)
def er : Row := (0, fun _ => 0, fun _ => 0)
def tkR (L kk : Nat) (d : Int32) (r : Row) (v : Nat) : Row := (r.1 + 1, tkC kk r.2.1 v, cpr ((r.1 + 1) / d) L (upd r.2.2 (32 + v) (r.2.2 (32 + v) + 1)))
def mgR (L kk : Nat) (d : Int32) (r q : Row) : Row := (r.1 + q.1, mgC kk r.2.1 q.2.1, cpr ((r.1 + q.1) / d) L (ad r.2.2 q.2.2))
/-- nothing stands beyond the arrays' ends, nothing in range 0 -/
def zr (r : Row) : Prop := (∀ i, 32 ≤ i → r.2.1 i = 0) ∧ (∀ i, 64 ≤ i → r.2.2 i = 0) ∧ r.2.2 0 = 0
theorem er_zr : zr er := ⟨fun _ _ => rfl, fun _ _ => rfl, rfl⟩
theorem upd_ne {f : Nat → Int32} {j q : Nat} {x : Int32} (h : q ≠ j) : upd f j x q = f q := by simp [upd, h]
theorem upd_eq {f : Nat → Int32} {j : Nat} {x : Int32} : upd f j x j = x := by simp [upd]
theorem ad_z {f g : Nat → Int32} {i : Nat} (h1 : f i = 0) (h2 : g i = 0) : ad f g i = 0 := by
  unfold ad
  rw [h1, h2]
  rfl
theorem tkC_z {kk v : Nat} {f : Nat → Int32} (hv : v < 32) (h : ∀ i, 32 ≤ i → f i = 0) : ∀ i, 32 ≤ i → tkC kk f v i = 0 := by
  intro i hi
  unfold tkC
  split
  · rw [upd_ne (by omega)]
    exact h i hi
  · unfold lw
    rw [if_neg (by omega)]
    exact h i hi
theorem mgC_z {kk : Nat} {f g : Nat → Int32} (h : ∀ i, 32 ≤ i → f i = 0) (h2 : ∀ i, 32 ≤ i → g i = 0) : ∀ i, 32 ≤ i → mgC kk f g i = 0 := by
  intro i hi
  unfold mgC
  split
  · unfold lw
    rw [if_neg (by omega)]
    exact ad_z (h i hi) (h2 i hi)
  · exact ad_z (h i hi) (h2 i hi)
theorem ps_out {t : Int32} {q : Nat} (hq : q = 0 ∨ 64 ≤ q) : ∀ (r : Nat) (g : Nat → Int32) (ch : Bool), r < 32 → (ps t r g ch).1 q = g q
  | 0, g, ch, _ => rfl
  | r + 1, g, ch, hr => by
    simp only [ps]
    split
    · rw [ps_out hq r _ true (by omega)]
      unfold pst
      rw [upd_ne (by omega), upd_ne (by omega), upd_ne (by omega)]
    · exact ps_out hq r g ch (by omega)
theorem cpr_out {t : Int32} {q : Nat} (hq : q = 0 ∨ 64 ≤ q) : ∀ (n : Nat) (g : Nat → Int32), cpr t n g q = g q
  | 0, g => rfl
  | n + 1, g => by
    simp only [cpr]
    split
    · rw [cpr_out hq n, ps_out hq 31 g false (by omega)]
    · exact ps_out hq 31 g false (by omega)
theorem tkR_zr {L kk v : Nat} {d : Int32} {r : Row} (hv : v < 32) (h : zr r) : zr (tkR L kk d r v) := by
  obtain ⟨h1, h2, h3⟩ := h
  refine ⟨tkC_z hv h1, fun i hi => ?_, ?_⟩
  · show cpr _ _ _ i = 0
    rw [cpr_out (Or.inr hi), upd_ne (by omega)]
    exact h2 i hi
  · show cpr _ _ _ 0 = 0
    rw [cpr_out (Or.inl rfl), upd_ne (by omega)]
    exact h3
theorem mgR_zr {L kk : Nat} {d : Int32} {r q : Row} (h : zr r) (g : zr q) : zr (mgR L kk d r q) := by
  obtain ⟨h1, h2, h3⟩ := h
  obtain ⟨g1, g2, g3⟩ := g
  refine ⟨mgC_z h1 g1, fun i hi => ?_, ?_⟩
  · show cpr _ _ _ i = 0
    rw [cpr_out (Or.inr hi)]
    exact ad_z (h2 i hi) (g2 i hi)
  · show cpr _ _ _ 0 = 0
    rw [cpr_out (Or.inl rfl)]
    exact ad_z h3 g3
/-- the digest holds n items in all -/
def rok (r : Row) (n : Nat) : Prop := r.1 = nI n ∧ ∃ h, dok r.2.2 h n
theorem er_rok : rok er 0 := ⟨nI_0.symm, fun _ => 0, fun _ _ => nI_0.symm, sm_0 64 (fun _ _ => rfl)⟩
theorem dok_add {g1 g2 : Nat → Int32} {h1 h2 : Nat → Nat} {n1 n2 : Nat} (a : dok g1 h1 n1) (c : dok g2 h2 n2) : dok (ad g1 g2) (fun r => h1 r + h2 r) (n1 + n2) := by
  refine ⟨fun r hr => ?_, ?_⟩
  · unfold ad
    rw [a.1 r hr, c.1 r hr, nI_add]
  · rw [sm_add, a.2, c.2]
theorem dok_one {g : Nat → Int32} {h : Nat → Nat} {n v : Nat} (a : dok g h n) (hv : v < 64) : dok (upd g v (g v + 1)) (va_up h v (h v + 1)) (n + 1) := by
  refine ⟨fun r hr => ?_, ?_⟩
  · by_cases hq : r = v
    · subst hq
      rw [upd_eq, a.1 r hr, nI_1]
      simp [va_up]
    · rw [upd_ne hq, a.1 r hr]
      simp [va_up, hq]
  · have := sm_up (h := h) (i := v) (x := h v + 1) 64 hv
    have := a.2
    omega
theorem tkR_both {kk v n : Nat} {d : Int32} {r : Row} (hv : v < 32) (h : rok r n) (hn : n + 1 < 2 ^ 29) : tkR 4096 kk d r v = tkR 4000 kk d r v ∧ rok (tkR 4000 kk d r v) (n + 1) := by
  obtain ⟨h1, hh, h2⟩ := h
  have h3 := dok_one (v := 32 + v) h2 (by omega)
  refine ⟨?_, ?_, ?_⟩
  · unfold tkR
    rw [cpr_both hn h3]
  · show r.1 + 1 = nI (n + 1)
    rw [h1, nI_1]
  · exact cpr_dok hn 4000 _ _ h3
theorem mgR_both {kk n n2 : Nat} {d : Int32} {r q : Row} (h : rok r n) (g : rok q n2) (hn : n + n2 < 2 ^ 29) : mgR 4096 kk d r q = mgR 4000 kk d r q ∧ rok (mgR 4000 kk d r q) (n + n2) := by
  obtain ⟨h1, hh, h2⟩ := h
  obtain ⟨g1, gg, g2⟩ := g
  have h3 := dok_add h2 g2
  refine ⟨?_, ?_, ?_⟩
  · unfold mgR
    rw [cpr_both hn h3]
  · show r.1 + q.1 = nI (n + n2)
    rw [h1, g1, nI_add]
  · exact cpr_dok hn 4000 _ _ h3
end
section
/-! Pure: what a node's row is, out of how many items of each journal are known -/
def tks (kk : Nat) (d : Int32) (jl : Nat → Nat) : Nat → Row
  | 0 => er
  | i + 1 => tkR 4000 kk d (tks kk d jl i) (jl i)
/-- the merging of the children c0, c0 + 1, .. of j, m numbers in all -/
def mgs (kk : Nat) (d : Int32) (up : Nat → Nat) (G : Nat → Row) (j : Nat) (base : Row) (c0 : Nat) : Nat → Row
  | 0 => base
  | m + 1 => if up (c0 + m) = j ∧ 0 < (G (c0 + m)).1 then mgR 4000 kk d (mgs kk d up G j base c0 m) (G (c0 + m)) else mgs kk d up G j base c0 m
theorem mgs_congr {kk : Nat} {d : Int32} {up up2 : Nat → Nat} {G G2 : Nat → Row} {j c0 : Nat} {base : Row} : ∀ m, (∀ i, i < m → (up (c0 + i) = j ↔ up2 (c0 + i) = j) ∧ (up (c0 + i) = j → G (c0 + i) = G2 (c0 + i))) → mgs kk d up G j base c0 m = mgs kk d up2 G2 j base c0 m
  | 0, _ => rfl
  | m + 1, h => by
    simp only [mgs]
    rw [mgs_congr m (fun i hi => h i (by omega))]
    obtain ⟨h1, h2⟩ := h m (by omega)
    by_cases hu : up (c0 + m) = j
    · have hu2 := h1.mp hu
      rw [h2 hu]
      by_cases hp : 0 < (G2 (c0 + m)).1
      · rw [if_pos ⟨hu, hp⟩, if_pos ⟨hu2, hp⟩]
      · rw [if_neg (fun q => hp q.2), if_neg (fun q => hp q.2)]
    · rw [if_neg (fun q => hu q.1), if_neg (fun q => hu (h1.mpr q.1))]
theorem mgs_skip {kk : Nat} {d : Int32} {up : Nat → Nat} {G : Nat → Row} {j c0 : Nat} {base : Row} : ∀ m, (∀ i, i < m → up (c0 + i) = j → ¬ 0 < (G (c0 + i)).1) → mgs kk d up G j base c0 m = base
  | 0, _ => rfl
  | m + 1, h => by
    simp only [mgs]
    rw [if_neg (fun q => h m (by omega) q.1 q.2)]
    exact mgs_skip m (fun i hi => h i (by omega))
theorem mgs_add {kk : Nat} {d : Int32} {up : Nat → Nat} {G : Nat → Row} {j c0 : Nat} {base : Row} (a : Nat) : ∀ m, mgs kk d up G j base c0 (a + m) = mgs kk d up G j (mgs kk d up G j base c0 a) (c0 + a) m
  | 0 => rfl
  | m + 1 => by
    rw [← Nat.add_assoc]
    simp only [mgs]
    rw [mgs_add a m, Nat.add_assoc]
def Fr (kk : Nat) (d : Int32) (up : Nat → Nat) (nodes : Nat) (jr : Nat → Nat → Nat) (kn : Nat → Nat) : Nat → Nat → Row
  | 0, _ => er
  | f + 1, j => mgs kk d up (fun c => Fr kk d up nodes jr kn f c) j (tks kk d (jr j) (kn j)) (j + 1) (nodes - (j + 1))
theorem Fr_st {kk : Nat} {d : Int32} {up : Nat → Nat} {nodes : Nat} {jr : Nat → Nat → Nat} {kn : Nat → Nat} (hN : nodes ≤ 12) : ∀ (f g c : Nat), c < 12 → 12 ≤ f + c → 12 ≤ g + c → Fr kk d up nodes jr kn f c = Fr kk d up nodes jr kn g c
  | 0, _, c, hc, hf, _ => by omega
  | f + 1, 0, c, hc, _, hg => by omega
  | f + 1, g + 1, c, hc, hf, hg => by
    simp only [Fr]
    refine mgs_congr _ (fun i hi => ⟨Iff.rfl, fun _ => ?_⟩)
    exact Fr_st hN f g _ (by omega) (by omega) (by omega)
def FF (kk : Nat) (d : Int32) (up : Nat → Nat) (nodes : Nat) (jr : Nat → Nat → Nat) (kn : Nat → Nat) (j : Nat) : Row := Fr kk d up nodes jr kn (12 - j) j
theorem FF_eq {kk : Nat} {d : Int32} {up : Nat → Nat} {nodes : Nat} {jr : Nat → Nat → Nat} {kn : Nat → Nat} {j : Nat} (hN : nodes ≤ 12) (hj : j < 12) : FF kk d up nodes jr kn j = mgs kk d up (FF kk d up nodes jr kn) j (tks kk d (jr j) (kn j)) (j + 1) (nodes - (j + 1)) := by
  unfold FF
  rw [show 12 - j = (11 - j) + 1 by omega]
  simp only [Fr]
  refine mgs_congr _ (fun i hi => ⟨Iff.rfl, fun _ => ?_⟩)
  exact Fr_st hN _ _ _ (by omega) (by omega) (by omega)
/-- a table of rows that has the same equation is FF -/
theorem tks_congr {kk : Nat} {d : Int32} {jl jl2 : Nat → Nat} : ∀ m, (∀ i, i < m → jl i = jl2 i) → tks kk d jl m = tks kk d jl2 m
  | 0, _ => rfl
  | m + 1, h => by
    simp only [tks]
    rw [tks_congr m (fun i hi => h i (by omega)), h m (by omega)]
/-- ancestors -/
def an (up : Nat → Nat) : Nat → Nat → Nat
  | 0, l => l
  | n + 1, l => up (an up n l)
def sub (up : Nat → Nat) (c l : Nat) : Prop := ∃ n, an up n l = c
theorem sub_self (up : Nat → Nat) (c : Nat) : sub up c c := ⟨0, rfl⟩
theorem sub_up {up : Nat → Nat} {c l : Nat} (h : sub up c l) : sub up (up c) l := by
  obtain ⟨n, hn⟩ := h
  exact ⟨n + 1, by simp [an, hn]⟩
theorem FF_congr {kk : Nat} {d : Int32} {up : Nat → Nat} {nodes : Nat} {jr jr2 : Nat → Nat → Nat} {kn kn2 : Nat → Nat} (hN : nodes ≤ 12) : ∀ (f c : Nat), c < 12 → 12 ≤ f + c → (∀ l, sub up c l → kn l = kn2 l ∧ ∀ i, i < kn l → jr l i = jr2 l i) → FF kk d up nodes jr kn c = FF kk d up nodes jr2 kn2 c
  | 0, c, hc, hf, _ => by omega
  | f + 1, c, hc, hf, h => by
    rw [FF_eq hN hc, FF_eq hN hc]
    have h0 := h c (sub_self up c)
    rw [← h0.1, tks_congr (kn c) h0.2]
    refine mgs_congr _ (fun i hi => ⟨Iff.rfl, fun hu => ?_⟩)
    refine FF_congr hN f _ (by omega) (by omega) (fun l hl => h l ?_)
    have := sub_up hl
    rwa [hu] at this
theorem FF_0 {kk : Nat} {d : Int32} {up : Nat → Nat} {nodes : Nat} {jr : Nat → Nat → Nat} {kn : Nat → Nat} (hN : nodes ≤ 12) : ∀ (f c : Nat), c < 12 → 12 ≤ f + c → (∀ l, sub up c l → kn l = 0) → FF kk d up nodes jr kn c = er
  | 0, c, hc, hf, _ => by omega
  | f + 1, c, hc, hf, h => by
    rw [FF_eq hN hc, h c (sub_self up c)]
    refine mgs_skip _ (fun i hi hu => ?_)
    have e := FF_0 (kk := kk) (d := d) (up := up) (jr := jr) hN f (c + 1 + i) (by omega) (by omega) (fun l hl => h l (by have := sub_up hl; rwa [hu] at this))
    rw [e]
    decide
/-- a node more: nothing changes where nothing of it is known -/
theorem FF_attach {kk : Nat} {d : Int32} {up : Nat → Nat} {nodes p : Nat} {jr : Nat → Nat → Nat} {kn : Nat → Nat} (hN : nodes < 12) (hk : kn nodes = 0) (hp : p < nodes) : ∀ (f c : Nat), c < 12 → 12 ≤ f + c → FF kk d (va_up up nodes p) (nodes + 1) jr kn c = FF kk d up nodes jr kn c
  | 0, c, hc, hf => by omega
  | f + 1, c, hc, hf => by
    rw [FF_eq (by omega) hc, FF_eq (by omega) hc]
    by_cases hcn : c < nodes
    · rw [show nodes + 1 - (c + 1) = (nodes - (c + 1)) + 1 by omega]
      simp only [mgs]
      rw [show c + 1 + (nodes - (c + 1)) = nodes by omega]
      have hz : ¬ 0 < (FF kk d (va_up up nodes p) (nodes + 1) jr kn nodes).1 := by
        rw [FF_eq (by omega) hN, hk, show nodes + 1 - (nodes + 1) = 0 by omega]
        simp only [mgs, tks]
        decide
      rw [if_neg (fun q => hz q.2)]
      refine mgs_congr _ (fun i hi => ?_)
      have e : va_up up nodes p (c + 1 + i) = up (c + 1 + i) := by
        have : ¬ c + 1 + i = nodes := by omega
        simp [va_up, this]
      rw [e]
      exact ⟨Iff.rfl, fun _ => FF_attach hN hk hp f _ (by omega) (by omega)⟩
    · rw [show nodes + 1 - (c + 1) = 0 by omega, show nodes - (c + 1) = 0 by omega]
      rfl
/-- the rows are in order -/
theorem tks_ok {kk : Nat} {d : Int32} {jl : Nat → Nat} : ∀ m, (∀ i, i < m → jl i < 32) → m < 2 ^ 20 → zr (tks kk d jl m) ∧ rok (tks kk d jl m) m
  | 0, _, _ => ⟨er_zr, er_rok⟩
  | m + 1, h, hm => by
    obtain ⟨h1, h2⟩ := tks_ok m (fun i hi => h i (by omega)) (by omega)
    exact ⟨tkR_zr (h m (by omega)) h1, (tkR_both (h m (by omega)) h2 (by omega)).2⟩
end
section
/-! Pure: the ranges, their first and last values -/
def wd (r : Nat) : Nat := if 32 ≤ r then 1 else if 16 ≤ r then 2 else if 8 ≤ r then 4 else if 4 ≤ r then 8 else if 2 ≤ r then 16 else 32
def fs_ (r : Nat) : Nat := (r - 32 / wd r) * wd r
def en (r : Nat) : Nat := fs_ r + wd r - 1
/-- the sum over the ranges 1 .. n with P -/
def sel (P : Nat → Bool) (g : Nat → Int32) : Nat → Int32
  | 0 => 0
  | n + 1 => if P (n + 1) = true then sel P g n + g (n + 1) else sel P g n
theorem sel_congr {P Q : Nat → Bool} {g : Nat → Int32} : ∀ n, (∀ r, r < n → P (r + 1) = Q (r + 1)) → sel P g n = sel Q g n
  | 0, _ => rfl
  | n + 1, h => by
    simp only [sel]
    rw [sel_congr n (fun r hr => h r (by omega)), h n (by omega)]
theorem sel_none {P : Nat → Bool} {g : Nat → Int32} : ∀ n, (∀ r, r < n → P (r + 1) = false) → sel P g n = 0
  | 0, _ => rfl
  | n + 1, h => by
    simp only [sel]
    rw [h n (by omega), sel_none n (fun r hr => h r (by omega))]
    rfl
theorem sel_or {P Q : Nat → Bool} {g : Nat → Int32} : ∀ n, (∀ r, r < n → P (r + 1) = true → Q (r + 1) = false) → sel (fun r => P r || Q r) g n = sel P g n + sel Q g n
  | 0, _ => rfl
  | n + 1, h => by
    simp only [sel]
    rw [sel_or n (fun r hr => h r (by omega))]
    have hn := h n (by omega)
    by_cases hP : P (n + 1) = true
    · have hQ := hn hP
      simp [hP, hQ]
      ac_rfl
    · by_cases hQ : Q (n + 1) = true
      · simp [hP, hQ, Int32.add_assoc]
      · simp [hP, hQ]
/-- the ranges that end (begin) with a value, from the smallest up -/
def eac (o : Nat) (g : Nat → Int32) : Nat → Nat → Int32 → Int32
  | 0, _, a => a
  | f + 1, r, a => if r = 0 then a else if r % 2 = o then a + g r else eac o g f (r / 2) (a + g r)
theorem ea_0 (g : Nat → Int32) : eac 0 g 6 32 0 = sel (fun r => decide (en r = 0)) g 63 := by
  simp [eac, sel, en, fs_, wd]
  try ac_rfl
theorem ea_1 (g : Nat → Int32) : eac 0 g 6 33 0 = sel (fun r => decide (en r = 1)) g 63 := by
  simp [eac, sel, en, fs_, wd]
  try ac_rfl
theorem ea_2 (g : Nat → Int32) : eac 0 g 6 34 0 = sel (fun r => decide (en r = 2)) g 63 := by
  simp [eac, sel, en, fs_, wd]
  try ac_rfl
theorem ea_3 (g : Nat → Int32) : eac 0 g 6 35 0 = sel (fun r => decide (en r = 3)) g 63 := by
  simp [eac, sel, en, fs_, wd]
  try ac_rfl
theorem ea_4 (g : Nat → Int32) : eac 0 g 6 36 0 = sel (fun r => decide (en r = 4)) g 63 := by
  simp [eac, sel, en, fs_, wd]
  try ac_rfl
theorem ea_5 (g : Nat → Int32) : eac 0 g 6 37 0 = sel (fun r => decide (en r = 5)) g 63 := by
  simp [eac, sel, en, fs_, wd]
  try ac_rfl
theorem ea_6 (g : Nat → Int32) : eac 0 g 6 38 0 = sel (fun r => decide (en r = 6)) g 63 := by
  simp [eac, sel, en, fs_, wd]
  try ac_rfl
theorem ea_7 (g : Nat → Int32) : eac 0 g 6 39 0 = sel (fun r => decide (en r = 7)) g 63 := by
  simp [eac, sel, en, fs_, wd]
  try ac_rfl
theorem ea_8 (g : Nat → Int32) : eac 0 g 6 40 0 = sel (fun r => decide (en r = 8)) g 63 := by
  simp [eac, sel, en, fs_, wd]
  try ac_rfl
theorem ea_9 (g : Nat → Int32) : eac 0 g 6 41 0 = sel (fun r => decide (en r = 9)) g 63 := by
  simp [eac, sel, en, fs_, wd]
  try ac_rfl
theorem ea_10 (g : Nat → Int32) : eac 0 g 6 42 0 = sel (fun r => decide (en r = 10)) g 63 := by
  simp [eac, sel, en, fs_, wd]
  try ac_rfl
theorem ea_11 (g : Nat → Int32) : eac 0 g 6 43 0 = sel (fun r => decide (en r = 11)) g 63 := by
  simp [eac, sel, en, fs_, wd]
  try ac_rfl
theorem ea_12 (g : Nat → Int32) : eac 0 g 6 44 0 = sel (fun r => decide (en r = 12)) g 63 := by
  simp [eac, sel, en, fs_, wd]
  try ac_rfl
theorem ea_13 (g : Nat → Int32) : eac 0 g 6 45 0 = sel (fun r => decide (en r = 13)) g 63 := by
  simp [eac, sel, en, fs_, wd]
  try ac_rfl
theorem ea_14 (g : Nat → Int32) : eac 0 g 6 46 0 = sel (fun r => decide (en r = 14)) g 63 := by
  simp [eac, sel, en, fs_, wd]
  try ac_rfl
theorem ea_15 (g : Nat → Int32) : eac 0 g 6 47 0 = sel (fun r => decide (en r = 15)) g 63 := by
  simp [eac, sel, en, fs_, wd]
  try ac_rfl
theorem ea_16 (g : Nat → Int32) : eac 0 g 6 48 0 = sel (fun r => decide (en r = 16)) g 63 := by
  simp [eac, sel, en, fs_, wd]
  try ac_rfl
theorem ea_17 (g : Nat → Int32) : eac 0 g 6 49 0 = sel (fun r => decide (en r = 17)) g 63 := by
  simp [eac, sel, en, fs_, wd]
  try ac_rfl
theorem ea_18 (g : Nat → Int32) : eac 0 g 6 50 0 = sel (fun r => decide (en r = 18)) g 63 := by
  simp [eac, sel, en, fs_, wd]
  try ac_rfl
theorem ea_19 (g : Nat → Int32) : eac 0 g 6 51 0 = sel (fun r => decide (en r = 19)) g 63 := by
  simp [eac, sel, en, fs_, wd]
  try ac_rfl
theorem ea_20 (g : Nat → Int32) : eac 0 g 6 52 0 = sel (fun r => decide (en r = 20)) g 63 := by
  simp [eac, sel, en, fs_, wd]
  try ac_rfl
theorem ea_21 (g : Nat → Int32) : eac 0 g 6 53 0 = sel (fun r => decide (en r = 21)) g 63 := by
  simp [eac, sel, en, fs_, wd]
  try ac_rfl
theorem ea_22 (g : Nat → Int32) : eac 0 g 6 54 0 = sel (fun r => decide (en r = 22)) g 63 := by
  simp [eac, sel, en, fs_, wd]
  try ac_rfl
theorem ea_23 (g : Nat → Int32) : eac 0 g 6 55 0 = sel (fun r => decide (en r = 23)) g 63 := by
  simp [eac, sel, en, fs_, wd]
  try ac_rfl
theorem ea_24 (g : Nat → Int32) : eac 0 g 6 56 0 = sel (fun r => decide (en r = 24)) g 63 := by
  simp [eac, sel, en, fs_, wd]
  try ac_rfl
theorem ea_25 (g : Nat → Int32) : eac 0 g 6 57 0 = sel (fun r => decide (en r = 25)) g 63 := by
  simp [eac, sel, en, fs_, wd]
  try ac_rfl
theorem ea_26 (g : Nat → Int32) : eac 0 g 6 58 0 = sel (fun r => decide (en r = 26)) g 63 := by
  simp [eac, sel, en, fs_, wd]
  try ac_rfl
theorem ea_27 (g : Nat → Int32) : eac 0 g 6 59 0 = sel (fun r => decide (en r = 27)) g 63 := by
  simp [eac, sel, en, fs_, wd]
  try ac_rfl
theorem ea_28 (g : Nat → Int32) : eac 0 g 6 60 0 = sel (fun r => decide (en r = 28)) g 63 := by
  simp [eac, sel, en, fs_, wd]
  try ac_rfl
theorem ea_29 (g : Nat → Int32) : eac 0 g 6 61 0 = sel (fun r => decide (en r = 29)) g 63 := by
  simp [eac, sel, en, fs_, wd]
  try ac_rfl
theorem ea_30 (g : Nat → Int32) : eac 0 g 6 62 0 = sel (fun r => decide (en r = 30)) g 63 := by
  simp [eac, sel, en, fs_, wd]
  try ac_rfl
theorem ea_31 (g : Nat → Int32) : eac 0 g 6 63 0 = sel (fun r => decide (en r = 31)) g 63 := by
  simp [eac, sel, en, fs_, wd]
  try ac_rfl
theorem ea_all (g : Nat → Int32) : ∀ v, v < 32 → eac 0 g 6 (32 + v) 0 = sel (fun r => decide (en r = v)) g 63
  | 0, _ => ea_0 g
  | 1, _ => ea_1 g
  | 2, _ => ea_2 g
  | 3, _ => ea_3 g
  | 4, _ => ea_4 g
  | 5, _ => ea_5 g
  | 6, _ => ea_6 g
  | 7, _ => ea_7 g
  | 8, _ => ea_8 g
  | 9, _ => ea_9 g
  | 10, _ => ea_10 g
  | 11, _ => ea_11 g
  | 12, _ => ea_12 g
  | 13, _ => ea_13 g
  | 14, _ => ea_14 g
  | 15, _ => ea_15 g
  | 16, _ => ea_16 g
  | 17, _ => ea_17 g
  | 18, _ => ea_18 g
  | 19, _ => ea_19 g
  | 20, _ => ea_20 g
  | 21, _ => ea_21 g
  | 22, _ => ea_22 g
  | 23, _ => ea_23 g
  | 24, _ => ea_24 g
  | 25, _ => ea_25 g
  | 26, _ => ea_26 g
  | 27, _ => ea_27 g
  | 28, _ => ea_28 g
  | 29, _ => ea_29 g
  | 30, _ => ea_30 g
  | 31, _ => ea_31 g
  | v + 32, h => by omega
def eb (g : Nat → Int32) : Nat → Int32
  | 0 => 0
  | v + 1 => eb g v + eac 0 g 6 (32 + v) 0
theorem eb_sel (g : Nat → Int32) : ∀ v, v ≤ 32 → eb g v = sel (fun r => decide (en r < v)) g 63
  | 0, _ => (sel_none 63 (fun r _ => by simp)).symm
  | v + 1, hv => by
    simp only [eb]
    rw [eb_sel g v (by omega), ea_all g v (by omega), ← sel_or 63 (fun r _ h => by
      have h1 : en (r + 1) < v := by simpa using h
      simp; omega)]
    refine sel_congr 63 (fun r _ => ?_)
    by_cases h1 : en (r + 1) < v
    · have h2 : en (r + 1) < v + 1 := by omega
      simp [h1, h2]
    · by_cases h3 : en (r + 1) = v
      · have h2 : en (r + 1) < v + 1 := by omega
        simp [h3]
      · have h2 : ¬ en (r + 1) < v + 1 := by omega
        simp [h1, h2, h3]
theorem sa_0 (g : Nat → Int32) : eac 1 g 6 32 0 = sel (fun r => decide (fs_ r = 0)) g 63 := by
  simp [eac, sel, en, fs_, wd]
  try ac_rfl
theorem sa_1 (g : Nat → Int32) : eac 1 g 6 33 0 = sel (fun r => decide (fs_ r = 1)) g 63 := by
  simp [eac, sel, en, fs_, wd]
  try ac_rfl
theorem sa_2 (g : Nat → Int32) : eac 1 g 6 34 0 = sel (fun r => decide (fs_ r = 2)) g 63 := by
  simp [eac, sel, en, fs_, wd]
  try ac_rfl
theorem sa_3 (g : Nat → Int32) : eac 1 g 6 35 0 = sel (fun r => decide (fs_ r = 3)) g 63 := by
  simp [eac, sel, en, fs_, wd]
  try ac_rfl
theorem sa_4 (g : Nat → Int32) : eac 1 g 6 36 0 = sel (fun r => decide (fs_ r = 4)) g 63 := by
  simp [eac, sel, en, fs_, wd]
  try ac_rfl
theorem sa_5 (g : Nat → Int32) : eac 1 g 6 37 0 = sel (fun r => decide (fs_ r = 5)) g 63 := by
  simp [eac, sel, en, fs_, wd]
  try ac_rfl
theorem sa_6 (g : Nat → Int32) : eac 1 g 6 38 0 = sel (fun r => decide (fs_ r = 6)) g 63 := by
  simp [eac, sel, en, fs_, wd]
  try ac_rfl
theorem sa_7 (g : Nat → Int32) : eac 1 g 6 39 0 = sel (fun r => decide (fs_ r = 7)) g 63 := by
  simp [eac, sel, en, fs_, wd]
  try ac_rfl
theorem sa_8 (g : Nat → Int32) : eac 1 g 6 40 0 = sel (fun r => decide (fs_ r = 8)) g 63 := by
  simp [eac, sel, en, fs_, wd]
  try ac_rfl
theorem sa_9 (g : Nat → Int32) : eac 1 g 6 41 0 = sel (fun r => decide (fs_ r = 9)) g 63 := by
  simp [eac, sel, en, fs_, wd]
  try ac_rfl
theorem sa_10 (g : Nat → Int32) : eac 1 g 6 42 0 = sel (fun r => decide (fs_ r = 10)) g 63 := by
  simp [eac, sel, en, fs_, wd]
  try ac_rfl
theorem sa_11 (g : Nat → Int32) : eac 1 g 6 43 0 = sel (fun r => decide (fs_ r = 11)) g 63 := by
  simp [eac, sel, en, fs_, wd]
  try ac_rfl
theorem sa_12 (g : Nat → Int32) : eac 1 g 6 44 0 = sel (fun r => decide (fs_ r = 12)) g 63 := by
  simp [eac, sel, en, fs_, wd]
  try ac_rfl
theorem sa_13 (g : Nat → Int32) : eac 1 g 6 45 0 = sel (fun r => decide (fs_ r = 13)) g 63 := by
  simp [eac, sel, en, fs_, wd]
  try ac_rfl
theorem sa_14 (g : Nat → Int32) : eac 1 g 6 46 0 = sel (fun r => decide (fs_ r = 14)) g 63 := by
  simp [eac, sel, en, fs_, wd]
  try ac_rfl
theorem sa_15 (g : Nat → Int32) : eac 1 g 6 47 0 = sel (fun r => decide (fs_ r = 15)) g 63 := by
  simp [eac, sel, en, fs_, wd]
  try ac_rfl
theorem sa_16 (g : Nat → Int32) : eac 1 g 6 48 0 = sel (fun r => decide (fs_ r = 16)) g 63 := by
  simp [eac, sel, en, fs_, wd]
  try ac_rfl
theorem sa_17 (g : Nat → Int32) : eac 1 g 6 49 0 = sel (fun r => decide (fs_ r = 17)) g 63 := by
  simp [eac, sel, en, fs_, wd]
  try ac_rfl
theorem sa_18 (g : Nat → Int32) : eac 1 g 6 50 0 = sel (fun r => decide (fs_ r = 18)) g 63 := by
  simp [eac, sel, en, fs_, wd]
  try ac_rfl
theorem sa_19 (g : Nat → Int32) : eac 1 g 6 51 0 = sel (fun r => decide (fs_ r = 19)) g 63 := by
  simp [eac, sel, en, fs_, wd]
  try ac_rfl
theorem sa_20 (g : Nat → Int32) : eac 1 g 6 52 0 = sel (fun r => decide (fs_ r = 20)) g 63 := by
  simp [eac, sel, en, fs_, wd]
  try ac_rfl
theorem sa_21 (g : Nat → Int32) : eac 1 g 6 53 0 = sel (fun r => decide (fs_ r = 21)) g 63 := by
  simp [eac, sel, en, fs_, wd]
  try ac_rfl
theorem sa_22 (g : Nat → Int32) : eac 1 g 6 54 0 = sel (fun r => decide (fs_ r = 22)) g 63 := by
  simp [eac, sel, en, fs_, wd]
  try ac_rfl
theorem sa_23 (g : Nat → Int32) : eac 1 g 6 55 0 = sel (fun r => decide (fs_ r = 23)) g 63 := by
  simp [eac, sel, en, fs_, wd]
  try ac_rfl
theorem sa_24 (g : Nat → Int32) : eac 1 g 6 56 0 = sel (fun r => decide (fs_ r = 24)) g 63 := by
  simp [eac, sel, en, fs_, wd]
  try ac_rfl
theorem sa_25 (g : Nat → Int32) : eac 1 g 6 57 0 = sel (fun r => decide (fs_ r = 25)) g 63 := by
  simp [eac, sel, en, fs_, wd]
  try ac_rfl
theorem sa_26 (g : Nat → Int32) : eac 1 g 6 58 0 = sel (fun r => decide (fs_ r = 26)) g 63 := by
  simp [eac, sel, en, fs_, wd]
  try ac_rfl
theorem sa_27 (g : Nat → Int32) : eac 1 g 6 59 0 = sel (fun r => decide (fs_ r = 27)) g 63 := by
  simp [eac, sel, en, fs_, wd]
  try ac_rfl
theorem sa_28 (g : Nat → Int32) : eac 1 g 6 60 0 = sel (fun r => decide (fs_ r = 28)) g 63 := by
  simp [eac, sel, en, fs_, wd]
  try ac_rfl
theorem sa_29 (g : Nat → Int32) : eac 1 g 6 61 0 = sel (fun r => decide (fs_ r = 29)) g 63 := by
  simp [eac, sel, en, fs_, wd]
  try ac_rfl
theorem sa_30 (g : Nat → Int32) : eac 1 g 6 62 0 = sel (fun r => decide (fs_ r = 30)) g 63 := by
  simp [eac, sel, en, fs_, wd]
  try ac_rfl
theorem sa_31 (g : Nat → Int32) : eac 1 g 6 63 0 = sel (fun r => decide (fs_ r = 31)) g 63 := by
  simp [eac, sel, en, fs_, wd]
  try ac_rfl
theorem sa_all (g : Nat → Int32) : ∀ v, v < 32 → eac 1 g 6 (32 + v) 0 = sel (fun r => decide (fs_ r = v)) g 63
  | 0, _ => sa_0 g
  | 1, _ => sa_1 g
  | 2, _ => sa_2 g
  | 3, _ => sa_3 g
  | 4, _ => sa_4 g
  | 5, _ => sa_5 g
  | 6, _ => sa_6 g
  | 7, _ => sa_7 g
  | 8, _ => sa_8 g
  | 9, _ => sa_9 g
  | 10, _ => sa_10 g
  | 11, _ => sa_11 g
  | 12, _ => sa_12 g
  | 13, _ => sa_13 g
  | 14, _ => sa_14 g
  | 15, _ => sa_15 g
  | 16, _ => sa_16 g
  | 17, _ => sa_17 g
  | 18, _ => sa_18 g
  | 19, _ => sa_19 g
  | 20, _ => sa_20 g
  | 21, _ => sa_21 g
  | 22, _ => sa_22 g
  | 23, _ => sa_23 g
  | 24, _ => sa_24 g
  | 25, _ => sa_25 g
  | 26, _ => sa_26 g
  | 27, _ => sa_27 g
  | 28, _ => sa_28 g
  | 29, _ => sa_29 g
  | 30, _ => sa_30 g
  | 31, _ => sa_31 g
  | v + 32, h => by omega
def sb (g : Nat → Int32) : Nat → Int32
  | 0 => 0
  | v + 1 => sb g v + eac 1 g 6 (32 + v) 0
theorem sb_sel (g : Nat → Int32) : ∀ v, v ≤ 32 → sb g v = sel (fun r => decide (fs_ r < v)) g 63
  | 0, _ => (sel_none 63 (fun r _ => by simp)).symm
  | v + 1, hv => by
    simp only [sb]
    rw [sb_sel g v (by omega), sa_all g v (by omega), ← sel_or 63 (fun r _ h => by
      have h1 : fs_ (r + 1) < v := by simpa using h
      simp; omega)]
    refine sel_congr 63 (fun r _ => ?_)
    by_cases h1 : fs_ (r + 1) < v
    · have h2 : fs_ (r + 1) < v + 1 := by omega
      simp [h1, h2]
    · by_cases h3 : fs_ (r + 1) = v
      · have h2 : fs_ (r + 1) < v + 1 := by omega
        simp [h3]
      · have h2 : ¬ fs_ (r + 1) < v + 1 := by omega
        simp [h1, h2, h3]
end
section
theorem d_C_init_0 : decode b_C_init 0 = .ok (.aload_n 0, 1) := by decide +kernel
theorem d_C_init_1 : decode b_C_init 1 = .ok (.invokespecial 3, 3) := by decide +kernel
theorem d_C_init_4 : decode b_C_init 4 = .ok (.aload_n 0, 1) := by decide +kernel
theorem d_C_init_5 : decode b_C_init 5 = .ok (.bipush 32, 2) := by decide +kernel
theorem d_C_init_7 : decode b_C_init 7 = .ok (.newarray .int, 2) := by decide +kernel
theorem d_C_init_9 : decode b_C_init 9 = .ok (.putfield 9, 3) := by decide +kernel
theorem d_C_init_12 : decode b_C_init 12 = .ok (.aload_n 0, 1) := by decide +kernel
theorem d_C_init_13 : decode b_C_init 13 = .ok (.iload_n 1, 1) := by decide +kernel
theorem d_C_init_14 : decode b_C_init 14 = .ok (.putfield 15, 3) := by decide +kernel
theorem d_C_init_17 : decode b_C_init 17 = .ok (.return_, 1) := by decide +kernel
theorem d_C_take_0 : decode b_C_take 0 = .ok (.aload_n 0, 1) := by decide +kernel
theorem d_C_take_1 : decode b_C_take 1 = .ok (.getfield 9, 3) := by decide +kernel
theorem d_C_take_4 : decode b_C_take 4 = .ok (.iload_n 1, 1) := by decide +kernel
theorem d_C_take_5 : decode b_C_take 5 = .ok (.iaload, 1) := by decide +kernel
theorem d_C_take_6 : decode b_C_take 6 = .ok (.ifCond .gt 16, 3) := by decide +kernel
theorem d_C_take_9 : decode b_C_take 9 = .ok (.aload_n 0, 1) := by decide +kernel
theorem d_C_take_10 : decode b_C_take 10 = .ok (.aload_n 0, 1) := by decide +kernel
theorem d_C_take_11 : decode b_C_take 11 = .ok (.getfield 15, 3) := by decide +kernel
theorem d_C_take_14 : decode b_C_take 14 = .ok (.iconst 1, 1) := by decide +kernel
theorem d_C_take_15 : decode b_C_take 15 = .ok (.isub, 1) := by decide +kernel
theorem d_C_take_16 : decode b_C_take 16 = .ok (.invokevirtual 19, 3) := by decide +kernel
theorem d_C_take_19 : decode b_C_take 19 = .ok (.ifCond .ge 16, 3) := by decide +kernel
theorem d_C_take_22 : decode b_C_take 22 = .ok (.aload_n 0, 1) := by decide +kernel
theorem d_C_take_23 : decode b_C_take 23 = .ok (.getfield 9, 3) := by decide +kernel
theorem d_C_take_26 : decode b_C_take 26 = .ok (.iload_n 1, 1) := by decide +kernel
theorem d_C_take_27 : decode b_C_take 27 = .ok (.dup2, 1) := by decide +kernel
theorem d_C_take_28 : decode b_C_take 28 = .ok (.iaload, 1) := by decide +kernel
theorem d_C_take_29 : decode b_C_take 29 = .ok (.iconst 1, 1) := by decide +kernel
theorem d_C_take_30 : decode b_C_take 30 = .ok (.iadd, 1) := by decide +kernel
theorem d_C_take_31 : decode b_C_take 31 = .ok (.iastore, 1) := by decide +kernel
theorem d_C_take_32 : decode b_C_take 32 = .ok (.goto 8, 3) := by decide +kernel
theorem d_C_take_35 : decode b_C_take 35 = .ok (.aload_n 0, 1) := by decide +kernel
theorem d_C_take_36 : decode b_C_take 36 = .ok (.iconst 1, 1) := by decide +kernel
theorem d_C_take_37 : decode b_C_take 37 = .ok (.invokevirtual 23, 3) := by decide +kernel
theorem d_C_take_40 : decode b_C_take 40 = .ok (.return_, 1) := by decide +kernel
theorem d_C_merge_0 : decode b_C_merge 0 = .ok (.aload_n 0, 1) := by decide +kernel
theorem d_C_merge_1 : decode b_C_merge 1 = .ok (.getfield 9, 3) := by decide +kernel
theorem d_C_merge_4 : decode b_C_merge 4 = .ok (.aload_n 1, 1) := by decide +kernel
theorem d_C_merge_5 : decode b_C_merge 5 = .ok (.getfield 9, 3) := by decide +kernel
theorem d_C_merge_8 : decode b_C_merge 8 = .ok (.invokestatic 27, 3) := by decide +kernel
theorem d_C_merge_11 : decode b_C_merge 11 = .ok (.aload_n 0, 1) := by decide +kernel
theorem d_C_merge_12 : decode b_C_merge 12 = .ok (.aload_n 0, 1) := by decide +kernel
theorem d_C_merge_13 : decode b_C_merge 13 = .ok (.getfield 15, 3) := by decide +kernel
theorem d_C_merge_16 : decode b_C_merge 16 = .ok (.invokevirtual 19, 3) := by decide +kernel
theorem d_C_merge_19 : decode b_C_merge 19 = .ok (.istore_n 2, 1) := by decide +kernel
theorem d_C_merge_20 : decode b_C_merge 20 = .ok (.iload_n 2, 1) := by decide +kernel
theorem d_C_merge_21 : decode b_C_merge 21 = .ok (.ifCond .lt 13, 3) := by decide +kernel
theorem d_C_merge_24 : decode b_C_merge 24 = .ok (.aload_n 0, 1) := by decide +kernel
theorem d_C_merge_25 : decode b_C_merge 25 = .ok (.aload_n 0, 1) := by decide +kernel
theorem d_C_merge_26 : decode b_C_merge 26 = .ok (.getfield 9, 3) := by decide +kernel
theorem d_C_merge_29 : decode b_C_merge 29 = .ok (.iload_n 2, 1) := by decide +kernel
theorem d_C_merge_30 : decode b_C_merge 30 = .ok (.iaload, 1) := by decide +kernel
theorem d_C_merge_31 : decode b_C_merge 31 = .ok (.invokevirtual 23, 3) := by decide +kernel
theorem d_C_merge_34 : decode b_C_merge 34 = .ok (.return_, 1) := by decide +kernel
theorem d_C_lowerAll_0 : decode b_C_lowerAll 0 = .ok (.iconst 0, 1) := by decide +kernel
theorem d_C_lowerAll_1 : decode b_C_lowerAll 1 = .ok (.istore_n 2, 1) := by decide +kernel
theorem d_C_lowerAll_2 : decode b_C_lowerAll 2 = .ok (.iload_n 2, 1) := by decide +kernel
theorem d_C_lowerAll_3 : decode b_C_lowerAll 3 = .ok (.bipush 32, 2) := by decide +kernel
theorem d_C_lowerAll_5 : decode b_C_lowerAll 5 = .ok (.if_icmp .ge 27, 3) := by decide +kernel
theorem d_C_lowerAll_8 : decode b_C_lowerAll 8 = .ok (.aload_n 0, 1) := by decide +kernel
theorem d_C_lowerAll_9 : decode b_C_lowerAll 9 = .ok (.getfield 9, 3) := by decide +kernel
theorem d_C_lowerAll_12 : decode b_C_lowerAll 12 = .ok (.iload_n 2, 1) := by decide +kernel
theorem d_C_lowerAll_13 : decode b_C_lowerAll 13 = .ok (.iconst 0, 1) := by decide +kernel
theorem d_C_lowerAll_14 : decode b_C_lowerAll 14 = .ok (.aload_n 0, 1) := by decide +kernel
theorem d_C_lowerAll_15 : decode b_C_lowerAll 15 = .ok (.getfield 9, 3) := by decide +kernel
theorem d_C_lowerAll_18 : decode b_C_lowerAll 18 = .ok (.iload_n 2, 1) := by decide +kernel
theorem d_C_lowerAll_19 : decode b_C_lowerAll 19 = .ok (.iaload, 1) := by decide +kernel
theorem d_C_lowerAll_20 : decode b_C_lowerAll 20 = .ok (.iload_n 1, 1) := by decide +kernel
theorem d_C_lowerAll_21 : decode b_C_lowerAll 21 = .ok (.isub, 1) := by decide +kernel
theorem d_C_lowerAll_22 : decode b_C_lowerAll 22 = .ok (.invokestatic 31, 3) := by decide +kernel
theorem d_C_lowerAll_25 : decode b_C_lowerAll 25 = .ok (.iastore, 1) := by decide +kernel
theorem d_C_lowerAll_26 : decode b_C_lowerAll 26 = .ok (.iinc 2 1, 3) := by decide +kernel
theorem d_C_lowerAll_29 : decode b_C_lowerAll 29 = .ok (.goto (-27), 3) := by decide +kernel
theorem d_C_lowerAll_32 : decode b_C_lowerAll 32 = .ok (.return_, 1) := by decide +kernel
theorem d_C_valueAtRank_0 : decode b_C_valueAtRank 0 = .ok (.iconst 0, 1) := by decide +kernel
theorem d_C_valueAtRank_1 : decode b_C_valueAtRank 1 = .ok (.istore_n 2, 1) := by decide +kernel
theorem d_C_valueAtRank_2 : decode b_C_valueAtRank 2 = .ok (.iload_n 2, 1) := by decide +kernel
theorem d_C_valueAtRank_3 : decode b_C_valueAtRank 3 = .ok (.bipush 32, 2) := by decide +kernel
theorem d_C_valueAtRank_5 : decode b_C_valueAtRank 5 = .ok (.if_icmp .ge 29, 3) := by decide +kernel
theorem d_C_valueAtRank_8 : decode b_C_valueAtRank 8 = .ok (.aload_n 0, 1) := by decide +kernel
theorem d_C_valueAtRank_9 : decode b_C_valueAtRank 9 = .ok (.getfield 9, 3) := by decide +kernel
theorem d_C_valueAtRank_12 : decode b_C_valueAtRank 12 = .ok (.iload_n 2, 1) := by decide +kernel
theorem d_C_valueAtRank_13 : decode b_C_valueAtRank 13 = .ok (.iaload, 1) := by decide +kernel
theorem d_C_valueAtRank_14 : decode b_C_valueAtRank 14 = .ok (.ifCond .le 14, 3) := by decide +kernel
theorem d_C_valueAtRank_17 : decode b_C_valueAtRank 17 = .ok (.aload_n 0, 1) := by decide +kernel
theorem d_C_valueAtRank_18 : decode b_C_valueAtRank 18 = .ok (.iload_n 2, 1) := by decide +kernel
theorem d_C_valueAtRank_19 : decode b_C_valueAtRank 19 = .ok (.invokevirtual 37, 3) := by decide +kernel
theorem d_C_valueAtRank_22 : decode b_C_valueAtRank 22 = .ok (.iload_n 1, 1) := by decide +kernel
theorem d_C_valueAtRank_23 : decode b_C_valueAtRank 23 = .ok (.if_icmp .ne 5, 3) := by decide +kernel
theorem d_C_valueAtRank_26 : decode b_C_valueAtRank 26 = .ok (.iload_n 2, 1) := by decide +kernel
theorem d_C_valueAtRank_27 : decode b_C_valueAtRank 27 = .ok (.ireturn, 1) := by decide +kernel
theorem d_C_valueAtRank_28 : decode b_C_valueAtRank 28 = .ok (.iinc 2 1, 3) := by decide +kernel
theorem d_C_valueAtRank_31 : decode b_C_valueAtRank 31 = .ok (.goto (-29), 3) := by decide +kernel
theorem d_C_valueAtRank_34 : decode b_C_valueAtRank 34 = .ok (.iconst (-1), 1) := by decide +kernel
theorem d_C_valueAtRank_35 : decode b_C_valueAtRank 35 = .ok (.ireturn, 1) := by decide +kernel
theorem d_C_rankOf_0 : decode b_C_rankOf 0 = .ok (.iconst 0, 1) := by decide +kernel
theorem d_C_rankOf_1 : decode b_C_rankOf 1 = .ok (.istore_n 2, 1) := by decide +kernel
theorem d_C_rankOf_2 : decode b_C_rankOf 2 = .ok (.iconst 0, 1) := by decide +kernel
theorem d_C_rankOf_3 : decode b_C_rankOf 3 = .ok (.istore_n 3, 1) := by decide +kernel
theorem d_C_rankOf_4 : decode b_C_rankOf 4 = .ok (.iload_n 3, 1) := by decide +kernel
theorem d_C_rankOf_5 : decode b_C_rankOf 5 = .ok (.bipush 32, 2) := by decide +kernel
theorem d_C_rankOf_7 : decode b_C_rankOf 7 = .ok (.if_icmp .ge 47, 3) := by decide +kernel
theorem d_C_rankOf_10 : decode b_C_rankOf 10 = .ok (.aload_n 0, 1) := by decide +kernel
theorem d_C_rankOf_11 : decode b_C_rankOf 11 = .ok (.getfield 9, 3) := by decide +kernel
theorem d_C_rankOf_14 : decode b_C_rankOf 14 = .ok (.iload_n 3, 1) := by decide +kernel
theorem d_C_rankOf_15 : decode b_C_rankOf 15 = .ok (.iaload, 1) := by decide +kernel
theorem d_C_rankOf_16 : decode b_C_rankOf 16 = .ok (.aload_n 0, 1) := by decide +kernel
theorem d_C_rankOf_17 : decode b_C_rankOf 17 = .ok (.getfield 9, 3) := by decide +kernel
theorem d_C_rankOf_20 : decode b_C_rankOf 20 = .ok (.iload_n 1, 1) := by decide +kernel
theorem d_C_rankOf_21 : decode b_C_rankOf 21 = .ok (.iaload, 1) := by decide +kernel
theorem d_C_rankOf_22 : decode b_C_rankOf 22 = .ok (.if_icmp .gt 23, 3) := by decide +kernel
theorem d_C_rankOf_25 : decode b_C_rankOf 25 = .ok (.aload_n 0, 1) := by decide +kernel
theorem d_C_rankOf_26 : decode b_C_rankOf 26 = .ok (.getfield 9, 3) := by decide +kernel
theorem d_C_rankOf_29 : decode b_C_rankOf 29 = .ok (.iload_n 3, 1) := by decide +kernel
theorem d_C_rankOf_30 : decode b_C_rankOf 30 = .ok (.iaload, 1) := by decide +kernel
theorem d_C_rankOf_31 : decode b_C_rankOf 31 = .ok (.aload_n 0, 1) := by decide +kernel
theorem d_C_rankOf_32 : decode b_C_rankOf 32 = .ok (.getfield 9, 3) := by decide +kernel
theorem d_C_rankOf_35 : decode b_C_rankOf 35 = .ok (.iload_n 1, 1) := by decide +kernel
theorem d_C_rankOf_36 : decode b_C_rankOf 36 = .ok (.iaload, 1) := by decide +kernel
theorem d_C_rankOf_37 : decode b_C_rankOf 37 = .ok (.if_icmp .ne 11, 3) := by decide +kernel
theorem d_C_rankOf_40 : decode b_C_rankOf 40 = .ok (.iload_n 3, 1) := by decide +kernel
theorem d_C_rankOf_41 : decode b_C_rankOf 41 = .ok (.iload_n 1, 1) := by decide +kernel
theorem d_C_rankOf_42 : decode b_C_rankOf 42 = .ok (.if_icmp .ge 6, 3) := by decide +kernel
theorem d_C_rankOf_45 : decode b_C_rankOf 45 = .ok (.iinc 2 1, 3) := by decide +kernel
theorem d_C_rankOf_48 : decode b_C_rankOf 48 = .ok (.iinc 3 1, 3) := by decide +kernel
theorem d_C_rankOf_51 : decode b_C_rankOf 51 = .ok (.goto (-47), 3) := by decide +kernel
theorem d_C_rankOf_54 : decode b_C_rankOf 54 = .ok (.iload_n 2, 1) := by decide +kernel
theorem d_C_rankOf_55 : decode b_C_rankOf 55 = .ok (.ireturn, 1) := by decide +kernel
theorem d_D_init_0 : decode b_D_init 0 = .ok (.aload_n 0, 1) := by decide +kernel
theorem d_D_init_1 : decode b_D_init 1 = .ok (.invokespecial 3, 3) := by decide +kernel
theorem d_D_init_4 : decode b_D_init 4 = .ok (.aload_n 0, 1) := by decide +kernel
theorem d_D_init_5 : decode b_D_init 5 = .ok (.bipush 64, 2) := by decide +kernel
theorem d_D_init_7 : decode b_D_init 7 = .ok (.newarray .int, 2) := by decide +kernel
theorem d_D_init_9 : decode b_D_init 9 = .ok (.putfield 9, 3) := by decide +kernel
theorem d_D_init_12 : decode b_D_init 12 = .ok (.aload_n 0, 1) := by decide +kernel
theorem d_D_init_13 : decode b_D_init 13 = .ok (.iload_n 1, 1) := by decide +kernel
theorem d_D_init_14 : decode b_D_init 14 = .ok (.putfield 15, 3) := by decide +kernel
theorem d_D_init_17 : decode b_D_init 17 = .ok (.return_, 1) := by decide +kernel
theorem d_D_take_0 : decode b_D_take 0 = .ok (.aload_n 0, 1) := by decide +kernel
theorem d_D_take_1 : decode b_D_take 1 = .ok (.getfield 9, 3) := by decide +kernel
theorem d_D_take_4 : decode b_D_take 4 = .ok (.bipush 32, 2) := by decide +kernel
theorem d_D_take_6 : decode b_D_take 6 = .ok (.iload_n 1, 1) := by decide +kernel
theorem d_D_take_7 : decode b_D_take 7 = .ok (.iadd, 1) := by decide +kernel
theorem d_D_take_8 : decode b_D_take 8 = .ok (.dup2, 1) := by decide +kernel
theorem d_D_take_9 : decode b_D_take 9 = .ok (.iaload, 1) := by decide +kernel
theorem d_D_take_10 : decode b_D_take 10 = .ok (.iconst 1, 1) := by decide +kernel
theorem d_D_take_11 : decode b_D_take 11 = .ok (.iadd, 1) := by decide +kernel
theorem d_D_take_12 : decode b_D_take 12 = .ok (.iastore, 1) := by decide +kernel
theorem d_D_take_13 : decode b_D_take 13 = .ok (.aload_n 0, 1) := by decide +kernel
theorem d_D_take_14 : decode b_D_take 14 = .ok (.iload_n 2, 1) := by decide +kernel
theorem d_D_take_15 : decode b_D_take 15 = .ok (.aload_n 0, 1) := by decide +kernel
theorem d_D_take_16 : decode b_D_take 16 = .ok (.getfield 15, 3) := by decide +kernel
theorem d_D_take_19 : decode b_D_take 19 = .ok (.idiv, 1) := by decide +kernel
theorem d_D_take_20 : decode b_D_take 20 = .ok (.invokevirtual 19, 3) := by decide +kernel
theorem d_D_take_23 : decode b_D_take 23 = .ok (.return_, 1) := by decide +kernel
theorem d_D_merge_0 : decode b_D_merge 0 = .ok (.aload_n 0, 1) := by decide +kernel
theorem d_D_merge_1 : decode b_D_merge 1 = .ok (.getfield 9, 3) := by decide +kernel
theorem d_D_merge_4 : decode b_D_merge 4 = .ok (.aload_n 1, 1) := by decide +kernel
theorem d_D_merge_5 : decode b_D_merge 5 = .ok (.getfield 9, 3) := by decide +kernel
theorem d_D_merge_8 : decode b_D_merge 8 = .ok (.invokestatic 23, 3) := by decide +kernel
theorem d_D_merge_11 : decode b_D_merge 11 = .ok (.aload_n 0, 1) := by decide +kernel
theorem d_D_merge_12 : decode b_D_merge 12 = .ok (.iload_n 2, 1) := by decide +kernel
theorem d_D_merge_13 : decode b_D_merge 13 = .ok (.aload_n 0, 1) := by decide +kernel
theorem d_D_merge_14 : decode b_D_merge 14 = .ok (.getfield 15, 3) := by decide +kernel
theorem d_D_merge_17 : decode b_D_merge 17 = .ok (.idiv, 1) := by decide +kernel
theorem d_D_merge_18 : decode b_D_merge 18 = .ok (.invokevirtual 19, 3) := by decide +kernel
theorem d_D_merge_21 : decode b_D_merge 21 = .ok (.return_, 1) := by decide +kernel
theorem d_D_compress_0 : decode b_D_compress 0 = .ok (.iconst 1, 1) := by decide +kernel
theorem d_D_compress_1 : decode b_D_compress 1 = .ok (.istore_n 2, 1) := by decide +kernel
theorem d_D_compress_2 : decode b_D_compress 2 = .ok (.iconst 0, 1) := by decide +kernel
theorem d_D_compress_3 : decode b_D_compress 3 = .ok (.istore_n 3, 1) := by decide +kernel
theorem d_D_compress_4 : decode b_D_compress 4 = .ok (.iload_n 2, 1) := by decide +kernel
theorem d_D_compress_5 : decode b_D_compress 5 = .ok (.ifCond .eq 22, 3) := by decide +kernel
theorem d_D_compress_8 : decode b_D_compress 8 = .ok (.iload_n 3, 1) := by decide +kernel
theorem d_D_compress_9 : decode b_D_compress 9 = .ok (.sipush 4096, 3) := by decide +kernel
theorem d_D_compress_12 : decode b_D_compress 12 = .ok (.if_icmp .ge 15, 3) := by decide +kernel
theorem d_D_compress_15 : decode b_D_compress 15 = .ok (.aload_n 0, 1) := by decide +kernel
theorem d_D_compress_16 : decode b_D_compress 16 = .ok (.iload_n 1, 1) := by decide +kernel
theorem d_D_compress_17 : decode b_D_compress 17 = .ok (.invokevirtual 27, 3) := by decide +kernel
theorem d_D_compress_20 : decode b_D_compress 20 = .ok (.istore_n 2, 1) := by decide +kernel
theorem d_D_compress_21 : decode b_D_compress 21 = .ok (.iinc 3 1, 3) := by decide +kernel
theorem d_D_compress_24 : decode b_D_compress 24 = .ok (.goto (-20), 3) := by decide +kernel
theorem d_D_compress_27 : decode b_D_compress 27 = .ok (.return_, 1) := by decide +kernel
theorem d_D_pass_0 : decode b_D_pass 0 = .ok (.iconst 0, 1) := by decide +kernel
theorem d_D_pass_1 : decode b_D_pass 1 = .ok (.istore_n 2, 1) := by decide +kernel
theorem d_D_pass_2 : decode b_D_pass 2 = .ok (.bipush 31, 2) := by decide +kernel
theorem d_D_pass_4 : decode b_D_pass 4 = .ok (.istore_n 3, 1) := by decide +kernel
theorem d_D_pass_5 : decode b_D_pass 5 = .ok (.iload_n 3, 1) := by decide +kernel
theorem d_D_pass_6 : decode b_D_pass 6 = .ok (.iconst 1, 1) := by decide +kernel
theorem d_D_pass_7 : decode b_D_pass 7 = .ok (.if_icmp .lt 81, 3) := by decide +kernel
theorem d_D_pass_10 : decode b_D_pass 10 = .ok (.aload_n 0, 1) := by decide +kernel
theorem d_D_pass_11 : decode b_D_pass 11 = .ok (.getfield 9, 3) := by decide +kernel
theorem d_D_pass_14 : decode b_D_pass 14 = .ok (.iconst 2, 1) := by decide +kernel
theorem d_D_pass_15 : decode b_D_pass 15 = .ok (.iload_n 3, 1) := by decide +kernel
theorem d_D_pass_16 : decode b_D_pass 16 = .ok (.imul, 1) := by decide +kernel
theorem d_D_pass_17 : decode b_D_pass 17 = .ok (.iaload, 1) := by decide +kernel
theorem d_D_pass_18 : decode b_D_pass 18 = .ok (.aload_n 0, 1) := by decide +kernel
theorem d_D_pass_19 : decode b_D_pass 19 = .ok (.getfield 9, 3) := by decide +kernel
theorem d_D_pass_22 : decode b_D_pass 22 = .ok (.iconst 2, 1) := by decide +kernel
theorem d_D_pass_23 : decode b_D_pass 23 = .ok (.iload_n 3, 1) := by decide +kernel
theorem d_D_pass_24 : decode b_D_pass 24 = .ok (.imul, 1) := by decide +kernel
theorem d_D_pass_25 : decode b_D_pass 25 = .ok (.iconst 1, 1) := by decide +kernel
theorem d_D_pass_26 : decode b_D_pass 26 = .ok (.iadd, 1) := by decide +kernel
theorem d_D_pass_27 : decode b_D_pass 27 = .ok (.iaload, 1) := by decide +kernel
theorem d_D_pass_28 : decode b_D_pass 28 = .ok (.iadd, 1) := by decide +kernel
theorem d_D_pass_29 : decode b_D_pass 29 = .ok (.istore 4, 2) := by decide +kernel
theorem d_D_pass_31 : decode b_D_pass 31 = .ok (.iload 4, 2) := by decide +kernel
theorem d_D_pass_33 : decode b_D_pass 33 = .ok (.ifCond .le 49, 3) := by decide +kernel
theorem d_D_pass_36 : decode b_D_pass 36 = .ok (.aload_n 0, 1) := by decide +kernel
theorem d_D_pass_37 : decode b_D_pass 37 = .ok (.getfield 9, 3) := by decide +kernel
theorem d_D_pass_40 : decode b_D_pass 40 = .ok (.iload_n 3, 1) := by decide +kernel
theorem d_D_pass_41 : decode b_D_pass 41 = .ok (.iaload, 1) := by decide +kernel
theorem d_D_pass_42 : decode b_D_pass 42 = .ok (.iload 4, 2) := by decide +kernel
theorem d_D_pass_44 : decode b_D_pass 44 = .ok (.iadd, 1) := by decide +kernel
theorem d_D_pass_45 : decode b_D_pass 45 = .ok (.iload_n 1, 1) := by decide +kernel
theorem d_D_pass_46 : decode b_D_pass 46 = .ok (.if_icmp .gt 36, 3) := by decide +kernel
theorem d_D_pass_49 : decode b_D_pass 49 = .ok (.aload_n 0, 1) := by decide +kernel
theorem d_D_pass_50 : decode b_D_pass 50 = .ok (.getfield 9, 3) := by decide +kernel
theorem d_D_pass_53 : decode b_D_pass 53 = .ok (.iload_n 3, 1) := by decide +kernel
theorem d_D_pass_54 : decode b_D_pass 54 = .ok (.dup2, 1) := by decide +kernel
theorem d_D_pass_55 : decode b_D_pass 55 = .ok (.iaload, 1) := by decide +kernel
theorem d_D_pass_56 : decode b_D_pass 56 = .ok (.iload 4, 2) := by decide +kernel
theorem d_D_pass_58 : decode b_D_pass 58 = .ok (.iadd, 1) := by decide +kernel
theorem d_D_pass_59 : decode b_D_pass 59 = .ok (.iastore, 1) := by decide +kernel
theorem d_D_pass_60 : decode b_D_pass 60 = .ok (.aload_n 0, 1) := by decide +kernel
theorem d_D_pass_61 : decode b_D_pass 61 = .ok (.getfield 9, 3) := by decide +kernel
theorem d_D_pass_64 : decode b_D_pass 64 = .ok (.iconst 2, 1) := by decide +kernel
theorem d_D_pass_65 : decode b_D_pass 65 = .ok (.iload_n 3, 1) := by decide +kernel
theorem d_D_pass_66 : decode b_D_pass 66 = .ok (.imul, 1) := by decide +kernel
theorem d_D_pass_67 : decode b_D_pass 67 = .ok (.iconst 0, 1) := by decide +kernel
theorem d_D_pass_68 : decode b_D_pass 68 = .ok (.iastore, 1) := by decide +kernel
theorem d_D_pass_69 : decode b_D_pass 69 = .ok (.aload_n 0, 1) := by decide +kernel
theorem d_D_pass_70 : decode b_D_pass 70 = .ok (.getfield 9, 3) := by decide +kernel
theorem d_D_pass_73 : decode b_D_pass 73 = .ok (.iconst 2, 1) := by decide +kernel
theorem d_D_pass_74 : decode b_D_pass 74 = .ok (.iload_n 3, 1) := by decide +kernel
theorem d_D_pass_75 : decode b_D_pass 75 = .ok (.imul, 1) := by decide +kernel
theorem d_D_pass_76 : decode b_D_pass 76 = .ok (.iconst 1, 1) := by decide +kernel
theorem d_D_pass_77 : decode b_D_pass 77 = .ok (.iadd, 1) := by decide +kernel
theorem d_D_pass_78 : decode b_D_pass 78 = .ok (.iconst 0, 1) := by decide +kernel
theorem d_D_pass_79 : decode b_D_pass 79 = .ok (.iastore, 1) := by decide +kernel
theorem d_D_pass_80 : decode b_D_pass 80 = .ok (.iconst 1, 1) := by decide +kernel
theorem d_D_pass_81 : decode b_D_pass 81 = .ok (.istore_n 2, 1) := by decide +kernel
theorem d_D_pass_82 : decode b_D_pass 82 = .ok (.iinc 3 (-1), 3) := by decide +kernel
theorem d_D_pass_85 : decode b_D_pass 85 = .ok (.goto (-80), 3) := by decide +kernel
theorem d_D_pass_88 : decode b_D_pass 88 = .ok (.iload_n 2, 1) := by decide +kernel
theorem d_D_pass_89 : decode b_D_pass 89 = .ok (.ireturn, 1) := by decide +kernel
theorem d_D_rangesInUse_0 : decode b_D_rangesInUse 0 = .ok (.iconst 0, 1) := by decide +kernel
theorem d_D_rangesInUse_1 : decode b_D_rangesInUse 1 = .ok (.istore_n 1, 1) := by decide +kernel
theorem d_D_rangesInUse_2 : decode b_D_rangesInUse 2 = .ok (.iconst 1, 1) := by decide +kernel
theorem d_D_rangesInUse_3 : decode b_D_rangesInUse 3 = .ok (.istore_n 2, 1) := by decide +kernel
theorem d_D_rangesInUse_4 : decode b_D_rangesInUse 4 = .ok (.iload_n 2, 1) := by decide +kernel
theorem d_D_rangesInUse_5 : decode b_D_rangesInUse 5 = .ok (.bipush 64, 2) := by decide +kernel
theorem d_D_rangesInUse_7 : decode b_D_rangesInUse 7 = .ok (.if_icmp .ge 21, 3) := by decide +kernel
theorem d_D_rangesInUse_10 : decode b_D_rangesInUse 10 = .ok (.aload_n 0, 1) := by decide +kernel
theorem d_D_rangesInUse_11 : decode b_D_rangesInUse 11 = .ok (.getfield 9, 3) := by decide +kernel
theorem d_D_rangesInUse_14 : decode b_D_rangesInUse 14 = .ok (.iload_n 2, 1) := by decide +kernel
theorem d_D_rangesInUse_15 : decode b_D_rangesInUse 15 = .ok (.iaload, 1) := by decide +kernel
theorem d_D_rangesInUse_16 : decode b_D_rangesInUse 16 = .ok (.ifCond .le 6, 3) := by decide +kernel
theorem d_D_rangesInUse_19 : decode b_D_rangesInUse 19 = .ok (.iinc 1 1, 3) := by decide +kernel
theorem d_D_rangesInUse_22 : decode b_D_rangesInUse 22 = .ok (.iinc 2 1, 3) := by decide +kernel
theorem d_D_rangesInUse_25 : decode b_D_rangesInUse 25 = .ok (.goto (-21), 3) := by decide +kernel
theorem d_D_rangesInUse_28 : decode b_D_rangesInUse 28 = .ok (.iload_n 1, 1) := by decide +kernel
theorem d_D_rangesInUse_29 : decode b_D_rangesInUse 29 = .ok (.ireturn, 1) := by decide +kernel
theorem d_D_endingBefore_0 : decode b_D_endingBefore 0 = .ok (.iconst 0, 1) := by decide +kernel
theorem d_D_endingBefore_1 : decode b_D_endingBefore 1 = .ok (.istore_n 2, 1) := by decide +kernel
theorem d_D_endingBefore_2 : decode b_D_endingBefore 2 = .ok (.iconst 0, 1) := by decide +kernel
theorem d_D_endingBefore_3 : decode b_D_endingBefore 3 = .ok (.istore_n 3, 1) := by decide +kernel
theorem d_D_endingBefore_4 : decode b_D_endingBefore 4 = .ok (.iload_n 3, 1) := by decide +kernel
theorem d_D_endingBefore_5 : decode b_D_endingBefore 5 = .ok (.iload_n 1, 1) := by decide +kernel
theorem d_D_endingBefore_6 : decode b_D_endingBefore 6 = .ok (.if_icmp .ge 17, 3) := by decide +kernel
theorem d_D_endingBefore_9 : decode b_D_endingBefore 9 = .ok (.iload_n 2, 1) := by decide +kernel
theorem d_D_endingBefore_10 : decode b_D_endingBefore 10 = .ok (.aload_n 0, 1) := by decide +kernel
theorem d_D_endingBefore_11 : decode b_D_endingBefore 11 = .ok (.iload_n 3, 1) := by decide +kernel
theorem d_D_endingBefore_12 : decode b_D_endingBefore 12 = .ok (.invokevirtual 31, 3) := by decide +kernel
theorem d_D_endingBefore_15 : decode b_D_endingBefore 15 = .ok (.iadd, 1) := by decide +kernel
theorem d_D_endingBefore_16 : decode b_D_endingBefore 16 = .ok (.istore_n 2, 1) := by decide +kernel
theorem d_D_endingBefore_17 : decode b_D_endingBefore 17 = .ok (.iinc 3 1, 3) := by decide +kernel
theorem d_D_endingBefore_20 : decode b_D_endingBefore 20 = .ok (.goto (-16), 3) := by decide +kernel
theorem d_D_endingBefore_23 : decode b_D_endingBefore 23 = .ok (.iload_n 2, 1) := by decide +kernel
theorem d_D_endingBefore_24 : decode b_D_endingBefore 24 = .ok (.ireturn, 1) := by decide +kernel
theorem d_D_startingBefore_0 : decode b_D_startingBefore 0 = .ok (.iconst 0, 1) := by decide +kernel
theorem d_D_startingBefore_1 : decode b_D_startingBefore 1 = .ok (.istore_n 2, 1) := by decide +kernel
theorem d_D_startingBefore_2 : decode b_D_startingBefore 2 = .ok (.iconst 0, 1) := by decide +kernel
theorem d_D_startingBefore_3 : decode b_D_startingBefore 3 = .ok (.istore_n 3, 1) := by decide +kernel
theorem d_D_startingBefore_4 : decode b_D_startingBefore 4 = .ok (.iload_n 3, 1) := by decide +kernel
theorem d_D_startingBefore_5 : decode b_D_startingBefore 5 = .ok (.iload_n 1, 1) := by decide +kernel
theorem d_D_startingBefore_6 : decode b_D_startingBefore 6 = .ok (.if_icmp .ge 17, 3) := by decide +kernel
theorem d_D_startingBefore_9 : decode b_D_startingBefore 9 = .ok (.iload_n 2, 1) := by decide +kernel
theorem d_D_startingBefore_10 : decode b_D_startingBefore 10 = .ok (.aload_n 0, 1) := by decide +kernel
theorem d_D_startingBefore_11 : decode b_D_startingBefore 11 = .ok (.iload_n 3, 1) := by decide +kernel
theorem d_D_startingBefore_12 : decode b_D_startingBefore 12 = .ok (.invokevirtual 35, 3) := by decide +kernel
theorem d_D_startingBefore_15 : decode b_D_startingBefore 15 = .ok (.iadd, 1) := by decide +kernel
theorem d_D_startingBefore_16 : decode b_D_startingBefore 16 = .ok (.istore_n 2, 1) := by decide +kernel
theorem d_D_startingBefore_17 : decode b_D_startingBefore 17 = .ok (.iinc 3 1, 3) := by decide +kernel
theorem d_D_startingBefore_20 : decode b_D_startingBefore 20 = .ok (.goto (-16), 3) := by decide +kernel
theorem d_D_startingBefore_23 : decode b_D_startingBefore 23 = .ok (.iload_n 2, 1) := by decide +kernel
theorem d_D_startingBefore_24 : decode b_D_startingBefore 24 = .ok (.ireturn, 1) := by decide +kernel
theorem d_D_endingAt_0 : decode b_D_endingAt 0 = .ok (.iconst 0, 1) := by decide +kernel
theorem d_D_endingAt_1 : decode b_D_endingAt 1 = .ok (.istore_n 2, 1) := by decide +kernel
theorem d_D_endingAt_2 : decode b_D_endingAt 2 = .ok (.bipush 32, 2) := by decide +kernel
theorem d_D_endingAt_4 : decode b_D_endingAt 4 = .ok (.iload_n 1, 1) := by decide +kernel
theorem d_D_endingAt_5 : decode b_D_endingAt 5 = .ok (.iadd, 1) := by decide +kernel
theorem d_D_endingAt_6 : decode b_D_endingAt 6 = .ok (.istore_n 3, 1) := by decide +kernel
theorem d_D_endingAt_7 : decode b_D_endingAt 7 = .ok (.iload_n 3, 1) := by decide +kernel
theorem d_D_endingAt_8 : decode b_D_endingAt 8 = .ok (.iconst 1, 1) := by decide +kernel
theorem d_D_endingAt_9 : decode b_D_endingAt 9 = .ok (.if_icmp .lt 28, 3) := by decide +kernel
theorem d_D_endingAt_12 : decode b_D_endingAt 12 = .ok (.iload_n 2, 1) := by decide +kernel
theorem d_D_endingAt_13 : decode b_D_endingAt 13 = .ok (.aload_n 0, 1) := by decide +kernel
theorem d_D_endingAt_14 : decode b_D_endingAt 14 = .ok (.getfield 9, 3) := by decide +kernel
theorem d_D_endingAt_17 : decode b_D_endingAt 17 = .ok (.iload_n 3, 1) := by decide +kernel
theorem d_D_endingAt_18 : decode b_D_endingAt 18 = .ok (.iaload, 1) := by decide +kernel
theorem d_D_endingAt_19 : decode b_D_endingAt 19 = .ok (.iadd, 1) := by decide +kernel
theorem d_D_endingAt_20 : decode b_D_endingAt 20 = .ok (.istore_n 2, 1) := by decide +kernel
theorem d_D_endingAt_21 : decode b_D_endingAt 21 = .ok (.iload_n 3, 1) := by decide +kernel
theorem d_D_endingAt_22 : decode b_D_endingAt 22 = .ok (.iconst 2, 1) := by decide +kernel
theorem d_D_endingAt_23 : decode b_D_endingAt 23 = .ok (.irem, 1) := by decide +kernel
theorem d_D_endingAt_24 : decode b_D_endingAt 24 = .ok (.ifCond .ne 6, 3) := by decide +kernel
theorem d_D_endingAt_27 : decode b_D_endingAt 27 = .ok (.goto 10, 3) := by decide +kernel
theorem d_D_endingAt_30 : decode b_D_endingAt 30 = .ok (.iload_n 3, 1) := by decide +kernel
theorem d_D_endingAt_31 : decode b_D_endingAt 31 = .ok (.iconst 2, 1) := by decide +kernel
theorem d_D_endingAt_32 : decode b_D_endingAt 32 = .ok (.idiv, 1) := by decide +kernel
theorem d_D_endingAt_33 : decode b_D_endingAt 33 = .ok (.istore_n 3, 1) := by decide +kernel
theorem d_D_endingAt_34 : decode b_D_endingAt 34 = .ok (.goto (-27), 3) := by decide +kernel
theorem d_D_endingAt_37 : decode b_D_endingAt 37 = .ok (.iload_n 2, 1) := by decide +kernel
theorem d_D_endingAt_38 : decode b_D_endingAt 38 = .ok (.ireturn, 1) := by decide +kernel
theorem d_D_startingAt_0 : decode b_D_startingAt 0 = .ok (.iconst 0, 1) := by decide +kernel
theorem d_D_startingAt_1 : decode b_D_startingAt 1 = .ok (.istore_n 2, 1) := by decide +kernel
theorem d_D_startingAt_2 : decode b_D_startingAt 2 = .ok (.bipush 32, 2) := by decide +kernel
theorem d_D_startingAt_4 : decode b_D_startingAt 4 = .ok (.iload_n 1, 1) := by decide +kernel
theorem d_D_startingAt_5 : decode b_D_startingAt 5 = .ok (.iadd, 1) := by decide +kernel
theorem d_D_startingAt_6 : decode b_D_startingAt 6 = .ok (.istore_n 3, 1) := by decide +kernel
theorem d_D_startingAt_7 : decode b_D_startingAt 7 = .ok (.iload_n 3, 1) := by decide +kernel
theorem d_D_startingAt_8 : decode b_D_startingAt 8 = .ok (.iconst 1, 1) := by decide +kernel
theorem d_D_startingAt_9 : decode b_D_startingAt 9 = .ok (.if_icmp .lt 29, 3) := by decide +kernel
theorem d_D_startingAt_12 : decode b_D_startingAt 12 = .ok (.iload_n 2, 1) := by decide +kernel
theorem d_D_startingAt_13 : decode b_D_startingAt 13 = .ok (.aload_n 0, 1) := by decide +kernel
theorem d_D_startingAt_14 : decode b_D_startingAt 14 = .ok (.getfield 9, 3) := by decide +kernel
theorem d_D_startingAt_17 : decode b_D_startingAt 17 = .ok (.iload_n 3, 1) := by decide +kernel
theorem d_D_startingAt_18 : decode b_D_startingAt 18 = .ok (.iaload, 1) := by decide +kernel
theorem d_D_startingAt_19 : decode b_D_startingAt 19 = .ok (.iadd, 1) := by decide +kernel
theorem d_D_startingAt_20 : decode b_D_startingAt 20 = .ok (.istore_n 2, 1) := by decide +kernel
theorem d_D_startingAt_21 : decode b_D_startingAt 21 = .ok (.iload_n 3, 1) := by decide +kernel
theorem d_D_startingAt_22 : decode b_D_startingAt 22 = .ok (.iconst 2, 1) := by decide +kernel
theorem d_D_startingAt_23 : decode b_D_startingAt 23 = .ok (.irem, 1) := by decide +kernel
theorem d_D_startingAt_24 : decode b_D_startingAt 24 = .ok (.iconst 1, 1) := by decide +kernel
theorem d_D_startingAt_25 : decode b_D_startingAt 25 = .ok (.if_icmp .ne 6, 3) := by decide +kernel
theorem d_D_startingAt_28 : decode b_D_startingAt 28 = .ok (.goto 10, 3) := by decide +kernel
theorem d_D_startingAt_31 : decode b_D_startingAt 31 = .ok (.iload_n 3, 1) := by decide +kernel
theorem d_D_startingAt_32 : decode b_D_startingAt 32 = .ok (.iconst 2, 1) := by decide +kernel
theorem d_D_startingAt_33 : decode b_D_startingAt 33 = .ok (.idiv, 1) := by decide +kernel
theorem d_D_startingAt_34 : decode b_D_startingAt 34 = .ok (.istore_n 3, 1) := by decide +kernel
theorem d_D_startingAt_35 : decode b_D_startingAt 35 = .ok (.goto (-28), 3) := by decide +kernel
theorem d_D_startingAt_38 : decode b_D_startingAt 38 = .ok (.iload_n 2, 1) := by decide +kernel
theorem d_D_startingAt_39 : decode b_D_startingAt 39 = .ok (.ireturn, 1) := by decide +kernel
theorem d_D_valueReaching_0 : decode b_D_valueReaching 0 = .ok (.iconst 0, 1) := by decide +kernel
theorem d_D_valueReaching_1 : decode b_D_valueReaching 1 = .ok (.istore_n 2, 1) := by decide +kernel
theorem d_D_valueReaching_2 : decode b_D_valueReaching 2 = .ok (.iconst 0, 1) := by decide +kernel
theorem d_D_valueReaching_3 : decode b_D_valueReaching 3 = .ok (.istore_n 3, 1) := by decide +kernel
theorem d_D_valueReaching_4 : decode b_D_valueReaching 4 = .ok (.iload_n 3, 1) := by decide +kernel
theorem d_D_valueReaching_5 : decode b_D_valueReaching 5 = .ok (.bipush 32, 2) := by decide +kernel
theorem d_D_valueReaching_7 : decode b_D_valueReaching 7 = .ok (.if_icmp .ge 33, 3) := by decide +kernel
theorem d_D_valueReaching_10 : decode b_D_valueReaching 10 = .ok (.iload_n 2, 1) := by decide +kernel
theorem d_D_valueReaching_11 : decode b_D_valueReaching 11 = .ok (.aload_n 0, 1) := by decide +kernel
theorem d_D_valueReaching_12 : decode b_D_valueReaching 12 = .ok (.iload_n 3, 1) := by decide +kernel
theorem d_D_valueReaching_13 : decode b_D_valueReaching 13 = .ok (.invokevirtual 31, 3) := by decide +kernel
theorem d_D_valueReaching_16 : decode b_D_valueReaching 16 = .ok (.iadd, 1) := by decide +kernel
theorem d_D_valueReaching_17 : decode b_D_valueReaching 17 = .ok (.istore_n 2, 1) := by decide +kernel
theorem d_D_valueReaching_18 : decode b_D_valueReaching 18 = .ok (.iload_n 2, 1) := by decide +kernel
theorem d_D_valueReaching_19 : decode b_D_valueReaching 19 = .ok (.iconst 1, 1) := by decide +kernel
theorem d_D_valueReaching_20 : decode b_D_valueReaching 20 = .ok (.if_icmp .lt 14, 3) := by decide +kernel
theorem d_D_valueReaching_23 : decode b_D_valueReaching 23 = .ok (.sipush 1000, 3) := by decide +kernel
theorem d_D_valueReaching_26 : decode b_D_valueReaching 26 = .ok (.iload_n 2, 1) := by decide +kernel
theorem d_D_valueReaching_27 : decode b_D_valueReaching 27 = .ok (.imul, 1) := by decide +kernel
theorem d_D_valueReaching_28 : decode b_D_valueReaching 28 = .ok (.iload_n 1, 1) := by decide +kernel
theorem d_D_valueReaching_29 : decode b_D_valueReaching 29 = .ok (.if_icmp .lt 5, 3) := by decide +kernel
theorem d_D_valueReaching_32 : decode b_D_valueReaching 32 = .ok (.iload_n 3, 1) := by decide +kernel
theorem d_D_valueReaching_33 : decode b_D_valueReaching 33 = .ok (.ireturn, 1) := by decide +kernel
theorem d_D_valueReaching_34 : decode b_D_valueReaching 34 = .ok (.iinc 3 1, 3) := by decide +kernel
theorem d_D_valueReaching_37 : decode b_D_valueReaching 37 = .ok (.goto (-33), 3) := by decide +kernel
theorem d_D_valueReaching_40 : decode b_D_valueReaching 40 = .ok (.iconst (-1), 1) := by decide +kernel
theorem d_D_valueReaching_41 : decode b_D_valueReaching 41 = .ok (.ireturn, 1) := by decide +kernel
theorem d_M_init_0 : decode b_M_init 0 = .ok (.aload_n 0, 1) := by decide +kernel
theorem d_M_init_1 : decode b_M_init 1 = .ok (.invokespecial 1, 3) := by decide +kernel
theorem d_M_init_4 : decode b_M_init 4 = .ok (.aload_n 0, 1) := by decide +kernel
theorem d_M_init_5 : decode b_M_init 5 = .ok (.iconst 0, 1) := by decide +kernel
theorem d_M_init_6 : decode b_M_init 6 = .ok (.putfield 7, 3) := by decide +kernel
theorem d_M_init_9 : decode b_M_init 9 = .ok (.aload_n 0, 1) := by decide +kernel
theorem d_M_init_10 : decode b_M_init 10 = .ok (.iconst 0, 1) := by decide +kernel
theorem d_M_init_11 : decode b_M_init 11 = .ok (.putfield 13, 3) := by decide +kernel
theorem d_M_init_14 : decode b_M_init 14 = .ok (.aload_n 0, 1) := by decide +kernel
theorem d_M_init_15 : decode b_M_init 15 = .ok (.iconst 0, 1) := by decide +kernel
theorem d_M_init_16 : decode b_M_init 16 = .ok (.putfield 16, 3) := by decide +kernel
theorem d_M_init_19 : decode b_M_init 19 = .ok (.aload_n 0, 1) := by decide +kernel
theorem d_M_init_20 : decode b_M_init 20 = .ok (.new 19, 3) := by decide +kernel
theorem d_M_init_23 : decode b_M_init 23 = .ok (.dup, 1) := by decide +kernel
theorem d_M_init_24 : decode b_M_init 24 = .ok (.iload_n 1, 1) := by decide +kernel
theorem d_M_init_25 : decode b_M_init 25 = .ok (.iload_n 2, 1) := by decide +kernel
theorem d_M_init_26 : decode b_M_init 26 = .ok (.invokespecial 21, 3) := by decide +kernel
theorem d_M_init_29 : decode b_M_init 29 = .ok (.putfield 24, 3) := by decide +kernel
theorem d_M_init_32 : decode b_M_init 32 = .ok (.return_, 1) := by decide +kernel
theorem d_M_send_0 : decode b_M_send 0 = .ok (.aload_n 0, 1) := by decide +kernel
theorem d_M_send_1 : decode b_M_send 1 = .ok (.iload_n 1, 1) := by decide +kernel
theorem d_M_send_2 : decode b_M_send 2 = .ok (.putfield 7, 3) := by decide +kernel
theorem d_M_send_5 : decode b_M_send 5 = .ok (.aload_n 0, 1) := by decide +kernel
theorem d_M_send_6 : decode b_M_send 6 = .ok (.iload_n 2, 1) := by decide +kernel
theorem d_M_send_7 : decode b_M_send 7 = .ok (.putfield 13, 3) := by decide +kernel
theorem d_M_send_10 : decode b_M_send 10 = .ok (.aload_n 0, 1) := by decide +kernel
theorem d_M_send_11 : decode b_M_send 11 = .ok (.iload_n 3, 1) := by decide +kernel
theorem d_M_send_12 : decode b_M_send 12 = .ok (.putfield 16, 3) := by decide +kernel
theorem d_M_send_15 : decode b_M_send 15 = .ok (.aload_n 0, 1) := by decide +kernel
theorem d_M_send_16 : decode b_M_send 16 = .ok (.getfield 24, 3) := by decide +kernel
theorem d_M_send_19 : decode b_M_send 19 = .ok (.aload 4, 2) := by decide +kernel
theorem d_M_send_21 : decode b_M_send 21 = .ok (.invokevirtual 28, 3) := by decide +kernel
theorem d_M_send_24 : decode b_M_send 24 = .ok (.return_, 1) := by decide +kernel
theorem d_N_init_0 : decode b_N_init 0 = .ok (.aload_n 0, 1) := by decide +kernel
theorem d_N_init_1 : decode b_N_init 1 = .ok (.invokespecial 3, 3) := by decide +kernel
theorem d_N_init_4 : decode b_N_init 4 = .ok (.aload_n 0, 1) := by decide +kernel
theorem d_N_init_5 : decode b_N_init 5 = .ok (.iconst (-1), 1) := by decide +kernel
theorem d_N_init_6 : decode b_N_init 6 = .ok (.putfield 9, 3) := by decide +kernel
theorem d_N_init_9 : decode b_N_init 9 = .ok (.aload_n 0, 1) := by decide +kernel
theorem d_N_init_10 : decode b_N_init 10 = .ok (.iconst 0, 1) := by decide +kernel
theorem d_N_init_11 : decode b_N_init 11 = .ok (.putfield 15, 3) := by decide +kernel
theorem d_N_init_14 : decode b_N_init 14 = .ok (.aload_n 0, 1) := by decide +kernel
theorem d_N_init_15 : decode b_N_init 15 = .ok (.iconst 4, 1) := by decide +kernel
theorem d_N_init_16 : decode b_N_init 16 = .ok (.newarray .int, 2) := by decide +kernel
theorem d_N_init_18 : decode b_N_init 18 = .ok (.putfield 19, 3) := by decide +kernel
theorem d_N_init_21 : decode b_N_init 21 = .ok (.aload_n 0, 1) := by decide +kernel
theorem d_N_init_22 : decode b_N_init 22 = .ok (.iconst 0, 1) := by decide +kernel
theorem d_N_init_23 : decode b_N_init 23 = .ok (.putfield 23, 3) := by decide +kernel
theorem d_N_init_26 : decode b_N_init 26 = .ok (.aload_n 0, 1) := by decide +kernel
theorem d_N_init_27 : decode b_N_init 27 = .ok (.iconst 0, 1) := by decide +kernel
theorem d_N_init_28 : decode b_N_init 28 = .ok (.putfield 26, 3) := by decide +kernel
theorem d_N_init_31 : decode b_N_init 31 = .ok (.aload_n 0, 1) := by decide +kernel
theorem d_N_init_32 : decode b_N_init 32 = .ok (.iconst 0, 1) := by decide +kernel
theorem d_N_init_33 : decode b_N_init 33 = .ok (.putfield 29, 3) := by decide +kernel
theorem d_N_init_36 : decode b_N_init 36 = .ok (.aload_n 0, 1) := by decide +kernel
theorem d_N_init_37 : decode b_N_init 37 = .ok (.iload_n 1, 1) := by decide +kernel
theorem d_N_init_38 : decode b_N_init 38 = .ok (.putfield 32, 3) := by decide +kernel
theorem d_N_init_41 : decode b_N_init 41 = .ok (.aload_n 0, 1) := by decide +kernel
theorem d_N_init_42 : decode b_N_init 42 = .ok (.new 35, 3) := by decide +kernel
theorem d_N_init_45 : decode b_N_init 45 = .ok (.dup, 1) := by decide +kernel
theorem d_N_init_46 : decode b_N_init 46 = .ok (.iload_n 2, 1) := by decide +kernel
theorem d_N_init_47 : decode b_N_init 47 = .ok (.iload_n 3, 1) := by decide +kernel
theorem d_N_init_48 : decode b_N_init 48 = .ok (.invokespecial 37, 3) := by decide +kernel
theorem d_N_init_51 : decode b_N_init 51 = .ok (.putfield 40, 3) := by decide +kernel
theorem d_N_init_54 : decode b_N_init 54 = .ok (.aload_n 0, 1) := by decide +kernel
theorem d_N_init_55 : decode b_N_init 55 = .ok (.new 35, 3) := by decide +kernel
theorem d_N_init_58 : decode b_N_init 58 = .ok (.dup, 1) := by decide +kernel
theorem d_N_init_59 : decode b_N_init 59 = .ok (.iload_n 2, 1) := by decide +kernel
theorem d_N_init_60 : decode b_N_init 60 = .ok (.iload_n 3, 1) := by decide +kernel
theorem d_N_init_61 : decode b_N_init 61 = .ok (.invokespecial 37, 3) := by decide +kernel
theorem d_N_init_64 : decode b_N_init 64 = .ok (.putfield 44, 3) := by decide +kernel
theorem d_N_init_67 : decode b_N_init 67 = .ok (.return_, 1) := by decide +kernel
theorem d_N_itemCount_0 : decode b_N_itemCount 0 = .ok (.aload_n 0, 1) := by decide +kernel
theorem d_N_itemCount_1 : decode b_N_itemCount 1 = .ok (.getfield 40, 3) := by decide +kernel
theorem d_N_itemCount_4 : decode b_N_itemCount 4 = .ok (.getfield 47, 3) := by decide +kernel
theorem d_N_itemCount_7 : decode b_N_itemCount 7 = .ok (.aload_n 0, 1) := by decide +kernel
theorem d_N_itemCount_8 : decode b_N_itemCount 8 = .ok (.getfield 23, 3) := by decide +kernel
theorem d_N_itemCount_11 : decode b_N_itemCount 11 = .ok (.iadd, 1) := by decide +kernel
theorem d_N_itemCount_12 : decode b_N_itemCount 12 = .ok (.ireturn, 1) := by decide +kernel
theorem d_N_putIntoOpenBlock_0 : decode b_N_putIntoOpenBlock 0 = .ok (.aload_n 0, 1) := by decide +kernel
theorem d_N_putIntoOpenBlock_1 : decode b_N_putIntoOpenBlock 1 = .ok (.getfield 19, 3) := by decide +kernel
theorem d_N_putIntoOpenBlock_4 : decode b_N_putIntoOpenBlock 4 = .ok (.aload_n 0, 1) := by decide +kernel
theorem d_N_putIntoOpenBlock_5 : decode b_N_putIntoOpenBlock 5 = .ok (.getfield 23, 3) := by decide +kernel
theorem d_N_putIntoOpenBlock_8 : decode b_N_putIntoOpenBlock 8 = .ok (.iload_n 1, 1) := by decide +kernel
theorem d_N_putIntoOpenBlock_9 : decode b_N_putIntoOpenBlock 9 = .ok (.iastore, 1) := by decide +kernel
theorem d_N_putIntoOpenBlock_10 : decode b_N_putIntoOpenBlock 10 = .ok (.aload_n 0, 1) := by decide +kernel
theorem d_N_putIntoOpenBlock_11 : decode b_N_putIntoOpenBlock 11 = .ok (.dup, 1) := by decide +kernel
theorem d_N_putIntoOpenBlock_12 : decode b_N_putIntoOpenBlock 12 = .ok (.getfield 23, 3) := by decide +kernel
theorem d_N_putIntoOpenBlock_15 : decode b_N_putIntoOpenBlock 15 = .ok (.iconst 1, 1) := by decide +kernel
theorem d_N_putIntoOpenBlock_16 : decode b_N_putIntoOpenBlock 16 = .ok (.iadd, 1) := by decide +kernel
theorem d_N_putIntoOpenBlock_17 : decode b_N_putIntoOpenBlock 17 = .ok (.putfield 23, 3) := by decide +kernel
theorem d_N_putIntoOpenBlock_20 : decode b_N_putIntoOpenBlock 20 = .ok (.aload_n 0, 1) := by decide +kernel
theorem d_N_putIntoOpenBlock_21 : decode b_N_putIntoOpenBlock 21 = .ok (.getfield 23, 3) := by decide +kernel
theorem d_N_putIntoOpenBlock_24 : decode b_N_putIntoOpenBlock 24 = .ok (.iconst 4, 1) := by decide +kernel
theorem d_N_putIntoOpenBlock_25 : decode b_N_putIntoOpenBlock 25 = .ok (.if_icmp .ne 8, 3) := by decide +kernel
theorem d_N_putIntoOpenBlock_28 : decode b_N_putIntoOpenBlock 28 = .ok (.aload_n 0, 1) := by decide +kernel
theorem d_N_putIntoOpenBlock_29 : decode b_N_putIntoOpenBlock 29 = .ok (.invokevirtual 50, 3) := by decide +kernel
theorem d_N_putIntoOpenBlock_32 : decode b_N_putIntoOpenBlock 32 = .ok (.pop, 1) := by decide +kernel
theorem d_N_putIntoOpenBlock_33 : decode b_N_putIntoOpenBlock 33 = .ok (.return_, 1) := by decide +kernel
theorem d_N_writeOpenBlock_0 : decode b_N_writeOpenBlock 0 = .ok (.aload_n 0, 1) := by decide +kernel
theorem d_N_writeOpenBlock_1 : decode b_N_writeOpenBlock 1 = .ok (.getfield 23, 3) := by decide +kernel
theorem d_N_writeOpenBlock_4 : decode b_N_writeOpenBlock 4 = .ok (.istore_n 1, 1) := by decide +kernel
theorem d_N_writeOpenBlock_5 : decode b_N_writeOpenBlock 5 = .ok (.iconst 0, 1) := by decide +kernel
theorem d_N_writeOpenBlock_6 : decode b_N_writeOpenBlock 6 = .ok (.istore_n 2, 1) := by decide +kernel
theorem d_N_writeOpenBlock_7 : decode b_N_writeOpenBlock 7 = .ok (.iload_n 2, 1) := by decide +kernel
theorem d_N_writeOpenBlock_8 : decode b_N_writeOpenBlock 8 = .ok (.iload_n 1, 1) := by decide +kernel
theorem d_N_writeOpenBlock_9 : decode b_N_writeOpenBlock 9 = .ok (.if_icmp .ge 26, 3) := by decide +kernel
theorem d_N_writeOpenBlock_12 : decode b_N_writeOpenBlock 12 = .ok (.aload_n 0, 1) := by decide +kernel
theorem d_N_writeOpenBlock_13 : decode b_N_writeOpenBlock 13 = .ok (.getfield 40, 3) := by decide +kernel
theorem d_N_writeOpenBlock_16 : decode b_N_writeOpenBlock 16 = .ok (.aload_n 0, 1) := by decide +kernel
theorem d_N_writeOpenBlock_17 : decode b_N_writeOpenBlock 17 = .ok (.getfield 19, 3) := by decide +kernel
theorem d_N_writeOpenBlock_20 : decode b_N_writeOpenBlock 20 = .ok (.iload_n 2, 1) := by decide +kernel
theorem d_N_writeOpenBlock_21 : decode b_N_writeOpenBlock 21 = .ok (.iaload, 1) := by decide +kernel
theorem d_N_writeOpenBlock_22 : decode b_N_writeOpenBlock 22 = .ok (.aload_n 0, 1) := by decide +kernel
theorem d_N_writeOpenBlock_23 : decode b_N_writeOpenBlock 23 = .ok (.getfield 32, 3) := by decide +kernel
theorem d_N_writeOpenBlock_26 : decode b_N_writeOpenBlock 26 = .ok (.invokevirtual 54, 3) := by decide +kernel
theorem d_N_writeOpenBlock_29 : decode b_N_writeOpenBlock 29 = .ok (.iinc 2 1, 3) := by decide +kernel
theorem d_N_writeOpenBlock_32 : decode b_N_writeOpenBlock 32 = .ok (.goto (-25), 3) := by decide +kernel
theorem d_N_writeOpenBlock_35 : decode b_N_writeOpenBlock 35 = .ok (.aload_n 0, 1) := by decide +kernel
theorem d_N_writeOpenBlock_36 : decode b_N_writeOpenBlock 36 = .ok (.iconst 0, 1) := by decide +kernel
theorem d_N_writeOpenBlock_37 : decode b_N_writeOpenBlock 37 = .ok (.putfield 23, 3) := by decide +kernel
theorem d_N_writeOpenBlock_40 : decode b_N_writeOpenBlock 40 = .ok (.iload_n 1, 1) := by decide +kernel
theorem d_N_writeOpenBlock_41 : decode b_N_writeOpenBlock 41 = .ok (.ireturn, 1) := by decide +kernel
theorem d_S_init_0 : decode b_S_init 0 = .ok (.aload_n 0, 1) := by decide +kernel
theorem d_S_init_1 : decode b_S_init 1 = .ok (.invokespecial 3, 3) := by decide +kernel
theorem d_S_init_4 : decode b_S_init 4 = .ok (.aload_n 0, 1) := by decide +kernel
theorem d_S_init_5 : decode b_S_init 5 = .ok (.iconst 0, 1) := by decide +kernel
theorem d_S_init_6 : decode b_S_init 6 = .ok (.putfield 9, 3) := by decide +kernel
theorem d_S_init_9 : decode b_S_init 9 = .ok (.aload_n 0, 1) := by decide +kernel
theorem d_S_init_10 : decode b_S_init 10 = .ok (.lconst 0, 1) := by decide +kernel
theorem d_S_init_11 : decode b_S_init 11 = .ok (.putfield 15, 3) := by decide +kernel
theorem d_S_init_14 : decode b_S_init 14 = .ok (.aload_n 0, 1) := by decide +kernel
theorem d_S_init_15 : decode b_S_init 15 = .ok (.iconst 0, 1) := by decide +kernel
theorem d_S_init_16 : decode b_S_init 16 = .ok (.putfield 19, 3) := by decide +kernel
theorem d_S_init_19 : decode b_S_init 19 = .ok (.aload_n 0, 1) := by decide +kernel
theorem d_S_init_20 : decode b_S_init 20 = .ok (.iconst 0, 1) := by decide +kernel
theorem d_S_init_21 : decode b_S_init 21 = .ok (.putfield 22, 3) := by decide +kernel
theorem d_S_init_24 : decode b_S_init 24 = .ok (.aload_n 0, 1) := by decide +kernel
theorem d_S_init_25 : decode b_S_init 25 = .ok (.bipush 12, 2) := by decide +kernel
theorem d_S_init_27 : decode b_S_init 27 = .ok (.newarray .int, 2) := by decide +kernel
theorem d_S_init_29 : decode b_S_init 29 = .ok (.putfield 25, 3) := by decide +kernel
theorem d_S_init_32 : decode b_S_init 32 = .ok (.aload_n 0, 1) := by decide +kernel
theorem d_S_init_33 : decode b_S_init 33 = .ok (.new 29, 3) := by decide +kernel
theorem d_S_init_36 : decode b_S_init 36 = .ok (.dup, 1) := by decide +kernel
theorem d_S_init_37 : decode b_S_init 37 = .ok (.iload_n 1, 1) := by decide +kernel
theorem d_S_init_38 : decode b_S_init 38 = .ok (.invokespecial 31, 3) := by decide +kernel
theorem d_S_init_41 : decode b_S_init 41 = .ok (.putfield 34, 3) := by decide +kernel
theorem d_S_init_44 : decode b_S_init 44 = .ok (.aload_n 0, 1) := by decide +kernel
theorem d_S_init_45 : decode b_S_init 45 = .ok (.new 38, 3) := by decide +kernel
theorem d_S_init_48 : decode b_S_init 48 = .ok (.dup, 1) := by decide +kernel
theorem d_S_init_49 : decode b_S_init 49 = .ok (.iload_n 2, 1) := by decide +kernel
theorem d_S_init_50 : decode b_S_init 50 = .ok (.invokespecial 40, 3) := by decide +kernel
theorem d_S_init_53 : decode b_S_init 53 = .ok (.putfield 41, 3) := by decide +kernel
theorem d_S_init_56 : decode b_S_init 56 = .ok (.return_, 1) := by decide +kernel
theorem d_S_makeEmpty_0 : decode b_S_makeEmpty 0 = .ok (.aload_n 0, 1) := by decide +kernel
theorem d_S_makeEmpty_1 : decode b_S_makeEmpty 1 = .ok (.iconst 0, 1) := by decide +kernel
theorem d_S_makeEmpty_2 : decode b_S_makeEmpty 2 = .ok (.putfield 9, 3) := by decide +kernel
theorem d_S_makeEmpty_5 : decode b_S_makeEmpty 5 = .ok (.aload_n 0, 1) := by decide +kernel
theorem d_S_makeEmpty_6 : decode b_S_makeEmpty 6 = .ok (.lconst 0, 1) := by decide +kernel
theorem d_S_makeEmpty_7 : decode b_S_makeEmpty 7 = .ok (.putfield 15, 3) := by decide +kernel
theorem d_S_makeEmpty_10 : decode b_S_makeEmpty 10 = .ok (.aload_n 0, 1) := by decide +kernel
theorem d_S_makeEmpty_11 : decode b_S_makeEmpty 11 = .ok (.getfield 25, 3) := by decide +kernel
theorem d_S_makeEmpty_14 : decode b_S_makeEmpty 14 = .ok (.invokestatic 45, 3) := by decide +kernel
theorem d_S_makeEmpty_17 : decode b_S_makeEmpty 17 = .ok (.aload_n 0, 1) := by decide +kernel
theorem d_S_makeEmpty_18 : decode b_S_makeEmpty 18 = .ok (.getfield 34, 3) := by decide +kernel
theorem d_S_makeEmpty_21 : decode b_S_makeEmpty 21 = .ok (.getfield 49, 3) := by decide +kernel
theorem d_S_makeEmpty_24 : decode b_S_makeEmpty 24 = .ok (.invokestatic 45, 3) := by decide +kernel
theorem d_S_makeEmpty_27 : decode b_S_makeEmpty 27 = .ok (.aload_n 0, 1) := by decide +kernel
theorem d_S_makeEmpty_28 : decode b_S_makeEmpty 28 = .ok (.getfield 41, 3) := by decide +kernel
theorem d_S_makeEmpty_31 : decode b_S_makeEmpty 31 = .ok (.getfield 52, 3) := by decide +kernel
theorem d_S_makeEmpty_34 : decode b_S_makeEmpty 34 = .ok (.invokestatic 45, 3) := by decide +kernel
theorem d_S_makeEmpty_37 : decode b_S_makeEmpty 37 = .ok (.return_, 1) := by decide +kernel
theorem d_S_setTo_0 : decode b_S_setTo 0 = .ok (.aload_n 0, 1) := by decide +kernel
theorem d_S_setTo_1 : decode b_S_setTo 1 = .ok (.aload_n 1, 1) := by decide +kernel
theorem d_S_setTo_2 : decode b_S_setTo 2 = .ok (.getfield 9, 3) := by decide +kernel
theorem d_S_setTo_5 : decode b_S_setTo 5 = .ok (.putfield 9, 3) := by decide +kernel
theorem d_S_setTo_8 : decode b_S_setTo 8 = .ok (.aload_n 0, 1) := by decide +kernel
theorem d_S_setTo_9 : decode b_S_setTo 9 = .ok (.aload_n 1, 1) := by decide +kernel
theorem d_S_setTo_10 : decode b_S_setTo 10 = .ok (.getfield 15, 3) := by decide +kernel
theorem d_S_setTo_13 : decode b_S_setTo 13 = .ok (.putfield 15, 3) := by decide +kernel
theorem d_S_setTo_16 : decode b_S_setTo 16 = .ok (.aload_n 0, 1) := by decide +kernel
theorem d_S_setTo_17 : decode b_S_setTo 17 = .ok (.aload_n 1, 1) := by decide +kernel
theorem d_S_setTo_18 : decode b_S_setTo 18 = .ok (.getfield 19, 3) := by decide +kernel
theorem d_S_setTo_21 : decode b_S_setTo 21 = .ok (.putfield 19, 3) := by decide +kernel
theorem d_S_setTo_24 : decode b_S_setTo 24 = .ok (.aload_n 0, 1) := by decide +kernel
theorem d_S_setTo_25 : decode b_S_setTo 25 = .ok (.aload_n 1, 1) := by decide +kernel
theorem d_S_setTo_26 : decode b_S_setTo 26 = .ok (.getfield 22, 3) := by decide +kernel
theorem d_S_setTo_29 : decode b_S_setTo 29 = .ok (.putfield 22, 3) := by decide +kernel
theorem d_S_setTo_32 : decode b_S_setTo 32 = .ok (.aload_n 0, 1) := by decide +kernel
theorem d_S_setTo_33 : decode b_S_setTo 33 = .ok (.getfield 25, 3) := by decide +kernel
theorem d_S_setTo_36 : decode b_S_setTo 36 = .ok (.aload_n 1, 1) := by decide +kernel
theorem d_S_setTo_37 : decode b_S_setTo 37 = .ok (.getfield 25, 3) := by decide +kernel
theorem d_S_setTo_40 : decode b_S_setTo 40 = .ok (.invokestatic 53, 3) := by decide +kernel
theorem d_S_setTo_43 : decode b_S_setTo 43 = .ok (.aload_n 0, 1) := by decide +kernel
theorem d_S_setTo_44 : decode b_S_setTo 44 = .ok (.getfield 34, 3) := by decide +kernel
theorem d_S_setTo_47 : decode b_S_setTo 47 = .ok (.getfield 49, 3) := by decide +kernel
theorem d_S_setTo_50 : decode b_S_setTo 50 = .ok (.aload_n 1, 1) := by decide +kernel
theorem d_S_setTo_51 : decode b_S_setTo 51 = .ok (.getfield 34, 3) := by decide +kernel
theorem d_S_setTo_54 : decode b_S_setTo 54 = .ok (.getfield 49, 3) := by decide +kernel
theorem d_S_setTo_57 : decode b_S_setTo 57 = .ok (.invokestatic 53, 3) := by decide +kernel
theorem d_S_setTo_60 : decode b_S_setTo 60 = .ok (.aload_n 0, 1) := by decide +kernel
theorem d_S_setTo_61 : decode b_S_setTo 61 = .ok (.getfield 41, 3) := by decide +kernel
theorem d_S_setTo_64 : decode b_S_setTo 64 = .ok (.getfield 52, 3) := by decide +kernel
theorem d_S_setTo_67 : decode b_S_setTo 67 = .ok (.aload_n 1, 1) := by decide +kernel
theorem d_S_setTo_68 : decode b_S_setTo 68 = .ok (.getfield 41, 3) := by decide +kernel
theorem d_S_setTo_71 : decode b_S_setTo 71 = .ok (.getfield 52, 3) := by decide +kernel
theorem d_S_setTo_74 : decode b_S_setTo 74 = .ok (.invokestatic 53, 3) := by decide +kernel
theorem d_S_setTo_77 : decode b_S_setTo 77 = .ok (.return_, 1) := by decide +kernel
theorem d_S_take_0 : decode b_S_take 0 = .ok (.aload_n 0, 1) := by decide +kernel
theorem d_S_take_1 : decode b_S_take 1 = .ok (.iload_n 1, 1) := by decide +kernel
theorem d_S_take_2 : decode b_S_take 2 = .ok (.iload_n 1, 1) := by decide +kernel
theorem d_S_take_3 : decode b_S_take 3 = .ok (.invokevirtual 57, 3) := by decide +kernel
theorem d_S_take_6 : decode b_S_take 6 = .ok (.aload_n 0, 1) := by decide +kernel
theorem d_S_take_7 : decode b_S_take 7 = .ok (.dup, 1) := by decide +kernel
theorem d_S_take_8 : decode b_S_take 8 = .ok (.getfield 9, 3) := by decide +kernel
theorem d_S_take_11 : decode b_S_take 11 = .ok (.iconst 1, 1) := by decide +kernel
theorem d_S_take_12 : decode b_S_take 12 = .ok (.iadd, 1) := by decide +kernel
theorem d_S_take_13 : decode b_S_take 13 = .ok (.putfield 9, 3) := by decide +kernel
theorem d_S_take_16 : decode b_S_take 16 = .ok (.aload_n 0, 1) := by decide +kernel
theorem d_S_take_17 : decode b_S_take 17 = .ok (.dup, 1) := by decide +kernel
theorem d_S_take_18 : decode b_S_take 18 = .ok (.getfield 15, 3) := by decide +kernel
theorem d_S_take_21 : decode b_S_take 21 = .ok (.iload_n 1, 1) := by decide +kernel
theorem d_S_take_22 : decode b_S_take 22 = .ok (.i2l, 1) := by decide +kernel
theorem d_S_take_23 : decode b_S_take 23 = .ok (.ladd, 1) := by decide +kernel
theorem d_S_take_24 : decode b_S_take 24 = .ok (.putfield 15, 3) := by decide +kernel
theorem d_S_take_27 : decode b_S_take 27 = .ok (.aload_n 0, 1) := by decide +kernel
theorem d_S_take_28 : decode b_S_take 28 = .ok (.getfield 25, 3) := by decide +kernel
theorem d_S_take_31 : decode b_S_take 31 = .ok (.iload_n 2, 1) := by decide +kernel
theorem d_S_take_32 : decode b_S_take 32 = .ok (.dup2, 1) := by decide +kernel
theorem d_S_take_33 : decode b_S_take 33 = .ok (.iaload, 1) := by decide +kernel
theorem d_S_take_34 : decode b_S_take 34 = .ok (.iconst 1, 1) := by decide +kernel
theorem d_S_take_35 : decode b_S_take 35 = .ok (.iadd, 1) := by decide +kernel
theorem d_S_take_36 : decode b_S_take 36 = .ok (.iastore, 1) := by decide +kernel
theorem d_S_take_37 : decode b_S_take 37 = .ok (.aload_n 0, 1) := by decide +kernel
theorem d_S_take_38 : decode b_S_take 38 = .ok (.getfield 34, 3) := by decide +kernel
theorem d_S_take_41 : decode b_S_take 41 = .ok (.iload_n 1, 1) := by decide +kernel
theorem d_S_take_42 : decode b_S_take 42 = .ok (.invokevirtual 61, 3) := by decide +kernel
theorem d_S_take_45 : decode b_S_take 45 = .ok (.aload_n 0, 1) := by decide +kernel
theorem d_S_take_46 : decode b_S_take 46 = .ok (.getfield 41, 3) := by decide +kernel
theorem d_S_take_49 : decode b_S_take 49 = .ok (.iload_n 1, 1) := by decide +kernel
theorem d_S_take_50 : decode b_S_take 50 = .ok (.aload_n 0, 1) := by decide +kernel
theorem d_S_take_51 : decode b_S_take 51 = .ok (.getfield 9, 3) := by decide +kernel
theorem d_S_take_54 : decode b_S_take 54 = .ok (.invokevirtual 64, 3) := by decide +kernel
theorem d_S_take_57 : decode b_S_take 57 = .ok (.return_, 1) := by decide +kernel
theorem d_S_merge_0 : decode b_S_merge 0 = .ok (.aload_n 0, 1) := by decide +kernel
theorem d_S_merge_1 : decode b_S_merge 1 = .ok (.aload_n 1, 1) := by decide +kernel
theorem d_S_merge_2 : decode b_S_merge 2 = .ok (.getfield 19, 3) := by decide +kernel
theorem d_S_merge_5 : decode b_S_merge 5 = .ok (.aload_n 1, 1) := by decide +kernel
theorem d_S_merge_6 : decode b_S_merge 6 = .ok (.getfield 22, 3) := by decide +kernel
theorem d_S_merge_9 : decode b_S_merge 9 = .ok (.invokevirtual 57, 3) := by decide +kernel
theorem d_S_merge_12 : decode b_S_merge 12 = .ok (.aload_n 0, 1) := by decide +kernel
theorem d_S_merge_13 : decode b_S_merge 13 = .ok (.dup, 1) := by decide +kernel
theorem d_S_merge_14 : decode b_S_merge 14 = .ok (.getfield 9, 3) := by decide +kernel
theorem d_S_merge_17 : decode b_S_merge 17 = .ok (.aload_n 1, 1) := by decide +kernel
theorem d_S_merge_18 : decode b_S_merge 18 = .ok (.getfield 9, 3) := by decide +kernel
theorem d_S_merge_21 : decode b_S_merge 21 = .ok (.iadd, 1) := by decide +kernel
theorem d_S_merge_22 : decode b_S_merge 22 = .ok (.putfield 9, 3) := by decide +kernel
theorem d_S_merge_25 : decode b_S_merge 25 = .ok (.aload_n 0, 1) := by decide +kernel
theorem d_S_merge_26 : decode b_S_merge 26 = .ok (.dup, 1) := by decide +kernel
theorem d_S_merge_27 : decode b_S_merge 27 = .ok (.getfield 15, 3) := by decide +kernel
theorem d_S_merge_30 : decode b_S_merge 30 = .ok (.aload_n 1, 1) := by decide +kernel
theorem d_S_merge_31 : decode b_S_merge 31 = .ok (.getfield 15, 3) := by decide +kernel
theorem d_S_merge_34 : decode b_S_merge 34 = .ok (.ladd, 1) := by decide +kernel
theorem d_S_merge_35 : decode b_S_merge 35 = .ok (.putfield 15, 3) := by decide +kernel
theorem d_S_merge_38 : decode b_S_merge 38 = .ok (.aload_n 0, 1) := by decide +kernel
theorem d_S_merge_39 : decode b_S_merge 39 = .ok (.getfield 25, 3) := by decide +kernel
theorem d_S_merge_42 : decode b_S_merge 42 = .ok (.aload_n 1, 1) := by decide +kernel
theorem d_S_merge_43 : decode b_S_merge 43 = .ok (.getfield 25, 3) := by decide +kernel
theorem d_S_merge_46 : decode b_S_merge 46 = .ok (.invokestatic 66, 3) := by decide +kernel
theorem d_S_merge_49 : decode b_S_merge 49 = .ok (.aload_n 0, 1) := by decide +kernel
theorem d_S_merge_50 : decode b_S_merge 50 = .ok (.getfield 34, 3) := by decide +kernel
theorem d_S_merge_53 : decode b_S_merge 53 = .ok (.aload_n 1, 1) := by decide +kernel
theorem d_S_merge_54 : decode b_S_merge 54 = .ok (.getfield 34, 3) := by decide +kernel
theorem d_S_merge_57 : decode b_S_merge 57 = .ok (.invokevirtual 69, 3) := by decide +kernel
theorem d_S_merge_60 : decode b_S_merge 60 = .ok (.aload_n 0, 1) := by decide +kernel
theorem d_S_merge_61 : decode b_S_merge 61 = .ok (.getfield 41, 3) := by decide +kernel
theorem d_S_merge_64 : decode b_S_merge 64 = .ok (.aload_n 1, 1) := by decide +kernel
theorem d_S_merge_65 : decode b_S_merge 65 = .ok (.getfield 41, 3) := by decide +kernel
theorem d_S_merge_68 : decode b_S_merge 68 = .ok (.aload_n 0, 1) := by decide +kernel
theorem d_S_merge_69 : decode b_S_merge 69 = .ok (.getfield 9, 3) := by decide +kernel
theorem d_S_merge_72 : decode b_S_merge 72 = .ok (.invokevirtual 73, 3) := by decide +kernel
theorem d_S_merge_75 : decode b_S_merge 75 = .ok (.return_, 1) := by decide +kernel
theorem d_S_widen_0 : decode b_S_widen 0 = .ok (.aload_n 0, 1) := by decide +kernel
theorem d_S_widen_1 : decode b_S_widen 1 = .ok (.aload_n 0, 1) := by decide +kernel
theorem d_S_widen_2 : decode b_S_widen 2 = .ok (.getfield 9, 3) := by decide +kernel
theorem d_S_widen_5 : decode b_S_widen 5 = .ok (.ifCond .ne 7, 3) := by decide +kernel
theorem d_S_widen_8 : decode b_S_widen 8 = .ok (.iload_n 1, 1) := by decide +kernel
theorem d_S_widen_9 : decode b_S_widen 9 = .ok (.goto 11, 3) := by decide +kernel
theorem d_S_widen_12 : decode b_S_widen 12 = .ok (.aload_n 0, 1) := by decide +kernel
theorem d_S_widen_13 : decode b_S_widen 13 = .ok (.getfield 19, 3) := by decide +kernel
theorem d_S_widen_16 : decode b_S_widen 16 = .ok (.iload_n 1, 1) := by decide +kernel
theorem d_S_widen_17 : decode b_S_widen 17 = .ok (.invokestatic 76, 3) := by decide +kernel
theorem d_S_widen_20 : decode b_S_widen 20 = .ok (.putfield 19, 3) := by decide +kernel
theorem d_S_widen_23 : decode b_S_widen 23 = .ok (.aload_n 0, 1) := by decide +kernel
theorem d_S_widen_24 : decode b_S_widen 24 = .ok (.aload_n 0, 1) := by decide +kernel
theorem d_S_widen_25 : decode b_S_widen 25 = .ok (.getfield 9, 3) := by decide +kernel
theorem d_S_widen_28 : decode b_S_widen 28 = .ok (.ifCond .ne 7, 3) := by decide +kernel
theorem d_S_widen_31 : decode b_S_widen 31 = .ok (.iload_n 2, 1) := by decide +kernel
theorem d_S_widen_32 : decode b_S_widen 32 = .ok (.goto 11, 3) := by decide +kernel
theorem d_S_widen_35 : decode b_S_widen 35 = .ok (.aload_n 0, 1) := by decide +kernel
theorem d_S_widen_36 : decode b_S_widen 36 = .ok (.getfield 22, 3) := by decide +kernel
theorem d_S_widen_39 : decode b_S_widen 39 = .ok (.iload_n 2, 1) := by decide +kernel
theorem d_S_widen_40 : decode b_S_widen 40 = .ok (.invokestatic 82, 3) := by decide +kernel
theorem d_S_widen_43 : decode b_S_widen 43 = .ok (.putfield 22, 3) := by decide +kernel
theorem d_S_widen_46 : decode b_S_widen 46 = .ok (.return_, 1) := by decide +kernel
end
section
theorem d_T_init_0 : decode b_T_init 0 = .ok (.aload_n 0, 1) := by decide +kernel
theorem d_T_init_1 : decode b_T_init 1 = .ok (.invokespecial 1, 3) := by decide +kernel
theorem d_T_init_4 : decode b_T_init 4 = .ok (.aload_n 0, 1) := by decide +kernel
theorem d_T_init_5 : decode b_T_init 5 = .ok (.bipush 12, 2) := by decide +kernel
theorem d_T_init_7 : decode b_T_init 7 = .ok (.anewarray 9, 3) := by decide +kernel
theorem d_T_init_10 : decode b_T_init 10 = .ok (.putfield 11, 3) := by decide +kernel
theorem d_T_init_13 : decode b_T_init 13 = .ok (.aload_n 0, 1) := by decide +kernel
theorem d_T_init_14 : decode b_T_init 14 = .ok (.iconst 1, 1) := by decide +kernel
theorem d_T_init_15 : decode b_T_init 15 = .ok (.putfield 15, 3) := by decide +kernel
theorem d_T_init_18 : decode b_T_init 18 = .ok (.aload_n 0, 1) := by decide +kernel
theorem d_T_init_19 : decode b_T_init 19 = .ok (.bipush 12, 2) := by decide +kernel
theorem d_T_init_21 : decode b_T_init 21 = .ok (.anewarray 19, 3) := by decide +kernel
theorem d_T_init_24 : decode b_T_init 24 = .ok (.putfield 21, 3) := by decide +kernel
theorem d_T_init_27 : decode b_T_init 27 = .ok (.aload_n 0, 1) := by decide +kernel
theorem d_T_init_28 : decode b_T_init 28 = .ok (.iconst 0, 1) := by decide +kernel
theorem d_T_init_29 : decode b_T_init 29 = .ok (.putfield 25, 3) := by decide +kernel
theorem d_T_init_32 : decode b_T_init 32 = .ok (.iconst 1, 1) := by decide +kernel
theorem d_T_init_33 : decode b_T_init 33 = .ok (.bipush 6, 2) := by decide +kernel
theorem d_T_init_35 : decode b_T_init 35 = .ok (.iload_n 1, 1) := by decide +kernel
theorem d_T_init_36 : decode b_T_init 36 = .ok (.invokestatic 28, 3) := by decide +kernel
theorem d_T_init_39 : decode b_T_init 39 = .ok (.invokestatic 34, 3) := by decide +kernel
theorem d_T_init_42 : decode b_T_init 42 = .ok (.istore_n 3, 1) := by decide +kernel
theorem d_T_init_43 : decode b_T_init 43 = .ok (.iconst 2, 1) := by decide +kernel
theorem d_T_init_44 : decode b_T_init 44 = .ok (.bipush 16, 2) := by decide +kernel
theorem d_T_init_46 : decode b_T_init 46 = .ok (.iload_n 2, 1) := by decide +kernel
theorem d_T_init_47 : decode b_T_init 47 = .ok (.invokestatic 28, 3) := by decide +kernel
theorem d_T_init_50 : decode b_T_init 50 = .ok (.invokestatic 34, 3) := by decide +kernel
theorem d_T_init_53 : decode b_T_init 53 = .ok (.istore 4, 2) := by decide +kernel
theorem d_T_init_55 : decode b_T_init 55 = .ok (.iconst 0, 1) := by decide +kernel
theorem d_T_init_56 : decode b_T_init 56 = .ok (.istore 5, 2) := by decide +kernel
theorem d_T_init_58 : decode b_T_init 58 = .ok (.iload 5, 2) := by decide +kernel
theorem d_T_init_60 : decode b_T_init 60 = .ok (.bipush 12, 2) := by decide +kernel
theorem d_T_init_62 : decode b_T_init 62 = .ok (.if_icmp .ge 28, 3) := by decide +kernel
theorem d_T_init_65 : decode b_T_init 65 = .ok (.aload_n 0, 1) := by decide +kernel
theorem d_T_init_66 : decode b_T_init 66 = .ok (.getfield 11, 3) := by decide +kernel
theorem d_T_init_69 : decode b_T_init 69 = .ok (.iload 5, 2) := by decide +kernel
theorem d_T_init_71 : decode b_T_init 71 = .ok (.new 9, 3) := by decide +kernel
theorem d_T_init_74 : decode b_T_init 74 = .ok (.dup, 1) := by decide +kernel
theorem d_T_init_75 : decode b_T_init 75 = .ok (.iload 5, 2) := by decide +kernel
theorem d_T_init_77 : decode b_T_init 77 = .ok (.iload_n 3, 1) := by decide +kernel
theorem d_T_init_78 : decode b_T_init 78 = .ok (.iload 4, 2) := by decide +kernel
theorem d_T_init_80 : decode b_T_init 80 = .ok (.invokespecial 37, 3) := by decide +kernel
theorem d_T_init_83 : decode b_T_init 83 = .ok (.aastore, 1) := by decide +kernel
theorem d_T_init_84 : decode b_T_init 84 = .ok (.iinc 5 1, 3) := by decide +kernel
theorem d_T_init_87 : decode b_T_init 87 = .ok (.goto (-29), 3) := by decide +kernel
theorem d_T_init_90 : decode b_T_init 90 = .ok (.iconst 0, 1) := by decide +kernel
theorem d_T_init_91 : decode b_T_init 91 = .ok (.istore 5, 2) := by decide +kernel
theorem d_T_init_93 : decode b_T_init 93 = .ok (.iload 5, 2) := by decide +kernel
theorem d_T_init_95 : decode b_T_init 95 = .ok (.bipush 12, 2) := by decide +kernel
theorem d_T_init_97 : decode b_T_init 97 = .ok (.if_icmp .ge 26, 3) := by decide +kernel
theorem d_T_init_100 : decode b_T_init 100 = .ok (.aload_n 0, 1) := by decide +kernel
theorem d_T_init_101 : decode b_T_init 101 = .ok (.getfield 21, 3) := by decide +kernel
theorem d_T_init_104 : decode b_T_init 104 = .ok (.iload 5, 2) := by decide +kernel
theorem d_T_init_106 : decode b_T_init 106 = .ok (.new 19, 3) := by decide +kernel
theorem d_T_init_109 : decode b_T_init 109 = .ok (.dup, 1) := by decide +kernel
theorem d_T_init_110 : decode b_T_init 110 = .ok (.iload_n 3, 1) := by decide +kernel
theorem d_T_init_111 : decode b_T_init 111 = .ok (.iload 4, 2) := by decide +kernel
theorem d_T_init_113 : decode b_T_init 113 = .ok (.invokespecial 40, 3) := by decide +kernel
theorem d_T_init_116 : decode b_T_init 116 = .ok (.aastore, 1) := by decide +kernel
theorem d_T_init_117 : decode b_T_init 117 = .ok (.iinc 5 1, 3) := by decide +kernel
theorem d_T_init_120 : decode b_T_init 120 = .ok (.goto (-27), 3) := by decide +kernel
theorem d_T_init_123 : decode b_T_init 123 = .ok (.return_, 1) := by decide +kernel
theorem d_T_attach_0 : decode b_T_attach 0 = .ok (.aload_n 0, 1) := by decide +kernel
theorem d_T_attach_1 : decode b_T_attach 1 = .ok (.iload_n 1, 1) := by decide +kernel
theorem d_T_attach_2 : decode b_T_attach 2 = .ok (.invokevirtual 43, 3) := by decide +kernel
theorem d_T_attach_5 : decode b_T_attach 5 = .ok (.ifCond .eq 24, 3) := by decide +kernel
theorem d_T_attach_8 : decode b_T_attach 8 = .ok (.aload_n 0, 1) := by decide +kernel
theorem d_T_attach_9 : decode b_T_attach 9 = .ok (.getfield 11, 3) := by decide +kernel
theorem d_T_attach_12 : decode b_T_attach 12 = .ok (.iload_n 1, 1) := by decide +kernel
theorem d_T_attach_13 : decode b_T_attach 13 = .ok (.aaload, 1) := by decide +kernel
theorem d_T_attach_14 : decode b_T_attach 14 = .ok (.getfield 47, 3) := by decide +kernel
theorem d_T_attach_17 : decode b_T_attach 17 = .ok (.ifCond .ne 12, 3) := by decide +kernel
theorem d_T_attach_20 : decode b_T_attach 20 = .ok (.aload_n 0, 1) := by decide +kernel
theorem d_T_attach_21 : decode b_T_attach 21 = .ok (.getfield 15, 3) := by decide +kernel
theorem d_T_attach_24 : decode b_T_attach 24 = .ok (.bipush 12, 2) := by decide +kernel
theorem d_T_attach_26 : decode b_T_attach 26 = .ok (.if_icmp .lt 5, 3) := by decide +kernel
theorem d_T_attach_29 : decode b_T_attach 29 = .ok (.iconst (-1), 1) := by decide +kernel
theorem d_T_attach_30 : decode b_T_attach 30 = .ok (.ireturn, 1) := by decide +kernel
theorem d_T_attach_31 : decode b_T_attach 31 = .ok (.aload_n 0, 1) := by decide +kernel
theorem d_T_attach_32 : decode b_T_attach 32 = .ok (.getfield 15, 3) := by decide +kernel
theorem d_T_attach_35 : decode b_T_attach 35 = .ok (.istore_n 3, 1) := by decide +kernel
theorem d_T_attach_36 : decode b_T_attach 36 = .ok (.aload_n 0, 1) := by decide +kernel
theorem d_T_attach_37 : decode b_T_attach 37 = .ok (.getfield 11, 3) := by decide +kernel
theorem d_T_attach_40 : decode b_T_attach 40 = .ok (.iload_n 3, 1) := by decide +kernel
theorem d_T_attach_41 : decode b_T_attach 41 = .ok (.aaload, 1) := by decide +kernel
theorem d_T_attach_42 : decode b_T_attach 42 = .ok (.iload_n 1, 1) := by decide +kernel
theorem d_T_attach_43 : decode b_T_attach 43 = .ok (.putfield 51, 3) := by decide +kernel
theorem d_T_attach_46 : decode b_T_attach 46 = .ok (.aload_n 0, 1) := by decide +kernel
theorem d_T_attach_47 : decode b_T_attach 47 = .ok (.getfield 11, 3) := by decide +kernel
theorem d_T_attach_50 : decode b_T_attach 50 = .ok (.iload_n 3, 1) := by decide +kernel
theorem d_T_attach_51 : decode b_T_attach 51 = .ok (.aaload, 1) := by decide +kernel
theorem d_T_attach_52 : decode b_T_attach 52 = .ok (.iload_n 2, 1) := by decide +kernel
theorem d_T_attach_53 : decode b_T_attach 53 = .ok (.putfield 47, 3) := by decide +kernel
theorem d_T_attach_56 : decode b_T_attach 56 = .ok (.aload_n 0, 1) := by decide +kernel
theorem d_T_attach_57 : decode b_T_attach 57 = .ok (.dup, 1) := by decide +kernel
theorem d_T_attach_58 : decode b_T_attach 58 = .ok (.getfield 15, 3) := by decide +kernel
theorem d_T_attach_61 : decode b_T_attach 61 = .ok (.iconst 1, 1) := by decide +kernel
theorem d_T_attach_62 : decode b_T_attach 62 = .ok (.iadd, 1) := by decide +kernel
theorem d_T_attach_63 : decode b_T_attach 63 = .ok (.putfield 15, 3) := by decide +kernel
theorem d_T_attach_66 : decode b_T_attach 66 = .ok (.iload_n 3, 1) := by decide +kernel
theorem d_T_attach_67 : decode b_T_attach 67 = .ok (.ireturn, 1) := by decide +kernel
theorem d_T_add_0 : decode b_T_add 0 = .ok (.aload_n 0, 1) := by decide +kernel
theorem d_T_add_1 : decode b_T_add 1 = .ok (.iload_n 1, 1) := by decide +kernel
theorem d_T_add_2 : decode b_T_add 2 = .ok (.invokevirtual 54, 3) := by decide +kernel
theorem d_T_add_5 : decode b_T_add 5 = .ok (.ifCond .eq 24, 3) := by decide +kernel
theorem d_T_add_8 : decode b_T_add 8 = .ok (.iload_n 2, 1) := by decide +kernel
theorem d_T_add_9 : decode b_T_add 9 = .ok (.invokestatic 57, 3) := by decide +kernel
theorem d_T_add_12 : decode b_T_add 12 = .ok (.ifCond .eq 17, 3) := by decide +kernel
theorem d_T_add_15 : decode b_T_add 15 = .ok (.aload_n 0, 1) := by decide +kernel
theorem d_T_add_16 : decode b_T_add 16 = .ok (.getfield 11, 3) := by decide +kernel
theorem d_T_add_19 : decode b_T_add 19 = .ok (.iload_n 1, 1) := by decide +kernel
theorem d_T_add_20 : decode b_T_add 20 = .ok (.aaload, 1) := by decide +kernel
theorem d_T_add_21 : decode b_T_add 21 = .ok (.invokevirtual 60, 3) := by decide +kernel
theorem d_T_add_24 : decode b_T_add 24 = .ok (.bipush 48, 2) := by decide +kernel
theorem d_T_add_26 : decode b_T_add 26 = .ok (.if_icmp .lt 5, 3) := by decide +kernel
theorem d_T_add_29 : decode b_T_add 29 = .ok (.iconst 0, 1) := by decide +kernel
theorem d_T_add_30 : decode b_T_add 30 = .ok (.ireturn, 1) := by decide +kernel
theorem d_T_add_31 : decode b_T_add 31 = .ok (.aload_n 0, 1) := by decide +kernel
theorem d_T_add_32 : decode b_T_add 32 = .ok (.getfield 11, 3) := by decide +kernel
theorem d_T_add_35 : decode b_T_add 35 = .ok (.iload_n 1, 1) := by decide +kernel
theorem d_T_add_36 : decode b_T_add 36 = .ok (.aaload, 1) := by decide +kernel
theorem d_T_add_37 : decode b_T_add 37 = .ok (.iload_n 2, 1) := by decide +kernel
theorem d_T_add_38 : decode b_T_add 38 = .ok (.invokevirtual 64, 3) := by decide +kernel
theorem d_T_add_41 : decode b_T_add 41 = .ok (.iconst 1, 1) := by decide +kernel
theorem d_T_add_42 : decode b_T_add 42 = .ok (.ireturn, 1) := by decide +kernel
theorem d_T_flush_0 : decode b_T_flush 0 = .ok (.aload_n 0, 1) := by decide +kernel
theorem d_T_flush_1 : decode b_T_flush 1 = .ok (.iload_n 1, 1) := by decide +kernel
theorem d_T_flush_2 : decode b_T_flush 2 = .ok (.invokevirtual 54, 3) := by decide +kernel
theorem d_T_flush_5 : decode b_T_flush 5 = .ok (.ifCond .eq 15, 3) := by decide +kernel
theorem d_T_flush_8 : decode b_T_flush 8 = .ok (.aload_n 0, 1) := by decide +kernel
theorem d_T_flush_9 : decode b_T_flush 9 = .ok (.getfield 11, 3) := by decide +kernel
theorem d_T_flush_12 : decode b_T_flush 12 = .ok (.iload_n 1, 1) := by decide +kernel
theorem d_T_flush_13 : decode b_T_flush 13 = .ok (.aaload, 1) := by decide +kernel
theorem d_T_flush_14 : decode b_T_flush 14 = .ok (.invokevirtual 68, 3) := by decide +kernel
theorem d_T_flush_17 : decode b_T_flush 17 = .ok (.goto 4, 3) := by decide +kernel
theorem d_T_flush_20 : decode b_T_flush 20 = .ok (.iconst (-1), 1) := by decide +kernel
theorem d_T_flush_21 : decode b_T_flush 21 = .ok (.ireturn, 1) := by decide +kernel
theorem d_T_crash_0 : decode b_T_crash 0 = .ok (.aload_n 0, 1) := by decide +kernel
theorem d_T_crash_1 : decode b_T_crash 1 = .ok (.iload_n 1, 1) := by decide +kernel
theorem d_T_crash_2 : decode b_T_crash 2 = .ok (.invokevirtual 43, 3) := by decide +kernel
theorem d_T_crash_5 : decode b_T_crash 5 = .ok (.ifCond .ne 5, 3) := by decide +kernel
theorem d_T_crash_8 : decode b_T_crash 8 = .ok (.iconst 0, 1) := by decide +kernel
theorem d_T_crash_9 : decode b_T_crash 9 = .ok (.ireturn, 1) := by decide +kernel
theorem d_T_crash_10 : decode b_T_crash 10 = .ok (.aload_n 0, 1) := by decide +kernel
theorem d_T_crash_11 : decode b_T_crash 11 = .ok (.getfield 11, 3) := by decide +kernel
theorem d_T_crash_14 : decode b_T_crash 14 = .ok (.iload_n 1, 1) := by decide +kernel
theorem d_T_crash_15 : decode b_T_crash 15 = .ok (.aaload, 1) := by decide +kernel
theorem d_T_crash_16 : decode b_T_crash 16 = .ok (.getfield 47, 3) := by decide +kernel
theorem d_T_crash_19 : decode b_T_crash 19 = .ok (.ifCond .eq 16, 3) := by decide +kernel
theorem d_T_crash_22 : decode b_T_crash 22 = .ok (.aload_n 0, 1) := by decide +kernel
theorem d_T_crash_23 : decode b_T_crash 23 = .ok (.getfield 11, 3) := by decide +kernel
theorem d_T_crash_26 : decode b_T_crash 26 = .ok (.iload_n 1, 1) := by decide +kernel
theorem d_T_crash_27 : decode b_T_crash 27 = .ok (.aaload, 1) := by decide +kernel
theorem d_T_crash_28 : decode b_T_crash 28 = .ok (.iconst 0, 1) := by decide +kernel
theorem d_T_crash_29 : decode b_T_crash 29 = .ok (.putfield 71, 3) := by decide +kernel
theorem d_T_crash_32 : decode b_T_crash 32 = .ok (.goto 13, 3) := by decide +kernel
theorem d_T_crash_35 : decode b_T_crash 35 = .ok (.aload_n 0, 1) := by decide +kernel
theorem d_T_crash_36 : decode b_T_crash 36 = .ok (.iload_n 1, 1) := by decide +kernel
theorem d_T_crash_37 : decode b_T_crash 37 = .ok (.invokevirtual 74, 3) := by decide +kernel
theorem d_T_crash_40 : decode b_T_crash 40 = .ok (.aload_n 0, 1) := by decide +kernel
theorem d_T_crash_41 : decode b_T_crash 41 = .ok (.iload_n 1, 1) := by decide +kernel
theorem d_T_crash_42 : decode b_T_crash 42 = .ok (.invokevirtual 77, 3) := by decide +kernel
theorem d_T_crash_45 : decode b_T_crash 45 = .ok (.iconst 1, 1) := by decide +kernel
theorem d_T_crash_46 : decode b_T_crash 46 = .ok (.ireturn, 1) := by decide +kernel
theorem d_T_report_0 : decode b_T_report 0 = .ok (.aload_n 0, 1) := by decide +kernel
theorem d_T_report_1 : decode b_T_report 1 = .ok (.invokevirtual 80, 3) := by decide +kernel
theorem d_T_report_4 : decode b_T_report 4 = .ok (.istore_n 2, 1) := by decide +kernel
theorem d_T_report_5 : decode b_T_report 5 = .ok (.aload_n 0, 1) := by decide +kernel
theorem d_T_report_6 : decode b_T_report 6 = .ok (.iload_n 1, 1) := by decide +kernel
theorem d_T_report_7 : decode b_T_report 7 = .ok (.invokevirtual 43, 3) := by decide +kernel
theorem d_T_report_10 : decode b_T_report 10 = .ok (.ifCond .eq 20, 3) := by decide +kernel
theorem d_T_report_13 : decode b_T_report 13 = .ok (.aload_n 0, 1) := by decide +kernel
theorem d_T_report_14 : decode b_T_report 14 = .ok (.getfield 11, 3) := by decide +kernel
theorem d_T_report_17 : decode b_T_report 17 = .ok (.iload_n 1, 1) := by decide +kernel
theorem d_T_report_18 : decode b_T_report 18 = .ok (.aaload, 1) := by decide +kernel
theorem d_T_report_19 : decode b_T_report 19 = .ok (.getfield 51, 3) := by decide +kernel
theorem d_T_report_22 : decode b_T_report 22 = .ok (.iconst (-1), 1) := by decide +kernel
theorem d_T_report_23 : decode b_T_report 23 = .ok (.if_icmp .eq 7, 3) := by decide +kernel
theorem d_T_report_26 : decode b_T_report 26 = .ok (.iload_n 2, 1) := by decide +kernel
theorem d_T_report_27 : decode b_T_report 27 = .ok (.ifCond .ge 5, 3) := by decide +kernel
theorem d_T_report_30 : decode b_T_report 30 = .ok (.iconst (-1), 1) := by decide +kernel
theorem d_T_report_31 : decode b_T_report 31 = .ok (.ireturn, 1) := by decide +kernel
theorem d_T_report_32 : decode b_T_report 32 = .ok (.aload_n 0, 1) := by decide +kernel
theorem d_T_report_33 : decode b_T_report 33 = .ok (.getfield 11, 3) := by decide +kernel
theorem d_T_report_36 : decode b_T_report 36 = .ok (.iload_n 1, 1) := by decide +kernel
theorem d_T_report_37 : decode b_T_report 37 = .ok (.aaload, 1) := by decide +kernel
theorem d_T_report_38 : decode b_T_report 38 = .ok (.dup, 1) := by decide +kernel
theorem d_T_report_39 : decode b_T_report 39 = .ok (.getfield 83, 3) := by decide +kernel
theorem d_T_report_42 : decode b_T_report 42 = .ok (.iconst 1, 1) := by decide +kernel
theorem d_T_report_43 : decode b_T_report 43 = .ok (.iadd, 1) := by decide +kernel
theorem d_T_report_44 : decode b_T_report 44 = .ok (.putfield 83, 3) := by decide +kernel
theorem d_T_report_47 : decode b_T_report 47 = .ok (.aload_n 0, 1) := by decide +kernel
theorem d_T_report_48 : decode b_T_report 48 = .ok (.dup, 1) := by decide +kernel
theorem d_T_report_49 : decode b_T_report 49 = .ok (.getfield 25, 3) := by decide +kernel
theorem d_T_report_52 : decode b_T_report 52 = .ok (.iconst 1, 1) := by decide +kernel
theorem d_T_report_53 : decode b_T_report 53 = .ok (.iadd, 1) := by decide +kernel
theorem d_T_report_54 : decode b_T_report 54 = .ok (.putfield 25, 3) := by decide +kernel
theorem d_T_report_57 : decode b_T_report 57 = .ok (.aload_n 0, 1) := by decide +kernel
theorem d_T_report_58 : decode b_T_report 58 = .ok (.getfield 21, 3) := by decide +kernel
theorem d_T_report_61 : decode b_T_report 61 = .ok (.iload_n 2, 1) := by decide +kernel
theorem d_T_report_62 : decode b_T_report 62 = .ok (.aaload, 1) := by decide +kernel
theorem d_T_report_63 : decode b_T_report 63 = .ok (.aload_n 0, 1) := by decide +kernel
theorem d_T_report_64 : decode b_T_report 64 = .ok (.getfield 25, 3) := by decide +kernel
theorem d_T_report_67 : decode b_T_report 67 = .ok (.iload_n 1, 1) := by decide +kernel
theorem d_T_report_68 : decode b_T_report 68 = .ok (.aload_n 0, 1) := by decide +kernel
theorem d_T_report_69 : decode b_T_report 69 = .ok (.getfield 11, 3) := by decide +kernel
theorem d_T_report_72 : decode b_T_report 72 = .ok (.iload_n 1, 1) := by decide +kernel
theorem d_T_report_73 : decode b_T_report 73 = .ok (.aaload, 1) := by decide +kernel
theorem d_T_report_74 : decode b_T_report 74 = .ok (.getfield 83, 3) := by decide +kernel
theorem d_T_report_77 : decode b_T_report 77 = .ok (.aload_n 0, 1) := by decide +kernel
theorem d_T_report_78 : decode b_T_report 78 = .ok (.getfield 11, 3) := by decide +kernel
theorem d_T_report_81 : decode b_T_report 81 = .ok (.iload_n 1, 1) := by decide +kernel
theorem d_T_report_82 : decode b_T_report 82 = .ok (.aaload, 1) := by decide +kernel
theorem d_T_report_83 : decode b_T_report 83 = .ok (.getfield 86, 3) := by decide +kernel
theorem d_T_report_86 : decode b_T_report 86 = .ok (.invokevirtual 90, 3) := by decide +kernel
theorem d_T_report_89 : decode b_T_report 89 = .ok (.aload_n 0, 1) := by decide +kernel
theorem d_T_report_90 : decode b_T_report 90 = .ok (.getfield 25, 3) := by decide +kernel
theorem d_T_report_93 : decode b_T_report 93 = .ok (.ireturn, 1) := by decide +kernel
theorem d_T_copy_0 : decode b_T_copy 0 = .ok (.aload_n 0, 1) := by decide +kernel
theorem d_T_copy_1 : decode b_T_copy 1 = .ok (.iload_n 1, 1) := by decide +kernel
theorem d_T_copy_2 : decode b_T_copy 2 = .ok (.invokevirtual 94, 3) := by decide +kernel
theorem d_T_copy_5 : decode b_T_copy 5 = .ok (.istore_n 2, 1) := by decide +kernel
theorem d_T_copy_6 : decode b_T_copy 6 = .ok (.aload_n 0, 1) := by decide +kernel
theorem d_T_copy_7 : decode b_T_copy 7 = .ok (.invokevirtual 80, 3) := by decide +kernel
theorem d_T_copy_10 : decode b_T_copy 10 = .ok (.istore_n 3, 1) := by decide +kernel
theorem d_T_copy_11 : decode b_T_copy 11 = .ok (.iload_n 2, 1) := by decide +kernel
theorem d_T_copy_12 : decode b_T_copy 12 = .ok (.ifCond .lt 7, 3) := by decide +kernel
theorem d_T_copy_15 : decode b_T_copy 15 = .ok (.iload_n 3, 1) := by decide +kernel
theorem d_T_copy_16 : decode b_T_copy 16 = .ok (.ifCond .ge 5, 3) := by decide +kernel
theorem d_T_copy_19 : decode b_T_copy 19 = .ok (.iconst (-1), 1) := by decide +kernel
theorem d_T_copy_20 : decode b_T_copy 20 = .ok (.ireturn, 1) := by decide +kernel
theorem d_T_copy_21 : decode b_T_copy 21 = .ok (.aload_n 0, 1) := by decide +kernel
theorem d_T_copy_22 : decode b_T_copy 22 = .ok (.getfield 21, 3) := by decide +kernel
theorem d_T_copy_25 : decode b_T_copy 25 = .ok (.iload_n 2, 1) := by decide +kernel
theorem d_T_copy_26 : decode b_T_copy 26 = .ok (.aaload, 1) := by decide +kernel
theorem d_T_copy_27 : decode b_T_copy 27 = .ok (.astore 4, 2) := by decide +kernel
theorem d_T_copy_29 : decode b_T_copy 29 = .ok (.aload_n 0, 1) := by decide +kernel
theorem d_T_copy_30 : decode b_T_copy 30 = .ok (.dup, 1) := by decide +kernel
theorem d_T_copy_31 : decode b_T_copy 31 = .ok (.getfield 25, 3) := by decide +kernel
theorem d_T_copy_34 : decode b_T_copy 34 = .ok (.iconst 1, 1) := by decide +kernel
theorem d_T_copy_35 : decode b_T_copy 35 = .ok (.iadd, 1) := by decide +kernel
theorem d_T_copy_36 : decode b_T_copy 36 = .ok (.putfield 25, 3) := by decide +kernel
theorem d_T_copy_39 : decode b_T_copy 39 = .ok (.aload_n 0, 1) := by decide +kernel
theorem d_T_copy_40 : decode b_T_copy 40 = .ok (.getfield 21, 3) := by decide +kernel
theorem d_T_copy_43 : decode b_T_copy 43 = .ok (.iload_n 3, 1) := by decide +kernel
theorem d_T_copy_44 : decode b_T_copy 44 = .ok (.aaload, 1) := by decide +kernel
theorem d_T_copy_45 : decode b_T_copy 45 = .ok (.aload_n 0, 1) := by decide +kernel
theorem d_T_copy_46 : decode b_T_copy 46 = .ok (.getfield 25, 3) := by decide +kernel
theorem d_T_copy_49 : decode b_T_copy 49 = .ok (.aload 4, 2) := by decide +kernel
theorem d_T_copy_51 : decode b_T_copy 51 = .ok (.getfield 98, 3) := by decide +kernel
theorem d_T_copy_54 : decode b_T_copy 54 = .ok (.aload 4, 2) := by decide +kernel
theorem d_T_copy_56 : decode b_T_copy 56 = .ok (.getfield 101, 3) := by decide +kernel
theorem d_T_copy_59 : decode b_T_copy 59 = .ok (.aload 4, 2) := by decide +kernel
theorem d_T_copy_61 : decode b_T_copy 61 = .ok (.getfield 104, 3) := by decide +kernel
theorem d_T_copy_64 : decode b_T_copy 64 = .ok (.invokevirtual 90, 3) := by decide +kernel
theorem d_T_copy_67 : decode b_T_copy 67 = .ok (.aload_n 0, 1) := by decide +kernel
theorem d_T_copy_68 : decode b_T_copy 68 = .ok (.getfield 25, 3) := by decide +kernel
theorem d_T_copy_71 : decode b_T_copy 71 = .ok (.ireturn, 1) := by decide +kernel
theorem d_T_drop_0 : decode b_T_drop 0 = .ok (.aload_n 0, 1) := by decide +kernel
theorem d_T_drop_1 : decode b_T_drop 1 = .ok (.iload_n 1, 1) := by decide +kernel
theorem d_T_drop_2 : decode b_T_drop 2 = .ok (.invokevirtual 94, 3) := by decide +kernel
theorem d_T_drop_5 : decode b_T_drop 5 = .ok (.istore_n 2, 1) := by decide +kernel
theorem d_T_drop_6 : decode b_T_drop 6 = .ok (.iload_n 2, 1) := by decide +kernel
theorem d_T_drop_7 : decode b_T_drop 7 = .ok (.ifCond .ge 5, 3) := by decide +kernel
theorem d_T_drop_10 : decode b_T_drop 10 = .ok (.iconst 0, 1) := by decide +kernel
theorem d_T_drop_11 : decode b_T_drop 11 = .ok (.ireturn, 1) := by decide +kernel
theorem d_T_drop_12 : decode b_T_drop 12 = .ok (.aload_n 0, 1) := by decide +kernel
theorem d_T_drop_13 : decode b_T_drop 13 = .ok (.getfield 21, 3) := by decide +kernel
theorem d_T_drop_16 : decode b_T_drop 16 = .ok (.iload_n 2, 1) := by decide +kernel
theorem d_T_drop_17 : decode b_T_drop 17 = .ok (.aaload, 1) := by decide +kernel
theorem d_T_drop_18 : decode b_T_drop 18 = .ok (.iconst 0, 1) := by decide +kernel
theorem d_T_drop_19 : decode b_T_drop 19 = .ok (.putfield 105, 3) := by decide +kernel
theorem d_T_drop_22 : decode b_T_drop 22 = .ok (.iconst 1, 1) := by decide +kernel
theorem d_T_drop_23 : decode b_T_drop 23 = .ok (.ireturn, 1) := by decide +kernel
theorem d_T_deliver_0 : decode b_T_deliver 0 = .ok (.aload_n 0, 1) := by decide +kernel
theorem d_T_deliver_1 : decode b_T_deliver 1 = .ok (.iload_n 1, 1) := by decide +kernel
theorem d_T_deliver_2 : decode b_T_deliver 2 = .ok (.invokevirtual 94, 3) := by decide +kernel
theorem d_T_deliver_5 : decode b_T_deliver 5 = .ok (.istore_n 2, 1) := by decide +kernel
theorem d_T_deliver_6 : decode b_T_deliver 6 = .ok (.iload_n 2, 1) := by decide +kernel
theorem d_T_deliver_7 : decode b_T_deliver 7 = .ok (.ifCond .ge 5, 3) := by decide +kernel
theorem d_T_deliver_10 : decode b_T_deliver 10 = .ok (.iconst (-1), 1) := by decide +kernel
theorem d_T_deliver_11 : decode b_T_deliver 11 = .ok (.ireturn, 1) := by decide +kernel
theorem d_T_deliver_12 : decode b_T_deliver 12 = .ok (.aload_n 0, 1) := by decide +kernel
theorem d_T_deliver_13 : decode b_T_deliver 13 = .ok (.getfield 21, 3) := by decide +kernel
theorem d_T_deliver_16 : decode b_T_deliver 16 = .ok (.iload_n 2, 1) := by decide +kernel
theorem d_T_deliver_17 : decode b_T_deliver 17 = .ok (.aaload, 1) := by decide +kernel
theorem d_T_deliver_18 : decode b_T_deliver 18 = .ok (.astore_n 3, 1) := by decide +kernel
theorem d_T_deliver_19 : decode b_T_deliver 19 = .ok (.aload_n 3, 1) := by decide +kernel
theorem d_T_deliver_20 : decode b_T_deliver 20 = .ok (.iconst 0, 1) := by decide +kernel
theorem d_T_deliver_21 : decode b_T_deliver 21 = .ok (.putfield 105, 3) := by decide +kernel
theorem d_T_deliver_24 : decode b_T_deliver 24 = .ok (.aload_n 0, 1) := by decide +kernel
theorem d_T_deliver_25 : decode b_T_deliver 25 = .ok (.getfield 11, 3) := by decide +kernel
theorem d_T_deliver_28 : decode b_T_deliver 28 = .ok (.aload_n 3, 1) := by decide +kernel
theorem d_T_deliver_29 : decode b_T_deliver 29 = .ok (.getfield 98, 3) := by decide +kernel
theorem d_T_deliver_32 : decode b_T_deliver 32 = .ok (.aaload, 1) := by decide +kernel
theorem d_T_deliver_33 : decode b_T_deliver 33 = .ok (.astore 4, 2) := by decide +kernel
theorem d_T_deliver_35 : decode b_T_deliver 35 = .ok (.aload 4, 2) := by decide +kernel
theorem d_T_deliver_37 : decode b_T_deliver 37 = .ok (.getfield 108, 3) := by decide +kernel
theorem d_T_deliver_40 : decode b_T_deliver 40 = .ok (.aload_n 3, 1) := by decide +kernel
theorem d_T_deliver_41 : decode b_T_deliver 41 = .ok (.getfield 101, 3) := by decide +kernel
theorem d_T_deliver_44 : decode b_T_deliver 44 = .ok (.if_icmp .lt 5, 3) := by decide +kernel
theorem d_T_deliver_47 : decode b_T_deliver 47 = .ok (.iconst 0, 1) := by decide +kernel
theorem d_T_deliver_48 : decode b_T_deliver 48 = .ok (.ireturn, 1) := by decide +kernel
theorem d_T_deliver_49 : decode b_T_deliver 49 = .ok (.aload 4, 2) := by decide +kernel
theorem d_T_deliver_51 : decode b_T_deliver 51 = .ok (.aload_n 3, 1) := by decide +kernel
theorem d_T_deliver_52 : decode b_T_deliver 52 = .ok (.getfield 101, 3) := by decide +kernel
theorem d_T_deliver_55 : decode b_T_deliver 55 = .ok (.putfield 108, 3) := by decide +kernel
theorem d_T_deliver_58 : decode b_T_deliver 58 = .ok (.aload 4, 2) := by decide +kernel
theorem d_T_deliver_60 : decode b_T_deliver 60 = .ok (.getfield 111, 3) := by decide +kernel
theorem d_T_deliver_63 : decode b_T_deliver 63 = .ok (.aload_n 3, 1) := by decide +kernel
theorem d_T_deliver_64 : decode b_T_deliver 64 = .ok (.getfield 104, 3) := by decide +kernel
theorem d_T_deliver_67 : decode b_T_deliver 67 = .ok (.invokevirtual 114, 3) := by decide +kernel
theorem d_T_deliver_70 : decode b_T_deliver 70 = .ok (.aload_n 0, 1) := by decide +kernel
theorem d_T_deliver_71 : decode b_T_deliver 71 = .ok (.aload 4, 2) := by decide +kernel
theorem d_T_deliver_73 : decode b_T_deliver 73 = .ok (.getfield 51, 3) := by decide +kernel
theorem d_T_deliver_76 : decode b_T_deliver 76 = .ok (.invokevirtual 77, 3) := by decide +kernel
theorem d_T_deliver_79 : decode b_T_deliver 79 = .ok (.iconst 1, 1) := by decide +kernel
theorem d_T_deliver_80 : decode b_T_deliver 80 = .ok (.ireturn, 1) := by decide +kernel
theorem d_T_onTheWay_0 : decode b_T_onTheWay 0 = .ok (.iconst 0, 1) := by decide +kernel
theorem d_T_onTheWay_1 : decode b_T_onTheWay 1 = .ok (.istore_n 1, 1) := by decide +kernel
theorem d_T_onTheWay_2 : decode b_T_onTheWay 2 = .ok (.iconst 0, 1) := by decide +kernel
theorem d_T_onTheWay_3 : decode b_T_onTheWay 3 = .ok (.istore_n 2, 1) := by decide +kernel
theorem d_T_onTheWay_4 : decode b_T_onTheWay 4 = .ok (.iload_n 2, 1) := by decide +kernel
theorem d_T_onTheWay_5 : decode b_T_onTheWay 5 = .ok (.bipush 12, 2) := by decide +kernel
theorem d_T_onTheWay_7 : decode b_T_onTheWay 7 = .ok (.if_icmp .ge 24, 3) := by decide +kernel
theorem d_T_onTheWay_10 : decode b_T_onTheWay 10 = .ok (.aload_n 0, 1) := by decide +kernel
theorem d_T_onTheWay_11 : decode b_T_onTheWay 11 = .ok (.getfield 21, 3) := by decide +kernel
theorem d_T_onTheWay_14 : decode b_T_onTheWay 14 = .ok (.iload_n 2, 1) := by decide +kernel
theorem d_T_onTheWay_15 : decode b_T_onTheWay 15 = .ok (.aaload, 1) := by decide +kernel
theorem d_T_onTheWay_16 : decode b_T_onTheWay 16 = .ok (.getfield 105, 3) := by decide +kernel
theorem d_T_onTheWay_19 : decode b_T_onTheWay 19 = .ok (.ifCond .eq 6, 3) := by decide +kernel
theorem d_T_onTheWay_22 : decode b_T_onTheWay 22 = .ok (.iinc 1 1, 3) := by decide +kernel
theorem d_T_onTheWay_25 : decode b_T_onTheWay 25 = .ok (.iinc 2 1, 3) := by decide +kernel
theorem d_T_onTheWay_28 : decode b_T_onTheWay 28 = .ok (.goto (-24), 3) := by decide +kernel
theorem d_T_onTheWay_31 : decode b_T_onTheWay 31 = .ok (.iload_n 1, 1) := by decide +kernel
theorem d_T_onTheWay_32 : decode b_T_onTheWay 32 = .ok (.ireturn, 1) := by decide +kernel
theorem d_T_total_0 : decode b_T_total 0 = .ok (.aload_n 0, 1) := by decide +kernel
theorem d_T_total_1 : decode b_T_total 1 = .ok (.iload_n 1, 1) := by decide +kernel
theorem d_T_total_2 : decode b_T_total 2 = .ok (.invokevirtual 43, 3) := by decide +kernel
theorem d_T_total_5 : decode b_T_total 5 = .ok (.ifCond .eq 18, 3) := by decide +kernel
theorem d_T_total_8 : decode b_T_total 8 = .ok (.aload_n 0, 1) := by decide +kernel
theorem d_T_total_9 : decode b_T_total 9 = .ok (.getfield 11, 3) := by decide +kernel
theorem d_T_total_12 : decode b_T_total 12 = .ok (.iload_n 1, 1) := by decide +kernel
theorem d_T_total_13 : decode b_T_total 13 = .ok (.aaload, 1) := by decide +kernel
theorem d_T_total_14 : decode b_T_total 14 = .ok (.getfield 86, 3) := by decide +kernel
theorem d_T_total_17 : decode b_T_total 17 = .ok (.getfield 120, 3) := by decide +kernel
theorem d_T_total_20 : decode b_T_total 20 = .ok (.goto 4, 3) := by decide +kernel
theorem d_T_total_23 : decode b_T_total 23 = .ok (.iconst (-1), 1) := by decide +kernel
theorem d_T_total_24 : decode b_T_total 24 = .ok (.ireturn, 1) := by decide +kernel
theorem d_T_sum_0 : decode b_T_sum 0 = .ok (.aload_n 0, 1) := by decide +kernel
theorem d_T_sum_1 : decode b_T_sum 1 = .ok (.iload_n 1, 1) := by decide +kernel
theorem d_T_sum_2 : decode b_T_sum 2 = .ok (.invokevirtual 43, 3) := by decide +kernel
theorem d_T_sum_5 : decode b_T_sum 5 = .ok (.ifCond .eq 18, 3) := by decide +kernel
theorem d_T_sum_8 : decode b_T_sum 8 = .ok (.aload_n 0, 1) := by decide +kernel
theorem d_T_sum_9 : decode b_T_sum 9 = .ok (.getfield 11, 3) := by decide +kernel
theorem d_T_sum_12 : decode b_T_sum 12 = .ok (.iload_n 1, 1) := by decide +kernel
theorem d_T_sum_13 : decode b_T_sum 13 = .ok (.aaload, 1) := by decide +kernel
theorem d_T_sum_14 : decode b_T_sum 14 = .ok (.getfield 86, 3) := by decide +kernel
theorem d_T_sum_17 : decode b_T_sum 17 = .ok (.getfield 123, 3) := by decide +kernel
theorem d_T_sum_20 : decode b_T_sum 20 = .ok (.goto 6, 3) := by decide +kernel
theorem d_T_sum_23 : decode b_T_sum 23 = .ok (.ldc2_w 127, 3) := by decide +kernel
theorem d_T_sum_26 : decode b_T_sum 26 = .ok (.lreturn, 1) := by decide +kernel
theorem d_T_extreme_0 : decode b_T_extreme 0 = .ok (.aload_n 0, 1) := by decide +kernel
theorem d_T_extreme_1 : decode b_T_extreme 1 = .ok (.iload_n 1, 1) := by decide +kernel
theorem d_T_extreme_2 : decode b_T_extreme 2 = .ok (.invokevirtual 43, 3) := by decide +kernel
theorem d_T_extreme_5 : decode b_T_extreme 5 = .ok (.ifCond .eq 18, 3) := by decide +kernel
theorem d_T_extreme_8 : decode b_T_extreme 8 = .ok (.aload_n 0, 1) := by decide +kernel
theorem d_T_extreme_9 : decode b_T_extreme 9 = .ok (.getfield 11, 3) := by decide +kernel
theorem d_T_extreme_12 : decode b_T_extreme 12 = .ok (.iload_n 1, 1) := by decide +kernel
theorem d_T_extreme_13 : decode b_T_extreme 13 = .ok (.aaload, 1) := by decide +kernel
theorem d_T_extreme_14 : decode b_T_extreme 14 = .ok (.getfield 86, 3) := by decide +kernel
theorem d_T_extreme_17 : decode b_T_extreme 17 = .ok (.getfield 120, 3) := by decide +kernel
theorem d_T_extreme_20 : decode b_T_extreme 20 = .ok (.ifCond .ne 5, 3) := by decide +kernel
theorem d_T_extreme_23 : decode b_T_extreme 23 = .ok (.iconst (-1), 1) := by decide +kernel
theorem d_T_extreme_24 : decode b_T_extreme 24 = .ok (.ireturn, 1) := by decide +kernel
theorem d_T_extreme_25 : decode b_T_extreme 25 = .ok (.iload_n 2, 1) := by decide +kernel
theorem d_T_extreme_26 : decode b_T_extreme 26 = .ok (.ifCond .eq 18, 3) := by decide +kernel
theorem d_T_extreme_29 : decode b_T_extreme 29 = .ok (.aload_n 0, 1) := by decide +kernel
theorem d_T_extreme_30 : decode b_T_extreme 30 = .ok (.getfield 11, 3) := by decide +kernel
theorem d_T_extreme_33 : decode b_T_extreme 33 = .ok (.iload_n 1, 1) := by decide +kernel
theorem d_T_extreme_34 : decode b_T_extreme 34 = .ok (.aaload, 1) := by decide +kernel
theorem d_T_extreme_35 : decode b_T_extreme 35 = .ok (.getfield 86, 3) := by decide +kernel
theorem d_T_extreme_38 : decode b_T_extreme 38 = .ok (.getfield 129, 3) := by decide +kernel
theorem d_T_extreme_41 : decode b_T_extreme 41 = .ok (.goto 15, 3) := by decide +kernel
theorem d_T_extreme_44 : decode b_T_extreme 44 = .ok (.aload_n 0, 1) := by decide +kernel
theorem d_T_extreme_45 : decode b_T_extreme 45 = .ok (.getfield 11, 3) := by decide +kernel
theorem d_T_extreme_48 : decode b_T_extreme 48 = .ok (.iload_n 1, 1) := by decide +kernel
theorem d_T_extreme_49 : decode b_T_extreme 49 = .ok (.aaload, 1) := by decide +kernel
theorem d_T_extreme_50 : decode b_T_extreme 50 = .ok (.getfield 86, 3) := by decide +kernel
theorem d_T_extreme_53 : decode b_T_extreme 53 = .ok (.getfield 132, 3) := by decide +kernel
theorem d_T_extreme_56 : decode b_T_extreme 56 = .ok (.ireturn, 1) := by decide +kernel
theorem d_T_covered_0 : decode b_T_covered 0 = .ok (.aload_n 0, 1) := by decide +kernel
theorem d_T_covered_1 : decode b_T_covered 1 = .ok (.iload_n 1, 1) := by decide +kernel
theorem d_T_covered_2 : decode b_T_covered 2 = .ok (.invokevirtual 43, 3) := by decide +kernel
theorem d_T_covered_5 : decode b_T_covered 5 = .ok (.ifCond .eq 28, 3) := by decide +kernel
theorem d_T_covered_8 : decode b_T_covered 8 = .ok (.aload_n 0, 1) := by decide +kernel
theorem d_T_covered_9 : decode b_T_covered 9 = .ok (.iload_n 2, 1) := by decide +kernel
theorem d_T_covered_10 : decode b_T_covered 10 = .ok (.invokevirtual 54, 3) := by decide +kernel
theorem d_T_covered_13 : decode b_T_covered 13 = .ok (.ifCond .eq 20, 3) := by decide +kernel
theorem d_T_covered_16 : decode b_T_covered 16 = .ok (.aload_n 0, 1) := by decide +kernel
theorem d_T_covered_17 : decode b_T_covered 17 = .ok (.getfield 11, 3) := by decide +kernel
theorem d_T_covered_20 : decode b_T_covered 20 = .ok (.iload_n 1, 1) := by decide +kernel
theorem d_T_covered_21 : decode b_T_covered 21 = .ok (.aaload, 1) := by decide +kernel
theorem d_T_covered_22 : decode b_T_covered 22 = .ok (.getfield 86, 3) := by decide +kernel
theorem d_T_covered_25 : decode b_T_covered 25 = .ok (.getfield 135, 3) := by decide +kernel
theorem d_T_covered_28 : decode b_T_covered 28 = .ok (.iload_n 2, 1) := by decide +kernel
theorem d_T_covered_29 : decode b_T_covered 29 = .ok (.iaload, 1) := by decide +kernel
theorem d_T_covered_30 : decode b_T_covered 30 = .ok (.goto 4, 3) := by decide +kernel
theorem d_T_covered_33 : decode b_T_covered 33 = .ok (.iconst (-1), 1) := by decide +kernel
theorem d_T_covered_34 : decode b_T_covered 34 = .ok (.ireturn, 1) := by decide +kernel
theorem d_T_estimate_0 : decode b_T_estimate 0 = .ok (.aload_n 0, 1) := by decide +kernel
theorem d_T_estimate_1 : decode b_T_estimate 1 = .ok (.iload_n 1, 1) := by decide +kernel
theorem d_T_estimate_2 : decode b_T_estimate 2 = .ok (.invokevirtual 43, 3) := by decide +kernel
theorem d_T_estimate_5 : decode b_T_estimate 5 = .ok (.ifCond .eq 30, 3) := by decide +kernel
theorem d_T_estimate_8 : decode b_T_estimate 8 = .ok (.iload_n 2, 1) := by decide +kernel
theorem d_T_estimate_9 : decode b_T_estimate 9 = .ok (.invokestatic 57, 3) := by decide +kernel
theorem d_T_estimate_12 : decode b_T_estimate 12 = .ok (.ifCond .eq 23, 3) := by decide +kernel
theorem d_T_estimate_15 : decode b_T_estimate 15 = .ok (.aload_n 0, 1) := by decide +kernel
theorem d_T_estimate_16 : decode b_T_estimate 16 = .ok (.getfield 11, 3) := by decide +kernel
theorem d_T_estimate_19 : decode b_T_estimate 19 = .ok (.iload_n 1, 1) := by decide +kernel
theorem d_T_estimate_20 : decode b_T_estimate 20 = .ok (.aaload, 1) := by decide +kernel
theorem d_T_estimate_21 : decode b_T_estimate 21 = .ok (.getfield 86, 3) := by decide +kernel
theorem d_T_estimate_24 : decode b_T_estimate 24 = .ok (.getfield 139, 3) := by decide +kernel
theorem d_T_estimate_27 : decode b_T_estimate 27 = .ok (.getfield 143, 3) := by decide +kernel
theorem d_T_estimate_30 : decode b_T_estimate 30 = .ok (.iload_n 2, 1) := by decide +kernel
theorem d_T_estimate_31 : decode b_T_estimate 31 = .ok (.iaload, 1) := by decide +kernel
theorem d_T_estimate_32 : decode b_T_estimate 32 = .ok (.goto 4, 3) := by decide +kernel
theorem d_T_estimate_35 : decode b_T_estimate 35 = .ok (.iconst (-1), 1) := by decide +kernel
theorem d_T_estimate_36 : decode b_T_estimate 36 = .ok (.ireturn, 1) := by decide +kernel
theorem d_T_top_0 : decode b_T_top 0 = .ok (.aload_n 0, 1) := by decide +kernel
theorem d_T_top_1 : decode b_T_top 1 = .ok (.iload_n 1, 1) := by decide +kernel
theorem d_T_top_2 : decode b_T_top 2 = .ok (.invokevirtual 43, 3) := by decide +kernel
theorem d_T_top_5 : decode b_T_top 5 = .ok (.ifCond .eq 22, 3) := by decide +kernel
theorem d_T_top_8 : decode b_T_top 8 = .ok (.aload_n 0, 1) := by decide +kernel
theorem d_T_top_9 : decode b_T_top 9 = .ok (.getfield 11, 3) := by decide +kernel
theorem d_T_top_12 : decode b_T_top 12 = .ok (.iload_n 1, 1) := by decide +kernel
theorem d_T_top_13 : decode b_T_top 13 = .ok (.aaload, 1) := by decide +kernel
theorem d_T_top_14 : decode b_T_top 14 = .ok (.getfield 86, 3) := by decide +kernel
theorem d_T_top_17 : decode b_T_top 17 = .ok (.getfield 139, 3) := by decide +kernel
theorem d_T_top_20 : decode b_T_top 20 = .ok (.iload_n 2, 1) := by decide +kernel
theorem d_T_top_21 : decode b_T_top 21 = .ok (.invokevirtual 148, 3) := by decide +kernel
theorem d_T_top_24 : decode b_T_top 24 = .ok (.goto 4, 3) := by decide +kernel
theorem d_T_top_27 : decode b_T_top 27 = .ok (.iconst (-1), 1) := by decide +kernel
theorem d_T_top_28 : decode b_T_top 28 = .ok (.ireturn, 1) := by decide +kernel
theorem d_T_digestSize_0 : decode b_T_digestSize 0 = .ok (.aload_n 0, 1) := by decide +kernel
theorem d_T_digestSize_1 : decode b_T_digestSize 1 = .ok (.iload_n 1, 1) := by decide +kernel
theorem d_T_digestSize_2 : decode b_T_digestSize 2 = .ok (.invokevirtual 43, 3) := by decide +kernel
theorem d_T_digestSize_5 : decode b_T_digestSize 5 = .ok (.ifCond .eq 21, 3) := by decide +kernel
theorem d_T_digestSize_8 : decode b_T_digestSize 8 = .ok (.aload_n 0, 1) := by decide +kernel
theorem d_T_digestSize_9 : decode b_T_digestSize 9 = .ok (.getfield 11, 3) := by decide +kernel
theorem d_T_digestSize_12 : decode b_T_digestSize 12 = .ok (.iload_n 1, 1) := by decide +kernel
theorem d_T_digestSize_13 : decode b_T_digestSize 13 = .ok (.aaload, 1) := by decide +kernel
theorem d_T_digestSize_14 : decode b_T_digestSize 14 = .ok (.getfield 86, 3) := by decide +kernel
theorem d_T_digestSize_17 : decode b_T_digestSize 17 = .ok (.getfield 151, 3) := by decide +kernel
theorem d_T_digestSize_20 : decode b_T_digestSize 20 = .ok (.invokevirtual 155, 3) := by decide +kernel
theorem d_T_digestSize_23 : decode b_T_digestSize 23 = .ok (.goto 4, 3) := by decide +kernel
theorem d_T_digestSize_26 : decode b_T_digestSize 26 = .ok (.iconst (-1), 1) := by decide +kernel
theorem d_T_digestSize_27 : decode b_T_digestSize 27 = .ok (.ireturn, 1) := by decide +kernel
theorem d_T_below_0 : decode b_T_below 0 = .ok (.aload_n 0, 1) := by decide +kernel
theorem d_T_below_1 : decode b_T_below 1 = .ok (.iload_n 1, 1) := by decide +kernel
theorem d_T_below_2 : decode b_T_below 2 = .ok (.invokevirtual 43, 3) := by decide +kernel
theorem d_T_below_5 : decode b_T_below 5 = .ok (.ifCond .eq 13, 3) := by decide +kernel
theorem d_T_below_8 : decode b_T_below 8 = .ok (.iload_n 2, 1) := by decide +kernel
theorem d_T_below_9 : decode b_T_below 9 = .ok (.ifCond .lt 9, 3) := by decide +kernel
theorem d_T_below_12 : decode b_T_below 12 = .ok (.iload_n 2, 1) := by decide +kernel
theorem d_T_below_13 : decode b_T_below 13 = .ok (.bipush 32, 2) := by decide +kernel
theorem d_T_below_15 : decode b_T_below 15 = .ok (.if_icmp .le 5, 3) := by decide +kernel
theorem d_T_below_18 : decode b_T_below 18 = .ok (.iconst (-1), 1) := by decide +kernel
theorem d_T_below_19 : decode b_T_below 19 = .ok (.ireturn, 1) := by decide +kernel
theorem d_T_below_20 : decode b_T_below 20 = .ok (.aload_n 0, 1) := by decide +kernel
theorem d_T_below_21 : decode b_T_below 21 = .ok (.getfield 11, 3) := by decide +kernel
theorem d_T_below_24 : decode b_T_below 24 = .ok (.iload_n 1, 1) := by decide +kernel
theorem d_T_below_25 : decode b_T_below 25 = .ok (.aaload, 1) := by decide +kernel
theorem d_T_below_26 : decode b_T_below 26 = .ok (.getfield 86, 3) := by decide +kernel
theorem d_T_below_29 : decode b_T_below 29 = .ok (.getfield 151, 3) := by decide +kernel
theorem d_T_below_32 : decode b_T_below 32 = .ok (.astore 4, 2) := by decide +kernel
theorem d_T_below_34 : decode b_T_below 34 = .ok (.iload_n 3, 1) := by decide +kernel
theorem d_T_below_35 : decode b_T_below 35 = .ok (.ifCond .eq 12, 3) := by decide +kernel
theorem d_T_below_38 : decode b_T_below 38 = .ok (.aload 4, 2) := by decide +kernel
theorem d_T_below_40 : decode b_T_below 40 = .ok (.iload_n 2, 1) := by decide +kernel
theorem d_T_below_41 : decode b_T_below 41 = .ok (.invokevirtual 160, 3) := by decide +kernel
theorem d_T_below_44 : decode b_T_below 44 = .ok (.goto 9, 3) := by decide +kernel
theorem d_T_below_47 : decode b_T_below 47 = .ok (.aload 4, 2) := by decide +kernel
theorem d_T_below_49 : decode b_T_below 49 = .ok (.iload_n 2, 1) := by decide +kernel
theorem d_T_below_50 : decode b_T_below 50 = .ok (.invokevirtual 163, 3) := by decide +kernel
theorem d_T_below_53 : decode b_T_below 53 = .ok (.ireturn, 1) := by decide +kernel
theorem d_T_quantile_0 : decode b_T_quantile 0 = .ok (.aload_n 0, 1) := by decide +kernel
theorem d_T_quantile_1 : decode b_T_quantile 1 = .ok (.iload_n 1, 1) := by decide +kernel
theorem d_T_quantile_2 : decode b_T_quantile 2 = .ok (.invokevirtual 43, 3) := by decide +kernel
theorem d_T_quantile_5 : decode b_T_quantile 5 = .ok (.ifCond .eq 14, 3) := by decide +kernel
theorem d_T_quantile_8 : decode b_T_quantile 8 = .ok (.iload_n 2, 1) := by decide +kernel
theorem d_T_quantile_9 : decode b_T_quantile 9 = .ok (.ifCond .lt 10, 3) := by decide +kernel
theorem d_T_quantile_12 : decode b_T_quantile 12 = .ok (.iload_n 2, 1) := by decide +kernel
theorem d_T_quantile_13 : decode b_T_quantile 13 = .ok (.sipush 1000, 3) := by decide +kernel
theorem d_T_quantile_16 : decode b_T_quantile 16 = .ok (.if_icmp .le 5, 3) := by decide +kernel
theorem d_T_quantile_19 : decode b_T_quantile 19 = .ok (.iconst (-1), 1) := by decide +kernel
theorem d_T_quantile_20 : decode b_T_quantile 20 = .ok (.ireturn, 1) := by decide +kernel
theorem d_T_quantile_21 : decode b_T_quantile 21 = .ok (.aload_n 0, 1) := by decide +kernel
theorem d_T_quantile_22 : decode b_T_quantile 22 = .ok (.getfield 11, 3) := by decide +kernel
theorem d_T_quantile_25 : decode b_T_quantile 25 = .ok (.iload_n 1, 1) := by decide +kernel
theorem d_T_quantile_26 : decode b_T_quantile 26 = .ok (.aaload, 1) := by decide +kernel
theorem d_T_quantile_27 : decode b_T_quantile 27 = .ok (.getfield 86, 3) := by decide +kernel
theorem d_T_quantile_30 : decode b_T_quantile 30 = .ok (.astore_n 3, 1) := by decide +kernel
theorem d_T_quantile_31 : decode b_T_quantile 31 = .ok (.aload_n 3, 1) := by decide +kernel
theorem d_T_quantile_32 : decode b_T_quantile 32 = .ok (.getfield 151, 3) := by decide +kernel
theorem d_T_quantile_35 : decode b_T_quantile 35 = .ok (.iload_n 2, 1) := by decide +kernel
theorem d_T_quantile_36 : decode b_T_quantile 36 = .ok (.aload_n 3, 1) := by decide +kernel
theorem d_T_quantile_37 : decode b_T_quantile 37 = .ok (.getfield 120, 3) := by decide +kernel
theorem d_T_quantile_40 : decode b_T_quantile 40 = .ok (.imul, 1) := by decide +kernel
theorem d_T_quantile_41 : decode b_T_quantile 41 = .ok (.invokevirtual 166, 3) := by decide +kernel
theorem d_T_quantile_44 : decode b_T_quantile 44 = .ok (.ireturn, 1) := by decide +kernel
theorem d_T_isNode_0 : decode b_T_isNode 0 = .ok (.iload_n 1, 1) := by decide +kernel
theorem d_T_isNode_1 : decode b_T_isNode 1 = .ok (.ifCond .lt 15, 3) := by decide +kernel
theorem d_T_isNode_4 : decode b_T_isNode 4 = .ok (.iload_n 1, 1) := by decide +kernel
theorem d_T_isNode_5 : decode b_T_isNode 5 = .ok (.aload_n 0, 1) := by decide +kernel
theorem d_T_isNode_6 : decode b_T_isNode 6 = .ok (.getfield 15, 3) := by decide +kernel
theorem d_T_isNode_9 : decode b_T_isNode 9 = .ok (.if_icmp .ge 7, 3) := by decide +kernel
theorem d_T_isNode_12 : decode b_T_isNode 12 = .ok (.iconst 1, 1) := by decide +kernel
theorem d_T_isNode_13 : decode b_T_isNode 13 = .ok (.goto 4, 3) := by decide +kernel
theorem d_T_isNode_16 : decode b_T_isNode 16 = .ok (.iconst 0, 1) := by decide +kernel
theorem d_T_isNode_17 : decode b_T_isNode 17 = .ok (.ireturn, 1) := by decide +kernel
theorem d_T_isLeaf_0 : decode b_T_isLeaf 0 = .ok (.aload_n 0, 1) := by decide +kernel
theorem d_T_isLeaf_1 : decode b_T_isLeaf 1 = .ok (.iload_n 1, 1) := by decide +kernel
theorem d_T_isLeaf_2 : decode b_T_isLeaf 2 = .ok (.invokevirtual 43, 3) := by decide +kernel
theorem d_T_isLeaf_5 : decode b_T_isLeaf 5 = .ok (.ifCond .eq 19, 3) := by decide +kernel
theorem d_T_isLeaf_8 : decode b_T_isLeaf 8 = .ok (.aload_n 0, 1) := by decide +kernel
theorem d_T_isLeaf_9 : decode b_T_isLeaf 9 = .ok (.getfield 11, 3) := by decide +kernel
theorem d_T_isLeaf_12 : decode b_T_isLeaf 12 = .ok (.iload_n 1, 1) := by decide +kernel
theorem d_T_isLeaf_13 : decode b_T_isLeaf 13 = .ok (.aaload, 1) := by decide +kernel
theorem d_T_isLeaf_14 : decode b_T_isLeaf 14 = .ok (.getfield 47, 3) := by decide +kernel
theorem d_T_isLeaf_17 : decode b_T_isLeaf 17 = .ok (.ifCond .eq 7, 3) := by decide +kernel
theorem d_T_isLeaf_20 : decode b_T_isLeaf 20 = .ok (.iconst 1, 1) := by decide +kernel
theorem d_T_isLeaf_21 : decode b_T_isLeaf 21 = .ok (.goto 4, 3) := by decide +kernel
theorem d_T_isLeaf_24 : decode b_T_isLeaf 24 = .ok (.iconst 0, 1) := by decide +kernel
theorem d_T_isLeaf_25 : decode b_T_isLeaf 25 = .ok (.ireturn, 1) := by decide +kernel
theorem d_T_isValue_0 : decode b_T_isValue 0 = .ok (.iload_n 0, 1) := by decide +kernel
theorem d_T_isValue_1 : decode b_T_isValue 1 = .ok (.ifCond .lt 13, 3) := by decide +kernel
theorem d_T_isValue_4 : decode b_T_isValue 4 = .ok (.iload_n 0, 1) := by decide +kernel
theorem d_T_isValue_5 : decode b_T_isValue 5 = .ok (.bipush 32, 2) := by decide +kernel
theorem d_T_isValue_7 : decode b_T_isValue 7 = .ok (.if_icmp .ge 7, 3) := by decide +kernel
theorem d_T_isValue_10 : decode b_T_isValue 10 = .ok (.iconst 1, 1) := by decide +kernel
theorem d_T_isValue_11 : decode b_T_isValue 11 = .ok (.goto 4, 3) := by decide +kernel
theorem d_T_isValue_14 : decode b_T_isValue 14 = .ok (.iconst 0, 1) := by decide +kernel
theorem d_T_isValue_15 : decode b_T_isValue 15 = .ok (.ireturn, 1) := by decide +kernel
theorem d_T_slotOf_0 : decode b_T_slotOf 0 = .ok (.iload_n 1, 1) := by decide +kernel
theorem d_T_slotOf_1 : decode b_T_slotOf 1 = .ok (.iconst 1, 1) := by decide +kernel
theorem d_T_slotOf_2 : decode b_T_slotOf 2 = .ok (.if_icmp .ge 7, 3) := by decide +kernel
theorem d_T_slotOf_5 : decode b_T_slotOf 5 = .ok (.iconst (-1), 1) := by decide +kernel
theorem d_T_slotOf_6 : decode b_T_slotOf 6 = .ok (.goto 8, 3) := by decide +kernel
theorem d_T_slotOf_9 : decode b_T_slotOf 9 = .ok (.aload_n 0, 1) := by decide +kernel
theorem d_T_slotOf_10 : decode b_T_slotOf 10 = .ok (.iload_n 1, 1) := by decide +kernel
theorem d_T_slotOf_11 : decode b_T_slotOf 11 = .ok (.invokevirtual 169, 3) := by decide +kernel
theorem d_T_slotOf_14 : decode b_T_slotOf 14 = .ok (.ireturn, 1) := by decide +kernel
theorem d_T_freeSlot_0 : decode b_T_freeSlot 0 = .ok (.aload_n 0, 1) := by decide +kernel
theorem d_T_freeSlot_1 : decode b_T_freeSlot 1 = .ok (.iconst 0, 1) := by decide +kernel
theorem d_T_freeSlot_2 : decode b_T_freeSlot 2 = .ok (.invokevirtual 169, 3) := by decide +kernel
theorem d_T_freeSlot_5 : decode b_T_freeSlot 5 = .ok (.ireturn, 1) := by decide +kernel
theorem d_T_slotWithNumber_0 : decode b_T_slotWithNumber 0 = .ok (.iconst 0, 1) := by decide +kernel
theorem d_T_slotWithNumber_1 : decode b_T_slotWithNumber 1 = .ok (.istore_n 2, 1) := by decide +kernel
theorem d_T_slotWithNumber_2 : decode b_T_slotWithNumber 2 = .ok (.iload_n 2, 1) := by decide +kernel
theorem d_T_slotWithNumber_3 : decode b_T_slotWithNumber 3 = .ok (.bipush 12, 2) := by decide +kernel
theorem d_T_slotWithNumber_5 : decode b_T_slotWithNumber 5 = .ok (.if_icmp .ge 24, 3) := by decide +kernel
theorem d_T_slotWithNumber_8 : decode b_T_slotWithNumber 8 = .ok (.aload_n 0, 1) := by decide +kernel
theorem d_T_slotWithNumber_9 : decode b_T_slotWithNumber 9 = .ok (.getfield 21, 3) := by decide +kernel
theorem d_T_slotWithNumber_12 : decode b_T_slotWithNumber 12 = .ok (.iload_n 2, 1) := by decide +kernel
theorem d_T_slotWithNumber_13 : decode b_T_slotWithNumber 13 = .ok (.aaload, 1) := by decide +kernel
theorem d_T_slotWithNumber_14 : decode b_T_slotWithNumber 14 = .ok (.getfield 105, 3) := by decide +kernel
theorem d_T_slotWithNumber_17 : decode b_T_slotWithNumber 17 = .ok (.iload_n 1, 1) := by decide +kernel
theorem d_T_slotWithNumber_18 : decode b_T_slotWithNumber 18 = .ok (.if_icmp .ne 5, 3) := by decide +kernel
theorem d_T_slotWithNumber_21 : decode b_T_slotWithNumber 21 = .ok (.iload_n 2, 1) := by decide +kernel
theorem d_T_slotWithNumber_22 : decode b_T_slotWithNumber 22 = .ok (.ireturn, 1) := by decide +kernel
theorem d_T_slotWithNumber_23 : decode b_T_slotWithNumber 23 = .ok (.iinc 2 1, 3) := by decide +kernel
theorem d_T_slotWithNumber_26 : decode b_T_slotWithNumber 26 = .ok (.goto (-24), 3) := by decide +kernel
theorem d_T_slotWithNumber_29 : decode b_T_slotWithNumber 29 = .ok (.iconst (-1), 1) := by decide +kernel
theorem d_T_slotWithNumber_30 : decode b_T_slotWithNumber 30 = .ok (.ireturn, 1) := by decide +kernel
theorem d_T_forgetChildren_0 : decode b_T_forgetChildren 0 = .ok (.iconst 1, 1) := by decide +kernel
theorem d_T_forgetChildren_1 : decode b_T_forgetChildren 1 = .ok (.istore_n 2, 1) := by decide +kernel
theorem d_T_forgetChildren_2 : decode b_T_forgetChildren 2 = .ok (.iload_n 2, 1) := by decide +kernel
theorem d_T_forgetChildren_3 : decode b_T_forgetChildren 3 = .ok (.aload_n 0, 1) := by decide +kernel
theorem d_T_forgetChildren_4 : decode b_T_forgetChildren 4 = .ok (.getfield 15, 3) := by decide +kernel
theorem d_T_forgetChildren_7 : decode b_T_forgetChildren 7 = .ok (.if_icmp .ge 32, 3) := by decide +kernel
theorem d_T_forgetChildren_10 : decode b_T_forgetChildren 10 = .ok (.aload_n 0, 1) := by decide +kernel
theorem d_T_forgetChildren_11 : decode b_T_forgetChildren 11 = .ok (.getfield 11, 3) := by decide +kernel
theorem d_T_forgetChildren_14 : decode b_T_forgetChildren 14 = .ok (.iload_n 2, 1) := by decide +kernel
theorem d_T_forgetChildren_15 : decode b_T_forgetChildren 15 = .ok (.aaload, 1) := by decide +kernel
theorem d_T_forgetChildren_16 : decode b_T_forgetChildren 16 = .ok (.getfield 51, 3) := by decide +kernel
theorem d_T_forgetChildren_19 : decode b_T_forgetChildren 19 = .ok (.iload_n 1, 1) := by decide +kernel
theorem d_T_forgetChildren_20 : decode b_T_forgetChildren 20 = .ok (.if_icmp .ne 13, 3) := by decide +kernel
theorem d_T_forgetChildren_23 : decode b_T_forgetChildren 23 = .ok (.aload_n 0, 1) := by decide +kernel
theorem d_T_forgetChildren_24 : decode b_T_forgetChildren 24 = .ok (.getfield 11, 3) := by decide +kernel
theorem d_T_forgetChildren_27 : decode b_T_forgetChildren 27 = .ok (.iload_n 2, 1) := by decide +kernel
theorem d_T_forgetChildren_28 : decode b_T_forgetChildren 28 = .ok (.aaload, 1) := by decide +kernel
theorem d_T_forgetChildren_29 : decode b_T_forgetChildren 29 = .ok (.iconst 0, 1) := by decide +kernel
theorem d_T_forgetChildren_30 : decode b_T_forgetChildren 30 = .ok (.putfield 108, 3) := by decide +kernel
theorem d_T_forgetChildren_33 : decode b_T_forgetChildren 33 = .ok (.iinc 2 1, 3) := by decide +kernel
theorem d_T_forgetChildren_36 : decode b_T_forgetChildren 36 = .ok (.goto (-34), 3) := by decide +kernel
theorem d_T_forgetChildren_39 : decode b_T_forgetChildren 39 = .ok (.return_, 1) := by decide +kernel
theorem d_T_mergeKept_0 : decode b_T_mergeKept 0 = .ok (.aload_n 0, 1) := by decide +kernel
theorem d_T_mergeKept_1 : decode b_T_mergeKept 1 = .ok (.getfield 11, 3) := by decide +kernel
theorem d_T_mergeKept_4 : decode b_T_mergeKept 4 = .ok (.iload_n 1, 1) := by decide +kernel
theorem d_T_mergeKept_5 : decode b_T_mergeKept 5 = .ok (.aaload, 1) := by decide +kernel
theorem d_T_mergeKept_6 : decode b_T_mergeKept 6 = .ok (.getfield 86, 3) := by decide +kernel
theorem d_T_mergeKept_9 : decode b_T_mergeKept 9 = .ok (.astore_n 2, 1) := by decide +kernel
theorem d_T_mergeKept_10 : decode b_T_mergeKept 10 = .ok (.aload_n 2, 1) := by decide +kernel
theorem d_T_mergeKept_11 : decode b_T_mergeKept 11 = .ok (.invokevirtual 172, 3) := by decide +kernel
theorem d_T_mergeKept_14 : decode b_T_mergeKept 14 = .ok (.iconst 1, 1) := by decide +kernel
theorem d_T_mergeKept_15 : decode b_T_mergeKept 15 = .ok (.istore_n 3, 1) := by decide +kernel
theorem d_T_mergeKept_16 : decode b_T_mergeKept 16 = .ok (.iload_n 3, 1) := by decide +kernel
theorem d_T_mergeKept_17 : decode b_T_mergeKept 17 = .ok (.aload_n 0, 1) := by decide +kernel
theorem d_T_mergeKept_18 : decode b_T_mergeKept 18 = .ok (.getfield 15, 3) := by decide +kernel
theorem d_T_mergeKept_21 : decode b_T_mergeKept 21 = .ok (.if_icmp .ge 54, 3) := by decide +kernel
theorem d_T_mergeKept_24 : decode b_T_mergeKept 24 = .ok (.aload_n 0, 1) := by decide +kernel
theorem d_T_mergeKept_25 : decode b_T_mergeKept 25 = .ok (.getfield 11, 3) := by decide +kernel
theorem d_T_mergeKept_28 : decode b_T_mergeKept 28 = .ok (.iload_n 3, 1) := by decide +kernel
theorem d_T_mergeKept_29 : decode b_T_mergeKept 29 = .ok (.aaload, 1) := by decide +kernel
theorem d_T_mergeKept_30 : decode b_T_mergeKept 30 = .ok (.astore 4, 2) := by decide +kernel
theorem d_T_mergeKept_32 : decode b_T_mergeKept 32 = .ok (.aload 4, 2) := by decide +kernel
theorem d_T_mergeKept_34 : decode b_T_mergeKept 34 = .ok (.getfield 51, 3) := by decide +kernel
theorem d_T_mergeKept_37 : decode b_T_mergeKept 37 = .ok (.iload_n 1, 1) := by decide +kernel
theorem d_T_mergeKept_38 : decode b_T_mergeKept 38 = .ok (.if_icmp .ne 31, 3) := by decide +kernel
theorem d_T_mergeKept_41 : decode b_T_mergeKept 41 = .ok (.aload 4, 2) := by decide +kernel
theorem d_T_mergeKept_43 : decode b_T_mergeKept 43 = .ok (.getfield 108, 3) := by decide +kernel
theorem d_T_mergeKept_46 : decode b_T_mergeKept 46 = .ok (.ifCond .le 23, 3) := by decide +kernel
theorem d_T_mergeKept_49 : decode b_T_mergeKept 49 = .ok (.aload 4, 2) := by decide +kernel
theorem d_T_mergeKept_51 : decode b_T_mergeKept 51 = .ok (.getfield 111, 3) := by decide +kernel
theorem d_T_mergeKept_54 : decode b_T_mergeKept 54 = .ok (.getfield 120, 3) := by decide +kernel
theorem d_T_mergeKept_57 : decode b_T_mergeKept 57 = .ok (.ifCond .le 12, 3) := by decide +kernel
theorem d_T_mergeKept_60 : decode b_T_mergeKept 60 = .ok (.aload_n 2, 1) := by decide +kernel
theorem d_T_mergeKept_61 : decode b_T_mergeKept 61 = .ok (.aload 4, 2) := by decide +kernel
theorem d_T_mergeKept_63 : decode b_T_mergeKept 63 = .ok (.getfield 111, 3) := by decide +kernel
theorem d_T_mergeKept_66 : decode b_T_mergeKept 66 = .ok (.invokevirtual 175, 3) := by decide +kernel
theorem d_T_mergeKept_69 : decode b_T_mergeKept 69 = .ok (.iinc 3 1, 3) := by decide +kernel
theorem d_T_mergeKept_72 : decode b_T_mergeKept 72 = .ok (.goto (-56), 3) := by decide +kernel
theorem d_T_mergeKept_75 : decode b_T_mergeKept 75 = .ok (.return_, 1) := by decide +kernel
theorem d_T_clear_0 : decode b_T_clear 0 = .ok (.iconst 0, 1) := by decide +kernel
theorem d_T_clear_1 : decode b_T_clear 1 = .ok (.istore_n 1, 1) := by decide +kernel
theorem d_T_clear_2 : decode b_T_clear 2 = .ok (.iload_n 1, 1) := by decide +kernel
theorem d_T_clear_3 : decode b_T_clear 3 = .ok (.aload_n 0, 1) := by decide +kernel
theorem d_T_clear_4 : decode b_T_clear 4 = .ok (.arraylength, 1) := by decide +kernel
theorem d_T_clear_5 : decode b_T_clear 5 = .ok (.if_icmp .ge 13, 3) := by decide +kernel
theorem d_T_clear_8 : decode b_T_clear 8 = .ok (.aload_n 0, 1) := by decide +kernel
theorem d_T_clear_9 : decode b_T_clear 9 = .ok (.iload_n 1, 1) := by decide +kernel
theorem d_T_clear_10 : decode b_T_clear 10 = .ok (.iconst 0, 1) := by decide +kernel
theorem d_T_clear_11 : decode b_T_clear 11 = .ok (.iastore, 1) := by decide +kernel
theorem d_T_clear_12 : decode b_T_clear 12 = .ok (.iinc 1 1, 3) := by decide +kernel
theorem d_T_clear_15 : decode b_T_clear 15 = .ok (.goto (-13), 3) := by decide +kernel
theorem d_T_clear_18 : decode b_T_clear 18 = .ok (.return_, 1) := by decide +kernel
theorem d_T_overwrite_0 : decode b_T_overwrite 0 = .ok (.iconst 0, 1) := by decide +kernel
theorem d_T_overwrite_1 : decode b_T_overwrite 1 = .ok (.istore_n 2, 1) := by decide +kernel
theorem d_T_overwrite_2 : decode b_T_overwrite 2 = .ok (.iload_n 2, 1) := by decide +kernel
theorem d_T_overwrite_3 : decode b_T_overwrite 3 = .ok (.aload_n 0, 1) := by decide +kernel
theorem d_T_overwrite_4 : decode b_T_overwrite 4 = .ok (.arraylength, 1) := by decide +kernel
theorem d_T_overwrite_5 : decode b_T_overwrite 5 = .ok (.if_icmp .ge 21, 3) := by decide +kernel
theorem d_T_overwrite_8 : decode b_T_overwrite 8 = .ok (.iload_n 2, 1) := by decide +kernel
theorem d_T_overwrite_9 : decode b_T_overwrite 9 = .ok (.aload_n 1, 1) := by decide +kernel
theorem d_T_overwrite_10 : decode b_T_overwrite 10 = .ok (.arraylength, 1) := by decide +kernel
theorem d_T_overwrite_11 : decode b_T_overwrite 11 = .ok (.if_icmp .ge 15, 3) := by decide +kernel
theorem d_T_overwrite_14 : decode b_T_overwrite 14 = .ok (.aload_n 0, 1) := by decide +kernel
theorem d_T_overwrite_15 : decode b_T_overwrite 15 = .ok (.iload_n 2, 1) := by decide +kernel
theorem d_T_overwrite_16 : decode b_T_overwrite 16 = .ok (.aload_n 1, 1) := by decide +kernel
theorem d_T_overwrite_17 : decode b_T_overwrite 17 = .ok (.iload_n 2, 1) := by decide +kernel
theorem d_T_overwrite_18 : decode b_T_overwrite 18 = .ok (.iaload, 1) := by decide +kernel
theorem d_T_overwrite_19 : decode b_T_overwrite 19 = .ok (.iastore, 1) := by decide +kernel
theorem d_T_overwrite_20 : decode b_T_overwrite 20 = .ok (.iinc 2 1, 3) := by decide +kernel
theorem d_T_overwrite_23 : decode b_T_overwrite 23 = .ok (.goto (-21), 3) := by decide +kernel
theorem d_T_overwrite_26 : decode b_T_overwrite 26 = .ok (.return_, 1) := by decide +kernel
theorem d_T_addTo_0 : decode b_T_addTo 0 = .ok (.iconst 0, 1) := by decide +kernel
theorem d_T_addTo_1 : decode b_T_addTo 1 = .ok (.istore_n 2, 1) := by decide +kernel
theorem d_T_addTo_2 : decode b_T_addTo 2 = .ok (.iload_n 2, 1) := by decide +kernel
theorem d_T_addTo_3 : decode b_T_addTo 3 = .ok (.aload_n 0, 1) := by decide +kernel
theorem d_T_addTo_4 : decode b_T_addTo 4 = .ok (.arraylength, 1) := by decide +kernel
theorem d_T_addTo_5 : decode b_T_addTo 5 = .ok (.if_icmp .ge 24, 3) := by decide +kernel
theorem d_T_addTo_8 : decode b_T_addTo 8 = .ok (.iload_n 2, 1) := by decide +kernel
theorem d_T_addTo_9 : decode b_T_addTo 9 = .ok (.aload_n 1, 1) := by decide +kernel
theorem d_T_addTo_10 : decode b_T_addTo 10 = .ok (.arraylength, 1) := by decide +kernel
theorem d_T_addTo_11 : decode b_T_addTo 11 = .ok (.if_icmp .ge 18, 3) := by decide +kernel
theorem d_T_addTo_14 : decode b_T_addTo 14 = .ok (.aload_n 0, 1) := by decide +kernel
theorem d_T_addTo_15 : decode b_T_addTo 15 = .ok (.iload_n 2, 1) := by decide +kernel
theorem d_T_addTo_16 : decode b_T_addTo 16 = .ok (.dup2, 1) := by decide +kernel
theorem d_T_addTo_17 : decode b_T_addTo 17 = .ok (.iaload, 1) := by decide +kernel
theorem d_T_addTo_18 : decode b_T_addTo 18 = .ok (.aload_n 1, 1) := by decide +kernel
theorem d_T_addTo_19 : decode b_T_addTo 19 = .ok (.iload_n 2, 1) := by decide +kernel
theorem d_T_addTo_20 : decode b_T_addTo 20 = .ok (.iaload, 1) := by decide +kernel
theorem d_T_addTo_21 : decode b_T_addTo 21 = .ok (.iadd, 1) := by decide +kernel
theorem d_T_addTo_22 : decode b_T_addTo 22 = .ok (.iastore, 1) := by decide +kernel
theorem d_T_addTo_23 : decode b_T_addTo 23 = .ok (.iinc 2 1, 3) := by decide +kernel
theorem d_T_addTo_26 : decode b_T_addTo 26 = .ok (.goto (-24), 3) := by decide +kernel
theorem d_T_addTo_29 : decode b_T_addTo 29 = .ok (.return_, 1) := by decide +kernel
end
section
theorem d_R_init_0 : decode b_R_init 0 = .ok (.aload_n 0, 1) := by decide +kernel
theorem d_R_init_1 : decode b_R_init 1 = .ok (.invokespecial 1, 3) := by decide +kernel
theorem d_R_init_4 : decode b_R_init 4 = .ok (.aload_n 0, 1) := by decide +kernel
theorem d_R_init_5 : decode b_R_init 5 = .ok (.iconst 1, 1) := by decide +kernel
theorem d_R_init_6 : decode b_R_init 6 = .ok (.putfield 7, 3) := by decide +kernel
theorem d_R_init_9 : decode b_R_init 9 = .ok (.aload_n 0, 1) := by decide +kernel
theorem d_R_init_10 : decode b_R_init 10 = .ok (.bipush 12, 2) := by decide +kernel
theorem d_R_init_12 : decode b_R_init 12 = .ok (.newarray .int, 2) := by decide +kernel
theorem d_R_init_14 : decode b_R_init 14 = .ok (.putfield 13, 3) := by decide +kernel
theorem d_R_init_17 : decode b_R_init 17 = .ok (.aload_n 0, 1) := by decide +kernel
theorem d_R_init_18 : decode b_R_init 18 = .ok (.bipush 12, 2) := by decide +kernel
theorem d_R_init_20 : decode b_R_init 20 = .ok (.newarray .boolean, 2) := by decide +kernel
theorem d_R_init_22 : decode b_R_init 22 = .ok (.putfield 17, 3) := by decide +kernel
theorem d_R_init_25 : decode b_R_init 25 = .ok (.aload_n 0, 1) := by decide +kernel
theorem d_R_init_26 : decode b_R_init 26 = .ok (.bipush 12, 2) := by decide +kernel
theorem d_R_init_28 : decode b_R_init 28 = .ok (.newarray .int, 2) := by decide +kernel
theorem d_R_init_30 : decode b_R_init 30 = .ok (.putfield 21, 3) := by decide +kernel
theorem d_R_init_33 : decode b_R_init 33 = .ok (.aload_n 0, 1) := by decide +kernel
theorem d_R_init_34 : decode b_R_init 34 = .ok (.sipush 576, 3) := by decide +kernel
theorem d_R_init_37 : decode b_R_init 37 = .ok (.newarray .int, 2) := by decide +kernel
theorem d_R_init_39 : decode b_R_init 39 = .ok (.putfield 24, 3) := by decide +kernel
theorem d_R_init_42 : decode b_R_init 42 = .ok (.aload_n 0, 1) := by decide +kernel
theorem d_R_init_43 : decode b_R_init 43 = .ok (.bipush 12, 2) := by decide +kernel
theorem d_R_init_45 : decode b_R_init 45 = .ok (.newarray .int, 2) := by decide +kernel
theorem d_R_init_47 : decode b_R_init 47 = .ok (.putfield 27, 3) := by decide +kernel
theorem d_R_init_50 : decode b_R_init 50 = .ok (.aload_n 0, 1) := by decide +kernel
theorem d_R_init_51 : decode b_R_init 51 = .ok (.bipush 48, 2) := by decide +kernel
theorem d_R_init_53 : decode b_R_init 53 = .ok (.newarray .int, 2) := by decide +kernel
theorem d_R_init_55 : decode b_R_init 55 = .ok (.putfield 30, 3) := by decide +kernel
theorem d_R_init_58 : decode b_R_init 58 = .ok (.aload_n 0, 1) := by decide +kernel
theorem d_R_init_59 : decode b_R_init 59 = .ok (.bipush 12, 2) := by decide +kernel
theorem d_R_init_61 : decode b_R_init 61 = .ok (.newarray .int, 2) := by decide +kernel
theorem d_R_init_63 : decode b_R_init 63 = .ok (.putfield 33, 3) := by decide +kernel
theorem d_R_init_66 : decode b_R_init 66 = .ok (.aload_n 0, 1) := by decide +kernel
theorem d_R_init_67 : decode b_R_init 67 = .ok (.bipush 12, 2) := by decide +kernel
theorem d_R_init_69 : decode b_R_init 69 = .ok (.newarray .int, 2) := by decide +kernel
theorem d_R_init_71 : decode b_R_init 71 = .ok (.putfield 36, 3) := by decide +kernel
theorem d_R_init_74 : decode b_R_init 74 = .ok (.aload_n 0, 1) := by decide +kernel
theorem d_R_init_75 : decode b_R_init 75 = .ok (.sipush 144, 3) := by decide +kernel
theorem d_R_init_78 : decode b_R_init 78 = .ok (.newarray .int, 2) := by decide +kernel
theorem d_R_init_80 : decode b_R_init 80 = .ok (.putfield 39, 3) := by decide +kernel
theorem d_R_init_83 : decode b_R_init 83 = .ok (.aload_n 0, 1) := by decide +kernel
theorem d_R_init_84 : decode b_R_init 84 = .ok (.bipush 12, 2) := by decide +kernel
theorem d_R_init_86 : decode b_R_init 86 = .ok (.newarray .int, 2) := by decide +kernel
theorem d_R_init_88 : decode b_R_init 88 = .ok (.putfield 42, 3) := by decide +kernel
theorem d_R_init_91 : decode b_R_init 91 = .ok (.aload_n 0, 1) := by decide +kernel
theorem d_R_init_92 : decode b_R_init 92 = .ok (.bipush 12, 2) := by decide +kernel
theorem d_R_init_94 : decode b_R_init 94 = .ok (.newarray .int, 2) := by decide +kernel
theorem d_R_init_96 : decode b_R_init 96 = .ok (.putfield 45, 3) := by decide +kernel
theorem d_R_init_99 : decode b_R_init 99 = .ok (.aload_n 0, 1) := by decide +kernel
theorem d_R_init_100 : decode b_R_init 100 = .ok (.bipush 12, 2) := by decide +kernel
theorem d_R_init_102 : decode b_R_init 102 = .ok (.newarray .int, 2) := by decide +kernel
theorem d_R_init_104 : decode b_R_init 104 = .ok (.putfield 48, 3) := by decide +kernel
theorem d_R_init_107 : decode b_R_init 107 = .ok (.aload_n 0, 1) := by decide +kernel
theorem d_R_init_108 : decode b_R_init 108 = .ok (.sipush 144, 3) := by decide +kernel
theorem d_R_init_111 : decode b_R_init 111 = .ok (.newarray .int, 2) := by decide +kernel
theorem d_R_init_113 : decode b_R_init 113 = .ok (.putfield 51, 3) := by decide +kernel
theorem d_R_init_116 : decode b_R_init 116 = .ok (.aload_n 0, 1) := by decide +kernel
theorem d_R_init_117 : decode b_R_init 117 = .ok (.bipush 12, 2) := by decide +kernel
theorem d_R_init_119 : decode b_R_init 119 = .ok (.newarray .int, 2) := by decide +kernel
theorem d_R_init_121 : decode b_R_init 121 = .ok (.putfield 54, 3) := by decide +kernel
theorem d_R_init_124 : decode b_R_init 124 = .ok (.aload_n 0, 1) := by decide +kernel
theorem d_R_init_125 : decode b_R_init 125 = .ok (.bipush 12, 2) := by decide +kernel
theorem d_R_init_127 : decode b_R_init 127 = .ok (.newarray .int, 2) := by decide +kernel
theorem d_R_init_129 : decode b_R_init 129 = .ok (.putfield 57, 3) := by decide +kernel
theorem d_R_init_132 : decode b_R_init 132 = .ok (.aload_n 0, 1) := by decide +kernel
theorem d_R_init_133 : decode b_R_init 133 = .ok (.sipush 384, 3) := by decide +kernel
theorem d_R_init_136 : decode b_R_init 136 = .ok (.newarray .int, 2) := by decide +kernel
theorem d_R_init_138 : decode b_R_init 138 = .ok (.putfield 60, 3) := by decide +kernel
theorem d_R_init_141 : decode b_R_init 141 = .ok (.aload_n 0, 1) := by decide +kernel
theorem d_R_init_142 : decode b_R_init 142 = .ok (.sipush 768, 3) := by decide +kernel
theorem d_R_init_145 : decode b_R_init 145 = .ok (.newarray .int, 2) := by decide +kernel
theorem d_R_init_147 : decode b_R_init 147 = .ok (.putfield 63, 3) := by decide +kernel
theorem d_R_init_150 : decode b_R_init 150 = .ok (.aload_n 0, 1) := by decide +kernel
theorem d_R_init_151 : decode b_R_init 151 = .ok (.bipush 32, 2) := by decide +kernel
theorem d_R_init_153 : decode b_R_init 153 = .ok (.newarray .boolean, 2) := by decide +kernel
theorem d_R_init_155 : decode b_R_init 155 = .ok (.putfield 66, 3) := by decide +kernel
theorem d_R_init_158 : decode b_R_init 158 = .ok (.aload_n 0, 1) := by decide +kernel
theorem d_R_init_159 : decode b_R_init 159 = .ok (.iload_n 1, 1) := by decide +kernel
theorem d_R_init_160 : decode b_R_init 160 = .ok (.iconst 1, 1) := by decide +kernel
theorem d_R_init_161 : decode b_R_init 161 = .ok (.if_icmp .ge 7, 3) := by decide +kernel
theorem d_R_init_164 : decode b_R_init 164 = .ok (.iconst 1, 1) := by decide +kernel
theorem d_R_init_165 : decode b_R_init 165 = .ok (.goto 15, 3) := by decide +kernel
theorem d_R_init_168 : decode b_R_init 168 = .ok (.iload_n 1, 1) := by decide +kernel
theorem d_R_init_169 : decode b_R_init 169 = .ok (.bipush 6, 2) := by decide +kernel
theorem d_R_init_171 : decode b_R_init 171 = .ok (.if_icmp .le 8, 3) := by decide +kernel
theorem d_R_init_174 : decode b_R_init 174 = .ok (.bipush 6, 2) := by decide +kernel
theorem d_R_init_176 : decode b_R_init 176 = .ok (.goto 4, 3) := by decide +kernel
theorem d_R_init_179 : decode b_R_init 179 = .ok (.iload_n 1, 1) := by decide +kernel
theorem d_R_init_180 : decode b_R_init 180 = .ok (.putfield 69, 3) := by decide +kernel
theorem d_R_init_183 : decode b_R_init 183 = .ok (.aload_n 0, 1) := by decide +kernel
theorem d_R_init_184 : decode b_R_init 184 = .ok (.iload_n 2, 1) := by decide +kernel
theorem d_R_init_185 : decode b_R_init 185 = .ok (.iconst 2, 1) := by decide +kernel
theorem d_R_init_186 : decode b_R_init 186 = .ok (.if_icmp .ge 7, 3) := by decide +kernel
theorem d_R_init_189 : decode b_R_init 189 = .ok (.iconst 2, 1) := by decide +kernel
theorem d_R_init_190 : decode b_R_init 190 = .ok (.goto 15, 3) := by decide +kernel
theorem d_R_init_193 : decode b_R_init 193 = .ok (.iload_n 2, 1) := by decide +kernel
theorem d_R_init_194 : decode b_R_init 194 = .ok (.bipush 16, 2) := by decide +kernel
theorem d_R_init_196 : decode b_R_init 196 = .ok (.if_icmp .le 8, 3) := by decide +kernel
theorem d_R_init_199 : decode b_R_init 199 = .ok (.bipush 16, 2) := by decide +kernel
theorem d_R_init_201 : decode b_R_init 201 = .ok (.goto 4, 3) := by decide +kernel
theorem d_R_init_204 : decode b_R_init 204 = .ok (.iload_n 2, 1) := by decide +kernel
theorem d_R_init_205 : decode b_R_init 205 = .ok (.putfield 72, 3) := by decide +kernel
theorem d_R_init_208 : decode b_R_init 208 = .ok (.return_, 1) := by decide +kernel
theorem d_R_isNode_0 : decode b_R_isNode 0 = .ok (.iload_n 1, 1) := by decide +kernel
theorem d_R_isNode_1 : decode b_R_isNode 1 = .ok (.ifCond .lt 15, 3) := by decide +kernel
theorem d_R_isNode_4 : decode b_R_isNode 4 = .ok (.iload_n 1, 1) := by decide +kernel
theorem d_R_isNode_5 : decode b_R_isNode 5 = .ok (.aload_n 0, 1) := by decide +kernel
theorem d_R_isNode_6 : decode b_R_isNode 6 = .ok (.getfield 7, 3) := by decide +kernel
theorem d_R_isNode_9 : decode b_R_isNode 9 = .ok (.if_icmp .ge 7, 3) := by decide +kernel
theorem d_R_isNode_12 : decode b_R_isNode 12 = .ok (.iconst 1, 1) := by decide +kernel
theorem d_R_isNode_13 : decode b_R_isNode 13 = .ok (.goto 4, 3) := by decide +kernel
theorem d_R_isNode_16 : decode b_R_isNode 16 = .ok (.iconst 0, 1) := by decide +kernel
theorem d_R_isNode_17 : decode b_R_isNode 17 = .ok (.ireturn, 1) := by decide +kernel
theorem d_R_leafNode_0 : decode b_R_leafNode 0 = .ok (.aload_n 0, 1) := by decide +kernel
theorem d_R_leafNode_1 : decode b_R_leafNode 1 = .ok (.iload_n 1, 1) := by decide +kernel
theorem d_R_leafNode_2 : decode b_R_leafNode 2 = .ok (.invokevirtual 75, 3) := by decide +kernel
theorem d_R_leafNode_5 : decode b_R_leafNode 5 = .ok (.ifCond .eq 16, 3) := by decide +kernel
theorem d_R_leafNode_8 : decode b_R_leafNode 8 = .ok (.aload_n 0, 1) := by decide +kernel
theorem d_R_leafNode_9 : decode b_R_leafNode 9 = .ok (.getfield 17, 3) := by decide +kernel
theorem d_R_leafNode_12 : decode b_R_leafNode 12 = .ok (.iload_n 1, 1) := by decide +kernel
theorem d_R_leafNode_13 : decode b_R_leafNode 13 = .ok (.baload, 1) := by decide +kernel
theorem d_R_leafNode_14 : decode b_R_leafNode 14 = .ok (.ifCond .eq 7, 3) := by decide +kernel
theorem d_R_leafNode_17 : decode b_R_leafNode 17 = .ok (.iconst 1, 1) := by decide +kernel
theorem d_R_leafNode_18 : decode b_R_leafNode 18 = .ok (.goto 4, 3) := by decide +kernel
theorem d_R_leafNode_21 : decode b_R_leafNode 21 = .ok (.iconst 0, 1) := by decide +kernel
theorem d_R_leafNode_22 : decode b_R_leafNode 22 = .ok (.ireturn, 1) := by decide +kernel
theorem d_R_attach_0 : decode b_R_attach 0 = .ok (.aload_n 0, 1) := by decide +kernel
theorem d_R_attach_1 : decode b_R_attach 1 = .ok (.iload_n 1, 1) := by decide +kernel
theorem d_R_attach_2 : decode b_R_attach 2 = .ok (.invokevirtual 75, 3) := by decide +kernel
theorem d_R_attach_5 : decode b_R_attach 5 = .ok (.ifCond .eq 21, 3) := by decide +kernel
theorem d_R_attach_8 : decode b_R_attach 8 = .ok (.aload_n 0, 1) := by decide +kernel
theorem d_R_attach_9 : decode b_R_attach 9 = .ok (.getfield 17, 3) := by decide +kernel
theorem d_R_attach_12 : decode b_R_attach 12 = .ok (.iload_n 1, 1) := by decide +kernel
theorem d_R_attach_13 : decode b_R_attach 13 = .ok (.baload, 1) := by decide +kernel
theorem d_R_attach_14 : decode b_R_attach 14 = .ok (.ifCond .ne 12, 3) := by decide +kernel
theorem d_R_attach_17 : decode b_R_attach 17 = .ok (.aload_n 0, 1) := by decide +kernel
theorem d_R_attach_18 : decode b_R_attach 18 = .ok (.getfield 7, 3) := by decide +kernel
theorem d_R_attach_21 : decode b_R_attach 21 = .ok (.bipush 12, 2) := by decide +kernel
theorem d_R_attach_23 : decode b_R_attach 23 = .ok (.if_icmp .ne 5, 3) := by decide +kernel
theorem d_R_attach_26 : decode b_R_attach 26 = .ok (.iconst (-1), 1) := by decide +kernel
theorem d_R_attach_27 : decode b_R_attach 27 = .ok (.ireturn, 1) := by decide +kernel
theorem d_R_attach_28 : decode b_R_attach 28 = .ok (.aload_n 0, 1) := by decide +kernel
theorem d_R_attach_29 : decode b_R_attach 29 = .ok (.getfield 13, 3) := by decide +kernel
theorem d_R_attach_32 : decode b_R_attach 32 = .ok (.aload_n 0, 1) := by decide +kernel
theorem d_R_attach_33 : decode b_R_attach 33 = .ok (.getfield 7, 3) := by decide +kernel
theorem d_R_attach_36 : decode b_R_attach 36 = .ok (.iload_n 1, 1) := by decide +kernel
theorem d_R_attach_37 : decode b_R_attach 37 = .ok (.iastore, 1) := by decide +kernel
theorem d_R_attach_38 : decode b_R_attach 38 = .ok (.aload_n 0, 1) := by decide +kernel
theorem d_R_attach_39 : decode b_R_attach 39 = .ok (.getfield 17, 3) := by decide +kernel
theorem d_R_attach_42 : decode b_R_attach 42 = .ok (.aload_n 0, 1) := by decide +kernel
theorem d_R_attach_43 : decode b_R_attach 43 = .ok (.getfield 7, 3) := by decide +kernel
theorem d_R_attach_46 : decode b_R_attach 46 = .ok (.iload_n 2, 1) := by decide +kernel
theorem d_R_attach_47 : decode b_R_attach 47 = .ok (.bastore, 1) := by decide +kernel
theorem d_R_attach_48 : decode b_R_attach 48 = .ok (.aload_n 0, 1) := by decide +kernel
theorem d_R_attach_49 : decode b_R_attach 49 = .ok (.dup, 1) := by decide +kernel
theorem d_R_attach_50 : decode b_R_attach 50 = .ok (.getfield 7, 3) := by decide +kernel
theorem d_R_attach_53 : decode b_R_attach 53 = .ok (.iconst 1, 1) := by decide +kernel
theorem d_R_attach_54 : decode b_R_attach 54 = .ok (.iadd, 1) := by decide +kernel
theorem d_R_attach_55 : decode b_R_attach 55 = .ok (.putfield 7, 3) := by decide +kernel
theorem d_R_attach_58 : decode b_R_attach 58 = .ok (.aload_n 0, 1) := by decide +kernel
theorem d_R_attach_59 : decode b_R_attach 59 = .ok (.getfield 7, 3) := by decide +kernel
theorem d_R_attach_62 : decode b_R_attach 62 = .ok (.iconst 1, 1) := by decide +kernel
theorem d_R_attach_63 : decode b_R_attach 63 = .ok (.isub, 1) := by decide +kernel
theorem d_R_attach_64 : decode b_R_attach 64 = .ok (.ireturn, 1) := by decide +kernel
theorem d_R_add_0 : decode b_R_add 0 = .ok (.aload_n 0, 1) := by decide +kernel
theorem d_R_add_1 : decode b_R_add 1 = .ok (.iload_n 1, 1) := by decide +kernel
theorem d_R_add_2 : decode b_R_add 2 = .ok (.invokevirtual 79, 3) := by decide +kernel
theorem d_R_add_5 : decode b_R_add 5 = .ok (.ifCond .eq 31, 3) := by decide +kernel
theorem d_R_add_8 : decode b_R_add 8 = .ok (.iload_n 2, 1) := by decide +kernel
theorem d_R_add_9 : decode b_R_add 9 = .ok (.ifCond .lt 27, 3) := by decide +kernel
theorem d_R_add_12 : decode b_R_add 12 = .ok (.iload_n 2, 1) := by decide +kernel
theorem d_R_add_13 : decode b_R_add 13 = .ok (.bipush 31, 2) := by decide +kernel
theorem d_R_add_15 : decode b_R_add 15 = .ok (.if_icmp .gt 21, 3) := by decide +kernel
theorem d_R_add_18 : decode b_R_add 18 = .ok (.aload_n 0, 1) := by decide +kernel
theorem d_R_add_19 : decode b_R_add 19 = .ok (.getfield 27, 3) := by decide +kernel
theorem d_R_add_22 : decode b_R_add 22 = .ok (.iload_n 1, 1) := by decide +kernel
theorem d_R_add_23 : decode b_R_add 23 = .ok (.iaload, 1) := by decide +kernel
theorem d_R_add_24 : decode b_R_add 24 = .ok (.aload_n 0, 1) := by decide +kernel
theorem d_R_add_25 : decode b_R_add 25 = .ok (.getfield 33, 3) := by decide +kernel
theorem d_R_add_28 : decode b_R_add 28 = .ok (.iload_n 1, 1) := by decide +kernel
theorem d_R_add_29 : decode b_R_add 29 = .ok (.iaload, 1) := by decide +kernel
theorem d_R_add_30 : decode b_R_add 30 = .ok (.iadd, 1) := by decide +kernel
theorem d_R_add_31 : decode b_R_add 31 = .ok (.bipush 48, 2) := by decide +kernel
theorem d_R_add_33 : decode b_R_add 33 = .ok (.if_icmp .lt 5, 3) := by decide +kernel
theorem d_R_add_36 : decode b_R_add 36 = .ok (.iconst 0, 1) := by decide +kernel
theorem d_R_add_37 : decode b_R_add 37 = .ok (.ireturn, 1) := by decide +kernel
theorem d_R_add_38 : decode b_R_add 38 = .ok (.aload_n 0, 1) := by decide +kernel
theorem d_R_add_39 : decode b_R_add 39 = .ok (.getfield 30, 3) := by decide +kernel
theorem d_R_add_42 : decode b_R_add 42 = .ok (.iconst 4, 1) := by decide +kernel
theorem d_R_add_43 : decode b_R_add 43 = .ok (.iload_n 1, 1) := by decide +kernel
theorem d_R_add_44 : decode b_R_add 44 = .ok (.imul, 1) := by decide +kernel
theorem d_R_add_45 : decode b_R_add 45 = .ok (.aload_n 0, 1) := by decide +kernel
theorem d_R_add_46 : decode b_R_add 46 = .ok (.getfield 33, 3) := by decide +kernel
theorem d_R_add_49 : decode b_R_add 49 = .ok (.iload_n 1, 1) := by decide +kernel
theorem d_R_add_50 : decode b_R_add 50 = .ok (.iaload, 1) := by decide +kernel
theorem d_R_add_51 : decode b_R_add 51 = .ok (.iadd, 1) := by decide +kernel
theorem d_R_add_52 : decode b_R_add 52 = .ok (.iload_n 2, 1) := by decide +kernel
theorem d_R_add_53 : decode b_R_add 53 = .ok (.iastore, 1) := by decide +kernel
theorem d_R_add_54 : decode b_R_add 54 = .ok (.aload_n 0, 1) := by decide +kernel
theorem d_R_add_55 : decode b_R_add 55 = .ok (.getfield 33, 3) := by decide +kernel
theorem d_R_add_58 : decode b_R_add 58 = .ok (.iload_n 1, 1) := by decide +kernel
theorem d_R_add_59 : decode b_R_add 59 = .ok (.dup2, 1) := by decide +kernel
theorem d_R_add_60 : decode b_R_add 60 = .ok (.iaload, 1) := by decide +kernel
theorem d_R_add_61 : decode b_R_add 61 = .ok (.iconst 1, 1) := by decide +kernel
theorem d_R_add_62 : decode b_R_add 62 = .ok (.iadd, 1) := by decide +kernel
theorem d_R_add_63 : decode b_R_add 63 = .ok (.iastore, 1) := by decide +kernel
theorem d_R_add_64 : decode b_R_add 64 = .ok (.aload_n 0, 1) := by decide +kernel
theorem d_R_add_65 : decode b_R_add 65 = .ok (.getfield 33, 3) := by decide +kernel
theorem d_R_add_68 : decode b_R_add 68 = .ok (.iload_n 1, 1) := by decide +kernel
theorem d_R_add_69 : decode b_R_add 69 = .ok (.iaload, 1) := by decide +kernel
theorem d_R_add_70 : decode b_R_add 70 = .ok (.iconst 4, 1) := by decide +kernel
theorem d_R_add_71 : decode b_R_add 71 = .ok (.if_icmp .ne 8, 3) := by decide +kernel
theorem d_R_add_74 : decode b_R_add 74 = .ok (.aload_n 0, 1) := by decide +kernel
theorem d_R_add_75 : decode b_R_add 75 = .ok (.iload_n 1, 1) := by decide +kernel
theorem d_R_add_76 : decode b_R_add 76 = .ok (.invokevirtual 82, 3) := by decide +kernel
theorem d_R_add_79 : decode b_R_add 79 = .ok (.iconst 1, 1) := by decide +kernel
theorem d_R_add_80 : decode b_R_add 80 = .ok (.ireturn, 1) := by decide +kernel
theorem d_R_writeBlock_0 : decode b_R_writeBlock 0 = .ok (.iconst 0, 1) := by decide +kernel
theorem d_R_writeBlock_1 : decode b_R_writeBlock 1 = .ok (.istore_n 2, 1) := by decide +kernel
theorem d_R_writeBlock_2 : decode b_R_writeBlock 2 = .ok (.iload_n 2, 1) := by decide +kernel
theorem d_R_writeBlock_3 : decode b_R_writeBlock 3 = .ok (.aload_n 0, 1) := by decide +kernel
theorem d_R_writeBlock_4 : decode b_R_writeBlock 4 = .ok (.getfield 33, 3) := by decide +kernel
theorem d_R_writeBlock_7 : decode b_R_writeBlock 7 = .ok (.iload_n 1, 1) := by decide +kernel
theorem d_R_writeBlock_8 : decode b_R_writeBlock 8 = .ok (.iaload, 1) := by decide +kernel
theorem d_R_writeBlock_9 : decode b_R_writeBlock 9 = .ok (.if_icmp .ge 45, 3) := by decide +kernel
theorem d_R_writeBlock_12 : decode b_R_writeBlock 12 = .ok (.aload_n 0, 1) := by decide +kernel
theorem d_R_writeBlock_13 : decode b_R_writeBlock 13 = .ok (.getfield 24, 3) := by decide +kernel
theorem d_R_writeBlock_16 : decode b_R_writeBlock 16 = .ok (.bipush 48, 2) := by decide +kernel
theorem d_R_writeBlock_18 : decode b_R_writeBlock 18 = .ok (.iload_n 1, 1) := by decide +kernel
theorem d_R_writeBlock_19 : decode b_R_writeBlock 19 = .ok (.imul, 1) := by decide +kernel
theorem d_R_writeBlock_20 : decode b_R_writeBlock 20 = .ok (.aload_n 0, 1) := by decide +kernel
theorem d_R_writeBlock_21 : decode b_R_writeBlock 21 = .ok (.getfield 27, 3) := by decide +kernel
theorem d_R_writeBlock_24 : decode b_R_writeBlock 24 = .ok (.iload_n 1, 1) := by decide +kernel
theorem d_R_writeBlock_25 : decode b_R_writeBlock 25 = .ok (.iaload, 1) := by decide +kernel
theorem d_R_writeBlock_26 : decode b_R_writeBlock 26 = .ok (.iadd, 1) := by decide +kernel
theorem d_R_writeBlock_27 : decode b_R_writeBlock 27 = .ok (.aload_n 0, 1) := by decide +kernel
theorem d_R_writeBlock_28 : decode b_R_writeBlock 28 = .ok (.getfield 30, 3) := by decide +kernel
theorem d_R_writeBlock_31 : decode b_R_writeBlock 31 = .ok (.iconst 4, 1) := by decide +kernel
theorem d_R_writeBlock_32 : decode b_R_writeBlock 32 = .ok (.iload_n 1, 1) := by decide +kernel
theorem d_R_writeBlock_33 : decode b_R_writeBlock 33 = .ok (.imul, 1) := by decide +kernel
theorem d_R_writeBlock_34 : decode b_R_writeBlock 34 = .ok (.iload_n 2, 1) := by decide +kernel
theorem d_R_writeBlock_35 : decode b_R_writeBlock 35 = .ok (.iadd, 1) := by decide +kernel
theorem d_R_writeBlock_36 : decode b_R_writeBlock 36 = .ok (.iaload, 1) := by decide +kernel
theorem d_R_writeBlock_37 : decode b_R_writeBlock 37 = .ok (.iastore, 1) := by decide +kernel
theorem d_R_writeBlock_38 : decode b_R_writeBlock 38 = .ok (.aload_n 0, 1) := by decide +kernel
theorem d_R_writeBlock_39 : decode b_R_writeBlock 39 = .ok (.getfield 27, 3) := by decide +kernel
theorem d_R_writeBlock_42 : decode b_R_writeBlock 42 = .ok (.iload_n 1, 1) := by decide +kernel
theorem d_R_writeBlock_43 : decode b_R_writeBlock 43 = .ok (.dup2, 1) := by decide +kernel
theorem d_R_writeBlock_44 : decode b_R_writeBlock 44 = .ok (.iaload, 1) := by decide +kernel
theorem d_R_writeBlock_45 : decode b_R_writeBlock 45 = .ok (.iconst 1, 1) := by decide +kernel
theorem d_R_writeBlock_46 : decode b_R_writeBlock 46 = .ok (.iadd, 1) := by decide +kernel
theorem d_R_writeBlock_47 : decode b_R_writeBlock 47 = .ok (.iastore, 1) := by decide +kernel
theorem d_R_writeBlock_48 : decode b_R_writeBlock 48 = .ok (.iinc 2 1, 3) := by decide +kernel
theorem d_R_writeBlock_51 : decode b_R_writeBlock 51 = .ok (.goto (-49), 3) := by decide +kernel
theorem d_R_writeBlock_54 : decode b_R_writeBlock 54 = .ok (.aload_n 0, 1) := by decide +kernel
theorem d_R_writeBlock_55 : decode b_R_writeBlock 55 = .ok (.getfield 33, 3) := by decide +kernel
theorem d_R_writeBlock_58 : decode b_R_writeBlock 58 = .ok (.iload_n 1, 1) := by decide +kernel
theorem d_R_writeBlock_59 : decode b_R_writeBlock 59 = .ok (.iconst 0, 1) := by decide +kernel
theorem d_R_writeBlock_60 : decode b_R_writeBlock 60 = .ok (.iastore, 1) := by decide +kernel
theorem d_R_writeBlock_61 : decode b_R_writeBlock 61 = .ok (.return_, 1) := by decide +kernel
theorem d_R_flush_0 : decode b_R_flush 0 = .ok (.aload_n 0, 1) := by decide +kernel
theorem d_R_flush_1 : decode b_R_flush 1 = .ok (.iload_n 1, 1) := by decide +kernel
theorem d_R_flush_2 : decode b_R_flush 2 = .ok (.invokevirtual 79, 3) := by decide +kernel
theorem d_R_flush_5 : decode b_R_flush 5 = .ok (.ifCond .ne 5, 3) := by decide +kernel
theorem d_R_flush_8 : decode b_R_flush 8 = .ok (.iconst (-1), 1) := by decide +kernel
theorem d_R_flush_9 : decode b_R_flush 9 = .ok (.ireturn, 1) := by decide +kernel
theorem d_R_flush_10 : decode b_R_flush 10 = .ok (.aload_n 0, 1) := by decide +kernel
theorem d_R_flush_11 : decode b_R_flush 11 = .ok (.getfield 33, 3) := by decide +kernel
theorem d_R_flush_14 : decode b_R_flush 14 = .ok (.iload_n 1, 1) := by decide +kernel
theorem d_R_flush_15 : decode b_R_flush 15 = .ok (.iaload, 1) := by decide +kernel
theorem d_R_flush_16 : decode b_R_flush 16 = .ok (.istore_n 2, 1) := by decide +kernel
theorem d_R_flush_17 : decode b_R_flush 17 = .ok (.aload_n 0, 1) := by decide +kernel
theorem d_R_flush_18 : decode b_R_flush 18 = .ok (.iload_n 1, 1) := by decide +kernel
theorem d_R_flush_19 : decode b_R_flush 19 = .ok (.invokevirtual 82, 3) := by decide +kernel
theorem d_R_flush_22 : decode b_R_flush 22 = .ok (.iload_n 2, 1) := by decide +kernel
theorem d_R_flush_23 : decode b_R_flush 23 = .ok (.ireturn, 1) := by decide +kernel
theorem d_R_crash_0 : decode b_R_crash 0 = .ok (.aload_n 0, 1) := by decide +kernel
theorem d_R_crash_1 : decode b_R_crash 1 = .ok (.iload_n 1, 1) := by decide +kernel
theorem d_R_crash_2 : decode b_R_crash 2 = .ok (.invokevirtual 75, 3) := by decide +kernel
theorem d_R_crash_5 : decode b_R_crash 5 = .ok (.ifCond .ne 5, 3) := by decide +kernel
theorem d_R_crash_8 : decode b_R_crash 8 = .ok (.iconst 0, 1) := by decide +kernel
theorem d_R_crash_9 : decode b_R_crash 9 = .ok (.ireturn, 1) := by decide +kernel
theorem d_R_crash_10 : decode b_R_crash 10 = .ok (.aload_n 0, 1) := by decide +kernel
theorem d_R_crash_11 : decode b_R_crash 11 = .ok (.getfield 33, 3) := by decide +kernel
theorem d_R_crash_14 : decode b_R_crash 14 = .ok (.iload_n 1, 1) := by decide +kernel
theorem d_R_crash_15 : decode b_R_crash 15 = .ok (.iconst 0, 1) := by decide +kernel
theorem d_R_crash_16 : decode b_R_crash 16 = .ok (.iastore, 1) := by decide +kernel
theorem d_R_crash_17 : decode b_R_crash 17 = .ok (.iconst 1, 1) := by decide +kernel
theorem d_R_crash_18 : decode b_R_crash 18 = .ok (.istore_n 2, 1) := by decide +kernel
theorem d_R_crash_19 : decode b_R_crash 19 = .ok (.iload_n 2, 1) := by decide +kernel
theorem d_R_crash_20 : decode b_R_crash 20 = .ok (.aload_n 0, 1) := by decide +kernel
theorem d_R_crash_21 : decode b_R_crash 21 = .ok (.getfield 7, 3) := by decide +kernel
theorem d_R_crash_24 : decode b_R_crash 24 = .ok (.if_icmp .ge 35, 3) := by decide +kernel
theorem d_R_crash_27 : decode b_R_crash 27 = .ok (.aload_n 0, 1) := by decide +kernel
theorem d_R_crash_28 : decode b_R_crash 28 = .ok (.getfield 36, 3) := by decide +kernel
theorem d_R_crash_31 : decode b_R_crash 31 = .ok (.iload_n 2, 1) := by decide +kernel
theorem d_R_crash_32 : decode b_R_crash 32 = .ok (.aload_n 0, 1) := by decide +kernel
theorem d_R_crash_33 : decode b_R_crash 33 = .ok (.getfield 13, 3) := by decide +kernel
theorem d_R_crash_36 : decode b_R_crash 36 = .ok (.iload_n 2, 1) := by decide +kernel
theorem d_R_crash_37 : decode b_R_crash 37 = .ok (.iaload, 1) := by decide +kernel
theorem d_R_crash_38 : decode b_R_crash 38 = .ok (.iload_n 1, 1) := by decide +kernel
theorem d_R_crash_39 : decode b_R_crash 39 = .ok (.if_icmp .ne 7, 3) := by decide +kernel
theorem d_R_crash_42 : decode b_R_crash 42 = .ok (.iconst 0, 1) := by decide +kernel
theorem d_R_crash_43 : decode b_R_crash 43 = .ok (.goto 9, 3) := by decide +kernel
theorem d_R_crash_46 : decode b_R_crash 46 = .ok (.aload_n 0, 1) := by decide +kernel
theorem d_R_crash_47 : decode b_R_crash 47 = .ok (.getfield 36, 3) := by decide +kernel
theorem d_R_crash_50 : decode b_R_crash 50 = .ok (.iload_n 2, 1) := by decide +kernel
theorem d_R_crash_51 : decode b_R_crash 51 = .ok (.iaload, 1) := by decide +kernel
theorem d_R_crash_52 : decode b_R_crash 52 = .ok (.iastore, 1) := by decide +kernel
theorem d_R_crash_53 : decode b_R_crash 53 = .ok (.iinc 2 1, 3) := by decide +kernel
theorem d_R_crash_56 : decode b_R_crash 56 = .ok (.goto (-37), 3) := by decide +kernel
theorem d_R_crash_59 : decode b_R_crash 59 = .ok (.iconst 1, 1) := by decide +kernel
theorem d_R_crash_60 : decode b_R_crash 60 = .ok (.ireturn, 1) := by decide +kernel
theorem d_R_placeOf_0 : decode b_R_placeOf 0 = .ok (.iconst 0, 1) := by decide +kernel
theorem d_R_placeOf_1 : decode b_R_placeOf 1 = .ok (.istore_n 2, 1) := by decide +kernel
theorem d_R_placeOf_2 : decode b_R_placeOf 2 = .ok (.iload_n 2, 1) := by decide +kernel
theorem d_R_placeOf_3 : decode b_R_placeOf 3 = .ok (.bipush 12, 2) := by decide +kernel
theorem d_R_placeOf_5 : decode b_R_placeOf 5 = .ok (.if_icmp .ge 25, 3) := by decide +kernel
theorem d_R_placeOf_8 : decode b_R_placeOf 8 = .ok (.iload_n 1, 1) := by decide +kernel
theorem d_R_placeOf_9 : decode b_R_placeOf 9 = .ok (.ifCond .le 15, 3) := by decide +kernel
theorem d_R_placeOf_12 : decode b_R_placeOf 12 = .ok (.aload_n 0, 1) := by decide +kernel
theorem d_R_placeOf_13 : decode b_R_placeOf 13 = .ok (.getfield 42, 3) := by decide +kernel
theorem d_R_placeOf_16 : decode b_R_placeOf 16 = .ok (.iload_n 2, 1) := by decide +kernel
theorem d_R_placeOf_17 : decode b_R_placeOf 17 = .ok (.iaload, 1) := by decide +kernel
theorem d_R_placeOf_18 : decode b_R_placeOf 18 = .ok (.iload_n 1, 1) := by decide +kernel
theorem d_R_placeOf_19 : decode b_R_placeOf 19 = .ok (.if_icmp .ne 5, 3) := by decide +kernel
theorem d_R_placeOf_22 : decode b_R_placeOf 22 = .ok (.iload_n 2, 1) := by decide +kernel
theorem d_R_placeOf_23 : decode b_R_placeOf 23 = .ok (.ireturn, 1) := by decide +kernel
theorem d_R_placeOf_24 : decode b_R_placeOf 24 = .ok (.iinc 2 1, 3) := by decide +kernel
theorem d_R_placeOf_27 : decode b_R_placeOf 27 = .ok (.goto (-25), 3) := by decide +kernel
theorem d_R_placeOf_30 : decode b_R_placeOf 30 = .ok (.iconst (-1), 1) := by decide +kernel
theorem d_R_placeOf_31 : decode b_R_placeOf 31 = .ok (.ireturn, 1) := by decide +kernel
theorem d_R_freePlace_0 : decode b_R_freePlace 0 = .ok (.iconst 0, 1) := by decide +kernel
theorem d_R_freePlace_1 : decode b_R_freePlace 1 = .ok (.istore_n 1, 1) := by decide +kernel
theorem d_R_freePlace_2 : decode b_R_freePlace 2 = .ok (.iload_n 1, 1) := by decide +kernel
theorem d_R_freePlace_3 : decode b_R_freePlace 3 = .ok (.bipush 12, 2) := by decide +kernel
theorem d_R_freePlace_5 : decode b_R_freePlace 5 = .ok (.if_icmp .ge 20, 3) := by decide +kernel
theorem d_R_freePlace_8 : decode b_R_freePlace 8 = .ok (.aload_n 0, 1) := by decide +kernel
theorem d_R_freePlace_9 : decode b_R_freePlace 9 = .ok (.getfield 42, 3) := by decide +kernel
theorem d_R_freePlace_12 : decode b_R_freePlace 12 = .ok (.iload_n 1, 1) := by decide +kernel
theorem d_R_freePlace_13 : decode b_R_freePlace 13 = .ok (.iaload, 1) := by decide +kernel
theorem d_R_freePlace_14 : decode b_R_freePlace 14 = .ok (.ifCond .ne 5, 3) := by decide +kernel
theorem d_R_freePlace_17 : decode b_R_freePlace 17 = .ok (.iload_n 1, 1) := by decide +kernel
theorem d_R_freePlace_18 : decode b_R_freePlace 18 = .ok (.ireturn, 1) := by decide +kernel
theorem d_R_freePlace_19 : decode b_R_freePlace 19 = .ok (.iinc 1 1, 3) := by decide +kernel
theorem d_R_freePlace_22 : decode b_R_freePlace 22 = .ok (.goto (-20), 3) := by decide +kernel
theorem d_R_freePlace_25 : decode b_R_freePlace 25 = .ok (.iconst (-1), 1) := by decide +kernel
theorem d_R_freePlace_26 : decode b_R_freePlace 26 = .ok (.ireturn, 1) := by decide +kernel
theorem d_R_report_0 : decode b_R_report 0 = .ok (.aload_n 0, 1) := by decide +kernel
theorem d_R_report_1 : decode b_R_report 1 = .ok (.invokevirtual 86, 3) := by decide +kernel
theorem d_R_report_4 : decode b_R_report 4 = .ok (.istore_n 2, 1) := by decide +kernel
theorem d_R_report_5 : decode b_R_report 5 = .ok (.aload_n 0, 1) := by decide +kernel
theorem d_R_report_6 : decode b_R_report 6 = .ok (.iload_n 1, 1) := by decide +kernel
theorem d_R_report_7 : decode b_R_report 7 = .ok (.invokevirtual 75, 3) := by decide +kernel
theorem d_R_report_10 : decode b_R_report 10 = .ok (.ifCond .eq 11, 3) := by decide +kernel
theorem d_R_report_13 : decode b_R_report 13 = .ok (.iload_n 1, 1) := by decide +kernel
theorem d_R_report_14 : decode b_R_report 14 = .ok (.ifCond .eq 7, 3) := by decide +kernel
theorem d_R_report_17 : decode b_R_report 17 = .ok (.iload_n 2, 1) := by decide +kernel
theorem d_R_report_18 : decode b_R_report 18 = .ok (.ifCond .ge 5, 3) := by decide +kernel
theorem d_R_report_21 : decode b_R_report 21 = .ok (.iconst (-1), 1) := by decide +kernel
theorem d_R_report_22 : decode b_R_report 22 = .ok (.ireturn, 1) := by decide +kernel
theorem d_R_report_23 : decode b_R_report 23 = .ok (.aload_n 0, 1) := by decide +kernel
theorem d_R_report_24 : decode b_R_report 24 = .ok (.iload_n 1, 1) := by decide +kernel
theorem d_R_report_25 : decode b_R_report 25 = .ok (.invokevirtual 90, 3) := by decide +kernel
theorem d_R_report_28 : decode b_R_report 28 = .ok (.aload_n 0, 1) := by decide +kernel
theorem d_R_report_29 : decode b_R_report 29 = .ok (.getfield 21, 3) := by decide +kernel
theorem d_R_report_32 : decode b_R_report 32 = .ok (.iload_n 1, 1) := by decide +kernel
theorem d_R_report_33 : decode b_R_report 33 = .ok (.dup2, 1) := by decide +kernel
theorem d_R_report_34 : decode b_R_report 34 = .ok (.iaload, 1) := by decide +kernel
theorem d_R_report_35 : decode b_R_report 35 = .ok (.iconst 1, 1) := by decide +kernel
theorem d_R_report_36 : decode b_R_report 36 = .ok (.iadd, 1) := by decide +kernel
theorem d_R_report_37 : decode b_R_report 37 = .ok (.iastore, 1) := by decide +kernel
theorem d_R_report_38 : decode b_R_report 38 = .ok (.aload_n 0, 1) := by decide +kernel
theorem d_R_report_39 : decode b_R_report 39 = .ok (.dup, 1) := by decide +kernel
theorem d_R_report_40 : decode b_R_report 40 = .ok (.getfield 93, 3) := by decide +kernel
theorem d_R_report_43 : decode b_R_report 43 = .ok (.iconst 1, 1) := by decide +kernel
theorem d_R_report_44 : decode b_R_report 44 = .ok (.iadd, 1) := by decide +kernel
theorem d_R_report_45 : decode b_R_report 45 = .ok (.putfield 93, 3) := by decide +kernel
theorem d_R_report_48 : decode b_R_report 48 = .ok (.aload_n 0, 1) := by decide +kernel
theorem d_R_report_49 : decode b_R_report 49 = .ok (.getfield 42, 3) := by decide +kernel
theorem d_R_report_52 : decode b_R_report 52 = .ok (.iload_n 2, 1) := by decide +kernel
theorem d_R_report_53 : decode b_R_report 53 = .ok (.aload_n 0, 1) := by decide +kernel
theorem d_R_report_54 : decode b_R_report 54 = .ok (.getfield 93, 3) := by decide +kernel
theorem d_R_report_57 : decode b_R_report 57 = .ok (.iastore, 1) := by decide +kernel
theorem d_R_report_58 : decode b_R_report 58 = .ok (.aload_n 0, 1) := by decide +kernel
theorem d_R_report_59 : decode b_R_report 59 = .ok (.getfield 45, 3) := by decide +kernel
theorem d_R_report_62 : decode b_R_report 62 = .ok (.iload_n 2, 1) := by decide +kernel
theorem d_R_report_63 : decode b_R_report 63 = .ok (.iload_n 1, 1) := by decide +kernel
theorem d_R_report_64 : decode b_R_report 64 = .ok (.iastore, 1) := by decide +kernel
theorem d_R_report_65 : decode b_R_report 65 = .ok (.aload_n 0, 1) := by decide +kernel
theorem d_R_report_66 : decode b_R_report 66 = .ok (.getfield 48, 3) := by decide +kernel
theorem d_R_report_69 : decode b_R_report 69 = .ok (.iload_n 2, 1) := by decide +kernel
theorem d_R_report_70 : decode b_R_report 70 = .ok (.aload_n 0, 1) := by decide +kernel
theorem d_R_report_71 : decode b_R_report 71 = .ok (.getfield 21, 3) := by decide +kernel
theorem d_R_report_74 : decode b_R_report 74 = .ok (.iload_n 1, 1) := by decide +kernel
theorem d_R_report_75 : decode b_R_report 75 = .ok (.iaload, 1) := by decide +kernel
theorem d_R_report_76 : decode b_R_report 76 = .ok (.iastore, 1) := by decide +kernel
theorem d_R_report_77 : decode b_R_report 77 = .ok (.iconst 0, 1) := by decide +kernel
theorem d_R_report_78 : decode b_R_report 78 = .ok (.istore_n 3, 1) := by decide +kernel
theorem d_R_report_79 : decode b_R_report 79 = .ok (.iload_n 3, 1) := by decide +kernel
theorem d_R_report_80 : decode b_R_report 80 = .ok (.bipush 12, 2) := by decide +kernel
theorem d_R_report_82 : decode b_R_report 82 = .ok (.if_icmp .ge 26, 3) := by decide +kernel
theorem d_R_report_85 : decode b_R_report 85 = .ok (.aload_n 0, 1) := by decide +kernel
theorem d_R_report_86 : decode b_R_report 86 = .ok (.getfield 51, 3) := by decide +kernel
theorem d_R_report_89 : decode b_R_report 89 = .ok (.bipush 12, 2) := by decide +kernel
theorem d_R_report_91 : decode b_R_report 91 = .ok (.iload_n 2, 1) := by decide +kernel
theorem d_R_report_92 : decode b_R_report 92 = .ok (.imul, 1) := by decide +kernel
theorem d_R_report_93 : decode b_R_report 93 = .ok (.iload_n 3, 1) := by decide +kernel
theorem d_R_report_94 : decode b_R_report 94 = .ok (.iadd, 1) := by decide +kernel
theorem d_R_report_95 : decode b_R_report 95 = .ok (.aload_n 0, 1) := by decide +kernel
theorem d_R_report_96 : decode b_R_report 96 = .ok (.getfield 54, 3) := by decide +kernel
theorem d_R_report_99 : decode b_R_report 99 = .ok (.iload_n 3, 1) := by decide +kernel
theorem d_R_report_100 : decode b_R_report 100 = .ok (.iaload, 1) := by decide +kernel
theorem d_R_report_101 : decode b_R_report 101 = .ok (.iastore, 1) := by decide +kernel
theorem d_R_report_102 : decode b_R_report 102 = .ok (.iinc 3 1, 3) := by decide +kernel
theorem d_R_report_105 : decode b_R_report 105 = .ok (.goto (-26), 3) := by decide +kernel
theorem d_R_report_108 : decode b_R_report 108 = .ok (.aload_n 0, 1) := by decide +kernel
theorem d_R_report_109 : decode b_R_report 109 = .ok (.getfield 93, 3) := by decide +kernel
theorem d_R_report_112 : decode b_R_report 112 = .ok (.ireturn, 1) := by decide +kernel
theorem d_R_copy_0 : decode b_R_copy 0 = .ok (.aload_n 0, 1) := by decide +kernel
theorem d_R_copy_1 : decode b_R_copy 1 = .ok (.iload_n 1, 1) := by decide +kernel
theorem d_R_copy_2 : decode b_R_copy 2 = .ok (.invokevirtual 96, 3) := by decide +kernel
theorem d_R_copy_5 : decode b_R_copy 5 = .ok (.istore_n 2, 1) := by decide +kernel
theorem d_R_copy_6 : decode b_R_copy 6 = .ok (.aload_n 0, 1) := by decide +kernel
theorem d_R_copy_7 : decode b_R_copy 7 = .ok (.invokevirtual 86, 3) := by decide +kernel
theorem d_R_copy_10 : decode b_R_copy 10 = .ok (.istore_n 3, 1) := by decide +kernel
theorem d_R_copy_11 : decode b_R_copy 11 = .ok (.iload_n 2, 1) := by decide +kernel
theorem d_R_copy_12 : decode b_R_copy 12 = .ok (.ifCond .lt 7, 3) := by decide +kernel
theorem d_R_copy_15 : decode b_R_copy 15 = .ok (.iload_n 3, 1) := by decide +kernel
theorem d_R_copy_16 : decode b_R_copy 16 = .ok (.ifCond .ge 5, 3) := by decide +kernel
theorem d_R_copy_19 : decode b_R_copy 19 = .ok (.iconst (-1), 1) := by decide +kernel
theorem d_R_copy_20 : decode b_R_copy 20 = .ok (.ireturn, 1) := by decide +kernel
theorem d_R_copy_21 : decode b_R_copy 21 = .ok (.aload_n 0, 1) := by decide +kernel
theorem d_R_copy_22 : decode b_R_copy 22 = .ok (.dup, 1) := by decide +kernel
theorem d_R_copy_23 : decode b_R_copy 23 = .ok (.getfield 93, 3) := by decide +kernel
theorem d_R_copy_26 : decode b_R_copy 26 = .ok (.iconst 1, 1) := by decide +kernel
theorem d_R_copy_27 : decode b_R_copy 27 = .ok (.iadd, 1) := by decide +kernel
theorem d_R_copy_28 : decode b_R_copy 28 = .ok (.putfield 93, 3) := by decide +kernel
theorem d_R_copy_31 : decode b_R_copy 31 = .ok (.aload_n 0, 1) := by decide +kernel
theorem d_R_copy_32 : decode b_R_copy 32 = .ok (.getfield 42, 3) := by decide +kernel
theorem d_R_copy_35 : decode b_R_copy 35 = .ok (.iload_n 3, 1) := by decide +kernel
theorem d_R_copy_36 : decode b_R_copy 36 = .ok (.aload_n 0, 1) := by decide +kernel
theorem d_R_copy_37 : decode b_R_copy 37 = .ok (.getfield 93, 3) := by decide +kernel
theorem d_R_copy_40 : decode b_R_copy 40 = .ok (.iastore, 1) := by decide +kernel
theorem d_R_copy_41 : decode b_R_copy 41 = .ok (.aload_n 0, 1) := by decide +kernel
theorem d_R_copy_42 : decode b_R_copy 42 = .ok (.getfield 45, 3) := by decide +kernel
theorem d_R_copy_45 : decode b_R_copy 45 = .ok (.iload_n 3, 1) := by decide +kernel
theorem d_R_copy_46 : decode b_R_copy 46 = .ok (.aload_n 0, 1) := by decide +kernel
theorem d_R_copy_47 : decode b_R_copy 47 = .ok (.getfield 45, 3) := by decide +kernel
theorem d_R_copy_50 : decode b_R_copy 50 = .ok (.iload_n 2, 1) := by decide +kernel
theorem d_R_copy_51 : decode b_R_copy 51 = .ok (.iaload, 1) := by decide +kernel
theorem d_R_copy_52 : decode b_R_copy 52 = .ok (.iastore, 1) := by decide +kernel
theorem d_R_copy_53 : decode b_R_copy 53 = .ok (.aload_n 0, 1) := by decide +kernel
theorem d_R_copy_54 : decode b_R_copy 54 = .ok (.getfield 48, 3) := by decide +kernel
theorem d_R_copy_57 : decode b_R_copy 57 = .ok (.iload_n 3, 1) := by decide +kernel
theorem d_R_copy_58 : decode b_R_copy 58 = .ok (.aload_n 0, 1) := by decide +kernel
theorem d_R_copy_59 : decode b_R_copy 59 = .ok (.getfield 48, 3) := by decide +kernel
theorem d_R_copy_62 : decode b_R_copy 62 = .ok (.iload_n 2, 1) := by decide +kernel
theorem d_R_copy_63 : decode b_R_copy 63 = .ok (.iaload, 1) := by decide +kernel
theorem d_R_copy_64 : decode b_R_copy 64 = .ok (.iastore, 1) := by decide +kernel
theorem d_R_copy_65 : decode b_R_copy 65 = .ok (.iconst 0, 1) := by decide +kernel
theorem d_R_copy_66 : decode b_R_copy 66 = .ok (.istore 4, 2) := by decide +kernel
theorem d_R_copy_68 : decode b_R_copy 68 = .ok (.iload 4, 2) := by decide +kernel
theorem d_R_copy_70 : decode b_R_copy 70 = .ok (.bipush 12, 2) := by decide +kernel
theorem d_R_copy_72 : decode b_R_copy 72 = .ok (.if_icmp .ge 33, 3) := by decide +kernel
theorem d_R_copy_75 : decode b_R_copy 75 = .ok (.aload_n 0, 1) := by decide +kernel
theorem d_R_copy_76 : decode b_R_copy 76 = .ok (.getfield 51, 3) := by decide +kernel
theorem d_R_copy_79 : decode b_R_copy 79 = .ok (.bipush 12, 2) := by decide +kernel
theorem d_R_copy_81 : decode b_R_copy 81 = .ok (.iload_n 3, 1) := by decide +kernel
theorem d_R_copy_82 : decode b_R_copy 82 = .ok (.imul, 1) := by decide +kernel
theorem d_R_copy_83 : decode b_R_copy 83 = .ok (.iload 4, 2) := by decide +kernel
theorem d_R_copy_85 : decode b_R_copy 85 = .ok (.iadd, 1) := by decide +kernel
theorem d_R_copy_86 : decode b_R_copy 86 = .ok (.aload_n 0, 1) := by decide +kernel
theorem d_R_copy_87 : decode b_R_copy 87 = .ok (.getfield 51, 3) := by decide +kernel
theorem d_R_copy_90 : decode b_R_copy 90 = .ok (.bipush 12, 2) := by decide +kernel
theorem d_R_copy_92 : decode b_R_copy 92 = .ok (.iload_n 2, 1) := by decide +kernel
theorem d_R_copy_93 : decode b_R_copy 93 = .ok (.imul, 1) := by decide +kernel
theorem d_R_copy_94 : decode b_R_copy 94 = .ok (.iload 4, 2) := by decide +kernel
theorem d_R_copy_96 : decode b_R_copy 96 = .ok (.iadd, 1) := by decide +kernel
theorem d_R_copy_97 : decode b_R_copy 97 = .ok (.iaload, 1) := by decide +kernel
theorem d_R_copy_98 : decode b_R_copy 98 = .ok (.iastore, 1) := by decide +kernel
theorem d_R_copy_99 : decode b_R_copy 99 = .ok (.iinc 4 1, 3) := by decide +kernel
theorem d_R_copy_102 : decode b_R_copy 102 = .ok (.goto (-34), 3) := by decide +kernel
theorem d_R_copy_105 : decode b_R_copy 105 = .ok (.aload_n 0, 1) := by decide +kernel
theorem d_R_copy_106 : decode b_R_copy 106 = .ok (.getfield 93, 3) := by decide +kernel
theorem d_R_copy_109 : decode b_R_copy 109 = .ok (.ireturn, 1) := by decide +kernel
theorem d_R_drop_0 : decode b_R_drop 0 = .ok (.aload_n 0, 1) := by decide +kernel
theorem d_R_drop_1 : decode b_R_drop 1 = .ok (.iload_n 1, 1) := by decide +kernel
theorem d_R_drop_2 : decode b_R_drop 2 = .ok (.invokevirtual 96, 3) := by decide +kernel
theorem d_R_drop_5 : decode b_R_drop 5 = .ok (.istore_n 2, 1) := by decide +kernel
theorem d_R_drop_6 : decode b_R_drop 6 = .ok (.iload_n 2, 1) := by decide +kernel
theorem d_R_drop_7 : decode b_R_drop 7 = .ok (.ifCond .ge 5, 3) := by decide +kernel
theorem d_R_drop_10 : decode b_R_drop 10 = .ok (.iconst 0, 1) := by decide +kernel
theorem d_R_drop_11 : decode b_R_drop 11 = .ok (.ireturn, 1) := by decide +kernel
theorem d_R_drop_12 : decode b_R_drop 12 = .ok (.aload_n 0, 1) := by decide +kernel
theorem d_R_drop_13 : decode b_R_drop 13 = .ok (.getfield 42, 3) := by decide +kernel
theorem d_R_drop_16 : decode b_R_drop 16 = .ok (.iload_n 2, 1) := by decide +kernel
theorem d_R_drop_17 : decode b_R_drop 17 = .ok (.iconst 0, 1) := by decide +kernel
theorem d_R_drop_18 : decode b_R_drop 18 = .ok (.iastore, 1) := by decide +kernel
theorem d_R_drop_19 : decode b_R_drop 19 = .ok (.iconst 1, 1) := by decide +kernel
theorem d_R_drop_20 : decode b_R_drop 20 = .ok (.ireturn, 1) := by decide +kernel
theorem d_R_deliver_0 : decode b_R_deliver 0 = .ok (.aload_n 0, 1) := by decide +kernel
theorem d_R_deliver_1 : decode b_R_deliver 1 = .ok (.iload_n 1, 1) := by decide +kernel
theorem d_R_deliver_2 : decode b_R_deliver 2 = .ok (.invokevirtual 96, 3) := by decide +kernel
theorem d_R_deliver_5 : decode b_R_deliver 5 = .ok (.istore_n 2, 1) := by decide +kernel
theorem d_R_deliver_6 : decode b_R_deliver 6 = .ok (.iload_n 2, 1) := by decide +kernel
theorem d_R_deliver_7 : decode b_R_deliver 7 = .ok (.ifCond .ge 5, 3) := by decide +kernel
theorem d_R_deliver_10 : decode b_R_deliver 10 = .ok (.iconst (-1), 1) := by decide +kernel
theorem d_R_deliver_11 : decode b_R_deliver 11 = .ok (.ireturn, 1) := by decide +kernel
theorem d_R_deliver_12 : decode b_R_deliver 12 = .ok (.aload_n 0, 1) := by decide +kernel
theorem d_R_deliver_13 : decode b_R_deliver 13 = .ok (.getfield 42, 3) := by decide +kernel
theorem d_R_deliver_16 : decode b_R_deliver 16 = .ok (.iload_n 2, 1) := by decide +kernel
theorem d_R_deliver_17 : decode b_R_deliver 17 = .ok (.iconst 0, 1) := by decide +kernel
theorem d_R_deliver_18 : decode b_R_deliver 18 = .ok (.iastore, 1) := by decide +kernel
theorem d_R_deliver_19 : decode b_R_deliver 19 = .ok (.aload_n 0, 1) := by decide +kernel
theorem d_R_deliver_20 : decode b_R_deliver 20 = .ok (.getfield 45, 3) := by decide +kernel
theorem d_R_deliver_23 : decode b_R_deliver 23 = .ok (.iload_n 2, 1) := by decide +kernel
theorem d_R_deliver_24 : decode b_R_deliver 24 = .ok (.iaload, 1) := by decide +kernel
theorem d_R_deliver_25 : decode b_R_deliver 25 = .ok (.istore_n 3, 1) := by decide +kernel
theorem d_R_deliver_26 : decode b_R_deliver 26 = .ok (.aload_n 0, 1) := by decide +kernel
theorem d_R_deliver_27 : decode b_R_deliver 27 = .ok (.getfield 36, 3) := by decide +kernel
theorem d_R_deliver_30 : decode b_R_deliver 30 = .ok (.iload_n 3, 1) := by decide +kernel
theorem d_R_deliver_31 : decode b_R_deliver 31 = .ok (.iaload, 1) := by decide +kernel
theorem d_R_deliver_32 : decode b_R_deliver 32 = .ok (.aload_n 0, 1) := by decide +kernel
theorem d_R_deliver_33 : decode b_R_deliver 33 = .ok (.getfield 48, 3) := by decide +kernel
theorem d_R_deliver_36 : decode b_R_deliver 36 = .ok (.iload_n 2, 1) := by decide +kernel
theorem d_R_deliver_37 : decode b_R_deliver 37 = .ok (.iaload, 1) := by decide +kernel
theorem d_R_deliver_38 : decode b_R_deliver 38 = .ok (.if_icmp .lt 5, 3) := by decide +kernel
theorem d_R_deliver_41 : decode b_R_deliver 41 = .ok (.iconst 0, 1) := by decide +kernel
theorem d_R_deliver_42 : decode b_R_deliver 42 = .ok (.ireturn, 1) := by decide +kernel
theorem d_R_deliver_43 : decode b_R_deliver 43 = .ok (.aload_n 0, 1) := by decide +kernel
theorem d_R_deliver_44 : decode b_R_deliver 44 = .ok (.getfield 36, 3) := by decide +kernel
theorem d_R_deliver_47 : decode b_R_deliver 47 = .ok (.iload_n 3, 1) := by decide +kernel
theorem d_R_deliver_48 : decode b_R_deliver 48 = .ok (.aload_n 0, 1) := by decide +kernel
theorem d_R_deliver_49 : decode b_R_deliver 49 = .ok (.getfield 48, 3) := by decide +kernel
theorem d_R_deliver_52 : decode b_R_deliver 52 = .ok (.iload_n 2, 1) := by decide +kernel
theorem d_R_deliver_53 : decode b_R_deliver 53 = .ok (.iaload, 1) := by decide +kernel
theorem d_R_deliver_54 : decode b_R_deliver 54 = .ok (.iastore, 1) := by decide +kernel
theorem d_R_deliver_55 : decode b_R_deliver 55 = .ok (.iconst 0, 1) := by decide +kernel
theorem d_R_deliver_56 : decode b_R_deliver 56 = .ok (.istore 4, 2) := by decide +kernel
theorem d_R_deliver_58 : decode b_R_deliver 58 = .ok (.iload 4, 2) := by decide +kernel
theorem d_R_deliver_60 : decode b_R_deliver 60 = .ok (.bipush 12, 2) := by decide +kernel
theorem d_R_deliver_62 : decode b_R_deliver 62 = .ok (.if_icmp .ge 33, 3) := by decide +kernel
theorem d_R_deliver_65 : decode b_R_deliver 65 = .ok (.aload_n 0, 1) := by decide +kernel
theorem d_R_deliver_66 : decode b_R_deliver 66 = .ok (.getfield 39, 3) := by decide +kernel
theorem d_R_deliver_69 : decode b_R_deliver 69 = .ok (.bipush 12, 2) := by decide +kernel
theorem d_R_deliver_71 : decode b_R_deliver 71 = .ok (.iload_n 3, 1) := by decide +kernel
theorem d_R_deliver_72 : decode b_R_deliver 72 = .ok (.imul, 1) := by decide +kernel
theorem d_R_deliver_73 : decode b_R_deliver 73 = .ok (.iload 4, 2) := by decide +kernel
theorem d_R_deliver_75 : decode b_R_deliver 75 = .ok (.iadd, 1) := by decide +kernel
theorem d_R_deliver_76 : decode b_R_deliver 76 = .ok (.aload_n 0, 1) := by decide +kernel
theorem d_R_deliver_77 : decode b_R_deliver 77 = .ok (.getfield 51, 3) := by decide +kernel
theorem d_R_deliver_80 : decode b_R_deliver 80 = .ok (.bipush 12, 2) := by decide +kernel
theorem d_R_deliver_82 : decode b_R_deliver 82 = .ok (.iload_n 2, 1) := by decide +kernel
theorem d_R_deliver_83 : decode b_R_deliver 83 = .ok (.imul, 1) := by decide +kernel
theorem d_R_deliver_84 : decode b_R_deliver 84 = .ok (.iload 4, 2) := by decide +kernel
theorem d_R_deliver_86 : decode b_R_deliver 86 = .ok (.iadd, 1) := by decide +kernel
theorem d_R_deliver_87 : decode b_R_deliver 87 = .ok (.iaload, 1) := by decide +kernel
theorem d_R_deliver_88 : decode b_R_deliver 88 = .ok (.iastore, 1) := by decide +kernel
theorem d_R_deliver_89 : decode b_R_deliver 89 = .ok (.iinc 4 1, 3) := by decide +kernel
theorem d_R_deliver_92 : decode b_R_deliver 92 = .ok (.goto (-34), 3) := by decide +kernel
theorem d_R_deliver_95 : decode b_R_deliver 95 = .ok (.iconst 1, 1) := by decide +kernel
theorem d_R_deliver_96 : decode b_R_deliver 96 = .ok (.ireturn, 1) := by decide +kernel
theorem d_R_onTheWay_0 : decode b_R_onTheWay 0 = .ok (.iconst 0, 1) := by decide +kernel
theorem d_R_onTheWay_1 : decode b_R_onTheWay 1 = .ok (.istore_n 1, 1) := by decide +kernel
theorem d_R_onTheWay_2 : decode b_R_onTheWay 2 = .ok (.iconst 0, 1) := by decide +kernel
theorem d_R_onTheWay_3 : decode b_R_onTheWay 3 = .ok (.istore_n 2, 1) := by decide +kernel
theorem d_R_onTheWay_4 : decode b_R_onTheWay 4 = .ok (.iload_n 2, 1) := by decide +kernel
theorem d_R_onTheWay_5 : decode b_R_onTheWay 5 = .ok (.bipush 12, 2) := by decide +kernel
theorem d_R_onTheWay_7 : decode b_R_onTheWay 7 = .ok (.if_icmp .ge 26, 3) := by decide +kernel
theorem d_R_onTheWay_10 : decode b_R_onTheWay 10 = .ok (.aload_n 0, 1) := by decide +kernel
theorem d_R_onTheWay_11 : decode b_R_onTheWay 11 = .ok (.getfield 42, 3) := by decide +kernel
theorem d_R_onTheWay_14 : decode b_R_onTheWay 14 = .ok (.iload_n 2, 1) := by decide +kernel
theorem d_R_onTheWay_15 : decode b_R_onTheWay 15 = .ok (.iaload, 1) := by decide +kernel
theorem d_R_onTheWay_16 : decode b_R_onTheWay 16 = .ok (.ifCond .le 9, 3) := by decide +kernel
theorem d_R_onTheWay_19 : decode b_R_onTheWay 19 = .ok (.iload_n 1, 1) := by decide +kernel
theorem d_R_onTheWay_20 : decode b_R_onTheWay 20 = .ok (.iconst 1, 1) := by decide +kernel
theorem d_R_onTheWay_21 : decode b_R_onTheWay 21 = .ok (.iadd, 1) := by decide +kernel
theorem d_R_onTheWay_22 : decode b_R_onTheWay 22 = .ok (.goto 4, 3) := by decide +kernel
theorem d_R_onTheWay_25 : decode b_R_onTheWay 25 = .ok (.iload_n 1, 1) := by decide +kernel
theorem d_R_onTheWay_26 : decode b_R_onTheWay 26 = .ok (.istore_n 1, 1) := by decide +kernel
theorem d_R_onTheWay_27 : decode b_R_onTheWay 27 = .ok (.iinc 2 1, 3) := by decide +kernel
theorem d_R_onTheWay_30 : decode b_R_onTheWay 30 = .ok (.goto (-26), 3) := by decide +kernel
theorem d_R_onTheWay_33 : decode b_R_onTheWay 33 = .ok (.iload_n 1, 1) := by decide +kernel
theorem d_R_onTheWay_34 : decode b_R_onTheWay 34 = .ok (.ireturn, 1) := by decide +kernel
theorem d_R_know_0 : decode b_R_know 0 = .ok (.iconst 0, 1) := by decide +kernel
theorem d_R_know_1 : decode b_R_know 1 = .ok (.istore_n 2, 1) := by decide +kernel
theorem d_R_know_2 : decode b_R_know 2 = .ok (.iload_n 2, 1) := by decide +kernel
theorem d_R_know_3 : decode b_R_know 3 = .ok (.bipush 12, 2) := by decide +kernel
theorem d_R_know_5 : decode b_R_know 5 = .ok (.if_icmp .ge 16, 3) := by decide +kernel
theorem d_R_know_8 : decode b_R_know 8 = .ok (.aload_n 0, 1) := by decide +kernel
theorem d_R_know_9 : decode b_R_know 9 = .ok (.getfield 54, 3) := by decide +kernel
theorem d_R_know_12 : decode b_R_know 12 = .ok (.iload_n 2, 1) := by decide +kernel
theorem d_R_know_13 : decode b_R_know 13 = .ok (.iconst 0, 1) := by decide +kernel
theorem d_R_know_14 : decode b_R_know 14 = .ok (.iastore, 1) := by decide +kernel
theorem d_R_know_15 : decode b_R_know 15 = .ok (.iinc 2 1, 3) := by decide +kernel
theorem d_R_know_18 : decode b_R_know 18 = .ok (.goto (-16), 3) := by decide +kernel
theorem d_R_know_21 : decode b_R_know 21 = .ok (.aload_n 0, 1) := by decide +kernel
theorem d_R_know_22 : decode b_R_know 22 = .ok (.getfield 17, 3) := by decide +kernel
theorem d_R_know_25 : decode b_R_know 25 = .ok (.iload_n 1, 1) := by decide +kernel
theorem d_R_know_26 : decode b_R_know 26 = .ok (.baload, 1) := by decide +kernel
theorem d_R_know_27 : decode b_R_know 27 = .ok (.ifCond .eq 16, 3) := by decide +kernel
theorem d_R_know_30 : decode b_R_know 30 = .ok (.aload_n 0, 1) := by decide +kernel
theorem d_R_know_31 : decode b_R_know 31 = .ok (.getfield 54, 3) := by decide +kernel
theorem d_R_know_34 : decode b_R_know 34 = .ok (.iload_n 1, 1) := by decide +kernel
theorem d_R_know_35 : decode b_R_know 35 = .ok (.aload_n 0, 1) := by decide +kernel
theorem d_R_know_36 : decode b_R_know 36 = .ok (.getfield 27, 3) := by decide +kernel
theorem d_R_know_39 : decode b_R_know 39 = .ok (.iload_n 1, 1) := by decide +kernel
theorem d_R_know_40 : decode b_R_know 40 = .ok (.iaload, 1) := by decide +kernel
theorem d_R_know_41 : decode b_R_know 41 = .ok (.iastore, 1) := by decide +kernel
theorem d_R_know_42 : decode b_R_know 42 = .ok (.return_, 1) := by decide +kernel
theorem d_R_know_43 : decode b_R_know 43 = .ok (.iconst 1, 1) := by decide +kernel
theorem d_R_know_44 : decode b_R_know 44 = .ok (.istore_n 2, 1) := by decide +kernel
theorem d_R_know_45 : decode b_R_know 45 = .ok (.iload_n 2, 1) := by decide +kernel
theorem d_R_know_46 : decode b_R_know 46 = .ok (.aload_n 0, 1) := by decide +kernel
theorem d_R_know_47 : decode b_R_know 47 = .ok (.getfield 7, 3) := by decide +kernel
theorem d_R_know_50 : decode b_R_know 50 = .ok (.if_icmp .ge 66, 3) := by decide +kernel
theorem d_R_know_53 : decode b_R_know 53 = .ok (.aload_n 0, 1) := by decide +kernel
theorem d_R_know_54 : decode b_R_know 54 = .ok (.getfield 13, 3) := by decide +kernel
theorem d_R_know_57 : decode b_R_know 57 = .ok (.iload_n 2, 1) := by decide +kernel
theorem d_R_know_58 : decode b_R_know 58 = .ok (.iaload, 1) := by decide +kernel
theorem d_R_know_59 : decode b_R_know 59 = .ok (.iload_n 1, 1) := by decide +kernel
theorem d_R_know_60 : decode b_R_know 60 = .ok (.if_icmp .ne 50, 3) := by decide +kernel
theorem d_R_know_63 : decode b_R_know 63 = .ok (.aload_n 0, 1) := by decide +kernel
theorem d_R_know_64 : decode b_R_know 64 = .ok (.getfield 36, 3) := by decide +kernel
theorem d_R_know_67 : decode b_R_know 67 = .ok (.iload_n 2, 1) := by decide +kernel
theorem d_R_know_68 : decode b_R_know 68 = .ok (.iaload, 1) := by decide +kernel
theorem d_R_know_69 : decode b_R_know 69 = .ok (.ifCond .le 41, 3) := by decide +kernel
theorem d_R_know_72 : decode b_R_know 72 = .ok (.iconst 0, 1) := by decide +kernel
theorem d_R_know_73 : decode b_R_know 73 = .ok (.istore_n 3, 1) := by decide +kernel
theorem d_R_know_74 : decode b_R_know 74 = .ok (.iload_n 3, 1) := by decide +kernel
theorem d_R_know_75 : decode b_R_know 75 = .ok (.bipush 12, 2) := by decide +kernel
theorem d_R_know_77 : decode b_R_know 77 = .ok (.if_icmp .ge 33, 3) := by decide +kernel
theorem d_R_know_80 : decode b_R_know 80 = .ok (.aload_n 0, 1) := by decide +kernel
theorem d_R_know_81 : decode b_R_know 81 = .ok (.getfield 54, 3) := by decide +kernel
theorem d_R_know_84 : decode b_R_know 84 = .ok (.iload_n 3, 1) := by decide +kernel
theorem d_R_know_85 : decode b_R_know 85 = .ok (.aload_n 0, 1) := by decide +kernel
theorem d_R_know_86 : decode b_R_know 86 = .ok (.getfield 54, 3) := by decide +kernel
theorem d_R_know_89 : decode b_R_know 89 = .ok (.iload_n 3, 1) := by decide +kernel
theorem d_R_know_90 : decode b_R_know 90 = .ok (.iaload, 1) := by decide +kernel
theorem d_R_know_91 : decode b_R_know 91 = .ok (.aload_n 0, 1) := by decide +kernel
theorem d_R_know_92 : decode b_R_know 92 = .ok (.getfield 39, 3) := by decide +kernel
theorem d_R_know_95 : decode b_R_know 95 = .ok (.bipush 12, 2) := by decide +kernel
theorem d_R_know_97 : decode b_R_know 97 = .ok (.iload_n 2, 1) := by decide +kernel
theorem d_R_know_98 : decode b_R_know 98 = .ok (.imul, 1) := by decide +kernel
theorem d_R_know_99 : decode b_R_know 99 = .ok (.iload_n 3, 1) := by decide +kernel
theorem d_R_know_100 : decode b_R_know 100 = .ok (.iadd, 1) := by decide +kernel
theorem d_R_know_101 : decode b_R_know 101 = .ok (.iaload, 1) := by decide +kernel
theorem d_R_know_102 : decode b_R_know 102 = .ok (.iadd, 1) := by decide +kernel
theorem d_R_know_103 : decode b_R_know 103 = .ok (.iastore, 1) := by decide +kernel
theorem d_R_know_104 : decode b_R_know 104 = .ok (.iinc 3 1, 3) := by decide +kernel
theorem d_R_know_107 : decode b_R_know 107 = .ok (.goto (-33), 3) := by decide +kernel
theorem d_R_know_110 : decode b_R_know 110 = .ok (.iinc 2 1, 3) := by decide +kernel
theorem d_R_know_113 : decode b_R_know 113 = .ok (.goto (-68), 3) := by decide +kernel
theorem d_R_know_116 : decode b_R_know 116 = .ok (.return_, 1) := by decide +kernel
theorem d_R_work_0 : decode b_R_work 0 = .ok (.aload_n 0, 1) := by decide +kernel
theorem d_R_work_1 : decode b_R_work 1 = .ok (.iload_n 1, 1) := by decide +kernel
theorem d_R_work_2 : decode b_R_work 2 = .ok (.invokevirtual 90, 3) := by decide +kernel
theorem d_R_work_5 : decode b_R_work 5 = .ok (.aload_n 0, 1) := by decide +kernel
theorem d_R_work_6 : decode b_R_work 6 = .ok (.getfield 7, 3) := by decide +kernel
theorem d_R_work_9 : decode b_R_work 9 = .ok (.iconst 1, 1) := by decide +kernel
theorem d_R_work_10 : decode b_R_work 10 = .ok (.isub, 1) := by decide +kernel
theorem d_R_work_11 : decode b_R_work 11 = .ok (.istore_n 2, 1) := by decide +kernel
theorem d_R_work_12 : decode b_R_work 12 = .ok (.iload_n 2, 1) := by decide +kernel
theorem d_R_work_13 : decode b_R_work 13 = .ok (.iload_n 1, 1) := by decide +kernel
theorem d_R_work_14 : decode b_R_work 14 = .ok (.if_icmp .lt 91, 3) := by decide +kernel
theorem d_R_work_17 : decode b_R_work 17 = .ok (.aload_n 0, 1) := by decide +kernel
theorem d_R_work_18 : decode b_R_work 18 = .ok (.iload_n 2, 1) := by decide +kernel
theorem d_R_work_19 : decode b_R_work 19 = .ok (.invokevirtual 100, 3) := by decide +kernel
theorem d_R_work_22 : decode b_R_work 22 = .ok (.iconst 0, 1) := by decide +kernel
theorem d_R_work_23 : decode b_R_work 23 = .ok (.istore_n 3, 1) := by decide +kernel
theorem d_R_work_24 : decode b_R_work 24 = .ok (.iload_n 3, 1) := by decide +kernel
theorem d_R_work_25 : decode b_R_work 25 = .ok (.aload_n 0, 1) := by decide +kernel
theorem d_R_work_26 : decode b_R_work 26 = .ok (.getfield 54, 3) := by decide +kernel
theorem d_R_work_29 : decode b_R_work 29 = .ok (.iload_n 2, 1) := by decide +kernel
theorem d_R_work_30 : decode b_R_work 30 = .ok (.iaload, 1) := by decide +kernel
theorem d_R_work_31 : decode b_R_work 31 = .ok (.if_icmp .ge 25, 3) := by decide +kernel
theorem d_R_work_34 : decode b_R_work 34 = .ok (.aload_n 0, 1) := by decide +kernel
theorem d_R_work_35 : decode b_R_work 35 = .ok (.iload_n 2, 1) := by decide +kernel
theorem d_R_work_36 : decode b_R_work 36 = .ok (.aload_n 0, 1) := by decide +kernel
theorem d_R_work_37 : decode b_R_work 37 = .ok (.getfield 24, 3) := by decide +kernel
theorem d_R_work_40 : decode b_R_work 40 = .ok (.bipush 48, 2) := by decide +kernel
theorem d_R_work_42 : decode b_R_work 42 = .ok (.iload_n 2, 1) := by decide +kernel
theorem d_R_work_43 : decode b_R_work 43 = .ok (.imul, 1) := by decide +kernel
theorem d_R_work_44 : decode b_R_work 44 = .ok (.iload_n 3, 1) := by decide +kernel
theorem d_R_work_45 : decode b_R_work 45 = .ok (.iadd, 1) := by decide +kernel
theorem d_R_work_46 : decode b_R_work 46 = .ok (.iaload, 1) := by decide +kernel
theorem d_R_work_47 : decode b_R_work 47 = .ok (.invokevirtual 103, 3) := by decide +kernel
theorem d_R_work_50 : decode b_R_work 50 = .ok (.iinc 3 1, 3) := by decide +kernel
theorem d_R_work_53 : decode b_R_work 53 = .ok (.goto (-29), 3) := by decide +kernel
theorem d_R_work_56 : decode b_R_work 56 = .ok (.iload_n 2, 1) := by decide +kernel
theorem d_R_work_57 : decode b_R_work 57 = .ok (.iconst 1, 1) := by decide +kernel
theorem d_R_work_58 : decode b_R_work 58 = .ok (.iadd, 1) := by decide +kernel
theorem d_R_work_59 : decode b_R_work 59 = .ok (.istore_n 3, 1) := by decide +kernel
theorem d_R_work_60 : decode b_R_work 60 = .ok (.iload_n 3, 1) := by decide +kernel
theorem d_R_work_61 : decode b_R_work 61 = .ok (.aload_n 0, 1) := by decide +kernel
theorem d_R_work_62 : decode b_R_work 62 = .ok (.getfield 7, 3) := by decide +kernel
theorem d_R_work_65 : decode b_R_work 65 = .ok (.if_icmp .ge 34, 3) := by decide +kernel
theorem d_R_work_68 : decode b_R_work 68 = .ok (.aload_n 0, 1) := by decide +kernel
theorem d_R_work_69 : decode b_R_work 69 = .ok (.getfield 13, 3) := by decide +kernel
theorem d_R_work_72 : decode b_R_work 72 = .ok (.iload_n 3, 1) := by decide +kernel
theorem d_R_work_73 : decode b_R_work 73 = .ok (.iaload, 1) := by decide +kernel
theorem d_R_work_74 : decode b_R_work 74 = .ok (.iload_n 2, 1) := by decide +kernel
theorem d_R_work_75 : decode b_R_work 75 = .ok (.if_icmp .ne 18, 3) := by decide +kernel
theorem d_R_work_78 : decode b_R_work 78 = .ok (.aload_n 0, 1) := by decide +kernel
theorem d_R_work_79 : decode b_R_work 79 = .ok (.getfield 57, 3) := by decide +kernel
theorem d_R_work_82 : decode b_R_work 82 = .ok (.iload_n 3, 1) := by decide +kernel
theorem d_R_work_83 : decode b_R_work 83 = .ok (.iaload, 1) := by decide +kernel
theorem d_R_work_84 : decode b_R_work 84 = .ok (.ifCond .le 9, 3) := by decide +kernel
theorem d_R_work_87 : decode b_R_work 87 = .ok (.aload_n 0, 1) := by decide +kernel
theorem d_R_work_88 : decode b_R_work 88 = .ok (.iload_n 2, 1) := by decide +kernel
theorem d_R_work_89 : decode b_R_work 89 = .ok (.iload_n 3, 1) := by decide +kernel
theorem d_R_work_90 : decode b_R_work 90 = .ok (.invokevirtual 107, 3) := by decide +kernel
theorem d_R_work_93 : decode b_R_work 93 = .ok (.iinc 3 1, 3) := by decide +kernel
theorem d_R_work_96 : decode b_R_work 96 = .ok (.goto (-36), 3) := by decide +kernel
theorem d_R_work_99 : decode b_R_work 99 = .ok (.iinc 2 (-1), 3) := by decide +kernel
theorem d_R_work_102 : decode b_R_work 102 = .ok (.goto (-90), 3) := by decide +kernel
theorem d_R_work_105 : decode b_R_work 105 = .ok (.return_, 1) := by decide +kernel
theorem d_R_clear_0 : decode b_R_clear 0 = .ok (.aload_n 0, 1) := by decide +kernel
theorem d_R_clear_1 : decode b_R_clear 1 = .ok (.getfield 57, 3) := by decide +kernel
theorem d_R_clear_4 : decode b_R_clear 4 = .ok (.iload_n 1, 1) := by decide +kernel
theorem d_R_clear_5 : decode b_R_clear 5 = .ok (.iconst 0, 1) := by decide +kernel
theorem d_R_clear_6 : decode b_R_clear 6 = .ok (.iastore, 1) := by decide +kernel
theorem d_R_clear_7 : decode b_R_clear 7 = .ok (.iconst 0, 1) := by decide +kernel
theorem d_R_clear_8 : decode b_R_clear 8 = .ok (.istore_n 2, 1) := by decide +kernel
theorem d_R_clear_9 : decode b_R_clear 9 = .ok (.iload_n 2, 1) := by decide +kernel
theorem d_R_clear_10 : decode b_R_clear 10 = .ok (.bipush 32, 2) := by decide +kernel
theorem d_R_clear_12 : decode b_R_clear 12 = .ok (.if_icmp .ge 21, 3) := by decide +kernel
theorem d_R_clear_15 : decode b_R_clear 15 = .ok (.aload_n 0, 1) := by decide +kernel
theorem d_R_clear_16 : decode b_R_clear 16 = .ok (.getfield 60, 3) := by decide +kernel
theorem d_R_clear_19 : decode b_R_clear 19 = .ok (.bipush 32, 2) := by decide +kernel
theorem d_R_clear_21 : decode b_R_clear 21 = .ok (.iload_n 1, 1) := by decide +kernel
theorem d_R_clear_22 : decode b_R_clear 22 = .ok (.imul, 1) := by decide +kernel
theorem d_R_clear_23 : decode b_R_clear 23 = .ok (.iload_n 2, 1) := by decide +kernel
theorem d_R_clear_24 : decode b_R_clear 24 = .ok (.iadd, 1) := by decide +kernel
theorem d_R_clear_25 : decode b_R_clear 25 = .ok (.iconst 0, 1) := by decide +kernel
theorem d_R_clear_26 : decode b_R_clear 26 = .ok (.iastore, 1) := by decide +kernel
theorem d_R_clear_27 : decode b_R_clear 27 = .ok (.iinc 2 1, 3) := by decide +kernel
theorem d_R_clear_30 : decode b_R_clear 30 = .ok (.goto (-21), 3) := by decide +kernel
theorem d_R_clear_33 : decode b_R_clear 33 = .ok (.iconst 0, 1) := by decide +kernel
theorem d_R_clear_34 : decode b_R_clear 34 = .ok (.istore_n 2, 1) := by decide +kernel
theorem d_R_clear_35 : decode b_R_clear 35 = .ok (.iload_n 2, 1) := by decide +kernel
theorem d_R_clear_36 : decode b_R_clear 36 = .ok (.bipush 64, 2) := by decide +kernel
theorem d_R_clear_38 : decode b_R_clear 38 = .ok (.if_icmp .ge 21, 3) := by decide +kernel
theorem d_R_clear_41 : decode b_R_clear 41 = .ok (.aload_n 0, 1) := by decide +kernel
theorem d_R_clear_42 : decode b_R_clear 42 = .ok (.getfield 63, 3) := by decide +kernel
theorem d_R_clear_45 : decode b_R_clear 45 = .ok (.bipush 64, 2) := by decide +kernel
theorem d_R_clear_47 : decode b_R_clear 47 = .ok (.iload_n 1, 1) := by decide +kernel
theorem d_R_clear_48 : decode b_R_clear 48 = .ok (.imul, 1) := by decide +kernel
theorem d_R_clear_49 : decode b_R_clear 49 = .ok (.iload_n 2, 1) := by decide +kernel
theorem d_R_clear_50 : decode b_R_clear 50 = .ok (.iadd, 1) := by decide +kernel
theorem d_R_clear_51 : decode b_R_clear 51 = .ok (.iconst 0, 1) := by decide +kernel
theorem d_R_clear_52 : decode b_R_clear 52 = .ok (.iastore, 1) := by decide +kernel
theorem d_R_clear_53 : decode b_R_clear 53 = .ok (.iinc 2 1, 3) := by decide +kernel
theorem d_R_clear_56 : decode b_R_clear 56 = .ok (.goto (-21), 3) := by decide +kernel
theorem d_R_clear_59 : decode b_R_clear 59 = .ok (.return_, 1) := by decide +kernel
end
section
theorem d_R_counters_0 : decode b_R_counters 0 = .ok (.iconst 0, 1) := by decide +kernel
theorem d_R_counters_1 : decode b_R_counters 1 = .ok (.istore_n 2, 1) := by decide +kernel
theorem d_R_counters_2 : decode b_R_counters 2 = .ok (.iconst 0, 1) := by decide +kernel
theorem d_R_counters_3 : decode b_R_counters 3 = .ok (.istore_n 3, 1) := by decide +kernel
theorem d_R_counters_4 : decode b_R_counters 4 = .ok (.iload_n 3, 1) := by decide +kernel
theorem d_R_counters_5 : decode b_R_counters 5 = .ok (.bipush 32, 2) := by decide +kernel
theorem d_R_counters_7 : decode b_R_counters 7 = .ok (.if_icmp .ge 31, 3) := by decide +kernel
theorem d_R_counters_10 : decode b_R_counters 10 = .ok (.aload_n 0, 1) := by decide +kernel
theorem d_R_counters_11 : decode b_R_counters 11 = .ok (.getfield 60, 3) := by decide +kernel
theorem d_R_counters_14 : decode b_R_counters 14 = .ok (.bipush 32, 2) := by decide +kernel
theorem d_R_counters_16 : decode b_R_counters 16 = .ok (.iload_n 1, 1) := by decide +kernel
theorem d_R_counters_17 : decode b_R_counters 17 = .ok (.imul, 1) := by decide +kernel
theorem d_R_counters_18 : decode b_R_counters 18 = .ok (.iload_n 3, 1) := by decide +kernel
theorem d_R_counters_19 : decode b_R_counters 19 = .ok (.iadd, 1) := by decide +kernel
theorem d_R_counters_20 : decode b_R_counters 20 = .ok (.iaload, 1) := by decide +kernel
theorem d_R_counters_21 : decode b_R_counters 21 = .ok (.ifCond .le 9, 3) := by decide +kernel
theorem d_R_counters_24 : decode b_R_counters 24 = .ok (.iload_n 2, 1) := by decide +kernel
theorem d_R_counters_25 : decode b_R_counters 25 = .ok (.iconst 1, 1) := by decide +kernel
theorem d_R_counters_26 : decode b_R_counters 26 = .ok (.iadd, 1) := by decide +kernel
theorem d_R_counters_27 : decode b_R_counters 27 = .ok (.goto 4, 3) := by decide +kernel
theorem d_R_counters_30 : decode b_R_counters 30 = .ok (.iload_n 2, 1) := by decide +kernel
theorem d_R_counters_31 : decode b_R_counters 31 = .ok (.istore_n 2, 1) := by decide +kernel
theorem d_R_counters_32 : decode b_R_counters 32 = .ok (.iinc 3 1, 3) := by decide +kernel
theorem d_R_counters_35 : decode b_R_counters 35 = .ok (.goto (-31), 3) := by decide +kernel
theorem d_R_counters_38 : decode b_R_counters 38 = .ok (.iload_n 2, 1) := by decide +kernel
theorem d_R_counters_39 : decode b_R_counters 39 = .ok (.ireturn, 1) := by decide +kernel
theorem d_R_lower_0 : decode b_R_lower 0 = .ok (.iconst 0, 1) := by decide +kernel
theorem d_R_lower_1 : decode b_R_lower 1 = .ok (.istore_n 3, 1) := by decide +kernel
theorem d_R_lower_2 : decode b_R_lower 2 = .ok (.iload_n 3, 1) := by decide +kernel
theorem d_R_lower_3 : decode b_R_lower 3 = .ok (.bipush 32, 2) := by decide +kernel
theorem d_R_lower_5 : decode b_R_lower 5 = .ok (.if_icmp .ge 46, 3) := by decide +kernel
theorem d_R_lower_8 : decode b_R_lower 8 = .ok (.aload_n 0, 1) := by decide +kernel
theorem d_R_lower_9 : decode b_R_lower 9 = .ok (.getfield 60, 3) := by decide +kernel
theorem d_R_lower_12 : decode b_R_lower 12 = .ok (.bipush 32, 2) := by decide +kernel
theorem d_R_lower_14 : decode b_R_lower 14 = .ok (.iload_n 1, 1) := by decide +kernel
theorem d_R_lower_15 : decode b_R_lower 15 = .ok (.imul, 1) := by decide +kernel
theorem d_R_lower_16 : decode b_R_lower 16 = .ok (.iload_n 3, 1) := by decide +kernel
theorem d_R_lower_17 : decode b_R_lower 17 = .ok (.iadd, 1) := by decide +kernel
theorem d_R_lower_18 : decode b_R_lower 18 = .ok (.iaload, 1) := by decide +kernel
theorem d_R_lower_19 : decode b_R_lower 19 = .ok (.iload_n 2, 1) := by decide +kernel
theorem d_R_lower_20 : decode b_R_lower 20 = .ok (.isub, 1) := by decide +kernel
theorem d_R_lower_21 : decode b_R_lower 21 = .ok (.istore 4, 2) := by decide +kernel
theorem d_R_lower_23 : decode b_R_lower 23 = .ok (.aload_n 0, 1) := by decide +kernel
theorem d_R_lower_24 : decode b_R_lower 24 = .ok (.getfield 60, 3) := by decide +kernel
theorem d_R_lower_27 : decode b_R_lower 27 = .ok (.bipush 32, 2) := by decide +kernel
theorem d_R_lower_29 : decode b_R_lower 29 = .ok (.iload_n 1, 1) := by decide +kernel
theorem d_R_lower_30 : decode b_R_lower 30 = .ok (.imul, 1) := by decide +kernel
theorem d_R_lower_31 : decode b_R_lower 31 = .ok (.iload_n 3, 1) := by decide +kernel
theorem d_R_lower_32 : decode b_R_lower 32 = .ok (.iadd, 1) := by decide +kernel
theorem d_R_lower_33 : decode b_R_lower 33 = .ok (.iload 4, 2) := by decide +kernel
theorem d_R_lower_35 : decode b_R_lower 35 = .ok (.ifCond .le 8, 3) := by decide +kernel
theorem d_R_lower_38 : decode b_R_lower 38 = .ok (.iload 4, 2) := by decide +kernel
theorem d_R_lower_40 : decode b_R_lower 40 = .ok (.goto 4, 3) := by decide +kernel
theorem d_R_lower_43 : decode b_R_lower 43 = .ok (.iconst 0, 1) := by decide +kernel
theorem d_R_lower_44 : decode b_R_lower 44 = .ok (.iastore, 1) := by decide +kernel
theorem d_R_lower_45 : decode b_R_lower 45 = .ok (.iinc 3 1, 3) := by decide +kernel
theorem d_R_lower_48 : decode b_R_lower 48 = .ok (.goto (-46), 3) := by decide +kernel
theorem d_R_lower_51 : decode b_R_lower 51 = .ok (.return_, 1) := by decide +kernel
theorem d_R_take_0 : decode b_R_take 0 = .ok (.aload_n 0, 1) := by decide +kernel
theorem d_R_take_1 : decode b_R_take 1 = .ok (.getfield 57, 3) := by decide +kernel
theorem d_R_take_4 : decode b_R_take 4 = .ok (.iload_n 1, 1) := by decide +kernel
theorem d_R_take_5 : decode b_R_take 5 = .ok (.dup2, 1) := by decide +kernel
theorem d_R_take_6 : decode b_R_take 6 = .ok (.iaload, 1) := by decide +kernel
theorem d_R_take_7 : decode b_R_take 7 = .ok (.iconst 1, 1) := by decide +kernel
theorem d_R_take_8 : decode b_R_take 8 = .ok (.iadd, 1) := by decide +kernel
theorem d_R_take_9 : decode b_R_take 9 = .ok (.iastore, 1) := by decide +kernel
theorem d_R_take_10 : decode b_R_take 10 = .ok (.aload_n 0, 1) := by decide +kernel
theorem d_R_take_11 : decode b_R_take 11 = .ok (.getfield 60, 3) := by decide +kernel
theorem d_R_take_14 : decode b_R_take 14 = .ok (.bipush 32, 2) := by decide +kernel
theorem d_R_take_16 : decode b_R_take 16 = .ok (.iload_n 1, 1) := by decide +kernel
theorem d_R_take_17 : decode b_R_take 17 = .ok (.imul, 1) := by decide +kernel
theorem d_R_take_18 : decode b_R_take 18 = .ok (.iload_n 2, 1) := by decide +kernel
theorem d_R_take_19 : decode b_R_take 19 = .ok (.iadd, 1) := by decide +kernel
theorem d_R_take_20 : decode b_R_take 20 = .ok (.iaload, 1) := by decide +kernel
theorem d_R_take_21 : decode b_R_take 21 = .ok (.ifCond .gt 15, 3) := by decide +kernel
theorem d_R_take_24 : decode b_R_take 24 = .ok (.aload_n 0, 1) := by decide +kernel
theorem d_R_take_25 : decode b_R_take 25 = .ok (.iload_n 1, 1) := by decide +kernel
theorem d_R_take_26 : decode b_R_take 26 = .ok (.invokevirtual 110, 3) := by decide +kernel
theorem d_R_take_29 : decode b_R_take 29 = .ok (.aload_n 0, 1) := by decide +kernel
theorem d_R_take_30 : decode b_R_take 30 = .ok (.getfield 69, 3) := by decide +kernel
theorem d_R_take_33 : decode b_R_take 33 = .ok (.if_icmp .ge 21, 3) := by decide +kernel
theorem d_R_take_36 : decode b_R_take 36 = .ok (.aload_n 0, 1) := by decide +kernel
theorem d_R_take_37 : decode b_R_take 37 = .ok (.getfield 60, 3) := by decide +kernel
theorem d_R_take_40 : decode b_R_take 40 = .ok (.bipush 32, 2) := by decide +kernel
theorem d_R_take_42 : decode b_R_take 42 = .ok (.iload_n 1, 1) := by decide +kernel
theorem d_R_take_43 : decode b_R_take 43 = .ok (.imul, 1) := by decide +kernel
theorem d_R_take_44 : decode b_R_take 44 = .ok (.iload_n 2, 1) := by decide +kernel
theorem d_R_take_45 : decode b_R_take 45 = .ok (.iadd, 1) := by decide +kernel
theorem d_R_take_46 : decode b_R_take 46 = .ok (.dup2, 1) := by decide +kernel
theorem d_R_take_47 : decode b_R_take 47 = .ok (.iaload, 1) := by decide +kernel
theorem d_R_take_48 : decode b_R_take 48 = .ok (.iconst 1, 1) := by decide +kernel
theorem d_R_take_49 : decode b_R_take 49 = .ok (.iadd, 1) := by decide +kernel
theorem d_R_take_50 : decode b_R_take 50 = .ok (.iastore, 1) := by decide +kernel
theorem d_R_take_51 : decode b_R_take 51 = .ok (.goto 9, 3) := by decide +kernel
theorem d_R_take_54 : decode b_R_take 54 = .ok (.aload_n 0, 1) := by decide +kernel
theorem d_R_take_55 : decode b_R_take 55 = .ok (.iload_n 1, 1) := by decide +kernel
theorem d_R_take_56 : decode b_R_take 56 = .ok (.iconst 1, 1) := by decide +kernel
theorem d_R_take_57 : decode b_R_take 57 = .ok (.invokevirtual 113, 3) := by decide +kernel
theorem d_R_take_60 : decode b_R_take 60 = .ok (.aload_n 0, 1) := by decide +kernel
theorem d_R_take_61 : decode b_R_take 61 = .ok (.getfield 63, 3) := by decide +kernel
theorem d_R_take_64 : decode b_R_take 64 = .ok (.bipush 64, 2) := by decide +kernel
theorem d_R_take_66 : decode b_R_take 66 = .ok (.iload_n 1, 1) := by decide +kernel
theorem d_R_take_67 : decode b_R_take 67 = .ok (.imul, 1) := by decide +kernel
theorem d_R_take_68 : decode b_R_take 68 = .ok (.bipush 32, 2) := by decide +kernel
theorem d_R_take_70 : decode b_R_take 70 = .ok (.iadd, 1) := by decide +kernel
theorem d_R_take_71 : decode b_R_take 71 = .ok (.iload_n 2, 1) := by decide +kernel
theorem d_R_take_72 : decode b_R_take 72 = .ok (.iadd, 1) := by decide +kernel
theorem d_R_take_73 : decode b_R_take 73 = .ok (.dup2, 1) := by decide +kernel
theorem d_R_take_74 : decode b_R_take 74 = .ok (.iaload, 1) := by decide +kernel
theorem d_R_take_75 : decode b_R_take 75 = .ok (.iconst 1, 1) := by decide +kernel
theorem d_R_take_76 : decode b_R_take 76 = .ok (.iadd, 1) := by decide +kernel
theorem d_R_take_77 : decode b_R_take 77 = .ok (.iastore, 1) := by decide +kernel
theorem d_R_take_78 : decode b_R_take 78 = .ok (.aload_n 0, 1) := by decide +kernel
theorem d_R_take_79 : decode b_R_take 79 = .ok (.iload_n 1, 1) := by decide +kernel
theorem d_R_take_80 : decode b_R_take 80 = .ok (.invokevirtual 116, 3) := by decide +kernel
theorem d_R_take_83 : decode b_R_take 83 = .ok (.return_, 1) := by decide +kernel
theorem d_R_merge_0 : decode b_R_merge 0 = .ok (.aload_n 0, 1) := by decide +kernel
theorem d_R_merge_1 : decode b_R_merge 1 = .ok (.getfield 57, 3) := by decide +kernel
theorem d_R_merge_4 : decode b_R_merge 4 = .ok (.iload_n 1, 1) := by decide +kernel
theorem d_R_merge_5 : decode b_R_merge 5 = .ok (.aload_n 0, 1) := by decide +kernel
theorem d_R_merge_6 : decode b_R_merge 6 = .ok (.getfield 57, 3) := by decide +kernel
theorem d_R_merge_9 : decode b_R_merge 9 = .ok (.iload_n 1, 1) := by decide +kernel
theorem d_R_merge_10 : decode b_R_merge 10 = .ok (.iaload, 1) := by decide +kernel
theorem d_R_merge_11 : decode b_R_merge 11 = .ok (.aload_n 0, 1) := by decide +kernel
theorem d_R_merge_12 : decode b_R_merge 12 = .ok (.getfield 57, 3) := by decide +kernel
theorem d_R_merge_15 : decode b_R_merge 15 = .ok (.iload_n 2, 1) := by decide +kernel
theorem d_R_merge_16 : decode b_R_merge 16 = .ok (.iaload, 1) := by decide +kernel
theorem d_R_merge_17 : decode b_R_merge 17 = .ok (.iadd, 1) := by decide +kernel
theorem d_R_merge_18 : decode b_R_merge 18 = .ok (.iastore, 1) := by decide +kernel
theorem d_R_merge_19 : decode b_R_merge 19 = .ok (.iconst 0, 1) := by decide +kernel
theorem d_R_merge_20 : decode b_R_merge 20 = .ok (.istore_n 3, 1) := by decide +kernel
theorem d_R_merge_21 : decode b_R_merge 21 = .ok (.iload_n 3, 1) := by decide +kernel
theorem d_R_merge_22 : decode b_R_merge 22 = .ok (.bipush 32, 2) := by decide +kernel
theorem d_R_merge_24 : decode b_R_merge 24 = .ok (.if_icmp .ge 43, 3) := by decide +kernel
theorem d_R_merge_27 : decode b_R_merge 27 = .ok (.aload_n 0, 1) := by decide +kernel
theorem d_R_merge_28 : decode b_R_merge 28 = .ok (.getfield 60, 3) := by decide +kernel
theorem d_R_merge_31 : decode b_R_merge 31 = .ok (.bipush 32, 2) := by decide +kernel
theorem d_R_merge_33 : decode b_R_merge 33 = .ok (.iload_n 1, 1) := by decide +kernel
theorem d_R_merge_34 : decode b_R_merge 34 = .ok (.imul, 1) := by decide +kernel
theorem d_R_merge_35 : decode b_R_merge 35 = .ok (.iload_n 3, 1) := by decide +kernel
theorem d_R_merge_36 : decode b_R_merge 36 = .ok (.iadd, 1) := by decide +kernel
theorem d_R_merge_37 : decode b_R_merge 37 = .ok (.aload_n 0, 1) := by decide +kernel
theorem d_R_merge_38 : decode b_R_merge 38 = .ok (.getfield 60, 3) := by decide +kernel
theorem d_R_merge_41 : decode b_R_merge 41 = .ok (.bipush 32, 2) := by decide +kernel
theorem d_R_merge_43 : decode b_R_merge 43 = .ok (.iload_n 1, 1) := by decide +kernel
theorem d_R_merge_44 : decode b_R_merge 44 = .ok (.imul, 1) := by decide +kernel
theorem d_R_merge_45 : decode b_R_merge 45 = .ok (.iload_n 3, 1) := by decide +kernel
theorem d_R_merge_46 : decode b_R_merge 46 = .ok (.iadd, 1) := by decide +kernel
theorem d_R_merge_47 : decode b_R_merge 47 = .ok (.iaload, 1) := by decide +kernel
theorem d_R_merge_48 : decode b_R_merge 48 = .ok (.aload_n 0, 1) := by decide +kernel
theorem d_R_merge_49 : decode b_R_merge 49 = .ok (.getfield 60, 3) := by decide +kernel
theorem d_R_merge_52 : decode b_R_merge 52 = .ok (.bipush 32, 2) := by decide +kernel
theorem d_R_merge_54 : decode b_R_merge 54 = .ok (.iload_n 2, 1) := by decide +kernel
theorem d_R_merge_55 : decode b_R_merge 55 = .ok (.imul, 1) := by decide +kernel
theorem d_R_merge_56 : decode b_R_merge 56 = .ok (.iload_n 3, 1) := by decide +kernel
theorem d_R_merge_57 : decode b_R_merge 57 = .ok (.iadd, 1) := by decide +kernel
theorem d_R_merge_58 : decode b_R_merge 58 = .ok (.iaload, 1) := by decide +kernel
theorem d_R_merge_59 : decode b_R_merge 59 = .ok (.iadd, 1) := by decide +kernel
theorem d_R_merge_60 : decode b_R_merge 60 = .ok (.iastore, 1) := by decide +kernel
theorem d_R_merge_61 : decode b_R_merge 61 = .ok (.iinc 3 1, 3) := by decide +kernel
theorem d_R_merge_64 : decode b_R_merge 64 = .ok (.goto (-43), 3) := by decide +kernel
theorem d_R_merge_67 : decode b_R_merge 67 = .ok (.aload_n 0, 1) := by decide +kernel
theorem d_R_merge_68 : decode b_R_merge 68 = .ok (.iload_n 1, 1) := by decide +kernel
theorem d_R_merge_69 : decode b_R_merge 69 = .ok (.invokevirtual 110, 3) := by decide +kernel
theorem d_R_merge_72 : decode b_R_merge 72 = .ok (.aload_n 0, 1) := by decide +kernel
theorem d_R_merge_73 : decode b_R_merge 73 = .ok (.getfield 69, 3) := by decide +kernel
theorem d_R_merge_76 : decode b_R_merge 76 = .ok (.if_icmp .le 61, 3) := by decide +kernel
theorem d_R_merge_79 : decode b_R_merge 79 = .ok (.iconst 0, 1) := by decide +kernel
theorem d_R_merge_80 : decode b_R_merge 80 = .ok (.istore_n 3, 1) := by decide +kernel
theorem d_R_merge_81 : decode b_R_merge 81 = .ok (.aload_n 0, 1) := by decide +kernel
theorem d_R_merge_82 : decode b_R_merge 82 = .ok (.invokevirtual 119, 3) := by decide +kernel
theorem d_R_merge_85 : decode b_R_merge 85 = .ok (.iconst 0, 1) := by decide +kernel
theorem d_R_merge_86 : decode b_R_merge 86 = .ok (.istore 4, 2) := by decide +kernel
theorem d_R_merge_88 : decode b_R_merge 88 = .ok (.iload 4, 2) := by decide +kernel
theorem d_R_merge_90 : decode b_R_merge 90 = .ok (.aload_n 0, 1) := by decide +kernel
theorem d_R_merge_91 : decode b_R_merge 91 = .ok (.getfield 69, 3) := by decide +kernel
theorem d_R_merge_94 : decode b_R_merge 94 = .ok (.if_icmp .gt 37, 3) := by decide +kernel
theorem d_R_merge_97 : decode b_R_merge 97 = .ok (.aload_n 0, 1) := by decide +kernel
theorem d_R_merge_98 : decode b_R_merge 98 = .ok (.iload_n 1, 1) := by decide +kernel
theorem d_R_merge_99 : decode b_R_merge 99 = .ok (.invokevirtual 122, 3) := by decide +kernel
theorem d_R_merge_102 : decode b_R_merge 102 = .ok (.istore 5, 2) := by decide +kernel
theorem d_R_merge_104 : decode b_R_merge 104 = .ok (.aload_n 0, 1) := by decide +kernel
theorem d_R_merge_105 : decode b_R_merge 105 = .ok (.getfield 66, 3) := by decide +kernel
theorem d_R_merge_108 : decode b_R_merge 108 = .ok (.iload 5, 2) := by decide +kernel
theorem d_R_merge_110 : decode b_R_merge 110 = .ok (.iconst 1, 1) := by decide +kernel
theorem d_R_merge_111 : decode b_R_merge 111 = .ok (.bastore, 1) := by decide +kernel
theorem d_R_merge_112 : decode b_R_merge 112 = .ok (.aload_n 0, 1) := by decide +kernel
theorem d_R_merge_113 : decode b_R_merge 113 = .ok (.getfield 60, 3) := by decide +kernel
theorem d_R_merge_116 : decode b_R_merge 116 = .ok (.bipush 32, 2) := by decide +kernel
theorem d_R_merge_118 : decode b_R_merge 118 = .ok (.iload_n 1, 1) := by decide +kernel
theorem d_R_merge_119 : decode b_R_merge 119 = .ok (.imul, 1) := by decide +kernel
theorem d_R_merge_120 : decode b_R_merge 120 = .ok (.iload 5, 2) := by decide +kernel
theorem d_R_merge_122 : decode b_R_merge 122 = .ok (.iadd, 1) := by decide +kernel
theorem d_R_merge_123 : decode b_R_merge 123 = .ok (.iaload, 1) := by decide +kernel
theorem d_R_merge_124 : decode b_R_merge 124 = .ok (.istore_n 3, 1) := by decide +kernel
theorem d_R_merge_125 : decode b_R_merge 125 = .ok (.iinc 4 1, 3) := by decide +kernel
theorem d_R_merge_128 : decode b_R_merge 128 = .ok (.goto (-40), 3) := by decide +kernel
theorem d_R_merge_131 : decode b_R_merge 131 = .ok (.aload_n 0, 1) := by decide +kernel
theorem d_R_merge_132 : decode b_R_merge 132 = .ok (.iload_n 1, 1) := by decide +kernel
theorem d_R_merge_133 : decode b_R_merge 133 = .ok (.iload_n 3, 1) := by decide +kernel
theorem d_R_merge_134 : decode b_R_merge 134 = .ok (.invokevirtual 113, 3) := by decide +kernel
theorem d_R_merge_137 : decode b_R_merge 137 = .ok (.iconst 1, 1) := by decide +kernel
theorem d_R_merge_138 : decode b_R_merge 138 = .ok (.istore_n 3, 1) := by decide +kernel
theorem d_R_merge_139 : decode b_R_merge 139 = .ok (.iload_n 3, 1) := by decide +kernel
theorem d_R_merge_140 : decode b_R_merge 140 = .ok (.bipush 64, 2) := by decide +kernel
theorem d_R_merge_142 : decode b_R_merge 142 = .ok (.if_icmp .ge 43, 3) := by decide +kernel
theorem d_R_merge_145 : decode b_R_merge 145 = .ok (.aload_n 0, 1) := by decide +kernel
theorem d_R_merge_146 : decode b_R_merge 146 = .ok (.getfield 63, 3) := by decide +kernel
theorem d_R_merge_149 : decode b_R_merge 149 = .ok (.bipush 64, 2) := by decide +kernel
theorem d_R_merge_151 : decode b_R_merge 151 = .ok (.iload_n 1, 1) := by decide +kernel
theorem d_R_merge_152 : decode b_R_merge 152 = .ok (.imul, 1) := by decide +kernel
theorem d_R_merge_153 : decode b_R_merge 153 = .ok (.iload_n 3, 1) := by decide +kernel
theorem d_R_merge_154 : decode b_R_merge 154 = .ok (.iadd, 1) := by decide +kernel
theorem d_R_merge_155 : decode b_R_merge 155 = .ok (.aload_n 0, 1) := by decide +kernel
theorem d_R_merge_156 : decode b_R_merge 156 = .ok (.getfield 63, 3) := by decide +kernel
theorem d_R_merge_159 : decode b_R_merge 159 = .ok (.bipush 64, 2) := by decide +kernel
theorem d_R_merge_161 : decode b_R_merge 161 = .ok (.iload_n 1, 1) := by decide +kernel
theorem d_R_merge_162 : decode b_R_merge 162 = .ok (.imul, 1) := by decide +kernel
theorem d_R_merge_163 : decode b_R_merge 163 = .ok (.iload_n 3, 1) := by decide +kernel
theorem d_R_merge_164 : decode b_R_merge 164 = .ok (.iadd, 1) := by decide +kernel
theorem d_R_merge_165 : decode b_R_merge 165 = .ok (.iaload, 1) := by decide +kernel
theorem d_R_merge_166 : decode b_R_merge 166 = .ok (.aload_n 0, 1) := by decide +kernel
theorem d_R_merge_167 : decode b_R_merge 167 = .ok (.getfield 63, 3) := by decide +kernel
theorem d_R_merge_170 : decode b_R_merge 170 = .ok (.bipush 64, 2) := by decide +kernel
theorem d_R_merge_172 : decode b_R_merge 172 = .ok (.iload_n 2, 1) := by decide +kernel
theorem d_R_merge_173 : decode b_R_merge 173 = .ok (.imul, 1) := by decide +kernel
theorem d_R_merge_174 : decode b_R_merge 174 = .ok (.iload_n 3, 1) := by decide +kernel
theorem d_R_merge_175 : decode b_R_merge 175 = .ok (.iadd, 1) := by decide +kernel
theorem d_R_merge_176 : decode b_R_merge 176 = .ok (.iaload, 1) := by decide +kernel
theorem d_R_merge_177 : decode b_R_merge 177 = .ok (.iadd, 1) := by decide +kernel
theorem d_R_merge_178 : decode b_R_merge 178 = .ok (.iastore, 1) := by decide +kernel
theorem d_R_merge_179 : decode b_R_merge 179 = .ok (.iinc 3 1, 3) := by decide +kernel
theorem d_R_merge_182 : decode b_R_merge 182 = .ok (.goto (-43), 3) := by decide +kernel
theorem d_R_merge_185 : decode b_R_merge 185 = .ok (.aload_n 0, 1) := by decide +kernel
theorem d_R_merge_186 : decode b_R_merge 186 = .ok (.iload_n 1, 1) := by decide +kernel
theorem d_R_merge_187 : decode b_R_merge 187 = .ok (.invokevirtual 116, 3) := by decide +kernel
theorem d_R_merge_190 : decode b_R_merge 190 = .ok (.return_, 1) := by decide +kernel
theorem d_R_clearUsed_0 : decode b_R_clearUsed 0 = .ok (.iconst 0, 1) := by decide +kernel
theorem d_R_clearUsed_1 : decode b_R_clearUsed 1 = .ok (.istore_n 1, 1) := by decide +kernel
theorem d_R_clearUsed_2 : decode b_R_clearUsed 2 = .ok (.iload_n 1, 1) := by decide +kernel
theorem d_R_clearUsed_3 : decode b_R_clearUsed 3 = .ok (.bipush 32, 2) := by decide +kernel
theorem d_R_clearUsed_5 : decode b_R_clearUsed 5 = .ok (.if_icmp .ge 16, 3) := by decide +kernel
theorem d_R_clearUsed_8 : decode b_R_clearUsed 8 = .ok (.aload_n 0, 1) := by decide +kernel
theorem d_R_clearUsed_9 : decode b_R_clearUsed 9 = .ok (.getfield 66, 3) := by decide +kernel
theorem d_R_clearUsed_12 : decode b_R_clearUsed 12 = .ok (.iload_n 1, 1) := by decide +kernel
theorem d_R_clearUsed_13 : decode b_R_clearUsed 13 = .ok (.iconst 0, 1) := by decide +kernel
theorem d_R_clearUsed_14 : decode b_R_clearUsed 14 = .ok (.bastore, 1) := by decide +kernel
theorem d_R_clearUsed_15 : decode b_R_clearUsed 15 = .ok (.iinc 1 1, 3) := by decide +kernel
theorem d_R_clearUsed_18 : decode b_R_clearUsed 18 = .ok (.goto (-16), 3) := by decide +kernel
theorem d_R_clearUsed_21 : decode b_R_clearUsed 21 = .ok (.return_, 1) := by decide +kernel
theorem d_R_greatestUnused_0 : decode b_R_greatestUnused 0 = .ok (.iconst (-1), 1) := by decide +kernel
theorem d_R_greatestUnused_1 : decode b_R_greatestUnused 1 = .ok (.istore_n 2, 1) := by decide +kernel
theorem d_R_greatestUnused_2 : decode b_R_greatestUnused 2 = .ok (.iconst 0, 1) := by decide +kernel
theorem d_R_greatestUnused_3 : decode b_R_greatestUnused 3 = .ok (.istore_n 3, 1) := by decide +kernel
theorem d_R_greatestUnused_4 : decode b_R_greatestUnused 4 = .ok (.iload_n 3, 1) := by decide +kernel
theorem d_R_greatestUnused_5 : decode b_R_greatestUnused 5 = .ok (.bipush 32, 2) := by decide +kernel
theorem d_R_greatestUnused_7 : decode b_R_greatestUnused 7 = .ok (.if_icmp .ge 49, 3) := by decide +kernel
theorem d_R_greatestUnused_10 : decode b_R_greatestUnused 10 = .ok (.aload_n 0, 1) := by decide +kernel
theorem d_R_greatestUnused_11 : decode b_R_greatestUnused 11 = .ok (.getfield 66, 3) := by decide +kernel
theorem d_R_greatestUnused_14 : decode b_R_greatestUnused 14 = .ok (.iload_n 3, 1) := by decide +kernel
theorem d_R_greatestUnused_15 : decode b_R_greatestUnused 15 = .ok (.baload, 1) := by decide +kernel
theorem d_R_greatestUnused_16 : decode b_R_greatestUnused 16 = .ok (.ifCond .ne 34, 3) := by decide +kernel
theorem d_R_greatestUnused_19 : decode b_R_greatestUnused 19 = .ok (.iload_n 2, 1) := by decide +kernel
theorem d_R_greatestUnused_20 : decode b_R_greatestUnused 20 = .ok (.ifCond .lt 28, 3) := by decide +kernel
theorem d_R_greatestUnused_23 : decode b_R_greatestUnused 23 = .ok (.aload_n 0, 1) := by decide +kernel
theorem d_R_greatestUnused_24 : decode b_R_greatestUnused 24 = .ok (.getfield 60, 3) := by decide +kernel
theorem d_R_greatestUnused_27 : decode b_R_greatestUnused 27 = .ok (.bipush 32, 2) := by decide +kernel
theorem d_R_greatestUnused_29 : decode b_R_greatestUnused 29 = .ok (.iload_n 1, 1) := by decide +kernel
theorem d_R_greatestUnused_30 : decode b_R_greatestUnused 30 = .ok (.imul, 1) := by decide +kernel
theorem d_R_greatestUnused_31 : decode b_R_greatestUnused 31 = .ok (.iload_n 3, 1) := by decide +kernel
theorem d_R_greatestUnused_32 : decode b_R_greatestUnused 32 = .ok (.iadd, 1) := by decide +kernel
theorem d_R_greatestUnused_33 : decode b_R_greatestUnused 33 = .ok (.iaload, 1) := by decide +kernel
theorem d_R_greatestUnused_34 : decode b_R_greatestUnused 34 = .ok (.aload_n 0, 1) := by decide +kernel
theorem d_R_greatestUnused_35 : decode b_R_greatestUnused 35 = .ok (.getfield 60, 3) := by decide +kernel
theorem d_R_greatestUnused_38 : decode b_R_greatestUnused 38 = .ok (.bipush 32, 2) := by decide +kernel
theorem d_R_greatestUnused_40 : decode b_R_greatestUnused 40 = .ok (.iload_n 1, 1) := by decide +kernel
theorem d_R_greatestUnused_41 : decode b_R_greatestUnused 41 = .ok (.imul, 1) := by decide +kernel
theorem d_R_greatestUnused_42 : decode b_R_greatestUnused 42 = .ok (.iload_n 2, 1) := by decide +kernel
theorem d_R_greatestUnused_43 : decode b_R_greatestUnused 43 = .ok (.iadd, 1) := by decide +kernel
theorem d_R_greatestUnused_44 : decode b_R_greatestUnused 44 = .ok (.iaload, 1) := by decide +kernel
theorem d_R_greatestUnused_45 : decode b_R_greatestUnused 45 = .ok (.if_icmp .le 5, 3) := by decide +kernel
theorem d_R_greatestUnused_48 : decode b_R_greatestUnused 48 = .ok (.iload_n 3, 1) := by decide +kernel
theorem d_R_greatestUnused_49 : decode b_R_greatestUnused 49 = .ok (.istore_n 2, 1) := by decide +kernel
theorem d_R_greatestUnused_50 : decode b_R_greatestUnused 50 = .ok (.iinc 3 1, 3) := by decide +kernel
theorem d_R_greatestUnused_53 : decode b_R_greatestUnused 53 = .ok (.goto (-49), 3) := by decide +kernel
theorem d_R_greatestUnused_56 : decode b_R_greatestUnused 56 = .ok (.iload_n 2, 1) := by decide +kernel
theorem d_R_greatestUnused_57 : decode b_R_greatestUnused 57 = .ok (.ireturn, 1) := by decide +kernel
theorem d_R_compress_0 : decode b_R_compress 0 = .ok (.aload_n 0, 1) := by decide +kernel
theorem d_R_compress_1 : decode b_R_compress 1 = .ok (.getfield 57, 3) := by decide +kernel
theorem d_R_compress_4 : decode b_R_compress 4 = .ok (.iload_n 1, 1) := by decide +kernel
theorem d_R_compress_5 : decode b_R_compress 5 = .ok (.iaload, 1) := by decide +kernel
theorem d_R_compress_6 : decode b_R_compress 6 = .ok (.aload_n 0, 1) := by decide +kernel
theorem d_R_compress_7 : decode b_R_compress 7 = .ok (.getfield 72, 3) := by decide +kernel
theorem d_R_compress_10 : decode b_R_compress 10 = .ok (.idiv, 1) := by decide +kernel
theorem d_R_compress_11 : decode b_R_compress 11 = .ok (.istore_n 2, 1) := by decide +kernel
theorem d_R_compress_12 : decode b_R_compress 12 = .ok (.iconst 1, 1) := by decide +kernel
theorem d_R_compress_13 : decode b_R_compress 13 = .ok (.istore_n 3, 1) := by decide +kernel
theorem d_R_compress_14 : decode b_R_compress 14 = .ok (.iconst 0, 1) := by decide +kernel
theorem d_R_compress_15 : decode b_R_compress 15 = .ok (.istore 4, 2) := by decide +kernel
theorem d_R_compress_17 : decode b_R_compress 17 = .ok (.iload 4, 2) := by decide +kernel
theorem d_R_compress_19 : decode b_R_compress 19 = .ok (.sipush 4000, 3) := by decide +kernel
theorem d_R_compress_22 : decode b_R_compress 22 = .ok (.if_icmp .ge 126, 3) := by decide +kernel
theorem d_R_compress_25 : decode b_R_compress 25 = .ok (.iload_n 3, 1) := by decide +kernel
theorem d_R_compress_26 : decode b_R_compress 26 = .ok (.ifCond .eq 122, 3) := by decide +kernel
theorem d_R_compress_29 : decode b_R_compress 29 = .ok (.iconst 0, 1) := by decide +kernel
theorem d_R_compress_30 : decode b_R_compress 30 = .ok (.istore_n 3, 1) := by decide +kernel
theorem d_R_compress_31 : decode b_R_compress 31 = .ok (.bipush 31, 2) := by decide +kernel
theorem d_R_compress_33 : decode b_R_compress 33 = .ok (.istore 5, 2) := by decide +kernel
theorem d_R_compress_35 : decode b_R_compress 35 = .ok (.iload 5, 2) := by decide +kernel
theorem d_R_compress_37 : decode b_R_compress 37 = .ok (.iconst 1, 1) := by decide +kernel
theorem d_R_compress_38 : decode b_R_compress 38 = .ok (.if_icmp .lt 104, 3) := by decide +kernel
theorem d_R_compress_41 : decode b_R_compress 41 = .ok (.bipush 64, 2) := by decide +kernel
theorem d_R_compress_43 : decode b_R_compress 43 = .ok (.iload_n 1, 1) := by decide +kernel
theorem d_R_compress_44 : decode b_R_compress 44 = .ok (.imul, 1) := by decide +kernel
theorem d_R_compress_45 : decode b_R_compress 45 = .ok (.iload 5, 2) := by decide +kernel
theorem d_R_compress_47 : decode b_R_compress 47 = .ok (.iadd, 1) := by decide +kernel
theorem d_R_compress_48 : decode b_R_compress 48 = .ok (.istore 6, 2) := by decide +kernel
theorem d_R_compress_50 : decode b_R_compress 50 = .ok (.bipush 64, 2) := by decide +kernel
theorem d_R_compress_52 : decode b_R_compress 52 = .ok (.iload_n 1, 1) := by decide +kernel
theorem d_R_compress_53 : decode b_R_compress 53 = .ok (.imul, 1) := by decide +kernel
theorem d_R_compress_54 : decode b_R_compress 54 = .ok (.iconst 2, 1) := by decide +kernel
theorem d_R_compress_55 : decode b_R_compress 55 = .ok (.iload 5, 2) := by decide +kernel
theorem d_R_compress_57 : decode b_R_compress 57 = .ok (.imul, 1) := by decide +kernel
theorem d_R_compress_58 : decode b_R_compress 58 = .ok (.iadd, 1) := by decide +kernel
theorem d_R_compress_59 : decode b_R_compress 59 = .ok (.istore 7, 2) := by decide +kernel
theorem d_R_compress_61 : decode b_R_compress 61 = .ok (.aload_n 0, 1) := by decide +kernel
theorem d_R_compress_62 : decode b_R_compress 62 = .ok (.getfield 63, 3) := by decide +kernel
theorem d_R_compress_65 : decode b_R_compress 65 = .ok (.iload 7, 2) := by decide +kernel
theorem d_R_compress_67 : decode b_R_compress 67 = .ok (.iaload, 1) := by decide +kernel
theorem d_R_compress_68 : decode b_R_compress 68 = .ok (.aload_n 0, 1) := by decide +kernel
theorem d_R_compress_69 : decode b_R_compress 69 = .ok (.getfield 63, 3) := by decide +kernel
theorem d_R_compress_72 : decode b_R_compress 72 = .ok (.iload 7, 2) := by decide +kernel
theorem d_R_compress_74 : decode b_R_compress 74 = .ok (.iconst 1, 1) := by decide +kernel
theorem d_R_compress_75 : decode b_R_compress 75 = .ok (.iadd, 1) := by decide +kernel
theorem d_R_compress_76 : decode b_R_compress 76 = .ok (.iaload, 1) := by decide +kernel
theorem d_R_compress_77 : decode b_R_compress 77 = .ok (.iadd, 1) := by decide +kernel
theorem d_R_compress_78 : decode b_R_compress 78 = .ok (.istore 8, 2) := by decide +kernel
theorem d_R_compress_80 : decode b_R_compress 80 = .ok (.iload 8, 2) := by decide +kernel
theorem d_R_compress_82 : decode b_R_compress 82 = .ok (.ifCond .le 54, 3) := by decide +kernel
theorem d_R_compress_85 : decode b_R_compress 85 = .ok (.aload_n 0, 1) := by decide +kernel
theorem d_R_compress_86 : decode b_R_compress 86 = .ok (.getfield 63, 3) := by decide +kernel
theorem d_R_compress_89 : decode b_R_compress 89 = .ok (.iload 6, 2) := by decide +kernel
theorem d_R_compress_91 : decode b_R_compress 91 = .ok (.iaload, 1) := by decide +kernel
theorem d_R_compress_92 : decode b_R_compress 92 = .ok (.iload 8, 2) := by decide +kernel
theorem d_R_compress_94 : decode b_R_compress 94 = .ok (.iadd, 1) := by decide +kernel
theorem d_R_compress_95 : decode b_R_compress 95 = .ok (.iload_n 2, 1) := by decide +kernel
theorem d_R_compress_96 : decode b_R_compress 96 = .ok (.if_icmp .gt 40, 3) := by decide +kernel
theorem d_R_compress_99 : decode b_R_compress 99 = .ok (.aload_n 0, 1) := by decide +kernel
theorem d_R_compress_100 : decode b_R_compress 100 = .ok (.getfield 63, 3) := by decide +kernel
theorem d_R_compress_103 : decode b_R_compress 103 = .ok (.iload 6, 2) := by decide +kernel
theorem d_R_compress_105 : decode b_R_compress 105 = .ok (.aload_n 0, 1) := by decide +kernel
theorem d_R_compress_106 : decode b_R_compress 106 = .ok (.getfield 63, 3) := by decide +kernel
theorem d_R_compress_109 : decode b_R_compress 109 = .ok (.iload 6, 2) := by decide +kernel
theorem d_R_compress_111 : decode b_R_compress 111 = .ok (.iaload, 1) := by decide +kernel
theorem d_R_compress_112 : decode b_R_compress 112 = .ok (.iload 8, 2) := by decide +kernel
theorem d_R_compress_114 : decode b_R_compress 114 = .ok (.iadd, 1) := by decide +kernel
theorem d_R_compress_115 : decode b_R_compress 115 = .ok (.iastore, 1) := by decide +kernel
theorem d_R_compress_116 : decode b_R_compress 116 = .ok (.aload_n 0, 1) := by decide +kernel
theorem d_R_compress_117 : decode b_R_compress 117 = .ok (.getfield 63, 3) := by decide +kernel
theorem d_R_compress_120 : decode b_R_compress 120 = .ok (.iload 7, 2) := by decide +kernel
theorem d_R_compress_122 : decode b_R_compress 122 = .ok (.iconst 0, 1) := by decide +kernel
theorem d_R_compress_123 : decode b_R_compress 123 = .ok (.iastore, 1) := by decide +kernel
theorem d_R_compress_124 : decode b_R_compress 124 = .ok (.aload_n 0, 1) := by decide +kernel
theorem d_R_compress_125 : decode b_R_compress 125 = .ok (.getfield 63, 3) := by decide +kernel
theorem d_R_compress_128 : decode b_R_compress 128 = .ok (.iload 7, 2) := by decide +kernel
theorem d_R_compress_130 : decode b_R_compress 130 = .ok (.iconst 1, 1) := by decide +kernel
theorem d_R_compress_131 : decode b_R_compress 131 = .ok (.iadd, 1) := by decide +kernel
theorem d_R_compress_132 : decode b_R_compress 132 = .ok (.iconst 0, 1) := by decide +kernel
theorem d_R_compress_133 : decode b_R_compress 133 = .ok (.iastore, 1) := by decide +kernel
theorem d_R_compress_134 : decode b_R_compress 134 = .ok (.iconst 1, 1) := by decide +kernel
theorem d_R_compress_135 : decode b_R_compress 135 = .ok (.istore_n 3, 1) := by decide +kernel
theorem d_R_compress_136 : decode b_R_compress 136 = .ok (.iinc 5 (-1), 3) := by decide +kernel
theorem d_R_compress_139 : decode b_R_compress 139 = .ok (.goto (-104), 3) := by decide +kernel
theorem d_R_compress_142 : decode b_R_compress 142 = .ok (.iinc 4 1, 3) := by decide +kernel
theorem d_R_compress_145 : decode b_R_compress 145 = .ok (.goto (-128), 3) := by decide +kernel
theorem d_R_compress_148 : decode b_R_compress 148 = .ok (.return_, 1) := by decide +kernel
theorem d_R_total_0 : decode b_R_total 0 = .ok (.aload_n 0, 1) := by decide +kernel
theorem d_R_total_1 : decode b_R_total 1 = .ok (.iload_n 1, 1) := by decide +kernel
theorem d_R_total_2 : decode b_R_total 2 = .ok (.invokevirtual 75, 3) := by decide +kernel
theorem d_R_total_5 : decode b_R_total 5 = .ok (.ifCond .ne 5, 3) := by decide +kernel
theorem d_R_total_8 : decode b_R_total 8 = .ok (.iconst (-1), 1) := by decide +kernel
theorem d_R_total_9 : decode b_R_total 9 = .ok (.ireturn, 1) := by decide +kernel
theorem d_R_total_10 : decode b_R_total 10 = .ok (.aload_n 0, 1) := by decide +kernel
theorem d_R_total_11 : decode b_R_total 11 = .ok (.iload_n 1, 1) := by decide +kernel
theorem d_R_total_12 : decode b_R_total 12 = .ok (.invokevirtual 90, 3) := by decide +kernel
theorem d_R_total_15 : decode b_R_total 15 = .ok (.iconst 0, 1) := by decide +kernel
theorem d_R_total_16 : decode b_R_total 16 = .ok (.istore_n 2, 1) := by decide +kernel
theorem d_R_total_17 : decode b_R_total 17 = .ok (.iconst 0, 1) := by decide +kernel
theorem d_R_total_18 : decode b_R_total 18 = .ok (.istore_n 3, 1) := by decide +kernel
theorem d_R_total_19 : decode b_R_total 19 = .ok (.iload_n 3, 1) := by decide +kernel
theorem d_R_total_20 : decode b_R_total 20 = .ok (.bipush 12, 2) := by decide +kernel
theorem d_R_total_22 : decode b_R_total 22 = .ok (.if_icmp .ge 18, 3) := by decide +kernel
theorem d_R_total_25 : decode b_R_total 25 = .ok (.iload_n 2, 1) := by decide +kernel
theorem d_R_total_26 : decode b_R_total 26 = .ok (.aload_n 0, 1) := by decide +kernel
theorem d_R_total_27 : decode b_R_total 27 = .ok (.getfield 54, 3) := by decide +kernel
theorem d_R_total_30 : decode b_R_total 30 = .ok (.iload_n 3, 1) := by decide +kernel
theorem d_R_total_31 : decode b_R_total 31 = .ok (.iaload, 1) := by decide +kernel
theorem d_R_total_32 : decode b_R_total 32 = .ok (.iadd, 1) := by decide +kernel
theorem d_R_total_33 : decode b_R_total 33 = .ok (.istore_n 2, 1) := by decide +kernel
theorem d_R_total_34 : decode b_R_total 34 = .ok (.iinc 3 1, 3) := by decide +kernel
theorem d_R_total_37 : decode b_R_total 37 = .ok (.goto (-18), 3) := by decide +kernel
theorem d_R_total_40 : decode b_R_total 40 = .ok (.iload_n 2, 1) := by decide +kernel
theorem d_R_total_41 : decode b_R_total 41 = .ok (.ireturn, 1) := by decide +kernel
theorem d_R_sum_0 : decode b_R_sum 0 = .ok (.aload_n 0, 1) := by decide +kernel
theorem d_R_sum_1 : decode b_R_sum 1 = .ok (.iload_n 1, 1) := by decide +kernel
theorem d_R_sum_2 : decode b_R_sum 2 = .ok (.invokevirtual 75, 3) := by decide +kernel
theorem d_R_sum_5 : decode b_R_sum 5 = .ok (.ifCond .ne 7, 3) := by decide +kernel
theorem d_R_sum_8 : decode b_R_sum 8 = .ok (.ldc2_w 125, 3) := by decide +kernel
theorem d_R_sum_11 : decode b_R_sum 11 = .ok (.lreturn, 1) := by decide +kernel
theorem d_R_sum_12 : decode b_R_sum 12 = .ok (.aload_n 0, 1) := by decide +kernel
theorem d_R_sum_13 : decode b_R_sum 13 = .ok (.iload_n 1, 1) := by decide +kernel
theorem d_R_sum_14 : decode b_R_sum 14 = .ok (.invokevirtual 90, 3) := by decide +kernel
theorem d_R_sum_17 : decode b_R_sum 17 = .ok (.lconst 0, 1) := by decide +kernel
theorem d_R_sum_18 : decode b_R_sum 18 = .ok (.lstore_n 2, 1) := by decide +kernel
theorem d_R_sum_19 : decode b_R_sum 19 = .ok (.iconst 0, 1) := by decide +kernel
theorem d_R_sum_20 : decode b_R_sum 20 = .ok (.istore 4, 2) := by decide +kernel
theorem d_R_sum_22 : decode b_R_sum 22 = .ok (.iload 4, 2) := by decide +kernel
theorem d_R_sum_24 : decode b_R_sum 24 = .ok (.bipush 12, 2) := by decide +kernel
theorem d_R_sum_26 : decode b_R_sum 26 = .ok (.if_icmp .ge 47, 3) := by decide +kernel
theorem d_R_sum_29 : decode b_R_sum 29 = .ok (.iconst 0, 1) := by decide +kernel
theorem d_R_sum_30 : decode b_R_sum 30 = .ok (.istore 5, 2) := by decide +kernel
theorem d_R_sum_32 : decode b_R_sum 32 = .ok (.iload 5, 2) := by decide +kernel
theorem d_R_sum_34 : decode b_R_sum 34 = .ok (.aload_n 0, 1) := by decide +kernel
theorem d_R_sum_35 : decode b_R_sum 35 = .ok (.getfield 54, 3) := by decide +kernel
theorem d_R_sum_38 : decode b_R_sum 38 = .ok (.iload 4, 2) := by decide +kernel
theorem d_R_sum_40 : decode b_R_sum 40 = .ok (.iaload, 1) := by decide +kernel
theorem d_R_sum_41 : decode b_R_sum 41 = .ok (.if_icmp .ge 26, 3) := by decide +kernel
theorem d_R_sum_44 : decode b_R_sum 44 = .ok (.lload_n 2, 1) := by decide +kernel
theorem d_R_sum_45 : decode b_R_sum 45 = .ok (.aload_n 0, 1) := by decide +kernel
theorem d_R_sum_46 : decode b_R_sum 46 = .ok (.getfield 24, 3) := by decide +kernel
theorem d_R_sum_49 : decode b_R_sum 49 = .ok (.bipush 48, 2) := by decide +kernel
theorem d_R_sum_51 : decode b_R_sum 51 = .ok (.iload 4, 2) := by decide +kernel
theorem d_R_sum_53 : decode b_R_sum 53 = .ok (.imul, 1) := by decide +kernel
theorem d_R_sum_54 : decode b_R_sum 54 = .ok (.iload 5, 2) := by decide +kernel
theorem d_R_sum_56 : decode b_R_sum 56 = .ok (.iadd, 1) := by decide +kernel
theorem d_R_sum_57 : decode b_R_sum 57 = .ok (.iaload, 1) := by decide +kernel
theorem d_R_sum_58 : decode b_R_sum 58 = .ok (.i2l, 1) := by decide +kernel
theorem d_R_sum_59 : decode b_R_sum 59 = .ok (.ladd, 1) := by decide +kernel
theorem d_R_sum_60 : decode b_R_sum 60 = .ok (.lstore_n 2, 1) := by decide +kernel
theorem d_R_sum_61 : decode b_R_sum 61 = .ok (.iinc 5 1, 3) := by decide +kernel
theorem d_R_sum_64 : decode b_R_sum 64 = .ok (.goto (-32), 3) := by decide +kernel
theorem d_R_sum_67 : decode b_R_sum 67 = .ok (.iinc 4 1, 3) := by decide +kernel
theorem d_R_sum_70 : decode b_R_sum 70 = .ok (.goto (-48), 3) := by decide +kernel
theorem d_R_sum_73 : decode b_R_sum 73 = .ok (.lload_n 2, 1) := by decide +kernel
theorem d_R_sum_74 : decode b_R_sum 74 = .ok (.lreturn, 1) := by decide +kernel
theorem d_R_extreme_0 : decode b_R_extreme 0 = .ok (.aload_n 0, 1) := by decide +kernel
theorem d_R_extreme_1 : decode b_R_extreme 1 = .ok (.iload_n 1, 1) := by decide +kernel
theorem d_R_extreme_2 : decode b_R_extreme 2 = .ok (.invokevirtual 75, 3) := by decide +kernel
theorem d_R_extreme_5 : decode b_R_extreme 5 = .ok (.ifCond .ne 5, 3) := by decide +kernel
theorem d_R_extreme_8 : decode b_R_extreme 8 = .ok (.iconst (-1), 1) := by decide +kernel
theorem d_R_extreme_9 : decode b_R_extreme 9 = .ok (.ireturn, 1) := by decide +kernel
theorem d_R_extreme_10 : decode b_R_extreme 10 = .ok (.aload_n 0, 1) := by decide +kernel
theorem d_R_extreme_11 : decode b_R_extreme 11 = .ok (.iload_n 1, 1) := by decide +kernel
theorem d_R_extreme_12 : decode b_R_extreme 12 = .ok (.invokevirtual 90, 3) := by decide +kernel
theorem d_R_extreme_15 : decode b_R_extreme 15 = .ok (.iconst (-1), 1) := by decide +kernel
theorem d_R_extreme_16 : decode b_R_extreme 16 = .ok (.istore_n 3, 1) := by decide +kernel
theorem d_R_extreme_17 : decode b_R_extreme 17 = .ok (.iconst 0, 1) := by decide +kernel
theorem d_R_extreme_18 : decode b_R_extreme 18 = .ok (.istore 4, 2) := by decide +kernel
theorem d_R_extreme_20 : decode b_R_extreme 20 = .ok (.iload 4, 2) := by decide +kernel
theorem d_R_extreme_22 : decode b_R_extreme 22 = .ok (.bipush 12, 2) := by decide +kernel
theorem d_R_extreme_24 : decode b_R_extreme 24 = .ok (.if_icmp .ge 75, 3) := by decide +kernel
theorem d_R_extreme_27 : decode b_R_extreme 27 = .ok (.iconst 0, 1) := by decide +kernel
theorem d_R_extreme_28 : decode b_R_extreme 28 = .ok (.istore 5, 2) := by decide +kernel
theorem d_R_extreme_30 : decode b_R_extreme 30 = .ok (.iload 5, 2) := by decide +kernel
theorem d_R_extreme_32 : decode b_R_extreme 32 = .ok (.aload_n 0, 1) := by decide +kernel
theorem d_R_extreme_33 : decode b_R_extreme 33 = .ok (.getfield 54, 3) := by decide +kernel
theorem d_R_extreme_36 : decode b_R_extreme 36 = .ok (.iload 4, 2) := by decide +kernel
theorem d_R_extreme_38 : decode b_R_extreme 38 = .ok (.iaload, 1) := by decide +kernel
theorem d_R_extreme_39 : decode b_R_extreme 39 = .ok (.if_icmp .ge 54, 3) := by decide +kernel
theorem d_R_extreme_42 : decode b_R_extreme 42 = .ok (.aload_n 0, 1) := by decide +kernel
theorem d_R_extreme_43 : decode b_R_extreme 43 = .ok (.getfield 24, 3) := by decide +kernel
theorem d_R_extreme_46 : decode b_R_extreme 46 = .ok (.bipush 48, 2) := by decide +kernel
theorem d_R_extreme_48 : decode b_R_extreme 48 = .ok (.iload 4, 2) := by decide +kernel
theorem d_R_extreme_50 : decode b_R_extreme 50 = .ok (.imul, 1) := by decide +kernel
theorem d_R_extreme_51 : decode b_R_extreme 51 = .ok (.iload 5, 2) := by decide +kernel
theorem d_R_extreme_53 : decode b_R_extreme 53 = .ok (.iadd, 1) := by decide +kernel
theorem d_R_extreme_54 : decode b_R_extreme 54 = .ok (.iaload, 1) := by decide +kernel
theorem d_R_extreme_55 : decode b_R_extreme 55 = .ok (.istore 6, 2) := by decide +kernel
theorem d_R_extreme_57 : decode b_R_extreme 57 = .ok (.iload_n 3, 1) := by decide +kernel
theorem d_R_extreme_58 : decode b_R_extreme 58 = .ok (.ifCond .lt 22, 3) := by decide +kernel
theorem d_R_extreme_61 : decode b_R_extreme 61 = .ok (.iload_n 2, 1) := by decide +kernel
theorem d_R_extreme_62 : decode b_R_extreme 62 = .ok (.ifCond .eq 12, 3) := by decide +kernel
theorem d_R_extreme_65 : decode b_R_extreme 65 = .ok (.iload 6, 2) := by decide +kernel
theorem d_R_extreme_67 : decode b_R_extreme 67 = .ok (.iload_n 3, 1) := by decide +kernel
theorem d_R_extreme_68 : decode b_R_extreme 68 = .ok (.if_icmp .le 17, 3) := by decide +kernel
theorem d_R_extreme_71 : decode b_R_extreme 71 = .ok (.goto 9, 3) := by decide +kernel
theorem d_R_extreme_74 : decode b_R_extreme 74 = .ok (.iload 6, 2) := by decide +kernel
theorem d_R_extreme_76 : decode b_R_extreme 76 = .ok (.iload_n 3, 1) := by decide +kernel
theorem d_R_extreme_77 : decode b_R_extreme 77 = .ok (.if_icmp .ge 8, 3) := by decide +kernel
theorem d_R_extreme_80 : decode b_R_extreme 80 = .ok (.iload 6, 2) := by decide +kernel
theorem d_R_extreme_82 : decode b_R_extreme 82 = .ok (.goto 4, 3) := by decide +kernel
theorem d_R_extreme_85 : decode b_R_extreme 85 = .ok (.iload_n 3, 1) := by decide +kernel
theorem d_R_extreme_86 : decode b_R_extreme 86 = .ok (.istore_n 3, 1) := by decide +kernel
theorem d_R_extreme_87 : decode b_R_extreme 87 = .ok (.iinc 5 1, 3) := by decide +kernel
theorem d_R_extreme_90 : decode b_R_extreme 90 = .ok (.goto (-60), 3) := by decide +kernel
theorem d_R_extreme_93 : decode b_R_extreme 93 = .ok (.iinc 4 1, 3) := by decide +kernel
theorem d_R_extreme_96 : decode b_R_extreme 96 = .ok (.goto (-76), 3) := by decide +kernel
theorem d_R_extreme_99 : decode b_R_extreme 99 = .ok (.iload_n 3, 1) := by decide +kernel
theorem d_R_extreme_100 : decode b_R_extreme 100 = .ok (.ireturn, 1) := by decide +kernel
theorem d_R_covered_0 : decode b_R_covered 0 = .ok (.aload_n 0, 1) := by decide +kernel
theorem d_R_covered_1 : decode b_R_covered 1 = .ok (.iload_n 1, 1) := by decide +kernel
theorem d_R_covered_2 : decode b_R_covered 2 = .ok (.invokevirtual 75, 3) := by decide +kernel
theorem d_R_covered_5 : decode b_R_covered 5 = .ok (.ifCond .eq 11, 3) := by decide +kernel
theorem d_R_covered_8 : decode b_R_covered 8 = .ok (.aload_n 0, 1) := by decide +kernel
theorem d_R_covered_9 : decode b_R_covered 9 = .ok (.iload_n 2, 1) := by decide +kernel
theorem d_R_covered_10 : decode b_R_covered 10 = .ok (.invokevirtual 79, 3) := by decide +kernel
theorem d_R_covered_13 : decode b_R_covered 13 = .ok (.ifCond .ne 5, 3) := by decide +kernel
theorem d_R_covered_16 : decode b_R_covered 16 = .ok (.iconst (-1), 1) := by decide +kernel
theorem d_R_covered_17 : decode b_R_covered 17 = .ok (.ireturn, 1) := by decide +kernel
theorem d_R_covered_18 : decode b_R_covered 18 = .ok (.aload_n 0, 1) := by decide +kernel
theorem d_R_covered_19 : decode b_R_covered 19 = .ok (.iload_n 1, 1) := by decide +kernel
theorem d_R_covered_20 : decode b_R_covered 20 = .ok (.invokevirtual 90, 3) := by decide +kernel
theorem d_R_covered_23 : decode b_R_covered 23 = .ok (.aload_n 0, 1) := by decide +kernel
theorem d_R_covered_24 : decode b_R_covered 24 = .ok (.getfield 54, 3) := by decide +kernel
theorem d_R_covered_27 : decode b_R_covered 27 = .ok (.iload_n 2, 1) := by decide +kernel
theorem d_R_covered_28 : decode b_R_covered 28 = .ok (.iaload, 1) := by decide +kernel
theorem d_R_covered_29 : decode b_R_covered 29 = .ok (.ireturn, 1) := by decide +kernel
theorem d_R_estimate_0 : decode b_R_estimate 0 = .ok (.aload_n 0, 1) := by decide +kernel
theorem d_R_estimate_1 : decode b_R_estimate 1 = .ok (.iload_n 1, 1) := by decide +kernel
theorem d_R_estimate_2 : decode b_R_estimate 2 = .ok (.invokevirtual 75, 3) := by decide +kernel
theorem d_R_estimate_5 : decode b_R_estimate 5 = .ok (.ifCond .eq 13, 3) := by decide +kernel
theorem d_R_estimate_8 : decode b_R_estimate 8 = .ok (.iload_n 2, 1) := by decide +kernel
theorem d_R_estimate_9 : decode b_R_estimate 9 = .ok (.ifCond .lt 9, 3) := by decide +kernel
theorem d_R_estimate_12 : decode b_R_estimate 12 = .ok (.iload_n 2, 1) := by decide +kernel
theorem d_R_estimate_13 : decode b_R_estimate 13 = .ok (.bipush 31, 2) := by decide +kernel
theorem d_R_estimate_15 : decode b_R_estimate 15 = .ok (.if_icmp .le 5, 3) := by decide +kernel
theorem d_R_estimate_18 : decode b_R_estimate 18 = .ok (.iconst (-1), 1) := by decide +kernel
theorem d_R_estimate_19 : decode b_R_estimate 19 = .ok (.ireturn, 1) := by decide +kernel
theorem d_R_estimate_20 : decode b_R_estimate 20 = .ok (.aload_n 0, 1) := by decide +kernel
theorem d_R_estimate_21 : decode b_R_estimate 21 = .ok (.iload_n 1, 1) := by decide +kernel
theorem d_R_estimate_22 : decode b_R_estimate 22 = .ok (.invokevirtual 127, 3) := by decide +kernel
theorem d_R_estimate_25 : decode b_R_estimate 25 = .ok (.aload_n 0, 1) := by decide +kernel
theorem d_R_estimate_26 : decode b_R_estimate 26 = .ok (.getfield 60, 3) := by decide +kernel
theorem d_R_estimate_29 : decode b_R_estimate 29 = .ok (.bipush 32, 2) := by decide +kernel
theorem d_R_estimate_31 : decode b_R_estimate 31 = .ok (.iload_n 1, 1) := by decide +kernel
theorem d_R_estimate_32 : decode b_R_estimate 32 = .ok (.imul, 1) := by decide +kernel
theorem d_R_estimate_33 : decode b_R_estimate 33 = .ok (.iload_n 2, 1) := by decide +kernel
theorem d_R_estimate_34 : decode b_R_estimate 34 = .ok (.iadd, 1) := by decide +kernel
theorem d_R_estimate_35 : decode b_R_estimate 35 = .ok (.iaload, 1) := by decide +kernel
theorem d_R_estimate_36 : decode b_R_estimate 36 = .ok (.ireturn, 1) := by decide +kernel
theorem d_R_top_0 : decode b_R_top 0 = .ok (.aload_n 0, 1) := by decide +kernel
theorem d_R_top_1 : decode b_R_top 1 = .ok (.iload_n 1, 1) := by decide +kernel
theorem d_R_top_2 : decode b_R_top 2 = .ok (.invokevirtual 75, 3) := by decide +kernel
theorem d_R_top_5 : decode b_R_top 5 = .ok (.ifCond .eq 7, 3) := by decide +kernel
theorem d_R_top_8 : decode b_R_top 8 = .ok (.iload_n 2, 1) := by decide +kernel
theorem d_R_top_9 : decode b_R_top 9 = .ok (.ifCond .ge 5, 3) := by decide +kernel
theorem d_R_top_12 : decode b_R_top 12 = .ok (.iconst (-1), 1) := by decide +kernel
theorem d_R_top_13 : decode b_R_top 13 = .ok (.ireturn, 1) := by decide +kernel
theorem d_R_top_14 : decode b_R_top 14 = .ok (.aload_n 0, 1) := by decide +kernel
theorem d_R_top_15 : decode b_R_top 15 = .ok (.iload_n 1, 1) := by decide +kernel
theorem d_R_top_16 : decode b_R_top 16 = .ok (.invokevirtual 127, 3) := by decide +kernel
theorem d_R_top_19 : decode b_R_top 19 = .ok (.iload_n 2, 1) := by decide +kernel
theorem d_R_top_20 : decode b_R_top 20 = .ok (.aload_n 0, 1) := by decide +kernel
theorem d_R_top_21 : decode b_R_top 21 = .ok (.iload_n 1, 1) := by decide +kernel
theorem d_R_top_22 : decode b_R_top 22 = .ok (.invokevirtual 110, 3) := by decide +kernel
theorem d_R_top_25 : decode b_R_top 25 = .ok (.if_icmp .lt 5, 3) := by decide +kernel
theorem d_R_top_28 : decode b_R_top 28 = .ok (.iconst (-1), 1) := by decide +kernel
theorem d_R_top_29 : decode b_R_top 29 = .ok (.ireturn, 1) := by decide +kernel
theorem d_R_top_30 : decode b_R_top 30 = .ok (.aload_n 0, 1) := by decide +kernel
theorem d_R_top_31 : decode b_R_top 31 = .ok (.invokevirtual 119, 3) := by decide +kernel
theorem d_R_top_34 : decode b_R_top 34 = .ok (.iconst (-1), 1) := by decide +kernel
theorem d_R_top_35 : decode b_R_top 35 = .ok (.istore_n 3, 1) := by decide +kernel
theorem d_R_top_36 : decode b_R_top 36 = .ok (.iconst 0, 1) := by decide +kernel
theorem d_R_top_37 : decode b_R_top 37 = .ok (.istore 4, 2) := by decide +kernel
theorem d_R_top_39 : decode b_R_top 39 = .ok (.iload 4, 2) := by decide +kernel
theorem d_R_top_41 : decode b_R_top 41 = .ok (.iload_n 2, 1) := by decide +kernel
theorem d_R_top_42 : decode b_R_top 42 = .ok (.if_icmp .gt 22, 3) := by decide +kernel
theorem d_R_top_45 : decode b_R_top 45 = .ok (.aload_n 0, 1) := by decide +kernel
theorem d_R_top_46 : decode b_R_top 46 = .ok (.iload_n 1, 1) := by decide +kernel
theorem d_R_top_47 : decode b_R_top 47 = .ok (.invokevirtual 122, 3) := by decide +kernel
theorem d_R_top_50 : decode b_R_top 50 = .ok (.istore_n 3, 1) := by decide +kernel
theorem d_R_top_51 : decode b_R_top 51 = .ok (.aload_n 0, 1) := by decide +kernel
theorem d_R_top_52 : decode b_R_top 52 = .ok (.getfield 66, 3) := by decide +kernel
theorem d_R_top_55 : decode b_R_top 55 = .ok (.iload_n 3, 1) := by decide +kernel
theorem d_R_top_56 : decode b_R_top 56 = .ok (.iconst 1, 1) := by decide +kernel
theorem d_R_top_57 : decode b_R_top 57 = .ok (.bastore, 1) := by decide +kernel
theorem d_R_top_58 : decode b_R_top 58 = .ok (.iinc 4 1, 3) := by decide +kernel
theorem d_R_top_61 : decode b_R_top 61 = .ok (.goto (-22), 3) := by decide +kernel
theorem d_R_top_64 : decode b_R_top 64 = .ok (.iload_n 3, 1) := by decide +kernel
theorem d_R_top_65 : decode b_R_top 65 = .ok (.ireturn, 1) := by decide +kernel
theorem d_R_digestSize_0 : decode b_R_digestSize 0 = .ok (.aload_n 0, 1) := by decide +kernel
theorem d_R_digestSize_1 : decode b_R_digestSize 1 = .ok (.iload_n 1, 1) := by decide +kernel
theorem d_R_digestSize_2 : decode b_R_digestSize 2 = .ok (.invokevirtual 75, 3) := by decide +kernel
theorem d_R_digestSize_5 : decode b_R_digestSize 5 = .ok (.ifCond .ne 5, 3) := by decide +kernel
theorem d_R_digestSize_8 : decode b_R_digestSize 8 = .ok (.iconst (-1), 1) := by decide +kernel
theorem d_R_digestSize_9 : decode b_R_digestSize 9 = .ok (.ireturn, 1) := by decide +kernel
theorem d_R_digestSize_10 : decode b_R_digestSize 10 = .ok (.aload_n 0, 1) := by decide +kernel
theorem d_R_digestSize_11 : decode b_R_digestSize 11 = .ok (.iload_n 1, 1) := by decide +kernel
theorem d_R_digestSize_12 : decode b_R_digestSize 12 = .ok (.invokevirtual 127, 3) := by decide +kernel
theorem d_R_digestSize_15 : decode b_R_digestSize 15 = .ok (.iconst 0, 1) := by decide +kernel
theorem d_R_digestSize_16 : decode b_R_digestSize 16 = .ok (.istore_n 2, 1) := by decide +kernel
theorem d_R_digestSize_17 : decode b_R_digestSize 17 = .ok (.iconst 1, 1) := by decide +kernel
theorem d_R_digestSize_18 : decode b_R_digestSize 18 = .ok (.istore_n 3, 1) := by decide +kernel
theorem d_R_digestSize_19 : decode b_R_digestSize 19 = .ok (.iload_n 3, 1) := by decide +kernel
theorem d_R_digestSize_20 : decode b_R_digestSize 20 = .ok (.bipush 64, 2) := by decide +kernel
theorem d_R_digestSize_22 : decode b_R_digestSize 22 = .ok (.if_icmp .ge 31, 3) := by decide +kernel
theorem d_R_digestSize_25 : decode b_R_digestSize 25 = .ok (.aload_n 0, 1) := by decide +kernel
theorem d_R_digestSize_26 : decode b_R_digestSize 26 = .ok (.getfield 63, 3) := by decide +kernel
theorem d_R_digestSize_29 : decode b_R_digestSize 29 = .ok (.bipush 64, 2) := by decide +kernel
theorem d_R_digestSize_31 : decode b_R_digestSize 31 = .ok (.iload_n 1, 1) := by decide +kernel
theorem d_R_digestSize_32 : decode b_R_digestSize 32 = .ok (.imul, 1) := by decide +kernel
theorem d_R_digestSize_33 : decode b_R_digestSize 33 = .ok (.iload_n 3, 1) := by decide +kernel
theorem d_R_digestSize_34 : decode b_R_digestSize 34 = .ok (.iadd, 1) := by decide +kernel
theorem d_R_digestSize_35 : decode b_R_digestSize 35 = .ok (.iaload, 1) := by decide +kernel
theorem d_R_digestSize_36 : decode b_R_digestSize 36 = .ok (.ifCond .le 9, 3) := by decide +kernel
theorem d_R_digestSize_39 : decode b_R_digestSize 39 = .ok (.iload_n 2, 1) := by decide +kernel
theorem d_R_digestSize_40 : decode b_R_digestSize 40 = .ok (.iconst 1, 1) := by decide +kernel
theorem d_R_digestSize_41 : decode b_R_digestSize 41 = .ok (.iadd, 1) := by decide +kernel
theorem d_R_digestSize_42 : decode b_R_digestSize 42 = .ok (.goto 4, 3) := by decide +kernel
theorem d_R_digestSize_45 : decode b_R_digestSize 45 = .ok (.iload_n 2, 1) := by decide +kernel
theorem d_R_digestSize_46 : decode b_R_digestSize 46 = .ok (.istore_n 2, 1) := by decide +kernel
theorem d_R_digestSize_47 : decode b_R_digestSize 47 = .ok (.iinc 3 1, 3) := by decide +kernel
theorem d_R_digestSize_50 : decode b_R_digestSize 50 = .ok (.goto (-31), 3) := by decide +kernel
theorem d_R_digestSize_53 : decode b_R_digestSize 53 = .ok (.iload_n 2, 1) := by decide +kernel
theorem d_R_digestSize_54 : decode b_R_digestSize 54 = .ok (.ireturn, 1) := by decide +kernel
theorem d_R_width_0 : decode b_R_width 0 = .ok (.iload_n 0, 1) := by decide +kernel
theorem d_R_width_1 : decode b_R_width 1 = .ok (.bipush 32, 2) := by decide +kernel
theorem d_R_width_3 : decode b_R_width 3 = .ok (.if_icmp .lt 7, 3) := by decide +kernel
theorem d_R_width_6 : decode b_R_width 6 = .ok (.iconst 1, 1) := by decide +kernel
theorem d_R_width_7 : decode b_R_width 7 = .ok (.goto 45, 3) := by decide +kernel
theorem d_R_width_10 : decode b_R_width 10 = .ok (.iload_n 0, 1) := by decide +kernel
theorem d_R_width_11 : decode b_R_width 11 = .ok (.bipush 16, 2) := by decide +kernel
theorem d_R_width_13 : decode b_R_width 13 = .ok (.if_icmp .lt 7, 3) := by decide +kernel
theorem d_R_width_16 : decode b_R_width 16 = .ok (.iconst 2, 1) := by decide +kernel
theorem d_R_width_17 : decode b_R_width 17 = .ok (.goto 35, 3) := by decide +kernel
theorem d_R_width_20 : decode b_R_width 20 = .ok (.iload_n 0, 1) := by decide +kernel
theorem d_R_width_21 : decode b_R_width 21 = .ok (.bipush 8, 2) := by decide +kernel
theorem d_R_width_23 : decode b_R_width 23 = .ok (.if_icmp .lt 7, 3) := by decide +kernel
theorem d_R_width_26 : decode b_R_width 26 = .ok (.iconst 4, 1) := by decide +kernel
theorem d_R_width_27 : decode b_R_width 27 = .ok (.goto 25, 3) := by decide +kernel
theorem d_R_width_30 : decode b_R_width 30 = .ok (.iload_n 0, 1) := by decide +kernel
theorem d_R_width_31 : decode b_R_width 31 = .ok (.iconst 4, 1) := by decide +kernel
theorem d_R_width_32 : decode b_R_width 32 = .ok (.if_icmp .lt 8, 3) := by decide +kernel
theorem d_R_width_35 : decode b_R_width 35 = .ok (.bipush 8, 2) := by decide +kernel
theorem d_R_width_37 : decode b_R_width 37 = .ok (.goto 15, 3) := by decide +kernel
theorem d_R_width_40 : decode b_R_width 40 = .ok (.iload_n 0, 1) := by decide +kernel
theorem d_R_width_41 : decode b_R_width 41 = .ok (.iconst 2, 1) := by decide +kernel
theorem d_R_width_42 : decode b_R_width 42 = .ok (.if_icmp .lt 8, 3) := by decide +kernel
theorem d_R_width_45 : decode b_R_width 45 = .ok (.bipush 16, 2) := by decide +kernel
theorem d_R_width_47 : decode b_R_width 47 = .ok (.goto 5, 3) := by decide +kernel
theorem d_R_width_50 : decode b_R_width 50 = .ok (.bipush 32, 2) := by decide +kernel
theorem d_R_width_52 : decode b_R_width 52 = .ok (.ireturn, 1) := by decide +kernel
theorem d_R_least_0 : decode b_R_least 0 = .ok (.iload_n 0, 1) := by decide +kernel
theorem d_R_least_1 : decode b_R_least 1 = .ok (.invokestatic 130, 3) := by decide +kernel
theorem d_R_least_4 : decode b_R_least 4 = .ok (.istore_n 1, 1) := by decide +kernel
theorem d_R_least_5 : decode b_R_least 5 = .ok (.iload_n 0, 1) := by decide +kernel
theorem d_R_least_6 : decode b_R_least 6 = .ok (.bipush 32, 2) := by decide +kernel
theorem d_R_least_8 : decode b_R_least 8 = .ok (.iload_n 1, 1) := by decide +kernel
theorem d_R_least_9 : decode b_R_least 9 = .ok (.idiv, 1) := by decide +kernel
theorem d_R_least_10 : decode b_R_least 10 = .ok (.isub, 1) := by decide +kernel
theorem d_R_least_11 : decode b_R_least 11 = .ok (.iload_n 1, 1) := by decide +kernel
theorem d_R_least_12 : decode b_R_least 12 = .ok (.imul, 1) := by decide +kernel
theorem d_R_least_13 : decode b_R_least 13 = .ok (.ireturn, 1) := by decide +kernel
theorem d_R_below_0 : decode b_R_below 0 = .ok (.aload_n 0, 1) := by decide +kernel
theorem d_R_below_1 : decode b_R_below 1 = .ok (.iload_n 1, 1) := by decide +kernel
theorem d_R_below_2 : decode b_R_below 2 = .ok (.invokevirtual 75, 3) := by decide +kernel
theorem d_R_below_5 : decode b_R_below 5 = .ok (.ifCond .eq 13, 3) := by decide +kernel
theorem d_R_below_8 : decode b_R_below 8 = .ok (.iload_n 2, 1) := by decide +kernel
theorem d_R_below_9 : decode b_R_below 9 = .ok (.ifCond .lt 9, 3) := by decide +kernel
theorem d_R_below_12 : decode b_R_below 12 = .ok (.iload_n 2, 1) := by decide +kernel
theorem d_R_below_13 : decode b_R_below 13 = .ok (.bipush 32, 2) := by decide +kernel
theorem d_R_below_15 : decode b_R_below 15 = .ok (.if_icmp .le 5, 3) := by decide +kernel
theorem d_R_below_18 : decode b_R_below 18 = .ok (.iconst (-1), 1) := by decide +kernel
theorem d_R_below_19 : decode b_R_below 19 = .ok (.ireturn, 1) := by decide +kernel
theorem d_R_below_20 : decode b_R_below 20 = .ok (.aload_n 0, 1) := by decide +kernel
theorem d_R_below_21 : decode b_R_below 21 = .ok (.iload_n 1, 1) := by decide +kernel
theorem d_R_below_22 : decode b_R_below 22 = .ok (.invokevirtual 127, 3) := by decide +kernel
theorem d_R_below_25 : decode b_R_below 25 = .ok (.iconst 0, 1) := by decide +kernel
theorem d_R_below_26 : decode b_R_below 26 = .ok (.istore 4, 2) := by decide +kernel
theorem d_R_below_28 : decode b_R_below 28 = .ok (.iconst 1, 1) := by decide +kernel
theorem d_R_below_29 : decode b_R_below 29 = .ok (.istore 5, 2) := by decide +kernel
theorem d_R_below_31 : decode b_R_below 31 = .ok (.iload 5, 2) := by decide +kernel
theorem d_R_below_33 : decode b_R_below 33 = .ok (.bipush 64, 2) := by decide +kernel
theorem d_R_below_35 : decode b_R_below 35 = .ok (.if_icmp .ge 86, 3) := by decide +kernel
theorem d_R_below_38 : decode b_R_below 38 = .ok (.iload 5, 2) := by decide +kernel
theorem d_R_below_40 : decode b_R_below 40 = .ok (.invokestatic 130, 3) := by decide +kernel
theorem d_R_below_43 : decode b_R_below 43 = .ok (.istore 6, 2) := by decide +kernel
theorem d_R_below_45 : decode b_R_below 45 = .ok (.iload 5, 2) := by decide +kernel
theorem d_R_below_47 : decode b_R_below 47 = .ok (.invokestatic 133, 3) := by decide +kernel
theorem d_R_below_50 : decode b_R_below 50 = .ok (.istore 7, 2) := by decide +kernel
theorem d_R_below_52 : decode b_R_below 52 = .ok (.iload_n 3, 1) := by decide +kernel
theorem d_R_below_53 : decode b_R_below 53 = .ok (.ifCond .eq 17, 3) := by decide +kernel
theorem d_R_below_56 : decode b_R_below 56 = .ok (.iload 7, 2) := by decide +kernel
theorem d_R_below_58 : decode b_R_below 58 = .ok (.iload_n 2, 1) := by decide +kernel
theorem d_R_below_59 : decode b_R_below 59 = .ok (.if_icmp .ge 7, 3) := by decide +kernel
theorem d_R_below_62 : decode b_R_below 62 = .ok (.iconst 1, 1) := by decide +kernel
theorem d_R_below_63 : decode b_R_below 63 = .ok (.goto 23, 3) := by decide +kernel
theorem d_R_below_66 : decode b_R_below 66 = .ok (.iconst 0, 1) := by decide +kernel
theorem d_R_below_67 : decode b_R_below 67 = .ok (.goto 19, 3) := by decide +kernel
theorem d_R_below_70 : decode b_R_below 70 = .ok (.iload 7, 2) := by decide +kernel
theorem d_R_below_72 : decode b_R_below 72 = .ok (.iload 6, 2) := by decide +kernel
theorem d_R_below_74 : decode b_R_below 74 = .ok (.iadd, 1) := by decide +kernel
theorem d_R_below_75 : decode b_R_below 75 = .ok (.iconst 1, 1) := by decide +kernel
theorem d_R_below_76 : decode b_R_below 76 = .ok (.isub, 1) := by decide +kernel
theorem d_R_below_77 : decode b_R_below 77 = .ok (.iload_n 2, 1) := by decide +kernel
theorem d_R_below_78 : decode b_R_below 78 = .ok (.if_icmp .ge 7, 3) := by decide +kernel
theorem d_R_below_81 : decode b_R_below 81 = .ok (.iconst 1, 1) := by decide +kernel
theorem d_R_below_82 : decode b_R_below 82 = .ok (.goto 4, 3) := by decide +kernel
theorem d_R_below_85 : decode b_R_below 85 = .ok (.iconst 0, 1) := by decide +kernel
theorem d_R_below_86 : decode b_R_below 86 = .ok (.istore 8, 2) := by decide +kernel
theorem d_R_below_88 : decode b_R_below 88 = .ok (.iload 8, 2) := by decide +kernel
theorem d_R_below_90 : decode b_R_below 90 = .ok (.ifCond .eq 21, 3) := by decide +kernel
theorem d_R_below_93 : decode b_R_below 93 = .ok (.iload 4, 2) := by decide +kernel
theorem d_R_below_95 : decode b_R_below 95 = .ok (.aload_n 0, 1) := by decide +kernel
theorem d_R_below_96 : decode b_R_below 96 = .ok (.getfield 63, 3) := by decide +kernel
theorem d_R_below_99 : decode b_R_below 99 = .ok (.bipush 64, 2) := by decide +kernel
theorem d_R_below_101 : decode b_R_below 101 = .ok (.iload_n 1, 1) := by decide +kernel
theorem d_R_below_102 : decode b_R_below 102 = .ok (.imul, 1) := by decide +kernel
theorem d_R_below_103 : decode b_R_below 103 = .ok (.iload 5, 2) := by decide +kernel
theorem d_R_below_105 : decode b_R_below 105 = .ok (.iadd, 1) := by decide +kernel
theorem d_R_below_106 : decode b_R_below 106 = .ok (.iaload, 1) := by decide +kernel
theorem d_R_below_107 : decode b_R_below 107 = .ok (.iadd, 1) := by decide +kernel
theorem d_R_below_108 : decode b_R_below 108 = .ok (.goto 5, 3) := by decide +kernel
theorem d_R_below_111 : decode b_R_below 111 = .ok (.iload 4, 2) := by decide +kernel
theorem d_R_below_113 : decode b_R_below 113 = .ok (.istore 4, 2) := by decide +kernel
theorem d_R_below_115 : decode b_R_below 115 = .ok (.iinc 5 1, 3) := by decide +kernel
theorem d_R_below_118 : decode b_R_below 118 = .ok (.goto (-87), 3) := by decide +kernel
theorem d_R_below_121 : decode b_R_below 121 = .ok (.iload 4, 2) := by decide +kernel
theorem d_R_below_123 : decode b_R_below 123 = .ok (.ireturn, 1) := by decide +kernel
theorem d_R_quantile_0 : decode b_R_quantile 0 = .ok (.aload_n 0, 1) := by decide +kernel
theorem d_R_quantile_1 : decode b_R_quantile 1 = .ok (.iload_n 1, 1) := by decide +kernel
theorem d_R_quantile_2 : decode b_R_quantile 2 = .ok (.invokevirtual 75, 3) := by decide +kernel
theorem d_R_quantile_5 : decode b_R_quantile 5 = .ok (.ifCond .eq 14, 3) := by decide +kernel
theorem d_R_quantile_8 : decode b_R_quantile 8 = .ok (.iload_n 2, 1) := by decide +kernel
theorem d_R_quantile_9 : decode b_R_quantile 9 = .ok (.ifCond .lt 10, 3) := by decide +kernel
theorem d_R_quantile_12 : decode b_R_quantile 12 = .ok (.iload_n 2, 1) := by decide +kernel
theorem d_R_quantile_13 : decode b_R_quantile 13 = .ok (.sipush 1000, 3) := by decide +kernel
theorem d_R_quantile_16 : decode b_R_quantile 16 = .ok (.if_icmp .le 5, 3) := by decide +kernel
theorem d_R_quantile_19 : decode b_R_quantile 19 = .ok (.iconst (-1), 1) := by decide +kernel
theorem d_R_quantile_20 : decode b_R_quantile 20 = .ok (.ireturn, 1) := by decide +kernel
theorem d_R_quantile_21 : decode b_R_quantile 21 = .ok (.aload_n 0, 1) := by decide +kernel
theorem d_R_quantile_22 : decode b_R_quantile 22 = .ok (.iload_n 1, 1) := by decide +kernel
theorem d_R_quantile_23 : decode b_R_quantile 23 = .ok (.invokevirtual 127, 3) := by decide +kernel
theorem d_R_quantile_26 : decode b_R_quantile 26 = .ok (.iconst 0, 1) := by decide +kernel
theorem d_R_quantile_27 : decode b_R_quantile 27 = .ok (.istore_n 3, 1) := by decide +kernel
theorem d_R_quantile_28 : decode b_R_quantile 28 = .ok (.iload_n 3, 1) := by decide +kernel
theorem d_R_quantile_29 : decode b_R_quantile 29 = .ok (.bipush 32, 2) := by decide +kernel
theorem d_R_quantile_31 : decode b_R_quantile 31 = .ok (.if_icmp .ge 100, 3) := by decide +kernel
theorem d_R_quantile_34 : decode b_R_quantile 34 = .ok (.iconst 0, 1) := by decide +kernel
theorem d_R_quantile_35 : decode b_R_quantile 35 = .ok (.istore 4, 2) := by decide +kernel
theorem d_R_quantile_37 : decode b_R_quantile 37 = .ok (.iconst 1, 1) := by decide +kernel
theorem d_R_quantile_38 : decode b_R_quantile 38 = .ok (.istore 5, 2) := by decide +kernel
theorem d_R_quantile_40 : decode b_R_quantile 40 = .ok (.iload 5, 2) := by decide +kernel
theorem d_R_quantile_42 : decode b_R_quantile 42 = .ok (.bipush 64, 2) := by decide +kernel
theorem d_R_quantile_44 : decode b_R_quantile 44 = .ok (.if_icmp .ge 56, 3) := by decide +kernel
theorem d_R_quantile_47 : decode b_R_quantile 47 = .ok (.iload 5, 2) := by decide +kernel
theorem d_R_quantile_49 : decode b_R_quantile 49 = .ok (.invokestatic 130, 3) := by decide +kernel
theorem d_R_quantile_52 : decode b_R_quantile 52 = .ok (.istore 6, 2) := by decide +kernel
theorem d_R_quantile_54 : decode b_R_quantile 54 = .ok (.iload 5, 2) := by decide +kernel
theorem d_R_quantile_56 : decode b_R_quantile 56 = .ok (.invokestatic 133, 3) := by decide +kernel
theorem d_R_quantile_59 : decode b_R_quantile 59 = .ok (.istore 7, 2) := by decide +kernel
theorem d_R_quantile_61 : decode b_R_quantile 61 = .ok (.iload 7, 2) := by decide +kernel
theorem d_R_quantile_63 : decode b_R_quantile 63 = .ok (.iload 6, 2) := by decide +kernel
theorem d_R_quantile_65 : decode b_R_quantile 65 = .ok (.iadd, 1) := by decide +kernel
theorem d_R_quantile_66 : decode b_R_quantile 66 = .ok (.iconst 1, 1) := by decide +kernel
theorem d_R_quantile_67 : decode b_R_quantile 67 = .ok (.isub, 1) := by decide +kernel
theorem d_R_quantile_68 : decode b_R_quantile 68 = .ok (.iload_n 3, 1) := by decide +kernel
theorem d_R_quantile_69 : decode b_R_quantile 69 = .ok (.if_icmp .gt 21, 3) := by decide +kernel
theorem d_R_quantile_72 : decode b_R_quantile 72 = .ok (.iload 4, 2) := by decide +kernel
theorem d_R_quantile_74 : decode b_R_quantile 74 = .ok (.aload_n 0, 1) := by decide +kernel
theorem d_R_quantile_75 : decode b_R_quantile 75 = .ok (.getfield 63, 3) := by decide +kernel
theorem d_R_quantile_78 : decode b_R_quantile 78 = .ok (.bipush 64, 2) := by decide +kernel
theorem d_R_quantile_80 : decode b_R_quantile 80 = .ok (.iload_n 1, 1) := by decide +kernel
theorem d_R_quantile_81 : decode b_R_quantile 81 = .ok (.imul, 1) := by decide +kernel
theorem d_R_quantile_82 : decode b_R_quantile 82 = .ok (.iload 5, 2) := by decide +kernel
theorem d_R_quantile_84 : decode b_R_quantile 84 = .ok (.iadd, 1) := by decide +kernel
theorem d_R_quantile_85 : decode b_R_quantile 85 = .ok (.iaload, 1) := by decide +kernel
theorem d_R_quantile_86 : decode b_R_quantile 86 = .ok (.iadd, 1) := by decide +kernel
theorem d_R_quantile_87 : decode b_R_quantile 87 = .ok (.goto 5, 3) := by decide +kernel
theorem d_R_quantile_90 : decode b_R_quantile 90 = .ok (.iload 4, 2) := by decide +kernel
theorem d_R_quantile_92 : decode b_R_quantile 92 = .ok (.istore 4, 2) := by decide +kernel
theorem d_R_quantile_94 : decode b_R_quantile 94 = .ok (.iinc 5 1, 3) := by decide +kernel
theorem d_R_quantile_97 : decode b_R_quantile 97 = .ok (.goto (-57), 3) := by decide +kernel
theorem d_R_quantile_100 : decode b_R_quantile 100 = .ok (.iload 4, 2) := by decide +kernel
theorem d_R_quantile_102 : decode b_R_quantile 102 = .ok (.iconst 1, 1) := by decide +kernel
theorem d_R_quantile_103 : decode b_R_quantile 103 = .ok (.if_icmp .lt 22, 3) := by decide +kernel
theorem d_R_quantile_106 : decode b_R_quantile 106 = .ok (.sipush 1000, 3) := by decide +kernel
theorem d_R_quantile_109 : decode b_R_quantile 109 = .ok (.iload 4, 2) := by decide +kernel
theorem d_R_quantile_111 : decode b_R_quantile 111 = .ok (.imul, 1) := by decide +kernel
theorem d_R_quantile_112 : decode b_R_quantile 112 = .ok (.iload_n 2, 1) := by decide +kernel
theorem d_R_quantile_113 : decode b_R_quantile 113 = .ok (.aload_n 0, 1) := by decide +kernel
theorem d_R_quantile_114 : decode b_R_quantile 114 = .ok (.getfield 57, 3) := by decide +kernel
theorem d_R_quantile_117 : decode b_R_quantile 117 = .ok (.iload_n 1, 1) := by decide +kernel
theorem d_R_quantile_118 : decode b_R_quantile 118 = .ok (.iaload, 1) := by decide +kernel
theorem d_R_quantile_119 : decode b_R_quantile 119 = .ok (.imul, 1) := by decide +kernel
theorem d_R_quantile_120 : decode b_R_quantile 120 = .ok (.if_icmp .lt 5, 3) := by decide +kernel
theorem d_R_quantile_123 : decode b_R_quantile 123 = .ok (.iload_n 3, 1) := by decide +kernel
theorem d_R_quantile_124 : decode b_R_quantile 124 = .ok (.ireturn, 1) := by decide +kernel
theorem d_R_quantile_125 : decode b_R_quantile 125 = .ok (.iinc 3 1, 3) := by decide +kernel
theorem d_R_quantile_128 : decode b_R_quantile 128 = .ok (.goto (-100), 3) := by decide +kernel
theorem d_R_quantile_131 : decode b_R_quantile 131 = .ok (.iconst (-1), 1) := by decide +kernel
theorem d_R_quantile_132 : decode b_R_quantile 132 = .ok (.ireturn, 1) := by decide +kernel
end
section
theorem d_L_cell_0 : decode b_L_cell 0 = .ok (.iload_n 1, 1) := by decide +kernel
theorem d_L_cell_1 : decode b_L_cell 1 = .ok (.aload_n 0, 1) := by decide +kernel
theorem d_L_cell_2 : decode b_L_cell 2 = .ok (.arraylength, 1) := by decide +kernel
theorem d_L_cell_3 : decode b_L_cell 3 = .ok (.if_icmp .ge 9, 3) := by decide +kernel
theorem d_L_cell_6 : decode b_L_cell 6 = .ok (.aload_n 0, 1) := by decide +kernel
theorem d_L_cell_7 : decode b_L_cell 7 = .ok (.iload_n 1, 1) := by decide +kernel
theorem d_L_cell_8 : decode b_L_cell 8 = .ok (.iaload, 1) := by decide +kernel
theorem d_L_cell_9 : decode b_L_cell 9 = .ok (.goto 4, 3) := by decide +kernel
theorem d_L_cell_12 : decode b_L_cell 12 = .ok (.iconst 0, 1) := by decide +kernel
theorem d_L_cell_13 : decode b_L_cell 13 = .ok (.ireturn, 1) := by decide +kernel
theorem d_L_law_0 : decode code 0 = .ok (.new 7, 3) := by decide +kernel
theorem d_L_law_3 : decode code 3 = .ok (.dup, 1) := by decide +kernel
theorem d_L_law_4 : decode code 4 = .ok (.aload_n 0, 1) := by decide +kernel
theorem d_L_law_5 : decode code 5 = .ok (.iconst 0, 1) := by decide +kernel
theorem d_L_law_6 : decode code 6 = .ok (.invokestatic 9, 3) := by decide +kernel
theorem d_L_law_9 : decode code 9 = .ok (.aload_n 0, 1) := by decide +kernel
theorem d_L_law_10 : decode code 10 = .ok (.iconst 1, 1) := by decide +kernel
theorem d_L_law_11 : decode code 11 = .ok (.invokestatic 9, 3) := by decide +kernel
theorem d_L_law_14 : decode code 14 = .ok (.invokespecial 15, 3) := by decide +kernel
theorem d_L_law_17 : decode code 17 = .ok (.astore_n 1, 1) := by decide +kernel
theorem d_L_law_18 : decode code 18 = .ok (.new 18, 3) := by decide +kernel
theorem d_L_law_21 : decode code 21 = .ok (.dup, 1) := by decide +kernel
theorem d_L_law_22 : decode code 22 = .ok (.aload_n 0, 1) := by decide +kernel
theorem d_L_law_23 : decode code 23 = .ok (.iconst 0, 1) := by decide +kernel
theorem d_L_law_24 : decode code 24 = .ok (.invokestatic 9, 3) := by decide +kernel
theorem d_L_law_27 : decode code 27 = .ok (.aload_n 0, 1) := by decide +kernel
theorem d_L_law_28 : decode code 28 = .ok (.iconst 1, 1) := by decide +kernel
theorem d_L_law_29 : decode code 29 = .ok (.invokestatic 9, 3) := by decide +kernel
theorem d_L_law_32 : decode code 32 = .ok (.invokespecial 20, 3) := by decide +kernel
theorem d_L_law_35 : decode code 35 = .ok (.astore_n 2, 1) := by decide +kernel
theorem d_L_law_36 : decode code 36 = .ok (.iconst 2, 1) := by decide +kernel
theorem d_L_law_37 : decode code 37 = .ok (.istore_n 3, 1) := by decide +kernel
theorem d_L_law_38 : decode code 38 = .ok (.iload_n 3, 1) := by decide +kernel
theorem d_L_law_39 : decode code 39 = .ok (.aload_n 0, 1) := by decide +kernel
theorem d_L_law_40 : decode code 40 = .ok (.arraylength, 1) := by decide +kernel
theorem d_L_law_41 : decode code 41 = .ok (.iconst 4, 1) := by decide +kernel
theorem d_L_law_42 : decode code 42 = .ok (.isub, 1) := by decide +kernel
theorem d_L_law_43 : decode code 43 = .ok (.if_icmp .gt 646, 3) := by decide +kernel
theorem d_L_law_46 : decode code 46 = .ok (.aload_n 0, 1) := by decide +kernel
theorem d_L_law_47 : decode code 47 = .ok (.iload_n 3, 1) := by decide +kernel
theorem d_L_law_48 : decode code 48 = .ok (.iaload, 1) := by decide +kernel
theorem d_L_law_49 : decode code 49 = .ok (.bipush 31, 2) := by decide +kernel
theorem d_L_law_51 : decode code 51 = .ok (.iand, 1) := by decide +kernel
theorem d_L_law_52 : decode code 52 = .ok (.tableswitch 631 0 17 #[88, 137, 170, 193, 216, 239, 262, 285, 308, 321, 344, 368, 417, 450, 483, 516, 539, 598], 88) := by decide +kernel
theorem d_L_law_140 : decode code 140 = .ok (.aload_n 1, 1) := by decide +kernel
theorem d_L_law_141 : decode code 141 = .ok (.aload_n 0, 1) := by decide +kernel
theorem d_L_law_142 : decode code 142 = .ok (.iload_n 3, 1) := by decide +kernel
theorem d_L_law_143 : decode code 143 = .ok (.iconst 1, 1) := by decide +kernel
theorem d_L_law_144 : decode code 144 = .ok (.iadd, 1) := by decide +kernel
theorem d_L_law_145 : decode code 145 = .ok (.iaload, 1) := by decide +kernel
theorem d_L_law_146 : decode code 146 = .ok (.aload_n 0, 1) := by decide +kernel
theorem d_L_law_147 : decode code 147 = .ok (.iload_n 3, 1) := by decide +kernel
theorem d_L_law_148 : decode code 148 = .ok (.iconst 2, 1) := by decide +kernel
theorem d_L_law_149 : decode code 149 = .ok (.iadd, 1) := by decide +kernel
theorem d_L_law_150 : decode code 150 = .ok (.iaload, 1) := by decide +kernel
theorem d_L_law_151 : decode code 151 = .ok (.ifCond .eq 7, 3) := by decide +kernel
theorem d_L_law_154 : decode code 154 = .ok (.iconst 1, 1) := by decide +kernel
theorem d_L_law_155 : decode code 155 = .ok (.goto 4, 3) := by decide +kernel
theorem d_L_law_158 : decode code 158 = .ok (.iconst 0, 1) := by decide +kernel
theorem d_L_law_159 : decode code 159 = .ok (.invokevirtual 21, 3) := by decide +kernel
theorem d_L_law_162 : decode code 162 = .ok (.aload_n 2, 1) := by decide +kernel
theorem d_L_law_163 : decode code 163 = .ok (.aload_n 0, 1) := by decide +kernel
theorem d_L_law_164 : decode code 164 = .ok (.iload_n 3, 1) := by decide +kernel
theorem d_L_law_165 : decode code 165 = .ok (.iconst 1, 1) := by decide +kernel
theorem d_L_law_166 : decode code 166 = .ok (.iadd, 1) := by decide +kernel
theorem d_L_law_167 : decode code 167 = .ok (.iaload, 1) := by decide +kernel
theorem d_L_law_168 : decode code 168 = .ok (.aload_n 0, 1) := by decide +kernel
theorem d_L_law_169 : decode code 169 = .ok (.iload_n 3, 1) := by decide +kernel
theorem d_L_law_170 : decode code 170 = .ok (.iconst 2, 1) := by decide +kernel
theorem d_L_law_171 : decode code 171 = .ok (.iadd, 1) := by decide +kernel
theorem d_L_law_172 : decode code 172 = .ok (.iaload, 1) := by decide +kernel
theorem d_L_law_173 : decode code 173 = .ok (.ifCond .eq 7, 3) := by decide +kernel
theorem d_L_law_176 : decode code 176 = .ok (.iconst 1, 1) := by decide +kernel
theorem d_L_law_177 : decode code 177 = .ok (.goto 4, 3) := by decide +kernel
theorem d_L_law_180 : decode code 180 = .ok (.iconst 0, 1) := by decide +kernel
theorem d_L_law_181 : decode code 181 = .ok (.invokevirtual 25, 3) := by decide +kernel
theorem d_L_law_184 : decode code 184 = .ok (.if_icmp .eq 499, 3) := by decide +kernel
theorem d_L_law_187 : decode code 187 = .ok (.iconst 0, 1) := by decide +kernel
theorem d_L_law_188 : decode code 188 = .ok (.ireturn, 1) := by decide +kernel
theorem d_L_law_189 : decode code 189 = .ok (.aload_n 1, 1) := by decide +kernel
theorem d_L_law_190 : decode code 190 = .ok (.aload_n 0, 1) := by decide +kernel
theorem d_L_law_191 : decode code 191 = .ok (.iload_n 3, 1) := by decide +kernel
theorem d_L_law_192 : decode code 192 = .ok (.iconst 1, 1) := by decide +kernel
theorem d_L_law_193 : decode code 193 = .ok (.iadd, 1) := by decide +kernel
theorem d_L_law_194 : decode code 194 = .ok (.iaload, 1) := by decide +kernel
theorem d_L_law_195 : decode code 195 = .ok (.aload_n 0, 1) := by decide +kernel
theorem d_L_law_196 : decode code 196 = .ok (.iload_n 3, 1) := by decide +kernel
theorem d_L_law_197 : decode code 197 = .ok (.iconst 2, 1) := by decide +kernel
theorem d_L_law_198 : decode code 198 = .ok (.iadd, 1) := by decide +kernel
theorem d_L_law_199 : decode code 199 = .ok (.iaload, 1) := by decide +kernel
theorem d_L_law_200 : decode code 200 = .ok (.invokevirtual 26, 3) := by decide +kernel
theorem d_L_law_203 : decode code 203 = .ok (.aload_n 2, 1) := by decide +kernel
theorem d_L_law_204 : decode code 204 = .ok (.aload_n 0, 1) := by decide +kernel
theorem d_L_law_205 : decode code 205 = .ok (.iload_n 3, 1) := by decide +kernel
theorem d_L_law_206 : decode code 206 = .ok (.iconst 1, 1) := by decide +kernel
theorem d_L_law_207 : decode code 207 = .ok (.iadd, 1) := by decide +kernel
theorem d_L_law_208 : decode code 208 = .ok (.iaload, 1) := by decide +kernel
theorem d_L_law_209 : decode code 209 = .ok (.aload_n 0, 1) := by decide +kernel
theorem d_L_law_210 : decode code 210 = .ok (.iload_n 3, 1) := by decide +kernel
theorem d_L_law_211 : decode code 211 = .ok (.iconst 2, 1) := by decide +kernel
theorem d_L_law_212 : decode code 212 = .ok (.iadd, 1) := by decide +kernel
theorem d_L_law_213 : decode code 213 = .ok (.iaload, 1) := by decide +kernel
theorem d_L_law_214 : decode code 214 = .ok (.invokevirtual 30, 3) := by decide +kernel
theorem d_L_law_217 : decode code 217 = .ok (.if_icmp .eq 466, 3) := by decide +kernel
theorem d_L_law_220 : decode code 220 = .ok (.iconst 0, 1) := by decide +kernel
theorem d_L_law_221 : decode code 221 = .ok (.ireturn, 1) := by decide +kernel
theorem d_L_law_222 : decode code 222 = .ok (.aload_n 1, 1) := by decide +kernel
theorem d_L_law_223 : decode code 223 = .ok (.aload_n 0, 1) := by decide +kernel
theorem d_L_law_224 : decode code 224 = .ok (.iload_n 3, 1) := by decide +kernel
theorem d_L_law_225 : decode code 225 = .ok (.iconst 1, 1) := by decide +kernel
theorem d_L_law_226 : decode code 226 = .ok (.iadd, 1) := by decide +kernel
theorem d_L_law_227 : decode code 227 = .ok (.iaload, 1) := by decide +kernel
theorem d_L_law_228 : decode code 228 = .ok (.invokevirtual 31, 3) := by decide +kernel
theorem d_L_law_231 : decode code 231 = .ok (.aload_n 2, 1) := by decide +kernel
theorem d_L_law_232 : decode code 232 = .ok (.aload_n 0, 1) := by decide +kernel
theorem d_L_law_233 : decode code 233 = .ok (.iload_n 3, 1) := by decide +kernel
theorem d_L_law_234 : decode code 234 = .ok (.iconst 1, 1) := by decide +kernel
theorem d_L_law_235 : decode code 235 = .ok (.iadd, 1) := by decide +kernel
theorem d_L_law_236 : decode code 236 = .ok (.iaload, 1) := by decide +kernel
theorem d_L_law_237 : decode code 237 = .ok (.invokevirtual 35, 3) := by decide +kernel
theorem d_L_law_240 : decode code 240 = .ok (.if_icmp .eq 443, 3) := by decide +kernel
theorem d_L_law_243 : decode code 243 = .ok (.iconst 0, 1) := by decide +kernel
theorem d_L_law_244 : decode code 244 = .ok (.ireturn, 1) := by decide +kernel
theorem d_L_law_245 : decode code 245 = .ok (.aload_n 1, 1) := by decide +kernel
theorem d_L_law_246 : decode code 246 = .ok (.aload_n 0, 1) := by decide +kernel
theorem d_L_law_247 : decode code 247 = .ok (.iload_n 3, 1) := by decide +kernel
theorem d_L_law_248 : decode code 248 = .ok (.iconst 1, 1) := by decide +kernel
theorem d_L_law_249 : decode code 249 = .ok (.iadd, 1) := by decide +kernel
theorem d_L_law_250 : decode code 250 = .ok (.iaload, 1) := by decide +kernel
theorem d_L_law_251 : decode code 251 = .ok (.invokevirtual 36, 3) := by decide +kernel
theorem d_L_law_254 : decode code 254 = .ok (.aload_n 2, 1) := by decide +kernel
theorem d_L_law_255 : decode code 255 = .ok (.aload_n 0, 1) := by decide +kernel
theorem d_L_law_256 : decode code 256 = .ok (.iload_n 3, 1) := by decide +kernel
theorem d_L_law_257 : decode code 257 = .ok (.iconst 1, 1) := by decide +kernel
theorem d_L_law_258 : decode code 258 = .ok (.iadd, 1) := by decide +kernel
theorem d_L_law_259 : decode code 259 = .ok (.iaload, 1) := by decide +kernel
theorem d_L_law_260 : decode code 260 = .ok (.invokevirtual 40, 3) := by decide +kernel
theorem d_L_law_263 : decode code 263 = .ok (.if_icmp .eq 420, 3) := by decide +kernel
theorem d_L_law_266 : decode code 266 = .ok (.iconst 0, 1) := by decide +kernel
theorem d_L_law_267 : decode code 267 = .ok (.ireturn, 1) := by decide +kernel
theorem d_L_law_268 : decode code 268 = .ok (.aload_n 1, 1) := by decide +kernel
theorem d_L_law_269 : decode code 269 = .ok (.aload_n 0, 1) := by decide +kernel
theorem d_L_law_270 : decode code 270 = .ok (.iload_n 3, 1) := by decide +kernel
theorem d_L_law_271 : decode code 271 = .ok (.iconst 1, 1) := by decide +kernel
theorem d_L_law_272 : decode code 272 = .ok (.iadd, 1) := by decide +kernel
theorem d_L_law_273 : decode code 273 = .ok (.iaload, 1) := by decide +kernel
theorem d_L_law_274 : decode code 274 = .ok (.invokevirtual 41, 3) := by decide +kernel
theorem d_L_law_277 : decode code 277 = .ok (.aload_n 2, 1) := by decide +kernel
theorem d_L_law_278 : decode code 278 = .ok (.aload_n 0, 1) := by decide +kernel
theorem d_L_law_279 : decode code 279 = .ok (.iload_n 3, 1) := by decide +kernel
theorem d_L_law_280 : decode code 280 = .ok (.iconst 1, 1) := by decide +kernel
theorem d_L_law_281 : decode code 281 = .ok (.iadd, 1) := by decide +kernel
theorem d_L_law_282 : decode code 282 = .ok (.iaload, 1) := by decide +kernel
theorem d_L_law_283 : decode code 283 = .ok (.invokevirtual 44, 3) := by decide +kernel
theorem d_L_law_286 : decode code 286 = .ok (.if_icmp .eq 397, 3) := by decide +kernel
theorem d_L_law_289 : decode code 289 = .ok (.iconst 0, 1) := by decide +kernel
theorem d_L_law_290 : decode code 290 = .ok (.ireturn, 1) := by decide +kernel
theorem d_L_law_291 : decode code 291 = .ok (.aload_n 1, 1) := by decide +kernel
theorem d_L_law_292 : decode code 292 = .ok (.aload_n 0, 1) := by decide +kernel
theorem d_L_law_293 : decode code 293 = .ok (.iload_n 3, 1) := by decide +kernel
theorem d_L_law_294 : decode code 294 = .ok (.iconst 1, 1) := by decide +kernel
theorem d_L_law_295 : decode code 295 = .ok (.iadd, 1) := by decide +kernel
theorem d_L_law_296 : decode code 296 = .ok (.iaload, 1) := by decide +kernel
theorem d_L_law_297 : decode code 297 = .ok (.invokevirtual 45, 3) := by decide +kernel
theorem d_L_law_300 : decode code 300 = .ok (.aload_n 2, 1) := by decide +kernel
theorem d_L_law_301 : decode code 301 = .ok (.aload_n 0, 1) := by decide +kernel
theorem d_L_law_302 : decode code 302 = .ok (.iload_n 3, 1) := by decide +kernel
theorem d_L_law_303 : decode code 303 = .ok (.iconst 1, 1) := by decide +kernel
theorem d_L_law_304 : decode code 304 = .ok (.iadd, 1) := by decide +kernel
theorem d_L_law_305 : decode code 305 = .ok (.iaload, 1) := by decide +kernel
theorem d_L_law_306 : decode code 306 = .ok (.invokevirtual 48, 3) := by decide +kernel
theorem d_L_law_309 : decode code 309 = .ok (.if_icmp .eq 374, 3) := by decide +kernel
theorem d_L_law_312 : decode code 312 = .ok (.iconst 0, 1) := by decide +kernel
theorem d_L_law_313 : decode code 313 = .ok (.ireturn, 1) := by decide +kernel
theorem d_L_law_314 : decode code 314 = .ok (.aload_n 1, 1) := by decide +kernel
theorem d_L_law_315 : decode code 315 = .ok (.aload_n 0, 1) := by decide +kernel
theorem d_L_law_316 : decode code 316 = .ok (.iload_n 3, 1) := by decide +kernel
theorem d_L_law_317 : decode code 317 = .ok (.iconst 1, 1) := by decide +kernel
theorem d_L_law_318 : decode code 318 = .ok (.iadd, 1) := by decide +kernel
theorem d_L_law_319 : decode code 319 = .ok (.iaload, 1) := by decide +kernel
theorem d_L_law_320 : decode code 320 = .ok (.invokevirtual 49, 3) := by decide +kernel
theorem d_L_law_323 : decode code 323 = .ok (.aload_n 2, 1) := by decide +kernel
theorem d_L_law_324 : decode code 324 = .ok (.aload_n 0, 1) := by decide +kernel
theorem d_L_law_325 : decode code 325 = .ok (.iload_n 3, 1) := by decide +kernel
theorem d_L_law_326 : decode code 326 = .ok (.iconst 1, 1) := by decide +kernel
theorem d_L_law_327 : decode code 327 = .ok (.iadd, 1) := by decide +kernel
theorem d_L_law_328 : decode code 328 = .ok (.iaload, 1) := by decide +kernel
theorem d_L_law_329 : decode code 329 = .ok (.invokevirtual 52, 3) := by decide +kernel
theorem d_L_law_332 : decode code 332 = .ok (.if_icmp .eq 351, 3) := by decide +kernel
theorem d_L_law_335 : decode code 335 = .ok (.iconst 0, 1) := by decide +kernel
theorem d_L_law_336 : decode code 336 = .ok (.ireturn, 1) := by decide +kernel
theorem d_L_law_337 : decode code 337 = .ok (.aload_n 1, 1) := by decide +kernel
theorem d_L_law_338 : decode code 338 = .ok (.aload_n 0, 1) := by decide +kernel
theorem d_L_law_339 : decode code 339 = .ok (.iload_n 3, 1) := by decide +kernel
theorem d_L_law_340 : decode code 340 = .ok (.iconst 1, 1) := by decide +kernel
theorem d_L_law_341 : decode code 341 = .ok (.iadd, 1) := by decide +kernel
theorem d_L_law_342 : decode code 342 = .ok (.iaload, 1) := by decide +kernel
theorem d_L_law_343 : decode code 343 = .ok (.invokevirtual 53, 3) := by decide +kernel
theorem d_L_law_346 : decode code 346 = .ok (.aload_n 2, 1) := by decide +kernel
theorem d_L_law_347 : decode code 347 = .ok (.aload_n 0, 1) := by decide +kernel
theorem d_L_law_348 : decode code 348 = .ok (.iload_n 3, 1) := by decide +kernel
theorem d_L_law_349 : decode code 349 = .ok (.iconst 1, 1) := by decide +kernel
theorem d_L_law_350 : decode code 350 = .ok (.iadd, 1) := by decide +kernel
theorem d_L_law_351 : decode code 351 = .ok (.iaload, 1) := by decide +kernel
theorem d_L_law_352 : decode code 352 = .ok (.invokevirtual 56, 3) := by decide +kernel
theorem d_L_law_355 : decode code 355 = .ok (.if_icmp .eq 328, 3) := by decide +kernel
theorem d_L_law_358 : decode code 358 = .ok (.iconst 0, 1) := by decide +kernel
theorem d_L_law_359 : decode code 359 = .ok (.ireturn, 1) := by decide +kernel
theorem d_L_law_360 : decode code 360 = .ok (.aload_n 1, 1) := by decide +kernel
theorem d_L_law_361 : decode code 361 = .ok (.invokevirtual 57, 3) := by decide +kernel
theorem d_L_law_364 : decode code 364 = .ok (.aload_n 2, 1) := by decide +kernel
theorem d_L_law_365 : decode code 365 = .ok (.invokevirtual 61, 3) := by decide +kernel
theorem d_L_law_368 : decode code 368 = .ok (.if_icmp .eq 315, 3) := by decide +kernel
theorem d_L_law_371 : decode code 371 = .ok (.iconst 0, 1) := by decide +kernel
theorem d_L_law_372 : decode code 372 = .ok (.ireturn, 1) := by decide +kernel
theorem d_L_law_373 : decode code 373 = .ok (.aload_n 1, 1) := by decide +kernel
theorem d_L_law_374 : decode code 374 = .ok (.aload_n 0, 1) := by decide +kernel
theorem d_L_law_375 : decode code 375 = .ok (.iload_n 3, 1) := by decide +kernel
theorem d_L_law_376 : decode code 376 = .ok (.iconst 1, 1) := by decide +kernel
theorem d_L_law_377 : decode code 377 = .ok (.iadd, 1) := by decide +kernel
theorem d_L_law_378 : decode code 378 = .ok (.iaload, 1) := by decide +kernel
theorem d_L_law_379 : decode code 379 = .ok (.invokevirtual 62, 3) := by decide +kernel
theorem d_L_law_382 : decode code 382 = .ok (.aload_n 2, 1) := by decide +kernel
theorem d_L_law_383 : decode code 383 = .ok (.aload_n 0, 1) := by decide +kernel
theorem d_L_law_384 : decode code 384 = .ok (.iload_n 3, 1) := by decide +kernel
theorem d_L_law_385 : decode code 385 = .ok (.iconst 1, 1) := by decide +kernel
theorem d_L_law_386 : decode code 386 = .ok (.iadd, 1) := by decide +kernel
theorem d_L_law_387 : decode code 387 = .ok (.iaload, 1) := by decide +kernel
theorem d_L_law_388 : decode code 388 = .ok (.invokevirtual 65, 3) := by decide +kernel
theorem d_L_law_391 : decode code 391 = .ok (.if_icmp .eq 292, 3) := by decide +kernel
theorem d_L_law_394 : decode code 394 = .ok (.iconst 0, 1) := by decide +kernel
theorem d_L_law_395 : decode code 395 = .ok (.ireturn, 1) := by decide +kernel
theorem d_L_law_396 : decode code 396 = .ok (.aload_n 1, 1) := by decide +kernel
theorem d_L_law_397 : decode code 397 = .ok (.aload_n 0, 1) := by decide +kernel
theorem d_L_law_398 : decode code 398 = .ok (.iload_n 3, 1) := by decide +kernel
theorem d_L_law_399 : decode code 399 = .ok (.iconst 1, 1) := by decide +kernel
theorem d_L_law_400 : decode code 400 = .ok (.iadd, 1) := by decide +kernel
theorem d_L_law_401 : decode code 401 = .ok (.iaload, 1) := by decide +kernel
theorem d_L_law_402 : decode code 402 = .ok (.invokevirtual 66, 3) := by decide +kernel
theorem d_L_law_405 : decode code 405 = .ok (.aload_n 2, 1) := by decide +kernel
theorem d_L_law_406 : decode code 406 = .ok (.aload_n 0, 1) := by decide +kernel
theorem d_L_law_407 : decode code 407 = .ok (.iload_n 3, 1) := by decide +kernel
theorem d_L_law_408 : decode code 408 = .ok (.iconst 1, 1) := by decide +kernel
theorem d_L_law_409 : decode code 409 = .ok (.iadd, 1) := by decide +kernel
theorem d_L_law_410 : decode code 410 = .ok (.iaload, 1) := by decide +kernel
theorem d_L_law_411 : decode code 411 = .ok (.invokevirtual 70, 3) := by decide +kernel
theorem d_L_law_414 : decode code 414 = .ok (.lcmp, 1) := by decide +kernel
theorem d_L_law_415 : decode code 415 = .ok (.ifCond .eq 268, 3) := by decide +kernel
theorem d_L_law_418 : decode code 418 = .ok (.iconst 0, 1) := by decide +kernel
theorem d_L_law_419 : decode code 419 = .ok (.ireturn, 1) := by decide +kernel
theorem d_L_law_420 : decode code 420 = .ok (.aload_n 1, 1) := by decide +kernel
theorem d_L_law_421 : decode code 421 = .ok (.aload_n 0, 1) := by decide +kernel
theorem d_L_law_422 : decode code 422 = .ok (.iload_n 3, 1) := by decide +kernel
theorem d_L_law_423 : decode code 423 = .ok (.iconst 1, 1) := by decide +kernel
theorem d_L_law_424 : decode code 424 = .ok (.iadd, 1) := by decide +kernel
theorem d_L_law_425 : decode code 425 = .ok (.iaload, 1) := by decide +kernel
theorem d_L_law_426 : decode code 426 = .ok (.aload_n 0, 1) := by decide +kernel
theorem d_L_law_427 : decode code 427 = .ok (.iload_n 3, 1) := by decide +kernel
theorem d_L_law_428 : decode code 428 = .ok (.iconst 2, 1) := by decide +kernel
theorem d_L_law_429 : decode code 429 = .ok (.iadd, 1) := by decide +kernel
theorem d_L_law_430 : decode code 430 = .ok (.iaload, 1) := by decide +kernel
theorem d_L_law_431 : decode code 431 = .ok (.ifCond .eq 7, 3) := by decide +kernel
theorem d_L_law_434 : decode code 434 = .ok (.iconst 1, 1) := by decide +kernel
theorem d_L_law_435 : decode code 435 = .ok (.goto 4, 3) := by decide +kernel
theorem d_L_law_438 : decode code 438 = .ok (.iconst 0, 1) := by decide +kernel
theorem d_L_law_439 : decode code 439 = .ok (.invokevirtual 71, 3) := by decide +kernel
theorem d_L_law_442 : decode code 442 = .ok (.aload_n 2, 1) := by decide +kernel
theorem d_L_law_443 : decode code 443 = .ok (.aload_n 0, 1) := by decide +kernel
theorem d_L_law_444 : decode code 444 = .ok (.iload_n 3, 1) := by decide +kernel
theorem d_L_law_445 : decode code 445 = .ok (.iconst 1, 1) := by decide +kernel
theorem d_L_law_446 : decode code 446 = .ok (.iadd, 1) := by decide +kernel
theorem d_L_law_447 : decode code 447 = .ok (.iaload, 1) := by decide +kernel
theorem d_L_law_448 : decode code 448 = .ok (.aload_n 0, 1) := by decide +kernel
theorem d_L_law_449 : decode code 449 = .ok (.iload_n 3, 1) := by decide +kernel
theorem d_L_law_450 : decode code 450 = .ok (.iconst 2, 1) := by decide +kernel
theorem d_L_law_451 : decode code 451 = .ok (.iadd, 1) := by decide +kernel
theorem d_L_law_452 : decode code 452 = .ok (.iaload, 1) := by decide +kernel
theorem d_L_law_453 : decode code 453 = .ok (.ifCond .eq 7, 3) := by decide +kernel
theorem d_L_law_456 : decode code 456 = .ok (.iconst 1, 1) := by decide +kernel
theorem d_L_law_457 : decode code 457 = .ok (.goto 4, 3) := by decide +kernel
theorem d_L_law_460 : decode code 460 = .ok (.iconst 0, 1) := by decide +kernel
theorem d_L_law_461 : decode code 461 = .ok (.invokevirtual 74, 3) := by decide +kernel
theorem d_L_law_464 : decode code 464 = .ok (.if_icmp .eq 219, 3) := by decide +kernel
theorem d_L_law_467 : decode code 467 = .ok (.iconst 0, 1) := by decide +kernel
theorem d_L_law_468 : decode code 468 = .ok (.ireturn, 1) := by decide +kernel
theorem d_L_law_469 : decode code 469 = .ok (.aload_n 1, 1) := by decide +kernel
theorem d_L_law_470 : decode code 470 = .ok (.aload_n 0, 1) := by decide +kernel
theorem d_L_law_471 : decode code 471 = .ok (.iload_n 3, 1) := by decide +kernel
theorem d_L_law_472 : decode code 472 = .ok (.iconst 1, 1) := by decide +kernel
theorem d_L_law_473 : decode code 473 = .ok (.iadd, 1) := by decide +kernel
theorem d_L_law_474 : decode code 474 = .ok (.iaload, 1) := by decide +kernel
theorem d_L_law_475 : decode code 475 = .ok (.aload_n 0, 1) := by decide +kernel
theorem d_L_law_476 : decode code 476 = .ok (.iload_n 3, 1) := by decide +kernel
theorem d_L_law_477 : decode code 477 = .ok (.iconst 2, 1) := by decide +kernel
theorem d_L_law_478 : decode code 478 = .ok (.iadd, 1) := by decide +kernel
theorem d_L_law_479 : decode code 479 = .ok (.iaload, 1) := by decide +kernel
theorem d_L_law_480 : decode code 480 = .ok (.invokevirtual 75, 3) := by decide +kernel
theorem d_L_law_483 : decode code 483 = .ok (.aload_n 2, 1) := by decide +kernel
theorem d_L_law_484 : decode code 484 = .ok (.aload_n 0, 1) := by decide +kernel
theorem d_L_law_485 : decode code 485 = .ok (.iload_n 3, 1) := by decide +kernel
theorem d_L_law_486 : decode code 486 = .ok (.iconst 1, 1) := by decide +kernel
theorem d_L_law_487 : decode code 487 = .ok (.iadd, 1) := by decide +kernel
theorem d_L_law_488 : decode code 488 = .ok (.iaload, 1) := by decide +kernel
theorem d_L_law_489 : decode code 489 = .ok (.aload_n 0, 1) := by decide +kernel
theorem d_L_law_490 : decode code 490 = .ok (.iload_n 3, 1) := by decide +kernel
theorem d_L_law_491 : decode code 491 = .ok (.iconst 2, 1) := by decide +kernel
theorem d_L_law_492 : decode code 492 = .ok (.iadd, 1) := by decide +kernel
theorem d_L_law_493 : decode code 493 = .ok (.iaload, 1) := by decide +kernel
theorem d_L_law_494 : decode code 494 = .ok (.invokevirtual 79, 3) := by decide +kernel
theorem d_L_law_497 : decode code 497 = .ok (.if_icmp .eq 186, 3) := by decide +kernel
theorem d_L_law_500 : decode code 500 = .ok (.iconst 0, 1) := by decide +kernel
theorem d_L_law_501 : decode code 501 = .ok (.ireturn, 1) := by decide +kernel
theorem d_L_law_502 : decode code 502 = .ok (.aload_n 1, 1) := by decide +kernel
theorem d_L_law_503 : decode code 503 = .ok (.aload_n 0, 1) := by decide +kernel
theorem d_L_law_504 : decode code 504 = .ok (.iload_n 3, 1) := by decide +kernel
theorem d_L_law_505 : decode code 505 = .ok (.iconst 1, 1) := by decide +kernel
theorem d_L_law_506 : decode code 506 = .ok (.iadd, 1) := by decide +kernel
theorem d_L_law_507 : decode code 507 = .ok (.iaload, 1) := by decide +kernel
theorem d_L_law_508 : decode code 508 = .ok (.aload_n 0, 1) := by decide +kernel
theorem d_L_law_509 : decode code 509 = .ok (.iload_n 3, 1) := by decide +kernel
theorem d_L_law_510 : decode code 510 = .ok (.iconst 2, 1) := by decide +kernel
theorem d_L_law_511 : decode code 511 = .ok (.iadd, 1) := by decide +kernel
theorem d_L_law_512 : decode code 512 = .ok (.iaload, 1) := by decide +kernel
theorem d_L_law_513 : decode code 513 = .ok (.invokevirtual 80, 3) := by decide +kernel
theorem d_L_law_516 : decode code 516 = .ok (.aload_n 2, 1) := by decide +kernel
theorem d_L_law_517 : decode code 517 = .ok (.aload_n 0, 1) := by decide +kernel
theorem d_L_law_518 : decode code 518 = .ok (.iload_n 3, 1) := by decide +kernel
theorem d_L_law_519 : decode code 519 = .ok (.iconst 1, 1) := by decide +kernel
theorem d_L_law_520 : decode code 520 = .ok (.iadd, 1) := by decide +kernel
theorem d_L_law_521 : decode code 521 = .ok (.iaload, 1) := by decide +kernel
theorem d_L_law_522 : decode code 522 = .ok (.aload_n 0, 1) := by decide +kernel
theorem d_L_law_523 : decode code 523 = .ok (.iload_n 3, 1) := by decide +kernel
theorem d_L_law_524 : decode code 524 = .ok (.iconst 2, 1) := by decide +kernel
theorem d_L_law_525 : decode code 525 = .ok (.iadd, 1) := by decide +kernel
theorem d_L_law_526 : decode code 526 = .ok (.iaload, 1) := by decide +kernel
theorem d_L_law_527 : decode code 527 = .ok (.invokevirtual 83, 3) := by decide +kernel
theorem d_L_law_530 : decode code 530 = .ok (.if_icmp .eq 153, 3) := by decide +kernel
theorem d_L_law_533 : decode code 533 = .ok (.iconst 0, 1) := by decide +kernel
theorem d_L_law_534 : decode code 534 = .ok (.ireturn, 1) := by decide +kernel
theorem d_L_law_535 : decode code 535 = .ok (.aload_n 1, 1) := by decide +kernel
theorem d_L_law_536 : decode code 536 = .ok (.aload_n 0, 1) := by decide +kernel
theorem d_L_law_537 : decode code 537 = .ok (.iload_n 3, 1) := by decide +kernel
theorem d_L_law_538 : decode code 538 = .ok (.iconst 1, 1) := by decide +kernel
theorem d_L_law_539 : decode code 539 = .ok (.iadd, 1) := by decide +kernel
theorem d_L_law_540 : decode code 540 = .ok (.iaload, 1) := by decide +kernel
theorem d_L_law_541 : decode code 541 = .ok (.aload_n 0, 1) := by decide +kernel
theorem d_L_law_542 : decode code 542 = .ok (.iload_n 3, 1) := by decide +kernel
theorem d_L_law_543 : decode code 543 = .ok (.iconst 2, 1) := by decide +kernel
theorem d_L_law_544 : decode code 544 = .ok (.iadd, 1) := by decide +kernel
theorem d_L_law_545 : decode code 545 = .ok (.iaload, 1) := by decide +kernel
theorem d_L_law_546 : decode code 546 = .ok (.invokevirtual 84, 3) := by decide +kernel
theorem d_L_law_549 : decode code 549 = .ok (.aload_n 2, 1) := by decide +kernel
theorem d_L_law_550 : decode code 550 = .ok (.aload_n 0, 1) := by decide +kernel
theorem d_L_law_551 : decode code 551 = .ok (.iload_n 3, 1) := by decide +kernel
theorem d_L_law_552 : decode code 552 = .ok (.iconst 1, 1) := by decide +kernel
theorem d_L_law_553 : decode code 553 = .ok (.iadd, 1) := by decide +kernel
theorem d_L_law_554 : decode code 554 = .ok (.iaload, 1) := by decide +kernel
theorem d_L_law_555 : decode code 555 = .ok (.aload_n 0, 1) := by decide +kernel
theorem d_L_law_556 : decode code 556 = .ok (.iload_n 3, 1) := by decide +kernel
theorem d_L_law_557 : decode code 557 = .ok (.iconst 2, 1) := by decide +kernel
theorem d_L_law_558 : decode code 558 = .ok (.iadd, 1) := by decide +kernel
theorem d_L_law_559 : decode code 559 = .ok (.iaload, 1) := by decide +kernel
theorem d_L_law_560 : decode code 560 = .ok (.invokevirtual 87, 3) := by decide +kernel
theorem d_L_law_563 : decode code 563 = .ok (.if_icmp .eq 120, 3) := by decide +kernel
theorem d_L_law_566 : decode code 566 = .ok (.iconst 0, 1) := by decide +kernel
theorem d_L_law_567 : decode code 567 = .ok (.ireturn, 1) := by decide +kernel
theorem d_L_law_568 : decode code 568 = .ok (.aload_n 1, 1) := by decide +kernel
theorem d_L_law_569 : decode code 569 = .ok (.aload_n 0, 1) := by decide +kernel
theorem d_L_law_570 : decode code 570 = .ok (.iload_n 3, 1) := by decide +kernel
theorem d_L_law_571 : decode code 571 = .ok (.iconst 1, 1) := by decide +kernel
theorem d_L_law_572 : decode code 572 = .ok (.iadd, 1) := by decide +kernel
theorem d_L_law_573 : decode code 573 = .ok (.iaload, 1) := by decide +kernel
theorem d_L_law_574 : decode code 574 = .ok (.invokevirtual 88, 3) := by decide +kernel
theorem d_L_law_577 : decode code 577 = .ok (.aload_n 2, 1) := by decide +kernel
theorem d_L_law_578 : decode code 578 = .ok (.aload_n 0, 1) := by decide +kernel
theorem d_L_law_579 : decode code 579 = .ok (.iload_n 3, 1) := by decide +kernel
theorem d_L_law_580 : decode code 580 = .ok (.iconst 1, 1) := by decide +kernel
theorem d_L_law_581 : decode code 581 = .ok (.iadd, 1) := by decide +kernel
theorem d_L_law_582 : decode code 582 = .ok (.iaload, 1) := by decide +kernel
theorem d_L_law_583 : decode code 583 = .ok (.invokevirtual 91, 3) := by decide +kernel
theorem d_L_law_586 : decode code 586 = .ok (.if_icmp .eq 97, 3) := by decide +kernel
theorem d_L_law_589 : decode code 589 = .ok (.iconst 0, 1) := by decide +kernel
theorem d_L_law_590 : decode code 590 = .ok (.ireturn, 1) := by decide +kernel
theorem d_L_law_591 : decode code 591 = .ok (.aload_n 1, 1) := by decide +kernel
theorem d_L_law_592 : decode code 592 = .ok (.aload_n 0, 1) := by decide +kernel
theorem d_L_law_593 : decode code 593 = .ok (.iload_n 3, 1) := by decide +kernel
theorem d_L_law_594 : decode code 594 = .ok (.iconst 1, 1) := by decide +kernel
theorem d_L_law_595 : decode code 595 = .ok (.iadd, 1) := by decide +kernel
theorem d_L_law_596 : decode code 596 = .ok (.iaload, 1) := by decide +kernel
theorem d_L_law_597 : decode code 597 = .ok (.aload_n 0, 1) := by decide +kernel
theorem d_L_law_598 : decode code 598 = .ok (.iload_n 3, 1) := by decide +kernel
theorem d_L_law_599 : decode code 599 = .ok (.iconst 2, 1) := by decide +kernel
theorem d_L_law_600 : decode code 600 = .ok (.iadd, 1) := by decide +kernel
theorem d_L_law_601 : decode code 601 = .ok (.iaload, 1) := by decide +kernel
theorem d_L_law_602 : decode code 602 = .ok (.aload_n 0, 1) := by decide +kernel
theorem d_L_law_603 : decode code 603 = .ok (.iload_n 3, 1) := by decide +kernel
theorem d_L_law_604 : decode code 604 = .ok (.iconst 3, 1) := by decide +kernel
theorem d_L_law_605 : decode code 605 = .ok (.iadd, 1) := by decide +kernel
theorem d_L_law_606 : decode code 606 = .ok (.iaload, 1) := by decide +kernel
theorem d_L_law_607 : decode code 607 = .ok (.ifCond .eq 7, 3) := by decide +kernel
theorem d_L_law_610 : decode code 610 = .ok (.iconst 1, 1) := by decide +kernel
theorem d_L_law_611 : decode code 611 = .ok (.goto 4, 3) := by decide +kernel
theorem d_L_law_614 : decode code 614 = .ok (.iconst 0, 1) := by decide +kernel
theorem d_L_law_615 : decode code 615 = .ok (.invokevirtual 92, 3) := by decide +kernel
theorem d_L_law_618 : decode code 618 = .ok (.aload_n 2, 1) := by decide +kernel
theorem d_L_law_619 : decode code 619 = .ok (.aload_n 0, 1) := by decide +kernel
theorem d_L_law_620 : decode code 620 = .ok (.iload_n 3, 1) := by decide +kernel
theorem d_L_law_621 : decode code 621 = .ok (.iconst 1, 1) := by decide +kernel
theorem d_L_law_622 : decode code 622 = .ok (.iadd, 1) := by decide +kernel
theorem d_L_law_623 : decode code 623 = .ok (.iaload, 1) := by decide +kernel
theorem d_L_law_624 : decode code 624 = .ok (.aload_n 0, 1) := by decide +kernel
theorem d_L_law_625 : decode code 625 = .ok (.iload_n 3, 1) := by decide +kernel
theorem d_L_law_626 : decode code 626 = .ok (.iconst 2, 1) := by decide +kernel
theorem d_L_law_627 : decode code 627 = .ok (.iadd, 1) := by decide +kernel
theorem d_L_law_628 : decode code 628 = .ok (.iaload, 1) := by decide +kernel
theorem d_L_law_629 : decode code 629 = .ok (.aload_n 0, 1) := by decide +kernel
theorem d_L_law_630 : decode code 630 = .ok (.iload_n 3, 1) := by decide +kernel
theorem d_L_law_631 : decode code 631 = .ok (.iconst 3, 1) := by decide +kernel
theorem d_L_law_632 : decode code 632 = .ok (.iadd, 1) := by decide +kernel
theorem d_L_law_633 : decode code 633 = .ok (.iaload, 1) := by decide +kernel
theorem d_L_law_634 : decode code 634 = .ok (.ifCond .eq 7, 3) := by decide +kernel
theorem d_L_law_637 : decode code 637 = .ok (.iconst 1, 1) := by decide +kernel
theorem d_L_law_638 : decode code 638 = .ok (.goto 4, 3) := by decide +kernel
theorem d_L_law_641 : decode code 641 = .ok (.iconst 0, 1) := by decide +kernel
theorem d_L_law_642 : decode code 642 = .ok (.invokevirtual 96, 3) := by decide +kernel
theorem d_L_law_645 : decode code 645 = .ok (.if_icmp .eq 38, 3) := by decide +kernel
theorem d_L_law_648 : decode code 648 = .ok (.iconst 0, 1) := by decide +kernel
theorem d_L_law_649 : decode code 649 = .ok (.ireturn, 1) := by decide +kernel
theorem d_L_law_650 : decode code 650 = .ok (.aload_n 1, 1) := by decide +kernel
theorem d_L_law_651 : decode code 651 = .ok (.aload_n 0, 1) := by decide +kernel
theorem d_L_law_652 : decode code 652 = .ok (.iload_n 3, 1) := by decide +kernel
theorem d_L_law_653 : decode code 653 = .ok (.iconst 1, 1) := by decide +kernel
theorem d_L_law_654 : decode code 654 = .ok (.iadd, 1) := by decide +kernel
theorem d_L_law_655 : decode code 655 = .ok (.iaload, 1) := by decide +kernel
theorem d_L_law_656 : decode code 656 = .ok (.aload_n 0, 1) := by decide +kernel
theorem d_L_law_657 : decode code 657 = .ok (.iload_n 3, 1) := by decide +kernel
theorem d_L_law_658 : decode code 658 = .ok (.iconst 2, 1) := by decide +kernel
theorem d_L_law_659 : decode code 659 = .ok (.iadd, 1) := by decide +kernel
theorem d_L_law_660 : decode code 660 = .ok (.iaload, 1) := by decide +kernel
theorem d_L_law_661 : decode code 661 = .ok (.invokevirtual 97, 3) := by decide +kernel
theorem d_L_law_664 : decode code 664 = .ok (.aload_n 2, 1) := by decide +kernel
theorem d_L_law_665 : decode code 665 = .ok (.aload_n 0, 1) := by decide +kernel
theorem d_L_law_666 : decode code 666 = .ok (.iload_n 3, 1) := by decide +kernel
theorem d_L_law_667 : decode code 667 = .ok (.iconst 1, 1) := by decide +kernel
theorem d_L_law_668 : decode code 668 = .ok (.iadd, 1) := by decide +kernel
theorem d_L_law_669 : decode code 669 = .ok (.iaload, 1) := by decide +kernel
theorem d_L_law_670 : decode code 670 = .ok (.aload_n 0, 1) := by decide +kernel
theorem d_L_law_671 : decode code 671 = .ok (.iload_n 3, 1) := by decide +kernel
theorem d_L_law_672 : decode code 672 = .ok (.iconst 2, 1) := by decide +kernel
theorem d_L_law_673 : decode code 673 = .ok (.iadd, 1) := by decide +kernel
theorem d_L_law_674 : decode code 674 = .ok (.iaload, 1) := by decide +kernel
theorem d_L_law_675 : decode code 675 = .ok (.invokevirtual 100, 3) := by decide +kernel
theorem d_L_law_678 : decode code 678 = .ok (.if_icmp .eq 5, 3) := by decide +kernel
theorem d_L_law_681 : decode code 681 = .ok (.iconst 0, 1) := by decide +kernel
theorem d_L_law_682 : decode code 682 = .ok (.ireturn, 1) := by decide +kernel
theorem d_L_law_683 : decode code 683 = .ok (.iinc 3 4, 3) := by decide +kernel
theorem d_L_law_686 : decode code 686 = .ok (.goto (-648), 3) := by decide +kernel
theorem d_L_law_689 : decode code 689 = .ok (.iconst 1, 1) := by decide +kernel
theorem d_L_law_690 : decode code 690 = .ok (.ireturn, 1) := by decide +kernel
end
section
/-! Contracts: rows of ints, counters -/
abbrev aI (t : ClassId) (n : Nat) (f : Nat → Int32) : va_E := .inl (t, n, .inl f)
abbrev tyl (tI tZ tN tM : ClassId) : List (ClassId × FieldType) := [(tI, .int), (tZ, .boolean), (tN, .object R_N), (tM, .object R_M)]
theorem up_up {α : Type} {f : Nat → α} {q : Nat} {x y : α} : va_up (va_up f q x) q y = va_up f q y := by
  funext r
  by_cases h : r = q
  · simp [va_up, h]
  · simp [va_up, h]
theorem up_self {α : Type} {f : Nat → α} {q : Nat} {x : α} (h : f q = x) : va_up f q x = f := by
  funext r
  by_cases h2 : r = q
  · subst h2
    simp [va_up, h]
  · simp [va_up, h2]
theorem pr_s0 (m : Nat) (F C : Nat → Int32) {x : Int32} (hx : x = F m) : upd (pr 0 m F C) m x = pr 0 (m + 1) F C := by
  have := pr_succ 0 m F C hx
  rwa [Nat.zero_add] at this
theorem pr_i0 {m j : Nat} {F C : Nat → Int32} (h : j < m) : pr 0 m F C j = F j := by
  have := pr_in (w := 0) (F := F) (C := C) h
  rwa [Nat.zero_add] at this
section
variable {l : Launch} {D : va_G} {tI tZ tN tM : ClassId} {b N : Nat} {k : Nat → va_E}
set_option maxHeartbeats 4000000 in
set_option maxRecDepth 100000 in
/-- clear(row): every place is 0 -/
theorem c_T_clear {a n : Nat} {f : Nat → Int32} (hk : zc b N k a (aI tI n f)) (hn : n < 65536) : Met l y_T_clear (wy y_T_clear b_T_clear 2 none) (rm 0 0 0) (zPc D (tyl tI tZ tN tM) b N k [.ref a]) (zQv D b N (fun k2 => k2 = va_up k a (aI tI n (pr 0 n (fun _ => 0) f)))) 0 0 (zA b) := by
  refine z_met (own := R_T) (by decide) rfl rfl (Nat.le_of_ble_eq_true rfl) [some (.ref a), none] rfl ?_
  intro p e s m args below meth c X hin
  refine z_iconst X d_T_clear_0 (v := nI 0) (by decide +kernel) ?_
  refine z_istore_n X d_T_clear_1 (by decide) rfl ?_
  refine z_lv (lv2 := [some (.ref a), some (.int (nI 0))]) (fun _ _ q => q) ?_
  refine z_loop (σ := Unit) (K := fun v _ => va_up k a (aI tI n (pr 0 v (fun _ => 0) f))) (LV := fun v _ => [some (.ref a), some (.int (nI v))]) (I := fun _ _ => True) n 0 () (by omega) (trivial) (by rw [pr_0]; exact (up_self hk.2.2).symm) (rfl) ?_ ?_
  · intro s1 _
    have h0 := hk.up (y := aI tI n (pr 0 n (fun _ => 0) f))
    refine z_iload_n X d_T_clear_2 rfl ?_
    refine z_aload_n X d_T_clear_3 rfl ?_
    refine z_alen X h0 0 rfl d_T_clear_4 ?_
    refine z_icmp_geN X d_T_clear_5 (tgt := 18) (by decide) (by omega) (by omega) (fun _ => ?_) (fun h => absurd h (by omega))
    exact z_vret X d_T_clear_18 (by omega) (by omega) (rfl)
  · intro v s1 hv _ ih
    have h0 := hk.up (y := aI tI n (pr 0 v (fun _ => 0) f))
    refine z_iload_n X d_T_clear_2 rfl ?_
    refine z_aload_n X d_T_clear_3 rfl ?_
    refine z_alen X h0 0 rfl d_T_clear_4 ?_
    refine z_icmp_geN X d_T_clear_5 (tgt := 18) (by decide) (by omega) (by omega) (fun h => absurd h (by omega)) (fun _ => ?_)
    refine z_aload_n X d_T_clear_8 rfl ?_
    refine z_iload_n X d_T_clear_9 rfl ?_
    refine z_iconst X d_T_clear_10 (v := nI 0) (by decide +kernel) ?_
    refine z_iast X h0 0 rfl (j := v) rfl (by omega) (by omega) d_T_clear_11 ?_
    refine z_iincU X d_T_clear_12 rfl (by decide) rfl ?_
    refine z_lv (lv2 := [some (.ref a), some (.int (nI (v + 1)))]) (fun _ _ q => q) ?_
    refine z_goto X d_T_clear_15 (tgt := 2) (by decide) ?_
    exact z_at (ih () trivial) (by rw [up_up, pr_s0 v _ f nI_0]) rfl
set_option maxHeartbeats 4000000 in
set_option maxRecDepth 100000 in
/-- overwrite(row, source): of one length -/
theorem c_T_overwrite {a a2 n : Nat} {f g : Nat → Int32} (hk : zc b N k a (aI tI n f)) (hk2 : zc b N k a2 (aI tI n g)) (hne : a ≠ a2) (hn : n < 65536) : Met l y_T_overwrite (wy y_T_overwrite b_T_overwrite 3 none) (rm 0 0 0) (zPc D (tyl tI tZ tN tM) b N k [.ref a, .ref a2]) (zQv D b N (fun k2 => k2 = va_up k a (aI tI n (pr 0 n (g) f)))) 0 0 (zA b) := by
  refine z_met (own := R_T) (by decide) rfl rfl (Nat.le_of_ble_eq_true rfl) [some (.ref a), some (.ref a2), none] rfl ?_
  intro p e s m args below meth c X hin
  refine z_iconst X d_T_overwrite_0 (v := nI 0) (by decide +kernel) ?_
  refine z_istore_n X d_T_overwrite_1 (by decide) rfl ?_
  refine z_lv (lv2 := [some (.ref a), some (.ref a2), some (.int (nI 0))]) (fun _ _ q => q) ?_
  refine z_loop (σ := Unit) (K := fun v _ => va_up k a (aI tI n (pr 0 v (g) f))) (LV := fun v _ => [some (.ref a), some (.ref a2), some (.int (nI v))]) (I := fun _ _ => True) n 0 () (by omega) (trivial) (by rw [pr_0]; exact (up_self hk.2.2).symm) (rfl) ?_ ?_
  · intro s1 _
    have h0 := hk.up (y := aI tI n (pr 0 n (g) f))
    have h1 := hk2.ne (q := a) (y := aI tI n (pr 0 n (g) f)) (Ne.symm hne)
    refine z_iload_n X d_T_overwrite_2 rfl ?_
    refine z_aload_n X d_T_overwrite_3 rfl ?_
    refine z_alen X h0 0 rfl d_T_overwrite_4 ?_
    refine z_icmp_geN X d_T_overwrite_5 (tgt := 26) (by decide) (by omega) (by omega) (fun _ => ?_) (fun h => absurd h (by omega))
    exact z_vret X d_T_overwrite_26 (by omega) (by omega) (rfl)
  · intro v s1 hv _ ih
    have h0 := hk.up (y := aI tI n (pr 0 v (g) f))
    have h1 := hk2.ne (q := a) (y := aI tI n (pr 0 v (g) f)) (Ne.symm hne)
    refine z_iload_n X d_T_overwrite_2 rfl ?_
    refine z_aload_n X d_T_overwrite_3 rfl ?_
    refine z_alen X h0 0 rfl d_T_overwrite_4 ?_
    refine z_icmp_geN X d_T_overwrite_5 (tgt := 26) (by decide) (by omega) (by omega) (fun h => absurd h (by omega)) (fun _ => ?_)
    refine z_iload_n X d_T_overwrite_8 rfl ?_
    refine z_aload_n X d_T_overwrite_9 rfl ?_
    refine z_alen X h1 0 rfl d_T_overwrite_10 ?_
    refine z_icmp_geN X d_T_overwrite_11 (tgt := 26) (by decide) (by omega) (by omega) (fun h => absurd h (by omega)) (fun _ => ?_)
    refine z_aload_n X d_T_overwrite_14 rfl ?_
    refine z_iload_n X d_T_overwrite_15 rfl ?_
    refine z_aload_n X d_T_overwrite_16 rfl ?_
    refine z_iload_n X d_T_overwrite_17 rfl ?_
    refine z_iald X h1 0 rfl (j := v) rfl (by omega) (by omega) d_T_overwrite_18 ?_
    refine z_iast X h0 0 rfl (j := v) rfl (by omega) (by omega) d_T_overwrite_19 ?_
    refine z_iincU X d_T_overwrite_20 rfl (by decide) rfl ?_
    refine z_lv (lv2 := [some (.ref a), some (.ref a2), some (.int (nI (v + 1)))]) (fun _ _ q => q) ?_
    refine z_goto X d_T_overwrite_23 (tgt := 2) (by decide) ?_
    exact z_at (ih () trivial) (by rw [up_up, pr_s0 v _ f rfl]) rfl
set_option maxHeartbeats 4000000 in
set_option maxRecDepth 100000 in
/-- addTo(row, other): of one length -/
theorem c_T_addTo {a a2 n : Nat} {f g : Nat → Int32} (hk : zc b N k a (aI tI n f)) (hk2 : zc b N k a2 (aI tI n g)) (hne : a ≠ a2) (hn : n < 65536) : Met l y_T_addTo (wy y_T_addTo b_T_addTo 3 none) (rm 0 0 0) (zPc D (tyl tI tZ tN tM) b N k [.ref a, .ref a2]) (zQv D b N (fun k2 => k2 = va_up k a (aI tI n (pr 0 n (ad f g) f)))) 0 0 (zA b) := by
  refine z_met (own := R_T) (by decide) rfl rfl (Nat.le_of_ble_eq_true rfl) [some (.ref a), some (.ref a2), none] rfl ?_
  intro p e s m args below meth c X hin
  refine z_iconst X d_T_addTo_0 (v := nI 0) (by decide +kernel) ?_
  refine z_istore_n X d_T_addTo_1 (by decide) rfl ?_
  refine z_lv (lv2 := [some (.ref a), some (.ref a2), some (.int (nI 0))]) (fun _ _ q => q) ?_
  refine z_loop (σ := Unit) (K := fun v _ => va_up k a (aI tI n (pr 0 v (ad f g) f))) (LV := fun v _ => [some (.ref a), some (.ref a2), some (.int (nI v))]) (I := fun _ _ => True) n 0 () (by omega) (trivial) (by rw [pr_0]; exact (up_self hk.2.2).symm) (rfl) ?_ ?_
  · intro s1 _
    have h0 := hk.up (y := aI tI n (pr 0 n (ad f g) f))
    have h1 := hk2.ne (q := a) (y := aI tI n (pr 0 n (ad f g) f)) (Ne.symm hne)
    refine z_iload_n X d_T_addTo_2 rfl ?_
    refine z_aload_n X d_T_addTo_3 rfl ?_
    refine z_alen X h0 0 rfl d_T_addTo_4 ?_
    refine z_icmp_geN X d_T_addTo_5 (tgt := 29) (by decide) (by omega) (by omega) (fun _ => ?_) (fun h => absurd h (by omega))
    exact z_vret X d_T_addTo_29 (by omega) (by omega) (rfl)
  · intro v s1 hv _ ih
    have h0 := hk.up (y := aI tI n (pr 0 v (ad f g) f))
    have h1 := hk2.ne (q := a) (y := aI tI n (pr 0 v (ad f g) f)) (Ne.symm hne)
    refine z_iload_n X d_T_addTo_2 rfl ?_
    refine z_aload_n X d_T_addTo_3 rfl ?_
    refine z_alen X h0 0 rfl d_T_addTo_4 ?_
    refine z_icmp_geN X d_T_addTo_5 (tgt := 29) (by decide) (by omega) (by omega) (fun h => absurd h (by omega)) (fun _ => ?_)
    refine z_iload_n X d_T_addTo_8 rfl ?_
    refine z_aload_n X d_T_addTo_9 rfl ?_
    refine z_alen X h1 0 rfl d_T_addTo_10 ?_
    refine z_icmp_geN X d_T_addTo_11 (tgt := 29) (by decide) (by omega) (by omega) (fun h => absurd h (by omega)) (fun _ => ?_)
    refine z_aload_n X d_T_addTo_14 rfl ?_
    refine z_iload_n X d_T_addTo_15 rfl ?_
    refine z_dup2 X d_T_addTo_16 rfl rfl ?_
    refine z_iald X h0 0 rfl (j := v) rfl (by omega) (by omega) d_T_addTo_17 ?_
    refine z_aload_n X d_T_addTo_18 rfl ?_
    refine z_iload_n X d_T_addTo_19 rfl ?_
    refine z_iald X h1 0 rfl (j := v) rfl (by omega) (by omega) d_T_addTo_20 ?_
    refine z_iadd X d_T_addTo_21 ?_
    refine z_iast X h0 0 rfl (j := v) rfl (by omega) (by omega) d_T_addTo_22 ?_
    refine z_iincU X d_T_addTo_23 rfl (by decide) rfl ?_
    refine z_lv (lv2 := [some (.ref a), some (.ref a2), some (.int (nI (v + 1)))]) (fun _ _ q => q) ?_
    refine z_goto X d_T_addTo_26 (tgt := 2) (by decide) ?_
    exact z_at (ih () trivial) (by rw [up_up, pr_s0 v _ f (by rw [pr_out (Or.inr (by omega))]; rfl)]) rfl
set_option maxHeartbeats 4000000 in
set_option maxRecDepth 100000 in
/-- rankOf(x) -/
theorem c_C_rankOf {a kk x : Nat} {f : Nat → Int32} (h0 : zc b N k a (.inr (0, [.int (nI kk), .ref (a + 1)]))) (h1 : zc b N k (a + 1) (aI tI 32 f)) (hx : x < 32) : Met l y_C_rankOf (wy y_C_rankOf b_C_rankOf 4 (some .int)) (rm 0 0 0) (zPc D (tyl tI tZ tN tM) b N k [.ref a, .int (nI x)]) (zQi D b N (fun r k2 => r = nI (rank f x) ∧ k2 = k)) 0 0 (zA b) := by
  refine z_met (own := R_C) (by decide) rfl rfl (Nat.le_of_ble_eq_true rfl) [some (.ref a), some (.int (nI x)), none, none] rfl ?_
  intro p e s m args below meth c X hin
  refine z_iconst X d_C_rankOf_0 (v := nI 0) (by decide +kernel) ?_
  refine z_istore_n X d_C_rankOf_1 (by decide) rfl ?_
  refine z_lv (lv2 := [some (.ref a), some (.int (nI x)), some (.int (nI 0)), none]) (fun _ _ q => q) ?_
  refine z_iconst X d_C_rankOf_2 (v := nI 0) (by decide +kernel) ?_
  refine z_istore_n X d_C_rankOf_3 (by decide) rfl ?_
  refine z_lv (lv2 := [some (.ref a), some (.int (nI x)), some (.int (nI 0)), some (.int (nI 0))]) (fun _ _ q => q) ?_
  refine z_loop (σ := Unit) (K := fun _ _ => k) (LV := fun v _ => [some (.ref a), some (.int (nI x)), some (.int (nI (ct (pb f x) v))), some (.int (nI v))]) (I := fun _ _ => True) 32 0 () (by omega) (trivial) (rfl) (rfl) ?_ ?_
  · intro s1 _
    refine z_iload_n X d_C_rankOf_4 rfl ?_
    refine z_bipush X d_C_rankOf_5 (v := nI 32) (by decide +kernel) ?_
    refine z_icmp_geN X d_C_rankOf_7 (tgt := 54) (by decide) (by omega) (by omega) (fun _ => ?_) (fun h => absurd h (by omega))
    refine z_iload_n X d_C_rankOf_54 rfl ?_
    exact z_iret X d_C_rankOf_55 (by omega) (by omega) (⟨rfl, rfl⟩)
  · intro v s1 hv _ ih
    refine z_iload_n X d_C_rankOf_4 rfl ?_
    refine z_bipush X d_C_rankOf_5 (v := nI 32) (by decide +kernel) ?_
    refine z_icmp_geN X d_C_rankOf_7 (tgt := 54) (by decide) (by omega) (by omega) (fun h => absurd h (by omega)) (fun _ => ?_)
    refine z_aload_n X d_C_rankOf_10 rfl ?_
    refine z_get X h0 rfl in_C 1 (by decide) (wq lf_C_9) rfl d_C_rankOf_11 ?_
    refine z_iload_n X d_C_rankOf_14 rfl ?_
    refine z_iald X h1 0 rfl (j := v) rfl (by omega) (by omega) d_C_rankOf_15 ?_
    refine z_aload_n X d_C_rankOf_16 rfl ?_
    refine z_get X h0 rfl in_C 1 (by decide) (wq lf_C_9) rfl d_C_rankOf_17 ?_
    refine z_iload_n X d_C_rankOf_20 rfl ?_
    refine z_iald X h1 0 rfl (j := x) rfl (by omega) (by omega) d_C_rankOf_21 ?_
    refine z_icmp_gt X d_C_rankOf_22 (tgt := 45) (by decide) (fun hA => ?_) (fun hA => ?_)
    · skip
      refine z_iincU X d_C_rankOf_45 rfl (by decide) rfl ?_
      refine z_lv (lv2 := [some (.ref a), some (.int (nI x)), some (.int (nI (ct (pb f x) v + 1))), some (.int (nI v))]) (fun _ _ q => q) ?_
      refine z_iincU X d_C_rankOf_48 rfl (by decide) rfl ?_
      refine z_lv (lv2 := [some (.ref a), some (.int (nI x)), some (.int (nI (ct (pb f x) v + 1))), some (.int (nI (v + 1)))]) (fun _ _ q => q) ?_
      refine z_goto X d_C_rankOf_51 (tgt := 4) (by decide) ?_
      exact z_at (ih () trivial) rfl (by simp only [ct]; rw [if_pos (by simp [pb, hA])])
    · skip
      refine z_aload_n X d_C_rankOf_25 rfl ?_
      refine z_get X h0 rfl in_C 1 (by decide) (wq lf_C_9) rfl d_C_rankOf_26 ?_
      refine z_iload_n X d_C_rankOf_29 rfl ?_
      refine z_iald X h1 0 rfl (j := v) rfl (by omega) (by omega) d_C_rankOf_30 ?_
      refine z_aload_n X d_C_rankOf_31 rfl ?_
      refine z_get X h0 rfl in_C 1 (by decide) (wq lf_C_9) rfl d_C_rankOf_32 ?_
      refine z_iload_n X d_C_rankOf_35 rfl ?_
      refine z_iald X h1 0 rfl (j := x) rfl (by omega) (by omega) d_C_rankOf_36 ?_
      refine z_icmp_ne X d_C_rankOf_37 (tgt := 48) (by decide) (fun hB => ?_) (fun hB => ?_)
      · skip
        refine z_iincU X d_C_rankOf_48 rfl (by decide) rfl ?_
        refine z_lv (lv2 := [some (.ref a), some (.int (nI x)), some (.int (nI (ct (pb f x) v))), some (.int (nI (v + 1)))]) (fun _ _ q => q) ?_
        refine z_goto X d_C_rankOf_51 (tgt := 4) (by decide) ?_
        exact z_at (ih () trivial) rfl (by simp only [ct]; rw [if_neg (by simp [pb, hA, hB])]; rfl)
      · skip
        refine z_iload_n X d_C_rankOf_40 rfl ?_
        refine z_iload_n X d_C_rankOf_41 rfl ?_
        refine z_icmp_geN X d_C_rankOf_42 (tgt := 48) (by decide) (by omega) (by omega) (fun hC => ?_) (fun hC => ?_)
        · have hC2 : ¬ v < x := by omega
          refine z_iincU X d_C_rankOf_48 rfl (by decide) rfl ?_
          refine z_lv (lv2 := [some (.ref a), some (.int (nI x)), some (.int (nI (ct (pb f x) v))), some (.int (nI (v + 1)))]) (fun _ _ q => q) ?_
          refine z_goto X d_C_rankOf_51 (tgt := 4) (by decide) ?_
          exact z_at (ih () trivial) rfl (by simp only [ct]; rw [if_neg (by simp [pb, hA, hC2])]; rfl)
        · skip
          refine z_iincU X d_C_rankOf_45 rfl (by decide) rfl ?_
          refine z_lv (lv2 := [some (.ref a), some (.int (nI x)), some (.int (nI (ct (pb f x) v + 1))), some (.int (nI v))]) (fun _ _ q => q) ?_
          refine z_iincU X d_C_rankOf_48 rfl (by decide) rfl ?_
          refine z_lv (lv2 := [some (.ref a), some (.int (nI x)), some (.int (nI (ct (pb f x) v + 1))), some (.int (nI (v + 1)))]) (fun _ _ q => q) ?_
          refine z_goto X d_C_rankOf_51 (tgt := 4) (by decide) ?_
          exact z_at (ih () trivial) rfl (by simp only [ct]; rw [if_pos (by simp [pb, hA, hB, hC])])
end
theorem vr_at (f : Nat → Int32) (r : Int32) {v : Nat} (hv : v < 32) : vr f r (32 - v) = if 0 < f v ∧ nI (rank f v) = r then nI v else vr f r (32 - (v + 1)) := by
  rw [show 32 - v = (31 - v) + 1 by omega]
  simp only [vr]
  rw [show 31 - (31 - v) = v by omega, show 32 - (v + 1) = 31 - v by omega]
theorem vr_cases (h : Nat → Int32) {q : Nat} (hq : q < 32) : (vr h (nI q) 32 = -1 ∧ cn h ≤ q) ∨ ∃ x, x < 32 ∧ vr h (nI q) 32 = nI x ∧ q < cn h ∧ gu (pu h q) h 32 = some x := by
  obtain ⟨x, hg, hx, hr, -⟩ := pick h hq
  have hp := pick_pos h hx hr
  have hv := vr_pick h hq hx hr 32 (Nat.le_refl _)
  by_cases h0 : 0 < h x
  · exact Or.inr ⟨x, hx, by rw [hv, if_pos ⟨by omega, h0⟩], hp.mpr h0, hg⟩
  · refine Or.inl ⟨by rw [hv, if_neg (fun z => h0 z.2)], ?_⟩
    have : ¬ q < cn h := fun z => h0 (hp.mp z)
    omega
theorem i32_nle {x : Int32} (h : ¬ x ≤ 0) : 0 < x := by
  rw [Int32.le_iff_toInt_le] at h
  rw [Int32.lt_iff_toInt_lt]
  omega
theorem i32_le_n {x : Int32} (h : x ≤ 0) : ¬ 0 < x := by
  rw [Int32.le_iff_toInt_le] at h
  rw [Int32.lt_iff_toInt_lt]
  omega
theorem i32_nge {x : Int32} (h : ¬ 0 ≤ x) : x < 0 := by
  rw [Int32.le_iff_toInt_le] at h
  rw [Int32.lt_iff_toInt_lt]
  omega
theorem i32_ge_n {x : Int32} (h : 0 ≤ x) : ¬ x < 0 := by
  rw [Int32.le_iff_toInt_le] at h
  rw [Int32.lt_iff_toInt_lt]
  omega
theorem nI_one : nI 1 = 1 := by decide +kernel
section
variable {l : Launch} {D : va_G} {tI tZ tN tM : ClassId} {b N : Nat} {k : Nat → va_E}
set_option maxHeartbeats 4000000 in
set_option maxRecDepth 100000 in
/-- valueAtRank(r) -/
theorem c_C_valueAtRank {a kk : Nat} {r : Int32} {f : Nat → Int32} (h0 : zc b N k a (.inr (0, [.int (nI kk), .ref (a + 1)]))) (h1 : zc b N k (a + 1) (aI tI 32 f)) : Met l y_C_valueAtRank (wy y_C_valueAtRank b_C_valueAtRank 3 (some .int)) (rm 1 0 0) (zPc D (tyl tI tZ tN tM) b N k [.ref a, .int r]) (zQi D b N (fun x k2 => x = vr f r 32 ∧ k2 = k)) 0 0 (zA b) := by
  refine z_met (own := R_C) (by decide) rfl rfl (Nat.le_of_ble_eq_true rfl) [some (.ref a), some (.int r), none] rfl ?_
  intro p e s m args below meth c X hin
  refine z_iconst X d_C_valueAtRank_0 (v := nI 0) (by decide +kernel) ?_
  refine z_istore_n X d_C_valueAtRank_1 (by decide) rfl ?_
  refine z_lv (lv2 := [some (.ref a), some (.int r), some (.int (nI 0))]) (fun _ _ q => q) ?_
  refine z_loop (σ := Unit) (K := fun _ _ => k) (LV := fun v _ => [some (.ref a), some (.int r), some (.int (nI v))]) (I := fun v _ => vr f r 32 = vr f r (32 - v)) 32 0 () (by omega) (rfl) (rfl) (rfl) ?_ ?_
  · intro s1 hI
    refine z_iload_n X d_C_valueAtRank_2 rfl ?_
    refine z_bipush X d_C_valueAtRank_3 (v := nI 32) (by decide +kernel) ?_
    refine z_icmp_geN X d_C_valueAtRank_5 (tgt := 34) (by decide) (by omega) (by omega) (fun _ => ?_) (fun h => absurd h (by omega))
    refine z_iconst X d_C_valueAtRank_34 (v := -1) (by decide +kernel) ?_
    exact z_iret X d_C_valueAtRank_35 (by omega) (by omega) (⟨hI.symm, rfl⟩)
  · intro v s1 hv hI ih
    rw [vr_at f r hv] at hI
    refine z_iload_n X d_C_valueAtRank_2 rfl ?_
    refine z_bipush X d_C_valueAtRank_3 (v := nI 32) (by decide +kernel) ?_
    refine z_icmp_geN X d_C_valueAtRank_5 (tgt := 34) (by decide) (by omega) (by omega) (fun h => absurd h (by omega)) (fun _ => ?_)
    refine z_aload_n X d_C_valueAtRank_8 rfl ?_
    refine z_get X h0 rfl in_C 1 (by decide) (wq lf_C_9) rfl d_C_valueAtRank_9 ?_
    refine z_iload_n X d_C_valueAtRank_12 rfl ?_
    refine z_iald X h1 0 rfl (j := v) rfl (by omega) (by omega) d_C_valueAtRank_13 ?_
    refine z_if_le X d_C_valueAtRank_14 (tgt := 28) (by decide) (fun hA => ?_) (fun hA => ?_)
    · skip
      refine z_iincU X d_C_valueAtRank_28 rfl (by decide) rfl ?_
      refine z_lv (lv2 := [some (.ref a), some (.int r), some (.int (nI (v + 1)))]) (fun _ _ q => q) ?_
      refine z_goto X d_C_valueAtRank_31 (tgt := 2) (by decide) ?_
      exact z_at (ih () (by rw [hI, if_neg (fun q => i32_le_n hA q.1)])) rfl rfl
    · skip
      refine z_aload_n X d_C_valueAtRank_17 rfl ?_
      refine z_iload_n X d_C_valueAtRank_18 rfl ?_
      refine z_callVi X (c_C_rankOf h0 h1 hv) h0 rfl (cwV 1 X.1.2.2.2.2 (gi_V lm_C_37 vi_C_rankOf ve_C_rankOf vn_C vc_C_rankOf) rfl rfl rfl (by decide +kernel) ⟨Nat.le_of_ble_eq_true rfl, Nat.le_of_ble_eq_true rfl⟩) (As := [.int (nI v)]) (st := []) rfl rfl (Nat.le_of_ble_eq_true rfl) d_C_valueAtRank_19 ⟨Nat.le_of_ble_eq_true rfl, Nat.le_of_ble_eq_true rfl⟩ (fun x k2 hq => ?_)
      obtain ⟨rfl, rfl⟩ := hq
      refine z_iload_n X d_C_valueAtRank_22 rfl ?_
      refine z_icmp_ne X d_C_valueAtRank_23 (tgt := 28) (by decide) (fun hB => ?_) (fun hB => ?_)
      · skip
        refine z_iincU X d_C_valueAtRank_28 rfl (by decide) rfl ?_
        refine z_lv (lv2 := [some (.ref a), some (.int r), some (.int (nI (v + 1)))]) (fun _ _ q => q) ?_
        refine z_goto X d_C_valueAtRank_31 (tgt := 2) (by decide) ?_
        exact z_at (ih () (by rw [hI, if_neg (fun q => hB q.2)])) rfl rfl
      · skip
        refine z_iload_n X d_C_valueAtRank_26 rfl ?_
        exact z_iret X d_C_valueAtRank_27 (by omega) (by omega) (⟨by rw [hI, if_pos ⟨i32_nle hA, hB⟩], rfl⟩)
set_option maxHeartbeats 4000000 in
set_option maxRecDepth 100000 in
/-- lowerAll(x) -/
theorem c_C_lowerAll {a kk : Nat} {x : Int32} {f : Nat → Int32} (h0 : zc b N k a (.inr (0, [.int (nI kk), .ref (a + 1)]))) (h1 : zc b N k (a + 1) (aI tI 32 f)) : Met l y_C_lowerAll (wy y_C_lowerAll b_C_lowerAll 3 none) (rm 1 0 0) (zPc D (tyl tI tZ tN tM) b N k [.ref a, .int x]) (zQv D b N (fun k2 => k2 = va_up k (a + 1) (aI tI 32 (lw f x)))) 0 0 (zA b) := by
  refine z_met (own := R_C) (by decide) rfl rfl (Nat.le_of_ble_eq_true rfl) [some (.ref a), some (.int x), none] rfl ?_
  intro p e s m args below meth c X hin
  refine z_iconst X d_C_lowerAll_0 (v := nI 0) (by decide +kernel) ?_
  refine z_istore_n X d_C_lowerAll_1 (by decide) rfl ?_
  refine z_lv (lv2 := [some (.ref a), some (.int x), some (.int (nI 0))]) (fun _ _ q => q) ?_
  refine z_loop (σ := Unit) (K := fun v _ => va_up k (a + 1) (aI tI 32 (pr 0 v (lw f x) f))) (LV := fun v _ => [some (.ref a), some (.int x), some (.int (nI v))]) (I := fun _ _ => True) 32 0 () (by omega) (trivial) (by rw [pr_0]; exact (up_self h1.2.2).symm) (rfl) ?_ ?_
  · intro s1 _
    have g0 := h0.ne (q := a + 1) (y := aI tI 32 (pr 0 32 (lw f x) f)) (by omega)
    have g1 := h1.up (y := aI tI 32 (pr 0 32 (lw f x) f))
    refine z_iload_n X d_C_lowerAll_2 rfl ?_
    refine z_bipush X d_C_lowerAll_3 (v := nI 32) (by decide +kernel) ?_
    refine z_icmp_geN X d_C_lowerAll_5 (tgt := 32) (by decide) (by omega) (by omega) (fun _ => ?_) (fun h => absurd h (by omega))
    exact z_vret X d_C_lowerAll_32 (by omega) (by omega) (by rw [pr_all]; intro i hi; unfold lw; rw [if_neg (by omega)])
  · intro v s1 hv _ ih
    have g0 := h0.ne (q := a + 1) (y := aI tI 32 (pr 0 v (lw f x) f)) (by omega)
    have g1 := h1.up (y := aI tI 32 (pr 0 v (lw f x) f))
    refine z_iload_n X d_C_lowerAll_2 rfl ?_
    refine z_bipush X d_C_lowerAll_3 (v := nI 32) (by decide +kernel) ?_
    refine z_icmp_geN X d_C_lowerAll_5 (tgt := 32) (by decide) (by omega) (by omega) (fun h => absurd h (by omega)) (fun _ => ?_)
    refine z_aload_n X d_C_lowerAll_8 rfl ?_
    refine z_get X g0 rfl in_C 1 (by decide) (wq lf_C_9) rfl d_C_lowerAll_9 ?_
    refine z_iload_n X d_C_lowerAll_12 rfl ?_
    refine z_iconst X d_C_lowerAll_13 (v := nI 0) (by decide +kernel) ?_
    refine z_aload_n X d_C_lowerAll_14 rfl ?_
    refine z_get X g0 rfl in_C 1 (by decide) (wq lf_C_9) rfl d_C_lowerAll_15 ?_
    refine z_iload_n X d_C_lowerAll_18 rfl ?_
    refine z_iald X g1 0 rfl (j := v) rfl (by omega) (by omega) d_C_lowerAll_19 ?_
    refine z_iload_n X d_C_lowerAll_20 rfl ?_
    refine z_isub X d_C_lowerAll_21 ?_
    refine z_mmax X (wq lm_C_31) (wq vs_max) (wq vn_Math) (wq vc_max) d_C_lowerAll_22 (Nat.le_of_ble_eq_true rfl) (Nat.le_of_ble_eq_true rfl) (Nat.le_of_ble_eq_true rfl) (Nat.le_of_ble_eq_true rfl) ?_
    refine z_top (y := .int (lw f x v)) (by unfold lw; rw [if_pos hv, pr_out (Or.inr (by omega)), nI_0]) ?_
    refine z_iast X g1 0 rfl (j := v) rfl (by omega) (by omega) d_C_lowerAll_25 ?_
    refine z_iincU X d_C_lowerAll_26 rfl (by decide) rfl ?_
    refine z_lv (lv2 := [some (.ref a), some (.int x), some (.int (nI (v + 1)))]) (fun _ _ q => q) ?_
    refine z_goto X d_C_lowerAll_29 (tgt := 2) (by decide) ?_
    exact z_at (ih () trivial) (by rw [up_up, pr_s0 v _ f rfl]) rfl
set_option maxHeartbeats 4000000 in
set_option maxRecDepth 100000 in
/-- Counters.take(v) -/
theorem c_C_take {a kk v : Nat} {f : Nat → Int32} (h0 : zc b N k a (.inr (0, [.int (nI kk), .ref (a + 1)]))) (h1 : zc b N k (a + 1) (aI tI 32 f)) (hv : v < 32) (hk1 : 1 ≤ kk) (hk6 : kk ≤ 6) : Met l y_C_take (wy y_C_take b_C_take 2 none) (rm 2 0 0) (zPc D (tyl tI tZ tN tM) b N k [.ref a, .int (nI v)]) (zQv D b N (fun k2 => k2 = va_up k (a + 1) (aI tI 32 (tkC kk f v)))) 0 0 (zA b) := by
  refine z_met (own := R_C) (by decide) rfl rfl (Nat.le_of_ble_eq_true rfl) [some (.ref a), some (.int (nI v))] rfl ?_
  intro p e s m args below meth c X hin
  refine z_aload_n X d_C_take_0 rfl ?_
  refine z_get X h0 rfl in_C 1 (by decide) (wq lf_C_9) rfl d_C_take_1 ?_
  refine z_iload_n X d_C_take_4 rfl ?_
  refine z_iald X h1 0 rfl (j := v) rfl (by omega) (by omega) d_C_take_5 ?_
  refine z_if_gt X d_C_take_6 (tgt := 22) (by decide) (fun hA => ?_) (fun hA => ?_)
  · skip
    refine z_aload_n X d_C_take_22 rfl ?_
    refine z_get X h0 rfl in_C 1 (by decide) (wq lf_C_9) rfl d_C_take_23 ?_
    refine z_iload_n X d_C_take_26 rfl ?_
    refine z_dup2 X d_C_take_27 rfl rfl ?_
    refine z_iald X h1 0 rfl (j := v) rfl (by omega) (by omega) d_C_take_28 ?_
    refine z_iconst X d_C_take_29 (v := nI 1) (by decide +kernel) ?_
    refine z_iadd X d_C_take_30 ?_
    refine z_iast X h1 0 rfl (j := v) rfl (by omega) (by omega) d_C_take_31 ?_
    refine z_goto X d_C_take_32 (tgt := 40) (by decide) ?_
    exact z_vret X d_C_take_40 (by omega) (by omega) (by unfold tkC; rw [if_pos (Or.inl hA), nI_one])
  · skip
    refine z_aload_n X d_C_take_9 rfl ?_
    refine z_aload_n X d_C_take_10 rfl ?_
    refine z_get X h0 rfl in_C 0 (by decide) (wq lf_C_15) rfl d_C_take_11 ?_
    refine z_iconst X d_C_take_14 (v := nI 1) (by decide +kernel) ?_
    refine z_isubN X d_C_take_15 (by omega) ?_
    refine z_callVi X (c_C_valueAtRank h0 h1) h0 rfl (cwV 1 X.1.2.2.2.2 (gi_V lm_C_19 vi_C_valueAtRank ve_C_valueAtRank vn_C vc_C_valueAtRank) rfl rfl rfl (by decide +kernel) ⟨Nat.le_of_ble_eq_true rfl, Nat.le_of_ble_eq_true rfl⟩) (As := [.int (nI (kk - 1))]) (st := []) rfl rfl (Nat.le_of_ble_eq_true rfl) d_C_take_16 ⟨Nat.le_of_ble_eq_true rfl, Nat.le_of_ble_eq_true rfl⟩ (fun x k2 hq => ?_)
    obtain ⟨rfl, rfl⟩ := hq
    have hz := vr_neg f (q := kk - 1) (by omega)
    refine z_if_ge X d_C_take_19 (tgt := 35) (by decide) (fun hB => ?_) (fun hB => ?_)
    · skip
      refine z_aload_n X d_C_take_35 rfl ?_
      refine z_iconst X d_C_take_36 (v := nI 1) (by decide +kernel) ?_
      refine z_callVv X (c_C_lowerAll h0 h1) h0 rfl (cwV 1 X.1.2.2.2.2 (gi_V lm_C_23 vi_C_lowerAll ve_C_lowerAll vn_C vc_C_lowerAll) rfl rfl rfl (by decide +kernel) ⟨Nat.le_of_ble_eq_true rfl, Nat.le_of_ble_eq_true rfl⟩) (As := [.int (nI 1)]) (st := []) rfl rfl (Nat.le_of_ble_eq_true rfl) d_C_take_37 ⟨Nat.le_of_ble_eq_true rfl, Nat.le_of_ble_eq_true rfl⟩ (fun k2 hq => ?_)
      subst hq
      exact z_vret X d_C_take_40 (by omega) (by omega) (by unfold tkC; rw [if_neg (fun q => q.elim hA (fun q => i32_ge_n hB (hz.mpr (by omega)))), nI_one])
    · skip
      refine z_aload_n X d_C_take_22 rfl ?_
      refine z_get X h0 rfl in_C 1 (by decide) (wq lf_C_9) rfl d_C_take_23 ?_
      refine z_iload_n X d_C_take_26 rfl ?_
      refine z_dup2 X d_C_take_27 rfl rfl ?_
      refine z_iald X h1 0 rfl (j := v) rfl (by omega) (by omega) d_C_take_28 ?_
      refine z_iconst X d_C_take_29 (v := nI 1) (by decide +kernel) ?_
      refine z_iadd X d_C_take_30 ?_
      refine z_iast X h1 0 rfl (j := v) rfl (by omega) (by omega) d_C_take_31 ?_
      refine z_goto X d_C_take_32 (tgt := 40) (by decide) ?_
      exact z_vret X d_C_take_40 (by omega) (by omega) (by unfold tkC; rw [if_pos (Or.inr (by have := hz.mp (i32_nge hB); omega)), nI_one])
set_option maxHeartbeats 4000000 in
set_option maxRecDepth 100000 in
/-- Counters.merge(other) -/
theorem c_C_merge {a a2 kk kk2 : Nat} {f g : Nat → Int32} (h0 : zc b N k a (.inr (0, [.int (nI kk), .ref (a + 1)]))) (h1 : zc b N k (a + 1) (aI tI 32 f)) (g0 : zc b N k a2 (.inr (0, [.int (nI kk2), .ref (a2 + 1)]))) (g1 : zc b N k (a2 + 1) (aI tI 32 g)) (hne : a + 2 ≤ a2 ∨ a2 + 2 ≤ a) (hg : ∀ i, 32 ≤ i → g i = 0) (hk6 : kk ≤ 6) : Met l y_C_merge (wy y_C_merge b_C_merge 3 none) (rm 2 0 0) (zPc D (tyl tI tZ tN tM) b N k [.ref a, .ref a2]) (zQv D b N (fun k2 => k2 = va_up k (a + 1) (aI tI 32 (mgC kk f g)))) 0 0 (zA b) := by
  refine z_met (own := R_C) (by decide) rfl rfl (Nat.le_of_ble_eq_true rfl) [some (.ref a), some (.ref a2), none] rfl ?_
  intro p e s m args below meth c X hin
  refine z_aload_n X d_C_merge_0 rfl ?_
  refine z_get X h0 rfl in_C 1 (by decide) (wq lf_C_9) rfl d_C_merge_1 ?_
  refine z_aload_n X d_C_merge_4 rfl ?_
  refine z_get X g0 rfl in_C 1 (by decide) (wq lf_C_9) rfl d_C_merge_5 ?_
  refine z_callSNv X (a := 0) (c_T_addTo h1 g1 (by omega) (by omega)) (⟨va_cnB 2 X.1.2.2.2.2 (gi_wy vc_T_addTo) rfl rfl rfl (zn_C_27 X.2.2.2.2.2) (X.1.2.2.2.2 _ (wq vn_T)) (by decide +kernel) ⟨Nat.le_of_ble_eq_true rfl, Nat.le_of_ble_eq_true rfl⟩, X.1.2.2.2.2 _ (wq vs_T_addTo), trivial⟩) (As := [.ref (a + 1), .ref (a2 + 1)]) (st := []) rfl rfl (Nat.le_of_ble_eq_true rfl) d_C_merge_8 ⟨Nat.le_of_ble_eq_true rfl, Nat.le_of_ble_eq_true rfl⟩ (fun k2 hq => ?_)
  subst hq
  rw [pr_all (m := 32) (F := ad f g) (C := f) (fun i hi => by unfold ad; rw [hg i hi]; exact Int32.add_zero _)]
  have h0 := h0.ne (q := a + 1) (y := aI tI 32 (ad f g)) (by omega)
  have h1 := h1.up (y := aI tI 32 (ad f g))
  refine z_aload_n X d_C_merge_11 rfl ?_
  refine z_aload_n X d_C_merge_12 rfl ?_
  refine z_get X h0 rfl in_C 0 (by decide) (wq lf_C_15) rfl d_C_merge_13 ?_
  refine z_callVi X (c_C_valueAtRank h0 h1) h0 rfl (cwV 1 X.1.2.2.2.2 (gi_V lm_C_19 vi_C_valueAtRank ve_C_valueAtRank vn_C vc_C_valueAtRank) rfl rfl rfl (by decide +kernel) ⟨Nat.le_of_ble_eq_true rfl, Nat.le_of_ble_eq_true rfl⟩) (As := [.int (nI kk)]) (st := []) rfl rfl (Nat.le_of_ble_eq_true rfl) d_C_merge_16 ⟨Nat.le_of_ble_eq_true rfl, Nat.le_of_ble_eq_true rfl⟩ (fun x k2 hq => ?_)
  obtain ⟨rfl, rfl⟩ := hq
  rcases vr_cases (ad f g) (q := kk) (by omega) with ⟨hv, hc⟩ | ⟨x, hx, hv, hc, hgu⟩
  · refine z_top (y := .int (-1)) (by rw [hv]) ?_
    refine z_istore_n X d_C_merge_19 (by decide) rfl ?_
    refine z_lv (lv2 := [some (.ref a), some (.ref a2), some (.int (-1))]) (fun _ _ q => q) ?_
    refine z_iload_n X d_C_merge_20 rfl ?_
    refine z_if_lt X d_C_merge_21 (tgt := 34) (by decide) (fun _ => ?_) (fun h => absurd h (by decide))
    exact z_vret X d_C_merge_34 (by omega) (by omega) (by unfold mgC; rw [if_neg (by omega)])
  · refine z_top (y := .int (nI x)) (by rw [hv]) ?_
    refine z_istore_n X d_C_merge_19 (by decide) rfl ?_
    refine z_lv (lv2 := [some (.ref a), some (.ref a2), some (.int (nI x))]) (fun _ _ q => q) ?_
    refine z_iload_n X d_C_merge_20 rfl ?_
    refine z_if_ltN X d_C_merge_21 (tgt := 34) (by decide) (by omega) (fun h => absurd h (by omega)) (fun _ => ?_)
    refine z_aload_n X d_C_merge_24 rfl ?_
    refine z_aload_n X d_C_merge_25 rfl ?_
    refine z_get X h0 rfl in_C 1 (by decide) (wq lf_C_9) rfl d_C_merge_26 ?_
    refine z_iload_n X d_C_merge_29 rfl ?_
    refine z_iald X h1 0 rfl (j := x) rfl (by omega) (by omega) d_C_merge_30 ?_
    refine z_callVv X (c_C_lowerAll h0 h1) h0 rfl (cwV 1 X.1.2.2.2.2 (gi_V lm_C_23 vi_C_lowerAll ve_C_lowerAll vn_C vc_C_lowerAll) rfl rfl rfl (by decide +kernel) ⟨Nat.le_of_ble_eq_true rfl, Nat.le_of_ble_eq_true rfl⟩) (As := [.int ((ad f g) x)]) (st := []) rfl rfl (Nat.le_of_ble_eq_true rfl) d_C_merge_31 ⟨Nat.le_of_ble_eq_true rfl, Nat.le_of_ble_eq_true rfl⟩ (fun k2 hq => ?_)
    subst hq
    exact z_vret X d_C_merge_34 (by omega) (by omega) (by unfold mgC; rw [if_pos hc, hgu, up_up]; rfl)
end
end
section
/-! Contracts: Digest -/
section
variable {p : Program} {l : Launch} {e : Env} {R : Room} {s : State} {m : MethodId} {args : Array Value} {below : List Frame} {meth : Method} {c : Code} {cells slots : Nat} {Q : State → Prop}
variable {nL : Nat} {D : va_G} {b N : Nat} {k : Nat → va_E} {pc : Nat} {lv : List (Option Value)} {st : List Value}
/-- a local is forgotten -/
theorem z_drop (i : Nat) (kk : Z p l e R s m args below meth c nL D b N k cells slots Q pc (lv.set i none) st) : Z p l e R s m args below meth c nL D b N k cells slots Q pc lv st := by
  refine z_lv (lv2 := lv.set i none) (fun j v h => ?_) kk
  by_cases hj : j = i
  · subst hj
    have hl : j < lv.length := by
      have := (List.getElem?_eq_some_iff.mp h).1
      simpa using this
    rw [List.getElem?_set_self hl] at h
    cases h
  · rwa [List.getElem?_set_ne (Ne.symm hj)] at h
end
def cb (c : Bool) : Nat := if c = true then 1 else 0
def vq (g : Nat → Int32) (th : Int32) : Nat → Int32
  | 0 => -1
  | n + 1 => if ¬ eb g (31 - n + 1) < nI 1 ∧ ¬ nI 1000 * eb g (31 - n + 1) < th then nI (31 - n) else vq g th n
theorem vq_at (g : Nat → Int32) (th : Int32) {v : Nat} (hv : v < 32) : vq g th (32 - v) = if ¬ eb g (v + 1) < nI 1 ∧ ¬ nI 1000 * eb g (v + 1) < th then nI v else vq g th (32 - (v + 1)) := by
  rw [show 32 - v = (31 - v) + 1 by omega]
  simp only [vq]
  rw [show 31 - (31 - v) = v by omega, show 32 - (v + 1) = 31 - v by omega]
theorem i32_lt_n {x y : Int32} (h : y < x) : ¬ x ≤ y := by
  rw [Int32.lt_iff_toInt_lt] at h
  rw [Int32.le_iff_toInt_le]
  omega
theorem i32_nlt {x y : Int32} (h : ¬ y < x) : x ≤ y := by
  rw [Int32.lt_iff_toInt_lt] at h
  rw [Int32.le_iff_toInt_le]
  omega
section
variable {l : Launch} {D : va_G} {tI tZ tN tM : ClassId} {b N : Nat} {k : Nat → va_E}
set_option maxHeartbeats 4000000 in
set_option maxRecDepth 100000 in
/-- pass(t) -/
theorem c_D_pass {a : Nat} {dv : Int32} {g : Nat → Int32} {t : Int32} (h0 : zc b N k a (.inr (1, [.int dv, .ref (a + 1)]))) (h1 : zc b N k (a + 1) (aI tI 64 g)) : Met l y_D_pass (wy y_D_pass b_D_pass 5 (some .boolean)) (rm 0 0 0) (zPc D (tyl tI tZ tN tM) b N k [.ref a, .int t]) (zQi D b N (fun x k2 => x = nI (cb (ps t 31 g false).2) ∧ k2 = va_up k (a + 1) (aI tI 64 (ps t 31 g false).1))) 0 0 (zA b) := by
  refine z_met (own := R_D) (by decide) rfl rfl (Nat.le_of_ble_eq_true rfl) [some (.ref a), some (.int t), none, none, none] rfl ?_
  intro p e s m args below meth c X hin
  refine z_iconst X d_D_pass_0 (v := nI 0) (by decide +kernel) ?_
  refine z_istore_n X d_D_pass_1 (by decide) rfl ?_
  refine z_lv (lv2 := [some (.ref a), some (.int t), some (.int (nI 0)), none, none]) (fun _ _ q => q) ?_
  refine z_bipush X d_D_pass_2 (v := nI 31) (by decide +kernel) ?_
  refine z_istore_n X d_D_pass_4 (by decide) rfl ?_
  refine z_lv (lv2 := [some (.ref a), some (.int t), some (.int (nI 0)), some (.int (nI 31)), none]) (fun _ _ q => q) ?_
  refine z_loopD (σ := (Nat → Int32) × Bool) (K := fun _ (q : (Nat → Int32) × Bool) => va_up k (a + 1) (aI tI 64 q.1)) (LV := fun r (q : (Nat → Int32) × Bool) => [some (.ref a), some (.int t), some (.int (nI (cb q.2))), some (.int (nI r)), none]) (I := fun r (q : (Nat → Int32) × Bool) => r < 32 ∧ ps t 31 g false = ps t r q.1 q.2) 31 (g, false) (⟨by omega, rfl⟩) ((up_self h1.2.2).symm) (rfl) ?_ ?_
  · intro q hI
    obtain ⟨g2, ch⟩ := q
    refine z_lv (lv2 := [some (.ref a), some (.int t), some (.int (nI (cb ch))), some (.int (nI 0)), none]) (fun _ _ q => q) ?_
    refine z_iload_n X d_D_pass_5 rfl ?_
    refine z_iconst X d_D_pass_6 (v := nI 1) (by decide +kernel) ?_
    refine z_icmp_ltN X d_D_pass_7 (tgt := 88) (by decide) (by omega) (by omega) (fun _ => ?_) (fun h => absurd h (by omega))
    refine z_iload_n X d_D_pass_88 rfl ?_
    exact z_zret X d_D_pass_89 (by cases ch <;> decide +kernel) (by omega) (by omega) (by rw [hI.2]; exact ⟨rfl, rfl⟩)
  · intro r q hI ih
    obtain ⟨g2, ch⟩ := q
    obtain ⟨hr, hI⟩ := hI
    try dsimp only at hr hI
    refine z_lv (lv2 := [some (.ref a), some (.int t), some (.int (nI (cb ch))), some (.int (nI (r + 1))), none]) (fun _ _ q => q) ?_
    have g0 := h0.ne (q := a + 1) (y := aI tI 64 g2) (by omega)
    have g1 := h1.up (y := aI tI 64 g2)
    refine z_iload_n X d_D_pass_5 rfl ?_
    refine z_iconst X d_D_pass_6 (v := nI 1) (by decide +kernel) ?_
    refine z_icmp_ltN X d_D_pass_7 (tgt := 88) (by decide) (by omega) (by omega) (fun h => absurd h (by omega)) (fun _ => ?_)
    refine z_aload_n X d_D_pass_10 rfl ?_
    refine z_get X g0 rfl in_D 1 (by decide) (wq lf_D_9) rfl d_D_pass_11 ?_
    refine z_iconst X d_D_pass_14 (v := nI 2) (by decide +kernel) ?_
    refine z_iload_n X d_D_pass_15 rfl ?_
    refine z_imulN X d_D_pass_16 ?_
    refine z_iald X g1 0 rfl (j := 2 * (r + 1)) rfl (by omega) (by omega) d_D_pass_17 ?_
    refine z_aload_n X d_D_pass_18 rfl ?_
    refine z_get X g0 rfl in_D 1 (by decide) (wq lf_D_9) rfl d_D_pass_19 ?_
    refine z_iconst X d_D_pass_22 (v := nI 2) (by decide +kernel) ?_
    refine z_iload_n X d_D_pass_23 rfl ?_
    refine z_imulN X d_D_pass_24 ?_
    refine z_iconst X d_D_pass_25 (v := nI 1) (by decide +kernel) ?_
    refine z_iaddN X d_D_pass_26 ?_
    refine z_iald X g1 0 rfl (j := (2 * (r + 1)) + 1) rfl (by omega) (by omega) d_D_pass_27 ?_
    refine z_iadd X d_D_pass_28 ?_
    refine z_top (y := .int (bl g2 (r + 1))) (rfl) ?_
    refine z_istore X d_D_pass_29 (by decide) rfl ?_
    refine z_lv (lv2 := [some (.ref a), some (.int t), some (.int (nI (cb ch))), some (.int (nI (r + 1))), some (.int (bl g2 (r + 1)))]) (fun _ _ q => q) ?_
    refine z_iload X d_D_pass_31 rfl ?_
    refine z_if_le X d_D_pass_33 (tgt := 82) (by decide) (fun hA => ?_) (fun hA => ?_)
    · skip
      refine z_iincD X d_D_pass_82 rfl (by decide) rfl ?_
      refine z_lv (lv2 := [some (.ref a), some (.int t), some (.int (nI (cb ch))), some (.int (nI r)), some (.int (bl g2 (r + 1)))]) (fun _ _ q => q) ?_
      refine z_goto X d_D_pass_85 (tgt := 5) (by decide) ?_
      refine z_drop 4 ?_
      exact z_at (ih (g2, ch) ⟨by omega, by rw [hI]; show (if _ then _ else _) = _; rw [if_neg (by simp [pok, i32_le_n hA])]⟩) rfl rfl
    · skip
      refine z_aload_n X d_D_pass_36 rfl ?_
      refine z_get X g0 rfl in_D 1 (by decide) (wq lf_D_9) rfl d_D_pass_37 ?_
      refine z_iload_n X d_D_pass_40 rfl ?_
      refine z_iald X g1 0 rfl (j := r + 1) rfl (by omega) (by omega) d_D_pass_41 ?_
      refine z_iload X d_D_pass_42 rfl ?_
      refine z_iadd X d_D_pass_44 ?_
      refine z_iload_n X d_D_pass_45 rfl ?_
      refine z_icmp_gt X d_D_pass_46 (tgt := 82) (by decide) (fun hB => ?_) (fun hB => ?_)
      · skip
        refine z_iincD X d_D_pass_82 rfl (by decide) rfl ?_
        refine z_lv (lv2 := [some (.ref a), some (.int t), some (.int (nI (cb ch))), some (.int (nI r)), some (.int (bl g2 (r + 1)))]) (fun _ _ q => q) ?_
        refine z_goto X d_D_pass_85 (tgt := 5) (by decide) ?_
        refine z_drop 4 ?_
        exact z_at (ih (g2, ch) ⟨by omega, by rw [hI]; show (if _ then _ else _) = _; rw [if_neg (by simp only [pok, Bool.and_eq_true, decide_eq_true_eq]; exact fun q => i32_lt_n hB q.2)]⟩) rfl rfl
      · skip
        refine z_aload_n X d_D_pass_49 rfl ?_
        refine z_get X g0 rfl in_D 1 (by decide) (wq lf_D_9) rfl d_D_pass_50 ?_
        refine z_iload_n X d_D_pass_53 rfl ?_
        refine z_dup2 X d_D_pass_54 rfl rfl ?_
        refine z_iald X g1 0 rfl (j := r + 1) rfl (by omega) (by omega) d_D_pass_55 ?_
        refine z_iload X d_D_pass_56 rfl ?_
        refine z_iadd X d_D_pass_58 ?_
        refine z_iast X g1 0 rfl (j := r + 1) rfl (by omega) (by omega) d_D_pass_59 ?_
        have g0 := g0.ne (q := (a + 1)) (y := aI tI 64 (upd g2 (r + 1) ((g2 (r + 1)) + (bl g2 (r + 1))))) (by omega)
        have g1 := g1.up (y := aI tI 64 (upd g2 (r + 1) ((g2 (r + 1)) + (bl g2 (r + 1)))))
        refine z_aload_n X d_D_pass_60 rfl ?_
        refine z_get X g0 rfl in_D 1 (by decide) (wq lf_D_9) rfl d_D_pass_61 ?_
        refine z_iconst X d_D_pass_64 (v := nI 2) (by decide +kernel) ?_
        refine z_iload_n X d_D_pass_65 rfl ?_
        refine z_imulN X d_D_pass_66 ?_
        refine z_iconst X d_D_pass_67 (v := nI 0) (by decide +kernel) ?_
        refine z_iast X g1 0 rfl (j := 2 * (r + 1)) rfl (by omega) (by omega) d_D_pass_68 ?_
        have g0 := g0.ne (q := (a + 1)) (y := aI tI 64 (upd (upd g2 (r + 1) ((g2 (r + 1)) + (bl g2 (r + 1)))) (2 * (r + 1)) (nI 0))) (by omega)
        have g1 := g1.up (y := aI tI 64 (upd (upd g2 (r + 1) ((g2 (r + 1)) + (bl g2 (r + 1)))) (2 * (r + 1)) (nI 0)))
        refine z_aload_n X d_D_pass_69 rfl ?_
        refine z_get X g0 rfl in_D 1 (by decide) (wq lf_D_9) rfl d_D_pass_70 ?_
        refine z_iconst X d_D_pass_73 (v := nI 2) (by decide +kernel) ?_
        refine z_iload_n X d_D_pass_74 rfl ?_
        refine z_imulN X d_D_pass_75 ?_
        refine z_iconst X d_D_pass_76 (v := nI 1) (by decide +kernel) ?_
        refine z_iaddN X d_D_pass_77 ?_
        refine z_iconst X d_D_pass_78 (v := nI 0) (by decide +kernel) ?_
        refine z_iast X g1 0 rfl (j := (2 * (r + 1)) + 1) rfl (by omega) (by omega) d_D_pass_79 ?_
        have g0 := g0.ne (q := (a + 1)) (y := aI tI 64 (upd (upd (upd g2 (r + 1) ((g2 (r + 1)) + (bl g2 (r + 1)))) (2 * (r + 1)) (nI 0)) ((2 * (r + 1)) + 1) (nI 0))) (by omega)
        have g1 := g1.up (y := aI tI 64 (upd (upd (upd g2 (r + 1) ((g2 (r + 1)) + (bl g2 (r + 1)))) (2 * (r + 1)) (nI 0)) ((2 * (r + 1)) + 1) (nI 0)))
        refine z_iconst X d_D_pass_80 (v := nI 1) (by decide +kernel) ?_
        refine z_istore_n X d_D_pass_81 (by decide) rfl ?_
        refine z_lv (lv2 := [some (.ref a), some (.int t), some (.int (nI 1)), some (.int (nI (r + 1))), some (.int (bl g2 (r + 1)))]) (fun _ _ q => q) ?_
        refine z_iincD X d_D_pass_82 rfl (by decide) rfl ?_
        refine z_lv (lv2 := [some (.ref a), some (.int t), some (.int (nI 1)), some (.int (nI r)), some (.int (bl g2 (r + 1)))]) (fun _ _ q => q) ?_
        refine z_goto X d_D_pass_85 (tgt := 5) (by decide) ?_
        refine z_drop 4 ?_
        refine z_at (ih (pst g2 (r + 1), true) ⟨by omega, ?_⟩) (by simp only [up_up, nI_0]; rfl) rfl
        rw [hI]
        show (if _ then _ else _) = _
        rw [if_pos]
        simp only [pok, Bool.and_eq_true, decide_eq_true_eq]
        exact ⟨i32_nle hA, i32_nlt hB⟩
set_option maxHeartbeats 4000000 in
set_option maxRecDepth 100000 in
/-- compress(t) -/
theorem c_D_compress {a : Nat} {dv : Int32} {g : Nat → Int32} {t : Int32} (h0 : zc b N k a (.inr (1, [.int dv, .ref (a + 1)]))) (h1 : zc b N k (a + 1) (aI tI 64 g)) : Met l y_D_compress (wy y_D_compress b_D_compress 4 none) (rm 1 0 0) (zPc D (tyl tI tZ tN tM) b N k [.ref a, .int t]) (zQv D b N (fun k2 => k2 = va_up k (a + 1) (aI tI 64 (cpr t 4096 g)))) 0 0 (zA b) := by
  refine z_met (own := R_D) (by decide) rfl rfl (Nat.le_of_ble_eq_true rfl) [some (.ref a), some (.int t), none, none] rfl ?_
  intro p e s m args below meth c X hin
  refine z_iconst X d_D_compress_0 (v := nI 1) (by decide +kernel) ?_
  refine z_istore_n X d_D_compress_1 (by decide) rfl ?_
  refine z_lv (lv2 := [some (.ref a), some (.int t), some (.int (nI 1)), none]) (fun _ _ q => q) ?_
  refine z_iconst X d_D_compress_2 (v := nI 0) (by decide +kernel) ?_
  refine z_istore_n X d_D_compress_3 (by decide) rfl ?_
  refine z_lv (lv2 := [some (.ref a), some (.int t), some (.int (nI 1)), some (.int (nI 0))]) (fun _ _ q => q) ?_
  refine z_loop (σ := (Nat → Int32) × Bool) (K := fun _ (q : (Nat → Int32) × Bool) => va_up k (a + 1) (aI tI 64 q.1)) (LV := fun v (q : (Nat → Int32) × Bool) => [some (.ref a), some (.int t), some (.int (nI (cb q.2))), some (.int (nI v))]) (I := fun v (q : (Nat → Int32) × Bool) => cpr t 4096 g = if q.2 = true then cpr t (4096 - v) q.1 else q.1) 4096 0 (g, true) (by omega) ((if_pos rfl).symm) ((up_self h1.2.2).symm) (rfl) ?_ ?_
  · intro q hI
    obtain ⟨g2, ch⟩ := q
    try dsimp only at hI
    cases ch
    · skip
      refine z_lv (lv2 := [some (.ref a), some (.int t), some (.int (nI (cb false))), some (.int (nI 4096))]) (fun _ _ q => q) ?_
      refine z_iload_n X d_D_compress_4 rfl ?_
      refine z_if_eqN X d_D_compress_5 (tgt := 27) (by decide) (by decide) (fun _ => ?_) (fun h => absurd h (by decide))
      exact z_vret X d_D_compress_27 (by omega) (by omega) (by rw [hI]; rfl)
    · skip
      refine z_lv (lv2 := [some (.ref a), some (.int t), some (.int (nI (cb true))), some (.int (nI 4096))]) (fun _ _ q => q) ?_
      refine z_iload_n X d_D_compress_4 rfl ?_
      refine z_if_eqN X d_D_compress_5 (tgt := 27) (by decide) (by decide) (fun h => absurd h (by decide)) (fun _ => ?_)
      refine z_iload_n X d_D_compress_8 rfl ?_
      refine z_sipush X d_D_compress_9 (v := nI 4096) (by decide +kernel) ?_
      refine z_icmp_geN X d_D_compress_12 (tgt := 27) (by decide) (by omega) (by omega) (fun _ => ?_) (fun h => absurd h (by omega))
      exact z_vret X d_D_compress_27 (by omega) (by omega) (by rw [hI]; rfl)
  · intro v q hv hI ih
    obtain ⟨g2, ch⟩ := q
    try dsimp only at hI
    cases ch
    · skip
      refine z_lv (lv2 := [some (.ref a), some (.int t), some (.int (nI (cb false))), some (.int (nI v))]) (fun _ _ q => q) ?_
      refine z_iload_n X d_D_compress_4 rfl ?_
      refine z_if_eqN X d_D_compress_5 (tgt := 27) (by decide) (by decide) (fun _ => ?_) (fun h => absurd h (by decide))
      exact z_vret X d_D_compress_27 (by omega) (by omega) (by rw [hI]; rfl)
    · skip
      refine z_lv (lv2 := [some (.ref a), some (.int t), some (.int (nI (cb true))), some (.int (nI v))]) (fun _ _ q => q) ?_
      refine z_iload_n X d_D_compress_4 rfl ?_
      refine z_if_eqN X d_D_compress_5 (tgt := 27) (by decide) (by decide) (fun h => absurd h (by decide)) (fun _ => ?_)
      refine z_iload_n X d_D_compress_8 rfl ?_
      refine z_sipush X d_D_compress_9 (v := nI 4096) (by decide +kernel) ?_
      refine z_icmp_geN X d_D_compress_12 (tgt := 27) (by decide) (by omega) (by omega) (fun h => absurd h (by omega)) (fun _ => ?_)
      have g0 := h0.ne (q := a + 1) (y := aI tI 64 g2) (by omega)
      have g1 := h1.up (y := aI tI 64 g2)
      refine z_aload_n X d_D_compress_15 rfl ?_
      refine z_iload_n X d_D_compress_16 rfl ?_
      refine z_callVi X (c_D_pass g0 g1) g0 rfl (cwV 1 X.1.2.2.2.2 (gi_V lm_D_27 vi_D_pass ve_D_pass vn_D vc_D_pass) rfl rfl rfl (by decide +kernel) ⟨Nat.le_of_ble_eq_true rfl, Nat.le_of_ble_eq_true rfl⟩) (As := [.int t]) (st := []) rfl rfl (Nat.le_of_ble_eq_true rfl) d_D_compress_17 ⟨Nat.le_of_ble_eq_true rfl, Nat.le_of_ble_eq_true rfl⟩ (fun x k2 hq => ?_)
      obtain ⟨rfl, rfl⟩ := hq
      refine z_istore_n X d_D_compress_20 (by decide) rfl ?_
      refine z_lv (lv2 := [some (.ref a), some (.int t), some (.int (nI (cb (ps t 31 g2 false).2))), some (.int (nI v))]) (fun _ _ q => q) ?_
      refine z_iincU X d_D_compress_21 rfl (by decide) rfl ?_
      refine z_lv (lv2 := [some (.ref a), some (.int t), some (.int (nI (cb (ps t 31 g2 false).2))), some (.int (nI (v + 1)))]) (fun _ _ q => q) ?_
      refine z_goto X d_D_compress_24 (tgt := 4) (by decide) ?_
      refine z_at (ih ((ps t 31 g2 false).1, (ps t 31 g2 false).2) ?_) (by rw [up_up]) rfl
      rw [hI, if_pos rfl, show 4096 - v = (4096 - (v + 1)) + 1 by omega]
      rfl
set_option maxHeartbeats 4000000 in
set_option maxRecDepth 100000 in
/-- Digest.take(v, n) -/
theorem c_D_take {a : Nat} {dv : Int32} {g : Nat → Int32} {v : Nat} {x : Int32} (h0 : zc b N k a (.inr (1, [.int dv, .ref (a + 1)]))) (h1 : zc b N k (a + 1) (aI tI 64 g)) (hv : v < 32) (hd : ¬ dv = 0) : Met l y_D_take (wy y_D_take b_D_take 3 none) (rm 2 0 0) (zPc D (tyl tI tZ tN tM) b N k [.ref a, .int (nI v), .int x]) (zQv D b N (fun k2 => k2 = va_up k (a + 1) (aI tI 64 (cpr (x / dv) 4096 (upd g (32 + v) (g (32 + v) + 1)))))) 0 0 (zA b) := by
  refine z_met (own := R_D) (by decide) rfl rfl (Nat.le_of_ble_eq_true rfl) [some (.ref a), some (.int (nI v)), some (.int x)] rfl ?_
  intro p e s m args below meth c X hin
  refine z_aload_n X d_D_take_0 rfl ?_
  refine z_get X h0 rfl in_D 1 (by decide) (wq lf_D_9) rfl d_D_take_1 ?_
  refine z_bipush X d_D_take_4 (v := nI 32) (by decide +kernel) ?_
  refine z_iload_n X d_D_take_6 rfl ?_
  refine z_iaddN X d_D_take_7 ?_
  refine z_dup2 X d_D_take_8 rfl rfl ?_
  refine z_iald X h1 0 rfl (j := 32 + v) rfl (by omega) (by omega) d_D_take_9 ?_
  refine z_iconst X d_D_take_10 (v := nI 1) (by decide +kernel) ?_
  refine z_iadd X d_D_take_11 ?_
  refine z_iast X h1 0 rfl (j := 32 + v) rfl (by omega) (by omega) d_D_take_12 ?_
  have h0 := h0.ne (q := (a + 1)) (y := aI tI 64 (upd g (32 + v) ((g (32 + v)) + (nI 1)))) (by omega)
  have h1 := h1.up (y := aI tI 64 (upd g (32 + v) ((g (32 + v)) + (nI 1))))
  refine z_aload_n X d_D_take_13 rfl ?_
  refine z_iload_n X d_D_take_14 rfl ?_
  refine z_aload_n X d_D_take_15 rfl ?_
  refine z_get X h0 rfl in_D 0 (by decide) (wq lf_D_15) rfl d_D_take_16 ?_
  refine z_idiv X d_D_take_19 hd ?_
  refine z_callVv X (c_D_compress h0 h1) h0 rfl (cwV 1 X.1.2.2.2.2 (gi_V lm_D_19 vi_D_compress ve_D_compress vn_D vc_D_compress) rfl rfl rfl (by decide +kernel) ⟨Nat.le_of_ble_eq_true rfl, Nat.le_of_ble_eq_true rfl⟩) (As := [.int (x / dv)]) (st := []) rfl rfl (Nat.le_of_ble_eq_true rfl) d_D_take_20 ⟨Nat.le_of_ble_eq_true rfl, Nat.le_of_ble_eq_true rfl⟩ (fun k2 hq => ?_)
  subst hq
  exact z_vret X d_D_take_23 (by omega) (by omega) (by rw [up_up, nI_one])
set_option maxHeartbeats 4000000 in
set_option maxRecDepth 100000 in
/-- Digest.merge(other, n) -/
theorem c_D_merge {a a2 : Nat} {dv dv2 : Int32} {g g2 : Nat → Int32} {x : Int32} (h0 : zc b N k a (.inr (1, [.int dv, .ref (a + 1)]))) (h1 : zc b N k (a + 1) (aI tI 64 g)) (e0 : zc b N k a2 (.inr (1, [.int dv2, .ref (a2 + 1)]))) (e1 : zc b N k (a2 + 1) (aI tI 64 g2)) (hne : a + 2 ≤ a2 ∨ a2 + 2 ≤ a) (hg : ∀ i, 64 ≤ i → g2 i = 0) (hd : ¬ dv = 0) : Met l y_D_merge (wy y_D_merge b_D_merge 3 none) (rm 2 0 0) (zPc D (tyl tI tZ tN tM) b N k [.ref a, .ref a2, .int x]) (zQv D b N (fun k2 => k2 = va_up k (a + 1) (aI tI 64 (cpr (x / dv) 4096 (ad g g2))))) 0 0 (zA b) := by
  refine z_met (own := R_D) (by decide) rfl rfl (Nat.le_of_ble_eq_true rfl) [some (.ref a), some (.ref a2), some (.int x)] rfl ?_
  intro p e s m args below meth c X hin
  refine z_aload_n X d_D_merge_0 rfl ?_
  refine z_get X h0 rfl in_D 1 (by decide) (wq lf_D_9) rfl d_D_merge_1 ?_
  refine z_aload_n X d_D_merge_4 rfl ?_
  refine z_get X e0 rfl in_D 1 (by decide) (wq lf_D_9) rfl d_D_merge_5 ?_
  refine z_callSNv X (a := 0) (c_T_addTo h1 e1 (by omega) (by omega)) (⟨va_cnB 2 X.1.2.2.2.2 (gi_wy vc_T_addTo) rfl rfl rfl (zn_D_23 X.2.2.2.2.2) (X.1.2.2.2.2 _ (wq vn_T)) (by decide +kernel) ⟨Nat.le_of_ble_eq_true rfl, Nat.le_of_ble_eq_true rfl⟩, X.1.2.2.2.2 _ (wq vs_T_addTo), trivial⟩) (As := [.ref (a + 1), .ref (a2 + 1)]) (st := []) rfl rfl (Nat.le_of_ble_eq_true rfl) d_D_merge_8 ⟨Nat.le_of_ble_eq_true rfl, Nat.le_of_ble_eq_true rfl⟩ (fun k2 hq => ?_)
  subst hq
  rw [pr_all (m := 64) (F := ad g g2) (C := g) (fun i hi => by unfold ad; rw [hg i hi]; exact Int32.add_zero _)]
  have h0 := h0.ne (q := a + 1) (y := aI tI 64 (ad g g2)) (by omega)
  have h1 := h1.up (y := aI tI 64 (ad g g2))
  refine z_aload_n X d_D_merge_11 rfl ?_
  refine z_iload_n X d_D_merge_12 rfl ?_
  refine z_aload_n X d_D_merge_13 rfl ?_
  refine z_get X h0 rfl in_D 0 (by decide) (wq lf_D_15) rfl d_D_merge_14 ?_
  refine z_idiv X d_D_merge_17 hd ?_
  refine z_callVv X (c_D_compress h0 h1) h0 rfl (cwV 1 X.1.2.2.2.2 (gi_V lm_D_19 vi_D_compress ve_D_compress vn_D vc_D_compress) rfl rfl rfl (by decide +kernel) ⟨Nat.le_of_ble_eq_true rfl, Nat.le_of_ble_eq_true rfl⟩) (As := [.int (x / dv)]) (st := []) rfl rfl (Nat.le_of_ble_eq_true rfl) d_D_merge_18 ⟨Nat.le_of_ble_eq_true rfl, Nat.le_of_ble_eq_true rfl⟩ (fun k2 hq => ?_)
  subst hq
  exact z_vret X d_D_merge_21 (by omega) (by omega) (by rw [up_up])
set_option maxHeartbeats 4000000 in
set_option maxRecDepth 100000 in
/-- rangesInUse() -/
theorem c_D_rangesInUse {a : Nat} {dv : Int32} {g : Nat → Int32} (h0 : zc b N k a (.inr (1, [.int dv, .ref (a + 1)]))) (h1 : zc b N k (a + 1) (aI tI 64 g)) : Met l y_D_rangesInUse (wy y_D_rangesInUse b_D_rangesInUse 3 (some .int)) (rm 0 0 0) (zPc D (tyl tI tZ tN tM) b N k [.ref a]) (zQi D b N (fun x k2 => x = nI (ct (fun q => decide (0 < g (q + 1))) 63) ∧ k2 = k)) 0 0 (zA b) := by
  refine z_met (own := R_D) (by decide) rfl rfl (Nat.le_of_ble_eq_true rfl) [some (.ref a), none, none] rfl ?_
  intro p e s m args below meth c X hin
  refine z_iconst X d_D_rangesInUse_0 (v := nI 0) (by decide +kernel) ?_
  refine z_istore_n X d_D_rangesInUse_1 (by decide) rfl ?_
  refine z_lv (lv2 := [some (.ref a), some (.int (nI 0)), none]) (fun _ _ q => q) ?_
  refine z_iconst X d_D_rangesInUse_2 (v := nI 1) (by decide +kernel) ?_
  refine z_istore_n X d_D_rangesInUse_3 (by decide) rfl ?_
  refine z_lv (lv2 := [some (.ref a), some (.int (nI 0)), some (.int (nI 1))]) (fun _ _ q => q) ?_
  refine z_loop (σ := Unit) (K := fun _ _ => k) (LV := fun v _ => [some (.ref a), some (.int (nI (ct (fun q => decide (0 < g (q + 1))) v))), some (.int (nI (v + 1)))]) (I := fun _ _ => True) 63 0 () (by omega) (trivial) (rfl) (rfl) ?_ ?_
  · intro s1 _
    refine z_lv (lv2 := [some (.ref a), some (.int (nI (ct (fun q => decide (0 < g (q + 1))) 63))), some (.int (nI (63 + 1)))]) (fun _ _ q => q) ?_
    refine z_iload_n X d_D_rangesInUse_4 rfl ?_
    refine z_bipush X d_D_rangesInUse_5 (v := nI 64) (by decide +kernel) ?_
    refine z_icmp_geN X d_D_rangesInUse_7 (tgt := 28) (by decide) (by omega) (by omega) (fun _ => ?_) (fun h => absurd h (by omega))
    refine z_iload_n X d_D_rangesInUse_28 rfl ?_
    exact z_iret X d_D_rangesInUse_29 (by omega) (by omega) (⟨rfl, rfl⟩)
  · intro v s1 hv _ ih
    refine z_lv (lv2 := [some (.ref a), some (.int (nI (ct (fun q => decide (0 < g (q + 1))) v))), some (.int (nI (v + 1)))]) (fun _ _ q => q) ?_
    refine z_iload_n X d_D_rangesInUse_4 rfl ?_
    refine z_bipush X d_D_rangesInUse_5 (v := nI 64) (by decide +kernel) ?_
    refine z_icmp_geN X d_D_rangesInUse_7 (tgt := 28) (by decide) (by omega) (by omega) (fun h => absurd h (by omega)) (fun _ => ?_)
    refine z_aload_n X d_D_rangesInUse_10 rfl ?_
    refine z_get X h0 rfl in_D 1 (by decide) (wq lf_D_9) rfl d_D_rangesInUse_11 ?_
    refine z_iload_n X d_D_rangesInUse_14 rfl ?_
    refine z_iald X h1 0 rfl (j := v + 1) rfl (by omega) (by omega) d_D_rangesInUse_15 ?_
    refine z_if_le X d_D_rangesInUse_16 (tgt := 22) (by decide) (fun hA => ?_) (fun hA => ?_)
    · skip
      refine z_iincU X d_D_rangesInUse_22 rfl (by decide) rfl ?_
      refine z_lv (lv2 := [some (.ref a), some (.int (nI (ct (fun q => decide (0 < g (q + 1))) v))), some (.int (nI (v + 1 + 1)))]) (fun _ _ q => q) ?_
      refine z_goto X d_D_rangesInUse_25 (tgt := 4) (by decide) ?_
      exact z_at (ih () trivial) rfl (by simp only [ct]; rw [if_neg (by simp [i32_le_n hA])]; rfl)
    · skip
      refine z_iincU X d_D_rangesInUse_19 rfl (by decide) rfl ?_
      refine z_lv (lv2 := [some (.ref a), some (.int (nI (ct (fun q => decide (0 < g (q + 1))) v + 1))), some (.int (nI (v + 1)))]) (fun _ _ q => q) ?_
      refine z_iincU X d_D_rangesInUse_22 rfl (by decide) rfl ?_
      refine z_lv (lv2 := [some (.ref a), some (.int (nI (ct (fun q => decide (0 < g (q + 1))) v + 1))), some (.int (nI (v + 1 + 1)))]) (fun _ _ q => q) ?_
      refine z_goto X d_D_rangesInUse_25 (tgt := 4) (by decide) ?_
      exact z_at (ih () trivial) rfl (by simp only [ct]; rw [if_pos (by simp [i32_nle hA])])
set_option maxHeartbeats 4000000 in
set_option maxRecDepth 100000 in
/-- D_endingAt -/
theorem c_D_endingAt {a : Nat} {dv : Int32} {g : Nat → Int32} {v : Nat} (h0 : zc b N k a (.inr (1, [.int dv, .ref (a + 1)]))) (h1 : zc b N k (a + 1) (aI tI 64 g)) (hv : v < 32) : Met l y_D_endingAt (wy y_D_endingAt b_D_endingAt 4 (some .int)) (rm 0 0 0) (zPc D (tyl tI tZ tN tM) b N k [.ref a, .int (nI v)]) (zQi D b N (fun x k2 => x = eac 0 g 6 (32 + v) 0 ∧ k2 = k)) 0 0 (zA b) := by
  refine z_met (own := R_D) (by decide) rfl rfl (Nat.le_of_ble_eq_true rfl) [some (.ref a), some (.int (nI v)), none, none] rfl ?_
  intro p e s m args below meth c X hin
  refine z_iconst X d_D_endingAt_0 (v := nI 0) (by decide +kernel) ?_
  refine z_istore_n X d_D_endingAt_1 (by decide) rfl ?_
  refine z_lv (lv2 := [some (.ref a), some (.int (nI v)), some (.int (nI 0)), none]) (fun _ _ q => q) ?_
  refine z_bipush X d_D_endingAt_2 (v := nI 32) (by decide +kernel) ?_
  refine z_iload_n X d_D_endingAt_4 rfl ?_
  refine z_iaddN X d_D_endingAt_5 ?_
  refine z_istore_n X d_D_endingAt_6 (by decide) rfl ?_
  refine z_lv (lv2 := [some (.ref a), some (.int (nI v)), some (.int (nI 0)), some (.int (nI (32 + v)))]) (fun _ _ q => q) ?_
  refine z_loopD (σ := Nat × Int32) (K := fun _ _ => k) (LV := fun _ (q : Nat × Int32) => [some (.ref a), some (.int (nI v)), some (.int q.2), some (.int (nI q.1))]) (I := fun f (q : Nat × Int32) => eac 0 g 6 (32 + v) 0 = eac 0 g f q.1 q.2 ∧ q.1 < 2 ^ f ∧ q.1 < 64) 6 (32 + v, 0) (⟨rfl, by show 32 + v < 64; omega, by show 32 + v < 64; omega⟩) (rfl) (by rw [nI_0]) ?_ ?_
  · intro q hI
    obtain ⟨y, z⟩ := q
    obtain ⟨e1, e2, e3⟩ := hI
    have e2 : y < 1 := e2
    have e3 : y < 64 := e3
    refine z_lv (lv2 := [some (.ref a), some (.int (nI v)), some (.int z), some (.int (nI y))]) (fun _ _ q => q) ?_
    refine z_iload_n X d_D_endingAt_7 rfl ?_
    refine z_iconst X d_D_endingAt_8 (v := nI 1) (by decide +kernel) ?_
    refine z_icmp_ltN X d_D_endingAt_9 (tgt := 37) (by decide) (by omega) (by omega) (fun _ => ?_) (fun h => absurd h (by omega))
    refine z_iload_n X d_D_endingAt_37 rfl ?_
    exact z_iret X d_D_endingAt_38 (by omega) (by omega) (⟨e1.symm, rfl⟩)
  · intro f q hI ih
    obtain ⟨y, z⟩ := q
    obtain ⟨e1, e2, e3⟩ := hI
    have e2 : y < 2 ^ (f + 1) := e2
    have e3 : y < 64 := e3
    rw [Nat.pow_succ] at e2
    have e1 : eac 0 g 6 (32 + v) 0 = (if y = 0 then z else if y % 2 = 0 then z + g y else eac 0 g f (y / 2) (z + g y)) := e1
    refine z_lv (lv2 := [some (.ref a), some (.int (nI v)), some (.int z), some (.int (nI y))]) (fun _ _ q => q) ?_
    refine z_iload_n X d_D_endingAt_7 rfl ?_
    refine z_iconst X d_D_endingAt_8 (v := nI 1) (by decide +kernel) ?_
    refine z_icmp_ltN X d_D_endingAt_9 (tgt := 37) (by decide) (by omega) (by omega) (fun hA => ?_) (fun hA => ?_)
    · skip
      refine z_iload_n X d_D_endingAt_37 rfl ?_
      exact z_iret X d_D_endingAt_38 (by omega) (by omega) (⟨by rw [e1, if_pos (by omega)], rfl⟩)
    · skip
      rw [if_neg (by omega)] at e1
      refine z_iload_n X d_D_endingAt_12 rfl ?_
      refine z_aload_n X d_D_endingAt_13 rfl ?_
      refine z_get X h0 rfl in_D 1 (by decide) (wq lf_D_9) rfl d_D_endingAt_14 ?_
      refine z_iload_n X d_D_endingAt_17 rfl ?_
      refine z_iald X h1 0 rfl (j := y) rfl (by omega) (by omega) d_D_endingAt_18 ?_
      refine z_iadd X d_D_endingAt_19 ?_
      refine z_istore_n X d_D_endingAt_20 (by decide) rfl ?_
      refine z_lv (lv2 := [some (.ref a), some (.int (nI v)), some (.int (z + (g y))), some (.int (nI y))]) (fun _ _ q => q) ?_
      refine z_iload_n X d_D_endingAt_21 rfl ?_
      refine z_iconst X d_D_endingAt_22 (v := nI 2) (by decide +kernel) ?_
      refine z_iremN X d_D_endingAt_23 (by omega) (by omega) (by omega) ?_
      refine z_if_neN X d_D_endingAt_24 (tgt := 30) (by decide) (by omega) (fun hB => ?_) (fun hB => ?_)
      · skip
        refine z_iload_n X d_D_endingAt_30 rfl ?_
        refine z_iconst X d_D_endingAt_31 (v := nI 2) (by decide +kernel) ?_
        refine z_idivN X d_D_endingAt_32 (by omega) (by omega) (by omega) ?_
        refine z_istore_n X d_D_endingAt_33 (by decide) rfl ?_
        refine z_lv (lv2 := [some (.ref a), some (.int (nI v)), some (.int (z + (g y))), some (.int (nI (y / 2)))]) (fun _ _ q => q) ?_
        refine z_goto X d_D_endingAt_34 (tgt := 7) (by decide) ?_
        exact z_at (ih (y / 2, z + g y) ⟨by rw [e1, if_neg (by omega)], by show y / 2 < 2 ^ f; omega, by show y / 2 < 64; omega⟩) rfl rfl
      · skip
        refine z_goto X d_D_endingAt_27 (tgt := 37) (by decide) ?_
        refine z_iload_n X d_D_endingAt_37 rfl ?_
        exact z_iret X d_D_endingAt_38 (by omega) (by omega) (⟨by rw [e1, if_pos (by omega)], rfl⟩)
set_option maxHeartbeats 4000000 in
set_option maxRecDepth 100000 in
/-- D_startingAt -/
theorem c_D_startingAt {a : Nat} {dv : Int32} {g : Nat → Int32} {v : Nat} (h0 : zc b N k a (.inr (1, [.int dv, .ref (a + 1)]))) (h1 : zc b N k (a + 1) (aI tI 64 g)) (hv : v < 32) : Met l y_D_startingAt (wy y_D_startingAt b_D_startingAt 4 (some .int)) (rm 0 0 0) (zPc D (tyl tI tZ tN tM) b N k [.ref a, .int (nI v)]) (zQi D b N (fun x k2 => x = eac 1 g 6 (32 + v) 0 ∧ k2 = k)) 0 0 (zA b) := by
  refine z_met (own := R_D) (by decide) rfl rfl (Nat.le_of_ble_eq_true rfl) [some (.ref a), some (.int (nI v)), none, none] rfl ?_
  intro p e s m args below meth c X hin
  refine z_iconst X d_D_startingAt_0 (v := nI 0) (by decide +kernel) ?_
  refine z_istore_n X d_D_startingAt_1 (by decide) rfl ?_
  refine z_lv (lv2 := [some (.ref a), some (.int (nI v)), some (.int (nI 0)), none]) (fun _ _ q => q) ?_
  refine z_bipush X d_D_startingAt_2 (v := nI 32) (by decide +kernel) ?_
  refine z_iload_n X d_D_startingAt_4 rfl ?_
  refine z_iaddN X d_D_startingAt_5 ?_
  refine z_istore_n X d_D_startingAt_6 (by decide) rfl ?_
  refine z_lv (lv2 := [some (.ref a), some (.int (nI v)), some (.int (nI 0)), some (.int (nI (32 + v)))]) (fun _ _ q => q) ?_
  refine z_loopD (σ := Nat × Int32) (K := fun _ _ => k) (LV := fun _ (q : Nat × Int32) => [some (.ref a), some (.int (nI v)), some (.int q.2), some (.int (nI q.1))]) (I := fun f (q : Nat × Int32) => eac 1 g 6 (32 + v) 0 = eac 1 g f q.1 q.2 ∧ q.1 < 2 ^ f ∧ q.1 < 64) 6 (32 + v, 0) (⟨rfl, by show 32 + v < 64; omega, by show 32 + v < 64; omega⟩) (rfl) (by rw [nI_0]) ?_ ?_
  · intro q hI
    obtain ⟨y, z⟩ := q
    obtain ⟨e1, e2, e3⟩ := hI
    have e2 : y < 1 := e2
    have e3 : y < 64 := e3
    refine z_lv (lv2 := [some (.ref a), some (.int (nI v)), some (.int z), some (.int (nI y))]) (fun _ _ q => q) ?_
    refine z_iload_n X d_D_startingAt_7 rfl ?_
    refine z_iconst X d_D_startingAt_8 (v := nI 1) (by decide +kernel) ?_
    refine z_icmp_ltN X d_D_startingAt_9 (tgt := 38) (by decide) (by omega) (by omega) (fun _ => ?_) (fun h => absurd h (by omega))
    refine z_iload_n X d_D_startingAt_38 rfl ?_
    exact z_iret X d_D_startingAt_39 (by omega) (by omega) (⟨e1.symm, rfl⟩)
  · intro f q hI ih
    obtain ⟨y, z⟩ := q
    obtain ⟨e1, e2, e3⟩ := hI
    have e2 : y < 2 ^ (f + 1) := e2
    have e3 : y < 64 := e3
    rw [Nat.pow_succ] at e2
    have e1 : eac 1 g 6 (32 + v) 0 = (if y = 0 then z else if y % 2 = 1 then z + g y else eac 1 g f (y / 2) (z + g y)) := e1
    refine z_lv (lv2 := [some (.ref a), some (.int (nI v)), some (.int z), some (.int (nI y))]) (fun _ _ q => q) ?_
    refine z_iload_n X d_D_startingAt_7 rfl ?_
    refine z_iconst X d_D_startingAt_8 (v := nI 1) (by decide +kernel) ?_
    refine z_icmp_ltN X d_D_startingAt_9 (tgt := 38) (by decide) (by omega) (by omega) (fun hA => ?_) (fun hA => ?_)
    · skip
      refine z_iload_n X d_D_startingAt_38 rfl ?_
      exact z_iret X d_D_startingAt_39 (by omega) (by omega) (⟨by rw [e1, if_pos (by omega)], rfl⟩)
    · skip
      rw [if_neg (by omega)] at e1
      refine z_iload_n X d_D_startingAt_12 rfl ?_
      refine z_aload_n X d_D_startingAt_13 rfl ?_
      refine z_get X h0 rfl in_D 1 (by decide) (wq lf_D_9) rfl d_D_startingAt_14 ?_
      refine z_iload_n X d_D_startingAt_17 rfl ?_
      refine z_iald X h1 0 rfl (j := y) rfl (by omega) (by omega) d_D_startingAt_18 ?_
      refine z_iadd X d_D_startingAt_19 ?_
      refine z_istore_n X d_D_startingAt_20 (by decide) rfl ?_
      refine z_lv (lv2 := [some (.ref a), some (.int (nI v)), some (.int (z + (g y))), some (.int (nI y))]) (fun _ _ q => q) ?_
      refine z_iload_n X d_D_startingAt_21 rfl ?_
      refine z_iconst X d_D_startingAt_22 (v := nI 2) (by decide +kernel) ?_
      refine z_iremN X d_D_startingAt_23 (by omega) (by omega) (by omega) ?_
      refine z_iconst X d_D_startingAt_24 (v := nI 1) (by decide +kernel) ?_
      refine z_icmp_neN X d_D_startingAt_25 (tgt := 31) (by decide) (by omega) (by omega) (fun hB => ?_) (fun hB => ?_)
      · skip
        refine z_iload_n X d_D_startingAt_31 rfl ?_
        refine z_iconst X d_D_startingAt_32 (v := nI 2) (by decide +kernel) ?_
        refine z_idivN X d_D_startingAt_33 (by omega) (by omega) (by omega) ?_
        refine z_istore_n X d_D_startingAt_34 (by decide) rfl ?_
        refine z_lv (lv2 := [some (.ref a), some (.int (nI v)), some (.int (z + (g y))), some (.int (nI (y / 2)))]) (fun _ _ q => q) ?_
        refine z_goto X d_D_startingAt_35 (tgt := 7) (by decide) ?_
        exact z_at (ih (y / 2, z + g y) ⟨by rw [e1, if_neg (by omega)], by show y / 2 < 2 ^ f; omega, by show y / 2 < 64; omega⟩) rfl rfl
      · skip
        refine z_goto X d_D_startingAt_28 (tgt := 38) (by decide) ?_
        refine z_iload_n X d_D_startingAt_38 rfl ?_
        exact z_iret X d_D_startingAt_39 (by omega) (by omega) (⟨by rw [e1, if_pos (by omega)], rfl⟩)
set_option maxHeartbeats 4000000 in
set_option maxRecDepth 100000 in
/-- D_endingBefore -/
theorem c_D_endingBefore {a : Nat} {dv : Int32} {g : Nat → Int32} {y : Nat} (h0 : zc b N k a (.inr (1, [.int dv, .ref (a + 1)]))) (h1 : zc b N k (a + 1) (aI tI 64 g)) (hy : y ≤ 32) : Met l y_D_endingBefore (wy y_D_endingBefore b_D_endingBefore 4 (some .int)) (rm 1 0 0) (zPc D (tyl tI tZ tN tM) b N k [.ref a, .int (nI y)]) (zQi D b N (fun x k2 => x = eb g y ∧ k2 = k)) 0 0 (zA b) := by
  refine z_met (own := R_D) (by decide) rfl rfl (Nat.le_of_ble_eq_true rfl) [some (.ref a), some (.int (nI y)), none, none] rfl ?_
  intro p e s m args below meth c X hin
  refine z_iconst X d_D_endingBefore_0 (v := nI 0) (by decide +kernel) ?_
  refine z_istore_n X d_D_endingBefore_1 (by decide) rfl ?_
  refine z_lv (lv2 := [some (.ref a), some (.int (nI y)), some (.int (nI 0)), none]) (fun _ _ q => q) ?_
  refine z_iconst X d_D_endingBefore_2 (v := nI 0) (by decide +kernel) ?_
  refine z_istore_n X d_D_endingBefore_3 (by decide) rfl ?_
  refine z_lv (lv2 := [some (.ref a), some (.int (nI y)), some (.int (nI 0)), some (.int (nI 0))]) (fun _ _ q => q) ?_
  refine z_loop (σ := Unit) (K := fun _ _ => k) (LV := fun v _ => [some (.ref a), some (.int (nI y)), some (.int (eb g v)), some (.int (nI v))]) (I := fun _ _ => True) y 0 () (by omega) (trivial) (rfl) (by rw [nI_0]; rfl) ?_ ?_
  · intro s1 _
    refine z_lv (lv2 := [some (.ref a), some (.int (nI y)), some (.int (eb g y)), some (.int (nI y))]) (fun _ _ q => q) ?_
    refine z_iload_n X d_D_endingBefore_4 rfl ?_
    refine z_iload_n X d_D_endingBefore_5 rfl ?_
    refine z_icmp_geN X d_D_endingBefore_6 (tgt := 23) (by decide) (by omega) (by omega) (fun _ => ?_) (fun h => absurd h (by omega))
    refine z_iload_n X d_D_endingBefore_23 rfl ?_
    exact z_iret X d_D_endingBefore_24 (by omega) (by omega) (⟨rfl, rfl⟩)
  · intro v s1 hv _ ih
    refine z_lv (lv2 := [some (.ref a), some (.int (nI y)), some (.int (eb g v)), some (.int (nI v))]) (fun _ _ q => q) ?_
    refine z_iload_n X d_D_endingBefore_4 rfl ?_
    refine z_iload_n X d_D_endingBefore_5 rfl ?_
    refine z_icmp_geN X d_D_endingBefore_6 (tgt := 23) (by decide) (by omega) (by omega) (fun h => absurd h (by omega)) (fun _ => ?_)
    refine z_iload_n X d_D_endingBefore_9 rfl ?_
    refine z_aload_n X d_D_endingBefore_10 rfl ?_
    refine z_iload_n X d_D_endingBefore_11 rfl ?_
    refine z_callVi X (c_D_endingAt h0 h1 (v := v) (by omega)) h0 rfl (cwV 1 X.1.2.2.2.2 (gi_V lm_D_31 vi_D_endingAt ve_D_endingAt vn_D vc_D_endingAt) rfl rfl rfl (by decide +kernel) ⟨Nat.le_of_ble_eq_true rfl, Nat.le_of_ble_eq_true rfl⟩) (As := [.int (nI v)]) (st := [.int (eb g v)]) rfl rfl (Nat.le_of_ble_eq_true rfl) d_D_endingBefore_12 ⟨Nat.le_of_ble_eq_true rfl, Nat.le_of_ble_eq_true rfl⟩ (fun x k2 hq => ?_)
    obtain ⟨rfl, rfl⟩ := hq
    refine z_iadd X d_D_endingBefore_15 ?_
    refine z_istore_n X d_D_endingBefore_16 (by decide) rfl ?_
    refine z_lv (lv2 := [some (.ref a), some (.int (nI y)), some (.int ((eb g v) + (eac 0 g 6 (32 + v) 0))), some (.int (nI v))]) (fun _ _ q => q) ?_
    refine z_iincU X d_D_endingBefore_17 rfl (by decide) rfl ?_
    refine z_lv (lv2 := [some (.ref a), some (.int (nI y)), some (.int ((eb g v) + (eac 0 g 6 (32 + v) 0))), some (.int (nI (v + 1)))]) (fun _ _ q => q) ?_
    refine z_goto X d_D_endingBefore_20 (tgt := 4) (by decide) ?_
    exact z_at (ih () trivial) rfl rfl
set_option maxHeartbeats 4000000 in
set_option maxRecDepth 100000 in
/-- D_startingBefore -/
theorem c_D_startingBefore {a : Nat} {dv : Int32} {g : Nat → Int32} {y : Nat} (h0 : zc b N k a (.inr (1, [.int dv, .ref (a + 1)]))) (h1 : zc b N k (a + 1) (aI tI 64 g)) (hy : y ≤ 32) : Met l y_D_startingBefore (wy y_D_startingBefore b_D_startingBefore 4 (some .int)) (rm 1 0 0) (zPc D (tyl tI tZ tN tM) b N k [.ref a, .int (nI y)]) (zQi D b N (fun x k2 => x = sb g y ∧ k2 = k)) 0 0 (zA b) := by
  refine z_met (own := R_D) (by decide) rfl rfl (Nat.le_of_ble_eq_true rfl) [some (.ref a), some (.int (nI y)), none, none] rfl ?_
  intro p e s m args below meth c X hin
  refine z_iconst X d_D_startingBefore_0 (v := nI 0) (by decide +kernel) ?_
  refine z_istore_n X d_D_startingBefore_1 (by decide) rfl ?_
  refine z_lv (lv2 := [some (.ref a), some (.int (nI y)), some (.int (nI 0)), none]) (fun _ _ q => q) ?_
  refine z_iconst X d_D_startingBefore_2 (v := nI 0) (by decide +kernel) ?_
  refine z_istore_n X d_D_startingBefore_3 (by decide) rfl ?_
  refine z_lv (lv2 := [some (.ref a), some (.int (nI y)), some (.int (nI 0)), some (.int (nI 0))]) (fun _ _ q => q) ?_
  refine z_loop (σ := Unit) (K := fun _ _ => k) (LV := fun v _ => [some (.ref a), some (.int (nI y)), some (.int (sb g v)), some (.int (nI v))]) (I := fun _ _ => True) y 0 () (by omega) (trivial) (rfl) (by rw [nI_0]; rfl) ?_ ?_
  · intro s1 _
    refine z_lv (lv2 := [some (.ref a), some (.int (nI y)), some (.int (sb g y)), some (.int (nI y))]) (fun _ _ q => q) ?_
    refine z_iload_n X d_D_startingBefore_4 rfl ?_
    refine z_iload_n X d_D_startingBefore_5 rfl ?_
    refine z_icmp_geN X d_D_startingBefore_6 (tgt := 23) (by decide) (by omega) (by omega) (fun _ => ?_) (fun h => absurd h (by omega))
    refine z_iload_n X d_D_startingBefore_23 rfl ?_
    exact z_iret X d_D_startingBefore_24 (by omega) (by omega) (⟨rfl, rfl⟩)
  · intro v s1 hv _ ih
    refine z_lv (lv2 := [some (.ref a), some (.int (nI y)), some (.int (sb g v)), some (.int (nI v))]) (fun _ _ q => q) ?_
    refine z_iload_n X d_D_startingBefore_4 rfl ?_
    refine z_iload_n X d_D_startingBefore_5 rfl ?_
    refine z_icmp_geN X d_D_startingBefore_6 (tgt := 23) (by decide) (by omega) (by omega) (fun h => absurd h (by omega)) (fun _ => ?_)
    refine z_iload_n X d_D_startingBefore_9 rfl ?_
    refine z_aload_n X d_D_startingBefore_10 rfl ?_
    refine z_iload_n X d_D_startingBefore_11 rfl ?_
    refine z_callVi X (c_D_startingAt h0 h1 (v := v) (by omega)) h0 rfl (cwV 1 X.1.2.2.2.2 (gi_V lm_D_35 vi_D_startingAt ve_D_startingAt vn_D vc_D_startingAt) rfl rfl rfl (by decide +kernel) ⟨Nat.le_of_ble_eq_true rfl, Nat.le_of_ble_eq_true rfl⟩) (As := [.int (nI v)]) (st := [.int (sb g v)]) rfl rfl (Nat.le_of_ble_eq_true rfl) d_D_startingBefore_12 ⟨Nat.le_of_ble_eq_true rfl, Nat.le_of_ble_eq_true rfl⟩ (fun x k2 hq => ?_)
    obtain ⟨rfl, rfl⟩ := hq
    refine z_iadd X d_D_startingBefore_15 ?_
    refine z_istore_n X d_D_startingBefore_16 (by decide) rfl ?_
    refine z_lv (lv2 := [some (.ref a), some (.int (nI y)), some (.int ((sb g v) + (eac 1 g 6 (32 + v) 0))), some (.int (nI v))]) (fun _ _ q => q) ?_
    refine z_iincU X d_D_startingBefore_17 rfl (by decide) rfl ?_
    refine z_lv (lv2 := [some (.ref a), some (.int (nI y)), some (.int ((sb g v) + (eac 1 g 6 (32 + v) 0))), some (.int (nI (v + 1)))]) (fun _ _ q => q) ?_
    refine z_goto X d_D_startingBefore_20 (tgt := 4) (by decide) ?_
    exact z_at (ih () trivial) rfl rfl
set_option maxHeartbeats 4000000 in
set_option maxRecDepth 100000 in
/-- D_valueReaching -/
theorem c_D_valueReaching {a : Nat} {dv : Int32} {g : Nat → Int32} {th : Int32} (h0 : zc b N k a (.inr (1, [.int dv, .ref (a + 1)]))) (h1 : zc b N k (a + 1) (aI tI 64 g)) : Met l y_D_valueReaching (wy y_D_valueReaching b_D_valueReaching 4 (some .int)) (rm 1 0 0) (zPc D (tyl tI tZ tN tM) b N k [.ref a, .int th]) (zQi D b N (fun x k2 => x = vq g th 32 ∧ k2 = k)) 0 0 (zA b) := by
  refine z_met (own := R_D) (by decide) rfl rfl (Nat.le_of_ble_eq_true rfl) [some (.ref a), some (.int th), none, none] rfl ?_
  intro p e s m args below meth c X hin
  refine z_iconst X d_D_valueReaching_0 (v := nI 0) (by decide +kernel) ?_
  refine z_istore_n X d_D_valueReaching_1 (by decide) rfl ?_
  refine z_lv (lv2 := [some (.ref a), some (.int th), some (.int (nI 0)), none]) (fun _ _ q => q) ?_
  refine z_iconst X d_D_valueReaching_2 (v := nI 0) (by decide +kernel) ?_
  refine z_istore_n X d_D_valueReaching_3 (by decide) rfl ?_
  refine z_lv (lv2 := [some (.ref a), some (.int th), some (.int (nI 0)), some (.int (nI 0))]) (fun _ _ q => q) ?_
  refine z_loop (σ := Unit) (K := fun _ _ => k) (LV := fun v _ => [some (.ref a), some (.int th), some (.int (eb g v)), some (.int (nI v))]) (I := fun v _ => vq g th 32 = vq g th (32 - v)) 32 0 () (by omega) (rfl) (rfl) (by rw [nI_0]; rfl) ?_ ?_
  · intro s1 hI
    refine z_lv (lv2 := [some (.ref a), some (.int th), some (.int (eb g 32)), some (.int (nI 32))]) (fun _ _ q => q) ?_
    refine z_iload_n X d_D_valueReaching_4 rfl ?_
    refine z_bipush X d_D_valueReaching_5 (v := nI 32) (by decide +kernel) ?_
    refine z_icmp_geN X d_D_valueReaching_7 (tgt := 40) (by decide) (by omega) (by omega) (fun _ => ?_) (fun h => absurd h (by omega))
    refine z_iconst X d_D_valueReaching_40 (v := -1) (by decide +kernel) ?_
    exact z_iret X d_D_valueReaching_41 (by omega) (by omega) (⟨hI.symm, rfl⟩)
  · intro v s1 hv hI ih
    rw [vq_at g th hv] at hI
    refine z_lv (lv2 := [some (.ref a), some (.int th), some (.int (eb g v)), some (.int (nI v))]) (fun _ _ q => q) ?_
    refine z_iload_n X d_D_valueReaching_4 rfl ?_
    refine z_bipush X d_D_valueReaching_5 (v := nI 32) (by decide +kernel) ?_
    refine z_icmp_geN X d_D_valueReaching_7 (tgt := 40) (by decide) (by omega) (by omega) (fun h => absurd h (by omega)) (fun _ => ?_)
    refine z_iload_n X d_D_valueReaching_10 rfl ?_
    refine z_aload_n X d_D_valueReaching_11 rfl ?_
    refine z_iload_n X d_D_valueReaching_12 rfl ?_
    refine z_callVi X (c_D_endingAt h0 h1 hv) h0 rfl (cwV 1 X.1.2.2.2.2 (gi_V lm_D_31 vi_D_endingAt ve_D_endingAt vn_D vc_D_endingAt) rfl rfl rfl (by decide +kernel) ⟨Nat.le_of_ble_eq_true rfl, Nat.le_of_ble_eq_true rfl⟩) (As := [.int (nI v)]) (st := [.int (eb g v)]) rfl rfl (Nat.le_of_ble_eq_true rfl) d_D_valueReaching_13 ⟨Nat.le_of_ble_eq_true rfl, Nat.le_of_ble_eq_true rfl⟩ (fun x k2 hq => ?_)
    obtain ⟨rfl, rfl⟩ := hq
    refine z_iadd X d_D_valueReaching_16 ?_
    refine z_top (y := .int (eb g (v + 1))) (rfl) ?_
    refine z_istore_n X d_D_valueReaching_17 (by decide) rfl ?_
    refine z_lv (lv2 := [some (.ref a), some (.int th), some (.int (eb g (v + 1))), some (.int (nI v))]) (fun _ _ q => q) ?_
    refine z_iload_n X d_D_valueReaching_18 rfl ?_
    refine z_iconst X d_D_valueReaching_19 (v := nI 1) (by decide +kernel) ?_
    refine z_icmp_lt X d_D_valueReaching_20 (tgt := 34) (by decide) (fun hA => ?_) (fun hA => ?_)
    · skip
      refine z_iincU X d_D_valueReaching_34 rfl (by decide) rfl ?_
      refine z_lv (lv2 := [some (.ref a), some (.int th), some (.int (eb g (v + 1))), some (.int (nI (v + 1)))]) (fun _ _ q => q) ?_
      refine z_goto X d_D_valueReaching_37 (tgt := 4) (by decide) ?_
      exact z_at (ih () (by rw [hI, if_neg (fun q => q.1 hA)])) rfl rfl
    · skip
      refine z_sipush X d_D_valueReaching_23 (v := nI 1000) (by decide +kernel) ?_
      refine z_iload_n X d_D_valueReaching_26 rfl ?_
      refine z_imul X d_D_valueReaching_27 ?_
      refine z_iload_n X d_D_valueReaching_28 rfl ?_
      refine z_icmp_lt X d_D_valueReaching_29 (tgt := 34) (by decide) (fun hB => ?_) (fun hB => ?_)
      · skip
        refine z_iincU X d_D_valueReaching_34 rfl (by decide) rfl ?_
        refine z_lv (lv2 := [some (.ref a), some (.int th), some (.int (eb g (v + 1))), some (.int (nI (v + 1)))]) (fun _ _ q => q) ?_
        refine z_goto X d_D_valueReaching_37 (tgt := 4) (by decide) ?_
        exact z_at (ih () (by rw [hI, if_neg (fun q => q.2 hB)])) rfl rfl
      · skip
        refine z_iload_n X d_D_valueReaching_32 rfl ?_
        exact z_iret X d_D_valueReaching_33 (by omega) (by omega) (⟨by rw [hI, if_pos ⟨hA, hB⟩], rfl⟩)
end
end
section
/-! Contracts: Summary. A summary is six cells from a on: n, sum, least, greatest, the counts by leaf, the counters, the digest -/
abbrev Sv : Type := Int32 × Int64 × Int32 × Int32 × (Nat → Int32) × (Nat → Int32) × (Nat → Int32)
def isS (tI : ClassId) (b N : Nat) (k : Nat → va_E) (kk : Nat) (dv : Int32) (a : Nat) (v : Sv) : Prop :=
  zc b N k a (.inr (4, [.int v.1, .long v.2.1, .int v.2.2.1, .int v.2.2.2.1, .ref (a + 1), .ref (a + 2), .ref (a + 4)])) ∧ zc b N k (a + 1) (aI tI 12 v.2.2.2.2.1) ∧ zc b N k (a + 2) (.inr (0, [.int (nI kk), .ref (a + 3)])) ∧ zc b N k (a + 3) (aI tI 32 v.2.2.2.2.2.1) ∧ zc b N k (a + 4) (.inr (1, [.int dv, .ref (a + 5)])) ∧ zc b N k (a + 5) (aI tI 64 v.2.2.2.2.2.2)
/-- nothing beyond the arrays' ends -/
def nS (v : Sv) : Prop := (∀ i, 12 ≤ i → v.2.2.2.2.1 i = 0) ∧ (∀ i, 32 ≤ i → v.2.2.2.2.2.1 i = 0) ∧ ∀ i, 64 ≤ i → v.2.2.2.2.2.2 i = 0
/-- nothing but these cells changed -/
def frm (k k2 : Nat → va_E) (a n : Nat) : Prop := ∀ q, q < a ∨ a + n ≤ q → k2 q = k q
def wLo (n lo x : Int32) : Int32 := if n = 0 then x else if x < lo then x else lo
def wHi (n hi x : Int32) : Int32 := if n = 0 then x else if hi < x then x else hi
theorem isS.to {tI : ClassId} {b N kk a : Nat} {dv : Int32} {k k2 : Nat → va_E} {v : Sv} (h : isS tI b N k kk dv a v) (he : ∀ q, a ≤ q → q < a + 6 → k2 q = k q) : isS tI b N k2 kk dv a v := by
  obtain ⟨h0, h1, h2, h3, h4, h5⟩ := h
  exact ⟨h0.to (he _ (by omega) (by omega)), h1.to (he _ (by omega) (by omega)), h2.to (he _ (by omega) (by omega)), h3.to (he _ (by omega) (by omega)), h4.to (he _ (by omega) (by omega)), h5.to (he _ (by omega) (by omega))⟩
theorem isS.keep {tI : ClassId} {b N kk a c m : Nat} {dv : Int32} {k k2 : Nat → va_E} {v : Sv} (h : isS tI b N k kk dv a v) (hf : frm k k2 c m) (hd : a + 6 ≤ c ∨ c + m ≤ a) : isS tI b N k2 kk dv a v := h.to (fun q h1 h2 => hf q (by omega))
def eS : Sv := (0, 0, 0, 0, fun _ => 0, fun _ => 0, fun _ => 0)
def clS (v : Sv) : Sv := (0, 0, v.2.2.1, v.2.2.2.1, fun _ => 0, fun _ => 0, fun _ => 0)
def tkS (kk : Nat) (dv : Int32) (v : Sv) (x lf : Nat) : Sv := (v.1 + 1, v.2.1 + (nI x).toInt64, wLo v.1 v.2.2.1 (nI x), wHi v.1 v.2.2.2.1 (nI x), upd v.2.2.2.2.1 lf (v.2.2.2.2.1 lf + 1), tkC kk v.2.2.2.2.2.1 x, cpr ((v.1 + 1) / dv) 4096 (upd v.2.2.2.2.2.2 (32 + x) (v.2.2.2.2.2.2 (32 + x) + 1)))
def mgS (kk : Nat) (dv : Int32) (v w : Sv) : Sv := (v.1 + w.1, v.2.1 + w.2.1, wLo v.1 v.2.2.1 w.2.2.1, wHi v.1 v.2.2.2.1 w.2.2.2.1, ad v.2.2.2.2.1 w.2.2.2.2.1, mgC kk v.2.2.2.2.2.1 w.2.2.2.2.2.1, cpr ((v.1 + w.1) / dv) 4096 (ad v.2.2.2.2.2.2 w.2.2.2.2.2.2))
section
variable {l : Launch} {D : va_G} {tI tZ tN tM : ClassId} {b N : Nat} {k : Nat → va_E}
set_option maxHeartbeats 4000000 in
set_option maxRecDepth 100000 in
/-- widen(x, y) -/
theorem c_S_widen {a : Nat} {n lo hi x y : Int32} {su : Int64} (h0 : zc b N k a (.inr (4, [.int n, .long su, .int lo, .int hi, .ref (a + 1), .ref (a + 2), .ref (a + 4)]))) : Met l y_S_widen (wy y_S_widen b_S_widen 3 none) (rm 1 0 0) (zPc D (tyl tI tZ tN tM) b N k [.ref a, .int x, .int y]) (zQv D b N (fun k2 => k2 = va_up k a (.inr (4, [.int n, .long su, .int (wLo n lo x), .int (wHi n hi y), .ref (a + 1), .ref (a + 2), .ref (a + 4)])))) 0 0 (zA b) := by
  refine z_met (own := R_S) (by decide) rfl rfl (Nat.le_of_ble_eq_true rfl) [some (.ref a), some (.int x), some (.int y)] rfl ?_
  intro p e s m args below meth c X hin
  refine z_aload_n X d_S_widen_0 rfl ?_
  refine z_aload_n X d_S_widen_1 rfl ?_
  refine z_get X h0 rfl in_S 0 (by decide) (wq lf_S_9) rfl d_S_widen_2 ?_
  refine z_if_ne X d_S_widen_5 (tgt := 12) (by decide) (fun hA => ?_) (fun hA => ?_)
  · skip
    refine z_aload_n X d_S_widen_12 rfl ?_
    refine z_get X h0 rfl in_S 2 (by decide) (wq lf_S_19) rfl d_S_widen_13 ?_
    refine z_iload_n X d_S_widen_16 rfl ?_
    refine z_mmin X (wq lm_S_76) (wq vs_min) (wq vn_Math) (wq vc_min) d_S_widen_17 (Nat.le_of_ble_eq_true rfl) (Nat.le_of_ble_eq_true rfl) (Nat.le_of_ble_eq_true rfl) (Nat.le_of_ble_eq_true rfl) ?_
    refine z_put X h0 rfl in_S ty_S_ok n_S 2 (by decide) (wq lf_S_19) rfl rfl rfl (Nat.le_of_ble_eq_true rfl) d_S_widen_20 ?_
    have h0 := h0.up (y := .inr (4, [.int n, .long su, .int (if x < lo then x else lo), .int hi, .ref (a + 1), .ref (a + 2), .ref (a + 4)]))
    refine z_aload_n X d_S_widen_23 rfl ?_
    refine z_aload_n X d_S_widen_24 rfl ?_
    refine z_get X h0 rfl in_S 0 (by decide) (wq lf_S_9) rfl d_S_widen_25 ?_
    refine z_if_ne X d_S_widen_28 (tgt := 35) (by decide) (fun hB => ?_) (fun hB => ?_)
    · skip
      refine z_aload_n X d_S_widen_35 rfl ?_
      refine z_get X h0 rfl in_S 3 (by decide) (wq lf_S_22) rfl d_S_widen_36 ?_
      refine z_iload_n X d_S_widen_39 rfl ?_
      refine z_mmax X (wq lm_S_82) (wq vs_max) (wq vn_Math) (wq vc_max) d_S_widen_40 (Nat.le_of_ble_eq_true rfl) (Nat.le_of_ble_eq_true rfl) (Nat.le_of_ble_eq_true rfl) (Nat.le_of_ble_eq_true rfl) ?_
      refine z_put X h0 rfl in_S ty_S_ok n_S 3 (by decide) (wq lf_S_22) rfl rfl rfl (Nat.le_of_ble_eq_true rfl) d_S_widen_43 ?_
      have h0 := h0.up (y := .inr (4, [.int n, .long su, .int (if x < lo then x else lo), .int (if hi < y then y else hi), .ref (a + 1), .ref (a + 2), .ref (a + 4)]))
      exact z_vret X d_S_widen_46 (by omega) (by omega) (by rw [up_up]; unfold wLo wHi; rw [if_neg hA, if_neg hB]; rfl)
    · skip
      refine z_iload_n X d_S_widen_31 rfl ?_
      refine z_goto X d_S_widen_32 (tgt := 43) (by decide) ?_
      refine z_put X h0 rfl in_S ty_S_ok n_S 3 (by decide) (wq lf_S_22) rfl rfl rfl (Nat.le_of_ble_eq_true rfl) d_S_widen_43 ?_
      have h0 := h0.up (y := .inr (4, [.int n, .long su, .int (if x < lo then x else lo), .int y, .ref (a + 1), .ref (a + 2), .ref (a + 4)]))
      exact z_vret X d_S_widen_46 (by omega) (by omega) (by rw [up_up]; unfold wLo wHi; rw [if_neg hA, if_pos hB]; rfl)
  · skip
    refine z_iload_n X d_S_widen_8 rfl ?_
    refine z_goto X d_S_widen_9 (tgt := 20) (by decide) ?_
    refine z_put X h0 rfl in_S ty_S_ok n_S 2 (by decide) (wq lf_S_19) rfl rfl rfl (Nat.le_of_ble_eq_true rfl) d_S_widen_20 ?_
    have h0 := h0.up (y := .inr (4, [.int n, .long su, .int x, .int hi, .ref (a + 1), .ref (a + 2), .ref (a + 4)]))
    refine z_aload_n X d_S_widen_23 rfl ?_
    refine z_aload_n X d_S_widen_24 rfl ?_
    refine z_get X h0 rfl in_S 0 (by decide) (wq lf_S_9) rfl d_S_widen_25 ?_
    refine z_if_ne X d_S_widen_28 (tgt := 35) (by decide) (fun hB => ?_) (fun hB => ?_)
    · skip
      refine z_aload_n X d_S_widen_35 rfl ?_
      refine z_get X h0 rfl in_S 3 (by decide) (wq lf_S_22) rfl d_S_widen_36 ?_
      refine z_iload_n X d_S_widen_39 rfl ?_
      refine z_mmax X (wq lm_S_82) (wq vs_max) (wq vn_Math) (wq vc_max) d_S_widen_40 (Nat.le_of_ble_eq_true rfl) (Nat.le_of_ble_eq_true rfl) (Nat.le_of_ble_eq_true rfl) (Nat.le_of_ble_eq_true rfl) ?_
      refine z_put X h0 rfl in_S ty_S_ok n_S 3 (by decide) (wq lf_S_22) rfl rfl rfl (Nat.le_of_ble_eq_true rfl) d_S_widen_43 ?_
      have h0 := h0.up (y := .inr (4, [.int n, .long su, .int x, .int (if hi < y then y else hi), .ref (a + 1), .ref (a + 2), .ref (a + 4)]))
      exact z_vret X d_S_widen_46 (by omega) (by omega) (by rw [up_up]; unfold wLo wHi; rw [if_pos hA, if_neg hB]; rfl)
    · skip
      refine z_iload_n X d_S_widen_31 rfl ?_
      refine z_goto X d_S_widen_32 (tgt := 43) (by decide) ?_
      refine z_put X h0 rfl in_S ty_S_ok n_S 3 (by decide) (wq lf_S_22) rfl rfl rfl (Nat.le_of_ble_eq_true rfl) d_S_widen_43 ?_
      have h0 := h0.up (y := .inr (4, [.int n, .long su, .int x, .int y, .ref (a + 1), .ref (a + 2), .ref (a + 4)]))
      exact z_vret X d_S_widen_46 (by omega) (by omega) (by rw [up_up]; unfold wLo wHi; rw [if_pos hA, if_pos hB]; rfl)
set_option maxHeartbeats 4000000 in
set_option maxRecDepth 100000 in
/-- makeEmpty() -/
theorem c_S_makeEmpty {a kk : Nat} {dv n lo hi : Int32} {su : Int64} {fr ct dg : Nat → Int32} (hS : isS tI b N k kk dv a (n, su, lo, hi, fr, ct, dg)) (hn : nS (n, su, lo, hi, fr, ct, dg)) : Met l y_S_makeEmpty (wy y_S_makeEmpty b_S_makeEmpty 1 none) (rm 1 0 0) (zPc D (tyl tI tZ tN tM) b N k [.ref a]) (zQv D b N (fun k2 => isS tI b N k2 kk dv a (clS (n, su, lo, hi, fr, ct, dg)) ∧ frm k k2 a 6)) 0 0 (zA b) := by
  refine z_met (own := R_S) (by decide) rfl rfl (Nat.le_of_ble_eq_true rfl) [some (.ref a)] rfl ?_
  intro p e s m args below meth c X hin
  obtain ⟨h0, h1, h2, h3, h4, h5⟩ := hS
  try dsimp only at h0 h1 h2 h3 h4 h5
  obtain ⟨n1, n2, n3⟩ := hn
  refine z_aload_n X d_S_makeEmpty_0 rfl ?_
  refine z_iconst X d_S_makeEmpty_1 (v := nI 0) (by decide +kernel) ?_
  refine z_put X h0 rfl in_S ty_S_ok n_S 0 (by decide) (wq lf_S_9) rfl rfl rfl (Nat.le_of_ble_eq_true rfl) d_S_makeEmpty_2 ?_
  have h1 := h1.ne (q := a) (y := .inr (4, [.int (nI 0), .long su, .int lo, .int hi, .ref (a + 1), .ref (a + 2), .ref (a + 4)])) (by omega)
  have h2 := h2.ne (q := a) (y := .inr (4, [.int (nI 0), .long su, .int lo, .int hi, .ref (a + 1), .ref (a + 2), .ref (a + 4)])) (by omega)
  have h3 := h3.ne (q := a) (y := .inr (4, [.int (nI 0), .long su, .int lo, .int hi, .ref (a + 1), .ref (a + 2), .ref (a + 4)])) (by omega)
  have h4 := h4.ne (q := a) (y := .inr (4, [.int (nI 0), .long su, .int lo, .int hi, .ref (a + 1), .ref (a + 2), .ref (a + 4)])) (by omega)
  have h5 := h5.ne (q := a) (y := .inr (4, [.int (nI 0), .long su, .int lo, .int hi, .ref (a + 1), .ref (a + 2), .ref (a + 4)])) (by omega)
  have h0 := h0.up (y := .inr (4, [.int (nI 0), .long su, .int lo, .int hi, .ref (a + 1), .ref (a + 2), .ref (a + 4)]))
  refine z_aload_n X d_S_makeEmpty_5 rfl ?_
  refine z_lconst X d_S_makeEmpty_6 (v := 0) (by decide +kernel) ?_
  refine z_put X h0 rfl in_S ty_S_ok n_S 1 (by decide) (wq lf_S_15) rfl rfl rfl (Nat.le_of_ble_eq_true rfl) d_S_makeEmpty_7 ?_
  have h1 := h1.ne (q := a) (y := .inr (4, [.int (nI 0), .long 0, .int lo, .int hi, .ref (a + 1), .ref (a + 2), .ref (a + 4)])) (by omega)
  have h2 := h2.ne (q := a) (y := .inr (4, [.int (nI 0), .long 0, .int lo, .int hi, .ref (a + 1), .ref (a + 2), .ref (a + 4)])) (by omega)
  have h3 := h3.ne (q := a) (y := .inr (4, [.int (nI 0), .long 0, .int lo, .int hi, .ref (a + 1), .ref (a + 2), .ref (a + 4)])) (by omega)
  have h4 := h4.ne (q := a) (y := .inr (4, [.int (nI 0), .long 0, .int lo, .int hi, .ref (a + 1), .ref (a + 2), .ref (a + 4)])) (by omega)
  have h5 := h5.ne (q := a) (y := .inr (4, [.int (nI 0), .long 0, .int lo, .int hi, .ref (a + 1), .ref (a + 2), .ref (a + 4)])) (by omega)
  have h0 := h0.up (y := .inr (4, [.int (nI 0), .long 0, .int lo, .int hi, .ref (a + 1), .ref (a + 2), .ref (a + 4)]))
  refine z_aload_n X d_S_makeEmpty_10 rfl ?_
  refine z_get X h0 rfl in_S 4 (by decide) (wq lf_S_25) rfl d_S_makeEmpty_11 ?_
  refine z_callSNv X (a := 0) (c_T_clear h1 (by omega)) (⟨va_cnB 1 X.1.2.2.2.2 (gi_wy vc_T_clear) rfl rfl rfl (zn_S_45 X.2.2.2.2.2) (X.1.2.2.2.2 _ (wq vn_T)) (by decide +kernel) ⟨Nat.le_of_ble_eq_true rfl, Nat.le_of_ble_eq_true rfl⟩, X.1.2.2.2.2 _ (wq vs_T_clear), trivial⟩) (As := [.ref (a + 1)]) (st := []) rfl rfl (Nat.le_of_ble_eq_true rfl) d_S_makeEmpty_14 ⟨Nat.le_of_ble_eq_true rfl, Nat.le_of_ble_eq_true rfl⟩ (fun k2 hq => ?_)
  subst hq
  rw [pr_all (m := 12) (F := fun _ => 0) (C := fr) (fun i hi => (n1 i hi).symm)]
  have h0 := h0.ne (q := (a + 1)) (y := aI tI 12 (fun _ => 0)) (by omega)
  have h2 := h2.ne (q := (a + 1)) (y := aI tI 12 (fun _ => 0)) (by omega)
  have h3 := h3.ne (q := (a + 1)) (y := aI tI 12 (fun _ => 0)) (by omega)
  have h4 := h4.ne (q := (a + 1)) (y := aI tI 12 (fun _ => 0)) (by omega)
  have h5 := h5.ne (q := (a + 1)) (y := aI tI 12 (fun _ => 0)) (by omega)
  have h1 := h1.up (y := aI tI 12 (fun _ => 0))
  refine z_aload_n X d_S_makeEmpty_17 rfl ?_
  refine z_get X h0 rfl in_S 5 (by decide) (wq lf_S_34) rfl d_S_makeEmpty_18 ?_
  refine z_get X h2 rfl in_C 1 (by decide) (wq lf_S_49) rfl d_S_makeEmpty_21 ?_
  refine z_callSNv X (a := 0) (c_T_clear h3 (by omega)) (⟨va_cnB 1 X.1.2.2.2.2 (gi_wy vc_T_clear) rfl rfl rfl (zn_S_45 X.2.2.2.2.2) (X.1.2.2.2.2 _ (wq vn_T)) (by decide +kernel) ⟨Nat.le_of_ble_eq_true rfl, Nat.le_of_ble_eq_true rfl⟩, X.1.2.2.2.2 _ (wq vs_T_clear), trivial⟩) (As := [.ref (a + 3)]) (st := []) rfl rfl (Nat.le_of_ble_eq_true rfl) d_S_makeEmpty_24 ⟨Nat.le_of_ble_eq_true rfl, Nat.le_of_ble_eq_true rfl⟩ (fun k2 hq => ?_)
  subst hq
  rw [pr_all (m := 32) (F := fun _ => 0) (C := ct) (fun i hi => (n2 i hi).symm)]
  have h0 := h0.ne (q := (a + 3)) (y := aI tI 32 (fun _ => 0)) (by omega)
  have h1 := h1.ne (q := (a + 3)) (y := aI tI 32 (fun _ => 0)) (by omega)
  have h2 := h2.ne (q := (a + 3)) (y := aI tI 32 (fun _ => 0)) (by omega)
  have h4 := h4.ne (q := (a + 3)) (y := aI tI 32 (fun _ => 0)) (by omega)
  have h5 := h5.ne (q := (a + 3)) (y := aI tI 32 (fun _ => 0)) (by omega)
  have h3 := h3.up (y := aI tI 32 (fun _ => 0))
  refine z_aload_n X d_S_makeEmpty_27 rfl ?_
  refine z_get X h0 rfl in_S 6 (by decide) (wq lf_S_41) rfl d_S_makeEmpty_28 ?_
  refine z_get X h4 rfl in_D 1 (by decide) (wq lf_S_52) rfl d_S_makeEmpty_31 ?_
  refine z_callSNv X (a := 0) (c_T_clear h5 (by omega)) (⟨va_cnB 1 X.1.2.2.2.2 (gi_wy vc_T_clear) rfl rfl rfl (zn_S_45 X.2.2.2.2.2) (X.1.2.2.2.2 _ (wq vn_T)) (by decide +kernel) ⟨Nat.le_of_ble_eq_true rfl, Nat.le_of_ble_eq_true rfl⟩, X.1.2.2.2.2 _ (wq vs_T_clear), trivial⟩) (As := [.ref (a + 5)]) (st := []) rfl rfl (Nat.le_of_ble_eq_true rfl) d_S_makeEmpty_34 ⟨Nat.le_of_ble_eq_true rfl, Nat.le_of_ble_eq_true rfl⟩ (fun k2 hq => ?_)
  subst hq
  rw [pr_all (m := 64) (F := fun _ => 0) (C := dg) (fun i hi => (n3 i hi).symm)]
  have h0 := h0.ne (q := (a + 5)) (y := aI tI 64 (fun _ => 0)) (by omega)
  have h1 := h1.ne (q := (a + 5)) (y := aI tI 64 (fun _ => 0)) (by omega)
  have h2 := h2.ne (q := (a + 5)) (y := aI tI 64 (fun _ => 0)) (by omega)
  have h3 := h3.ne (q := (a + 5)) (y := aI tI 64 (fun _ => 0)) (by omega)
  have h4 := h4.ne (q := (a + 5)) (y := aI tI 64 (fun _ => 0)) (by omega)
  have h5 := h5.up (y := aI tI 64 (fun _ => 0))
  rw [nI_0] at *
  exact z_vret X d_S_makeEmpty_37 (by omega) (by omega) (⟨⟨h0, h1, h2, h3, h4, h5⟩, fun q hq => by simp only [va_up]; repeat rw [if_neg (by omega)]⟩)
set_option maxHeartbeats 4000000 in
set_option maxRecDepth 100000 in
/-- setTo(other) -/
theorem c_S_setTo {a kk : Nat} {dv n lo hi : Int32} {su : Int64} {fr ct dg : Nat → Int32} {a2 kk2 : Nat} {dv2 nn lo2 hi2 : Int32} {su2 : Int64} {fr2 ct2 dg2 : Nat → Int32} (hS : isS tI b N k kk dv a (n, su, lo, hi, fr, ct, dg)) (hn : nS (n, su, lo, hi, fr, ct, dg)) (hS2 : isS tI b N k kk2 dv2 a2 (nn, su2, lo2, hi2, fr2, ct2, dg2)) (hn2 : nS (nn, su2, lo2, hi2, fr2, ct2, dg2)) (hne : a + 6 ≤ a2 ∨ a2 + 6 ≤ a) : Met l y_S_setTo (wy y_S_setTo b_S_setTo 2 none) (rm 1 0 0) (zPc D (tyl tI tZ tN tM) b N k [.ref a, .ref a2]) (zQv D b N (fun k2 => isS tI b N k2 kk dv a (nn, su2, lo2, hi2, fr2, ct2, dg2) ∧ frm k k2 a 6)) 0 0 (zA b) := by
  refine z_met (own := R_S) (by decide) rfl rfl (Nat.le_of_ble_eq_true rfl) [some (.ref a), some (.ref a2)] rfl ?_
  intro p e s m args below meth c X hin
  obtain ⟨h0, h1, h2, h3, h4, h5⟩ := hS
  try dsimp only at h0 h1 h2 h3 h4 h5
  obtain ⟨g0, g1, g2, g3, g4, g5⟩ := hS2
  try dsimp only at g0 g1 g2 g3 g4 g5
  obtain ⟨n1, n2, n3⟩ := hn
  obtain ⟨m1, m2, m3⟩ := hn2
  try dsimp only at n1 n2 n3 m1 m2 m3
  refine z_aload_n X d_S_setTo_0 rfl ?_
  refine z_aload_n X d_S_setTo_1 rfl ?_
  refine z_get X g0 rfl in_S 0 (by decide) (wq lf_S_9) rfl d_S_setTo_2 ?_
  refine z_put X h0 rfl in_S ty_S_ok n_S 0 (by decide) (wq lf_S_9) rfl rfl rfl (Nat.le_of_ble_eq_true rfl) d_S_setTo_5 ?_
  have h1 := h1.ne (q := a) (y := .inr (4, [.int nn, .long su, .int lo, .int hi, .ref (a + 1), .ref (a + 2), .ref (a + 4)])) (by omega)
  have h2 := h2.ne (q := a) (y := .inr (4, [.int nn, .long su, .int lo, .int hi, .ref (a + 1), .ref (a + 2), .ref (a + 4)])) (by omega)
  have h3 := h3.ne (q := a) (y := .inr (4, [.int nn, .long su, .int lo, .int hi, .ref (a + 1), .ref (a + 2), .ref (a + 4)])) (by omega)
  have h4 := h4.ne (q := a) (y := .inr (4, [.int nn, .long su, .int lo, .int hi, .ref (a + 1), .ref (a + 2), .ref (a + 4)])) (by omega)
  have h5 := h5.ne (q := a) (y := .inr (4, [.int nn, .long su, .int lo, .int hi, .ref (a + 1), .ref (a + 2), .ref (a + 4)])) (by omega)
  have g0 := g0.ne (q := a) (y := .inr (4, [.int nn, .long su, .int lo, .int hi, .ref (a + 1), .ref (a + 2), .ref (a + 4)])) (by omega)
  have g1 := g1.ne (q := a) (y := .inr (4, [.int nn, .long su, .int lo, .int hi, .ref (a + 1), .ref (a + 2), .ref (a + 4)])) (by omega)
  have g2 := g2.ne (q := a) (y := .inr (4, [.int nn, .long su, .int lo, .int hi, .ref (a + 1), .ref (a + 2), .ref (a + 4)])) (by omega)
  have g3 := g3.ne (q := a) (y := .inr (4, [.int nn, .long su, .int lo, .int hi, .ref (a + 1), .ref (a + 2), .ref (a + 4)])) (by omega)
  have g4 := g4.ne (q := a) (y := .inr (4, [.int nn, .long su, .int lo, .int hi, .ref (a + 1), .ref (a + 2), .ref (a + 4)])) (by omega)
  have g5 := g5.ne (q := a) (y := .inr (4, [.int nn, .long su, .int lo, .int hi, .ref (a + 1), .ref (a + 2), .ref (a + 4)])) (by omega)
  have h0 := h0.up (y := .inr (4, [.int nn, .long su, .int lo, .int hi, .ref (a + 1), .ref (a + 2), .ref (a + 4)]))
  refine z_aload_n X d_S_setTo_8 rfl ?_
  refine z_aload_n X d_S_setTo_9 rfl ?_
  refine z_get X g0 rfl in_S 1 (by decide) (wq lf_S_15) rfl d_S_setTo_10 ?_
  refine z_put X h0 rfl in_S ty_S_ok n_S 1 (by decide) (wq lf_S_15) rfl rfl rfl (Nat.le_of_ble_eq_true rfl) d_S_setTo_13 ?_
  have h1 := h1.ne (q := a) (y := .inr (4, [.int nn, .long su2, .int lo, .int hi, .ref (a + 1), .ref (a + 2), .ref (a + 4)])) (by omega)
  have h2 := h2.ne (q := a) (y := .inr (4, [.int nn, .long su2, .int lo, .int hi, .ref (a + 1), .ref (a + 2), .ref (a + 4)])) (by omega)
  have h3 := h3.ne (q := a) (y := .inr (4, [.int nn, .long su2, .int lo, .int hi, .ref (a + 1), .ref (a + 2), .ref (a + 4)])) (by omega)
  have h4 := h4.ne (q := a) (y := .inr (4, [.int nn, .long su2, .int lo, .int hi, .ref (a + 1), .ref (a + 2), .ref (a + 4)])) (by omega)
  have h5 := h5.ne (q := a) (y := .inr (4, [.int nn, .long su2, .int lo, .int hi, .ref (a + 1), .ref (a + 2), .ref (a + 4)])) (by omega)
  have g0 := g0.ne (q := a) (y := .inr (4, [.int nn, .long su2, .int lo, .int hi, .ref (a + 1), .ref (a + 2), .ref (a + 4)])) (by omega)
  have g1 := g1.ne (q := a) (y := .inr (4, [.int nn, .long su2, .int lo, .int hi, .ref (a + 1), .ref (a + 2), .ref (a + 4)])) (by omega)
  have g2 := g2.ne (q := a) (y := .inr (4, [.int nn, .long su2, .int lo, .int hi, .ref (a + 1), .ref (a + 2), .ref (a + 4)])) (by omega)
  have g3 := g3.ne (q := a) (y := .inr (4, [.int nn, .long su2, .int lo, .int hi, .ref (a + 1), .ref (a + 2), .ref (a + 4)])) (by omega)
  have g4 := g4.ne (q := a) (y := .inr (4, [.int nn, .long su2, .int lo, .int hi, .ref (a + 1), .ref (a + 2), .ref (a + 4)])) (by omega)
  have g5 := g5.ne (q := a) (y := .inr (4, [.int nn, .long su2, .int lo, .int hi, .ref (a + 1), .ref (a + 2), .ref (a + 4)])) (by omega)
  have h0 := h0.up (y := .inr (4, [.int nn, .long su2, .int lo, .int hi, .ref (a + 1), .ref (a + 2), .ref (a + 4)]))
  refine z_aload_n X d_S_setTo_16 rfl ?_
  refine z_aload_n X d_S_setTo_17 rfl ?_
  refine z_get X g0 rfl in_S 2 (by decide) (wq lf_S_19) rfl d_S_setTo_18 ?_
  refine z_put X h0 rfl in_S ty_S_ok n_S 2 (by decide) (wq lf_S_19) rfl rfl rfl (Nat.le_of_ble_eq_true rfl) d_S_setTo_21 ?_
  have h1 := h1.ne (q := a) (y := .inr (4, [.int nn, .long su2, .int lo2, .int hi, .ref (a + 1), .ref (a + 2), .ref (a + 4)])) (by omega)
  have h2 := h2.ne (q := a) (y := .inr (4, [.int nn, .long su2, .int lo2, .int hi, .ref (a + 1), .ref (a + 2), .ref (a + 4)])) (by omega)
  have h3 := h3.ne (q := a) (y := .inr (4, [.int nn, .long su2, .int lo2, .int hi, .ref (a + 1), .ref (a + 2), .ref (a + 4)])) (by omega)
  have h4 := h4.ne (q := a) (y := .inr (4, [.int nn, .long su2, .int lo2, .int hi, .ref (a + 1), .ref (a + 2), .ref (a + 4)])) (by omega)
  have h5 := h5.ne (q := a) (y := .inr (4, [.int nn, .long su2, .int lo2, .int hi, .ref (a + 1), .ref (a + 2), .ref (a + 4)])) (by omega)
  have g0 := g0.ne (q := a) (y := .inr (4, [.int nn, .long su2, .int lo2, .int hi, .ref (a + 1), .ref (a + 2), .ref (a + 4)])) (by omega)
  have g1 := g1.ne (q := a) (y := .inr (4, [.int nn, .long su2, .int lo2, .int hi, .ref (a + 1), .ref (a + 2), .ref (a + 4)])) (by omega)
  have g2 := g2.ne (q := a) (y := .inr (4, [.int nn, .long su2, .int lo2, .int hi, .ref (a + 1), .ref (a + 2), .ref (a + 4)])) (by omega)
  have g3 := g3.ne (q := a) (y := .inr (4, [.int nn, .long su2, .int lo2, .int hi, .ref (a + 1), .ref (a + 2), .ref (a + 4)])) (by omega)
  have g4 := g4.ne (q := a) (y := .inr (4, [.int nn, .long su2, .int lo2, .int hi, .ref (a + 1), .ref (a + 2), .ref (a + 4)])) (by omega)
  have g5 := g5.ne (q := a) (y := .inr (4, [.int nn, .long su2, .int lo2, .int hi, .ref (a + 1), .ref (a + 2), .ref (a + 4)])) (by omega)
  have h0 := h0.up (y := .inr (4, [.int nn, .long su2, .int lo2, .int hi, .ref (a + 1), .ref (a + 2), .ref (a + 4)]))
  refine z_aload_n X d_S_setTo_24 rfl ?_
  refine z_aload_n X d_S_setTo_25 rfl ?_
  refine z_get X g0 rfl in_S 3 (by decide) (wq lf_S_22) rfl d_S_setTo_26 ?_
  refine z_put X h0 rfl in_S ty_S_ok n_S 3 (by decide) (wq lf_S_22) rfl rfl rfl (Nat.le_of_ble_eq_true rfl) d_S_setTo_29 ?_
  have h1 := h1.ne (q := a) (y := .inr (4, [.int nn, .long su2, .int lo2, .int hi2, .ref (a + 1), .ref (a + 2), .ref (a + 4)])) (by omega)
  have h2 := h2.ne (q := a) (y := .inr (4, [.int nn, .long su2, .int lo2, .int hi2, .ref (a + 1), .ref (a + 2), .ref (a + 4)])) (by omega)
  have h3 := h3.ne (q := a) (y := .inr (4, [.int nn, .long su2, .int lo2, .int hi2, .ref (a + 1), .ref (a + 2), .ref (a + 4)])) (by omega)
  have h4 := h4.ne (q := a) (y := .inr (4, [.int nn, .long su2, .int lo2, .int hi2, .ref (a + 1), .ref (a + 2), .ref (a + 4)])) (by omega)
  have h5 := h5.ne (q := a) (y := .inr (4, [.int nn, .long su2, .int lo2, .int hi2, .ref (a + 1), .ref (a + 2), .ref (a + 4)])) (by omega)
  have g0 := g0.ne (q := a) (y := .inr (4, [.int nn, .long su2, .int lo2, .int hi2, .ref (a + 1), .ref (a + 2), .ref (a + 4)])) (by omega)
  have g1 := g1.ne (q := a) (y := .inr (4, [.int nn, .long su2, .int lo2, .int hi2, .ref (a + 1), .ref (a + 2), .ref (a + 4)])) (by omega)
  have g2 := g2.ne (q := a) (y := .inr (4, [.int nn, .long su2, .int lo2, .int hi2, .ref (a + 1), .ref (a + 2), .ref (a + 4)])) (by omega)
  have g3 := g3.ne (q := a) (y := .inr (4, [.int nn, .long su2, .int lo2, .int hi2, .ref (a + 1), .ref (a + 2), .ref (a + 4)])) (by omega)
  have g4 := g4.ne (q := a) (y := .inr (4, [.int nn, .long su2, .int lo2, .int hi2, .ref (a + 1), .ref (a + 2), .ref (a + 4)])) (by omega)
  have g5 := g5.ne (q := a) (y := .inr (4, [.int nn, .long su2, .int lo2, .int hi2, .ref (a + 1), .ref (a + 2), .ref (a + 4)])) (by omega)
  have h0 := h0.up (y := .inr (4, [.int nn, .long su2, .int lo2, .int hi2, .ref (a + 1), .ref (a + 2), .ref (a + 4)]))
  refine z_aload_n X d_S_setTo_32 rfl ?_
  refine z_get X h0 rfl in_S 4 (by decide) (wq lf_S_25) rfl d_S_setTo_33 ?_
  refine z_aload_n X d_S_setTo_36 rfl ?_
  refine z_get X g0 rfl in_S 4 (by decide) (wq lf_S_25) rfl d_S_setTo_37 ?_
  refine z_callSNv X (a := 0) (c_T_overwrite h1 g1 (by omega) (by omega)) (⟨va_cnB 2 X.1.2.2.2.2 (gi_wy vc_T_overwrite) rfl rfl rfl (zn_S_53 X.2.2.2.2.2) (X.1.2.2.2.2 _ (wq vn_T)) (by decide +kernel) ⟨Nat.le_of_ble_eq_true rfl, Nat.le_of_ble_eq_true rfl⟩, X.1.2.2.2.2 _ (wq vs_T_overwrite), trivial⟩) (As := [.ref (a + 1), .ref (a2 + 1)]) (st := []) rfl rfl (Nat.le_of_ble_eq_true rfl) d_S_setTo_40 ⟨Nat.le_of_ble_eq_true rfl, Nat.le_of_ble_eq_true rfl⟩ (fun k2 hq => ?_)
  subst hq
  rw [pr_all (m := 12) (F := fr2) (C := fr) (fun i hi => by rw [n1 i hi, m1 i hi])]
  have h0 := h0.ne (q := (a + 1)) (y := aI tI 12 fr2) (by omega)
  have h2 := h2.ne (q := (a + 1)) (y := aI tI 12 fr2) (by omega)
  have h3 := h3.ne (q := (a + 1)) (y := aI tI 12 fr2) (by omega)
  have h4 := h4.ne (q := (a + 1)) (y := aI tI 12 fr2) (by omega)
  have h5 := h5.ne (q := (a + 1)) (y := aI tI 12 fr2) (by omega)
  have g0 := g0.ne (q := (a + 1)) (y := aI tI 12 fr2) (by omega)
  have g1 := g1.ne (q := (a + 1)) (y := aI tI 12 fr2) (by omega)
  have g2 := g2.ne (q := (a + 1)) (y := aI tI 12 fr2) (by omega)
  have g3 := g3.ne (q := (a + 1)) (y := aI tI 12 fr2) (by omega)
  have g4 := g4.ne (q := (a + 1)) (y := aI tI 12 fr2) (by omega)
  have g5 := g5.ne (q := (a + 1)) (y := aI tI 12 fr2) (by omega)
  have h1 := h1.up (y := aI tI 12 fr2)
  refine z_aload_n X d_S_setTo_43 rfl ?_
  refine z_get X h0 rfl in_S 5 (by decide) (wq lf_S_34) rfl d_S_setTo_44 ?_
  refine z_get X h2 rfl in_C 1 (by decide) (wq lf_S_49) rfl d_S_setTo_47 ?_
  refine z_aload_n X d_S_setTo_50 rfl ?_
  refine z_get X g0 rfl in_S 5 (by decide) (wq lf_S_34) rfl d_S_setTo_51 ?_
  refine z_get X g2 rfl in_C 1 (by decide) (wq lf_S_49) rfl d_S_setTo_54 ?_
  refine z_callSNv X (a := 0) (c_T_overwrite h3 g3 (by omega) (by omega)) (⟨va_cnB 2 X.1.2.2.2.2 (gi_wy vc_T_overwrite) rfl rfl rfl (zn_S_53 X.2.2.2.2.2) (X.1.2.2.2.2 _ (wq vn_T)) (by decide +kernel) ⟨Nat.le_of_ble_eq_true rfl, Nat.le_of_ble_eq_true rfl⟩, X.1.2.2.2.2 _ (wq vs_T_overwrite), trivial⟩) (As := [.ref (a + 3), .ref (a2 + 3)]) (st := []) rfl rfl (Nat.le_of_ble_eq_true rfl) d_S_setTo_57 ⟨Nat.le_of_ble_eq_true rfl, Nat.le_of_ble_eq_true rfl⟩ (fun k2 hq => ?_)
  subst hq
  rw [pr_all (m := 32) (F := ct2) (C := ct) (fun i hi => by rw [n2 i hi, m2 i hi])]
  have h0 := h0.ne (q := (a + 3)) (y := aI tI 32 ct2) (by omega)
  have h1 := h1.ne (q := (a + 3)) (y := aI tI 32 ct2) (by omega)
  have h2 := h2.ne (q := (a + 3)) (y := aI tI 32 ct2) (by omega)
  have h4 := h4.ne (q := (a + 3)) (y := aI tI 32 ct2) (by omega)
  have h5 := h5.ne (q := (a + 3)) (y := aI tI 32 ct2) (by omega)
  have g0 := g0.ne (q := (a + 3)) (y := aI tI 32 ct2) (by omega)
  have g1 := g1.ne (q := (a + 3)) (y := aI tI 32 ct2) (by omega)
  have g2 := g2.ne (q := (a + 3)) (y := aI tI 32 ct2) (by omega)
  have g3 := g3.ne (q := (a + 3)) (y := aI tI 32 ct2) (by omega)
  have g4 := g4.ne (q := (a + 3)) (y := aI tI 32 ct2) (by omega)
  have g5 := g5.ne (q := (a + 3)) (y := aI tI 32 ct2) (by omega)
  have h3 := h3.up (y := aI tI 32 ct2)
  refine z_aload_n X d_S_setTo_60 rfl ?_
  refine z_get X h0 rfl in_S 6 (by decide) (wq lf_S_41) rfl d_S_setTo_61 ?_
  refine z_get X h4 rfl in_D 1 (by decide) (wq lf_S_52) rfl d_S_setTo_64 ?_
  refine z_aload_n X d_S_setTo_67 rfl ?_
  refine z_get X g0 rfl in_S 6 (by decide) (wq lf_S_41) rfl d_S_setTo_68 ?_
  refine z_get X g4 rfl in_D 1 (by decide) (wq lf_S_52) rfl d_S_setTo_71 ?_
  refine z_callSNv X (a := 0) (c_T_overwrite h5 g5 (by omega) (by omega)) (⟨va_cnB 2 X.1.2.2.2.2 (gi_wy vc_T_overwrite) rfl rfl rfl (zn_S_53 X.2.2.2.2.2) (X.1.2.2.2.2 _ (wq vn_T)) (by decide +kernel) ⟨Nat.le_of_ble_eq_true rfl, Nat.le_of_ble_eq_true rfl⟩, X.1.2.2.2.2 _ (wq vs_T_overwrite), trivial⟩) (As := [.ref (a + 5), .ref (a2 + 5)]) (st := []) rfl rfl (Nat.le_of_ble_eq_true rfl) d_S_setTo_74 ⟨Nat.le_of_ble_eq_true rfl, Nat.le_of_ble_eq_true rfl⟩ (fun k2 hq => ?_)
  subst hq
  rw [pr_all (m := 64) (F := dg2) (C := dg) (fun i hi => by rw [n3 i hi, m3 i hi])]
  have h0 := h0.ne (q := (a + 5)) (y := aI tI 64 dg2) (by omega)
  have h1 := h1.ne (q := (a + 5)) (y := aI tI 64 dg2) (by omega)
  have h2 := h2.ne (q := (a + 5)) (y := aI tI 64 dg2) (by omega)
  have h3 := h3.ne (q := (a + 5)) (y := aI tI 64 dg2) (by omega)
  have h4 := h4.ne (q := (a + 5)) (y := aI tI 64 dg2) (by omega)
  have g0 := g0.ne (q := (a + 5)) (y := aI tI 64 dg2) (by omega)
  have g1 := g1.ne (q := (a + 5)) (y := aI tI 64 dg2) (by omega)
  have g2 := g2.ne (q := (a + 5)) (y := aI tI 64 dg2) (by omega)
  have g3 := g3.ne (q := (a + 5)) (y := aI tI 64 dg2) (by omega)
  have g4 := g4.ne (q := (a + 5)) (y := aI tI 64 dg2) (by omega)
  have g5 := g5.ne (q := (a + 5)) (y := aI tI 64 dg2) (by omega)
  have h5 := h5.up (y := aI tI 64 dg2)
  exact z_vret X d_S_setTo_77 (by omega) (by omega) (⟨⟨h0, h1, h2, h3, h4, h5⟩, fun q hq => by simp only [va_up]; repeat rw [if_neg (by omega)]⟩)
set_option maxHeartbeats 4000000 in
set_option maxRecDepth 100000 in
/-- take(x, lf) -/
theorem c_S_take {a kk : Nat} {dv n lo hi : Int32} {su : Int64} {fr ct dg : Nat → Int32} {x lf : Nat} (hS : isS tI b N k kk dv a (n, su, lo, hi, fr, ct, dg)) (hx : x < 32) (hl : lf < 12) (hk1 : 1 ≤ kk) (hk6 : kk ≤ 6) (hd : ¬ dv = 0) : Met l y_S_take (wy y_S_take b_S_take 3 none) (rm 3 0 0) (zPc D (tyl tI tZ tN tM) b N k [.ref a, .int (nI x), .int (nI lf)]) (zQv D b N (fun k2 => isS tI b N k2 kk dv a (tkS kk dv (n, su, lo, hi, fr, ct, dg) x lf) ∧ frm k k2 a 6)) 0 0 (zA b) := by
  refine z_met (own := R_S) (by decide) rfl rfl (Nat.le_of_ble_eq_true rfl) [some (.ref a), some (.int (nI x)), some (.int (nI lf))] rfl ?_
  intro p e s m args below meth c X hin
  obtain ⟨h0, h1, h2, h3, h4, h5⟩ := hS
  try dsimp only at h0 h1 h2 h3 h4 h5
  refine z_aload_n X d_S_take_0 rfl ?_
  refine z_iload_n X d_S_take_1 rfl ?_
  refine z_iload_n X d_S_take_2 rfl ?_
  refine z_callVv X (c_S_widen h0) h0 rfl (cwV 2 X.1.2.2.2.2 (gi_V lm_S_57 vi_S_widen ve_S_widen vn_S vc_S_widen) rfl rfl rfl (by decide +kernel) ⟨Nat.le_of_ble_eq_true rfl, Nat.le_of_ble_eq_true rfl⟩) (As := [.int (nI x), .int (nI x)]) (st := []) rfl rfl (Nat.le_of_ble_eq_true rfl) d_S_take_3 ⟨Nat.le_of_ble_eq_true rfl, Nat.le_of_ble_eq_true rfl⟩ (fun k2 hq => ?_)
  subst hq
  have h1 := h1.ne (q := a) (y := .inr (4, [.int n, .long su, .int (wLo n lo (nI x)), .int (wHi n hi (nI x)), .ref (a + 1), .ref (a + 2), .ref (a + 4)])) (by omega)
  have h2 := h2.ne (q := a) (y := .inr (4, [.int n, .long su, .int (wLo n lo (nI x)), .int (wHi n hi (nI x)), .ref (a + 1), .ref (a + 2), .ref (a + 4)])) (by omega)
  have h3 := h3.ne (q := a) (y := .inr (4, [.int n, .long su, .int (wLo n lo (nI x)), .int (wHi n hi (nI x)), .ref (a + 1), .ref (a + 2), .ref (a + 4)])) (by omega)
  have h4 := h4.ne (q := a) (y := .inr (4, [.int n, .long su, .int (wLo n lo (nI x)), .int (wHi n hi (nI x)), .ref (a + 1), .ref (a + 2), .ref (a + 4)])) (by omega)
  have h5 := h5.ne (q := a) (y := .inr (4, [.int n, .long su, .int (wLo n lo (nI x)), .int (wHi n hi (nI x)), .ref (a + 1), .ref (a + 2), .ref (a + 4)])) (by omega)
  have h0 := h0.up (y := .inr (4, [.int n, .long su, .int (wLo n lo (nI x)), .int (wHi n hi (nI x)), .ref (a + 1), .ref (a + 2), .ref (a + 4)]))
  refine z_aload_n X d_S_take_6 rfl ?_
  refine z_dup X d_S_take_7 rfl ?_
  refine z_get X h0 rfl in_S 0 (by decide) (wq lf_S_9) rfl d_S_take_8 ?_
  refine z_iconst X d_S_take_11 (v := nI 1) (by decide +kernel) ?_
  refine z_iadd X d_S_take_12 ?_
  refine z_put X h0 rfl in_S ty_S_ok n_S 0 (by decide) (wq lf_S_9) rfl rfl rfl (Nat.le_of_ble_eq_true rfl) d_S_take_13 ?_
  have h1 := h1.ne (q := a) (y := .inr (4, [.int (n + (nI 1)), .long su, .int (wLo n lo (nI x)), .int (wHi n hi (nI x)), .ref (a + 1), .ref (a + 2), .ref (a + 4)])) (by omega)
  have h2 := h2.ne (q := a) (y := .inr (4, [.int (n + (nI 1)), .long su, .int (wLo n lo (nI x)), .int (wHi n hi (nI x)), .ref (a + 1), .ref (a + 2), .ref (a + 4)])) (by omega)
  have h3 := h3.ne (q := a) (y := .inr (4, [.int (n + (nI 1)), .long su, .int (wLo n lo (nI x)), .int (wHi n hi (nI x)), .ref (a + 1), .ref (a + 2), .ref (a + 4)])) (by omega)
  have h4 := h4.ne (q := a) (y := .inr (4, [.int (n + (nI 1)), .long su, .int (wLo n lo (nI x)), .int (wHi n hi (nI x)), .ref (a + 1), .ref (a + 2), .ref (a + 4)])) (by omega)
  have h5 := h5.ne (q := a) (y := .inr (4, [.int (n + (nI 1)), .long su, .int (wLo n lo (nI x)), .int (wHi n hi (nI x)), .ref (a + 1), .ref (a + 2), .ref (a + 4)])) (by omega)
  have h0 := h0.up (y := .inr (4, [.int (n + (nI 1)), .long su, .int (wLo n lo (nI x)), .int (wHi n hi (nI x)), .ref (a + 1), .ref (a + 2), .ref (a + 4)]))
  refine z_aload_n X d_S_take_16 rfl ?_
  refine z_dup X d_S_take_17 rfl ?_
  refine z_get X h0 rfl in_S 1 (by decide) (wq lf_S_15) rfl d_S_take_18 ?_
  refine z_iload_n X d_S_take_21 rfl ?_
  refine z_i2l X d_S_take_22 ?_
  refine z_ladd X d_S_take_23 ?_
  refine z_put X h0 rfl in_S ty_S_ok n_S 1 (by decide) (wq lf_S_15) rfl rfl rfl (Nat.le_of_ble_eq_true rfl) d_S_take_24 ?_
  have h1 := h1.ne (q := a) (y := .inr (4, [.int (n + (nI 1)), .long (su + ((nI x).toInt64)), .int (wLo n lo (nI x)), .int (wHi n hi (nI x)), .ref (a + 1), .ref (a + 2), .ref (a + 4)])) (by omega)
  have h2 := h2.ne (q := a) (y := .inr (4, [.int (n + (nI 1)), .long (su + ((nI x).toInt64)), .int (wLo n lo (nI x)), .int (wHi n hi (nI x)), .ref (a + 1), .ref (a + 2), .ref (a + 4)])) (by omega)
  have h3 := h3.ne (q := a) (y := .inr (4, [.int (n + (nI 1)), .long (su + ((nI x).toInt64)), .int (wLo n lo (nI x)), .int (wHi n hi (nI x)), .ref (a + 1), .ref (a + 2), .ref (a + 4)])) (by omega)
  have h4 := h4.ne (q := a) (y := .inr (4, [.int (n + (nI 1)), .long (su + ((nI x).toInt64)), .int (wLo n lo (nI x)), .int (wHi n hi (nI x)), .ref (a + 1), .ref (a + 2), .ref (a + 4)])) (by omega)
  have h5 := h5.ne (q := a) (y := .inr (4, [.int (n + (nI 1)), .long (su + ((nI x).toInt64)), .int (wLo n lo (nI x)), .int (wHi n hi (nI x)), .ref (a + 1), .ref (a + 2), .ref (a + 4)])) (by omega)
  have h0 := h0.up (y := .inr (4, [.int (n + (nI 1)), .long (su + ((nI x).toInt64)), .int (wLo n lo (nI x)), .int (wHi n hi (nI x)), .ref (a + 1), .ref (a + 2), .ref (a + 4)]))
  refine z_aload_n X d_S_take_27 rfl ?_
  refine z_get X h0 rfl in_S 4 (by decide) (wq lf_S_25) rfl d_S_take_28 ?_
  refine z_iload_n X d_S_take_31 rfl ?_
  refine z_dup2 X d_S_take_32 rfl rfl ?_
  refine z_iald X h1 0 rfl (j := lf) rfl (by omega) (by omega) d_S_take_33 ?_
  refine z_iconst X d_S_take_34 (v := nI 1) (by decide +kernel) ?_
  refine z_iadd X d_S_take_35 ?_
  refine z_iast X h1 0 rfl (j := lf) rfl (by omega) (by omega) d_S_take_36 ?_
  have h0 := h0.ne (q := (a + 1)) (y := aI tI 12 (upd fr lf ((fr lf) + (nI 1)))) (by omega)
  have h2 := h2.ne (q := (a + 1)) (y := aI tI 12 (upd fr lf ((fr lf) + (nI 1)))) (by omega)
  have h3 := h3.ne (q := (a + 1)) (y := aI tI 12 (upd fr lf ((fr lf) + (nI 1)))) (by omega)
  have h4 := h4.ne (q := (a + 1)) (y := aI tI 12 (upd fr lf ((fr lf) + (nI 1)))) (by omega)
  have h5 := h5.ne (q := (a + 1)) (y := aI tI 12 (upd fr lf ((fr lf) + (nI 1)))) (by omega)
  have h1 := h1.up (y := aI tI 12 (upd fr lf ((fr lf) + (nI 1))))
  refine z_aload_n X d_S_take_37 rfl ?_
  refine z_get X h0 rfl in_S 5 (by decide) (wq lf_S_34) rfl d_S_take_38 ?_
  refine z_iload_n X d_S_take_41 rfl ?_
  refine z_callVv X (c_C_take h2 h3 hx hk1 hk6) h2 rfl (cwV 1 X.1.2.2.2.2 (gi_V lm_S_61 vi_C_take ve_C_take vn_C vc_C_take) rfl rfl rfl (by decide +kernel) ⟨Nat.le_of_ble_eq_true rfl, Nat.le_of_ble_eq_true rfl⟩) (As := [.int (nI x)]) (st := []) rfl rfl (Nat.le_of_ble_eq_true rfl) d_S_take_42 ⟨Nat.le_of_ble_eq_true rfl, Nat.le_of_ble_eq_true rfl⟩ (fun k2 hq => ?_)
  subst hq
  have h0 := h0.ne (q := (a + 3)) (y := aI tI 32 (tkC kk ct x)) (by omega)
  have h1 := h1.ne (q := (a + 3)) (y := aI tI 32 (tkC kk ct x)) (by omega)
  have h2 := h2.ne (q := (a + 3)) (y := aI tI 32 (tkC kk ct x)) (by omega)
  have h4 := h4.ne (q := (a + 3)) (y := aI tI 32 (tkC kk ct x)) (by omega)
  have h5 := h5.ne (q := (a + 3)) (y := aI tI 32 (tkC kk ct x)) (by omega)
  have h3 := h3.up (y := aI tI 32 (tkC kk ct x))
  refine z_aload_n X d_S_take_45 rfl ?_
  refine z_get X h0 rfl in_S 6 (by decide) (wq lf_S_41) rfl d_S_take_46 ?_
  refine z_iload_n X d_S_take_49 rfl ?_
  refine z_aload_n X d_S_take_50 rfl ?_
  refine z_get X h0 rfl in_S 0 (by decide) (wq lf_S_9) rfl d_S_take_51 ?_
  refine z_callVv X (c_D_take h4 h5 hx hd) h4 rfl (cwV 2 X.1.2.2.2.2 (gi_V lm_S_64 vi_D_take ve_D_take vn_D vc_D_take) rfl rfl rfl (by decide +kernel) ⟨Nat.le_of_ble_eq_true rfl, Nat.le_of_ble_eq_true rfl⟩) (As := [.int (nI x), .int (n + (nI 1))]) (st := []) rfl rfl (Nat.le_of_ble_eq_true rfl) d_S_take_54 ⟨Nat.le_of_ble_eq_true rfl, Nat.le_of_ble_eq_true rfl⟩ (fun k2 hq => ?_)
  subst hq
  have h0 := h0.ne (q := (a + 5)) (y := aI tI 64 (cpr ((n + nI 1) / dv) 4096 (upd dg (32 + x) (dg (32 + x) + 1)))) (by omega)
  have h1 := h1.ne (q := (a + 5)) (y := aI tI 64 (cpr ((n + nI 1) / dv) 4096 (upd dg (32 + x) (dg (32 + x) + 1)))) (by omega)
  have h2 := h2.ne (q := (a + 5)) (y := aI tI 64 (cpr ((n + nI 1) / dv) 4096 (upd dg (32 + x) (dg (32 + x) + 1)))) (by omega)
  have h3 := h3.ne (q := (a + 5)) (y := aI tI 64 (cpr ((n + nI 1) / dv) 4096 (upd dg (32 + x) (dg (32 + x) + 1)))) (by omega)
  have h4 := h4.ne (q := (a + 5)) (y := aI tI 64 (cpr ((n + nI 1) / dv) 4096 (upd dg (32 + x) (dg (32 + x) + 1)))) (by omega)
  have h5 := h5.up (y := aI tI 64 (cpr ((n + nI 1) / dv) 4096 (upd dg (32 + x) (dg (32 + x) + 1))))
  rw [nI_one] at *
  exact z_vret X d_S_take_57 (by omega) (by omega) (⟨⟨h0, h1, h2, h3, h4, h5⟩, fun q hq => by simp only [va_up]; repeat rw [if_neg (by omega)]⟩)
set_option maxHeartbeats 4000000 in
set_option maxRecDepth 100000 in
/-- merge(other) -/
theorem c_S_merge {a kk : Nat} {dv n lo hi : Int32} {su : Int64} {fr ct dg : Nat → Int32} {a2 kk2 : Nat} {dv2 nn lo2 hi2 : Int32} {su2 : Int64} {fr2 ct2 dg2 : Nat → Int32} (hS : isS tI b N k kk dv a (n, su, lo, hi, fr, ct, dg)) (hn : nS (n, su, lo, hi, fr, ct, dg)) (hS2 : isS tI b N k kk2 dv2 a2 (nn, su2, lo2, hi2, fr2, ct2, dg2)) (hn2 : nS (nn, su2, lo2, hi2, fr2, ct2, dg2)) (hne : a + 6 ≤ a2 ∨ a2 + 6 ≤ a) (hk6 : kk ≤ 6) (hd : ¬ dv = 0) : Met l y_S_merge (wy y_S_merge b_S_merge 2 none) (rm 3 0 0) (zPc D (tyl tI tZ tN tM) b N k [.ref a, .ref a2]) (zQv D b N (fun k2 => isS tI b N k2 kk dv a (mgS kk dv (n, su, lo, hi, fr, ct, dg) (nn, su2, lo2, hi2, fr2, ct2, dg2)) ∧ frm k k2 a 6)) 0 0 (zA b) := by
  refine z_met (own := R_S) (by decide) rfl rfl (Nat.le_of_ble_eq_true rfl) [some (.ref a), some (.ref a2)] rfl ?_
  intro p e s m args below meth c X hin
  obtain ⟨h0, h1, h2, h3, h4, h5⟩ := hS
  try dsimp only at h0 h1 h2 h3 h4 h5
  obtain ⟨g0, g1, g2, g3, g4, g5⟩ := hS2
  try dsimp only at g0 g1 g2 g3 g4 g5
  obtain ⟨n1, n2, n3⟩ := hn
  obtain ⟨m1, m2, m3⟩ := hn2
  try dsimp only at n1 n2 n3 m1 m2 m3
  refine z_aload_n X d_S_merge_0 rfl ?_
  refine z_aload_n X d_S_merge_1 rfl ?_
  refine z_get X g0 rfl in_S 2 (by decide) (wq lf_S_19) rfl d_S_merge_2 ?_
  refine z_aload_n X d_S_merge_5 rfl ?_
  refine z_get X g0 rfl in_S 3 (by decide) (wq lf_S_22) rfl d_S_merge_6 ?_
  refine z_callVv X (c_S_widen h0) h0 rfl (cwV 2 X.1.2.2.2.2 (gi_V lm_S_57 vi_S_widen ve_S_widen vn_S vc_S_widen) rfl rfl rfl (by decide +kernel) ⟨Nat.le_of_ble_eq_true rfl, Nat.le_of_ble_eq_true rfl⟩) (As := [.int lo2, .int hi2]) (st := []) rfl rfl (Nat.le_of_ble_eq_true rfl) d_S_merge_9 ⟨Nat.le_of_ble_eq_true rfl, Nat.le_of_ble_eq_true rfl⟩ (fun k2 hq => ?_)
  subst hq
  have h1 := h1.ne (q := a) (y := .inr (4, [.int n, .long su, .int (wLo n lo lo2), .int (wHi n hi hi2), .ref (a + 1), .ref (a + 2), .ref (a + 4)])) (by omega)
  have h2 := h2.ne (q := a) (y := .inr (4, [.int n, .long su, .int (wLo n lo lo2), .int (wHi n hi hi2), .ref (a + 1), .ref (a + 2), .ref (a + 4)])) (by omega)
  have h3 := h3.ne (q := a) (y := .inr (4, [.int n, .long su, .int (wLo n lo lo2), .int (wHi n hi hi2), .ref (a + 1), .ref (a + 2), .ref (a + 4)])) (by omega)
  have h4 := h4.ne (q := a) (y := .inr (4, [.int n, .long su, .int (wLo n lo lo2), .int (wHi n hi hi2), .ref (a + 1), .ref (a + 2), .ref (a + 4)])) (by omega)
  have h5 := h5.ne (q := a) (y := .inr (4, [.int n, .long su, .int (wLo n lo lo2), .int (wHi n hi hi2), .ref (a + 1), .ref (a + 2), .ref (a + 4)])) (by omega)
  have g0 := g0.ne (q := a) (y := .inr (4, [.int n, .long su, .int (wLo n lo lo2), .int (wHi n hi hi2), .ref (a + 1), .ref (a + 2), .ref (a + 4)])) (by omega)
  have g1 := g1.ne (q := a) (y := .inr (4, [.int n, .long su, .int (wLo n lo lo2), .int (wHi n hi hi2), .ref (a + 1), .ref (a + 2), .ref (a + 4)])) (by omega)
  have g2 := g2.ne (q := a) (y := .inr (4, [.int n, .long su, .int (wLo n lo lo2), .int (wHi n hi hi2), .ref (a + 1), .ref (a + 2), .ref (a + 4)])) (by omega)
  have g3 := g3.ne (q := a) (y := .inr (4, [.int n, .long su, .int (wLo n lo lo2), .int (wHi n hi hi2), .ref (a + 1), .ref (a + 2), .ref (a + 4)])) (by omega)
  have g4 := g4.ne (q := a) (y := .inr (4, [.int n, .long su, .int (wLo n lo lo2), .int (wHi n hi hi2), .ref (a + 1), .ref (a + 2), .ref (a + 4)])) (by omega)
  have g5 := g5.ne (q := a) (y := .inr (4, [.int n, .long su, .int (wLo n lo lo2), .int (wHi n hi hi2), .ref (a + 1), .ref (a + 2), .ref (a + 4)])) (by omega)
  have h0 := h0.up (y := .inr (4, [.int n, .long su, .int (wLo n lo lo2), .int (wHi n hi hi2), .ref (a + 1), .ref (a + 2), .ref (a + 4)]))
  refine z_aload_n X d_S_merge_12 rfl ?_
  refine z_dup X d_S_merge_13 rfl ?_
  refine z_get X h0 rfl in_S 0 (by decide) (wq lf_S_9) rfl d_S_merge_14 ?_
  refine z_aload_n X d_S_merge_17 rfl ?_
  refine z_get X g0 rfl in_S 0 (by decide) (wq lf_S_9) rfl d_S_merge_18 ?_
  refine z_iadd X d_S_merge_21 ?_
  refine z_put X h0 rfl in_S ty_S_ok n_S 0 (by decide) (wq lf_S_9) rfl rfl rfl (Nat.le_of_ble_eq_true rfl) d_S_merge_22 ?_
  have h1 := h1.ne (q := a) (y := .inr (4, [.int (n + nn), .long su, .int (wLo n lo lo2), .int (wHi n hi hi2), .ref (a + 1), .ref (a + 2), .ref (a + 4)])) (by omega)
  have h2 := h2.ne (q := a) (y := .inr (4, [.int (n + nn), .long su, .int (wLo n lo lo2), .int (wHi n hi hi2), .ref (a + 1), .ref (a + 2), .ref (a + 4)])) (by omega)
  have h3 := h3.ne (q := a) (y := .inr (4, [.int (n + nn), .long su, .int (wLo n lo lo2), .int (wHi n hi hi2), .ref (a + 1), .ref (a + 2), .ref (a + 4)])) (by omega)
  have h4 := h4.ne (q := a) (y := .inr (4, [.int (n + nn), .long su, .int (wLo n lo lo2), .int (wHi n hi hi2), .ref (a + 1), .ref (a + 2), .ref (a + 4)])) (by omega)
  have h5 := h5.ne (q := a) (y := .inr (4, [.int (n + nn), .long su, .int (wLo n lo lo2), .int (wHi n hi hi2), .ref (a + 1), .ref (a + 2), .ref (a + 4)])) (by omega)
  have g0 := g0.ne (q := a) (y := .inr (4, [.int (n + nn), .long su, .int (wLo n lo lo2), .int (wHi n hi hi2), .ref (a + 1), .ref (a + 2), .ref (a + 4)])) (by omega)
  have g1 := g1.ne (q := a) (y := .inr (4, [.int (n + nn), .long su, .int (wLo n lo lo2), .int (wHi n hi hi2), .ref (a + 1), .ref (a + 2), .ref (a + 4)])) (by omega)
  have g2 := g2.ne (q := a) (y := .inr (4, [.int (n + nn), .long su, .int (wLo n lo lo2), .int (wHi n hi hi2), .ref (a + 1), .ref (a + 2), .ref (a + 4)])) (by omega)
  have g3 := g3.ne (q := a) (y := .inr (4, [.int (n + nn), .long su, .int (wLo n lo lo2), .int (wHi n hi hi2), .ref (a + 1), .ref (a + 2), .ref (a + 4)])) (by omega)
  have g4 := g4.ne (q := a) (y := .inr (4, [.int (n + nn), .long su, .int (wLo n lo lo2), .int (wHi n hi hi2), .ref (a + 1), .ref (a + 2), .ref (a + 4)])) (by omega)
  have g5 := g5.ne (q := a) (y := .inr (4, [.int (n + nn), .long su, .int (wLo n lo lo2), .int (wHi n hi hi2), .ref (a + 1), .ref (a + 2), .ref (a + 4)])) (by omega)
  have h0 := h0.up (y := .inr (4, [.int (n + nn), .long su, .int (wLo n lo lo2), .int (wHi n hi hi2), .ref (a + 1), .ref (a + 2), .ref (a + 4)]))
  refine z_aload_n X d_S_merge_25 rfl ?_
  refine z_dup X d_S_merge_26 rfl ?_
  refine z_get X h0 rfl in_S 1 (by decide) (wq lf_S_15) rfl d_S_merge_27 ?_
  refine z_aload_n X d_S_merge_30 rfl ?_
  refine z_get X g0 rfl in_S 1 (by decide) (wq lf_S_15) rfl d_S_merge_31 ?_
  refine z_ladd X d_S_merge_34 ?_
  refine z_put X h0 rfl in_S ty_S_ok n_S 1 (by decide) (wq lf_S_15) rfl rfl rfl (Nat.le_of_ble_eq_true rfl) d_S_merge_35 ?_
  have h1 := h1.ne (q := a) (y := .inr (4, [.int (n + nn), .long (su + su2), .int (wLo n lo lo2), .int (wHi n hi hi2), .ref (a + 1), .ref (a + 2), .ref (a + 4)])) (by omega)
  have h2 := h2.ne (q := a) (y := .inr (4, [.int (n + nn), .long (su + su2), .int (wLo n lo lo2), .int (wHi n hi hi2), .ref (a + 1), .ref (a + 2), .ref (a + 4)])) (by omega)
  have h3 := h3.ne (q := a) (y := .inr (4, [.int (n + nn), .long (su + su2), .int (wLo n lo lo2), .int (wHi n hi hi2), .ref (a + 1), .ref (a + 2), .ref (a + 4)])) (by omega)
  have h4 := h4.ne (q := a) (y := .inr (4, [.int (n + nn), .long (su + su2), .int (wLo n lo lo2), .int (wHi n hi hi2), .ref (a + 1), .ref (a + 2), .ref (a + 4)])) (by omega)
  have h5 := h5.ne (q := a) (y := .inr (4, [.int (n + nn), .long (su + su2), .int (wLo n lo lo2), .int (wHi n hi hi2), .ref (a + 1), .ref (a + 2), .ref (a + 4)])) (by omega)
  have g0 := g0.ne (q := a) (y := .inr (4, [.int (n + nn), .long (su + su2), .int (wLo n lo lo2), .int (wHi n hi hi2), .ref (a + 1), .ref (a + 2), .ref (a + 4)])) (by omega)
  have g1 := g1.ne (q := a) (y := .inr (4, [.int (n + nn), .long (su + su2), .int (wLo n lo lo2), .int (wHi n hi hi2), .ref (a + 1), .ref (a + 2), .ref (a + 4)])) (by omega)
  have g2 := g2.ne (q := a) (y := .inr (4, [.int (n + nn), .long (su + su2), .int (wLo n lo lo2), .int (wHi n hi hi2), .ref (a + 1), .ref (a + 2), .ref (a + 4)])) (by omega)
  have g3 := g3.ne (q := a) (y := .inr (4, [.int (n + nn), .long (su + su2), .int (wLo n lo lo2), .int (wHi n hi hi2), .ref (a + 1), .ref (a + 2), .ref (a + 4)])) (by omega)
  have g4 := g4.ne (q := a) (y := .inr (4, [.int (n + nn), .long (su + su2), .int (wLo n lo lo2), .int (wHi n hi hi2), .ref (a + 1), .ref (a + 2), .ref (a + 4)])) (by omega)
  have g5 := g5.ne (q := a) (y := .inr (4, [.int (n + nn), .long (su + su2), .int (wLo n lo lo2), .int (wHi n hi hi2), .ref (a + 1), .ref (a + 2), .ref (a + 4)])) (by omega)
  have h0 := h0.up (y := .inr (4, [.int (n + nn), .long (su + su2), .int (wLo n lo lo2), .int (wHi n hi hi2), .ref (a + 1), .ref (a + 2), .ref (a + 4)]))
  refine z_aload_n X d_S_merge_38 rfl ?_
  refine z_get X h0 rfl in_S 4 (by decide) (wq lf_S_25) rfl d_S_merge_39 ?_
  refine z_aload_n X d_S_merge_42 rfl ?_
  refine z_get X g0 rfl in_S 4 (by decide) (wq lf_S_25) rfl d_S_merge_43 ?_
  refine z_callSNv X (a := 0) (c_T_addTo h1 g1 (by omega) (by omega)) (⟨va_cnB 2 X.1.2.2.2.2 (gi_wy vc_T_addTo) rfl rfl rfl (zn_S_66 X.2.2.2.2.2) (X.1.2.2.2.2 _ (wq vn_T)) (by decide +kernel) ⟨Nat.le_of_ble_eq_true rfl, Nat.le_of_ble_eq_true rfl⟩, X.1.2.2.2.2 _ (wq vs_T_addTo), trivial⟩) (As := [.ref (a + 1), .ref (a2 + 1)]) (st := []) rfl rfl (Nat.le_of_ble_eq_true rfl) d_S_merge_46 ⟨Nat.le_of_ble_eq_true rfl, Nat.le_of_ble_eq_true rfl⟩ (fun k2 hq => ?_)
  subst hq
  rw [pr_all (m := 12) (F := ad fr fr2) (C := fr) (fun i hi => by unfold ad; rw [m1 i hi]; exact Int32.add_zero _)]
  have h0 := h0.ne (q := (a + 1)) (y := aI tI 12 (ad fr fr2)) (by omega)
  have h2 := h2.ne (q := (a + 1)) (y := aI tI 12 (ad fr fr2)) (by omega)
  have h3 := h3.ne (q := (a + 1)) (y := aI tI 12 (ad fr fr2)) (by omega)
  have h4 := h4.ne (q := (a + 1)) (y := aI tI 12 (ad fr fr2)) (by omega)
  have h5 := h5.ne (q := (a + 1)) (y := aI tI 12 (ad fr fr2)) (by omega)
  have g0 := g0.ne (q := (a + 1)) (y := aI tI 12 (ad fr fr2)) (by omega)
  have g1 := g1.ne (q := (a + 1)) (y := aI tI 12 (ad fr fr2)) (by omega)
  have g2 := g2.ne (q := (a + 1)) (y := aI tI 12 (ad fr fr2)) (by omega)
  have g3 := g3.ne (q := (a + 1)) (y := aI tI 12 (ad fr fr2)) (by omega)
  have g4 := g4.ne (q := (a + 1)) (y := aI tI 12 (ad fr fr2)) (by omega)
  have g5 := g5.ne (q := (a + 1)) (y := aI tI 12 (ad fr fr2)) (by omega)
  have h1 := h1.up (y := aI tI 12 (ad fr fr2))
  refine z_aload_n X d_S_merge_49 rfl ?_
  refine z_get X h0 rfl in_S 5 (by decide) (wq lf_S_34) rfl d_S_merge_50 ?_
  refine z_aload_n X d_S_merge_53 rfl ?_
  refine z_get X g0 rfl in_S 5 (by decide) (wq lf_S_34) rfl d_S_merge_54 ?_
  refine z_callVv X (c_C_merge h2 h3 g2 g3 (by omega) m2 hk6) h2 rfl (cwV 1 X.1.2.2.2.2 (gi_V lm_S_69 vi_C_merge ve_C_merge vn_C vc_C_merge) rfl rfl rfl (by decide +kernel) ⟨Nat.le_of_ble_eq_true rfl, Nat.le_of_ble_eq_true rfl⟩) (As := [.ref (a2 + 2)]) (st := []) rfl rfl (Nat.le_of_ble_eq_true rfl) d_S_merge_57 ⟨Nat.le_of_ble_eq_true rfl, Nat.le_of_ble_eq_true rfl⟩ (fun k2 hq => ?_)
  subst hq
  have h0 := h0.ne (q := (a + 3)) (y := aI tI 32 (mgC kk ct ct2)) (by omega)
  have h1 := h1.ne (q := (a + 3)) (y := aI tI 32 (mgC kk ct ct2)) (by omega)
  have h2 := h2.ne (q := (a + 3)) (y := aI tI 32 (mgC kk ct ct2)) (by omega)
  have h4 := h4.ne (q := (a + 3)) (y := aI tI 32 (mgC kk ct ct2)) (by omega)
  have h5 := h5.ne (q := (a + 3)) (y := aI tI 32 (mgC kk ct ct2)) (by omega)
  have g0 := g0.ne (q := (a + 3)) (y := aI tI 32 (mgC kk ct ct2)) (by omega)
  have g1 := g1.ne (q := (a + 3)) (y := aI tI 32 (mgC kk ct ct2)) (by omega)
  have g2 := g2.ne (q := (a + 3)) (y := aI tI 32 (mgC kk ct ct2)) (by omega)
  have g3 := g3.ne (q := (a + 3)) (y := aI tI 32 (mgC kk ct ct2)) (by omega)
  have g4 := g4.ne (q := (a + 3)) (y := aI tI 32 (mgC kk ct ct2)) (by omega)
  have g5 := g5.ne (q := (a + 3)) (y := aI tI 32 (mgC kk ct ct2)) (by omega)
  have h3 := h3.up (y := aI tI 32 (mgC kk ct ct2))
  refine z_aload_n X d_S_merge_60 rfl ?_
  refine z_get X h0 rfl in_S 6 (by decide) (wq lf_S_41) rfl d_S_merge_61 ?_
  refine z_aload_n X d_S_merge_64 rfl ?_
  refine z_get X g0 rfl in_S 6 (by decide) (wq lf_S_41) rfl d_S_merge_65 ?_
  refine z_aload_n X d_S_merge_68 rfl ?_
  refine z_get X h0 rfl in_S 0 (by decide) (wq lf_S_9) rfl d_S_merge_69 ?_
  refine z_callVv X (c_D_merge h4 h5 g4 g5 (by omega) m3 hd) h4 rfl (cwV 2 X.1.2.2.2.2 (gi_V lm_S_73 vi_D_merge ve_D_merge vn_D vc_D_merge) rfl rfl rfl (by decide +kernel) ⟨Nat.le_of_ble_eq_true rfl, Nat.le_of_ble_eq_true rfl⟩) (As := [.ref (a2 + 4), .int (n + nn)]) (st := []) rfl rfl (Nat.le_of_ble_eq_true rfl) d_S_merge_72 ⟨Nat.le_of_ble_eq_true rfl, Nat.le_of_ble_eq_true rfl⟩ (fun k2 hq => ?_)
  subst hq
  have h0 := h0.ne (q := (a + 5)) (y := aI tI 64 (cpr ((n + nn) / dv) 4096 (ad dg dg2))) (by omega)
  have h1 := h1.ne (q := (a + 5)) (y := aI tI 64 (cpr ((n + nn) / dv) 4096 (ad dg dg2))) (by omega)
  have h2 := h2.ne (q := (a + 5)) (y := aI tI 64 (cpr ((n + nn) / dv) 4096 (ad dg dg2))) (by omega)
  have h3 := h3.ne (q := (a + 5)) (y := aI tI 64 (cpr ((n + nn) / dv) 4096 (ad dg dg2))) (by omega)
  have h4 := h4.ne (q := (a + 5)) (y := aI tI 64 (cpr ((n + nn) / dv) 4096 (ad dg dg2))) (by omega)
  have g0 := g0.ne (q := (a + 5)) (y := aI tI 64 (cpr ((n + nn) / dv) 4096 (ad dg dg2))) (by omega)
  have g1 := g1.ne (q := (a + 5)) (y := aI tI 64 (cpr ((n + nn) / dv) 4096 (ad dg dg2))) (by omega)
  have g2 := g2.ne (q := (a + 5)) (y := aI tI 64 (cpr ((n + nn) / dv) 4096 (ad dg dg2))) (by omega)
  have g3 := g3.ne (q := (a + 5)) (y := aI tI 64 (cpr ((n + nn) / dv) 4096 (ad dg dg2))) (by omega)
  have g4 := g4.ne (q := (a + 5)) (y := aI tI 64 (cpr ((n + nn) / dv) 4096 (ad dg dg2))) (by omega)
  have g5 := g5.ne (q := (a + 5)) (y := aI tI 64 (cpr ((n + nn) / dv) 4096 (ad dg dg2))) (by omega)
  have h5 := h5.up (y := aI tI 64 (cpr ((n + nn) / dv) 4096 (ad dg dg2)))
  exact z_vret X d_S_merge_75 (by omega) (by omega) (⟨⟨h0, h1, h2, h3, h4, h5⟩, fun q hq => by simp only [va_up]; repeat rw [if_neg (by omega)]⟩)
end
end
section
/-! Contracts: Node, Message -/
def tkSs (kk : Nat) (dv : Int32) (v : Sv) (ov : Nat → Nat) (lf : Nat) : Nat → Sv
  | 0 => v
  | i + 1 => tkS kk dv (tkSs kk dv v ov lf i) (ov i) lf
abbrev oN (j : Nat) (pt lf : Int32) (oc : Nat) (rp kv : Int32) (a : Nat) : va_E := .inr (3, [.int (nI j), .int pt, .int lf, .ref (a + 1), .int (nI oc), .int rp, .ref (a + 2), .ref (a + 8), .int kv])
abbrev oM (x y z : Int32) (a : Nat) : va_E := .inr (2, [.int x, .int y, .int z, .ref (a + 1)])
section
variable {l : Launch} {D : va_G} {tI tZ tN tM : ClassId} {b N : Nat} {k : Nat → va_E}
set_option maxHeartbeats 4000000 in
set_option maxRecDepth 100000 in
/-- itemCount() -/
theorem c_N_itemCount {a j oc : Nat} {pt lf rp kv : Int32} {kk : Nat} {dv : Int32} {v : Sv} (h0 : zc b N k a (oN j pt lf oc rp kv a)) (hS : isS tI b N k kk dv (a + 2) v) : Met l y_N_itemCount (wy y_N_itemCount b_N_itemCount 1 (some .int)) (rm 0 0 0) (zPc D (tyl tI tZ tN tM) b N k [.ref a]) (zQi D b N (fun x k2 => x = v.1 + nI oc ∧ k2 = k)) 0 0 (zA b) := by
  refine z_met (own := R_N) (by decide) rfl rfl (Nat.le_of_ble_eq_true rfl) [some (.ref a)] rfl ?_
  intro p e s m args below meth c X hin
  refine z_aload_n X d_N_itemCount_0 rfl ?_
  refine z_get X h0 rfl in_N 6 (by decide) (wq lf_N_40) rfl d_N_itemCount_1 ?_
  refine z_get X hS.1 rfl in_S 0 (by decide) (wq lf_N_47) rfl d_N_itemCount_4 ?_
  refine z_aload_n X d_N_itemCount_7 rfl ?_
  refine z_get X h0 rfl in_N 4 (by decide) (wq lf_N_23) rfl d_N_itemCount_8 ?_
  refine z_iadd X d_N_itemCount_11 ?_
  exact z_iret X d_N_itemCount_12 (by omega) (by omega) (⟨rfl, rfl⟩)
set_option maxHeartbeats 4000000 in
set_option maxRecDepth 100000 in
/-- writeOpenBlock() -/
theorem c_N_writeOpenBlock {a j oc : Nat} {pt lf rp kv : Int32} {kk : Nat} {dv : Int32} {v : Sv} {op : Nat → Int32} {ov : Nat → Nat} (h0 : zc b N k a (oN j pt lf oc rp kv a)) (h1 : zc b N k (a + 1) (aI tI 4 op)) (hS : isS tI b N k kk dv (a + 2) v) (hj : j < 12) (hoc : oc ≤ 4) (hov : ∀ i, i < oc → op i = nI (ov i) ∧ ov i < 32) (hk1 : 1 ≤ kk) (hk6 : kk ≤ 6) (hd : ¬ dv = 0) : Met l y_N_writeOpenBlock (wy y_N_writeOpenBlock b_N_writeOpenBlock 3 (some .int)) (rm 4 0 0) (zPc D (tyl tI tZ tN tM) b N k [.ref a]) (zQi D b N (fun x k2 => x = nI oc ∧ zc b N k2 a (oN j pt lf 0 rp kv a) ∧ isS tI b N k2 kk dv (a + 2) (tkSs kk dv v ov j oc) ∧ ∀ q, q ≠ a → q < a + 2 ∨ a + 8 ≤ q → k2 q = k q)) 0 0 (zA b) := by
  refine z_met (own := R_N) (by decide) rfl rfl (Nat.le_of_ble_eq_true rfl) [some (.ref a), none, none] rfl ?_
  intro p e s m args below meth c X hin
  refine z_aload_n X d_N_writeOpenBlock_0 rfl ?_
  refine z_get X h0 rfl in_N 4 (by decide) (wq lf_N_23) rfl d_N_writeOpenBlock_1 ?_
  refine z_istore_n X d_N_writeOpenBlock_4 (by decide) rfl ?_
  refine z_lv (lv2 := [some (.ref a), some (.int (nI oc)), none]) (fun _ _ q => q) ?_
  refine z_iconst X d_N_writeOpenBlock_5 (v := nI 0) (by decide +kernel) ?_
  refine z_istore_n X d_N_writeOpenBlock_6 (by decide) rfl ?_
  refine z_lv (lv2 := [some (.ref a), some (.int (nI oc)), some (.int (nI 0))]) (fun _ _ q => q) ?_
  refine z_loop (σ := Nat → va_E) (K := fun _ k9 => k9) (LV := fun i _ => [some (.ref a), some (.int (nI oc)), some (.int (nI i))]) (I := fun i k9 => isS tI b N k9 kk dv (a + 2) (tkSs kk dv v ov j i) ∧ frm k k9 (a + 2) 6) oc 0 k (by omega) (⟨hS, fun _ _ => rfl⟩) (rfl) (rfl) ?_ ?_
  · intro k9 hI
    obtain ⟨hS9, hf⟩ := hI
    have g0 := h0.to (hf a (by omega))
    refine z_lv (lv2 := [some (.ref a), some (.int (nI oc)), some (.int (nI oc))]) (fun _ _ q => q) ?_
    refine z_iload_n X d_N_writeOpenBlock_7 rfl ?_
    refine z_iload_n X d_N_writeOpenBlock_8 rfl ?_
    refine z_icmp_geN X d_N_writeOpenBlock_9 (tgt := 35) (by decide) (by omega) (by omega) (fun _ => ?_) (fun h => absurd h (by omega))
    refine z_aload_n X d_N_writeOpenBlock_35 rfl ?_
    refine z_iconst X d_N_writeOpenBlock_36 (v := nI 0) (by decide +kernel) ?_
    refine z_put X g0 rfl in_N ty_N_ok n_N 4 (by decide) (wq lf_N_23) rfl rfl rfl (Nat.le_of_ble_eq_true rfl) d_N_writeOpenBlock_37 ?_
    refine z_iload_n X d_N_writeOpenBlock_40 rfl ?_
    refine z_iret X d_N_writeOpenBlock_41 (by omega) (by omega) ⟨rfl, g0.up, hS9.to (fun q q1 q2 => up_ne (by omega)), fun q q1 q2 => ?_⟩
    rw [up_ne q1]
    exact hf q (by omega)
  · intro i k9 hi hI ih
    obtain ⟨hS9, hf⟩ := hI
    have g0 := h0.to (hf a (by omega))
    have g1 := h1.to (hf (a + 1) (by omega))
    obtain ⟨e1, e2⟩ := hov i hi
    refine z_lv (lv2 := [some (.ref a), some (.int (nI oc)), some (.int (nI i))]) (fun _ _ q => q) ?_
    refine z_iload_n X d_N_writeOpenBlock_7 rfl ?_
    refine z_iload_n X d_N_writeOpenBlock_8 rfl ?_
    refine z_icmp_geN X d_N_writeOpenBlock_9 (tgt := 35) (by decide) (by omega) (by omega) (fun h => absurd h (by omega)) (fun _ => ?_)
    refine z_aload_n X d_N_writeOpenBlock_12 rfl ?_
    refine z_get X g0 rfl in_N 6 (by decide) (wq lf_N_40) rfl d_N_writeOpenBlock_13 ?_
    refine z_aload_n X d_N_writeOpenBlock_16 rfl ?_
    refine z_get X g0 rfl in_N 3 (by decide) (wq lf_N_19) rfl d_N_writeOpenBlock_17 ?_
    refine z_iload_n X d_N_writeOpenBlock_20 rfl ?_
    refine z_iald X g1 0 rfl (j := i) rfl (by omega) (by omega) d_N_writeOpenBlock_21 ?_
    refine z_top (y := .int (nI (ov i))) (by rw [e1]) ?_
    refine z_aload_n X d_N_writeOpenBlock_22 rfl ?_
    refine z_get X g0 rfl in_N 0 (by decide) (wq lf_N_32) rfl d_N_writeOpenBlock_23 ?_
    refine z_callVv X (c_S_take hS9 e2 hj hk1 hk6 hd) hS9.1 rfl (cwV 2 X.1.2.2.2.2 (gi_V lm_N_54 vi_S_take ve_S_take vn_S vc_S_take) rfl rfl rfl (by decide +kernel) ⟨Nat.le_of_ble_eq_true rfl, Nat.le_of_ble_eq_true rfl⟩) (As := [.int (nI (ov i)), .int (nI j)]) (st := []) rfl rfl (Nat.le_of_ble_eq_true rfl) d_N_writeOpenBlock_26 ⟨Nat.le_of_ble_eq_true rfl, Nat.le_of_ble_eq_true rfl⟩ (fun k2 hq => ?_)
    obtain ⟨hS2, hf2⟩ := hq
    refine z_iincU X d_N_writeOpenBlock_29 rfl (by decide) rfl ?_
    refine z_lv (lv2 := [some (.ref a), some (.int (nI oc)), some (.int (nI (i + 1)))]) (fun _ _ q => q) ?_
    refine z_goto X d_N_writeOpenBlock_32 (tgt := 7) (by decide) ?_
    exact ih k2 ⟨hS2, fun q hq => (hf2 q hq).trans (hf q hq)⟩
set_option maxHeartbeats 4000000 in
set_option maxRecDepth 100000 in
/-- putIntoOpenBlock(x) -/
theorem c_N_putIntoOpenBlock {a j oc : Nat} {pt lf rp kv : Int32} {kk : Nat} {dv : Int32} {v : Sv} {op : Nat → Int32} {ov : Nat → Nat} {x : Nat} (h0 : zc b N k a (oN j pt lf oc rp kv a)) (h1 : zc b N k (a + 1) (aI tI 4 op)) (hS : isS tI b N k kk dv (a + 2) v) (hj : j < 12) (hoc : oc < 4) (hov : ∀ i, i < oc → op i = nI (ov i) ∧ ov i < 32) (hk1 : 1 ≤ kk) (hk6 : kk ≤ 6) (hd : ¬ dv = 0) (hx : x < 32) : Met l y_N_putIntoOpenBlock (wy y_N_putIntoOpenBlock b_N_putIntoOpenBlock 2 none) (rm 5 0 0) (zPc D (tyl tI tZ tN tM) b N k [.ref a, .int (nI x)]) (zQv D b N (fun k2 => zc b N k2 a (oN j pt lf (if oc = 3 then 0 else oc + 1) rp kv a) ∧ zc b N k2 (a + 1) (aI tI 4 (upd op oc (nI x))) ∧ isS tI b N k2 kk dv (a + 2) (if oc = 3 then tkSs kk dv v (va_up ov oc x) j 4 else v) ∧ ∀ q, q ≠ a → q ≠ a + 1 → q < a + 2 ∨ a + 8 ≤ q → k2 q = k q)) 0 0 (zA b) := by
  refine z_met (own := R_N) (by decide) rfl rfl (Nat.le_of_ble_eq_true rfl) [some (.ref a), some (.int (nI x))] rfl ?_
  intro p e s m args below meth c X hin
  refine z_aload_n X d_N_putIntoOpenBlock_0 rfl ?_
  refine z_get X h0 rfl in_N 3 (by decide) (wq lf_N_19) rfl d_N_putIntoOpenBlock_1 ?_
  refine z_aload_n X d_N_putIntoOpenBlock_4 rfl ?_
  refine z_get X h0 rfl in_N 4 (by decide) (wq lf_N_23) rfl d_N_putIntoOpenBlock_5 ?_
  refine z_iload_n X d_N_putIntoOpenBlock_8 rfl ?_
  refine z_iast X h1 0 rfl (j := oc) rfl (by omega) (by omega) d_N_putIntoOpenBlock_9 ?_
  have h0 := h0.ne (q := (a + 1)) (y := aI tI 4 (upd op oc (nI x))) (by omega)
  have h1 := h1.up (y := aI tI 4 (upd op oc (nI x)))
  refine z_aload_n X d_N_putIntoOpenBlock_10 rfl ?_
  refine z_dup X d_N_putIntoOpenBlock_11 rfl ?_
  refine z_get X h0 rfl in_N 4 (by decide) (wq lf_N_23) rfl d_N_putIntoOpenBlock_12 ?_
  refine z_iconst X d_N_putIntoOpenBlock_15 (v := nI 1) (by decide +kernel) ?_
  refine z_iaddN X d_N_putIntoOpenBlock_16 ?_
  refine z_put X h0 rfl in_N ty_N_ok n_N 4 (by decide) (wq lf_N_23) rfl rfl rfl (Nat.le_of_ble_eq_true rfl) d_N_putIntoOpenBlock_17 ?_
  have h1 := h1.ne (q := a) (y := .inr (3, [.int (nI j), .int pt, .int lf, .ref (a + 1), .int (nI (oc + 1)), .int rp, .ref (a + 2), .ref (a + 8), .int kv])) (by omega)
  have h0 := h0.up (y := .inr (3, [.int (nI j), .int pt, .int lf, .ref (a + 1), .int (nI (oc + 1)), .int rp, .ref (a + 2), .ref (a + 8), .int kv]))
  refine z_aload_n X d_N_putIntoOpenBlock_20 rfl ?_
  refine z_get X h0 rfl in_N 4 (by decide) (wq lf_N_23) rfl d_N_putIntoOpenBlock_21 ?_
  refine z_iconst X d_N_putIntoOpenBlock_24 (v := nI 4) (by decide +kernel) ?_
  refine z_icmp_neN X d_N_putIntoOpenBlock_25 (tgt := 33) (by decide) (by omega) (by omega) (fun hA => ?_) (fun hA => ?_)
  · skip
    exact z_vret X d_N_putIntoOpenBlock_33 (by omega) (by omega) (by rw [if_neg (by omega), if_neg (by omega)]; exact ⟨h0, h1, hS.to (fun q q1 q2 => by rw [up_ne (by omega), up_ne (by omega)]), fun q q1 q2 q3 => by rw [up_ne q1, up_ne q2]⟩)
  · have hoc3 : oc = 3 := by omega
    subst hoc3
    refine z_aload_n X d_N_putIntoOpenBlock_28 rfl ?_
    refine z_callVi X (c_N_writeOpenBlock (ov := va_up ov 3 x) h0 h1 (hS.to (fun q q1 q2 => by rw [up_ne (by omega), up_ne (by omega)])) hj (by omega) (fun i hi => by by_cases hi3 : i = 3; (subst hi3; exact ⟨by rw [upd_eq]; simp [va_up], by simp [va_up]; exact hx⟩); (rw [upd_ne hi3, up_ne hi3]; exact hov i (by omega))) hk1 hk6 hd) h0 rfl (cwV 0 X.1.2.2.2.2 (gi_V lm_N_50 vi_N_writeOpenBlock ve_N_writeOpenBlock vn_N vc_N_writeOpenBlock) rfl rfl rfl (by decide +kernel) ⟨Nat.le_of_ble_eq_true rfl, Nat.le_of_ble_eq_true rfl⟩) (As := []) (st := []) rfl rfl (Nat.le_of_ble_eq_true rfl) d_N_putIntoOpenBlock_29 ⟨Nat.le_of_ble_eq_true rfl, Nat.le_of_ble_eq_true rfl⟩ (fun z k2 hq => ?_)
    obtain ⟨rfl, q0, q1, q2⟩ := hq
    refine z_pop X d_N_putIntoOpenBlock_32 rfl ?_
    exact z_vret X d_N_putIntoOpenBlock_33 (by omega) (by omega) (by rw [if_pos rfl, if_pos rfl]; exact ⟨q0, h1.to (q2 _ (by omega) (by omega)), q1, fun q z1 z2 z3 => by rw [q2 q z1 z3, up_ne z1, up_ne z2]⟩)
set_option maxHeartbeats 4000000 in
set_option maxRecDepth 100000 in
/-- send(..) -/
theorem c_M_send {a a2 kk kk2 : Nat} {dv dv2 x y z x0 y0 z0 : Int32} {v v2 : Sv} (h0 : zc b N k a (oM x0 y0 z0 a)) (hS : isS tI b N k kk dv (a + 1) v) (hn : nS v) (hS2 : isS tI b N k kk2 dv2 a2 v2) (hn2 : nS v2) (hne : a + 7 ≤ a2 ∨ a2 + 6 ≤ a) : Met l y_M_send (wy y_M_send b_M_send 5 none) (rm 2 0 0) (zPc D (tyl tI tZ tN tM) b N k [.ref a, .int x, .int y, .int z, .ref a2]) (zQv D b N (fun k2 => zc b N k2 a (oM x y z a) ∧ isS tI b N k2 kk dv (a + 1) v2 ∧ frm k k2 a 7)) 0 0 (zA b) := by
  refine z_met (own := R_M) (by decide) rfl rfl (Nat.le_of_ble_eq_true rfl) [some (.ref a), some (.int x), some (.int y), some (.int z), some (.ref a2)] rfl ?_
  intro p e s m args below meth c X hin
  refine z_aload_n X d_M_send_0 rfl ?_
  refine z_iload_n X d_M_send_1 rfl ?_
  refine z_put X h0 rfl in_M ty_M_ok n_M 0 (by decide) (wq lf_M_7) rfl rfl rfl (Nat.le_of_ble_eq_true rfl) d_M_send_2 ?_
  have h0 := h0.up (y := .inr (2, [.int x, .int y0, .int z0, .ref (a + 1)]))
  refine z_aload_n X d_M_send_5 rfl ?_
  refine z_iload_n X d_M_send_6 rfl ?_
  refine z_put X h0 rfl in_M ty_M_ok n_M 1 (by decide) (wq lf_M_13) rfl rfl rfl (Nat.le_of_ble_eq_true rfl) d_M_send_7 ?_
  have h0 := h0.up (y := .inr (2, [.int x, .int y, .int z0, .ref (a + 1)]))
  refine z_aload_n X d_M_send_10 rfl ?_
  refine z_iload_n X d_M_send_11 rfl ?_
  refine z_put X h0 rfl in_M ty_M_ok n_M 2 (by decide) (wq lf_M_16) rfl rfl rfl (Nat.le_of_ble_eq_true rfl) d_M_send_12 ?_
  have h0 := h0.up (y := .inr (2, [.int x, .int y, .int z, .ref (a + 1)]))
  refine z_aload_n X d_M_send_15 rfl ?_
  refine z_get X h0 rfl in_M 3 (by decide) (wq lf_M_24) rfl d_M_send_16 ?_
  refine z_aload X d_M_send_19 rfl ?_
  have gS := hS.to (k2 := va_up (va_up (va_up k a (oM x y0 z0 a)) a (oM x y z0 a)) a (oM x y z a)) (fun q q1 q2 => by rw [up_ne (by omega), up_ne (by omega), up_ne (by omega)])
  have gS2 := hS2.to (k2 := va_up (va_up (va_up k a (oM x y0 z0 a)) a (oM x y z0 a)) a (oM x y z a)) (fun q q1 q2 => by rw [up_ne (by omega), up_ne (by omega), up_ne (by omega)])
  refine z_callVv X (c_S_setTo gS hn gS2 hn2 (by omega)) gS.1 rfl (cwV 1 X.1.2.2.2.2 (gi_V lm_M_28 vi_S_setTo ve_S_setTo vn_S vc_S_setTo) rfl rfl rfl (by decide +kernel) ⟨Nat.le_of_ble_eq_true rfl, Nat.le_of_ble_eq_true rfl⟩) (As := [.ref a2]) (st := []) rfl rfl (Nat.le_of_ble_eq_true rfl) d_M_send_21 ⟨Nat.le_of_ble_eq_true rfl, Nat.le_of_ble_eq_true rfl⟩ (fun k2 hq => ?_)
  obtain ⟨q1, q2⟩ := hq
  exact z_vret X d_M_send_24 (by omega) (by omega) (⟨h0.to (q2 _ (by omega)), q1, fun q hq => by rw [q2 q (by omega), up_ne (by omega), up_ne (by omega), up_ne (by omega)]⟩)
end
end
section
/-! Contracts: the constructors of the small classes -/
section
variable {p : Program} {l : Launch} {e : Env} {R : Room} {s : State} {m : MethodId} {args : Array Value} {below : List Frame} {meth : Method} {c : Code} {cells slots : Nat} {Q : State → Prop}
variable {nL : Nat} {D : va_G} {b N : Nat} {k : Nat → va_E} {pc : Nat} {lv : List (Option Value)} {st : List Value}
theorem z_named (kk : ∀ k2 : Nat → va_E, k2 = k → Z p l e R s m args below meth c nL D b N k2 cells slots Q pc lv st) : Z p l e R s m args below meth c nL D b N k cells slots Q pc lv st := kk k rfl
end
section
variable {l : Launch} {D : va_G} {tI tZ tN tM : ClassId} {b N0 : Nat} {k : Nat → va_E}
set_option maxHeartbeats 4000000 in
set_option maxRecDepth 100000 in
/-- C(x) -/
theorem c_C_init {x : Int32} (h0 : zc b (N0 + 1) k (b + N0) (.inr (0, [.int 0, .null]))) : Met l y_C_init (wy y_C_init b_C_init 2 none) (rm 1 1 32) (zPc D (tyl tI tZ tN tM) b (N0 + 1) k [.ref (b + N0), .int x]) (zQv D b (N0 + 2) (fun k2 => zc b (N0 + 2) k2 (b + N0) (.inr (0, [.int x, .ref (b + N0 + 1)])) ∧ zc b (N0 + 2) k2 (b + N0 + 1) (aI tI 32 (fun _ => 0)) ∧ ∀ q, q < b + N0 → k2 q = k q)) 1 32 (zA b) := by
  refine z_met (own := R_C) (by decide) rfl rfl (Nat.le_of_ble_eq_true rfl) [some (.ref (b + N0)), some (.int x)] rfl ?_
  intro p e s m args below meth c X hin
  have hf : ∀ q, q < b + N0 → k q = k q := fun _ _ => rfl
  refine z_aload_n X d_C_init_0 rfl ?_
  refine z_objInit X (wq lm_C_3) (wq vi_O) (wq vc_O) d_C_init_1 (Nat.le_of_ble_eq_true rfl) (Nat.le_of_ble_eq_true rfl) ?_
  refine z_aload_n X d_C_init_4 rfl ?_
  refine z_bipush X d_C_init_5 (v := nI 32) (by decide +kernel) ?_
  refine z_newa X (atype := .int) (ty := .int) (cA := tI) (wq vk_int) rfl 0 rfl (fun q => q) (n := 32) (a0 := (32, .inl (fun _ => 0))) rfl rfl (by decide) (by decide +kernel) (Nat.le_of_ble_eq_true rfl) (Nat.le_of_ble_eq_true rfl) d_C_init_7 ?_
  refine z_named (fun k_1 hk9 => ?_)
  have h0 := (h0.to (k2 := k_1) (by rw [hk9]; exact up_ne (by omega))).more (N2 := N0 + 1 + 1) (by omega)
  have h1 : zc b (N0 + 1 + 1) k_1 (b + (N0 + 1)) (aI tI 32 (fun _ => 0)) := by rw [hk9]; exact ⟨by omega, by omega, up_eq⟩
  have hf : ∀ q, q < b + N0 → k_1 q = k q := fun q hq => by rw [hk9]; exact (up_ne (by omega)).trans (hf q hq)
  clear hk9
  refine z_putF X h0 rfl in_C ty_C_ok n_C 1 (by decide) (wq lf_C_9) rfl hin rfl rfl rfl (Nat.le_of_ble_eq_true rfl) d_C_init_9 ?_
  refine z_named (fun k_2 hk9 => ?_)
  have h1 := (h1.to (k2 := k_2) (by rw [hk9]; exact up_ne (by omega)))
  have h0 : zc b (N0 + 1 + 1) k_2 (b + N0) (.inr (0, [.int 0, .ref (b + (N0 + 1))])) := by rw [hk9]; exact ⟨by omega, by omega, up_eq⟩
  have hf : ∀ q, q < b + N0 → k_2 q = k q := fun q hq => by rw [hk9]; exact (up_ne (by omega)).trans (hf q hq)
  clear hk9
  refine z_aload_n X d_C_init_12 rfl ?_
  refine z_iload_n X d_C_init_13 rfl ?_
  refine z_putF X h0 rfl in_C ty_C_ok n_C 0 (by decide) (wq lf_C_15) rfl hin rfl rfl rfl (Nat.le_of_ble_eq_true rfl) d_C_init_14 ?_
  refine z_named (fun k_3 hk9 => ?_)
  have h1 := (h1.to (k2 := k_3) (by rw [hk9]; exact up_ne (by omega)))
  have h0 : zc b (N0 + 1 + 1) k_3 (b + N0) (.inr (0, [.int x, .ref (b + (N0 + 1))])) := by rw [hk9]; exact ⟨by omega, by omega, up_eq⟩
  have hf : ∀ q, q < b + N0 → k_3 q = k q := fun q hq => by rw [hk9]; exact (up_ne (by omega)).trans (hf q hq)
  clear hk9
  exact z_vret X d_C_init_17 (by omega) (by omega) (⟨h0, h1, hf⟩)
set_option maxHeartbeats 4000000 in
set_option maxRecDepth 100000 in
/-- D(x) -/
theorem c_D_init {x : Int32} (h0 : zc b (N0 + 1) k (b + N0) (.inr (1, [.int 0, .null]))) : Met l y_D_init (wy y_D_init b_D_init 2 none) (rm 1 1 64) (zPc D (tyl tI tZ tN tM) b (N0 + 1) k [.ref (b + N0), .int x]) (zQv D b (N0 + 2) (fun k2 => zc b (N0 + 2) k2 (b + N0) (.inr (1, [.int x, .ref (b + N0 + 1)])) ∧ zc b (N0 + 2) k2 (b + N0 + 1) (aI tI 64 (fun _ => 0)) ∧ ∀ q, q < b + N0 → k2 q = k q)) 1 64 (zA b) := by
  refine z_met (own := R_D) (by decide) rfl rfl (Nat.le_of_ble_eq_true rfl) [some (.ref (b + N0)), some (.int x)] rfl ?_
  intro p e s m args below meth c X hin
  have hf : ∀ q, q < b + N0 → k q = k q := fun _ _ => rfl
  refine z_aload_n X d_D_init_0 rfl ?_
  refine z_objInit X (wq lm_D_3) (wq vi_O) (wq vc_O) d_D_init_1 (Nat.le_of_ble_eq_true rfl) (Nat.le_of_ble_eq_true rfl) ?_
  refine z_aload_n X d_D_init_4 rfl ?_
  refine z_bipush X d_D_init_5 (v := nI 64) (by decide +kernel) ?_
  refine z_newa X (atype := .int) (ty := .int) (cA := tI) (wq vk_int) rfl 0 rfl (fun q => q) (n := 64) (a0 := (64, .inl (fun _ => 0))) rfl rfl (by decide) (by decide +kernel) (Nat.le_of_ble_eq_true rfl) (Nat.le_of_ble_eq_true rfl) d_D_init_7 ?_
  refine z_named (fun k_1 hk9 => ?_)
  have h0 := (h0.to (k2 := k_1) (by rw [hk9]; exact up_ne (by omega))).more (N2 := N0 + 1 + 1) (by omega)
  have h1 : zc b (N0 + 1 + 1) k_1 (b + (N0 + 1)) (aI tI 64 (fun _ => 0)) := by rw [hk9]; exact ⟨by omega, by omega, up_eq⟩
  have hf : ∀ q, q < b + N0 → k_1 q = k q := fun q hq => by rw [hk9]; exact (up_ne (by omega)).trans (hf q hq)
  clear hk9
  refine z_putF X h0 rfl in_D ty_D_ok n_D 1 (by decide) (wq lf_D_9) rfl hin rfl rfl rfl (Nat.le_of_ble_eq_true rfl) d_D_init_9 ?_
  refine z_named (fun k_2 hk9 => ?_)
  have h1 := (h1.to (k2 := k_2) (by rw [hk9]; exact up_ne (by omega)))
  have h0 : zc b (N0 + 1 + 1) k_2 (b + N0) (.inr (1, [.int 0, .ref (b + (N0 + 1))])) := by rw [hk9]; exact ⟨by omega, by omega, up_eq⟩
  have hf : ∀ q, q < b + N0 → k_2 q = k q := fun q hq => by rw [hk9]; exact (up_ne (by omega)).trans (hf q hq)
  clear hk9
  refine z_aload_n X d_D_init_12 rfl ?_
  refine z_iload_n X d_D_init_13 rfl ?_
  refine z_putF X h0 rfl in_D ty_D_ok n_D 0 (by decide) (wq lf_D_15) rfl hin rfl rfl rfl (Nat.le_of_ble_eq_true rfl) d_D_init_14 ?_
  refine z_named (fun k_3 hk9 => ?_)
  have h1 := (h1.to (k2 := k_3) (by rw [hk9]; exact up_ne (by omega)))
  have h0 : zc b (N0 + 1 + 1) k_3 (b + N0) (.inr (1, [.int x, .ref (b + (N0 + 1))])) := by rw [hk9]; exact ⟨by omega, by omega, up_eq⟩
  have hf : ∀ q, q < b + N0 → k_3 q = k q := fun q hq => by rw [hk9]; exact (up_ne (by omega)).trans (hf q hq)
  clear hk9
  exact z_vret X d_D_init_17 (by omega) (by omega) (⟨h0, h1, hf⟩)
end
theorem zc.eqN {b N N2 : Nat} {k : Nat → va_E} {a : Nat} {x : va_E} (h : zc b N k a x) (hN : N = N2) : zc b N2 k a x := hN ▸ h
theorem isS.more {tI : ClassId} {b N N2 kk a : Nat} {dv : Int32} {k : Nat → va_E} {v : Sv} (h : isS tI b N k kk dv a v) (hN : N ≤ N2) : isS tI b N2 k kk dv a v := by
  obtain ⟨h0, h1, h2, h3, h4, h5⟩ := h
  exact ⟨h0.more hN, h1.more hN, h2.more hN, h3.more hN, h4.more hN, h5.more hN⟩
section
variable {l : Launch} {D : va_G} {tI tZ tN tM : ClassId} {b N0 : Nat} {k : Nat → va_E}
set_option maxHeartbeats 4000000 in
set_option maxRecDepth 100000 in
/-- Summary(k, d) -/
theorem c_S_init {kk : Nat} {dv : Int32} (h0 : zc b (N0 + 1) k (b + N0) (.inr (4, [.int 0, .long 0, .int 0, .int 0, .null, .null, .null]))) : Met l y_S_init (wy y_S_init b_S_init 3 none) (rm 2 5 112) (zPc D (tyl tI tZ tN tM) b (N0 + 1) k [.ref (b + N0), .int (nI kk), .int dv]) (zQv D b (N0 + 6) (fun k2 => isS tI b (N0 + 6) k2 kk dv (b + N0) eS ∧ ∀ q, q < b + N0 → k2 q = k q)) 5 112 (zA b) := by
  refine z_met (own := R_S) (by decide) rfl rfl (Nat.le_of_ble_eq_true rfl) [some (.ref (b + N0)), some (.int (nI kk)), some (.int dv)] rfl ?_
  intro p e s m args below meth c X hin
  have hf : ∀ q, q < b + N0 → k q = k q := fun _ _ => rfl
  refine z_aload_n X d_S_init_0 rfl ?_
  refine z_objInit X (wq lm_S_3) (wq vi_O) (wq vc_O) d_S_init_1 (Nat.le_of_ble_eq_true rfl) (Nat.le_of_ble_eq_true rfl) ?_
  refine z_aload_n X d_S_init_4 rfl ?_
  refine z_iconst X d_S_init_5 (v := nI 0) (by decide +kernel) ?_
  refine z_put X h0 rfl in_S ty_S_ok n_S 0 (by decide) (wq lf_S_9) rfl rfl rfl (Nat.le_of_ble_eq_true rfl) d_S_init_6 ?_
  refine z_named (fun k_1 hk9 => ?_)
  have h0 : zc b (N0 + 1) k_1 (b + N0) (.inr (4, [.int (nI 0), .long 0, .int 0, .int 0, .null, .null, .null])) := by rw [hk9]; exact ⟨by omega, by omega, up_eq⟩
  have hf : ∀ q, q < b + N0 → k_1 q = k q := fun q hq => by rw [hk9]; exact (up_ne (by omega)).trans (hf q hq)
  clear hk9
  refine z_aload_n X d_S_init_9 rfl ?_
  refine z_lconst X d_S_init_10 (v := 0) (by decide +kernel) ?_
  refine z_put X h0 rfl in_S ty_S_ok n_S 1 (by decide) (wq lf_S_15) rfl rfl rfl (Nat.le_of_ble_eq_true rfl) d_S_init_11 ?_
  refine z_named (fun k_2 hk9 => ?_)
  have h0 : zc b (N0 + 1) k_2 (b + N0) (.inr (4, [.int (nI 0), .long 0, .int 0, .int 0, .null, .null, .null])) := by rw [hk9]; exact ⟨by omega, by omega, up_eq⟩
  have hf : ∀ q, q < b + N0 → k_2 q = k q := fun q hq => by rw [hk9]; exact (up_ne (by omega)).trans (hf q hq)
  clear hk9
  refine z_aload_n X d_S_init_14 rfl ?_
  refine z_iconst X d_S_init_15 (v := nI 0) (by decide +kernel) ?_
  refine z_put X h0 rfl in_S ty_S_ok n_S 2 (by decide) (wq lf_S_19) rfl rfl rfl (Nat.le_of_ble_eq_true rfl) d_S_init_16 ?_
  refine z_named (fun k_3 hk9 => ?_)
  have h0 : zc b (N0 + 1) k_3 (b + N0) (.inr (4, [.int (nI 0), .long 0, .int (nI 0), .int 0, .null, .null, .null])) := by rw [hk9]; exact ⟨by omega, by omega, up_eq⟩
  have hf : ∀ q, q < b + N0 → k_3 q = k q := fun q hq => by rw [hk9]; exact (up_ne (by omega)).trans (hf q hq)
  clear hk9
  refine z_aload_n X d_S_init_19 rfl ?_
  refine z_iconst X d_S_init_20 (v := nI 0) (by decide +kernel) ?_
  refine z_put X h0 rfl in_S ty_S_ok n_S 3 (by decide) (wq lf_S_22) rfl rfl rfl (Nat.le_of_ble_eq_true rfl) d_S_init_21 ?_
  refine z_named (fun k_4 hk9 => ?_)
  have h0 : zc b (N0 + 1) k_4 (b + N0) (.inr (4, [.int (nI 0), .long 0, .int (nI 0), .int (nI 0), .null, .null, .null])) := by rw [hk9]; exact ⟨by omega, by omega, up_eq⟩
  have hf : ∀ q, q < b + N0 → k_4 q = k q := fun q hq => by rw [hk9]; exact (up_ne (by omega)).trans (hf q hq)
  clear hk9
  refine z_aload_n X d_S_init_24 rfl ?_
  refine z_bipush X d_S_init_25 (v := nI 12) (by decide +kernel) ?_
  refine z_newa X (atype := .int) (ty := .int) (cA := tI) (wq vk_int) rfl 0 rfl (fun q => q) (n := 12) (a0 := (12, .inl (fun _ => 0))) rfl rfl (by decide) (by decide +kernel) (Nat.le_of_ble_eq_true rfl) (Nat.le_of_ble_eq_true rfl) d_S_init_27 ?_
  refine z_named (fun k_5 hk9 => ?_)
  have h0 := (h0.to (k2 := k_5) (by rw [hk9]; exact up_ne (by omega))).more (N2 := N0 + 1 + 1) (by omega)
  have h1 : zc b (N0 + 1 + 1) k_5 (b + (N0 + 1)) (aI tI 12 (fun _ => 0)) := by rw [hk9]; exact ⟨by omega, by omega, up_eq⟩
  have hf : ∀ q, q < b + N0 → k_5 q = k q := fun q hq => by rw [hk9]; exact (up_ne (by omega)).trans (hf q hq)
  clear hk9
  refine z_putF X h0 rfl in_S ty_S_ok n_S 4 (by decide) (wq lf_S_25) rfl hin rfl rfl rfl (Nat.le_of_ble_eq_true rfl) d_S_init_29 ?_
  refine z_named (fun k_6 hk9 => ?_)
  have h1 := (h1.to (k2 := k_6) (by rw [hk9]; exact up_ne (by omega)))
  have h0 : zc b (N0 + 1 + 1) k_6 (b + N0) (.inr (4, [.int (nI 0), .long 0, .int (nI 0), .int (nI 0), .ref (b + (N0 + 1)), .null, .null])) := by rw [hk9]; exact ⟨by omega, by omega, up_eq⟩
  have hf : ∀ q, q < b + N0 → k_6 q = k q := fun q hq => by rw [hk9]; exact (up_ne (by omega)).trans (hf q hq)
  clear hk9
  refine z_aload_n X d_S_init_32 rfl ?_
  refine z_new X (ci := 0) (fs := [.int 0, .null]) rfl in_C ty_C_ok (wq lc_S_29) (wq vm_C) (wq vn_C) (fun j hj => by rcases (show j = 0 ∨ j = 1 by omega) with rfl | rfl <;> rfl) (Nat.le_of_ble_eq_true rfl) (Nat.le_of_ble_eq_true rfl) d_S_init_33 ?_
  refine z_named (fun k_7 hk9 => ?_)
  have h0 := (h0.to (k2 := k_7) (by rw [hk9]; exact up_ne (by omega))).more (N2 := N0 + 1 + 1 + 1) (by omega)
  have h1 := (h1.to (k2 := k_7) (by rw [hk9]; exact up_ne (by omega))).more (N2 := N0 + 1 + 1 + 1) (by omega)
  have h2 : zc b (N0 + 1 + 1 + 1) k_7 (b + (N0 + 1 + 1)) (.inr (0, [.int 0, .null])) := by rw [hk9]; exact ⟨by omega, by omega, up_eq⟩
  have hf : ∀ q, q < b + N0 → k_7 q = k q := fun q hq => by rw [hk9]; exact (up_ne (by omega)).trans (hf q hq)
  clear hk9
  refine z_dup X d_S_init_36 rfl ?_
  refine z_iload_n X d_S_init_37 rfl ?_
  refine z_callIv X (rt := none) (c_C_init h2) (cwI 1 X.1.2.2.2.2 (gi_wy vc_C_init) rfl rfl rfl (X.1.2.2.2.2 _ (wq vn_C)) (X.1.2.2.2.2 _ (wq lm_S_31)) (X.1.2.2.2.2 _ (wq vi_C_init)) rfl (by decide +kernel) ⟨Nat.le_of_ble_eq_true rfl, Nat.le_of_ble_eq_true rfl⟩) (As := [.int (nI kk)]) (st := [.ref (b + (N0 + 1 + 1)), .ref (b + N0)]) rfl rfl (Nat.le_of_ble_eq_true rfl) d_S_init_38 ⟨Nat.le_of_ble_eq_true rfl, Nat.le_of_ble_eq_true rfl⟩ (fun k2 hq => ?_)
  obtain ⟨h2, h2a, hq3⟩ := hq
  have h0 := (h0.to (k2 := k2) (hq3 _ (by omega))).more (N2 := N0 + 1 + 1 + 2) (by omega)
  have h1 := (h1.to (k2 := k2) (hq3 _ (by omega))).more (N2 := N0 + 1 + 1 + 2) (by omega)
  have hf : ∀ q, q < b + N0 → k2 q = k q := fun q hq => (hq3 q (by omega)).trans (hf q hq)
  refine z_putF X h0 rfl in_S ty_S_ok n_S 5 (by decide) (wq lf_S_34) rfl hin rfl rfl rfl (Nat.le_of_ble_eq_true rfl) d_S_init_41 ?_
  refine z_named (fun k_8 hk9 => ?_)
  have h1 := (h1.to (k2 := k_8) (by rw [hk9]; exact up_ne (by omega)))
  have h2 := (h2.to (k2 := k_8) (by rw [hk9]; exact up_ne (by omega)))
  have h2a := (h2a.to (k2 := k_8) (by rw [hk9]; exact up_ne (by omega)))
  have h0 : zc b (N0 + 1 + 1 + 2) k_8 (b + N0) (.inr (4, [.int (nI 0), .long 0, .int (nI 0), .int (nI 0), .ref (b + (N0 + 1)), .ref (b + (N0 + 1 + 1)), .null])) := by rw [hk9]; exact ⟨by omega, by omega, up_eq⟩
  have hf : ∀ q, q < b + N0 → k_8 q = k q := fun q hq => by rw [hk9]; exact (up_ne (by omega)).trans (hf q hq)
  clear hk9
  refine z_aload_n X d_S_init_44 rfl ?_
  refine z_new X (ci := 1) (fs := [.int 0, .null]) rfl in_D ty_D_ok (wq lc_S_38) (wq vm_D) (wq vn_D) (fun j hj => by rcases (show j = 0 ∨ j = 1 by omega) with rfl | rfl <;> rfl) (Nat.le_of_ble_eq_true rfl) (Nat.le_of_ble_eq_true rfl) d_S_init_45 ?_
  refine z_named (fun k_9 hk9 => ?_)
  have h0 := (h0.to (k2 := k_9) (by rw [hk9]; exact up_ne (by omega))).more (N2 := N0 + 1 + 1 + 1 + 1 + 1) (by omega)
  have h1 := (h1.to (k2 := k_9) (by rw [hk9]; exact up_ne (by omega))).more (N2 := N0 + 1 + 1 + 1 + 1 + 1) (by omega)
  have h2 := (h2.to (k2 := k_9) (by rw [hk9]; exact up_ne (by omega))).more (N2 := N0 + 1 + 1 + 1 + 1 + 1) (by omega)
  have h2a := (h2a.to (k2 := k_9) (by rw [hk9]; exact up_ne (by omega))).more (N2 := N0 + 1 + 1 + 1 + 1 + 1) (by omega)
  have h4 : zc b (N0 + 1 + 1 + 1 + 1 + 1) k_9 (b + (N0 + 1 + 1 + 1 + 1)) (.inr (1, [.int 0, .null])) := by rw [hk9]; exact ⟨by omega, by omega, up_eq⟩
  have hf : ∀ q, q < b + N0 → k_9 q = k q := fun q hq => by rw [hk9]; exact (up_ne (by omega)).trans (hf q hq)
  clear hk9
  refine z_dup X d_S_init_48 rfl ?_
  refine z_iload_n X d_S_init_49 rfl ?_
  refine z_callIv X (rt := none) (c_D_init h4) (cwI 1 X.1.2.2.2.2 (gi_wy vc_D_init) rfl rfl rfl (X.1.2.2.2.2 _ (wq vn_D)) (X.1.2.2.2.2 _ (wq lm_S_40)) (X.1.2.2.2.2 _ (wq vi_D_init)) rfl (by decide +kernel) ⟨Nat.le_of_ble_eq_true rfl, Nat.le_of_ble_eq_true rfl⟩) (As := [.int dv]) (st := [.ref (b + (N0 + 1 + 1 + 1 + 1)), .ref (b + N0)]) rfl rfl (Nat.le_of_ble_eq_true rfl) d_S_init_50 ⟨Nat.le_of_ble_eq_true rfl, Nat.le_of_ble_eq_true rfl⟩ (fun k2 hq => ?_)
  obtain ⟨h4, h4a, hq3⟩ := hq
  have h0 := (h0.to (k2 := k2) (hq3 _ (by omega))).more (N2 := N0 + 1 + 1 + 1 + 1 + 2) (by omega)
  have h1 := (h1.to (k2 := k2) (hq3 _ (by omega))).more (N2 := N0 + 1 + 1 + 1 + 1 + 2) (by omega)
  have h2 := (h2.to (k2 := k2) (hq3 _ (by omega))).more (N2 := N0 + 1 + 1 + 1 + 1 + 2) (by omega)
  have h2a := (h2a.to (k2 := k2) (hq3 _ (by omega))).more (N2 := N0 + 1 + 1 + 1 + 1 + 2) (by omega)
  have hf : ∀ q, q < b + N0 → k2 q = k q := fun q hq => (hq3 q (by omega)).trans (hf q hq)
  refine z_putF X h0 rfl in_S ty_S_ok n_S 6 (by decide) (wq lf_S_41) rfl hin rfl rfl rfl (Nat.le_of_ble_eq_true rfl) d_S_init_53 ?_
  refine z_named (fun k_10 hk9 => ?_)
  have h1 := (h1.to (k2 := k_10) (by rw [hk9]; exact up_ne (by omega)))
  have h2 := (h2.to (k2 := k_10) (by rw [hk9]; exact up_ne (by omega)))
  have h2a := (h2a.to (k2 := k_10) (by rw [hk9]; exact up_ne (by omega)))
  have h4 := (h4.to (k2 := k_10) (by rw [hk9]; exact up_ne (by omega)))
  have h4a := (h4a.to (k2 := k_10) (by rw [hk9]; exact up_ne (by omega)))
  have h0 : zc b (N0 + 1 + 1 + 1 + 1 + 2) k_10 (b + N0) (.inr (4, [.int (nI 0), .long 0, .int (nI 0), .int (nI 0), .ref (b + (N0 + 1)), .ref (b + (N0 + 1 + 1)), .ref (b + (N0 + 1 + 1 + 1 + 1))])) := by rw [hk9]; exact ⟨by omega, by omega, up_eq⟩
  have hf : ∀ q, q < b + N0 → k_10 q = k q := fun q hq => by rw [hk9]; exact (up_ne (by omega)).trans (hf q hq)
  clear hk9
  exact z_vret X d_S_init_56 (by omega) (by omega) (⟨⟨h0, h1, h2, h2a, h4, h4a⟩, hf⟩)
set_option maxHeartbeats 4000000 in
set_option maxRecDepth 100000 in
/-- Node(j, k, d) -/
theorem c_N_init {j kk : Nat} {dv : Int32} (h0 : zc b (N0 + 1) k (b + N0) (.inr (3, [.int 0, .int 0, .int 0, .null, .int 0, .int 0, .null, .null, .int 0]))) : Met l y_N_init (wy y_N_init b_N_init 4 none) (rm 3 13 242) (zPc D (tyl tI tZ tN tM) b (N0 + 1) k [.ref (b + N0), .int (nI j), .int (nI kk), .int dv]) (zQv D b (N0 + 14) (fun k2 => zc b (N0 + 14) k2 (b + N0) (oN j (-1) 0 0 0 0 (b + N0)) ∧ zc b (N0 + 14) k2 (b + N0 + 1) (aI tI 4 (fun _ => 0)) ∧ isS tI b (N0 + 14) k2 kk dv (b + N0 + 2) eS ∧ isS tI b (N0 + 14) k2 kk dv (b + N0 + 8) eS ∧ ∀ q, q < b + N0 → k2 q = k q)) 13 242 (zA b) := by
  refine z_met (own := R_N) (by decide) rfl rfl (Nat.le_of_ble_eq_true rfl) [some (.ref (b + N0)), some (.int (nI j)), some (.int (nI kk)), some (.int dv)] rfl ?_
  intro p e s m args below meth c X hin
  have hf : ∀ q, q < b + N0 → k q = k q := fun _ _ => rfl
  refine z_aload_n X d_N_init_0 rfl ?_
  refine z_objInit X (wq lm_N_3) (wq vi_O) (wq vc_O) d_N_init_1 (Nat.le_of_ble_eq_true rfl) (Nat.le_of_ble_eq_true rfl) ?_
  refine z_aload_n X d_N_init_4 rfl ?_
  refine z_iconst X d_N_init_5 (v := -1) (by decide +kernel) ?_
  refine z_put X h0 rfl in_N ty_N_ok n_N 1 (by decide) (wq lf_N_9) rfl rfl rfl (Nat.le_of_ble_eq_true rfl) d_N_init_6 ?_
  refine z_named (fun k_1 hk9 => ?_)
  have h0 : zc b (N0 + 1) k_1 (b + N0) (.inr (3, [.int 0, .int (-1), .int 0, .null, .int 0, .int 0, .null, .null, .int 0])) := by rw [hk9]; exact ⟨by omega, by omega, up_eq⟩
  have hf : ∀ q, q < b + N0 → k_1 q = k q := fun q hq => by rw [hk9]; exact (up_ne (by omega)).trans (hf q hq)
  clear hk9
  refine z_aload_n X d_N_init_9 rfl ?_
  refine z_iconst X d_N_init_10 (v := nI 0) (by decide +kernel) ?_
  refine z_put X h0 rfl in_N ty_N_ok n_N 2 (by decide) (wq lf_N_15) rfl (by decide +kernel) (by decide +kernel) (Nat.le_of_ble_eq_true rfl) d_N_init_11 ?_
  refine z_named (fun k_2 hk9 => ?_)
  have h0 : zc b (N0 + 1) k_2 (b + N0) (.inr (3, [.int 0, .int (-1), .int (nI 0), .null, .int 0, .int 0, .null, .null, .int 0])) := by rw [hk9]; exact ⟨by omega, by omega, up_eq⟩
  have hf : ∀ q, q < b + N0 → k_2 q = k q := fun q hq => by rw [hk9]; exact (up_ne (by omega)).trans (hf q hq)
  clear hk9
  refine z_aload_n X d_N_init_14 rfl ?_
  refine z_iconst X d_N_init_15 (v := nI 4) (by decide +kernel) ?_
  refine z_newa X (atype := .int) (ty := .int) (cA := tI) (wq vk_int) rfl 0 rfl (fun q => q) (n := 4) (a0 := (4, .inl (fun _ => 0))) rfl rfl (by decide) (by decide +kernel) (Nat.le_of_ble_eq_true rfl) (Nat.le_of_ble_eq_true rfl) d_N_init_16 ?_
  refine z_named (fun k_3 hk9 => ?_)
  have h0 := (h0.to (k2 := k_3) (by rw [hk9]; exact up_ne (by omega))).more (N2 := N0 + 1 + 1) (by omega)
  have h1 : zc b (N0 + 1 + 1) k_3 (b + (N0 + 1)) (aI tI 4 (fun _ => 0)) := by rw [hk9]; exact ⟨by omega, by omega, up_eq⟩
  have hf : ∀ q, q < b + N0 → k_3 q = k q := fun q hq => by rw [hk9]; exact (up_ne (by omega)).trans (hf q hq)
  clear hk9
  refine z_putF X h0 rfl in_N ty_N_ok n_N 3 (by decide) (wq lf_N_19) rfl hin rfl rfl rfl (Nat.le_of_ble_eq_true rfl) d_N_init_18 ?_
  refine z_named (fun k_4 hk9 => ?_)
  have h1 := (h1.to (k2 := k_4) (by rw [hk9]; exact up_ne (by omega)))
  have h0 : zc b (N0 + 1 + 1) k_4 (b + N0) (.inr (3, [.int 0, .int (-1), .int (nI 0), .ref (b + (N0 + 1)), .int 0, .int 0, .null, .null, .int 0])) := by rw [hk9]; exact ⟨by omega, by omega, up_eq⟩
  have hf : ∀ q, q < b + N0 → k_4 q = k q := fun q hq => by rw [hk9]; exact (up_ne (by omega)).trans (hf q hq)
  clear hk9
  refine z_aload_n X d_N_init_21 rfl ?_
  refine z_iconst X d_N_init_22 (v := nI 0) (by decide +kernel) ?_
  refine z_put X h0 rfl in_N ty_N_ok n_N 4 (by decide) (wq lf_N_23) rfl rfl rfl (Nat.le_of_ble_eq_true rfl) d_N_init_23 ?_
  refine z_named (fun k_5 hk9 => ?_)
  have h1 := (h1.to (k2 := k_5) (by rw [hk9]; exact up_ne (by omega)))
  have h0 : zc b (N0 + 1 + 1) k_5 (b + N0) (.inr (3, [.int 0, .int (-1), .int (nI 0), .ref (b + (N0 + 1)), .int (nI 0), .int 0, .null, .null, .int 0])) := by rw [hk9]; exact ⟨by omega, by omega, up_eq⟩
  have hf : ∀ q, q < b + N0 → k_5 q = k q := fun q hq => by rw [hk9]; exact (up_ne (by omega)).trans (hf q hq)
  clear hk9
  refine z_aload_n X d_N_init_26 rfl ?_
  refine z_iconst X d_N_init_27 (v := nI 0) (by decide +kernel) ?_
  refine z_put X h0 rfl in_N ty_N_ok n_N 5 (by decide) (wq lf_N_26) rfl rfl rfl (Nat.le_of_ble_eq_true rfl) d_N_init_28 ?_
  refine z_named (fun k_6 hk9 => ?_)
  have h1 := (h1.to (k2 := k_6) (by rw [hk9]; exact up_ne (by omega)))
  have h0 : zc b (N0 + 1 + 1) k_6 (b + N0) (.inr (3, [.int 0, .int (-1), .int (nI 0), .ref (b + (N0 + 1)), .int (nI 0), .int (nI 0), .null, .null, .int 0])) := by rw [hk9]; exact ⟨by omega, by omega, up_eq⟩
  have hf : ∀ q, q < b + N0 → k_6 q = k q := fun q hq => by rw [hk9]; exact (up_ne (by omega)).trans (hf q hq)
  clear hk9
  refine z_aload_n X d_N_init_31 rfl ?_
  refine z_iconst X d_N_init_32 (v := nI 0) (by decide +kernel) ?_
  refine z_put X h0 rfl in_N ty_N_ok n_N 8 (by decide) (wq lf_N_29) rfl rfl rfl (Nat.le_of_ble_eq_true rfl) d_N_init_33 ?_
  refine z_named (fun k_7 hk9 => ?_)
  have h1 := (h1.to (k2 := k_7) (by rw [hk9]; exact up_ne (by omega)))
  have h0 : zc b (N0 + 1 + 1) k_7 (b + N0) (.inr (3, [.int 0, .int (-1), .int (nI 0), .ref (b + (N0 + 1)), .int (nI 0), .int (nI 0), .null, .null, .int (nI 0)])) := by rw [hk9]; exact ⟨by omega, by omega, up_eq⟩
  have hf : ∀ q, q < b + N0 → k_7 q = k q := fun q hq => by rw [hk9]; exact (up_ne (by omega)).trans (hf q hq)
  clear hk9
  refine z_aload_n X d_N_init_36 rfl ?_
  refine z_iload_n X d_N_init_37 rfl ?_
  refine z_putF X h0 rfl in_N ty_N_ok n_N 0 (by decide) (wq lf_N_32) rfl hin rfl rfl rfl (Nat.le_of_ble_eq_true rfl) d_N_init_38 ?_
  refine z_named (fun k_8 hk9 => ?_)
  have h1 := (h1.to (k2 := k_8) (by rw [hk9]; exact up_ne (by omega)))
  have h0 : zc b (N0 + 1 + 1) k_8 (b + N0) (.inr (3, [.int (nI j), .int (-1), .int (nI 0), .ref (b + (N0 + 1)), .int (nI 0), .int (nI 0), .null, .null, .int (nI 0)])) := by rw [hk9]; exact ⟨by omega, by omega, up_eq⟩
  have hf : ∀ q, q < b + N0 → k_8 q = k q := fun q hq => by rw [hk9]; exact (up_ne (by omega)).trans (hf q hq)
  clear hk9
  refine z_aload_n X d_N_init_41 rfl ?_
  refine z_new X (ci := 4) (fs := [.int 0, .long 0, .int 0, .int 0, .null, .null, .null]) rfl in_S ty_S_ok (wq lc_N_35) (wq vm_S) (wq vn_S) (fun j hj => by rcases (show j = 0 ∨ j = 1 ∨ j = 2 ∨ j = 3 ∨ j = 4 ∨ j = 5 ∨ j = 6 by omega) with rfl | rfl | rfl | rfl | rfl | rfl | rfl <;> rfl) (Nat.le_of_ble_eq_true rfl) (Nat.le_of_ble_eq_true rfl) d_N_init_42 ?_
  refine z_named (fun k_9 hk9 => ?_)
  have h0 := (h0.to (k2 := k_9) (by rw [hk9]; exact up_ne (by omega))).more (N2 := N0 + 1 + 1 + 1) (by omega)
  have h1 := (h1.to (k2 := k_9) (by rw [hk9]; exact up_ne (by omega))).more (N2 := N0 + 1 + 1 + 1) (by omega)
  have hS : zc b (N0 + 1 + 1 + 1) k_9 (b + (N0 + 1 + 1)) (.inr (4, [.int 0, .long 0, .int 0, .int 0, .null, .null, .null])) := by rw [hk9]; exact ⟨by omega, by omega, up_eq⟩
  have hf : ∀ q, q < b + N0 → k_9 q = k q := fun q hq => by rw [hk9]; exact (up_ne (by omega)).trans (hf q hq)
  clear hk9
  refine z_dup X d_N_init_45 rfl ?_
  refine z_iload_n X d_N_init_46 rfl ?_
  refine z_iload_n X d_N_init_47 rfl ?_
  refine z_callIv X (rt := none) (c_S_init hS) (cwI 2 X.1.2.2.2.2 (gi_wy vc_S_init) rfl rfl rfl (X.1.2.2.2.2 _ (wq vn_S)) (X.1.2.2.2.2 _ (wq lm_N_37)) (X.1.2.2.2.2 _ (wq vi_S_init)) rfl (by decide +kernel) ⟨Nat.le_of_ble_eq_true rfl, Nat.le_of_ble_eq_true rfl⟩) (As := [.int (nI kk), .int dv]) (st := [.ref (b + (N0 + 1 + 1)), .ref (b + N0)]) rfl rfl (Nat.le_of_ble_eq_true rfl) d_N_init_48 ⟨Nat.le_of_ble_eq_true rfl, Nat.le_of_ble_eq_true rfl⟩ (fun k2 hq => ?_)
  obtain ⟨hS, hq3⟩ := hq
  have h0 := (h0.to (k2 := k2) (hq3 _ (by omega))).more (N2 := N0 + 1 + 1 + 6) (by omega)
  have h1 := (h1.to (k2 := k2) (hq3 _ (by omega))).more (N2 := N0 + 1 + 1 + 6) (by omega)
  have hf : ∀ q, q < b + N0 → k2 q = k q := fun q hq => (hq3 q (by omega)).trans (hf q hq)
  refine z_putF X h0 rfl in_N ty_N_ok n_N 6 (by decide) (wq lf_N_40) rfl hin rfl rfl rfl (Nat.le_of_ble_eq_true rfl) d_N_init_51 ?_
  refine z_named (fun k_10 hk9 => ?_)
  have h1 := (h1.to (k2 := k_10) (by rw [hk9]; exact up_ne (by omega)))
  have h0 : zc b (N0 + 1 + 1 + 6) k_10 (b + N0) (.inr (3, [.int (nI j), .int (-1), .int (nI 0), .ref (b + (N0 + 1)), .int (nI 0), .int (nI 0), .ref (b + (N0 + 1 + 1)), .null, .int (nI 0)])) := by rw [hk9]; exact ⟨by omega, by omega, up_eq⟩
  have hf : ∀ q, q < b + N0 → k_10 q = k q := fun q hq => by rw [hk9]; exact (up_ne (by omega)).trans (hf q hq)
  have hS := hS.to (k2 := k_10) (fun q q1 q2 => by rw [hk9]; exact up_ne (by omega))
  clear hk9
  refine z_aload_n X d_N_init_54 rfl ?_
  refine z_new X (ci := 4) (fs := [.int 0, .long 0, .int 0, .int 0, .null, .null, .null]) rfl in_S ty_S_ok (wq lc_N_35) (wq vm_S) (wq vn_S) (fun j hj => by rcases (show j = 0 ∨ j = 1 ∨ j = 2 ∨ j = 3 ∨ j = 4 ∨ j = 5 ∨ j = 6 by omega) with rfl | rfl | rfl | rfl | rfl | rfl | rfl <;> rfl) (Nat.le_of_ble_eq_true rfl) (Nat.le_of_ble_eq_true rfl) d_N_init_55 ?_
  refine z_named (fun k_11 hk9 => ?_)
  have h0 := (h0.to (k2 := k_11) (by rw [hk9]; exact up_ne (by omega))).more (N2 := N0 + 1 + 1 + 6 + 1) (by omega)
  have h1 := (h1.to (k2 := k_11) (by rw [hk9]; exact up_ne (by omega))).more (N2 := N0 + 1 + 1 + 6 + 1) (by omega)
  have hT : zc b (N0 + 1 + 1 + 6 + 1) k_11 (b + (N0 + 1 + 1 + 6)) (.inr (4, [.int 0, .long 0, .int 0, .int 0, .null, .null, .null])) := by rw [hk9]; exact ⟨by omega, by omega, up_eq⟩
  have hf : ∀ q, q < b + N0 → k_11 q = k q := fun q hq => by rw [hk9]; exact (up_ne (by omega)).trans (hf q hq)
  have hS := hS.to (k2 := k_11) (fun q q1 q2 => by rw [hk9]; exact up_ne (by omega)) |>.more (N2 := N0 + 1 + 1 + 6 + 1) (by omega)
  clear hk9
  refine z_dup X d_N_init_58 rfl ?_
  refine z_iload_n X d_N_init_59 rfl ?_
  refine z_iload_n X d_N_init_60 rfl ?_
  refine z_callIv X (rt := none) (c_S_init hT) (cwI 2 X.1.2.2.2.2 (gi_wy vc_S_init) rfl rfl rfl (X.1.2.2.2.2 _ (wq vn_S)) (X.1.2.2.2.2 _ (wq lm_N_37)) (X.1.2.2.2.2 _ (wq vi_S_init)) rfl (by decide +kernel) ⟨Nat.le_of_ble_eq_true rfl, Nat.le_of_ble_eq_true rfl⟩) (As := [.int (nI kk), .int dv]) (st := [.ref (b + (N0 + 1 + 1 + 6)), .ref (b + N0)]) rfl rfl (Nat.le_of_ble_eq_true rfl) d_N_init_61 ⟨Nat.le_of_ble_eq_true rfl, Nat.le_of_ble_eq_true rfl⟩ (fun k2 hq => ?_)
  obtain ⟨hT, hq3⟩ := hq
  have hS := (hS.to (k2 := k2) (fun q q1 q2 => hq3 q (by omega))).more (N2 := N0 + 1 + 1 + 6 + 6) (by omega)
  have h0 := (h0.to (k2 := k2) (hq3 _ (by omega))).more (N2 := N0 + 1 + 1 + 6 + 6) (by omega)
  have h1 := (h1.to (k2 := k2) (hq3 _ (by omega))).more (N2 := N0 + 1 + 1 + 6 + 6) (by omega)
  have hf : ∀ q, q < b + N0 → k2 q = k q := fun q hq => (hq3 q (by omega)).trans (hf q hq)
  refine z_putF X h0 rfl in_N ty_N_ok n_N 7 (by decide) (wq lf_N_44) rfl hin rfl rfl rfl (Nat.le_of_ble_eq_true rfl) d_N_init_64 ?_
  refine z_named (fun k_12 hk9 => ?_)
  have h1 := (h1.to (k2 := k_12) (by rw [hk9]; exact up_ne (by omega)))
  have h0 : zc b (N0 + 1 + 1 + 6 + 6) k_12 (b + N0) (.inr (3, [.int (nI j), .int (-1), .int (nI 0), .ref (b + (N0 + 1)), .int (nI 0), .int (nI 0), .ref (b + (N0 + 1 + 1)), .ref (b + (N0 + 1 + 1 + 6)), .int (nI 0)])) := by rw [hk9]; exact ⟨by omega, by omega, up_eq⟩
  have hf : ∀ q, q < b + N0 → k_12 q = k q := fun q hq => by rw [hk9]; exact (up_ne (by omega)).trans (hf q hq)
  have hS := hS.to (k2 := k_12) (fun q q1 q2 => by rw [hk9]; exact up_ne (by omega))
  have hT := hT.to (k2 := k_12) (fun q q1 q2 => by rw [hk9]; exact up_ne (by omega))
  clear hk9
  exact z_vret X d_N_init_67 (by omega) (by omega) (⟨h0, h1, hS, hT, hf⟩)
set_option maxHeartbeats 4000000 in
set_option maxRecDepth 100000 in
/-- Message(k, d) -/
theorem c_M_init {kk : Nat} {dv : Int32} (h0 : zc b (N0 + 1) k (b + N0) (.inr (2, [.int 0, .int 0, .int 0, .null]))) : Met l y_M_init (wy y_M_init b_M_init 3 none) (rm 3 6 119) (zPc D (tyl tI tZ tN tM) b (N0 + 1) k [.ref (b + N0), .int (nI kk), .int dv]) (zQv D b (N0 + 7) (fun k2 => zc b (N0 + 7) k2 (b + N0) (oM 0 0 0 (b + N0)) ∧ isS tI b (N0 + 7) k2 kk dv (b + N0 + 1) eS ∧ ∀ q, q < b + N0 → k2 q = k q)) 6 119 (zA b) := by
  refine z_met (own := R_M) (by decide) rfl rfl (Nat.le_of_ble_eq_true rfl) [some (.ref (b + N0)), some (.int (nI kk)), some (.int dv)] rfl ?_
  intro p e s m args below meth c X hin
  have hf : ∀ q, q < b + N0 → k q = k q := fun _ _ => rfl
  refine z_aload_n X d_M_init_0 rfl ?_
  refine z_objInit X (wq lm_M_1) (wq vi_O) (wq vc_O) d_M_init_1 (Nat.le_of_ble_eq_true rfl) (Nat.le_of_ble_eq_true rfl) ?_
  refine z_aload_n X d_M_init_4 rfl ?_
  refine z_iconst X d_M_init_5 (v := nI 0) (by decide +kernel) ?_
  refine z_put X h0 rfl in_M ty_M_ok n_M 0 (by decide) (wq lf_M_7) rfl rfl rfl (Nat.le_of_ble_eq_true rfl) d_M_init_6 ?_
  refine z_named (fun k_1 hk9 => ?_)
  have h0 : zc b (N0 + 1) k_1 (b + N0) (.inr (2, [.int (nI 0), .int 0, .int 0, .null])) := by rw [hk9]; exact ⟨by omega, by omega, up_eq⟩
  have hf : ∀ q, q < b + N0 → k_1 q = k q := fun q hq => by rw [hk9]; exact (up_ne (by omega)).trans (hf q hq)
  clear hk9
  refine z_aload_n X d_M_init_9 rfl ?_
  refine z_iconst X d_M_init_10 (v := nI 0) (by decide +kernel) ?_
  refine z_put X h0 rfl in_M ty_M_ok n_M 1 (by decide) (wq lf_M_13) rfl rfl rfl (Nat.le_of_ble_eq_true rfl) d_M_init_11 ?_
  refine z_named (fun k_2 hk9 => ?_)
  have h0 : zc b (N0 + 1) k_2 (b + N0) (.inr (2, [.int (nI 0), .int (nI 0), .int 0, .null])) := by rw [hk9]; exact ⟨by omega, by omega, up_eq⟩
  have hf : ∀ q, q < b + N0 → k_2 q = k q := fun q hq => by rw [hk9]; exact (up_ne (by omega)).trans (hf q hq)
  clear hk9
  refine z_aload_n X d_M_init_14 rfl ?_
  refine z_iconst X d_M_init_15 (v := nI 0) (by decide +kernel) ?_
  refine z_put X h0 rfl in_M ty_M_ok n_M 2 (by decide) (wq lf_M_16) rfl rfl rfl (Nat.le_of_ble_eq_true rfl) d_M_init_16 ?_
  refine z_named (fun k_3 hk9 => ?_)
  have h0 : zc b (N0 + 1) k_3 (b + N0) (.inr (2, [.int (nI 0), .int (nI 0), .int (nI 0), .null])) := by rw [hk9]; exact ⟨by omega, by omega, up_eq⟩
  have hf : ∀ q, q < b + N0 → k_3 q = k q := fun q hq => by rw [hk9]; exact (up_ne (by omega)).trans (hf q hq)
  clear hk9
  refine z_aload_n X d_M_init_19 rfl ?_
  refine z_new X (ci := 4) (fs := [.int 0, .long 0, .int 0, .int 0, .null, .null, .null]) rfl in_S ty_S_ok (wq lc_M_19) (wq vm_S) (wq vn_S) (fun j hj => by rcases (show j = 0 ∨ j = 1 ∨ j = 2 ∨ j = 3 ∨ j = 4 ∨ j = 5 ∨ j = 6 by omega) with rfl | rfl | rfl | rfl | rfl | rfl | rfl <;> rfl) (Nat.le_of_ble_eq_true rfl) (Nat.le_of_ble_eq_true rfl) d_M_init_20 ?_
  refine z_named (fun k_4 hk9 => ?_)
  have h0 := (h0.to (k2 := k_4) (by rw [hk9]; exact up_ne (by omega))).more (N2 := N0 + 1 + 1) (by omega)
  have hS : zc b (N0 + 1 + 1) k_4 (b + (N0 + 1)) (.inr (4, [.int 0, .long 0, .int 0, .int 0, .null, .null, .null])) := by rw [hk9]; exact ⟨by omega, by omega, up_eq⟩
  have hf : ∀ q, q < b + N0 → k_4 q = k q := fun q hq => by rw [hk9]; exact (up_ne (by omega)).trans (hf q hq)
  clear hk9
  refine z_dup X d_M_init_23 rfl ?_
  refine z_iload_n X d_M_init_24 rfl ?_
  refine z_iload_n X d_M_init_25 rfl ?_
  refine z_callIv X (rt := none) (c_S_init hS) (cwI 2 X.1.2.2.2.2 (gi_wy vc_S_init) rfl rfl rfl (X.1.2.2.2.2 _ (wq vn_S)) (X.1.2.2.2.2 _ (wq lm_M_21)) (X.1.2.2.2.2 _ (wq vi_S_init)) rfl (by decide +kernel) ⟨Nat.le_of_ble_eq_true rfl, Nat.le_of_ble_eq_true rfl⟩) (As := [.int (nI kk), .int dv]) (st := [.ref (b + (N0 + 1)), .ref (b + N0)]) rfl rfl (Nat.le_of_ble_eq_true rfl) d_M_init_26 ⟨Nat.le_of_ble_eq_true rfl, Nat.le_of_ble_eq_true rfl⟩ (fun k2 hq => ?_)
  obtain ⟨hS, hq3⟩ := hq
  have h0 := (h0.to (k2 := k2) (hq3 _ (by omega))).more (N2 := N0 + 1 + 6) (by omega)
  have hf : ∀ q, q < b + N0 → k2 q = k q := fun q hq => (hq3 q (by omega)).trans (hf q hq)
  refine z_putF X h0 rfl in_M ty_M_ok n_M 3 (by decide) (wq lf_M_24) rfl hin rfl rfl rfl (Nat.le_of_ble_eq_true rfl) d_M_init_29 ?_
  refine z_named (fun k_5 hk9 => ?_)
  have h0 : zc b (N0 + 1 + 6) k_5 (b + N0) (.inr (2, [.int (nI 0), .int (nI 0), .int (nI 0), .ref (b + (N0 + 1))])) := by rw [hk9]; exact ⟨by omega, by omega, up_eq⟩
  have hf : ∀ q, q < b + N0 → k_5 q = k q := fun q hq => by rw [hk9]; exact (up_ne (by omega)).trans (hf q hq)
  have hS := hS.to (k2 := k_5) (fun q q1 q2 => by rw [hk9]; exact up_ne (by omega))
  clear hk9
  exact z_vret X d_M_init_32 (by omega) (by omega) (⟨h0, hS, hf⟩)
end
end
section
/-! The class's world: the tree at b, its two arrays, 12 nodes of 14 cells, 12 messages of 7 cells -/
abbrev aQ (t : ClassId) (n : Nat) (f : Nat → Option Nat) : va_E := .inl (t, n, .inr (.inr (.inr (.inr f))))
abbrev oT (nc : Nat) (lm : Int32) (b : Nat) : va_E := .inr (5, [.ref (b + 1), .int (nI nc), .ref (b + 2), .int lm])
/-- the numbers of the fields: 0 parent, 1 leaf, 2 reports, 3 keptVersion (of a node); 4 number, 5 sender, 6 version (of a message) -/
abbrev Cf : Type := Nat → Nat → Int32
def CW (tI tN tM : ClassId) (b N : Nat) (k : Nat → va_E) (kk : Nat) (dv : Int32) (nc : Nat) (lm : Int32) (F : Cf) (op : Nat → Nat → Int32) (oc : Nat → Nat) (Sn Sk Sm : Nat → Sv) : Prop :=
  zc b N k b (oT nc lm b) ∧ (∃ g, zc b N k (b + 1) (aQ tN 12 g) ∧ ∀ j, j < 12 → g j = some (b + 3 + 14 * j)) ∧ (∃ g, zc b N k (b + 2) (aQ tM 12 g) ∧ ∀ p, p < 12 → g p = some (b + 171 + 7 * p)) ∧
  (∀ j, j < 12 → zc b N k (b + 3 + 14 * j) (oN j (F 0 j) (F 1 j) (oc j) (F 2 j) (F 3 j) (b + 3 + 14 * j))) ∧ (∀ j, j < 12 → zc b N k ((b + 3 + 14 * j) + 1) (aI tI 4 (op j))) ∧
  (∀ j, j < 12 → isS tI b N k kk dv ((b + 3 + 14 * j) + 2) (Sn j)) ∧ (∀ j, j < 12 → isS tI b N k kk dv ((b + 3 + 14 * j) + 8) (Sk j)) ∧
  (∀ p, p < 12 → zc b N k (b + 171 + 7 * p) (oM (F 4 p) (F 5 p) (F 6 p) (b + 171 + 7 * p))) ∧ (∀ p, p < 12 → isS tI b N k kk dv ((b + 171 + 7 * p) + 1) (Sm p))
/-- one field of one object -/
def fU (F : Cf) (c j : Nat) (x : Int32) : Cf := va_up F c (va_up (F c) j x)
theorem fU_eq {F : Cf} {c j : Nat} {x : Int32} : fU F c j x c j = x := by simp [fU, va_up]
theorem fU_c {F : Cf} {c j d i : Nat} {x : Int32} (h : d ≠ c) : fU F c j x d i = F d i := by simp [fU, va_up, h]
theorem fU_j {F : Cf} {c j i : Nat} {x : Int32} (h : i ≠ j) : fU F c j x c i = F c i := by simp [fU, va_up, h]
theorem fU_n {F : Cf} {c j d i : Nat} {x : Int32} (h : i ≠ j) : fU F c j x d i = F d i := by
  by_cases hd : d = c
  · subst hd; exact fU_j h
  · exact fU_c hd
section
variable {tI tN tM : ClassId} {b N : Nat} {k k2 : Nat → va_E} {kk : Nat} {dv : Int32} {nc : Nat} {lm : Int32} {F : Cf} {op : Nat → Nat → Int32} {oc : Nat → Nat} {Sn Sk Sm : Nat → Sv}
theorem CW.keep (h : CW tI tN tM b N k kk dv nc lm F op oc Sn Sk Sm) (hk : ∀ q, q < b + 255 → k2 q = k q) : CW tI tN tM b N k2 kk dv nc lm F op oc Sn Sk Sm := by
  obtain ⟨h0, ⟨g1, h1, e1⟩, ⟨g2, h2, e2⟩, h3, h4, h5, h6, h7, h8⟩ := h
  exact ⟨h0.to (hk _ (by omega)), ⟨g1, h1.to (hk _ (by omega)), e1⟩, ⟨g2, h2.to (hk _ (by omega)), e2⟩, fun j hj => (h3 j hj).to (hk _ (by omega)), fun j hj => (h4 j hj).to (hk _ (by omega)), fun j hj => (h5 j hj).to (fun q q1 q2 => hk _ (by omega)), fun j hj => (h6 j hj).to (fun q q1 q2 => hk _ (by omega)), fun j hj => (h7 j hj).to (hk _ (by omega)), fun j hj => (h8 j hj).to (fun q q1 q2 => hk _ (by omega))⟩
/-- the tree's own fields -/
theorem CW.tree (h : CW tI tN tM b N k kk dv nc lm F op oc Sn Sk Sm) {nc2 : Nat} {lm2 : Int32} (he : zc b N k2 b (oT nc2 lm2 b)) (hk : ∀ q, q ≠ b → k2 q = k q) : CW tI tN tM b N k2 kk dv nc2 lm2 F op oc Sn Sk Sm := by
  obtain ⟨h0, ⟨g1, h1, e1⟩, ⟨g2, h2, e2⟩, h3, h4, h5, h6, h7, h8⟩ := h
  exact ⟨he, ⟨g1, h1.to (hk _ (by omega)), e1⟩, ⟨g2, h2.to (hk _ (by omega)), e2⟩, fun j hj => (h3 j hj).to (hk _ (by omega)), fun j hj => (h4 j hj).to (hk _ (by omega)), fun j hj => (h5 j hj).to (fun q q1 q2 => hk _ (by omega)), fun j hj => (h6 j hj).to (fun q q1 q2 => hk _ (by omega)), fun j hj => (h7 j hj).to (hk _ (by omega)), fun j hj => (h8 j hj).to (fun q q1 q2 => hk _ (by omega))⟩
/-- a node: its fields, its open block, its summary -/
theorem CW.node (h : CW tI tN tM b N k kk dv nc lm F op oc Sn Sk Sm) {j : Nat} {F2 : Cf} {op2 : Nat → Nat → Int32} {oc2 : Nat → Nat} {Sn2 Sk2 : Nat → Sv} (hj : j < 12) (he : zc b N k2 (b + 3 + 14 * j) (oN j (F2 0 j) (F2 1 j) (oc2 j) (F2 2 j) (F2 3 j) (b + 3 + 14 * j))) (ho : zc b N k2 ((b + 3 + 14 * j) + 1) (aI tI 4 (op2 j))) (hs : isS tI b N k2 kk dv ((b + 3 + 14 * j) + 2) (Sn2 j)) (ht : isS tI b N k2 kk dv ((b + 3 + 14 * j) + 8) (Sk2 j)) (hk : ∀ q, q < (b + 3 + 14 * j) ∨ (b + 3 + 14 * j) + 14 ≤ q → k2 q = k q) (hF : ∀ c i, i ≠ j ∨ 4 ≤ c → F2 c i = F c i) (hop : ∀ i, i ≠ j → op2 i = op i) (hoc : ∀ i, i ≠ j → oc2 i = oc i) (hSn : ∀ i, i ≠ j → Sn2 i = Sn i) (hSk : ∀ i, i ≠ j → Sk2 i = Sk i) : CW tI tN tM b N k2 kk dv nc lm F2 op2 oc2 Sn2 Sk2 Sm := by
  obtain ⟨h0, ⟨g1, h1, e1⟩, ⟨g2, h2, e2⟩, h3, h4, h5, h6, h7, h8⟩ := h
  refine ⟨h0.to (hk _ (by omega)), ⟨g1, h1.to (hk _ (by omega)), e1⟩, ⟨g2, h2.to (hk _ (by omega)), e2⟩, fun i hi => ?_, fun i hi => ?_, fun i hi => ?_, fun i hi => ?_, fun i hi => ?_, fun i hi => ?_⟩
  · by_cases hij : i = j
    · subst hij; exact he
    · rw [hF 0 i (Or.inl hij), hF 1 i (Or.inl hij), hF 2 i (Or.inl hij), hF 3 i (Or.inl hij), hoc i hij]
      exact (h3 i hi).to (hk _ (by omega))
  · by_cases hij : i = j
    · subst hij; exact ho
    · rw [hop i hij]
      exact (h4 i hi).to (hk _ (by omega))
  · by_cases hij : i = j
    · subst hij; exact hs
    · rw [hSn i hij]
      exact (h5 i hi).to (fun q q1 q2 => hk _ (by omega))
  · by_cases hij : i = j
    · subst hij; exact ht
    · rw [hSk i hij]
      exact (h6 i hi).to (fun q q1 q2 => hk _ (by omega))
  · rw [hF 4 i (Or.inr (by omega)), hF 5 i (Or.inr (by omega)), hF 6 i (Or.inr (by omega))]
    exact (h7 i hi).to (hk _ (by omega))
  · exact (h8 i hi).to (fun q q1 q2 => hk _ (by omega))
/-- a message: its fields, its summary -/
theorem CW.msg (h : CW tI tN tM b N k kk dv nc lm F op oc Sn Sk Sm) {p : Nat} {F2 : Cf} {Sm2 : Nat → Sv} (hp : p < 12) (he : zc b N k2 (b + 171 + 7 * p) (oM (F2 4 p) (F2 5 p) (F2 6 p) (b + 171 + 7 * p))) (hs : isS tI b N k2 kk dv ((b + 171 + 7 * p) + 1) (Sm2 p)) (hk : ∀ q, q < (b + 171 + 7 * p) ∨ (b + 171 + 7 * p) + 7 ≤ q → k2 q = k q) (hF : ∀ c i, i ≠ p ∨ c < 4 → F2 c i = F c i) (hSm : ∀ i, i ≠ p → Sm2 i = Sm i) : CW tI tN tM b N k2 kk dv nc lm F2 op oc Sn Sk Sm2 := by
  obtain ⟨h0, ⟨g1, h1, e1⟩, ⟨g2, h2, e2⟩, h3, h4, h5, h6, h7, h8⟩ := h
  refine ⟨h0.to (hk _ (by omega)), ⟨g1, h1.to (hk _ (by omega)), e1⟩, ⟨g2, h2.to (hk _ (by omega)), e2⟩, fun i hi => ?_, fun i hi => ?_, fun i hi => ?_, fun i hi => ?_, fun i hi => ?_, fun i hi => ?_⟩
  · rw [hF 0 i (Or.inr (by omega)), hF 1 i (Or.inr (by omega)), hF 2 i (Or.inr (by omega)), hF 3 i (Or.inr (by omega))]
    exact (h3 i hi).to (hk _ (by omega))
  · exact (h4 i hi).to (hk _ (by omega))
  · exact (h5 i hi).to (fun q q1 q2 => hk _ (by omega))
  · exact (h6 i hi).to (fun q q1 q2 => hk _ (by omega))
  · by_cases hij : i = p
    · subst hij; exact he
    · rw [hF 4 i (Or.inl hij), hF 5 i (Or.inl hij), hF 6 i (Or.inl hij)]
      exact (h7 i hi).to (hk _ (by omega))
  · by_cases hij : i = p
    · subst hij; exact hs
    · rw [hSm i hij]
      exact (h8 i hi).to (fun q q1 q2 => hk _ (by omega))
end
end
section
/-! Contracts: the tree's questions -/
def isn (nc : Nat) (x : Int32) : Bool := !decide (x < 0) && !decide (nI nc ≤ x)
theorem isn_t {nc : Nat} {x : Int32} (hnc : nc < 65536) (h : isn nc x = true) : ∃ j, j < nc ∧ x = nI j := by
  rcases pk_ix x (n := nc) (by omega) with h1 | h1 | h1
  · simp [isn, h1] at h
  · simp [isn, h1] at h
  · exact h1
theorem isn_n {nc j : Nat} (hnc : nc < 65536) (h : j < nc) : isn nc (nI j) = true := by
  have h1 := nI_pos (n := j) (by omega)
  have h2 := nI_ge h (by omega)
  simp [isn, h1, h2]
theorem le_big {m : Nat} {y : Int32} (hm : m < 65536) (h : nI (m + 1) ≤ y) : ¬ y ≤ nI m := by
  rw [Int32.le_iff_toInt_le, nI_toInt (by omega)] at *
  omega
theorem isn_neg {nc : Nat} {x : Int32} (h : x < 0) : isn nc x = false := by simp [isn, h]
theorem isn_big {nc : Nat} {x : Int32} (h : nI nc ≤ x) : isn nc x = false := by simp [isn, h]
def isl (nc : Nat) (lf : Nat → Int32) (x : Int32) : Bool := isn nc x && !decide (lf x.toNatClampNeg = 0)
def sw (f : Nat → Int32) (x : Int32) : Nat → Int32
  | 0 => -1
  | n + 1 => if f (11 - n) = x then nI (11 - n) else sw f x n
theorem sw_at (f : Nat → Int32) (x : Int32) {v : Nat} (hv : v < 12) : sw f x (12 - v) = if f v = x then nI v else sw f x (12 - (v + 1)) := by
  rw [show 12 - v = (11 - v) + 1 by omega]
  simp only [sw]
  rw [show 11 - (11 - v) = v by omega, show 12 - (v + 1) = 11 - v by omega]
theorem sw_cases (f : Nat → Int32) (x : Int32) : ∀ n, n ≤ 12 → (sw f x n = -1 ∧ ∀ p, 12 - n ≤ p → p < 12 → f p ≠ x) ∨ ∃ p, p < 12 ∧ sw f x n = nI p ∧ f p = x
  | 0, _ => Or.inl ⟨rfl, fun p h1 h2 => by omega⟩
  | n + 1, hn => by
    simp only [sw]
    by_cases h : f (11 - n) = x
    · rw [if_pos h]
      exact Or.inr ⟨11 - n, by omega, rfl, h⟩
    · rw [if_neg h]
      rcases sw_cases f x n (by omega) with ⟨h1, h2⟩ | h1
      · refine Or.inl ⟨h1, fun p p1 p2 => ?_⟩
        by_cases hp : p = 11 - n
        · subst hp; exact h
        · exact h2 p (by omega) p2
      · exact Or.inr h1
def so (f : Nat → Int32) (x : Int32) : Int32 := if nI 1 ≤ x then sw f x 12 else -1
section
variable {l : Launch} {D : va_G} {tI tZ tN tM : ClassId} {b N : Nat} {k : Nat → va_E}
set_option maxHeartbeats 4000000 in
set_option maxRecDepth 100000 in
/-- T_isNode -/
theorem c_T_isNode {kk nc : Nat} {dv lm : Int32} {F : Cf} {op : Nat → Nat → Int32} {oc : Nat → Nat} {Sn Sk Sm : Nat → Sv} {x : Int32} (hC : CW tI tN tM b N k kk dv nc lm F op oc Sn Sk Sm) (hnc : nc ≤ 12)  : Met l y_T_isNode (wy y_T_isNode b_T_isNode 2 (some .boolean)) (rm 0 0 0) (zPc D (tyl tI tZ tN tM) b N k [.ref b, .int x]) (zQi D b N (fun z k2 => z = nI (cb (isn nc x)) ∧ k2 = k)) 0 0 (zA b) := by
  refine z_met (own := R_T) (by decide) rfl rfl (Nat.le_of_ble_eq_true rfl) [some (.ref b), some (.int x)] rfl ?_
  intro p e s m args below meth c X hin
  have ⟨h0, ⟨g1, h1, e1⟩, ⟨g2, h2, e2⟩, h3, h4, h5, h6, h7, h8⟩ := hC
  refine z_iload_n X d_T_isNode_0 rfl ?_
  refine z_if_lt X d_T_isNode_1 (tgt := 16) (by decide) (fun hA => ?_) (fun hA => ?_)
  · skip
    refine z_iconst X d_T_isNode_16 (v := nI 0) (by decide +kernel) ?_
    exact z_zret X d_T_isNode_17 (by decide) (by omega) (by omega) (⟨by simp [isn, hA, cb], rfl⟩)
  · skip
    refine z_iload_n X d_T_isNode_4 rfl ?_
    refine z_aload_n X d_T_isNode_5 rfl ?_
    refine z_get X h0 rfl in_T 1 (by decide) (wq lf_T_15) rfl d_T_isNode_6 ?_
    refine z_icmp_ge X d_T_isNode_9 (tgt := 16) (by decide) (fun hB => ?_) (fun hB => ?_)
    · skip
      refine z_iconst X d_T_isNode_16 (v := nI 0) (by decide +kernel) ?_
      exact z_zret X d_T_isNode_17 (by decide) (by omega) (by omega) (⟨by simp [isn, hB, cb], rfl⟩)
    · skip
      refine z_iconst X d_T_isNode_12 (v := nI 1) (by decide +kernel) ?_
      refine z_goto X d_T_isNode_13 (tgt := 17) (by decide) ?_
      exact z_zret X d_T_isNode_17 (by decide) (by omega) (by omega) (⟨by simp [isn, hA, hB, cb], rfl⟩)
set_option maxHeartbeats 4000000 in
set_option maxRecDepth 100000 in
/-- isValue -/
theorem c_T_isValue {x : Int32} : Met l y_T_isValue (wy y_T_isValue b_T_isValue 1 (some .boolean)) (rm 0 0 0) (zPc D (tyl tI tZ tN tM) b N k [.int x]) (zQi D b N (fun z k2 => z = nI (cb (isn 32 x)) ∧ k2 = k)) 0 0 (zA b) := by
  refine z_met (own := R_T) (by decide) rfl rfl (Nat.le_of_ble_eq_true rfl) [some (.int x)] rfl ?_
  intro p e s m args below meth c X hin
  refine z_iload_n X d_T_isValue_0 rfl ?_
  refine z_if_lt X d_T_isValue_1 (tgt := 14) (by decide) (fun hA => ?_) (fun hA => ?_)
  · skip
    refine z_iconst X d_T_isValue_14 (v := nI 0) (by decide +kernel) ?_
    exact z_zret X d_T_isValue_15 (by decide) (by omega) (by omega) (⟨by simp [isn, hA, cb], rfl⟩)
  · skip
    refine z_iload_n X d_T_isValue_4 rfl ?_
    refine z_bipush X d_T_isValue_5 (v := nI 32) (by decide +kernel) ?_
    refine z_icmp_ge X d_T_isValue_7 (tgt := 14) (by decide) (fun hB => ?_) (fun hB => ?_)
    · skip
      refine z_iconst X d_T_isValue_14 (v := nI 0) (by decide +kernel) ?_
      exact z_zret X d_T_isValue_15 (by decide) (by omega) (by omega) (⟨by simp [isn, hB, cb], rfl⟩)
    · skip
      refine z_iconst X d_T_isValue_10 (v := nI 1) (by decide +kernel) ?_
      refine z_goto X d_T_isValue_11 (tgt := 15) (by decide) ?_
      exact z_zret X d_T_isValue_15 (by decide) (by omega) (by omega) (⟨by simp [isn, hA, hB, cb], rfl⟩)
set_option maxHeartbeats 4000000 in
set_option maxRecDepth 100000 in
/-- T_isLeaf -/
theorem c_T_isLeaf {kk nc : Nat} {dv lm : Int32} {F : Cf} {op : Nat → Nat → Int32} {oc : Nat → Nat} {Sn Sk Sm : Nat → Sv} {x : Int32} (hC : CW tI tN tM b N k kk dv nc lm F op oc Sn Sk Sm) (hnc : nc ≤ 12)  : Met l y_T_isLeaf (wy y_T_isLeaf b_T_isLeaf 2 (some .boolean)) (rm 1 0 0) (zPc D (tyl tI tZ tN tM) b N k [.ref b, .int x]) (zQi D b N (fun z k2 => z = nI (cb (isl nc (F 1) x)) ∧ k2 = k)) 0 0 (zA b) := by
  refine z_met (own := R_T) (by decide) rfl rfl (Nat.le_of_ble_eq_true rfl) [some (.ref b), some (.int x)] rfl ?_
  intro p e s m args below meth c X hin
  have ⟨h0, ⟨g1, h1, e1⟩, ⟨g2, h2, e2⟩, h3, h4, h5, h6, h7, h8⟩ := hC
  refine z_aload_n X d_T_isLeaf_0 rfl ?_
  refine z_iload_n X d_T_isLeaf_1 rfl ?_
  refine z_callVi X (c_T_isNode hC hnc) h0 rfl (cwV 1 X.1.2.2.2.2 (gi_V lm_T_43 vi_T_isNode ve_T_isNode vn_T vc_T_isNode) rfl rfl rfl (by decide +kernel) ⟨Nat.le_of_ble_eq_true rfl, Nat.le_of_ble_eq_true rfl⟩) (As := [.int x]) (st := []) rfl rfl (Nat.le_of_ble_eq_true rfl) d_T_isLeaf_2 ⟨Nat.le_of_ble_eq_true rfl, Nat.le_of_ble_eq_true rfl⟩ (fun z k2 hq => ?_)
  obtain ⟨rfl, rfl⟩ := hq
  cases hx : isn nc x
  · skip
    refine z_if_eqN X d_T_isLeaf_5 (tgt := 24) (by decide) (by decide) (fun _ => ?_) (fun h => absurd h (by decide))
    refine z_iconst X d_T_isLeaf_24 (v := nI 0) (by decide +kernel) ?_
    exact z_zret X d_T_isLeaf_25 (by decide) (by omega) (by omega) (⟨by simp [isl, hx, cb], rfl⟩)
  · skip
    refine z_if_eqN X d_T_isLeaf_5 (tgt := 24) (by decide) (by decide) (fun h => absurd h (by decide)) (fun _ => ?_)
    obtain ⟨j, hj, rfl⟩ := isn_t (by omega) hx
    refine z_lv (lv2 := [some (.ref b), some (.int (nI j))]) (fun _ _ q => q) ?_
    refine z_aload_n X d_T_isLeaf_8 rfl ?_
    refine z_get X h0 rfl in_T 0 (by decide) (wq lf_T_11) rfl d_T_isLeaf_9 ?_
    refine z_iload_n X d_T_isLeaf_12 rfl ?_
    refine z_aald X h1 2 rfl (j := j) (v := b + 3 + 14 * j) rfl (by omega) (by omega) (e1 _ (by omega)) d_T_isLeaf_13 ?_
    refine z_get X (h3 j (by omega)) rfl in_N 2 (by decide) (wq lf_T_47) rfl d_T_isLeaf_14 ?_
    refine z_if_eq X d_T_isLeaf_17 (tgt := 24) (by decide) (fun hB => ?_) (fun hB => ?_)
    · skip
      refine z_iconst X d_T_isLeaf_24 (v := nI 0) (by decide +kernel) ?_
      exact z_zret X d_T_isLeaf_25 (by decide) (by omega) (by omega) (⟨by rw [isl, hx, nI_clamp (by omega), hB]; rfl, rfl⟩)
    · skip
      refine z_iconst X d_T_isLeaf_20 (v := nI 1) (by decide +kernel) ?_
      refine z_goto X d_T_isLeaf_21 (tgt := 25) (by decide) ?_
      exact z_zret X d_T_isLeaf_25 (by decide) (by omega) (by omega) (⟨by rw [isl, hx, nI_clamp (by omega)]; simp [hB, cb], rfl⟩)
set_option maxHeartbeats 4000000 in
set_option maxRecDepth 100000 in
/-- T_slotWithNumber -/
theorem c_T_slotWithNumber {kk nc : Nat} {dv lm : Int32} {F : Cf} {op : Nat → Nat → Int32} {oc : Nat → Nat} {Sn Sk Sm : Nat → Sv} {x : Int32} (hC : CW tI tN tM b N k kk dv nc lm F op oc Sn Sk Sm) (hnc : nc ≤ 12)  : Met l y_T_slotWithNumber (wy y_T_slotWithNumber b_T_slotWithNumber 3 (some .int)) (rm 0 0 0) (zPc D (tyl tI tZ tN tM) b N k [.ref b, .int x]) (zQi D b N (fun z k2 => z = sw (F 4) x 12 ∧ k2 = k)) 0 0 (zA b) := by
  refine z_met (own := R_T) (by decide) rfl rfl (Nat.le_of_ble_eq_true rfl) [some (.ref b), some (.int x), none] rfl ?_
  intro p e s m args below meth c X hin
  have ⟨h0, ⟨g1, h1, e1⟩, ⟨g2, h2, e2⟩, h3, h4, h5, h6, h7, h8⟩ := hC
  refine z_iconst X d_T_slotWithNumber_0 (v := nI 0) (by decide +kernel) ?_
  refine z_istore_n X d_T_slotWithNumber_1 (by decide) rfl ?_
  refine z_lv (lv2 := [some (.ref b), some (.int x), some (.int (nI 0))]) (fun _ _ q => q) ?_
  refine z_loop (σ := Unit) (K := fun _ _ => k) (LV := fun v _ => [some (.ref b), some (.int x), some (.int (nI v))]) (I := fun v _ => sw (F 4) x 12 = sw (F 4) x (12 - v)) 12 0 () (by omega) (rfl) (rfl) (rfl) ?_ ?_
  · intro s1 hI
    refine z_lv (lv2 := [some (.ref b), some (.int x), some (.int (nI 12))]) (fun _ _ q => q) ?_
    refine z_iload_n X d_T_slotWithNumber_2 rfl ?_
    refine z_bipush X d_T_slotWithNumber_3 (v := nI 12) (by decide +kernel) ?_
    refine z_icmp_geN X d_T_slotWithNumber_5 (tgt := 29) (by decide) (by omega) (by omega) (fun _ => ?_) (fun h => absurd h (by omega))
    refine z_iconst X d_T_slotWithNumber_29 (v := -1) (by decide +kernel) ?_
    exact z_iret X d_T_slotWithNumber_30 (by omega) (by omega) (⟨hI.symm, rfl⟩)
  · intro v s1 hv hI ih
    rw [sw_at (F 4) x hv] at hI
    refine z_lv (lv2 := [some (.ref b), some (.int x), some (.int (nI v))]) (fun _ _ q => q) ?_
    refine z_iload_n X d_T_slotWithNumber_2 rfl ?_
    refine z_bipush X d_T_slotWithNumber_3 (v := nI 12) (by decide +kernel) ?_
    refine z_icmp_geN X d_T_slotWithNumber_5 (tgt := 29) (by decide) (by omega) (by omega) (fun h => absurd h (by omega)) (fun _ => ?_)
    refine z_aload_n X d_T_slotWithNumber_8 rfl ?_
    refine z_get X h0 rfl in_T 2 (by decide) (wq lf_T_21) rfl d_T_slotWithNumber_9 ?_
    refine z_iload_n X d_T_slotWithNumber_12 rfl ?_
    refine z_aald X h2 3 rfl (j := v) (v := b + 171 + 7 * v) rfl (by omega) (by omega) (e2 _ (by omega)) d_T_slotWithNumber_13 ?_
    refine z_get X (h7 v (by omega)) rfl in_M 0 (by decide) (wq lf_T_105) rfl d_T_slotWithNumber_14 ?_
    refine z_iload_n X d_T_slotWithNumber_17 rfl ?_
    refine z_icmp_ne X d_T_slotWithNumber_18 (tgt := 23) (by decide) (fun hA => ?_) (fun hA => ?_)
    · skip
      refine z_iincU X d_T_slotWithNumber_23 rfl (by decide) rfl ?_
      refine z_lv (lv2 := [some (.ref b), some (.int x), some (.int (nI (v + 1)))]) (fun _ _ q => q) ?_
      refine z_goto X d_T_slotWithNumber_26 (tgt := 2) (by decide) ?_
      exact z_at (ih () (by rw [hI, if_neg hA])) rfl rfl
    · skip
      refine z_iload_n X d_T_slotWithNumber_21 rfl ?_
      exact z_iret X d_T_slotWithNumber_22 (by omega) (by omega) (⟨by rw [hI, if_pos hA], rfl⟩)
set_option maxHeartbeats 4000000 in
set_option maxRecDepth 100000 in
/-- T_slotOf -/
theorem c_T_slotOf {kk nc : Nat} {dv lm : Int32} {F : Cf} {op : Nat → Nat → Int32} {oc : Nat → Nat} {Sn Sk Sm : Nat → Sv} {x : Int32} (hC : CW tI tN tM b N k kk dv nc lm F op oc Sn Sk Sm) (hnc : nc ≤ 12)  : Met l y_T_slotOf (wy y_T_slotOf b_T_slotOf 2 (some .int)) (rm 1 0 0) (zPc D (tyl tI tZ tN tM) b N k [.ref b, .int x]) (zQi D b N (fun z k2 => z = so (F 4) x ∧ k2 = k)) 0 0 (zA b) := by
  refine z_met (own := R_T) (by decide) rfl rfl (Nat.le_of_ble_eq_true rfl) [some (.ref b), some (.int x)] rfl ?_
  intro p e s m args below meth c X hin
  have ⟨h0, ⟨g1, h1, e1⟩, ⟨g2, h2, e2⟩, h3, h4, h5, h6, h7, h8⟩ := hC
  refine z_iload_n X d_T_slotOf_0 rfl ?_
  refine z_iconst X d_T_slotOf_1 (v := nI 1) (by decide +kernel) ?_
  refine z_icmp_ge X d_T_slotOf_2 (tgt := 9) (by decide) (fun hA => ?_) (fun hA => ?_)
  · skip
    refine z_aload_n X d_T_slotOf_9 rfl ?_
    refine z_iload_n X d_T_slotOf_10 rfl ?_
    refine z_callVi X (c_T_slotWithNumber hC hnc) h0 rfl (cwV 1 X.1.2.2.2.2 (gi_V lm_T_169 vi_T_slotWithNumber ve_T_slotWithNumber vn_T vc_T_slotWithNumber) rfl rfl rfl (by decide +kernel) ⟨Nat.le_of_ble_eq_true rfl, Nat.le_of_ble_eq_true rfl⟩) (As := [.int x]) (st := []) rfl rfl (Nat.le_of_ble_eq_true rfl) d_T_slotOf_11 ⟨Nat.le_of_ble_eq_true rfl, Nat.le_of_ble_eq_true rfl⟩ (fun z k2 hq => ?_)
    obtain ⟨rfl, rfl⟩ := hq
    exact z_iret X d_T_slotOf_14 (by omega) (by omega) (⟨by rw [so, if_pos hA], rfl⟩)
  · skip
    refine z_iconst X d_T_slotOf_5 (v := -1) (by decide +kernel) ?_
    refine z_goto X d_T_slotOf_6 (tgt := 14) (by decide) ?_
    exact z_iret X d_T_slotOf_14 (by omega) (by omega) (⟨by rw [so, if_neg hA], rfl⟩)
set_option maxHeartbeats 4000000 in
set_option maxRecDepth 100000 in
/-- T_freeSlot -/
theorem c_T_freeSlot {kk nc : Nat} {dv lm : Int32} {F : Cf} {op : Nat → Nat → Int32} {oc : Nat → Nat} {Sn Sk Sm : Nat → Sv} (hC : CW tI tN tM b N k kk dv nc lm F op oc Sn Sk Sm) (hnc : nc ≤ 12)  : Met l y_T_freeSlot (wy y_T_freeSlot b_T_freeSlot 1 (some .int)) (rm 1 0 0) (zPc D (tyl tI tZ tN tM) b N k [.ref b]) (zQi D b N (fun z k2 => z = sw (F 4) (nI 0) 12 ∧ k2 = k)) 0 0 (zA b) := by
  refine z_met (own := R_T) (by decide) rfl rfl (Nat.le_of_ble_eq_true rfl) [some (.ref b)] rfl ?_
  intro p e s m args below meth c X hin
  have ⟨h0, ⟨g1, h1, e1⟩, ⟨g2, h2, e2⟩, h3, h4, h5, h6, h7, h8⟩ := hC
  refine z_aload_n X d_T_freeSlot_0 rfl ?_
  refine z_iconst X d_T_freeSlot_1 (v := nI 0) (by decide +kernel) ?_
  refine z_callVi X (c_T_slotWithNumber hC hnc) h0 rfl (cwV 1 X.1.2.2.2.2 (gi_V lm_T_169 vi_T_slotWithNumber ve_T_slotWithNumber vn_T vc_T_slotWithNumber) rfl rfl rfl (by decide +kernel) ⟨Nat.le_of_ble_eq_true rfl, Nat.le_of_ble_eq_true rfl⟩) (As := [.int (nI 0)]) (st := []) rfl rfl (Nat.le_of_ble_eq_true rfl) d_T_freeSlot_2 ⟨Nat.le_of_ble_eq_true rfl, Nat.le_of_ble_eq_true rfl⟩ (fun z k2 hq => ?_)
  obtain ⟨rfl, rfl⟩ := hq
  exact z_iret X d_T_freeSlot_5 (by omega) (by omega) (⟨rfl, rfl⟩)
set_option maxHeartbeats 4000000 in
set_option maxRecDepth 100000 in
/-- T_onTheWay -/
theorem c_T_onTheWay {kk nc : Nat} {dv lm : Int32} {F : Cf} {op : Nat → Nat → Int32} {oc : Nat → Nat} {Sn Sk Sm : Nat → Sv} (hC : CW tI tN tM b N k kk dv nc lm F op oc Sn Sk Sm) (hnc : nc ≤ 12)  : Met l y_T_onTheWay (wy y_T_onTheWay b_T_onTheWay 3 (some .int)) (rm 0 0 0) (zPc D (tyl tI tZ tN tM) b N k [.ref b]) (zQi D b N (fun z k2 => z = nI (ct (fun p => !decide (F 4 p = 0)) 12) ∧ k2 = k)) 0 0 (zA b) := by
  refine z_met (own := R_T) (by decide) rfl rfl (Nat.le_of_ble_eq_true rfl) [some (.ref b), none, none] rfl ?_
  intro p e s m args below meth c X hin
  have ⟨h0, ⟨g1, h1, e1⟩, ⟨g2, h2, e2⟩, h3, h4, h5, h6, h7, h8⟩ := hC
  refine z_iconst X d_T_onTheWay_0 (v := nI 0) (by decide +kernel) ?_
  refine z_istore_n X d_T_onTheWay_1 (by decide) rfl ?_
  refine z_lv (lv2 := [some (.ref b), some (.int (nI 0)), none]) (fun _ _ q => q) ?_
  refine z_iconst X d_T_onTheWay_2 (v := nI 0) (by decide +kernel) ?_
  refine z_istore_n X d_T_onTheWay_3 (by decide) rfl ?_
  refine z_lv (lv2 := [some (.ref b), some (.int (nI 0)), some (.int (nI 0))]) (fun _ _ q => q) ?_
  refine z_loop (σ := Unit) (K := fun _ _ => k) (LV := fun v _ => [some (.ref b), some (.int (nI (ct (fun p => !decide (F 4 p = 0)) v))), some (.int (nI v))]) (I := fun _ _ => True) 12 0 () (by omega) (trivial) (rfl) (rfl) ?_ ?_
  · intro s1 _
    refine z_lv (lv2 := [some (.ref b), some (.int (nI (ct (fun p => !decide (F 4 p = 0)) 12))), some (.int (nI 12))]) (fun _ _ q => q) ?_
    refine z_iload_n X d_T_onTheWay_4 rfl ?_
    refine z_bipush X d_T_onTheWay_5 (v := nI 12) (by decide +kernel) ?_
    refine z_icmp_geN X d_T_onTheWay_7 (tgt := 31) (by decide) (by omega) (by omega) (fun _ => ?_) (fun h => absurd h (by omega))
    refine z_iload_n X d_T_onTheWay_31 rfl ?_
    exact z_iret X d_T_onTheWay_32 (by omega) (by omega) (⟨rfl, rfl⟩)
  · intro v s1 hv _ ih
    refine z_lv (lv2 := [some (.ref b), some (.int (nI (ct (fun p => !decide (F 4 p = 0)) v))), some (.int (nI v))]) (fun _ _ q => q) ?_
    refine z_iload_n X d_T_onTheWay_4 rfl ?_
    refine z_bipush X d_T_onTheWay_5 (v := nI 12) (by decide +kernel) ?_
    refine z_icmp_geN X d_T_onTheWay_7 (tgt := 31) (by decide) (by omega) (by omega) (fun h => absurd h (by omega)) (fun _ => ?_)
    refine z_aload_n X d_T_onTheWay_10 rfl ?_
    refine z_get X h0 rfl in_T 2 (by decide) (wq lf_T_21) rfl d_T_onTheWay_11 ?_
    refine z_iload_n X d_T_onTheWay_14 rfl ?_
    refine z_aald X h2 3 rfl (j := v) (v := b + 171 + 7 * v) rfl (by omega) (by omega) (e2 _ (by omega)) d_T_onTheWay_15 ?_
    refine z_get X (h7 v (by omega)) rfl in_M 0 (by decide) (wq lf_T_105) rfl d_T_onTheWay_16 ?_
    refine z_if_eq X d_T_onTheWay_19 (tgt := 25) (by decide) (fun hA => ?_) (fun hA => ?_)
    · skip
      refine z_iincU X d_T_onTheWay_25 rfl (by decide) rfl ?_
      refine z_lv (lv2 := [some (.ref b), some (.int (nI (ct (fun p => !decide (F 4 p = 0)) v))), some (.int (nI (v + 1)))]) (fun _ _ q => q) ?_
      refine z_goto X d_T_onTheWay_28 (tgt := 4) (by decide) ?_
      exact z_at (ih () trivial) rfl (by simp only [ct]; rw [if_neg (by simp [hA])]; rfl)
    · skip
      refine z_iincU X d_T_onTheWay_22 rfl (by decide) rfl ?_
      refine z_lv (lv2 := [some (.ref b), some (.int (nI (ct (fun p => !decide (F 4 p = 0)) v + 1))), some (.int (nI v))]) (fun _ _ q => q) ?_
      refine z_iincU X d_T_onTheWay_25 rfl (by decide) rfl ?_
      refine z_lv (lv2 := [some (.ref b), some (.int (nI (ct (fun p => !decide (F 4 p = 0)) v + 1))), some (.int (nI (v + 1)))]) (fun _ _ q => q) ?_
      refine z_goto X d_T_onTheWay_28 (tgt := 4) (by decide) ?_
      exact z_at (ih () trivial) rfl (by simp only [ct]; rw [if_pos (by simp [hA])])
set_option maxHeartbeats 4000000 in
set_option maxRecDepth 100000 in
/-- T_total -/
theorem c_T_total {kk nc : Nat} {dv lm : Int32} {F : Cf} {op : Nat → Nat → Int32} {oc : Nat → Nat} {Sn Sk Sm : Nat → Sv} {x : Int32} (hC : CW tI tN tM b N k kk dv nc lm F op oc Sn Sk Sm) (hnc : nc ≤ 12)  : Met l y_T_total (wy y_T_total b_T_total 2 (some .int)) (rm 1 0 0) (zPc D (tyl tI tZ tN tM) b N k [.ref b, .int x]) (zQi D b N (fun z k2 => z = (if isn nc x = true then (Sn x.toNatClampNeg).1 else -1) ∧ k2 = k)) 0 0 (zA b) := by
  refine z_met (own := R_T) (by decide) rfl rfl (Nat.le_of_ble_eq_true rfl) [some (.ref b), some (.int x)] rfl ?_
  intro p e s m args below meth c X hin
  have ⟨h0, ⟨g1, h1, e1⟩, ⟨g2, h2, e2⟩, h3, h4, h5, h6, h7, h8⟩ := hC
  refine z_aload_n X d_T_total_0 rfl ?_
  refine z_iload_n X d_T_total_1 rfl ?_
  refine z_callVi X (c_T_isNode hC hnc) h0 rfl (cwV 1 X.1.2.2.2.2 (gi_V lm_T_43 vi_T_isNode ve_T_isNode vn_T vc_T_isNode) rfl rfl rfl (by decide +kernel) ⟨Nat.le_of_ble_eq_true rfl, Nat.le_of_ble_eq_true rfl⟩) (As := [.int x]) (st := []) rfl rfl (Nat.le_of_ble_eq_true rfl) d_T_total_2 ⟨Nat.le_of_ble_eq_true rfl, Nat.le_of_ble_eq_true rfl⟩ (fun z k2 hq => ?_)
  obtain ⟨rfl, rfl⟩ := hq
  cases hx : isn nc x
  · skip
    refine z_if_eqN X d_T_total_5 (tgt := 23) (by decide) (by decide) (fun _ => ?_) (fun h => absurd h (by decide))
    refine z_iconst X d_T_total_23 (v := -1) (by decide +kernel) ?_
    exact z_iret X d_T_total_24 (by omega) (by omega) (⟨by rw [if_neg (by simp)], rfl⟩)
  · skip
    refine z_if_eqN X d_T_total_5 (tgt := 23) (by decide) (by decide) (fun h => absurd h (by decide)) (fun _ => ?_)
    obtain ⟨j, hj, rfl⟩ := isn_t (by omega) hx
    refine z_lv (lv2 := [some (.ref b), some (.int (nI j))]) (fun _ _ q => q) ?_
    rw [nI_clamp (by omega)]
    refine z_aload_n X d_T_total_8 rfl ?_
    refine z_get X h0 rfl in_T 0 (by decide) (wq lf_T_11) rfl d_T_total_9 ?_
    refine z_iload_n X d_T_total_12 rfl ?_
    refine z_aald X h1 2 rfl (j := j) (v := b + 3 + 14 * j) rfl (by omega) (by omega) (e1 _ (by omega)) d_T_total_13 ?_
    refine z_get X (h3 j (by omega)) rfl in_N 6 (by decide) (wq lf_T_86) rfl d_T_total_14 ?_
    refine z_get X (h5 j (by omega)).1 rfl in_S 0 (by decide) (wq lf_T_120) rfl d_T_total_17 ?_
    refine z_goto X d_T_total_20 (tgt := 24) (by decide) ?_
    exact z_iret X d_T_total_24 (by omega) (by omega) (⟨by rw [if_pos (by first | rfl | exact ⟨rfl, rfl⟩)], rfl⟩)
set_option maxHeartbeats 4000000 in
set_option maxRecDepth 100000 in
/-- T_sum -/
theorem c_T_sum {kk nc : Nat} {dv lm : Int32} {F : Cf} {op : Nat → Nat → Int32} {oc : Nat → Nat} {Sn Sk Sm : Nat → Sv} {x : Int32} (hC : CW tI tN tM b N k kk dv nc lm F op oc Sn Sk Sm) (hnc : nc ≤ 12)  : Met l y_T_sum (wy y_T_sum b_T_sum 2 (some .long)) (rm 1 0 0) (zPc D (tyl tI tZ tN tM) b N k [.ref b, .int x]) (zQl D b N (fun z k2 => z = (if isn nc x = true then (Sn x.toNatClampNeg).2.1 else -1) ∧ k2 = k)) 0 0 (zA b) := by
  refine z_met (own := R_T) (by decide) rfl rfl (Nat.le_of_ble_eq_true rfl) [some (.ref b), some (.int x)] rfl ?_
  intro p e s m args below meth c X hin
  have ⟨h0, ⟨g1, h1, e1⟩, ⟨g2, h2, e2⟩, h3, h4, h5, h6, h7, h8⟩ := hC
  refine z_aload_n X d_T_sum_0 rfl ?_
  refine z_iload_n X d_T_sum_1 rfl ?_
  refine z_callVi X (c_T_isNode hC hnc) h0 rfl (cwV 1 X.1.2.2.2.2 (gi_V lm_T_43 vi_T_isNode ve_T_isNode vn_T vc_T_isNode) rfl rfl rfl (by decide +kernel) ⟨Nat.le_of_ble_eq_true rfl, Nat.le_of_ble_eq_true rfl⟩) (As := [.int x]) (st := []) rfl rfl (Nat.le_of_ble_eq_true rfl) d_T_sum_2 ⟨Nat.le_of_ble_eq_true rfl, Nat.le_of_ble_eq_true rfl⟩ (fun z k2 hq => ?_)
  obtain ⟨rfl, rfl⟩ := hq
  cases hx : isn nc x
  · skip
    refine z_if_eqN X d_T_sum_5 (tgt := 23) (by decide) (by decide) (fun _ => ?_) (fun h => absurd h (by decide))
    refine z_ldc2 X d_T_sum_23 (wq lk_T_127) ?_
    exact z_lret X d_T_sum_26 (by omega) (by omega) (⟨by rw [if_neg (by simp)], rfl⟩)
  · skip
    refine z_if_eqN X d_T_sum_5 (tgt := 23) (by decide) (by decide) (fun h => absurd h (by decide)) (fun _ => ?_)
    obtain ⟨j, hj, rfl⟩ := isn_t (by omega) hx
    refine z_lv (lv2 := [some (.ref b), some (.int (nI j))]) (fun _ _ q => q) ?_
    rw [nI_clamp (by omega)]
    refine z_aload_n X d_T_sum_8 rfl ?_
    refine z_get X h0 rfl in_T 0 (by decide) (wq lf_T_11) rfl d_T_sum_9 ?_
    refine z_iload_n X d_T_sum_12 rfl ?_
    refine z_aald X h1 2 rfl (j := j) (v := b + 3 + 14 * j) rfl (by omega) (by omega) (e1 _ (by omega)) d_T_sum_13 ?_
    refine z_get X (h3 j (by omega)) rfl in_N 6 (by decide) (wq lf_T_86) rfl d_T_sum_14 ?_
    refine z_get X (h5 j (by omega)).1 rfl in_S 1 (by decide) (wq lf_T_123) rfl d_T_sum_17 ?_
    refine z_goto X d_T_sum_20 (tgt := 26) (by decide) ?_
    exact z_lret X d_T_sum_26 (by omega) (by omega) (⟨by rw [if_pos (by first | rfl | exact ⟨rfl, rfl⟩)], rfl⟩)
set_option maxHeartbeats 4000000 in
set_option maxRecDepth 100000 in
/-- T_extreme -/
theorem c_T_extreme {kk nc : Nat} {dv lm : Int32} {F : Cf} {op : Nat → Nat → Int32} {oc : Nat → Nat} {Sn Sk Sm : Nat → Sv} {x y : Int32} (hC : CW tI tN tM b N k kk dv nc lm F op oc Sn Sk Sm) (hnc : nc ≤ 12)  : Met l y_T_extreme (wy y_T_extreme b_T_extreme 3 (some .int)) (rm 1 0 0) (zPc D (tyl tI tZ tN tM) b N k [.ref b, .int x, .int y]) (zQi D b N (fun z k2 => z = (if isn nc x = true ∧ ¬ (Sn x.toNatClampNeg).1 = 0 then if y = 0 then (Sn x.toNatClampNeg).2.2.1 else (Sn x.toNatClampNeg).2.2.2.1 else -1) ∧ k2 = k)) 0 0 (zA b) := by
  refine z_met (own := R_T) (by decide) rfl rfl (Nat.le_of_ble_eq_true rfl) [some (.ref b), some (.int x), some (.int y)] rfl ?_
  intro p e s m args below meth c X hin
  have ⟨h0, ⟨g1, h1, e1⟩, ⟨g2, h2, e2⟩, h3, h4, h5, h6, h7, h8⟩ := hC
  refine z_aload_n X d_T_extreme_0 rfl ?_
  refine z_iload_n X d_T_extreme_1 rfl ?_
  refine z_callVi X (c_T_isNode hC hnc) h0 rfl (cwV 1 X.1.2.2.2.2 (gi_V lm_T_43 vi_T_isNode ve_T_isNode vn_T vc_T_isNode) rfl rfl rfl (by decide +kernel) ⟨Nat.le_of_ble_eq_true rfl, Nat.le_of_ble_eq_true rfl⟩) (As := [.int x]) (st := []) rfl rfl (Nat.le_of_ble_eq_true rfl) d_T_extreme_2 ⟨Nat.le_of_ble_eq_true rfl, Nat.le_of_ble_eq_true rfl⟩ (fun z k2 hq => ?_)
  obtain ⟨rfl, rfl⟩ := hq
  cases hx : isn nc x
  · skip
    refine z_if_eqN X d_T_extreme_5 (tgt := 23) (by decide) (by decide) (fun _ => ?_) (fun h => absurd h (by decide))
    refine z_iconst X d_T_extreme_23 (v := -1) (by decide +kernel) ?_
    exact z_iret X d_T_extreme_24 (by omega) (by omega) (⟨by rw [if_neg (by simp)], rfl⟩)
  · skip
    refine z_if_eqN X d_T_extreme_5 (tgt := 23) (by decide) (by decide) (fun h => absurd h (by decide)) (fun _ => ?_)
    obtain ⟨j, hj, rfl⟩ := isn_t (by omega) hx
    refine z_lv (lv2 := [some (.ref b), some (.int (nI j)), some (.int y)]) (fun _ _ q => q) ?_
    rw [nI_clamp (by omega)]
    refine z_aload_n X d_T_extreme_8 rfl ?_
    refine z_get X h0 rfl in_T 0 (by decide) (wq lf_T_11) rfl d_T_extreme_9 ?_
    refine z_iload_n X d_T_extreme_12 rfl ?_
    refine z_aald X h1 2 rfl (j := j) (v := b + 3 + 14 * j) rfl (by omega) (by omega) (e1 _ (by omega)) d_T_extreme_13 ?_
    refine z_get X (h3 j (by omega)) rfl in_N 6 (by decide) (wq lf_T_86) rfl d_T_extreme_14 ?_
    refine z_get X (h5 j (by omega)).1 rfl in_S 0 (by decide) (wq lf_T_120) rfl d_T_extreme_17 ?_
    refine z_if_ne X d_T_extreme_20 (tgt := 25) (by decide) (fun hB => ?_) (fun hB => ?_)
    · skip
      refine z_iload_n X d_T_extreme_25 rfl ?_
      refine z_if_eq X d_T_extreme_26 (tgt := 44) (by decide) (fun hC => ?_) (fun hC => ?_)
      · skip
        refine z_aload_n X d_T_extreme_44 rfl ?_
        refine z_get X h0 rfl in_T 0 (by decide) (wq lf_T_11) rfl d_T_extreme_45 ?_
        refine z_iload_n X d_T_extreme_48 rfl ?_
        refine z_aald X h1 2 rfl (j := j) (v := b + 3 + 14 * j) rfl (by omega) (by omega) (e1 _ (by omega)) d_T_extreme_49 ?_
        refine z_get X (h3 j (by omega)) rfl in_N 6 (by decide) (wq lf_T_86) rfl d_T_extreme_50 ?_
        refine z_get X (h5 j (by omega)).1 rfl in_S 2 (by decide) (wq lf_T_132) rfl d_T_extreme_53 ?_
        exact z_iret X d_T_extreme_56 (by omega) (by omega) (⟨by rw [if_pos ⟨rfl, hB⟩, if_pos hC], rfl⟩)
      · skip
        refine z_aload_n X d_T_extreme_29 rfl ?_
        refine z_get X h0 rfl in_T 0 (by decide) (wq lf_T_11) rfl d_T_extreme_30 ?_
        refine z_iload_n X d_T_extreme_33 rfl ?_
        refine z_aald X h1 2 rfl (j := j) (v := b + 3 + 14 * j) rfl (by omega) (by omega) (e1 _ (by omega)) d_T_extreme_34 ?_
        refine z_get X (h3 j (by omega)) rfl in_N 6 (by decide) (wq lf_T_86) rfl d_T_extreme_35 ?_
        refine z_get X (h5 j (by omega)).1 rfl in_S 3 (by decide) (wq lf_T_129) rfl d_T_extreme_38 ?_
        refine z_goto X d_T_extreme_41 (tgt := 56) (by decide) ?_
        exact z_iret X d_T_extreme_56 (by omega) (by omega) (⟨by rw [if_pos ⟨rfl, hB⟩, if_neg hC], rfl⟩)
    · skip
      refine z_iconst X d_T_extreme_23 (v := -1) (by decide +kernel) ?_
      exact z_iret X d_T_extreme_24 (by omega) (by omega) (⟨by rw [if_neg (fun q => q.2 hB)], rfl⟩)
set_option maxHeartbeats 4000000 in
set_option maxRecDepth 100000 in
/-- T_covered -/
theorem c_T_covered {kk nc : Nat} {dv lm : Int32} {F : Cf} {op : Nat → Nat → Int32} {oc : Nat → Nat} {Sn Sk Sm : Nat → Sv} {x y : Int32} (hC : CW tI tN tM b N k kk dv nc lm F op oc Sn Sk Sm) (hnc : nc ≤ 12)  : Met l y_T_covered (wy y_T_covered b_T_covered 3 (some .int)) (rm 2 0 0) (zPc D (tyl tI tZ tN tM) b N k [.ref b, .int x, .int y]) (zQi D b N (fun z k2 => z = (if isn nc x = true ∧ isl nc (F 1) y = true then (Sn x.toNatClampNeg).2.2.2.2.1 y.toNatClampNeg else -1) ∧ k2 = k)) 0 0 (zA b) := by
  refine z_met (own := R_T) (by decide) rfl rfl (Nat.le_of_ble_eq_true rfl) [some (.ref b), some (.int x), some (.int y)] rfl ?_
  intro p e s m args below meth c X hin
  have ⟨h0, ⟨g1, h1, e1⟩, ⟨g2, h2, e2⟩, h3, h4, h5, h6, h7, h8⟩ := hC
  refine z_aload_n X d_T_covered_0 rfl ?_
  refine z_iload_n X d_T_covered_1 rfl ?_
  refine z_callVi X (c_T_isNode hC hnc) h0 rfl (cwV 1 X.1.2.2.2.2 (gi_V lm_T_43 vi_T_isNode ve_T_isNode vn_T vc_T_isNode) rfl rfl rfl (by decide +kernel) ⟨Nat.le_of_ble_eq_true rfl, Nat.le_of_ble_eq_true rfl⟩) (As := [.int x]) (st := []) rfl rfl (Nat.le_of_ble_eq_true rfl) d_T_covered_2 ⟨Nat.le_of_ble_eq_true rfl, Nat.le_of_ble_eq_true rfl⟩ (fun z k2 hq => ?_)
  obtain ⟨rfl, rfl⟩ := hq
  cases hx : isn nc x
  · skip
    refine z_if_eqN X d_T_covered_5 (tgt := 33) (by decide) (by decide) (fun _ => ?_) (fun h => absurd h (by decide))
    refine z_iconst X d_T_covered_33 (v := -1) (by decide +kernel) ?_
    exact z_iret X d_T_covered_34 (by omega) (by omega) (⟨by rw [if_neg (by simp)], rfl⟩)
  · skip
    refine z_if_eqN X d_T_covered_5 (tgt := 33) (by decide) (by decide) (fun h => absurd h (by decide)) (fun _ => ?_)
    obtain ⟨j, hj, rfl⟩ := isn_t (by omega) hx
    refine z_lv (lv2 := [some (.ref b), some (.int (nI j)), some (.int y)]) (fun _ _ q => q) ?_
    rw [nI_clamp (by omega)]
    refine z_aload_n X d_T_covered_8 rfl ?_
    refine z_iload_n X d_T_covered_9 rfl ?_
    refine z_callVi X (c_T_isLeaf hC hnc) h0 rfl (cwV 1 X.1.2.2.2.2 (gi_V lm_T_54 vi_T_isLeaf ve_T_isLeaf vn_T vc_T_isLeaf) rfl rfl rfl (by decide +kernel) ⟨Nat.le_of_ble_eq_true rfl, Nat.le_of_ble_eq_true rfl⟩) (As := [.int y]) (st := []) rfl rfl (Nat.le_of_ble_eq_true rfl) d_T_covered_10 ⟨Nat.le_of_ble_eq_true rfl, Nat.le_of_ble_eq_true rfl⟩ (fun z k2 hq => ?_)
    obtain ⟨rfl, rfl⟩ := hq
    cases hy : isl nc (F 1) y
    · skip
      refine z_if_eqN X d_T_covered_13 (tgt := 33) (by decide) (by decide) (fun _ => ?_) (fun h => absurd h (by decide))
      refine z_iconst X d_T_covered_33 (v := -1) (by decide +kernel) ?_
      exact z_iret X d_T_covered_34 (by omega) (by omega) (⟨by rw [if_neg (by simp)], rfl⟩)
    · skip
      refine z_if_eqN X d_T_covered_13 (tgt := 33) (by decide) (by decide) (fun h => absurd h (by decide)) (fun _ => ?_)
      have hy2 : isn nc y = true := by cases hz : isn nc y with | true => rfl | false => rw [isl, hz] at hy; simp at hy
      obtain ⟨v, hv, rfl⟩ := isn_t (by omega) hy2
      refine z_lv (lv2 := [some (.ref b), some (.int (nI j)), some (.int (nI v))]) (fun _ _ q => q) ?_
      rw [nI_clamp (n := v) (by omega)]
      refine z_aload_n X d_T_covered_16 rfl ?_
      refine z_get X h0 rfl in_T 0 (by decide) (wq lf_T_11) rfl d_T_covered_17 ?_
      refine z_iload_n X d_T_covered_20 rfl ?_
      refine z_aald X h1 2 rfl (j := j) (v := b + 3 + 14 * j) rfl (by omega) (by omega) (e1 _ (by omega)) d_T_covered_21 ?_
      refine z_get X (h3 j (by omega)) rfl in_N 6 (by decide) (wq lf_T_86) rfl d_T_covered_22 ?_
      refine z_get X (h5 j (by omega)).1 rfl in_S 4 (by decide) (wq lf_T_135) rfl d_T_covered_25 ?_
      refine z_iload_n X d_T_covered_28 rfl ?_
      refine z_iald X (h5 j (by omega)).2.1 0 rfl (j := v) rfl (by omega) (by omega) d_T_covered_29 ?_
      refine z_goto X d_T_covered_30 (tgt := 34) (by decide) ?_
      exact z_iret X d_T_covered_34 (by omega) (by omega) (⟨by rw [if_pos ⟨rfl, rfl⟩], rfl⟩)
set_option maxHeartbeats 4000000 in
set_option maxRecDepth 100000 in
/-- T_estimate -/
theorem c_T_estimate {kk nc : Nat} {dv lm : Int32} {F : Cf} {op : Nat → Nat → Int32} {oc : Nat → Nat} {Sn Sk Sm : Nat → Sv} {x y : Int32} (hC : CW tI tN tM b N k kk dv nc lm F op oc Sn Sk Sm) (hnc : nc ≤ 12)  : Met l y_T_estimate (wy y_T_estimate b_T_estimate 3 (some .int)) (rm 1 0 0) (zPc D (tyl tI tZ tN tM) b N k [.ref b, .int x, .int y]) (zQi D b N (fun z k2 => z = (if isn nc x = true ∧ isn 32 y = true then (Sn x.toNatClampNeg).2.2.2.2.2.1 y.toNatClampNeg else -1) ∧ k2 = k)) 0 0 (zA b) := by
  refine z_met (own := R_T) (by decide) rfl rfl (Nat.le_of_ble_eq_true rfl) [some (.ref b), some (.int x), some (.int y)] rfl ?_
  intro p e s m args below meth c X hin
  have ⟨h0, ⟨g1, h1, e1⟩, ⟨g2, h2, e2⟩, h3, h4, h5, h6, h7, h8⟩ := hC
  refine z_aload_n X d_T_estimate_0 rfl ?_
  refine z_iload_n X d_T_estimate_1 rfl ?_
  refine z_callVi X (c_T_isNode hC hnc) h0 rfl (cwV 1 X.1.2.2.2.2 (gi_V lm_T_43 vi_T_isNode ve_T_isNode vn_T vc_T_isNode) rfl rfl rfl (by decide +kernel) ⟨Nat.le_of_ble_eq_true rfl, Nat.le_of_ble_eq_true rfl⟩) (As := [.int x]) (st := []) rfl rfl (Nat.le_of_ble_eq_true rfl) d_T_estimate_2 ⟨Nat.le_of_ble_eq_true rfl, Nat.le_of_ble_eq_true rfl⟩ (fun z k2 hq => ?_)
  obtain ⟨rfl, rfl⟩ := hq
  cases hx : isn nc x
  · skip
    refine z_if_eqN X d_T_estimate_5 (tgt := 35) (by decide) (by decide) (fun _ => ?_) (fun h => absurd h (by decide))
    refine z_iconst X d_T_estimate_35 (v := -1) (by decide +kernel) ?_
    exact z_iret X d_T_estimate_36 (by omega) (by omega) (⟨by rw [if_neg (by simp)], rfl⟩)
  · skip
    refine z_if_eqN X d_T_estimate_5 (tgt := 35) (by decide) (by decide) (fun h => absurd h (by decide)) (fun _ => ?_)
    obtain ⟨j, hj, rfl⟩ := isn_t (by omega) hx
    refine z_lv (lv2 := [some (.ref b), some (.int (nI j)), some (.int y)]) (fun _ _ q => q) ?_
    rw [nI_clamp (by omega)]
    refine z_iload_n X d_T_estimate_8 rfl ?_
    refine z_callSi X (a := 0) (c_T_isValue) (cwS 1 X.1.2.2.2.2 (gi_S lm_T_57 vs_T_isValue vn_T vc_T_isValue) rfl rfl rfl (by decide +kernel) ⟨Nat.le_of_ble_eq_true rfl, Nat.le_of_ble_eq_true rfl⟩) (As := [.int y]) (st := []) rfl rfl (Nat.le_of_ble_eq_true rfl) d_T_estimate_9 ⟨Nat.le_of_ble_eq_true rfl, Nat.le_of_ble_eq_true rfl⟩ (fun z k2 hq => ?_)
    obtain ⟨rfl, rfl⟩ := hq
    cases hy : isn 32 y
    · skip
      refine z_if_eqN X d_T_estimate_12 (tgt := 35) (by decide) (by decide) (fun _ => ?_) (fun h => absurd h (by decide))
      refine z_iconst X d_T_estimate_35 (v := -1) (by decide +kernel) ?_
      exact z_iret X d_T_estimate_36 (by omega) (by omega) (⟨by rw [if_neg (by simp)], rfl⟩)
    · skip
      refine z_if_eqN X d_T_estimate_12 (tgt := 35) (by decide) (by decide) (fun h => absurd h (by decide)) (fun _ => ?_)
      obtain ⟨v, hv, rfl⟩ := isn_t (by omega) hy
      refine z_lv (lv2 := [some (.ref b), some (.int (nI j)), some (.int (nI v))]) (fun _ _ q => q) ?_
      rw [nI_clamp (n := v) (by omega)]
      refine z_aload_n X d_T_estimate_15 rfl ?_
      refine z_get X h0 rfl in_T 0 (by decide) (wq lf_T_11) rfl d_T_estimate_16 ?_
      refine z_iload_n X d_T_estimate_19 rfl ?_
      refine z_aald X h1 2 rfl (j := j) (v := b + 3 + 14 * j) rfl (by omega) (by omega) (e1 _ (by omega)) d_T_estimate_20 ?_
      refine z_get X (h3 j (by omega)) rfl in_N 6 (by decide) (wq lf_T_86) rfl d_T_estimate_21 ?_
      refine z_get X (h5 j (by omega)).1 rfl in_S 5 (by decide) (wq lf_T_139) rfl d_T_estimate_24 ?_
      refine z_get X (h5 j (by omega)).2.2.1 rfl in_C 1 (by decide) (wq lf_T_143) rfl d_T_estimate_27 ?_
      refine z_iload_n X d_T_estimate_30 rfl ?_
      refine z_iald X (h5 j (by omega)).2.2.2.1 0 rfl (j := v) rfl (by omega) (by omega) d_T_estimate_31 ?_
      refine z_goto X d_T_estimate_32 (tgt := 36) (by decide) ?_
      exact z_iret X d_T_estimate_36 (by omega) (by omega) (⟨by rw [if_pos ⟨rfl, rfl⟩], rfl⟩)
set_option maxHeartbeats 4000000 in
set_option maxRecDepth 100000 in
/-- T_top -/
theorem c_T_top {kk nc : Nat} {dv lm : Int32} {F : Cf} {op : Nat → Nat → Int32} {oc : Nat → Nat} {Sn Sk Sm : Nat → Sv} {x y : Int32} (hC : CW tI tN tM b N k kk dv nc lm F op oc Sn Sk Sm) (hnc : nc ≤ 12)  : Met l y_T_top (wy y_T_top b_T_top 3 (some .int)) (rm 2 0 0) (zPc D (tyl tI tZ tN tM) b N k [.ref b, .int x, .int y]) (zQi D b N (fun z k2 => z = (if isn nc x = true then vr (Sn x.toNatClampNeg).2.2.2.2.2.1 y 32 else -1) ∧ k2 = k)) 0 0 (zA b) := by
  refine z_met (own := R_T) (by decide) rfl rfl (Nat.le_of_ble_eq_true rfl) [some (.ref b), some (.int x), some (.int y)] rfl ?_
  intro p e s m args below meth c X hin
  have ⟨h0, ⟨g1, h1, e1⟩, ⟨g2, h2, e2⟩, h3, h4, h5, h6, h7, h8⟩ := hC
  refine z_aload_n X d_T_top_0 rfl ?_
  refine z_iload_n X d_T_top_1 rfl ?_
  refine z_callVi X (c_T_isNode hC hnc) h0 rfl (cwV 1 X.1.2.2.2.2 (gi_V lm_T_43 vi_T_isNode ve_T_isNode vn_T vc_T_isNode) rfl rfl rfl (by decide +kernel) ⟨Nat.le_of_ble_eq_true rfl, Nat.le_of_ble_eq_true rfl⟩) (As := [.int x]) (st := []) rfl rfl (Nat.le_of_ble_eq_true rfl) d_T_top_2 ⟨Nat.le_of_ble_eq_true rfl, Nat.le_of_ble_eq_true rfl⟩ (fun z k2 hq => ?_)
  obtain ⟨rfl, rfl⟩ := hq
  cases hx : isn nc x
  · skip
    refine z_if_eqN X d_T_top_5 (tgt := 27) (by decide) (by decide) (fun _ => ?_) (fun h => absurd h (by decide))
    refine z_iconst X d_T_top_27 (v := -1) (by decide +kernel) ?_
    exact z_iret X d_T_top_28 (by omega) (by omega) (⟨by rw [if_neg (by simp)], rfl⟩)
  · skip
    refine z_if_eqN X d_T_top_5 (tgt := 27) (by decide) (by decide) (fun h => absurd h (by decide)) (fun _ => ?_)
    obtain ⟨j, hj, rfl⟩ := isn_t (by omega) hx
    refine z_lv (lv2 := [some (.ref b), some (.int (nI j)), some (.int y)]) (fun _ _ q => q) ?_
    rw [nI_clamp (by omega)]
    refine z_aload_n X d_T_top_8 rfl ?_
    refine z_get X h0 rfl in_T 0 (by decide) (wq lf_T_11) rfl d_T_top_9 ?_
    refine z_iload_n X d_T_top_12 rfl ?_
    refine z_aald X h1 2 rfl (j := j) (v := b + 3 + 14 * j) rfl (by omega) (by omega) (e1 _ (by omega)) d_T_top_13 ?_
    refine z_get X (h3 j (by omega)) rfl in_N 6 (by decide) (wq lf_T_86) rfl d_T_top_14 ?_
    refine z_get X (h5 j (by omega)).1 rfl in_S 5 (by decide) (wq lf_T_139) rfl d_T_top_17 ?_
    refine z_iload_n X d_T_top_20 rfl ?_
    refine z_callVi X (c_C_valueAtRank (h5 j (by omega)).2.2.1 (h5 j (by omega)).2.2.2.1) (h5 j (by omega)).2.2.1 rfl (cwV 1 X.1.2.2.2.2 (gi_V lm_T_148 vi_C_valueAtRank ve_C_valueAtRank vn_C vc_C_valueAtRank) rfl rfl rfl (by decide +kernel) ⟨Nat.le_of_ble_eq_true rfl, Nat.le_of_ble_eq_true rfl⟩) (As := [.int y]) (st := []) rfl rfl (Nat.le_of_ble_eq_true rfl) d_T_top_21 ⟨Nat.le_of_ble_eq_true rfl, Nat.le_of_ble_eq_true rfl⟩ (fun z k2 hq => ?_)
    obtain ⟨rfl, rfl⟩ := hq
    refine z_goto X d_T_top_24 (tgt := 28) (by decide) ?_
    exact z_iret X d_T_top_28 (by omega) (by omega) (⟨by rw [if_pos rfl], rfl⟩)
set_option maxHeartbeats 4000000 in
set_option maxRecDepth 100000 in
/-- T_digestSize -/
theorem c_T_digestSize {kk nc : Nat} {dv lm : Int32} {F : Cf} {op : Nat → Nat → Int32} {oc : Nat → Nat} {Sn Sk Sm : Nat → Sv} {x : Int32} (hC : CW tI tN tM b N k kk dv nc lm F op oc Sn Sk Sm) (hnc : nc ≤ 12)  : Met l y_T_digestSize (wy y_T_digestSize b_T_digestSize 2 (some .int)) (rm 1 0 0) (zPc D (tyl tI tZ tN tM) b N k [.ref b, .int x]) (zQi D b N (fun z k2 => z = (if isn nc x = true then nI (ct (fun q => decide (0 < (Sn x.toNatClampNeg).2.2.2.2.2.2 (q + 1))) 63) else -1) ∧ k2 = k)) 0 0 (zA b) := by
  refine z_met (own := R_T) (by decide) rfl rfl (Nat.le_of_ble_eq_true rfl) [some (.ref b), some (.int x)] rfl ?_
  intro p e s m args below meth c X hin
  have ⟨h0, ⟨g1, h1, e1⟩, ⟨g2, h2, e2⟩, h3, h4, h5, h6, h7, h8⟩ := hC
  refine z_aload_n X d_T_digestSize_0 rfl ?_
  refine z_iload_n X d_T_digestSize_1 rfl ?_
  refine z_callVi X (c_T_isNode hC hnc) h0 rfl (cwV 1 X.1.2.2.2.2 (gi_V lm_T_43 vi_T_isNode ve_T_isNode vn_T vc_T_isNode) rfl rfl rfl (by decide +kernel) ⟨Nat.le_of_ble_eq_true rfl, Nat.le_of_ble_eq_true rfl⟩) (As := [.int x]) (st := []) rfl rfl (Nat.le_of_ble_eq_true rfl) d_T_digestSize_2 ⟨Nat.le_of_ble_eq_true rfl, Nat.le_of_ble_eq_true rfl⟩ (fun z k2 hq => ?_)
  obtain ⟨rfl, rfl⟩ := hq
  cases hx : isn nc x
  · skip
    refine z_if_eqN X d_T_digestSize_5 (tgt := 26) (by decide) (by decide) (fun _ => ?_) (fun h => absurd h (by decide))
    refine z_iconst X d_T_digestSize_26 (v := -1) (by decide +kernel) ?_
    exact z_iret X d_T_digestSize_27 (by omega) (by omega) (⟨by rw [if_neg (by simp)], rfl⟩)
  · skip
    refine z_if_eqN X d_T_digestSize_5 (tgt := 26) (by decide) (by decide) (fun h => absurd h (by decide)) (fun _ => ?_)
    obtain ⟨j, hj, rfl⟩ := isn_t (by omega) hx
    refine z_lv (lv2 := [some (.ref b), some (.int (nI j))]) (fun _ _ q => q) ?_
    rw [nI_clamp (by omega)]
    refine z_aload_n X d_T_digestSize_8 rfl ?_
    refine z_get X h0 rfl in_T 0 (by decide) (wq lf_T_11) rfl d_T_digestSize_9 ?_
    refine z_iload_n X d_T_digestSize_12 rfl ?_
    refine z_aald X h1 2 rfl (j := j) (v := b + 3 + 14 * j) rfl (by omega) (by omega) (e1 _ (by omega)) d_T_digestSize_13 ?_
    refine z_get X (h3 j (by omega)) rfl in_N 6 (by decide) (wq lf_T_86) rfl d_T_digestSize_14 ?_
    refine z_get X (h5 j (by omega)).1 rfl in_S 6 (by decide) (wq lf_T_151) rfl d_T_digestSize_17 ?_
    refine z_callVi X (c_D_rangesInUse (h5 j (by omega)).2.2.2.2.1 (h5 j (by omega)).2.2.2.2.2) (h5 j (by omega)).2.2.2.2.1 rfl (cwV 0 X.1.2.2.2.2 (gi_V lm_T_155 vi_D_rangesInUse ve_D_rangesInUse vn_D vc_D_rangesInUse) rfl rfl rfl (by decide +kernel) ⟨Nat.le_of_ble_eq_true rfl, Nat.le_of_ble_eq_true rfl⟩) (As := []) (st := []) rfl rfl (Nat.le_of_ble_eq_true rfl) d_T_digestSize_20 ⟨Nat.le_of_ble_eq_true rfl, Nat.le_of_ble_eq_true rfl⟩ (fun z k2 hq => ?_)
    obtain ⟨rfl, rfl⟩ := hq
    refine z_goto X d_T_digestSize_23 (tgt := 27) (by decide) ?_
    exact z_iret X d_T_digestSize_27 (by omega) (by omega) (⟨by rw [if_pos rfl], rfl⟩)
set_option maxHeartbeats 4000000 in
set_option maxRecDepth 100000 in
/-- T_below -/
theorem c_T_below {kk nc : Nat} {dv lm : Int32} {F : Cf} {op : Nat → Nat → Int32} {oc : Nat → Nat} {Sn Sk Sm : Nat → Sv} {x y w : Int32} (hC : CW tI tN tM b N k kk dv nc lm F op oc Sn Sk Sm) (hnc : nc ≤ 12)  : Met l y_T_below (wy y_T_below b_T_below 5 (some .int)) (rm 2 0 0) (zPc D (tyl tI tZ tN tM) b N k [.ref b, .int x, .int y, .int w]) (zQi D b N (fun z k2 => z = (if isn nc x = true ∧ isn 33 y = true then if w = 0 then eb (Sn x.toNatClampNeg).2.2.2.2.2.2 y.toNatClampNeg else sb (Sn x.toNatClampNeg).2.2.2.2.2.2 y.toNatClampNeg else -1) ∧ k2 = k)) 0 0 (zA b) := by
  refine z_met (own := R_T) (by decide) rfl rfl (Nat.le_of_ble_eq_true rfl) [some (.ref b), some (.int x), some (.int y), some (.int w), none] rfl ?_
  intro p e s m args below meth c X hin
  have ⟨h0, ⟨g1, h1, e1⟩, ⟨g2, h2, e2⟩, h3, h4, h5, h6, h7, h8⟩ := hC
  refine z_aload_n X d_T_below_0 rfl ?_
  refine z_iload_n X d_T_below_1 rfl ?_
  refine z_callVi X (c_T_isNode hC hnc) h0 rfl (cwV 1 X.1.2.2.2.2 (gi_V lm_T_43 vi_T_isNode ve_T_isNode vn_T vc_T_isNode) rfl rfl rfl (by decide +kernel) ⟨Nat.le_of_ble_eq_true rfl, Nat.le_of_ble_eq_true rfl⟩) (As := [.int x]) (st := []) rfl rfl (Nat.le_of_ble_eq_true rfl) d_T_below_2 ⟨Nat.le_of_ble_eq_true rfl, Nat.le_of_ble_eq_true rfl⟩ (fun z k2 hq => ?_)
  obtain ⟨rfl, rfl⟩ := hq
  cases hx : isn nc x
  · skip
    refine z_if_eqN X d_T_below_5 (tgt := 18) (by decide) (by decide) (fun _ => ?_) (fun h => absurd h (by decide))
    refine z_iconst X d_T_below_18 (v := -1) (by decide +kernel) ?_
    exact z_iret X d_T_below_19 (by omega) (by omega) (⟨by rw [if_neg (by simp)], rfl⟩)
  · skip
    refine z_if_eqN X d_T_below_5 (tgt := 18) (by decide) (by decide) (fun h => absurd h (by decide)) (fun _ => ?_)
    obtain ⟨j, hj, rfl⟩ := isn_t (by omega) hx
    refine z_lv (lv2 := [some (.ref b), some (.int (nI j)), some (.int y), some (.int w), none]) (fun _ _ q => q) ?_
    rw [nI_clamp (by omega)]
    refine z_iload_n X d_T_below_8 rfl ?_
    refine z_if_lt X d_T_below_9 (tgt := 18) (by decide) (fun hA => ?_) (fun hA => ?_)
    · skip
      refine z_iconst X d_T_below_18 (v := -1) (by decide +kernel) ?_
      exact z_iret X d_T_below_19 (by omega) (by omega) (⟨by rw [if_neg (fun q => by have := q.2; rw [isn_neg hA] at this; cases this)], rfl⟩)
    · skip
      refine z_iload_n X d_T_below_12 rfl ?_
      refine z_bipush X d_T_below_13 (v := nI 32) (by decide +kernel) ?_
      rcases pk_ix y (n := 33) (by omega) with q | q | ⟨v, hv, rfl⟩
      · exact absurd q hA
      · skip
        refine z_icmp_le X d_T_below_15 (tgt := 20) (by decide) (fun h => absurd h (le_big (by omega) q)) (fun _ => ?_)
        refine z_iconst X d_T_below_18 (v := -1) (by decide +kernel) ?_
        exact z_iret X d_T_below_19 (by omega) (by omega) (⟨by rw [if_neg (fun z => by have := z.2; rw [isn_big q] at this; cases this)], rfl⟩)
      · skip
        refine z_icmp_leN X d_T_below_15 (tgt := 20) (by decide) (by omega) (by omega) (fun _ => ?_) (fun h => absurd h (by omega))
        refine z_lv (lv2 := [some (.ref b), some (.int (nI j)), some (.int (nI v)), some (.int w), none]) (fun _ _ q => q) ?_
        try rw [nI_clamp (n := v) (by omega)]
        rw [if_pos ⟨rfl, isn_n (nc := 33) (by omega) hv⟩]
        refine z_aload_n X d_T_below_20 rfl ?_
        refine z_get X h0 rfl in_T 0 (by decide) (wq lf_T_11) rfl d_T_below_21 ?_
        refine z_iload_n X d_T_below_24 rfl ?_
        refine z_aald X h1 2 rfl (j := j) (v := b + 3 + 14 * j) rfl (by omega) (by omega) (e1 _ (by omega)) d_T_below_25 ?_
        refine z_get X (h3 j (by omega)) rfl in_N 6 (by decide) (wq lf_T_86) rfl d_T_below_26 ?_
        refine z_get X (h5 j (by omega)).1 rfl in_S 6 (by decide) (wq lf_T_151) rfl d_T_below_29 ?_
        refine z_astore X d_T_below_32 (by decide) rfl ?_
        refine z_lv (lv2 := [some (.ref b), some (.int (nI j)), some (.int (nI v)), some (.int w), some (.ref (b + 3 + 14 * j + 2 + 4))]) (fun _ _ q => q) ?_
        refine z_iload_n X d_T_below_34 rfl ?_
        refine z_if_eq X d_T_below_35 (tgt := 47) (by decide) (fun hW => ?_) (fun hW => ?_)
        · skip
          refine z_aload X d_T_below_47 rfl ?_
          refine z_iload_n X d_T_below_49 rfl ?_
          refine z_callVi X (c_D_endingBefore (h5 j (by omega)).2.2.2.2.1 (h5 j (by omega)).2.2.2.2.2 (y := v) (by omega)) (h5 j (by omega)).2.2.2.2.1 rfl (cwV 1 X.1.2.2.2.2 (gi_V lm_T_163 vi_D_endingBefore ve_D_endingBefore vn_D vc_D_endingBefore) rfl rfl rfl (by decide +kernel) ⟨Nat.le_of_ble_eq_true rfl, Nat.le_of_ble_eq_true rfl⟩) (As := [.int (nI v)]) (st := []) rfl rfl (Nat.le_of_ble_eq_true rfl) d_T_below_50 ⟨Nat.le_of_ble_eq_true rfl, Nat.le_of_ble_eq_true rfl⟩ (fun z k2 hq => ?_)
          obtain ⟨rfl, rfl⟩ := hq
          exact z_iret X d_T_below_53 (by omega) (by omega) (⟨by rw [if_pos hW], rfl⟩)
        · skip
          refine z_aload X d_T_below_38 rfl ?_
          refine z_iload_n X d_T_below_40 rfl ?_
          refine z_callVi X (c_D_startingBefore (h5 j (by omega)).2.2.2.2.1 (h5 j (by omega)).2.2.2.2.2 (y := v) (by omega)) (h5 j (by omega)).2.2.2.2.1 rfl (cwV 1 X.1.2.2.2.2 (gi_V lm_T_160 vi_D_startingBefore ve_D_startingBefore vn_D vc_D_startingBefore) rfl rfl rfl (by decide +kernel) ⟨Nat.le_of_ble_eq_true rfl, Nat.le_of_ble_eq_true rfl⟩) (As := [.int (nI v)]) (st := []) rfl rfl (Nat.le_of_ble_eq_true rfl) d_T_below_41 ⟨Nat.le_of_ble_eq_true rfl, Nat.le_of_ble_eq_true rfl⟩ (fun z k2 hq => ?_)
          obtain ⟨rfl, rfl⟩ := hq
          refine z_goto X d_T_below_44 (tgt := 53) (by decide) ?_
          exact z_iret X d_T_below_53 (by omega) (by omega) (⟨by rw [if_neg hW], rfl⟩)
set_option maxHeartbeats 4000000 in
set_option maxRecDepth 100000 in
/-- T_quantile -/
theorem c_T_quantile {kk nc : Nat} {dv lm : Int32} {F : Cf} {op : Nat → Nat → Int32} {oc : Nat → Nat} {Sn Sk Sm : Nat → Sv} {x y : Int32} (hC : CW tI tN tM b N k kk dv nc lm F op oc Sn Sk Sm) (hnc : nc ≤ 12)  : Met l y_T_quantile (wy y_T_quantile b_T_quantile 4 (some .int)) (rm 2 0 0) (zPc D (tyl tI tZ tN tM) b N k [.ref b, .int x, .int y]) (zQi D b N (fun z k2 => z = (if isn nc x = true ∧ isn 1001 y = true then vq (Sn x.toNatClampNeg).2.2.2.2.2.2 (y * (Sn x.toNatClampNeg).1) 32 else -1) ∧ k2 = k)) 0 0 (zA b) := by
  refine z_met (own := R_T) (by decide) rfl rfl (Nat.le_of_ble_eq_true rfl) [some (.ref b), some (.int x), some (.int y), none] rfl ?_
  intro p e s m args below meth c X hin
  have ⟨h0, ⟨g1, h1, e1⟩, ⟨g2, h2, e2⟩, h3, h4, h5, h6, h7, h8⟩ := hC
  refine z_aload_n X d_T_quantile_0 rfl ?_
  refine z_iload_n X d_T_quantile_1 rfl ?_
  refine z_callVi X (c_T_isNode hC hnc) h0 rfl (cwV 1 X.1.2.2.2.2 (gi_V lm_T_43 vi_T_isNode ve_T_isNode vn_T vc_T_isNode) rfl rfl rfl (by decide +kernel) ⟨Nat.le_of_ble_eq_true rfl, Nat.le_of_ble_eq_true rfl⟩) (As := [.int x]) (st := []) rfl rfl (Nat.le_of_ble_eq_true rfl) d_T_quantile_2 ⟨Nat.le_of_ble_eq_true rfl, Nat.le_of_ble_eq_true rfl⟩ (fun z k2 hq => ?_)
  obtain ⟨rfl, rfl⟩ := hq
  cases hx : isn nc x
  · skip
    refine z_if_eqN X d_T_quantile_5 (tgt := 19) (by decide) (by decide) (fun _ => ?_) (fun h => absurd h (by decide))
    refine z_iconst X d_T_quantile_19 (v := -1) (by decide +kernel) ?_
    exact z_iret X d_T_quantile_20 (by omega) (by omega) (⟨by rw [if_neg (by simp)], rfl⟩)
  · skip
    refine z_if_eqN X d_T_quantile_5 (tgt := 19) (by decide) (by decide) (fun h => absurd h (by decide)) (fun _ => ?_)
    obtain ⟨j, hj, rfl⟩ := isn_t (by omega) hx
    refine z_lv (lv2 := [some (.ref b), some (.int (nI j)), some (.int y), none]) (fun _ _ q => q) ?_
    rw [nI_clamp (by omega)]
    refine z_iload_n X d_T_quantile_8 rfl ?_
    refine z_if_lt X d_T_quantile_9 (tgt := 19) (by decide) (fun hA => ?_) (fun hA => ?_)
    · skip
      refine z_iconst X d_T_quantile_19 (v := -1) (by decide +kernel) ?_
      exact z_iret X d_T_quantile_20 (by omega) (by omega) (⟨by rw [if_neg (fun q => by have := q.2; rw [isn_neg hA] at this; cases this)], rfl⟩)
    · skip
      refine z_iload_n X d_T_quantile_12 rfl ?_
      refine z_sipush X d_T_quantile_13 (v := nI 1000) (by decide +kernel) ?_
      rcases pk_ix y (n := 1001) (by omega) with q | q | ⟨v, hv, rfl⟩
      · exact absurd q hA
      · skip
        refine z_icmp_le X d_T_quantile_16 (tgt := 21) (by decide) (fun h => absurd h (le_big (by omega) q)) (fun _ => ?_)
        refine z_iconst X d_T_quantile_19 (v := -1) (by decide +kernel) ?_
        exact z_iret X d_T_quantile_20 (by omega) (by omega) (⟨by rw [if_neg (fun z => by have := z.2; rw [isn_big q] at this; cases this)], rfl⟩)
      · skip
        refine z_icmp_leN X d_T_quantile_16 (tgt := 21) (by decide) (by omega) (by omega) (fun _ => ?_) (fun h => absurd h (by omega))
        refine z_lv (lv2 := [some (.ref b), some (.int (nI j)), some (.int (nI v)), none]) (fun _ _ q => q) ?_
        try rw [nI_clamp (n := v) (by omega)]
        rw [if_pos ⟨rfl, isn_n (nc := 1001) (by omega) hv⟩]
        refine z_aload_n X d_T_quantile_21 rfl ?_
        refine z_get X h0 rfl in_T 0 (by decide) (wq lf_T_11) rfl d_T_quantile_22 ?_
        refine z_iload_n X d_T_quantile_25 rfl ?_
        refine z_aald X h1 2 rfl (j := j) (v := b + 3 + 14 * j) rfl (by omega) (by omega) (e1 _ (by omega)) d_T_quantile_26 ?_
        refine z_get X (h3 j (by omega)) rfl in_N 6 (by decide) (wq lf_T_86) rfl d_T_quantile_27 ?_
        refine z_astore_n X d_T_quantile_30 (by decide) rfl ?_
        refine z_lv (lv2 := [some (.ref b), some (.int (nI j)), some (.int (nI v)), some (.ref (b + 3 + 14 * j + 2))]) (fun _ _ q => q) ?_
        refine z_aload_n X d_T_quantile_31 rfl ?_
        refine z_get X (h5 j (by omega)).1 rfl in_S 6 (by decide) (wq lf_T_151) rfl d_T_quantile_32 ?_
        refine z_iload_n X d_T_quantile_35 rfl ?_
        refine z_aload_n X d_T_quantile_36 rfl ?_
        refine z_get X (h5 j (by omega)).1 rfl in_S 0 (by decide) (wq lf_T_120) rfl d_T_quantile_37 ?_
        refine z_imul X d_T_quantile_40 ?_
        refine z_callVi X (c_D_valueReaching (h5 j (by omega)).2.2.2.2.1 (h5 j (by omega)).2.2.2.2.2) (h5 j (by omega)).2.2.2.2.1 rfl (cwV 1 X.1.2.2.2.2 (gi_V lm_T_166 vi_D_valueReaching ve_D_valueReaching vn_D vc_D_valueReaching) rfl rfl rfl (by decide +kernel) ⟨Nat.le_of_ble_eq_true rfl, Nat.le_of_ble_eq_true rfl⟩) (As := [.int ((nI v) * ((Sn j).1))]) (st := []) rfl rfl (Nat.le_of_ble_eq_true rfl) d_T_quantile_41 ⟨Nat.le_of_ble_eq_true rfl, Nat.le_of_ble_eq_true rfl⟩ (fun z k2 hq => ?_)
        obtain ⟨rfl, rfl⟩ := hq
        exact z_iret X d_T_quantile_44 (by omega) (by omega) (⟨rfl, rfl⟩)
end
end
section
/-! Contracts: the tree's changes -/
section
variable {tI tN tM : ClassId} {b N : Nat} {k k2 : Nat → va_E} {kk : Nat} {dv : Int32} {nc : Nat} {lm : Int32} {F : Cf} {op : Nat → Nat → Int32} {oc : Nat → Nat} {Sn Sk Sm : Nat → Sv}
theorem CW.put0 (h : CW tI tN tM b N k kk dv nc lm F op oc Sn Sk Sm) {j : Nat} {x : Int32} (hj : j < 12) (hk : k2 = va_up k (b + 3 + 14 * j) (oN j x (F 1 j) (oc j) (F 2 j) (F 3 j) (b + 3 + 14 * j))) : CW tI tN tM b N k2 kk dv nc lm (fU F 0 j x) op oc Sn Sk Sm := by
  have ⟨h0, ⟨g1, h1, e1⟩, ⟨g2, h2, e2⟩, h3, h4, h5, h6, h7, h8⟩ := h
  have hq : ∀ q, q ≠ (b + 3 + 14 * j) → k2 q = k q := fun q hq => by rw [hk]; exact up_ne hq
  refine h.node (j := j) hj ?_ ((h4 j hj).to (hq _ (by omega))) ((h5 j hj).to (fun q q1 q2 => hq _ (by omega))) ((h6 j hj).to (fun q q1 q2 => hq _ (by omega))) (fun q z => hq q (by omega)) (fun d i z => ?_) (fun _ _ => rfl) (fun _ _ => rfl) (fun _ _ => rfl) (fun _ _ => rfl)
  · rw [fU_eq, fU_c (d := 1) (by omega), fU_c (d := 2) (by omega), fU_c (d := 3) (by omega), hk]
    exact (h3 j hj).up
  · rcases z with z | z
    · exact fU_n z
    · exact fU_c (by omega)
theorem CW.put1 (h : CW tI tN tM b N k kk dv nc lm F op oc Sn Sk Sm) {j : Nat} {x : Int32} (hj : j < 12) (hk : k2 = va_up k (b + 3 + 14 * j) (oN j (F 0 j) x (oc j) (F 2 j) (F 3 j) (b + 3 + 14 * j))) : CW tI tN tM b N k2 kk dv nc lm (fU F 1 j x) op oc Sn Sk Sm := by
  have ⟨h0, ⟨g1, h1, e1⟩, ⟨g2, h2, e2⟩, h3, h4, h5, h6, h7, h8⟩ := h
  have hq : ∀ q, q ≠ (b + 3 + 14 * j) → k2 q = k q := fun q hq => by rw [hk]; exact up_ne hq
  refine h.node (j := j) hj ?_ ((h4 j hj).to (hq _ (by omega))) ((h5 j hj).to (fun q q1 q2 => hq _ (by omega))) ((h6 j hj).to (fun q q1 q2 => hq _ (by omega))) (fun q z => hq q (by omega)) (fun d i z => ?_) (fun _ _ => rfl) (fun _ _ => rfl) (fun _ _ => rfl) (fun _ _ => rfl)
  · rw [fU_c (d := 0) (by omega), fU_eq, fU_c (d := 2) (by omega), fU_c (d := 3) (by omega), hk]
    exact (h3 j hj).up
  · rcases z with z | z
    · exact fU_n z
    · exact fU_c (by omega)
theorem CW.put2 (h : CW tI tN tM b N k kk dv nc lm F op oc Sn Sk Sm) {j : Nat} {x : Int32} (hj : j < 12) (hk : k2 = va_up k (b + 3 + 14 * j) (oN j (F 0 j) (F 1 j) (oc j) x (F 3 j) (b + 3 + 14 * j))) : CW tI tN tM b N k2 kk dv nc lm (fU F 2 j x) op oc Sn Sk Sm := by
  have ⟨h0, ⟨g1, h1, e1⟩, ⟨g2, h2, e2⟩, h3, h4, h5, h6, h7, h8⟩ := h
  have hq : ∀ q, q ≠ (b + 3 + 14 * j) → k2 q = k q := fun q hq => by rw [hk]; exact up_ne hq
  refine h.node (j := j) hj ?_ ((h4 j hj).to (hq _ (by omega))) ((h5 j hj).to (fun q q1 q2 => hq _ (by omega))) ((h6 j hj).to (fun q q1 q2 => hq _ (by omega))) (fun q z => hq q (by omega)) (fun d i z => ?_) (fun _ _ => rfl) (fun _ _ => rfl) (fun _ _ => rfl) (fun _ _ => rfl)
  · rw [fU_c (d := 0) (by omega), fU_c (d := 1) (by omega), fU_eq, fU_c (d := 3) (by omega), hk]
    exact (h3 j hj).up
  · rcases z with z | z
    · exact fU_n z
    · exact fU_c (by omega)
theorem CW.put3 (h : CW tI tN tM b N k kk dv nc lm F op oc Sn Sk Sm) {j : Nat} {x : Int32} (hj : j < 12) (hk : k2 = va_up k (b + 3 + 14 * j) (oN j (F 0 j) (F 1 j) (oc j) (F 2 j) x (b + 3 + 14 * j))) : CW tI tN tM b N k2 kk dv nc lm (fU F 3 j x) op oc Sn Sk Sm := by
  have ⟨h0, ⟨g1, h1, e1⟩, ⟨g2, h2, e2⟩, h3, h4, h5, h6, h7, h8⟩ := h
  have hq : ∀ q, q ≠ (b + 3 + 14 * j) → k2 q = k q := fun q hq => by rw [hk]; exact up_ne hq
  refine h.node (j := j) hj ?_ ((h4 j hj).to (hq _ (by omega))) ((h5 j hj).to (fun q q1 q2 => hq _ (by omega))) ((h6 j hj).to (fun q q1 q2 => hq _ (by omega))) (fun q z => hq q (by omega)) (fun d i z => ?_) (fun _ _ => rfl) (fun _ _ => rfl) (fun _ _ => rfl) (fun _ _ => rfl)
  · rw [fU_c (d := 0) (by omega), fU_c (d := 1) (by omega), fU_c (d := 2) (by omega), fU_eq, hk]
    exact (h3 j hj).up
  · rcases z with z | z
    · exact fU_n z
    · exact fU_c (by omega)
theorem CW.putOc (h : CW tI tN tM b N k kk dv nc lm F op oc Sn Sk Sm) {j x : Nat} (hj : j < 12) (hk : k2 = va_up k (b + 3 + 14 * j) (oN j (F 0 j) (F 1 j) x (F 2 j) (F 3 j) (b + 3 + 14 * j))) : CW tI tN tM b N k2 kk dv nc lm F op (va_up oc j x) Sn Sk Sm := by
  have ⟨h0, ⟨g1, h1, e1⟩, ⟨g2, h2, e2⟩, h3, h4, h5, h6, h7, h8⟩ := h
  have hq : ∀ q, q ≠ (b + 3 + 14 * j) → k2 q = k q := fun q hq => by rw [hk]; exact up_ne hq
  refine h.node (j := j) hj ?_ ((h4 j hj).to (hq _ (by omega))) ((h5 j hj).to (fun q q1 q2 => hq _ (by omega))) ((h6 j hj).to (fun q q1 q2 => hq _ (by omega))) (fun q z => hq q (by omega)) (fun d i z => rfl) (fun _ _ => rfl) (fun i hi => up_ne hi) (fun _ _ => rfl) (fun _ _ => rfl)
  rw [up_eq, hk]
  exact (h3 j hj).up
theorem CW.put4 (h : CW tI tN tM b N k kk dv nc lm F op oc Sn Sk Sm) {p : Nat} {x : Int32} (hp : p < 12) (hk : k2 = va_up k (b + 171 + 7 * p) (oM x (F 5 p) (F 6 p) (b + 171 + 7 * p))) : CW tI tN tM b N k2 kk dv nc lm (fU F 4 p x) op oc Sn Sk Sm := by
  have ⟨h0, ⟨g1, h1, e1⟩, ⟨g2, h2, e2⟩, h3, h4, h5, h6, h7, h8⟩ := h
  have hq : ∀ q, q ≠ b + 171 + 7 * p → k2 q = k q := fun q hq => by rw [hk]; exact up_ne hq
  refine h.msg (p := p) hp ?_ ((h8 p hp).to (fun q q1 q2 => hq _ (by omega))) (fun q z => hq q (by omega)) (fun d i z => ?_) (fun _ _ => rfl)
  · rw [fU_eq, fU_c (d := 5) (by omega), fU_c (d := 6) (by omega), hk]
    exact (h7 p hp).up
  · rcases z with z | z
    · exact fU_n z
    · exact fU_c (by omega)
theorem CW.putT (h : CW tI tN tM b N k kk dv nc lm F op oc Sn Sk Sm) {nc2 : Nat} {lm2 : Int32} (hk : k2 = va_up k b (oT nc2 lm2 b)) : CW tI tN tM b N k2 kk dv nc2 lm2 F op oc Sn Sk Sm := by
  have h0 := h.1
  refine h.tree ?_ (fun q hq => by rw [hk]; exact up_ne hq)
  rw [hk]
  exact h0.up
/-- the summary of a node; what its parent keeps; a message -/
theorem CW.setSn (h : CW tI tN tM b N k kk dv nc lm F op oc Sn Sk Sm) {j : Nat} {v : Sv} (hj : j < 12) (hs : isS tI b N k2 kk dv ((b + 3 + 14 * j) + 2) v) (hf : frm k k2 ((b + 3 + 14 * j) + 2) 6) : CW tI tN tM b N k2 kk dv nc lm F op oc (va_up Sn j v) Sk Sm := by
  have ⟨h0, ⟨g1, h1, e1⟩, ⟨g2, h2, e2⟩, h3, h4, h5, h6, h7, h8⟩ := h
  refine h.node (j := j) hj ((h3 j hj).to (hf _ (by omega))) ((h4 j hj).to (hf _ (by omega))) ?_ ((h6 j hj).to (fun q q1 q2 => hf _ (by omega))) (fun q z => hf q (by omega)) (fun d i z => rfl) (fun _ _ => rfl) (fun _ _ => rfl) (fun i hi => up_ne hi) (fun _ _ => rfl)
  rw [up_eq]
  exact hs
theorem CW.setSk (h : CW tI tN tM b N k kk dv nc lm F op oc Sn Sk Sm) {j : Nat} {v : Sv} (hj : j < 12) (hs : isS tI b N k2 kk dv ((b + 3 + 14 * j) + 8) v) (hf : frm k k2 ((b + 3 + 14 * j) + 8) 6) : CW tI tN tM b N k2 kk dv nc lm F op oc Sn (va_up Sk j v) Sm := by
  have ⟨h0, ⟨g1, h1, e1⟩, ⟨g2, h2, e2⟩, h3, h4, h5, h6, h7, h8⟩ := h
  refine h.node (j := j) hj ((h3 j hj).to (hf _ (by omega))) ((h4 j hj).to (hf _ (by omega))) ((h5 j hj).to (fun q q1 q2 => hf _ (by omega))) ?_ (fun q z => hf q (by omega)) (fun d i z => rfl) (fun _ _ => rfl) (fun _ _ => rfl) (fun _ _ => rfl) (fun i hi => up_ne hi)
  rw [up_eq]
  exact hs
theorem CW.setM (h : CW tI tN tM b N k kk dv nc lm F op oc Sn Sk Sm) {p : Nat} {x y z : Int32} {v : Sv} (hp : p < 12) (he : zc b N k2 (b + 171 + 7 * p) (oM x y z (b + 171 + 7 * p))) (hs : isS tI b N k2 kk dv (b + 171 + 7 * p + 1) v) (hf : frm k k2 (b + 171 + 7 * p) 7) : CW tI tN tM b N k2 kk dv nc lm (fU (fU (fU F 4 p x) 5 p y) 6 p z) op oc Sn Sk (va_up Sm p v) := by
  refine h.msg (p := p) hp ?_ ?_ hf (fun d i w => ?_) (fun i hi => up_ne hi)
  · rw [fU_c (d := 4) (by omega), fU_c (d := 4) (by omega), fU_eq, fU_c (d := 5) (by omega), fU_eq, fU_eq]
    exact he
  · rw [up_eq]
    exact hs
  · rcases w with w | w
    · rw [fU_n w, fU_n w, fU_n w]
    · rw [fU_c (by omega), fU_c (by omega), fU_c (by omega)]
end
def fgt (F : Cf) (x : Int32) : Nat → Cf
  | 0 => F
  | c + 1 => if F 0 (c + 1) = x then fU (fgt F x c) 3 (c + 1) 0 else fgt F x c
theorem fgt_c (F : Cf) (x : Int32) {d : Nat} (hd : d ≠ 3) (i : Nat) : ∀ c, fgt F x c d i = F d i
  | 0 => rfl
  | c + 1 => by
    simp only [fgt]
    split
    · rw [fU_c hd]
      exact fgt_c F x hd i c
    · exact fgt_c F x hd i c
def mks (kk : Nat) (dv : Int32) (F : Cf) (Sk : Nat → Sv) (x : Int32) (v : Sv) : Nat → Sv
  | 0 => v
  | c + 1 => if F 0 (c + 1) = x ∧ 0 < F 3 (c + 1) ∧ 0 < (Sk (c + 1)).1 then mgS kk dv (mks kk dv F Sk x v c) (Sk (c + 1)) else mks kk dv F Sk x v c
theorem nS_clS (v : Sv) : nS (clS v) := ⟨fun _ _ => rfl, fun _ _ => rfl, fun _ _ => rfl⟩
theorem nS_mgS {kk : Nat} {dv : Int32} {v w : Sv} (h : nS v) (g : nS w) : nS (mgS kk dv v w) := by
  obtain ⟨h1, h2, h3⟩ := h
  obtain ⟨g1, g2, g3⟩ := g
  refine ⟨fun i hi => ad_z (h1 i hi) (g1 i hi), mgC_z h2 g2, fun i hi => ?_⟩
  show cpr _ _ _ i = 0
  rw [cpr_out (Or.inr hi)]
  exact ad_z (h3 i hi) (g3 i hi)
theorem nS_tkS {kk x lf : Nat} {dv : Int32} {v : Sv} (h : nS v) (hx : x < 32) (hl : lf < 12) : nS (tkS kk dv v x lf) := by
  obtain ⟨h1, h2, h3⟩ := h
  refine ⟨fun i hi => ?_, tkC_z hx h2, fun i hi => ?_⟩
  · show upd _ _ _ i = 0
    rw [upd_ne (by omega)]
    exact h1 i hi
  · show cpr _ _ _ i = 0
    rw [cpr_out (Or.inr hi), upd_ne (by omega)]
    exact h3 i hi
theorem nS_mks {kk : Nat} {dv x : Int32} {F : Cf} {Sk : Nat → Sv} {v : Sv} (h : nS v) : ∀ c, (∀ j, j ≤ c → nS (Sk j)) → nS (mks kk dv F Sk x v c)
  | 0, _ => h
  | c + 1, hk => by
    simp only [mks]
    split
    · exact nS_mgS (nS_mks h c (fun j hj => hk j (by omega))) (hk _ (by omega))
    · exact nS_mks h c (fun j hj => hk j (by omega))
section
variable {l : Launch} {D : va_G} {tI tZ tN tM : ClassId} {b N : Nat} {k : Nat → va_E}
set_option maxHeartbeats 4000000 in
set_option maxRecDepth 100000 in
/-- T_attach -/
theorem c_T_attach {kk nc : Nat} {dv lm : Int32} {F : Cf} {op : Nat → Nat → Int32} {oc : Nat → Nat} {Sn Sk Sm : Nat → Sv} {x y : Int32} (hC : CW tI tN tM b N k kk dv nc lm F op oc Sn Sk Sm) (hnc : nc ≤ 12) (hy : y = 0 ∨ y = 1) : Met l y_T_attach (wy y_T_attach b_T_attach 4 (some .int)) (rm 1 0 0) (zPc D (tyl tI tZ tN tM) b N k [.ref b, .int x, .int y]) (zQi D b N (fun z k2 => (isn nc x = true ∧ F 1 x.toNatClampNeg = 0 ∧ nc < 12 → z = nI nc ∧ CW tI tN tM b N k2 kk dv (nc + 1) lm (fU (fU F 0 nc x) 1 nc y) op oc Sn Sk Sm ∧ ∀ q, b + 255 ≤ q → k2 q = k q) ∧ (¬ (isn nc x = true ∧ F 1 x.toNatClampNeg = 0 ∧ nc < 12) → z = -1 ∧ k2 = k))) 0 0 (zA b) := by
  refine z_met (own := R_T) (by decide) rfl rfl (Nat.le_of_ble_eq_true rfl) [some (.ref b), some (.int x), some (.int y), none] rfl ?_
  intro p e s m args below meth c X hin
  have ⟨h0, ⟨g1, h1, e1⟩, ⟨g2, h2, e2⟩, h3, h4, h5, h6, h7, h8⟩ := hC
  refine z_aload_n X d_T_attach_0 rfl ?_
  refine z_iload_n X d_T_attach_1 rfl ?_
  refine z_callVi X (c_T_isNode hC hnc) h0 rfl (cwV 1 X.1.2.2.2.2 (gi_V lm_T_43 vi_T_isNode ve_T_isNode vn_T vc_T_isNode) rfl rfl rfl (by decide +kernel) ⟨Nat.le_of_ble_eq_true rfl, Nat.le_of_ble_eq_true rfl⟩) (As := [.int x]) (st := []) rfl rfl (Nat.le_of_ble_eq_true rfl) d_T_attach_2 ⟨Nat.le_of_ble_eq_true rfl, Nat.le_of_ble_eq_true rfl⟩ (fun z k2 hq => ?_)
  obtain ⟨rfl, hk9⟩ := hq
  have hk9 := hk9.symm
  subst hk9
  cases hx : isn nc x
  · skip
    refine z_if_eqN X d_T_attach_5 (tgt := 29) (by decide) (by decide) (fun _ => ?_) (fun h => absurd h (by decide))
    refine z_iconst X d_T_attach_29 (v := -1) (by decide +kernel) ?_
    exact z_iret X d_T_attach_30 (by omega) (by omega) (⟨fun q => absurd q (by simp), fun _ => ⟨rfl, rfl⟩⟩)
  · skip
    refine z_if_eqN X d_T_attach_5 (tgt := 29) (by decide) (by decide) (fun h => absurd h (by decide)) (fun _ => ?_)
    obtain ⟨j, hj, rfl⟩ := isn_t (by omega) hx
    refine z_lv (lv2 := [some (.ref b), some (.int (nI j)), some (.int y), none]) (fun _ _ q => q) ?_
    rw [nI_clamp (by omega)]
    refine z_aload_n X d_T_attach_8 rfl ?_
    refine z_get X h0 rfl in_T 0 (by decide) (wq lf_T_11) rfl d_T_attach_9 ?_
    refine z_iload_n X d_T_attach_12 rfl ?_
    refine z_aald X h1 2 rfl (j := j) (v := b + 3 + 14 * j) rfl (by omega) (by omega) (e1 _ (by omega)) d_T_attach_13 ?_
    refine z_get X (h3 j (by omega)) rfl in_N 2 (by decide) (wq lf_T_47) rfl d_T_attach_14 ?_
    refine z_if_ne X d_T_attach_17 (tgt := 29) (by decide) (fun hB => ?_) (fun hB => ?_)
    · skip
      refine z_iconst X d_T_attach_29 (v := -1) (by decide +kernel) ?_
      exact z_iret X d_T_attach_30 (by omega) (by omega) (⟨fun q => absurd q (fun q => hB q.2.1), fun _ => ⟨rfl, rfl⟩⟩)
    · skip
      refine z_aload_n X d_T_attach_20 rfl ?_
      refine z_get X h0 rfl in_T 1 (by decide) (wq lf_T_15) rfl d_T_attach_21 ?_
      refine z_bipush X d_T_attach_24 (v := nI 12) (by decide +kernel) ?_
      refine z_icmp_ltN X d_T_attach_26 (tgt := 31) (by decide) (by omega) (by omega) (fun hD => ?_) (fun hD => ?_)
      · skip
        have hfr : ∀ q, b + 255 ≤ q → k q = k q := fun _ _ => rfl
        refine z_aload_n X d_T_attach_31 rfl ?_
        refine z_get X h0 rfl in_T 1 (by decide) (wq lf_T_15) rfl d_T_attach_32 ?_
        refine z_istore_n X d_T_attach_35 (by decide) rfl ?_
        refine z_lv (lv2 := [some (.ref b), some (.int (nI j)), some (.int y), some (.int (nI nc))]) (fun _ _ q => q) ?_
        refine z_aload_n X d_T_attach_36 rfl ?_
        refine z_get X h0 rfl in_T 0 (by decide) (wq lf_T_11) rfl d_T_attach_37 ?_
        refine z_iload_n X d_T_attach_40 rfl ?_
        refine z_aald X h1 2 rfl (j := nc) (v := b + 3 + 14 * nc) rfl (by omega) (by omega) (e1 _ (by omega)) d_T_attach_41 ?_
        refine z_iload_n X d_T_attach_42 rfl ?_
        refine z_put X (h3 nc (by omega)) rfl in_N ty_N_ok n_N 1 (by decide) (wq lf_T_51) rfl rfl rfl (Nat.le_of_ble_eq_true rfl) d_T_attach_43 ?_
        refine z_named (fun k_1 hk9 => ?_)
        have hC := hC.put0 (j := nc) (x := nI j) hD hk9
        have hfr : ∀ q, b + 255 ≤ q → k_1 q = k q := fun q hq => by rw [hk9]; exact (up_ne (by omega)).trans (hfr q hq)
        clear hk9
        have ⟨h0, ⟨g1, h1, e1⟩, ⟨g2, h2, e2⟩, h3, h4, h5, h6, h7, h8⟩ := hC
        refine z_aload_n X d_T_attach_46 rfl ?_
        refine z_get X h0 rfl in_T 0 (by decide) (wq lf_T_11) rfl d_T_attach_47 ?_
        refine z_iload_n X d_T_attach_50 rfl ?_
        refine z_aald X h1 2 rfl (j := nc) (v := b + 3 + 14 * nc) rfl (by omega) (by omega) (e1 _ (by omega)) d_T_attach_51 ?_
        refine z_iload_n X d_T_attach_52 rfl ?_
        refine z_put X (h3 nc (by omega)) rfl in_N ty_N_ok n_N 2 (by decide) (wq lf_T_47) rfl (by rcases hy with rfl | rfl <;> decide +kernel) (by rcases hy with rfl | rfl <;> decide +kernel) (Nat.le_of_ble_eq_true rfl) d_T_attach_53 ?_
        refine z_named (fun k_2 hk9 => ?_)
        have hC := hC.put1 (j := nc) (x := y) hD hk9
        have hfr : ∀ q, b + 255 ≤ q → k_2 q = k q := fun q hq => by rw [hk9]; exact (up_ne (by omega)).trans (hfr q hq)
        clear hk9
        have ⟨h0, ⟨g1, h1, e1⟩, ⟨g2, h2, e2⟩, h3, h4, h5, h6, h7, h8⟩ := hC
        refine z_aload_n X d_T_attach_56 rfl ?_
        refine z_dup X d_T_attach_57 rfl ?_
        refine z_get X h0 rfl in_T 1 (by decide) (wq lf_T_15) rfl d_T_attach_58 ?_
        refine z_iconst X d_T_attach_61 (v := nI 1) (by decide +kernel) ?_
        refine z_iaddN X d_T_attach_62 ?_
        refine z_put X h0 rfl in_T ty_T_ok n_T 1 (by decide) (wq lf_T_15) rfl rfl rfl (Nat.le_of_ble_eq_true rfl) d_T_attach_63 ?_
        refine z_named (fun k_3 hk9 => ?_)
        have hC := hC.putT (nc2 := nc + 1) (lm2 := lm) hk9
        have hfr : ∀ q, b + 255 ≤ q → k_3 q = k q := fun q hq => by rw [hk9]; exact (up_ne (by omega)).trans (hfr q hq)
        clear hk9
        have ⟨h0, ⟨g1, h1, e1⟩, ⟨g2, h2, e2⟩, h3, h4, h5, h6, h7, h8⟩ := hC
        refine z_iload_n X d_T_attach_66 rfl ?_
        exact z_iret X d_T_attach_67 (by omega) (by omega) (⟨fun _ => ⟨rfl, hC, hfr⟩, fun q => absurd ⟨rfl, hB, hD⟩ q⟩)
      · skip
        refine z_iconst X d_T_attach_29 (v := -1) (by decide +kernel) ?_
        exact z_iret X d_T_attach_30 (by omega) (by omega) (⟨fun q => absurd q (by omega), fun _ => ⟨rfl, rfl⟩⟩)
set_option maxHeartbeats 4000000 in
set_option maxRecDepth 100000 in
/-- T_add -/
theorem c_T_add {kk nc : Nat} {dv lm : Int32} {F : Cf} {op : Nat → Nat → Int32} {oc : Nat → Nat} {Sn Sk Sm : Nat → Sv} {x y : Int32} {ov : Nat → Nat → Nat} (hC : CW tI tN tM b N k kk dv nc lm F op oc Sn Sk Sm) (hnc : nc ≤ 12) (hoc : ∀ j, j < 12 → oc j < 4) (hov : ∀ j, j < 12 → ∀ i, i < oc j → op j i = nI (ov j i) ∧ ov j i < 32) (hk1 : 1 ≤ kk) (hk6 : kk ≤ 6) (hd : ¬ dv = 0)  : Met l y_T_add (wy y_T_add b_T_add 3 (some .boolean)) (rm 6 0 0) (zPc D (tyl tI tZ tN tM) b N k [.ref b, .int x, .int y]) (zQi D b N (fun z k2 => (isl nc (F 1) x = true ∧ isn 32 y = true ∧ (Sn x.toNatClampNeg).1 + nI (oc x.toNatClampNeg) < nI 48 → z = 1 ∧ CW tI tN tM b N k2 kk dv nc lm F (va_up op x.toNatClampNeg (upd (op x.toNatClampNeg) (oc x.toNatClampNeg) y)) (va_up oc x.toNatClampNeg (if oc x.toNatClampNeg = 3 then 0 else oc x.toNatClampNeg + 1)) (va_up Sn x.toNatClampNeg (if oc x.toNatClampNeg = 3 then tkSs kk dv (Sn x.toNatClampNeg) (va_up (ov x.toNatClampNeg) (oc x.toNatClampNeg) y.toNatClampNeg) x.toNatClampNeg 4 else Sn x.toNatClampNeg)) Sk Sm ∧ ∀ q, b + 255 ≤ q → k2 q = k q) ∧ (¬ (isl nc (F 1) x = true ∧ isn 32 y = true ∧ (Sn x.toNatClampNeg).1 + nI (oc x.toNatClampNeg) < nI 48) → z = 0 ∧ k2 = k))) 0 0 (zA b) := by
  refine z_met (own := R_T) (by decide) rfl rfl (Nat.le_of_ble_eq_true rfl) [some (.ref b), some (.int x), some (.int y)] rfl ?_
  intro p e s m args below meth c X hin
  have ⟨h0, ⟨g1, h1, e1⟩, ⟨g2, h2, e2⟩, h3, h4, h5, h6, h7, h8⟩ := hC
  refine z_aload_n X d_T_add_0 rfl ?_
  refine z_iload_n X d_T_add_1 rfl ?_
  refine z_callVi X (c_T_isLeaf hC hnc) h0 rfl (cwV 1 X.1.2.2.2.2 (gi_V lm_T_54 vi_T_isLeaf ve_T_isLeaf vn_T vc_T_isLeaf) rfl rfl rfl (by decide +kernel) ⟨Nat.le_of_ble_eq_true rfl, Nat.le_of_ble_eq_true rfl⟩) (As := [.int x]) (st := []) rfl rfl (Nat.le_of_ble_eq_true rfl) d_T_add_2 ⟨Nat.le_of_ble_eq_true rfl, Nat.le_of_ble_eq_true rfl⟩ (fun z k2 hq => ?_)
  obtain ⟨rfl, hk9⟩ := hq
  have hk9 := hk9.symm
  subst hk9
  cases hx : isl nc (F 1) x
  · skip
    refine z_if_eqN X d_T_add_5 (tgt := 29) (by decide) (by decide) (fun _ => ?_) (fun h => absurd h (by decide))
    refine z_iconst X d_T_add_29 (v := nI 0) (by decide +kernel) ?_
    exact z_zret X d_T_add_30 (by decide) (by omega) (by omega) (⟨fun q => absurd q (by simp), fun _ => ⟨rfl, rfl⟩⟩)
  · skip
    refine z_if_eqN X d_T_add_5 (tgt := 29) (by decide) (by decide) (fun h => absurd h (by decide)) (fun _ => ?_)
    have hy2 : isn nc x = true := by cases hz : isn nc x with | true => rfl | false => rw [isl, hz] at hx; simp at hx
    obtain ⟨j, hj, rfl⟩ := isn_t (by omega) hy2
    refine z_lv (lv2 := [some (.ref b), some (.int (nI j)), some (.int y)]) (fun _ _ q => q) ?_
    rw [nI_clamp (n := j) (by omega)]
    refine z_iload_n X d_T_add_8 rfl ?_
    refine z_callSi X (a := 0) (c_T_isValue) (cwS 1 X.1.2.2.2.2 (gi_S lm_T_57 vs_T_isValue vn_T vc_T_isValue) rfl rfl rfl (by decide +kernel) ⟨Nat.le_of_ble_eq_true rfl, Nat.le_of_ble_eq_true rfl⟩) (As := [.int y]) (st := []) rfl rfl (Nat.le_of_ble_eq_true rfl) d_T_add_9 ⟨Nat.le_of_ble_eq_true rfl, Nat.le_of_ble_eq_true rfl⟩ (fun z k2 hq => ?_)
    obtain ⟨rfl, hk9⟩ := hq
    have hk9 := hk9.symm
    subst hk9
    cases hy : isn 32 y
    · skip
      refine z_if_eqN X d_T_add_12 (tgt := 29) (by decide) (by decide) (fun _ => ?_) (fun h => absurd h (by decide))
      refine z_iconst X d_T_add_29 (v := nI 0) (by decide +kernel) ?_
      exact z_zret X d_T_add_30 (by decide) (by omega) (by omega) (⟨fun q => absurd q (by simp), fun _ => ⟨rfl, rfl⟩⟩)
    · skip
      refine z_if_eqN X d_T_add_12 (tgt := 29) (by decide) (by decide) (fun h => absurd h (by decide)) (fun _ => ?_)
      obtain ⟨v, hv, rfl⟩ := isn_t (by omega) hy
      refine z_lv (lv2 := [some (.ref b), some (.int (nI j)), some (.int (nI v))]) (fun _ _ q => q) ?_
      rw [nI_clamp (n := v) (by omega)]
      refine z_aload_n X d_T_add_15 rfl ?_
      refine z_get X h0 rfl in_T 0 (by decide) (wq lf_T_11) rfl d_T_add_16 ?_
      refine z_iload_n X d_T_add_19 rfl ?_
      refine z_aald X h1 2 rfl (j := j) (v := b + 3 + 14 * j) rfl (by omega) (by omega) (e1 _ (by omega)) d_T_add_20 ?_
      refine z_callVi X (c_N_itemCount (h3 j (by omega)) (h5 j (by omega))) (h3 j (by omega)) rfl (cwV 0 X.1.2.2.2.2 (gi_V lm_T_60 vi_N_itemCount ve_N_itemCount vn_N vc_N_itemCount) rfl rfl rfl (by decide +kernel) ⟨Nat.le_of_ble_eq_true rfl, Nat.le_of_ble_eq_true rfl⟩) (As := []) (st := []) rfl rfl (Nat.le_of_ble_eq_true rfl) d_T_add_21 ⟨Nat.le_of_ble_eq_true rfl, Nat.le_of_ble_eq_true rfl⟩ (fun z k2 hq => ?_)
      obtain ⟨rfl, hk9⟩ := hq
      have hk9 := hk9.symm
      subst hk9
      refine z_bipush X d_T_add_24 (v := nI 48) (by decide +kernel) ?_
      refine z_icmp_lt X d_T_add_26 (tgt := 31) (by decide) (fun hD => ?_) (fun hD => ?_)
      · skip
        refine z_aload_n X d_T_add_31 rfl ?_
        refine z_get X h0 rfl in_T 0 (by decide) (wq lf_T_11) rfl d_T_add_32 ?_
        refine z_iload_n X d_T_add_35 rfl ?_
        refine z_aald X h1 2 rfl (j := j) (v := b + 3 + 14 * j) rfl (by omega) (by omega) (e1 _ (by omega)) d_T_add_36 ?_
        refine z_iload_n X d_T_add_37 rfl ?_
        refine z_callVv X (c_N_putIntoOpenBlock (ov := ov j) (h3 j (by omega)) (h4 j (by omega)) (h5 j (by omega)) (by omega) (hoc j (by omega)) (hov j (by omega)) hk1 hk6 hd hv) (h3 j (by omega)) rfl (cwV 1 X.1.2.2.2.2 (gi_V lm_T_64 vi_N_putIntoOpenBlock ve_N_putIntoOpenBlock vn_N vc_N_putIntoOpenBlock) rfl rfl rfl (by decide +kernel) ⟨Nat.le_of_ble_eq_true rfl, Nat.le_of_ble_eq_true rfl⟩) (As := [.int (nI v)]) (st := []) rfl rfl (Nat.le_of_ble_eq_true rfl) d_T_add_38 ⟨Nat.le_of_ble_eq_true rfl, Nat.le_of_ble_eq_true rfl⟩ (fun k2 hq => ?_)
        obtain ⟨q0, q1, q2, q3⟩ := hq
        have hC2 := hC.node (j := j) (k2 := k2) (F2 := F) (op2 := va_up op j (upd (op j) (oc j) (nI v))) (oc2 := va_up oc j (if oc j = 3 then 0 else oc j + 1)) (Sn2 := va_up Sn j (if oc j = 3 then tkSs kk dv (Sn j) (va_up (ov j) (oc j) v) j 4 else Sn j)) (Sk2 := Sk) (by omega) (by rw [up_eq]; exact q0) (by rw [up_eq]; exact q1) (by rw [up_eq]; exact q2) ((h6 j (by omega)).to (fun q z1 z2 => q3 q (by omega) (by omega) (by omega))) (fun q z => q3 q (by omega) (by omega) (by omega)) (fun _ _ _ => rfl) (fun i hi => up_ne hi) (fun i hi => up_ne hi) (fun i hi => up_ne hi) (fun _ _ => rfl)
        refine z_iconst X d_T_add_41 (v := nI 1) (by decide +kernel) ?_
        exact z_zret X d_T_add_42 (by decide) (by omega) (by omega) (⟨fun _ => ⟨rfl, hC2, fun q hq => q3 q (by omega) (by omega) (by omega)⟩, fun q => absurd ⟨rfl, rfl, hD⟩ q⟩)
      · skip
        refine z_iconst X d_T_add_29 (v := nI 0) (by decide +kernel) ?_
        exact z_zret X d_T_add_30 (by decide) (by omega) (by omega) (⟨fun q => absurd q (fun q => hD q.2.2), fun _ => ⟨rfl, rfl⟩⟩)
set_option maxHeartbeats 4000000 in
set_option maxRecDepth 100000 in
/-- T_flush -/
theorem c_T_flush {kk nc : Nat} {dv lm : Int32} {F : Cf} {op : Nat → Nat → Int32} {oc : Nat → Nat} {Sn Sk Sm : Nat → Sv} {x : Int32} {ov : Nat → Nat → Nat} (hC : CW tI tN tM b N k kk dv nc lm F op oc Sn Sk Sm) (hnc : nc ≤ 12) (hoc : ∀ j, j < 12 → oc j < 4) (hov : ∀ j, j < 12 → ∀ i, i < oc j → op j i = nI (ov j i) ∧ ov j i < 32) (hk1 : 1 ≤ kk) (hk6 : kk ≤ 6) (hd : ¬ dv = 0)  : Met l y_T_flush (wy y_T_flush b_T_flush 2 (some .int)) (rm 5 0 0) (zPc D (tyl tI tZ tN tM) b N k [.ref b, .int x]) (zQi D b N (fun z k2 => (isl nc (F 1) x = true → z = nI (oc x.toNatClampNeg) ∧ CW tI tN tM b N k2 kk dv nc lm F op (va_up oc x.toNatClampNeg 0) (va_up Sn x.toNatClampNeg (tkSs kk dv (Sn x.toNatClampNeg) (ov x.toNatClampNeg) x.toNatClampNeg (oc x.toNatClampNeg))) Sk Sm ∧ ∀ q, b + 255 ≤ q → k2 q = k q) ∧ (¬ (isl nc (F 1) x = true) → z = -1 ∧ k2 = k))) 0 0 (zA b) := by
  refine z_met (own := R_T) (by decide) rfl rfl (Nat.le_of_ble_eq_true rfl) [some (.ref b), some (.int x)] rfl ?_
  intro p e s m args below meth c X hin
  have ⟨h0, ⟨g1, h1, e1⟩, ⟨g2, h2, e2⟩, h3, h4, h5, h6, h7, h8⟩ := hC
  refine z_aload_n X d_T_flush_0 rfl ?_
  refine z_iload_n X d_T_flush_1 rfl ?_
  refine z_callVi X (c_T_isLeaf hC hnc) h0 rfl (cwV 1 X.1.2.2.2.2 (gi_V lm_T_54 vi_T_isLeaf ve_T_isLeaf vn_T vc_T_isLeaf) rfl rfl rfl (by decide +kernel) ⟨Nat.le_of_ble_eq_true rfl, Nat.le_of_ble_eq_true rfl⟩) (As := [.int x]) (st := []) rfl rfl (Nat.le_of_ble_eq_true rfl) d_T_flush_2 ⟨Nat.le_of_ble_eq_true rfl, Nat.le_of_ble_eq_true rfl⟩ (fun z k2 hq => ?_)
  obtain ⟨rfl, hk9⟩ := hq
  have hk9 := hk9.symm
  subst hk9
  cases hx : isl nc (F 1) x
  · skip
    refine z_if_eqN X d_T_flush_5 (tgt := 20) (by decide) (by decide) (fun _ => ?_) (fun h => absurd h (by decide))
    refine z_iconst X d_T_flush_20 (v := -1) (by decide +kernel) ?_
    exact z_iret X d_T_flush_21 (by omega) (by omega) (⟨fun q => absurd q (by simp), fun _ => ⟨rfl, rfl⟩⟩)
  · skip
    refine z_if_eqN X d_T_flush_5 (tgt := 20) (by decide) (by decide) (fun h => absurd h (by decide)) (fun _ => ?_)
    have hy2 : isn nc x = true := by cases hz : isn nc x with | true => rfl | false => rw [isl, hz] at hx; simp at hx
    obtain ⟨j, hj, rfl⟩ := isn_t (by omega) hy2
    refine z_lv (lv2 := [some (.ref b), some (.int (nI j))]) (fun _ _ q => q) ?_
    rw [nI_clamp (n := j) (by omega)]
    refine z_aload_n X d_T_flush_8 rfl ?_
    refine z_get X h0 rfl in_T 0 (by decide) (wq lf_T_11) rfl d_T_flush_9 ?_
    refine z_iload_n X d_T_flush_12 rfl ?_
    refine z_aald X h1 2 rfl (j := j) (v := b + 3 + 14 * j) rfl (by omega) (by omega) (e1 _ (by omega)) d_T_flush_13 ?_
    have ho4 := hoc j (by omega)
    refine z_callVi X (c_N_writeOpenBlock (ov := ov j) (h3 j (by omega)) (h4 j (by omega)) (h5 j (by omega)) (by omega) (by omega) (hov j (by omega)) hk1 hk6 hd) (h3 j (by omega)) rfl (cwV 0 X.1.2.2.2.2 (gi_V lm_T_68 vi_N_writeOpenBlock ve_N_writeOpenBlock vn_N vc_N_writeOpenBlock) rfl rfl rfl (by decide +kernel) ⟨Nat.le_of_ble_eq_true rfl, Nat.le_of_ble_eq_true rfl⟩) (As := []) (st := []) rfl rfl (Nat.le_of_ble_eq_true rfl) d_T_flush_14 ⟨Nat.le_of_ble_eq_true rfl, Nat.le_of_ble_eq_true rfl⟩ (fun z k2 hq => ?_)
    obtain ⟨rfl, q0, q2, q3⟩ := hq
    have hC2 := hC.node (j := j) (k2 := k2) (F2 := F) (op2 := op) (oc2 := va_up oc j 0) (Sn2 := va_up Sn j (tkSs kk dv (Sn j) (ov j) j (oc j))) (Sk2 := Sk) (by omega) (by rw [up_eq]; exact q0) ((h4 j (by omega)).to (q3 _ (by omega) (by omega))) (by rw [up_eq]; exact q2) ((h6 j (by omega)).to (fun q z1 z2 => q3 q (by omega) (by omega))) (fun q z => q3 q (by omega) (by omega)) (fun _ _ _ => rfl) (fun _ _ => rfl) (fun i hi => up_ne hi) (fun i hi => up_ne hi) (fun _ _ => rfl)
    refine z_goto X d_T_flush_17 (tgt := 21) (by decide) ?_
    exact z_iret X d_T_flush_21 (by omega) (by omega) (⟨fun _ => ⟨rfl, hC2, fun q hq => q3 q (by omega) (by omega)⟩, fun q => absurd rfl q⟩)
set_option maxHeartbeats 4000000 in
set_option maxRecDepth 100000 in
/-- T_forgetChildren -/
theorem c_T_forgetChildren {kk nc : Nat} {dv lm : Int32} {F : Cf} {op : Nat → Nat → Int32} {oc : Nat → Nat} {Sn Sk Sm : Nat → Sv} {x : Int32} (hC : CW tI tN tM b N k kk dv nc lm F op oc Sn Sk Sm) (hnc : nc ≤ 12) (hn1 : 1 ≤ nc) : Met l y_T_forgetChildren (wy y_T_forgetChildren b_T_forgetChildren 3 none) (rm 0 0 0) (zPc D (tyl tI tZ tN tM) b N k [.ref b, .int x]) (zQv D b N (fun k2 => CW tI tN tM b N k2 kk dv nc lm (fgt F x (nc - 1)) op oc Sn Sk Sm ∧ ∀ q, b + 255 ≤ q → k2 q = k q)) 0 0 (zA b) := by
  refine z_met (own := R_T) (by decide) rfl rfl (Nat.le_of_ble_eq_true rfl) [some (.ref b), some (.int x), none] rfl ?_
  intro p e s m args below meth c X hin
  have ⟨h0, ⟨g1, h1, e1⟩, ⟨g2, h2, e2⟩, h3, h4, h5, h6, h7, h8⟩ := hC
  refine z_iconst X d_T_forgetChildren_0 (v := nI 1) (by decide +kernel) ?_
  refine z_istore_n X d_T_forgetChildren_1 (by decide) rfl ?_
  refine z_lv (lv2 := [some (.ref b), some (.int x), some (.int (nI 1))]) (fun _ _ q => q) ?_
  refine z_loop (σ := Nat → va_E) (K := fun _ k9 => k9) (LV := fun v _ => [some (.ref b), some (.int x), some (.int (nI (v + 1)))]) (I := fun v k9 => CW tI tN tM b N k9 kk dv nc lm (fgt F x v) op oc Sn Sk Sm ∧ ∀ q, b + 255 ≤ q → k9 q = k q) (nc - 1) 0 k (by omega) (⟨hC, fun _ _ => rfl⟩) (rfl) (rfl) ?_ ?_
  · intro k9 hI
    obtain ⟨hC, hfr⟩ := hI
    have ⟨h0, ⟨g1, h1, e1⟩, ⟨g2, h2, e2⟩, h3, h4, h5, h6, h7, h8⟩ := hC
    refine z_lv (lv2 := [some (.ref b), some (.int x), some (.int (nI (nc - 1 + 1)))]) (fun _ _ q => q) ?_
    refine z_iload_n X d_T_forgetChildren_2 rfl ?_
    refine z_aload_n X d_T_forgetChildren_3 rfl ?_
    refine z_get X h0 rfl in_T 1 (by decide) (wq lf_T_15) rfl d_T_forgetChildren_4 ?_
    refine z_icmp_geN X d_T_forgetChildren_7 (tgt := 39) (by decide) (by omega) (by omega) (fun _ => ?_) (fun h => absurd h (by omega))
    exact z_vret X d_T_forgetChildren_39 (by omega) (by omega) (⟨hC, hfr⟩)
  · intro v k9 hv hI ih
    obtain ⟨hC, hfr⟩ := hI
    have ⟨h0, ⟨g1, h1, e1⟩, ⟨g2, h2, e2⟩, h3, h4, h5, h6, h7, h8⟩ := hC
    refine z_lv (lv2 := [some (.ref b), some (.int x), some (.int (nI (v + 1)))]) (fun _ _ q => q) ?_
    refine z_iload_n X d_T_forgetChildren_2 rfl ?_
    refine z_aload_n X d_T_forgetChildren_3 rfl ?_
    refine z_get X h0 rfl in_T 1 (by decide) (wq lf_T_15) rfl d_T_forgetChildren_4 ?_
    refine z_icmp_geN X d_T_forgetChildren_7 (tgt := 39) (by decide) (by omega) (by omega) (fun h => absurd h (by omega)) (fun _ => ?_)
    refine z_aload_n X d_T_forgetChildren_10 rfl ?_
    refine z_get X h0 rfl in_T 0 (by decide) (wq lf_T_11) rfl d_T_forgetChildren_11 ?_
    refine z_iload_n X d_T_forgetChildren_14 rfl ?_
    refine z_aald X h1 2 rfl (j := v + 1) (v := b + 3 + 14 * (v + 1)) rfl (by omega) (by omega) (e1 _ (by omega)) d_T_forgetChildren_15 ?_
    refine z_get X (h3 (v + 1) (by omega)) rfl in_N 1 (by decide) (wq lf_T_51) rfl d_T_forgetChildren_16 ?_
    refine z_iload_n X d_T_forgetChildren_19 rfl ?_
    refine z_icmp_ne X d_T_forgetChildren_20 (tgt := 33) (by decide) (fun hA => ?_) (fun hA => ?_)
    · rw [fgt_c F x (by omega)] at hA
      refine z_iincU X d_T_forgetChildren_33 rfl (by decide) rfl ?_
      refine z_lv (lv2 := [some (.ref b), some (.int x), some (.int (nI (v + 1 + 1)))]) (fun _ _ q => q) ?_
      refine z_goto X d_T_forgetChildren_36 (tgt := 2) (by decide) ?_
      exact ih k9 ⟨by simp only [fgt]; rw [if_neg hA]; exact hC, hfr⟩
    · rw [fgt_c F x (by omega)] at hA
      refine z_aload_n X d_T_forgetChildren_23 rfl ?_
      refine z_get X h0 rfl in_T 0 (by decide) (wq lf_T_11) rfl d_T_forgetChildren_24 ?_
      refine z_iload_n X d_T_forgetChildren_27 rfl ?_
      refine z_aald X h1 2 rfl (j := v + 1) (v := b + 3 + 14 * (v + 1)) rfl (by omega) (by omega) (e1 _ (by omega)) d_T_forgetChildren_28 ?_
      refine z_iconst X d_T_forgetChildren_29 (v := nI 0) (by decide +kernel) ?_
      refine z_put X (h3 (v + 1) (by omega)) rfl in_N ty_N_ok n_N 8 (by decide) (wq lf_T_108) rfl rfl rfl (Nat.le_of_ble_eq_true rfl) d_T_forgetChildren_30 ?_
      refine z_named (fun k_1 hk9 => ?_)
      have hC := hC.put3 (j := v + 1) (x := 0) (by omega) hk9
      have hfr : ∀ q, b + 255 ≤ q → k_1 q = k q := fun q hq => by rw [hk9]; exact (up_ne (by omega)).trans (hfr q hq)
      clear hk9
      have ⟨h0, ⟨g1, h1, e1⟩, ⟨g2, h2, e2⟩, h3, h4, h5, h6, h7, h8⟩ := hC
      refine z_iincU X d_T_forgetChildren_33 rfl (by decide) rfl ?_
      refine z_lv (lv2 := [some (.ref b), some (.int x), some (.int (nI (v + 1 + 1)))]) (fun _ _ q => q) ?_
      refine z_goto X d_T_forgetChildren_36 (tgt := 2) (by decide) ?_
      exact ih k_1 ⟨by simp only [fgt]; rw [if_pos hA]; exact hC, hfr⟩
end
end
section
/-! Contracts: the tree's changes, 2 -/
theorem so_cases (f : Nat → Int32) (x : Int32) : so f x = -1 ∨ ∃ p, p < 12 ∧ so f x = nI p ∧ f p = x ∧ nI 1 ≤ x := by
  unfold so
  by_cases h : nI 1 ≤ x
  · rw [if_pos h]
    rcases sw_cases f x 12 (by omega) with ⟨h1, h2⟩ | ⟨p, h1, h2, h3⟩
    · exact Or.inl h1
    · exact Or.inr ⟨p, h1, h2, h3, h⟩
  · rw [if_neg h]
    exact Or.inl rfl
section
variable {l : Launch} {D : va_G} {tI tZ tN tM : ClassId} {b N : Nat} {k : Nat → va_E}
set_option maxHeartbeats 4000000 in
set_option maxRecDepth 100000 in
/-- T_mergeKept -/
theorem c_T_mergeKept {kk nc : Nat} {dv lm : Int32} {F : Cf} {op : Nat → Nat → Int32} {oc : Nat → Nat} {Sn Sk Sm : Nat → Sv} {j : Nat} (hC : CW tI tN tM b N k kk dv nc lm F op oc Sn Sk Sm) (hnc : nc ≤ 12) (hj : j < 12) (hn1 : 1 ≤ nc) (hN : ∀ j, j < 12 → nS (Sn j) ∧ nS (Sk j) ∧ nS (Sm j)) (hk6 : kk ≤ 6) (hd : ¬ dv = 0)  : Met l y_T_mergeKept (wy y_T_mergeKept b_T_mergeKept 5 none) (rm 4 0 0) (zPc D (tyl tI tZ tN tM) b N k [.ref b, .int (nI j)]) (zQv D b N (fun k2 => CW tI tN tM b N k2 kk dv nc lm F op oc (va_up Sn j (mks kk dv F Sk (nI j) (clS (Sn j)) (nc - 1))) Sk Sm ∧ ∀ q, b + 255 ≤ q → k2 q = k q)) 0 0 (zA b) := by
  refine z_met (own := R_T) (by decide) rfl rfl (Nat.le_of_ble_eq_true rfl) [some (.ref b), some (.int (nI j)), none, none, none] rfl ?_
  intro p e s m args below meth c X hin
  have ⟨h0, ⟨g1, h1, e1⟩, ⟨g2, h2, e2⟩, h3, h4, h5, h6, h7, h8⟩ := hC
  refine z_aload_n X d_T_mergeKept_0 rfl ?_
  refine z_get X h0 rfl in_T 0 (by decide) (wq lf_T_11) rfl d_T_mergeKept_1 ?_
  refine z_iload_n X d_T_mergeKept_4 rfl ?_
  refine z_aald X h1 2 rfl (j := j) (v := b + 3 + 14 * j) rfl (by omega) (by omega) (e1 _ (by omega)) d_T_mergeKept_5 ?_
  refine z_get X (h3 j (by omega)) rfl in_N 6 (by decide) (wq lf_T_86) rfl d_T_mergeKept_6 ?_
  refine z_astore_n X d_T_mergeKept_9 (by decide) rfl ?_
  refine z_lv (lv2 := [some (.ref b), some (.int (nI j)), some (.ref (b + 3 + 14 * j + 2)), none, none]) (fun _ _ q => q) ?_
  refine z_aload_n X d_T_mergeKept_10 rfl ?_
  refine z_callVv X (c_S_makeEmpty (h5 j hj) (hN j hj).1) (h5 j (by omega)).1 rfl (cwV 0 X.1.2.2.2.2 (gi_V lm_T_172 vi_S_makeEmpty ve_S_makeEmpty vn_S vc_S_makeEmpty) rfl rfl rfl (by decide +kernel) ⟨Nat.le_of_ble_eq_true rfl, Nat.le_of_ble_eq_true rfl⟩) (As := []) (st := []) rfl rfl (Nat.le_of_ble_eq_true rfl) d_T_mergeKept_11 ⟨Nat.le_of_ble_eq_true rfl, Nat.le_of_ble_eq_true rfl⟩ (fun k1 hq => ?_)
  obtain ⟨hS1, hf1⟩ := hq
  refine z_iconst X d_T_mergeKept_14 (v := nI 1) (by decide +kernel) ?_
  refine z_istore_n X d_T_mergeKept_15 (by decide) rfl ?_
  refine z_lv (lv2 := [some (.ref b), some (.int (nI j)), some (.ref (b + 3 + 14 * j + 2)), some (.int (nI 1)), none]) (fun _ _ q => q) ?_
  refine z_loop (σ := Nat → va_E) (K := fun _ k9 => k9) (LV := fun v _ => [some (.ref b), some (.int (nI j)), some (.ref (b + 3 + 14 * j + 2)), some (.int (nI (v + 1))), none]) (I := fun v k9 => isS tI b N k9 kk dv (b + 3 + 14 * j + 2) (mks kk dv F Sk (nI j) (clS (Sn j)) v) ∧ frm k k9 (b + 3 + 14 * j + 2) 6) (nc - 1) 0 k1 (by omega) (⟨hS1, hf1⟩) (rfl) (rfl) ?_ ?_
  · intro k9 hI
    obtain ⟨hS9, hf⟩ := hI
    have hC9 := hC.setSn hj hS9 hf
    have ⟨h0, ⟨g1, h1, e1⟩, ⟨g2, h2, e2⟩, h3, h4, h5, h6, h7, h8⟩ := hC9
    refine z_lv (lv2 := [some (.ref b), some (.int (nI j)), some (.ref (b + 3 + 14 * j + 2)), some (.int (nI (nc - 1 + 1))), none]) (fun _ _ q => q) ?_
    refine z_iload_n X d_T_mergeKept_16 rfl ?_
    refine z_aload_n X d_T_mergeKept_17 rfl ?_
    refine z_get X h0 rfl in_T 1 (by decide) (wq lf_T_15) rfl d_T_mergeKept_18 ?_
    refine z_icmp_geN X d_T_mergeKept_21 (tgt := 75) (by decide) (by omega) (by omega) (fun _ => ?_) (fun h => absurd h (by omega))
    exact z_vret X d_T_mergeKept_75 (by omega) (by omega) (⟨hC9, fun q hq => hf q (by omega)⟩)
  · intro v k9 hv hI ih
    obtain ⟨hS9, hf⟩ := hI
    have hC9 := hC.setSn hj hS9 hf
    have ⟨h0, ⟨g1, h1, e1⟩, ⟨g2, h2, e2⟩, h3, h4, h5, h6, h7, h8⟩ := hC9
    refine z_lv (lv2 := [some (.ref b), some (.int (nI j)), some (.ref (b + 3 + 14 * j + 2)), some (.int (nI (v + 1))), none]) (fun _ _ q => q) ?_
    refine z_iload_n X d_T_mergeKept_16 rfl ?_
    refine z_aload_n X d_T_mergeKept_17 rfl ?_
    refine z_get X h0 rfl in_T 1 (by decide) (wq lf_T_15) rfl d_T_mergeKept_18 ?_
    refine z_icmp_geN X d_T_mergeKept_21 (tgt := 75) (by decide) (by omega) (by omega) (fun h => absurd h (by omega)) (fun _ => ?_)
    refine z_aload_n X d_T_mergeKept_24 rfl ?_
    refine z_get X h0 rfl in_T 0 (by decide) (wq lf_T_11) rfl d_T_mergeKept_25 ?_
    refine z_iload_n X d_T_mergeKept_28 rfl ?_
    refine z_aald X h1 2 rfl (j := v + 1) (v := b + 3 + 14 * (v + 1)) rfl (by omega) (by omega) (e1 _ (by omega)) d_T_mergeKept_29 ?_
    refine z_astore X d_T_mergeKept_30 (by decide) rfl ?_
    refine z_lv (lv2 := [some (.ref b), some (.int (nI j)), some (.ref (b + 3 + 14 * j + 2)), some (.int (nI (v + 1))), some (.ref (b + 3 + 14 * (v + 1)))]) (fun _ _ q => q) ?_
    refine z_aload X d_T_mergeKept_32 rfl ?_
    refine z_get X (h3 (v + 1) (by omega)) rfl in_N 1 (by decide) (wq lf_T_51) rfl d_T_mergeKept_34 ?_
    refine z_iload_n X d_T_mergeKept_37 rfl ?_
    refine z_icmp_ne X d_T_mergeKept_38 (tgt := 69) (by decide) (fun hA => ?_) (fun hA => ?_)
    · skip
      refine z_iincU X d_T_mergeKept_69 rfl (by decide) rfl ?_
      refine z_lv (lv2 := [some (.ref b), some (.int (nI j)), some (.ref (b + 3 + 14 * j + 2)), some (.int (nI (v + 1 + 1))), some (.ref (b + 3 + 14 * (v + 1)))]) (fun _ _ q => q) ?_
      refine z_goto X d_T_mergeKept_72 (tgt := 16) (by decide) ?_
      refine z_drop 4 ?_
      exact z_at (ih k9 ⟨by simp only [mks]; rw [if_neg (fun q => hA q.1)]; exact hS9, hf⟩) rfl rfl
    · skip
      refine z_aload X d_T_mergeKept_41 rfl ?_
      refine z_get X (h3 (v + 1) (by omega)) rfl in_N 8 (by decide) (wq lf_T_108) rfl d_T_mergeKept_43 ?_
      refine z_if_le X d_T_mergeKept_46 (tgt := 69) (by decide) (fun hB => ?_) (fun hB => ?_)
      · skip
        refine z_iincU X d_T_mergeKept_69 rfl (by decide) rfl ?_
        refine z_lv (lv2 := [some (.ref b), some (.int (nI j)), some (.ref (b + 3 + 14 * j + 2)), some (.int (nI (v + 1 + 1))), some (.ref (b + 3 + 14 * (v + 1)))]) (fun _ _ q => q) ?_
        refine z_goto X d_T_mergeKept_72 (tgt := 16) (by decide) ?_
        refine z_drop 4 ?_
        exact z_at (ih k9 ⟨by simp only [mks]; rw [if_neg (fun q => i32_le_n hB q.2.1)]; exact hS9, hf⟩) rfl rfl
      · skip
        refine z_aload X d_T_mergeKept_49 rfl ?_
        refine z_get X (h3 (v + 1) (by omega)) rfl in_N 7 (by decide) (wq lf_T_111) rfl d_T_mergeKept_51 ?_
        refine z_get X (h6 (v + 1) (by omega)).1 rfl in_S 0 (by decide) (wq lf_T_120) rfl d_T_mergeKept_54 ?_
        refine z_if_le X d_T_mergeKept_57 (tgt := 69) (by decide) (fun hE => ?_) (fun hE => ?_)
        · skip
          refine z_iincU X d_T_mergeKept_69 rfl (by decide) rfl ?_
          refine z_lv (lv2 := [some (.ref b), some (.int (nI j)), some (.ref (b + 3 + 14 * j + 2)), some (.int (nI (v + 1 + 1))), some (.ref (b + 3 + 14 * (v + 1)))]) (fun _ _ q => q) ?_
          refine z_goto X d_T_mergeKept_72 (tgt := 16) (by decide) ?_
          refine z_drop 4 ?_
          exact z_at (ih k9 ⟨by simp only [mks]; rw [if_neg (fun q => i32_le_n hE q.2.2)]; exact hS9, hf⟩) rfl rfl
        · skip
          refine z_aload_n X d_T_mergeKept_60 rfl ?_
          refine z_aload X d_T_mergeKept_61 rfl ?_
          refine z_get X (h3 (v + 1) (by omega)) rfl in_N 7 (by decide) (wq lf_T_111) rfl d_T_mergeKept_63 ?_
          have nv : nS (mks kk dv F Sk (nI j) (clS (Sn j)) v) := nS_mks (nS_clS _) v (fun i hi => (hN i (by omega)).2.1)
          refine z_callVv X (c_S_merge hS9 nv (h6 (v + 1) (by omega)) (hN (v + 1) (by omega)).2.1 (by omega) hk6 hd) hS9.1 rfl (cwV 1 X.1.2.2.2.2 (gi_V lm_T_175 vi_S_merge ve_S_merge vn_S vc_S_merge) rfl rfl rfl (by decide +kernel) ⟨Nat.le_of_ble_eq_true rfl, Nat.le_of_ble_eq_true rfl⟩) (As := [.ref (b + 3 + 14 * (v + 1) + 8)]) (st := []) rfl rfl (Nat.le_of_ble_eq_true rfl) d_T_mergeKept_66 ⟨Nat.le_of_ble_eq_true rfl, Nat.le_of_ble_eq_true rfl⟩ (fun k2 hq => ?_)
          obtain ⟨hS2, hf2⟩ := hq
          refine z_iincU X d_T_mergeKept_69 rfl (by decide) rfl ?_
          refine z_lv (lv2 := [some (.ref b), some (.int (nI j)), some (.ref (b + 3 + 14 * j + 2)), some (.int (nI (v + 1 + 1))), some (.ref (b + 3 + 14 * (v + 1)))]) (fun _ _ q => q) ?_
          refine z_goto X d_T_mergeKept_72 (tgt := 16) (by decide) ?_
          refine z_drop 4 ?_
          exact z_at (ih k2 ⟨by simp only [mks]; rw [if_pos ⟨hA, i32_nle hB, i32_nle hE⟩]; exact hS2, fun q hq => (hf2 q hq).trans (hf q hq)⟩) rfl rfl
set_option maxHeartbeats 4000000 in
set_option maxRecDepth 100000 in
/-- T_crash -/
theorem c_T_crash {kk nc : Nat} {dv lm : Int32} {F : Cf} {op : Nat → Nat → Int32} {oc : Nat → Nat} {Sn Sk Sm : Nat → Sv} {x : Int32} (hC : CW tI tN tM b N k kk dv nc lm F op oc Sn Sk Sm) (hnc : nc ≤ 12) (hn1 : 1 ≤ nc) (hN : ∀ j, j < 12 → nS (Sn j) ∧ nS (Sk j) ∧ nS (Sm j)) (hk6 : kk ≤ 6) (hd : ¬ dv = 0)  : Met l y_T_crash (wy y_T_crash b_T_crash 2 (some .boolean)) (rm 5 0 0) (zPc D (tyl tI tZ tN tM) b N k [.ref b, .int x]) (zQi D b N (fun z k2 => (isn nc x = true → z = 1 ∧ (¬ F 1 x.toNatClampNeg = 0 → CW tI tN tM b N k2 kk dv nc lm F op (va_up oc x.toNatClampNeg 0) Sn Sk Sm) ∧ (¬ ¬ F 1 x.toNatClampNeg = 0 → CW tI tN tM b N k2 kk dv nc lm (fgt F x (nc - 1)) op oc (va_up Sn x.toNatClampNeg (mks kk dv (fgt F x (nc - 1)) Sk x (clS (Sn x.toNatClampNeg)) (nc - 1))) Sk Sm) ∧ ∀ q, b + 255 ≤ q → k2 q = k q) ∧ (¬ (isn nc x = true) → z = 0 ∧ k2 = k))) 0 0 (zA b) := by
  refine z_met (own := R_T) (by decide) rfl rfl (Nat.le_of_ble_eq_true rfl) [some (.ref b), some (.int x)] rfl ?_
  intro p e s m args below meth c X hin
  have ⟨h0, ⟨g1, h1, e1⟩, ⟨g2, h2, e2⟩, h3, h4, h5, h6, h7, h8⟩ := hC
  refine z_aload_n X d_T_crash_0 rfl ?_
  refine z_iload_n X d_T_crash_1 rfl ?_
  refine z_callVi X (c_T_isNode hC hnc) h0 rfl (cwV 1 X.1.2.2.2.2 (gi_V lm_T_43 vi_T_isNode ve_T_isNode vn_T vc_T_isNode) rfl rfl rfl (by decide +kernel) ⟨Nat.le_of_ble_eq_true rfl, Nat.le_of_ble_eq_true rfl⟩) (As := [.int x]) (st := []) rfl rfl (Nat.le_of_ble_eq_true rfl) d_T_crash_2 ⟨Nat.le_of_ble_eq_true rfl, Nat.le_of_ble_eq_true rfl⟩ (fun z k2 hq => ?_)
  obtain ⟨rfl, hk9⟩ := hq
  have hk9 := hk9.symm
  subst hk9
  cases hx : isn nc x
  · skip
    refine z_if_neN X d_T_crash_5 (tgt := 10) (by decide) (by decide) (fun h => absurd h (by decide)) (fun _ => ?_)
    refine z_iconst X d_T_crash_8 (v := nI 0) (by decide +kernel) ?_
    exact z_zret X d_T_crash_9 (by decide) (by omega) (by omega) (⟨fun q => absurd q (by simp), fun _ => ⟨rfl, rfl⟩⟩)
  · skip
    refine z_if_neN X d_T_crash_5 (tgt := 10) (by decide) (by decide) (fun _ => ?_) (fun h => absurd h (by decide))
    obtain ⟨j, hj, rfl⟩ := isn_t (by omega) hx
    refine z_lv (lv2 := [some (.ref b), some (.int (nI j))]) (fun _ _ q => q) ?_
    rw [nI_clamp (by omega)]
    have hfr : ∀ q, b + 255 ≤ q → k q = k q := fun _ _ => rfl
    refine z_aload_n X d_T_crash_10 rfl ?_
    refine z_get X h0 rfl in_T 0 (by decide) (wq lf_T_11) rfl d_T_crash_11 ?_
    refine z_iload_n X d_T_crash_14 rfl ?_
    refine z_aald X h1 2 rfl (j := j) (v := b + 3 + 14 * j) rfl (by omega) (by omega) (e1 _ (by omega)) d_T_crash_15 ?_
    refine z_get X (h3 j (by omega)) rfl in_N 2 (by decide) (wq lf_T_47) rfl d_T_crash_16 ?_
    refine z_if_eq X d_T_crash_19 (tgt := 35) (by decide) (fun hB => ?_) (fun hB => ?_)
    · skip
      refine z_aload_n X d_T_crash_35 rfl ?_
      refine z_iload_n X d_T_crash_36 rfl ?_
      refine z_callVv X (c_T_forgetChildren hC hnc hn1) h0 rfl (cwV 1 X.1.2.2.2.2 (gi_V lm_T_74 vi_T_forgetChildren ve_T_forgetChildren vn_T vc_T_forgetChildren) rfl rfl rfl (by decide +kernel) ⟨Nat.le_of_ble_eq_true rfl, Nat.le_of_ble_eq_true rfl⟩) (As := [.int (nI j)]) (st := []) rfl rfl (Nat.le_of_ble_eq_true rfl) d_T_crash_37 ⟨Nat.le_of_ble_eq_true rfl, Nat.le_of_ble_eq_true rfl⟩ (fun k1 hq => ?_)
      obtain ⟨hC1, hfr1⟩ := hq
      have h01 := hC1.1
      refine z_aload_n X d_T_crash_40 rfl ?_
      refine z_iload_n X d_T_crash_41 rfl ?_
      refine z_callVv X (c_T_mergeKept hC1 hnc (by omega) hn1 hN hk6 hd) h01 rfl (cwV 1 X.1.2.2.2.2 (gi_V lm_T_77 vi_T_mergeKept ve_T_mergeKept vn_T vc_T_mergeKept) rfl rfl rfl (by decide +kernel) ⟨Nat.le_of_ble_eq_true rfl, Nat.le_of_ble_eq_true rfl⟩) (As := [.int (nI j)]) (st := []) rfl rfl (Nat.le_of_ble_eq_true rfl) d_T_crash_42 ⟨Nat.le_of_ble_eq_true rfl, Nat.le_of_ble_eq_true rfl⟩ (fun k2 hq => ?_)
      obtain ⟨hC2, hfr2⟩ := hq
      refine z_iconst X d_T_crash_45 (v := nI 1) (by decide +kernel) ?_
      exact z_zret X d_T_crash_46 (by decide) (by omega) (by omega) (⟨fun _ => ⟨rfl, fun q => absurd hB q, fun _ => hC2, fun q hq => (hfr2 q hq).trans (hfr1 q hq)⟩, fun q => absurd rfl q⟩)
    · skip
      refine z_aload_n X d_T_crash_22 rfl ?_
      refine z_get X h0 rfl in_T 0 (by decide) (wq lf_T_11) rfl d_T_crash_23 ?_
      refine z_iload_n X d_T_crash_26 rfl ?_
      refine z_aald X h1 2 rfl (j := j) (v := b + 3 + 14 * j) rfl (by omega) (by omega) (e1 _ (by omega)) d_T_crash_27 ?_
      refine z_iconst X d_T_crash_28 (v := nI 0) (by decide +kernel) ?_
      refine z_put X (h3 j (by omega)) rfl in_N ty_N_ok n_N 4 (by decide) (wq lf_T_71) rfl rfl rfl (Nat.le_of_ble_eq_true rfl) d_T_crash_29 ?_
      refine z_named (fun k_1 hk9 => ?_)
      have hC := hC.putOc (j := j) (x := 0) (by omega) hk9
      have hfr : ∀ q, b + 255 ≤ q → k_1 q = k q := fun q hq => by rw [hk9]; exact (up_ne (by omega)).trans (hfr q hq)
      clear hk9
      have ⟨h0, ⟨g1, h1, e1⟩, ⟨g2, h2, e2⟩, h3, h4, h5, h6, h7, h8⟩ := hC
      refine z_goto X d_T_crash_32 (tgt := 45) (by decide) ?_
      refine z_iconst X d_T_crash_45 (v := nI 1) (by decide +kernel) ?_
      exact z_zret X d_T_crash_46 (by decide) (by omega) (by omega) (⟨fun _ => ⟨rfl, fun _ => hC, fun q => absurd hB q, hfr⟩, fun q => absurd rfl q⟩)
set_option maxHeartbeats 4000000 in
set_option maxRecDepth 100000 in
/-- T_drop -/
theorem c_T_drop {kk nc : Nat} {dv lm : Int32} {F : Cf} {op : Nat → Nat → Int32} {oc : Nat → Nat} {Sn Sk Sm : Nat → Sv} {x : Int32} (hC : CW tI tN tM b N k kk dv nc lm F op oc Sn Sk Sm) (hnc : nc ≤ 12)  : Met l y_T_drop (wy y_T_drop b_T_drop 3 (some .boolean)) (rm 2 0 0) (zPc D (tyl tI tZ tN tM) b N k [.ref b, .int x]) (zQi D b N (fun z k2 => (0 ≤ so (F 4) x → z = 1 ∧ CW tI tN tM b N k2 kk dv nc lm (fU F 4 (so (F 4) x).toNatClampNeg 0) op oc Sn Sk Sm ∧ ∀ q, b + 255 ≤ q → k2 q = k q) ∧ (¬ (0 ≤ so (F 4) x) → z = 0 ∧ k2 = k))) 0 0 (zA b) := by
  refine z_met (own := R_T) (by decide) rfl rfl (Nat.le_of_ble_eq_true rfl) [some (.ref b), some (.int x), none] rfl ?_
  intro p e s m args below meth c X hin
  have ⟨h0, ⟨g1, h1, e1⟩, ⟨g2, h2, e2⟩, h3, h4, h5, h6, h7, h8⟩ := hC
  refine z_aload_n X d_T_drop_0 rfl ?_
  refine z_iload_n X d_T_drop_1 rfl ?_
  refine z_callVi X (c_T_slotOf hC hnc) h0 rfl (cwV 1 X.1.2.2.2.2 (gi_V lm_T_94 vi_T_slotOf ve_T_slotOf vn_T vc_T_slotOf) rfl rfl rfl (by decide +kernel) ⟨Nat.le_of_ble_eq_true rfl, Nat.le_of_ble_eq_true rfl⟩) (As := [.int x]) (st := []) rfl rfl (Nat.le_of_ble_eq_true rfl) d_T_drop_2 ⟨Nat.le_of_ble_eq_true rfl, Nat.le_of_ble_eq_true rfl⟩ (fun z k2 hq => ?_)
  obtain ⟨rfl, hk9⟩ := hq
  have hk9 := hk9.symm
  subst hk9
  have hfr : ∀ q, b + 255 ≤ q → k q = k q := fun _ _ => rfl
  rcases so_cases (F 4) x with hs | ⟨p, hp, hs, hq⟩
  · rw [hs]
    refine z_istore_n X d_T_drop_5 (by decide) rfl ?_
    refine z_lv (lv2 := [some (.ref b), some (.int x), some (.int (-1))]) (fun _ _ q => q) ?_
    refine z_iload_n X d_T_drop_6 rfl ?_
    refine z_if_ge X d_T_drop_7 (tgt := 12) (by decide) (fun h => absurd h (by decide)) (fun _ => ?_)
    refine z_iconst X d_T_drop_10 (v := nI 0) (by decide +kernel) ?_
    exact z_zret X d_T_drop_11 (by decide) (by omega) (by omega) (⟨fun q => absurd q (by decide), fun _ => ⟨rfl, rfl⟩⟩)
  · rw [hs]
    rw [nI_clamp (by omega)]
    refine z_istore_n X d_T_drop_5 (by decide) rfl ?_
    refine z_lv (lv2 := [some (.ref b), some (.int x), some (.int (nI p))]) (fun _ _ q => q) ?_
    refine z_iload_n X d_T_drop_6 rfl ?_
    refine z_if_geN X d_T_drop_7 (tgt := 12) (by decide) (by omega) (fun _ => ?_) (fun h => absurd h (by omega))
    refine z_aload_n X d_T_drop_12 rfl ?_
    refine z_get X h0 rfl in_T 2 (by decide) (wq lf_T_21) rfl d_T_drop_13 ?_
    refine z_iload_n X d_T_drop_16 rfl ?_
    refine z_aald X h2 3 rfl (j := p) (v := b + 171 + 7 * p) rfl (by omega) (by omega) (e2 _ (by omega)) d_T_drop_17 ?_
    refine z_iconst X d_T_drop_18 (v := nI 0) (by decide +kernel) ?_
    refine z_put X (h7 p (by omega)) rfl in_M ty_M_ok n_M 0 (by decide) (wq lf_T_105) rfl rfl rfl (Nat.le_of_ble_eq_true rfl) d_T_drop_19 ?_
    refine z_named (fun k_1 hk9 => ?_)
    have hC := hC.put4 (p := p) (x := 0) hp hk9
    have hfr : ∀ q, b + 255 ≤ q → k_1 q = k q := fun q hq => by rw [hk9]; exact (up_ne (by omega)).trans (hfr q hq)
    clear hk9
    have ⟨h0, ⟨g1, h1, e1⟩, ⟨g2, h2, e2⟩, h3, h4, h5, h6, h7, h8⟩ := hC
    refine z_iconst X d_T_drop_22 (v := nI 1) (by decide +kernel) ?_
    exact z_zret X d_T_drop_23 (by decide) (by omega) (by omega) (⟨fun _ => ⟨rfl, hC, hfr⟩, fun q => absurd (nI_pos' (by omega)) q⟩)
set_option maxHeartbeats 4000000 in
set_option maxRecDepth 100000 in
/-- T_report -/
theorem c_T_report {kk nc : Nat} {dv lm : Int32} {F : Cf} {op : Nat → Nat → Int32} {oc : Nat → Nat} {Sn Sk Sm : Nat → Sv} {x : Int32} (hC : CW tI tN tM b N k kk dv nc lm F op oc Sn Sk Sm) (hnc : nc ≤ 12) (hN : ∀ j, j < 12 → nS (Sn j) ∧ nS (Sk j) ∧ nS (Sm j))  : Met l y_T_report (wy y_T_report b_T_report 3 (some .int)) (rm 3 0 0) (zPc D (tyl tI tZ tN tM) b N k [.ref b, .int x]) (zQi D b N (fun z k2 => (isn nc x = true ∧ ¬ F 0 x.toNatClampNeg = -1 ∧ 0 ≤ sw (F 4) (nI 0) 12 → z = lm + 1 ∧ CW tI tN tM b N k2 kk dv nc (lm + 1) (fU (fU (fU (fU F 2 x.toNatClampNeg (F 2 x.toNatClampNeg + 1)) 4 (sw (F 4) (nI 0) 12).toNatClampNeg (lm + 1)) 5 (sw (F 4) (nI 0) 12).toNatClampNeg x) 6 (sw (F 4) (nI 0) 12).toNatClampNeg (F 2 x.toNatClampNeg + 1)) op oc Sn Sk (va_up Sm (sw (F 4) (nI 0) 12).toNatClampNeg (Sn x.toNatClampNeg)) ∧ ∀ q, b + 255 ≤ q → k2 q = k q) ∧ (¬ (isn nc x = true ∧ ¬ F 0 x.toNatClampNeg = -1 ∧ 0 ≤ sw (F 4) (nI 0) 12) → z = -1 ∧ k2 = k))) 0 0 (zA b) := by
  refine z_met (own := R_T) (by decide) rfl rfl (Nat.le_of_ble_eq_true rfl) [some (.ref b), some (.int x), none] rfl ?_
  intro p e s m args below meth c X hin
  have ⟨h0, ⟨g1, h1, e1⟩, ⟨g2, h2, e2⟩, h3, h4, h5, h6, h7, h8⟩ := hC
  refine z_aload_n X d_T_report_0 rfl ?_
  refine z_callVi X (c_T_freeSlot hC hnc) h0 rfl (cwV 0 X.1.2.2.2.2 (gi_V lm_T_80 vi_T_freeSlot ve_T_freeSlot vn_T vc_T_freeSlot) rfl rfl rfl (by decide +kernel) ⟨Nat.le_of_ble_eq_true rfl, Nat.le_of_ble_eq_true rfl⟩) (As := []) (st := []) rfl rfl (Nat.le_of_ble_eq_true rfl) d_T_report_1 ⟨Nat.le_of_ble_eq_true rfl, Nat.le_of_ble_eq_true rfl⟩ (fun z k2 hq => ?_)
  obtain ⟨rfl, hk9⟩ := hq
  have hk9 := hk9.symm
  subst hk9
  have hfr : ∀ q, b + 255 ≤ q → k q = k q := fun _ _ => rfl
  refine z_istore_n X d_T_report_4 (by decide) rfl ?_
  refine z_lv (lv2 := [some (.ref b), some (.int x), some (.int (sw (F 4) (nI 0) 12))]) (fun _ _ q => q) ?_
  refine z_aload_n X d_T_report_5 rfl ?_
  refine z_iload_n X d_T_report_6 rfl ?_
  refine z_callVi X (c_T_isNode hC hnc) h0 rfl (cwV 1 X.1.2.2.2.2 (gi_V lm_T_43 vi_T_isNode ve_T_isNode vn_T vc_T_isNode) rfl rfl rfl (by decide +kernel) ⟨Nat.le_of_ble_eq_true rfl, Nat.le_of_ble_eq_true rfl⟩) (As := [.int x]) (st := []) rfl rfl (Nat.le_of_ble_eq_true rfl) d_T_report_7 ⟨Nat.le_of_ble_eq_true rfl, Nat.le_of_ble_eq_true rfl⟩ (fun z k2 hq => ?_)
  obtain ⟨rfl, hk9⟩ := hq
  have hk9 := hk9.symm
  subst hk9
  cases hx : isn nc x
  · skip
    refine z_if_eqN X d_T_report_10 (tgt := 30) (by decide) (by decide) (fun _ => ?_) (fun h => absurd h (by decide))
    refine z_iconst X d_T_report_30 (v := -1) (by decide +kernel) ?_
    exact z_iret X d_T_report_31 (by omega) (by omega) (⟨fun q => absurd q (by simp), fun _ => ⟨rfl, rfl⟩⟩)
  · skip
    refine z_if_eqN X d_T_report_10 (tgt := 30) (by decide) (by decide) (fun h => absurd h (by decide)) (fun _ => ?_)
    obtain ⟨j, hj, rfl⟩ := isn_t (by omega) hx
    refine z_lv (lv2 := [some (.ref b), some (.int (nI j)), some (.int (sw (F 4) (nI 0) 12))]) (fun _ _ q => q) ?_
    rw [nI_clamp (n := j) (by omega)]
    refine z_aload_n X d_T_report_13 rfl ?_
    refine z_get X h0 rfl in_T 0 (by decide) (wq lf_T_11) rfl d_T_report_14 ?_
    refine z_iload_n X d_T_report_17 rfl ?_
    refine z_aald X h1 2 rfl (j := j) (v := b + 3 + 14 * j) rfl (by omega) (by omega) (e1 _ (by omega)) d_T_report_18 ?_
    refine z_get X (h3 j (by omega)) rfl in_N 1 (by decide) (wq lf_T_51) rfl d_T_report_19 ?_
    refine z_iconst X d_T_report_22 (v := -1) (by decide +kernel) ?_
    refine z_icmp_eq X d_T_report_23 (tgt := 30) (by decide) (fun hB => ?_) (fun hB => ?_)
    · skip
      refine z_iconst X d_T_report_30 (v := -1) (by decide +kernel) ?_
      exact z_iret X d_T_report_31 (by omega) (by omega) (⟨fun q => absurd q (fun q => q.2.1 hB), fun _ => ⟨rfl, rfl⟩⟩)
    · skip
      rcases sw_cases (F 4) (nI 0) 12 (by omega) with ⟨hs, -⟩ | ⟨p, hp, hs, hq⟩
      · rw [hs]
        refine z_lv (lv2 := [some (.ref b), some (.int (nI j)), some (.int (-1))]) (fun _ _ q => q) ?_
        refine z_iload_n X d_T_report_26 rfl ?_
        refine z_if_ge X d_T_report_27 (tgt := 32) (by decide) (fun h => absurd h (by decide)) (fun _ => ?_)
        refine z_iconst X d_T_report_30 (v := -1) (by decide +kernel) ?_
        exact z_iret X d_T_report_31 (by omega) (by omega) (⟨fun q => absurd q (fun q => absurd q.2.2 (by decide)), fun _ => ⟨rfl, rfl⟩⟩)
      · rw [hs, nI_clamp (n := p) (by omega)]
        refine z_lv (lv2 := [some (.ref b), some (.int (nI j)), some (.int (nI p))]) (fun _ _ q => q) ?_
        refine z_iload_n X d_T_report_26 rfl ?_
        refine z_if_geN X d_T_report_27 (tgt := 32) (by decide) (by omega) (fun _ => ?_) (fun h => absurd h (by omega))
        refine z_aload_n X d_T_report_32 rfl ?_
        refine z_get X h0 rfl in_T 0 (by decide) (wq lf_T_11) rfl d_T_report_33 ?_
        refine z_iload_n X d_T_report_36 rfl ?_
        refine z_aald X h1 2 rfl (j := j) (v := b + 3 + 14 * j) rfl (by omega) (by omega) (e1 _ (by omega)) d_T_report_37 ?_
        refine z_dup X d_T_report_38 rfl ?_
        refine z_get X (h3 j (by omega)) rfl in_N 5 (by decide) (wq lf_T_83) rfl d_T_report_39 ?_
        refine z_iconst X d_T_report_42 (v := nI 1) (by decide +kernel) ?_
        refine z_iadd X d_T_report_43 ?_
        refine z_put X (h3 j (by omega)) rfl in_N ty_N_ok n_N 5 (by decide) (wq lf_T_83) rfl rfl rfl (Nat.le_of_ble_eq_true rfl) d_T_report_44 ?_
        refine z_named (fun k_1 hk9 => ?_)
        have hC := hC.put2 (j := j) (x := F 2 j + nI 1) (by omega) hk9
        have hfr : ∀ q, b + 255 ≤ q → k_1 q = k q := fun q hq => by rw [hk9]; exact (up_ne (by omega)).trans (hfr q hq)
        clear hk9
        have ⟨h0, ⟨g1, h1, e1⟩, ⟨g2, h2, e2⟩, h3, h4, h5, h6, h7, h8⟩ := hC
        refine z_aload_n X d_T_report_47 rfl ?_
        refine z_dup X d_T_report_48 rfl ?_
        refine z_get X h0 rfl in_T 3 (by decide) (wq lf_T_25) rfl d_T_report_49 ?_
        refine z_iconst X d_T_report_52 (v := nI 1) (by decide +kernel) ?_
        refine z_iadd X d_T_report_53 ?_
        refine z_put X h0 rfl in_T ty_T_ok n_T 3 (by decide) (wq lf_T_25) rfl rfl rfl (Nat.le_of_ble_eq_true rfl) d_T_report_54 ?_
        refine z_named (fun k_2 hk9 => ?_)
        have hC := hC.putT (nc2 := nc) (lm2 := lm + nI 1) hk9
        have hfr : ∀ q, b + 255 ≤ q → k_2 q = k q := fun q hq => by rw [hk9]; exact (up_ne (by omega)).trans (hfr q hq)
        clear hk9
        have ⟨h0, ⟨g1, h1, e1⟩, ⟨g2, h2, e2⟩, h3, h4, h5, h6, h7, h8⟩ := hC
        refine z_aload_n X d_T_report_57 rfl ?_
        refine z_get X h0 rfl in_T 2 (by decide) (wq lf_T_21) rfl d_T_report_58 ?_
        refine z_iload_n X d_T_report_61 rfl ?_
        refine z_aald X h2 3 rfl (j := p) (v := b + 171 + 7 * p) rfl (by omega) (by omega) (e2 _ (by omega)) d_T_report_62 ?_
        refine z_aload_n X d_T_report_63 rfl ?_
        refine z_get X h0 rfl in_T 3 (by decide) (wq lf_T_25) rfl d_T_report_64 ?_
        refine z_iload_n X d_T_report_67 rfl ?_
        refine z_aload_n X d_T_report_68 rfl ?_
        refine z_get X h0 rfl in_T 0 (by decide) (wq lf_T_11) rfl d_T_report_69 ?_
        refine z_iload_n X d_T_report_72 rfl ?_
        refine z_aald X h1 2 rfl (j := j) (v := b + 3 + 14 * j) rfl (by omega) (by omega) (e1 _ (by omega)) d_T_report_73 ?_
        refine z_get X (h3 j (by omega)) rfl in_N 5 (by decide) (wq lf_T_83) rfl d_T_report_74 ?_
        refine z_top (y := .int (F 2 j + nI 1)) (by rw [fU_eq]) ?_
        refine z_aload_n X d_T_report_77 rfl ?_
        refine z_get X h0 rfl in_T 0 (by decide) (wq lf_T_11) rfl d_T_report_78 ?_
        refine z_iload_n X d_T_report_81 rfl ?_
        refine z_aald X h1 2 rfl (j := j) (v := b + 3 + 14 * j) rfl (by omega) (by omega) (e1 _ (by omega)) d_T_report_82 ?_
        refine z_get X (h3 j (by omega)) rfl in_N 6 (by decide) (wq lf_T_86) rfl d_T_report_83 ?_
        refine z_callVv X (c_M_send (h7 p hp) (h8 p hp) (hN p hp).2.2 (h5 j (by omega)) (hN j (by omega)).1 (by omega)) (h7 p (by omega)) rfl (cwV 4 X.1.2.2.2.2 (gi_V lm_T_90 vi_M_send ve_M_send vn_M vc_M_send) rfl rfl rfl (by decide +kernel) ⟨Nat.le_of_ble_eq_true rfl, Nat.le_of_ble_eq_true rfl⟩) (As := [.int (lm + nI 1), .int (nI j), .int (F 2 j + nI 1), .ref (b + 3 + 14 * j + 2)]) (st := []) rfl rfl (Nat.le_of_ble_eq_true rfl) d_T_report_86 ⟨Nat.le_of_ble_eq_true rfl, Nat.le_of_ble_eq_true rfl⟩ (fun k2 hq => ?_)
        obtain ⟨q0, q1, q2⟩ := hq
        have hC2 := hC.setM hp q0 q1 q2
        have h02 := hC2.1
        refine z_aload_n X d_T_report_89 rfl ?_
        refine z_get X h02 rfl in_T 3 (by decide) (wq lf_T_25) rfl d_T_report_90 ?_
        rw [nI_one] at *
        exact z_iret X d_T_report_93 (by omega) (by omega) (⟨fun _ => ⟨rfl, hC2, fun q hq => (q2 q (by omega)).trans (hfr q hq)⟩, fun q => absurd ⟨rfl, hB, nI_pos' (by omega)⟩ q⟩)
end
end
section
/-! Contracts: the tree's changes, 3 -/
section
variable {l : Launch} {D : va_G} {tI tZ tN tM : ClassId} {b N : Nat} {k : Nat → va_E}
set_option maxHeartbeats 4000000 in
set_option maxRecDepth 100000 in
/-- T_copy -/
theorem c_T_copy {kk nc : Nat} {dv lm : Int32} {F : Cf} {op : Nat → Nat → Int32} {oc : Nat → Nat} {Sn Sk Sm : Nat → Sv} {x : Int32} (hC : CW tI tN tM b N k kk dv nc lm F op oc Sn Sk Sm) (hnc : nc ≤ 12) (hN : ∀ j, j < 12 → nS (Sn j) ∧ nS (Sk j) ∧ nS (Sm j))  : Met l y_T_copy (wy y_T_copy b_T_copy 5 (some .int)) (rm 3 0 0) (zPc D (tyl tI tZ tN tM) b N k [.ref b, .int x]) (zQi D b N (fun z k2 => (0 ≤ so (F 4) x ∧ 0 ≤ sw (F 4) (nI 0) 12 → z = lm + 1 ∧ CW tI tN tM b N k2 kk dv nc (lm + 1) (fU (fU (fU F 4 (sw (F 4) (nI 0) 12).toNatClampNeg (lm + 1)) 5 (sw (F 4) (nI 0) 12).toNatClampNeg (F 5 (so (F 4) x).toNatClampNeg)) 6 (sw (F 4) (nI 0) 12).toNatClampNeg (F 6 (so (F 4) x).toNatClampNeg)) op oc Sn Sk (va_up Sm (sw (F 4) (nI 0) 12).toNatClampNeg (Sm (so (F 4) x).toNatClampNeg)) ∧ ∀ q, b + 255 ≤ q → k2 q = k q) ∧ (¬ (0 ≤ so (F 4) x ∧ 0 ≤ sw (F 4) (nI 0) 12) → z = -1 ∧ k2 = k))) 0 0 (zA b) := by
  refine z_met (own := R_T) (by decide) rfl rfl (Nat.le_of_ble_eq_true rfl) [some (.ref b), some (.int x), none, none, none] rfl ?_
  intro p e s m args below meth c X hin
  have ⟨h0, ⟨g1, h1, e1⟩, ⟨g2, h2, e2⟩, h3, h4, h5, h6, h7, h8⟩ := hC
  refine z_aload_n X d_T_copy_0 rfl ?_
  refine z_iload_n X d_T_copy_1 rfl ?_
  refine z_callVi X (c_T_slotOf hC hnc) h0 rfl (cwV 1 X.1.2.2.2.2 (gi_V lm_T_94 vi_T_slotOf ve_T_slotOf vn_T vc_T_slotOf) rfl rfl rfl (by decide +kernel) ⟨Nat.le_of_ble_eq_true rfl, Nat.le_of_ble_eq_true rfl⟩) (As := [.int x]) (st := []) rfl rfl (Nat.le_of_ble_eq_true rfl) d_T_copy_2 ⟨Nat.le_of_ble_eq_true rfl, Nat.le_of_ble_eq_true rfl⟩ (fun z k2 hq => ?_)
  obtain ⟨rfl, hk9⟩ := hq
  have hk9 := hk9.symm
  subst hk9
  refine z_istore_n X d_T_copy_5 (by decide) rfl ?_
  refine z_lv (lv2 := [some (.ref b), some (.int x), some (.int (so (F 4) x)), none, none]) (fun _ _ q => q) ?_
  refine z_aload_n X d_T_copy_6 rfl ?_
  refine z_callVi X (c_T_freeSlot hC hnc) h0 rfl (cwV 0 X.1.2.2.2.2 (gi_V lm_T_80 vi_T_freeSlot ve_T_freeSlot vn_T vc_T_freeSlot) rfl rfl rfl (by decide +kernel) ⟨Nat.le_of_ble_eq_true rfl, Nat.le_of_ble_eq_true rfl⟩) (As := []) (st := []) rfl rfl (Nat.le_of_ble_eq_true rfl) d_T_copy_7 ⟨Nat.le_of_ble_eq_true rfl, Nat.le_of_ble_eq_true rfl⟩ (fun z k2 hq => ?_)
  obtain ⟨rfl, hk9⟩ := hq
  have hk9 := hk9.symm
  subst hk9
  have hfr : ∀ q, b + 255 ≤ q → k q = k q := fun _ _ => rfl
  refine z_istore_n X d_T_copy_10 (by decide) rfl ?_
  refine z_lv (lv2 := [some (.ref b), some (.int x), some (.int (so (F 4) x)), some (.int (sw (F 4) (nI 0) 12)), none]) (fun _ _ q => q) ?_
  rcases so_cases (F 4) x with hs | ⟨o, ho, hs, hq1, hq2⟩
  · rw [hs]
    refine z_lv (lv2 := [some (.ref b), some (.int x), some (.int (-1)), some (.int (sw (F 4) (nI 0) 12)), none]) (fun _ _ q => q) ?_
    refine z_iload_n X d_T_copy_11 rfl ?_
    refine z_if_lt X d_T_copy_12 (tgt := 19) (by decide) (fun _ => ?_) (fun h => absurd h (by decide))
    refine z_iconst X d_T_copy_19 (v := -1) (by decide +kernel) ?_
    exact z_iret X d_T_copy_20 (by omega) (by omega) (⟨fun q => absurd q (fun q => absurd q.1 (by decide)), fun _ => ⟨rfl, rfl⟩⟩)
  · rw [hs]
    rcases sw_cases (F 4) (nI 0) 12 (by omega) with ⟨hs2, -⟩ | ⟨p, hp, hs2, hq3⟩
    · rw [hs2]
      refine z_lv (lv2 := [some (.ref b), some (.int x), some (.int (nI o)), some (.int (-1)), none]) (fun _ _ q => q) ?_
      refine z_iload_n X d_T_copy_11 rfl ?_
      refine z_if_ltN X d_T_copy_12 (tgt := 19) (by decide) (by omega) (fun h => absurd h (by omega)) (fun _ => ?_)
      refine z_iload_n X d_T_copy_15 rfl ?_
      refine z_if_ge X d_T_copy_16 (tgt := 21) (by decide) (fun h => absurd h (by decide)) (fun _ => ?_)
      refine z_iconst X d_T_copy_19 (v := -1) (by decide +kernel) ?_
      exact z_iret X d_T_copy_20 (by omega) (by omega) (⟨fun q => absurd q (fun q => absurd q.2 (by decide)), fun _ => ⟨rfl, rfl⟩⟩)
    · rw [hs2, nI_clamp (n := p) (by omega), nI_clamp (n := o) (by omega)]
      refine z_lv (lv2 := [some (.ref b), some (.int x), some (.int (nI o)), some (.int (nI p)), none]) (fun _ _ q => q) ?_
      have hop : o ≠ p := fun h => by subst h; rw [hq3] at hq1; rw [← hq1] at hq2; exact absurd hq2 (by decide)
      refine z_iload_n X d_T_copy_11 rfl ?_
      refine z_if_ltN X d_T_copy_12 (tgt := 19) (by decide) (by omega) (fun h => absurd h (by omega)) (fun _ => ?_)
      refine z_iload_n X d_T_copy_15 rfl ?_
      refine z_if_geN X d_T_copy_16 (tgt := 21) (by decide) (by omega) (fun _ => ?_) (fun h => absurd h (by omega))
      refine z_aload_n X d_T_copy_21 rfl ?_
      refine z_get X h0 rfl in_T 2 (by decide) (wq lf_T_21) rfl d_T_copy_22 ?_
      refine z_iload_n X d_T_copy_25 rfl ?_
      refine z_aald X h2 3 rfl (j := o) (v := b + 171 + 7 * o) rfl (by omega) (by omega) (e2 _ (by omega)) d_T_copy_26 ?_
      refine z_astore X d_T_copy_27 (by decide) rfl ?_
      refine z_lv (lv2 := [some (.ref b), some (.int x), some (.int (nI o)), some (.int (nI p)), some (.ref (b + 171 + 7 * o))]) (fun _ _ q => q) ?_
      refine z_aload_n X d_T_copy_29 rfl ?_
      refine z_dup X d_T_copy_30 rfl ?_
      refine z_get X h0 rfl in_T 3 (by decide) (wq lf_T_25) rfl d_T_copy_31 ?_
      refine z_iconst X d_T_copy_34 (v := nI 1) (by decide +kernel) ?_
      refine z_iadd X d_T_copy_35 ?_
      refine z_put X h0 rfl in_T ty_T_ok n_T 3 (by decide) (wq lf_T_25) rfl rfl rfl (Nat.le_of_ble_eq_true rfl) d_T_copy_36 ?_
      refine z_named (fun k_1 hk9 => ?_)
      have hC := hC.putT (nc2 := nc) (lm2 := lm + nI 1) hk9
      have hfr : ∀ q, b + 255 ≤ q → k_1 q = k q := fun q hq => by rw [hk9]; exact (up_ne (by omega)).trans (hfr q hq)
      clear hk9
      have ⟨h0, ⟨g1, h1, e1⟩, ⟨g2, h2, e2⟩, h3, h4, h5, h6, h7, h8⟩ := hC
      refine z_aload_n X d_T_copy_39 rfl ?_
      refine z_get X h0 rfl in_T 2 (by decide) (wq lf_T_21) rfl d_T_copy_40 ?_
      refine z_iload_n X d_T_copy_43 rfl ?_
      refine z_aald X h2 3 rfl (j := p) (v := b + 171 + 7 * p) rfl (by omega) (by omega) (e2 _ (by omega)) d_T_copy_44 ?_
      refine z_aload_n X d_T_copy_45 rfl ?_
      refine z_get X h0 rfl in_T 3 (by decide) (wq lf_T_25) rfl d_T_copy_46 ?_
      refine z_aload X d_T_copy_49 rfl ?_
      refine z_get X (h7 o (by omega)) rfl in_M 1 (by decide) (wq lf_T_98) rfl d_T_copy_51 ?_
      refine z_aload X d_T_copy_54 rfl ?_
      refine z_get X (h7 o (by omega)) rfl in_M 2 (by decide) (wq lf_T_101) rfl d_T_copy_56 ?_
      refine z_aload X d_T_copy_59 rfl ?_
      refine z_get X (h7 o (by omega)) rfl in_M 3 (by decide) (wq lf_T_104) rfl d_T_copy_61 ?_
      refine z_callVv X (c_M_send (h7 p hp) (h8 p hp) (hN p hp).2.2 (h8 o ho) (hN o ho).2.2 (by omega)) (h7 p (by omega)) rfl (cwV 4 X.1.2.2.2.2 (gi_V lm_T_90 vi_M_send ve_M_send vn_M vc_M_send) rfl rfl rfl (by decide +kernel) ⟨Nat.le_of_ble_eq_true rfl, Nat.le_of_ble_eq_true rfl⟩) (As := [.int (lm + nI 1), .int (F 5 o), .int (F 6 o), .ref (b + 171 + 7 * o + 1)]) (st := []) rfl rfl (Nat.le_of_ble_eq_true rfl) d_T_copy_64 ⟨Nat.le_of_ble_eq_true rfl, Nat.le_of_ble_eq_true rfl⟩ (fun k2 hq => ?_)
      obtain ⟨q0, q1, q2⟩ := hq
      have hC2 := hC.setM hp q0 q1 q2
      have h02 := hC2.1
      refine z_aload_n X d_T_copy_67 rfl ?_
      refine z_get X h02 rfl in_T 3 (by decide) (wq lf_T_25) rfl d_T_copy_68 ?_
      rw [nI_one] at *
      exact z_iret X d_T_copy_71 (by omega) (by omega) (⟨fun _ => ⟨rfl, hC2, fun q hq => (q2 q (by omega)).trans (hfr q hq)⟩, fun q => absurd ⟨nI_pos' (by omega), nI_pos' (by omega)⟩ q⟩)
set_option maxHeartbeats 4000000 in
set_option maxRecDepth 100000 in
/-- T_deliver -/
theorem c_T_deliver {kk nc : Nat} {dv lm : Int32} {F : Cf} {op : Nat → Nat → Int32} {oc : Nat → Nat} {Sn Sk Sm : Nat → Sv} {x : Int32} {sd up : Nat → Nat} (hC : CW tI tN tM b N k kk dv nc lm F op oc Sn Sk Sm) (hnc : nc ≤ 12) (hn1 : 1 ≤ nc) (hN : ∀ j, j < 12 → nS (Sn j) ∧ nS (Sk j) ∧ nS (Sm j)) (hk6 : kk ≤ 6) (hd : ¬ dv = 0) (hsd : ∀ p, p < 12 → F 5 p = nI (sd p) ∧ sd p < 12) (hup : ∀ p, p < 12 → ¬ F 4 p = 0 → F 0 (sd p) = nI (up (sd p)) ∧ up (sd p) < 12)  : Met l y_T_deliver (wy y_T_deliver b_T_deliver 5 (some .int)) (rm 5 0 0) (zPc D (tyl tI tZ tN tM) b N k [.ref b, .int x]) (zQi D b N (fun z k2 => (0 ≤ so (F 4) x ∧ F 3 (sd (so (F 4) x).toNatClampNeg) < F 6 (so (F 4) x).toNatClampNeg → z = 1 ∧ CW tI tN tM b N k2 kk dv nc lm (fU (fU F 4 (so (F 4) x).toNatClampNeg 0) 3 (sd (so (F 4) x).toNatClampNeg) (F 6 (so (F 4) x).toNatClampNeg)) op oc (va_up Sn (up (sd (so (F 4) x).toNatClampNeg)) (mks kk dv (fU (fU F 4 (so (F 4) x).toNatClampNeg 0) 3 (sd (so (F 4) x).toNatClampNeg) (F 6 (so (F 4) x).toNatClampNeg)) (va_up Sk (sd (so (F 4) x).toNatClampNeg) (Sm (so (F 4) x).toNatClampNeg)) (nI (up (sd (so (F 4) x).toNatClampNeg))) (clS (Sn (up (sd (so (F 4) x).toNatClampNeg)))) (nc - 1))) (va_up Sk (sd (so (F 4) x).toNatClampNeg) (Sm (so (F 4) x).toNatClampNeg)) Sm ∧ ∀ q, b + 255 ≤ q → k2 q = k q) ∧ (0 ≤ so (F 4) x ∧ ¬ F 3 (sd (so (F 4) x).toNatClampNeg) < F 6 (so (F 4) x).toNatClampNeg → z = 0 ∧ CW tI tN tM b N k2 kk dv nc lm (fU F 4 (so (F 4) x).toNatClampNeg 0) op oc Sn Sk Sm ∧ ∀ q, b + 255 ≤ q → k2 q = k q) ∧ (¬ (0 ≤ so (F 4) x) → z = -1 ∧ k2 = k))) 0 0 (zA b) := by
  refine z_met (own := R_T) (by decide) rfl rfl (Nat.le_of_ble_eq_true rfl) [some (.ref b), some (.int x), none, none, none] rfl ?_
  intro p e s m args below meth c X hin
  have ⟨h0, ⟨g1, h1, e1⟩, ⟨g2, h2, e2⟩, h3, h4, h5, h6, h7, h8⟩ := hC
  refine z_aload_n X d_T_deliver_0 rfl ?_
  refine z_iload_n X d_T_deliver_1 rfl ?_
  refine z_callVi X (c_T_slotOf hC hnc) h0 rfl (cwV 1 X.1.2.2.2.2 (gi_V lm_T_94 vi_T_slotOf ve_T_slotOf vn_T vc_T_slotOf) rfl rfl rfl (by decide +kernel) ⟨Nat.le_of_ble_eq_true rfl, Nat.le_of_ble_eq_true rfl⟩) (As := [.int x]) (st := []) rfl rfl (Nat.le_of_ble_eq_true rfl) d_T_deliver_2 ⟨Nat.le_of_ble_eq_true rfl, Nat.le_of_ble_eq_true rfl⟩ (fun z k2 hq => ?_)
  obtain ⟨rfl, hk9⟩ := hq
  have hk9 := hk9.symm
  subst hk9
  have hfr : ∀ q, b + 255 ≤ q → k q = k q := fun _ _ => rfl
  refine z_istore_n X d_T_deliver_5 (by decide) rfl ?_
  refine z_lv (lv2 := [some (.ref b), some (.int x), some (.int (so (F 4) x)), none, none]) (fun _ _ q => q) ?_
  rcases so_cases (F 4) x with hs | ⟨p, hp, hs, hq1, hq2⟩
  · rw [hs]
    refine z_lv (lv2 := [some (.ref b), some (.int x), some (.int (-1)), none, none]) (fun _ _ q => q) ?_
    refine z_iload_n X d_T_deliver_6 rfl ?_
    refine z_if_ge X d_T_deliver_7 (tgt := 12) (by decide) (fun h => absurd h (by decide)) (fun _ => ?_)
    refine z_iconst X d_T_deliver_10 (v := -1) (by decide +kernel) ?_
    exact z_iret X d_T_deliver_11 (by omega) (by omega) (⟨fun q => absurd q.1 (by decide), fun q => absurd q.1 (by decide), fun _ => ⟨rfl, rfl⟩⟩)
  · rw [hs, nI_clamp (n := p) (by omega)]
    refine z_lv (lv2 := [some (.ref b), some (.int x), some (.int (nI p)), none, none]) (fun _ _ q => q) ?_
    obtain ⟨e5, e6⟩ := hsd p hp
    have hx0 : ¬ F 4 p = 0 := fun h => by rw [h] at hq1; rw [← hq1] at hq2; exact absurd hq2 (by decide)
    obtain ⟨u1, u2⟩ := hup p hp hx0
    refine z_iload_n X d_T_deliver_6 rfl ?_
    refine z_if_geN X d_T_deliver_7 (tgt := 12) (by decide) (by omega) (fun _ => ?_) (fun h => absurd h (by omega))
    refine z_aload_n X d_T_deliver_12 rfl ?_
    refine z_get X h0 rfl in_T 2 (by decide) (wq lf_T_21) rfl d_T_deliver_13 ?_
    refine z_iload_n X d_T_deliver_16 rfl ?_
    refine z_aald X h2 3 rfl (j := p) (v := b + 171 + 7 * p) rfl (by omega) (by omega) (e2 _ (by omega)) d_T_deliver_17 ?_
    refine z_astore_n X d_T_deliver_18 (by decide) rfl ?_
    refine z_lv (lv2 := [some (.ref b), some (.int x), some (.int (nI p)), some (.ref (b + 171 + 7 * p)), none]) (fun _ _ q => q) ?_
    refine z_aload_n X d_T_deliver_19 rfl ?_
    refine z_iconst X d_T_deliver_20 (v := nI 0) (by decide +kernel) ?_
    refine z_put X (h7 p (by omega)) rfl in_M ty_M_ok n_M 0 (by decide) (wq lf_T_105) rfl rfl rfl (Nat.le_of_ble_eq_true rfl) d_T_deliver_21 ?_
    refine z_named (fun k_1 hk9 => ?_)
    have hC := hC.put4 (p := p) (x := 0) hp hk9
    have hfr : ∀ q, b + 255 ≤ q → k_1 q = k q := fun q hq => by rw [hk9]; exact (up_ne (by omega)).trans (hfr q hq)
    clear hk9
    have ⟨h0, ⟨g1, h1, e1⟩, ⟨g2, h2, e2⟩, h3, h4, h5, h6, h7, h8⟩ := hC
    refine z_aload_n X d_T_deliver_24 rfl ?_
    refine z_get X h0 rfl in_T 0 (by decide) (wq lf_T_11) rfl d_T_deliver_25 ?_
    refine z_aload_n X d_T_deliver_28 rfl ?_
    refine z_get X (h7 p (by omega)) rfl in_M 1 (by decide) (wq lf_T_98) rfl d_T_deliver_29 ?_
    refine z_aald X h1 2 rfl (j := sd p) (v := b + 3 + 14 * (sd p)) (by rw [fU_c (by omega)]; exact e5) (by omega) (by omega) (e1 _ (by omega)) d_T_deliver_32 ?_
    refine z_astore X d_T_deliver_33 (by decide) rfl ?_
    refine z_lv (lv2 := [some (.ref b), some (.int x), some (.int (nI p)), some (.ref (b + 171 + 7 * p)), some (.ref (b + 3 + 14 * (sd p)))]) (fun _ _ q => q) ?_
    refine z_aload X d_T_deliver_35 rfl ?_
    refine z_get X (h3 (sd p) (by omega)) rfl in_N 8 (by decide) (wq lf_T_108) rfl d_T_deliver_37 ?_
    refine z_top (y := .int (F 3 (sd p))) (by rw [fU_c (by omega)]) ?_
    refine z_aload_n X d_T_deliver_40 rfl ?_
    refine z_get X (h7 p (by omega)) rfl in_M 2 (by decide) (wq lf_T_101) rfl d_T_deliver_41 ?_
    refine z_top (y := .int (F 6 p)) (by rw [fU_c (by omega)]) ?_
    refine z_icmp_lt X d_T_deliver_44 (tgt := 49) (by decide) (fun hD => ?_) (fun hD => ?_)
    · skip
      refine z_aload X d_T_deliver_49 rfl ?_
      refine z_aload_n X d_T_deliver_51 rfl ?_
      refine z_get X (h7 p (by omega)) rfl in_M 2 (by decide) (wq lf_T_101) rfl d_T_deliver_52 ?_
      refine z_top (y := .int (F 6 p)) (by rw [fU_c (by omega)]) ?_
      refine z_put X (h3 (sd p) (by omega)) rfl in_N ty_N_ok n_N 8 (by decide) (wq lf_T_108) rfl rfl rfl (Nat.le_of_ble_eq_true rfl) d_T_deliver_55 ?_
      refine z_named (fun k_2 hk9 => ?_)
      have hC := hC.put3 (j := sd p) (x := F 6 p) e6 hk9
      have hfr : ∀ q, b + 255 ≤ q → k_2 q = k q := fun q hq => by rw [hk9]; exact (up_ne (by omega)).trans (hfr q hq)
      clear hk9
      have ⟨h0, ⟨g1, h1, e1⟩, ⟨g2, h2, e2⟩, h3, h4, h5, h6, h7, h8⟩ := hC
      refine z_aload X d_T_deliver_58 rfl ?_
      refine z_get X (h3 (sd p) (by omega)) rfl in_N 7 (by decide) (wq lf_T_111) rfl d_T_deliver_60 ?_
      refine z_aload_n X d_T_deliver_63 rfl ?_
      refine z_get X (h7 p (by omega)) rfl in_M 3 (by decide) (wq lf_T_104) rfl d_T_deliver_64 ?_
      refine z_callVv X (c_S_setTo (h6 (sd p) e6) (hN _ e6).2.1 (h8 p hp) (hN p hp).2.2 (by omega)) (h6 (sd p) (by omega)).1 rfl (cwV 1 X.1.2.2.2.2 (gi_V lm_T_114 vi_S_setTo ve_S_setTo vn_S vc_S_setTo) rfl rfl rfl (by decide +kernel) ⟨Nat.le_of_ble_eq_true rfl, Nat.le_of_ble_eq_true rfl⟩) (As := [.ref (b + 171 + 7 * p + 1)]) (st := []) rfl rfl (Nat.le_of_ble_eq_true rfl) d_T_deliver_67 ⟨Nat.le_of_ble_eq_true rfl, Nat.le_of_ble_eq_true rfl⟩ (fun k1 hq => ?_)
      obtain ⟨q0, q1⟩ := hq
      have hC1 := hC.setSk e6 q0 q1
      have ⟨h0, ⟨g1, h1, e1⟩, ⟨g2, h2, e2⟩, h3, h4, h5, h6, h7, h8⟩ := hC1
      refine z_aload_n X d_T_deliver_70 rfl ?_
      refine z_aload X d_T_deliver_71 rfl ?_
      refine z_get X (h3 (sd p) (by omega)) rfl in_N 1 (by decide) (wq lf_T_51) rfl d_T_deliver_73 ?_
      refine z_top (y := .int (nI (up (sd p)))) (by rw [fU_c (by omega), fU_c (by omega), u1]) ?_
      refine z_callVv X (c_T_mergeKept hC1 hnc u2 hn1 (fun i hi => ⟨(hN i hi).1, by by_cases z : i = sd p; (rw [z, up_eq]; exact (hN p hp).2.2); (rw [up_ne z]; exact (hN i hi).2.1), (hN i hi).2.2⟩) hk6 hd) h0 rfl (cwV 1 X.1.2.2.2.2 (gi_V lm_T_77 vi_T_mergeKept ve_T_mergeKept vn_T vc_T_mergeKept) rfl rfl rfl (by decide +kernel) ⟨Nat.le_of_ble_eq_true rfl, Nat.le_of_ble_eq_true rfl⟩) (As := [.int (nI (up (sd p)))]) (st := []) rfl rfl (Nat.le_of_ble_eq_true rfl) d_T_deliver_76 ⟨Nat.le_of_ble_eq_true rfl, Nat.le_of_ble_eq_true rfl⟩ (fun k2 hq => ?_)
      obtain ⟨hC2, hfr2⟩ := hq
      refine z_iconst X d_T_deliver_79 (v := nI 1) (by decide +kernel) ?_
      exact z_iret X d_T_deliver_80 (by omega) (by omega) (⟨fun _ => ⟨rfl, hC2, fun q hq => (hfr2 q hq).trans ((q1 q (by omega)).trans (hfr q hq))⟩, fun q => absurd hD q.2, fun q => absurd (nI_pos' (by omega)) q⟩)
    · skip
      refine z_iconst X d_T_deliver_47 (v := nI 0) (by decide +kernel) ?_
      exact z_iret X d_T_deliver_48 (by omega) (by omega) (⟨fun q => absurd q.2 hD, fun _ => ⟨rfl, hC, hfr⟩, fun q => absurd (nI_pos' (by omega)) q⟩)
end
end
section
/-! Contracts: the tree's constructor -/
section
variable {p : Program} {l : Launch} {e : Env} {R : Room} {s : State} {m : MethodId} {args : Array Value} {below : List Frame} {meth : Method} {c : Code} {cells slots : Nat} {Q : State → Prop}
variable {nL : Nat} {D : va_G} {b N : Nat} {k : Nat → va_E} {pc : Nat} {lv : List (Option Value)} {st : List Value}
/-- counting up, the world growing -/
theorem z_loopN {σ : Type} (NN CC SS : Nat → Nat) (K : Nat → σ → Nat → va_E) (LV : Nat → σ → List (Option Value)) (I : Nat → σ → Prop) (e2 i0 : Nat) (s0 : σ) (h0 : i0 ≤ e2) (hi : I i0 s0) (hN : N = NN i0) (hc : cells = CC i0) (hs0 : slots = SS i0) (hk : k = K i0 s0) (hlv : lv = LV i0 s0) (hx : ∀ s1, I e2 s1 → Z p l e R s m args below meth c nL D b (NN e2) (K e2 s1) (CC e2) (SS e2) Q pc (LV e2 s1) st) (hs : ∀ i s1, i < e2 → I i s1 → (∀ s2, I (i + 1) s2 → Z p l e R s m args below meth c nL D b (NN (i + 1)) (K (i + 1) s2) (CC (i + 1)) (SS (i + 1)) Q pc (LV (i + 1) s2) st) → Z p l e R s m args below meth c nL D b (NN i) (K i s1) (CC i) (SS i) Q pc (LV i s1) st) : Z p l e R s m args below meth c nL D b N k cells slots Q pc lv st := by
  subst hk
  subst hlv
  subst hN
  subst hc
  subst hs0
  exact z_up (P := fun i => ∀ s1, I i s1 → Z p l e R s m args below meth c nL D b (NN i) (K i s1) (CC i) (SS i) Q pc (LV i s1) st) e2 hx (fun i hi ih s1 h1 => hs i s1 hi h1 ih) i0 h0 s0 hi
end
def clk (lo hi : Nat) (x : Int32) : Int32 := if nI lo < (if x < nI hi then x else nI hi) then (if x < nI hi then x else nI hi) else nI lo
theorem clk_nat {lo hi : Nat} (h : lo ≤ hi) (hh : hi < 65536) (x : Int32) : ∃ q, lo ≤ q ∧ q ≤ hi ∧ clk lo hi x = nI q := by
  unfold clk
  by_cases h1 : x < nI hi
  · rw [if_pos h1]
    by_cases h2 : nI lo < x
    · rw [if_pos h2]
      rw [Int32.lt_iff_toInt_lt, nI_toInt (by omega)] at h1 h2
      have h3 : ¬ x < 0 := by rw [Int32.lt_iff_toInt_lt, Int32.toInt_zero]; omega
      obtain ⟨j, hj, rfl⟩ := nI_of h3
      rw [nI_toInt hj] at h1 h2
      exact ⟨j, by omega, by omega, rfl⟩
    · rw [if_neg h2]
      exact ⟨lo, by omega, h, rfl⟩
  · rw [if_neg h1]
    by_cases h2 : nI lo < nI hi
    · rw [if_pos h2]
      exact ⟨hi, h, by omega, rfl⟩
    · rw [if_neg h2]
      exact ⟨lo, by omega, h, rfl⟩
def F0_ : Cf := fun c _ => if c = 0 then -1 else 0
def isNd (tI : ClassId) (b N : Nat) (k : Nat → va_E) (kk : Nat) (dv : Int32) (j : Nat) : Prop := zc b N k (b + 3 + 14 * j) (oN j (-1) 0 0 0 0 (b + 3 + 14 * j)) ∧ zc b N k (b + 3 + 14 * j + 1) (aI tI 4 (fun _ => 0)) ∧ isS tI b N k kk dv (b + 3 + 14 * j + 2) eS ∧ isS tI b N k kk dv (b + 3 + 14 * j + 8) eS
def isMs (tI : ClassId) (b N : Nat) (k : Nat → va_E) (kk : Nat) (dv : Int32) (j : Nat) : Prop := zc b N k (b + 171 + 7 * j) (oM 0 0 0 (b + 171 + 7 * j)) ∧ isS tI b N k kk dv (b + 171 + 7 * j + 1) eS
theorem isNd.to {tI : ClassId} {b N N2 : Nat} {k k2 : Nat → va_E} {kk : Nat} {dv : Int32} {j : Nat} (h : isNd tI b N k kk dv j) (he : ∀ q, b + 3 + 14 * j ≤ q → q < b + 3 + 14 * j + 14 → k2 q = k q) (hN : N ≤ N2) : isNd tI b N2 k2 kk dv j := by
  obtain ⟨h0, h1, h2, h3⟩ := h
  exact ⟨(h0.to (he _ (by omega) (by omega))).more hN, (h1.to (he _ (by omega) (by omega))).more hN, (h2.to (fun q q1 q2 => he q (by omega) (by omega))).more hN, (h3.to (fun q q1 q2 => he q (by omega) (by omega))).more hN⟩
theorem isMs.to {tI : ClassId} {b N N2 : Nat} {k k2 : Nat → va_E} {kk : Nat} {dv : Int32} {j : Nat} (h : isMs tI b N k kk dv j) (he : ∀ q, b + 171 + 7 * j ≤ q → q < b + 171 + 7 * j + 7 → k2 q = k q) (hN : N ≤ N2) : isMs tI b N2 k2 kk dv j := by
  obtain ⟨h0, h1⟩ := h
  exact ⟨(h0.to (he _ (by omega) (by omega))).more hN, (h1.to (fun q q1 q2 => he q (by omega) (by omega))).more hN⟩
section
variable {p : Program} {l : Launch} {e : Env} {R : Room} {s : State} {m : MethodId} {args : Array Value} {below : List Frame} {meth : Method} {c : Code} {cells slots : Nat} {Q : State → Prop}
variable {nL : Nat} {D : va_G} {b N : Nat} {k : Nat → va_E} {pc : Nat} {lv : List (Option Value)} {st : List Value}
theorem z_N {N2 : Nat} (h : N = N2) (kk : Z p l e R s m args below meth c nL D b N2 k cells slots Q pc lv st) : Z p l e R s m args below meth c nL D b N k cells slots Q pc lv st := by subst h; exact kk
end
section
variable {l : Launch} {D : va_G} {tI tZ tN tM : ClassId} {b : Nat} {k : Nat → va_E}
set_option maxHeartbeats 4000000 in
set_option maxRecDepth 100000 in
/-- TelemetryTree(k, d) -/
theorem c_T_init {kk dd : Nat} {x y : Int32} (h0 : zc b 1 k b (.inr (5, [.null, .int 0, .null, .int 0]))) (hkk : clk 1 6 x = nI kk) (hdd : clk 2 16 y = nI dd) : Met l y_T_init (wy y_T_init b_T_init 6 none) (rm 4 254 4512) (zPc D (tyl tI tZ tN tM) b 1 k [.ref b, .int x, .int y]) (zQv D b 255 (fun k2 => CW tI tN tM b 255 k2 kk (nI dd) 1 0 F0_ (fun _ _ => 0) (fun _ => 0) (fun _ => eS) (fun _ => eS) (fun _ => eS))) 254 4512 (zA b) := by
  refine z_met (own := R_T) (by decide) rfl rfl (Nat.le_of_ble_eq_true rfl) [some (.ref b), some (.int x), some (.int y), none, none, none] rfl ?_
  intro p e s m args below meth c X hin
  refine z_aload_n X d_T_init_0 rfl ?_
  refine z_objInit X (wq lm_T_1) (wq vi_O) (wq vc_O) d_T_init_1 (Nat.le_of_ble_eq_true rfl) (Nat.le_of_ble_eq_true rfl) ?_
  refine z_aload_n X d_T_init_4 rfl ?_
  refine z_bipush X d_T_init_5 (v := nI 12) (by decide +kernel) ?_
  refine z_newq X (cA := tN) (wq lc_T_9) (zn_N X.2.2.2.2.2) 2 rfl (n := 12) rfl (by decide) (Nat.le_of_ble_eq_true rfl) (Nat.le_of_ble_eq_true rfl) d_T_init_7 ?_
  refine z_named (fun k_1 hk9 => ?_)
  have h0 := (h0.to (k2 := k_1) (by rw [hk9]; exact up_ne (by omega))).more (N2 := 1 + 1) (by omega)
  have h1 : zc b (1 + 1) k_1 (b + (1)) (aQ tN 12 (fun _ => none)) := by rw [hk9]; exact ⟨by omega, by omega, up_eq⟩
  clear hk9
  refine z_putF X h0 rfl in_T ty_T_ok n_T 0 (by decide) (wq lf_T_11) rfl hin rfl rfl rfl (Nat.le_of_ble_eq_true rfl) d_T_init_10 ?_
  refine z_named (fun k_2 hk9 => ?_)
  have h1 := (h1.to (k2 := k_2) (by rw [hk9]; exact up_ne (by omega)))
  have h0 : zc b (1 + 1) k_2 (b) (.inr (5, [.ref (b + (1)), .int 0, .null, .int 0])) := by rw [hk9]; exact ⟨by omega, by omega, up_eq⟩
  clear hk9
  refine z_aload_n X d_T_init_13 rfl ?_
  refine z_iconst X d_T_init_14 (v := nI 1) (by decide +kernel) ?_
  refine z_put X h0 rfl in_T ty_T_ok n_T 1 (by decide) (wq lf_T_15) rfl rfl rfl (Nat.le_of_ble_eq_true rfl) d_T_init_15 ?_
  refine z_named (fun k_3 hk9 => ?_)
  have h1 := (h1.to (k2 := k_3) (by rw [hk9]; exact up_ne (by omega)))
  have h0 : zc b (1 + 1) k_3 (b) (.inr (5, [.ref (b + (1)), .int (nI 1), .null, .int 0])) := by rw [hk9]; exact ⟨by omega, by omega, up_eq⟩
  clear hk9
  refine z_aload_n X d_T_init_18 rfl ?_
  refine z_bipush X d_T_init_19 (v := nI 12) (by decide +kernel) ?_
  refine z_newq X (cA := tM) (wq lc_T_19) (zn_M X.2.2.2.2.2) 3 rfl (n := 12) rfl (by decide) (Nat.le_of_ble_eq_true rfl) (Nat.le_of_ble_eq_true rfl) d_T_init_21 ?_
  refine z_named (fun k_4 hk9 => ?_)
  have h0 := (h0.to (k2 := k_4) (by rw [hk9]; exact up_ne (by omega))).more (N2 := 1 + 1 + 1) (by omega)
  have h1 := (h1.to (k2 := k_4) (by rw [hk9]; exact up_ne (by omega))).more (N2 := 1 + 1 + 1) (by omega)
  have h2 : zc b (1 + 1 + 1) k_4 (b + (1 + 1)) (aQ tM 12 (fun _ => none)) := by rw [hk9]; exact ⟨by omega, by omega, up_eq⟩
  clear hk9
  refine z_putF X h0 rfl in_T ty_T_ok n_T 2 (by decide) (wq lf_T_21) rfl hin rfl rfl rfl (Nat.le_of_ble_eq_true rfl) d_T_init_24 ?_
  refine z_named (fun k_5 hk9 => ?_)
  have h1 := (h1.to (k2 := k_5) (by rw [hk9]; exact up_ne (by omega)))
  have h2 := (h2.to (k2 := k_5) (by rw [hk9]; exact up_ne (by omega)))
  have h0 : zc b (1 + 1 + 1) k_5 (b) (.inr (5, [.ref (b + (1)), .int (nI 1), .ref (b + (1 + 1)), .int 0])) := by rw [hk9]; exact ⟨by omega, by omega, up_eq⟩
  clear hk9
  refine z_aload_n X d_T_init_27 rfl ?_
  refine z_iconst X d_T_init_28 (v := nI 0) (by decide +kernel) ?_
  refine z_put X h0 rfl in_T ty_T_ok n_T 3 (by decide) (wq lf_T_25) rfl rfl rfl (Nat.le_of_ble_eq_true rfl) d_T_init_29 ?_
  refine z_named (fun k_6 hk9 => ?_)
  have h1 := (h1.to (k2 := k_6) (by rw [hk9]; exact up_ne (by omega)))
  have h2 := (h2.to (k2 := k_6) (by rw [hk9]; exact up_ne (by omega)))
  have h0 : zc b (1 + 1 + 1) k_6 (b) (.inr (5, [.ref (b + (1)), .int (nI 1), .ref (b + (1 + 1)), .int (nI 0)])) := by rw [hk9]; exact ⟨by omega, by omega, up_eq⟩
  clear hk9
  refine z_iconst X d_T_init_32 (v := nI 1) (by decide +kernel) ?_
  refine z_bipush X d_T_init_33 (v := nI 6) (by decide +kernel) ?_
  refine z_iload_n X d_T_init_35 rfl ?_
  refine z_mmin X (wq lm_T_28) (wq vs_min) (wq vn_Math) (wq vc_min) d_T_init_36 (Nat.le_of_ble_eq_true rfl) (Nat.le_of_ble_eq_true rfl) (Nat.le_of_ble_eq_true rfl) (Nat.le_of_ble_eq_true rfl) ?_
  refine z_mmax X (wq lm_T_34) (wq vs_max) (wq vn_Math) (wq vc_max) d_T_init_39 (Nat.le_of_ble_eq_true rfl) (Nat.le_of_ble_eq_true rfl) (Nat.le_of_ble_eq_true rfl) (Nat.le_of_ble_eq_true rfl) ?_
  refine z_top (y := .int (nI kk)) (by rw [← hkk]; rfl) ?_
  refine z_istore_n X d_T_init_42 (by decide) rfl ?_
  refine z_lv (lv2 := [some (.ref b), some (.int x), some (.int y), some (.int (nI kk)), none, none]) (fun _ _ q => q) ?_
  refine z_iconst X d_T_init_43 (v := nI 2) (by decide +kernel) ?_
  refine z_bipush X d_T_init_44 (v := nI 16) (by decide +kernel) ?_
  refine z_iload_n X d_T_init_46 rfl ?_
  refine z_mmin X (wq lm_T_28) (wq vs_min) (wq vn_Math) (wq vc_min) d_T_init_47 (Nat.le_of_ble_eq_true rfl) (Nat.le_of_ble_eq_true rfl) (Nat.le_of_ble_eq_true rfl) (Nat.le_of_ble_eq_true rfl) ?_
  refine z_mmax X (wq lm_T_34) (wq vs_max) (wq vn_Math) (wq vc_max) d_T_init_50 (Nat.le_of_ble_eq_true rfl) (Nat.le_of_ble_eq_true rfl) (Nat.le_of_ble_eq_true rfl) (Nat.le_of_ble_eq_true rfl) ?_
  refine z_top (y := .int (nI dd)) (by rw [← hdd]; rfl) ?_
  refine z_istore X d_T_init_53 (by decide) rfl ?_
  refine z_lv (lv2 := [some (.ref b), some (.int x), some (.int y), some (.int (nI kk)), some (.int (nI dd)), none]) (fun _ _ q => q) ?_
  refine z_iconst X d_T_init_55 (v := nI 0) (by decide +kernel) ?_
  refine z_istore X d_T_init_56 (by decide) rfl ?_
  refine z_lv (lv2 := [some (.ref b), some (.int x), some (.int y), some (.int (nI kk)), some (.int (nI dd)), some (.int (nI 0))]) (fun _ _ q => q) ?_
  refine z_loopN (σ := Nat → va_E) (NN := fun v => 3 + 14 * v) (CC := fun v => 2 + 14 * v) (SS := fun v => 24 + 251 * v) (K := fun _ k9 => k9) (LV := fun v _ => [some (.ref b), some (.int x), some (.int y), some (.int (nI kk)), some (.int (nI dd)), some (.int (nI v))]) (I := fun v k9 => zc b (3 + 14 * v) k9 b (oT 1 0 b) ∧ (∃ g, zc b (3 + 14 * v) k9 (b + 1) (aQ tN 12 g) ∧ ∀ j, j < v → g j = some (b + 3 + 14 * j)) ∧ zc b (3 + 14 * v) k9 (b + 2) (aQ tM 12 (fun _ => none)) ∧ ∀ j, j < v → isNd tI b (3 + 14 * v) k9 kk (nI dd) j) 12 0 k_6 (by omega) ⟨h0, ⟨_, h1, fun j hj => by omega⟩, h2, fun j hj => by omega⟩ rfl rfl rfl rfl rfl ?_ ?_
  · intro k9 hI
    obtain ⟨h0, h1, h2, hn⟩ := hI
    refine z_lv (lv2 := [some (.ref b), some (.int x), some (.int y), some (.int (nI kk)), some (.int (nI dd)), some (.int (nI 12))]) (fun _ _ q => q) ?_
    refine z_iload X d_T_init_58 rfl ?_
    refine z_bipush X d_T_init_60 (v := nI 12) (by decide +kernel) ?_
    refine z_icmp_geN X d_T_init_62 (tgt := 90) (by decide) (by omega) (by omega) (fun _ => ?_) (fun h => absurd h (by omega))
    refine z_iconst X d_T_init_90 (v := nI 0) (by decide +kernel) ?_
    refine z_istore X d_T_init_91 (by decide) rfl ?_
    refine z_lv (lv2 := [some (.ref b), some (.int x), some (.int y), some (.int (nI kk)), some (.int (nI dd)), some (.int (nI 0))]) (fun _ _ q => q) ?_
    refine z_loopN (σ := Nat → va_E) (NN := fun v => 171 + 7 * v) (CC := fun v => 170 + 7 * v) (SS := fun v => 3036 + 123 * v) (K := fun _ k9 => k9) (LV := fun v _ => [some (.ref b), some (.int x), some (.int y), some (.int (nI kk)), some (.int (nI dd)), some (.int (nI v))]) (I := fun v k9 => zc b (171 + 7 * v) k9 b (oT 1 0 b) ∧ (∃ g, zc b (171 + 7 * v) k9 (b + 1) (aQ tN 12 g) ∧ ∀ j, j < 12 → g j = some (b + 3 + 14 * j)) ∧ (∃ g, zc b (171 + 7 * v) k9 (b + 2) (aQ tM 12 g) ∧ ∀ j, j < v → g j = some (b + 171 + 7 * j)) ∧ (∀ j, j < 12 → isNd tI b (171 + 7 * v) k9 kk (nI dd) j) ∧ ∀ j, j < v → isMs tI b (171 + 7 * v) k9 kk (nI dd) j) 12 0 k9 (by omega) ⟨h0, h1, ⟨_, h2, fun j hj => by omega⟩, hn, fun j hj => by omega⟩ rfl rfl rfl rfl rfl ?_ ?_
    · intro k8 hI
      obtain ⟨h0, h1, h2, hn, hm⟩ := hI
      refine z_lv (lv2 := [some (.ref b), some (.int x), some (.int y), some (.int (nI kk)), some (.int (nI dd)), some (.int (nI 12))]) (fun _ _ q => q) ?_
      refine z_iload X d_T_init_93 rfl ?_
      refine z_bipush X d_T_init_95 (v := nI 12) (by decide +kernel) ?_
      refine z_icmp_geN X d_T_init_97 (tgt := 123) (by decide) (by omega) (by omega) (fun _ => ?_) (fun h => absurd h (by omega))
      exact z_vret X d_T_init_123 (by omega) (by omega) (⟨h0, h1, h2, fun j hj => (hn j hj).1, fun j hj => (hn j hj).2.1, fun j hj => (hn j hj).2.2.1, fun j hj => (hn j hj).2.2.2, fun j hj => (hm j hj).1, fun j hj => (hm j hj).2⟩)
    · intro v k8 hv hI ih
      obtain ⟨h0, ⟨g1, h1, e1⟩, ⟨g2, h2, e2⟩, hn, hm⟩ := hI
      refine z_lv (lv2 := [some (.ref b), some (.int x), some (.int y), some (.int (nI kk)), some (.int (nI dd)), some (.int (nI v))]) (fun _ _ q => q) ?_
      refine z_iload X d_T_init_93 rfl ?_
      refine z_bipush X d_T_init_95 (v := nI 12) (by decide +kernel) ?_
      refine z_icmp_geN X d_T_init_97 (tgt := 123) (by decide) (by omega) (by omega) (fun h => absurd h (by omega)) (fun _ => ?_)
      refine z_aload_n X d_T_init_100 rfl ?_
      refine z_get X h0 rfl in_T 2 (by decide) (wq lf_T_21) rfl d_T_init_101 ?_
      refine z_iload X d_T_init_104 rfl ?_
      refine z_new X (ci := 2) (fs := [.int 0, .int 0, .int 0, .null]) rfl in_M ty_M_ok (wq lc_T_19) (wq vm_M) (wq vn_M) (fun j hj => by rcases (show j = 0 ∨ j = 1 ∨ j = 2 ∨ j = 3 by omega) with rfl | rfl | rfl | rfl <;> rfl) (show 170 + 7 * v + 1 ≤ 254 by omega) (show 3036 + 123 * v + 4 ≤ 4512 by omega) d_T_init_106 ?_
      refine z_named (fun k7 hk9 => ?_)
      have e0 : zc b (171 + 7 * v + 1) k7 (b + (171 + 7 * v)) (.inr (2, [.int 0, .int 0, .int 0, .null])) := by rw [hk9]; exact ⟨by omega, by omega, up_eq⟩
      have hf7 : ∀ q, q < b + (171 + 7 * v) → k7 q = k8 q := fun q hq => by rw [hk9]; exact up_ne (by omega)
      clear hk9
      refine z_dup X d_T_init_109 rfl ?_
      refine z_iload_n X d_T_init_110 rfl ?_
      refine z_iload X d_T_init_111 rfl ?_
      refine z_callIv X (rt := none) (c_M_init (N0 := 171 + 7 * v) e0) (cwI 2 X.1.2.2.2.2 (gi_wy vc_M_init) rfl rfl rfl (X.1.2.2.2.2 _ (wq vn_M)) (X.1.2.2.2.2 _ (wq lm_T_40)) (X.1.2.2.2.2 _ (wq vi_M_init)) rfl (by decide +kernel) ⟨Nat.le_of_ble_eq_true rfl, Nat.le_of_ble_eq_true rfl⟩) (As := [.int (nI kk), .int (nI dd)]) (st := [.ref (b + (171 + 7 * v)), .int (nI v), .ref (b + 2)]) rfl rfl (Nat.le_of_ble_eq_true rfl) d_T_init_113 ⟨show 170 + 7 * v + 1 + 6 ≤ 254 by omega, show 3036 + 123 * v + 4 + 119 ≤ 4512 by omega⟩ (fun k6 hq => ?_)
      obtain ⟨q0, q1, q4⟩ := hq
      have hf6 : ∀ q, q < b + (171 + 7 * v) → k6 q = k8 q := fun q hq => (q4 q hq).trans (hf7 q hq)
      have hA := (h2.to (hf6 _ (by omega))).more (N2 := 171 + 7 * v + 7) (by omega)
      refine z_aast X hA 3 rfl q0 rfl (j := v) rfl (by omega) (by omega) d_T_init_116 ?_
      refine z_named (fun k5 hk9 => ?_)
      have hA := hA.up (y := aQ tM 12 (va_up g2 v (some (b + (171 + 7 * v)))))
      rw [← hk9] at hA
      have hf5 : ∀ q, q ≠ b + 2 → k5 q = k6 q := fun q hq => by rw [hk9]; exact up_ne hq
      clear hk9
      refine z_iincU X d_T_init_117 rfl (by decide) rfl ?_
      refine z_lv (lv2 := [some (.ref b), some (.int x), some (.int y), some (.int (nI kk)), some (.int (nI dd)), some (.int (nI (v + 1)))]) (fun _ _ q => q) ?_
      refine z_goto X d_T_init_120 (tgt := 93) (by decide) ?_
      refine z_widen (mc := 170 + 7 * (v + 1)) (ms := 3036 + 123 * (v + 1)) (by omega) (by omega) ?_
      refine z_N (N2 := 171 + 7 * (v + 1)) (by omega) ?_
      have hk : ∀ q, q < b + (171 + 7 * v) → q ≠ b + 2 → k5 q = k8 q := fun q z1 z2 => (hf5 q z2).trans (hf6 q z1)
      have hnew : isMs tI b (171 + 7 * (v + 1)) k5 kk (nI dd) v := by
        unfold isMs
        rw [Nat.add_assoc b 171 (7 * v)]
        exact ⟨(q0.to (hf5 _ (by omega))).more (by omega), (q1.to (fun q z1 z2 => hf5 _ (by omega))).more (by omega)⟩
      exact ih k5 ⟨(h0.to (hk _ (by omega) (by omega))).more (by omega), ⟨g1, (h1.to (hk _ (by omega) (by omega))).more (by omega), e1⟩, ⟨va_up g2 v (some (b + (171 + 7 * v))), hA.more (by omega), fun j hj => by by_cases z : j = v; (subst z; rw [up_eq]; congr 1; omega); (rw [up_ne z]; exact e2 j (by omega))⟩, fun j hj => (hn j hj).to (fun q z1 z2 => hk q (by omega) (by omega)) (by omega), fun j hj => by by_cases z : j = v; (subst z; exact hnew); exact (hm j (by omega)).to (fun q z1 z2 => hk q (by omega) (by omega)) (by omega)⟩
  · intro v k8 hv hI ih
    obtain ⟨h0, ⟨g1, h1, e1⟩, h2, hn⟩ := hI
    refine z_lv (lv2 := [some (.ref b), some (.int x), some (.int y), some (.int (nI kk)), some (.int (nI dd)), some (.int (nI v))]) (fun _ _ q => q) ?_
    refine z_iload X d_T_init_58 rfl ?_
    refine z_bipush X d_T_init_60 (v := nI 12) (by decide +kernel) ?_
    refine z_icmp_geN X d_T_init_62 (tgt := 90) (by decide) (by omega) (by omega) (fun h => absurd h (by omega)) (fun _ => ?_)
    refine z_aload_n X d_T_init_65 rfl ?_
    refine z_get X h0 rfl in_T 0 (by decide) (wq lf_T_11) rfl d_T_init_66 ?_
    refine z_iload X d_T_init_69 rfl ?_
    refine z_new X (ci := 3) (fs := [.int 0, .int 0, .int 0, .null, .int 0, .int 0, .null, .null, .int 0]) rfl in_N ty_N_ok (wq lc_T_9) (wq vm_N) (wq vn_N) (fun j hj => by rcases (show j = 0 ∨ j = 1 ∨ j = 2 ∨ j = 3 ∨ j = 4 ∨ j = 5 ∨ j = 6 ∨ j = 7 ∨ j = 8 by omega) with rfl | rfl | rfl | rfl | rfl | rfl | rfl | rfl | rfl <;> rfl) (show 2 + 14 * v + 1 ≤ 254 by omega) (show 24 + 251 * v + 9 ≤ 4512 by omega) d_T_init_71 ?_
    refine z_named (fun k7 hk9 => ?_)
    have e0 : zc b (3 + 14 * v + 1) k7 (b + (3 + 14 * v)) (.inr (3, [.int 0, .int 0, .int 0, .null, .int 0, .int 0, .null, .null, .int 0])) := by rw [hk9]; exact ⟨by omega, by omega, up_eq⟩
    have hf7 : ∀ q, q < b + (3 + 14 * v) → k7 q = k8 q := fun q hq => by rw [hk9]; exact up_ne (by omega)
    clear hk9
    refine z_dup X d_T_init_74 rfl ?_
    refine z_iload X d_T_init_75 rfl ?_
    refine z_iload_n X d_T_init_77 rfl ?_
    refine z_iload X d_T_init_78 rfl ?_
    refine z_callIv X (rt := none) (c_N_init (N0 := 3 + 14 * v) e0) (cwI 3 X.1.2.2.2.2 (gi_wy vc_N_init) rfl rfl rfl (X.1.2.2.2.2 _ (wq vn_N)) (X.1.2.2.2.2 _ (wq lm_T_37)) (X.1.2.2.2.2 _ (wq vi_N_init)) rfl (by decide +kernel) ⟨Nat.le_of_ble_eq_true rfl, Nat.le_of_ble_eq_true rfl⟩) (As := [.int (nI v), .int (nI kk), .int (nI dd)]) (st := [.ref (b + (3 + 14 * v)), .int (nI v), .ref (b + 1)]) rfl rfl (Nat.le_of_ble_eq_true rfl) d_T_init_80 ⟨show 2 + 14 * v + 1 + 13 ≤ 254 by omega, show 24 + 251 * v + 9 + 242 ≤ 4512 by omega⟩ (fun k6 hq => ?_)
    obtain ⟨q0, q1, q2, q3, q4⟩ := hq
    have hf6 : ∀ q, q < b + (3 + 14 * v) → k6 q = k8 q := fun q hq => (q4 q hq).trans (hf7 q hq)
    have hA := (h1.to (hf6 _ (by omega))).more (N2 := 3 + 14 * v + 14) (by omega)
    refine z_aast X hA 2 rfl q0 rfl (j := v) rfl (by omega) (by omega) d_T_init_83 ?_
    refine z_named (fun k5 hk9 => ?_)
    have hA := hA.up (y := aQ tN 12 (va_up g1 v (some (b + (3 + 14 * v)))))
    rw [← hk9] at hA
    have hf5 : ∀ q, q ≠ b + 1 → k5 q = k6 q := fun q hq => by rw [hk9]; exact up_ne hq
    clear hk9
    refine z_iincU X d_T_init_84 rfl (by decide) rfl ?_
    refine z_lv (lv2 := [some (.ref b), some (.int x), some (.int y), some (.int (nI kk)), some (.int (nI dd)), some (.int (nI (v + 1)))]) (fun _ _ q => q) ?_
    refine z_goto X d_T_init_87 (tgt := 58) (by decide) ?_
    refine z_widen (mc := 2 + 14 * (v + 1)) (ms := 24 + 251 * (v + 1)) (by omega) (by omega) ?_
    refine z_N (N2 := 3 + 14 * (v + 1)) (by omega) ?_
    have hk : ∀ q, q < b + (3 + 14 * v) → q ≠ b + 1 → k5 q = k8 q := fun q z1 z2 => (hf5 q z2).trans (hf6 q z1)
    have hnew : isNd tI b (3 + 14 * (v + 1)) k5 kk (nI dd) v := by
      unfold isNd
      rw [Nat.add_assoc b 3 (14 * v)]
      exact ⟨(q0.to (hf5 _ (by omega))).more (by omega), (q1.to (hf5 _ (by omega))).more (by omega), (q2.to (fun q z1 z2 => hf5 _ (by omega))).more (by omega), (q3.to (fun q z1 z2 => hf5 _ (by omega))).more (by omega)⟩
    exact ih k5 ⟨(h0.to (hk _ (by omega) (by omega))).more (by omega), ⟨va_up g1 v (some (b + (3 + 14 * v))), hA.more (by omega), fun j hj => by by_cases z : j = v; (subst z; rw [up_eq]; congr 1; omega); (rw [up_ne z]; exact e1 j (by omega))⟩, (h2.to (hk _ (by omega) (by omega))).more (by omega), fun j hj => by by_cases z : j = v; (subst z; exact hnew); exact (hn j (by omega)).to (fun q z1 z2 => hk q (by omega) (by omega)) (by omega)⟩
end
end
section
/-! The reference's world: the object at b + 255, its 18 arrays behind it -/
abbrev oR (kk : Nat) (dv : Int32) (nc : Nat) (ms : Int32) (b : Nat) : va_E := .inr (6, [.int (nI kk), .int dv, .int (nI nc), .ref (b + 256), .ref (b + 257), .ref (b + 258), .ref (b + 259), .ref (b + 260), .ref (b + 261), .ref (b + 262), .ref (b + 263), .ref (b + 264), .int ms, .ref (b + 265), .ref (b + 266), .ref (b + 267), .ref (b + 268), .ref (b + 269), .ref (b + 270), .ref (b + 271), .ref (b + 272), .ref (b + 273)])
def RW (tI tZ : ClassId) (b N : Nat) (k : Nat → va_E) (kk : Nat) (dv : Int32) (nc : Nat) (ms : Int32) (f0 f1 f2 f3 f4 f5 f6 f7 f8 f9 f10 f11 f12 f13 f14 f15 f16 f17 : Nat → Int32) : Prop :=
  zc b N k (b + 255) (oR kk dv nc ms b) ∧ zc b N k (b + 256) (aI tI 12 f0) ∧ zc b N k (b + 257) (aI tZ 12 f1) ∧ zc b N k (b + 258) (aI tI 12 f2) ∧ zc b N k (b + 259) (aI tI 576 f3) ∧ zc b N k (b + 260) (aI tI 12 f4) ∧ zc b N k (b + 261) (aI tI 48 f5) ∧ zc b N k (b + 262) (aI tI 12 f6) ∧ zc b N k (b + 263) (aI tI 12 f7) ∧ zc b N k (b + 264) (aI tI 144 f8) ∧ zc b N k (b + 265) (aI tI 12 f9) ∧ zc b N k (b + 266) (aI tI 12 f10) ∧ zc b N k (b + 267) (aI tI 12 f11) ∧ zc b N k (b + 268) (aI tI 144 f12) ∧ zc b N k (b + 269) (aI tI 12 f13) ∧ zc b N k (b + 270) (aI tI 12 f14) ∧ zc b N k (b + 271) (aI tI 384 f15) ∧ zc b N k (b + 272) (aI tI 768 f16) ∧ zc b N k (b + 273) (aI tZ 32 f17)
section
variable {tI tZ : ClassId} {b N : Nat} {k k2 : Nat → va_E} {kk nc : Nat} {dv ms : Int32} {f0 f1 f2 f3 f4 f5 f6 f7 f8 f9 f10 f11 f12 f13 f14 f15 f16 f17 : Nat → Int32} 
theorem RW.st0 (hR : RW tI tZ b N k kk dv nc ms f0 f1 f2 f3 f4 f5 f6 f7 f8 f9 f10 f11 f12 f13 f14 f15 f16 f17) {g : Nat → Int32} (hk : k2 = va_up k (b + 256) (aI tI 12 g)) : RW tI tZ b N k2 kk dv nc ms g f1 f2 f3 f4 f5 f6 f7 f8 f9 f10 f11 f12 f13 f14 f15 f16 f17 := by
  obtain ⟨ho, r0, r1, r2, r3, r4, r5, r6, r7, r8, r9, r10, r11, r12, r13, r14, r15, r16, r17⟩ := hR
  have hq : ∀ q, q ≠ b + 256 → k2 q = k q := fun q hq => by rw [hk]; exact up_ne hq
  exact ⟨ho.to (hq _ (by omega)), by rw [hk]; exact r0.up, r1.to (hq _ (by omega)), r2.to (hq _ (by omega)), r3.to (hq _ (by omega)), r4.to (hq _ (by omega)), r5.to (hq _ (by omega)), r6.to (hq _ (by omega)), r7.to (hq _ (by omega)), r8.to (hq _ (by omega)), r9.to (hq _ (by omega)), r10.to (hq _ (by omega)), r11.to (hq _ (by omega)), r12.to (hq _ (by omega)), r13.to (hq _ (by omega)), r14.to (hq _ (by omega)), r15.to (hq _ (by omega)), r16.to (hq _ (by omega)), r17.to (hq _ (by omega))⟩
theorem RW.st1 (hR : RW tI tZ b N k kk dv nc ms f0 f1 f2 f3 f4 f5 f6 f7 f8 f9 f10 f11 f12 f13 f14 f15 f16 f17) {g : Nat → Int32} (hk : k2 = va_up k (b + 257) (aI tZ 12 g)) : RW tI tZ b N k2 kk dv nc ms f0 g f2 f3 f4 f5 f6 f7 f8 f9 f10 f11 f12 f13 f14 f15 f16 f17 := by
  obtain ⟨ho, r0, r1, r2, r3, r4, r5, r6, r7, r8, r9, r10, r11, r12, r13, r14, r15, r16, r17⟩ := hR
  have hq : ∀ q, q ≠ b + 257 → k2 q = k q := fun q hq => by rw [hk]; exact up_ne hq
  exact ⟨ho.to (hq _ (by omega)), r0.to (hq _ (by omega)), by rw [hk]; exact r1.up, r2.to (hq _ (by omega)), r3.to (hq _ (by omega)), r4.to (hq _ (by omega)), r5.to (hq _ (by omega)), r6.to (hq _ (by omega)), r7.to (hq _ (by omega)), r8.to (hq _ (by omega)), r9.to (hq _ (by omega)), r10.to (hq _ (by omega)), r11.to (hq _ (by omega)), r12.to (hq _ (by omega)), r13.to (hq _ (by omega)), r14.to (hq _ (by omega)), r15.to (hq _ (by omega)), r16.to (hq _ (by omega)), r17.to (hq _ (by omega))⟩
theorem RW.st2 (hR : RW tI tZ b N k kk dv nc ms f0 f1 f2 f3 f4 f5 f6 f7 f8 f9 f10 f11 f12 f13 f14 f15 f16 f17) {g : Nat → Int32} (hk : k2 = va_up k (b + 258) (aI tI 12 g)) : RW tI tZ b N k2 kk dv nc ms f0 f1 g f3 f4 f5 f6 f7 f8 f9 f10 f11 f12 f13 f14 f15 f16 f17 := by
  obtain ⟨ho, r0, r1, r2, r3, r4, r5, r6, r7, r8, r9, r10, r11, r12, r13, r14, r15, r16, r17⟩ := hR
  have hq : ∀ q, q ≠ b + 258 → k2 q = k q := fun q hq => by rw [hk]; exact up_ne hq
  exact ⟨ho.to (hq _ (by omega)), r0.to (hq _ (by omega)), r1.to (hq _ (by omega)), by rw [hk]; exact r2.up, r3.to (hq _ (by omega)), r4.to (hq _ (by omega)), r5.to (hq _ (by omega)), r6.to (hq _ (by omega)), r7.to (hq _ (by omega)), r8.to (hq _ (by omega)), r9.to (hq _ (by omega)), r10.to (hq _ (by omega)), r11.to (hq _ (by omega)), r12.to (hq _ (by omega)), r13.to (hq _ (by omega)), r14.to (hq _ (by omega)), r15.to (hq _ (by omega)), r16.to (hq _ (by omega)), r17.to (hq _ (by omega))⟩
theorem RW.st3 (hR : RW tI tZ b N k kk dv nc ms f0 f1 f2 f3 f4 f5 f6 f7 f8 f9 f10 f11 f12 f13 f14 f15 f16 f17) {g : Nat → Int32} (hk : k2 = va_up k (b + 259) (aI tI 576 g)) : RW tI tZ b N k2 kk dv nc ms f0 f1 f2 g f4 f5 f6 f7 f8 f9 f10 f11 f12 f13 f14 f15 f16 f17 := by
  obtain ⟨ho, r0, r1, r2, r3, r4, r5, r6, r7, r8, r9, r10, r11, r12, r13, r14, r15, r16, r17⟩ := hR
  have hq : ∀ q, q ≠ b + 259 → k2 q = k q := fun q hq => by rw [hk]; exact up_ne hq
  exact ⟨ho.to (hq _ (by omega)), r0.to (hq _ (by omega)), r1.to (hq _ (by omega)), r2.to (hq _ (by omega)), by rw [hk]; exact r3.up, r4.to (hq _ (by omega)), r5.to (hq _ (by omega)), r6.to (hq _ (by omega)), r7.to (hq _ (by omega)), r8.to (hq _ (by omega)), r9.to (hq _ (by omega)), r10.to (hq _ (by omega)), r11.to (hq _ (by omega)), r12.to (hq _ (by omega)), r13.to (hq _ (by omega)), r14.to (hq _ (by omega)), r15.to (hq _ (by omega)), r16.to (hq _ (by omega)), r17.to (hq _ (by omega))⟩
theorem RW.st4 (hR : RW tI tZ b N k kk dv nc ms f0 f1 f2 f3 f4 f5 f6 f7 f8 f9 f10 f11 f12 f13 f14 f15 f16 f17) {g : Nat → Int32} (hk : k2 = va_up k (b + 260) (aI tI 12 g)) : RW tI tZ b N k2 kk dv nc ms f0 f1 f2 f3 g f5 f6 f7 f8 f9 f10 f11 f12 f13 f14 f15 f16 f17 := by
  obtain ⟨ho, r0, r1, r2, r3, r4, r5, r6, r7, r8, r9, r10, r11, r12, r13, r14, r15, r16, r17⟩ := hR
  have hq : ∀ q, q ≠ b + 260 → k2 q = k q := fun q hq => by rw [hk]; exact up_ne hq
  exact ⟨ho.to (hq _ (by omega)), r0.to (hq _ (by omega)), r1.to (hq _ (by omega)), r2.to (hq _ (by omega)), r3.to (hq _ (by omega)), by rw [hk]; exact r4.up, r5.to (hq _ (by omega)), r6.to (hq _ (by omega)), r7.to (hq _ (by omega)), r8.to (hq _ (by omega)), r9.to (hq _ (by omega)), r10.to (hq _ (by omega)), r11.to (hq _ (by omega)), r12.to (hq _ (by omega)), r13.to (hq _ (by omega)), r14.to (hq _ (by omega)), r15.to (hq _ (by omega)), r16.to (hq _ (by omega)), r17.to (hq _ (by omega))⟩
theorem RW.st5 (hR : RW tI tZ b N k kk dv nc ms f0 f1 f2 f3 f4 f5 f6 f7 f8 f9 f10 f11 f12 f13 f14 f15 f16 f17) {g : Nat → Int32} (hk : k2 = va_up k (b + 261) (aI tI 48 g)) : RW tI tZ b N k2 kk dv nc ms f0 f1 f2 f3 f4 g f6 f7 f8 f9 f10 f11 f12 f13 f14 f15 f16 f17 := by
  obtain ⟨ho, r0, r1, r2, r3, r4, r5, r6, r7, r8, r9, r10, r11, r12, r13, r14, r15, r16, r17⟩ := hR
  have hq : ∀ q, q ≠ b + 261 → k2 q = k q := fun q hq => by rw [hk]; exact up_ne hq
  exact ⟨ho.to (hq _ (by omega)), r0.to (hq _ (by omega)), r1.to (hq _ (by omega)), r2.to (hq _ (by omega)), r3.to (hq _ (by omega)), r4.to (hq _ (by omega)), by rw [hk]; exact r5.up, r6.to (hq _ (by omega)), r7.to (hq _ (by omega)), r8.to (hq _ (by omega)), r9.to (hq _ (by omega)), r10.to (hq _ (by omega)), r11.to (hq _ (by omega)), r12.to (hq _ (by omega)), r13.to (hq _ (by omega)), r14.to (hq _ (by omega)), r15.to (hq _ (by omega)), r16.to (hq _ (by omega)), r17.to (hq _ (by omega))⟩
theorem RW.st6 (hR : RW tI tZ b N k kk dv nc ms f0 f1 f2 f3 f4 f5 f6 f7 f8 f9 f10 f11 f12 f13 f14 f15 f16 f17) {g : Nat → Int32} (hk : k2 = va_up k (b + 262) (aI tI 12 g)) : RW tI tZ b N k2 kk dv nc ms f0 f1 f2 f3 f4 f5 g f7 f8 f9 f10 f11 f12 f13 f14 f15 f16 f17 := by
  obtain ⟨ho, r0, r1, r2, r3, r4, r5, r6, r7, r8, r9, r10, r11, r12, r13, r14, r15, r16, r17⟩ := hR
  have hq : ∀ q, q ≠ b + 262 → k2 q = k q := fun q hq => by rw [hk]; exact up_ne hq
  exact ⟨ho.to (hq _ (by omega)), r0.to (hq _ (by omega)), r1.to (hq _ (by omega)), r2.to (hq _ (by omega)), r3.to (hq _ (by omega)), r4.to (hq _ (by omega)), r5.to (hq _ (by omega)), by rw [hk]; exact r6.up, r7.to (hq _ (by omega)), r8.to (hq _ (by omega)), r9.to (hq _ (by omega)), r10.to (hq _ (by omega)), r11.to (hq _ (by omega)), r12.to (hq _ (by omega)), r13.to (hq _ (by omega)), r14.to (hq _ (by omega)), r15.to (hq _ (by omega)), r16.to (hq _ (by omega)), r17.to (hq _ (by omega))⟩
theorem RW.st7 (hR : RW tI tZ b N k kk dv nc ms f0 f1 f2 f3 f4 f5 f6 f7 f8 f9 f10 f11 f12 f13 f14 f15 f16 f17) {g : Nat → Int32} (hk : k2 = va_up k (b + 263) (aI tI 12 g)) : RW tI tZ b N k2 kk dv nc ms f0 f1 f2 f3 f4 f5 f6 g f8 f9 f10 f11 f12 f13 f14 f15 f16 f17 := by
  obtain ⟨ho, r0, r1, r2, r3, r4, r5, r6, r7, r8, r9, r10, r11, r12, r13, r14, r15, r16, r17⟩ := hR
  have hq : ∀ q, q ≠ b + 263 → k2 q = k q := fun q hq => by rw [hk]; exact up_ne hq
  exact ⟨ho.to (hq _ (by omega)), r0.to (hq _ (by omega)), r1.to (hq _ (by omega)), r2.to (hq _ (by omega)), r3.to (hq _ (by omega)), r4.to (hq _ (by omega)), r5.to (hq _ (by omega)), r6.to (hq _ (by omega)), by rw [hk]; exact r7.up, r8.to (hq _ (by omega)), r9.to (hq _ (by omega)), r10.to (hq _ (by omega)), r11.to (hq _ (by omega)), r12.to (hq _ (by omega)), r13.to (hq _ (by omega)), r14.to (hq _ (by omega)), r15.to (hq _ (by omega)), r16.to (hq _ (by omega)), r17.to (hq _ (by omega))⟩
theorem RW.st8 (hR : RW tI tZ b N k kk dv nc ms f0 f1 f2 f3 f4 f5 f6 f7 f8 f9 f10 f11 f12 f13 f14 f15 f16 f17) {g : Nat → Int32} (hk : k2 = va_up k (b + 264) (aI tI 144 g)) : RW tI tZ b N k2 kk dv nc ms f0 f1 f2 f3 f4 f5 f6 f7 g f9 f10 f11 f12 f13 f14 f15 f16 f17 := by
  obtain ⟨ho, r0, r1, r2, r3, r4, r5, r6, r7, r8, r9, r10, r11, r12, r13, r14, r15, r16, r17⟩ := hR
  have hq : ∀ q, q ≠ b + 264 → k2 q = k q := fun q hq => by rw [hk]; exact up_ne hq
  exact ⟨ho.to (hq _ (by omega)), r0.to (hq _ (by omega)), r1.to (hq _ (by omega)), r2.to (hq _ (by omega)), r3.to (hq _ (by omega)), r4.to (hq _ (by omega)), r5.to (hq _ (by omega)), r6.to (hq _ (by omega)), r7.to (hq _ (by omega)), by rw [hk]; exact r8.up, r9.to (hq _ (by omega)), r10.to (hq _ (by omega)), r11.to (hq _ (by omega)), r12.to (hq _ (by omega)), r13.to (hq _ (by omega)), r14.to (hq _ (by omega)), r15.to (hq _ (by omega)), r16.to (hq _ (by omega)), r17.to (hq _ (by omega))⟩
theorem RW.st9 (hR : RW tI tZ b N k kk dv nc ms f0 f1 f2 f3 f4 f5 f6 f7 f8 f9 f10 f11 f12 f13 f14 f15 f16 f17) {g : Nat → Int32} (hk : k2 = va_up k (b + 265) (aI tI 12 g)) : RW tI tZ b N k2 kk dv nc ms f0 f1 f2 f3 f4 f5 f6 f7 f8 g f10 f11 f12 f13 f14 f15 f16 f17 := by
  obtain ⟨ho, r0, r1, r2, r3, r4, r5, r6, r7, r8, r9, r10, r11, r12, r13, r14, r15, r16, r17⟩ := hR
  have hq : ∀ q, q ≠ b + 265 → k2 q = k q := fun q hq => by rw [hk]; exact up_ne hq
  exact ⟨ho.to (hq _ (by omega)), r0.to (hq _ (by omega)), r1.to (hq _ (by omega)), r2.to (hq _ (by omega)), r3.to (hq _ (by omega)), r4.to (hq _ (by omega)), r5.to (hq _ (by omega)), r6.to (hq _ (by omega)), r7.to (hq _ (by omega)), r8.to (hq _ (by omega)), by rw [hk]; exact r9.up, r10.to (hq _ (by omega)), r11.to (hq _ (by omega)), r12.to (hq _ (by omega)), r13.to (hq _ (by omega)), r14.to (hq _ (by omega)), r15.to (hq _ (by omega)), r16.to (hq _ (by omega)), r17.to (hq _ (by omega))⟩
theorem RW.st10 (hR : RW tI tZ b N k kk dv nc ms f0 f1 f2 f3 f4 f5 f6 f7 f8 f9 f10 f11 f12 f13 f14 f15 f16 f17) {g : Nat → Int32} (hk : k2 = va_up k (b + 266) (aI tI 12 g)) : RW tI tZ b N k2 kk dv nc ms f0 f1 f2 f3 f4 f5 f6 f7 f8 f9 g f11 f12 f13 f14 f15 f16 f17 := by
  obtain ⟨ho, r0, r1, r2, r3, r4, r5, r6, r7, r8, r9, r10, r11, r12, r13, r14, r15, r16, r17⟩ := hR
  have hq : ∀ q, q ≠ b + 266 → k2 q = k q := fun q hq => by rw [hk]; exact up_ne hq
  exact ⟨ho.to (hq _ (by omega)), r0.to (hq _ (by omega)), r1.to (hq _ (by omega)), r2.to (hq _ (by omega)), r3.to (hq _ (by omega)), r4.to (hq _ (by omega)), r5.to (hq _ (by omega)), r6.to (hq _ (by omega)), r7.to (hq _ (by omega)), r8.to (hq _ (by omega)), r9.to (hq _ (by omega)), by rw [hk]; exact r10.up, r11.to (hq _ (by omega)), r12.to (hq _ (by omega)), r13.to (hq _ (by omega)), r14.to (hq _ (by omega)), r15.to (hq _ (by omega)), r16.to (hq _ (by omega)), r17.to (hq _ (by omega))⟩
theorem RW.st11 (hR : RW tI tZ b N k kk dv nc ms f0 f1 f2 f3 f4 f5 f6 f7 f8 f9 f10 f11 f12 f13 f14 f15 f16 f17) {g : Nat → Int32} (hk : k2 = va_up k (b + 267) (aI tI 12 g)) : RW tI tZ b N k2 kk dv nc ms f0 f1 f2 f3 f4 f5 f6 f7 f8 f9 f10 g f12 f13 f14 f15 f16 f17 := by
  obtain ⟨ho, r0, r1, r2, r3, r4, r5, r6, r7, r8, r9, r10, r11, r12, r13, r14, r15, r16, r17⟩ := hR
  have hq : ∀ q, q ≠ b + 267 → k2 q = k q := fun q hq => by rw [hk]; exact up_ne hq
  exact ⟨ho.to (hq _ (by omega)), r0.to (hq _ (by omega)), r1.to (hq _ (by omega)), r2.to (hq _ (by omega)), r3.to (hq _ (by omega)), r4.to (hq _ (by omega)), r5.to (hq _ (by omega)), r6.to (hq _ (by omega)), r7.to (hq _ (by omega)), r8.to (hq _ (by omega)), r9.to (hq _ (by omega)), r10.to (hq _ (by omega)), by rw [hk]; exact r11.up, r12.to (hq _ (by omega)), r13.to (hq _ (by omega)), r14.to (hq _ (by omega)), r15.to (hq _ (by omega)), r16.to (hq _ (by omega)), r17.to (hq _ (by omega))⟩
theorem RW.st12 (hR : RW tI tZ b N k kk dv nc ms f0 f1 f2 f3 f4 f5 f6 f7 f8 f9 f10 f11 f12 f13 f14 f15 f16 f17) {g : Nat → Int32} (hk : k2 = va_up k (b + 268) (aI tI 144 g)) : RW tI tZ b N k2 kk dv nc ms f0 f1 f2 f3 f4 f5 f6 f7 f8 f9 f10 f11 g f13 f14 f15 f16 f17 := by
  obtain ⟨ho, r0, r1, r2, r3, r4, r5, r6, r7, r8, r9, r10, r11, r12, r13, r14, r15, r16, r17⟩ := hR
  have hq : ∀ q, q ≠ b + 268 → k2 q = k q := fun q hq => by rw [hk]; exact up_ne hq
  exact ⟨ho.to (hq _ (by omega)), r0.to (hq _ (by omega)), r1.to (hq _ (by omega)), r2.to (hq _ (by omega)), r3.to (hq _ (by omega)), r4.to (hq _ (by omega)), r5.to (hq _ (by omega)), r6.to (hq _ (by omega)), r7.to (hq _ (by omega)), r8.to (hq _ (by omega)), r9.to (hq _ (by omega)), r10.to (hq _ (by omega)), r11.to (hq _ (by omega)), by rw [hk]; exact r12.up, r13.to (hq _ (by omega)), r14.to (hq _ (by omega)), r15.to (hq _ (by omega)), r16.to (hq _ (by omega)), r17.to (hq _ (by omega))⟩
theorem RW.st13 (hR : RW tI tZ b N k kk dv nc ms f0 f1 f2 f3 f4 f5 f6 f7 f8 f9 f10 f11 f12 f13 f14 f15 f16 f17) {g : Nat → Int32} (hk : k2 = va_up k (b + 269) (aI tI 12 g)) : RW tI tZ b N k2 kk dv nc ms f0 f1 f2 f3 f4 f5 f6 f7 f8 f9 f10 f11 f12 g f14 f15 f16 f17 := by
  obtain ⟨ho, r0, r1, r2, r3, r4, r5, r6, r7, r8, r9, r10, r11, r12, r13, r14, r15, r16, r17⟩ := hR
  have hq : ∀ q, q ≠ b + 269 → k2 q = k q := fun q hq => by rw [hk]; exact up_ne hq
  exact ⟨ho.to (hq _ (by omega)), r0.to (hq _ (by omega)), r1.to (hq _ (by omega)), r2.to (hq _ (by omega)), r3.to (hq _ (by omega)), r4.to (hq _ (by omega)), r5.to (hq _ (by omega)), r6.to (hq _ (by omega)), r7.to (hq _ (by omega)), r8.to (hq _ (by omega)), r9.to (hq _ (by omega)), r10.to (hq _ (by omega)), r11.to (hq _ (by omega)), r12.to (hq _ (by omega)), by rw [hk]; exact r13.up, r14.to (hq _ (by omega)), r15.to (hq _ (by omega)), r16.to (hq _ (by omega)), r17.to (hq _ (by omega))⟩
theorem RW.st14 (hR : RW tI tZ b N k kk dv nc ms f0 f1 f2 f3 f4 f5 f6 f7 f8 f9 f10 f11 f12 f13 f14 f15 f16 f17) {g : Nat → Int32} (hk : k2 = va_up k (b + 270) (aI tI 12 g)) : RW tI tZ b N k2 kk dv nc ms f0 f1 f2 f3 f4 f5 f6 f7 f8 f9 f10 f11 f12 f13 g f15 f16 f17 := by
  obtain ⟨ho, r0, r1, r2, r3, r4, r5, r6, r7, r8, r9, r10, r11, r12, r13, r14, r15, r16, r17⟩ := hR
  have hq : ∀ q, q ≠ b + 270 → k2 q = k q := fun q hq => by rw [hk]; exact up_ne hq
  exact ⟨ho.to (hq _ (by omega)), r0.to (hq _ (by omega)), r1.to (hq _ (by omega)), r2.to (hq _ (by omega)), r3.to (hq _ (by omega)), r4.to (hq _ (by omega)), r5.to (hq _ (by omega)), r6.to (hq _ (by omega)), r7.to (hq _ (by omega)), r8.to (hq _ (by omega)), r9.to (hq _ (by omega)), r10.to (hq _ (by omega)), r11.to (hq _ (by omega)), r12.to (hq _ (by omega)), r13.to (hq _ (by omega)), by rw [hk]; exact r14.up, r15.to (hq _ (by omega)), r16.to (hq _ (by omega)), r17.to (hq _ (by omega))⟩
theorem RW.st15 (hR : RW tI tZ b N k kk dv nc ms f0 f1 f2 f3 f4 f5 f6 f7 f8 f9 f10 f11 f12 f13 f14 f15 f16 f17) {g : Nat → Int32} (hk : k2 = va_up k (b + 271) (aI tI 384 g)) : RW tI tZ b N k2 kk dv nc ms f0 f1 f2 f3 f4 f5 f6 f7 f8 f9 f10 f11 f12 f13 f14 g f16 f17 := by
  obtain ⟨ho, r0, r1, r2, r3, r4, r5, r6, r7, r8, r9, r10, r11, r12, r13, r14, r15, r16, r17⟩ := hR
  have hq : ∀ q, q ≠ b + 271 → k2 q = k q := fun q hq => by rw [hk]; exact up_ne hq
  exact ⟨ho.to (hq _ (by omega)), r0.to (hq _ (by omega)), r1.to (hq _ (by omega)), r2.to (hq _ (by omega)), r3.to (hq _ (by omega)), r4.to (hq _ (by omega)), r5.to (hq _ (by omega)), r6.to (hq _ (by omega)), r7.to (hq _ (by omega)), r8.to (hq _ (by omega)), r9.to (hq _ (by omega)), r10.to (hq _ (by omega)), r11.to (hq _ (by omega)), r12.to (hq _ (by omega)), r13.to (hq _ (by omega)), r14.to (hq _ (by omega)), by rw [hk]; exact r15.up, r16.to (hq _ (by omega)), r17.to (hq _ (by omega))⟩
theorem RW.st16 (hR : RW tI tZ b N k kk dv nc ms f0 f1 f2 f3 f4 f5 f6 f7 f8 f9 f10 f11 f12 f13 f14 f15 f16 f17) {g : Nat → Int32} (hk : k2 = va_up k (b + 272) (aI tI 768 g)) : RW tI tZ b N k2 kk dv nc ms f0 f1 f2 f3 f4 f5 f6 f7 f8 f9 f10 f11 f12 f13 f14 f15 g f17 := by
  obtain ⟨ho, r0, r1, r2, r3, r4, r5, r6, r7, r8, r9, r10, r11, r12, r13, r14, r15, r16, r17⟩ := hR
  have hq : ∀ q, q ≠ b + 272 → k2 q = k q := fun q hq => by rw [hk]; exact up_ne hq
  exact ⟨ho.to (hq _ (by omega)), r0.to (hq _ (by omega)), r1.to (hq _ (by omega)), r2.to (hq _ (by omega)), r3.to (hq _ (by omega)), r4.to (hq _ (by omega)), r5.to (hq _ (by omega)), r6.to (hq _ (by omega)), r7.to (hq _ (by omega)), r8.to (hq _ (by omega)), r9.to (hq _ (by omega)), r10.to (hq _ (by omega)), r11.to (hq _ (by omega)), r12.to (hq _ (by omega)), r13.to (hq _ (by omega)), r14.to (hq _ (by omega)), r15.to (hq _ (by omega)), by rw [hk]; exact r16.up, r17.to (hq _ (by omega))⟩
theorem RW.st17 (hR : RW tI tZ b N k kk dv nc ms f0 f1 f2 f3 f4 f5 f6 f7 f8 f9 f10 f11 f12 f13 f14 f15 f16 f17) {g : Nat → Int32} (hk : k2 = va_up k (b + 273) (aI tZ 32 g)) : RW tI tZ b N k2 kk dv nc ms f0 f1 f2 f3 f4 f5 f6 f7 f8 f9 f10 f11 f12 f13 f14 f15 f16 g := by
  obtain ⟨ho, r0, r1, r2, r3, r4, r5, r6, r7, r8, r9, r10, r11, r12, r13, r14, r15, r16, r17⟩ := hR
  have hq : ∀ q, q ≠ b + 273 → k2 q = k q := fun q hq => by rw [hk]; exact up_ne hq
  exact ⟨ho.to (hq _ (by omega)), r0.to (hq _ (by omega)), r1.to (hq _ (by omega)), r2.to (hq _ (by omega)), r3.to (hq _ (by omega)), r4.to (hq _ (by omega)), r5.to (hq _ (by omega)), r6.to (hq _ (by omega)), r7.to (hq _ (by omega)), r8.to (hq _ (by omega)), r9.to (hq _ (by omega)), r10.to (hq _ (by omega)), r11.to (hq _ (by omega)), r12.to (hq _ (by omega)), r13.to (hq _ (by omega)), r14.to (hq _ (by omega)), r15.to (hq _ (by omega)), r16.to (hq _ (by omega)), by rw [hk]; exact r17.up⟩
theorem RW.obj (hR : RW tI tZ b N k kk dv nc ms f0 f1 f2 f3 f4 f5 f6 f7 f8 f9 f10 f11 f12 f13 f14 f15 f16 f17) {nc2 : Nat} {ms2 : Int32} (hk : k2 = va_up k (b + 255) (oR kk dv nc2 ms2 b)) : RW tI tZ b N k2 kk dv nc2 ms2 f0 f1 f2 f3 f4 f5 f6 f7 f8 f9 f10 f11 f12 f13 f14 f15 f16 f17 := by
  obtain ⟨ho, r0, r1, r2, r3, r4, r5, r6, r7, r8, r9, r10, r11, r12, r13, r14, r15, r16, r17⟩ := hR
  have hq : ∀ q, q ≠ b + 255 → k2 q = k q := fun q hq => by rw [hk]; exact up_ne hq
  exact ⟨by rw [hk]; exact ho.up, r0.to (hq _ (by omega)), r1.to (hq _ (by omega)), r2.to (hq _ (by omega)), r3.to (hq _ (by omega)), r4.to (hq _ (by omega)), r5.to (hq _ (by omega)), r6.to (hq _ (by omega)), r7.to (hq _ (by omega)), r8.to (hq _ (by omega)), r9.to (hq _ (by omega)), r10.to (hq _ (by omega)), r11.to (hq _ (by omega)), r12.to (hq _ (by omega)), r13.to (hq _ (by omega)), r14.to (hq _ (by omega)), r15.to (hq _ (by omega)), r16.to (hq _ (by omega)), r17.to (hq _ (by omega))⟩
theorem RW.keep (hR : RW tI tZ b N k kk dv nc ms f0 f1 f2 f3 f4 f5 f6 f7 f8 f9 f10 f11 f12 f13 f14 f15 f16 f17) (hk : ∀ q, b + 255 ≤ q → k2 q = k q) : RW tI tZ b N k2 kk dv nc ms f0 f1 f2 f3 f4 f5 f6 f7 f8 f9 f10 f11 f12 f13 f14 f15 f16 f17 := by
  obtain ⟨ho, r0, r1, r2, r3, r4, r5, r6, r7, r8, r9, r10, r11, r12, r13, r14, r15, r16, r17⟩ := hR
  exact ⟨ho.to (hk _ (by omega)), r0.to (hk _ (by omega)), r1.to (hk _ (by omega)), r2.to (hk _ (by omega)), r3.to (hk _ (by omega)), r4.to (hk _ (by omega)), r5.to (hk _ (by omega)), r6.to (hk _ (by omega)), r7.to (hk _ (by omega)), r8.to (hk _ (by omega)), r9.to (hk _ (by omega)), r10.to (hk _ (by omega)), r11.to (hk _ (by omega)), r12.to (hk _ (by omega)), r13.to (hk _ (by omega)), r14.to (hk _ (by omega)), r15.to (hk _ (by omega)), r16.to (hk _ (by omega)), r17.to (hk _ (by omega))⟩
end
section
variable {l : Launch} {D : va_G} {tI tZ tN tM : ClassId} {b N : Nat} {k : Nat → va_E}
set_option maxHeartbeats 4000000 in
set_option maxRecDepth 100000 in
/-- R_isNode -/
theorem c_R_isNode {kk nc : Nat} {dv ms : Int32} {f0 f1 f2 f3 f4 f5 f6 f7 f8 f9 f10 f11 f12 f13 f14 f15 f16 f17 : Nat → Int32} {x : Int32} (hR : RW tI tZ b N k kk dv nc ms f0 f1 f2 f3 f4 f5 f6 f7 f8 f9 f10 f11 f12 f13 f14 f15 f16 f17)  : Met l y_R_isNode (wy y_R_isNode b_R_isNode 2 (some .boolean)) (rm 0 0 0) (zPc D (tyl tI tZ tN tM) b N k [.ref (b + 255), .int x]) (zQi D b N (fun z k2 => z = nI (cb (isn nc x)) ∧ k2 = k)) 0 0 (zA b) := by
  refine z_met (own := R_R) (by decide) rfl rfl (Nat.le_of_ble_eq_true rfl) [some (.ref (b + 255)), some (.int x)] rfl ?_
  intro p e s m args below meth c X hin
  have ⟨ho, r0, r1, r2, r3, r4, r5, r6, r7, r8, r9, r10, r11, r12, r13, r14, r15, r16, r17⟩ := hR
  have hfr : ∀ q, q < b + 255 → k q = k q := fun _ _ => rfl
  refine z_iload_n X d_R_isNode_0 rfl ?_
  refine z_if_lt X d_R_isNode_1 (tgt := 16) (by decide) (fun hA => ?_) (fun hA => ?_)
  · skip
    refine z_iconst X d_R_isNode_16 (v := nI 0) (by decide +kernel) ?_
    exact z_zret X d_R_isNode_17 (by decide) (by omega) (by omega) (⟨by simp [isn, hA, cb], rfl⟩)
  · skip
    refine z_iload_n X d_R_isNode_4 rfl ?_
    refine z_aload_n X d_R_isNode_5 rfl ?_
    refine z_get X ho rfl in_R 2 (by decide) (wq lf_R_7) rfl d_R_isNode_6 ?_
    refine z_icmp_ge X d_R_isNode_9 (tgt := 16) (by decide) (fun hB => ?_) (fun hB => ?_)
    · skip
      refine z_iconst X d_R_isNode_16 (v := nI 0) (by decide +kernel) ?_
      exact z_zret X d_R_isNode_17 (by decide) (by omega) (by omega) (⟨by simp [isn, hB, cb], rfl⟩)
    · skip
      refine z_iconst X d_R_isNode_12 (v := nI 1) (by decide +kernel) ?_
      refine z_goto X d_R_isNode_13 (tgt := 17) (by decide) ?_
      exact z_zret X d_R_isNode_17 (by decide) (by omega) (by omega) (⟨by simp [isn, hA, hB, cb], rfl⟩)
set_option maxHeartbeats 4000000 in
set_option maxRecDepth 100000 in
/-- R_leafNode -/
theorem c_R_leafNode {kk nc : Nat} {dv ms : Int32} {f0 f1 f2 f3 f4 f5 f6 f7 f8 f9 f10 f11 f12 f13 f14 f15 f16 f17 : Nat → Int32} {x : Int32} (hR : RW tI tZ b N k kk dv nc ms f0 f1 f2 f3 f4 f5 f6 f7 f8 f9 f10 f11 f12 f13 f14 f15 f16 f17) (hnc : nc ≤ 12)  : Met l y_R_leafNode (wy y_R_leafNode b_R_leafNode 2 (some .boolean)) (rm 1 0 0) (zPc D (tyl tI tZ tN tM) b N k [.ref (b + 255), .int x]) (zQi D b N (fun z k2 => z = nI (cb (isl nc f1 x)) ∧ k2 = k)) 0 0 (zA b) := by
  refine z_met (own := R_R) (by decide) rfl rfl (Nat.le_of_ble_eq_true rfl) [some (.ref (b + 255)), some (.int x)] rfl ?_
  intro p e s m args below meth c X hin
  have ⟨ho, r0, r1, r2, r3, r4, r5, r6, r7, r8, r9, r10, r11, r12, r13, r14, r15, r16, r17⟩ := hR
  have hfr : ∀ q, q < b + 255 → k q = k q := fun _ _ => rfl
  refine z_aload_n X d_R_leafNode_0 rfl ?_
  refine z_iload_n X d_R_leafNode_1 rfl ?_
  refine z_callVi X (c_R_isNode hR) ho rfl (cwV 1 X.1.2.2.2.2 (gi_V lm_R_75 vi_R_isNode ve_R_isNode vn_R vc_R_isNode) rfl rfl rfl (by decide +kernel) ⟨Nat.le_of_ble_eq_true rfl, Nat.le_of_ble_eq_true rfl⟩) (As := [.int x]) (st := []) rfl rfl (Nat.le_of_ble_eq_true rfl) d_R_leafNode_2 ⟨Nat.le_of_ble_eq_true rfl, Nat.le_of_ble_eq_true rfl⟩ (fun z k2 hq => ?_)
  obtain ⟨rfl, hk9⟩ := hq
  have hk9 := hk9.symm
  subst hk9
  cases hx : isn nc x
  · skip
    refine z_if_eqN X d_R_leafNode_5 (tgt := 21) (by decide) (by decide) (fun _ => ?_) (fun h => absurd h (by decide))
    refine z_iconst X d_R_leafNode_21 (v := nI 0) (by decide +kernel) ?_
    exact z_zret X d_R_leafNode_22 (by decide) (by omega) (by omega) (⟨by simp [isl, hx, cb], rfl⟩)
  · skip
    refine z_if_eqN X d_R_leafNode_5 (tgt := 21) (by decide) (by decide) (fun h => absurd h (by decide)) (fun _ => ?_)
    obtain ⟨j, hj, rfl⟩ := isn_t (by omega) hx
    refine z_lv (lv2 := [some (.ref (b + 255)), some (.int (nI j))]) (fun _ _ q => q) ?_
    refine z_aload_n X d_R_leafNode_8 rfl ?_
    refine z_get X ho rfl in_R 4 (by decide) (wq lf_R_17) rfl d_R_leafNode_9 ?_
    refine z_iload_n X d_R_leafNode_12 rfl ?_
    refine z_zald X r1 1 rfl (j := j) rfl (by omega) (by omega) d_R_leafNode_13 ?_
    refine z_if_eq X d_R_leafNode_14 (tgt := 21) (by decide) (fun hB => ?_) (fun hB => ?_)
    · skip
      refine z_iconst X d_R_leafNode_21 (v := nI 0) (by decide +kernel) ?_
      exact z_zret X d_R_leafNode_22 (by decide) (by omega) (by omega) (⟨by rw [isl, hx, nI_clamp (by omega), hB]; rfl, rfl⟩)
    · skip
      refine z_iconst X d_R_leafNode_17 (v := nI 1) (by decide +kernel) ?_
      refine z_goto X d_R_leafNode_18 (tgt := 22) (by decide) ?_
      exact z_zret X d_R_leafNode_22 (by decide) (by omega) (by omega) (⟨by rw [isl, hx, nI_clamp (by omega)]; simp [hB, cb], rfl⟩)
end
theorem so_at (f : Nat → Int32) (x : Int32) : so f x = if 0 < x then sw f x 12 else -1 := by
  unfold so
  have h : nI 1 ≤ x ↔ 0 < x := by
    rw [Int32.le_iff_toInt_le, Int32.lt_iff_toInt_lt, nI_toInt (by omega), Int32.toInt_zero]
    omega
  simp only [h]
section
variable {l : Launch} {D : va_G} {tI tZ tN tM : ClassId} {b N : Nat} {k : Nat → va_E}
set_option maxHeartbeats 4000000 in
set_option maxRecDepth 100000 in
/-- R_placeOf -/
theorem c_R_placeOf {kk nc : Nat} {dv ms : Int32} {f0 f1 f2 f3 f4 f5 f6 f7 f8 f9 f10 f11 f12 f13 f14 f15 f16 f17 : Nat → Int32} {x : Int32} (hR : RW tI tZ b N k kk dv nc ms f0 f1 f2 f3 f4 f5 f6 f7 f8 f9 f10 f11 f12 f13 f14 f15 f16 f17)  : Met l y_R_placeOf (wy y_R_placeOf b_R_placeOf 3 (some .int)) (rm 0 0 0) (zPc D (tyl tI tZ tN tM) b N k [.ref (b + 255), .int x]) (zQi D b N (fun z k2 => z = so f9 x ∧ k2 = k)) 0 0 (zA b) := by
  refine z_met (own := R_R) (by decide) rfl rfl (Nat.le_of_ble_eq_true rfl) [some (.ref (b + 255)), some (.int x), none] rfl ?_
  intro p e s m args below meth c X hin
  have ⟨ho, r0, r1, r2, r3, r4, r5, r6, r7, r8, r9, r10, r11, r12, r13, r14, r15, r16, r17⟩ := hR
  have hfr : ∀ q, q < b + 255 → k q = k q := fun _ _ => rfl
  rw [so_at]
  refine z_iconst X d_R_placeOf_0 (v := nI 0) (by decide +kernel) ?_
  refine z_istore_n X d_R_placeOf_1 (by decide) rfl ?_
  refine z_lv (lv2 := [some (.ref (b + 255)), some (.int x), some (.int (nI 0))]) (fun _ _ q => q) ?_
  refine z_loop (σ := Unit) (K := fun _ _ => k) (LV := fun v _ => [some (.ref (b + 255)), some (.int x), some (.int (nI v))]) (I := fun v _ => 0 < x → sw f9 x 12 = sw f9 x (12 - v)) 12 0 () (by omega) (fun _ => rfl) (rfl) (rfl) ?_ ?_
  · intro s1 hI
    refine z_lv (lv2 := [some (.ref (b + 255)), some (.int x), some (.int (nI 12))]) (fun _ _ q => q) ?_
    refine z_iload_n X d_R_placeOf_2 rfl ?_
    refine z_bipush X d_R_placeOf_3 (v := nI 12) (by decide +kernel) ?_
    refine z_icmp_geN X d_R_placeOf_5 (tgt := 30) (by decide) (by omega) (by omega) (fun _ => ?_) (fun h => absurd h (by omega))
    refine z_iconst X d_R_placeOf_30 (v := -1) (by decide +kernel) ?_
    exact z_iret X d_R_placeOf_31 (by omega) (by omega) (⟨by by_cases h : 0 < x; (rw [if_pos h, hI h]; rfl); rw [if_neg h], rfl⟩)
  · intro v s1 hv hI ih
    refine z_lv (lv2 := [some (.ref (b + 255)), some (.int x), some (.int (nI v))]) (fun _ _ q => q) ?_
    refine z_iload_n X d_R_placeOf_2 rfl ?_
    refine z_bipush X d_R_placeOf_3 (v := nI 12) (by decide +kernel) ?_
    refine z_icmp_geN X d_R_placeOf_5 (tgt := 30) (by decide) (by omega) (by omega) (fun h => absurd h (by omega)) (fun _ => ?_)
    refine z_iload_n X d_R_placeOf_8 rfl ?_
    refine z_if_le X d_R_placeOf_9 (tgt := 24) (by decide) (fun hA => ?_) (fun hA => ?_)
    · skip
      refine z_iincU X d_R_placeOf_24 rfl (by decide) rfl ?_
      refine z_lv (lv2 := [some (.ref (b + 255)), some (.int x), some (.int (nI (v + 1)))]) (fun _ _ q => q) ?_
      refine z_goto X d_R_placeOf_27 (tgt := 2) (by decide) ?_
      exact z_at (ih () (fun q => absurd q (i32_le_n hA))) rfl rfl
    · skip
      have hA2 := i32_nle hA
      have hI := hI hA2
      rw [sw_at f9 x hv] at hI
      refine z_aload_n X d_R_placeOf_12 rfl ?_
      refine z_get X ho rfl in_R 13 (by decide) (wq lf_R_42) rfl d_R_placeOf_13 ?_
      refine z_iload_n X d_R_placeOf_16 rfl ?_
      refine z_iald X r9 0 rfl (j := v) rfl (by omega) (by omega) d_R_placeOf_17 ?_
      refine z_iload_n X d_R_placeOf_18 rfl ?_
      refine z_icmp_ne X d_R_placeOf_19 (tgt := 24) (by decide) (fun hB => ?_) (fun hB => ?_)
      · skip
        refine z_iincU X d_R_placeOf_24 rfl (by decide) rfl ?_
        refine z_lv (lv2 := [some (.ref (b + 255)), some (.int x), some (.int (nI (v + 1)))]) (fun _ _ q => q) ?_
        refine z_goto X d_R_placeOf_27 (tgt := 2) (by decide) ?_
        exact z_at (ih () (fun _ => by rw [hI, if_neg hB])) rfl rfl
      · skip
        refine z_iload_n X d_R_placeOf_22 rfl ?_
        exact z_iret X d_R_placeOf_23 (by omega) (by omega) (⟨by rw [if_pos hA2, hI, if_pos hB], rfl⟩)
set_option maxHeartbeats 4000000 in
set_option maxRecDepth 100000 in
/-- R_freePlace -/
theorem c_R_freePlace {kk nc : Nat} {dv ms : Int32} {f0 f1 f2 f3 f4 f5 f6 f7 f8 f9 f10 f11 f12 f13 f14 f15 f16 f17 : Nat → Int32} (hR : RW tI tZ b N k kk dv nc ms f0 f1 f2 f3 f4 f5 f6 f7 f8 f9 f10 f11 f12 f13 f14 f15 f16 f17)  : Met l y_R_freePlace (wy y_R_freePlace b_R_freePlace 2 (some .int)) (rm 0 0 0) (zPc D (tyl tI tZ tN tM) b N k [.ref (b + 255)]) (zQi D b N (fun z k2 => z = sw f9 0 12 ∧ k2 = k)) 0 0 (zA b) := by
  refine z_met (own := R_R) (by decide) rfl rfl (Nat.le_of_ble_eq_true rfl) [some (.ref (b + 255)), none] rfl ?_
  intro p e s m args below meth c X hin
  have ⟨ho, r0, r1, r2, r3, r4, r5, r6, r7, r8, r9, r10, r11, r12, r13, r14, r15, r16, r17⟩ := hR
  have hfr : ∀ q, q < b + 255 → k q = k q := fun _ _ => rfl
  refine z_iconst X d_R_freePlace_0 (v := nI 0) (by decide +kernel) ?_
  refine z_istore_n X d_R_freePlace_1 (by decide) rfl ?_
  refine z_lv (lv2 := [some (.ref (b + 255)), some (.int (nI 0))]) (fun _ _ q => q) ?_
  refine z_loop (σ := Unit) (K := fun _ _ => k) (LV := fun v _ => [some (.ref (b + 255)), some (.int (nI v))]) (I := fun v _ => sw f9 0 12 = sw f9 0 (12 - v)) 12 0 () (by omega) (rfl) (rfl) (rfl) ?_ ?_
  · intro s1 hI
    refine z_lv (lv2 := [some (.ref (b + 255)), some (.int (nI 12))]) (fun _ _ q => q) ?_
    refine z_iload_n X d_R_freePlace_2 rfl ?_
    refine z_bipush X d_R_freePlace_3 (v := nI 12) (by decide +kernel) ?_
    refine z_icmp_geN X d_R_freePlace_5 (tgt := 25) (by decide) (by omega) (by omega) (fun _ => ?_) (fun h => absurd h (by omega))
    refine z_iconst X d_R_freePlace_25 (v := -1) (by decide +kernel) ?_
    exact z_iret X d_R_freePlace_26 (by omega) (by omega) (⟨hI.symm, rfl⟩)
  · intro v s1 hv hI ih
    rw [sw_at f9 0 hv] at hI
    refine z_lv (lv2 := [some (.ref (b + 255)), some (.int (nI v))]) (fun _ _ q => q) ?_
    refine z_iload_n X d_R_freePlace_2 rfl ?_
    refine z_bipush X d_R_freePlace_3 (v := nI 12) (by decide +kernel) ?_
    refine z_icmp_geN X d_R_freePlace_5 (tgt := 25) (by decide) (by omega) (by omega) (fun h => absurd h (by omega)) (fun _ => ?_)
    refine z_aload_n X d_R_freePlace_8 rfl ?_
    refine z_get X ho rfl in_R 13 (by decide) (wq lf_R_42) rfl d_R_freePlace_9 ?_
    refine z_iload_n X d_R_freePlace_12 rfl ?_
    refine z_iald X r9 0 rfl (j := v) rfl (by omega) (by omega) d_R_freePlace_13 ?_
    refine z_if_ne X d_R_freePlace_14 (tgt := 19) (by decide) (fun hA => ?_) (fun hA => ?_)
    · skip
      refine z_iincU X d_R_freePlace_19 rfl (by decide) rfl ?_
      refine z_lv (lv2 := [some (.ref (b + 255)), some (.int (nI (v + 1)))]) (fun _ _ q => q) ?_
      refine z_goto X d_R_freePlace_22 (tgt := 2) (by decide) ?_
      exact z_at (ih () (by rw [hI, if_neg hA])) rfl rfl
    · skip
      refine z_iload_n X d_R_freePlace_17 rfl ?_
      exact z_iret X d_R_freePlace_18 (by omega) (by omega) (⟨by rw [hI, if_pos hA], rfl⟩)
set_option maxHeartbeats 4000000 in
set_option maxRecDepth 100000 in
/-- R_onTheWay -/
theorem c_R_onTheWay {kk nc : Nat} {dv ms : Int32} {f0 f1 f2 f3 f4 f5 f6 f7 f8 f9 f10 f11 f12 f13 f14 f15 f16 f17 : Nat → Int32} (hR : RW tI tZ b N k kk dv nc ms f0 f1 f2 f3 f4 f5 f6 f7 f8 f9 f10 f11 f12 f13 f14 f15 f16 f17)  : Met l y_R_onTheWay (wy y_R_onTheWay b_R_onTheWay 3 (some .int)) (rm 0 0 0) (zPc D (tyl tI tZ tN tM) b N k [.ref (b + 255)]) (zQi D b N (fun z k2 => z = nI (ct (fun p => decide (0 < f9 p)) 12) ∧ k2 = k)) 0 0 (zA b) := by
  refine z_met (own := R_R) (by decide) rfl rfl (Nat.le_of_ble_eq_true rfl) [some (.ref (b + 255)), none, none] rfl ?_
  intro p e s m args below meth c X hin
  have ⟨ho, r0, r1, r2, r3, r4, r5, r6, r7, r8, r9, r10, r11, r12, r13, r14, r15, r16, r17⟩ := hR
  have hfr : ∀ q, q < b + 255 → k q = k q := fun _ _ => rfl
  refine z_iconst X d_R_onTheWay_0 (v := nI 0) (by decide +kernel) ?_
  refine z_istore_n X d_R_onTheWay_1 (by decide) rfl ?_
  refine z_lv (lv2 := [some (.ref (b + 255)), some (.int (nI 0)), none]) (fun _ _ q => q) ?_
  refine z_iconst X d_R_onTheWay_2 (v := nI 0) (by decide +kernel) ?_
  refine z_istore_n X d_R_onTheWay_3 (by decide) rfl ?_
  refine z_lv (lv2 := [some (.ref (b + 255)), some (.int (nI 0)), some (.int (nI 0))]) (fun _ _ q => q) ?_
  refine z_loop (σ := Unit) (K := fun _ _ => k) (LV := fun v _ => [some (.ref (b + 255)), some (.int (nI (ct (fun p => decide (0 < f9 p)) v))), some (.int (nI v))]) (I := fun _ _ => True) 12 0 () (by omega) (trivial) (rfl) (rfl) ?_ ?_
  · intro s1 _
    refine z_lv (lv2 := [some (.ref (b + 255)), some (.int (nI (ct (fun p => decide (0 < f9 p)) 12))), some (.int (nI 12))]) (fun _ _ q => q) ?_
    refine z_iload_n X d_R_onTheWay_4 rfl ?_
    refine z_bipush X d_R_onTheWay_5 (v := nI 12) (by decide +kernel) ?_
    refine z_icmp_geN X d_R_onTheWay_7 (tgt := 33) (by decide) (by omega) (by omega) (fun _ => ?_) (fun h => absurd h (by omega))
    refine z_iload_n X d_R_onTheWay_33 rfl ?_
    exact z_iret X d_R_onTheWay_34 (by omega) (by omega) (⟨rfl, rfl⟩)
  · intro v s1 hv _ ih
    refine z_lv (lv2 := [some (.ref (b + 255)), some (.int (nI (ct (fun p => decide (0 < f9 p)) v))), some (.int (nI v))]) (fun _ _ q => q) ?_
    refine z_iload_n X d_R_onTheWay_4 rfl ?_
    refine z_bipush X d_R_onTheWay_5 (v := nI 12) (by decide +kernel) ?_
    refine z_icmp_geN X d_R_onTheWay_7 (tgt := 33) (by decide) (by omega) (by omega) (fun h => absurd h (by omega)) (fun _ => ?_)
    refine z_aload_n X d_R_onTheWay_10 rfl ?_
    refine z_get X ho rfl in_R 13 (by decide) (wq lf_R_42) rfl d_R_onTheWay_11 ?_
    refine z_iload_n X d_R_onTheWay_14 rfl ?_
    refine z_iald X r9 0 rfl (j := v) rfl (by omega) (by omega) d_R_onTheWay_15 ?_
    refine z_if_le X d_R_onTheWay_16 (tgt := 25) (by decide) (fun hA => ?_) (fun hA => ?_)
    · skip
      refine z_iload_n X d_R_onTheWay_25 rfl ?_
      refine z_istore_n X d_R_onTheWay_26 (by decide) rfl ?_
      refine z_lv (lv2 := [some (.ref (b + 255)), some (.int (nI (ct (fun p => decide (0 < f9 p)) v))), some (.int (nI v))]) (fun _ _ q => q) ?_
      refine z_iincU X d_R_onTheWay_27 rfl (by decide) rfl ?_
      refine z_lv (lv2 := [some (.ref (b + 255)), some (.int (nI (ct (fun p => decide (0 < f9 p)) v))), some (.int (nI (v + 1)))]) (fun _ _ q => q) ?_
      refine z_goto X d_R_onTheWay_30 (tgt := 4) (by decide) ?_
      exact z_at (ih () trivial) rfl (by simp only [ct]; rw [if_neg (by simp [i32_le_n hA])]; rfl)
    · skip
      refine z_iload_n X d_R_onTheWay_19 rfl ?_
      refine z_iconst X d_R_onTheWay_20 (v := nI 1) (by decide +kernel) ?_
      refine z_iaddN X d_R_onTheWay_21 ?_
      refine z_goto X d_R_onTheWay_22 (tgt := 26) (by decide) ?_
      refine z_istore_n X d_R_onTheWay_26 (by decide) rfl ?_
      refine z_lv (lv2 := [some (.ref (b + 255)), some (.int (nI ((ct (fun p => decide (0 < f9 p)) v) + 1))), some (.int (nI v))]) (fun _ _ q => q) ?_
      refine z_iincU X d_R_onTheWay_27 rfl (by decide) rfl ?_
      refine z_lv (lv2 := [some (.ref (b + 255)), some (.int (nI ((ct (fun p => decide (0 < f9 p)) v) + 1))), some (.int (nI (v + 1)))]) (fun _ _ q => q) ?_
      refine z_goto X d_R_onTheWay_30 (tgt := 4) (by decide) ?_
      exact z_at (ih () trivial) rfl (by simp only [ct]; rw [if_pos (by simp [i32_nle hA])])
end
end
section
/-! Contracts of the reference, 2: counters and digest rows -/
def oI (o : Option Nat) : Int32 := match o with
  | none => -1
  | some x => nI x
theorem zn0 : vp_nar .boolean (nI 0) = nI 0 := by decide +kernel
theorem zn1 : vp_nar .boolean (nI 1) = nI 1 := by decide +kernel
theorem pr_row1 {j : Nat} {g g2 C : Nat → Int32} (hg : g = rw_ 64 C j) (h0 : g2 0 = 0) : pr (64 * j + 1) 63 (fun r => ad g g2 (r + 1)) C = pr (64 * j) 64 (ad g g2) C := by
  funext q
  unfold pr
  by_cases h1 : 64 * j + 1 ≤ q ∧ q < 64 * j + 1 + 63
  · rw [if_pos h1, if_pos (by omega)]
    show ad g g2 (q - (64 * j + 1) + 1) = ad g g2 (q - 64 * j)
    rw [show q - (64 * j + 1) + 1 = q - 64 * j by omega]
  · rw [if_neg h1]
    by_cases h2 : 64 * j ≤ q ∧ q < 64 * j + 64
    · have h3 : q = 64 * j := by omega
      subst h3
      rw [if_pos h2, Nat.sub_self]
      unfold ad
      rw [h0, hg, rw_in (by omega), Nat.add_zero]
      exact (Int32.add_zero _).symm
    · rw [if_neg h2]
section
variable {l : Launch} {D : va_G} {tI tZ tN tM : ClassId} {b N : Nat} {k : Nat → va_E}
set_option maxHeartbeats 4000000 in
set_option maxRecDepth 100000 in
/-- R_counters -/
theorem c_R_counters {kk nc : Nat} {dv ms : Int32} {f0 f1 f2 f3 f4 f5 f6 f7 f8 f9 f10 f11 f12 f13 f14 f15 f16 f17 : Nat → Int32} {j : Nat} (hR : RW tI tZ b N k kk dv nc ms f0 f1 f2 f3 f4 f5 f6 f7 f8 f9 f10 f11 f12 f13 f14 f15 f16 f17) (hj : j < 12)  : Met l y_R_counters (wy y_R_counters b_R_counters 4 (some .int)) (rm 0 0 0) (zPc D (tyl tI tZ tN tM) b N k [.ref (b + 255), .int (nI j)]) (zQi D b N (fun z k2 => z = nI (cn (rw_ 32 f15 j)) ∧ k2 = k)) 0 0 (zA b) := by
  refine z_met (own := R_R) (by decide) rfl rfl (Nat.le_of_ble_eq_true rfl) [some (.ref (b + 255)), some (.int (nI j)), none, none] rfl ?_
  intro p e s m args below meth c X hin
  have ⟨ho, r0, r1, r2, r3, r4, r5, r6, r7, r8, r9, r10, r11, r12, r13, r14, r15, r16, r17⟩ := hR
  have hfr : ∀ q, q < b + 255 → k q = k q := fun _ _ => rfl
  refine z_iconst X d_R_counters_0 (v := nI 0) (by decide +kernel) ?_
  refine z_istore_n X d_R_counters_1 (by decide) rfl ?_
  refine z_lv (lv2 := [some (.ref (b + 255)), some (.int (nI j)), some (.int (nI 0)), none]) (fun _ _ q => q) ?_
  refine z_iconst X d_R_counters_2 (v := nI 0) (by decide +kernel) ?_
  refine z_istore_n X d_R_counters_3 (by decide) rfl ?_
  refine z_lv (lv2 := [some (.ref (b + 255)), some (.int (nI j)), some (.int (nI 0)), some (.int (nI 0))]) (fun _ _ q => q) ?_
  refine z_loop (σ := Unit) (K := fun _ _ => k) (LV := fun v _ => [some (.ref (b + 255)), some (.int (nI j)), some (.int (nI (ct (fun v => decide (0 < rw_ 32 f15 j v)) v))), some (.int (nI v))]) (I := fun _ _ => True) 32 0 () (by omega) (trivial) (rfl) (rfl) ?_ ?_
  · intro s1 _
    refine z_lv (lv2 := [some (.ref (b + 255)), some (.int (nI j)), some (.int (nI (ct (fun v => decide (0 < rw_ 32 f15 j v)) 32))), some (.int (nI 32))]) (fun _ _ q => q) ?_
    refine z_iload_n X d_R_counters_4 rfl ?_
    refine z_bipush X d_R_counters_5 (v := nI 32) (by decide +kernel) ?_
    refine z_icmp_geN X d_R_counters_7 (tgt := 38) (by decide) (by omega) (by omega) (fun _ => ?_) (fun h => absurd h (by omega))
    refine z_iload_n X d_R_counters_38 rfl ?_
    exact z_iret X d_R_counters_39 (by omega) (by omega) (⟨rfl, rfl⟩)
  · intro v s1 hv _ ih
    refine z_lv (lv2 := [some (.ref (b + 255)), some (.int (nI j)), some (.int (nI (ct (fun v => decide (0 < rw_ 32 f15 j v)) v))), some (.int (nI v))]) (fun _ _ q => q) ?_
    refine z_iload_n X d_R_counters_4 rfl ?_
    refine z_bipush X d_R_counters_5 (v := nI 32) (by decide +kernel) ?_
    refine z_icmp_geN X d_R_counters_7 (tgt := 38) (by decide) (by omega) (by omega) (fun h => absurd h (by omega)) (fun _ => ?_)
    refine z_aload_n X d_R_counters_10 rfl ?_
    refine z_get X ho rfl in_R 19 (by decide) (wq lf_R_60) rfl d_R_counters_11 ?_
    refine z_bipush X d_R_counters_14 (v := nI 32) (by decide +kernel) ?_
    refine z_iload_n X d_R_counters_16 rfl ?_
    refine z_imulN X d_R_counters_17 ?_
    refine z_iload_n X d_R_counters_18 rfl ?_
    refine z_iaddN X d_R_counters_19 ?_
    refine z_iald X r15 0 rfl (j := (32 * j) + v) rfl (by omega) (by omega) d_R_counters_20 ?_
    refine z_top (y := .int (rw_ 32 f15 j v)) (by rw [rw_in hv]) ?_
    refine z_if_le X d_R_counters_21 (tgt := 30) (by decide) (fun hA => ?_) (fun hA => ?_)
    · skip
      refine z_iload_n X d_R_counters_30 rfl ?_
      refine z_istore_n X d_R_counters_31 (by decide) rfl ?_
      refine z_lv (lv2 := [some (.ref (b + 255)), some (.int (nI j)), some (.int (nI (ct (fun v => decide (0 < rw_ 32 f15 j v)) v))), some (.int (nI v))]) (fun _ _ q => q) ?_
      refine z_iincU X d_R_counters_32 rfl (by decide) rfl ?_
      refine z_lv (lv2 := [some (.ref (b + 255)), some (.int (nI j)), some (.int (nI (ct (fun v => decide (0 < rw_ 32 f15 j v)) v))), some (.int (nI (v + 1)))]) (fun _ _ q => q) ?_
      refine z_goto X d_R_counters_35 (tgt := 4) (by decide) ?_
      exact z_at (ih () trivial) rfl (by simp only [ct]; rw [if_neg (by simp [i32_le_n hA])]; rfl)
    · skip
      refine z_iload_n X d_R_counters_24 rfl ?_
      refine z_iconst X d_R_counters_25 (v := nI 1) (by decide +kernel) ?_
      refine z_iaddN X d_R_counters_26 ?_
      refine z_goto X d_R_counters_27 (tgt := 31) (by decide) ?_
      refine z_istore_n X d_R_counters_31 (by decide) rfl ?_
      refine z_lv (lv2 := [some (.ref (b + 255)), some (.int (nI j)), some (.int (nI ((ct (fun v => decide (0 < rw_ 32 f15 j v)) v) + 1))), some (.int (nI v))]) (fun _ _ q => q) ?_
      refine z_iincU X d_R_counters_32 rfl (by decide) rfl ?_
      refine z_lv (lv2 := [some (.ref (b + 255)), some (.int (nI j)), some (.int (nI ((ct (fun v => decide (0 < rw_ 32 f15 j v)) v) + 1))), some (.int (nI (v + 1)))]) (fun _ _ q => q) ?_
      refine z_goto X d_R_counters_35 (tgt := 4) (by decide) ?_
      exact z_at (ih () trivial) rfl (by simp only [ct]; rw [if_pos (by simp [i32_nle hA])])
set_option maxHeartbeats 4000000 in
set_option maxRecDepth 100000 in
/-- R_lower -/
theorem c_R_lower {kk nc : Nat} {dv ms : Int32} {f0 f1 f2 f3 f4 f5 f6 f7 f8 f9 f10 f11 f12 f13 f14 f15 f16 f17 : Nat → Int32} {j : Nat} {x : Int32} (hR : RW tI tZ b N k kk dv nc ms f0 f1 f2 f3 f4 f5 f6 f7 f8 f9 f10 f11 f12 f13 f14 f15 f16 f17) (hj : j < 12)  : Met l y_R_lower (wy y_R_lower b_R_lower 5 none) (rm 0 0 0) (zPc D (tyl tI tZ tN tM) b N k [.ref (b + 255), .int (nI j), .int x]) (zQv D b N (fun k2 => RW tI tZ b N k2 kk dv nc ms f0 f1 f2 f3 f4 f5 f6 f7 f8 f9 f10 f11 f12 f13 f14 (pr (32 * j) 32 (lw (rw_ 32 f15 j) x) f15) f16 f17 ∧ ∀ q, q < b + 255 → k2 q = k q)) 0 0 (zA b) := by
  refine z_met (own := R_R) (by decide) rfl rfl (Nat.le_of_ble_eq_true rfl) [some (.ref (b + 255)), some (.int (nI j)), some (.int x), none, none] rfl ?_
  intro p e s m args below meth c X hin
  have ⟨ho, r0, r1, r2, r3, r4, r5, r6, r7, r8, r9, r10, r11, r12, r13, r14, r15, r16, r17⟩ := hR
  have hfr : ∀ q, q < b + 255 → k q = k q := fun _ _ => rfl
  refine z_iconst X d_R_lower_0 (v := nI 0) (by decide +kernel) ?_
  refine z_istore_n X d_R_lower_1 (by decide) rfl ?_
  refine z_lv (lv2 := [some (.ref (b + 255)), some (.int (nI j)), some (.int x), some (.int (nI 0)), none]) (fun _ _ q => q) ?_
  refine z_loop (σ := Nat → va_E) (K := fun _ k9 => k9) (LV := fun v _ => [some (.ref (b + 255)), some (.int (nI j)), some (.int x), some (.int (nI v)), none]) (I := fun v k9 => (RW tI tZ b N k9 kk dv nc ms f0 f1 f2 f3 f4 f5 f6 f7 f8 f9 f10 f11 f12 f13 f14 (pr (32 * j) v (lw (rw_ 32 f15 j) x) f15) f16 f17) ∧ (∀ q, q < b + 255 → k9 q = k q)) 32 0 k (by omega) (⟨by rw [pr_0]; exact hR, hfr⟩) (rfl) (rfl) ?_ ?_
  · intro k9 hI
    obtain ⟨hR, hfr⟩ := hI
    have ⟨ho, r0, r1, r2, r3, r4, r5, r6, r7, r8, r9, r10, r11, r12, r13, r14, r15, r16, r17⟩ := hR
    refine z_lv (lv2 := [some (.ref (b + 255)), some (.int (nI j)), some (.int x), some (.int (nI 32)), none]) (fun _ _ q => q) ?_
    refine z_iload_n X d_R_lower_2 rfl ?_
    refine z_bipush X d_R_lower_3 (v := nI 32) (by decide +kernel) ?_
    refine z_icmp_geN X d_R_lower_5 (tgt := 51) (by decide) (by omega) (by omega) (fun _ => ?_) (fun h => absurd h (by omega))
    exact z_vret X d_R_lower_51 (by omega) (by omega) (⟨hR, hfr⟩)
  · intro v k9 hv hI ih
    obtain ⟨hR, hfr⟩ := hI
    have ⟨ho, r0, r1, r2, r3, r4, r5, r6, r7, r8, r9, r10, r11, r12, r13, r14, r15, r16, r17⟩ := hR
    refine z_lv (lv2 := [some (.ref (b + 255)), some (.int (nI j)), some (.int x), some (.int (nI v)), none]) (fun _ _ q => q) ?_
    refine z_iload_n X d_R_lower_2 rfl ?_
    refine z_bipush X d_R_lower_3 (v := nI 32) (by decide +kernel) ?_
    refine z_icmp_geN X d_R_lower_5 (tgt := 51) (by decide) (by omega) (by omega) (fun h => absurd h (by omega)) (fun _ => ?_)
    refine z_aload_n X d_R_lower_8 rfl ?_
    refine z_get X ho rfl in_R 19 (by decide) (wq lf_R_60) rfl d_R_lower_9 ?_
    refine z_bipush X d_R_lower_12 (v := nI 32) (by decide +kernel) ?_
    refine z_iload_n X d_R_lower_14 rfl ?_
    refine z_imulN X d_R_lower_15 ?_
    refine z_iload_n X d_R_lower_16 rfl ?_
    refine z_iaddN X d_R_lower_17 ?_
    refine z_iald X r15 0 rfl (j := (32 * j) + v) rfl (by omega) (by omega) d_R_lower_18 ?_
    refine z_top (y := .int (rw_ 32 f15 j v)) (by rw [rw_in hv, pr_out (Or.inr (by omega))]) ?_
    refine z_iload_n X d_R_lower_19 rfl ?_
    refine z_isub X d_R_lower_20 ?_
    refine z_istore X d_R_lower_21 (by decide) rfl ?_
    refine z_lv (lv2 := [some (.ref (b + 255)), some (.int (nI j)), some (.int x), some (.int (nI v)), some (.int ((rw_ 32 f15 j v) - x))]) (fun _ _ q => q) ?_
    refine z_aload_n X d_R_lower_23 rfl ?_
    refine z_get X ho rfl in_R 19 (by decide) (wq lf_R_60) rfl d_R_lower_24 ?_
    refine z_bipush X d_R_lower_27 (v := nI 32) (by decide +kernel) ?_
    refine z_iload_n X d_R_lower_29 rfl ?_
    refine z_imulN X d_R_lower_30 ?_
    refine z_iload_n X d_R_lower_31 rfl ?_
    refine z_iaddN X d_R_lower_32 ?_
    refine z_iload X d_R_lower_33 rfl ?_
    refine z_if_le X d_R_lower_35 (tgt := 43) (by decide) (fun hA => ?_) (fun hA => ?_)
    · skip
      refine z_iconst X d_R_lower_43 (v := nI 0) (by decide +kernel) ?_
      refine z_iast X r15 0 rfl (j := (32 * j) + v) rfl (by omega) (by omega) d_R_lower_44 ?_
      refine z_named (fun k_1 hk9 => ?_)
      have hR := hR.st15 hk9
      have hfr : ∀ q, q < b + 255 → k_1 q = k q := fun q hq => by rw [hk9]; exact (up_ne (by omega)).trans (hfr q hq)
      clear hk9
      have ⟨ho, r0, r1, r2, r3, r4, r5, r6, r7, r8, r9, r10, r11, r12, r13, r14, r15, r16, r17⟩ := hR
      refine z_iincU X d_R_lower_45 rfl (by decide) rfl ?_
      refine z_lv (lv2 := [some (.ref (b + 255)), some (.int (nI j)), some (.int x), some (.int (nI (v + 1))), some (.int ((rw_ 32 f15 j v) - x))]) (fun _ _ q => q) ?_
      refine z_goto X d_R_lower_48 (tgt := 2) (by decide) ?_
      refine z_drop 4 ?_
      exact z_at (ih k_1 ⟨by rw [pr_succ (32 * j) v _ f15 (by unfold lw; rw [if_pos hv, if_neg (i32_le_n hA)]; exact nI_0)] at hR; exact hR, hfr⟩) rfl rfl
    · skip
      refine z_iload X d_R_lower_38 rfl ?_
      refine z_goto X d_R_lower_40 (tgt := 44) (by decide) ?_
      refine z_iast X r15 0 rfl (j := (32 * j) + v) rfl (by omega) (by omega) d_R_lower_44 ?_
      refine z_named (fun k_2 hk9 => ?_)
      have hR := hR.st15 hk9
      have hfr : ∀ q, q < b + 255 → k_2 q = k q := fun q hq => by rw [hk9]; exact (up_ne (by omega)).trans (hfr q hq)
      clear hk9
      have ⟨ho, r0, r1, r2, r3, r4, r5, r6, r7, r8, r9, r10, r11, r12, r13, r14, r15, r16, r17⟩ := hR
      refine z_iincU X d_R_lower_45 rfl (by decide) rfl ?_
      refine z_lv (lv2 := [some (.ref (b + 255)), some (.int (nI j)), some (.int x), some (.int (nI (v + 1))), some (.int ((rw_ 32 f15 j v) - x))]) (fun _ _ q => q) ?_
      refine z_goto X d_R_lower_48 (tgt := 2) (by decide) ?_
      refine z_drop 4 ?_
      exact z_at (ih k_2 ⟨by rw [pr_succ (32 * j) v _ f15 (by unfold lw; rw [if_pos hv, if_pos (i32_nle hA)])] at hR; exact hR, hfr⟩) rfl rfl
set_option maxHeartbeats 4000000 in
set_option maxRecDepth 100000 in
/-- R_clear -/
theorem c_R_clear {kk nc : Nat} {dv ms : Int32} {f0 f1 f2 f3 f4 f5 f6 f7 f8 f9 f10 f11 f12 f13 f14 f15 f16 f17 : Nat → Int32} {j : Nat} (hR : RW tI tZ b N k kk dv nc ms f0 f1 f2 f3 f4 f5 f6 f7 f8 f9 f10 f11 f12 f13 f14 f15 f16 f17) (hj : j < 12)  : Met l y_R_clear (wy y_R_clear b_R_clear 3 none) (rm 0 0 0) (zPc D (tyl tI tZ tN tM) b N k [.ref (b + 255), .int (nI j)]) (zQv D b N (fun k2 => RW tI tZ b N k2 kk dv nc ms f0 f1 f2 f3 f4 f5 f6 f7 f8 f9 f10 f11 f12 f13 (upd f14 j 0) (pr (32 * j) 32 (fun _ => 0) f15) (pr (64 * j) 64 (fun _ => 0) f16) f17 ∧ ∀ q, q < b + 255 → k2 q = k q)) 0 0 (zA b) := by
  refine z_met (own := R_R) (by decide) rfl rfl (Nat.le_of_ble_eq_true rfl) [some (.ref (b + 255)), some (.int (nI j)), none] rfl ?_
  intro p e s m args below meth c X hin
  have ⟨ho, r0, r1, r2, r3, r4, r5, r6, r7, r8, r9, r10, r11, r12, r13, r14, r15, r16, r17⟩ := hR
  have hfr : ∀ q, q < b + 255 → k q = k q := fun _ _ => rfl
  refine z_aload_n X d_R_clear_0 rfl ?_
  refine z_get X ho rfl in_R 18 (by decide) (wq lf_R_57) rfl d_R_clear_1 ?_
  refine z_iload_n X d_R_clear_4 rfl ?_
  refine z_iconst X d_R_clear_5 (v := nI 0) (by decide +kernel) ?_
  refine z_iast X r14 0 rfl (j := j) rfl (by omega) (by omega) d_R_clear_6 ?_
  refine z_named (fun k_1 hk9 => ?_)
  have hR := hR.st14 hk9
  rw [show (upd f14 j (nI 0)) = upd f14 j 0 from by rw [nI_0]] at hR
  have hfr : ∀ q, q < b + 255 → k_1 q = k q := fun q hq => by rw [hk9]; exact (up_ne (by omega)).trans (hfr q hq)
  clear hk9
  have ⟨ho, r0, r1, r2, r3, r4, r5, r6, r7, r8, r9, r10, r11, r12, r13, r14, r15, r16, r17⟩ := hR
  refine z_iconst X d_R_clear_7 (v := nI 0) (by decide +kernel) ?_
  refine z_istore_n X d_R_clear_8 (by decide) rfl ?_
  refine z_lv (lv2 := [some (.ref (b + 255)), some (.int (nI j)), some (.int (nI 0))]) (fun _ _ q => q) ?_
  refine z_loop (σ := Nat → va_E) (K := fun _ k9 => k9) (LV := fun v _ => [some (.ref (b + 255)), some (.int (nI j)), some (.int (nI v))]) (I := fun v k9 => (RW tI tZ b N k9 kk dv nc ms f0 f1 f2 f3 f4 f5 f6 f7 f8 f9 f10 f11 f12 f13 (upd f14 j 0) (pr (32 * j) v (fun _ => 0) f15) f16 f17) ∧ (∀ q, q < b + 255 → k9 q = k q)) 32 0 k_1 (by omega) (⟨by rw [pr_0]; exact hR, hfr⟩) (rfl) (rfl) ?_ ?_
  · intro k9 hI
    obtain ⟨hR, hfr⟩ := hI
    have ⟨ho, r0, r1, r2, r3, r4, r5, r6, r7, r8, r9, r10, r11, r12, r13, r14, r15, r16, r17⟩ := hR
    refine z_lv (lv2 := [some (.ref (b + 255)), some (.int (nI j)), some (.int (nI 32))]) (fun _ _ q => q) ?_
    refine z_iload_n X d_R_clear_9 rfl ?_
    refine z_bipush X d_R_clear_10 (v := nI 32) (by decide +kernel) ?_
    refine z_icmp_geN X d_R_clear_12 (tgt := 33) (by decide) (by omega) (by omega) (fun _ => ?_) (fun h => absurd h (by omega))
    refine z_iconst X d_R_clear_33 (v := nI 0) (by decide +kernel) ?_
    refine z_istore_n X d_R_clear_34 (by decide) rfl ?_
    refine z_lv (lv2 := [some (.ref (b + 255)), some (.int (nI j)), some (.int (nI 0))]) (fun _ _ q => q) ?_
    refine z_loop (σ := Nat → va_E) (K := fun _ k9 => k9) (LV := fun v _ => [some (.ref (b + 255)), some (.int (nI j)), some (.int (nI v))]) (I := fun v k9 => (RW tI tZ b N k9 kk dv nc ms f0 f1 f2 f3 f4 f5 f6 f7 f8 f9 f10 f11 f12 f13 (upd f14 j 0) (pr (32 * j) 32 (fun _ => 0) f15) (pr (64 * j) v (fun _ => 0) f16) f17) ∧ (∀ q, q < b + 255 → k9 q = k q)) 64 0 k9 (by omega) (⟨by rw [pr_0]; exact hR, hfr⟩) (rfl) (rfl) ?_ ?_
    · intro k9 hI
      obtain ⟨hR, hfr⟩ := hI
      have ⟨ho, r0, r1, r2, r3, r4, r5, r6, r7, r8, r9, r10, r11, r12, r13, r14, r15, r16, r17⟩ := hR
      refine z_lv (lv2 := [some (.ref (b + 255)), some (.int (nI j)), some (.int (nI 64))]) (fun _ _ q => q) ?_
      refine z_iload_n X d_R_clear_35 rfl ?_
      refine z_bipush X d_R_clear_36 (v := nI 64) (by decide +kernel) ?_
      refine z_icmp_geN X d_R_clear_38 (tgt := 59) (by decide) (by omega) (by omega) (fun _ => ?_) (fun h => absurd h (by omega))
      exact z_vret X d_R_clear_59 (by omega) (by omega) (⟨hR, hfr⟩)
    · intro v k9 hv hI ih
      obtain ⟨hR, hfr⟩ := hI
      have ⟨ho, r0, r1, r2, r3, r4, r5, r6, r7, r8, r9, r10, r11, r12, r13, r14, r15, r16, r17⟩ := hR
      refine z_lv (lv2 := [some (.ref (b + 255)), some (.int (nI j)), some (.int (nI v))]) (fun _ _ q => q) ?_
      refine z_iload_n X d_R_clear_35 rfl ?_
      refine z_bipush X d_R_clear_36 (v := nI 64) (by decide +kernel) ?_
      refine z_icmp_geN X d_R_clear_38 (tgt := 59) (by decide) (by omega) (by omega) (fun h => absurd h (by omega)) (fun _ => ?_)
      refine z_aload_n X d_R_clear_41 rfl ?_
      refine z_get X ho rfl in_R 20 (by decide) (wq lf_R_63) rfl d_R_clear_42 ?_
      refine z_bipush X d_R_clear_45 (v := nI 64) (by decide +kernel) ?_
      refine z_iload_n X d_R_clear_47 rfl ?_
      refine z_imulN X d_R_clear_48 ?_
      refine z_iload_n X d_R_clear_49 rfl ?_
      refine z_iaddN X d_R_clear_50 ?_
      refine z_iconst X d_R_clear_51 (v := nI 0) (by decide +kernel) ?_
      refine z_iast X r16 0 rfl (j := (64 * j) + v) rfl (by omega) (by omega) d_R_clear_52 ?_
      refine z_named (fun k_2 hk9 => ?_)
      have hR := hR.st16 hk9
      have hfr : ∀ q, q < b + 255 → k_2 q = k q := fun q hq => by rw [hk9]; exact (up_ne (by omega)).trans (hfr q hq)
      clear hk9
      have ⟨ho, r0, r1, r2, r3, r4, r5, r6, r7, r8, r9, r10, r11, r12, r13, r14, r15, r16, r17⟩ := hR
      refine z_iincU X d_R_clear_53 rfl (by decide) rfl ?_
      refine z_lv (lv2 := [some (.ref (b + 255)), some (.int (nI j)), some (.int (nI (v + 1)))]) (fun _ _ q => q) ?_
      refine z_goto X d_R_clear_56 (tgt := 35) (by decide) ?_
      exact z_at (ih k_2 ⟨by rw [pr_succ (64 * j) v _ f16 nI_0] at hR; exact hR, hfr⟩) rfl rfl
  · intro v k9 hv hI ih
    obtain ⟨hR, hfr⟩ := hI
    have ⟨ho, r0, r1, r2, r3, r4, r5, r6, r7, r8, r9, r10, r11, r12, r13, r14, r15, r16, r17⟩ := hR
    refine z_lv (lv2 := [some (.ref (b + 255)), some (.int (nI j)), some (.int (nI v))]) (fun _ _ q => q) ?_
    refine z_iload_n X d_R_clear_9 rfl ?_
    refine z_bipush X d_R_clear_10 (v := nI 32) (by decide +kernel) ?_
    refine z_icmp_geN X d_R_clear_12 (tgt := 33) (by decide) (by omega) (by omega) (fun h => absurd h (by omega)) (fun _ => ?_)
    refine z_aload_n X d_R_clear_15 rfl ?_
    refine z_get X ho rfl in_R 19 (by decide) (wq lf_R_60) rfl d_R_clear_16 ?_
    refine z_bipush X d_R_clear_19 (v := nI 32) (by decide +kernel) ?_
    refine z_iload_n X d_R_clear_21 rfl ?_
    refine z_imulN X d_R_clear_22 ?_
    refine z_iload_n X d_R_clear_23 rfl ?_
    refine z_iaddN X d_R_clear_24 ?_
    refine z_iconst X d_R_clear_25 (v := nI 0) (by decide +kernel) ?_
    refine z_iast X r15 0 rfl (j := (32 * j) + v) rfl (by omega) (by omega) d_R_clear_26 ?_
    refine z_named (fun k_3 hk9 => ?_)
    have hR := hR.st15 hk9
    have hfr : ∀ q, q < b + 255 → k_3 q = k q := fun q hq => by rw [hk9]; exact (up_ne (by omega)).trans (hfr q hq)
    clear hk9
    have ⟨ho, r0, r1, r2, r3, r4, r5, r6, r7, r8, r9, r10, r11, r12, r13, r14, r15, r16, r17⟩ := hR
    refine z_iincU X d_R_clear_27 rfl (by decide) rfl ?_
    refine z_lv (lv2 := [some (.ref (b + 255)), some (.int (nI j)), some (.int (nI (v + 1)))]) (fun _ _ q => q) ?_
    refine z_goto X d_R_clear_30 (tgt := 9) (by decide) ?_
    exact z_at (ih k_3 ⟨by rw [pr_succ (32 * j) v _ f15 nI_0] at hR; exact hR, hfr⟩) rfl rfl
set_option maxHeartbeats 4000000 in
set_option maxRecDepth 100000 in
/-- R_clearUsed -/
theorem c_R_clearUsed {kk nc : Nat} {dv ms : Int32} {f0 f1 f2 f3 f4 f5 f6 f7 f8 f9 f10 f11 f12 f13 f14 f15 f16 f17 : Nat → Int32} (hR : RW tI tZ b N k kk dv nc ms f0 f1 f2 f3 f4 f5 f6 f7 f8 f9 f10 f11 f12 f13 f14 f15 f16 f17)  : Met l y_R_clearUsed (wy y_R_clearUsed b_R_clearUsed 2 none) (rm 0 0 0) (zPc D (tyl tI tZ tN tM) b N k [.ref (b + 255)]) (zQv D b N (fun k2 => RW tI tZ b N k2 kk dv nc ms f0 f1 f2 f3 f4 f5 f6 f7 f8 f9 f10 f11 f12 f13 f14 f15 f16 (pr 0 32 (fun _ => 0) f17) ∧ ∀ q, q < b + 255 → k2 q = k q)) 0 0 (zA b) := by
  refine z_met (own := R_R) (by decide) rfl rfl (Nat.le_of_ble_eq_true rfl) [some (.ref (b + 255)), none] rfl ?_
  intro p e s m args below meth c X hin
  have ⟨ho, r0, r1, r2, r3, r4, r5, r6, r7, r8, r9, r10, r11, r12, r13, r14, r15, r16, r17⟩ := hR
  have hfr : ∀ q, q < b + 255 → k q = k q := fun _ _ => rfl
  refine z_iconst X d_R_clearUsed_0 (v := nI 0) (by decide +kernel) ?_
  refine z_istore_n X d_R_clearUsed_1 (by decide) rfl ?_
  refine z_lv (lv2 := [some (.ref (b + 255)), some (.int (nI 0))]) (fun _ _ q => q) ?_
  refine z_loop (σ := Nat → va_E) (K := fun _ k9 => k9) (LV := fun v _ => [some (.ref (b + 255)), some (.int (nI v))]) (I := fun v k9 => (RW tI tZ b N k9 kk dv nc ms f0 f1 f2 f3 f4 f5 f6 f7 f8 f9 f10 f11 f12 f13 f14 f15 f16 (pr 0 v (fun _ => 0) f17)) ∧ (∀ q, q < b + 255 → k9 q = k q)) 32 0 k (by omega) (⟨by rw [pr_0]; exact hR, hfr⟩) (rfl) (rfl) ?_ ?_
  · intro k9 hI
    obtain ⟨hR, hfr⟩ := hI
    have ⟨ho, r0, r1, r2, r3, r4, r5, r6, r7, r8, r9, r10, r11, r12, r13, r14, r15, r16, r17⟩ := hR
    refine z_lv (lv2 := [some (.ref (b + 255)), some (.int (nI 32))]) (fun _ _ q => q) ?_
    refine z_iload_n X d_R_clearUsed_2 rfl ?_
    refine z_bipush X d_R_clearUsed_3 (v := nI 32) (by decide +kernel) ?_
    refine z_icmp_geN X d_R_clearUsed_5 (tgt := 21) (by decide) (by omega) (by omega) (fun _ => ?_) (fun h => absurd h (by omega))
    exact z_vret X d_R_clearUsed_21 (by omega) (by omega) (⟨hR, hfr⟩)
  · intro v k9 hv hI ih
    obtain ⟨hR, hfr⟩ := hI
    have ⟨ho, r0, r1, r2, r3, r4, r5, r6, r7, r8, r9, r10, r11, r12, r13, r14, r15, r16, r17⟩ := hR
    refine z_lv (lv2 := [some (.ref (b + 255)), some (.int (nI v))]) (fun _ _ q => q) ?_
    refine z_iload_n X d_R_clearUsed_2 rfl ?_
    refine z_bipush X d_R_clearUsed_3 (v := nI 32) (by decide +kernel) ?_
    refine z_icmp_geN X d_R_clearUsed_5 (tgt := 21) (by decide) (by omega) (by omega) (fun h => absurd h (by omega)) (fun _ => ?_)
    refine z_aload_n X d_R_clearUsed_8 rfl ?_
    refine z_get X ho rfl in_R 21 (by decide) (wq lf_R_66) rfl d_R_clearUsed_9 ?_
    refine z_iload_n X d_R_clearUsed_12 rfl ?_
    refine z_iconst X d_R_clearUsed_13 (v := nI 0) (by decide +kernel) ?_
    refine z_zast X r17 1 rfl (j := v) rfl (by omega) (by omega) d_R_clearUsed_14 ?_
    refine z_named (fun k_1 hk9 => ?_)
    have hR := hR.st17 hk9
    have hfr : ∀ q, q < b + 255 → k_1 q = k q := fun q hq => by rw [hk9]; exact (up_ne (by omega)).trans (hfr q hq)
    clear hk9
    have ⟨ho, r0, r1, r2, r3, r4, r5, r6, r7, r8, r9, r10, r11, r12, r13, r14, r15, r16, r17⟩ := hR
    refine z_iincU X d_R_clearUsed_15 rfl (by decide) rfl ?_
    refine z_lv (lv2 := [some (.ref (b + 255)), some (.int (nI (v + 1)))]) (fun _ _ q => q) ?_
    refine z_goto X d_R_clearUsed_18 (tgt := 2) (by decide) ?_
    exact z_at (ih k_1 ⟨by rw [pr_s0 v _ f17 (by rw [zn0]; exact nI_0)] at hR; exact hR, hfr⟩) rfl rfl
set_option maxHeartbeats 4000000 in
set_option maxRecDepth 100000 in
/-- R_greatestUnused -/
theorem c_R_greatestUnused {kk nc : Nat} {dv ms : Int32} {f0 f1 f2 f3 f4 f5 f6 f7 f8 f9 f10 f11 f12 f13 f14 f15 f16 f17 : Nat → Int32} {j : Nat} {u : Nat → Bool} (hR : RW tI tZ b N k kk dv nc ms f0 f1 f2 f3 f4 f5 f6 f7 f8 f9 f10 f11 f12 f13 f14 f15 f16 f17) (hj : j < 12) (hu : ∀ v, v < 32 → f17 v = nI (cb (u v)))  : Met l y_R_greatestUnused (wy y_R_greatestUnused b_R_greatestUnused 4 (some .int)) (rm 0 0 0) (zPc D (tyl tI tZ tN tM) b N k [.ref (b + 255), .int (nI j)]) (zQi D b N (fun z k2 => z = oI (gu u (rw_ 32 f15 j) 32) ∧ k2 = k)) 0 0 (zA b) := by
  refine z_met (own := R_R) (by decide) rfl rfl (Nat.le_of_ble_eq_true rfl) [some (.ref (b + 255)), some (.int (nI j)), none, none] rfl ?_
  intro p e s m args below meth c X hin
  have ⟨ho, r0, r1, r2, r3, r4, r5, r6, r7, r8, r9, r10, r11, r12, r13, r14, r15, r16, r17⟩ := hR
  have hfr : ∀ q, q < b + 255 → k q = k q := fun _ _ => rfl
  refine z_iconst X d_R_greatestUnused_0 (v := -1) (by decide +kernel) ?_
  refine z_istore_n X d_R_greatestUnused_1 (by decide) rfl ?_
  refine z_lv (lv2 := [some (.ref (b + 255)), some (.int (nI j)), some (.int (-1)), none]) (fun _ _ q => q) ?_
  refine z_iconst X d_R_greatestUnused_2 (v := nI 0) (by decide +kernel) ?_
  refine z_istore_n X d_R_greatestUnused_3 (by decide) rfl ?_
  refine z_lv (lv2 := [some (.ref (b + 255)), some (.int (nI j)), some (.int (-1)), some (.int (nI 0))]) (fun _ _ q => q) ?_
  refine z_loop (σ := Unit) (K := fun _ _ => k) (LV := fun v _ => [some (.ref (b + 255)), some (.int (nI j)), some (.int (oI (gu u (rw_ 32 f15 j) v))), some (.int (nI v))]) (I := fun _ _ => True) 32 0 () (by omega) (trivial) (rfl) (rfl) ?_ ?_
  · intro s1 _
    refine z_lv (lv2 := [some (.ref (b + 255)), some (.int (nI j)), some (.int (oI (gu u (rw_ 32 f15 j) 32))), some (.int (nI 32))]) (fun _ _ q => q) ?_
    refine z_iload_n X d_R_greatestUnused_4 rfl ?_
    refine z_bipush X d_R_greatestUnused_5 (v := nI 32) (by decide +kernel) ?_
    refine z_icmp_geN X d_R_greatestUnused_7 (tgt := 56) (by decide) (by omega) (by omega) (fun _ => ?_) (fun h => absurd h (by omega))
    refine z_iload_n X d_R_greatestUnused_56 rfl ?_
    exact z_iret X d_R_greatestUnused_57 (by omega) (by omega) (⟨rfl, rfl⟩)
  · intro v s1 hv _ ih
    refine z_lv (lv2 := [some (.ref (b + 255)), some (.int (nI j)), some (.int (oI (gu u (rw_ 32 f15 j) v))), some (.int (nI v))]) (fun _ _ q => q) ?_
    refine z_iload_n X d_R_greatestUnused_4 rfl ?_
    refine z_bipush X d_R_greatestUnused_5 (v := nI 32) (by decide +kernel) ?_
    refine z_icmp_geN X d_R_greatestUnused_7 (tgt := 56) (by decide) (by omega) (by omega) (fun h => absurd h (by omega)) (fun _ => ?_)
    refine z_aload_n X d_R_greatestUnused_10 rfl ?_
    refine z_get X ho rfl in_R 21 (by decide) (wq lf_R_66) rfl d_R_greatestUnused_11 ?_
    refine z_iload_n X d_R_greatestUnused_14 rfl ?_
    refine z_zald X r17 1 rfl (j := v) rfl (by omega) (by omega) d_R_greatestUnused_15 ?_
    refine z_top (y := .int (nI (cb (u v)))) (by rw [hu v hv]) ?_
    cases huv : u v
    · skip
      refine z_if_neN X d_R_greatestUnused_16 (tgt := 50) (by decide) (by decide) (fun h => absurd h (by decide)) (fun _ => ?_)
      cases hg : gu u (rw_ 32 f15 j) v with
      | none =>
        refine z_lv (lv2 := [some (.ref (b + 255)), some (.int (nI j)), some (.int (-1)), some (.int (nI v))]) (fun _ _ q => q) ?_
        refine z_iload_n X d_R_greatestUnused_19 rfl ?_
        refine z_if_lt X d_R_greatestUnused_20 (tgt := 48) (by decide) (fun _ => ?_) (fun h => absurd h (by decide))
        refine z_iload_n X d_R_greatestUnused_48 rfl ?_
        refine z_istore_n X d_R_greatestUnused_49 (by decide) rfl ?_
        refine z_lv (lv2 := [some (.ref (b + 255)), some (.int (nI j)), some (.int (nI v)), some (.int (nI v))]) (fun _ _ q => q) ?_
        refine z_iincU X d_R_greatestUnused_50 rfl (by decide) rfl ?_
        refine z_lv (lv2 := [some (.ref (b + 255)), some (.int (nI j)), some (.int (nI v)), some (.int (nI (v + 1)))]) (fun _ _ q => q) ?_
        refine z_goto X d_R_greatestUnused_53 (tgt := 4) (by decide) ?_
        exact z_at (ih () trivial) rfl (by simp [gu, hg, huv, oI])
      | some x =>
        obtain ⟨hx, -, -⟩ := (gu_spec u (rw_ 32 f15 j) v).2 x hg
        refine z_lv (lv2 := [some (.ref (b + 255)), some (.int (nI j)), some (.int (nI x)), some (.int (nI v))]) (fun _ _ q => q) ?_
        refine z_iload_n X d_R_greatestUnused_19 rfl ?_
        refine z_if_ltN X d_R_greatestUnused_20 (tgt := 48) (by decide) (by omega) (fun h => absurd h (by omega)) (fun _ => ?_)
        refine z_aload_n X d_R_greatestUnused_23 rfl ?_
        refine z_get X ho rfl in_R 19 (by decide) (wq lf_R_60) rfl d_R_greatestUnused_24 ?_
        refine z_bipush X d_R_greatestUnused_27 (v := nI 32) (by decide +kernel) ?_
        refine z_iload_n X d_R_greatestUnused_29 rfl ?_
        refine z_imulN X d_R_greatestUnused_30 ?_
        refine z_iload_n X d_R_greatestUnused_31 rfl ?_
        refine z_iaddN X d_R_greatestUnused_32 ?_
        refine z_iald X r15 0 rfl (j := (32 * j) + v) rfl (by omega) (by omega) d_R_greatestUnused_33 ?_
        refine z_top (y := .int (rw_ 32 f15 j v)) (by rw [rw_in hv]) ?_
        refine z_aload_n X d_R_greatestUnused_34 rfl ?_
        refine z_get X ho rfl in_R 19 (by decide) (wq lf_R_60) rfl d_R_greatestUnused_35 ?_
        refine z_bipush X d_R_greatestUnused_38 (v := nI 32) (by decide +kernel) ?_
        refine z_iload_n X d_R_greatestUnused_40 rfl ?_
        refine z_imulN X d_R_greatestUnused_41 ?_
        refine z_iload_n X d_R_greatestUnused_42 rfl ?_
        refine z_iaddN X d_R_greatestUnused_43 ?_
        refine z_iald X r15 0 rfl (j := (32 * j) + x) rfl (by omega) (by omega) d_R_greatestUnused_44 ?_
        refine z_top (y := .int (rw_ 32 f15 j x)) (by rw [rw_in (by omega)]) ?_
        refine z_icmp_le X d_R_greatestUnused_45 (tgt := 50) (by decide) (fun hB => ?_) (fun hB => ?_)
        · have hB2 : ¬ rw_ 32 f15 j x < rw_ 32 f15 j v := fun q => i32_lt_n q hB
          refine z_iincU X d_R_greatestUnused_50 rfl (by decide) rfl ?_
          refine z_lv (lv2 := [some (.ref (b + 255)), some (.int (nI j)), some (.int (nI x)), some (.int (nI (v + 1)))]) (fun _ _ q => q) ?_
          refine z_goto X d_R_greatestUnused_53 (tgt := 4) (by decide) ?_
          exact z_at (ih () trivial) rfl (by simp [gu, hg, huv, oI, hB2])
        · have hB2 : rw_ 32 f15 j x < rw_ 32 f15 j v := Int32.not_le.mp hB
          refine z_iload_n X d_R_greatestUnused_48 rfl ?_
          refine z_istore_n X d_R_greatestUnused_49 (by decide) rfl ?_
          refine z_lv (lv2 := [some (.ref (b + 255)), some (.int (nI j)), some (.int (nI v)), some (.int (nI v))]) (fun _ _ q => q) ?_
          refine z_iincU X d_R_greatestUnused_50 rfl (by decide) rfl ?_
          refine z_lv (lv2 := [some (.ref (b + 255)), some (.int (nI j)), some (.int (nI v)), some (.int (nI (v + 1)))]) (fun _ _ q => q) ?_
          refine z_goto X d_R_greatestUnused_53 (tgt := 4) (by decide) ?_
          exact z_at (ih () trivial) rfl (by simp [gu, hg, huv, oI, hB2])
    · skip
      refine z_if_neN X d_R_greatestUnused_16 (tgt := 50) (by decide) (by decide) (fun _ => ?_) (fun h => absurd h (by decide))
      refine z_iincU X d_R_greatestUnused_50 rfl (by decide) rfl ?_
      refine z_lv (lv2 := [some (.ref (b + 255)), some (.int (nI j)), some (.int (oI (gu u (rw_ 32 f15 j) v))), some (.int (nI (v + 1)))]) (fun _ _ q => q) ?_
      refine z_goto X d_R_greatestUnused_53 (tgt := 4) (by decide) ?_
      exact z_at (ih () trivial) rfl (by cases hg : gu u (rw_ 32 f15 j) v <;> simp [gu, hg, huv, oI])
end
end
section
/-! Contracts of the reference, 3: take, merge, compress -/
section
variable {l : Launch} {D : va_G} {tI tZ tN tM : ClassId} {b N : Nat} {k : Nat → va_E}
set_option maxHeartbeats 4000000 in
set_option maxRecDepth 100000 in
/-- R_compress -/
theorem c_R_compress {kk nc : Nat} {dv ms : Int32} {f0 f1 f2 f3 f4 f5 f6 f7 f8 f9 f10 f11 f12 f13 f14 f15 f16 f17 : Nat → Int32} {j : Nat} (hR : RW tI tZ b N k kk dv nc ms f0 f1 f2 f3 f4 f5 f6 f7 f8 f9 f10 f11 f12 f13 f14 f15 f16 f17) (hj : j < 12) (hd : ¬ dv = 0)  : Met l y_R_compress (wy y_R_compress b_R_compress 9 none) (rm 0 0 0) (zPc D (tyl tI tZ tN tM) b N k [.ref (b + 255), .int (nI j)]) (zQv D b N (fun k2 => RW tI tZ b N k2 kk dv nc ms f0 f1 f2 f3 f4 f5 f6 f7 f8 f9 f10 f11 f12 f13 f14 f15 (pr (64 * j) 64 (cpr (f14 j / dv) 4000 (rw_ 64 f16 j)) f16) f17 ∧ ∀ q, q < b + 255 → k2 q = k q)) 0 0 (zA b) := by
  refine z_met (own := R_R) (by decide) rfl rfl (Nat.le_of_ble_eq_true rfl) [some (.ref (b + 255)), some (.int (nI j)), none, none, none, none, none, none, none] rfl ?_
  intro p e s m args below meth c X hin
  have ⟨ho, r0, r1, r2, r3, r4, r5, r6, r7, r8, r9, r10, r11, r12, r13, r14, r15, r16, r17⟩ := hR
  have hfr : ∀ q, q < b + 255 → k q = k q := fun _ _ => rfl
  refine z_aload_n X d_R_compress_0 rfl ?_
  refine z_get X ho rfl in_R 18 (by decide) (wq lf_R_57) rfl d_R_compress_1 ?_
  refine z_iload_n X d_R_compress_4 rfl ?_
  refine z_iald X r14 0 rfl (j := j) rfl (by omega) (by omega) d_R_compress_5 ?_
  refine z_aload_n X d_R_compress_6 rfl ?_
  refine z_get X ho rfl in_R 1 (by decide) (wq lf_R_72) rfl d_R_compress_7 ?_
  refine z_idiv X d_R_compress_10 hd ?_
  refine z_istore_n X d_R_compress_11 (by decide) rfl ?_
  refine z_lv (lv2 := [some (.ref (b + 255)), some (.int (nI j)), some (.int ((f14 j) / dv)), none, none, none, none, none, none]) (fun _ _ q => q) ?_
  refine z_iconst X d_R_compress_12 (v := nI 1) (by decide +kernel) ?_
  refine z_istore_n X d_R_compress_13 (by decide) rfl ?_
  refine z_lv (lv2 := [some (.ref (b + 255)), some (.int (nI j)), some (.int ((f14 j) / dv)), some (.int (nI 1)), none, none, none, none, none]) (fun _ _ q => q) ?_
  refine z_iconst X d_R_compress_14 (v := nI 0) (by decide +kernel) ?_
  refine z_istore X d_R_compress_15 (by decide) rfl ?_
  refine z_lv (lv2 := [some (.ref (b + 255)), some (.int (nI j)), some (.int ((f14 j) / dv)), some (.int (nI 1)), some (.int (nI 0)), none, none, none, none]) (fun _ _ q => q) ?_
  refine z_loop (σ := (Nat → va_E) × (Nat → Int32) × Bool) (K := fun _ (q : (Nat → va_E) × (Nat → Int32) × Bool) => q.1) (LV := fun v (q : (Nat → va_E) × (Nat → Int32) × Bool) => [some (.ref (b + 255)), some (.int (nI j)), some (.int (f14 j / dv)), some (.int (nI (cb q.2.2))), some (.int (nI v)), none, none, none, none]) (I := fun v (q : (Nat → va_E) × (Nat → Int32) × Bool) => (RW tI tZ b N q.1 kk dv nc ms f0 f1 f2 f3 f4 f5 f6 f7 f8 f9 f10 f11 f12 f13 f14 f15 (pr (64 * j) 64 q.2.1 f16) f17) ∧ (∀ q2, q2 < b + 255 → q.1 q2 = k q2) ∧ cpr (f14 j / dv) 4000 (rw_ 64 f16 j) = if q.2.2 = true then cpr (f14 j / dv) (4000 - v) q.2.1 else q.2.1) 4000 0 (k, (rw_ 64 f16 j), true) (by omega) (⟨by rw [pr_rw]; exact hR, hfr, (if_pos rfl).symm⟩) (rfl) (rfl) ?_ ?_
  · intro q hI
    obtain ⟨k9, g, ch⟩ := q
    obtain ⟨hR, hfr, hI⟩ := hI
    try dsimp only at hR hfr hI
    have ⟨ho, r0, r1, r2, r3, r4, r5, r6, r7, r8, r9, r10, r11, r12, r13, r14, r15, r16, r17⟩ := hR
    refine z_k (k2 := k9) (fun _ _ _ => rfl) ?_
    refine z_lv (lv2 := [some (.ref (b + 255)), some (.int (nI j)), some (.int (f14 j / dv)), some (.int (nI (cb ch))), some (.int (nI 4000)), none, none, none, none]) (fun _ _ q => q) ?_
    refine z_iload X d_R_compress_17 rfl ?_
    refine z_sipush X d_R_compress_19 (v := nI 4000) (by decide +kernel) ?_
    refine z_icmp_geN X d_R_compress_22 (tgt := 148) (by decide) (by omega) (by omega) (fun _ => ?_) (fun h => absurd h (by omega))
    exact z_vret X d_R_compress_148 (by omega) (by omega) (⟨by rw [hI]; cases ch <;> exact hR, hfr⟩)
  · intro v q hv hI ih
    obtain ⟨k9, g, ch⟩ := q
    obtain ⟨hR, hfr, hI⟩ := hI
    try dsimp only at hR hfr hI
    have ⟨ho, r0, r1, r2, r3, r4, r5, r6, r7, r8, r9, r10, r11, r12, r13, r14, r15, r16, r17⟩ := hR
    refine z_k (k2 := k9) (fun _ _ _ => rfl) ?_
    cases ch
    · skip
      refine z_lv (lv2 := [some (.ref (b + 255)), some (.int (nI j)), some (.int (f14 j / dv)), some (.int (nI (cb false))), some (.int (nI v)), none, none, none, none]) (fun _ _ q => q) ?_
      refine z_iload X d_R_compress_17 rfl ?_
      refine z_sipush X d_R_compress_19 (v := nI 4000) (by decide +kernel) ?_
      refine z_icmp_geN X d_R_compress_22 (tgt := 148) (by decide) (by omega) (by omega) (fun h => absurd h (by omega)) (fun _ => ?_)
      refine z_iload_n X d_R_compress_25 rfl ?_
      refine z_if_eqN X d_R_compress_26 (tgt := 148) (by decide) (by decide) (fun _ => ?_) (fun h => absurd h (by decide))
      exact z_vret X d_R_compress_148 (by omega) (by omega) (⟨by rw [hI]; exact hR, hfr⟩)
    · skip
      refine z_lv (lv2 := [some (.ref (b + 255)), some (.int (nI j)), some (.int (f14 j / dv)), some (.int (nI (cb true))), some (.int (nI v)), none, none, none, none]) (fun _ _ q => q) ?_
      refine z_iload X d_R_compress_17 rfl ?_
      refine z_sipush X d_R_compress_19 (v := nI 4000) (by decide +kernel) ?_
      refine z_icmp_geN X d_R_compress_22 (tgt := 148) (by decide) (by omega) (by omega) (fun h => absurd h (by omega)) (fun _ => ?_)
      refine z_iload_n X d_R_compress_25 rfl ?_
      refine z_if_eqN X d_R_compress_26 (tgt := 148) (by decide) (by decide) (fun h => absurd h (by decide)) (fun _ => ?_)
      refine z_iconst X d_R_compress_29 (v := nI 0) (by decide +kernel) ?_
      refine z_istore_n X d_R_compress_30 (by decide) rfl ?_
      refine z_lv (lv2 := [some (.ref (b + 255)), some (.int (nI j)), some (.int (f14 j / dv)), some (.int (nI 0)), some (.int (nI v)), none, none, none, none]) (fun _ _ q => q) ?_
      refine z_bipush X d_R_compress_31 (v := nI 31) (by decide +kernel) ?_
      refine z_istore X d_R_compress_33 (by decide) rfl ?_
      refine z_lv (lv2 := [some (.ref (b + 255)), some (.int (nI j)), some (.int (f14 j / dv)), some (.int (nI 0)), some (.int (nI v)), some (.int (nI 31)), none, none, none]) (fun _ _ q => q) ?_
      rw [if_pos rfl, show 4000 - v = (4000 - (v + 1)) + 1 by omega] at hI
      refine z_loopD (σ := (Nat → va_E) × (Nat → Int32) × Bool) (K := fun _ (q : (Nat → va_E) × (Nat → Int32) × Bool) => q.1) (LV := fun x (q : (Nat → va_E) × (Nat → Int32) × Bool) => [some (.ref (b + 255)), some (.int (nI j)), some (.int (f14 j / dv)), some (.int (nI (cb q.2.2))), some (.int (nI v)), some (.int (nI x)), none, none, none]) (I := fun x (q : (Nat → va_E) × (Nat → Int32) × Bool) => x < 32 ∧ (RW tI tZ b N q.1 kk dv nc ms f0 f1 f2 f3 f4 f5 f6 f7 f8 f9 f10 f11 f12 f13 f14 f15 (pr (64 * j) 64 q.2.1 f16) f17) ∧ (∀ q2, q2 < b + 255 → q.1 q2 = k q2) ∧ ps (f14 j / dv) 31 g false = ps (f14 j / dv) x q.2.1 q.2.2) 31 (k9, g, false) (⟨by omega, hR, hfr, rfl⟩) (rfl) (rfl) ?_ ?_
      · intro q hI2
        obtain ⟨k8, g2, ch⟩ := q
        obtain ⟨hx, hR, hfr, hI2⟩ := hI2
        try dsimp only at hx hR hfr hI2
        have ⟨ho, r0, r1, r2, r3, r4, r5, r6, r7, r8, r9, r10, r11, r12, r13, r14, r15, r16, r17⟩ := hR
        refine z_k (k2 := k8) (fun _ _ _ => rfl) ?_
        refine z_lv (lv2 := [some (.ref (b + 255)), some (.int (nI j)), some (.int (f14 j / dv)), some (.int (nI (cb ch))), some (.int (nI v)), some (.int (nI 0)), none, none, none]) (fun _ _ q => q) ?_
        refine z_iload X d_R_compress_35 rfl ?_
        refine z_iconst X d_R_compress_37 (v := nI 1) (by decide +kernel) ?_
        refine z_icmp_ltN X d_R_compress_38 (tgt := 142) (by decide) (by omega) (by omega) (fun _ => ?_) (fun h => absurd h (by omega))
        refine z_iincU X d_R_compress_142 rfl (by decide) rfl ?_
        refine z_lv (lv2 := [some (.ref (b + 255)), some (.int (nI j)), some (.int (f14 j / dv)), some (.int (nI (cb ch))), some (.int (nI (v + 1))), some (.int (nI 0)), none, none, none]) (fun _ _ q => q) ?_
        refine z_goto X d_R_compress_145 (tgt := 17) (by decide) ?_
        refine z_drop 5 ?_
        exact z_at (ih (k8, g2, ch) ⟨hR, hfr, by rw [hI]; show (if (ps _ 31 g false).2 = true then _ else _) = _; rw [hI2]; rfl⟩) rfl rfl
      · intro x q hI2 ih2
        obtain ⟨k8, g2, ch⟩ := q
        obtain ⟨hx, hR, hfr, hI2⟩ := hI2
        try dsimp only at hx hR hfr hI2
        have ⟨ho, r0, r1, r2, r3, r4, r5, r6, r7, r8, r9, r10, r11, r12, r13, r14, r15, r16, r17⟩ := hR
        refine z_k (k2 := k8) (fun _ _ _ => rfl) ?_
        refine z_lv (lv2 := [some (.ref (b + 255)), some (.int (nI j)), some (.int (f14 j / dv)), some (.int (nI (cb ch))), some (.int (nI v)), some (.int (nI (x + 1))), none, none, none]) (fun _ _ q => q) ?_
        refine z_iload X d_R_compress_35 rfl ?_
        refine z_iconst X d_R_compress_37 (v := nI 1) (by decide +kernel) ?_
        refine z_icmp_ltN X d_R_compress_38 (tgt := 142) (by decide) (by omega) (by omega) (fun h => absurd h (by omega)) (fun _ => ?_)
        refine z_bipush X d_R_compress_41 (v := nI 64) (by decide +kernel) ?_
        refine z_iload_n X d_R_compress_43 rfl ?_
        refine z_imulN X d_R_compress_44 ?_
        refine z_iload X d_R_compress_45 rfl ?_
        refine z_iaddN X d_R_compress_47 ?_
        refine z_istore X d_R_compress_48 (by decide) rfl ?_
        refine z_lv (lv2 := [some (.ref (b + 255)), some (.int (nI j)), some (.int (f14 j / dv)), some (.int (nI (cb ch))), some (.int (nI v)), some (.int (nI (x + 1))), some (.int (nI ((64 * j) + (x + 1)))), none, none]) (fun _ _ q => q) ?_
        refine z_bipush X d_R_compress_50 (v := nI 64) (by decide +kernel) ?_
        refine z_iload_n X d_R_compress_52 rfl ?_
        refine z_imulN X d_R_compress_53 ?_
        refine z_iconst X d_R_compress_54 (v := nI 2) (by decide +kernel) ?_
        refine z_iload X d_R_compress_55 rfl ?_
        refine z_imulN X d_R_compress_57 ?_
        refine z_iaddN X d_R_compress_58 ?_
        refine z_istore X d_R_compress_59 (by decide) rfl ?_
        refine z_lv (lv2 := [some (.ref (b + 255)), some (.int (nI j)), some (.int (f14 j / dv)), some (.int (nI (cb ch))), some (.int (nI v)), some (.int (nI (x + 1))), some (.int (nI ((64 * j) + (x + 1)))), some (.int (nI ((64 * j) + (2 * (x + 1))))), none]) (fun _ _ q => q) ?_
        refine z_aload_n X d_R_compress_61 rfl ?_
        refine z_get X ho rfl in_R 20 (by decide) (wq lf_R_63) rfl d_R_compress_62 ?_
        refine z_iload X d_R_compress_65 rfl ?_
        refine z_iald X r16 0 rfl (j := (64 * j) + (2 * (x + 1))) rfl (by omega) (by omega) d_R_compress_67 ?_
        refine z_top (y := .int (g2 (2 * (x + 1)))) (by rw [pr_in (by omega)]) ?_
        refine z_aload_n X d_R_compress_68 rfl ?_
        refine z_get X ho rfl in_R 20 (by decide) (wq lf_R_63) rfl d_R_compress_69 ?_
        refine z_iload X d_R_compress_72 rfl ?_
        refine z_iconst X d_R_compress_74 (v := nI 1) (by decide +kernel) ?_
        refine z_iaddN X d_R_compress_75 ?_
        refine z_iald X r16 0 rfl (j := 64 * j + (2 * (x + 1) + 1)) (by rw [Nat.add_assoc]) (by omega) (by omega) d_R_compress_76 ?_
        refine z_top (y := .int (g2 (2 * (x + 1) + 1))) (by rw [pr_in (by omega)]) ?_
        refine z_iadd X d_R_compress_77 ?_
        refine z_top (y := .int (bl g2 (x + 1))) (rfl) ?_
        refine z_istore X d_R_compress_78 (by decide) rfl ?_
        refine z_lv (lv2 := [some (.ref (b + 255)), some (.int (nI j)), some (.int (f14 j / dv)), some (.int (nI (cb ch))), some (.int (nI v)), some (.int (nI (x + 1))), some (.int (nI ((64 * j) + (x + 1)))), some (.int (nI ((64 * j) + (2 * (x + 1))))), some (.int (bl g2 (x + 1)))]) (fun _ _ q => q) ?_
        refine z_iload X d_R_compress_80 rfl ?_
        refine z_if_le X d_R_compress_82 (tgt := 136) (by decide) (fun hA => ?_) (fun hA => ?_)
        · skip
          refine z_iincD X d_R_compress_136 rfl (by decide) rfl ?_
          refine z_lv (lv2 := [some (.ref (b + 255)), some (.int (nI j)), some (.int (f14 j / dv)), some (.int (nI (cb ch))), some (.int (nI v)), some (.int (nI x)), some (.int (nI ((64 * j) + (x + 1)))), some (.int (nI ((64 * j) + (2 * (x + 1))))), some (.int (bl g2 (x + 1)))]) (fun _ _ q => q) ?_
          refine z_goto X d_R_compress_139 (tgt := 35) (by decide) ?_
          refine z_drop 8 ?_
          refine z_drop 7 ?_
          refine z_drop 6 ?_
          exact z_at (ih2 (k8, g2, ch) ⟨by omega, hR, hfr, by rw [hI2]; show (if _ then _ else _) = _; rw [if_neg (by simp [pok, i32_le_n hA])]⟩) rfl rfl
        · skip
          refine z_aload_n X d_R_compress_85 rfl ?_
          refine z_get X ho rfl in_R 20 (by decide) (wq lf_R_63) rfl d_R_compress_86 ?_
          refine z_iload X d_R_compress_89 rfl ?_
          refine z_iald X r16 0 rfl (j := (64 * j) + (x + 1)) rfl (by omega) (by omega) d_R_compress_91 ?_
          refine z_top (y := .int (g2 (x + 1))) (by rw [pr_in (by omega)]) ?_
          refine z_iload X d_R_compress_92 rfl ?_
          refine z_iadd X d_R_compress_94 ?_
          refine z_iload_n X d_R_compress_95 rfl ?_
          refine z_icmp_gt X d_R_compress_96 (tgt := 136) (by decide) (fun hB => ?_) (fun hB => ?_)
          · skip
            refine z_iincD X d_R_compress_136 rfl (by decide) rfl ?_
            refine z_lv (lv2 := [some (.ref (b + 255)), some (.int (nI j)), some (.int (f14 j / dv)), some (.int (nI (cb ch))), some (.int (nI v)), some (.int (nI x)), some (.int (nI ((64 * j) + (x + 1)))), some (.int (nI ((64 * j) + (2 * (x + 1))))), some (.int (bl g2 (x + 1)))]) (fun _ _ q => q) ?_
            refine z_goto X d_R_compress_139 (tgt := 35) (by decide) ?_
            refine z_drop 8 ?_
            refine z_drop 7 ?_
            refine z_drop 6 ?_
            exact z_at (ih2 (k8, g2, ch) ⟨by omega, hR, hfr, by rw [hI2]; show (if _ then _ else _) = _; rw [if_neg (by simp only [pok, Bool.and_eq_true, decide_eq_true_eq]; exact fun q => i32_lt_n hB q.2)]⟩) rfl rfl
          · skip
            refine z_aload_n X d_R_compress_99 rfl ?_
            refine z_get X ho rfl in_R 20 (by decide) (wq lf_R_63) rfl d_R_compress_100 ?_
            refine z_iload X d_R_compress_103 rfl ?_
            refine z_aload_n X d_R_compress_105 rfl ?_
            refine z_get X ho rfl in_R 20 (by decide) (wq lf_R_63) rfl d_R_compress_106 ?_
            refine z_iload X d_R_compress_109 rfl ?_
            refine z_iald X r16 0 rfl (j := (64 * j) + (x + 1)) rfl (by omega) (by omega) d_R_compress_111 ?_
            refine z_top (y := .int (g2 (x + 1))) (by rw [pr_in (by omega)]) ?_
            refine z_iload X d_R_compress_112 rfl ?_
            refine z_iadd X d_R_compress_114 ?_
            refine z_iast X r16 0 rfl (j := (64 * j) + (x + 1)) rfl (by omega) (by omega) d_R_compress_115 ?_
            refine z_named (fun k_1 hk9 => ?_)
            have hR := hR.st16 hk9
            rw [show (upd (pr (64 * j) 64 g2 f16) ((64 * j) + (x + 1)) ((g2 (x + 1)) + (bl g2 (x + 1)))) = pr (64 * j) 64 (upd g2 (x + 1) (g2 (x + 1) + bl g2 (x + 1))) f16 from pr_upd (by omega)] at hR
            have hfr : ∀ q, q < b + 255 → k_1 q = k q := fun q hq => by rw [hk9]; exact (up_ne (by omega)).trans (hfr q hq)
            clear hk9
            have ⟨ho, r0, r1, r2, r3, r4, r5, r6, r7, r8, r9, r10, r11, r12, r13, r14, r15, r16, r17⟩ := hR
            refine z_aload_n X d_R_compress_116 rfl ?_
            refine z_get X ho rfl in_R 20 (by decide) (wq lf_R_63) rfl d_R_compress_117 ?_
            refine z_iload X d_R_compress_120 rfl ?_
            refine z_iconst X d_R_compress_122 (v := nI 0) (by decide +kernel) ?_
            refine z_iast X r16 0 rfl (j := (64 * j) + (2 * (x + 1))) rfl (by omega) (by omega) d_R_compress_123 ?_
            refine z_named (fun k_2 hk9 => ?_)
            have hR := hR.st16 hk9
            rw [show (upd (pr (64 * j) 64 (upd g2 (x + 1) (g2 (x + 1) + bl g2 (x + 1))) f16) ((64 * j) + (2 * (x + 1))) (nI 0)) = pr (64 * j) 64 (upd (upd g2 (x + 1) (g2 (x + 1) + bl g2 (x + 1))) (2 * (x + 1)) 0) f16 from by rw [nI_0]; exact pr_upd (by omega)] at hR
            have hfr : ∀ q, q < b + 255 → k_2 q = k q := fun q hq => by rw [hk9]; exact (up_ne (by omega)).trans (hfr q hq)
            clear hk9
            have ⟨ho, r0, r1, r2, r3, r4, r5, r6, r7, r8, r9, r10, r11, r12, r13, r14, r15, r16, r17⟩ := hR
            refine z_aload_n X d_R_compress_124 rfl ?_
            refine z_get X ho rfl in_R 20 (by decide) (wq lf_R_63) rfl d_R_compress_125 ?_
            refine z_iload X d_R_compress_128 rfl ?_
            refine z_iconst X d_R_compress_130 (v := nI 1) (by decide +kernel) ?_
            refine z_iaddN X d_R_compress_131 ?_
            refine z_iconst X d_R_compress_132 (v := nI 0) (by decide +kernel) ?_
            refine z_iast X r16 0 rfl (j := 64 * j + (2 * (x + 1) + 1)) (by rw [Nat.add_assoc]) (by omega) (by omega) d_R_compress_133 ?_
            refine z_named (fun k_3 hk9 => ?_)
            have hR := hR.st16 hk9
            rw [show (upd (pr (64 * j) 64 (upd (upd g2 (x + 1) (g2 (x + 1) + bl g2 (x + 1))) (2 * (x + 1)) 0) f16) (64 * j + (2 * (x + 1) + 1)) (nI 0)) = pr (64 * j) 64 (pst g2 (x + 1)) f16 from by rw [nI_0]; exact pr_upd (by omega)] at hR
            have hfr : ∀ q, q < b + 255 → k_3 q = k q := fun q hq => by rw [hk9]; exact (up_ne (by omega)).trans (hfr q hq)
            clear hk9
            have ⟨ho, r0, r1, r2, r3, r4, r5, r6, r7, r8, r9, r10, r11, r12, r13, r14, r15, r16, r17⟩ := hR
            refine z_iconst X d_R_compress_134 (v := nI 1) (by decide +kernel) ?_
            refine z_istore_n X d_R_compress_135 (by decide) rfl ?_
            refine z_lv (lv2 := [some (.ref (b + 255)), some (.int (nI j)), some (.int (f14 j / dv)), some (.int (nI 1)), some (.int (nI v)), some (.int (nI (x + 1))), some (.int (nI ((64 * j) + (x + 1)))), some (.int (nI ((64 * j) + (2 * (x + 1))))), some (.int (bl g2 (x + 1)))]) (fun _ _ q => q) ?_
            refine z_iincD X d_R_compress_136 rfl (by decide) rfl ?_
            refine z_lv (lv2 := [some (.ref (b + 255)), some (.int (nI j)), some (.int (f14 j / dv)), some (.int (nI 1)), some (.int (nI v)), some (.int (nI x)), some (.int (nI ((64 * j) + (x + 1)))), some (.int (nI ((64 * j) + (2 * (x + 1))))), some (.int (bl g2 (x + 1)))]) (fun _ _ q => q) ?_
            refine z_goto X d_R_compress_139 (tgt := 35) (by decide) ?_
            refine z_drop 8 ?_
            refine z_drop 7 ?_
            refine z_drop 6 ?_
            exact z_at (ih2 (k_3, pst g2 (x + 1), true) ⟨by omega, hR, hfr, by rw [hI2]; show (if _ then _ else _) = _; rw [if_pos (by simp only [pok, Bool.and_eq_true, decide_eq_true_eq]; exact ⟨i32_nle hA, i32_nlt hB⟩)]⟩) rfl rfl
set_option maxHeartbeats 4000000 in
set_option maxRecDepth 100000 in
/-- R_take -/
theorem c_R_take {kk nc : Nat} {dv ms : Int32} {f0 f1 f2 f3 f4 f5 f6 f7 f8 f9 f10 f11 f12 f13 f14 f15 f16 f17 : Nat → Int32} {j v : Nat} (hR : RW tI tZ b N k kk dv nc ms f0 f1 f2 f3 f4 f5 f6 f7 f8 f9 f10 f11 f12 f13 f14 f15 f16 f17) (hj : j < 12) (hv : v < 32) (hd : ¬ dv = 0) (hk6 : kk ≤ 6)  : Met l y_R_take (wy y_R_take b_R_take 3 none) (rm 1 0 0) (zPc D (tyl tI tZ tN tM) b N k [.ref (b + 255), .int (nI j), .int (nI v)]) (zQv D b N (fun k2 => RW tI tZ b N k2 kk dv nc ms f0 f1 f2 f3 f4 f5 f6 f7 f8 f9 f10 f11 f12 f13 (upd f14 j (f14 j + 1)) (pr (32 * j) 32 (tkC kk (rw_ 32 f15 j) v) f15) (pr (64 * j) 64 (cpr ((f14 j + 1) / dv) 4000 (upd (rw_ 64 f16 j) (32 + v) ((rw_ 64 f16 j) (32 + v) + 1))) f16) f17 ∧ ∀ q, q < b + 255 → k2 q = k q)) 0 0 (zA b) := by
  refine z_met (own := R_R) (by decide) rfl rfl (Nat.le_of_ble_eq_true rfl) [some (.ref (b + 255)), some (.int (nI j)), some (.int (nI v))] rfl ?_
  intro p e s m args below meth c X hin
  have ⟨ho, r0, r1, r2, r3, r4, r5, r6, r7, r8, r9, r10, r11, r12, r13, r14, r15, r16, r17⟩ := hR
  have hfr : ∀ q, q < b + 255 → k q = k q := fun _ _ => rfl
  refine z_aload_n X d_R_take_0 rfl ?_
  refine z_get X ho rfl in_R 18 (by decide) (wq lf_R_57) rfl d_R_take_1 ?_
  refine z_iload_n X d_R_take_4 rfl ?_
  refine z_dup2 X d_R_take_5 rfl rfl ?_
  refine z_iald X r14 0 rfl (j := j) rfl (by omega) (by omega) d_R_take_6 ?_
  refine z_iconst X d_R_take_7 (v := nI 1) (by decide +kernel) ?_
  refine z_iadd X d_R_take_8 ?_
  refine z_iast X r14 0 rfl (j := j) rfl (by omega) (by omega) d_R_take_9 ?_
  refine z_named (fun k_1 hk9 => ?_)
  have hR := hR.st14 hk9
  rw [show (upd f14 j ((f14 j) + (nI 1))) = upd f14 j (f14 j + 1) from by rw [nI_one]] at hR
  have hfr : ∀ q, q < b + 255 → k_1 q = k q := fun q hq => by rw [hk9]; exact (up_ne (by omega)).trans (hfr q hq)
  clear hk9
  have ⟨ho, r0, r1, r2, r3, r4, r5, r6, r7, r8, r9, r10, r11, r12, r13, r14, r15, r16, r17⟩ := hR
  refine z_aload_n X d_R_take_10 rfl ?_
  refine z_get X ho rfl in_R 19 (by decide) (wq lf_R_60) rfl d_R_take_11 ?_
  refine z_bipush X d_R_take_14 (v := nI 32) (by decide +kernel) ?_
  refine z_iload_n X d_R_take_16 rfl ?_
  refine z_imulN X d_R_take_17 ?_
  refine z_iload_n X d_R_take_18 rfl ?_
  refine z_iaddN X d_R_take_19 ?_
  refine z_iald X r15 0 rfl (j := (32 * j) + v) rfl (by omega) (by omega) d_R_take_20 ?_
  refine z_top (y := .int ((rw_ 32 f15 j) v)) (by rw [rw_in hv]) ?_
  refine z_if_gt X d_R_take_21 (tgt := 36) (by decide) (fun hA => ?_) (fun hA => ?_)
  · skip
    refine z_aload_n X d_R_take_36 rfl ?_
    refine z_get X ho rfl in_R 19 (by decide) (wq lf_R_60) rfl d_R_take_37 ?_
    refine z_bipush X d_R_take_40 (v := nI 32) (by decide +kernel) ?_
    refine z_iload_n X d_R_take_42 rfl ?_
    refine z_imulN X d_R_take_43 ?_
    refine z_iload_n X d_R_take_44 rfl ?_
    refine z_iaddN X d_R_take_45 ?_
    refine z_dup2 X d_R_take_46 rfl rfl ?_
    refine z_iald X r15 0 rfl (j := (32 * j) + v) rfl (by omega) (by omega) d_R_take_47 ?_
    refine z_top (y := .int ((rw_ 32 f15 j) v)) (by rw [rw_in hv]) ?_
    refine z_iconst X d_R_take_48 (v := nI 1) (by decide +kernel) ?_
    refine z_iadd X d_R_take_49 ?_
    refine z_iast X r15 0 rfl (j := (32 * j) + v) rfl (by omega) (by omega) d_R_take_50 ?_
    refine z_named (fun k_2 hk9 => ?_)
    have hR := hR.st15 hk9
    rw [show (upd f15 ((32 * j) + v) (((rw_ 32 f15 j) v) + (nI 1))) = pr (32 * j) 32 (tkC kk (rw_ 32 f15 j) v) f15 from by unfold tkC; rw [if_pos (Or.inl hA), nI_one, ← pr_upd hv, pr_rw]] at hR
    have hfr : ∀ q, q < b + 255 → k_2 q = k q := fun q hq => by rw [hk9]; exact (up_ne (by omega)).trans (hfr q hq)
    clear hk9
    have ⟨ho, r0, r1, r2, r3, r4, r5, r6, r7, r8, r9, r10, r11, r12, r13, r14, r15, r16, r17⟩ := hR
    refine z_goto X d_R_take_51 (tgt := 60) (by decide) ?_
    refine z_aload_n X d_R_take_60 rfl ?_
    refine z_get X ho rfl in_R 20 (by decide) (wq lf_R_63) rfl d_R_take_61 ?_
    refine z_bipush X d_R_take_64 (v := nI 64) (by decide +kernel) ?_
    refine z_iload_n X d_R_take_66 rfl ?_
    refine z_imulN X d_R_take_67 ?_
    refine z_bipush X d_R_take_68 (v := nI 32) (by decide +kernel) ?_
    refine z_iaddN X d_R_take_70 ?_
    refine z_iload_n X d_R_take_71 rfl ?_
    refine z_iaddN X d_R_take_72 ?_
    refine z_dup2 X d_R_take_73 rfl rfl ?_
    refine z_iald X r16 0 rfl (j := 64 * j + (32 + v)) (by rw [Nat.add_assoc]) (by omega) (by omega) d_R_take_74 ?_
    refine z_top (y := .int ((rw_ 64 f16 j) (32 + v))) (by rw [rw_in (by omega)]) ?_
    refine z_iconst X d_R_take_75 (v := nI 1) (by decide +kernel) ?_
    refine z_iadd X d_R_take_76 ?_
    refine z_iast X r16 0 rfl (j := 64 * j + (32 + v)) (by rw [Nat.add_assoc]) (by omega) (by omega) d_R_take_77 ?_
    refine z_named (fun k_3 hk9 => ?_)
    have hR := hR.st16 hk9
    rw [show (upd f16 (64 * j + (32 + v)) (((rw_ 64 f16 j) (32 + v)) + (nI 1))) = pr (64 * j) 64 (upd (rw_ 64 f16 j) (32 + v) ((rw_ 64 f16 j) (32 + v) + 1)) f16 from by rw [nI_one, ← pr_upd (by omega), pr_rw]] at hR
    have hfr : ∀ q, q < b + 255 → k_3 q = k q := fun q hq => by rw [hk9]; exact (up_ne (by omega)).trans (hfr q hq)
    clear hk9
    have ⟨ho, r0, r1, r2, r3, r4, r5, r6, r7, r8, r9, r10, r11, r12, r13, r14, r15, r16, r17⟩ := hR
    refine z_aload_n X d_R_take_78 rfl ?_
    refine z_iload_n X d_R_take_79 rfl ?_
    refine z_callVv X (c_R_compress hR hj hd) ho rfl (cwV 1 X.1.2.2.2.2 (gi_V lm_R_116 vi_R_compress ve_R_compress vn_R vc_R_compress) rfl rfl rfl (by decide +kernel) ⟨Nat.le_of_ble_eq_true rfl, Nat.le_of_ble_eq_true rfl⟩) (As := [.int (nI j)]) (st := []) rfl rfl (Nat.le_of_ble_eq_true rfl) d_R_take_80 ⟨Nat.le_of_ble_eq_true rfl, Nat.le_of_ble_eq_true rfl⟩ (fun k2 hq => ?_)
    obtain ⟨hR9, hf9⟩ := hq
    rw [upd_eq, pr_pr, rw_pr (w := 64) (fun i hi => by rw [upd_ne (by omega)]; unfold rw_; rw [if_neg (by omega)])] at hR9
    exact z_vret X d_R_take_83 (by omega) (by omega) (⟨hR9, fun q hq => (hf9 q hq).trans (hfr q hq)⟩)
  · skip
    refine z_aload_n X d_R_take_24 rfl ?_
    refine z_iload_n X d_R_take_25 rfl ?_
    refine z_callVi X (c_R_counters hR hj) ho rfl (cwV 1 X.1.2.2.2.2 (gi_V lm_R_110 vi_R_counters ve_R_counters vn_R vc_R_counters) rfl rfl rfl (by decide +kernel) ⟨Nat.le_of_ble_eq_true rfl, Nat.le_of_ble_eq_true rfl⟩) (As := [.int (nI j)]) (st := []) rfl rfl (Nat.le_of_ble_eq_true rfl) d_R_take_26 ⟨Nat.le_of_ble_eq_true rfl, Nat.le_of_ble_eq_true rfl⟩ (fun z k2 hq => ?_)
    obtain ⟨rfl, hk9⟩ := hq
    have hk9 := hk9.symm
    subst hk9
    have hc32 : cn (rw_ 32 f15 j) ≤ 32 := ct_le _ _
    refine z_aload_n X d_R_take_29 rfl ?_
    refine z_get X ho rfl in_R 0 (by decide) (wq lf_R_69) rfl d_R_take_30 ?_
    refine z_icmp_geN X d_R_take_33 (tgt := 54) (by decide) (by omega) (by omega) (fun hB => ?_) (fun hB => ?_)
    · skip
      refine z_aload_n X d_R_take_54 rfl ?_
      refine z_iload_n X d_R_take_55 rfl ?_
      refine z_iconst X d_R_take_56 (v := nI 1) (by decide +kernel) ?_
      refine z_callVv X (c_R_lower hR hj) ho rfl (cwV 2 X.1.2.2.2.2 (gi_V lm_R_113 vi_R_lower ve_R_lower vn_R vc_R_lower) rfl rfl rfl (by decide +kernel) ⟨Nat.le_of_ble_eq_true rfl, Nat.le_of_ble_eq_true rfl⟩) (As := [.int (nI j), .int (nI 1)]) (st := []) rfl rfl (Nat.le_of_ble_eq_true rfl) d_R_take_57 ⟨Nat.le_of_ble_eq_true rfl, Nat.le_of_ble_eq_true rfl⟩ (fun k2 hq => ?_)
      obtain ⟨hR9, hf9⟩ := hq
      rw [show lw (rw_ 32 f15 j) (nI 1) = tkC kk (rw_ 32 f15 j) v by unfold tkC; rw [if_neg (fun q => q.elim hA (fun q => by omega)), nI_one]] at hR9
      have hR := hR9
      have hfr : ∀ q, q < b + 255 → k2 q = k q := fun q hq => (hf9 q hq).trans (hfr q hq)
      have ⟨ho, r0, r1, r2, r3, r4, r5, r6, r7, r8, r9, r10, r11, r12, r13, r14, r15, r16, r17⟩ := hR
      refine z_aload_n X d_R_take_60 rfl ?_
      refine z_get X ho rfl in_R 20 (by decide) (wq lf_R_63) rfl d_R_take_61 ?_
      refine z_bipush X d_R_take_64 (v := nI 64) (by decide +kernel) ?_
      refine z_iload_n X d_R_take_66 rfl ?_
      refine z_imulN X d_R_take_67 ?_
      refine z_bipush X d_R_take_68 (v := nI 32) (by decide +kernel) ?_
      refine z_iaddN X d_R_take_70 ?_
      refine z_iload_n X d_R_take_71 rfl ?_
      refine z_iaddN X d_R_take_72 ?_
      refine z_dup2 X d_R_take_73 rfl rfl ?_
      refine z_iald X r16 0 rfl (j := 64 * j + (32 + v)) (by rw [Nat.add_assoc]) (by omega) (by omega) d_R_take_74 ?_
      refine z_top (y := .int ((rw_ 64 f16 j) (32 + v))) (by rw [rw_in (by omega)]) ?_
      refine z_iconst X d_R_take_75 (v := nI 1) (by decide +kernel) ?_
      refine z_iadd X d_R_take_76 ?_
      refine z_iast X r16 0 rfl (j := 64 * j + (32 + v)) (by rw [Nat.add_assoc]) (by omega) (by omega) d_R_take_77 ?_
      refine z_named (fun k_4 hk9 => ?_)
      have hR := hR.st16 hk9
      rw [show (upd f16 (64 * j + (32 + v)) (((rw_ 64 f16 j) (32 + v)) + (nI 1))) = pr (64 * j) 64 (upd (rw_ 64 f16 j) (32 + v) ((rw_ 64 f16 j) (32 + v) + 1)) f16 from by rw [nI_one, ← pr_upd (by omega), pr_rw]] at hR
      have hfr : ∀ q, q < b + 255 → k_4 q = k q := fun q hq => by rw [hk9]; exact (up_ne (by omega)).trans (hfr q hq)
      clear hk9
      have ⟨ho, r0, r1, r2, r3, r4, r5, r6, r7, r8, r9, r10, r11, r12, r13, r14, r15, r16, r17⟩ := hR
      refine z_aload_n X d_R_take_78 rfl ?_
      refine z_iload_n X d_R_take_79 rfl ?_
      refine z_callVv X (c_R_compress hR hj hd) ho rfl (cwV 1 X.1.2.2.2.2 (gi_V lm_R_116 vi_R_compress ve_R_compress vn_R vc_R_compress) rfl rfl rfl (by decide +kernel) ⟨Nat.le_of_ble_eq_true rfl, Nat.le_of_ble_eq_true rfl⟩) (As := [.int (nI j)]) (st := []) rfl rfl (Nat.le_of_ble_eq_true rfl) d_R_take_80 ⟨Nat.le_of_ble_eq_true rfl, Nat.le_of_ble_eq_true rfl⟩ (fun k2 hq => ?_)
      obtain ⟨hR9, hf9⟩ := hq
      rw [upd_eq, pr_pr, rw_pr (w := 64) (fun i hi => by rw [upd_ne (by omega)]; unfold rw_; rw [if_neg (by omega)])] at hR9
      exact z_vret X d_R_take_83 (by omega) (by omega) (⟨hR9, fun q hq => (hf9 q hq).trans (hfr q hq)⟩)
    · skip
      refine z_aload_n X d_R_take_36 rfl ?_
      refine z_get X ho rfl in_R 19 (by decide) (wq lf_R_60) rfl d_R_take_37 ?_
      refine z_bipush X d_R_take_40 (v := nI 32) (by decide +kernel) ?_
      refine z_iload_n X d_R_take_42 rfl ?_
      refine z_imulN X d_R_take_43 ?_
      refine z_iload_n X d_R_take_44 rfl ?_
      refine z_iaddN X d_R_take_45 ?_
      refine z_dup2 X d_R_take_46 rfl rfl ?_
      refine z_iald X r15 0 rfl (j := (32 * j) + v) rfl (by omega) (by omega) d_R_take_47 ?_
      refine z_top (y := .int ((rw_ 32 f15 j) v)) (by rw [rw_in hv]) ?_
      refine z_iconst X d_R_take_48 (v := nI 1) (by decide +kernel) ?_
      refine z_iadd X d_R_take_49 ?_
      refine z_iast X r15 0 rfl (j := (32 * j) + v) rfl (by omega) (by omega) d_R_take_50 ?_
      refine z_named (fun k_5 hk9 => ?_)
      have hR := hR.st15 hk9
      rw [show (upd f15 ((32 * j) + v) (((rw_ 32 f15 j) v) + (nI 1))) = pr (32 * j) 32 (tkC kk (rw_ 32 f15 j) v) f15 from by unfold tkC; rw [if_pos (Or.inr hB), nI_one, ← pr_upd hv, pr_rw]] at hR
      have hfr : ∀ q, q < b + 255 → k_5 q = k q := fun q hq => by rw [hk9]; exact (up_ne (by omega)).trans (hfr q hq)
      clear hk9
      have ⟨ho, r0, r1, r2, r3, r4, r5, r6, r7, r8, r9, r10, r11, r12, r13, r14, r15, r16, r17⟩ := hR
      refine z_goto X d_R_take_51 (tgt := 60) (by decide) ?_
      refine z_aload_n X d_R_take_60 rfl ?_
      refine z_get X ho rfl in_R 20 (by decide) (wq lf_R_63) rfl d_R_take_61 ?_
      refine z_bipush X d_R_take_64 (v := nI 64) (by decide +kernel) ?_
      refine z_iload_n X d_R_take_66 rfl ?_
      refine z_imulN X d_R_take_67 ?_
      refine z_bipush X d_R_take_68 (v := nI 32) (by decide +kernel) ?_
      refine z_iaddN X d_R_take_70 ?_
      refine z_iload_n X d_R_take_71 rfl ?_
      refine z_iaddN X d_R_take_72 ?_
      refine z_dup2 X d_R_take_73 rfl rfl ?_
      refine z_iald X r16 0 rfl (j := 64 * j + (32 + v)) (by rw [Nat.add_assoc]) (by omega) (by omega) d_R_take_74 ?_
      refine z_top (y := .int ((rw_ 64 f16 j) (32 + v))) (by rw [rw_in (by omega)]) ?_
      refine z_iconst X d_R_take_75 (v := nI 1) (by decide +kernel) ?_
      refine z_iadd X d_R_take_76 ?_
      refine z_iast X r16 0 rfl (j := 64 * j + (32 + v)) (by rw [Nat.add_assoc]) (by omega) (by omega) d_R_take_77 ?_
      refine z_named (fun k_6 hk9 => ?_)
      have hR := hR.st16 hk9
      rw [show (upd f16 (64 * j + (32 + v)) (((rw_ 64 f16 j) (32 + v)) + (nI 1))) = pr (64 * j) 64 (upd (rw_ 64 f16 j) (32 + v) ((rw_ 64 f16 j) (32 + v) + 1)) f16 from by rw [nI_one, ← pr_upd (by omega), pr_rw]] at hR
      have hfr : ∀ q, q < b + 255 → k_6 q = k q := fun q hq => by rw [hk9]; exact (up_ne (by omega)).trans (hfr q hq)
      clear hk9
      have ⟨ho, r0, r1, r2, r3, r4, r5, r6, r7, r8, r9, r10, r11, r12, r13, r14, r15, r16, r17⟩ := hR
      refine z_aload_n X d_R_take_78 rfl ?_
      refine z_iload_n X d_R_take_79 rfl ?_
      refine z_callVv X (c_R_compress hR hj hd) ho rfl (cwV 1 X.1.2.2.2.2 (gi_V lm_R_116 vi_R_compress ve_R_compress vn_R vc_R_compress) rfl rfl rfl (by decide +kernel) ⟨Nat.le_of_ble_eq_true rfl, Nat.le_of_ble_eq_true rfl⟩) (As := [.int (nI j)]) (st := []) rfl rfl (Nat.le_of_ble_eq_true rfl) d_R_take_80 ⟨Nat.le_of_ble_eq_true rfl, Nat.le_of_ble_eq_true rfl⟩ (fun k2 hq => ?_)
      obtain ⟨hR9, hf9⟩ := hq
      rw [upd_eq, pr_pr, rw_pr (w := 64) (fun i hi => by rw [upd_ne (by omega)]; unfold rw_; rw [if_neg (by omega)])] at hR9
      exact z_vret X d_R_take_83 (by omega) (by omega) (⟨hR9, fun q hq => (hf9 q hq).trans (hfr q hq)⟩)
end
end
section
/-! Contracts of the reference, 4: merge, know -/
theorem rw_z {w j i : Nat} {C : Nat → Int32} (h : w ≤ i) : rw_ w C j i = 0 := by
  unfold rw_
  rw [if_neg (by omega)]
theorem us_succ {h f : Nat → Int32} {i x : Nat} (hx : x < 32) (hg : gu (pu h i) h 32 = some x) : upd (pr 0 32 (fun w9 => nI (cb (pu h i w9))) f) x (vp_nar .boolean (nI 1)) = pr 0 32 (fun v => nI (cb (pu h (i + 1) v))) f := by
  have e := pr_upd (w := 0) (m := 32) (i := x) (F := fun v => nI (cb (pu h i v))) (C := f) (x := vp_nar .boolean (nI 1)) hx
  rw [Nat.zero_add] at e
  rw [e]
  refine pr_congr (fun v hv => ?_)
  by_cases hvx : v = x
  · subst hvx
    rw [upd_eq, zn1]
    simp [pu, hg, cb]
  · rw [upd_ne hvx]
    simp [pu, hg, Ne.symm hvx]
def kac (f0 f7 f8 : Nat → Int32) (x : Int32) (z : Nat → Int32) : Nat → Nat → Int32
  | 0 => z
  | c + 1 => if f0 (c + 1) = x ∧ 0 < f7 (c + 1) then pr 0 12 (fun l => kac f0 f7 f8 x z c l + f8 (12 * (c + 1) + l)) (kac f0 f7 f8 x z c) else kac f0 f7 f8 x z c
def knw (f0 f1 f4 f7 f8 f13 : Nat → Int32) (nc j : Nat) : Nat → Int32 := if f1 j = 0 then kac f0 f7 f8 (nI j) (pr 0 12 (fun _ => 0) f13) (nc - 1) else upd (pr 0 12 (fun _ => 0) f13) j (f4 j)
section
variable {l : Launch} {D : va_G} {tI tZ tN tM : ClassId} {b N : Nat} {k : Nat → va_E}
set_option maxHeartbeats 4000000 in
set_option maxRecDepth 100000 in
/-- R_merge -/
theorem c_R_merge {kk nc : Nat} {dv ms : Int32} {f0 f1 f2 f3 f4 f5 f6 f7 f8 f9 f10 f11 f12 f13 f14 f15 f16 f17 : Nat → Int32} {j c2 : Nat} (hR : RW tI tZ b N k kk dv nc ms f0 f1 f2 f3 f4 f5 f6 f7 f8 f9 f10 f11 f12 f13 f14 f15 f16 f17) (hjc : j < c2) (hc : c2 < 12) (hd : ¬ dv = 0) (hk6 : kk ≤ 6) (h00 : rw_ 64 f16 c2 0 = 0)  : Met l y_R_merge (wy y_R_merge b_R_merge 6 none) (rm 1 0 0) (zPc D (tyl tI tZ tN tM) b N k [.ref (b + 255), .int (nI j), .int (nI c2)]) (zQv D b N (fun k2 => ∃ u2, RW tI tZ b N k2 kk dv nc ms f0 f1 f2 f3 f4 f5 f6 f7 f8 f9 f10 f11 f12 f13 (upd f14 j (f14 j + f14 c2)) (pr (32 * j) 32 (mgC kk (rw_ 32 f15 j) (rw_ 32 f15 c2)) f15) (pr (64 * j) 64 (cpr ((f14 j + f14 c2) / dv) 4000 (ad (rw_ 64 f16 j) (rw_ 64 f16 c2))) f16) u2 ∧ ∀ q, q < b + 255 → k2 q = k q)) 0 0 (zA b) := by
  refine z_met (own := R_R) (by decide) rfl rfl (Nat.le_of_ble_eq_true rfl) [some (.ref (b + 255)), some (.int (nI j)), some (.int (nI c2)), none, none, none] rfl ?_
  intro p e s m args below meth c X hin
  have ⟨ho, r0, r1, r2, r3, r4, r5, r6, r7, r8, r9, r10, r11, r12, r13, r14, r15, r16, r17⟩ := hR
  have hfr : ∀ q, q < b + 255 → k q = k q := fun _ _ => rfl
  refine z_aload_n X d_R_merge_0 rfl ?_
  refine z_get X ho rfl in_R 18 (by decide) (wq lf_R_57) rfl d_R_merge_1 ?_
  refine z_iload_n X d_R_merge_4 rfl ?_
  refine z_aload_n X d_R_merge_5 rfl ?_
  refine z_get X ho rfl in_R 18 (by decide) (wq lf_R_57) rfl d_R_merge_6 ?_
  refine z_iload_n X d_R_merge_9 rfl ?_
  refine z_iald X r14 0 rfl (j := j) rfl (by omega) (by omega) d_R_merge_10 ?_
  refine z_aload_n X d_R_merge_11 rfl ?_
  refine z_get X ho rfl in_R 18 (by decide) (wq lf_R_57) rfl d_R_merge_12 ?_
  refine z_iload_n X d_R_merge_15 rfl ?_
  refine z_iald X r14 0 rfl (j := c2) rfl (by omega) (by omega) d_R_merge_16 ?_
  refine z_iadd X d_R_merge_17 ?_
  refine z_iast X r14 0 rfl (j := j) rfl (by omega) (by omega) d_R_merge_18 ?_
  refine z_named (fun k_1 hk9 => ?_)
  have hR := hR.st14 hk9
  have hfr : ∀ q, q < b + 255 → k_1 q = k q := fun q hq => by rw [hk9]; exact (up_ne (by omega)).trans (hfr q hq)
  clear hk9
  have ⟨ho, r0, r1, r2, r3, r4, r5, r6, r7, r8, r9, r10, r11, r12, r13, r14, r15, r16, r17⟩ := hR
  refine z_iconst X d_R_merge_19 (v := nI 0) (by decide +kernel) ?_
  refine z_istore_n X d_R_merge_20 (by decide) rfl ?_
  refine z_lv (lv2 := [some (.ref (b + 255)), some (.int (nI j)), some (.int (nI c2)), some (.int (nI 0)), none, none]) (fun _ _ q => q) ?_
  refine z_loop (σ := Nat → va_E) (K := fun _ k9 => k9) (LV := fun v _ => [some (.ref (b + 255)), some (.int (nI j)), some (.int (nI c2)), some (.int (nI v)), none, none]) (I := fun v k9 => (RW tI tZ b N k9 kk dv nc ms f0 f1 f2 f3 f4 f5 f6 f7 f8 f9 f10 f11 f12 f13 (upd f14 j (f14 j + f14 c2)) (pr (32 * j) v (ad (rw_ 32 f15 j) (rw_ 32 f15 c2)) f15) f16 f17) ∧ (∀ q, q < b + 255 → k9 q = k q)) 32 0 k_1 (by omega) (⟨by rw [pr_0]; exact hR, hfr⟩) (rfl) (rfl) ?_ ?_
  · intro k9 hI
    obtain ⟨hR, hfr⟩ := hI
    have ⟨ho, r0, r1, r2, r3, r4, r5, r6, r7, r8, r9, r10, r11, r12, r13, r14, r15, r16, r17⟩ := hR
    refine z_lv (lv2 := [some (.ref (b + 255)), some (.int (nI j)), some (.int (nI c2)), some (.int (nI 32)), none, none]) (fun _ _ q => q) ?_
    refine z_iload_n X d_R_merge_21 rfl ?_
    refine z_bipush X d_R_merge_22 (v := nI 32) (by decide +kernel) ?_
    refine z_icmp_geN X d_R_merge_24 (tgt := 67) (by decide) (by omega) (by omega) (fun _ => ?_) (fun h => absurd h (by omega))
    refine z_aload_n X d_R_merge_67 rfl ?_
    refine z_iload_n X d_R_merge_68 rfl ?_
    have hz : ∀ i, 32 ≤ i → (ad (rw_ 32 f15 j) (rw_ 32 f15 c2)) i = 0 := fun i hi => ad_z (rw_z hi) (rw_z hi)
    have hrow : rw_ 32 (pr (32 * j) 32 (ad (rw_ 32 f15 j) (rw_ 32 f15 c2)) f15) j = (ad (rw_ 32 f15 j) (rw_ 32 f15 c2)) := rw_pr hz
    refine z_callVi X (c_R_counters hR (by omega)) ho rfl (cwV 1 X.1.2.2.2.2 (gi_V lm_R_110 vi_R_counters ve_R_counters vn_R vc_R_counters) rfl rfl rfl (by decide +kernel) ⟨Nat.le_of_ble_eq_true rfl, Nat.le_of_ble_eq_true rfl⟩) (As := [.int (nI j)]) (st := []) rfl rfl (Nat.le_of_ble_eq_true rfl) d_R_merge_69 ⟨Nat.le_of_ble_eq_true rfl, Nat.le_of_ble_eq_true rfl⟩ (fun z k2 hq => ?_)
    rw [hrow] at hq
    obtain ⟨rfl, hk9⟩ := hq
    have hk9 := hk9.symm
    subst hk9
    have hc32 : cn (ad (rw_ 32 f15 j) (rw_ 32 f15 c2)) ≤ 32 := ct_le _ _
    refine z_drop 3 ?_
    refine z_aload_n X d_R_merge_72 rfl ?_
    refine z_get X ho rfl in_R 0 (by decide) (wq lf_R_69) rfl d_R_merge_73 ?_
    refine z_icmp_leN X d_R_merge_76 (tgt := 137) (by decide) (by omega) (by omega) (fun hA => ?_) (fun hA => ?_)
    · skip
      rw [show (ad (rw_ 32 f15 j) (rw_ 32 f15 c2)) = mgC kk (rw_ 32 f15 j) (rw_ 32 f15 c2) by unfold mgC; rw [if_neg (by omega)]] at hR
      have ⟨ho, r0, r1, r2, r3, r4, r5, r6, r7, r8, r9, r10, r11, r12, r13, r14, r15, r16, r17⟩ := hR
      refine z_iconst X d_R_merge_137 (v := nI 1) (by decide +kernel) ?_
      refine z_istore_n X d_R_merge_138 (by decide) rfl ?_
      refine z_lv (lv2 := [some (.ref (b + 255)), some (.int (nI j)), some (.int (nI c2)), some (.int (nI 1)), none, none]) (fun _ _ q => q) ?_
      refine z_loop (σ := Nat → va_E) (K := fun _ k9 => k9) (LV := fun v _ => [some (.ref (b + 255)), some (.int (nI j)), some (.int (nI c2)), some (.int (nI (v + 1))), none, none]) (I := fun v k9 => (RW tI tZ b N k9 kk dv nc ms f0 f1 f2 f3 f4 f5 f6 f7 f8 f9 f10 f11 f12 f13 (upd f14 j (f14 j + f14 c2)) (pr (32 * j) 32 (mgC kk (rw_ 32 f15 j) (rw_ 32 f15 c2)) f15) (pr (64 * j + 1) v (fun r => ad (rw_ 64 f16 j) (rw_ 64 f16 c2) (r + 1)) f16) f17) ∧ (∀ q, q < b + 255 → k9 q = k q)) 63 0 k9 (by omega) (⟨by rw [pr_0]; exact hR, hfr⟩) (rfl) (rfl) ?_ ?_
      · intro k9 hI
        obtain ⟨hR, hfr⟩ := hI
        have ⟨ho, r0, r1, r2, r3, r4, r5, r6, r7, r8, r9, r10, r11, r12, r13, r14, r15, r16, r17⟩ := hR
        refine z_lv (lv2 := [some (.ref (b + 255)), some (.int (nI j)), some (.int (nI c2)), some (.int (nI (63 + 1))), none, none]) (fun _ _ q => q) ?_
        refine z_iload_n X d_R_merge_139 rfl ?_
        refine z_bipush X d_R_merge_140 (v := nI 64) (by decide +kernel) ?_
        refine z_icmp_geN X d_R_merge_142 (tgt := 185) (by decide) (by omega) (by omega) (fun _ => ?_) (fun h => absurd h (by omega))
        rw [pr_row1 (g := (rw_ 64 f16 j)) (g2 := (rw_ 64 f16 c2)) rfl h00] at hR
        have ⟨ho, r0, r1, r2, r3, r4, r5, r6, r7, r8, r9, r10, r11, r12, r13, r14, r15, r16, r17⟩ := hR
        refine z_aload_n X d_R_merge_185 rfl ?_
        refine z_iload_n X d_R_merge_186 rfl ?_
        refine z_callVv X (c_R_compress hR (by omega) hd) ho rfl (cwV 1 X.1.2.2.2.2 (gi_V lm_R_116 vi_R_compress ve_R_compress vn_R vc_R_compress) rfl rfl rfl (by decide +kernel) ⟨Nat.le_of_ble_eq_true rfl, Nat.le_of_ble_eq_true rfl⟩) (As := [.int (nI j)]) (st := []) rfl rfl (Nat.le_of_ble_eq_true rfl) d_R_merge_187 ⟨Nat.le_of_ble_eq_true rfl, Nat.le_of_ble_eq_true rfl⟩ (fun k2 hq => ?_)
        obtain ⟨hR9, hf9⟩ := hq
        rw [upd_eq, pr_pr, rw_pr (w := 64) (fun i hi => ad_z (rw_z hi) (rw_z hi))] at hR9
        exact z_vret X d_R_merge_190 (by omega) (by omega) (⟨_, hR9, fun q hq => (hf9 q hq).trans (hfr q hq)⟩)
      · intro v k9 hv hI ih
        obtain ⟨hR, hfr⟩ := hI
        have ⟨ho, r0, r1, r2, r3, r4, r5, r6, r7, r8, r9, r10, r11, r12, r13, r14, r15, r16, r17⟩ := hR
        refine z_lv (lv2 := [some (.ref (b + 255)), some (.int (nI j)), some (.int (nI c2)), some (.int (nI (v + 1))), none, none]) (fun _ _ q => q) ?_
        refine z_iload_n X d_R_merge_139 rfl ?_
        refine z_bipush X d_R_merge_140 (v := nI 64) (by decide +kernel) ?_
        refine z_icmp_geN X d_R_merge_142 (tgt := 185) (by decide) (by omega) (by omega) (fun h => absurd h (by omega)) (fun _ => ?_)
        refine z_aload_n X d_R_merge_145 rfl ?_
        refine z_get X ho rfl in_R 20 (by decide) (wq lf_R_63) rfl d_R_merge_146 ?_
        refine z_bipush X d_R_merge_149 (v := nI 64) (by decide +kernel) ?_
        refine z_iload_n X d_R_merge_151 rfl ?_
        refine z_imulN X d_R_merge_152 ?_
        refine z_iload_n X d_R_merge_153 rfl ?_
        refine z_iaddN X d_R_merge_154 ?_
        refine z_aload_n X d_R_merge_155 rfl ?_
        refine z_get X ho rfl in_R 20 (by decide) (wq lf_R_63) rfl d_R_merge_156 ?_
        refine z_bipush X d_R_merge_159 (v := nI 64) (by decide +kernel) ?_
        refine z_iload_n X d_R_merge_161 rfl ?_
        refine z_imulN X d_R_merge_162 ?_
        refine z_iload_n X d_R_merge_163 rfl ?_
        refine z_iaddN X d_R_merge_164 ?_
        refine z_iald X r16 0 rfl (j := (64 * j) + (v + 1)) rfl (by omega) (by omega) d_R_merge_165 ?_
        refine z_top (y := .int ((rw_ 64 f16 j) (v + 1))) (by rw [rw_in (by omega), pr_out (Or.inr (by omega))]) ?_
        refine z_aload_n X d_R_merge_166 rfl ?_
        refine z_get X ho rfl in_R 20 (by decide) (wq lf_R_63) rfl d_R_merge_167 ?_
        refine z_bipush X d_R_merge_170 (v := nI 64) (by decide +kernel) ?_
        refine z_iload_n X d_R_merge_172 rfl ?_
        refine z_imulN X d_R_merge_173 ?_
        refine z_iload_n X d_R_merge_174 rfl ?_
        refine z_iaddN X d_R_merge_175 ?_
        refine z_iald X r16 0 rfl (j := (64 * c2) + (v + 1)) rfl (by omega) (by omega) d_R_merge_176 ?_
        refine z_top (y := .int ((rw_ 64 f16 c2) (v + 1))) (by rw [rw_in (by omega), pr_out (Or.inr (by omega))]) ?_
        refine z_iadd X d_R_merge_177 ?_
        refine z_iast X r16 0 rfl (j := 64 * j + 1 + v) (by congr 1; omega) (by omega) (by omega) d_R_merge_178 ?_
        refine z_named (fun k_2 hk9 => ?_)
        have hR := hR.st16 hk9
        have hfr : ∀ q, q < b + 255 → k_2 q = k q := fun q hq => by rw [hk9]; exact (up_ne (by omega)).trans (hfr q hq)
        clear hk9
        have ⟨ho, r0, r1, r2, r3, r4, r5, r6, r7, r8, r9, r10, r11, r12, r13, r14, r15, r16, r17⟩ := hR
        refine z_iincU X d_R_merge_179 rfl (by decide) rfl ?_
        refine z_lv (lv2 := [some (.ref (b + 255)), some (.int (nI j)), some (.int (nI c2)), some (.int (nI (v + 1 + 1))), none, none]) (fun _ _ q => q) ?_
        refine z_goto X d_R_merge_182 (tgt := 139) (by decide) ?_
        exact z_at (ih k_2 ⟨by rw [pr_succ (64 * j + 1) v (fun r => ad (rw_ 64 f16 j) (rw_ 64 f16 c2) (r + 1)) f16 (x := (rw_ 64 f16 j) (v + 1) + (rw_ 64 f16 c2) (v + 1)) rfl] at hR; exact hR, hfr⟩) rfl rfl
    · skip
      refine z_iconst X d_R_merge_79 (v := nI 0) (by decide +kernel) ?_
      refine z_istore_n X d_R_merge_80 (by decide) rfl ?_
      refine z_lv (lv2 := [some (.ref (b + 255)), some (.int (nI j)), some (.int (nI c2)), some (.int (nI 0)), none, none]) (fun _ _ q => q) ?_
      refine z_aload_n X d_R_merge_81 rfl ?_
      refine z_callVv X (c_R_clearUsed hR) ho rfl (cwV 0 X.1.2.2.2.2 (gi_V lm_R_119 vi_R_clearUsed ve_R_clearUsed vn_R vc_R_clearUsed) rfl rfl rfl (by decide +kernel) ⟨Nat.le_of_ble_eq_true rfl, Nat.le_of_ble_eq_true rfl⟩) (As := []) (st := []) rfl rfl (Nat.le_of_ble_eq_true rfl) d_R_merge_82 ⟨Nat.le_of_ble_eq_true rfl, Nat.le_of_ble_eq_true rfl⟩ (fun k2 hq => ?_)
      obtain ⟨hR9, hf9⟩ := hq
      have hR := hR9
      have hfr : ∀ q, q < b + 255 → k2 q = k q := fun q hq => (hf9 q hq).trans (hfr q hq)
      have ⟨ho, r0, r1, r2, r3, r4, r5, r6, r7, r8, r9, r10, r11, r12, r13, r14, r15, r16, r17⟩ := hR
      refine z_iconst X d_R_merge_85 (v := nI 0) (by decide +kernel) ?_
      refine z_istore X d_R_merge_86 (by decide) rfl ?_
      refine z_lv (lv2 := [some (.ref (b + 255)), some (.int (nI j)), some (.int (nI c2)), some (.int (nI 0)), some (.int (nI 0)), none]) (fun _ _ q => q) ?_
      refine z_loop (σ := (Nat → va_E) × Int32) (K := fun _ (q : (Nat → va_E) × Int32) => q.1) (LV := fun v (q : (Nat → va_E) × Int32) => [some (.ref (b + 255)), some (.int (nI j)), some (.int (nI c2)), some (.int q.2), some (.int (nI v)), none]) (I := fun v (q : (Nat → va_E) × Int32) => (RW tI tZ b N q.1 kk dv nc ms f0 f1 f2 f3 f4 f5 f6 f7 f8 f9 f10 f11 f12 f13 (upd f14 j (f14 j + f14 c2)) (pr (32 * j) 32 (ad (rw_ 32 f15 j) (rw_ 32 f15 c2)) f15) f16 (pr 0 32 (fun w9 => nI (cb (pu (ad (rw_ 32 f15 j) (rw_ 32 f15 c2)) v w9))) f17)) ∧ (∀ q2, q2 < b + 255 → q.1 q2 = k q2) ∧ (1 ≤ v → q.2 = (ad (rw_ 32 f15 j) (rw_ 32 f15 c2)) ((gu (pu (ad (rw_ 32 f15 j) (rw_ 32 f15 c2)) (v - 1)) (ad (rw_ 32 f15 j) (rw_ 32 f15 c2)) 32).getD 0))) (kk + 1) 0 (k2, nI 0) (by omega) (⟨hR, hfr, fun q => absurd q (by omega)⟩) (rfl) (rfl) ?_ ?_
      · intro q hI
        obtain ⟨k9, nx⟩ := q
        obtain ⟨hR, hfr, hI⟩ := hI
        try dsimp only at hR hfr hI
        have ⟨ho, r0, r1, r2, r3, r4, r5, r6, r7, r8, r9, r10, r11, r12, r13, r14, r15, r16, r17⟩ := hR
        refine z_k (k2 := k9) (fun _ _ _ => rfl) ?_
        refine z_lv (lv2 := [some (.ref (b + 255)), some (.int (nI j)), some (.int (nI c2)), some (.int nx), some (.int (nI (kk + 1))), none]) (fun _ _ q => q) ?_
        refine z_iload X d_R_merge_88 rfl ?_
        refine z_aload_n X d_R_merge_90 rfl ?_
        refine z_get X ho rfl in_R 0 (by decide) (wq lf_R_69) rfl d_R_merge_91 ?_
        refine z_icmp_gtN X d_R_merge_94 (tgt := 131) (by decide) (by omega) (by omega) (fun _ => ?_) (fun h => absurd h (by omega))
        refine z_aload_n X d_R_merge_131 rfl ?_
        refine z_iload_n X d_R_merge_132 rfl ?_
        refine z_iload_n X d_R_merge_133 rfl ?_
        refine z_callVv X (c_R_lower hR (by omega)) ho rfl (cwV 2 X.1.2.2.2.2 (gi_V lm_R_113 vi_R_lower ve_R_lower vn_R vc_R_lower) rfl rfl rfl (by decide +kernel) ⟨Nat.le_of_ble_eq_true rfl, Nat.le_of_ble_eq_true rfl⟩) (As := [.int (nI j), .int nx]) (st := []) rfl rfl (Nat.le_of_ble_eq_true rfl) d_R_merge_134 ⟨Nat.le_of_ble_eq_true rfl, Nat.le_of_ble_eq_true rfl⟩ (fun k2 hq => ?_)
        obtain ⟨hR9, hf9⟩ := hq
        rw [pr_pr, hrow, show lw (ad (rw_ 32 f15 j) (rw_ 32 f15 c2)) nx = mgC kk (rw_ 32 f15 j) (rw_ 32 f15 c2) by unfold mgC; rw [if_pos (by omega), hI (by omega)]; rfl] at hR9
        have hR := hR9
        have hfr : ∀ q, q < b + 255 → k2 q = k q := fun q hq => (hf9 q hq).trans (hfr q hq)
        have ⟨ho, r0, r1, r2, r3, r4, r5, r6, r7, r8, r9, r10, r11, r12, r13, r14, r15, r16, r17⟩ := hR
        refine z_drop 4 ?_
        refine z_iconst X d_R_merge_137 (v := nI 1) (by decide +kernel) ?_
        refine z_istore_n X d_R_merge_138 (by decide) rfl ?_
        refine z_lv (lv2 := [some (.ref (b + 255)), some (.int (nI j)), some (.int (nI c2)), some (.int (nI 1)), none, none]) (fun _ _ q => q) ?_
        refine z_loop (σ := Nat → va_E) (K := fun _ k9 => k9) (LV := fun v _ => [some (.ref (b + 255)), some (.int (nI j)), some (.int (nI c2)), some (.int (nI (v + 1))), none, none]) (I := fun v k9 => (RW tI tZ b N k9 kk dv nc ms f0 f1 f2 f3 f4 f5 f6 f7 f8 f9 f10 f11 f12 f13 (upd f14 j (f14 j + f14 c2)) (pr (32 * j) 32 (mgC kk (rw_ 32 f15 j) (rw_ 32 f15 c2)) f15) (pr (64 * j + 1) v (fun r => ad (rw_ 64 f16 j) (rw_ 64 f16 c2) (r + 1)) f16) (pr 0 32 (fun w9 => nI (cb (pu (ad (rw_ 32 f15 j) (rw_ 32 f15 c2)) (kk + 1) w9))) f17)) ∧ (∀ q, q < b + 255 → k9 q = k q)) 63 0 k2 (by omega) (⟨by rw [pr_0]; exact hR, hfr⟩) (rfl) (rfl) ?_ ?_
        · intro k9 hI
          obtain ⟨hR, hfr⟩ := hI
          have ⟨ho, r0, r1, r2, r3, r4, r5, r6, r7, r8, r9, r10, r11, r12, r13, r14, r15, r16, r17⟩ := hR
          refine z_lv (lv2 := [some (.ref (b + 255)), some (.int (nI j)), some (.int (nI c2)), some (.int (nI (63 + 1))), none, none]) (fun _ _ q => q) ?_
          refine z_iload_n X d_R_merge_139 rfl ?_
          refine z_bipush X d_R_merge_140 (v := nI 64) (by decide +kernel) ?_
          refine z_icmp_geN X d_R_merge_142 (tgt := 185) (by decide) (by omega) (by omega) (fun _ => ?_) (fun h => absurd h (by omega))
          rw [pr_row1 (g := (rw_ 64 f16 j)) (g2 := (rw_ 64 f16 c2)) rfl h00] at hR
          have ⟨ho, r0, r1, r2, r3, r4, r5, r6, r7, r8, r9, r10, r11, r12, r13, r14, r15, r16, r17⟩ := hR
          refine z_aload_n X d_R_merge_185 rfl ?_
          refine z_iload_n X d_R_merge_186 rfl ?_
          refine z_callVv X (c_R_compress hR (by omega) hd) ho rfl (cwV 1 X.1.2.2.2.2 (gi_V lm_R_116 vi_R_compress ve_R_compress vn_R vc_R_compress) rfl rfl rfl (by decide +kernel) ⟨Nat.le_of_ble_eq_true rfl, Nat.le_of_ble_eq_true rfl⟩) (As := [.int (nI j)]) (st := []) rfl rfl (Nat.le_of_ble_eq_true rfl) d_R_merge_187 ⟨Nat.le_of_ble_eq_true rfl, Nat.le_of_ble_eq_true rfl⟩ (fun k2 hq => ?_)
          obtain ⟨hR9, hf9⟩ := hq
          rw [upd_eq, pr_pr, rw_pr (w := 64) (fun i hi => ad_z (rw_z hi) (rw_z hi))] at hR9
          exact z_vret X d_R_merge_190 (by omega) (by omega) (⟨_, hR9, fun q hq => (hf9 q hq).trans (hfr q hq)⟩)
        · intro v k9 hv hI ih
          obtain ⟨hR, hfr⟩ := hI
          have ⟨ho, r0, r1, r2, r3, r4, r5, r6, r7, r8, r9, r10, r11, r12, r13, r14, r15, r16, r17⟩ := hR
          refine z_lv (lv2 := [some (.ref (b + 255)), some (.int (nI j)), some (.int (nI c2)), some (.int (nI (v + 1))), none, none]) (fun _ _ q => q) ?_
          refine z_iload_n X d_R_merge_139 rfl ?_
          refine z_bipush X d_R_merge_140 (v := nI 64) (by decide +kernel) ?_
          refine z_icmp_geN X d_R_merge_142 (tgt := 185) (by decide) (by omega) (by omega) (fun h => absurd h (by omega)) (fun _ => ?_)
          refine z_aload_n X d_R_merge_145 rfl ?_
          refine z_get X ho rfl in_R 20 (by decide) (wq lf_R_63) rfl d_R_merge_146 ?_
          refine z_bipush X d_R_merge_149 (v := nI 64) (by decide +kernel) ?_
          refine z_iload_n X d_R_merge_151 rfl ?_
          refine z_imulN X d_R_merge_152 ?_
          refine z_iload_n X d_R_merge_153 rfl ?_
          refine z_iaddN X d_R_merge_154 ?_
          refine z_aload_n X d_R_merge_155 rfl ?_
          refine z_get X ho rfl in_R 20 (by decide) (wq lf_R_63) rfl d_R_merge_156 ?_
          refine z_bipush X d_R_merge_159 (v := nI 64) (by decide +kernel) ?_
          refine z_iload_n X d_R_merge_161 rfl ?_
          refine z_imulN X d_R_merge_162 ?_
          refine z_iload_n X d_R_merge_163 rfl ?_
          refine z_iaddN X d_R_merge_164 ?_
          refine z_iald X r16 0 rfl (j := (64 * j) + (v + 1)) rfl (by omega) (by omega) d_R_merge_165 ?_
          refine z_top (y := .int ((rw_ 64 f16 j) (v + 1))) (by rw [rw_in (by omega), pr_out (Or.inr (by omega))]) ?_
          refine z_aload_n X d_R_merge_166 rfl ?_
          refine z_get X ho rfl in_R 20 (by decide) (wq lf_R_63) rfl d_R_merge_167 ?_
          refine z_bipush X d_R_merge_170 (v := nI 64) (by decide +kernel) ?_
          refine z_iload_n X d_R_merge_172 rfl ?_
          refine z_imulN X d_R_merge_173 ?_
          refine z_iload_n X d_R_merge_174 rfl ?_
          refine z_iaddN X d_R_merge_175 ?_
          refine z_iald X r16 0 rfl (j := (64 * c2) + (v + 1)) rfl (by omega) (by omega) d_R_merge_176 ?_
          refine z_top (y := .int ((rw_ 64 f16 c2) (v + 1))) (by rw [rw_in (by omega), pr_out (Or.inr (by omega))]) ?_
          refine z_iadd X d_R_merge_177 ?_
          refine z_iast X r16 0 rfl (j := 64 * j + 1 + v) (by congr 1; omega) (by omega) (by omega) d_R_merge_178 ?_
          refine z_named (fun k_3 hk9 => ?_)
          have hR := hR.st16 hk9
          have hfr : ∀ q, q < b + 255 → k_3 q = k q := fun q hq => by rw [hk9]; exact (up_ne (by omega)).trans (hfr q hq)
          clear hk9
          have ⟨ho, r0, r1, r2, r3, r4, r5, r6, r7, r8, r9, r10, r11, r12, r13, r14, r15, r16, r17⟩ := hR
          refine z_iincU X d_R_merge_179 rfl (by decide) rfl ?_
          refine z_lv (lv2 := [some (.ref (b + 255)), some (.int (nI j)), some (.int (nI c2)), some (.int (nI (v + 1 + 1))), none, none]) (fun _ _ q => q) ?_
          refine z_goto X d_R_merge_182 (tgt := 139) (by decide) ?_
          exact z_at (ih k_3 ⟨by rw [pr_succ (64 * j + 1) v (fun r => ad (rw_ 64 f16 j) (rw_ 64 f16 c2) (r + 1)) f16 (x := (rw_ 64 f16 j) (v + 1) + (rw_ 64 f16 c2) (v + 1)) rfl] at hR; exact hR, hfr⟩) rfl rfl
      · intro v q hv hI ih
        obtain ⟨k9, nx⟩ := q
        obtain ⟨hR, hfr, hI⟩ := hI
        try dsimp only at hR hfr hI
        have ⟨ho, r0, r1, r2, r3, r4, r5, r6, r7, r8, r9, r10, r11, r12, r13, r14, r15, r16, r17⟩ := hR
        refine z_k (k2 := k9) (fun _ _ _ => rfl) ?_
        refine z_lv (lv2 := [some (.ref (b + 255)), some (.int (nI j)), some (.int (nI c2)), some (.int nx), some (.int (nI v)), none]) (fun _ _ q => q) ?_
        refine z_iload X d_R_merge_88 rfl ?_
        refine z_aload_n X d_R_merge_90 rfl ?_
        refine z_get X ho rfl in_R 0 (by decide) (wq lf_R_69) rfl d_R_merge_91 ?_
        refine z_icmp_gtN X d_R_merge_94 (tgt := 131) (by decide) (by omega) (by omega) (fun h => absurd h (by omega)) (fun _ => ?_)
        refine z_aload_n X d_R_merge_97 rfl ?_
        refine z_iload_n X d_R_merge_98 rfl ?_
        obtain ⟨x, hg, hx, -, -⟩ := pick (ad (rw_ 32 f15 j) (rw_ 32 f15 c2)) (q := v) (by omega)
        refine z_callVi X (c_R_greatestUnused hR (u := pu (ad (rw_ 32 f15 j) (rw_ 32 f15 c2)) v) (by omega) (fun v2 hv2 => pr_i0 hv2)) ho rfl (cwV 1 X.1.2.2.2.2 (gi_V lm_R_122 vi_R_greatestUnused ve_R_greatestUnused vn_R vc_R_greatestUnused) rfl rfl rfl (by decide +kernel) ⟨Nat.le_of_ble_eq_true rfl, Nat.le_of_ble_eq_true rfl⟩) (As := [.int (nI j)]) (st := []) rfl rfl (Nat.le_of_ble_eq_true rfl) d_R_merge_99 ⟨Nat.le_of_ble_eq_true rfl, Nat.le_of_ble_eq_true rfl⟩ (fun z k2 hq => ?_)
        rw [hrow, hg] at hq
        obtain ⟨rfl, hk9⟩ := hq
        have hk9 := hk9.symm
        subst hk9
        refine z_top (y := .int (nI x)) rfl ?_
        refine z_istore X d_R_merge_102 (by decide) rfl ?_
        refine z_lv (lv2 := [some (.ref (b + 255)), some (.int (nI j)), some (.int (nI c2)), some (.int nx), some (.int (nI v)), some (.int (nI x))]) (fun _ _ q => q) ?_
        refine z_aload_n X d_R_merge_104 rfl ?_
        refine z_get X ho rfl in_R 21 (by decide) (wq lf_R_66) rfl d_R_merge_105 ?_
        refine z_iload X d_R_merge_108 rfl ?_
        refine z_iconst X d_R_merge_110 (v := nI 1) (by decide +kernel) ?_
        refine z_zast X r17 1 rfl (j := x) rfl (by omega) (by omega) d_R_merge_111 ?_
        refine z_named (fun k_4 hk9 => ?_)
        have hR := hR.st17 hk9
        rw [show (upd (pr 0 32 (fun w9 => nI (cb (pu (ad (rw_ 32 f15 j) (rw_ 32 f15 c2)) v w9))) f17) x (vp_nar .boolean (nI 1))) = pr 0 32 (fun w9 => nI (cb (pu (ad (rw_ 32 f15 j) (rw_ 32 f15 c2)) (v + 1) w9))) f17 from us_succ hx hg] at hR
        have hfr : ∀ q, q < b + 255 → k_4 q = k q := fun q hq => by rw [hk9]; exact (up_ne (by omega)).trans (hfr q hq)
        clear hk9
        have ⟨ho, r0, r1, r2, r3, r4, r5, r6, r7, r8, r9, r10, r11, r12, r13, r14, r15, r16, r17⟩ := hR
        refine z_aload_n X d_R_merge_112 rfl ?_
        refine z_get X ho rfl in_R 19 (by decide) (wq lf_R_60) rfl d_R_merge_113 ?_
        refine z_bipush X d_R_merge_116 (v := nI 32) (by decide +kernel) ?_
        refine z_iload_n X d_R_merge_118 rfl ?_
        refine z_imulN X d_R_merge_119 ?_
        refine z_iload X d_R_merge_120 rfl ?_
        refine z_iaddN X d_R_merge_122 ?_
        refine z_iald X r15 0 rfl (j := (32 * j) + x) rfl (by omega) (by omega) d_R_merge_123 ?_
        refine z_top (y := .int ((ad (rw_ 32 f15 j) (rw_ 32 f15 c2)) x)) (by rw [pr_in hx]) ?_
        refine z_istore_n X d_R_merge_124 (by decide) rfl ?_
        refine z_lv (lv2 := [some (.ref (b + 255)), some (.int (nI j)), some (.int (nI c2)), some (.int ((ad (rw_ 32 f15 j) (rw_ 32 f15 c2)) x)), some (.int (nI v)), some (.int (nI x))]) (fun _ _ q => q) ?_
        refine z_iincU X d_R_merge_125 rfl (by decide) rfl ?_
        refine z_lv (lv2 := [some (.ref (b + 255)), some (.int (nI j)), some (.int (nI c2)), some (.int ((ad (rw_ 32 f15 j) (rw_ 32 f15 c2)) x)), some (.int (nI (v + 1))), some (.int (nI x))]) (fun _ _ q => q) ?_
        refine z_goto X d_R_merge_128 (tgt := 88) (by decide) ?_
        refine z_drop 5 ?_
        exact z_at (ih (k_4, (ad (rw_ 32 f15 j) (rw_ 32 f15 c2)) x) ⟨hR, hfr, fun _ => by show (ad (rw_ 32 f15 j) (rw_ 32 f15 c2)) x = _; rw [Nat.add_sub_cancel, hg]; rfl⟩) rfl rfl
  · intro v k9 hv hI ih
    obtain ⟨hR, hfr⟩ := hI
    have ⟨ho, r0, r1, r2, r3, r4, r5, r6, r7, r8, r9, r10, r11, r12, r13, r14, r15, r16, r17⟩ := hR
    refine z_lv (lv2 := [some (.ref (b + 255)), some (.int (nI j)), some (.int (nI c2)), some (.int (nI v)), none, none]) (fun _ _ q => q) ?_
    refine z_iload_n X d_R_merge_21 rfl ?_
    refine z_bipush X d_R_merge_22 (v := nI 32) (by decide +kernel) ?_
    refine z_icmp_geN X d_R_merge_24 (tgt := 67) (by decide) (by omega) (by omega) (fun h => absurd h (by omega)) (fun _ => ?_)
    refine z_aload_n X d_R_merge_27 rfl ?_
    refine z_get X ho rfl in_R 19 (by decide) (wq lf_R_60) rfl d_R_merge_28 ?_
    refine z_bipush X d_R_merge_31 (v := nI 32) (by decide +kernel) ?_
    refine z_iload_n X d_R_merge_33 rfl ?_
    refine z_imulN X d_R_merge_34 ?_
    refine z_iload_n X d_R_merge_35 rfl ?_
    refine z_iaddN X d_R_merge_36 ?_
    refine z_aload_n X d_R_merge_37 rfl ?_
    refine z_get X ho rfl in_R 19 (by decide) (wq lf_R_60) rfl d_R_merge_38 ?_
    refine z_bipush X d_R_merge_41 (v := nI 32) (by decide +kernel) ?_
    refine z_iload_n X d_R_merge_43 rfl ?_
    refine z_imulN X d_R_merge_44 ?_
    refine z_iload_n X d_R_merge_45 rfl ?_
    refine z_iaddN X d_R_merge_46 ?_
    refine z_iald X r15 0 rfl (j := (32 * j) + v) rfl (by omega) (by omega) d_R_merge_47 ?_
    refine z_top (y := .int ((rw_ 32 f15 j) v)) (by rw [rw_in hv, pr_out (Or.inr (by omega))]) ?_
    refine z_aload_n X d_R_merge_48 rfl ?_
    refine z_get X ho rfl in_R 19 (by decide) (wq lf_R_60) rfl d_R_merge_49 ?_
    refine z_bipush X d_R_merge_52 (v := nI 32) (by decide +kernel) ?_
    refine z_iload_n X d_R_merge_54 rfl ?_
    refine z_imulN X d_R_merge_55 ?_
    refine z_iload_n X d_R_merge_56 rfl ?_
    refine z_iaddN X d_R_merge_57 ?_
    refine z_iald X r15 0 rfl (j := (32 * c2) + v) rfl (by omega) (by omega) d_R_merge_58 ?_
    refine z_top (y := .int ((rw_ 32 f15 c2) v)) (by rw [rw_in hv, pr_out (Or.inr (by omega))]) ?_
    refine z_iadd X d_R_merge_59 ?_
    refine z_iast X r15 0 rfl (j := (32 * j) + v) rfl (by omega) (by omega) d_R_merge_60 ?_
    refine z_named (fun k_5 hk9 => ?_)
    have hR := hR.st15 hk9
    have hfr : ∀ q, q < b + 255 → k_5 q = k q := fun q hq => by rw [hk9]; exact (up_ne (by omega)).trans (hfr q hq)
    clear hk9
    have ⟨ho, r0, r1, r2, r3, r4, r5, r6, r7, r8, r9, r10, r11, r12, r13, r14, r15, r16, r17⟩ := hR
    refine z_iincU X d_R_merge_61 rfl (by decide) rfl ?_
    refine z_lv (lv2 := [some (.ref (b + 255)), some (.int (nI j)), some (.int (nI c2)), some (.int (nI (v + 1))), none, none]) (fun _ _ q => q) ?_
    refine z_goto X d_R_merge_64 (tgt := 21) (by decide) ?_
    exact z_at (ih k_5 ⟨by rw [pr_succ (32 * j) v (ad (rw_ 32 f15 j) (rw_ 32 f15 c2)) f15 (x := (rw_ 32 f15 j) v + (rw_ 32 f15 c2) v) rfl] at hR; exact hR, hfr⟩) rfl rfl
set_option maxHeartbeats 4000000 in
set_option maxRecDepth 100000 in
/-- R_know -/
theorem c_R_know {kk nc : Nat} {dv ms : Int32} {f0 f1 f2 f3 f4 f5 f6 f7 f8 f9 f10 f11 f12 f13 f14 f15 f16 f17 : Nat → Int32} {j : Nat} (hR : RW tI tZ b N k kk dv nc ms f0 f1 f2 f3 f4 f5 f6 f7 f8 f9 f10 f11 f12 f13 f14 f15 f16 f17) (hj : j < 12) (hnc : nc ≤ 12) (hn1 : 1 ≤ nc)  : Met l y_R_know (wy y_R_know b_R_know 4 none) (rm 0 0 0) (zPc D (tyl tI tZ tN tM) b N k [.ref (b + 255), .int (nI j)]) (zQv D b N (fun k2 => RW tI tZ b N k2 kk dv nc ms f0 f1 f2 f3 f4 f5 f6 f7 f8 f9 f10 f11 f12 (knw f0 f1 f4 f7 f8 f13 nc j) f14 f15 f16 f17 ∧ ∀ q, q < b + 255 → k2 q = k q)) 0 0 (zA b) := by
  refine z_met (own := R_R) (by decide) rfl rfl (Nat.le_of_ble_eq_true rfl) [some (.ref (b + 255)), some (.int (nI j)), none, none] rfl ?_
  intro p e s m args below meth c X hin
  have ⟨ho, r0, r1, r2, r3, r4, r5, r6, r7, r8, r9, r10, r11, r12, r13, r14, r15, r16, r17⟩ := hR
  have hfr : ∀ q, q < b + 255 → k q = k q := fun _ _ => rfl
  refine z_iconst X d_R_know_0 (v := nI 0) (by decide +kernel) ?_
  refine z_istore_n X d_R_know_1 (by decide) rfl ?_
  refine z_lv (lv2 := [some (.ref (b + 255)), some (.int (nI j)), some (.int (nI 0)), none]) (fun _ _ q => q) ?_
  refine z_loop (σ := Nat → va_E) (K := fun _ k9 => k9) (LV := fun v _ => [some (.ref (b + 255)), some (.int (nI j)), some (.int (nI v)), none]) (I := fun v k9 => (RW tI tZ b N k9 kk dv nc ms f0 f1 f2 f3 f4 f5 f6 f7 f8 f9 f10 f11 f12 (pr 0 v (fun _ => 0) f13) f14 f15 f16 f17) ∧ (∀ q, q < b + 255 → k9 q = k q)) 12 0 k (by omega) (⟨by rw [pr_0]; exact hR, hfr⟩) (rfl) (rfl) ?_ ?_
  · intro k9 hI
    obtain ⟨hR, hfr⟩ := hI
    have ⟨ho, r0, r1, r2, r3, r4, r5, r6, r7, r8, r9, r10, r11, r12, r13, r14, r15, r16, r17⟩ := hR
    refine z_lv (lv2 := [some (.ref (b + 255)), some (.int (nI j)), some (.int (nI 12)), none]) (fun _ _ q => q) ?_
    refine z_iload_n X d_R_know_2 rfl ?_
    refine z_bipush X d_R_know_3 (v := nI 12) (by decide +kernel) ?_
    refine z_icmp_geN X d_R_know_5 (tgt := 21) (by decide) (by omega) (by omega) (fun _ => ?_) (fun h => absurd h (by omega))
    refine z_aload_n X d_R_know_21 rfl ?_
    refine z_get X ho rfl in_R 4 (by decide) (wq lf_R_17) rfl d_R_know_22 ?_
    refine z_iload_n X d_R_know_25 rfl ?_
    refine z_zald X r1 1 rfl (j := j) rfl (by omega) (by omega) d_R_know_26 ?_
    refine z_if_eq X d_R_know_27 (tgt := 43) (by decide) (fun hA => ?_) (fun hA => ?_)
    · skip
      refine z_iconst X d_R_know_43 (v := nI 1) (by decide +kernel) ?_
      refine z_istore_n X d_R_know_44 (by decide) rfl ?_
      refine z_lv (lv2 := [some (.ref (b + 255)), some (.int (nI j)), some (.int (nI 1)), none]) (fun _ _ q => q) ?_
      refine z_loop (σ := Nat → va_E) (K := fun _ k9 => k9) (LV := fun v _ => [some (.ref (b + 255)), some (.int (nI j)), some (.int (nI (v + 1))), none]) (I := fun v k9 => (RW tI tZ b N k9 kk dv nc ms f0 f1 f2 f3 f4 f5 f6 f7 f8 f9 f10 f11 f12 (kac f0 f7 f8 (nI j) (pr 0 12 (fun _ => 0) f13) v) f14 f15 f16 f17) ∧ (∀ q, q < b + 255 → k9 q = k q)) (nc - 1) 0 k9 (by omega) (⟨hR, hfr⟩) (rfl) (rfl) ?_ ?_
      · intro k9 hI
        obtain ⟨hR, hfr⟩ := hI
        have ⟨ho, r0, r1, r2, r3, r4, r5, r6, r7, r8, r9, r10, r11, r12, r13, r14, r15, r16, r17⟩ := hR
        refine z_lv (lv2 := [some (.ref (b + 255)), some (.int (nI j)), some (.int (nI (nc - 1 + 1))), none]) (fun _ _ q => q) ?_
        refine z_iload_n X d_R_know_45 rfl ?_
        refine z_aload_n X d_R_know_46 rfl ?_
        refine z_get X ho rfl in_R 2 (by decide) (wq lf_R_7) rfl d_R_know_47 ?_
        refine z_icmp_geN X d_R_know_50 (tgt := 116) (by decide) (by omega) (by omega) (fun _ => ?_) (fun h => absurd h (by omega))
        exact z_vret X d_R_know_116 (by omega) (by omega) (⟨by unfold knw; rw [if_pos hA]; exact hR, hfr⟩)
      · intro v k9 hv hI ih
        obtain ⟨hR, hfr⟩ := hI
        have ⟨ho, r0, r1, r2, r3, r4, r5, r6, r7, r8, r9, r10, r11, r12, r13, r14, r15, r16, r17⟩ := hR
        refine z_lv (lv2 := [some (.ref (b + 255)), some (.int (nI j)), some (.int (nI (v + 1))), none]) (fun _ _ q => q) ?_
        refine z_iload_n X d_R_know_45 rfl ?_
        refine z_aload_n X d_R_know_46 rfl ?_
        refine z_get X ho rfl in_R 2 (by decide) (wq lf_R_7) rfl d_R_know_47 ?_
        refine z_icmp_geN X d_R_know_50 (tgt := 116) (by decide) (by omega) (by omega) (fun h => absurd h (by omega)) (fun _ => ?_)
        refine z_aload_n X d_R_know_53 rfl ?_
        refine z_get X ho rfl in_R 3 (by decide) (wq lf_R_13) rfl d_R_know_54 ?_
        refine z_iload_n X d_R_know_57 rfl ?_
        refine z_iald X r0 0 rfl (j := v + 1) rfl (by omega) (by omega) d_R_know_58 ?_
        refine z_iload_n X d_R_know_59 rfl ?_
        refine z_icmp_ne X d_R_know_60 (tgt := 110) (by decide) (fun hB => ?_) (fun hB => ?_)
        · skip
          refine z_iincU X d_R_know_110 rfl (by decide) rfl ?_
          refine z_lv (lv2 := [some (.ref (b + 255)), some (.int (nI j)), some (.int (nI (v + 1 + 1))), none]) (fun _ _ q => q) ?_
          refine z_goto X d_R_know_113 (tgt := 45) (by decide) ?_
          exact z_at (ih k9 ⟨by simp only [kac]; rw [if_neg (fun q => hB q.1)]; exact hR, hfr⟩) rfl rfl
        · skip
          refine z_aload_n X d_R_know_63 rfl ?_
          refine z_get X ho rfl in_R 10 (by decide) (wq lf_R_36) rfl d_R_know_64 ?_
          refine z_iload_n X d_R_know_67 rfl ?_
          refine z_iald X r7 0 rfl (j := v + 1) rfl (by omega) (by omega) d_R_know_68 ?_
          refine z_if_le X d_R_know_69 (tgt := 110) (by decide) (fun hD => ?_) (fun hD => ?_)
          · skip
            refine z_iincU X d_R_know_110 rfl (by decide) rfl ?_
            refine z_lv (lv2 := [some (.ref (b + 255)), some (.int (nI j)), some (.int (nI (v + 1 + 1))), none]) (fun _ _ q => q) ?_
            refine z_goto X d_R_know_113 (tgt := 45) (by decide) ?_
            exact z_at (ih k9 ⟨by simp only [kac]; rw [if_neg (fun q => i32_le_n hD q.2)]; exact hR, hfr⟩) rfl rfl
          · skip
            refine z_iconst X d_R_know_72 (v := nI 0) (by decide +kernel) ?_
            refine z_istore_n X d_R_know_73 (by decide) rfl ?_
            refine z_lv (lv2 := [some (.ref (b + 255)), some (.int (nI j)), some (.int (nI (v + 1))), some (.int (nI 0))]) (fun _ _ q => q) ?_
            refine z_loop (σ := Nat → va_E) (K := fun _ k8 => k8) (LV := fun x _ => [some (.ref (b + 255)), some (.int (nI j)), some (.int (nI (v + 1))), some (.int (nI x))]) (I := fun x k8 => (RW tI tZ b N k8 kk dv nc ms f0 f1 f2 f3 f4 f5 f6 f7 f8 f9 f10 f11 f12 (pr 0 x (fun l => kac f0 f7 f8 (nI j) (pr 0 12 (fun _ => 0) f13) v l + f8 (12 * (v + 1) + l)) (kac f0 f7 f8 (nI j) (pr 0 12 (fun _ => 0) f13) v)) f14 f15 f16 f17) ∧ (∀ q, q < b + 255 → k8 q = k q)) 12 0 k9 (by omega) (⟨by rw [pr_0]; exact hR, hfr⟩) (rfl) (rfl) ?_ ?_
            · intro k8 hI2
              obtain ⟨hR, hfr⟩ := hI2
              have ⟨ho, r0, r1, r2, r3, r4, r5, r6, r7, r8, r9, r10, r11, r12, r13, r14, r15, r16, r17⟩ := hR
              refine z_lv (lv2 := [some (.ref (b + 255)), some (.int (nI j)), some (.int (nI (v + 1))), some (.int (nI 12))]) (fun _ _ q => q) ?_
              refine z_iload_n X d_R_know_74 rfl ?_
              refine z_bipush X d_R_know_75 (v := nI 12) (by decide +kernel) ?_
              refine z_icmp_geN X d_R_know_77 (tgt := 110) (by decide) (by omega) (by omega) (fun _ => ?_) (fun h => absurd h (by omega))
              refine z_iincU X d_R_know_110 rfl (by decide) rfl ?_
              refine z_lv (lv2 := [some (.ref (b + 255)), some (.int (nI j)), some (.int (nI (v + 1 + 1))), some (.int (nI 12))]) (fun _ _ q => q) ?_
              refine z_goto X d_R_know_113 (tgt := 45) (by decide) ?_
              refine z_drop 3 ?_
              exact z_at (ih k8 ⟨by simp only [kac]; rw [if_pos ⟨hB, i32_nle hD⟩]; exact hR, hfr⟩) rfl rfl
            · intro x k8 hx hI2 ih2
              obtain ⟨hR, hfr⟩ := hI2
              have ⟨ho, r0, r1, r2, r3, r4, r5, r6, r7, r8, r9, r10, r11, r12, r13, r14, r15, r16, r17⟩ := hR
              refine z_lv (lv2 := [some (.ref (b + 255)), some (.int (nI j)), some (.int (nI (v + 1))), some (.int (nI x))]) (fun _ _ q => q) ?_
              refine z_iload_n X d_R_know_74 rfl ?_
              refine z_bipush X d_R_know_75 (v := nI 12) (by decide +kernel) ?_
              refine z_icmp_geN X d_R_know_77 (tgt := 110) (by decide) (by omega) (by omega) (fun h => absurd h (by omega)) (fun _ => ?_)
              refine z_aload_n X d_R_know_80 rfl ?_
              refine z_get X ho rfl in_R 17 (by decide) (wq lf_R_54) rfl d_R_know_81 ?_
              refine z_iload_n X d_R_know_84 rfl ?_
              refine z_aload_n X d_R_know_85 rfl ?_
              refine z_get X ho rfl in_R 17 (by decide) (wq lf_R_54) rfl d_R_know_86 ?_
              refine z_iload_n X d_R_know_89 rfl ?_
              refine z_iald X r13 0 rfl (j := x) rfl (by omega) (by omega) d_R_know_90 ?_
              refine z_top (y := .int (kac f0 f7 f8 (nI j) (pr 0 12 (fun _ => 0) f13) v x)) (by rw [pr_out (Or.inr (by omega))]) ?_
              refine z_aload_n X d_R_know_91 rfl ?_
              refine z_get X ho rfl in_R 11 (by decide) (wq lf_R_39) rfl d_R_know_92 ?_
              refine z_bipush X d_R_know_95 (v := nI 12) (by decide +kernel) ?_
              refine z_iload_n X d_R_know_97 rfl ?_
              refine z_imulN X d_R_know_98 ?_
              refine z_iload_n X d_R_know_99 rfl ?_
              refine z_iaddN X d_R_know_100 ?_
              refine z_iald X r8 0 rfl (j := (12 * (v + 1)) + x) rfl (by omega) (by omega) d_R_know_101 ?_
              refine z_iadd X d_R_know_102 ?_
              refine z_iast X r13 0 rfl (j := x) rfl (by omega) (by omega) d_R_know_103 ?_
              refine z_named (fun k_1 hk9 => ?_)
              have hR := hR.st13 hk9
              have hfr : ∀ q, q < b + 255 → k_1 q = k q := fun q hq => by rw [hk9]; exact (up_ne (by omega)).trans (hfr q hq)
              clear hk9
              have ⟨ho, r0, r1, r2, r3, r4, r5, r6, r7, r8, r9, r10, r11, r12, r13, r14, r15, r16, r17⟩ := hR
              refine z_iincU X d_R_know_104 rfl (by decide) rfl ?_
              refine z_lv (lv2 := [some (.ref (b + 255)), some (.int (nI j)), some (.int (nI (v + 1))), some (.int (nI (x + 1)))]) (fun _ _ q => q) ?_
              refine z_goto X d_R_know_107 (tgt := 74) (by decide) ?_
              exact z_at (ih2 k_1 ⟨by rw [pr_s0 x (fun l => kac f0 f7 f8 (nI j) (pr 0 12 (fun _ => 0) f13) v l + f8 (12 * (v + 1) + l)) _ (x := kac f0 f7 f8 (nI j) (pr 0 12 (fun _ => 0) f13) v x + f8 (12 * (v + 1) + x)) rfl] at hR; exact hR, hfr⟩) rfl rfl
    · skip
      refine z_aload_n X d_R_know_30 rfl ?_
      refine z_get X ho rfl in_R 17 (by decide) (wq lf_R_54) rfl d_R_know_31 ?_
      refine z_iload_n X d_R_know_34 rfl ?_
      refine z_aload_n X d_R_know_35 rfl ?_
      refine z_get X ho rfl in_R 7 (by decide) (wq lf_R_27) rfl d_R_know_36 ?_
      refine z_iload_n X d_R_know_39 rfl ?_
      refine z_iald X r4 0 rfl (j := j) rfl (by omega) (by omega) d_R_know_40 ?_
      refine z_iast X r13 0 rfl (j := j) rfl (by omega) (by omega) d_R_know_41 ?_
      refine z_named (fun k_2 hk9 => ?_)
      have hR := hR.st13 hk9
      have hfr : ∀ q, q < b + 255 → k_2 q = k q := fun q hq => by rw [hk9]; exact (up_ne (by omega)).trans (hfr q hq)
      clear hk9
      have ⟨ho, r0, r1, r2, r3, r4, r5, r6, r7, r8, r9, r10, r11, r12, r13, r14, r15, r16, r17⟩ := hR
      exact z_vret X d_R_know_42 (by omega) (by omega) (⟨by unfold knw; rw [if_neg hA]; exact hR, hfr⟩)
  · intro v k9 hv hI ih
    obtain ⟨hR, hfr⟩ := hI
    have ⟨ho, r0, r1, r2, r3, r4, r5, r6, r7, r8, r9, r10, r11, r12, r13, r14, r15, r16, r17⟩ := hR
    refine z_lv (lv2 := [some (.ref (b + 255)), some (.int (nI j)), some (.int (nI v)), none]) (fun _ _ q => q) ?_
    refine z_iload_n X d_R_know_2 rfl ?_
    refine z_bipush X d_R_know_3 (v := nI 12) (by decide +kernel) ?_
    refine z_icmp_geN X d_R_know_5 (tgt := 21) (by decide) (by omega) (by omega) (fun h => absurd h (by omega)) (fun _ => ?_)
    refine z_aload_n X d_R_know_8 rfl ?_
    refine z_get X ho rfl in_R 17 (by decide) (wq lf_R_54) rfl d_R_know_9 ?_
    refine z_iload_n X d_R_know_12 rfl ?_
    refine z_iconst X d_R_know_13 (v := nI 0) (by decide +kernel) ?_
    refine z_iast X r13 0 rfl (j := v) rfl (by omega) (by omega) d_R_know_14 ?_
    refine z_named (fun k_3 hk9 => ?_)
    have hR := hR.st13 hk9
    have hfr : ∀ q, q < b + 255 → k_3 q = k q := fun q hq => by rw [hk9]; exact (up_ne (by omega)).trans (hfr q hq)
    clear hk9
    have ⟨ho, r0, r1, r2, r3, r4, r5, r6, r7, r8, r9, r10, r11, r12, r13, r14, r15, r16, r17⟩ := hR
    refine z_iincU X d_R_know_15 rfl (by decide) rfl ?_
    refine z_lv (lv2 := [some (.ref (b + 255)), some (.int (nI j)), some (.int (nI (v + 1))), none]) (fun _ _ q => q) ?_
    refine z_goto X d_R_know_18 (tgt := 2) (by decide) ?_
    exact z_at (ih k_3 ⟨by rw [pr_s0 v _ f13 nI_0] at hR; exact hR, hfr⟩) rfl rfl
end
end
