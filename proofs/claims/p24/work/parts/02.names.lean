-- ===== PART A: goes FIRST, ahead of the names: the tables' words, and 'selects' of the private methods out of them =====
/-- a private method of a class that the tables say can be made, by its rows of tables_1 -/
def lw_okq (q : MethodName × Nat) : Prop := (q.1.cls ≠ "java/lang/invoke/MethodHandle" ∧ q.1.cls ≠ "java/lang/invoke/VarHandle") ∧ Cond.instantiable q.1.cls q.2 ∈ tables_1 ∧ Cond.privateMethod q.1 ∈ tables_1 ∧ Cond.instanceMethod q.1 ∈ tables_1
theorem lw_p0 : lw_okq (⟨"java/lang/Throwable", "fillInStackTrace", "(I)Ljava/lang/Throwable;"⟩, 6) := ⟨⟨by decide +kernel, by decide +kernel⟩, List.mem_of_getElem? (i := 139) (by decide +kernel), List.mem_of_getElem? (i := 137) (by decide +kernel), List.mem_of_getElem? (i := 138) (by decide +kernel)⟩
theorem lw_p1 : lw_okq (⟨"PlantServer", "putInTurn", "(LPlantServer$Subscription;I)V"⟩, 9) := ⟨⟨by decide +kernel, by decide +kernel⟩, List.mem_of_getElem? (i := 17) (by decide +kernel), List.mem_of_getElem? (i := 256) (by decide +kernel), List.mem_of_getElem? (i := 257) (by decide +kernel)⟩
theorem lw_p2 : lw_okq (⟨"PlantServer", "openSubscription", "(I)LPlantServer$Subscription;"⟩, 9) := ⟨⟨by decide +kernel, by decide +kernel⟩, List.mem_of_getElem? (i := 17) (by decide +kernel), List.mem_of_getElem? (i := 275) (by decide +kernel), List.mem_of_getElem? (i := 276) (by decide +kernel)⟩
theorem lw_p3 : lw_okq (⟨"PlantServer$Item", "enqueue", "(I)V"⟩, 12) := ⟨⟨by decide +kernel, by decide +kernel⟩, List.mem_of_getElem? (i := 307) (by decide +kernel), List.mem_of_getElem? (i := 403) (by decide +kernel), List.mem_of_getElem? (i := 404) (by decide +kernel)⟩
theorem lw_p4 : lw_okq (⟨"PlantServer$Queue", "append", "(IZ)V"⟩, 5) := ⟨⟨by decide +kernel, by decide +kernel⟩, List.mem_of_getElem? (i := 309) (by decide +kernel), List.mem_of_getElem? (i := 411) (by decide +kernel), List.mem_of_getElem? (i := 412) (by decide +kernel)⟩
theorem lw_p5 : lw_okq (⟨"PlantServer", "liveItem", "(I)LPlantServer$Item;"⟩, 9) := ⟨⟨by decide +kernel, by decide +kernel⟩, List.mem_of_getElem? (i := 17) (by decide +kernel), List.mem_of_getElem? (i := 426) (by decide +kernel), List.mem_of_getElem? (i := 427) (by decide +kernel)⟩
theorem lw_p6 : lw_okq (⟨"PlantServer", "sampleItems", "()V"⟩, 9) := ⟨⟨by decide +kernel, by decide +kernel⟩, List.mem_of_getElem? (i := 17) (by decide +kernel), List.mem_of_getElem? (i := 508) (by decide +kernel), List.mem_of_getElem? (i := 509) (by decide +kernel)⟩
theorem lw_p7 : lw_okq (⟨"PlantServer", "publishSubscriptions", "()I"⟩, 9) := ⟨⟨by decide +kernel, by decide +kernel⟩, List.mem_of_getElem? (i := 17) (by decide +kernel), List.mem_of_getElem? (i := 527) (by decide +kernel), List.mem_of_getElem? (i := 528) (by decide +kernel)⟩
theorem lw_p8 : lw_okq (⟨"PlantServer", "publishes", "(LPlantServer$Subscription;)Z"⟩, 9) := ⟨⟨by decide +kernel, by decide +kernel⟩, List.mem_of_getElem? (i := 17) (by decide +kernel), List.mem_of_getElem? (i := 531) (by decide +kernel), List.mem_of_getElem? (i := 532) (by decide +kernel)⟩
theorem lw_p9 : lw_okq (⟨"PlantServer$Subscription", "fillMessage", "(I)V"⟩, 14) := ⟨⟨by decide +kernel, by decide +kernel⟩, List.mem_of_getElem? (i := 184) (by decide +kernel), List.mem_of_getElem? (i := 551) (by decide +kernel), List.mem_of_getElem? (i := 552) (by decide +kernel)⟩
theorem lw_p10 : lw_okq (⟨"PlantServer$Subscription", "nextMessage", "()LPlantServer$Message;"⟩, 14) := ⟨⟨by decide +kernel, by decide +kernel⟩, List.mem_of_getElem? (i := 184) (by decide +kernel), List.mem_of_getElem? (i := 555) (by decide +kernel), List.mem_of_getElem? (i := 556) (by decide +kernel)⟩
theorem lw_p11 : lw_okq (⟨"PlantServer", "messageWith", "(III)LPlantServer$Message;"⟩, 9) := ⟨⟨by decide +kernel, by decide +kernel⟩, List.mem_of_getElem? (i := 17) (by decide +kernel), List.mem_of_getElem? (i := 646) (by decide +kernel), List.mem_of_getElem? (i := 647) (by decide +kernel)⟩
theorem lw_p12 : lw_okq (⟨"PlantServer$History", "valueBefore", "(II)I"⟩, 4) := ⟨⟨by decide +kernel, by decide +kernel⟩, List.mem_of_getElem? (i := 29) (by decide +kernel), List.mem_of_getElem? (i := 696) (by decide +kernel), List.mem_of_getElem? (i := 697) (by decide +kernel)⟩
theorem lw_p13 : lw_okq (⟨"PlantServer$History", "isSampled", "(LPlantServer$Item;II)Z"⟩, 4) := ⟨⟨by decide +kernel, by decide +kernel⟩, List.mem_of_getElem? (i := 29) (by decide +kernel), List.mem_of_getElem? (i := 700) (by decide +kernel), List.mem_of_getElem? (i := 701) (by decide +kernel)⟩
def lw_privs_1 : List (MethodName × Nat) := [(⟨"java/lang/Throwable", "fillInStackTrace", "(I)Ljava/lang/Throwable;"⟩, 6), (⟨"PlantServer", "putInTurn", "(LPlantServer$Subscription;I)V"⟩, 9), (⟨"PlantServer", "openSubscription", "(I)LPlantServer$Subscription;"⟩, 9), (⟨"PlantServer$Item", "enqueue", "(I)V"⟩, 12), (⟨"PlantServer$Queue", "append", "(IZ)V"⟩, 5), (⟨"PlantServer", "liveItem", "(I)LPlantServer$Item;"⟩, 9), (⟨"PlantServer", "sampleItems", "()V"⟩, 9), (⟨"PlantServer", "publishSubscriptions", "()I"⟩, 9), (⟨"PlantServer", "publishes", "(LPlantServer$Subscription;)Z"⟩, 9), (⟨"PlantServer$Subscription", "fillMessage", "(I)V"⟩, 14), (⟨"PlantServer$Subscription", "nextMessage", "()LPlantServer$Message;"⟩, 14), (⟨"PlantServer", "messageWith", "(III)LPlantServer$Message;"⟩, 9), (⟨"PlantServer$History", "valueBefore", "(II)I"⟩, 4), (⟨"PlantServer$History", "isSampled", "(LPlantServer$Item;II)Z"⟩, 4)]
theorem lw_r1 : ∀ q ∈ lw_privs_1, lw_okq q := List.forall_mem_cons.mpr ⟨lw_p0, List.forall_mem_cons.mpr ⟨lw_p1, List.forall_mem_cons.mpr ⟨lw_p2, List.forall_mem_cons.mpr ⟨lw_p3, List.forall_mem_cons.mpr ⟨lw_p4, List.forall_mem_cons.mpr ⟨lw_p5, List.forall_mem_cons.mpr ⟨lw_p6, List.forall_mem_cons.mpr ⟨lw_p7, List.forall_mem_cons.mpr ⟨lw_p8, List.forall_mem_cons.mpr ⟨lw_p9, List.forall_mem_cons.mpr ⟨lw_p10, List.forall_mem_cons.mpr ⟨lw_p11, List.forall_mem_cons.mpr ⟨lw_p12, List.forall_mem_cons.mpr ⟨lw_p13, fun _ h => absurd h List.not_mem_nil⟩⟩⟩⟩⟩⟩⟩⟩⟩⟩⟩⟩⟩⟩
def lw_privs : List (MethodName × Nat) := lw_privs_1
def lw_tbl : List Cond := k2_sels lw_privs ++ tables_1
theorem lw_privs_ok : ∀ q ∈ lw_privs, lw_okq q := lw_r1

def RX0 : String := "PlantServer$History"
def TX0 : u_T := fun k => match k with
  | 0 => ("PlantServer$History", "ticks", "[I", true)
  | 1 => ("PlantServer$History", "nodes", "[I", true)
  | 2 => ("PlantServer$History", "values", "[I", true)
  | _ => ("PlantServer$History", "count", "I", false)
def tyX0 : Nat → FieldType := fun k => match k with
  | 0 => .array .int
  | 1 => .array .int
  | 2 => .array .int
  | _ => .int
abbrev wsX00 : List Cond := u_ws RX0 TX0 4
theorem nmX0 : ∀ a, a < 4 → ∀ b, b < 4 → a ≠ b → (TX0 a).2.1 ≠ (TX0 b).2.1 := by decide +kernel
theorem tyX0_ok : ∀ k, k < 4 → parseFieldDescriptor (TX0 k).2.2.1 = some (tyX0 k) := by decide +kernel
abbrev cX0_init : ByteArray := prog_2_method_1_code
def yX0_init : MethodName := ⟨RX0, "<init>", "()V"⟩
abbrev cX0_record : ByteArray := prog_2_method_2_code
def yX0_record : MethodName := ⟨RX0, "record", "(III)V"⟩
abbrev cX0_countQueued : ByteArray := prog_2_method_3_code
def yX0_countQueued : MethodName := ⟨RX0, "countQueued", "(LPlantServer$Item;I)I"⟩
abbrev cX0_valueBefore : ByteArray := prog_2_method_4_code
def yX0_valueBefore : MethodName := ⟨RX0, "valueBefore", "(II)I"⟩
abbrev cX0_isSampled : ByteArray := prog_2_method_5_code
def yX0_isSampled : MethodName := ⟨RX0, "isSampled", "(LPlantServer$Item;II)Z"⟩
def RX1 : String := "PlantServer$Item"
def TX1 : u_T := fun k => match k with
  | 0 => ("PlantServer$Item", "number", "I", true)
  | 1 => ("PlantServer$Item", "owner", "LPlantServer$Subscription;", true)
  | 2 => ("PlantServer$Item", "node", "I", true)
  | 3 => ("PlantServer$Item", "band", "I", true)
  | 4 => ("PlantServer$Item", "timer", "LPlantServer$Timer;", true)
  | 5 => ("PlantServer$Item", "queue", "LPlantServer$Queue;", true)
  | 6 => ("PlantServer$Item", "reports", "Z", false)
  | 7 => ("PlantServer$Item", "triggers", "I", false)
  | 8 => ("PlantServer$Item", "queuedCount", "I", false)
  | 9 => ("PlantServer$Item", "lastQueued", "I", false)
  | 10 => ("PlantServer$Item", "addedAt", "I", false)
  | _ => ("PlantServer$Item", "writesBefore", "I", false)
def tyX1 : Nat → FieldType := fun k => match k with
  | 0 => .int
  | 1 => .object "PlantServer$Subscription"
  | 2 => .int
  | 3 => .int
  | 4 => .object "PlantServer$Timer"
  | 5 => .object "PlantServer$Queue"
  | 6 => .boolean
  | 7 => .int
  | 8 => .int
  | 9 => .int
  | 10 => .int
  | _ => .int
abbrev wsX10 : List Cond := u_ws RX1 TX1 12
theorem nmX1 : ∀ a, a < 12 → ∀ b, b < 12 → a ≠ b → (TX1 a).2.1 ≠ (TX1 b).2.1 := by decide +kernel
theorem tyX1_ok : ∀ k, k < 12 → parseFieldDescriptor (TX1 k).2.2.1 = some (tyX1 k) := by decide +kernel
abbrev cX1_init : ByteArray := prog_3_method_1_code
def yX1_init : MethodName := ⟨RX1, "<init>", "(ILPlantServer$Subscription;IIILPlantServer$Queue;)V"⟩
abbrev cX1_begin : ByteArray := prog_3_method_2_code
def yX1_begin : MethodName := ⟨RX1, "begin", "(III)V"⟩
abbrev cX1_sample : ByteArray := prog_3_method_3_code
def yX1_sample : MethodName := ⟨RX1, "sample", "(I)V"⟩
abbrev cX1_leavesBand : ByteArray := prog_3_method_4_code
def yX1_leavesBand : MethodName := ⟨RX1, "leavesBand", "(II)Z"⟩
abbrev cX1_setTrigger : ByteArray := prog_3_method_5_code
def yX1_setTrigger : MethodName := ⟨RX1, "setTrigger", "(IZ)Z"⟩
abbrev cX1_giveTo : ByteArray := prog_3_method_6_code
def yX1_giveTo : MethodName := ⟨RX1, "giveTo", "(LPlantServer$Message;I)V"⟩
abbrev cX1_enqueue : ByteArray := prog_3_method_7_code
def yX1_enqueue : MethodName := ⟨RX1, "enqueue", "(I)V"⟩
def RX2 : String := "PlantServer$Message"
def TX2 : u_T := fun k => match k with
  | 0 => ("PlantServer$Message", "values", "[I", true)
  | 1 => ("PlantServer$Message", "items", "[I", true)
  | 2 => ("PlantServer$Message", "marks", "[Z", true)
  | 3 => ("PlantServer$Message", "number", "I", false)
  | _ => ("PlantServer$Message", "count", "I", false)
def tyX2 : Nat → FieldType := fun k => match k with
  | 0 => .array .int
  | 1 => .array .int
  | 2 => .array .boolean
  | 3 => .int
  | _ => .int
abbrev wsX20 : List Cond := u_ws RX2 TX2 5
theorem nmX2 : ∀ a, a < 5 → ∀ b, b < 5 → a ≠ b → (TX2 a).2.1 ≠ (TX2 b).2.1 := by decide +kernel
theorem tyX2_ok : ∀ k, k < 5 → parseFieldDescriptor (TX2 k).2.2.1 = some (tyX2 k) := by decide +kernel
abbrev cX2_init : ByteArray := prog_4_method_1_code
def yX2_init : MethodName := ⟨RX2, "<init>", "()V"⟩
abbrev cX2_begin : ByteArray := prog_4_method_2_code
def yX2_begin : MethodName := ⟨RX2, "begin", "(I)V"⟩
abbrev cX2_append : ByteArray := prog_4_method_3_code
def yX2_append : MethodName := ⟨RX2, "append", "(IIZ)V"⟩
def RX3 : String := "PlantServer$Queue"
def TX3 : u_T := fun k => match k with
  | 0 => ("PlantServer$Queue", "size", "I", true)
  | 1 => ("PlantServer$Queue", "dropsOldest", "Z", true)
  | 2 => ("PlantServer$Queue", "values", "[I", true)
  | 3 => ("PlantServer$Queue", "marks", "[Z", true)
  | _ => ("PlantServer$Queue", "count", "I", false)
def tyX3 : Nat → FieldType := fun k => match k with
  | 0 => .int
  | 1 => .boolean
  | 2 => .array .int
  | 3 => .array .boolean
  | _ => .int
abbrev wsX30 : List Cond := u_ws RX3 TX3 5
theorem nmX3 : ∀ a, a < 5 → ∀ b, b < 5 → a ≠ b → (TX3 a).2.1 ≠ (TX3 b).2.1 := by decide +kernel
theorem tyX3_ok : ∀ k, k < 5 → parseFieldDescriptor (TX3 k).2.2.1 = some (tyX3 k) := by decide +kernel
abbrev cX3_init : ByteArray := prog_5_method_1_code
def yX3_init : MethodName := ⟨RX3, "<init>", "(IZ)V"⟩
abbrev cX3_put : ByteArray := prog_5_method_2_code
def yX3_put : MethodName := ⟨RX3, "put", "(I)V"⟩
abbrev cX3_dropFirst : ByteArray := prog_5_method_3_code
def yX3_dropFirst : MethodName := ⟨RX3, "dropFirst", "()V"⟩
abbrev cX3_append : ByteArray := prog_5_method_4_code
def yX3_append : MethodName := ⟨RX3, "append", "(IZ)V"⟩
def RX4 : String := "PlantServer$Subscription"
def TX4 : u_T := fun k => match k with
  | 0 => ("PlantServer$Subscription", "timer", "LPlantServer$Timer;", true)
  | 1 => ("PlantServer$Subscription", "idle", "I", true)
  | 2 => ("PlantServer$Subscription", "life", "I", true)
  | 3 => ("PlantServer$Subscription", "priority", "I", true)
  | 4 => ("PlantServer$Subscription", "most", "I", true)
  | 5 => ("PlantServer$Subscription", "items", "[LPlantServer$Item;", true)
  | 6 => ("PlantServer$Subscription", "messages", "[LPlantServer$Message;", true)
  | 7 => ("PlantServer$Subscription", "isLive", "Z", false)
  | 8 => ("PlantServer$Subscription", "itemCount", "I", false)
  | 9 => ("PlantServer$Subscription", "keptCount", "I", false)
  | 10 => ("PlantServer$Subscription", "lastNumber", "I", false)
  | 11 => ("PlantServer$Subscription", "keepAliveCount", "I", false)
  | 12 => ("PlantServer$Subscription", "idleRow", "I", false)
  | _ => ("PlantServer$Subscription", "lostRow", "I", false)
def tyX4 : Nat → FieldType := fun k => match k with
  | 0 => .object "PlantServer$Timer"
  | 1 => .int
  | 2 => .int
  | 3 => .int
  | 4 => .int
  | 5 => .array (.object "PlantServer$Item")
  | 6 => .array (.object "PlantServer$Message")
  | 7 => .boolean
  | 8 => .int
  | 9 => .int
  | 10 => .int
  | 11 => .int
  | 12 => .int
  | _ => .int
abbrev wsX40 : List Cond := u_ws RX4 TX4 14
theorem nmX4 : ∀ a, a < 14 → ∀ b, b < 14 → a ≠ b → (TX4 a).2.1 ≠ (TX4 b).2.1 := by decide +kernel
theorem tyX4_ok : ∀ k, k < 14 → parseFieldDescriptor (TX4 k).2.2.1 = some (tyX4 k) := by decide +kernel
abbrev cX4_init : ByteArray := prog_6_method_1_code
def yX4_init : MethodName := ⟨RX4, "<init>", "(IIIII)V"⟩
abbrev cX4_take : ByteArray := prog_6_method_2_code
def yX4_take : MethodName := ⟨RX4, "take", "(LPlantServer$Item;)V"⟩
abbrev cX4_findTold : ByteArray := prog_6_method_3_code
def yX4_findTold : MethodName := ⟨RX4, "findTold", "()I"⟩
abbrev cX4_isSomethingDue : ByteArray := prog_6_method_4_code
def yX4_isSomethingDue : MethodName := ⟨RX4, "isSomethingDue", "(I)Z"⟩
abbrev cX4_lose : ByteArray := prog_6_method_5_code
def yX4_lose : MethodName := ⟨RX4, "lose", "()V"⟩
abbrev cX4_send : ByteArray := prog_6_method_6_code
def yX4_send : MethodName := ⟨RX4, "send", "(I)V"⟩
abbrev cX4_placeOf : ByteArray := prog_6_method_7_code
def yX4_placeOf : MethodName := ⟨RX4, "placeOf", "(I)I"⟩
abbrev cX4_find : ByteArray := prog_6_method_8_code
def yX4_find : MethodName := ⟨RX4, "find", "(I)LPlantServer$Message;"⟩
abbrev cX4_forget : ByteArray := prog_6_method_9_code
def yX4_forget : MethodName := ⟨RX4, "forget", "(I)V"⟩
abbrev cX4_fillMessage : ByteArray := prog_6_method_10_code
def yX4_fillMessage : MethodName := ⟨RX4, "fillMessage", "(I)V"⟩
abbrev cX4_nextMessage : ByteArray := prog_6_method_11_code
def yX4_nextMessage : MethodName := ⟨RX4, "nextMessage", "()LPlantServer$Message;"⟩
def RX5 : String := "PlantServer$Timer"
def TX5 : u_T := fun k => match k with
  | 0 => ("PlantServer$Timer", "every", "I", true)
  | _ => ("PlantServer$Timer", "left", "I", false)
def tyX5 : Nat → FieldType := fun k => match k with
  | 0 => .int
  | _ => .int
abbrev wsX50 : List Cond := u_ws RX5 TX5 2
theorem nmX5 : ∀ a, a < 2 → ∀ b, b < 2 → a ≠ b → (TX5 a).2.1 ≠ (TX5 b).2.1 := by decide +kernel
theorem tyX5_ok : ∀ k, k < 2 → parseFieldDescriptor (TX5 k).2.2.1 = some (tyX5 k) := by decide +kernel
abbrev cX5_init : ByteArray := prog_7_method_1_code
def yX5_init : MethodName := ⟨RX5, "<init>", "(I)V"⟩
abbrev cX5_countTick : ByteArray := prog_7_method_2_code
def yX5_countTick : MethodName := ⟨RX5, "countTick", "()Z"⟩
def RX6 : String := "PlantServer"
def TX6 : u_T := fun k => match k with
  | 0 => ("PlantServer", "nodes", "[I", true)
  | 1 => ("PlantServer", "subscriptions", "[LPlantServer$Subscription;", true)
  | 2 => ("PlantServer", "inTurn", "[LPlantServer$Subscription;", true)
  | 3 => ("PlantServer", "items", "[LPlantServer$Item;", true)
  | 4 => ("PlantServer", "history", "LPlantServer$History;", true)
  | 5 => ("PlantServer", "subscriptionCount", "I", false)
  | 6 => ("PlantServer", "itemCount", "I", false)
  | 7 => ("PlantServer", "requestCount", "I", false)
  | _ => ("PlantServer", "now", "I", false)
def tyX6 : Nat → FieldType := fun k => match k with
  | 0 => .array .int
  | 1 => .array (.object "PlantServer$Subscription")
  | 2 => .array (.object "PlantServer$Subscription")
  | 3 => .array (.object "PlantServer$Item")
  | 4 => .object "PlantServer$History"
  | 5 => .int
  | 6 => .int
  | 7 => .int
  | _ => .int
abbrev wsX60 : List Cond := u_ws RX6 TX6 9
theorem nmX6 : ∀ a, a < 9 → ∀ b, b < 9 → a ≠ b → (TX6 a).2.1 ≠ (TX6 b).2.1 := by decide +kernel
theorem tyX6_ok : ∀ k, k < 9 → parseFieldDescriptor (TX6 k).2.2.1 = some (tyX6 k) := by decide +kernel
abbrev cX6_init : ByteArray := prog_1_method_1_code
def yX6_init : MethodName := ⟨RX6, "<init>", "()V"⟩
abbrev cX6_write : ByteArray := prog_1_method_2_code
def yX6_write : MethodName := ⟨RX6, "write", "(II)I"⟩
abbrev cX6_open : ByteArray := prog_1_method_3_code
def yX6_open : MethodName := ⟨RX6, "open", "(IIIII)I"⟩
abbrev cX6_close : ByteArray := prog_1_method_4_code
def yX6_close : MethodName := ⟨RX6, "close", "(I)I"⟩
abbrev cX6_add : ByteArray := prog_1_method_5_code
def yX6_add : MethodName := ⟨RX6, "add", "(IIIIZI)I"⟩
abbrev cX6_setReporting : ByteArray := prog_1_method_6_code
def yX6_setReporting : MethodName := ⟨RX6, "setReporting", "(IZ)Z"⟩
abbrev cX6_link : ByteArray := prog_1_method_7_code
def yX6_link : MethodName := ⟨RX6, "link", "(IIZ)Z"⟩
abbrev cX6_request : ByteArray := prog_1_method_8_code
def yX6_request : MethodName := ⟨RX6, "request", "()I"⟩
abbrev cX6_pass : ByteArray := prog_1_method_9_code
def yX6_pass : MethodName := ⟨RX6, "pass", "(I)I"⟩
abbrev cX6_requests : ByteArray := prog_1_method_10_code
def yX6_requests : MethodName := ⟨RX6, "requests", "()I"⟩
abbrev cX6_tick : ByteArray := prog_1_method_11_code
def yX6_tick : MethodName := ⟨RX6, "tick", "()I"⟩
abbrev cX6_acknowledge : ByteArray := prog_1_method_12_code
def yX6_acknowledge : MethodName := ⟨RX6, "acknowledge", "(II)Z"⟩
abbrev cX6_size : ByteArray := prog_1_method_13_code
def yX6_size : MethodName := ⟨RX6, "size", "(II)I"⟩
abbrev cX6_valueAt : ByteArray := prog_1_method_14_code
def yX6_valueAt : MethodName := ⟨RX6, "valueAt", "(III)I"⟩
abbrev cX6_itemAt : ByteArray := prog_1_method_15_code
def yX6_itemAt : MethodName := ⟨RX6, "itemAt", "(III)I"⟩
abbrev cX6_isMarked : ByteArray := prog_1_method_16_code
def yX6_isMarked : MethodName := ⟨RX6, "isMarked", "(III)Z"⟩
abbrev cX6_latest : ByteArray := prog_1_method_17_code
def yX6_latest : MethodName := ⟨RX6, "latest", "(I)I"⟩
abbrev cX6_keepAlives : ByteArray := prog_1_method_18_code
def yX6_keepAlives : MethodName := ⟨RX6, "keepAlives", "(I)I"⟩
abbrev cX6_waiting : ByteArray := prog_1_method_19_code
def yX6_waiting : MethodName := ⟨RX6, "waiting", "(I)I"⟩
abbrev cX6_queued : ByteArray := prog_1_method_20_code
def yX6_queued : MethodName := ⟨RX6, "queued", "(I)I"⟩
abbrev cX6_queuedByHistory : ByteArray := prog_1_method_21_code
def yX6_queuedByHistory : MethodName := ⟨RX6, "queuedByHistory", "(I)I"⟩
abbrev cX6_isOpen : ByteArray := prog_1_method_22_code
def yX6_isOpen : MethodName := ⟨RX6, "isOpen", "(I)Z"⟩
abbrev cX6_checkRange : ByteArray := prog_1_method_23_code
def yX6_checkRange : MethodName := ⟨RX6, "checkRange", "(III)V"⟩
abbrev cX6_checkNode : ByteArray := prog_1_method_24_code
def yX6_checkNode : MethodName := ⟨RX6, "checkNode", "(I)V"⟩
abbrev cX6_openSubscription : ByteArray := prog_1_method_25_code
def yX6_openSubscription : MethodName := ⟨RX6, "openSubscription", "(I)LPlantServer$Subscription;"⟩
abbrev cX6_liveItem : ByteArray := prog_1_method_26_code
def yX6_liveItem : MethodName := ⟨RX6, "liveItem", "(I)LPlantServer$Item;"⟩
abbrev cX6_messageWith : ByteArray := prog_1_method_27_code
def yX6_messageWith : MethodName := ⟨RX6, "messageWith", "(III)LPlantServer$Message;"⟩
abbrev cX6_putInTurn : ByteArray := prog_1_method_28_code
def yX6_putInTurn : MethodName := ⟨RX6, "putInTurn", "(LPlantServer$Subscription;I)V"⟩
abbrev cX6_sampleItems : ByteArray := prog_1_method_29_code
def yX6_sampleItems : MethodName := ⟨RX6, "sampleItems", "()V"⟩
abbrev cX6_publishSubscriptions : ByteArray := prog_1_method_30_code
def yX6_publishSubscriptions : MethodName := ⟨RX6, "publishSubscriptions", "()I"⟩
abbrev cX6_publishes : ByteArray := prog_1_method_31_code
def yX6_publishes : MethodName := ⟨RX6, "publishes", "(LPlantServer$Subscription;)Z"⟩
def RX7 : String := "PlantServerModel"
def TX7 : u_T := fun k => match k with
  | _ => ("", "", "", false)
def tyX7 : Nat → FieldType := fun k => match k with
  | _ => .int
abbrev wsX70 : List Cond := u_ws RX7 TX7 0
theorem nmX7 : ∀ a, a < 0 → ∀ b, b < 0 → a ≠ b → (TX7 a).2.1 ≠ (TX7 b).2.1 := by decide +kernel
theorem tyX7_ok : ∀ k, k < 0 → parseFieldDescriptor (TX7 k).2.2.1 = some (tyX7 k) := by decide +kernel
def RJx145de : String := "java/io/Serializable"
def TJx145de : u_T := fun k => match k with
  | _ => ("", "", "", false)
def tyJx145de : Nat → FieldType := fun k => match k with
  | _ => .int
abbrev wsJx145de0 : List Cond := u_ws RJx145de TJx145de 0
theorem nmJx145de : ∀ a, a < 0 → ∀ b, b < 0 → a ≠ b → (TJx145de a).2.1 ≠ (TJx145de b).2.1 := by decide +kernel
theorem tyJx145de_ok : ∀ k, k < 0 → parseFieldDescriptor (TJx145de k).2.2.1 = some (tyJx145de k) := by decide +kernel
def RJ9 : String := "java/lang/Math"
def TJ9 : u_T := fun k => match k with
  | _ => ("", "", "", false)
def tyJ9 : Nat → FieldType := fun k => match k with
  | _ => .int
abbrev wsJ90 : List Cond := u_ws RJ9 TJ9 0
theorem nmJ9 : ∀ a, a < 0 → ∀ b, b < 0 → a ≠ b → (TJ9 a).2.1 ≠ (TJ9 b).2.1 := by decide +kernel
theorem tyJ9_ok : ∀ k, k < 0 → parseFieldDescriptor (TJ9 k).2.2.1 = some (tyJ9 k) := by decide +kernel
abbrev cJ9_abs_0f7a4 : ByteArray := prog_15_method_59_code
def yJ9_abs_0f7a4 : MethodName := ⟨RJ9, "abs", "(I)I"⟩
abbrev cJ9_min_7cf53 : ByteArray := prog_15_method_69_code
def yJ9_min_7cf53 : MethodName := ⟨RJ9, "min", "(II)I"⟩
def RJ0 : String := "java/lang/String"
def TJ0 : u_T := fun k => match k with
  | _ => ("", "", "", false)
def tyJ0 : Nat → FieldType := fun k => match k with
  | _ => .int
abbrev wsJ00 : List Cond := u_ws RJ0 TJ0 0
theorem nmJ0 : ∀ a, a < 0 → ∀ b, b < 0 → a ≠ b → (TJ0 a).2.1 ≠ (TJ0 b).2.1 := by decide +kernel
theorem tyJ0_ok : ∀ k, k < 0 → parseFieldDescriptor (TJ0 k).2.2.1 = some (tyJ0 k) := by decide +kernel
def RL : String := "PlantServerLaw"
abbrev cL_cell : ByteArray := method_2_code
def yL_cell : MethodName := ⟨RL, "cell", "([II)I"⟩
abbrev cL_low : ByteArray := method_3_code
def yL_low : MethodName := ⟨RL, "low", "(II)I"⟩
abbrev cL_write : ByteArray := method_4_code
def yL_write : MethodName := ⟨RL, "write", "(LPlantServer;II)I"⟩
abbrev cL_open : ByteArray := method_5_code
def yL_open : MethodName := ⟨RL, "open", "(LPlantServer;IIIII)I"⟩
abbrev cL_close : ByteArray := method_6_code
def yL_close : MethodName := ⟨RL, "close", "(LPlantServer;I)I"⟩
abbrev cL_add : ByteArray := method_7_code
def yL_add : MethodName := ⟨RL, "add", "(LPlantServer;IIIIZI)I"⟩
abbrev cL_setReporting : ByteArray := method_8_code
def yL_setReporting : MethodName := ⟨RL, "setReporting", "(LPlantServer;IZ)I"⟩
abbrev cL_link : ByteArray := method_9_code
def yL_link : MethodName := ⟨RL, "link", "(LPlantServer;IIZ)I"⟩
abbrev cL_request : ByteArray := method_10_code
def yL_request : MethodName := ⟨RL, "request", "(LPlantServer;)I"⟩
abbrev cL_pass : ByteArray := method_11_code
def yL_pass : MethodName := ⟨RL, "pass", "(LPlantServer;I)I"⟩
abbrev cL_acknowledge : ByteArray := method_12_code
def yL_acknowledge : MethodName := ⟨RL, "acknowledge", "(LPlantServer;II)I"⟩
abbrev cL_size : ByteArray := method_13_code
def yL_size : MethodName := ⟨RL, "size", "(LPlantServer;II)I"⟩
abbrev cL_valueAt : ByteArray := method_14_code
def yL_valueAt : MethodName := ⟨RL, "valueAt", "(LPlantServer;III)I"⟩
abbrev cL_itemAt : ByteArray := method_15_code
def yL_itemAt : MethodName := ⟨RL, "itemAt", "(LPlantServer;III)I"⟩
abbrev cL_isMarked : ByteArray := method_16_code
def yL_isMarked : MethodName := ⟨RL, "isMarked", "(LPlantServer;III)I"⟩
abbrev cL_latest : ByteArray := method_17_code
def yL_latest : MethodName := ⟨RL, "latest", "(LPlantServer;I)I"⟩
abbrev cL_keepAlives : ByteArray := method_18_code
def yL_keepAlives : MethodName := ⟨RL, "keepAlives", "(LPlantServer;I)I"⟩
abbrev cL_waiting : ByteArray := method_19_code
def yL_waiting : MethodName := ⟨RL, "waiting", "(LPlantServer;I)I"⟩
abbrev cL_queued : ByteArray := method_20_code
def yL_queued : MethodName := ⟨RL, "queued", "(LPlantServer;I)I"⟩
abbrev cL_isOpen : ByteArray := method_21_code
def yL_isOpen : MethodName := ⟨RL, "isOpen", "(LPlantServer;I)I"⟩
abbrev cL_sample : ByteArray := method_22_code
def yL_sample : MethodName := ⟨RL, "sample", "(I[I[I[I[I[I[I)V"⟩
abbrev cL_kept : ByteArray := method_23_code
def yL_kept : MethodName := ⟨RL, "kept", "([III)I"⟩
abbrev cL_publish : ByteArray := method_24_code
def yL_publish : MethodName := ⟨RL, "publish", "(I[I[I[I[I[I[I[I[I)I"⟩
abbrev cL_tick : ByteArray := method_25_code
def yL_tick : MethodName := ⟨RL, "tick", "([I[I[I[I[I[I[I[I[I[I[I[I)I"⟩
abbrev cL_isThere : ByteArray := method_26_code
def yL_isThere : MethodName := ⟨RL, "isThere", "([I[I[II)Z"⟩
abbrev cL_opens : ByteArray := method_27_code
def yL_opens : MethodName := ⟨RL, "opens", "(LPlantServer;III[I[I[I[I[I[I[I[I[I[I)Z"⟩
abbrev cL_goes : ByteArray := method_28_code
def yL_goes : MethodName := ⟨RL, "goes", "(LPlantServer;III[I[I[I[I[I[I[I[I[I[I[I[I)Z"⟩
abbrev cL_isTold : ByteArray := method_29_code
def yL_isTold : MethodName := ⟨RL, "isTold", "(LPlantServer;I[I[I[I[I[I[I[I)Z"⟩
abbrev cL_law : ByteArray := code
def yL_law : MethodName := ⟨RL, "law", "([I)Z"⟩
