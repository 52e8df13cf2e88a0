-- ===== PART A: goes FIRST, ahead of the names: the tables' words, and 'selects' of the private methods out of them =====
/-- a private method of a class that the tables say can be made, by its rows of tables_1 -/
def lw_okq (q : MethodName × Nat) : Prop := (q.1.cls ≠ "java/lang/invoke/MethodHandle" ∧ q.1.cls ≠ "java/lang/invoke/VarHandle") ∧ Cond.instantiable q.1.cls q.2 ∈ tables_1 ∧ Cond.privateMethod q.1 ∈ tables_1 ∧ Cond.instanceMethod q.1 ∈ tables_1
theorem lw_p0 : lw_okq (⟨"LentArms$Harbour", "tick", "()V"⟩, 11) := ⟨⟨by decide +kernel, by decide +kernel⟩, List.mem_of_getElem? (i := 18) (by decide +kernel), List.mem_of_getElem? (i := 241) (by decide +kernel), List.mem_of_getElem? (i := 242) (by decide +kernel)⟩
theorem lw_p1 : lw_okq (⟨"LentArms$Harbour", "goOn", "()V"⟩, 11) := ⟨⟨by decide +kernel, by decide +kernel⟩, List.mem_of_getElem? (i := 18) (by decide +kernel), List.mem_of_getElem? (i := 245) (by decide +kernel), List.mem_of_getElem? (i := 246) (by decide +kernel)⟩
theorem lw_p2 : lw_okq (⟨"LentArms$Harbour", "goOnTheWay", "(LLentArms$Arm;)V"⟩, 11) := ⟨⟨by decide +kernel, by decide +kernel⟩, List.mem_of_getElem? (i := 18) (by decide +kernel), List.mem_of_getElem? (i := 249) (by decide +kernel), List.mem_of_getElem? (i := 250) (by decide +kernel)⟩
theorem lw_p3 : lw_okq (⟨"LentArms$Harbour", "goOnWorking", "(LLentArms$Arm;)V"⟩, 11) := ⟨⟨by decide +kernel, by decide +kernel⟩, List.mem_of_getElem? (i := 18) (by decide +kernel), List.mem_of_getElem? (i := 253) (by decide +kernel), List.mem_of_getElem? (i := 254) (by decide +kernel)⟩
theorem lw_p4 : lw_okq (⟨"LentArms$Harbour", "takeLoads", "()V"⟩, 11) := ⟨⟨by decide +kernel, by decide +kernel⟩, List.mem_of_getElem? (i := 18) (by decide +kernel), List.mem_of_getElem? (i := 257) (by decide +kernel), List.mem_of_getElem? (i := 258) (by decide +kernel)⟩
theorem lw_p5 : lw_okq (⟨"LentArms$Harbour", "lookInBasins", "()V"⟩, 11) := ⟨⟨by decide +kernel, by decide +kernel⟩, List.mem_of_getElem? (i := 18) (by decide +kernel), List.mem_of_getElem? (i := 265) (by decide +kernel), List.mem_of_getElem? (i := 266) (by decide +kernel)⟩
theorem lw_p6 : lw_okq (⟨"LentArms$Harbour", "lend", "(III)V"⟩, 11) := ⟨⟨by decide +kernel, by decide +kernel⟩, List.mem_of_getElem? (i := 18) (by decide +kernel), List.mem_of_getElem? (i := 269) (by decide +kernel), List.mem_of_getElem? (i := 270) (by decide +kernel)⟩
theorem lw_p7 : lw_okq (⟨"LentArms$Harbour", "neediest", "(II)I"⟩, 11) := ⟨⟨by decide +kernel, by decide +kernel⟩, List.mem_of_getElem? (i := 18) (by decide +kernel), List.mem_of_getElem? (i := 273) (by decide +kernel), List.mem_of_getElem? (i := 274) (by decide +kernel)⟩
theorem lw_p8 : lw_okq (⟨"LentArms$Harbour", "helperFor", "(IZ)I"⟩, 11) := ⟨⟨by decide +kernel, by decide +kernel⟩, List.mem_of_getElem? (i := 18) (by decide +kernel), List.mem_of_getElem? (i := 281) (by decide +kernel), List.mem_of_getElem? (i := 282) (by decide +kernel)⟩
theorem lw_p9 : lw_okq (⟨"LentArms$Harbour", "planNextLook", "(IZ)V"⟩, 11) := ⟨⟨by decide +kernel, by decide +kernel⟩, List.mem_of_getElem? (i := 18) (by decide +kernel), List.mem_of_getElem? (i := 300) (by decide +kernel), List.mem_of_getElem? (i := 301) (by decide +kernel)⟩
theorem lw_p10 : lw_okq (⟨"LentArms$Harbour", "lookOverPort", "()V"⟩, 11) := ⟨⟨by decide +kernel, by decide +kernel⟩, List.mem_of_getElem? (i := 18) (by decide +kernel), List.mem_of_getElem? (i := 307) (by decide +kernel), List.mem_of_getElem? (i := 308) (by decide +kernel)⟩
theorem lw_p11 : lw_okq (⟨"LentArms$Harbour", "goHome", "()V"⟩, 11) := ⟨⟨by decide +kernel, by decide +kernel⟩, List.mem_of_getElem? (i := 18) (by decide +kernel), List.mem_of_getElem? (i := 311) (by decide +kernel), List.mem_of_getElem? (i := 312) (by decide +kernel)⟩
theorem lw_p12 : lw_okq (⟨"LentArms", "remember", "()V"⟩, 7) := ⟨⟨by decide +kernel, by decide +kernel⟩, List.mem_of_getElem? (i := 10) (by decide +kernel), List.mem_of_getElem? (i := 392) (by decide +kernel), List.mem_of_getElem? (i := 393) (by decide +kernel)⟩
theorem lw_p13 : lw_okq (⟨"LentArms", "dropOldest", "()V"⟩, 7) := ⟨⟨by decide +kernel, by decide +kernel⟩, List.mem_of_getElem? (i := 10) (by decide +kernel), List.mem_of_getElem? (i := 396) (by decide +kernel), List.mem_of_getElem? (i := 397) (by decide +kernel)⟩
def lw_privs_1 : List (MethodName × Nat) := [(⟨"LentArms$Harbour", "tick", "()V"⟩, 11), (⟨"LentArms$Harbour", "goOn", "()V"⟩, 11), (⟨"LentArms$Harbour", "goOnTheWay", "(LLentArms$Arm;)V"⟩, 11), (⟨"LentArms$Harbour", "goOnWorking", "(LLentArms$Arm;)V"⟩, 11), (⟨"LentArms$Harbour", "takeLoads", "()V"⟩, 11), (⟨"LentArms$Harbour", "lookInBasins", "()V"⟩, 11), (⟨"LentArms$Harbour", "lend", "(III)V"⟩, 11), (⟨"LentArms$Harbour", "neediest", "(II)I"⟩, 11), (⟨"LentArms$Harbour", "helperFor", "(IZ)I"⟩, 11), (⟨"LentArms$Harbour", "planNextLook", "(IZ)V"⟩, 11), (⟨"LentArms$Harbour", "lookOverPort", "()V"⟩, 11), (⟨"LentArms$Harbour", "goHome", "()V"⟩, 11), (⟨"LentArms", "remember", "()V"⟩, 7), (⟨"LentArms", "dropOldest", "()V"⟩, 7)]
theorem lw_r1 : ∀ q ∈ lw_privs_1, lw_okq q := List.forall_mem_cons.mpr ⟨lw_p0, List.forall_mem_cons.mpr ⟨lw_p1, List.forall_mem_cons.mpr ⟨lw_p2, List.forall_mem_cons.mpr ⟨lw_p3, List.forall_mem_cons.mpr ⟨lw_p4, List.forall_mem_cons.mpr ⟨lw_p5, List.forall_mem_cons.mpr ⟨lw_p6, List.forall_mem_cons.mpr ⟨lw_p7, List.forall_mem_cons.mpr ⟨lw_p8, List.forall_mem_cons.mpr ⟨lw_p9, List.forall_mem_cons.mpr ⟨lw_p10, List.forall_mem_cons.mpr ⟨lw_p11, List.forall_mem_cons.mpr ⟨lw_p12, List.forall_mem_cons.mpr ⟨lw_p13, fun _ h => absurd h List.not_mem_nil⟩⟩⟩⟩⟩⟩⟩⟩⟩⟩⟩⟩⟩⟩
def lw_privs : List (MethodName × Nat) := lw_privs_1
def lw_tbl : List Cond := k2_sels lw_privs ++ tables_1
theorem lw_privs_ok : ∀ q ∈ lw_privs, lw_okq q := lw_r1
/-! ===== BEGIN printed: names, fields, word lists, decode rows ===== -/
def RX0 : String := "LentArms$Arm"
def TX0 : u_T := fun k => match k with
  | 0 => ("LentArms$Arm", "home", "I", false)
  | 1 => ("LentArms$Arm", "quay", "I", false)
  | 2 => ("LentArms$Arm", "doing", "I", false)
  | 3 => ("LentArms$Arm", "left", "I", false)
  | 4 => ("LentArms$Arm", "tied", "Z", false)
  | 5 => ("LentArms$Arm", "loadsDone", "I", false)
  | 6 => ("LentArms$Arm", "waysGone", "I", false)
  | _ => ("LentArms$Arm", "idleTicks", "I", false)
def tyX0 : Nat → FieldType := fun k => match k with
  | 0 => .int
  | 1 => .int
  | 2 => .int
  | 3 => .int
  | 4 => .boolean
  | 5 => .int
  | 6 => .int
  | _ => .int
abbrev wsX00 : List Cond := u_ws RX0 TX0 8
theorem nmX0 : ∀ a, a < 8 → ∀ b, b < 8 → a ≠ b → (TX0 a).2.1 ≠ (TX0 b).2.1 := by decide +kernel
theorem tyX0_ok : ∀ k, k < 8 → parseFieldDescriptor (TX0 k).2.2.1 = some (tyX0 k) := by decide +kernel
abbrev cX0_init : ByteArray := prog_2_method_1_code
def yX0_init : MethodName := ⟨RX0, "<init>", "()V"⟩
abbrev cX0_begin : ByteArray := prog_2_method_2_code
def yX0_begin : MethodName := ⟨RX0, "begin", "(IZ)V"⟩
abbrev cX0_copyFrom : ByteArray := prog_2_method_3_code
def yX0_copyFrom : MethodName := ⟨RX0, "copyFrom", "(LLentArms$Arm;)V"⟩
abbrev cX0_setOut : ByteArray := prog_2_method_4_code
def yX0_setOut : MethodName := ⟨RX0, "setOut", "(II)V"⟩
abbrev cX0_isIdleAway : ByteArray := prog_2_method_5_code
def yX0_isIdleAway : MethodName := ⟨RX0, "isIdleAway", "()Z"⟩
abbrev cX0_idleTicksAway : ByteArray := prog_2_method_6_code
def yX0_idleTicksAway : MethodName := ⟨RX0, "idleTicksAway", "()I"⟩
def RX1 : String := "LentArms$Harbour"
def TX1 : u_T := fun k => match k with
  | 0 => ("LentArms$Harbour", "clock", "I", false)
  | 1 => ("LentArms$Harbour", "armCount", "I", false)
  | 2 => ("LentArms$Harbour", "arms", "[LLentArms$Arm;", true)
  | 3 => ("LentArms$Harbour", "lines", "[LLentArms$Line;", true)
  | 4 => ("LentArms$Harbour", "settings", "[I", true)
  | 5 => ("LentArms$Harbour", "distances", "[I", true)
  | 6 => ("LentArms$Harbour", "nextLooks", "[I", true)
  | 7 => ("LentArms$Harbour", "log", "LLentArms$WayLog;", true)
  | 8 => ("LentArms$Harbour", "loadsDone", "I", false)
  | 9 => ("LentArms$Harbour", "workDone", "I", false)
  | _ => ("LentArms$Harbour", "ticksWaited", "I", false)
def tyX1 : Nat → FieldType := fun k => match k with
  | 0 => .int
  | 1 => .int
  | 2 => .array (.object "LentArms$Arm")
  | 3 => .array (.object "LentArms$Line")
  | 4 => .array .int
  | 5 => .array .int
  | 6 => .array .int
  | 7 => .object "LentArms$WayLog"
  | 8 => .int
  | 9 => .int
  | _ => .int
abbrev wsX10 : List Cond := u_ws RX1 TX1 11
theorem nmX1 : ∀ a, a < 11 → ∀ b, b < 11 → a ≠ b → (TX1 a).2.1 ≠ (TX1 b).2.1 := by decide +kernel
theorem tyX1_ok : ∀ k, k < 11 → parseFieldDescriptor (TX1 k).2.2.1 = some (tyX1 k) := by decide +kernel
abbrev cX1_init : ByteArray := prog_3_method_1_code
def yX1_init : MethodName := ⟨RX1, "<init>", "()V"⟩
abbrev cX1_copyFrom : ByteArray := prog_3_method_2_code
def yX1_copyFrom : MethodName := ⟨RX1, "copyFrom", "(LLentArms$Harbour;)V"⟩
abbrev cX1_hasArm : ByteArray := prog_3_method_3_code
def yX1_hasArm : MethodName := ⟨RX1, "hasArm", "(I)Z"⟩
abbrev cX1_append : ByteArray := prog_3_method_4_code
def yX1_append : MethodName := ⟨RX1, "append", "(IZ)V"⟩
abbrev cX1_takeOut : ByteArray := prog_3_method_5_code
def yX1_takeOut : MethodName := ⟨RX1, "takeOut", "(I)V"⟩
abbrev cX1_depart : ByteArray := prog_3_method_6_code
def yX1_depart : MethodName := ⟨RX1, "depart", "(III)V"⟩
abbrev cX1_change : ByteArray := prog_3_method_7_code
def yX1_change : MethodName := ⟨RX1, "change", "(II)V"⟩
abbrev cX1_pass : ByteArray := prog_3_method_8_code
def yX1_pass : MethodName := ⟨RX1, "pass", "(I)V"⟩
abbrev cX1_tick : ByteArray := prog_3_method_9_code
def yX1_tick : MethodName := ⟨RX1, "tick", "()V"⟩
abbrev cX1_goOn : ByteArray := prog_3_method_10_code
def yX1_goOn : MethodName := ⟨RX1, "goOn", "()V"⟩
abbrev cX1_goOnTheWay : ByteArray := prog_3_method_11_code
def yX1_goOnTheWay : MethodName := ⟨RX1, "goOnTheWay", "(LLentArms$Arm;)V"⟩
abbrev cX1_goOnWorking : ByteArray := prog_3_method_12_code
def yX1_goOnWorking : MethodName := ⟨RX1, "goOnWorking", "(LLentArms$Arm;)V"⟩
abbrev cX1_takeLoads : ByteArray := prog_3_method_13_code
def yX1_takeLoads : MethodName := ⟨RX1, "takeLoads", "()V"⟩
abbrev cX1_goHome : ByteArray := prog_3_method_14_code
def yX1_goHome : MethodName := ⟨RX1, "goHome", "()V"⟩
abbrev cX1_lookInBasins : ByteArray := prog_3_method_15_code
def yX1_lookInBasins : MethodName := ⟨RX1, "lookInBasins", "()V"⟩
abbrev cX1_lookOverPort : ByteArray := prog_3_method_16_code
def yX1_lookOverPort : MethodName := ⟨RX1, "lookOverPort", "()V"⟩
abbrev cX1_lend : ByteArray := prog_3_method_17_code
def yX1_lend : MethodName := ⟨RX1, "lend", "(III)V"⟩
abbrev cX1_planNextLook : ByteArray := prog_3_method_18_code
def yX1_planNextLook : MethodName := ⟨RX1, "planNextLook", "(IZ)V"⟩
abbrev cX1_neediest : ByteArray := prog_3_method_19_code
def yX1_neediest : MethodName := ⟨RX1, "neediest", "(II)I"⟩
abbrev cX1_helperFor : ByteArray := prog_3_method_20_code
def yX1_helperFor : MethodName := ⟨RX1, "helperFor", "(IZ)I"⟩
abbrev cX1_waitingTogether : ByteArray := prog_3_method_22_code
def yX1_waitingTogether : MethodName := ⟨RX1, "waitingTogether", "()I"⟩
abbrev cX1_armsThat : ByteArray := prog_3_method_23_code
def yX1_armsThat : MethodName := ⟨RX1, "armsThat", "(I)I"⟩
abbrev cX1_armsAt : ByteArray := prog_3_method_24_code
def yX1_armsAt : MethodName := ⟨RX1, "armsAt", "(II)I"⟩
abbrev cX1_tiedArms : ByteArray := prog_3_method_25_code
def yX1_tiedArms : MethodName := ⟨RX1, "tiedArms", "()I"⟩
abbrev cX1_armsAway : ByteArray := prog_3_method_26_code
def yX1_armsAway : MethodName := ⟨RX1, "armsAway", "()I"⟩
def RX2 : String := "LentArms$Line"
def TX2 : u_T := fun k => match k with
  | 0 => ("LentArms$Line", "work", "[I", true)
  | 1 => ("LentArms$Line", "came", "[I", true)
  | 2 => ("LentArms$Line", "length", "I", false)
  | 3 => ("LentArms$Line", "loadsDone", "I", false)
  | _ => ("LentArms$Line", "coming", "I", false)
def tyX2 : Nat → FieldType := fun k => match k with
  | 0 => .array .int
  | 1 => .array .int
  | 2 => .int
  | 3 => .int
  | _ => .int
abbrev wsX20 : List Cond := u_ws RX2 TX2 5
theorem nmX2 : ∀ a, a < 5 → ∀ b, b < 5 → a ≠ b → (TX2 a).2.1 ≠ (TX2 b).2.1 := by decide +kernel
theorem tyX2_ok : ∀ k, k < 5 → parseFieldDescriptor (TX2 k).2.2.1 = some (tyX2 k) := by decide +kernel
abbrev cX2_init : ByteArray := prog_4_method_1_code
def yX2_init : MethodName := ⟨RX2, "<init>", "()V"⟩
abbrev cX2_copyFrom : ByteArray := prog_4_method_2_code
def yX2_copyFrom : MethodName := ⟨RX2, "copyFrom", "(LLentArms$Line;)V"⟩
abbrev cX2_append : ByteArray := prog_4_method_3_code
def yX2_append : MethodName := ⟨RX2, "append", "(II)V"⟩
abbrev cX2_putFirst : ByteArray := prog_4_method_4_code
def yX2_putFirst : MethodName := ⟨RX2, "putFirst", "(II)V"⟩
abbrev cX2_takeFirst : ByteArray := prog_4_method_5_code
def yX2_takeFirst : MethodName := ⟨RX2, "takeFirst", "()I"⟩
abbrev cX2_open : ByteArray := prog_4_method_6_code
def yX2_open : MethodName := ⟨RX2, "open", "()I"⟩
abbrev cX2_workTogether : ByteArray := prog_4_method_7_code
def yX2_workTogether : MethodName := ⟨RX2, "workTogether", "()I"⟩
abbrev cX2_longestWait : ByteArray := prog_4_method_8_code
def yX2_longestWait : MethodName := ⟨RX2, "longestWait", "(I)I"⟩
def RX3 : String := "LentArms$LoadText"
def TX3 : u_T := fun k => match k with
  | 0 => ("LentArms$LoadText", "signs", "[C", true)
  | 1 => ("LentArms$LoadText", "length", "I", false)
  | 2 => ("LentArms$LoadText", "place", "I", false)
  | 3 => ("LentArms$LoadText", "rows", "I", false)
  | 4 => ("LentArms$LoadText", "quays", "[I", true)
  | 5 => ("LentArms$LoadText", "works", "[I", true)
  | _ => ("LentArms$LoadText", "times", "[I", true)
def tyX3 : Nat → FieldType := fun k => match k with
  | 0 => .array .char
  | 1 => .int
  | 2 => .int
  | 3 => .int
  | 4 => .array .int
  | 5 => .array .int
  | _ => .array .int
abbrev wsX30 : List Cond := u_ws RX3 TX3 7
theorem nmX3 : ∀ a, a < 7 → ∀ b, b < 7 → a ≠ b → (TX3 a).2.1 ≠ (TX3 b).2.1 := by decide +kernel
theorem tyX3_ok : ∀ k, k < 7 → parseFieldDescriptor (TX3 k).2.2.1 = some (tyX3 k) := by decide +kernel
abbrev cX3_init : ByteArray := prog_5_method_1_code
def yX3_init : MethodName := ⟨RX3, "<init>", "()V"⟩
def RX4 : String := "LentArms$WayLog"
def TX4 : u_T := fun k => match k with
  | 0 => ("LentArms$WayLog", "facts", "[I", true)
  | _ => ("LentArms$WayLog", "total", "I", false)
def tyX4 : Nat → FieldType := fun k => match k with
  | 0 => .array .int
  | _ => .int
abbrev wsX40 : List Cond := u_ws RX4 TX4 2
theorem nmX4 : ∀ a, a < 2 → ∀ b, b < 2 → a ≠ b → (TX4 a).2.1 ≠ (TX4 b).2.1 := by decide +kernel
theorem tyX4_ok : ∀ k, k < 2 → parseFieldDescriptor (TX4 k).2.2.1 = some (tyX4 k) := by decide +kernel
abbrev cX4_init : ByteArray := prog_6_method_1_code
def yX4_init : MethodName := ⟨RX4, "<init>", "()V"⟩
abbrev cX4_copyFrom : ByteArray := prog_6_method_2_code
def yX4_copyFrom : MethodName := ⟨RX4, "copyFrom", "(LLentArms$WayLog;)V"⟩
abbrev cX4_note : ByteArray := prog_6_method_3_code
def yX4_note : MethodName := ⟨RX4, "note", "(IIIII)V"⟩
def RX5 : String := "LentArms"
def TX5 : u_T := fun k => match k with
  | 0 => ("LentArms", "now", "LLentArms$Harbour;", true)
  | 1 => ("LentArms", "past", "[LLentArms$Harbour;", true)
  | 2 => ("LentArms", "pastStates", "I", false)
  | 3 => ("LentArms", "snapshot", "LLentArms$Harbour;", true)
  | 4 => ("LentArms", "hasSnapshot", "Z", false)
  | 5 => ("LentArms", "trial", "LLentArms$Harbour;", true)
  | _ => ("LentArms", "text", "LLentArms$LoadText;", true)
def tyX5 : Nat → FieldType := fun k => match k with
  | 0 => .object "LentArms$Harbour"
  | 1 => .array (.object "LentArms$Harbour")
  | 2 => .int
  | 3 => .object "LentArms$Harbour"
  | 4 => .boolean
  | 5 => .object "LentArms$Harbour"
  | _ => .object "LentArms$LoadText"
abbrev wsX50 : List Cond := u_ws RX5 TX5 7
theorem nmX5 : ∀ a, a < 7 → ∀ b, b < 7 → a ≠ b → (TX5 a).2.1 ≠ (TX5 b).2.1 := by decide +kernel
theorem tyX5_ok : ∀ k, k < 7 → parseFieldDescriptor (TX5 k).2.2.1 = some (tyX5 k) := by decide +kernel
abbrev cX5_init : ByteArray := prog_1_method_1_code
def yX5_init : MethodName := ⟨RX5, "<init>", "()V"⟩
abbrev cX5_addArm : ByteArray := prog_1_method_2_code
def yX5_addArm : MethodName := ⟨RX5, "addArm", "(IZ)I"⟩
abbrev cX5_removeArm : ByteArray := prog_1_method_3_code
def yX5_removeArm : MethodName := ⟨RX5, "removeArm", "(I)I"⟩
abbrev cX5_tie : ByteArray := prog_1_method_4_code
def yX5_tie : MethodName := ⟨RX5, "tie", "(IZ)I"⟩
abbrev cX5_moveHome : ByteArray := prog_1_method_5_code
def yX5_moveHome : MethodName := ⟨RX5, "moveHome", "(II)I"⟩
abbrev cX5_send : ByteArray := prog_1_method_6_code
def yX5_send : MethodName := ⟨RX5, "send", "(II)I"⟩
abbrev cX5_load : ByteArray := prog_1_method_7_code
def yX5_load : MethodName := ⟨RX5, "load", "(II)I"⟩
abbrev cX5_run : ByteArray := prog_1_method_9_code
def yX5_run : MethodName := ⟨RX5, "run", "(I)I"⟩
abbrev cX5_set : ByteArray := prog_1_method_10_code
def yX5_set : MethodName := ⟨RX5, "set", "(II)I"⟩
abbrev cX5_arm : ByteArray := prog_1_method_16_code
def yX5_arm : MethodName := ⟨RX5, "arm", "(II)I"⟩
abbrev cX5_quay : ByteArray := prog_1_method_17_code
def yX5_quay : MethodName := ⟨RX5, "quay", "(II)I"⟩
abbrev cX5_ifRun : ByteArray := prog_1_method_21_code
def yX5_ifRun : MethodName := ⟨RX5, "ifRun", "(II)I"⟩
abbrev cX5_count : ByteArray := prog_1_method_23_code
def yX5_count : MethodName := ⟨RX5, "count", "(I)I"⟩
abbrev cX5_isQuay : ByteArray := prog_1_method_24_code
def yX5_isQuay : MethodName := ⟨RX5, "isQuay", "(I)Z"⟩
abbrev cX5_inOneBasin : ByteArray := prog_1_method_25_code
def yX5_inOneBasin : MethodName := ⟨RX5, "inOneBasin", "(II)Z"⟩
abbrev cX5_remember : ByteArray := prog_1_method_26_code
def yX5_remember : MethodName := ⟨RX5, "remember", "()V"⟩
abbrev cX5_dropOldest : ByteArray := prog_1_method_27_code
def yX5_dropOldest : MethodName := ⟨RX5, "dropOldest", "()V"⟩
def RX6 : String := "LentArmsModel"
def TX6 : u_T := fun k => match k with
  | _ => ("", "", "", false)
def tyX6 : Nat → FieldType := fun k => match k with
  | _ => .int
abbrev wsX60 : List Cond := u_ws RX6 TX6 0
theorem nmX6 : ∀ a, a < 0 → ∀ b, b < 0 → a ≠ b → (TX6 a).2.1 ≠ (TX6 b).2.1 := by decide +kernel
theorem tyX6_ok : ∀ k, k < 0 → parseFieldDescriptor (TX6 k).2.2.1 = some (tyX6 k) := by decide +kernel
def RJ9 : String := "java/lang/Math"
def TJ9 : u_T := fun k => match k with
  | _ => ("", "", "", false)
def tyJ9 : Nat → FieldType := fun k => match k with
  | _ => .int
abbrev wsJ90 : List Cond := u_ws RJ9 TJ9 0
theorem nmJ9 : ∀ a, a < 0 → ∀ b, b < 0 → a ≠ b → (TJ9 a).2.1 ≠ (TJ9 b).2.1 := by decide +kernel
theorem tyJ9_ok : ∀ k, k < 0 → parseFieldDescriptor (TJ9 k).2.2.1 = some (tyJ9 k) := by decide +kernel
abbrev cJ9_max_7cf53 : ByteArray := prog_9_method_65_code
def yJ9_max_7cf53 : MethodName := ⟨RJ9, "max", "(II)I"⟩
abbrev cJ9_min_7cf53 : ByteArray := prog_9_method_69_code
def yJ9_min_7cf53 : MethodName := ⟨RJ9, "min", "(II)I"⟩
def RJ10 : String := "java/lang/System"
def TJ10 : u_T := fun k => match k with
  | _ => ("", "", "", false)
def tyJ10 : Nat → FieldType := fun k => match k with
  | _ => .int
abbrev wsJ100 : List Cond := u_ws RJ10 TJ10 0
theorem nmJ10 : ∀ a, a < 0 → ∀ b, b < 0 → a ≠ b → (TJ10 a).2.1 ≠ (TJ10 b).2.1 := by decide +kernel
theorem tyJ10_ok : ∀ k, k < 0 → parseFieldDescriptor (TJ10 k).2.2.1 = some (tyJ10 k) := by decide +kernel
def RL : String := "LentArmsLaw"
abbrev cL_low : ByteArray := method_2_code
def yL_low : MethodName := ⟨RL, "low", "(II)I"⟩
abbrev cL_cell : ByteArray := method_3_code
def yL_cell : MethodName := ⟨RL, "cell", "([II)I"⟩
abbrev cL_harbour : ByteArray := method_4_code
def yL_harbour : MethodName := ⟨RL, "harbour", "(LLentArms;Z)Z"⟩
abbrev cL_looked : ByteArray := method_5_code
def yL_looked : MethodName := ⟨RL, "looked", "(LLentArms;)Z"⟩
abbrev cL_act : ByteArray := method_6_code
def yL_act : MethodName := ⟨RL, "act", "(LLentArms;[II)I"⟩
abbrev cL_law : ByteArray := code
def yL_law : MethodName := ⟨RL, "law", "([I)Z"⟩
abbrev vwCl : List vw_C := [(RX0, TX0, 8), (RX1, TX1, 11), (RX2, TX2, 5), (RX3, TX3, 7), (RX4, TX4, 2), (RX5, TX5, 7)]
