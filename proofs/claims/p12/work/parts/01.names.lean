-- ===== PART A: goes FIRST, ahead of the names: the tables' words, and 'selects' of the private methods out of them =====
/-- a private method of a class that the tables say can be made, by its rows of tables_1 -/
def lw_okq (q : MethodName × Nat) : Prop := (q.1.cls ≠ "java/lang/invoke/MethodHandle" ∧ q.1.cls ≠ "java/lang/invoke/VarHandle") ∧ Cond.instantiable q.1.cls q.2 ∈ tables_1 ∧ Cond.privateMethod q.1 ∈ tables_1 ∧ Cond.instanceMethod q.1 ∈ tables_1
theorem lw_p0 : lw_okq (⟨"LentArms", "remember", "()V"⟩, 7) := ⟨⟨by decide +kernel, by decide +kernel⟩, List.mem_of_getElem? (i := 11) (by decide +kernel), List.mem_of_getElem? (i := 229) (by decide +kernel), List.mem_of_getElem? (i := 230) (by decide +kernel)⟩
theorem lw_p1 : lw_okq (⟨"LentArms", "dropOldest", "()V"⟩, 7) := ⟨⟨by decide +kernel, by decide +kernel⟩, List.mem_of_getElem? (i := 11) (by decide +kernel), List.mem_of_getElem? (i := 233) (by decide +kernel), List.mem_of_getElem? (i := 234) (by decide +kernel)⟩
theorem lw_p2 : lw_okq (⟨"LentArms$LoadText", "readLoad", "()Z"⟩, 7) := ⟨⟨by decide +kernel, by decide +kernel⟩, List.mem_of_getElem? (i := 166) (by decide +kernel), List.mem_of_getElem? (i := 329) (by decide +kernel), List.mem_of_getElem? (i := 330) (by decide +kernel)⟩
theorem lw_p3 : lw_okq (⟨"LentArms$LoadText", "readNumber", "(II)I"⟩, 7) := ⟨⟨by decide +kernel, by decide +kernel⟩, List.mem_of_getElem? (i := 166) (by decide +kernel), List.mem_of_getElem? (i := 333) (by decide +kernel), List.mem_of_getElem? (i := 334) (by decide +kernel)⟩
theorem lw_p4 : lw_okq (⟨"LentArms$LoadText", "digit", "()I"⟩, 7) := ⟨⟨by decide +kernel, by decide +kernel⟩, List.mem_of_getElem? (i := 166) (by decide +kernel), List.mem_of_getElem? (i := 337) (by decide +kernel), List.mem_of_getElem? (i := 338) (by decide +kernel)⟩
theorem lw_p5 : lw_okq (⟨"LentArms$LoadText", "skip", "(C)Z"⟩, 7) := ⟨⟨by decide +kernel, by decide +kernel⟩, List.mem_of_getElem? (i := 166) (by decide +kernel), List.mem_of_getElem? (i := 341) (by decide +kernel), List.mem_of_getElem? (i := 342) (by decide +kernel)⟩
theorem lw_p6 : lw_okq (⟨"LentArms$Harbour", "tick", "()V"⟩, 11) := ⟨⟨by decide +kernel, by decide +kernel⟩, List.mem_of_getElem? (i := 19) (by decide +kernel), List.mem_of_getElem? (i := 362) (by decide +kernel), List.mem_of_getElem? (i := 363) (by decide +kernel)⟩
theorem lw_p7 : lw_okq (⟨"LentArms$Harbour", "goOn", "()V"⟩, 11) := ⟨⟨by decide +kernel, by decide +kernel⟩, List.mem_of_getElem? (i := 19) (by decide +kernel), List.mem_of_getElem? (i := 366) (by decide +kernel), List.mem_of_getElem? (i := 367) (by decide +kernel)⟩
theorem lw_p8 : lw_okq (⟨"LentArms$Harbour", "goOnTheWay", "(LLentArms$Arm;)V"⟩, 11) := ⟨⟨by decide +kernel, by decide +kernel⟩, List.mem_of_getElem? (i := 19) (by decide +kernel), List.mem_of_getElem? (i := 370) (by decide +kernel), List.mem_of_getElem? (i := 371) (by decide +kernel)⟩
theorem lw_p9 : lw_okq (⟨"LentArms$Harbour", "goOnWorking", "(LLentArms$Arm;)V"⟩, 11) := ⟨⟨by decide +kernel, by decide +kernel⟩, List.mem_of_getElem? (i := 19) (by decide +kernel), List.mem_of_getElem? (i := 374) (by decide +kernel), List.mem_of_getElem? (i := 375) (by decide +kernel)⟩
theorem lw_p10 : lw_okq (⟨"LentArms$Harbour", "takeLoads", "()V"⟩, 11) := ⟨⟨by decide +kernel, by decide +kernel⟩, List.mem_of_getElem? (i := 19) (by decide +kernel), List.mem_of_getElem? (i := 378) (by decide +kernel), List.mem_of_getElem? (i := 379) (by decide +kernel)⟩
theorem lw_p11 : lw_okq (⟨"LentArms$Harbour", "lookInBasins", "()V"⟩, 11) := ⟨⟨by decide +kernel, by decide +kernel⟩, List.mem_of_getElem? (i := 19) (by decide +kernel), List.mem_of_getElem? (i := 386) (by decide +kernel), List.mem_of_getElem? (i := 387) (by decide +kernel)⟩
theorem lw_p12 : lw_okq (⟨"LentArms$Harbour", "lend", "(III)V"⟩, 11) := ⟨⟨by decide +kernel, by decide +kernel⟩, List.mem_of_getElem? (i := 19) (by decide +kernel), List.mem_of_getElem? (i := 390) (by decide +kernel), List.mem_of_getElem? (i := 391) (by decide +kernel)⟩
theorem lw_p13 : lw_okq (⟨"LentArms$Harbour", "neediest", "(II)I"⟩, 11) := ⟨⟨by decide +kernel, by decide +kernel⟩, List.mem_of_getElem? (i := 19) (by decide +kernel), List.mem_of_getElem? (i := 394) (by decide +kernel), List.mem_of_getElem? (i := 395) (by decide +kernel)⟩
theorem lw_p14 : lw_okq (⟨"LentArms$Harbour", "helperFor", "(IZ)I"⟩, 11) := ⟨⟨by decide +kernel, by decide +kernel⟩, List.mem_of_getElem? (i := 19) (by decide +kernel), List.mem_of_getElem? (i := 402) (by decide +kernel), List.mem_of_getElem? (i := 403) (by decide +kernel)⟩
theorem lw_p15 : lw_okq (⟨"LentArms$Harbour", "planNextLook", "(IZ)V"⟩, 11) := ⟨⟨by decide +kernel, by decide +kernel⟩, List.mem_of_getElem? (i := 19) (by decide +kernel), List.mem_of_getElem? (i := 407) (by decide +kernel), List.mem_of_getElem? (i := 408) (by decide +kernel)⟩
def lw_privs_1 : List (MethodName × Nat) := [(⟨"LentArms", "remember", "()V"⟩, 7), (⟨"LentArms", "dropOldest", "()V"⟩, 7), (⟨"LentArms$LoadText", "readLoad", "()Z"⟩, 7), (⟨"LentArms$LoadText", "readNumber", "(II)I"⟩, 7), (⟨"LentArms$LoadText", "digit", "()I"⟩, 7), (⟨"LentArms$LoadText", "skip", "(C)Z"⟩, 7), (⟨"LentArms$Harbour", "tick", "()V"⟩, 11), (⟨"LentArms$Harbour", "goOn", "()V"⟩, 11), (⟨"LentArms$Harbour", "goOnTheWay", "(LLentArms$Arm;)V"⟩, 11), (⟨"LentArms$Harbour", "goOnWorking", "(LLentArms$Arm;)V"⟩, 11), (⟨"LentArms$Harbour", "takeLoads", "()V"⟩, 11), (⟨"LentArms$Harbour", "lookInBasins", "()V"⟩, 11), (⟨"LentArms$Harbour", "lend", "(III)V"⟩, 11), (⟨"LentArms$Harbour", "neediest", "(II)I"⟩, 11), (⟨"LentArms$Harbour", "helperFor", "(IZ)I"⟩, 11), (⟨"LentArms$Harbour", "planNextLook", "(IZ)V"⟩, 11)]
theorem lw_r1 : ∀ q ∈ lw_privs_1, lw_okq q := List.forall_mem_cons.mpr ⟨lw_p0, List.forall_mem_cons.mpr ⟨lw_p1, List.forall_mem_cons.mpr ⟨lw_p2, List.forall_mem_cons.mpr ⟨lw_p3, List.forall_mem_cons.mpr ⟨lw_p4, List.forall_mem_cons.mpr ⟨lw_p5, List.forall_mem_cons.mpr ⟨lw_p6, List.forall_mem_cons.mpr ⟨lw_p7, List.forall_mem_cons.mpr ⟨lw_p8, List.forall_mem_cons.mpr ⟨lw_p9, List.forall_mem_cons.mpr ⟨lw_p10, List.forall_mem_cons.mpr ⟨lw_p11, List.forall_mem_cons.mpr ⟨lw_p12, List.forall_mem_cons.mpr ⟨lw_p13, List.forall_mem_cons.mpr ⟨lw_p14, List.forall_mem_cons.mpr ⟨lw_p15, fun _ h => absurd h List.not_mem_nil⟩⟩⟩⟩⟩⟩⟩⟩⟩⟩⟩⟩⟩⟩⟩⟩
theorem lw_p16 : lw_okq (⟨"LentArms$Harbour", "lookOverPort", "()V"⟩, 11) := ⟨⟨by decide +kernel, by decide +kernel⟩, List.mem_of_getElem? (i := 19) (by decide +kernel), List.mem_of_getElem? (i := 414) (by decide +kernel), List.mem_of_getElem? (i := 415) (by decide +kernel)⟩
theorem lw_p17 : lw_okq (⟨"LentArms$Harbour", "goHome", "()V"⟩, 11) := ⟨⟨by decide +kernel, by decide +kernel⟩, List.mem_of_getElem? (i := 19) (by decide +kernel), List.mem_of_getElem? (i := 418) (by decide +kernel), List.mem_of_getElem? (i := 419) (by decide +kernel)⟩
theorem lw_p18 : lw_okq (⟨"LentArmsModel", "records", "()V"⟩, 12) := ⟨⟨by decide +kernel, by decide +kernel⟩, List.mem_of_getElem? (i := 537) (by decide +kernel), List.mem_of_getElem? (i := 595) (by decide +kernel), List.mem_of_getElem? (i := 596) (by decide +kernel)⟩
theorem lw_p19 : lw_okq (⟨"LentArmsModel", "isArm", "(I)Z"⟩, 12) := ⟨⟨by decide +kernel, by decide +kernel⟩, List.mem_of_getElem? (i := 537) (by decide +kernel), List.mem_of_getElem? (i := 616) (by decide +kernel), List.mem_of_getElem? (i := 617) (by decide +kernel)⟩
theorem lw_p20 : lw_okq (⟨"LentArmsModel", "leads", "(II)V"⟩, 12) := ⟨⟨by decide +kernel, by decide +kernel⟩, List.mem_of_getElem? (i := 537) (by decide +kernel), List.mem_of_getElem? (i := 626) (by decide +kernel), List.mem_of_getElem? (i := 627) (by decide +kernel)⟩
theorem lw_p21 : lw_okq (⟨"LentArmsModel", "tied", "()I"⟩, 12) := ⟨⟨by decide +kernel, by decide +kernel⟩, List.mem_of_getElem? (i := 537) (by decide +kernel), List.mem_of_getElem? (i := 634) (by decide +kernel), List.mem_of_getElem? (i := 635) (by decide +kernel)⟩
theorem lw_p22 : lw_okq (⟨"LentArmsModel", "loads", "(II)V"⟩, 12) := ⟨⟨by decide +kernel, by decide +kernel⟩, List.mem_of_getElem? (i := 537) (by decide +kernel), List.mem_of_getElem? (i := 653) (by decide +kernel), List.mem_of_getElem? (i := 654) (by decide +kernel)⟩
theorem lw_p23 : lw_okq (⟨"LentArmsModel", "isText", "()Z"⟩, 12) := ⟨⟨by decide +kernel, by decide +kernel⟩, List.mem_of_getElem? (i := 537) (by decide +kernel), List.mem_of_getElem? (i := 661) (by decide +kernel), List.mem_of_getElem? (i := 662) (by decide +kernel)⟩
theorem lw_p24 : lw_okq (⟨"LentArmsModel", "isPart", "()Z"⟩, 12) := ⟨⟨by decide +kernel, by decide +kernel⟩, List.mem_of_getElem? (i := 537) (by decide +kernel), List.mem_of_getElem? (i := 665) (by decide +kernel), List.mem_of_getElem? (i := 666) (by decide +kernel)⟩
theorem lw_p25 : lw_okq (⟨"LentArmsModel", "isNumber", "(II)Z"⟩, 12) := ⟨⟨by decide +kernel, by decide +kernel⟩, List.mem_of_getElem? (i := 537) (by decide +kernel), List.mem_of_getElem? (i := 669) (by decide +kernel), List.mem_of_getElem? (i := 670) (by decide +kernel)⟩
theorem lw_p26 : lw_okq (⟨"LentArmsModel", "isAt", "(II)Z"⟩, 12) := ⟨⟨by decide +kernel, by decide +kernel⟩, List.mem_of_getElem? (i := 537) (by decide +kernel), List.mem_of_getElem? (i := 673) (by decide +kernel), List.mem_of_getElem? (i := 674) (by decide +kernel)⟩
theorem lw_p27 : lw_okq (⟨"LentArmsModel", "isTooFull", "(I)Z"⟩, 12) := ⟨⟨by decide +kernel, by decide +kernel⟩, List.mem_of_getElem? (i := 537) (by decide +kernel), List.mem_of_getElem? (i := 677) (by decide +kernel), List.mem_of_getElem? (i := 678) (by decide +kernel)⟩
theorem lw_p28 : lw_okq (⟨"LentArmsModel", "arms", "(II)I"⟩, 12) := ⟨⟨by decide +kernel, by decide +kernel⟩, List.mem_of_getElem? (i := 537) (by decide +kernel), List.mem_of_getElem? (i := 745) (by decide +kernel), List.mem_of_getElem? (i := 746) (by decide +kernel)⟩
theorem lw_p29 : lw_okq (⟨"LentArmsModel", "workAt", "(I)I"⟩, 12) := ⟨⟨by decide +kernel, by decide +kernel⟩, List.mem_of_getElem? (i := 537) (by decide +kernel), List.mem_of_getElem? (i := 749) (by decide +kernel), List.mem_of_getElem? (i := 750) (by decide +kernel)⟩
theorem lw_p30 : lw_okq (⟨"LentArmsModel", "longest", "(I)I"⟩, 12) := ⟨⟨by decide +kernel, by decide +kernel⟩, List.mem_of_getElem? (i := 537) (by decide +kernel), List.mem_of_getElem? (i := 753) (by decide +kernel), List.mem_of_getElem? (i := 754) (by decide +kernel)⟩
theorem lw_p31 : lw_okq (⟨"LentArmsModel", "isBehind", "(II)Z"⟩, 12) := ⟨⟨by decide +kernel, by decide +kernel⟩, List.mem_of_getElem? (i := 537) (by decide +kernel), List.mem_of_getElem? (i := 765) (by decide +kernel), List.mem_of_getElem? (i := 766) (by decide +kernel)⟩
def lw_privs_2 : List (MethodName × Nat) := [(⟨"LentArms$Harbour", "lookOverPort", "()V"⟩, 11), (⟨"LentArms$Harbour", "goHome", "()V"⟩, 11), (⟨"LentArmsModel", "records", "()V"⟩, 12), (⟨"LentArmsModel", "isArm", "(I)Z"⟩, 12), (⟨"LentArmsModel", "leads", "(II)V"⟩, 12), (⟨"LentArmsModel", "tied", "()I"⟩, 12), (⟨"LentArmsModel", "loads", "(II)V"⟩, 12), (⟨"LentArmsModel", "isText", "()Z"⟩, 12), (⟨"LentArmsModel", "isPart", "()Z"⟩, 12), (⟨"LentArmsModel", "isNumber", "(II)Z"⟩, 12), (⟨"LentArmsModel", "isAt", "(II)Z"⟩, 12), (⟨"LentArmsModel", "isTooFull", "(I)Z"⟩, 12), (⟨"LentArmsModel", "arms", "(II)I"⟩, 12), (⟨"LentArmsModel", "workAt", "(I)I"⟩, 12), (⟨"LentArmsModel", "longest", "(I)I"⟩, 12), (⟨"LentArmsModel", "isBehind", "(II)Z"⟩, 12)]
theorem lw_r2 : ∀ q ∈ lw_privs_2, lw_okq q := List.forall_mem_cons.mpr ⟨lw_p16, List.forall_mem_cons.mpr ⟨lw_p17, List.forall_mem_cons.mpr ⟨lw_p18, List.forall_mem_cons.mpr ⟨lw_p19, List.forall_mem_cons.mpr ⟨lw_p20, List.forall_mem_cons.mpr ⟨lw_p21, List.forall_mem_cons.mpr ⟨lw_p22, List.forall_mem_cons.mpr ⟨lw_p23, List.forall_mem_cons.mpr ⟨lw_p24, List.forall_mem_cons.mpr ⟨lw_p25, List.forall_mem_cons.mpr ⟨lw_p26, List.forall_mem_cons.mpr ⟨lw_p27, List.forall_mem_cons.mpr ⟨lw_p28, List.forall_mem_cons.mpr ⟨lw_p29, List.forall_mem_cons.mpr ⟨lw_p30, List.forall_mem_cons.mpr ⟨lw_p31, fun _ h => absurd h List.not_mem_nil⟩⟩⟩⟩⟩⟩⟩⟩⟩⟩⟩⟩⟩⟩⟩⟩
theorem lw_p32 : lw_okq (⟨"LentArmsModel", "away", "()I"⟩, 12) := ⟨⟨by decide +kernel, by decide +kernel⟩, List.mem_of_getElem? (i := 537) (by decide +kernel), List.mem_of_getElem? (i := 785) (by decide +kernel), List.mem_of_getElem? (i := 786) (by decide +kernel)⟩
def lw_privs_3 : List (MethodName × Nat) := [(⟨"LentArmsModel", "away", "()I"⟩, 12)]
theorem lw_r3 : ∀ q ∈ lw_privs_3, lw_okq q := List.forall_mem_cons.mpr ⟨lw_p32, fun _ h => absurd h List.not_mem_nil⟩
def lw_privs : List (MethodName × Nat) := lw_privs_1 ++ (lw_privs_2 ++ (lw_privs_3))
def lw_tbl : List Cond := k2_sels lw_privs ++ tables_1
theorem lw_privs_ok : ∀ q ∈ lw_privs, lw_okq q := by
  show ∀ q ∈ lw_privs_1 ++ (lw_privs_2 ++ (lw_privs_3)), lw_okq q
  exact List.forall_mem_append.mpr ⟨lw_r1, List.forall_mem_append.mpr ⟨lw_r2, lw_r3⟩⟩
/-! ===== BEGIN printed: names, fields, word lists, decode rows ===== -/
def RX0 : String := "LentArms$Arm"
def TX0 : u_T := fun k => match k with
  | 0 => ("LentArms$Arm", "home", "I", false)
  | 1 => ("LentArms$Arm", "quay", "I", false)
  | 2 => ("LentArms$Arm", "doing", "I", false)
  | 3 => ("LentArms$Arm", "left", "I", false)
  | 4 => ("LentArms$Arm", "tied", "Z", false)
  | 5 => ("LentArms$Arm", "loadsDone", "I", false)
  | 6 => ("LentArms$Arm", "waysGone", "I", false)
  | _ => ("LentArms$Arm", "idleTicks", "I", false)
def tyX0 : Nat → FieldType := fun k => match k with
  | 0 => .int
  | 1 => .int
  | 2 => .int
  | 3 => .int
  | 4 => .boolean
  | 5 => .int
  | 6 => .int
  | _ => .int
abbrev wsX00 : List Cond := u_ws RX0 TX0 8
theorem nmX0 : ∀ a, a < 8 → ∀ b, b < 8 → a ≠ b → (TX0 a).2.1 ≠ (TX0 b).2.1 := by decide +kernel
theorem tyX0_ok : ∀ k, k < 8 → parseFieldDescriptor (TX0 k).2.2.1 = some (tyX0 k) := by decide +kernel
abbrev cX0_init : ByteArray := prog_2_method_1_code
def yX0_init : MethodName := ⟨RX0, "<init>", "()V"⟩
abbrev cX0_begin : ByteArray := prog_2_method_2_code
def yX0_begin : MethodName := ⟨RX0, "begin", "(IZ)V"⟩
abbrev cX0_copyFrom : ByteArray := prog_2_method_3_code
def yX0_copyFrom : MethodName := ⟨RX0, "copyFrom", "(LLentArms$Arm;)V"⟩
abbrev cX0_setOut : ByteArray := prog_2_method_4_code
def yX0_setOut : MethodName := ⟨RX0, "setOut", "(II)V"⟩
abbrev cX0_isIdleAway : ByteArray := prog_2_method_5_code
def yX0_isIdleAway : MethodName := ⟨RX0, "isIdleAway", "()Z"⟩
abbrev cX0_idleTicksAway : ByteArray := prog_2_method_6_code
def yX0_idleTicksAway : MethodName := ⟨RX0, "idleTicksAway", "()I"⟩
def RX1 : String := "LentArms$Harbour"
def TX1 : u_T := fun k => match k with
  | 0 => ("LentArms$Harbour", "clock", "I", false)
  | 1 => ("LentArms$Harbour", "armCount", "I", false)
  | 2 => ("LentArms$Harbour", "arms", "[LLentArms$Arm;", true)
  | 3 => ("LentArms$Harbour", "lines", "[LLentArms$Line;", true)
  | 4 => ("LentArms$Harbour", "settings", "[I", true)
  | 5 => ("LentArms$Harbour", "distances", "[I", true)
  | 6 => ("LentArms$Harbour", "nextLooks", "[I", true)
  | 7 => ("LentArms$Harbour", "log", "LLentArms$WayLog;", true)
  | 8 => ("LentArms$Harbour", "loadsDone", "I", false)
  | 9 => ("LentArms$Harbour", "workDone", "I", false)
  | _ => ("LentArms$Harbour", "ticksWaited", "I", false)
def tyX1 : Nat → FieldType := fun k => match k with
  | 0 => .int
  | 1 => .int
  | 2 => .array (.object "LentArms$Arm")
  | 3 => .array (.object "LentArms$Line")
  | 4 => .array .int
  | 5 => .array .int
  | 6 => .array .int
  | 7 => .object "LentArms$WayLog"
  | 8 => .int
  | 9 => .int
  | _ => .int
abbrev wsX10 : List Cond := u_ws RX1 TX1 11
theorem nmX1 : ∀ a, a < 11 → ∀ b, b < 11 → a ≠ b → (TX1 a).2.1 ≠ (TX1 b).2.1 := by decide +kernel
theorem tyX1_ok : ∀ k, k < 11 → parseFieldDescriptor (TX1 k).2.2.1 = some (tyX1 k) := by decide +kernel
abbrev cX1_init : ByteArray := prog_3_method_1_code
def yX1_init : MethodName := ⟨RX1, "<init>", "()V"⟩
abbrev cX1_copyFrom : ByteArray := prog_3_method_2_code
def yX1_copyFrom : MethodName := ⟨RX1, "copyFrom", "(LLentArms$Harbour;)V"⟩
abbrev cX1_hasArm : ByteArray := prog_3_method_3_code
def yX1_hasArm : MethodName := ⟨RX1, "hasArm", "(I)Z"⟩
abbrev cX1_append : ByteArray := prog_3_method_4_code
def yX1_append : MethodName := ⟨RX1, "append", "(IZ)V"⟩
abbrev cX1_takeOut : ByteArray := prog_3_method_5_code
def yX1_takeOut : MethodName := ⟨RX1, "takeOut", "(I)V"⟩
abbrev cX1_depart : ByteArray := prog_3_method_6_code
def yX1_depart : MethodName := ⟨RX1, "depart", "(III)V"⟩
abbrev cX1_change : ByteArray := prog_3_method_7_code
def yX1_change : MethodName := ⟨RX1, "change", "(II)V"⟩
abbrev cX1_pass : ByteArray := prog_3_method_8_code
def yX1_pass : MethodName := ⟨RX1, "pass", "(I)V"⟩
abbrev cX1_tick : ByteArray := prog_3_method_9_code
def yX1_tick : MethodName := ⟨RX1, "tick", "()V"⟩
abbrev cX1_goOn : ByteArray := prog_3_method_10_code
def yX1_goOn : MethodName := ⟨RX1, "goOn", "()V"⟩
abbrev cX1_goOnTheWay : ByteArray := prog_3_method_11_code
def yX1_goOnTheWay : MethodName := ⟨RX1, "goOnTheWay", "(LLentArms$Arm;)V"⟩
abbrev cX1_goOnWorking : ByteArray := prog_3_method_12_code
def yX1_goOnWorking : MethodName := ⟨RX1, "goOnWorking", "(LLentArms$Arm;)V"⟩
abbrev cX1_takeLoads : ByteArray := prog_3_method_13_code
def yX1_takeLoads : MethodName := ⟨RX1, "takeLoads", "()V"⟩
abbrev cX1_goHome : ByteArray := prog_3_method_14_code
def yX1_goHome : MethodName := ⟨RX1, "goHome", "()V"⟩
abbrev cX1_lookInBasins : ByteArray := prog_3_method_15_code
def yX1_lookInBasins : MethodName := ⟨RX1, "lookInBasins", "()V"⟩
abbrev cX1_lookOverPort : ByteArray := prog_3_method_16_code
def yX1_lookOverPort : MethodName := ⟨RX1, "lookOverPort", "()V"⟩
abbrev cX1_lend : ByteArray := prog_3_method_17_code
def yX1_lend : MethodName := ⟨RX1, "lend", "(III)V"⟩
abbrev cX1_planNextLook : ByteArray := prog_3_method_18_code
def yX1_planNextLook : MethodName := ⟨RX1, "planNextLook", "(IZ)V"⟩
abbrev cX1_neediest : ByteArray := prog_3_method_19_code
def yX1_neediest : MethodName := ⟨RX1, "neediest", "(II)I"⟩
abbrev cX1_helperFor : ByteArray := prog_3_method_20_code
def yX1_helperFor : MethodName := ⟨RX1, "helperFor", "(IZ)I"⟩
abbrev cX1_isOutdone : ByteArray := prog_3_method_21_code
def yX1_isOutdone : MethodName := ⟨RX1, "isOutdone", "(II)Z"⟩
abbrev cX1_waitingTogether : ByteArray := prog_3_method_22_code
def yX1_waitingTogether : MethodName := ⟨RX1, "waitingTogether", "()I"⟩
abbrev cX1_armsThat : ByteArray := prog_3_method_23_code
def yX1_armsThat : MethodName := ⟨RX1, "armsThat", "(I)I"⟩
abbrev cX1_armsAt : ByteArray := prog_3_method_24_code
def yX1_armsAt : MethodName := ⟨RX1, "armsAt", "(II)I"⟩
abbrev cX1_tiedArms : ByteArray := prog_3_method_25_code
def yX1_tiedArms : MethodName := ⟨RX1, "tiedArms", "()I"⟩
abbrev cX1_armsAway : ByteArray := prog_3_method_26_code
def yX1_armsAway : MethodName := ⟨RX1, "armsAway", "()I"⟩
def RX2 : String := "LentArms$Line"
def TX2 : u_T := fun k => match k with
  | 0 => ("LentArms$Line", "work", "[I", true)
  | 1 => ("LentArms$Line", "came", "[I", true)
  | 2 => ("LentArms$Line", "length", "I", false)
  | 3 => ("LentArms$Line", "loadsDone", "I", false)
  | _ => ("LentArms$Line", "coming", "I", false)
def tyX2 : Nat → FieldType := fun k => match k with
  | 0 => .array .int
  | 1 => .array .int
  | 2 => .int
  | 3 => .int
  | _ => .int
abbrev wsX20 : List Cond := u_ws RX2 TX2 5
theorem nmX2 : ∀ a, a < 5 → ∀ b, b < 5 → a ≠ b → (TX2 a).2.1 ≠ (TX2 b).2.1 := by decide +kernel
theorem tyX2_ok : ∀ k, k < 5 → parseFieldDescriptor (TX2 k).2.2.1 = some (tyX2 k) := by decide +kernel
abbrev cX2_init : ByteArray := prog_4_method_1_code
def yX2_init : MethodName := ⟨RX2, "<init>", "()V"⟩
abbrev cX2_copyFrom : ByteArray := prog_4_method_2_code
def yX2_copyFrom : MethodName := ⟨RX2, "copyFrom", "(LLentArms$Line;)V"⟩
abbrev cX2_append : ByteArray := prog_4_method_3_code
def yX2_append : MethodName := ⟨RX2, "append", "(II)V"⟩
abbrev cX2_putFirst : ByteArray := prog_4_method_4_code
def yX2_putFirst : MethodName := ⟨RX2, "putFirst", "(II)V"⟩
abbrev cX2_takeFirst : ByteArray := prog_4_method_5_code
def yX2_takeFirst : MethodName := ⟨RX2, "takeFirst", "()I"⟩
abbrev cX2_open : ByteArray := prog_4_method_6_code
def yX2_open : MethodName := ⟨RX2, "open", "()I"⟩
abbrev cX2_workTogether : ByteArray := prog_4_method_7_code
def yX2_workTogether : MethodName := ⟨RX2, "workTogether", "()I"⟩
abbrev cX2_longestWait : ByteArray := prog_4_method_8_code
def yX2_longestWait : MethodName := ⟨RX2, "longestWait", "(I)I"⟩
def RX3 : String := "LentArms$LoadText"
def TX3 : u_T := fun k => match k with
  | 0 => ("LentArms$LoadText", "signs", "[C", true)
  | 1 => ("LentArms$LoadText", "length", "I", false)
  | 2 => ("LentArms$LoadText", "place", "I", false)
  | 3 => ("LentArms$LoadText", "rows", "I", false)
  | 4 => ("LentArms$LoadText", "quays", "[I", true)
  | 5 => ("LentArms$LoadText", "works", "[I", true)
  | _ => ("LentArms$LoadText", "times", "[I", true)
def tyX3 : Nat → FieldType := fun k => match k with
  | 0 => .array .char
  | 1 => .int
  | 2 => .int
  | 3 => .int
  | 4 => .array .int
  | 5 => .array .int
  | _ => .array .int
abbrev wsX30 : List Cond := u_ws RX3 TX3 7
theorem nmX3 : ∀ a, a < 7 → ∀ b, b < 7 → a ≠ b → (TX3 a).2.1 ≠ (TX3 b).2.1 := by decide +kernel
theorem tyX3_ok : ∀ k, k < 7 → parseFieldDescriptor (TX3 k).2.2.1 = some (tyX3 k) := by decide +kernel
abbrev cX3_init : ByteArray := prog_5_method_1_code
def yX3_init : MethodName := ⟨RX3, "<init>", "()V"⟩
abbrev cX3_append : ByteArray := prog_5_method_2_code
def yX3_append : MethodName := ⟨RX3, "append", "(C)V"⟩
abbrev cX3_readLoads : ByteArray := prog_5_method_3_code
def yX3_readLoads : MethodName := ⟨RX3, "readLoads", "()I"⟩
abbrev cX3_loadsFor : ByteArray := prog_5_method_4_code
def yX3_loadsFor : MethodName := ⟨RX3, "loadsFor", "(I)I"⟩
abbrev cX3_readLoad : ByteArray := prog_5_method_5_code
def yX3_readLoad : MethodName := ⟨RX3, "readLoad", "()Z"⟩
abbrev cX3_readNumber : ByteArray := prog_5_method_6_code
def yX3_readNumber : MethodName := ⟨RX3, "readNumber", "(II)I"⟩
abbrev cX3_digit : ByteArray := prog_5_method_7_code
def yX3_digit : MethodName := ⟨RX3, "digit", "()I"⟩
abbrev cX3_skip : ByteArray := prog_5_method_8_code
def yX3_skip : MethodName := ⟨RX3, "skip", "(C)Z"⟩
def RX4 : String := "LentArms$WayLog"
def TX4 : u_T := fun k => match k with
  | 0 => ("LentArms$WayLog", "facts", "[I", true)
  | _ => ("LentArms$WayLog", "total", "I", false)
def tyX4 : Nat → FieldType := fun k => match k with
  | 0 => .array .int
  | _ => .int
abbrev wsX40 : List Cond := u_ws RX4 TX4 2
theorem nmX4 : ∀ a, a < 2 → ∀ b, b < 2 → a ≠ b → (TX4 a).2.1 ≠ (TX4 b).2.1 := by decide +kernel
theorem tyX4_ok : ∀ k, k < 2 → parseFieldDescriptor (TX4 k).2.2.1 = some (tyX4 k) := by decide +kernel
abbrev cX4_init : ByteArray := prog_6_method_1_code
def yX4_init : MethodName := ⟨RX4, "<init>", "()V"⟩
abbrev cX4_copyFrom : ByteArray := prog_6_method_2_code
def yX4_copyFrom : MethodName := ⟨RX4, "copyFrom", "(LLentArms$WayLog;)V"⟩
abbrev cX4_note : ByteArray := prog_6_method_3_code
def yX4_note : MethodName := ⟨RX4, "note", "(IIIII)V"⟩
abbrev cX4_kept : ByteArray := prog_6_method_4_code
def yX4_kept : MethodName := ⟨RX4, "kept", "()I"⟩
abbrev cX4_fact : ByteArray := prog_6_method_5_code
def yX4_fact : MethodName := ⟨RX4, "fact", "(II)I"⟩
def RX5 : String := "LentArms"
def TX5 : u_T := fun k => match k with
  | 0 => ("LentArms", "now", "LLentArms$Harbour;", true)
  | 1 => ("LentArms", "past", "[LLentArms$Harbour;", true)
  | 2 => ("LentArms", "pastStates", "I", false)
  | 3 => ("LentArms", "snapshot", "LLentArms$Harbour;", true)
  | 4 => ("LentArms", "hasSnapshot", "Z", false)
  | 5 => ("LentArms", "trial", "LLentArms$Harbour;", true)
  | _ => ("LentArms", "text", "LLentArms$LoadText;", true)
def tyX5 : Nat → FieldType := fun k => match k with
  | 0 => .object "LentArms$Harbour"
  | 1 => .array (.object "LentArms$Harbour")
  | 2 => .int
  | 3 => .object "LentArms$Harbour"
  | 4 => .boolean
  | 5 => .object "LentArms$Harbour"
  | _ => .object "LentArms$LoadText"
abbrev wsX50 : List Cond := u_ws RX5 TX5 7
theorem nmX5 : ∀ a, a < 7 → ∀ b, b < 7 → a ≠ b → (TX5 a).2.1 ≠ (TX5 b).2.1 := by decide +kernel
theorem tyX5_ok : ∀ k, k < 7 → parseFieldDescriptor (TX5 k).2.2.1 = some (tyX5 k) := by decide +kernel
abbrev cX5_init : ByteArray := prog_1_method_1_code
def yX5_init : MethodName := ⟨RX5, "<init>", "()V"⟩
abbrev cX5_addArm : ByteArray := prog_1_method_2_code
def yX5_addArm : MethodName := ⟨RX5, "addArm", "(IZ)I"⟩
abbrev cX5_removeArm : ByteArray := prog_1_method_3_code
def yX5_removeArm : MethodName := ⟨RX5, "removeArm", "(I)I"⟩
abbrev cX5_tie : ByteArray := prog_1_method_4_code
def yX5_tie : MethodName := ⟨RX5, "tie", "(IZ)I"⟩
abbrev cX5_moveHome : ByteArray := prog_1_method_5_code
def yX5_moveHome : MethodName := ⟨RX5, "moveHome", "(II)I"⟩
abbrev cX5_send : ByteArray := prog_1_method_6_code
def yX5_send : MethodName := ⟨RX5, "send", "(II)I"⟩
abbrev cX5_load : ByteArray := prog_1_method_7_code
def yX5_load : MethodName := ⟨RX5, "load", "(II)I"⟩
abbrev cX5_loadAll : ByteArray := prog_1_method_8_code
def yX5_loadAll : MethodName := ⟨RX5, "loadAll", "()I"⟩
abbrev cX5_run : ByteArray := prog_1_method_9_code
def yX5_run : MethodName := ⟨RX5, "run", "(I)I"⟩
abbrev cX5_set : ByteArray := prog_1_method_10_code
def yX5_set : MethodName := ⟨RX5, "set", "(II)I"⟩
abbrev cX5_type : ByteArray := prog_1_method_11_code
def yX5_type : MethodName := ⟨RX5, "type", "(C)I"⟩
abbrev cX5_clearText : ByteArray := prog_1_method_12_code
def yX5_clearText : MethodName := ⟨RX5, "clearText", "()I"⟩
abbrev cX5_undo : ByteArray := prog_1_method_13_code
def yX5_undo : MethodName := ⟨RX5, "undo", "()I"⟩
abbrev cX5_keep : ByteArray := prog_1_method_14_code
def yX5_keep : MethodName := ⟨RX5, "keep", "()I"⟩
abbrev cX5_restore : ByteArray := prog_1_method_15_code
def yX5_restore : MethodName := ⟨RX5, "restore", "()I"⟩
abbrev cX5_arm : ByteArray := prog_1_method_16_code
def yX5_arm : MethodName := ⟨RX5, "arm", "(II)I"⟩
abbrev cX5_quay : ByteArray := prog_1_method_17_code
def yX5_quay : MethodName := ⟨RX5, "quay", "(II)I"⟩
abbrev cX5_waiting : ByteArray := prog_1_method_18_code
def yX5_waiting : MethodName := ⟨RX5, "waiting", "(III)I"⟩
abbrev cX5_reason : ByteArray := prog_1_method_19_code
def yX5_reason : MethodName := ⟨RX5, "reason", "(II)I"⟩
abbrev cX5_way : ByteArray := prog_1_method_20_code
def yX5_way : MethodName := ⟨RX5, "way", "(II)I"⟩
abbrev cX5_ifRun : ByteArray := prog_1_method_21_code
def yX5_ifRun : MethodName := ⟨RX5, "ifRun", "(II)I"⟩
abbrev cX5_bestHome : ByteArray := prog_1_method_22_code
def yX5_bestHome : MethodName := ⟨RX5, "bestHome", "(I)I"⟩
abbrev cX5_count : ByteArray := prog_1_method_23_code
def yX5_count : MethodName := ⟨RX5, "count", "(I)I"⟩
abbrev cX5_isQuay : ByteArray := prog_1_method_24_code
def yX5_isQuay : MethodName := ⟨RX5, "isQuay", "(I)Z"⟩
abbrev cX5_inOneBasin : ByteArray := prog_1_method_25_code
def yX5_inOneBasin : MethodName := ⟨RX5, "inOneBasin", "(II)Z"⟩
abbrev cX5_remember : ByteArray := prog_1_method_26_code
def yX5_remember : MethodName := ⟨RX5, "remember", "()V"⟩
abbrev cX5_dropOldest : ByteArray := prog_1_method_27_code
def yX5_dropOldest : MethodName := ⟨RX5, "dropOldest", "()V"⟩
def RX6 : String := "LentArmsModel"
def TX6 : u_T := fun k => match k with
  | 0 => ("LentArmsModel", "now", "[I", true)
  | 1 => ("LentArmsModel", "then", "[I", true)
  | 2 => ("LentArmsModel", "past", "[I", true)
  | 3 => ("LentArmsModel", "kept", "I", false)
  | 4 => ("LentArmsModel", "snapshot", "[I", true)
  | 5 => ("LentArmsModel", "isFilled", "Z", false)
  | 6 => ("LentArmsModel", "text", "[I", true)
  | 7 => ("LentArmsModel", "typed", "I", false)
  | 8 => ("LentArmsModel", "at", "I", false)
  | 9 => ("LentArmsModel", "value", "I", false)
  | 10 => ("LentArmsModel", "told", "[I", true)
  | _ => ("LentArmsModel", "tolds", "I", false)
def tyX6 : Nat → FieldType := fun k => match k with
  | 0 => .array .int
  | 1 => .array .int
  | 2 => .array .int
  | 3 => .int
  | 4 => .array .int
  | 5 => .boolean
  | 6 => .array .int
  | 7 => .int
  | 8 => .int
  | 9 => .int
  | 10 => .array .int
  | _ => .int
abbrev wsX60 : List Cond := u_ws RX6 TX6 12
theorem nmX6 : ∀ a, a < 12 → ∀ b, b < 12 → a ≠ b → (TX6 a).2.1 ≠ (TX6 b).2.1 := by decide +kernel
theorem tyX6_ok : ∀ k, k < 12 → parseFieldDescriptor (TX6 k).2.2.1 = some (tyX6 k) := by decide +kernel
abbrev cX6_init : ByteArray := prog_8_method_1_code
def yX6_init : MethodName := ⟨RX6, "<init>", "()V"⟩
abbrev cX6_in : ByteArray := prog_8_method_3_code
def yX6_in : MethodName := ⟨RX6, "in", "(III)Z"⟩
abbrev cX6_isArm : ByteArray := prog_8_method_4_code
def yX6_isArm : MethodName := ⟨RX6, "isArm", "(I)Z"⟩
abbrev cX6_isQuay : ByteArray := prog_8_method_5_code
def yX6_isQuay : MethodName := ⟨RX6, "isQuay", "(I)Z"⟩
abbrev cX6_of : ByteArray := prog_8_method_6_code
def yX6_of : MethodName := ⟨RX6, "of", "([III)I"⟩
abbrev cX6_waitingAt : ByteArray := prog_8_method_7_code
def yX6_waitingAt : MethodName := ⟨RX6, "waitingAt", "([II)I"⟩
abbrev cX6_copies : ByteArray := prog_8_method_8_code
def yX6_copies : MethodName := ⟨RX6, "copies", "([II[II)V"⟩
abbrev cX6_records : ByteArray := prog_8_method_9_code
def yX6_records : MethodName := ⟨RX6, "records", "()V"⟩
abbrev cX6_undo : ByteArray := prog_8_method_10_code
def yX6_undo : MethodName := ⟨RX6, "undo", "()I"⟩
abbrev cX6_keep : ByteArray := prog_8_method_11_code
def yX6_keep : MethodName := ⟨RX6, "keep", "()I"⟩
abbrev cX6_restore : ByteArray := prog_8_method_12_code
def yX6_restore : MethodName := ⟨RX6, "restore", "()I"⟩
abbrev cX6_goes : ByteArray := prog_8_method_13_code
def yX6_goes : MethodName := ⟨RX6, "goes", "([IIII)I"⟩
abbrev cX6_comingTo : ByteArray := prog_8_method_14_code
def yX6_comingTo : MethodName := ⟨RX6, "comingTo", "([II)I"⟩
abbrev cX6_wants : ByteArray := prog_8_method_15_code
def yX6_wants : MethodName := ⟨RX6, "wants", "([II)I"⟩
abbrev cX6_neediest : ByteArray := prog_8_method_16_code
def yX6_neediest : MethodName := ⟨RX6, "neediest", "([II)I"⟩
abbrev cX6_lent : ByteArray := prog_8_method_17_code
def yX6_lent : MethodName := ⟨RX6, "lent", "([IIZ)I"⟩
abbrev cX6_lends : ByteArray := prog_8_method_18_code
def yX6_lends : MethodName := ⟨RX6, "lends", "([II)I"⟩
abbrev cX6_looks : ByteArray := prog_8_method_19_code
def yX6_looks : MethodName := ⟨RX6, "looks", "([II)V"⟩
abbrev cX6_works : ByteArray := prog_8_method_20_code
def yX6_works : MethodName := ⟨RX6, "works", "([II)V"⟩
abbrev cX6_takes : ByteArray := prog_8_method_21_code
def yX6_takes : MethodName := ⟨RX6, "takes", "([II)V"⟩
abbrev cX6_goHome : ByteArray := prog_8_method_22_code
def yX6_goHome : MethodName := ⟨RX6, "goHome", "([I)V"⟩
abbrev cX6_ticks : ByteArray := prog_8_method_23_code
def yX6_ticks : MethodName := ⟨RX6, "ticks", "([I)V"⟩
abbrev cX6_runs : ByteArray := prog_8_method_24_code
def yX6_runs : MethodName := ⟨RX6, "runs", "([II)I"⟩
abbrev cX6_comes : ByteArray := prog_8_method_25_code
def yX6_comes : MethodName := ⟨RX6, "comes", "([IIZ)I"⟩
abbrev cX6_addArm : ByteArray := prog_8_method_26_code
def yX6_addArm : MethodName := ⟨RX6, "addArm", "(IZ)I"⟩
abbrev cX6_leads : ByteArray := prog_8_method_27_code
def yX6_leads : MethodName := ⟨RX6, "leads", "(II)V"⟩
abbrev cX6_removeArm : ByteArray := prog_8_method_28_code
def yX6_removeArm : MethodName := ⟨RX6, "removeArm", "(I)I"⟩
abbrev cX6_tied : ByteArray := prog_8_method_29_code
def yX6_tied : MethodName := ⟨RX6, "tied", "()I"⟩
abbrev cX6_tie : ByteArray := prog_8_method_30_code
def yX6_tie : MethodName := ⟨RX6, "tie", "(IZ)I"⟩
abbrev cX6_moveHome : ByteArray := prog_8_method_31_code
def yX6_moveHome : MethodName := ⟨RX6, "moveHome", "(II)I"⟩
abbrev cX6_send : ByteArray := prog_8_method_32_code
def yX6_send : MethodName := ⟨RX6, "send", "(II)I"⟩
abbrev cX6_loads : ByteArray := prog_8_method_33_code
def yX6_loads : MethodName := ⟨RX6, "loads", "(II)V"⟩
abbrev cX6_load : ByteArray := prog_8_method_34_code
def yX6_load : MethodName := ⟨RX6, "load", "(II)I"⟩
abbrev cX6_allWaiting : ByteArray := prog_8_method_35_code
def yX6_allWaiting : MethodName := ⟨RX6, "allWaiting", "([I)I"⟩
abbrev cX6_isTooFull : ByteArray := prog_8_method_36_code
def yX6_isTooFull : MethodName := ⟨RX6, "isTooFull", "(I)Z"⟩
abbrev cX6_loadAll : ByteArray := prog_8_method_37_code
def yX6_loadAll : MethodName := ⟨RX6, "loadAll", "()I"⟩
abbrev cX6_run : ByteArray := prog_8_method_38_code
def yX6_run : MethodName := ⟨RX6, "run", "(I)I"⟩
abbrev cX6_isIn : ByteArray := prog_8_method_39_code
def yX6_isIn : MethodName := ⟨RX6, "isIn", "(II)Z"⟩
abbrev cX6_set : ByteArray := prog_8_method_40_code
def yX6_set : MethodName := ⟨RX6, "set", "(II)I"⟩
abbrev cX6_type : ByteArray := prog_8_method_41_code
def yX6_type : MethodName := ⟨RX6, "type", "(C)I"⟩
abbrev cX6_clearText : ByteArray := prog_8_method_42_code
def yX6_clearText : MethodName := ⟨RX6, "clearText", "()I"⟩
abbrev cX6_isAt : ByteArray := prog_8_method_43_code
def yX6_isAt : MethodName := ⟨RX6, "isAt", "(II)Z"⟩
abbrev cX6_isNumber : ByteArray := prog_8_method_44_code
def yX6_isNumber : MethodName := ⟨RX6, "isNumber", "(II)Z"⟩
abbrev cX6_isPart : ByteArray := prog_8_method_45_code
def yX6_isPart : MethodName := ⟨RX6, "isPart", "()Z"⟩
abbrev cX6_isText : ByteArray := prog_8_method_46_code
def yX6_isText : MethodName := ⟨RX6, "isText", "()Z"⟩
abbrev cX6_arm : ByteArray := prog_8_method_47_code
def yX6_arm : MethodName := ⟨RX6, "arm", "(II)I"⟩
abbrev cX6_arms : ByteArray := prog_8_method_48_code
def yX6_arms : MethodName := ⟨RX6, "arms", "(II)I"⟩
abbrev cX6_workAt : ByteArray := prog_8_method_49_code
def yX6_workAt : MethodName := ⟨RX6, "workAt", "(I)I"⟩
abbrev cX6_longest : ByteArray := prog_8_method_50_code
def yX6_longest : MethodName := ⟨RX6, "longest", "(I)I"⟩
abbrev cX6_quay : ByteArray := prog_8_method_51_code
def yX6_quay : MethodName := ⟨RX6, "quay", "(II)I"⟩
abbrev cX6_waiting : ByteArray := prog_8_method_52_code
def yX6_waiting : MethodName := ⟨RX6, "waiting", "(III)I"⟩
abbrev cX6_isBehind : ByteArray := prog_8_method_53_code
def yX6_isBehind : MethodName := ⟨RX6, "isBehind", "(II)Z"⟩
abbrev cX6_reason : ByteArray := prog_8_method_54_code
def yX6_reason : MethodName := ⟨RX6, "reason", "(II)I"⟩
abbrev cX6_way : ByteArray := prog_8_method_55_code
def yX6_way : MethodName := ⟨RX6, "way", "(II)I"⟩
abbrev cX6_ifRun : ByteArray := prog_8_method_56_code
def yX6_ifRun : MethodName := ⟨RX6, "ifRun", "(II)I"⟩
abbrev cX6_bestHome : ByteArray := prog_8_method_57_code
def yX6_bestHome : MethodName := ⟨RX6, "bestHome", "(I)I"⟩
abbrev cX6_away : ByteArray := prog_8_method_58_code
def yX6_away : MethodName := ⟨RX6, "away", "()I"⟩
abbrev cX6_count : ByteArray := prog_8_method_59_code
def yX6_count : MethodName := ⟨RX6, "count", "(I)I"⟩
def RJ9 : String := "java/lang/Math"
def TJ9 : u_T := fun k => match k with
  | _ => ("", "", "", false)
def tyJ9 : Nat → FieldType := fun k => match k with
  | _ => .int
abbrev wsJ90 : List Cond := u_ws RJ9 TJ9 0
theorem nmJ9 : ∀ a, a < 0 → ∀ b, b < 0 → a ≠ b → (TJ9 a).2.1 ≠ (TJ9 b).2.1 := by decide +kernel
theorem tyJ9_ok : ∀ k, k < 0 → parseFieldDescriptor (TJ9 k).2.2.1 = some (tyJ9 k) := by decide +kernel
abbrev cJ9_max_7cf53 : ByteArray := prog_9_method_65_code
def yJ9_max_7cf53 : MethodName := ⟨RJ9, "max", "(II)I"⟩
abbrev cJ9_min_7cf53 : ByteArray := prog_9_method_69_code
def yJ9_min_7cf53 : MethodName := ⟨RJ9, "min", "(II)I"⟩
def RJ10 : String := "java/lang/System"
def TJ10 : u_T := fun k => match k with
  | _ => ("", "", "", false)
def tyJ10 : Nat → FieldType := fun k => match k with
  | _ => .int
abbrev wsJ100 : List Cond := u_ws RJ10 TJ10 0
theorem nmJ10 : ∀ a, a < 0 → ∀ b, b < 0 → a ≠ b → (TJ10 a).2.1 ≠ (TJ10 b).2.1 := by decide +kernel
theorem tyJ10_ok : ∀ k, k < 0 → parseFieldDescriptor (TJ10 k).2.2.1 = some (tyJ10 k) := by decide +kernel
def RL : String := "LentArmsLaw"
abbrev cL_law : ByteArray := code
def yL_law : MethodName := ⟨RL, "law", "([I)Z"⟩
abbrev vwCl : List vw_C := [(RX0, TX0, 8), (RX1, TX1, 11), (RX2, TX2, 5), (RX3, TX3, 7), (RX4, TX4, 2), (RX5, TX5, 7), (RX6, TX6, 12)]
