-- ===== PART A: goes FIRST, ahead of the names: the tables' words, and 'selects' of the private methods out of them =====
/-- a private method of a class that the tables say can be made, by its rows of tables_1 -/
def lw_okq (q : MethodName × Nat) : Prop := (q.1.cls ≠ "java/lang/invoke/MethodHandle" ∧ q.1.cls ≠ "java/lang/invoke/VarHandle") ∧ Cond.instantiable q.1.cls q.2 ∈ tables_1 ∧ Cond.privateMethod q.1 ∈ tables_1 ∧ Cond.instanceMethod q.1 ∈ tables_1
theorem lw_p0 : lw_okq (⟨"DeficitCircles$History", "dropOldest", "()V"⟩, 2) := ⟨⟨by decide +kernel, by decide +kernel⟩, List.mem_of_getElem? (i := 194) (by decide +kernel), List.mem_of_getElem? (i := 279) (by decide +kernel), List.mem_of_getElem? (i := 280) (by decide +kernel)⟩
theorem lw_p1 : lw_okq (⟨"DeficitCircles$History", "roomAt", "(I)LDeficitCircles$State;"⟩, 2) := ⟨⟨by decide +kernel, by decide +kernel⟩, List.mem_of_getElem? (i := 194) (by decide +kernel), List.mem_of_getElem? (i := 283) (by decide +kernel), List.mem_of_getElem? (i := 284) (by decide +kernel)⟩
theorem lw_p2 : lw_okq (⟨"DeficitCircles", "beginAhead", "(I)I"⟩, 7) := ⟨⟨by decide +kernel, by decide +kernel⟩, List.mem_of_getElem? (i := 12) (by decide +kernel), List.mem_of_getElem? (i := 460) (by decide +kernel), List.mem_of_getElem? (i := 461) (by decide +kernel)⟩
theorem lw_p3 : lw_okq (⟨"DeficitCircles$Turns", "noteFirstJobs", "(LDeficitCircles$State;)V"⟩, 3) := ⟨⟨by decide +kernel, by decide +kernel⟩, List.mem_of_getElem? (i := 226) (by decide +kernel), List.mem_of_getElem? (i := 473) (by decide +kernel), List.mem_of_getElem? (i := 474) (by decide +kernel)⟩
theorem lw_p4 : lw_okq (⟨"DeficitCircles$Turns", "noteJob", "(LDeficitCircles$State;I)V"⟩, 3) := ⟨⟨by decide +kernel, by decide +kernel⟩, List.mem_of_getElem? (i := 226) (by decide +kernel), List.mem_of_getElem? (i := 478) (by decide +kernel), List.mem_of_getElem? (i := 479) (by decide +kernel)⟩
theorem lw_p5 : lw_okq (⟨"DeficitCircles$Turns", "presentGroupIsNext", "(LDeficitCircles$State;)Z"⟩, 3) := ⟨⟨by decide +kernel, by decide +kernel⟩, List.mem_of_getElem? (i := 226) (by decide +kernel), List.mem_of_getElem? (i := 486) (by decide +kernel), List.mem_of_getElem? (i := 487) (by decide +kernel)⟩
theorem lw_p6 : lw_okq (⟨"DeficitCircles$Turns", "lookAt", "(LDeficitCircles$State;I)I"⟩, 3) := ⟨⟨by decide +kernel, by decide +kernel⟩, List.mem_of_getElem? (i := 226) (by decide +kernel), List.mem_of_getElem? (i := 490) (by decide +kernel), List.mem_of_getElem? (i := 491) (by decide +kernel)⟩
theorem lw_p7 : lw_okq (⟨"DeficitCircles$Turns", "walkClasses", "(LDeficitCircles$State;I)Z"⟩, 3) := ⟨⟨by decide +kernel, by decide +kernel⟩, List.mem_of_getElem? (i := 226) (by decide +kernel), List.mem_of_getElem? (i := 494) (by decide +kernel), List.mem_of_getElem? (i := 495) (by decide +kernel)⟩
theorem lw_p8 : lw_okq (⟨"DeficitCircles$Turns", "skipClassRounds", "(LDeficitCircles$State;I)V"⟩, 3) := ⟨⟨by decide +kernel, by decide +kernel⟩, List.mem_of_getElem? (i := 226) (by decide +kernel), List.mem_of_getElem? (i := 498) (by decide +kernel), List.mem_of_getElem? (i := 499) (by decide +kernel)⟩
theorem lw_p9 : lw_okq (⟨"DeficitCircles$Turns", "walkGroups", "(LDeficitCircles$State;)Z"⟩, 3) := ⟨⟨by decide +kernel, by decide +kernel⟩, List.mem_of_getElem? (i := 226) (by decide +kernel), List.mem_of_getElem? (i := 509) (by decide +kernel), List.mem_of_getElem? (i := 510) (by decide +kernel)⟩
theorem lw_p10 : lw_okq (⟨"DeficitCircles$Turns", "skipGroupRounds", "(LDeficitCircles$State;)V"⟩, 3) := ⟨⟨by decide +kernel, by decide +kernel⟩, List.mem_of_getElem? (i := 226) (by decide +kernel), List.mem_of_getElem? (i := 513) (by decide +kernel), List.mem_of_getElem? (i := 514) (by decide +kernel)⟩
theorem lw_p11 : lw_okq (⟨"DeficitCircles$State", "noteWait", "(II)V"⟩, 9) := ⟨⟨by decide +kernel, by decide +kernel⟩, List.mem_of_getElem? (i := 20) (by decide +kernel), List.mem_of_getElem? (i := 526) (by decide +kernel), List.mem_of_getElem? (i := 527) (by decide +kernel)⟩
theorem lw_p12 : lw_okq (⟨"DeficitCircles$State", "payFromClass", "(II)V"⟩, 9) := ⟨⟨by decide +kernel, by decide +kernel⟩, List.mem_of_getElem? (i := 20) (by decide +kernel), List.mem_of_getElem? (i := 533) (by decide +kernel), List.mem_of_getElem? (i := 534) (by decide +kernel)⟩
theorem lw_p13 : lw_okq (⟨"DeficitCircles$State", "payFromGroup", "(II)V"⟩, 9) := ⟨⟨by decide +kernel, by decide +kernel⟩, List.mem_of_getElem? (i := 20) (by decide +kernel), List.mem_of_getElem? (i := 538) (by decide +kernel), List.mem_of_getElem? (i := 539) (by decide +kernel)⟩
theorem lw_p14 : lw_okq (⟨"DeficitCircles", "passTick", "()I"⟩, 7) := ⟨⟨by decide +kernel, by decide +kernel⟩, List.mem_of_getElem? (i := 12) (by decide +kernel), List.mem_of_getElem? (i := 564) (by decide +kernel), List.mem_of_getElem? (i := 565) (by decide +kernel)⟩
def lw_privs_1 : List (MethodName × Nat) := [(⟨"DeficitCircles$History", "dropOldest", "()V"⟩, 2), (⟨"DeficitCircles$History", "roomAt", "(I)LDeficitCircles$State;"⟩, 2), (⟨"DeficitCircles", "beginAhead", "(I)I"⟩, 7), (⟨"DeficitCircles$Turns", "noteFirstJobs", "(LDeficitCircles$State;)V"⟩, 3), (⟨"DeficitCircles$Turns", "noteJob", "(LDeficitCircles$State;I)V"⟩, 3), (⟨"DeficitCircles$Turns", "presentGroupIsNext", "(LDeficitCircles$State;)Z"⟩, 3), (⟨"DeficitCircles$Turns", "lookAt", "(LDeficitCircles$State;I)I"⟩, 3), (⟨"DeficitCircles$Turns", "walkClasses", "(LDeficitCircles$State;I)Z"⟩, 3), (⟨"DeficitCircles$Turns", "skipClassRounds", "(LDeficitCircles$State;I)V"⟩, 3), (⟨"DeficitCircles$Turns", "walkGroups", "(LDeficitCircles$State;)Z"⟩, 3), (⟨"DeficitCircles$Turns", "skipGroupRounds", "(LDeficitCircles$State;)V"⟩, 3), (⟨"DeficitCircles$State", "noteWait", "(II)V"⟩, 9), (⟨"DeficitCircles$State", "payFromClass", "(II)V"⟩, 9), (⟨"DeficitCircles$State", "payFromGroup", "(II)V"⟩, 9), (⟨"DeficitCircles", "passTick", "()I"⟩, 7)]
theorem lw_r1 : ∀ q ∈ lw_privs_1, lw_okq q := List.forall_mem_cons.mpr ⟨lw_p0, List.forall_mem_cons.mpr ⟨lw_p1, List.forall_mem_cons.mpr ⟨lw_p2, List.forall_mem_cons.mpr ⟨lw_p3, List.forall_mem_cons.mpr ⟨lw_p4, List.forall_mem_cons.mpr ⟨lw_p5, List.forall_mem_cons.mpr ⟨lw_p6, List.forall_mem_cons.mpr ⟨lw_p7, List.forall_mem_cons.mpr ⟨lw_p8, List.forall_mem_cons.mpr ⟨lw_p9, List.forall_mem_cons.mpr ⟨lw_p10, List.forall_mem_cons.mpr ⟨lw_p11, List.forall_mem_cons.mpr ⟨lw_p12, List.forall_mem_cons.mpr ⟨lw_p13, List.forall_mem_cons.mpr ⟨lw_p14, fun _ h => absurd h List.not_mem_nil⟩⟩⟩⟩⟩⟩⟩⟩⟩⟩⟩⟩⟩⟩⟩
def lw_privs : List (MethodName × Nat) := lw_privs_1
def lw_tbl : List Cond := k2_sels lw_privs ++ tables_1
theorem lw_privs_ok : ∀ q ∈ lw_privs, lw_okq q := lw_r1
-- ===== names, out of the claim's printed names =====
def RX0 : String := "DeficitCircles$Classes"
def TX0 : u_T := fun k => match k with
  | 0 => ("DeficitCircles$Classes", "held", "I", false)
  | 1 => ("DeficitCircles$Classes", "group", "[I", true)
  | 2 => ("DeficitCircles$Classes", "quantum", "[I", true)
  | 3 => ("DeficitCircles$Classes", "deficit", "[I", true)
  | 4 => ("DeficitCircles$Classes", "bucket", "[I", true)
  | 5 => ("DeficitCircles$Classes", "fill", "[I", true)
  | 6 => ("DeficitCircles$Classes", "tokens", "[I", true)
  | 7 => ("DeficitCircles$Classes", "age", "[I", true)
  | 8 => ("DeficitCircles$Classes", "longestWait", "[I", true)
  | _ => ("DeficitCircles$Classes", "units", "[I", true)
def tyX0 : Nat → FieldType := fun k => match k with
  | 0 => .int
  | 1 => .array .int
  | 2 => .array .int
  | 3 => .array .int
  | 4 => .array .int
  | 5 => .array .int
  | 6 => .array .int
  | 7 => .array .int
  | 8 => .array .int
  | _ => .array .int
abbrev wsX00 : List Cond := u_ws RX0 TX0 10
theorem nmX0 : ∀ a, a < 10 → ∀ b, b < 10 → a ≠ b → (TX0 a).2.1 ≠ (TX0 b).2.1 := by decide +kernel
theorem tyX0_ok : ∀ k, k < 10 → parseFieldDescriptor (TX0 k).2.2.1 = some (tyX0 k) := by decide +kernel
abbrev cX0_init : ByteArray := prog_2_method_1_code
def yX0_init : MethodName := ⟨RX0, "<init>", "()V"⟩
abbrev cX0_has : ByteArray := prog_2_method_2_code
def yX0_has : MethodName := ⟨RX0, "has", "(I)Z"⟩
abbrev cX0_append : ByteArray := prog_2_method_3_code
def yX0_append : MethodName := ⟨RX0, "append", "(IIII)I"⟩
abbrev cX0_fillBuckets : ByteArray := prog_2_method_4_code
def yX0_fillBuckets : MethodName := ⟨RX0, "fillBuckets", "(I)V"⟩
abbrev cX0_takeUnits : ByteArray := prog_2_method_5_code
def yX0_takeUnits : MethodName := ⟨RX0, "takeUnits", "()I"⟩
abbrev cX0_heldOf : ByteArray := prog_2_method_6_code
def yX0_heldOf : MethodName := ⟨RX0, "heldOf", "(I)I"⟩
abbrev cX0_unitsOf : ByteArray := prog_2_method_7_code
def yX0_unitsOf : MethodName := ⟨RX0, "unitsOf", "(I)I"⟩
abbrev cX0_copyFrom : ByteArray := prog_2_method_8_code
def yX0_copyFrom : MethodName := ⟨RX0, "copyFrom", "(LDeficitCircles$Classes;)V"⟩
def RX1 : String := "DeficitCircles$Groups"
def TX1 : u_T := fun k => match k with
  | 0 => ("DeficitCircles$Groups", "held", "I", false)
  | 1 => ("DeficitCircles$Groups", "quantum", "[I", true)
  | 2 => ("DeficitCircles$Groups", "deficit", "[I", true)
  | _ => ("DeficitCircles$Groups", "present", "[I", true)
def tyX1 : Nat → FieldType := fun k => match k with
  | 0 => .int
  | 1 => .array .int
  | 2 => .array .int
  | _ => .array .int
abbrev wsX10 : List Cond := u_ws RX1 TX1 4
theorem nmX1 : ∀ a, a < 4 → ∀ b, b < 4 → a ≠ b → (TX1 a).2.1 ≠ (TX1 b).2.1 := by decide +kernel
theorem tyX1_ok : ∀ k, k < 4 → parseFieldDescriptor (TX1 k).2.2.1 = some (tyX1 k) := by decide +kernel
abbrev cX1_init : ByteArray := prog_3_method_1_code
def yX1_init : MethodName := ⟨RX1, "<init>", "()V"⟩
abbrev cX1_has : ByteArray := prog_3_method_2_code
def yX1_has : MethodName := ⟨RX1, "has", "(I)Z"⟩
abbrev cX1_append : ByteArray := prog_3_method_3_code
def yX1_append : MethodName := ⟨RX1, "append", "(I)I"⟩
abbrev cX1_copyFrom : ByteArray := prog_3_method_4_code
def yX1_copyFrom : MethodName := ⟨RX1, "copyFrom", "(LDeficitCircles$Groups;)V"⟩
def RX2 : String := "DeficitCircles$History"
def TX2 : u_T := fun k => match k with
  | 0 => ("DeficitCircles$History", "length", "I", false)
  | _ => ("DeficitCircles$History", "states", "[LDeficitCircles$State;", true)
def tyX2 : Nat → FieldType := fun k => match k with
  | 0 => .int
  | _ => .array (.object "DeficitCircles$State")
abbrev wsX20 : List Cond := u_ws RX2 TX2 2
theorem nmX2 : ∀ a, a < 2 → ∀ b, b < 2 → a ≠ b → (TX2 a).2.1 ≠ (TX2 b).2.1 := by decide +kernel
theorem tyX2_ok : ∀ k, k < 2 → parseFieldDescriptor (TX2 k).2.2.1 = some (tyX2 k) := by decide +kernel
abbrev cX2_init : ByteArray := prog_4_method_1_code
def yX2_init : MethodName := ⟨RX2, "<init>", "()V"⟩
abbrev cX2_push : ByteArray := prog_4_method_2_code
def yX2_push : MethodName := ⟨RX2, "push", "(LDeficitCircles$State;)V"⟩
abbrev cX2_takeLatest : ByteArray := prog_4_method_3_code
def yX2_takeLatest : MethodName := ⟨RX2, "takeLatest", "(LDeficitCircles$State;)V"⟩
abbrev cX2_dropOldest : ByteArray := prog_4_method_4_code
def yX2_dropOldest : MethodName := ⟨RX2, "dropOldest", "()V"⟩
abbrev cX2_roomAt : ByteArray := prog_4_method_5_code
def yX2_roomAt : MethodName := ⟨RX2, "roomAt", "(I)LDeficitCircles$State;"⟩
def RX3 : String := "DeficitCircles$Jobs"
def TX3 : u_T := fun k => match k with
  | 0 => ("DeficitCircles$Jobs", "held", "I", false)
  | 1 => ("DeficitCircles$Jobs", "ofClass", "[I", true)
  | 2 => ("DeficitCircles$Jobs", "size", "[I", true)
  | 3 => ("DeficitCircles$Jobs", "came", "[I", true)
  | 4 => ("DeficitCircles$Jobs", "began", "[I", true)
  | 5 => ("DeficitCircles$Jobs", "waits", "I", false)
  | _ => ("DeficitCircles$Jobs", "line", "[I", true)
def tyX3 : Nat → FieldType := fun k => match k with
  | 0 => .int
  | 1 => .array .int
  | 2 => .array .int
  | 3 => .array .int
  | 4 => .array .int
  | 5 => .int
  | _ => .array .int
abbrev wsX30 : List Cond := u_ws RX3 TX3 7
theorem nmX3 : ∀ a, a < 7 → ∀ b, b < 7 → a ≠ b → (TX3 a).2.1 ≠ (TX3 b).2.1 := by decide +kernel
theorem tyX3_ok : ∀ k, k < 7 → parseFieldDescriptor (TX3 k).2.2.1 = some (tyX3 k) := by decide +kernel
abbrev cX3_init : ByteArray := prog_5_method_1_code
def yX3_init : MethodName := ⟨RX3, "<init>", "()V"⟩
abbrev cX3_has : ByteArray := prog_5_method_2_code
def yX3_has : MethodName := ⟨RX3, "has", "(I)Z"⟩
abbrev cX3_isWaiting : ByteArray := prog_5_method_3_code
def yX3_isWaiting : MethodName := ⟨RX3, "isWaiting", "(I)Z"⟩
abbrev cX3_isFull : ByteArray := prog_5_method_4_code
def yX3_isFull : MethodName := ⟨RX3, "isFull", "()Z"⟩
abbrev cX3_append : ByteArray := prog_5_method_5_code
def yX3_append : MethodName := ⟨RX3, "append", "(III)I"⟩
abbrev cX3_waitingAt : ByteArray := prog_5_method_6_code
def yX3_waitingAt : MethodName := ⟨RX3, "waitingAt", "(I)I"⟩
abbrev cX3_leaveLine : ByteArray := prog_5_method_7_code
def yX3_leaveLine : MethodName := ⟨RX3, "leaveLine", "(I)V"⟩
abbrev cX3_firstOf : ByteArray := prog_5_method_8_code
def yX3_firstOf : MethodName := ⟨RX3, "firstOf", "(I)I"⟩
abbrev cX3_waitsOf : ByteArray := prog_5_method_9_code
def yX3_waitsOf : MethodName := ⟨RX3, "waitsOf", "(I)I"⟩
abbrev cX3_sizesOf : ByteArray := prog_5_method_10_code
def yX3_sizesOf : MethodName := ⟨RX3, "sizesOf", "(I)I"⟩
abbrev cX3_allSizes : ByteArray := prog_5_method_11_code
def yX3_allSizes : MethodName := ⟨RX3, "allSizes", "()I"⟩
abbrev cX3_sizesAheadOf : ByteArray := prog_5_method_12_code
def yX3_sizesAheadOf : MethodName := ⟨RX3, "sizesAheadOf", "(I)I"⟩
abbrev cX3_copyFrom : ByteArray := prog_5_method_13_code
def yX3_copyFrom : MethodName := ⟨RX3, "copyFrom", "(LDeficitCircles$Jobs;)V"⟩
def RX4 : String := "DeficitCircles$State"
def TX4 : u_T := fun k => match k with
  | 0 => ("DeficitCircles$State", "groups", "LDeficitCircles$Groups;", true)
  | 1 => ("DeficitCircles$State", "classes", "LDeficitCircles$Classes;", true)
  | 2 => ("DeficitCircles$State", "jobs", "LDeficitCircles$Jobs;", true)
  | 3 => ("DeficitCircles$State", "time", "I", false)
  | 4 => ("DeficitCircles$State", "presentGroup", "I", false)
  | 5 => ("DeficitCircles$State", "inService", "I", false)
  | 6 => ("DeficitCircles$State", "left", "I", false)
  | 7 => ("DeficitCircles$State", "idleTicks", "I", false)
  | _ => ("DeficitCircles$State", "servedWhenOld", "I", false)
def tyX4 : Nat → FieldType := fun k => match k with
  | 0 => .object "DeficitCircles$Groups"
  | 1 => .object "DeficitCircles$Classes"
  | 2 => .object "DeficitCircles$Jobs"
  | 3 => .int
  | 4 => .int
  | 5 => .int
  | 6 => .int
  | 7 => .int
  | _ => .int
abbrev wsX40 : List Cond := u_ws RX4 TX4 9
theorem nmX4 : ∀ a, a < 9 → ∀ b, b < 9 → a ≠ b → (TX4 a).2.1 ≠ (TX4 b).2.1 := by decide +kernel
theorem tyX4_ok : ∀ k, k < 9 → parseFieldDescriptor (TX4 k).2.2.1 = some (tyX4 k) := by decide +kernel
abbrev cX4_init : ByteArray := prog_6_method_1_code
def yX4_init : MethodName := ⟨RX4, "<init>", "()V"⟩
abbrev cX4_copyFrom : ByteArray := prog_6_method_2_code
def yX4_copyFrom : MethodName := ⟨RX4, "copyFrom", "(LDeficitCircles$State;)V"⟩
abbrev cX4_whyNotAdmit : ByteArray := prog_6_method_3_code
def yX4_whyNotAdmit : MethodName := ⟨RX4, "whyNotAdmit", "(II)I"⟩
abbrev cX4_admit : ByteArray := prog_6_method_4_code
def lw_nm (o : Option Cond) : String := match o with
  | some (.code y _ _ _) => y.name
  | _ => ""
def yX4_admit : MethodName := ⟨RX4, (lw_nm (tables_1_3[119]?)), "(II)I"⟩
abbrev cX4_begin : ByteArray := prog_6_method_5_code
def yX4_begin : MethodName := ⟨RX4, "begin", "(I)V"⟩
abbrev cX4_noteWait : ByteArray := prog_6_method_6_code
def yX4_noteWait : MethodName := ⟨RX4, "noteWait", "(II)V"⟩
abbrev cX4_payFromClass : ByteArray := prog_6_method_7_code
def yX4_payFromClass : MethodName := ⟨RX4, "payFromClass", "(II)V"⟩
abbrev cX4_payFromGroup : ByteArray := prog_6_method_8_code
def yX4_payFromGroup : MethodName := ⟨RX4, "payFromGroup", "(II)V"⟩
abbrev cX4_serveUnit : ByteArray := prog_6_method_9_code
def yX4_serveUnit : MethodName := ⟨RX4, "serveUnit", "()I"⟩
abbrev cX4_ageFor : ByteArray := prog_6_method_10_code
def yX4_ageFor : MethodName := ⟨RX4, "ageFor", "(I)I"⟩
abbrev cX4_isOld : ByteArray := prog_6_method_11_code
def yX4_isOld : MethodName := ⟨RX4, "isOld", "(I)Z"⟩
abbrev cX4_firstOld : ByteArray := prog_6_method_12_code
def yX4_firstOld : MethodName := ⟨RX4, "firstOld", "()I"⟩
abbrev cX4_oldJobs : ByteArray := prog_6_method_13_code
def yX4_oldJobs : MethodName := ⟨RX4, "oldJobs", "()I"⟩
abbrev cX4_groupFor : ByteArray := prog_6_method_14_code
def yX4_groupFor : MethodName := ⟨RX4, "groupFor", "(I)I"⟩
abbrev cX4_waitsOfGroup : ByteArray := prog_6_method_15_code
def yX4_waitsOfGroup : MethodName := ⟨RX4, "waitsOfGroup", "(I)I"⟩
abbrev cX4_sizesOfGroup : ByteArray := prog_6_method_16_code
def yX4_sizesOfGroup : MethodName := ⟨RX4, "sizesOfGroup", "(I)I"⟩
abbrev cX4_stageOf : ByteArray := prog_6_method_17_code
def yX4_stageOf : MethodName := ⟨RX4, "stageOf", "(I)I"⟩
abbrev cX4_endOf : ByteArray := prog_6_method_18_code
def yX4_endOf : MethodName := ⟨RX4, "endOf", "(I)I"⟩
abbrev cX4_leftOf : ByteArray := prog_6_method_19_code
def yX4_leftOf : MethodName := ⟨RX4, "leftOf", "(I)I"⟩
abbrev cX4_doneOf : ByteArray := prog_6_method_20_code
def yX4_doneOf : MethodName := ⟨RX4, "doneOf", "(I)I"⟩
abbrev cX4_doneJobs : ByteArray := prog_6_method_21_code
def yX4_doneJobs : MethodName := ⟨RX4, "doneJobs", "()I"⟩
def RX5 : String := "DeficitCircles$Text"
def TX5 : u_T := fun k => match k with
  | 0 => ("DeficitCircles$Text", "length", "I", false)
  | _ => ("DeficitCircles$Text", "signs", "[C", true)
def tyX5 : Nat → FieldType := fun k => match k with
  | 0 => .int
  | _ => .array .char
abbrev wsX50 : List Cond := u_ws RX5 TX5 2
theorem nmX5 : ∀ a, a < 2 → ∀ b, b < 2 → a ≠ b → (TX5 a).2.1 ≠ (TX5 b).2.1 := by decide +kernel
theorem tyX5_ok : ∀ k, k < 2 → parseFieldDescriptor (TX5 k).2.2.1 = some (tyX5 k) := by decide +kernel
abbrev cX5_init : ByteArray := prog_7_method_1_code
def yX5_init : MethodName := ⟨RX5, "<init>", "()V"⟩
abbrev cX5_append : ByteArray := prog_7_method_2_code
def yX5_append : MethodName := ⟨RX5, "append", "(C)I"⟩
abbrev cX5_fault : ByteArray := prog_7_method_3_code
def yX5_fault : MethodName := ⟨RX5, "fault", "()I"⟩
abbrev cX5_partAfter : ByteArray := prog_7_method_4_code
def yX5_partAfter : MethodName := ⟨RX5, "partAfter", "(IC)I"⟩
abbrev cX5_digitAt : ByteArray := prog_7_method_5_code
def yX5_digitAt : MethodName := ⟨RX5, "digitAt", "(I)I"⟩
abbrev cX5_sizeAt : ByteArray := prog_7_method_6_code
def yX5_sizeAt : MethodName := ⟨RX5, "sizeAt", "(I)I"⟩
def RX6 : String := "DeficitCircles$Turns"
def TX6 : u_T := fun k => match k with
  | 0 => ("DeficitCircles$Turns", "classNeed", "[I", true)
  | 1 => ("DeficitCircles$Turns", "groupNeed", "[I", true)
  | _ => ("DeficitCircles$Turns", "groupBusy", "[Z", true)
def tyX6 : Nat → FieldType := fun k => match k with
  | 0 => .array .int
  | 1 => .array .int
  | _ => .array .boolean
abbrev wsX60 : List Cond := u_ws RX6 TX6 3
theorem nmX6 : ∀ a, a < 3 → ∀ b, b < 3 → a ≠ b → (TX6 a).2.1 ≠ (TX6 b).2.1 := by decide +kernel
theorem tyX6_ok : ∀ k, k < 3 → parseFieldDescriptor (TX6 k).2.2.1 = some (tyX6 k) := by decide +kernel
abbrev cX6_init : ByteArray := prog_8_method_1_code
def yX6_init : MethodName := ⟨RX6, "<init>", "()V"⟩
abbrev cX6_nextJob : ByteArray := prog_8_method_2_code
def yX6_nextJob : MethodName := ⟨RX6, "nextJob", "(LDeficitCircles$State;)I"⟩
abbrev cX6_noteFirstJobs : ByteArray := prog_8_method_3_code
def yX6_noteFirstJobs : MethodName := ⟨RX6, "noteFirstJobs", "(LDeficitCircles$State;)V"⟩
abbrev cX6_noteJob : ByteArray := prog_8_method_4_code
def yX6_noteJob : MethodName := ⟨RX6, "noteJob", "(LDeficitCircles$State;I)V"⟩
abbrev cX6_presentGroupIsNext : ByteArray := prog_8_method_5_code
def yX6_presentGroupIsNext : MethodName := ⟨RX6, "presentGroupIsNext", "(LDeficitCircles$State;)Z"⟩
abbrev cX6_walkGroups : ByteArray := prog_8_method_6_code
def yX6_walkGroups : MethodName := ⟨RX6, "walkGroups", "(LDeficitCircles$State;)Z"⟩
abbrev cX6_skipGroupRounds : ByteArray := prog_8_method_7_code
def yX6_skipGroupRounds : MethodName := ⟨RX6, "skipGroupRounds", "(LDeficitCircles$State;)V"⟩
abbrev cX6_lookAt : ByteArray := prog_8_method_8_code
def yX6_lookAt : MethodName := ⟨RX6, "lookAt", "(LDeficitCircles$State;I)I"⟩
abbrev cX6_walkClasses : ByteArray := prog_8_method_9_code
def yX6_walkClasses : MethodName := ⟨RX6, "walkClasses", "(LDeficitCircles$State;I)Z"⟩
abbrev cX6_skipClassRounds : ByteArray := prog_8_method_10_code
def yX6_skipClassRounds : MethodName := ⟨RX6, "skipClassRounds", "(LDeficitCircles$State;I)V"⟩
abbrev cX6_roundsBelow : ByteArray := prog_8_method_11_code
def yX6_roundsBelow : MethodName := ⟨RX6, "roundsBelow", "(III)I"⟩
def RX7 : String := "DeficitCircles"
def TX7 : u_T := fun k => match k with
  | 0 => ("DeficitCircles", "state", "LDeficitCircles$State;", true)
  | 1 => ("DeficitCircles", "snapshot", "LDeficitCircles$State;", true)
  | 2 => ("DeficitCircles", "hasSnapshot", "Z", false)
  | 3 => ("DeficitCircles", "trial", "LDeficitCircles$State;", true)
  | 4 => ("DeficitCircles", "history", "LDeficitCircles$History;", true)
  | 5 => ("DeficitCircles", "text", "LDeficitCircles$Text;", true)
  | _ => ("DeficitCircles", "turns", "LDeficitCircles$Turns;", true)
def tyX7 : Nat → FieldType := fun k => match k with
  | 0 => .object "DeficitCircles$State"
  | 1 => .object "DeficitCircles$State"
  | 2 => .boolean
  | 3 => .object "DeficitCircles$State"
  | 4 => .object "DeficitCircles$History"
  | 5 => .object "DeficitCircles$Text"
  | _ => .object "DeficitCircles$Turns"
abbrev wsX70 : List Cond := u_ws RX7 TX7 7
theorem nmX7 : ∀ a, a < 7 → ∀ b, b < 7 → a ≠ b → (TX7 a).2.1 ≠ (TX7 b).2.1 := by decide +kernel
theorem tyX7_ok : ∀ k, k < 7 → parseFieldDescriptor (TX7 k).2.2.1 = some (tyX7 k) := by decide +kernel
abbrev cX7_init : ByteArray := prog_1_method_1_code
def yX7_init : MethodName := ⟨RX7, "<init>", "()V"⟩
abbrev cX7_addGroup : ByteArray := prog_1_method_2_code
def yX7_addGroup : MethodName := ⟨RX7, "addGroup", "(I)I"⟩
abbrev cX7_addClass : ByteArray := prog_1_method_3_code
def yX7_addClass : MethodName := ⟨RX7, "addClass", "(IIII)I"⟩
abbrev cX7_setGroupQuantum : ByteArray := prog_1_method_4_code
def yX7_setGroupQuantum : MethodName := ⟨RX7, "setGroupQuantum", "(II)I"⟩
abbrev cX7_setQuantum : ByteArray := prog_1_method_5_code
def yX7_setQuantum : MethodName := ⟨RX7, "setQuantum", "(II)I"⟩
abbrev cX7_setAge : ByteArray := prog_1_method_6_code
def yX7_setAge : MethodName := ⟨RX7, "setAge", "(II)I"⟩
abbrev cX7_add : ByteArray := prog_1_method_7_code
def yX7_add : MethodName := ⟨RX7, "add", "(II)I"⟩
abbrev cX7_pass : ByteArray := prog_1_method_8_code
def yX7_pass : MethodName := ⟨RX7, "pass", "(I)I"⟩
abbrev cX7_mark : ByteArray := prog_1_method_9_code
def yX7_mark : MethodName := ⟨RX7, "mark", "()I"⟩
abbrev cX7_type : ByteArray := prog_1_method_10_code
def yX7_type : MethodName := ⟨RX7, "type", "(C)I"⟩
abbrev cX7_clearText : ByteArray := prog_1_method_11_code
def yX7_clearText : MethodName := ⟨RX7, "clearText", "()I"⟩
abbrev cX7_readJobs : ByteArray := prog_1_method_12_code
def yX7_readJobs : MethodName := ⟨RX7, "readJobs", "()I"⟩
abbrev cX7_undo : ByteArray := prog_1_method_13_code
def yX7_undo : MethodName := ⟨RX7, "undo", "()I"⟩
abbrev cX7_keep : ByteArray := prog_1_method_14_code
def yX7_keep : MethodName := ⟨RX7, "keep", "()I"⟩
abbrev cX7_restore : ByteArray := prog_1_method_15_code
def yX7_restore : MethodName := ⟨RX7, "restore", "()I"⟩
abbrev cX7_group : ByteArray := prog_1_method_16_code
def yX7_group : MethodName := ⟨RX7, "group", "(II)I"⟩
abbrev cX7_classOf : ByteArray := prog_1_method_17_code
def yX7_classOf : MethodName := ⟨RX7, "classOf", "(II)I"⟩
abbrev cX7_job : ByteArray := prog_1_method_18_code
def yX7_job : MethodName := ⟨RX7, "job", "(II)I"⟩
abbrev cX7_served : ByteArray := prog_1_method_19_code
def yX7_served : MethodName := ⟨RX7, "served", "(I)I"⟩
abbrev cX7_beginsAt : ByteArray := prog_1_method_20_code
def yX7_beginsAt : MethodName := ⟨RX7, "beginsAt", "(I)I"⟩
abbrev cX7_bound : ByteArray := prog_1_method_21_code
def yX7_bound : MethodName := ⟨RX7, "bound", "(I)I"⟩
abbrev cX7_shares : ByteArray := prog_1_method_22_code
def yX7_shares : MethodName := ⟨RX7, "shares", "(II)I"⟩
abbrev cX7_count : ByteArray := prog_1_method_23_code
def yX7_count : MethodName := ⟨RX7, "count", "(I)I"⟩
abbrev cX7_isWithin : ByteArray := prog_1_method_24_code
def yX7_isWithin : MethodName := ⟨RX7, "isWithin", "(III)Z"⟩
abbrev cX7_isQuantum : ByteArray := prog_1_method_25_code
def yX7_isQuantum : MethodName := ⟨RX7, "isQuantum", "(I)Z"⟩
abbrev cX7_passTick : ByteArray := prog_1_method_26_code
def yX7_passTick : MethodName := ⟨RX7, "passTick", "()I"⟩
abbrev cX7_beginAhead : ByteArray := prog_1_method_27_code
def yX7_beginAhead : MethodName := ⟨RX7, "beginAhead", "(I)I"⟩
def RL : String := "DeficitCirclesLaw"
abbrev cL_cell : ByteArray := method_2_code
def yL_cell : MethodName := ⟨RL, "cell", "([II)I"⟩
abbrev cL_low : ByteArray := method_3_code
def yL_low : MethodName := ⟨RL, "low", "(II)I"⟩
abbrev cL_sums : ByteArray := method_4_code
def yL_sums : MethodName := ⟨RL, "sums", "(LDeficitCircles;)Z"⟩
abbrev cL_comes : ByteArray := method_5_code
def yL_comes : MethodName := ⟨RL, "comes", "(LDeficitCircles;)Z"⟩
abbrev cL_acts : ByteArray := method_6_code
def yL_acts : MethodName := ⟨RL, "acts", "(LDeficitCircles;II)Z"⟩
abbrev cL_errors : ByteArray := method_7_code
def yL_errors : MethodName := ⟨RL, "errors", "(LDeficitCircles;)Z"⟩
abbrev cL_law : ByteArray := code
def yL_law : MethodName := ⟨RL, "law", "([I)Z"⟩
