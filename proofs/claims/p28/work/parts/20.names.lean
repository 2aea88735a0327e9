-- ===== PART A: goes FIRST, ahead of the names: the tables' words, and 'selects' of the private methods out of them =====
/-- a private method of a class that the tables say can be made, by its rows of tables_1 -/
def lw_okq (q : MethodName × Nat) : Prop := (q.1.cls ≠ "java/lang/invoke/MethodHandle" ∧ q.1.cls ≠ "java/lang/invoke/VarHandle") ∧ Cond.instantiable q.1.cls q.2 ∈ tables_1 ∧ Cond.privateMethod q.1 ∈ tables_1 ∧ Cond.instanceMethod q.1 ∈ tables_1
theorem lw_p0 : lw_okq (⟨"PitHouse", "left", "()I"⟩, 10) := ⟨⟨by decide +kernel, by decide +kernel⟩, List.mem_of_getElem? (i := 19) (by decide +kernel), List.mem_of_getElem? (i := 242) (by decide +kernel), List.mem_of_getElem? (i := 243) (by decide +kernel)⟩
theorem lw_p1 : lw_okq (⟨"java/lang/Throwable", "fillInStackTrace", "(I)Ljava/lang/Throwable;"⟩, 6) := ⟨⟨by decide +kernel, by decide +kernel⟩, List.mem_of_getElem? (i := 284) (by decide +kernel), List.mem_of_getElem? (i := 282) (by decide +kernel), List.mem_of_getElem? (i := 283) (by decide +kernel)⟩
theorem lw_p2 : lw_okq (⟨"PitHouse", "trackAt", "(I)LPitHouse$Track;"⟩, 10) := ⟨⟨by decide +kernel, by decide +kernel⟩, List.mem_of_getElem? (i := 19) (by decide +kernel), List.mem_of_getElem? (i := 347) (by decide +kernel), List.mem_of_getElem? (i := 348) (by decide +kernel)⟩
theorem lw_p3 : lw_okq (⟨"PitHouse$Sector", "mixed", "(J)J"⟩, 10) := ⟨⟨by decide +kernel, by decide +kernel⟩, List.mem_of_getElem? (i := 126) (by decide +kernel), List.mem_of_getElem? (i := 388) (by decide +kernel), List.mem_of_getElem? (i := 389) (by decide +kernel)⟩
theorem lw_p4 : lw_okq (⟨"PitHouse$Block", "parityOf", "(I)I"⟩, 2) := ⟨⟨by decide +kernel, by decide +kernel⟩, List.mem_of_getElem? (i := 80) (by decide +kernel), List.mem_of_getElem? (i := 405) (by decide +kernel), List.mem_of_getElem? (i := 406) (by decide +kernel)⟩
theorem lw_p5 : lw_okq (⟨"PitHouse$Sector", "reckon", "(LPitHouse$Bench;)V"⟩, 10) := ⟨⟨by decide +kernel, by decide +kernel⟩, List.mem_of_getElem? (i := 126) (by decide +kernel), List.mem_of_getElem? (i := 413) (by decide +kernel), List.mem_of_getElem? (i := 414) (by decide +kernel)⟩
theorem lw_p6 : lw_okq (⟨"PitHouse$Block", "fillErased", "()V"⟩, 2) := ⟨⟨by decide +kernel, by decide +kernel⟩, List.mem_of_getElem? (i := 80) (by decide +kernel), List.mem_of_getElem? (i := 425) (by decide +kernel), List.mem_of_getElem? (i := 426) (by decide +kernel)⟩
theorem lw_p7 : lw_okq (⟨"PitHouse$Block", "onlyOddOf", "(I)I"⟩, 2) := ⟨⟨by decide +kernel, by decide +kernel⟩, List.mem_of_getElem? (i := 80) (by decide +kernel), List.mem_of_getElem? (i := 441) (by decide +kernel), List.mem_of_getElem? (i := 442) (by decide +kernel)⟩
theorem lw_p8 : lw_okq (⟨"PitHouse$Sector", "judged", "(LPitHouse$Block;)I"⟩, 10) := ⟨⟨by decide +kernel, by decide +kernel⟩, List.mem_of_getElem? (i := 126) (by decide +kernel), List.mem_of_getElem? (i := 445) (by decide +kernel), List.mem_of_getElem? (i := 446) (by decide +kernel)⟩
theorem lw_p9 : lw_okq (⟨"PitHouse$Marks", "isJoined", "(II)Z"⟩, 4) := ⟨⟨by decide +kernel, by decide +kernel⟩, List.mem_of_getElem? (i := 95) (by decide +kernel), List.mem_of_getElem? (i := 464) (by decide +kernel), List.mem_of_getElem? (i := 465) (by decide +kernel)⟩
theorem lw_p10 : lw_okq (⟨"PitHouse$Marks", "dsvBehind", "(I)I"⟩, 4) := ⟨⟨by decide +kernel, by decide +kernel⟩, List.mem_of_getElem? (i := 95) (by decide +kernel), List.mem_of_getElem? (i := 468) (by decide +kernel), List.mem_of_getElem? (i := 469) (by decide +kernel)⟩
theorem lw_p11 : lw_okq (⟨"PitHouse$Marks", "putBits", "(I)V"⟩, 4) := ⟨⟨by decide +kernel, by decide +kernel⟩, List.mem_of_getElem? (i := 95) (by decide +kernel), List.mem_of_getElem? (i := 475) (by decide +kernel), List.mem_of_getElem? (i := 476) (by decide +kernel)⟩
theorem lw_p12 : lw_okq (⟨"PitHouse", "trackOf", "(I)I"⟩, 10) := ⟨⟨by decide +kernel, by decide +kernel⟩, List.mem_of_getElem? (i := 19) (by decide +kernel), List.mem_of_getElem? (i := 592) (by decide +kernel), List.mem_of_getElem? (i := 593) (by decide +kernel)⟩
theorem lw_p13 : lw_okq (⟨"PitHouse", "goodFrom", "(II)I"⟩, 10) := ⟨⟨by decide +kernel, by decide +kernel⟩, List.mem_of_getElem? (i := 19) (by decide +kernel), List.mem_of_getElem? (i := 618) (by decide +kernel), List.mem_of_getElem? (i := 619) (by decide +kernel)⟩
theorem lw_p14 : lw_okq (⟨"PitHouse", "isGood", "(I)Z"⟩, 10) := ⟨⟨by decide +kernel, by decide +kernel⟩, List.mem_of_getElem? (i := 19) (by decide +kernel), List.mem_of_getElem? (i := 622) (by decide +kernel), List.mem_of_getElem? (i := 623) (by decide +kernel)⟩
theorem lw_p15 : lw_okq (⟨"PitHouse", "writtenOf", "(I)I"⟩, 10) := ⟨⟨by decide +kernel, by decide +kernel⟩, List.mem_of_getElem? (i := 19) (by decide +kernel), List.mem_of_getElem? (i := 631) (by decide +kernel), List.mem_of_getElem? (i := 632) (by decide +kernel)⟩
def lw_privs_1 : List (MethodName × Nat) := [(⟨"PitHouse", "left", "()I"⟩, 10), (⟨"java/lang/Throwable", "fillInStackTrace", "(I)Ljava/lang/Throwable;"⟩, 6), (⟨"PitHouse", "trackAt", "(I)LPitHouse$Track;"⟩, 10), (⟨"PitHouse$Sector", "mixed", "(J)J"⟩, 10), (⟨"PitHouse$Block", "parityOf", "(I)I"⟩, 2), (⟨"PitHouse$Sector", "reckon", "(LPitHouse$Bench;)V"⟩, 10), (⟨"PitHouse$Block", "fillErased", "()V"⟩, 2), (⟨"PitHouse$Block", "onlyOddOf", "(I)I"⟩, 2), (⟨"PitHouse$Sector", "judged", "(LPitHouse$Block;)I"⟩, 10), (⟨"PitHouse$Marks", "isJoined", "(II)Z"⟩, 4), (⟨"PitHouse$Marks", "dsvBehind", "(I)I"⟩, 4), (⟨"PitHouse$Marks", "putBits", "(I)V"⟩, 4), (⟨"PitHouse", "trackOf", "(I)I"⟩, 10), (⟨"PitHouse", "goodFrom", "(II)I"⟩, 10), (⟨"PitHouse", "isGood", "(I)Z"⟩, 10), (⟨"PitHouse", "writtenOf", "(I)I"⟩, 10)]
theorem lw_r1 : ∀ q ∈ lw_privs_1, lw_okq q := List.forall_mem_cons.mpr ⟨lw_p0, List.forall_mem_cons.mpr ⟨lw_p1, List.forall_mem_cons.mpr ⟨lw_p2, List.forall_mem_cons.mpr ⟨lw_p3, List.forall_mem_cons.mpr ⟨lw_p4, List.forall_mem_cons.mpr ⟨lw_p5, List.forall_mem_cons.mpr ⟨lw_p6, List.forall_mem_cons.mpr ⟨lw_p7, List.forall_mem_cons.mpr ⟨lw_p8, List.forall_mem_cons.mpr ⟨lw_p9, List.forall_mem_cons.mpr ⟨lw_p10, List.forall_mem_cons.mpr ⟨lw_p11, List.forall_mem_cons.mpr ⟨lw_p12, List.forall_mem_cons.mpr ⟨lw_p13, List.forall_mem_cons.mpr ⟨lw_p14, List.forall_mem_cons.mpr ⟨lw_p15, fun _ h => absurd h List.not_mem_nil⟩⟩⟩⟩⟩⟩⟩⟩⟩⟩⟩⟩⟩⟩⟩⟩
theorem lw_p16 : lw_okq (⟨"PitHouse", "digestTracks", "(J)J"⟩, 10) := ⟨⟨by decide +kernel, by decide +kernel⟩, List.mem_of_getElem? (i := 19) (by decide +kernel), List.mem_of_getElem? (i := 663) (by decide +kernel), List.mem_of_getElem? (i := 664) (by decide +kernel)⟩
theorem lw_p17 : lw_okq (⟨"PitHouse", "digestSectors", "(J)J"⟩, 10) := ⟨⟨by decide +kernel, by decide +kernel⟩, List.mem_of_getElem? (i := 19) (by decide +kernel), List.mem_of_getElem? (i := 668) (by decide +kernel), List.mem_of_getElem? (i := 669) (by decide +kernel)⟩
theorem lw_p18 : lw_okq (⟨"PitHouse", "digestFiles", "(J)J"⟩, 10) := ⟨⟨by decide +kernel, by decide +kernel⟩, List.mem_of_getElem? (i := 19) (by decide +kernel), List.mem_of_getElem? (i := 674) (by decide +kernel), List.mem_of_getElem? (i := 675) (by decide +kernel)⟩
def lw_privs_2 : List (MethodName × Nat) := [(⟨"PitHouse", "digestTracks", "(J)J"⟩, 10), (⟨"PitHouse", "digestSectors", "(J)J"⟩, 10), (⟨"PitHouse", "digestFiles", "(J)J"⟩, 10)]
theorem lw_r2 : ∀ q ∈ lw_privs_2, lw_okq q := List.forall_mem_cons.mpr ⟨lw_p16, List.forall_mem_cons.mpr ⟨lw_p17, List.forall_mem_cons.mpr ⟨lw_p18, fun _ h => absurd h List.not_mem_nil⟩⟩⟩
def lw_privs : List (MethodName × Nat) := lw_privs_1 ++ (lw_privs_2)
def lw_tbl : List Cond := k2_sels lw_privs ++ tables_1
theorem lw_privs_ok : ∀ q ∈ lw_privs, lw_okq q := by
  show ∀ q ∈ lw_privs_1 ++ (lw_privs_2), lw_okq q
  exact List.forall_mem_append.mpr ⟨lw_r1, lw_r2⟩
/-- the streams that the claim lets the run draw from -/
abbrev lw_cs : List Choice := [Jvm.Choice.named "NaN.bits"]
theorem lw_bits : nanBits ∈ lw_cs := by first | decide | exact List.mem_cons_self | simp [lw_cs, nanBits]

def RX0 : String := "PitHouse$Bench"
def TX0 : u_T := fun k => match k with
  | 0 => ("PitHouse$Bench", "copy", "LPitHouse$Block;", true)
  | _ => ("PitHouse$Bench", "marks", "LPitHouse$Marks;", true)
def tyX0 : Nat → FieldType := fun k => match k with
  | 0 => .object "PitHouse$Block"
  | _ => .object "PitHouse$Marks"
abbrev wsX00 : List Cond := u_ws RX0 TX0 2
theorem nmX0 : ∀ a, a < 2 → ∀ b, b < 2 → a ≠ b → (TX0 a).2.1 ≠ (TX0 b).2.1 := by decide +kernel
theorem tyX0_ok : ∀ k, k < 2 → parseFieldDescriptor (TX0 k).2.2.1 = some (tyX0 k) := by decide +kernel
abbrev cX0_init : ByteArray := prog_2_method_1_code
def yX0_init : MethodName := ⟨RX0, "<init>", "()V"⟩
def RX1 : String := "PitHouse$Block"
def TX1 : u_T := fun k => match k with
  | 0 => ("PitHouse$Block", "values", "J", false)
  | _ => ("PitHouse$Block", "erased", "I", false)
def tyX1 : Nat → FieldType := fun k => match k with
  | 0 => .long
  | _ => .int
abbrev wsX10 : List Cond := u_ws RX1 TX1 2
theorem nmX1 : ∀ a, a < 2 → ∀ b, b < 2 → a ≠ b → (TX1 a).2.1 ≠ (TX1 b).2.1 := by decide +kernel
theorem tyX1_ok : ∀ k, k < 2 → parseFieldDescriptor (TX1 k).2.2.1 = some (tyX1 k) := by decide +kernel
abbrev cX1_init : ByteArray := prog_3_method_1_code
def yX1_init : MethodName := ⟨RX1, "<init>", "()V"⟩
abbrev cX1_valueAt : ByteArray := prog_3_method_2_code
def yX1_valueAt : MethodName := ⟨RX1, "valueAt", "(I)I"⟩
abbrev cX1_isErased : ByteArray := prog_3_method_3_code
def yX1_isErased : MethodName := ⟨RX1, "isErased", "(I)Z"⟩
abbrev cX1_put : ByteArray := prog_3_method_4_code
def yX1_put : MethodName := ⟨RX1, "put", "(II)V"⟩
abbrev cX1_erase : ByteArray := prog_3_method_5_code
def yX1_erase : MethodName := ⟨RX1, "erase", "(I)V"⟩
abbrev cX1_copyFrom : ByteArray := prog_3_method_6_code
def yX1_copyFrom : MethodName := ⟨RX1, "copyFrom", "(LPitHouse$Block;)V"⟩
abbrev cX1_spread : ByteArray := prog_3_method_7_code
def yX1_spread : MethodName := ⟨RX1, "spread", "(J)V"⟩
abbrev cX1_gathered : ByteArray := prog_3_method_8_code
def yX1_gathered : MethodName := ⟨RX1, "gathered", "()J"⟩
abbrev cX1_mend : ByteArray := prog_3_method_9_code
def yX1_mend : MethodName := ⟨RX1, "mend", "()V"⟩
abbrev cX1_isEven : ByteArray := prog_3_method_10_code
def yX1_isEven : MethodName := ⟨RX1, "isEven", "()Z"⟩
abbrev cX1_fillErased : ByteArray := prog_3_method_11_code
def yX1_fillErased : MethodName := ⟨RX1, "fillErased", "()V"⟩
abbrev cX1_onlyOddOf : ByteArray := prog_3_method_12_code
def yX1_onlyOddOf : MethodName := ⟨RX1, "onlyOddOf", "(I)I"⟩
abbrev cX1_parityOf : ByteArray := prog_3_method_13_code
def yX1_parityOf : MethodName := ⟨RX1, "parityOf", "(I)I"⟩
abbrev cX1_placeOf : ByteArray := prog_3_method_14_code
def yX1_placeOf : MethodName := ⟨RX1, "placeOf", "(I)I"⟩
def RX2 : String := "PitHouse$Drive"
def TX2 : u_T := fun k => match k with
  | 0 => ("PitHouse$Drive", "head", "I", false)
  | 1 => ("PitHouse$Drive", "clock", "D", false)
  | 2 => ("PitHouse$Drive", "reads", "I", false)
  | 3 => ("PitHouse$Drive", "isTrayOpen", "Z", false)
  | _ => ("PitHouse$Drive", "refusals", "I", false)
def tyX2 : Nat → FieldType := fun k => match k with
  | 0 => .int
  | 1 => .double
  | 2 => .int
  | 3 => .boolean
  | _ => .int
abbrev wsX20 : List Cond := u_ws RX2 TX2 5
theorem nmX2 : ∀ a, a < 5 → ∀ b, b < 5 → a ≠ b → (TX2 a).2.1 ≠ (TX2 b).2.1 := by decide +kernel
theorem tyX2_ok : ∀ k, k < 5 → parseFieldDescriptor (TX2 k).2.2.1 = some (tyX2 k) := by decide +kernel
abbrev cX2_init : ByteArray := prog_4_method_1_code
def yX2_init : MethodName := ⟨RX2, "<init>", "()V"⟩
abbrev cX2_seekTime : ByteArray := prog_4_method_2_code
def yX2_seekTime : MethodName := ⟨RX2, "seekTime", "(II)D"⟩
abbrev cX2_restOfTurn : ByteArray := prog_4_method_3_code
def yX2_restOfTurn : MethodName := ⟨RX2, "restOfTurn", "(D)D"⟩
abbrev cX2_clockBehind : ByteArray := prog_4_method_4_code
def yX2_clockBehind : MethodName := ⟨RX2, "clockBehind", "(DII)D"⟩
abbrev cX2_headBehind : ByteArray := prog_4_method_5_code
def yX2_headBehind : MethodName := ⟨RX2, "headBehind", "(I)I"⟩
abbrev cX2_passOver : ByteArray := prog_4_method_6_code
def yX2_passOver : MethodName := ⟨RX2, "passOver", "(I)V"⟩
abbrev cX2_timeOver : ByteArray := prog_4_method_7_code
def yX2_timeOver : MethodName := ⟨RX2, "timeOver", "(II)D"⟩
def RX3 : String := "PitHouse$FileTable"
def TX3 : u_T := fun k => match k with
  | 0 => ("PitHouse$FileTable", "firsts", "[[I", true)
  | _ => ("PitHouse$FileTable", "lengths", "[[I", true)
def tyX3 : Nat → FieldType := fun k => match k with
  | 0 => .array (.array .int)
  | _ => .array (.array .int)
abbrev wsX30 : List Cond := u_ws RX3 TX3 2
theorem nmX3 : ∀ a, a < 2 → ∀ b, b < 2 → a ≠ b → (TX3 a).2.1 ≠ (TX3 b).2.1 := by decide +kernel
theorem tyX3_ok : ∀ k, k < 2 → parseFieldDescriptor (TX3 k).2.2.1 = some (tyX3 k) := by decide +kernel
abbrev cX3_init : ByteArray := prog_5_method_1_code
def yX3_init : MethodName := ⟨RX3, "<init>", "()V"⟩
abbrev cX3_tellerOf : ByteArray := prog_5_method_3_code
def yX3_tellerOf : MethodName := ⟨RX3, "tellerOf", "(II)I"⟩
abbrev cX3_firstOf : ByteArray := prog_5_method_4_code
def yX3_firstOf : MethodName := ⟨RX3, "firstOf", "(II)I"⟩
abbrev cX3_lengthOf : ByteArray := prog_5_method_5_code
def yX3_lengthOf : MethodName := ⟨RX3, "lengthOf", "(II)I"⟩
def RX4 : String := "PitHouse$Marks"
def TX4 : u_T := fun k => match k with
  | 0 => ("PitHouse$Marks", "level", "I", false)
  | 1 => ("PitHouse$Marks", "dsv", "I", false)
  | 2 => ("PitHouse$Marks", "turns", "I", false)
  | _ => ("PitHouse$Marks", "farthest", "I", false)
def tyX4 : Nat → FieldType := fun k => match k with
  | 0 => .int
  | 1 => .int
  | 2 => .int
  | _ => .int
abbrev wsX40 : List Cond := u_ws RX4 TX4 4
theorem nmX4 : ∀ a, a < 4 → ∀ b, b < 4 → a ≠ b → (TX4 a).2.1 ≠ (TX4 b).2.1 := by decide +kernel
theorem tyX4_ok : ∀ k, k < 4 → parseFieldDescriptor (TX4 k).2.2.1 = some (tyX4 k) := by decide +kernel
abbrev cX4_init : ByteArray := prog_6_method_1_code
def yX4_init : MethodName := ⟨RX4, "<init>", "()V"⟩
abbrev cX4_mark : ByteArray := prog_6_method_2_code
def yX4_mark : MethodName := ⟨RX4, "mark", "(LPitHouse$Block;)V"⟩
abbrev cX4_isJoined : ByteArray := prog_6_method_3_code
def yX4_isJoined : MethodName := ⟨RX4, "isJoined", "(II)Z"⟩
abbrev cX4_dsvBehind : ByteArray := prog_6_method_4_code
def yX4_dsvBehind : MethodName := ⟨RX4, "dsvBehind", "(I)I"⟩
abbrev cX4_putBits : ByteArray := prog_6_method_5_code
def yX4_putBits : MethodName := ⟨RX4, "putBits", "(I)V"⟩
def RX5 : String := "PitHouse$Sector"
def TX5 : u_T := fun k => match k with
  | 0 => ("PitHouse$Sector", "number", "I", true)
  | 1 => ("PitHouse$Sector", "block", "LPitHouse$Block;", true)
  | 2 => ("PitHouse$Sector", "isWritten", "Z", false)
  | 3 => ("PitHouse$Sector", "isData", "Z", false)
  | 4 => ("PitHouse$Sector", "sum", "I", false)
  | 5 => ("PitHouse$Sector", "state", "I", false)
  | 6 => ("PitHouse$Sector", "mended", "J", false)
  | 7 => ("PitHouse$Sector", "turns", "I", false)
  | 8 => ("PitHouse$Sector", "dsv", "I", false)
  | _ => ("PitHouse$Sector", "farthest", "I", false)
def tyX5 : Nat → FieldType := fun k => match k with
  | 0 => .int
  | 1 => .object "PitHouse$Block"
  | 2 => .boolean
  | 3 => .boolean
  | 4 => .int
  | 5 => .int
  | 6 => .long
  | 7 => .int
  | 8 => .int
  | _ => .int
abbrev wsX50 : List Cond := u_ws RX5 TX5 10
theorem nmX5 : ∀ a, a < 10 → ∀ b, b < 10 → a ≠ b → (TX5 a).2.1 ≠ (TX5 b).2.1 := by decide +kernel
theorem tyX5_ok : ∀ k, k < 10 → parseFieldDescriptor (TX5 k).2.2.1 = some (tyX5 k) := by decide +kernel
abbrev cX5_init : ByteArray := prog_7_method_1_code
def yX5_init : MethodName := ⟨RX5, "<init>", "(I)V"⟩
abbrev cX5_fillWith : ByteArray := prog_7_method_2_code
def yX5_fillWith : MethodName := ⟨RX5, "fillWith", "(JZLPitHouse$Bench;)V"⟩
abbrev cX5_eraseColumn : ByteArray := prog_7_method_3_code
def yX5_eraseColumn : MethodName := ⟨RX5, "eraseColumn", "(IILPitHouse$Bench;)V"⟩
abbrev cX5_makeWrong : ByteArray := prog_7_method_4_code
def yX5_makeWrong : MethodName := ⟨RX5, "makeWrong", "(IILPitHouse$Bench;)Z"⟩
abbrev cX5_raw : ByteArray := prog_7_method_5_code
def yX5_raw : MethodName := ⟨RX5, "raw", "()J"⟩
abbrev cX5_stateWithout : ByteArray := prog_7_method_7_code
def yX5_stateWithout : MethodName := ⟨RX5, "stateWithout", "(ILPitHouse$Block;)I"⟩
abbrev cX5_reckon : ByteArray := prog_7_method_8_code
def yX5_reckon : MethodName := ⟨RX5, "reckon", "(LPitHouse$Bench;)V"⟩
abbrev cX5_judged : ByteArray := prog_7_method_9_code
def yX5_judged : MethodName := ⟨RX5, "judged", "(LPitHouse$Block;)I"⟩
abbrev cX5_mixed : ByteArray := prog_7_method_10_code
def yX5_mixed : MethodName := ⟨RX5, "mixed", "(J)J"⟩
abbrev cX5_sumOf : ByteArray := prog_7_method_11_code
def yX5_sumOf : MethodName := ⟨RX5, "sumOf", "(J)I"⟩
abbrev cX5_nibbleOf : ByteArray := prog_7_method_12_code
def yX5_nibbleOf : MethodName := ⟨RX5, "nibbleOf", "(JI)I"⟩
def RX6 : String := "PitHouse$Spiral"
def TX6 : u_T := fun k => match k with
  | _ => ("", "", "", false)
def tyX6 : Nat → FieldType := fun k => match k with
  | _ => .int
abbrev wsX60 : List Cond := u_ws RX6 TX6 0
theorem nmX6 : ∀ a, a < 0 → ∀ b, b < 0 → a ≠ b → (TX6 a).2.1 ≠ (TX6 b).2.1 := by decide +kernel
theorem tyX6_ok : ∀ k, k < 0 → parseFieldDescriptor (TX6 k).2.2.1 = some (tyX6 k) := by decide +kernel
abbrev cX6_zoneOf : ByteArray := prog_8_method_2_code
def yX6_zoneOf : MethodName := ⟨RX6, "zoneOf", "(I)I"⟩
abbrev cX6_turnOf : ByteArray := prog_8_method_3_code
def yX6_turnOf : MethodName := ⟨RX6, "turnOf", "(I)I"⟩
abbrev cX6_angleOf : ByteArray := prog_8_method_4_code
def yX6_angleOf : MethodName := ⟨RX6, "angleOf", "(I)D"⟩
abbrev cX6_speedOf : ByteArray := prog_8_method_5_code
def yX6_speedOf : MethodName := ⟨RX6, "speedOf", "(I)F"⟩
abbrev cX6_positionOf : ByteArray := prog_8_method_6_code
def yX6_positionOf : MethodName := ⟨RX6, "positionOf", "(I)I"⟩
def RX7 : String := "PitHouse$Track"
def TX7 : u_T := fun k => match k with
  | 0 => ("PitHouse$Track", "session", "I", false)
  | 1 => ("PitHouse$Track", "mode", "I", false)
  | 2 => ("PitHouse$Track", "first", "I", false)
  | 3 => ("PitHouse$Track", "has", "I", false)
  | 4 => ("PitHouse$Track", "used", "I", false)
  | 5 => ("PitHouse$Track", "links", "I", false)
  | _ => ("PitHouse$Track", "isClosed", "Z", false)
def tyX7 : Nat → FieldType := fun k => match k with
  | 0 => .int
  | 1 => .int
  | 2 => .int
  | 3 => .int
  | 4 => .int
  | 5 => .int
  | _ => .boolean
abbrev wsX70 : List Cond := u_ws RX7 TX7 7
theorem nmX7 : ∀ a, a < 7 → ∀ b, b < 7 → a ≠ b → (TX7 a).2.1 ≠ (TX7 b).2.1 := by decide +kernel
theorem tyX7_ok : ∀ k, k < 7 → parseFieldDescriptor (TX7 k).2.2.1 = some (tyX7 k) := by decide +kernel
abbrev cX7_init : ByteArray := prog_9_method_1_code
def yX7_init : MethodName := ⟨RX7, "<init>", "()V"⟩
abbrev cX7_reserve : ByteArray := prog_9_method_2_code
def yX7_reserve : MethodName := ⟨RX7, "reserve", "(IIII)V"⟩
abbrev cX7_behind : ByteArray := prog_9_method_3_code
def yX7_behind : MethodName := ⟨RX7, "behind", "()I"⟩
abbrev cX7_holds : ByteArray := prog_9_method_4_code
def yX7_holds : MethodName := ⟨RX7, "holds", "(I)Z"⟩
abbrev cX7_hasRoom : ByteArray := prog_9_method_5_code
def yX7_hasRoom : MethodName := ⟨RX7, "hasRoom", "()Z"⟩
abbrev cX7_takeNext : ByteArray := prog_9_method_6_code
def yX7_takeNext : MethodName := ⟨RX7, "takeNext", "()I"⟩
abbrev cX7_giveBack : ByteArray := prog_9_method_7_code
def yX7_giveBack : MethodName := ⟨RX7, "giveBack", "()I"⟩
def RX8 : String := "PitHouse"
def TX8 : u_T := fun k => match k with
  | 0 => ("PitHouse", "sectors", "[LPitHouse$Sector;", true)
  | 1 => ("PitHouse", "tracks", "[LPitHouse$Track;", true)
  | 2 => ("PitHouse", "files", "LPitHouse$FileTable;", true)
  | 3 => ("PitHouse", "drive", "LPitHouse$Drive;", true)
  | 4 => ("PitHouse", "bench", "LPitHouse$Bench;", true)
  | 5 => ("PitHouse", "sessionCount", "I", false)
  | 6 => ("PitHouse", "trackCount", "I", false)
  | 7 => ("PitHouse", "next", "I", false)
  | 8 => ("PitHouse", "calibrations", "I", false)
  | _ => ("PitHouse", "isSessionOpen", "Z", false)
def tyX8 : Nat → FieldType := fun k => match k with
  | 0 => .array (.object "PitHouse$Sector")
  | 1 => .array (.object "PitHouse$Track")
  | 2 => .object "PitHouse$FileTable"
  | 3 => .object "PitHouse$Drive"
  | 4 => .object "PitHouse$Bench"
  | 5 => .int
  | 6 => .int
  | 7 => .int
  | 8 => .int
  | _ => .boolean
abbrev wsX80 : List Cond := u_ws RX8 TX8 10
theorem nmX8 : ∀ a, a < 10 → ∀ b, b < 10 → a ≠ b → (TX8 a).2.1 ≠ (TX8 b).2.1 := by decide +kernel
theorem tyX8_ok : ∀ k, k < 10 → parseFieldDescriptor (TX8 k).2.2.1 = some (tyX8 k) := by decide +kernel
abbrev cX8_init : ByteArray := prog_1_method_1_code
def yX8_init : MethodName := ⟨RX8, "<init>", "()V"⟩
abbrev cX8_session : ByteArray := prog_1_method_2_code
def yX8_session : MethodName := ⟨RX8, "session", "()I"⟩
abbrev cX8_track : ByteArray := prog_1_method_3_code
def yX8_track : MethodName := ⟨RX8, "track", "(II)I"⟩
abbrev cX8_write : ByteArray := prog_1_method_4_code
def yX8_write : MethodName := ⟨RX8, "write", "(IJ)I"⟩
abbrev cX8_starve : ByteArray := prog_1_method_5_code
def yX8_starve : MethodName := ⟨RX8, "starve", "(I)I"⟩
abbrev cX8_close : ByteArray := prog_1_method_6_code
def yX8_close : MethodName := ⟨RX8, "close", "(I)I"⟩
abbrev cX8_scratch : ByteArray := prog_1_method_9_code
def yX8_scratch : MethodName := ⟨RX8, "scratch", "(IIII)I"⟩
abbrev cX8_rot : ByteArray := prog_1_method_10_code
def yX8_rot : MethodName := ⟨RX8, "rot", "(I)I"⟩
abbrev cX8_read : ByteArray := prog_1_method_13_code
def yX8_read : MethodName := ⟨RX8, "read", "(I)I"⟩
abbrev cX8_clock : ByteArray := prog_1_method_15_code
def yX8_clock : MethodName := ⟨RX8, "clock", "()D"⟩
abbrev cX8_ofSector : ByteArray := prog_1_method_17_code
def yX8_ofSector : MethodName := ⟨RX8, "ofSector", "(II)I"⟩
abbrev cX8_nibbles : ByteArray := prog_1_method_18_code
def yX8_nibbles : MethodName := ⟨RX8, "nibbles", "(IZ)J"⟩
abbrev cX8_ofTrack : ByteArray := prog_1_method_20_code
def yX8_ofTrack : MethodName := ⟨RX8, "ofTrack", "(II)I"⟩
abbrev cX8_ofFile : ByteArray := prog_1_method_21_code
def yX8_ofFile : MethodName := ⟨RX8, "ofFile", "(III)I"⟩
abbrev cX8_many : ByteArray := prog_1_method_23_code
def yX8_many : MethodName := ⟨RX8, "many", "(I)I"⟩
abbrev cX8_wouldTake : ByteArray := prog_1_method_24_code
def yX8_wouldTake : MethodName := ⟨RX8, "wouldTake", "(II)D"⟩
abbrev cX8_wouldMend : ByteArray := prog_1_method_25_code
def yX8_wouldMend : MethodName := ⟨RX8, "wouldMend", "(II)I"⟩
abbrev cX8_digest : ByteArray := prog_1_method_26_code
def yX8_digest : MethodName := ⟨RX8, "digest", "()J"⟩
abbrev cX8_digestTracks : ByteArray := prog_1_method_27_code
def yX8_digestTracks : MethodName := ⟨RX8, "digestTracks", "(J)J"⟩
abbrev cX8_digestSectors : ByteArray := prog_1_method_28_code
def yX8_digestSectors : MethodName := ⟨RX8, "digestSectors", "(J)J"⟩
abbrev cX8_digestFiles : ByteArray := prog_1_method_29_code
def yX8_digestFiles : MethodName := ⟨RX8, "digestFiles", "(J)J"⟩
abbrev cX8_isSector : ByteArray := prog_1_method_30_code
def yX8_isSector : MethodName := ⟨RX8, "isSector", "(I)Z"⟩
abbrev cX8_checkSector : ByteArray := prog_1_method_31_code
def yX8_checkSector : MethodName := ⟨RX8, "checkSector", "(I)V"⟩
abbrev cX8_checkFile : ByteArray := prog_1_method_32_code
def yX8_checkFile : MethodName := ⟨RX8, "checkFile", "(I)V"⟩
abbrev cX8_trackAt : ByteArray := prog_1_method_33_code
def yX8_trackAt : MethodName := ⟨RX8, "trackAt", "(I)LPitHouse$Track;"⟩
abbrev cX8_left : ByteArray := prog_1_method_34_code
def yX8_left : MethodName := ⟨RX8, "left", "()I"⟩
abbrev cX8_trackOf : ByteArray := prog_1_method_35_code
def yX8_trackOf : MethodName := ⟨RX8, "trackOf", "(I)I"⟩
abbrev cX8_isGood : ByteArray := prog_1_method_37_code
def yX8_isGood : MethodName := ⟨RX8, "isGood", "(I)Z"⟩
abbrev cX8_goodFrom : ByteArray := prog_1_method_38_code
def yX8_goodFrom : MethodName := ⟨RX8, "goodFrom", "(II)I"⟩
abbrev cX8_writtenOf : ByteArray := prog_1_method_39_code
def yX8_writtenOf : MethodName := ⟨RX8, "writtenOf", "(I)I"⟩
def RX9 : String := "PitHouseModel"
def TX9 : u_T := fun k => match k with
  | _ => ("", "", "", false)
def tyX9 : Nat → FieldType := fun k => match k with
  | _ => .int
abbrev wsX90 : List Cond := u_ws RX9 TX9 0
theorem nmX9 : ∀ a, a < 0 → ∀ b, b < 0 → a ≠ b → (TX9 a).2.1 ≠ (TX9 b).2.1 := by decide +kernel
theorem tyX9_ok : ∀ k, k < 0 → parseFieldDescriptor (TX9 k).2.2.1 = some (tyX9 k) := by decide +kernel
def RJx145de : String := "java/io/Serializable"
def TJx145de : u_T := fun k => match k with
  | _ => ("", "", "", false)
def tyJx145de : Nat → FieldType := fun k => match k with
  | _ => .int
abbrev wsJx145de0 : List Cond := u_ws RJx145de TJx145de 0
theorem nmJx145de : ∀ a, a < 0 → ∀ b, b < 0 → a ≠ b → (TJx145de a).2.1 ≠ (TJx145de b).2.1 := by decide +kernel
theorem tyJx145de_ok : ∀ k, k < 0 → parseFieldDescriptor (TJx145de k).2.2.1 = some (tyJx145de k) := by decide +kernel
def RJ6 : String := "java/lang/Integer"
def TJ6 : u_T := fun k => match k with
  | _ => ("", "", "", false)
def tyJ6 : Nat → FieldType := fun k => match k with
  | _ => .int
abbrev wsJ60 : List Cond := u_ws RJ6 TJ6 0
theorem nmJ6 : ∀ a, a < 0 → ∀ b, b < 0 → a ≠ b → (TJ6 a).2.1 ≠ (TJ6 b).2.1 := by decide +kernel
theorem tyJ6_ok : ∀ k, k < 0 → parseFieldDescriptor (TJ6 k).2.2.1 = some (tyJ6 k) := by decide +kernel
abbrev cJ6_numberOfTrailingZeros_0f7a4 : ByteArray := prog_16_method_48_code
def yJ6_numberOfTrailingZeros_0f7a4 : MethodName := ⟨RJ6, "numberOfTrailingZeros", "(I)I"⟩
abbrev cJ6_bitCount_0f7a4 : ByteArray := prog_16_method_49_code
def yJ6_bitCount_0f7a4 : MethodName := ⟨RJ6, "bitCount", "(I)I"⟩
def RJ9 : String := "java/lang/Math"
def TJ9 : u_T := fun k => match k with
  | _ => ("", "", "", false)
def tyJ9 : Nat → FieldType := fun k => match k with
  | _ => .int
abbrev wsJ90 : List Cond := u_ws RJ9 TJ9 0
theorem nmJ9 : ∀ a, a < 0 → ∀ b, b < 0 → a ≠ b → (TJ9 a).2.1 ≠ (TJ9 b).2.1 := by decide +kernel
theorem tyJ9_ok : ∀ k, k < 0 → parseFieldDescriptor (TJ9 k).2.2.1 = some (tyJ9 k) := by decide +kernel
abbrev cJ9_abs_0f7a4 : ByteArray := prog_17_method_59_code
def yJ9_abs_0f7a4 : MethodName := ⟨RJ9, "abs", "(I)I"⟩
abbrev cJ9_max_7cf53 : ByteArray := prog_17_method_65_code
def yJ9_max_7cf53 : MethodName := ⟨RJ9, "max", "(II)I"⟩
abbrev cJ9_min_7cf53 : ByteArray := prog_17_method_69_code
def yJ9_min_7cf53 : MethodName := ⟨RJ9, "min", "(II)I"⟩
def RJ0 : String := "java/lang/String"
def TJ0 : u_T := fun k => match k with
  | _ => ("", "", "", false)
def tyJ0 : Nat → FieldType := fun k => match k with
  | _ => .int
abbrev wsJ00 : List Cond := u_ws RJ0 TJ0 0
theorem nmJ0 : ∀ a, a < 0 → ∀ b, b < 0 → a ≠ b → (TJ0 a).2.1 ≠ (TJ0 b).2.1 := by decide +kernel
theorem tyJ0_ok : ∀ k, k < 0 → parseFieldDescriptor (TJ0 k).2.2.1 = some (tyJ0 k) := by decide +kernel
def RL : String := "PitHouseLaw"
abbrev cL_below : ByteArray := method_2_code
def yL_below : MethodName := ⟨RL, "below", "(II)I"⟩
abbrev cL_cell : ByteArray := method_3_code
def yL_cell : MethodName := ⟨RL, "cell", "([II)I"⟩
abbrev cL_nibbles : ByteArray := method_4_code
def yL_nibbles : MethodName := ⟨RL, "nibbles", "([II)J"⟩
abbrev cL_law : ByteArray := code
def yL_law : MethodName := ⟨RL, "law", "([I)Z"⟩
