-- ===== PART A: goes FIRST, ahead of the names: the tables' words, and 'selects' of the private methods out of them =====
/-- a private method of a class that the tables say can be made, by its rows of tables_1 -/
def lw_okq (q : MethodName × Nat) : Prop := (q.1.cls ≠ "java/lang/invoke/MethodHandle" ∧ q.1.cls ≠ "java/lang/invoke/VarHandle") ∧ Cond.instantiable q.1.cls q.2 ∈ tables_1 ∧ Cond.privateMethod q.1 ∈ tables_1 ∧ Cond.instanceMethod q.1 ∈ tables_1
theorem lw_p0 : lw_okq (⟨"VernierEncoder$History", "restoreLatest", "(LVernierEncoder$State;)V"⟩, 3) := ⟨⟨by decide +kernel, by decide +kernel⟩, List.mem_of_getElem? (i := 73) (by decide +kernel), List.mem_of_getElem? (i := 192) (by decide +kernel), List.mem_of_getElem? (i := 193) (by decide +kernel)⟩
theorem lw_p1 : lw_okq (⟨"VernierEncoder$History", "slot", "(I)LVernierEncoder$State;"⟩, 3) := ⟨⟨by decide +kernel, by decide +kernel⟩, List.mem_of_getElem? (i := 73) (by decide +kernel), List.mem_of_getElem? (i := 196) (by decide +kernel), List.mem_of_getElem? (i := 197) (by decide +kernel)⟩
theorem lw_p2 : lw_okq (⟨"VernierEncoder$State", "copyFrom", "(LVernierEncoder$State;)V"⟩, 11) := ⟨⟨by decide +kernel, by decide +kernel⟩, List.mem_of_getElem? (i := 17) (by decide +kernel), List.mem_of_getElem? (i := 203) (by decide +kernel), List.mem_of_getElem? (i := 204) (by decide +kernel)⟩
theorem lw_p3 : lw_okq (⟨"VernierEncoder$History", "keep", "(LVernierEncoder$State;)V"⟩, 3) := ⟨⟨by decide +kernel, by decide +kernel⟩, List.mem_of_getElem? (i := 73) (by decide +kernel), List.mem_of_getElem? (i := 220) (by decide +kernel), List.mem_of_getElem? (i := 221) (by decide +kernel)⟩
theorem lw_p4 : lw_okq (⟨"VernierEncoder", "shownSetting", "(I)I"⟩, 5) := ⟨⟨by decide +kernel, by decide +kernel⟩, List.mem_of_getElem? (i := 9) (by decide +kernel), List.mem_of_getElem? (i := 238) (by decide +kernel), List.mem_of_getElem? (i := 239) (by decide +kernel)⟩
theorem lw_p5 : lw_okq (⟨"VernierEncoder$State", "angle", "()I"⟩, 11) := ⟨⟨by decide +kernel, by decide +kernel⟩, List.mem_of_getElem? (i := 17) (by decide +kernel), List.mem_of_getElem? (i := 269) (by decide +kernel), List.mem_of_getElem? (i := 270) (by decide +kernel)⟩
theorem lw_p6 : lw_okq (⟨"VernierEncoder$State", "coarse", "()I"⟩, 11) := ⟨⟨by decide +kernel, by decide +kernel⟩, List.mem_of_getElem? (i := 17) (by decide +kernel), List.mem_of_getElem? (i := 277) (by decide +kernel), List.mem_of_getElem? (i := 278) (by decide +kernel)⟩
theorem lw_p7 : lw_okq (⟨"VernierEncoder$State", "correctionsInUse", "()I"⟩, 11) := ⟨⟨by decide +kernel, by decide +kernel⟩, List.mem_of_getElem? (i := 17) (by decide +kernel), List.mem_of_getElem? (i := 283) (by decide +kernel), List.mem_of_getElem? (i := 284) (by decide +kernel)⟩
theorem lw_p8 : lw_okq (⟨"VernierEncoder", "settingCount", "(I)I"⟩, 5) := ⟨⟨by decide +kernel, by decide +kernel⟩, List.mem_of_getElem? (i := 9) (by decide +kernel), List.mem_of_getElem? (i := 287) (by decide +kernel), List.mem_of_getElem? (i := 288) (by decide +kernel)⟩
theorem lw_p9 : lw_okq (⟨"VernierEncoder$State", "readingAt", "(II)I"⟩, 11) := ⟨⟨by decide +kernel, by decide +kernel⟩, List.mem_of_getElem? (i := 17) (by decide +kernel), List.mem_of_getElem? (i := 300) (by decide +kernel), List.mem_of_getElem? (i := 301) (by decide +kernel)⟩
theorem lw_p10 : lw_okq (⟨"VernierEncoder$State", "isPoor", "(I)Z"⟩, 11) := ⟨⟨by decide +kernel, by decide +kernel⟩, List.mem_of_getElem? (i := 17) (by decide +kernel), List.mem_of_getElem? (i := 314) (by decide +kernel), List.mem_of_getElem? (i := 315) (by decide +kernel)⟩
theorem lw_p11 : lw_okq (⟨"VernierEncoder$State", "crossBound", "(I)V"⟩, 11) := ⟨⟨by decide +kernel, by decide +kernel⟩, List.mem_of_getElem? (i := 17) (by decide +kernel), List.mem_of_getElem? (i := 330) (by decide +kernel), List.mem_of_getElem? (i := 331) (by decide +kernel)⟩
theorem lw_p12 : lw_okq (⟨"VernierEncoder$Finding", "search", "(LVernierEncoder$State;I)V"⟩, 4) := ⟨⟨by decide +kernel, by decide +kernel⟩, List.mem_of_getElem? (i := 93) (by decide +kernel), List.mem_of_getElem? (i := 354) (by decide +kernel), List.mem_of_getElem? (i := 355) (by decide +kernel)⟩
theorem lw_p13 : lw_okq (⟨"VernierEncoder$Finding", "searchCorrected", "(LVernierEncoder$State;II)V"⟩, 4) := ⟨⟨by decide +kernel, by decide +kernel⟩, List.mem_of_getElem? (i := 93) (by decide +kernel), List.mem_of_getElem? (i := 377) (by decide +kernel), List.mem_of_getElem? (i := 378) (by decide +kernel)⟩
theorem lw_p14 : lw_okq (⟨"VernierEncoder$State", "corrected", "(III)I"⟩, 11) := ⟨⟨by decide +kernel, by decide +kernel⟩, List.mem_of_getElem? (i := 17) (by decide +kernel), List.mem_of_getElem? (i := 381) (by decide +kernel), List.mem_of_getElem? (i := 382) (by decide +kernel)⟩
theorem lw_p15 : lw_okq (⟨"VernierEncoder$Entries", "append", "(I)V"⟩, 7) := ⟨⟨by decide +kernel, by decide +kernel⟩, List.mem_of_getElem? (i := 141) (by decide +kernel), List.mem_of_getElem? (i := 406) (by decide +kernel), List.mem_of_getElem? (i := 407) (by decide +kernel)⟩
def lw_privs_1 : List (MethodName × Nat) := [(⟨"VernierEncoder$History", "restoreLatest", "(LVernierEncoder$State;)V"⟩, 3), (⟨"VernierEncoder$History", "slot", "(I)LVernierEncoder$State;"⟩, 3), (⟨"VernierEncoder$State", "copyFrom", "(LVernierEncoder$State;)V"⟩, 11), (⟨"VernierEncoder$History", "keep", "(LVernierEncoder$State;)V"⟩, 3), (⟨"VernierEncoder", "shownSetting", "(I)I"⟩, 5), (⟨"VernierEncoder$State", "angle", "()I"⟩, 11), (⟨"VernierEncoder$State", "coarse", "()I"⟩, 11), (⟨"VernierEncoder$State", "correctionsInUse", "()I"⟩, 11), (⟨"VernierEncoder", "settingCount", "(I)I"⟩, 5), (⟨"VernierEncoder$State", "readingAt", "(II)I"⟩, 11), (⟨"VernierEncoder$State", "isPoor", "(I)Z"⟩, 11), (⟨"VernierEncoder$State", "crossBound", "(I)V"⟩, 11), (⟨"VernierEncoder$Finding", "search", "(LVernierEncoder$State;I)V"⟩, 4), (⟨"VernierEncoder$Finding", "searchCorrected", "(LVernierEncoder$State;II)V"⟩, 4), (⟨"VernierEncoder$State", "corrected", "(III)I"⟩, 11), (⟨"VernierEncoder$Entries", "append", "(I)V"⟩, 7)]
theorem lw_r1 : ∀ q ∈ lw_privs_1, lw_okq q := List.forall_mem_cons.mpr ⟨lw_p0, List.forall_mem_cons.mpr ⟨lw_p1, List.forall_mem_cons.mpr ⟨lw_p2, List.forall_mem_cons.mpr ⟨lw_p3, List.forall_mem_cons.mpr ⟨lw_p4, List.forall_mem_cons.mpr ⟨lw_p5, List.forall_mem_cons.mpr ⟨lw_p6, List.forall_mem_cons.mpr ⟨lw_p7, List.forall_mem_cons.mpr ⟨lw_p8, List.forall_mem_cons.mpr ⟨lw_p9, List.forall_mem_cons.mpr ⟨lw_p10, List.forall_mem_cons.mpr ⟨lw_p11, List.forall_mem_cons.mpr ⟨lw_p12, List.forall_mem_cons.mpr ⟨lw_p13, List.forall_mem_cons.mpr ⟨lw_p14, List.forall_mem_cons.mpr ⟨lw_p15, fun _ h => absurd h List.not_mem_nil⟩⟩⟩⟩⟩⟩⟩⟩⟩⟩⟩⟩⟩⟩⟩⟩
theorem lw_p16 : lw_okq (⟨"VernierEncoder$Entries", "scan", "()V"⟩, 7) := ⟨⟨by decide +kernel, by decide +kernel⟩, List.mem_of_getElem? (i := 141) (by decide +kernel), List.mem_of_getElem? (i := 415) (by decide +kernel), List.mem_of_getElem? (i := 416) (by decide +kernel)⟩
theorem lw_p17 : lw_okq (⟨"VernierEncoder$Entries", "entryFault", "(I)I"⟩, 7) := ⟨⟨by decide +kernel, by decide +kernel⟩, List.mem_of_getElem? (i := 141) (by decide +kernel), List.mem_of_getElem? (i := 419) (by decide +kernel), List.mem_of_getElem? (i := 420) (by decide +kernel)⟩
theorem lw_p18 : lw_okq (⟨"VernierEncoder$Entries", "entryLength", "(I)I"⟩, 7) := ⟨⟨by decide +kernel, by decide +kernel⟩, List.mem_of_getElem? (i := 141) (by decide +kernel), List.mem_of_getElem? (i := 423) (by decide +kernel), List.mem_of_getElem? (i := 424) (by decide +kernel)⟩
theorem lw_p19 : lw_okq (⟨"VernierEncoder$Entries", "characterAt", "(I)I"⟩, 7) := ⟨⟨by decide +kernel, by decide +kernel⟩, List.mem_of_getElem? (i := 141) (by decide +kernel), List.mem_of_getElem? (i := 427) (by decide +kernel), List.mem_of_getElem? (i := 428) (by decide +kernel)⟩
theorem lw_p20 : lw_okq (⟨"VernierEncoder$Entries", "isDigit", "(I)Z"⟩, 7) := ⟨⟨by decide +kernel, by decide +kernel⟩, List.mem_of_getElem? (i := 141) (by decide +kernel), List.mem_of_getElem? (i := 432) (by decide +kernel), List.mem_of_getElem? (i := 433) (by decide +kernel)⟩
theorem lw_p21 : lw_okq (⟨"VernierEncoder$Entries", "digitAt", "(I)I"⟩, 7) := ⟨⟨by decide +kernel, by decide +kernel⟩, List.mem_of_getElem? (i := 141) (by decide +kernel), List.mem_of_getElem? (i := 437) (by decide +kernel), List.mem_of_getElem? (i := 438) (by decide +kernel)⟩
theorem lw_p22 : lw_okq (⟨"VernierEncoder$Entries", "amount", "(I)I"⟩, 7) := ⟨⟨by decide +kernel, by decide +kernel⟩, List.mem_of_getElem? (i := 141) (by decide +kernel), List.mem_of_getElem? (i := 443) (by decide +kernel), List.mem_of_getElem? (i := 444) (by decide +kernel)⟩
theorem lw_p23 : lw_okq (⟨"VernierEncoder$Entries", "entryCell", "(I)I"⟩, 7) := ⟨⟨by decide +kernel, by decide +kernel⟩, List.mem_of_getElem? (i := 141) (by decide +kernel), List.mem_of_getElem? (i := 447) (by decide +kernel), List.mem_of_getElem? (i := 448) (by decide +kernel)⟩
theorem lw_p24 : lw_okq (⟨"VernierEncoder$Entries", "takeEntry", "(I)V"⟩, 7) := ⟨⟨by decide +kernel, by decide +kernel⟩, List.mem_of_getElem? (i := 141) (by decide +kernel), List.mem_of_getElem? (i := 452) (by decide +kernel), List.mem_of_getElem? (i := 453) (by decide +kernel)⟩
theorem lw_p25 : lw_okq (⟨"VernierEncoder$Trial", "judge", "(LVernierEncoder$State;LVernierEncoder$Finding;)V"⟩, 4) := ⟨⟨by decide +kernel, by decide +kernel⟩, List.mem_of_getElem? (i := 118) (by decide +kernel), List.mem_of_getElem? (i := 461) (by decide +kernel), List.mem_of_getElem? (i := 462) (by decide +kernel)⟩
theorem lw_p26 : lw_okq (⟨"VernierEncoder$Trial", "firstRefusal", "(LVernierEncoder$State;LVernierEncoder$Finding;)I"⟩, 4) := ⟨⟨by decide +kernel, by decide +kernel⟩, List.mem_of_getElem? (i := 118) (by decide +kernel), List.mem_of_getElem? (i := 465) (by decide +kernel), List.mem_of_getElem? (i := 466) (by decide +kernel)⟩
theorem lw_p27 : lw_okq (⟨"VernierEncoder$State", "excess", "(I)I"⟩, 11) := ⟨⟨by decide +kernel, by decide +kernel⟩, List.mem_of_getElem? (i := 17) (by decide +kernel), List.mem_of_getElem? (i := 517) (by decide +kernel), List.mem_of_getElem? (i := 518) (by decide +kernel)⟩
def lw_privs_2 : List (MethodName × Nat) := [(⟨"VernierEncoder$Entries", "scan", "()V"⟩, 7), (⟨"VernierEncoder$Entries", "entryFault", "(I)I"⟩, 7), (⟨"VernierEncoder$Entries", "entryLength", "(I)I"⟩, 7), (⟨"VernierEncoder$Entries", "characterAt", "(I)I"⟩, 7), (⟨"VernierEncoder$Entries", "isDigit", "(I)Z"⟩, 7), (⟨"VernierEncoder$Entries", "digitAt", "(I)I"⟩, 7), (⟨"VernierEncoder$Entries", "amount", "(I)I"⟩, 7), (⟨"VernierEncoder$Entries", "entryCell", "(I)I"⟩, 7), (⟨"VernierEncoder$Entries", "takeEntry", "(I)V"⟩, 7), (⟨"VernierEncoder$Trial", "judge", "(LVernierEncoder$State;LVernierEncoder$Finding;)V"⟩, 4), (⟨"VernierEncoder$Trial", "firstRefusal", "(LVernierEncoder$State;LVernierEncoder$Finding;)I"⟩, 4), (⟨"VernierEncoder$State", "excess", "(I)I"⟩, 11)]
theorem lw_r2 : ∀ q ∈ lw_privs_2, lw_okq q := List.forall_mem_cons.mpr ⟨lw_p16, List.forall_mem_cons.mpr ⟨lw_p17, List.forall_mem_cons.mpr ⟨lw_p18, List.forall_mem_cons.mpr ⟨lw_p19, List.forall_mem_cons.mpr ⟨lw_p20, List.forall_mem_cons.mpr ⟨lw_p21, List.forall_mem_cons.mpr ⟨lw_p22, List.forall_mem_cons.mpr ⟨lw_p23, List.forall_mem_cons.mpr ⟨lw_p24, List.forall_mem_cons.mpr ⟨lw_p25, List.forall_mem_cons.mpr ⟨lw_p26, List.forall_mem_cons.mpr ⟨lw_p27, fun _ h => absurd h List.not_mem_nil⟩⟩⟩⟩⟩⟩⟩⟩⟩⟩⟩⟩
def lw_privs : List (MethodName × Nat) := lw_privs_1 ++ (lw_privs_2)
def lw_tbl : List Cond := k2_sels lw_privs ++ tables_1
theorem lw_privs_ok : ∀ q ∈ lw_privs, lw_okq q := by
  show ∀ q ∈ lw_privs_1 ++ (lw_privs_2), lw_okq q
  exact List.forall_mem_append.mpr ⟨lw_r1, lw_r2⟩

def RX0 : String := "VernierEncoder$Entries"
def TX0 : u_T := fun k => match k with
  | 0 => ("VernierEncoder$Entries", "characters", "[I", true)
  | 1 => ("VernierEncoder$Entries", "length", "I", false)
  | 2 => ("VernierEncoder$Entries", "table", "[I", true)
  | 3 => ("VernierEncoder$Entries", "named", "[I", true)
  | 4 => ("VernierEncoder$Entries", "scanned", "I", false)
  | 5 => ("VernierEncoder$Entries", "faultPosition", "I", false)
  | _ => ("VernierEncoder$Entries", "faultReason", "I", false)
def tyX0 : Nat → FieldType := fun k => match k with
  | 0 => .array .int
  | 1 => .int
  | 2 => .array .int
  | 3 => .array .int
  | 4 => .int
  | 5 => .int
  | _ => .int
theorem nmX0 : ∀ a, a < 7 → ∀ b, b < 7 → a ≠ b → (TX0 a).2.1 ≠ (TX0 b).2.1 := by decide +kernel
theorem tyX0_ok : ∀ k, k < 7 → parseFieldDescriptor (TX0 k).2.2.1 = some (tyX0 k) := by decide +kernel
abbrev cX0_init : ByteArray := prog_2_method_1_code
def yX0_init : MethodName := ⟨RX0, "<init>", "()V"⟩
abbrev cX0_append : ByteArray := prog_2_method_2_code
def yX0_append : MethodName := ⟨RX0, "append", "(I)V"⟩
abbrev cX0_scan : ByteArray := prog_2_method_3_code
def yX0_scan : MethodName := ⟨RX0, "scan", "()V"⟩
abbrev cX0_entryFault : ByteArray := prog_2_method_4_code
def yX0_entryFault : MethodName := ⟨RX0, "entryFault", "(I)I"⟩
abbrev cX0_takeEntry : ByteArray := prog_2_method_5_code
def yX0_takeEntry : MethodName := ⟨RX0, "takeEntry", "(I)V"⟩
abbrev cX0_entryLength : ByteArray := prog_2_method_6_code
def yX0_entryLength : MethodName := ⟨RX0, "entryLength", "(I)I"⟩
abbrev cX0_amount : ByteArray := prog_2_method_7_code
def yX0_amount : MethodName := ⟨RX0, "amount", "(I)I"⟩
abbrev cX0_entryCell : ByteArray := prog_2_method_8_code
def yX0_entryCell : MethodName := ⟨RX0, "entryCell", "(I)I"⟩
abbrev cX0_characterAt : ByteArray := prog_2_method_9_code
def yX0_characterAt : MethodName := ⟨RX0, "characterAt", "(I)I"⟩
abbrev cX0_isDigit : ByteArray := prog_2_method_10_code
def yX0_isDigit : MethodName := ⟨RX0, "isDigit", "(I)Z"⟩
abbrev cX0_digitAt : ByteArray := prog_2_method_11_code
def yX0_digitAt : MethodName := ⟨RX0, "digitAt", "(I)I"⟩
def RX1 : String := "VernierEncoder$Finding"
def TX1 : u_T := fun k => match k with
  | 0 => ("VernierEncoder$Finding", "first", "I", false)
  | 1 => ("VernierEncoder$Finding", "last", "I", false)
  | 2 => ("VernierEncoder$Finding", "lastDeviation", "I", false)
  | _ => ("VernierEncoder$Finding", "angles", "I", false)
def tyX1 : Nat → FieldType := fun k => match k with
  | 0 => .int
  | 1 => .int
  | 2 => .int
  | _ => .int
theorem nmX1 : ∀ a, a < 4 → ∀ b, b < 4 → a ≠ b → (TX1 a).2.1 ≠ (TX1 b).2.1 := by decide +kernel
theorem tyX1_ok : ∀ k, k < 4 → parseFieldDescriptor (TX1 k).2.2.1 = some (tyX1 k) := by decide +kernel
abbrev cX1_init : ByteArray := prog_3_method_1_code
def yX1_init : MethodName := ⟨RX1, "<init>", "()V"⟩
abbrev cX1_search : ByteArray := prog_3_method_2_code
def yX1_search : MethodName := ⟨RX1, "search", "(LVernierEncoder$State;I)V"⟩
abbrev cX1_searchCorrected : ByteArray := prog_3_method_3_code
def yX1_searchCorrected : MethodName := ⟨RX1, "searchCorrected", "(LVernierEncoder$State;II)V"⟩
def RX2 : String := "VernierEncoder$History"
def TX2 : u_T := fun k => match k with
  | 0 => ("VernierEncoder$History", "states", "[LVernierEncoder$State;", true)
  | 1 => ("VernierEncoder$History", "oldest", "I", false)
  | _ => ("VernierEncoder$History", "size", "I", false)
def tyX2 : Nat → FieldType := fun k => match k with
  | 0 => .array (.object "VernierEncoder$State")
  | 1 => .int
  | _ => .int
theorem nmX2 : ∀ a, a < 3 → ∀ b, b < 3 → a ≠ b → (TX2 a).2.1 ≠ (TX2 b).2.1 := by decide +kernel
theorem tyX2_ok : ∀ k, k < 3 → parseFieldDescriptor (TX2 k).2.2.1 = some (tyX2 k) := by decide +kernel
abbrev cX2_init : ByteArray := prog_4_method_1_code
def yX2_init : MethodName := ⟨RX2, "<init>", "()V"⟩
abbrev cX2_slot : ByteArray := prog_4_method_2_code
def yX2_slot : MethodName := ⟨RX2, "slot", "(I)LVernierEncoder$State;"⟩
abbrev cX2_keep : ByteArray := prog_4_method_3_code
def yX2_keep : MethodName := ⟨RX2, "keep", "(LVernierEncoder$State;)V"⟩
abbrev cX2_restoreLatest : ByteArray := prog_4_method_4_code
def yX2_restoreLatest : MethodName := ⟨RX2, "restoreLatest", "(LVernierEncoder$State;)V"⟩
def RX3 : String := "VernierEncoder$State"
def TX3 : u_T := fun k => match k with
  | 0 => ("VernierEncoder$State", "place", "I", false)
  | 1 => ("VernierEncoder$State", "counter", "I", false)
  | 2 => ("VernierEncoder$State", "powered", "Z", false)
  | 3 => ("VernierEncoder$State", "battery", "I", false)
  | 4 => ("VernierEncoder$State", "toMiss", "I", false)
  | 5 => ("VernierEncoder$State", "accepted", "I", false)
  | 6 => ("VernierEncoder$State", "apartInRow", "I", false)
  | 7 => ("VernierEncoder$State", "settings", "[I", true)
  | 8 => ("VernierEncoder$State", "errors", "[I", true)
  | 9 => ("VernierEncoder$State", "noises", "[I", true)
  | _ => ("VernierEncoder$State", "corrections", "[I", true)
def tyX3 : Nat → FieldType := fun k => match k with
  | 0 => .int
  | 1 => .int
  | 2 => .boolean
  | 3 => .int
  | 4 => .int
  | 5 => .int
  | 6 => .int
  | 7 => .array .int
  | 8 => .array .int
  | 9 => .array .int
  | _ => .array .int
theorem nmX3 : ∀ a, a < 11 → ∀ b, b < 11 → a ≠ b → (TX3 a).2.1 ≠ (TX3 b).2.1 := by decide +kernel
theorem tyX3_ok : ∀ k, k < 11 → parseFieldDescriptor (TX3 k).2.2.1 = some (tyX3 k) := by decide +kernel
abbrev cX3_init : ByteArray := prog_5_method_1_code
def yX3_init : MethodName := ⟨RX3, "<init>", "()V"⟩
abbrev cX3_copyFrom : ByteArray := prog_5_method_2_code
def yX3_copyFrom : MethodName := ⟨RX3, "copyFrom", "(LVernierEncoder$State;)V"⟩
abbrev cX3_angle : ByteArray := prog_5_method_3_code
def yX3_angle : MethodName := ⟨RX3, "angle", "()I"⟩
abbrev cX3_coarse : ByteArray := prog_5_method_4_code
def yX3_coarse : MethodName := ⟨RX3, "coarse", "()I"⟩
abbrev cX3_readingAt : ByteArray := prog_5_method_5_code
def yX3_readingAt : MethodName := ⟨RX3, "readingAt", "(II)I"⟩
abbrev cX3_excess : ByteArray := prog_5_method_6_code
def yX3_excess : MethodName := ⟨RX3, "excess", "(I)I"⟩
abbrev cX3_corrected : ByteArray := prog_5_method_7_code
def yX3_corrected : MethodName := ⟨RX3, "corrected", "(III)I"⟩
abbrev cX3_correctionsInUse : ByteArray := prog_5_method_8_code
def yX3_correctionsInUse : MethodName := ⟨RX3, "correctionsInUse", "()I"⟩
abbrev cX3_isPoor : ByteArray := prog_5_method_9_code
def yX3_isPoor : MethodName := ⟨RX3, "isPoor", "(I)Z"⟩
abbrev cX3_crossBound : ByteArray := prog_5_method_10_code
def yX3_crossBound : MethodName := ⟨RX3, "crossBound", "(I)V"⟩
def RX4 : String := "VernierEncoder$Trial"
def TX4 : u_T := fun k => match k with
  | 0 => ("VernierEncoder$Trial", "refusal", "I", false)
  | 1 => ("VernierEncoder$Trial", "counter", "I", false)
  | 2 => ("VernierEncoder$Trial", "apartInRow", "I", false)
  | _ => ("VernierEncoder$Trial", "place", "I", false)
def tyX4 : Nat → FieldType := fun k => match k with
  | 0 => .int
  | 1 => .int
  | 2 => .int
  | _ => .int
theorem nmX4 : ∀ a, a < 4 → ∀ b, b < 4 → a ≠ b → (TX4 a).2.1 ≠ (TX4 b).2.1 := by decide +kernel
theorem tyX4_ok : ∀ k, k < 4 → parseFieldDescriptor (TX4 k).2.2.1 = some (tyX4 k) := by decide +kernel
abbrev cX4_init : ByteArray := prog_6_method_1_code
def yX4_init : MethodName := ⟨RX4, "<init>", "()V"⟩
abbrev cX4_judge : ByteArray := prog_6_method_2_code
def yX4_judge : MethodName := ⟨RX4, "judge", "(LVernierEncoder$State;LVernierEncoder$Finding;)V"⟩
abbrev cX4_firstRefusal : ByteArray := prog_6_method_3_code
def yX4_firstRefusal : MethodName := ⟨RX4, "firstRefusal", "(LVernierEncoder$State;LVernierEncoder$Finding;)I"⟩
def RX5 : String := "VernierEncoder"
def TX5 : u_T := fun k => match k with
  | 0 => ("VernierEncoder", "now", "LVernierEncoder$State;", true)
  | 1 => ("VernierEncoder", "history", "LVernierEncoder$History;", true)
  | 2 => ("VernierEncoder", "finding", "LVernierEncoder$Finding;", true)
  | 3 => ("VernierEncoder", "trial", "LVernierEncoder$Trial;", true)
  | _ => ("VernierEncoder", "entries", "LVernierEncoder$Entries;", true)
def tyX5 : Nat → FieldType := fun k => match k with
  | 0 => .object "VernierEncoder$State"
  | 1 => .object "VernierEncoder$History"
  | 2 => .object "VernierEncoder$Finding"
  | 3 => .object "VernierEncoder$Trial"
  | _ => .object "VernierEncoder$Entries"
theorem nmX5 : ∀ a, a < 5 → ∀ b, b < 5 → a ≠ b → (TX5 a).2.1 ≠ (TX5 b).2.1 := by decide +kernel
theorem tyX5_ok : ∀ k, k < 5 → parseFieldDescriptor (TX5 k).2.2.1 = some (tyX5 k) := by decide +kernel
abbrev cX5_init : ByteArray := prog_1_method_1_code
def yX5_init : MethodName := ⟨RX5, "<init>", "()V"⟩
abbrev cX5_turn : ByteArray := prog_1_method_2_code
def yX5_turn : MethodName := ⟨RX5, "turn", "(I)I"⟩
abbrev cX5_power : ByteArray := prog_1_method_3_code
def yX5_power : MethodName := ⟨RX5, "power", "(I)I"⟩
abbrev cX5_brownout : ByteArray := prog_1_method_4_code
def yX5_brownout : MethodName := ⟨RX5, "brownout", "(I)I"⟩
abbrev cX5_charge : ByteArray := prog_1_method_5_code
def yX5_charge : MethodName := ⟨RX5, "charge", "(I)I"⟩
abbrev cX5_count : ByteArray := prog_1_method_6_code
def yX5_count : MethodName := ⟨RX5, "count", "(I)I"⟩
abbrev cX5_undo : ByteArray := prog_1_method_7_code
def yX5_undo : MethodName := ⟨RX5, "undo", "()I"⟩
abbrev cX5_disk : ByteArray := prog_1_method_8_code
def yX5_disk : MethodName := ⟨RX5, "disk", "(III)I"⟩
abbrev cX5_noise : ByteArray := prog_1_method_9_code
def yX5_noise : MethodName := ⟨RX5, "noise", "(II)I"⟩
abbrev cX5_set : ByteArray := prog_1_method_10_code
def yX5_set : MethodName := ⟨RX5, "set", "(II)I"⟩
abbrev cX5_reading : ByteArray := prog_1_method_11_code
def yX5_reading : MethodName := ⟨RX5, "reading", "(I)I"⟩
abbrev cX5_found : ByteArray := prog_1_method_12_code
def yX5_found : MethodName := ⟨RX5, "found", "(IIII)I"⟩
abbrev cX5_byTwo : ByteArray := prog_1_method_13_code
def yX5_byTwo : MethodName := ⟨RX5, "byTwo", "(IIII)I"⟩
abbrev cX5_correct : ByteArray := prog_1_method_14_code
def yX5_correct : MethodName := ⟨RX5, "correct", "(III)I"⟩
abbrev cX5_correction : ByteArray := prog_1_method_15_code
def yX5_correction : MethodName := ⟨RX5, "correction", "(II)I"⟩
abbrev cX5_learn : ByteArray := prog_1_method_16_code
def yX5_learn : MethodName := ⟨RX5, "learn", "()I"⟩
abbrev cX5_look : ByteArray := prog_1_method_17_code
def yX5_look : MethodName := ⟨RX5, "look", "(I)I"⟩
abbrev cX5_survey : ByteArray := prog_1_method_18_code
def yX5_survey : MethodName := ⟨RX5, "survey", "(II)I"⟩
abbrev cX5_poor : ByteArray := prog_1_method_19_code
def yX5_poor : MethodName := ⟨RX5, "poor", "()I"⟩
abbrev cX5_sample : ByteArray := prog_1_method_20_code
def yX5_sample : MethodName := ⟨RX5, "sample", "()I"⟩
abbrev cX5_reason : ByteArray := prog_1_method_21_code
def yX5_reason : MethodName := ⟨RX5, "reason", "()I"⟩
abbrev cX5_forget : ByteArray := prog_1_method_22_code
def yX5_forget : MethodName := ⟨RX5, "forget", "()I"⟩
abbrev cX5_apart : ByteArray := prog_1_method_23_code
def yX5_apart : MethodName := ⟨RX5, "apart", "()I"⟩
abbrev cX5_type : ByteArray := prog_1_method_24_code
def yX5_type : MethodName := ⟨RX5, "type", "(I)I"⟩
abbrev cX5_fault : ByteArray := prog_1_method_26_code
def yX5_fault : MethodName := ⟨RX5, "fault", "(I)I"⟩
abbrev cX5_settingCount : ByteArray := prog_1_method_28_code
def yX5_settingCount : MethodName := ⟨RX5, "settingCount", "(I)I"⟩
abbrev cX5_shownSetting : ByteArray := prog_1_method_29_code
def yX5_shownSetting : MethodName := ⟨RX5, "shownSetting", "(I)I"⟩
abbrev cX5_isOutside : ByteArray := prog_1_method_30_code
def yX5_isOutside : MethodName := ⟨RX5, "isOutside", "(III)Z"⟩
abbrev cX5_isTrack : ByteArray := prog_1_method_31_code
def yX5_isTrack : MethodName := ⟨RX5, "isTrack", "(I)Z"⟩
abbrev cX5_isCell : ByteArray := prog_1_method_32_code
def yX5_isCell : MethodName := ⟨RX5, "isCell", "(II)Z"⟩
abbrev cX5_isReading : ByteArray := prog_1_method_33_code
def yX5_isReading : MethodName := ⟨RX5, "isReading", "(II)Z"⟩
abbrev cX5_cell : ByteArray := prog_1_method_34_code
def yX5_cell : MethodName := ⟨RX5, "cell", "(II)I"⟩
abbrev cX5_sectorOf : ByteArray := prog_1_method_35_code
def yX5_sectorOf : MethodName := ⟨RX5, "sectorOf", "(I)I"⟩
abbrev cX5_toNumber : ByteArray := prog_1_method_36_code
def yX5_toNumber : MethodName := ⟨RX5, "toNumber", "(Z)I"⟩
abbrev cX5_at : ByteArray := prog_1_method_37_code
def yX5_at : MethodName := ⟨RX5, "at", "([II)I"⟩
abbrev cX5_put : ByteArray := prog_1_method_38_code
def yX5_put : MethodName := ⟨RX5, "put", "([III)V"⟩
abbrev cX5_copy : ByteArray := prog_1_method_39_code
def yX5_copy : MethodName := ⟨RX5, "copy", "([I[I)V"⟩
abbrev cX5_remainder : ByteArray := prog_1_method_40_code
def yX5_remainder : MethodName := ⟨RX5, "remainder", "(II)I"⟩
abbrev cX5_distance : ByteArray := prog_1_method_41_code
def yX5_distance : MethodName := ⟨RX5, "distance", "(III)I"⟩
abbrev cX5_deviation : ByteArray := prog_1_method_42_code
def yX5_deviation : MethodName := ⟨RX5, "deviation", "(IIII)I"⟩
abbrev cX5_nearestAngle : ByteArray := prog_1_method_43_code
def yX5_nearestAngle : MethodName := ⟨RX5, "nearestAngle", "(III)I"⟩
def RX6 : String := "VernierEncoderModel"
def TX6 : u_T := fun k => match k with
  | _ => ("", "", "", false)
def tyX6 : Nat → FieldType := fun k => match k with
  | _ => .int
theorem nmX6 : ∀ a, a < 0 → ∀ b, b < 0 → a ≠ b → (TX6 a).2.1 ≠ (TX6 b).2.1 := by decide +kernel
theorem tyX6_ok : ∀ k, k < 0 → parseFieldDescriptor (TX6 k).2.2.1 = some (tyX6 k) := by decide +kernel
def RL : String := "VernierEncoderLaw"
abbrev cL_cell : ByteArray := method_2_code
def yL_cell : MethodName := ⟨RL, "cell", "([II)I"⟩
abbrev cL_low : ByteArray := method_3_code
def yL_low : MethodName := ⟨RL, "low", "(II)I"⟩
abbrev cL_period : ByteArray := method_4_code
def yL_period : MethodName := ⟨RL, "period", "(I)I"⟩
abbrev cL_rest : ByteArray := method_5_code
def yL_rest : MethodName := ⟨RL, "rest", "(II)I"⟩
abbrev cL_near : ByteArray := method_6_code
def yL_near : MethodName := ⟨RL, "near", "(II)I"⟩
abbrev cL_sum : ByteArray := method_7_code
def yL_sum : MethodName := ⟨RL, "sum", "(LVernierEncoder;)J"⟩
abbrev cL_refused : ByteArray := method_8_code
def yL_refused : MethodName := ⟨RL, "refused", "(LVernierEncoder;)Z"⟩
abbrev cL_fits : ByteArray := method_9_code
def yL_fits : MethodName := ⟨RL, "fits", "(LVernierEncoder;)Z"⟩
abbrev cL_byTable : ByteArray := method_10_code
def yL_byTable : MethodName := ⟨RL, "byTable", "(LVernierEncoder;II)I"⟩
abbrev cL_isSampled : ByteArray := method_11_code
def yL_isSampled : MethodName := ⟨RL, "isSampled", "(LVernierEncoder;)Z"⟩
abbrev cL_isTurned : ByteArray := method_12_code
def yL_isTurned : MethodName := ⟨RL, "isTurned", "(LVernierEncoder;I)Z"⟩
abbrev cL_least : ByteArray := method_13_code
def yL_least : MethodName := ⟨RL, "least", "(II)I"⟩
abbrev cL_isLearned : ByteArray := method_14_code
def yL_isLearned : MethodName := ⟨RL, "isLearned", "(LVernierEncoder;)Z"⟩
abbrev cL_acts : ByteArray := method_15_code
def yL_acts : MethodName := ⟨RL, "acts", "(LVernierEncoder;II)Z"⟩
abbrev cL_law : ByteArray := code
def yL_law : MethodName := ⟨RL, "law", "([I)Z"⟩
abbrev vwCl : List vw_C := [(RX0, TX0, 7), (RX1, TX1, 4), (RX2, TX2, 3), (RX3, TX3, 11), (RX4, TX4, 4), (RX5, TX5, 5)]
