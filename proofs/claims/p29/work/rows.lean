section
-- ===== PART A: goes FIRST, ahead of the names: the tables' words, and 'selects' of the private methods out of them =====
/-- a private method of a class that the tables say can be made, by its rows of tables_1 -/
def lw_okq (q : MethodName × Nat) : Prop := (q.1.cls ≠ "java/lang/invoke/MethodHandle" ∧ q.1.cls ≠ "java/lang/invoke/VarHandle") ∧ Cond.instantiable q.1.cls q.2 ∈ tables_1 ∧ Cond.privateMethod q.1 ∈ tables_1 ∧ Cond.instanceMethod q.1 ∈ tables_1
theorem lw_p0 : lw_okq (⟨"VernierEncoder$History", "restoreLatest", "(LVernierEncoder$State;)V"⟩, 3) := ⟨⟨by decide +kernel, by decide +kernel⟩, List.mem_of_getElem? (i := 73) (by decide +kernel), List.mem_of_getElem? (i := 192) (by decide +kernel), List.mem_of_getElem? (i := 193) (by decide +kernel)⟩
theorem lw_p1 : lw_okq (⟨"VernierEncoder$History", "slot", "(I)LVernierEncoder$State;"⟩, 3) := ⟨⟨by decide +kernel, by decide +kernel⟩, List.mem_of_getElem? (i := 73) (by decide +kernel), List.mem_of_getElem? (i := 196) (by decide +kernel), List.mem_of_getElem? (i := 197) (by decide +kernel)⟩
theorem lw_p2 : lw_okq (⟨"VernierEncoder$State", "copyFrom", "(LVernierEncoder$State;)V"⟩, 11) := ⟨⟨by decide +kernel, by decide +kernel⟩, List.mem_of_getElem? (i := 17) (by decide +kernel), List.mem_of_getElem? (i := 203) (by decide +kernel), List.mem_of_getElem? (i := 204) (by decide +kernel)⟩
theorem lw_p3 : lw_okq (⟨"VernierEncoder$History", "keep", "(LVernierEncoder$State;)V"⟩, 3) := ⟨⟨by decide +kernel, by decide +kernel⟩, List.mem_of_getElem? (i := 73) (by decide +kernel), List.mem_of_getElem? (i := 220) (by decide +kernel), List.mem_of_getElem? (i := 221) (by decide +kernel)⟩
theorem lw_p4 : lw_okq (⟨"VernierEncoder", "shownSetting", "(I)I"⟩, 5) := ⟨⟨by decide +kernel, by decide +kernel⟩, List.mem_of_getElem? (i := 9) (by decide +kernel), List.mem_of_getElem? (i := 238) (by decide +kernel), List.mem_of_getElem? (i := 239) (by decide +kernel)⟩
theorem lw_p5 : lw_okq (⟨"VernierEncoder$State", "angle", "()I"⟩, 11) := ⟨⟨by decide +kernel, by decide +kernel⟩, List.mem_of_getElem? (i := 17) (by decide +kernel), List.mem_of_getElem? (i := 269) (by decide +kernel), List.mem_of_getElem? (i := 270) (by decide +kernel)⟩
theorem lw_p6 : lw_okq (⟨"VernierEncoder$State", "coarse", "()I"⟩, 11) := ⟨⟨by decide +kernel, by decide +kernel⟩, List.mem_of_getElem? (i := 17) (by decide +kernel), List.mem_of_getElem? (i := 277) (by decide +kernel), List.mem_of_getElem? (i := 278) (by decide +kernel)⟩
theorem lw_p7 : lw_okq (⟨"VernierEncoder$State", "correctionsInUse", "()I"⟩, 11) := ⟨⟨by decide +kernel, by decide +kernel⟩, List.mem_of_getElem? (i := 17) (by decide +kernel), List.mem_of_getElem? (i := 283) (by decide +kernel), List.mem_of_getElem? (i := 284) (by decide +kernel)⟩
theorem lw_p8 : lw_okq (⟨"VernierEncoder", "settingCount", "(I)I"⟩, 5) := ⟨⟨by decide +kernel, by decide +kernel⟩, List.mem_of_getElem? (i := 9) (by decide +kernel), List.mem_of_getElem? (i := 287) (by decide +kernel), List.mem_of_getElem? (i := 288) (by decide +kernel)⟩
theorem lw_p9 : lw_okq (⟨"VernierEncoder$State", "readingAt", "(II)I"⟩, 11) := ⟨⟨by decide +kernel, by decide +kernel⟩, List.mem_of_getElem? (i := 17) (by decide +kernel), List.mem_of_getElem? (i := 300) (by decide +kernel), List.mem_of_getElem? (i := 301) (by decide +kernel)⟩
theorem lw_p10 : lw_okq (⟨"VernierEncoder$State", "isPoor", "(I)Z"⟩, 11) := ⟨⟨by decide +kernel, by decide +kernel⟩, List.mem_of_getElem? (i := 17) (by decide +kernel), List.mem_of_getElem? (i := 314) (by decide +kernel), List.mem_of_getElem? (i := 315) (by decide +kernel)⟩
theorem lw_p11 : lw_okq (⟨"VernierEncoder$State", "crossBound", "(I)V"⟩, 11) := ⟨⟨by decide +kernel, by decide +kernel⟩, List.mem_of_getElem? (i := 17) (by decide +kernel), List.mem_of_getElem? (i := 330) (by decide +kernel), List.mem_of_getElem? (i := 331) (by decide +kernel)⟩
theorem lw_p12 : lw_okq (⟨"VernierEncoder$Finding", "search", "(LVernierEncoder$State;I)V"⟩, 4) := ⟨⟨by decide +kernel, by decide +kernel⟩, List.mem_of_getElem? (i := 93) (by decide +kernel), List.mem_of_getElem? (i := 354) (by decide +kernel), List.mem_of_getElem? (i := 355) (by decide +kernel)⟩
theorem lw_p13 : lw_okq (⟨"VernierEncoder$Finding", "searchCorrected", "(LVernierEncoder$State;II)V"⟩, 4) := ⟨⟨by decide +kernel, by decide +kernel⟩, List.mem_of_getElem? (i := 93) (by decide +kernel), List.mem_of_getElem? (i := 377) (by decide +kernel), List.mem_of_getElem? (i := 378) (by decide +kernel)⟩
theorem lw_p14 : lw_okq (⟨"VernierEncoder$State", "corrected", "(III)I"⟩, 11) := ⟨⟨by decide +kernel, by decide +kernel⟩, List.mem_of_getElem? (i := 17) (by decide +kernel), List.mem_of_getElem? (i := 381) (by decide +kernel), List.mem_of_getElem? (i := 382) (by decide +kernel)⟩
theorem lw_p15 : lw_okq (⟨"VernierEncoder$Entries", "append", "(I)V"⟩, 7) := ⟨⟨by decide +kernel, by decide +kernel⟩, List.mem_of_getElem? (i := 141) (by decide +kernel), List.mem_of_getElem? (i := 406) (by decide +kernel), List.mem_of_getElem? (i := 407) (by decide +kernel)⟩
def lw_privs_1 : List (MethodName × Nat) := [(⟨"VernierEncoder$History", "restoreLatest", "(LVernierEncoder$State;)V"⟩, 3), (⟨"VernierEncoder$History", "slot", "(I)LVernierEncoder$State;"⟩, 3), (⟨"VernierEncoder$State", "copyFrom", "(LVernierEncoder$State;)V"⟩, 11), (⟨"VernierEncoder$History", "keep", "(LVernierEncoder$State;)V"⟩, 3), (⟨"VernierEncoder", "shownSetting", "(I)I"⟩, 5), (⟨"VernierEncoder$State", "angle", "()I"⟩, 11), (⟨"VernierEncoder$State", "coarse", "()I"⟩, 11), (⟨"VernierEncoder$State", "correctionsInUse", "()I"⟩, 11), (⟨"VernierEncoder", "settingCount", "(I)I"⟩, 5), (⟨"VernierEncoder$State", "readingAt", "(II)I"⟩, 11), (⟨"VernierEncoder$State", "isPoor", "(I)Z"⟩, 11), (⟨"VernierEncoder$State", "crossBound", "(I)V"⟩, 11), (⟨"VernierEncoder$Finding", "search", "(LVernierEncoder$State;I)V"⟩, 4), (⟨"VernierEncoder$Finding", "searchCorrected", "(LVernierEncoder$State;II)V"⟩, 4), (⟨"VernierEncoder$State", "corrected", "(III)I"⟩, 11), (⟨"VernierEncoder$Entries", "append", "(I)V"⟩, 7)]
theorem lw_r1 : ∀ q ∈ lw_privs_1, lw_okq q := List.forall_mem_cons.mpr ⟨lw_p0, List.forall_mem_cons.mpr ⟨lw_p1, List.forall_mem_cons.mpr ⟨lw_p2, List.forall_mem_cons.mpr ⟨lw_p3, List.forall_mem_cons.mpr ⟨lw_p4, List.forall_mem_cons.mpr ⟨lw_p5, List.forall_mem_cons.mpr ⟨lw_p6, List.forall_mem_cons.mpr ⟨lw_p7, List.forall_mem_cons.mpr ⟨lw_p8, List.forall_mem_cons.mpr ⟨lw_p9, List.forall_mem_cons.mpr ⟨lw_p10, List.forall_mem_cons.mpr ⟨lw_p11, List.forall_mem_cons.mpr ⟨lw_p12, List.forall_mem_cons.mpr ⟨lw_p13, List.forall_mem_cons.mpr ⟨lw_p14, List.forall_mem_cons.mpr ⟨lw_p15, fun _ h => absurd h List.not_mem_nil⟩⟩⟩⟩⟩⟩⟩⟩⟩⟩⟩⟩⟩⟩⟩⟩
theorem lw_p16 : lw_okq (⟨"VernierEncoder$Entries", "scan", "()V"⟩, 7) := ⟨⟨by decide +kernel, by decide +kernel⟩, List.mem_of_getElem? (i := 141) (by decide +kernel), List.mem_of_getElem? (i := 415) (by decide +kernel), List.mem_of_getElem? (i := 416) (by decide +kernel)⟩
theorem lw_p17 : lw_okq (⟨"VernierEncoder$Entries", "entryFault", "(I)I"⟩, 7) := ⟨⟨by decide +kernel, by decide +kernel⟩, List.mem_of_getElem? (i := 141) (by decide +kernel), List.mem_of_getElem? (i := 419) (by decide +kernel), List.mem_of_getElem? (i := 420) (by decide +kernel)⟩
theorem lw_p18 : lw_okq (⟨"VernierEncoder$Entries", "entryLength", "(I)I"⟩, 7) := ⟨⟨by decide +kernel, by decide +kernel⟩, List.mem_of_getElem? (i := 141) (by decide +kernel), List.mem_of_getElem? (i := 423) (by decide +kernel), List.mem_of_getElem? (i := 424) (by decide +kernel)⟩
theorem lw_p19 : lw_okq (⟨"VernierEncoder$Entries", "characterAt", "(I)I"⟩, 7) := ⟨⟨by decide +kernel, by decide +kernel⟩, List.mem_of_getElem? (i := 141) (by decide +kernel), List.mem_of_getElem? (i := 427) (by decide +kernel), List.mem_of_getElem? (i := 428) (by decide +kernel)⟩
theorem lw_p20 : lw_okq (⟨"VernierEncoder$Entries", "isDigit", "(I)Z"⟩, 7) := ⟨⟨by decide +kernel, by decide +kernel⟩, List.mem_of_getElem? (i := 141) (by decide +kernel), List.mem_of_getElem? (i := 432) (by decide +kernel), List.mem_of_getElem? (i := 433) (by decide +kernel)⟩
theorem lw_p21 : lw_okq (⟨"VernierEncoder$Entries", "digitAt", "(I)I"⟩, 7) := ⟨⟨by decide +kernel, by decide +kernel⟩, List.mem_of_getElem? (i := 141) (by decide +kernel), List.mem_of_getElem? (i := 437) (by decide +kernel), List.mem_of_getElem? (i := 438) (by decide +kernel)⟩
theorem lw_p22 : lw_okq (⟨"VernierEncoder$Entries", "amount", "(I)I"⟩, 7) := ⟨⟨by decide +kernel, by decide +kernel⟩, List.mem_of_getElem? (i := 141) (by decide +kernel), List.mem_of_getElem? (i := 443) (by decide +kernel), List.mem_of_getElem? (i := 444) (by decide +kernel)⟩
theorem lw_p23 : lw_okq (⟨"VernierEncoder$Entries", "entryCell", "(I)I"⟩, 7) := ⟨⟨by decide +kernel, by decide +kernel⟩, List.mem_of_getElem? (i := 141) (by decide +kernel), List.mem_of_getElem? (i := 447) (by decide +kernel), List.mem_of_getElem? (i := 448) (by decide +kernel)⟩
theorem lw_p24 : lw_okq (⟨"VernierEncoder$Entries", "takeEntry", "(I)V"⟩, 7) := ⟨⟨by decide +kernel, by decide +kernel⟩, List.mem_of_getElem? (i := 141) (by decide +kernel), List.mem_of_getElem? (i := 452) (by decide +kernel), List.mem_of_getElem? (i := 453) (by decide +kernel)⟩
theorem lw_p25 : lw_okq (⟨"VernierEncoder$Trial", "judge", "(LVernierEncoder$State;LVernierEncoder$Finding;)V"⟩, 4) := ⟨⟨by decide +kernel, by decide +kernel⟩, List.mem_of_getElem? (i := 118) (by decide +kernel), List.mem_of_getElem? (i := 461) (by decide +kernel), List.mem_of_getElem? (i := 462) (by decide +kernel)⟩
theorem lw_p26 : lw_okq (⟨"VernierEncoder$Trial", "firstRefusal", "(LVernierEncoder$State;LVernierEncoder$Finding;)I"⟩, 4) := ⟨⟨by decide +kernel, by decide +kernel⟩, List.mem_of_getElem? (i := 118) (by decide +kernel), List.mem_of_getElem? (i := 465) (by decide +kernel), List.mem_of_getElem? (i := 466) (by decide +kernel)⟩
theorem lw_p27 : lw_okq (⟨"VernierEncoder$State", "excess", "(I)I"⟩, 11) := ⟨⟨by decide +kernel, by decide +kernel⟩, List.mem_of_getElem? (i := 17) (by decide +kernel), List.mem_of_getElem? (i := 517) (by decide +kernel), List.mem_of_getElem? (i := 518) (by decide +kernel)⟩
def lw_privs_2 : List (MethodName × Nat) := [(⟨"VernierEncoder$Entries", "scan", "()V"⟩, 7), (⟨"VernierEncoder$Entries", "entryFault", "(I)I"⟩, 7), (⟨"VernierEncoder$Entries", "entryLength", "(I)I"⟩, 7), (⟨"VernierEncoder$Entries", "characterAt", "(I)I"⟩, 7), (⟨"VernierEncoder$Entries", "isDigit", "(I)Z"⟩, 7), (⟨"VernierEncoder$Entries", "digitAt", "(I)I"⟩, 7), (⟨"VernierEncoder$Entries", "amount", "(I)I"⟩, 7), (⟨"VernierEncoder$Entries", "entryCell", "(I)I"⟩, 7), (⟨"VernierEncoder$Entries", "takeEntry", "(I)V"⟩, 7), (⟨"VernierEncoder$Trial", "judge", "(LVernierEncoder$State;LVernierEncoder$Finding;)V"⟩, 4), (⟨"VernierEncoder$Trial", "firstRefusal", "(LVernierEncoder$State;LVernierEncoder$Finding;)I"⟩, 4), (⟨"VernierEncoder$State", "excess", "(I)I"⟩, 11)]
theorem lw_r2 : ∀ q ∈ lw_privs_2, lw_okq q := List.forall_mem_cons.mpr ⟨lw_p16, List.forall_mem_cons.mpr ⟨lw_p17, List.forall_mem_cons.mpr ⟨lw_p18, List.forall_mem_cons.mpr ⟨lw_p19, List.forall_mem_cons.mpr ⟨lw_p20, List.forall_mem_cons.mpr ⟨lw_p21, List.forall_mem_cons.mpr ⟨lw_p22, List.forall_mem_cons.mpr ⟨lw_p23, List.forall_mem_cons.mpr ⟨lw_p24, List.forall_mem_cons.mpr ⟨lw_p25, List.forall_mem_cons.mpr ⟨lw_p26, List.forall_mem_cons.mpr ⟨lw_p27, fun _ h => absurd h List.not_mem_nil⟩⟩⟩⟩⟩⟩⟩⟩⟩⟩⟩⟩
def lw_privs : List (MethodName × Nat) := lw_privs_1 ++ (lw_privs_2)
def lw_tbl : List Cond := k2_sels lw_privs ++ tables_1
theorem lw_privs_ok : ∀ q ∈ lw_privs, lw_okq q := by
  show ∀ q ∈ lw_privs_1 ++ (lw_privs_2), lw_okq q
  exact List.forall_mem_append.mpr ⟨lw_r1, lw_r2⟩

def RX0 : String := "VernierEncoder$Entries"
def TX0 : u_T := fun k => match k with
  | 0 => ("VernierEncoder$Entries", "characters", "[I", true)
  | 1 => ("VernierEncoder$Entries", "length", "I", false)
  | 2 => ("VernierEncoder$Entries", "table", "[I", true)
  | 3 => ("VernierEncoder$Entries", "named", "[I", true)
  | 4 => ("VernierEncoder$Entries", "scanned", "I", false)
  | 5 => ("VernierEncoder$Entries", "faultPosition", "I", false)
  | _ => ("VernierEncoder$Entries", "faultReason", "I", false)
def tyX0 : Nat → FieldType := fun k => match k with
  | 0 => .array .int
  | 1 => .int
  | 2 => .array .int
  | 3 => .array .int
  | 4 => .int
  | 5 => .int
  | _ => .int
theorem nmX0 : ∀ a, a < 7 → ∀ b, b < 7 → a ≠ b → (TX0 a).2.1 ≠ (TX0 b).2.1 := by decide +kernel
theorem tyX0_ok : ∀ k, k < 7 → parseFieldDescriptor (TX0 k).2.2.1 = some (tyX0 k) := by decide +kernel
abbrev cX0_init : ByteArray := prog_2_method_1_code
def yX0_init : MethodName := ⟨RX0, "<init>", "()V"⟩
abbrev cX0_append : ByteArray := prog_2_method_2_code
def yX0_append : MethodName := ⟨RX0, "append", "(I)V"⟩
abbrev cX0_scan : ByteArray := prog_2_method_3_code
def yX0_scan : MethodName := ⟨RX0, "scan", "()V"⟩
abbrev cX0_entryFault : ByteArray := prog_2_method_4_code
def yX0_entryFault : MethodName := ⟨RX0, "entryFault", "(I)I"⟩
abbrev cX0_takeEntry : ByteArray := prog_2_method_5_code
def yX0_takeEntry : MethodName := ⟨RX0, "takeEntry", "(I)V"⟩
abbrev cX0_entryLength : ByteArray := prog_2_method_6_code
def yX0_entryLength : MethodName := ⟨RX0, "entryLength", "(I)I"⟩
abbrev cX0_amount : ByteArray := prog_2_method_7_code
def yX0_amount : MethodName := ⟨RX0, "amount", "(I)I"⟩
abbrev cX0_entryCell : ByteArray := prog_2_method_8_code
def yX0_entryCell : MethodName := ⟨RX0, "entryCell", "(I)I"⟩
abbrev cX0_characterAt : ByteArray := prog_2_method_9_code
def yX0_characterAt : MethodName := ⟨RX0, "characterAt", "(I)I"⟩
abbrev cX0_isDigit : ByteArray := prog_2_method_10_code
def yX0_isDigit : MethodName := ⟨RX0, "isDigit", "(I)Z"⟩
abbrev cX0_digitAt : ByteArray := prog_2_method_11_code
def yX0_digitAt : MethodName := ⟨RX0, "digitAt", "(I)I"⟩
def RX1 : String := "VernierEncoder$Finding"
def TX1 : u_T := fun k => match k with
  | 0 => ("VernierEncoder$Finding", "first", "I", false)
  | 1 => ("VernierEncoder$Finding", "last", "I", false)
  | 2 => ("VernierEncoder$Finding", "lastDeviation", "I", false)
  | _ => ("VernierEncoder$Finding", "angles", "I", false)
def tyX1 : Nat → FieldType := fun k => match k with
  | 0 => .int
  | 1 => .int
  | 2 => .int
  | _ => .int
theorem nmX1 : ∀ a, a < 4 → ∀ b, b < 4 → a ≠ b → (TX1 a).2.1 ≠ (TX1 b).2.1 := by decide +kernel
theorem tyX1_ok : ∀ k, k < 4 → parseFieldDescriptor (TX1 k).2.2.1 = some (tyX1 k) := by decide +kernel
abbrev cX1_init : ByteArray := prog_3_method_1_code
def yX1_init : MethodName := ⟨RX1, "<init>", "()V"⟩
abbrev cX1_search : ByteArray := prog_3_method_2_code
def yX1_search : MethodName := ⟨RX1, "search", "(LVernierEncoder$State;I)V"⟩
abbrev cX1_searchCorrected : ByteArray := prog_3_method_3_code
def yX1_searchCorrected : MethodName := ⟨RX1, "searchCorrected", "(LVernierEncoder$State;II)V"⟩
def RX2 : String := "VernierEncoder$History"
def TX2 : u_T := fun k => match k with
  | 0 => ("VernierEncoder$History", "states", "[LVernierEncoder$State;", true)
  | 1 => ("VernierEncoder$History", "oldest", "I", false)
  | _ => ("VernierEncoder$History", "size", "I", false)
def tyX2 : Nat → FieldType := fun k => match k with
  | 0 => .array (.object "VernierEncoder$State")
  | 1 => .int
  | _ => .int
theorem nmX2 : ∀ a, a < 3 → ∀ b, b < 3 → a ≠ b → (TX2 a).2.1 ≠ (TX2 b).2.1 := by decide +kernel
theorem tyX2_ok : ∀ k, k < 3 → parseFieldDescriptor (TX2 k).2.2.1 = some (tyX2 k) := by decide +kernel
abbrev cX2_init : ByteArray := prog_4_method_1_code
def yX2_init : MethodName := ⟨RX2, "<init>", "()V"⟩
abbrev cX2_slot : ByteArray := prog_4_method_2_code
def yX2_slot : MethodName := ⟨RX2, "slot", "(I)LVernierEncoder$State;"⟩
abbrev cX2_keep : ByteArray := prog_4_method_3_code
def yX2_keep : MethodName := ⟨RX2, "keep", "(LVernierEncoder$State;)V"⟩
abbrev cX2_restoreLatest : ByteArray := prog_4_method_4_code
def yX2_restoreLatest : MethodName := ⟨RX2, "restoreLatest", "(LVernierEncoder$State;)V"⟩
def RX3 : String := "VernierEncoder$State"
def TX3 : u_T := fun k => match k with
  | 0 => ("VernierEncoder$State", "place", "I", false)
  | 1 => ("VernierEncoder$State", "counter", "I", false)
  | 2 => ("VernierEncoder$State", "powered", "Z", false)
  | 3 => ("VernierEncoder$State", "battery", "I", false)
  | 4 => ("VernierEncoder$State", "toMiss", "I", false)
  | 5 => ("VernierEncoder$State", "accepted", "I", false)
  | 6 => ("VernierEncoder$State", "apartInRow", "I", false)
  | 7 => ("VernierEncoder$State", "settings", "[I", true)
  | 8 => ("VernierEncoder$State", "errors", "[I", true)
  | 9 => ("VernierEncoder$State", "noises", "[I", true)
  | _ => ("VernierEncoder$State", "corrections", "[I", true)
def tyX3 : Nat → FieldType := fun k => match k with
  | 0 => .int
  | 1 => .int
  | 2 => .boolean
  | 3 => .int
  | 4 => .int
  | 5 => .int
  | 6 => .int
  | 7 => .array .int
  | 8 => .array .int
  | 9 => .array .int
  | _ => .array .int
theorem nmX3 : ∀ a, a < 11 → ∀ b, b < 11 → a ≠ b → (TX3 a).2.1 ≠ (TX3 b).2.1 := by decide +kernel
theorem tyX3_ok : ∀ k, k < 11 → parseFieldDescriptor (TX3 k).2.2.1 = some (tyX3 k) := by decide +kernel
abbrev cX3_init : ByteArray := prog_5_method_1_code
def yX3_init : MethodName := ⟨RX3, "<init>", "()V"⟩
abbrev cX3_copyFrom : ByteArray := prog_5_method_2_code
def yX3_copyFrom : MethodName := ⟨RX3, "copyFrom", "(LVernierEncoder$State;)V"⟩
abbrev cX3_angle : ByteArray := prog_5_method_3_code
def yX3_angle : MethodName := ⟨RX3, "angle", "()I"⟩
abbrev cX3_coarse : ByteArray := prog_5_method_4_code
def yX3_coarse : MethodName := ⟨RX3, "coarse", "()I"⟩
abbrev cX3_readingAt : ByteArray := prog_5_method_5_code
def yX3_readingAt : MethodName := ⟨RX3, "readingAt", "(II)I"⟩
abbrev cX3_excess : ByteArray := prog_5_method_6_code
def yX3_excess : MethodName := ⟨RX3, "excess", "(I)I"⟩
abbrev cX3_corrected : ByteArray := prog_5_method_7_code
def yX3_corrected : MethodName := ⟨RX3, "corrected", "(III)I"⟩
abbrev cX3_correctionsInUse : ByteArray := prog_5_method_8_code
def yX3_correctionsInUse : MethodName := ⟨RX3, "correctionsInUse", "()I"⟩
abbrev cX3_isPoor : ByteArray := prog_5_method_9_code
def yX3_isPoor : MethodName := ⟨RX3, "isPoor", "(I)Z"⟩
abbrev cX3_crossBound : ByteArray := prog_5_method_10_code
def yX3_crossBound : MethodName := ⟨RX3, "crossBound", "(I)V"⟩
def RX4 : String := "VernierEncoder$Trial"
def TX4 : u_T := fun k => match k with
  | 0 => ("VernierEncoder$Trial", "refusal", "I", false)
  | 1 => ("VernierEncoder$Trial", "counter", "I", false)
  | 2 => ("VernierEncoder$Trial", "apartInRow", "I", false)
  | _ => ("VernierEncoder$Trial", "place", "I", false)
def tyX4 : Nat → FieldType := fun k => match k with
  | 0 => .int
  | 1 => .int
  | 2 => .int
  | _ => .int
theorem nmX4 : ∀ a, a < 4 → ∀ b, b < 4 → a ≠ b → (TX4 a).2.1 ≠ (TX4 b).2.1 := by decide +kernel
theorem tyX4_ok : ∀ k, k < 4 → parseFieldDescriptor (TX4 k).2.2.1 = some (tyX4 k) := by decide +kernel
abbrev cX4_init : ByteArray := prog_6_method_1_code
def yX4_init : MethodName := ⟨RX4, "<init>", "()V"⟩
abbrev cX4_judge : ByteArray := prog_6_method_2_code
def yX4_judge : MethodName := ⟨RX4, "judge", "(LVernierEncoder$State;LVernierEncoder$Finding;)V"⟩
abbrev cX4_firstRefusal : ByteArray := prog_6_method_3_code
def yX4_firstRefusal : MethodName := ⟨RX4, "firstRefusal", "(LVernierEncoder$State;LVernierEncoder$Finding;)I"⟩
def RX5 : String := "VernierEncoder"
def TX5 : u_T := fun k => match k with
  | 0 => ("VernierEncoder", "now", "LVernierEncoder$State;", true)
  | 1 => ("VernierEncoder", "history", "LVernierEncoder$History;", true)
  | 2 => ("VernierEncoder", "finding", "LVernierEncoder$Finding;", true)
  | 3 => ("VernierEncoder", "trial", "LVernierEncoder$Trial;", true)
  | _ => ("VernierEncoder", "entries", "LVernierEncoder$Entries;", true)
def tyX5 : Nat → FieldType := fun k => match k with
  | 0 => .object "VernierEncoder$State"
  | 1 => .object "VernierEncoder$History"
  | 2 => .object "VernierEncoder$Finding"
  | 3 => .object "VernierEncoder$Trial"
  | _ => .object "VernierEncoder$Entries"
theorem nmX5 : ∀ a, a < 5 → ∀ b, b < 5 → a ≠ b → (TX5 a).2.1 ≠ (TX5 b).2.1 := by decide +kernel
theorem tyX5_ok : ∀ k, k < 5 → parseFieldDescriptor (TX5 k).2.2.1 = some (tyX5 k) := by decide +kernel
abbrev cX5_init : ByteArray := prog_1_method_1_code
def yX5_init : MethodName := ⟨RX5, "<init>", "()V"⟩
abbrev cX5_turn : ByteArray := prog_1_method_2_code
def yX5_turn : MethodName := ⟨RX5, "turn", "(I)I"⟩
abbrev cX5_power : ByteArray := prog_1_method_3_code
def yX5_power : MethodName := ⟨RX5, "power", "(I)I"⟩
abbrev cX5_brownout : ByteArray := prog_1_method_4_code
def yX5_brownout : MethodName := ⟨RX5, "brownout", "(I)I"⟩
abbrev cX5_charge : ByteArray := prog_1_method_5_code
def yX5_charge : MethodName := ⟨RX5, "charge", "(I)I"⟩
abbrev cX5_count : ByteArray := prog_1_method_6_code
def yX5_count : MethodName := ⟨RX5, "count", "(I)I"⟩
abbrev cX5_undo : ByteArray := prog_1_method_7_code
def yX5_undo : MethodName := ⟨RX5, "undo", "()I"⟩
abbrev cX5_disk : ByteArray := prog_1_method_8_code
def yX5_disk : MethodName := ⟨RX5, "disk", "(III)I"⟩
abbrev cX5_noise : ByteArray := prog_1_method_9_code
def yX5_noise : MethodName := ⟨RX5, "noise", "(II)I"⟩
abbrev cX5_set : ByteArray := prog_1_method_10_code
def yX5_set : MethodName := ⟨RX5, "set", "(II)I"⟩
abbrev cX5_reading : ByteArray := prog_1_method_11_code
def yX5_reading : MethodName := ⟨RX5, "reading", "(I)I"⟩
abbrev cX5_found : ByteArray := prog_1_method_12_code
def yX5_found : MethodName := ⟨RX5, "found", "(IIII)I"⟩
abbrev cX5_byTwo : ByteArray := prog_1_method_13_code
def yX5_byTwo : MethodName := ⟨RX5, "byTwo", "(IIII)I"⟩
abbrev cX5_correct : ByteArray := prog_1_method_14_code
def yX5_correct : MethodName := ⟨RX5, "correct", "(III)I"⟩
abbrev cX5_correction : ByteArray := prog_1_method_15_code
def yX5_correction : MethodName := ⟨RX5, "correction", "(II)I"⟩
abbrev cX5_learn : ByteArray := prog_1_method_16_code
def yX5_learn : MethodName := ⟨RX5, "learn", "()I"⟩
abbrev cX5_look : ByteArray := prog_1_method_17_code
def yX5_look : MethodName := ⟨RX5, "look", "(I)I"⟩
abbrev cX5_survey : ByteArray := prog_1_method_18_code
def yX5_survey : MethodName := ⟨RX5, "survey", "(II)I"⟩
abbrev cX5_poor : ByteArray := prog_1_method_19_code
def yX5_poor : MethodName := ⟨RX5, "poor", "()I"⟩
abbrev cX5_sample : ByteArray := prog_1_method_20_code
def yX5_sample : MethodName := ⟨RX5, "sample", "()I"⟩
abbrev cX5_reason : ByteArray := prog_1_method_21_code
def yX5_reason : MethodName := ⟨RX5, "reason", "()I"⟩
abbrev cX5_forget : ByteArray := prog_1_method_22_code
def yX5_forget : MethodName := ⟨RX5, "forget", "()I"⟩
abbrev cX5_apart : ByteArray := prog_1_method_23_code
def yX5_apart : MethodName := ⟨RX5, "apart", "()I"⟩
abbrev cX5_type : ByteArray := prog_1_method_24_code
def yX5_type : MethodName := ⟨RX5, "type", "(I)I"⟩
abbrev cX5_fault : ByteArray := prog_1_method_26_code
def yX5_fault : MethodName := ⟨RX5, "fault", "(I)I"⟩
abbrev cX5_settingCount : ByteArray := prog_1_method_28_code
def yX5_settingCount : MethodName := ⟨RX5, "settingCount", "(I)I"⟩
abbrev cX5_shownSetting : ByteArray := prog_1_method_29_code
def yX5_shownSetting : MethodName := ⟨RX5, "shownSetting", "(I)I"⟩
abbrev cX5_isOutside : ByteArray := prog_1_method_30_code
def yX5_isOutside : MethodName := ⟨RX5, "isOutside", "(III)Z"⟩
abbrev cX5_isTrack : ByteArray := prog_1_method_31_code
def yX5_isTrack : MethodName := ⟨RX5, "isTrack", "(I)Z"⟩
abbrev cX5_isCell : ByteArray := prog_1_method_32_code
def yX5_isCell : MethodName := ⟨RX5, "isCell", "(II)Z"⟩
abbrev cX5_isReading : ByteArray := prog_1_method_33_code
def yX5_isReading : MethodName := ⟨RX5, "isReading", "(II)Z"⟩
abbrev cX5_cell : ByteArray := prog_1_method_34_code
def yX5_cell : MethodName := ⟨RX5, "cell", "(II)I"⟩
abbrev cX5_sectorOf : ByteArray := prog_1_method_35_code
def yX5_sectorOf : MethodName := ⟨RX5, "sectorOf", "(I)I"⟩
abbrev cX5_toNumber : ByteArray := prog_1_method_36_code
def yX5_toNumber : MethodName := ⟨RX5, "toNumber", "(Z)I"⟩
abbrev cX5_at : ByteArray := prog_1_method_37_code
def yX5_at : MethodName := ⟨RX5, "at", "([II)I"⟩
abbrev cX5_put : ByteArray := prog_1_method_38_code
def yX5_put : MethodName := ⟨RX5, "put", "([III)V"⟩
abbrev cX5_copy : ByteArray := prog_1_method_39_code
def yX5_copy : MethodName := ⟨RX5, "copy", "([I[I)V"⟩
abbrev cX5_remainder : ByteArray := prog_1_method_40_code
def yX5_remainder : MethodName := ⟨RX5, "remainder", "(II)I"⟩
abbrev cX5_distance : ByteArray := prog_1_method_41_code
def yX5_distance : MethodName := ⟨RX5, "distance", "(III)I"⟩
abbrev cX5_deviation : ByteArray := prog_1_method_42_code
def yX5_deviation : MethodName := ⟨RX5, "deviation", "(IIII)I"⟩
abbrev cX5_nearestAngle : ByteArray := prog_1_method_43_code
def yX5_nearestAngle : MethodName := ⟨RX5, "nearestAngle", "(III)I"⟩
def RX6 : String := "VernierEncoderModel"
def TX6 : u_T := fun k => match k with
  | _ => ("", "", "", false)
def tyX6 : Nat → FieldType := fun k => match k with
  | _ => .int
theorem nmX6 : ∀ a, a < 0 → ∀ b, b < 0 → a ≠ b → (TX6 a).2.1 ≠ (TX6 b).2.1 := by decide +kernel
theorem tyX6_ok : ∀ k, k < 0 → parseFieldDescriptor (TX6 k).2.2.1 = some (tyX6 k) := by decide +kernel
def RL : String := "VernierEncoderLaw"
abbrev cL_cell : ByteArray := method_2_code
def yL_cell : MethodName := ⟨RL, "cell", "([II)I"⟩
abbrev cL_low : ByteArray := method_3_code
def yL_low : MethodName := ⟨RL, "low", "(II)I"⟩
abbrev cL_period : ByteArray := method_4_code
def yL_period : MethodName := ⟨RL, "period", "(I)I"⟩
abbrev cL_rest : ByteArray := method_5_code
def yL_rest : MethodName := ⟨RL, "rest", "(II)I"⟩
abbrev cL_near : ByteArray := method_6_code
def yL_near : MethodName := ⟨RL, "near", "(II)I"⟩
abbrev cL_sum : ByteArray := method_7_code
def yL_sum : MethodName := ⟨RL, "sum", "(LVernierEncoder;)J"⟩
abbrev cL_refused : ByteArray := method_8_code
def yL_refused : MethodName := ⟨RL, "refused", "(LVernierEncoder;)Z"⟩
abbrev cL_fits : ByteArray := method_9_code
def yL_fits : MethodName := ⟨RL, "fits", "(LVernierEncoder;)Z"⟩
abbrev cL_byTable : ByteArray := method_10_code
def yL_byTable : MethodName := ⟨RL, "byTable", "(LVernierEncoder;II)I"⟩
abbrev cL_isSampled : ByteArray := method_11_code
def yL_isSampled : MethodName := ⟨RL, "isSampled", "(LVernierEncoder;)Z"⟩
abbrev cL_isTurned : ByteArray := method_12_code
def yL_isTurned : MethodName := ⟨RL, "isTurned", "(LVernierEncoder;I)Z"⟩
abbrev cL_least : ByteArray := method_13_code
def yL_least : MethodName := ⟨RL, "least", "(II)I"⟩
abbrev cL_isLearned : ByteArray := method_14_code
def yL_isLearned : MethodName := ⟨RL, "isLearned", "(LVernierEncoder;)Z"⟩
abbrev cL_acts : ByteArray := method_15_code
def yL_acts : MethodName := ⟨RL, "acts", "(LVernierEncoder;II)Z"⟩
abbrev cL_law : ByteArray := code
def yL_law : MethodName := ⟨RL, "law", "([I)Z"⟩
abbrev vwCl : List vw_C := [(RX0, TX0, 7), (RX1, TX1, 4), (RX2, TX2, 3), (RX3, TX3, 11), (RX4, TX4, 4), (RX5, TX5, 5)]
end
section
theorem dX0_init_0 : decode cX0_init 0 = .ok (.aload_n 0, 1) := by decide +kernel
theorem dX0_init_1 : decode cX0_init 1 = .ok (.invokespecial 3, 3) := by decide +kernel
theorem dX0_init_4 : decode cX0_init 4 = .ok (.aload_n 0, 1) := by decide +kernel
theorem dX0_init_5 : decode cX0_init 5 = .ok (.bipush 60, 2) := by decide +kernel
theorem dX0_init_7 : decode cX0_init 7 = .ok (.newarray .int, 2) := by decide +kernel
theorem dX0_init_9 : decode cX0_init 9 = .ok (.putfield 9, 3) := by decide +kernel
theorem dX0_init_12 : decode cX0_init 12 = .ok (.aload_n 0, 1) := by decide +kernel
theorem dX0_init_13 : decode cX0_init 13 = .ok (.iconst 0, 1) := by decide +kernel
theorem dX0_init_14 : decode cX0_init 14 = .ok (.putfield 15, 3) := by decide +kernel
theorem dX0_init_17 : decode cX0_init 17 = .ok (.aload_n 0, 1) := by decide +kernel
theorem dX0_init_18 : decode cX0_init 18 = .ok (.bipush 24, 2) := by decide +kernel
theorem dX0_init_20 : decode cX0_init 20 = .ok (.newarray .int, 2) := by decide +kernel
theorem dX0_init_22 : decode cX0_init 22 = .ok (.putfield 19, 3) := by decide +kernel
theorem dX0_init_25 : decode cX0_init 25 = .ok (.aload_n 0, 1) := by decide +kernel
theorem dX0_init_26 : decode cX0_init 26 = .ok (.bipush 24, 2) := by decide +kernel
theorem dX0_init_28 : decode cX0_init 28 = .ok (.newarray .int, 2) := by decide +kernel
theorem dX0_init_30 : decode cX0_init 30 = .ok (.putfield 22, 3) := by decide +kernel
theorem dX0_init_33 : decode cX0_init 33 = .ok (.aload_n 0, 1) := by decide +kernel
theorem dX0_init_34 : decode cX0_init 34 = .ok (.iconst 0, 1) := by decide +kernel
theorem dX0_init_35 : decode cX0_init 35 = .ok (.putfield 25, 3) := by decide +kernel
theorem dX0_init_38 : decode cX0_init 38 = .ok (.aload_n 0, 1) := by decide +kernel
theorem dX0_init_39 : decode cX0_init 39 = .ok (.iconst 0, 1) := by decide +kernel
theorem dX0_init_40 : decode cX0_init 40 = .ok (.putfield 28, 3) := by decide +kernel
theorem dX0_init_43 : decode cX0_init 43 = .ok (.aload_n 0, 1) := by decide +kernel
theorem dX0_init_44 : decode cX0_init 44 = .ok (.iconst 0, 1) := by decide +kernel
theorem dX0_init_45 : decode cX0_init 45 = .ok (.putfield 31, 3) := by decide +kernel
theorem dX0_init_48 : decode cX0_init 48 = .ok (.return_, 1) := by decide +kernel
theorem dX0_append_0 : decode cX0_append 0 = .ok (.aload_n 0, 1) := by decide +kernel
theorem dX0_append_1 : decode cX0_append 1 = .ok (.getfield 9, 3) := by decide +kernel
theorem dX0_append_4 : decode cX0_append 4 = .ok (.aload_n 0, 1) := by decide +kernel
theorem dX0_append_5 : decode cX0_append 5 = .ok (.getfield 15, 3) := by decide +kernel
theorem dX0_append_8 : decode cX0_append 8 = .ok (.iload_n 1, 1) := by decide +kernel
theorem dX0_append_9 : decode cX0_append 9 = .ok (.invokestatic 34, 3) := by decide +kernel
theorem dX0_append_12 : decode cX0_append 12 = .ok (.aload_n 0, 1) := by decide +kernel
theorem dX0_append_13 : decode cX0_append 13 = .ok (.dup, 1) := by decide +kernel
theorem dX0_append_14 : decode cX0_append 14 = .ok (.getfield 15, 3) := by decide +kernel
theorem dX0_append_17 : decode cX0_append 17 = .ok (.iconst 1, 1) := by decide +kernel
theorem dX0_append_18 : decode cX0_append 18 = .ok (.iadd, 1) := by decide +kernel
theorem dX0_append_19 : decode cX0_append 19 = .ok (.putfield 15, 3) := by decide +kernel
theorem dX0_append_22 : decode cX0_append 22 = .ok (.return_, 1) := by decide +kernel
theorem dX0_scan_0 : decode cX0_scan 0 = .ok (.iconst 0, 1) := by decide +kernel
theorem dX0_scan_1 : decode cX0_scan 1 = .ok (.istore_n 1, 1) := by decide +kernel
theorem dX0_scan_2 : decode cX0_scan 2 = .ok (.iload_n 1, 1) := by decide +kernel
theorem dX0_scan_3 : decode cX0_scan 3 = .ok (.bipush 24, 2) := by decide +kernel
theorem dX0_scan_5 : decode cX0_scan 5 = .ok (.if_icmp .ge 27, 3) := by decide +kernel
theorem dX0_scan_8 : decode cX0_scan 8 = .ok (.aload_n 0, 1) := by decide +kernel
theorem dX0_scan_9 : decode cX0_scan 9 = .ok (.getfield 19, 3) := by decide +kernel
theorem dX0_scan_12 : decode cX0_scan 12 = .ok (.iload_n 1, 1) := by decide +kernel
theorem dX0_scan_13 : decode cX0_scan 13 = .ok (.iconst 0, 1) := by decide +kernel
theorem dX0_scan_14 : decode cX0_scan 14 = .ok (.invokestatic 34, 3) := by decide +kernel
theorem dX0_scan_17 : decode cX0_scan 17 = .ok (.aload_n 0, 1) := by decide +kernel
theorem dX0_scan_18 : decode cX0_scan 18 = .ok (.getfield 22, 3) := by decide +kernel
theorem dX0_scan_21 : decode cX0_scan 21 = .ok (.iload_n 1, 1) := by decide +kernel
theorem dX0_scan_22 : decode cX0_scan 22 = .ok (.iconst 0, 1) := by decide +kernel
theorem dX0_scan_23 : decode cX0_scan 23 = .ok (.invokestatic 34, 3) := by decide +kernel
theorem dX0_scan_26 : decode cX0_scan 26 = .ok (.iinc 1 1, 3) := by decide +kernel
theorem dX0_scan_29 : decode cX0_scan 29 = .ok (.goto (-27), 3) := by decide +kernel
theorem dX0_scan_32 : decode cX0_scan 32 = .ok (.aload_n 0, 1) := by decide +kernel
theorem dX0_scan_33 : decode cX0_scan 33 = .ok (.iconst 0, 1) := by decide +kernel
theorem dX0_scan_34 : decode cX0_scan 34 = .ok (.putfield 25, 3) := by decide +kernel
theorem dX0_scan_37 : decode cX0_scan 37 = .ok (.aload_n 0, 1) := by decide +kernel
theorem dX0_scan_38 : decode cX0_scan 38 = .ok (.iconst 0, 1) := by decide +kernel
theorem dX0_scan_39 : decode cX0_scan 39 = .ok (.putfield 31, 3) := by decide +kernel
theorem dX0_scan_42 : decode cX0_scan 42 = .ok (.aload_n 0, 1) := by decide +kernel
theorem dX0_scan_43 : decode cX0_scan 43 = .ok (.iconst 0, 1) := by decide +kernel
theorem dX0_scan_44 : decode cX0_scan 44 = .ok (.putfield 28, 3) := by decide +kernel
theorem dX0_scan_47 : decode cX0_scan 47 = .ok (.aload_n 0, 1) := by decide +kernel
theorem dX0_scan_48 : decode cX0_scan 48 = .ok (.getfield 28, 3) := by decide +kernel
theorem dX0_scan_51 : decode cX0_scan 51 = .ok (.aload_n 0, 1) := by decide +kernel
theorem dX0_scan_52 : decode cX0_scan 52 = .ok (.getfield 15, 3) := by decide +kernel
theorem dX0_scan_55 : decode cX0_scan 55 = .ok (.if_icmp .ge 61, 3) := by decide +kernel
theorem dX0_scan_58 : decode cX0_scan 58 = .ok (.aload_n 0, 1) := by decide +kernel
theorem dX0_scan_59 : decode cX0_scan 59 = .ok (.getfield 31, 3) := by decide +kernel
theorem dX0_scan_62 : decode cX0_scan 62 = .ok (.ifCond .ne 54, 3) := by decide +kernel
theorem dX0_scan_65 : decode cX0_scan 65 = .ok (.aload_n 0, 1) := by decide +kernel
theorem dX0_scan_66 : decode cX0_scan 66 = .ok (.aload_n 0, 1) := by decide +kernel
theorem dX0_scan_67 : decode cX0_scan 67 = .ok (.aload_n 0, 1) := by decide +kernel
theorem dX0_scan_68 : decode cX0_scan 68 = .ok (.getfield 28, 3) := by decide +kernel
theorem dX0_scan_71 : decode cX0_scan 71 = .ok (.invokevirtual 38, 3) := by decide +kernel
theorem dX0_scan_74 : decode cX0_scan 74 = .ok (.putfield 31, 3) := by decide +kernel
theorem dX0_scan_77 : decode cX0_scan 77 = .ok (.aload_n 0, 1) := by decide +kernel
theorem dX0_scan_78 : decode cX0_scan 78 = .ok (.getfield 31, 3) := by decide +kernel
theorem dX0_scan_81 : decode cX0_scan 81 = .ok (.ifCond .ne (-34), 3) := by decide +kernel
theorem dX0_scan_84 : decode cX0_scan 84 = .ok (.aload_n 0, 1) := by decide +kernel
theorem dX0_scan_85 : decode cX0_scan 85 = .ok (.aload_n 0, 1) := by decide +kernel
theorem dX0_scan_86 : decode cX0_scan 86 = .ok (.getfield 28, 3) := by decide +kernel
theorem dX0_scan_89 : decode cX0_scan 89 = .ok (.invokevirtual 42, 3) := by decide +kernel
theorem dX0_scan_92 : decode cX0_scan 92 = .ok (.aload_n 0, 1) := by decide +kernel
theorem dX0_scan_93 : decode cX0_scan 93 = .ok (.dup, 1) := by decide +kernel
theorem dX0_scan_94 : decode cX0_scan 94 = .ok (.getfield 28, 3) := by decide +kernel
theorem dX0_scan_97 : decode cX0_scan 97 = .ok (.iconst 1, 1) := by decide +kernel
theorem dX0_scan_98 : decode cX0_scan 98 = .ok (.aload_n 0, 1) := by decide +kernel
theorem dX0_scan_99 : decode cX0_scan 99 = .ok (.aload_n 0, 1) := by decide +kernel
theorem dX0_scan_100 : decode cX0_scan 100 = .ok (.getfield 28, 3) := by decide +kernel
theorem dX0_scan_103 : decode cX0_scan 103 = .ok (.invokevirtual 46, 3) := by decide +kernel
theorem dX0_scan_106 : decode cX0_scan 106 = .ok (.invokestatic 49, 3) := by decide +kernel
theorem dX0_scan_109 : decode cX0_scan 109 = .ok (.iadd, 1) := by decide +kernel
theorem dX0_scan_110 : decode cX0_scan 110 = .ok (.putfield 28, 3) := by decide +kernel
theorem dX0_scan_113 : decode cX0_scan 113 = .ok (.goto (-66), 3) := by decide +kernel
theorem dX0_scan_116 : decode cX0_scan 116 = .ok (.return_, 1) := by decide +kernel
theorem dX0_entryFault_0 : decode cX0_entryFault 0 = .ok (.aload_n 0, 1) := by decide +kernel
theorem dX0_entryFault_1 : decode cX0_entryFault 1 = .ok (.iload_n 1, 1) := by decide +kernel
theorem dX0_entryFault_2 : decode cX0_entryFault 2 = .ok (.invokevirtual 46, 3) := by decide +kernel
theorem dX0_entryFault_5 : decode cX0_entryFault 5 = .ok (.ifCond .ne 5, 3) := by decide +kernel
theorem dX0_entryFault_8 : decode cX0_entryFault 8 = .ok (.iconst 1, 1) := by decide +kernel
theorem dX0_entryFault_9 : decode cX0_entryFault 9 = .ok (.ireturn, 1) := by decide +kernel
theorem dX0_entryFault_10 : decode cX0_entryFault 10 = .ok (.aload_n 0, 1) := by decide +kernel
theorem dX0_entryFault_11 : decode cX0_entryFault 11 = .ok (.iload_n 1, 1) := by decide +kernel
theorem dX0_entryFault_12 : decode cX0_entryFault 12 = .ok (.invokevirtual 55, 3) := by decide +kernel
theorem dX0_entryFault_15 : decode cX0_entryFault 15 = .ok (.invokestatic 58, 3) := by decide +kernel
theorem dX0_entryFault_18 : decode cX0_entryFault 18 = .ok (.ifCond .ne 5, 3) := by decide +kernel
theorem dX0_entryFault_21 : decode cX0_entryFault 21 = .ok (.iconst 2, 1) := by decide +kernel
theorem dX0_entryFault_22 : decode cX0_entryFault 22 = .ok (.ireturn, 1) := by decide +kernel
theorem dX0_entryFault_23 : decode cX0_entryFault 23 = .ok (.aload_n 0, 1) := by decide +kernel
theorem dX0_entryFault_24 : decode cX0_entryFault 24 = .ok (.iload_n 1, 1) := by decide +kernel
theorem dX0_entryFault_25 : decode cX0_entryFault 25 = .ok (.invokevirtual 55, 3) := by decide +kernel
theorem dX0_entryFault_28 : decode cX0_entryFault 28 = .ok (.aload_n 0, 1) := by decide +kernel
theorem dX0_entryFault_29 : decode cX0_entryFault 29 = .ok (.iload_n 1, 1) := by decide +kernel
theorem dX0_entryFault_30 : decode cX0_entryFault 30 = .ok (.iconst 1, 1) := by decide +kernel
theorem dX0_entryFault_31 : decode cX0_entryFault 31 = .ok (.iadd, 1) := by decide +kernel
theorem dX0_entryFault_32 : decode cX0_entryFault 32 = .ok (.invokevirtual 55, 3) := by decide +kernel
theorem dX0_entryFault_35 : decode cX0_entryFault 35 = .ok (.invokestatic 62, 3) := by decide +kernel
theorem dX0_entryFault_38 : decode cX0_entryFault 38 = .ok (.ifCond .ne 5, 3) := by decide +kernel
theorem dX0_entryFault_41 : decode cX0_entryFault 41 = .ok (.iconst 3, 1) := by decide +kernel
theorem dX0_entryFault_42 : decode cX0_entryFault 42 = .ok (.ireturn, 1) := by decide +kernel
theorem dX0_entryFault_43 : decode cX0_entryFault 43 = .ok (.aload_n 0, 1) := by decide +kernel
theorem dX0_entryFault_44 : decode cX0_entryFault 44 = .ok (.iload_n 1, 1) := by decide +kernel
theorem dX0_entryFault_45 : decode cX0_entryFault 45 = .ok (.invokevirtual 66, 3) := by decide +kernel
theorem dX0_entryFault_48 : decode cX0_entryFault 48 = .ok (.bipush 20, 2) := by decide +kernel
theorem dX0_entryFault_50 : decode cX0_entryFault 50 = .ok (.if_icmp .le 5, 3) := by decide +kernel
theorem dX0_entryFault_53 : decode cX0_entryFault 53 = .ok (.iconst 4, 1) := by decide +kernel
theorem dX0_entryFault_54 : decode cX0_entryFault 54 = .ok (.ireturn, 1) := by decide +kernel
theorem dX0_entryFault_55 : decode cX0_entryFault 55 = .ok (.aload_n 0, 1) := by decide +kernel
theorem dX0_entryFault_56 : decode cX0_entryFault 56 = .ok (.getfield 22, 3) := by decide +kernel
theorem dX0_entryFault_59 : decode cX0_entryFault 59 = .ok (.aload_n 0, 1) := by decide +kernel
theorem dX0_entryFault_60 : decode cX0_entryFault 60 = .ok (.iload_n 1, 1) := by decide +kernel
theorem dX0_entryFault_61 : decode cX0_entryFault 61 = .ok (.invokevirtual 69, 3) := by decide +kernel
theorem dX0_entryFault_64 : decode cX0_entryFault 64 = .ok (.invokestatic 72, 3) := by decide +kernel
theorem dX0_entryFault_67 : decode cX0_entryFault 67 = .ok (.ifCond .eq 7, 3) := by decide +kernel
theorem dX0_entryFault_70 : decode cX0_entryFault 70 = .ok (.iconst 5, 1) := by decide +kernel
theorem dX0_entryFault_71 : decode cX0_entryFault 71 = .ok (.goto 4, 3) := by decide +kernel
theorem dX0_entryFault_74 : decode cX0_entryFault 74 = .ok (.iconst 0, 1) := by decide +kernel
theorem dX0_entryFault_75 : decode cX0_entryFault 75 = .ok (.ireturn, 1) := by decide +kernel
theorem dX0_takeEntry_0 : decode cX0_takeEntry 0 = .ok (.aload_n 0, 1) := by decide +kernel
theorem dX0_takeEntry_1 : decode cX0_takeEntry 1 = .ok (.iload_n 1, 1) := by decide +kernel
theorem dX0_takeEntry_2 : decode cX0_takeEntry 2 = .ok (.invokevirtual 66, 3) := by decide +kernel
theorem dX0_takeEntry_5 : decode cX0_takeEntry 5 = .ok (.istore_n 2, 1) := by decide +kernel
theorem dX0_takeEntry_6 : decode cX0_takeEntry 6 = .ok (.aload_n 0, 1) := by decide +kernel
theorem dX0_takeEntry_7 : decode cX0_takeEntry 7 = .ok (.getfield 19, 3) := by decide +kernel
theorem dX0_takeEntry_10 : decode cX0_takeEntry 10 = .ok (.aload_n 0, 1) := by decide +kernel
theorem dX0_takeEntry_11 : decode cX0_takeEntry 11 = .ok (.iload_n 1, 1) := by decide +kernel
theorem dX0_takeEntry_12 : decode cX0_takeEntry 12 = .ok (.invokevirtual 69, 3) := by decide +kernel
theorem dX0_takeEntry_15 : decode cX0_takeEntry 15 = .ok (.aload_n 0, 1) := by decide +kernel
theorem dX0_takeEntry_16 : decode cX0_takeEntry 16 = .ok (.iload_n 1, 1) := by decide +kernel
theorem dX0_takeEntry_17 : decode cX0_takeEntry 17 = .ok (.iconst 2, 1) := by decide +kernel
theorem dX0_takeEntry_18 : decode cX0_takeEntry 18 = .ok (.iadd, 1) := by decide +kernel
theorem dX0_takeEntry_19 : decode cX0_takeEntry 19 = .ok (.invokevirtual 76, 3) := by decide +kernel
theorem dX0_takeEntry_22 : decode cX0_takeEntry 22 = .ok (.bipush 45, 2) := by decide +kernel
theorem dX0_takeEntry_24 : decode cX0_takeEntry 24 = .ok (.if_icmp .ne 8, 3) := by decide +kernel
theorem dX0_takeEntry_27 : decode cX0_takeEntry 27 = .ok (.iload_n 2, 1) := by decide +kernel
theorem dX0_takeEntry_28 : decode cX0_takeEntry 28 = .ok (.ineg, 1) := by decide +kernel
theorem dX0_takeEntry_29 : decode cX0_takeEntry 29 = .ok (.goto 4, 3) := by decide +kernel
theorem dX0_takeEntry_32 : decode cX0_takeEntry 32 = .ok (.iload_n 2, 1) := by decide +kernel
theorem dX0_takeEntry_33 : decode cX0_takeEntry 33 = .ok (.invokestatic 34, 3) := by decide +kernel
theorem dX0_takeEntry_36 : decode cX0_takeEntry 36 = .ok (.aload_n 0, 1) := by decide +kernel
theorem dX0_takeEntry_37 : decode cX0_takeEntry 37 = .ok (.getfield 22, 3) := by decide +kernel
theorem dX0_takeEntry_40 : decode cX0_takeEntry 40 = .ok (.aload_n 0, 1) := by decide +kernel
theorem dX0_takeEntry_41 : decode cX0_takeEntry 41 = .ok (.iload_n 1, 1) := by decide +kernel
theorem dX0_takeEntry_42 : decode cX0_takeEntry 42 = .ok (.invokevirtual 69, 3) := by decide +kernel
theorem dX0_takeEntry_45 : decode cX0_takeEntry 45 = .ok (.iconst 1, 1) := by decide +kernel
theorem dX0_takeEntry_46 : decode cX0_takeEntry 46 = .ok (.invokestatic 34, 3) := by decide +kernel
theorem dX0_takeEntry_49 : decode cX0_takeEntry 49 = .ok (.aload_n 0, 1) := by decide +kernel
theorem dX0_takeEntry_50 : decode cX0_takeEntry 50 = .ok (.dup, 1) := by decide +kernel
theorem dX0_takeEntry_51 : decode cX0_takeEntry 51 = .ok (.getfield 25, 3) := by decide +kernel
theorem dX0_takeEntry_54 : decode cX0_takeEntry 54 = .ok (.iconst 1, 1) := by decide +kernel
theorem dX0_takeEntry_55 : decode cX0_takeEntry 55 = .ok (.iadd, 1) := by decide +kernel
theorem dX0_takeEntry_56 : decode cX0_takeEntry 56 = .ok (.putfield 25, 3) := by decide +kernel
theorem dX0_takeEntry_59 : decode cX0_takeEntry 59 = .ok (.return_, 1) := by decide +kernel
theorem dX0_entryLength_0 : decode cX0_entryLength 0 = .ok (.aload_n 0, 1) := by decide +kernel
theorem dX0_entryLength_1 : decode cX0_entryLength 1 = .ok (.iload_n 1, 1) := by decide +kernel
theorem dX0_entryLength_2 : decode cX0_entryLength 2 = .ok (.iconst 2, 1) := by decide +kernel
theorem dX0_entryLength_3 : decode cX0_entryLength 3 = .ok (.iadd, 1) := by decide +kernel
theorem dX0_entryLength_4 : decode cX0_entryLength 4 = .ok (.invokevirtual 76, 3) := by decide +kernel
theorem dX0_entryLength_7 : decode cX0_entryLength 7 = .ok (.istore_n 2, 1) := by decide +kernel
theorem dX0_entryLength_8 : decode cX0_entryLength 8 = .ok (.aload_n 0, 1) := by decide +kernel
theorem dX0_entryLength_9 : decode cX0_entryLength 9 = .ok (.iload_n 1, 1) := by decide +kernel
theorem dX0_entryLength_10 : decode cX0_entryLength 10 = .ok (.invokevirtual 79, 3) := by decide +kernel
theorem dX0_entryLength_13 : decode cX0_entryLength 13 = .ok (.ifCond .eq 35, 3) := by decide +kernel
theorem dX0_entryLength_16 : decode cX0_entryLength 16 = .ok (.aload_n 0, 1) := by decide +kernel
theorem dX0_entryLength_17 : decode cX0_entryLength 17 = .ok (.iload_n 1, 1) := by decide +kernel
theorem dX0_entryLength_18 : decode cX0_entryLength 18 = .ok (.iconst 1, 1) := by decide +kernel
theorem dX0_entryLength_19 : decode cX0_entryLength 19 = .ok (.iadd, 1) := by decide +kernel
theorem dX0_entryLength_20 : decode cX0_entryLength 20 = .ok (.invokevirtual 79, 3) := by decide +kernel
theorem dX0_entryLength_23 : decode cX0_entryLength 23 = .ok (.ifCond .eq 25, 3) := by decide +kernel
theorem dX0_entryLength_26 : decode cX0_entryLength 26 = .ok (.iload_n 2, 1) := by decide +kernel
theorem dX0_entryLength_27 : decode cX0_entryLength 27 = .ok (.bipush 43, 2) := by decide +kernel
theorem dX0_entryLength_29 : decode cX0_entryLength 29 = .ok (.if_icmp .eq 9, 3) := by decide +kernel
theorem dX0_entryLength_32 : decode cX0_entryLength 32 = .ok (.iload_n 2, 1) := by decide +kernel
theorem dX0_entryLength_33 : decode cX0_entryLength 33 = .ok (.bipush 45, 2) := by decide +kernel
theorem dX0_entryLength_35 : decode cX0_entryLength 35 = .ok (.if_icmp .ne 13, 3) := by decide +kernel
theorem dX0_entryLength_38 : decode cX0_entryLength 38 = .ok (.aload_n 0, 1) := by decide +kernel
theorem dX0_entryLength_39 : decode cX0_entryLength 39 = .ok (.iload_n 1, 1) := by decide +kernel
theorem dX0_entryLength_40 : decode cX0_entryLength 40 = .ok (.iconst 3, 1) := by decide +kernel
theorem dX0_entryLength_41 : decode cX0_entryLength 41 = .ok (.iadd, 1) := by decide +kernel
theorem dX0_entryLength_42 : decode cX0_entryLength 42 = .ok (.invokevirtual 79, 3) := by decide +kernel
theorem dX0_entryLength_45 : decode cX0_entryLength 45 = .ok (.ifCond .ne 5, 3) := by decide +kernel
theorem dX0_entryLength_48 : decode cX0_entryLength 48 = .ok (.iconst 0, 1) := by decide +kernel
theorem dX0_entryLength_49 : decode cX0_entryLength 49 = .ok (.ireturn, 1) := by decide +kernel
theorem dX0_entryLength_50 : decode cX0_entryLength 50 = .ok (.aload_n 0, 1) := by decide +kernel
theorem dX0_entryLength_51 : decode cX0_entryLength 51 = .ok (.iload_n 1, 1) := by decide +kernel
theorem dX0_entryLength_52 : decode cX0_entryLength 52 = .ok (.iconst 4, 1) := by decide +kernel
theorem dX0_entryLength_53 : decode cX0_entryLength 53 = .ok (.iadd, 1) := by decide +kernel
theorem dX0_entryLength_54 : decode cX0_entryLength 54 = .ok (.invokevirtual 79, 3) := by decide +kernel
theorem dX0_entryLength_57 : decode cX0_entryLength 57 = .ok (.ifCond .eq 9, 3) := by decide +kernel
theorem dX0_entryLength_60 : decode cX0_entryLength 60 = .ok (.iload_n 1, 1) := by decide +kernel
theorem dX0_entryLength_61 : decode cX0_entryLength 61 = .ok (.iconst 5, 1) := by decide +kernel
theorem dX0_entryLength_62 : decode cX0_entryLength 62 = .ok (.iadd, 1) := by decide +kernel
theorem dX0_entryLength_63 : decode cX0_entryLength 63 = .ok (.goto 6, 3) := by decide +kernel
theorem dX0_entryLength_66 : decode cX0_entryLength 66 = .ok (.iload_n 1, 1) := by decide +kernel
theorem dX0_entryLength_67 : decode cX0_entryLength 67 = .ok (.iconst 4, 1) := by decide +kernel
theorem dX0_entryLength_68 : decode cX0_entryLength 68 = .ok (.iadd, 1) := by decide +kernel
theorem dX0_entryLength_69 : decode cX0_entryLength 69 = .ok (.istore_n 3, 1) := by decide +kernel
theorem dX0_entryLength_70 : decode cX0_entryLength 70 = .ok (.aload_n 0, 1) := by decide +kernel
theorem dX0_entryLength_71 : decode cX0_entryLength 71 = .ok (.iload_n 3, 1) := by decide +kernel
theorem dX0_entryLength_72 : decode cX0_entryLength 72 = .ok (.invokevirtual 76, 3) := by decide +kernel
theorem dX0_entryLength_75 : decode cX0_entryLength 75 = .ok (.bipush 59, 2) := by decide +kernel
theorem dX0_entryLength_77 : decode cX0_entryLength 77 = .ok (.if_icmp .ne 11, 3) := by decide +kernel
theorem dX0_entryLength_80 : decode cX0_entryLength 80 = .ok (.iload_n 3, 1) := by decide +kernel
theorem dX0_entryLength_81 : decode cX0_entryLength 81 = .ok (.iconst 1, 1) := by decide +kernel
theorem dX0_entryLength_82 : decode cX0_entryLength 82 = .ok (.iadd, 1) := by decide +kernel
theorem dX0_entryLength_83 : decode cX0_entryLength 83 = .ok (.iload_n 1, 1) := by decide +kernel
theorem dX0_entryLength_84 : decode cX0_entryLength 84 = .ok (.isub, 1) := by decide +kernel
theorem dX0_entryLength_85 : decode cX0_entryLength 85 = .ok (.goto 4, 3) := by decide +kernel
theorem dX0_entryLength_88 : decode cX0_entryLength 88 = .ok (.iconst 0, 1) := by decide +kernel
theorem dX0_entryLength_89 : decode cX0_entryLength 89 = .ok (.ireturn, 1) := by decide +kernel
theorem dX0_amount_0 : decode cX0_amount 0 = .ok (.aload_n 0, 1) := by decide +kernel
theorem dX0_amount_1 : decode cX0_amount 1 = .ok (.iload_n 1, 1) := by decide +kernel
theorem dX0_amount_2 : decode cX0_amount 2 = .ok (.iconst 3, 1) := by decide +kernel
theorem dX0_amount_3 : decode cX0_amount 3 = .ok (.iadd, 1) := by decide +kernel
theorem dX0_amount_4 : decode cX0_amount 4 = .ok (.invokevirtual 55, 3) := by decide +kernel
theorem dX0_amount_7 : decode cX0_amount 7 = .ok (.istore_n 2, 1) := by decide +kernel
theorem dX0_amount_8 : decode cX0_amount 8 = .ok (.aload_n 0, 1) := by decide +kernel
theorem dX0_amount_9 : decode cX0_amount 9 = .ok (.iload_n 1, 1) := by decide +kernel
theorem dX0_amount_10 : decode cX0_amount 10 = .ok (.iconst 4, 1) := by decide +kernel
theorem dX0_amount_11 : decode cX0_amount 11 = .ok (.iadd, 1) := by decide +kernel
theorem dX0_amount_12 : decode cX0_amount 12 = .ok (.invokevirtual 79, 3) := by decide +kernel
theorem dX0_amount_15 : decode cX0_amount 15 = .ok (.ifCond .eq 18, 3) := by decide +kernel
theorem dX0_amount_18 : decode cX0_amount 18 = .ok (.iload_n 2, 1) := by decide +kernel
theorem dX0_amount_19 : decode cX0_amount 19 = .ok (.bipush 10, 2) := by decide +kernel
theorem dX0_amount_21 : decode cX0_amount 21 = .ok (.imul, 1) := by decide +kernel
theorem dX0_amount_22 : decode cX0_amount 22 = .ok (.aload_n 0, 1) := by decide +kernel
theorem dX0_amount_23 : decode cX0_amount 23 = .ok (.iload_n 1, 1) := by decide +kernel
theorem dX0_amount_24 : decode cX0_amount 24 = .ok (.iconst 4, 1) := by decide +kernel
theorem dX0_amount_25 : decode cX0_amount 25 = .ok (.iadd, 1) := by decide +kernel
theorem dX0_amount_26 : decode cX0_amount 26 = .ok (.invokevirtual 55, 3) := by decide +kernel
theorem dX0_amount_29 : decode cX0_amount 29 = .ok (.iadd, 1) := by decide +kernel
theorem dX0_amount_30 : decode cX0_amount 30 = .ok (.goto 4, 3) := by decide +kernel
theorem dX0_amount_33 : decode cX0_amount 33 = .ok (.iload_n 2, 1) := by decide +kernel
theorem dX0_amount_34 : decode cX0_amount 34 = .ok (.ireturn, 1) := by decide +kernel
theorem dX0_entryCell_0 : decode cX0_entryCell 0 = .ok (.aload_n 0, 1) := by decide +kernel
theorem dX0_entryCell_1 : decode cX0_entryCell 1 = .ok (.iload_n 1, 1) := by decide +kernel
theorem dX0_entryCell_2 : decode cX0_entryCell 2 = .ok (.invokevirtual 55, 3) := by decide +kernel
theorem dX0_entryCell_5 : decode cX0_entryCell 5 = .ok (.aload_n 0, 1) := by decide +kernel
theorem dX0_entryCell_6 : decode cX0_entryCell 6 = .ok (.iload_n 1, 1) := by decide +kernel
theorem dX0_entryCell_7 : decode cX0_entryCell 7 = .ok (.iconst 1, 1) := by decide +kernel
theorem dX0_entryCell_8 : decode cX0_entryCell 8 = .ok (.iadd, 1) := by decide +kernel
theorem dX0_entryCell_9 : decode cX0_entryCell 9 = .ok (.invokevirtual 55, 3) := by decide +kernel
theorem dX0_entryCell_12 : decode cX0_entryCell 12 = .ok (.invokestatic 82, 3) := by decide +kernel
theorem dX0_entryCell_15 : decode cX0_entryCell 15 = .ok (.ireturn, 1) := by decide +kernel
theorem dX0_characterAt_0 : decode cX0_characterAt 0 = .ok (.iload_n 1, 1) := by decide +kernel
theorem dX0_characterAt_1 : decode cX0_characterAt 1 = .ok (.aload_n 0, 1) := by decide +kernel
theorem dX0_characterAt_2 : decode cX0_characterAt 2 = .ok (.getfield 15, 3) := by decide +kernel
theorem dX0_characterAt_5 : decode cX0_characterAt 5 = .ok (.if_icmp .ge 14, 3) := by decide +kernel
theorem dX0_characterAt_8 : decode cX0_characterAt 8 = .ok (.aload_n 0, 1) := by decide +kernel
theorem dX0_characterAt_9 : decode cX0_characterAt 9 = .ok (.getfield 9, 3) := by decide +kernel
theorem dX0_characterAt_12 : decode cX0_characterAt 12 = .ok (.iload_n 1, 1) := by decide +kernel
theorem dX0_characterAt_13 : decode cX0_characterAt 13 = .ok (.invokestatic 72, 3) := by decide +kernel
theorem dX0_characterAt_16 : decode cX0_characterAt 16 = .ok (.goto 4, 3) := by decide +kernel
theorem dX0_characterAt_19 : decode cX0_characterAt 19 = .ok (.iconst 0, 1) := by decide +kernel
theorem dX0_characterAt_20 : decode cX0_characterAt 20 = .ok (.ireturn, 1) := by decide +kernel
theorem dX0_isDigit_0 : decode cX0_isDigit 0 = .ok (.aload_n 0, 1) := by decide +kernel
theorem dX0_isDigit_1 : decode cX0_isDigit 1 = .ok (.iload_n 1, 1) := by decide +kernel
theorem dX0_isDigit_2 : decode cX0_isDigit 2 = .ok (.invokevirtual 76, 3) := by decide +kernel
theorem dX0_isDigit_5 : decode cX0_isDigit 5 = .ok (.bipush 48, 2) := by decide +kernel
theorem dX0_isDigit_7 : decode cX0_isDigit 7 = .ok (.bipush 57, 2) := by decide +kernel
theorem dX0_isDigit_9 : decode cX0_isDigit 9 = .ok (.invokestatic 85, 3) := by decide +kernel
theorem dX0_isDigit_12 : decode cX0_isDigit 12 = .ok (.ifCond .ne 7, 3) := by decide +kernel
theorem dX0_isDigit_15 : decode cX0_isDigit 15 = .ok (.iconst 1, 1) := by decide +kernel
theorem dX0_isDigit_16 : decode cX0_isDigit 16 = .ok (.goto 4, 3) := by decide +kernel
theorem dX0_isDigit_19 : decode cX0_isDigit 19 = .ok (.iconst 0, 1) := by decide +kernel
theorem dX0_isDigit_20 : decode cX0_isDigit 20 = .ok (.ireturn, 1) := by decide +kernel
theorem dX0_digitAt_0 : decode cX0_digitAt 0 = .ok (.aload_n 0, 1) := by decide +kernel
theorem dX0_digitAt_1 : decode cX0_digitAt 1 = .ok (.iload_n 1, 1) := by decide +kernel
theorem dX0_digitAt_2 : decode cX0_digitAt 2 = .ok (.invokevirtual 76, 3) := by decide +kernel
theorem dX0_digitAt_5 : decode cX0_digitAt 5 = .ok (.bipush 48, 2) := by decide +kernel
theorem dX0_digitAt_7 : decode cX0_digitAt 7 = .ok (.isub, 1) := by decide +kernel
theorem dX0_digitAt_8 : decode cX0_digitAt 8 = .ok (.ireturn, 1) := by decide +kernel
theorem dX1_init_0 : decode cX1_init 0 = .ok (.aload_n 0, 1) := by decide +kernel
theorem dX1_init_1 : decode cX1_init 1 = .ok (.invokespecial 1, 3) := by decide +kernel
theorem dX1_init_4 : decode cX1_init 4 = .ok (.aload_n 0, 1) := by decide +kernel
theorem dX1_init_5 : decode cX1_init 5 = .ok (.iconst 0, 1) := by decide +kernel
theorem dX1_init_6 : decode cX1_init 6 = .ok (.putfield 7, 3) := by decide +kernel
theorem dX1_init_9 : decode cX1_init 9 = .ok (.aload_n 0, 1) := by decide +kernel
theorem dX1_init_10 : decode cX1_init 10 = .ok (.iconst 0, 1) := by decide +kernel
theorem dX1_init_11 : decode cX1_init 11 = .ok (.putfield 13, 3) := by decide +kernel
theorem dX1_init_14 : decode cX1_init 14 = .ok (.aload_n 0, 1) := by decide +kernel
theorem dX1_init_15 : decode cX1_init 15 = .ok (.iconst 0, 1) := by decide +kernel
theorem dX1_init_16 : decode cX1_init 16 = .ok (.putfield 16, 3) := by decide +kernel
theorem dX1_init_19 : decode cX1_init 19 = .ok (.aload_n 0, 1) := by decide +kernel
theorem dX1_init_20 : decode cX1_init 20 = .ok (.iconst 0, 1) := by decide +kernel
theorem dX1_init_21 : decode cX1_init 21 = .ok (.putfield 19, 3) := by decide +kernel
theorem dX1_init_24 : decode cX1_init 24 = .ok (.return_, 1) := by decide +kernel
theorem dX1_search_0 : decode cX1_search 0 = .ok (.aload_n 0, 1) := by decide +kernel
theorem dX1_search_1 : decode cX1_search 1 = .ok (.aload_n 1, 1) := by decide +kernel
theorem dX1_search_2 : decode cX1_search 2 = .ok (.iconst 0, 1) := by decide +kernel
theorem dX1_search_3 : decode cX1_search 3 = .ok (.iload_n 2, 1) := by decide +kernel
theorem dX1_search_4 : decode cX1_search 4 = .ok (.invokevirtual 22, 3) := by decide +kernel
theorem dX1_search_7 : decode cX1_search 7 = .ok (.aload_n 1, 1) := by decide +kernel
theorem dX1_search_8 : decode cX1_search 8 = .ok (.iconst 1, 1) := by decide +kernel
theorem dX1_search_9 : decode cX1_search 9 = .ok (.iload_n 2, 1) := by decide +kernel
theorem dX1_search_10 : decode cX1_search 10 = .ok (.invokevirtual 22, 3) := by decide +kernel
theorem dX1_search_13 : decode cX1_search 13 = .ok (.aload_n 1, 1) := by decide +kernel
theorem dX1_search_14 : decode cX1_search 14 = .ok (.iconst 2, 1) := by decide +kernel
theorem dX1_search_15 : decode cX1_search 15 = .ok (.iload_n 2, 1) := by decide +kernel
theorem dX1_search_16 : decode cX1_search 16 = .ok (.invokevirtual 22, 3) := by decide +kernel
theorem dX1_search_19 : decode cX1_search 19 = .ok (.invokestatic 28, 3) := by decide +kernel
theorem dX1_search_22 : decode cX1_search 22 = .ok (.putfield 7, 3) := by decide +kernel
theorem dX1_search_25 : decode cX1_search 25 = .ok (.aload_n 0, 1) := by decide +kernel
theorem dX1_search_26 : decode cX1_search 26 = .ok (.getfield 7, 3) := by decide +kernel
theorem dX1_search_29 : decode cX1_search 29 = .ok (.invokestatic 34, 3) := by decide +kernel
theorem dX1_search_32 : decode cX1_search 32 = .ok (.istore_n 3, 1) := by decide +kernel
theorem dX1_search_33 : decode cX1_search 33 = .ok (.aload_n 0, 1) := by decide +kernel
theorem dX1_search_34 : decode cX1_search 34 = .ok (.aload_n 1, 1) := by decide +kernel
theorem dX1_search_35 : decode cX1_search 35 = .ok (.iload_n 2, 1) := by decide +kernel
theorem dX1_search_36 : decode cX1_search 36 = .ok (.iload_n 3, 1) := by decide +kernel
theorem dX1_search_37 : decode cX1_search 37 = .ok (.invokevirtual 38, 3) := by decide +kernel
theorem dX1_search_40 : decode cX1_search 40 = .ok (.aload_n 0, 1) := by decide +kernel
theorem dX1_search_41 : decode cX1_search 41 = .ok (.iconst 2, 1) := by decide +kernel
theorem dX1_search_42 : decode cX1_search 42 = .ok (.putfield 19, 3) := by decide +kernel
theorem dX1_search_45 : decode cX1_search 45 = .ok (.aload_n 0, 1) := by decide +kernel
theorem dX1_search_46 : decode cX1_search 46 = .ok (.getfield 13, 3) := by decide +kernel
theorem dX1_search_49 : decode cX1_search 49 = .ok (.invokestatic 34, 3) := by decide +kernel
theorem dX1_search_52 : decode cX1_search 52 = .ok (.iload_n 3, 1) := by decide +kernel
theorem dX1_search_53 : decode cX1_search 53 = .ok (.if_icmp .eq 21, 3) := by decide +kernel
theorem dX1_search_56 : decode cX1_search 56 = .ok (.aload_n 0, 1) := by decide +kernel
theorem dX1_search_57 : decode cX1_search 57 = .ok (.aload_n 1, 1) := by decide +kernel
theorem dX1_search_58 : decode cX1_search 58 = .ok (.iload_n 2, 1) := by decide +kernel
theorem dX1_search_59 : decode cX1_search 59 = .ok (.aload_n 0, 1) := by decide +kernel
theorem dX1_search_60 : decode cX1_search 60 = .ok (.getfield 13, 3) := by decide +kernel
theorem dX1_search_63 : decode cX1_search 63 = .ok (.invokestatic 34, 3) := by decide +kernel
theorem dX1_search_66 : decode cX1_search 66 = .ok (.invokevirtual 38, 3) := by decide +kernel
theorem dX1_search_69 : decode cX1_search 69 = .ok (.aload_n 0, 1) := by decide +kernel
theorem dX1_search_70 : decode cX1_search 70 = .ok (.iconst 3, 1) := by decide +kernel
theorem dX1_search_71 : decode cX1_search 71 = .ok (.putfield 19, 3) := by decide +kernel
theorem dX1_search_74 : decode cX1_search 74 = .ok (.return_, 1) := by decide +kernel
theorem dX1_searchCorrected_0 : decode cX1_searchCorrected 0 = .ok (.aload_n 1, 1) := by decide +kernel
theorem dX1_searchCorrected_1 : decode cX1_searchCorrected 1 = .ok (.iconst 0, 1) := by decide +kernel
theorem dX1_searchCorrected_2 : decode cX1_searchCorrected 2 = .ok (.aload_n 1, 1) := by decide +kernel
theorem dX1_searchCorrected_3 : decode cX1_searchCorrected 3 = .ok (.iconst 0, 1) := by decide +kernel
theorem dX1_searchCorrected_4 : decode cX1_searchCorrected 4 = .ok (.iload_n 2, 1) := by decide +kernel
theorem dX1_searchCorrected_5 : decode cX1_searchCorrected 5 = .ok (.invokevirtual 22, 3) := by decide +kernel
theorem dX1_searchCorrected_8 : decode cX1_searchCorrected 8 = .ok (.iload_n 3, 1) := by decide +kernel
theorem dX1_searchCorrected_9 : decode cX1_searchCorrected 9 = .ok (.invokevirtual 42, 3) := by decide +kernel
theorem dX1_searchCorrected_12 : decode cX1_searchCorrected 12 = .ok (.istore 4, 2) := by decide +kernel
theorem dX1_searchCorrected_14 : decode cX1_searchCorrected 14 = .ok (.aload_n 1, 1) := by decide +kernel
theorem dX1_searchCorrected_15 : decode cX1_searchCorrected 15 = .ok (.iconst 1, 1) := by decide +kernel
theorem dX1_searchCorrected_16 : decode cX1_searchCorrected 16 = .ok (.aload_n 1, 1) := by decide +kernel
theorem dX1_searchCorrected_17 : decode cX1_searchCorrected 17 = .ok (.iconst 1, 1) := by decide +kernel
theorem dX1_searchCorrected_18 : decode cX1_searchCorrected 18 = .ok (.iload_n 2, 1) := by decide +kernel
theorem dX1_searchCorrected_19 : decode cX1_searchCorrected 19 = .ok (.invokevirtual 22, 3) := by decide +kernel
theorem dX1_searchCorrected_22 : decode cX1_searchCorrected 22 = .ok (.iload_n 3, 1) := by decide +kernel
theorem dX1_searchCorrected_23 : decode cX1_searchCorrected 23 = .ok (.invokevirtual 42, 3) := by decide +kernel
theorem dX1_searchCorrected_26 : decode cX1_searchCorrected 26 = .ok (.istore 5, 2) := by decide +kernel
theorem dX1_searchCorrected_28 : decode cX1_searchCorrected 28 = .ok (.aload_n 1, 1) := by decide +kernel
theorem dX1_searchCorrected_29 : decode cX1_searchCorrected 29 = .ok (.iconst 2, 1) := by decide +kernel
theorem dX1_searchCorrected_30 : decode cX1_searchCorrected 30 = .ok (.aload_n 1, 1) := by decide +kernel
theorem dX1_searchCorrected_31 : decode cX1_searchCorrected 31 = .ok (.iconst 2, 1) := by decide +kernel
theorem dX1_searchCorrected_32 : decode cX1_searchCorrected 32 = .ok (.iload_n 2, 1) := by decide +kernel
theorem dX1_searchCorrected_33 : decode cX1_searchCorrected 33 = .ok (.invokevirtual 22, 3) := by decide +kernel
theorem dX1_searchCorrected_36 : decode cX1_searchCorrected 36 = .ok (.iload_n 3, 1) := by decide +kernel
theorem dX1_searchCorrected_37 : decode cX1_searchCorrected 37 = .ok (.invokevirtual 42, 3) := by decide +kernel
theorem dX1_searchCorrected_40 : decode cX1_searchCorrected 40 = .ok (.istore 6, 2) := by decide +kernel
theorem dX1_searchCorrected_42 : decode cX1_searchCorrected 42 = .ok (.aload_n 0, 1) := by decide +kernel
theorem dX1_searchCorrected_43 : decode cX1_searchCorrected 43 = .ok (.iload 4, 2) := by decide +kernel
theorem dX1_searchCorrected_45 : decode cX1_searchCorrected 45 = .ok (.iload 5, 2) := by decide +kernel
theorem dX1_searchCorrected_47 : decode cX1_searchCorrected 47 = .ok (.iload 6, 2) := by decide +kernel
theorem dX1_searchCorrected_49 : decode cX1_searchCorrected 49 = .ok (.invokestatic 28, 3) := by decide +kernel
theorem dX1_searchCorrected_52 : decode cX1_searchCorrected 52 = .ok (.putfield 13, 3) := by decide +kernel
theorem dX1_searchCorrected_55 : decode cX1_searchCorrected 55 = .ok (.aload_n 0, 1) := by decide +kernel
theorem dX1_searchCorrected_56 : decode cX1_searchCorrected 56 = .ok (.aload_n 0, 1) := by decide +kernel
theorem dX1_searchCorrected_57 : decode cX1_searchCorrected 57 = .ok (.getfield 13, 3) := by decide +kernel
theorem dX1_searchCorrected_60 : decode cX1_searchCorrected 60 = .ok (.iload 4, 2) := by decide +kernel
theorem dX1_searchCorrected_62 : decode cX1_searchCorrected 62 = .ok (.iload 5, 2) := by decide +kernel
theorem dX1_searchCorrected_64 : decode cX1_searchCorrected 64 = .ok (.iload 6, 2) := by decide +kernel
theorem dX1_searchCorrected_66 : decode cX1_searchCorrected 66 = .ok (.invokestatic 45, 3) := by decide +kernel
theorem dX1_searchCorrected_69 : decode cX1_searchCorrected 69 = .ok (.putfield 16, 3) := by decide +kernel
theorem dX1_searchCorrected_72 : decode cX1_searchCorrected 72 = .ok (.return_, 1) := by decide +kernel
theorem dX2_init_0 : decode cX2_init 0 = .ok (.aload_n 0, 1) := by decide +kernel
theorem dX2_init_1 : decode cX2_init 1 = .ok (.invokespecial 3, 3) := by decide +kernel
theorem dX2_init_4 : decode cX2_init 4 = .ok (.aload_n 0, 1) := by decide +kernel
theorem dX2_init_5 : decode cX2_init 5 = .ok (.iconst 4, 1) := by decide +kernel
theorem dX2_init_6 : decode cX2_init 6 = .ok (.anewarray 9, 3) := by decide +kernel
theorem dX2_init_9 : decode cX2_init 9 = .ok (.dup, 1) := by decide +kernel
theorem dX2_init_10 : decode cX2_init 10 = .ok (.iconst 0, 1) := by decide +kernel
theorem dX2_init_11 : decode cX2_init 11 = .ok (.new 9, 3) := by decide +kernel
theorem dX2_init_14 : decode cX2_init 14 = .ok (.dup, 1) := by decide +kernel
theorem dX2_init_15 : decode cX2_init 15 = .ok (.invokespecial 11, 3) := by decide +kernel
theorem dX2_init_18 : decode cX2_init 18 = .ok (.aastore, 1) := by decide +kernel
theorem dX2_init_19 : decode cX2_init 19 = .ok (.dup, 1) := by decide +kernel
theorem dX2_init_20 : decode cX2_init 20 = .ok (.iconst 1, 1) := by decide +kernel
theorem dX2_init_21 : decode cX2_init 21 = .ok (.new 9, 3) := by decide +kernel
theorem dX2_init_24 : decode cX2_init 24 = .ok (.dup, 1) := by decide +kernel
theorem dX2_init_25 : decode cX2_init 25 = .ok (.invokespecial 11, 3) := by decide +kernel
theorem dX2_init_28 : decode cX2_init 28 = .ok (.aastore, 1) := by decide +kernel
theorem dX2_init_29 : decode cX2_init 29 = .ok (.dup, 1) := by decide +kernel
theorem dX2_init_30 : decode cX2_init 30 = .ok (.iconst 2, 1) := by decide +kernel
theorem dX2_init_31 : decode cX2_init 31 = .ok (.new 9, 3) := by decide +kernel
theorem dX2_init_34 : decode cX2_init 34 = .ok (.dup, 1) := by decide +kernel
theorem dX2_init_35 : decode cX2_init 35 = .ok (.invokespecial 11, 3) := by decide +kernel
theorem dX2_init_38 : decode cX2_init 38 = .ok (.aastore, 1) := by decide +kernel
theorem dX2_init_39 : decode cX2_init 39 = .ok (.dup, 1) := by decide +kernel
theorem dX2_init_40 : decode cX2_init 40 = .ok (.iconst 3, 1) := by decide +kernel
theorem dX2_init_41 : decode cX2_init 41 = .ok (.new 9, 3) := by decide +kernel
theorem dX2_init_44 : decode cX2_init 44 = .ok (.dup, 1) := by decide +kernel
theorem dX2_init_45 : decode cX2_init 45 = .ok (.invokespecial 11, 3) := by decide +kernel
theorem dX2_init_48 : decode cX2_init 48 = .ok (.aastore, 1) := by decide +kernel
theorem dX2_init_49 : decode cX2_init 49 = .ok (.putfield 12, 3) := by decide +kernel
theorem dX2_init_52 : decode cX2_init 52 = .ok (.aload_n 0, 1) := by decide +kernel
theorem dX2_init_53 : decode cX2_init 53 = .ok (.iconst 0, 1) := by decide +kernel
theorem dX2_init_54 : decode cX2_init 54 = .ok (.putfield 18, 3) := by decide +kernel
theorem dX2_init_57 : decode cX2_init 57 = .ok (.aload_n 0, 1) := by decide +kernel
theorem dX2_init_58 : decode cX2_init 58 = .ok (.iconst 0, 1) := by decide +kernel
theorem dX2_init_59 : decode cX2_init 59 = .ok (.putfield 22, 3) := by decide +kernel
theorem dX2_init_62 : decode cX2_init 62 = .ok (.return_, 1) := by decide +kernel
theorem dX2_slot_0 : decode cX2_slot 0 = .ok (.aload_n 0, 1) := by decide +kernel
theorem dX2_slot_1 : decode cX2_slot 1 = .ok (.getfield 18, 3) := by decide +kernel
theorem dX2_slot_4 : decode cX2_slot 4 = .ok (.iload_n 1, 1) := by decide +kernel
theorem dX2_slot_5 : decode cX2_slot 5 = .ok (.iadd, 1) := by decide +kernel
theorem dX2_slot_6 : decode cX2_slot 6 = .ok (.iconst 4, 1) := by decide +kernel
theorem dX2_slot_7 : decode cX2_slot 7 = .ok (.invokestatic 25, 3) := by decide +kernel
theorem dX2_slot_10 : decode cX2_slot 10 = .ok (.istore_n 2, 1) := by decide +kernel
theorem dX2_slot_11 : decode cX2_slot 11 = .ok (.iload_n 2, 1) := by decide +kernel
theorem dX2_slot_12 : decode cX2_slot 12 = .ok (.ifCond .lt 21, 3) := by decide +kernel
theorem dX2_slot_15 : decode cX2_slot 15 = .ok (.iload_n 2, 1) := by decide +kernel
theorem dX2_slot_16 : decode cX2_slot 16 = .ok (.aload_n 0, 1) := by decide +kernel
theorem dX2_slot_17 : decode cX2_slot 17 = .ok (.getfield 12, 3) := by decide +kernel
theorem dX2_slot_20 : decode cX2_slot 20 = .ok (.arraylength, 1) := by decide +kernel
theorem dX2_slot_21 : decode cX2_slot 21 = .ok (.if_icmp .ge 12, 3) := by decide +kernel
theorem dX2_slot_24 : decode cX2_slot 24 = .ok (.aload_n 0, 1) := by decide +kernel
theorem dX2_slot_25 : decode cX2_slot 25 = .ok (.getfield 12, 3) := by decide +kernel
theorem dX2_slot_28 : decode cX2_slot 28 = .ok (.iload_n 2, 1) := by decide +kernel
theorem dX2_slot_29 : decode cX2_slot 29 = .ok (.aaload, 1) := by decide +kernel
theorem dX2_slot_30 : decode cX2_slot 30 = .ok (.goto 4, 3) := by decide +kernel
theorem dX2_slot_33 : decode cX2_slot 33 = .ok (.aconst_null, 1) := by decide +kernel
theorem dX2_slot_34 : decode cX2_slot 34 = .ok (.areturn, 1) := by decide +kernel
theorem dX2_keep_0 : decode cX2_keep 0 = .ok (.aload_n 0, 1) := by decide +kernel
theorem dX2_keep_1 : decode cX2_keep 1 = .ok (.getfield 22, 3) := by decide +kernel
theorem dX2_keep_4 : decode cX2_keep 4 = .ok (.iconst 4, 1) := by decide +kernel
theorem dX2_keep_5 : decode cX2_keep 5 = .ok (.if_icmp .ne 27, 3) := by decide +kernel
theorem dX2_keep_8 : decode cX2_keep 8 = .ok (.aload_n 0, 1) := by decide +kernel
theorem dX2_keep_9 : decode cX2_keep 9 = .ok (.aload_n 0, 1) := by decide +kernel
theorem dX2_keep_10 : decode cX2_keep 10 = .ok (.getfield 18, 3) := by decide +kernel
theorem dX2_keep_13 : decode cX2_keep 13 = .ok (.iconst 1, 1) := by decide +kernel
theorem dX2_keep_14 : decode cX2_keep 14 = .ok (.iadd, 1) := by decide +kernel
theorem dX2_keep_15 : decode cX2_keep 15 = .ok (.iconst 4, 1) := by decide +kernel
theorem dX2_keep_16 : decode cX2_keep 16 = .ok (.invokestatic 25, 3) := by decide +kernel
theorem dX2_keep_19 : decode cX2_keep 19 = .ok (.putfield 18, 3) := by decide +kernel
theorem dX2_keep_22 : decode cX2_keep 22 = .ok (.aload_n 0, 1) := by decide +kernel
theorem dX2_keep_23 : decode cX2_keep 23 = .ok (.dup, 1) := by decide +kernel
theorem dX2_keep_24 : decode cX2_keep 24 = .ok (.getfield 22, 3) := by decide +kernel
theorem dX2_keep_27 : decode cX2_keep 27 = .ok (.iconst 1, 1) := by decide +kernel
theorem dX2_keep_28 : decode cX2_keep 28 = .ok (.isub, 1) := by decide +kernel
theorem dX2_keep_29 : decode cX2_keep 29 = .ok (.putfield 22, 3) := by decide +kernel
theorem dX2_keep_32 : decode cX2_keep 32 = .ok (.aload_n 0, 1) := by decide +kernel
theorem dX2_keep_33 : decode cX2_keep 33 = .ok (.aload_n 0, 1) := by decide +kernel
theorem dX2_keep_34 : decode cX2_keep 34 = .ok (.getfield 22, 3) := by decide +kernel
theorem dX2_keep_37 : decode cX2_keep 37 = .ok (.invokevirtual 29, 3) := by decide +kernel
theorem dX2_keep_40 : decode cX2_keep 40 = .ok (.astore_n 2, 1) := by decide +kernel
theorem dX2_keep_41 : decode cX2_keep 41 = .ok (.aload_n 2, 1) := by decide +kernel
theorem dX2_keep_42 : decode cX2_keep 42 = .ok (.ifnull 18, 3) := by decide +kernel
theorem dX2_keep_45 : decode cX2_keep 45 = .ok (.aload_n 2, 1) := by decide +kernel
theorem dX2_keep_46 : decode cX2_keep 46 = .ok (.aload_n 1, 1) := by decide +kernel
theorem dX2_keep_47 : decode cX2_keep 47 = .ok (.invokevirtual 33, 3) := by decide +kernel
theorem dX2_keep_50 : decode cX2_keep 50 = .ok (.aload_n 0, 1) := by decide +kernel
theorem dX2_keep_51 : decode cX2_keep 51 = .ok (.dup, 1) := by decide +kernel
theorem dX2_keep_52 : decode cX2_keep 52 = .ok (.getfield 22, 3) := by decide +kernel
theorem dX2_keep_55 : decode cX2_keep 55 = .ok (.iconst 1, 1) := by decide +kernel
theorem dX2_keep_56 : decode cX2_keep 56 = .ok (.iadd, 1) := by decide +kernel
theorem dX2_keep_57 : decode cX2_keep 57 = .ok (.putfield 22, 3) := by decide +kernel
theorem dX2_keep_60 : decode cX2_keep 60 = .ok (.return_, 1) := by decide +kernel
theorem dX2_restoreLatest_0 : decode cX2_restoreLatest 0 = .ok (.aload_n 0, 1) := by decide +kernel
theorem dX2_restoreLatest_1 : decode cX2_restoreLatest 1 = .ok (.aload_n 0, 1) := by decide +kernel
theorem dX2_restoreLatest_2 : decode cX2_restoreLatest 2 = .ok (.getfield 22, 3) := by decide +kernel
theorem dX2_restoreLatest_5 : decode cX2_restoreLatest 5 = .ok (.iconst 1, 1) := by decide +kernel
theorem dX2_restoreLatest_6 : decode cX2_restoreLatest 6 = .ok (.isub, 1) := by decide +kernel
theorem dX2_restoreLatest_7 : decode cX2_restoreLatest 7 = .ok (.invokevirtual 29, 3) := by decide +kernel
theorem dX2_restoreLatest_10 : decode cX2_restoreLatest 10 = .ok (.astore_n 2, 1) := by decide +kernel
theorem dX2_restoreLatest_11 : decode cX2_restoreLatest 11 = .ok (.aload_n 2, 1) := by decide +kernel
theorem dX2_restoreLatest_12 : decode cX2_restoreLatest 12 = .ok (.ifnull 18, 3) := by decide +kernel
theorem dX2_restoreLatest_15 : decode cX2_restoreLatest 15 = .ok (.aload_n 1, 1) := by decide +kernel
theorem dX2_restoreLatest_16 : decode cX2_restoreLatest 16 = .ok (.aload_n 2, 1) := by decide +kernel
theorem dX2_restoreLatest_17 : decode cX2_restoreLatest 17 = .ok (.invokevirtual 33, 3) := by decide +kernel
theorem dX2_restoreLatest_20 : decode cX2_restoreLatest 20 = .ok (.aload_n 0, 1) := by decide +kernel
theorem dX2_restoreLatest_21 : decode cX2_restoreLatest 21 = .ok (.dup, 1) := by decide +kernel
theorem dX2_restoreLatest_22 : decode cX2_restoreLatest 22 = .ok (.getfield 22, 3) := by decide +kernel
theorem dX2_restoreLatest_25 : decode cX2_restoreLatest 25 = .ok (.iconst 1, 1) := by decide +kernel
theorem dX2_restoreLatest_26 : decode cX2_restoreLatest 26 = .ok (.isub, 1) := by decide +kernel
theorem dX2_restoreLatest_27 : decode cX2_restoreLatest 27 = .ok (.putfield 22, 3) := by decide +kernel
theorem dX2_restoreLatest_30 : decode cX2_restoreLatest 30 = .ok (.return_, 1) := by decide +kernel
theorem dX3_init_0 : decode cX3_init 0 = .ok (.aload_n 0, 1) := by decide +kernel
theorem dX3_init_1 : decode cX3_init 1 = .ok (.invokespecial 3, 3) := by decide +kernel
theorem dX3_init_4 : decode cX3_init 4 = .ok (.aload_n 0, 1) := by decide +kernel
theorem dX3_init_5 : decode cX3_init 5 = .ok (.iconst 0, 1) := by decide +kernel
theorem dX3_init_6 : decode cX3_init 6 = .ok (.putfield 9, 3) := by decide +kernel
theorem dX3_init_9 : decode cX3_init 9 = .ok (.aload_n 0, 1) := by decide +kernel
theorem dX3_init_10 : decode cX3_init 10 = .ok (.iconst 0, 1) := by decide +kernel
theorem dX3_init_11 : decode cX3_init 11 = .ok (.putfield 15, 3) := by decide +kernel
theorem dX3_init_14 : decode cX3_init 14 = .ok (.aload_n 0, 1) := by decide +kernel
theorem dX3_init_15 : decode cX3_init 15 = .ok (.iconst 1, 1) := by decide +kernel
theorem dX3_init_16 : decode cX3_init 16 = .ok (.putfield 18, 3) := by decide +kernel
theorem dX3_init_19 : decode cX3_init 19 = .ok (.aload_n 0, 1) := by decide +kernel
theorem dX3_init_20 : decode cX3_init 20 = .ok (.sipush 200, 3) := by decide +kernel
theorem dX3_init_23 : decode cX3_init 23 = .ok (.putfield 22, 3) := by decide +kernel
theorem dX3_init_26 : decode cX3_init 26 = .ok (.aload_n 0, 1) := by decide +kernel
theorem dX3_init_27 : decode cX3_init 27 = .ok (.iconst 0, 1) := by decide +kernel
theorem dX3_init_28 : decode cX3_init 28 = .ok (.putfield 25, 3) := by decide +kernel
theorem dX3_init_31 : decode cX3_init 31 = .ok (.aload_n 0, 1) := by decide +kernel
theorem dX3_init_32 : decode cX3_init 32 = .ok (.iconst (-1), 1) := by decide +kernel
theorem dX3_init_33 : decode cX3_init 33 = .ok (.putfield 28, 3) := by decide +kernel
theorem dX3_init_36 : decode cX3_init 36 = .ok (.aload_n 0, 1) := by decide +kernel
theorem dX3_init_37 : decode cX3_init 37 = .ok (.iconst 0, 1) := by decide +kernel
theorem dX3_init_38 : decode cX3_init 38 = .ok (.putfield 31, 3) := by decide +kernel
theorem dX3_init_41 : decode cX3_init 41 = .ok (.aload_n 0, 1) := by decide +kernel
theorem dX3_init_42 : decode cX3_init 42 = .ok (.iconst 4, 1) := by decide +kernel
theorem dX3_init_43 : decode cX3_init 43 = .ok (.newarray .int, 2) := by decide +kernel
theorem dX3_init_45 : decode cX3_init 45 = .ok (.dup, 1) := by decide +kernel
theorem dX3_init_46 : decode cX3_init 46 = .ok (.iconst 0, 1) := by decide +kernel
theorem dX3_init_47 : decode cX3_init 47 = .ok (.iconst 5, 1) := by decide +kernel
theorem dX3_init_48 : decode cX3_init 48 = .ok (.iastore, 1) := by decide +kernel
theorem dX3_init_49 : decode cX3_init 49 = .ok (.dup, 1) := by decide +kernel
theorem dX3_init_50 : decode cX3_init 50 = .ok (.iconst 1, 1) := by decide +kernel
theorem dX3_init_51 : decode cX3_init 51 = .ok (.iconst 2, 1) := by decide +kernel
theorem dX3_init_52 : decode cX3_init 52 = .ok (.iastore, 1) := by decide +kernel
theorem dX3_init_53 : decode cX3_init 53 = .ok (.dup, 1) := by decide +kernel
theorem dX3_init_54 : decode cX3_init 54 = .ok (.iconst 2, 1) := by decide +kernel
theorem dX3_init_55 : decode cX3_init 55 = .ok (.sipush 500, 3) := by decide +kernel
theorem dX3_init_58 : decode cX3_init 58 = .ok (.iastore, 1) := by decide +kernel
theorem dX3_init_59 : decode cX3_init 59 = .ok (.dup, 1) := by decide +kernel
theorem dX3_init_60 : decode cX3_init 60 = .ok (.iconst 3, 1) := by decide +kernel
theorem dX3_init_61 : decode cX3_init 61 = .ok (.iconst 0, 1) := by decide +kernel
theorem dX3_init_62 : decode cX3_init 62 = .ok (.iastore, 1) := by decide +kernel
theorem dX3_init_63 : decode cX3_init 63 = .ok (.putfield 34, 3) := by decide +kernel
theorem dX3_init_66 : decode cX3_init 66 = .ok (.aload_n 0, 1) := by decide +kernel
theorem dX3_init_67 : decode cX3_init 67 = .ok (.bipush 24, 2) := by decide +kernel
theorem dX3_init_69 : decode cX3_init 69 = .ok (.newarray .int, 2) := by decide +kernel
theorem dX3_init_71 : decode cX3_init 71 = .ok (.putfield 38, 3) := by decide +kernel
theorem dX3_init_74 : decode cX3_init 74 = .ok (.aload_n 0, 1) := by decide +kernel
theorem dX3_init_75 : decode cX3_init 75 = .ok (.iconst 3, 1) := by decide +kernel
theorem dX3_init_76 : decode cX3_init 76 = .ok (.newarray .int, 2) := by decide +kernel
theorem dX3_init_78 : decode cX3_init 78 = .ok (.putfield 41, 3) := by decide +kernel
theorem dX3_init_81 : decode cX3_init 81 = .ok (.aload_n 0, 1) := by decide +kernel
theorem dX3_init_82 : decode cX3_init 82 = .ok (.bipush 24, 2) := by decide +kernel
theorem dX3_init_84 : decode cX3_init 84 = .ok (.newarray .int, 2) := by decide +kernel
theorem dX3_init_86 : decode cX3_init 86 = .ok (.putfield 44, 3) := by decide +kernel
theorem dX3_init_89 : decode cX3_init 89 = .ok (.return_, 1) := by decide +kernel
theorem dX3_copyFrom_0 : decode cX3_copyFrom 0 = .ok (.aload_n 0, 1) := by decide +kernel
theorem dX3_copyFrom_1 : decode cX3_copyFrom 1 = .ok (.aload_n 1, 1) := by decide +kernel
theorem dX3_copyFrom_2 : decode cX3_copyFrom 2 = .ok (.getfield 9, 3) := by decide +kernel
theorem dX3_copyFrom_5 : decode cX3_copyFrom 5 = .ok (.putfield 9, 3) := by decide +kernel
theorem dX3_copyFrom_8 : decode cX3_copyFrom 8 = .ok (.aload_n 0, 1) := by decide +kernel
theorem dX3_copyFrom_9 : decode cX3_copyFrom 9 = .ok (.aload_n 1, 1) := by decide +kernel
theorem dX3_copyFrom_10 : decode cX3_copyFrom 10 = .ok (.getfield 15, 3) := by decide +kernel
theorem dX3_copyFrom_13 : decode cX3_copyFrom 13 = .ok (.putfield 15, 3) := by decide +kernel
theorem dX3_copyFrom_16 : decode cX3_copyFrom 16 = .ok (.aload_n 0, 1) := by decide +kernel
theorem dX3_copyFrom_17 : decode cX3_copyFrom 17 = .ok (.aload_n 1, 1) := by decide +kernel
theorem dX3_copyFrom_18 : decode cX3_copyFrom 18 = .ok (.getfield 18, 3) := by decide +kernel
theorem dX3_copyFrom_21 : decode cX3_copyFrom 21 = .ok (.putfield 18, 3) := by decide +kernel
theorem dX3_copyFrom_24 : decode cX3_copyFrom 24 = .ok (.aload_n 0, 1) := by decide +kernel
theorem dX3_copyFrom_25 : decode cX3_copyFrom 25 = .ok (.aload_n 1, 1) := by decide +kernel
theorem dX3_copyFrom_26 : decode cX3_copyFrom 26 = .ok (.getfield 22, 3) := by decide +kernel
theorem dX3_copyFrom_29 : decode cX3_copyFrom 29 = .ok (.putfield 22, 3) := by decide +kernel
theorem dX3_copyFrom_32 : decode cX3_copyFrom 32 = .ok (.aload_n 0, 1) := by decide +kernel
theorem dX3_copyFrom_33 : decode cX3_copyFrom 33 = .ok (.aload_n 1, 1) := by decide +kernel
theorem dX3_copyFrom_34 : decode cX3_copyFrom 34 = .ok (.getfield 25, 3) := by decide +kernel
theorem dX3_copyFrom_37 : decode cX3_copyFrom 37 = .ok (.putfield 25, 3) := by decide +kernel
theorem dX3_copyFrom_40 : decode cX3_copyFrom 40 = .ok (.aload_n 0, 1) := by decide +kernel
theorem dX3_copyFrom_41 : decode cX3_copyFrom 41 = .ok (.aload_n 1, 1) := by decide +kernel
theorem dX3_copyFrom_42 : decode cX3_copyFrom 42 = .ok (.getfield 28, 3) := by decide +kernel
theorem dX3_copyFrom_45 : decode cX3_copyFrom 45 = .ok (.putfield 28, 3) := by decide +kernel
theorem dX3_copyFrom_48 : decode cX3_copyFrom 48 = .ok (.aload_n 0, 1) := by decide +kernel
theorem dX3_copyFrom_49 : decode cX3_copyFrom 49 = .ok (.aload_n 1, 1) := by decide +kernel
theorem dX3_copyFrom_50 : decode cX3_copyFrom 50 = .ok (.getfield 31, 3) := by decide +kernel
theorem dX3_copyFrom_53 : decode cX3_copyFrom 53 = .ok (.putfield 31, 3) := by decide +kernel
theorem dX3_copyFrom_56 : decode cX3_copyFrom 56 = .ok (.aload_n 1, 1) := by decide +kernel
theorem dX3_copyFrom_57 : decode cX3_copyFrom 57 = .ok (.getfield 34, 3) := by decide +kernel
theorem dX3_copyFrom_60 : decode cX3_copyFrom 60 = .ok (.aload_n 0, 1) := by decide +kernel
theorem dX3_copyFrom_61 : decode cX3_copyFrom 61 = .ok (.getfield 34, 3) := by decide +kernel
theorem dX3_copyFrom_64 : decode cX3_copyFrom 64 = .ok (.invokestatic 47, 3) := by decide +kernel
theorem dX3_copyFrom_67 : decode cX3_copyFrom 67 = .ok (.aload_n 1, 1) := by decide +kernel
theorem dX3_copyFrom_68 : decode cX3_copyFrom 68 = .ok (.getfield 38, 3) := by decide +kernel
theorem dX3_copyFrom_71 : decode cX3_copyFrom 71 = .ok (.aload_n 0, 1) := by decide +kernel
theorem dX3_copyFrom_72 : decode cX3_copyFrom 72 = .ok (.getfield 38, 3) := by decide +kernel
theorem dX3_copyFrom_75 : decode cX3_copyFrom 75 = .ok (.invokestatic 47, 3) := by decide +kernel
theorem dX3_copyFrom_78 : decode cX3_copyFrom 78 = .ok (.aload_n 1, 1) := by decide +kernel
theorem dX3_copyFrom_79 : decode cX3_copyFrom 79 = .ok (.getfield 41, 3) := by decide +kernel
theorem dX3_copyFrom_82 : decode cX3_copyFrom 82 = .ok (.aload_n 0, 1) := by decide +kernel
theorem dX3_copyFrom_83 : decode cX3_copyFrom 83 = .ok (.getfield 41, 3) := by decide +kernel
theorem dX3_copyFrom_86 : decode cX3_copyFrom 86 = .ok (.invokestatic 47, 3) := by decide +kernel
theorem dX3_copyFrom_89 : decode cX3_copyFrom 89 = .ok (.aload_n 1, 1) := by decide +kernel
theorem dX3_copyFrom_90 : decode cX3_copyFrom 90 = .ok (.getfield 44, 3) := by decide +kernel
theorem dX3_copyFrom_93 : decode cX3_copyFrom 93 = .ok (.aload_n 0, 1) := by decide +kernel
theorem dX3_copyFrom_94 : decode cX3_copyFrom 94 = .ok (.getfield 44, 3) := by decide +kernel
theorem dX3_copyFrom_97 : decode cX3_copyFrom 97 = .ok (.invokestatic 47, 3) := by decide +kernel
theorem dX3_copyFrom_100 : decode cX3_copyFrom 100 = .ok (.return_, 1) := by decide +kernel
theorem dX3_angle_0 : decode cX3_angle 0 = .ok (.aload_n 0, 1) := by decide +kernel
theorem dX3_angle_1 : decode cX3_angle 1 = .ok (.getfield 9, 3) := by decide +kernel
theorem dX3_angle_4 : decode cX3_angle 4 = .ok (.sipush 4080, 3) := by decide +kernel
theorem dX3_angle_7 : decode cX3_angle 7 = .ok (.invokestatic 51, 3) := by decide +kernel
theorem dX3_angle_10 : decode cX3_angle 10 = .ok (.ireturn, 1) := by decide +kernel
theorem dX3_coarse_0 : decode cX3_coarse 0 = .ok (.aload_n 0, 1) := by decide +kernel
theorem dX3_coarse_1 : decode cX3_coarse 1 = .ok (.invokevirtual 55, 3) := by decide +kernel
theorem dX3_coarse_4 : decode cX3_coarse 4 = .ok (.bipush 64, 2) := by decide +kernel
theorem dX3_coarse_6 : decode cX3_coarse 6 = .ok (.imul, 1) := by decide +kernel
theorem dX3_coarse_7 : decode cX3_coarse 7 = .ok (.sipush 4080, 3) := by decide +kernel
theorem dX3_coarse_10 : decode cX3_coarse 10 = .ok (.idiv, 1) := by decide +kernel
theorem dX3_coarse_11 : decode cX3_coarse 11 = .ok (.istore_n 1, 1) := by decide +kernel
theorem dX3_coarse_12 : decode cX3_coarse 12 = .ok (.iload_n 1, 1) := by decide +kernel
theorem dX3_coarse_13 : decode cX3_coarse 13 = .ok (.aload_n 0, 1) := by decide +kernel
theorem dX3_coarse_14 : decode cX3_coarse 14 = .ok (.getfield 34, 3) := by decide +kernel
theorem dX3_coarse_17 : decode cX3_coarse 17 = .ok (.iconst 3, 1) := by decide +kernel
theorem dX3_coarse_18 : decode cX3_coarse 18 = .ok (.invokestatic 59, 3) := by decide +kernel
theorem dX3_coarse_21 : decode cX3_coarse 21 = .ok (.iadd, 1) := by decide +kernel
theorem dX3_coarse_22 : decode cX3_coarse 22 = .ok (.bipush 64, 2) := by decide +kernel
theorem dX3_coarse_24 : decode cX3_coarse 24 = .ok (.invokestatic 51, 3) := by decide +kernel
theorem dX3_coarse_27 : decode cX3_coarse 27 = .ok (.ireturn, 1) := by decide +kernel
theorem dX3_readingAt_0 : decode cX3_readingAt 0 = .ok (.aload_n 0, 1) := by decide +kernel
theorem dX3_readingAt_1 : decode cX3_readingAt 1 = .ok (.getfield 38, 3) := by decide +kernel
theorem dX3_readingAt_4 : decode cX3_readingAt 4 = .ok (.iload_n 1, 1) := by decide +kernel
theorem dX3_readingAt_5 : decode cX3_readingAt 5 = .ok (.iload_n 2, 1) := by decide +kernel
theorem dX3_readingAt_6 : decode cX3_readingAt 6 = .ok (.invokestatic 63, 3) := by decide +kernel
theorem dX3_readingAt_9 : decode cX3_readingAt 9 = .ok (.invokestatic 67, 3) := by decide +kernel
theorem dX3_readingAt_12 : decode cX3_readingAt 12 = .ok (.invokestatic 59, 3) := by decide +kernel
theorem dX3_readingAt_15 : decode cX3_readingAt 15 = .ok (.istore_n 3, 1) := by decide +kernel
theorem dX3_readingAt_16 : decode cX3_readingAt 16 = .ok (.iload_n 2, 1) := by decide +kernel
theorem dX3_readingAt_17 : decode cX3_readingAt 17 = .ok (.iload_n 3, 1) := by decide +kernel
theorem dX3_readingAt_18 : decode cX3_readingAt 18 = .ok (.iadd, 1) := by decide +kernel
theorem dX3_readingAt_19 : decode cX3_readingAt 19 = .ok (.aload_n 0, 1) := by decide +kernel
theorem dX3_readingAt_20 : decode cX3_readingAt 20 = .ok (.getfield 41, 3) := by decide +kernel
theorem dX3_readingAt_23 : decode cX3_readingAt 23 = .ok (.iload_n 1, 1) := by decide +kernel
theorem dX3_readingAt_24 : decode cX3_readingAt 24 = .ok (.invokestatic 59, 3) := by decide +kernel
theorem dX3_readingAt_27 : decode cX3_readingAt 27 = .ok (.iadd, 1) := by decide +kernel
theorem dX3_readingAt_28 : decode cX3_readingAt 28 = .ok (.getstatic 70, 3) := by decide +kernel
theorem dX3_readingAt_31 : decode cX3_readingAt 31 = .ok (.iload_n 1, 1) := by decide +kernel
theorem dX3_readingAt_32 : decode cX3_readingAt 32 = .ok (.invokestatic 59, 3) := by decide +kernel
theorem dX3_readingAt_35 : decode cX3_readingAt 35 = .ok (.invokestatic 51, 3) := by decide +kernel
theorem dX3_readingAt_38 : decode cX3_readingAt 38 = .ok (.ireturn, 1) := by decide +kernel
theorem dX3_excess_0 : decode cX3_excess 0 = .ok (.getstatic 70, 3) := by decide +kernel
theorem dX3_excess_3 : decode cX3_excess 3 = .ok (.iload_n 1, 1) := by decide +kernel
theorem dX3_excess_4 : decode cX3_excess 4 = .ok (.invokestatic 59, 3) := by decide +kernel
theorem dX3_excess_7 : decode cX3_excess 7 = .ok (.istore_n 2, 1) := by decide +kernel
theorem dX3_excess_8 : decode cX3_excess 8 = .ok (.aload_n 0, 1) := by decide +kernel
theorem dX3_excess_9 : decode cX3_excess 9 = .ok (.iload_n 1, 1) := by decide +kernel
theorem dX3_excess_10 : decode cX3_excess 10 = .ok (.aload_n 0, 1) := by decide +kernel
theorem dX3_excess_11 : decode cX3_excess 11 = .ok (.invokevirtual 55, 3) := by decide +kernel
theorem dX3_excess_14 : decode cX3_excess 14 = .ok (.invokevirtual 73, 3) := by decide +kernel
theorem dX3_excess_17 : decode cX3_excess 17 = .ok (.aload_n 0, 1) := by decide +kernel
theorem dX3_excess_18 : decode cX3_excess 18 = .ok (.invokevirtual 55, 3) := by decide +kernel
theorem dX3_excess_21 : decode cX3_excess 21 = .ok (.isub, 1) := by decide +kernel
theorem dX3_excess_22 : decode cX3_excess 22 = .ok (.iload_n 2, 1) := by decide +kernel
theorem dX3_excess_23 : decode cX3_excess 23 = .ok (.invokestatic 51, 3) := by decide +kernel
theorem dX3_excess_26 : decode cX3_excess 26 = .ok (.istore_n 3, 1) := by decide +kernel
theorem dX3_excess_27 : decode cX3_excess 27 = .ok (.iload_n 3, 1) := by decide +kernel
theorem dX3_excess_28 : decode cX3_excess 28 = .ok (.iload_n 2, 1) := by decide +kernel
theorem dX3_excess_29 : decode cX3_excess 29 = .ok (.iconst 2, 1) := by decide +kernel
theorem dX3_excess_30 : decode cX3_excess 30 = .ok (.idiv, 1) := by decide +kernel
theorem dX3_excess_31 : decode cX3_excess 31 = .ok (.if_icmp .le 9, 3) := by decide +kernel
theorem dX3_excess_34 : decode cX3_excess 34 = .ok (.iload_n 3, 1) := by decide +kernel
theorem dX3_excess_35 : decode cX3_excess 35 = .ok (.iload_n 2, 1) := by decide +kernel
theorem dX3_excess_36 : decode cX3_excess 36 = .ok (.isub, 1) := by decide +kernel
theorem dX3_excess_37 : decode cX3_excess 37 = .ok (.goto 4, 3) := by decide +kernel
theorem dX3_excess_40 : decode cX3_excess 40 = .ok (.iload_n 3, 1) := by decide +kernel
theorem dX3_excess_41 : decode cX3_excess 41 = .ok (.ireturn, 1) := by decide +kernel
theorem dX3_corrected_0 : decode cX3_corrected 0 = .ok (.iload_n 2, 1) := by decide +kernel
theorem dX3_corrected_1 : decode cX3_corrected 1 = .ok (.aload_n 0, 1) := by decide +kernel
theorem dX3_corrected_2 : decode cX3_corrected 2 = .ok (.getfield 44, 3) := by decide +kernel
theorem dX3_corrected_5 : decode cX3_corrected 5 = .ok (.iload_n 1, 1) := by decide +kernel
theorem dX3_corrected_6 : decode cX3_corrected 6 = .ok (.iload_n 3, 1) := by decide +kernel
theorem dX3_corrected_7 : decode cX3_corrected 7 = .ok (.invokestatic 67, 3) := by decide +kernel
theorem dX3_corrected_10 : decode cX3_corrected 10 = .ok (.invokestatic 59, 3) := by decide +kernel
theorem dX3_corrected_13 : decode cX3_corrected 13 = .ok (.isub, 1) := by decide +kernel
theorem dX3_corrected_14 : decode cX3_corrected 14 = .ok (.getstatic 70, 3) := by decide +kernel
theorem dX3_corrected_17 : decode cX3_corrected 17 = .ok (.iload_n 1, 1) := by decide +kernel
theorem dX3_corrected_18 : decode cX3_corrected 18 = .ok (.invokestatic 59, 3) := by decide +kernel
theorem dX3_corrected_21 : decode cX3_corrected 21 = .ok (.invokestatic 51, 3) := by decide +kernel
theorem dX3_corrected_24 : decode cX3_corrected 24 = .ok (.ireturn, 1) := by decide +kernel
theorem dX3_correctionsInUse_0 : decode cX3_correctionsInUse 0 = .ok (.iconst 0, 1) := by decide +kernel
theorem dX3_correctionsInUse_1 : decode cX3_correctionsInUse 1 = .ok (.istore_n 1, 1) := by decide +kernel
theorem dX3_correctionsInUse_2 : decode cX3_correctionsInUse 2 = .ok (.iconst 0, 1) := by decide +kernel
theorem dX3_correctionsInUse_3 : decode cX3_correctionsInUse 3 = .ok (.istore_n 2, 1) := by decide +kernel
theorem dX3_correctionsInUse_4 : decode cX3_correctionsInUse 4 = .ok (.iload_n 2, 1) := by decide +kernel
theorem dX3_correctionsInUse_5 : decode cX3_correctionsInUse 5 = .ok (.bipush 24, 2) := by decide +kernel
theorem dX3_correctionsInUse_7 : decode cX3_correctionsInUse 7 = .ok (.if_icmp .ge 23, 3) := by decide +kernel
theorem dX3_correctionsInUse_10 : decode cX3_correctionsInUse 10 = .ok (.aload_n 0, 1) := by decide +kernel
theorem dX3_correctionsInUse_11 : decode cX3_correctionsInUse 11 = .ok (.getfield 44, 3) := by decide +kernel
theorem dX3_correctionsInUse_14 : decode cX3_correctionsInUse 14 = .ok (.iload_n 2, 1) := by decide +kernel
theorem dX3_correctionsInUse_15 : decode cX3_correctionsInUse 15 = .ok (.invokestatic 59, 3) := by decide +kernel
theorem dX3_correctionsInUse_18 : decode cX3_correctionsInUse 18 = .ok (.ifCond .eq 6, 3) := by decide +kernel
theorem dX3_correctionsInUse_21 : decode cX3_correctionsInUse 21 = .ok (.iinc 1 1, 3) := by decide +kernel
theorem dX3_correctionsInUse_24 : decode cX3_correctionsInUse 24 = .ok (.iinc 2 1, 3) := by decide +kernel
theorem dX3_correctionsInUse_27 : decode cX3_correctionsInUse 27 = .ok (.goto (-23), 3) := by decide +kernel
theorem dX3_correctionsInUse_30 : decode cX3_correctionsInUse 30 = .ok (.iload_n 1, 1) := by decide +kernel
theorem dX3_correctionsInUse_31 : decode cX3_correctionsInUse 31 = .ok (.ireturn, 1) := by decide +kernel
theorem dX3_isPoor_0 : decode cX3_isPoor 0 = .ok (.iconst 0, 1) := by decide +kernel
theorem dX3_isPoor_1 : decode cX3_isPoor 1 = .ok (.istore_n 2, 1) := by decide +kernel
theorem dX3_isPoor_2 : decode cX3_isPoor 2 = .ok (.iload_n 2, 1) := by decide +kernel
theorem dX3_isPoor_3 : decode cX3_isPoor 3 = .ok (.iconst 3, 1) := by decide +kernel
theorem dX3_isPoor_4 : decode cX3_isPoor 4 = .ok (.if_icmp .ge 61, 3) := by decide +kernel
theorem dX3_isPoor_7 : decode cX3_isPoor 7 = .ok (.iload_n 2, 1) := by decide +kernel
theorem dX3_isPoor_8 : decode cX3_isPoor 8 = .ok (.iload_n 1, 1) := by decide +kernel
theorem dX3_isPoor_9 : decode cX3_isPoor 9 = .ok (.invokestatic 67, 3) := by decide +kernel
theorem dX3_isPoor_12 : decode cX3_isPoor 12 = .ok (.istore_n 3, 1) := by decide +kernel
theorem dX3_isPoor_13 : decode cX3_isPoor 13 = .ok (.aload_n 0, 1) := by decide +kernel
theorem dX3_isPoor_14 : decode cX3_isPoor 14 = .ok (.getfield 38, 3) := by decide +kernel
theorem dX3_isPoor_17 : decode cX3_isPoor 17 = .ok (.iload_n 3, 1) := by decide +kernel
theorem dX3_isPoor_18 : decode cX3_isPoor 18 = .ok (.invokestatic 59, 3) := by decide +kernel
theorem dX3_isPoor_21 : decode cX3_isPoor 21 = .ok (.aload_n 0, 1) := by decide +kernel
theorem dX3_isPoor_22 : decode cX3_isPoor 22 = .ok (.getfield 41, 3) := by decide +kernel
theorem dX3_isPoor_25 : decode cX3_isPoor 25 = .ok (.iload_n 2, 1) := by decide +kernel
theorem dX3_isPoor_26 : decode cX3_isPoor 26 = .ok (.invokestatic 59, 3) := by decide +kernel
theorem dX3_isPoor_29 : decode cX3_isPoor 29 = .ok (.iadd, 1) := by decide +kernel
theorem dX3_isPoor_30 : decode cX3_isPoor 30 = .ok (.aload_n 0, 1) := by decide +kernel
theorem dX3_isPoor_31 : decode cX3_isPoor 31 = .ok (.getfield 44, 3) := by decide +kernel
theorem dX3_isPoor_34 : decode cX3_isPoor 34 = .ok (.iload_n 3, 1) := by decide +kernel
theorem dX3_isPoor_35 : decode cX3_isPoor 35 = .ok (.invokestatic 59, 3) := by decide +kernel
theorem dX3_isPoor_38 : decode cX3_isPoor 38 = .ok (.isub, 1) := by decide +kernel
theorem dX3_isPoor_39 : decode cX3_isPoor 39 = .ok (.istore 4, 2) := by decide +kernel
theorem dX3_isPoor_41 : decode cX3_isPoor 41 = .ok (.iload 4, 2) := by decide +kernel
theorem dX3_isPoor_43 : decode cX3_isPoor 43 = .ok (.invokestatic 76, 3) := by decide +kernel
theorem dX3_isPoor_46 : decode cX3_isPoor 46 = .ok (.aload_n 0, 1) := by decide +kernel
theorem dX3_isPoor_47 : decode cX3_isPoor 47 = .ok (.getfield 34, 3) := by decide +kernel
theorem dX3_isPoor_50 : decode cX3_isPoor 50 = .ok (.iconst 0, 1) := by decide +kernel
theorem dX3_isPoor_51 : decode cX3_isPoor 51 = .ok (.invokestatic 59, 3) := by decide +kernel
theorem dX3_isPoor_54 : decode cX3_isPoor 54 = .ok (.if_icmp .le 5, 3) := by decide +kernel
theorem dX3_isPoor_57 : decode cX3_isPoor 57 = .ok (.iconst 1, 1) := by decide +kernel
theorem dX3_isPoor_58 : decode cX3_isPoor 58 = .ok (.ireturn, 1) := by decide +kernel
theorem dX3_isPoor_59 : decode cX3_isPoor 59 = .ok (.iinc 2 1, 3) := by decide +kernel
theorem dX3_isPoor_62 : decode cX3_isPoor 62 = .ok (.goto (-60), 3) := by decide +kernel
theorem dX3_isPoor_65 : decode cX3_isPoor 65 = .ok (.iconst 0, 1) := by decide +kernel
theorem dX3_isPoor_66 : decode cX3_isPoor 66 = .ok (.ireturn, 1) := by decide +kernel
theorem dX3_crossBound_0 : decode cX3_crossBound 0 = .ok (.aload_n 0, 1) := by decide +kernel
theorem dX3_crossBound_1 : decode cX3_crossBound 1 = .ok (.getfield 18, 3) := by decide +kernel
theorem dX3_crossBound_4 : decode cX3_crossBound 4 = .ok (.ifCond .ne 39, 3) := by decide +kernel
theorem dX3_crossBound_7 : decode cX3_crossBound 7 = .ok (.aload_n 0, 1) := by decide +kernel
theorem dX3_crossBound_8 : decode cX3_crossBound 8 = .ok (.getfield 22, 3) := by decide +kernel
theorem dX3_crossBound_11 : decode cX3_crossBound 11 = .ok (.ifCond .ne 4, 3) := by decide +kernel
theorem dX3_crossBound_14 : decode cX3_crossBound 14 = .ok (.return_, 1) := by decide +kernel
theorem dX3_crossBound_15 : decode cX3_crossBound 15 = .ok (.aload_n 0, 1) := by decide +kernel
theorem dX3_crossBound_16 : decode cX3_crossBound 16 = .ok (.dup, 1) := by decide +kernel
theorem dX3_crossBound_17 : decode cX3_crossBound 17 = .ok (.getfield 22, 3) := by decide +kernel
theorem dX3_crossBound_20 : decode cX3_crossBound 20 = .ok (.iconst 1, 1) := by decide +kernel
theorem dX3_crossBound_21 : decode cX3_crossBound 21 = .ok (.isub, 1) := by decide +kernel
theorem dX3_crossBound_22 : decode cX3_crossBound 22 = .ok (.putfield 22, 3) := by decide +kernel
theorem dX3_crossBound_25 : decode cX3_crossBound 25 = .ok (.aload_n 0, 1) := by decide +kernel
theorem dX3_crossBound_26 : decode cX3_crossBound 26 = .ok (.getfield 25, 3) := by decide +kernel
theorem dX3_crossBound_29 : decode cX3_crossBound 29 = .ok (.ifCond .le 14, 3) := by decide +kernel
theorem dX3_crossBound_32 : decode cX3_crossBound 32 = .ok (.aload_n 0, 1) := by decide +kernel
theorem dX3_crossBound_33 : decode cX3_crossBound 33 = .ok (.dup, 1) := by decide +kernel
theorem dX3_crossBound_34 : decode cX3_crossBound 34 = .ok (.getfield 25, 3) := by decide +kernel
theorem dX3_crossBound_37 : decode cX3_crossBound 37 = .ok (.iconst 1, 1) := by decide +kernel
theorem dX3_crossBound_38 : decode cX3_crossBound 38 = .ok (.isub, 1) := by decide +kernel
theorem dX3_crossBound_39 : decode cX3_crossBound 39 = .ok (.putfield 25, 3) := by decide +kernel
theorem dX3_crossBound_42 : decode cX3_crossBound 42 = .ok (.return_, 1) := by decide +kernel
theorem dX3_crossBound_43 : decode cX3_crossBound 43 = .ok (.aload_n 0, 1) := by decide +kernel
theorem dX3_crossBound_44 : decode cX3_crossBound 44 = .ok (.aload_n 0, 1) := by decide +kernel
theorem dX3_crossBound_45 : decode cX3_crossBound 45 = .ok (.getfield 15, 3) := by decide +kernel
theorem dX3_crossBound_48 : decode cX3_crossBound 48 = .ok (.iload_n 1, 1) := by decide +kernel
theorem dX3_crossBound_49 : decode cX3_crossBound 49 = .ok (.iadd, 1) := by decide +kernel
theorem dX3_crossBound_50 : decode cX3_crossBound 50 = .ok (.bipush 64, 2) := by decide +kernel
theorem dX3_crossBound_52 : decode cX3_crossBound 52 = .ok (.invokestatic 51, 3) := by decide +kernel
theorem dX3_crossBound_55 : decode cX3_crossBound 55 = .ok (.putfield 15, 3) := by decide +kernel
theorem dX3_crossBound_58 : decode cX3_crossBound 58 = .ok (.return_, 1) := by decide +kernel
theorem dX4_init_0 : decode cX4_init 0 = .ok (.aload_n 0, 1) := by decide +kernel
theorem dX4_init_1 : decode cX4_init 1 = .ok (.invokespecial 3, 3) := by decide +kernel
theorem dX4_init_4 : decode cX4_init 4 = .ok (.aload_n 0, 1) := by decide +kernel
theorem dX4_init_5 : decode cX4_init 5 = .ok (.iconst 0, 1) := by decide +kernel
theorem dX4_init_6 : decode cX4_init 6 = .ok (.putfield 9, 3) := by decide +kernel
theorem dX4_init_9 : decode cX4_init 9 = .ok (.aload_n 0, 1) := by decide +kernel
theorem dX4_init_10 : decode cX4_init 10 = .ok (.iconst 0, 1) := by decide +kernel
theorem dX4_init_11 : decode cX4_init 11 = .ok (.putfield 15, 3) := by decide +kernel
theorem dX4_init_14 : decode cX4_init 14 = .ok (.aload_n 0, 1) := by decide +kernel
theorem dX4_init_15 : decode cX4_init 15 = .ok (.iconst 0, 1) := by decide +kernel
theorem dX4_init_16 : decode cX4_init 16 = .ok (.putfield 18, 3) := by decide +kernel
theorem dX4_init_19 : decode cX4_init 19 = .ok (.aload_n 0, 1) := by decide +kernel
theorem dX4_init_20 : decode cX4_init 20 = .ok (.iconst 0, 1) := by decide +kernel
theorem dX4_init_21 : decode cX4_init 21 = .ok (.putfield 21, 3) := by decide +kernel
theorem dX4_init_24 : decode cX4_init 24 = .ok (.return_, 1) := by decide +kernel
theorem dX4_judge_0 : decode cX4_judge 0 = .ok (.aload_n 0, 1) := by decide +kernel
theorem dX4_judge_1 : decode cX4_judge 1 = .ok (.aload_n 1, 1) := by decide +kernel
theorem dX4_judge_2 : decode cX4_judge 2 = .ok (.getfield 24, 3) := by decide +kernel
theorem dX4_judge_5 : decode cX4_judge 5 = .ok (.putfield 15, 3) := by decide +kernel
theorem dX4_judge_8 : decode cX4_judge 8 = .ok (.aload_n 0, 1) := by decide +kernel
theorem dX4_judge_9 : decode cX4_judge 9 = .ok (.aload_n 1, 1) := by decide +kernel
theorem dX4_judge_10 : decode cX4_judge 10 = .ok (.getfield 27, 3) := by decide +kernel
theorem dX4_judge_13 : decode cX4_judge 13 = .ok (.putfield 18, 3) := by decide +kernel
theorem dX4_judge_16 : decode cX4_judge 16 = .ok (.aload_n 0, 1) := by decide +kernel
theorem dX4_judge_17 : decode cX4_judge 17 = .ok (.aload_n 0, 1) := by decide +kernel
theorem dX4_judge_18 : decode cX4_judge 18 = .ok (.aload_n 1, 1) := by decide +kernel
theorem dX4_judge_19 : decode cX4_judge 19 = .ok (.aload_n 2, 1) := by decide +kernel
theorem dX4_judge_20 : decode cX4_judge 20 = .ok (.invokevirtual 28, 3) := by decide +kernel
theorem dX4_judge_23 : decode cX4_judge 23 = .ok (.putfield 9, 3) := by decide +kernel
theorem dX4_judge_26 : decode cX4_judge 26 = .ok (.return_, 1) := by decide +kernel
theorem dX4_firstRefusal_0 : decode cX4_firstRefusal 0 = .ok (.aload_n 2, 1) := by decide +kernel
theorem dX4_firstRefusal_1 : decode cX4_firstRefusal 1 = .ok (.getfield 32, 3) := by decide +kernel
theorem dX4_firstRefusal_4 : decode cX4_firstRefusal 4 = .ok (.aload_n 1, 1) := by decide +kernel
theorem dX4_firstRefusal_5 : decode cX4_firstRefusal 5 = .ok (.getfield 37, 3) := by decide +kernel
theorem dX4_firstRefusal_8 : decode cX4_firstRefusal 8 = .ok (.iconst 0, 1) := by decide +kernel
theorem dX4_firstRefusal_9 : decode cX4_firstRefusal 9 = .ok (.invokestatic 41, 3) := by decide +kernel
theorem dX4_firstRefusal_12 : decode cX4_firstRefusal 12 = .ok (.if_icmp .le 5, 3) := by decide +kernel
theorem dX4_firstRefusal_15 : decode cX4_firstRefusal 15 = .ok (.iconst 1, 1) := by decide +kernel
theorem dX4_firstRefusal_16 : decode cX4_firstRefusal 16 = .ok (.ireturn, 1) := by decide +kernel
theorem dX4_firstRefusal_17 : decode cX4_firstRefusal 17 = .ok (.aload_n 2, 1) := by decide +kernel
theorem dX4_firstRefusal_18 : decode cX4_firstRefusal 18 = .ok (.getfield 45, 3) := by decide +kernel
theorem dX4_firstRefusal_21 : decode cX4_firstRefusal 21 = .ok (.sipush 1020, 3) := by decide +kernel
theorem dX4_firstRefusal_24 : decode cX4_firstRefusal 24 = .ok (.idiv, 1) := by decide +kernel
theorem dX4_firstRefusal_25 : decode cX4_firstRefusal 25 = .ok (.aload_n 1, 1) := by decide +kernel
theorem dX4_firstRefusal_26 : decode cX4_firstRefusal 26 = .ok (.getfield 24, 3) := by decide +kernel
theorem dX4_firstRefusal_29 : decode cX4_firstRefusal 29 = .ok (.isub, 1) := by decide +kernel
theorem dX4_firstRefusal_30 : decode cX4_firstRefusal 30 = .ok (.iconst 4, 1) := by decide +kernel
theorem dX4_firstRefusal_31 : decode cX4_firstRefusal 31 = .ok (.invokestatic 48, 3) := by decide +kernel
theorem dX4_firstRefusal_34 : decode cX4_firstRefusal 34 = .ok (.istore_n 3, 1) := by decide +kernel
theorem dX4_firstRefusal_35 : decode cX4_firstRefusal 35 = .ok (.iload_n 3, 1) := by decide +kernel
theorem dX4_firstRefusal_36 : decode cX4_firstRefusal 36 = .ok (.iconst 2, 1) := by decide +kernel
theorem dX4_firstRefusal_37 : decode cX4_firstRefusal 37 = .ok (.if_icmp .ne 5, 3) := by decide +kernel
theorem dX4_firstRefusal_40 : decode cX4_firstRefusal 40 = .ok (.iconst 2, 1) := by decide +kernel
theorem dX4_firstRefusal_41 : decode cX4_firstRefusal 41 = .ok (.ireturn, 1) := by decide +kernel
theorem dX4_firstRefusal_42 : decode cX4_firstRefusal 42 = .ok (.iload_n 3, 1) := by decide +kernel
theorem dX4_firstRefusal_43 : decode cX4_firstRefusal 43 = .ok (.iconst 3, 1) := by decide +kernel
theorem dX4_firstRefusal_44 : decode cX4_firstRefusal 44 = .ok (.if_icmp .ne 7, 3) := by decide +kernel
theorem dX4_firstRefusal_47 : decode cX4_firstRefusal 47 = .ok (.iconst (-1), 1) := by decide +kernel
theorem dX4_firstRefusal_48 : decode cX4_firstRefusal 48 = .ok (.goto 4, 3) := by decide +kernel
theorem dX4_firstRefusal_51 : decode cX4_firstRefusal 51 = .ok (.iload_n 3, 1) := by decide +kernel
theorem dX4_firstRefusal_52 : decode cX4_firstRefusal 52 = .ok (.istore 4, 2) := by decide +kernel
theorem dX4_firstRefusal_54 : decode cX4_firstRefusal 54 = .ok (.aload_n 0, 1) := by decide +kernel
theorem dX4_firstRefusal_55 : decode cX4_firstRefusal 55 = .ok (.aload_n 1, 1) := by decide +kernel
theorem dX4_firstRefusal_56 : decode cX4_firstRefusal 56 = .ok (.getfield 24, 3) := by decide +kernel
theorem dX4_firstRefusal_59 : decode cX4_firstRefusal 59 = .ok (.iload 4, 2) := by decide +kernel
theorem dX4_firstRefusal_61 : decode cX4_firstRefusal 61 = .ok (.iadd, 1) := by decide +kernel
theorem dX4_firstRefusal_62 : decode cX4_firstRefusal 62 = .ok (.bipush 64, 2) := by decide +kernel
theorem dX4_firstRefusal_64 : decode cX4_firstRefusal 64 = .ok (.invokestatic 48, 3) := by decide +kernel
theorem dX4_firstRefusal_67 : decode cX4_firstRefusal 67 = .ok (.putfield 15, 3) := by decide +kernel
theorem dX4_firstRefusal_70 : decode cX4_firstRefusal 70 = .ok (.aload_n 0, 1) := by decide +kernel
theorem dX4_firstRefusal_71 : decode cX4_firstRefusal 71 = .ok (.aload_n 0, 1) := by decide +kernel
theorem dX4_firstRefusal_72 : decode cX4_firstRefusal 72 = .ok (.getfield 15, 3) := by decide +kernel
theorem dX4_firstRefusal_75 : decode cX4_firstRefusal 75 = .ok (.iconst 4, 1) := by decide +kernel
theorem dX4_firstRefusal_76 : decode cX4_firstRefusal 76 = .ok (.idiv, 1) := by decide +kernel
theorem dX4_firstRefusal_77 : decode cX4_firstRefusal 77 = .ok (.sipush 4080, 3) := by decide +kernel
theorem dX4_firstRefusal_80 : decode cX4_firstRefusal 80 = .ok (.imul, 1) := by decide +kernel
theorem dX4_firstRefusal_81 : decode cX4_firstRefusal 81 = .ok (.aload_n 2, 1) := by decide +kernel
theorem dX4_firstRefusal_82 : decode cX4_firstRefusal 82 = .ok (.getfield 45, 3) := by decide +kernel
theorem dX4_firstRefusal_85 : decode cX4_firstRefusal 85 = .ok (.iadd, 1) := by decide +kernel
theorem dX4_firstRefusal_86 : decode cX4_firstRefusal 86 = .ok (.putfield 21, 3) := by decide +kernel
theorem dX4_firstRefusal_89 : decode cX4_firstRefusal 89 = .ok (.aload_n 2, 1) := by decide +kernel
theorem dX4_firstRefusal_90 : decode cX4_firstRefusal 90 = .ok (.getfield 45, 3) := by decide +kernel
theorem dX4_firstRefusal_93 : decode cX4_firstRefusal 93 = .ok (.bipush 64, 2) := by decide +kernel
theorem dX4_firstRefusal_95 : decode cX4_firstRefusal 95 = .ok (.imul, 1) := by decide +kernel
theorem dX4_firstRefusal_96 : decode cX4_firstRefusal 96 = .ok (.sipush 4080, 3) := by decide +kernel
theorem dX4_firstRefusal_99 : decode cX4_firstRefusal 99 = .ok (.idiv, 1) := by decide +kernel
theorem dX4_firstRefusal_100 : decode cX4_firstRefusal 100 = .ok (.istore 5, 2) := by decide +kernel
theorem dX4_firstRefusal_102 : decode cX4_firstRefusal 102 = .ok (.aload_n 1, 1) := by decide +kernel
theorem dX4_firstRefusal_103 : decode cX4_firstRefusal 103 = .ok (.invokevirtual 52, 3) := by decide +kernel
theorem dX4_firstRefusal_106 : decode cX4_firstRefusal 106 = .ok (.iload 5, 2) := by decide +kernel
theorem dX4_firstRefusal_108 : decode cX4_firstRefusal 108 = .ok (.bipush 64, 2) := by decide +kernel
theorem dX4_firstRefusal_110 : decode cX4_firstRefusal 110 = .ok (.invokestatic 56, 3) := by decide +kernel
theorem dX4_firstRefusal_113 : decode cX4_firstRefusal 113 = .ok (.aload_n 1, 1) := by decide +kernel
theorem dX4_firstRefusal_114 : decode cX4_firstRefusal 114 = .ok (.getfield 37, 3) := by decide +kernel
theorem dX4_firstRefusal_117 : decode cX4_firstRefusal 117 = .ok (.iconst 1, 1) := by decide +kernel
theorem dX4_firstRefusal_118 : decode cX4_firstRefusal 118 = .ok (.invokestatic 41, 3) := by decide +kernel
theorem dX4_firstRefusal_121 : decode cX4_firstRefusal 121 = .ok (.if_icmp .le 7, 3) := by decide +kernel
theorem dX4_firstRefusal_124 : decode cX4_firstRefusal 124 = .ok (.iconst 1, 1) := by decide +kernel
theorem dX4_firstRefusal_125 : decode cX4_firstRefusal 125 = .ok (.goto 4, 3) := by decide +kernel
theorem dX4_firstRefusal_128 : decode cX4_firstRefusal 128 = .ok (.iconst 0, 1) := by decide +kernel
theorem dX4_firstRefusal_129 : decode cX4_firstRefusal 129 = .ok (.istore 6, 2) := by decide +kernel
theorem dX4_firstRefusal_131 : decode cX4_firstRefusal 131 = .ok (.aload_n 0, 1) := by decide +kernel
theorem dX4_firstRefusal_132 : decode cX4_firstRefusal 132 = .ok (.iload 6, 2) := by decide +kernel
theorem dX4_firstRefusal_134 : decode cX4_firstRefusal 134 = .ok (.ifCond .eq 12, 3) := by decide +kernel
theorem dX4_firstRefusal_137 : decode cX4_firstRefusal 137 = .ok (.aload_n 1, 1) := by decide +kernel
theorem dX4_firstRefusal_138 : decode cX4_firstRefusal 138 = .ok (.getfield 27, 3) := by decide +kernel
theorem dX4_firstRefusal_141 : decode cX4_firstRefusal 141 = .ok (.iconst 1, 1) := by decide +kernel
theorem dX4_firstRefusal_142 : decode cX4_firstRefusal 142 = .ok (.iadd, 1) := by decide +kernel
theorem dX4_firstRefusal_143 : decode cX4_firstRefusal 143 = .ok (.goto 4, 3) := by decide +kernel
theorem dX4_firstRefusal_146 : decode cX4_firstRefusal 146 = .ok (.iconst 0, 1) := by decide +kernel
theorem dX4_firstRefusal_147 : decode cX4_firstRefusal 147 = .ok (.putfield 18, 3) := by decide +kernel
theorem dX4_firstRefusal_150 : decode cX4_firstRefusal 150 = .ok (.aload_n 0, 1) := by decide +kernel
theorem dX4_firstRefusal_151 : decode cX4_firstRefusal 151 = .ok (.getfield 18, 3) := by decide +kernel
theorem dX4_firstRefusal_154 : decode cX4_firstRefusal 154 = .ok (.iconst 3, 1) := by decide +kernel
theorem dX4_firstRefusal_155 : decode cX4_firstRefusal 155 = .ok (.if_icmp .lt 5, 3) := by decide +kernel
theorem dX4_firstRefusal_158 : decode cX4_firstRefusal 158 = .ok (.iconst 3, 1) := by decide +kernel
theorem dX4_firstRefusal_159 : decode cX4_firstRefusal 159 = .ok (.ireturn, 1) := by decide +kernel
theorem dX4_firstRefusal_160 : decode cX4_firstRefusal 160 = .ok (.aload_n 1, 1) := by decide +kernel
theorem dX4_firstRefusal_161 : decode cX4_firstRefusal 161 = .ok (.getfield 60, 3) := by decide +kernel
theorem dX4_firstRefusal_164 : decode cX4_firstRefusal 164 = .ok (.iconst (-1), 1) := by decide +kernel
theorem dX4_firstRefusal_165 : decode cX4_firstRefusal 165 = .ok (.if_icmp .eq 29, 3) := by decide +kernel
theorem dX4_firstRefusal_168 : decode cX4_firstRefusal 168 = .ok (.aload_n 1, 1) := by decide +kernel
theorem dX4_firstRefusal_169 : decode cX4_firstRefusal 169 = .ok (.getfield 60, 3) := by decide +kernel
theorem dX4_firstRefusal_172 : decode cX4_firstRefusal 172 = .ok (.aload_n 0, 1) := by decide +kernel
theorem dX4_firstRefusal_173 : decode cX4_firstRefusal 173 = .ok (.getfield 21, 3) := by decide +kernel
theorem dX4_firstRefusal_176 : decode cX4_firstRefusal 176 = .ok (.ldc 63, 2) := by decide +kernel
theorem dX4_firstRefusal_178 : decode cX4_firstRefusal 178 = .ok (.invokestatic 56, 3) := by decide +kernel
theorem dX4_firstRefusal_181 : decode cX4_firstRefusal 181 = .ok (.aload_n 1, 1) := by decide +kernel
theorem dX4_firstRefusal_182 : decode cX4_firstRefusal 182 = .ok (.getfield 37, 3) := by decide +kernel
theorem dX4_firstRefusal_185 : decode cX4_firstRefusal 185 = .ok (.iconst 2, 1) := by decide +kernel
theorem dX4_firstRefusal_186 : decode cX4_firstRefusal 186 = .ok (.invokestatic 41, 3) := by decide +kernel
theorem dX4_firstRefusal_189 : decode cX4_firstRefusal 189 = .ok (.if_icmp .le 5, 3) := by decide +kernel
theorem dX4_firstRefusal_192 : decode cX4_firstRefusal 192 = .ok (.iconst 4, 1) := by decide +kernel
theorem dX4_firstRefusal_193 : decode cX4_firstRefusal 193 = .ok (.ireturn, 1) := by decide +kernel
theorem dX4_firstRefusal_194 : decode cX4_firstRefusal 194 = .ok (.iconst 0, 1) := by decide +kernel
theorem dX4_firstRefusal_195 : decode cX4_firstRefusal 195 = .ok (.ireturn, 1) := by decide +kernel
theorem dX5_init_0 : decode cX5_init 0 = .ok (.aload_n 0, 1) := by decide +kernel
theorem dX5_init_1 : decode cX5_init 1 = .ok (.invokespecial 3, 3) := by decide +kernel
theorem dX5_init_4 : decode cX5_init 4 = .ok (.aload_n 0, 1) := by decide +kernel
theorem dX5_init_5 : decode cX5_init 5 = .ok (.new 9, 3) := by decide +kernel
theorem dX5_init_8 : decode cX5_init 8 = .ok (.dup, 1) := by decide +kernel
theorem dX5_init_9 : decode cX5_init 9 = .ok (.invokespecial 11, 3) := by decide +kernel
theorem dX5_init_12 : decode cX5_init 12 = .ok (.putfield 12, 3) := by decide +kernel
theorem dX5_init_15 : decode cX5_init 15 = .ok (.aload_n 0, 1) := by decide +kernel
theorem dX5_init_16 : decode cX5_init 16 = .ok (.new 16, 3) := by decide +kernel
theorem dX5_init_19 : decode cX5_init 19 = .ok (.dup, 1) := by decide +kernel
theorem dX5_init_20 : decode cX5_init 20 = .ok (.invokespecial 18, 3) := by decide +kernel
theorem dX5_init_23 : decode cX5_init 23 = .ok (.putfield 19, 3) := by decide +kernel
theorem dX5_init_26 : decode cX5_init 26 = .ok (.aload_n 0, 1) := by decide +kernel
theorem dX5_init_27 : decode cX5_init 27 = .ok (.new 23, 3) := by decide +kernel
theorem dX5_init_30 : decode cX5_init 30 = .ok (.dup, 1) := by decide +kernel
theorem dX5_init_31 : decode cX5_init 31 = .ok (.invokespecial 25, 3) := by decide +kernel
theorem dX5_init_34 : decode cX5_init 34 = .ok (.putfield 26, 3) := by decide +kernel
theorem dX5_init_37 : decode cX5_init 37 = .ok (.aload_n 0, 1) := by decide +kernel
theorem dX5_init_38 : decode cX5_init 38 = .ok (.new 30, 3) := by decide +kernel
theorem dX5_init_41 : decode cX5_init 41 = .ok (.dup, 1) := by decide +kernel
theorem dX5_init_42 : decode cX5_init 42 = .ok (.invokespecial 32, 3) := by decide +kernel
theorem dX5_init_45 : decode cX5_init 45 = .ok (.putfield 33, 3) := by decide +kernel
theorem dX5_init_48 : decode cX5_init 48 = .ok (.aload_n 0, 1) := by decide +kernel
theorem dX5_init_49 : decode cX5_init 49 = .ok (.new 37, 3) := by decide +kernel
theorem dX5_init_52 : decode cX5_init 52 = .ok (.dup, 1) := by decide +kernel
theorem dX5_init_53 : decode cX5_init 53 = .ok (.invokespecial 39, 3) := by decide +kernel
theorem dX5_init_56 : decode cX5_init 56 = .ok (.putfield 40, 3) := by decide +kernel
theorem dX5_init_59 : decode cX5_init 59 = .ok (.return_, 1) := by decide +kernel
theorem dX5_turn_0 : decode cX5_turn 0 = .ok (.iload_n 1, 1) := by decide +kernel
theorem dX5_turn_1 : decode cX5_turn 1 = .ok (.sipush (-9999), 3) := by decide +kernel
theorem dX5_turn_4 : decode cX5_turn 4 = .ok (.sipush 9999, 3) := by decide +kernel
theorem dX5_turn_7 : decode cX5_turn 7 = .ok (.invokestatic 44, 3) := by decide +kernel
theorem dX5_turn_10 : decode cX5_turn 10 = .ok (.ifCond .eq 5, 3) := by decide +kernel
theorem dX5_turn_13 : decode cX5_turn 13 = .ok (.iconst (-1), 1) := by decide +kernel
theorem dX5_turn_14 : decode cX5_turn 14 = .ok (.ireturn, 1) := by decide +kernel
theorem dX5_turn_15 : decode cX5_turn 15 = .ok (.aload_n 0, 1) := by decide +kernel
theorem dX5_turn_16 : decode cX5_turn 16 = .ok (.getfield 12, 3) := by decide +kernel
theorem dX5_turn_19 : decode cX5_turn 19 = .ok (.getfield 48, 3) := by decide +kernel
theorem dX5_turn_22 : decode cX5_turn 22 = .ok (.iload_n 1, 1) := by decide +kernel
theorem dX5_turn_23 : decode cX5_turn 23 = .ok (.iadd, 1) := by decide +kernel
theorem dX5_turn_24 : decode cX5_turn 24 = .ok (.istore_n 2, 1) := by decide +kernel
theorem dX5_turn_25 : decode cX5_turn 25 = .ok (.iload_n 2, 1) := by decide +kernel
theorem dX5_turn_26 : decode cX5_turn 26 = .ok (.iconst 0, 1) := by decide +kernel
theorem dX5_turn_27 : decode cX5_turn 27 = .ok (.ldc 52, 2) := by decide +kernel
theorem dX5_turn_29 : decode cX5_turn 29 = .ok (.invokestatic 44, 3) := by decide +kernel
theorem dX5_turn_32 : decode cX5_turn 32 = .ok (.ifCond .eq 6, 3) := by decide +kernel
theorem dX5_turn_35 : decode cX5_turn 35 = .ok (.bipush (-2), 2) := by decide +kernel
theorem dX5_turn_37 : decode cX5_turn 37 = .ok (.ireturn, 1) := by decide +kernel
theorem dX5_turn_38 : decode cX5_turn 38 = .ok (.aload_n 0, 1) := by decide +kernel
theorem dX5_turn_39 : decode cX5_turn 39 = .ok (.getfield 19, 3) := by decide +kernel
theorem dX5_turn_42 : decode cX5_turn 42 = .ok (.aload_n 0, 1) := by decide +kernel
theorem dX5_turn_43 : decode cX5_turn 43 = .ok (.getfield 12, 3) := by decide +kernel
theorem dX5_turn_46 : decode cX5_turn 46 = .ok (.invokevirtual 53, 3) := by decide +kernel
theorem dX5_turn_49 : decode cX5_turn 49 = .ok (.iload_n 2, 1) := by decide +kernel
theorem dX5_turn_50 : decode cX5_turn 50 = .ok (.sipush 1020, 3) := by decide +kernel
theorem dX5_turn_53 : decode cX5_turn 53 = .ok (.idiv, 1) := by decide +kernel
theorem dX5_turn_54 : decode cX5_turn 54 = .ok (.aload_n 0, 1) := by decide +kernel
theorem dX5_turn_55 : decode cX5_turn 55 = .ok (.getfield 12, 3) := by decide +kernel
theorem dX5_turn_58 : decode cX5_turn 58 = .ok (.getfield 48, 3) := by decide +kernel
theorem dX5_turn_61 : decode cX5_turn 61 = .ok (.sipush 1020, 3) := by decide +kernel
theorem dX5_turn_64 : decode cX5_turn 64 = .ok (.idiv, 1) := by decide +kernel
theorem dX5_turn_65 : decode cX5_turn 65 = .ok (.isub, 1) := by decide +kernel
theorem dX5_turn_66 : decode cX5_turn 66 = .ok (.istore_n 3, 1) := by decide +kernel
theorem dX5_turn_67 : decode cX5_turn 67 = .ok (.iload_n 3, 1) := by decide +kernel
theorem dX5_turn_68 : decode cX5_turn 68 = .ok (.ifCond .ge 7, 3) := by decide +kernel
theorem dX5_turn_71 : decode cX5_turn 71 = .ok (.iconst (-1), 1) := by decide +kernel
theorem dX5_turn_72 : decode cX5_turn 72 = .ok (.goto 4, 3) := by decide +kernel
theorem dX5_turn_75 : decode cX5_turn 75 = .ok (.iconst 1, 1) := by decide +kernel
theorem dX5_turn_76 : decode cX5_turn 76 = .ok (.istore 4, 2) := by decide +kernel
theorem dX5_turn_78 : decode cX5_turn 78 = .ok (.iconst 0, 1) := by decide +kernel
theorem dX5_turn_79 : decode cX5_turn 79 = .ok (.istore 5, 2) := by decide +kernel
theorem dX5_turn_81 : decode cX5_turn 81 = .ok (.iload 5, 2) := by decide +kernel
theorem dX5_turn_83 : decode cX5_turn 83 = .ok (.iload_n 3, 1) := by decide +kernel
theorem dX5_turn_84 : decode cX5_turn 84 = .ok (.invokestatic 57, 3) := by decide +kernel
theorem dX5_turn_87 : decode cX5_turn 87 = .ok (.if_icmp .ge 18, 3) := by decide +kernel
theorem dX5_turn_90 : decode cX5_turn 90 = .ok (.aload_n 0, 1) := by decide +kernel
end
section
theorem dX5_turn_91 : decode cX5_turn 91 = .ok (.getfield 12, 3) := by decide +kernel
theorem dX5_turn_94 : decode cX5_turn 94 = .ok (.iload 4, 2) := by decide +kernel
theorem dX5_turn_96 : decode cX5_turn 96 = .ok (.invokevirtual 63, 3) := by decide +kernel
theorem dX5_turn_99 : decode cX5_turn 99 = .ok (.iinc 5 1, 3) := by decide +kernel
theorem dX5_turn_102 : decode cX5_turn 102 = .ok (.goto (-21), 3) := by decide +kernel
theorem dX5_turn_105 : decode cX5_turn 105 = .ok (.aload_n 0, 1) := by decide +kernel
theorem dX5_turn_106 : decode cX5_turn 106 = .ok (.getfield 12, 3) := by decide +kernel
theorem dX5_turn_109 : decode cX5_turn 109 = .ok (.iload_n 2, 1) := by decide +kernel
theorem dX5_turn_110 : decode cX5_turn 110 = .ok (.putfield 48, 3) := by decide +kernel
theorem dX5_turn_113 : decode cX5_turn 113 = .ok (.iload_n 2, 1) := by decide +kernel
theorem dX5_turn_114 : decode cX5_turn 114 = .ok (.ireturn, 1) := by decide +kernel
theorem dX5_power_0 : decode cX5_power 0 = .ok (.iload_n 1, 1) := by decide +kernel
theorem dX5_power_1 : decode cX5_power 1 = .ok (.iconst 0, 1) := by decide +kernel
theorem dX5_power_2 : decode cX5_power 2 = .ok (.iconst 1, 1) := by decide +kernel
theorem dX5_power_3 : decode cX5_power 3 = .ok (.invokestatic 44, 3) := by decide +kernel
theorem dX5_power_6 : decode cX5_power 6 = .ok (.ifCond .eq 5, 3) := by decide +kernel
theorem dX5_power_9 : decode cX5_power 9 = .ok (.iconst (-1), 1) := by decide +kernel
theorem dX5_power_10 : decode cX5_power 10 = .ok (.ireturn, 1) := by decide +kernel
theorem dX5_power_11 : decode cX5_power 11 = .ok (.aload_n 0, 1) := by decide +kernel
theorem dX5_power_12 : decode cX5_power 12 = .ok (.getfield 19, 3) := by decide +kernel
theorem dX5_power_15 : decode cX5_power 15 = .ok (.aload_n 0, 1) := by decide +kernel
theorem dX5_power_16 : decode cX5_power 16 = .ok (.getfield 12, 3) := by decide +kernel
theorem dX5_power_19 : decode cX5_power 19 = .ok (.invokevirtual 53, 3) := by decide +kernel
theorem dX5_power_22 : decode cX5_power 22 = .ok (.aload_n 0, 1) := by decide +kernel
theorem dX5_power_23 : decode cX5_power 23 = .ok (.getfield 12, 3) := by decide +kernel
theorem dX5_power_26 : decode cX5_power 26 = .ok (.getfield 67, 3) := by decide +kernel
theorem dX5_power_29 : decode cX5_power 29 = .ok (.invokestatic 71, 3) := by decide +kernel
theorem dX5_power_32 : decode cX5_power 32 = .ok (.istore_n 2, 1) := by decide +kernel
theorem dX5_power_33 : decode cX5_power 33 = .ok (.aload_n 0, 1) := by decide +kernel
theorem dX5_power_34 : decode cX5_power 34 = .ok (.getfield 12, 3) := by decide +kernel
theorem dX5_power_37 : decode cX5_power 37 = .ok (.iload_n 1, 1) := by decide +kernel
theorem dX5_power_38 : decode cX5_power 38 = .ok (.iconst 1, 1) := by decide +kernel
theorem dX5_power_39 : decode cX5_power 39 = .ok (.if_icmp .ne 7, 3) := by decide +kernel
theorem dX5_power_42 : decode cX5_power 42 = .ok (.iconst 1, 1) := by decide +kernel
theorem dX5_power_43 : decode cX5_power 43 = .ok (.goto 4, 3) := by decide +kernel
theorem dX5_power_46 : decode cX5_power 46 = .ok (.iconst 0, 1) := by decide +kernel
theorem dX5_power_47 : decode cX5_power 47 = .ok (.putfield 67, 3) := by decide +kernel
theorem dX5_power_50 : decode cX5_power 50 = .ok (.iload_n 2, 1) := by decide +kernel
theorem dX5_power_51 : decode cX5_power 51 = .ok (.ireturn, 1) := by decide +kernel
theorem dX5_brownout_0 : decode cX5_brownout 0 = .ok (.iload_n 1, 1) := by decide +kernel
theorem dX5_brownout_1 : decode cX5_brownout 1 = .ok (.iconst 1, 1) := by decide +kernel
theorem dX5_brownout_2 : decode cX5_brownout 2 = .ok (.bipush 9, 2) := by decide +kernel
theorem dX5_brownout_4 : decode cX5_brownout 4 = .ok (.invokestatic 44, 3) := by decide +kernel
theorem dX5_brownout_7 : decode cX5_brownout 7 = .ok (.ifCond .eq 5, 3) := by decide +kernel
theorem dX5_brownout_10 : decode cX5_brownout 10 = .ok (.iconst (-1), 1) := by decide +kernel
theorem dX5_brownout_11 : decode cX5_brownout 11 = .ok (.ireturn, 1) := by decide +kernel
theorem dX5_brownout_12 : decode cX5_brownout 12 = .ok (.aload_n 0, 1) := by decide +kernel
theorem dX5_brownout_13 : decode cX5_brownout 13 = .ok (.getfield 12, 3) := by decide +kernel
theorem dX5_brownout_16 : decode cX5_brownout 16 = .ok (.getfield 75, 3) := by decide +kernel
theorem dX5_brownout_19 : decode cX5_brownout 19 = .ok (.iload_n 1, 1) := by decide +kernel
theorem dX5_brownout_20 : decode cX5_brownout 20 = .ok (.iadd, 1) := by decide +kernel
theorem dX5_brownout_21 : decode cX5_brownout 21 = .ok (.bipush 99, 2) := by decide +kernel
theorem dX5_brownout_23 : decode cX5_brownout 23 = .ok (.if_icmp .le 6, 3) := by decide +kernel
theorem dX5_brownout_26 : decode cX5_brownout 26 = .ok (.bipush (-3), 2) := by decide +kernel
theorem dX5_brownout_28 : decode cX5_brownout 28 = .ok (.ireturn, 1) := by decide +kernel
theorem dX5_brownout_29 : decode cX5_brownout 29 = .ok (.aload_n 0, 1) := by decide +kernel
theorem dX5_brownout_30 : decode cX5_brownout 30 = .ok (.getfield 19, 3) := by decide +kernel
theorem dX5_brownout_33 : decode cX5_brownout 33 = .ok (.aload_n 0, 1) := by decide +kernel
theorem dX5_brownout_34 : decode cX5_brownout 34 = .ok (.getfield 12, 3) := by decide +kernel
theorem dX5_brownout_37 : decode cX5_brownout 37 = .ok (.invokevirtual 53, 3) := by decide +kernel
theorem dX5_brownout_40 : decode cX5_brownout 40 = .ok (.aload_n 0, 1) := by decide +kernel
theorem dX5_brownout_41 : decode cX5_brownout 41 = .ok (.getfield 12, 3) := by decide +kernel
theorem dX5_brownout_44 : decode cX5_brownout 44 = .ok (.dup, 1) := by decide +kernel
theorem dX5_brownout_45 : decode cX5_brownout 45 = .ok (.getfield 75, 3) := by decide +kernel
theorem dX5_brownout_48 : decode cX5_brownout 48 = .ok (.iload_n 1, 1) := by decide +kernel
theorem dX5_brownout_49 : decode cX5_brownout 49 = .ok (.iadd, 1) := by decide +kernel
theorem dX5_brownout_50 : decode cX5_brownout 50 = .ok (.putfield 75, 3) := by decide +kernel
theorem dX5_brownout_53 : decode cX5_brownout 53 = .ok (.aload_n 0, 1) := by decide +kernel
theorem dX5_brownout_54 : decode cX5_brownout 54 = .ok (.getfield 12, 3) := by decide +kernel
theorem dX5_brownout_57 : decode cX5_brownout 57 = .ok (.getfield 75, 3) := by decide +kernel
theorem dX5_brownout_60 : decode cX5_brownout 60 = .ok (.ireturn, 1) := by decide +kernel
theorem dX5_charge_0 : decode cX5_charge 0 = .ok (.iload_n 1, 1) := by decide +kernel
theorem dX5_charge_1 : decode cX5_charge 1 = .ok (.iconst 0, 1) := by decide +kernel
theorem dX5_charge_2 : decode cX5_charge 2 = .ok (.sipush 999, 3) := by decide +kernel
theorem dX5_charge_5 : decode cX5_charge 5 = .ok (.invokestatic 44, 3) := by decide +kernel
theorem dX5_charge_8 : decode cX5_charge 8 = .ok (.ifCond .eq 5, 3) := by decide +kernel
theorem dX5_charge_11 : decode cX5_charge 11 = .ok (.iconst (-1), 1) := by decide +kernel
theorem dX5_charge_12 : decode cX5_charge 12 = .ok (.ireturn, 1) := by decide +kernel
theorem dX5_charge_13 : decode cX5_charge 13 = .ok (.aload_n 0, 1) := by decide +kernel
theorem dX5_charge_14 : decode cX5_charge 14 = .ok (.getfield 19, 3) := by decide +kernel
theorem dX5_charge_17 : decode cX5_charge 17 = .ok (.aload_n 0, 1) := by decide +kernel
theorem dX5_charge_18 : decode cX5_charge 18 = .ok (.getfield 12, 3) := by decide +kernel
theorem dX5_charge_21 : decode cX5_charge 21 = .ok (.invokevirtual 53, 3) := by decide +kernel
theorem dX5_charge_24 : decode cX5_charge 24 = .ok (.aload_n 0, 1) := by decide +kernel
theorem dX5_charge_25 : decode cX5_charge 25 = .ok (.getfield 12, 3) := by decide +kernel
theorem dX5_charge_28 : decode cX5_charge 28 = .ok (.getfield 78, 3) := by decide +kernel
theorem dX5_charge_31 : decode cX5_charge 31 = .ok (.istore_n 2, 1) := by decide +kernel
theorem dX5_charge_32 : decode cX5_charge 32 = .ok (.aload_n 0, 1) := by decide +kernel
theorem dX5_charge_33 : decode cX5_charge 33 = .ok (.getfield 12, 3) := by decide +kernel
theorem dX5_charge_36 : decode cX5_charge 36 = .ok (.iload_n 1, 1) := by decide +kernel
theorem dX5_charge_37 : decode cX5_charge 37 = .ok (.putfield 78, 3) := by decide +kernel
theorem dX5_charge_40 : decode cX5_charge 40 = .ok (.iload_n 2, 1) := by decide +kernel
theorem dX5_charge_41 : decode cX5_charge 41 = .ok (.ireturn, 1) := by decide +kernel
theorem dX5_count_0 : decode cX5_count 0 = .ok (.iload_n 1, 1) := by decide +kernel
theorem dX5_count_1 : decode cX5_count 1 = .ok (.tableswitch 178 0 11 #[63, 71, 79, 87, 98, 106, 114, 138, 146, 154, 162, 170], 63) := by decide +kernel
theorem dX5_count_64 : decode cX5_count 64 = .ok (.aload_n 0, 1) := by decide +kernel
theorem dX5_count_65 : decode cX5_count 65 = .ok (.getfield 12, 3) := by decide +kernel
theorem dX5_count_68 : decode cX5_count 68 = .ok (.getfield 48, 3) := by decide +kernel
theorem dX5_count_71 : decode cX5_count 71 = .ok (.ireturn, 1) := by decide +kernel
theorem dX5_count_72 : decode cX5_count 72 = .ok (.aload_n 0, 1) := by decide +kernel
theorem dX5_count_73 : decode cX5_count 73 = .ok (.getfield 12, 3) := by decide +kernel
theorem dX5_count_76 : decode cX5_count 76 = .ok (.invokevirtual 81, 3) := by decide +kernel
theorem dX5_count_79 : decode cX5_count 79 = .ok (.ireturn, 1) := by decide +kernel
theorem dX5_count_80 : decode cX5_count 80 = .ok (.aload_n 0, 1) := by decide +kernel
theorem dX5_count_81 : decode cX5_count 81 = .ok (.getfield 12, 3) := by decide +kernel
theorem dX5_count_84 : decode cX5_count 84 = .ok (.getfield 85, 3) := by decide +kernel
theorem dX5_count_87 : decode cX5_count 87 = .ok (.ireturn, 1) := by decide +kernel
theorem dX5_count_88 : decode cX5_count 88 = .ok (.aload_n 0, 1) := by decide +kernel
theorem dX5_count_89 : decode cX5_count 89 = .ok (.getfield 12, 3) := by decide +kernel
theorem dX5_count_92 : decode cX5_count 92 = .ok (.getfield 67, 3) := by decide +kernel
theorem dX5_count_95 : decode cX5_count 95 = .ok (.invokestatic 71, 3) := by decide +kernel
theorem dX5_count_98 : decode cX5_count 98 = .ok (.ireturn, 1) := by decide +kernel
theorem dX5_count_99 : decode cX5_count 99 = .ok (.aload_n 0, 1) := by decide +kernel
theorem dX5_count_100 : decode cX5_count 100 = .ok (.getfield 12, 3) := by decide +kernel
theorem dX5_count_103 : decode cX5_count 103 = .ok (.getfield 78, 3) := by decide +kernel
theorem dX5_count_106 : decode cX5_count 106 = .ok (.ireturn, 1) := by decide +kernel
theorem dX5_count_107 : decode cX5_count 107 = .ok (.aload_n 0, 1) := by decide +kernel
theorem dX5_count_108 : decode cX5_count 108 = .ok (.getfield 12, 3) := by decide +kernel
theorem dX5_count_111 : decode cX5_count 111 = .ok (.getfield 75, 3) := by decide +kernel
theorem dX5_count_114 : decode cX5_count 114 = .ok (.ireturn, 1) := by decide +kernel
theorem dX5_count_115 : decode cX5_count 115 = .ok (.aload_n 0, 1) := by decide +kernel
theorem dX5_count_116 : decode cX5_count 116 = .ok (.getfield 12, 3) := by decide +kernel
theorem dX5_count_119 : decode cX5_count 119 = .ok (.getfield 88, 3) := by decide +kernel
theorem dX5_count_122 : decode cX5_count 122 = .ok (.iconst (-1), 1) := by decide +kernel
theorem dX5_count_123 : decode cX5_count 123 = .ok (.if_icmp .ne 8, 3) := by decide +kernel
theorem dX5_count_126 : decode cX5_count 126 = .ok (.bipush (-4), 2) := by decide +kernel
theorem dX5_count_128 : decode cX5_count 128 = .ok (.goto 10, 3) := by decide +kernel
theorem dX5_count_131 : decode cX5_count 131 = .ok (.aload_n 0, 1) := by decide +kernel
theorem dX5_count_132 : decode cX5_count 132 = .ok (.getfield 12, 3) := by decide +kernel
theorem dX5_count_135 : decode cX5_count 135 = .ok (.getfield 88, 3) := by decide +kernel
theorem dX5_count_138 : decode cX5_count 138 = .ok (.ireturn, 1) := by decide +kernel
theorem dX5_count_139 : decode cX5_count 139 = .ok (.aload_n 0, 1) := by decide +kernel
theorem dX5_count_140 : decode cX5_count 140 = .ok (.getfield 12, 3) := by decide +kernel
theorem dX5_count_143 : decode cX5_count 143 = .ok (.getfield 91, 3) := by decide +kernel
theorem dX5_count_146 : decode cX5_count 146 = .ok (.ireturn, 1) := by decide +kernel
theorem dX5_count_147 : decode cX5_count 147 = .ok (.aload_n 0, 1) := by decide +kernel
theorem dX5_count_148 : decode cX5_count 148 = .ok (.getfield 12, 3) := by decide +kernel
theorem dX5_count_151 : decode cX5_count 151 = .ok (.invokevirtual 94, 3) := by decide +kernel
theorem dX5_count_154 : decode cX5_count 154 = .ok (.ireturn, 1) := by decide +kernel
theorem dX5_count_155 : decode cX5_count 155 = .ok (.aload_n 0, 1) := by decide +kernel
theorem dX5_count_156 : decode cX5_count 156 = .ok (.getfield 12, 3) := by decide +kernel
theorem dX5_count_159 : decode cX5_count 159 = .ok (.invokevirtual 97, 3) := by decide +kernel
theorem dX5_count_162 : decode cX5_count 162 = .ok (.ireturn, 1) := by decide +kernel
theorem dX5_count_163 : decode cX5_count 163 = .ok (.aload_n 0, 1) := by decide +kernel
theorem dX5_count_164 : decode cX5_count 164 = .ok (.getfield 19, 3) := by decide +kernel
theorem dX5_count_167 : decode cX5_count 167 = .ok (.getfield 100, 3) := by decide +kernel
theorem dX5_count_170 : decode cX5_count 170 = .ok (.ireturn, 1) := by decide +kernel
theorem dX5_count_171 : decode cX5_count 171 = .ok (.aload_n 0, 1) := by decide +kernel
theorem dX5_count_172 : decode cX5_count 172 = .ok (.getfield 40, 3) := by decide +kernel
theorem dX5_count_175 : decode cX5_count 175 = .ok (.getfield 103, 3) := by decide +kernel
theorem dX5_count_178 : decode cX5_count 178 = .ok (.ireturn, 1) := by decide +kernel
theorem dX5_count_179 : decode cX5_count 179 = .ok (.aload_n 0, 1) := by decide +kernel
theorem dX5_count_180 : decode cX5_count 180 = .ok (.iload_n 1, 1) := by decide +kernel
theorem dX5_count_181 : decode cX5_count 181 = .ok (.bipush 20, 2) := by decide +kernel
theorem dX5_count_183 : decode cX5_count 183 = .ok (.isub, 1) := by decide +kernel
theorem dX5_count_184 : decode cX5_count 184 = .ok (.invokevirtual 106, 3) := by decide +kernel
theorem dX5_count_187 : decode cX5_count 187 = .ok (.ireturn, 1) := by decide +kernel
theorem dX5_undo_0 : decode cX5_undo 0 = .ok (.aload_n 0, 1) := by decide +kernel
theorem dX5_undo_1 : decode cX5_undo 1 = .ok (.getfield 19, 3) := by decide +kernel
theorem dX5_undo_4 : decode cX5_undo 4 = .ok (.getfield 100, 3) := by decide +kernel
theorem dX5_undo_7 : decode cX5_undo 7 = .ok (.ifCond .ne 6, 3) := by decide +kernel
theorem dX5_undo_10 : decode cX5_undo 10 = .ok (.bipush (-2), 2) := by decide +kernel
theorem dX5_undo_12 : decode cX5_undo 12 = .ok (.ireturn, 1) := by decide +kernel
theorem dX5_undo_13 : decode cX5_undo 13 = .ok (.aload_n 0, 1) := by decide +kernel
theorem dX5_undo_14 : decode cX5_undo 14 = .ok (.getfield 19, 3) := by decide +kernel
theorem dX5_undo_17 : decode cX5_undo 17 = .ok (.aload_n 0, 1) := by decide +kernel
theorem dX5_undo_18 : decode cX5_undo 18 = .ok (.getfield 12, 3) := by decide +kernel
theorem dX5_undo_21 : decode cX5_undo 21 = .ok (.invokevirtual 109, 3) := by decide +kernel
theorem dX5_undo_24 : decode cX5_undo 24 = .ok (.aload_n 0, 1) := by decide +kernel
theorem dX5_undo_25 : decode cX5_undo 25 = .ok (.getfield 19, 3) := by decide +kernel
theorem dX5_undo_28 : decode cX5_undo 28 = .ok (.getfield 100, 3) := by decide +kernel
theorem dX5_undo_31 : decode cX5_undo 31 = .ok (.ireturn, 1) := by decide +kernel
theorem dX5_disk_0 : decode cX5_disk 0 = .ok (.iload_n 1, 1) := by decide +kernel
theorem dX5_disk_1 : decode cX5_disk 1 = .ok (.iload_n 2, 1) := by decide +kernel
theorem dX5_disk_2 : decode cX5_disk 2 = .ok (.invokestatic 112, 3) := by decide +kernel
theorem dX5_disk_5 : decode cX5_disk 5 = .ok (.ifCond .eq 14, 3) := by decide +kernel
theorem dX5_disk_8 : decode cX5_disk 8 = .ok (.iload_n 3, 1) := by decide +kernel
theorem dX5_disk_9 : decode cX5_disk 9 = .ok (.bipush (-9), 2) := by decide +kernel
theorem dX5_disk_11 : decode cX5_disk 11 = .ok (.bipush 9, 2) := by decide +kernel
theorem dX5_disk_13 : decode cX5_disk 13 = .ok (.invokestatic 44, 3) := by decide +kernel
theorem dX5_disk_16 : decode cX5_disk 16 = .ok (.ifCond .eq 5, 3) := by decide +kernel
theorem dX5_disk_19 : decode cX5_disk 19 = .ok (.iconst (-1), 1) := by decide +kernel
theorem dX5_disk_20 : decode cX5_disk 20 = .ok (.ireturn, 1) := by decide +kernel
theorem dX5_disk_21 : decode cX5_disk 21 = .ok (.aload_n 0, 1) := by decide +kernel
theorem dX5_disk_22 : decode cX5_disk 22 = .ok (.getfield 19, 3) := by decide +kernel
theorem dX5_disk_25 : decode cX5_disk 25 = .ok (.aload_n 0, 1) := by decide +kernel
theorem dX5_disk_26 : decode cX5_disk 26 = .ok (.getfield 12, 3) := by decide +kernel
theorem dX5_disk_29 : decode cX5_disk 29 = .ok (.invokevirtual 53, 3) := by decide +kernel
theorem dX5_disk_32 : decode cX5_disk 32 = .ok (.aload_n 0, 1) := by decide +kernel
theorem dX5_disk_33 : decode cX5_disk 33 = .ok (.getfield 12, 3) := by decide +kernel
theorem dX5_disk_36 : decode cX5_disk 36 = .ok (.getfield 116, 3) := by decide +kernel
theorem dX5_disk_39 : decode cX5_disk 39 = .ok (.iload_n 1, 1) := by decide +kernel
theorem dX5_disk_40 : decode cX5_disk 40 = .ok (.iload_n 2, 1) := by decide +kernel
theorem dX5_disk_41 : decode cX5_disk 41 = .ok (.invokestatic 120, 3) := by decide +kernel
theorem dX5_disk_44 : decode cX5_disk 44 = .ok (.invokestatic 124, 3) := by decide +kernel
theorem dX5_disk_47 : decode cX5_disk 47 = .ok (.istore 4, 2) := by decide +kernel
theorem dX5_disk_49 : decode cX5_disk 49 = .ok (.aload_n 0, 1) := by decide +kernel
theorem dX5_disk_50 : decode cX5_disk 50 = .ok (.getfield 12, 3) := by decide +kernel
theorem dX5_disk_53 : decode cX5_disk 53 = .ok (.getfield 116, 3) := by decide +kernel
theorem dX5_disk_56 : decode cX5_disk 56 = .ok (.iload_n 1, 1) := by decide +kernel
theorem dX5_disk_57 : decode cX5_disk 57 = .ok (.iload_n 2, 1) := by decide +kernel
theorem dX5_disk_58 : decode cX5_disk 58 = .ok (.invokestatic 120, 3) := by decide +kernel
theorem dX5_disk_61 : decode cX5_disk 61 = .ok (.iload_n 3, 1) := by decide +kernel
theorem dX5_disk_62 : decode cX5_disk 62 = .ok (.invokestatic 128, 3) := by decide +kernel
theorem dX5_disk_65 : decode cX5_disk 65 = .ok (.iload 4, 2) := by decide +kernel
theorem dX5_disk_67 : decode cX5_disk 67 = .ok (.bipush 100, 2) := by decide +kernel
theorem dX5_disk_69 : decode cX5_disk 69 = .ok (.iadd, 1) := by decide +kernel
theorem dX5_disk_70 : decode cX5_disk 70 = .ok (.ireturn, 1) := by decide +kernel
theorem dX5_noise_0 : decode cX5_noise 0 = .ok (.iload_n 1, 1) := by decide +kernel
theorem dX5_noise_1 : decode cX5_noise 1 = .ok (.invokestatic 132, 3) := by decide +kernel
theorem dX5_noise_4 : decode cX5_noise 4 = .ok (.ifCond .eq 14, 3) := by decide +kernel
theorem dX5_noise_7 : decode cX5_noise 7 = .ok (.iload_n 2, 1) := by decide +kernel
theorem dX5_noise_8 : decode cX5_noise 8 = .ok (.bipush (-9), 2) := by decide +kernel
theorem dX5_noise_10 : decode cX5_noise 10 = .ok (.bipush 9, 2) := by decide +kernel
theorem dX5_noise_12 : decode cX5_noise 12 = .ok (.invokestatic 44, 3) := by decide +kernel
theorem dX5_noise_15 : decode cX5_noise 15 = .ok (.ifCond .eq 5, 3) := by decide +kernel
theorem dX5_noise_18 : decode cX5_noise 18 = .ok (.iconst (-1), 1) := by decide +kernel
theorem dX5_noise_19 : decode cX5_noise 19 = .ok (.ireturn, 1) := by decide +kernel
theorem dX5_noise_20 : decode cX5_noise 20 = .ok (.aload_n 0, 1) := by decide +kernel
theorem dX5_noise_21 : decode cX5_noise 21 = .ok (.getfield 19, 3) := by decide +kernel
theorem dX5_noise_24 : decode cX5_noise 24 = .ok (.aload_n 0, 1) := by decide +kernel
theorem dX5_noise_25 : decode cX5_noise 25 = .ok (.getfield 12, 3) := by decide +kernel
theorem dX5_noise_28 : decode cX5_noise 28 = .ok (.invokevirtual 53, 3) := by decide +kernel
theorem dX5_noise_31 : decode cX5_noise 31 = .ok (.aload_n 0, 1) := by decide +kernel
theorem dX5_noise_32 : decode cX5_noise 32 = .ok (.getfield 12, 3) := by decide +kernel
theorem dX5_noise_35 : decode cX5_noise 35 = .ok (.getfield 136, 3) := by decide +kernel
theorem dX5_noise_38 : decode cX5_noise 38 = .ok (.iload_n 1, 1) := by decide +kernel
theorem dX5_noise_39 : decode cX5_noise 39 = .ok (.invokestatic 124, 3) := by decide +kernel
theorem dX5_noise_42 : decode cX5_noise 42 = .ok (.istore_n 3, 1) := by decide +kernel
theorem dX5_noise_43 : decode cX5_noise 43 = .ok (.aload_n 0, 1) := by decide +kernel
theorem dX5_noise_44 : decode cX5_noise 44 = .ok (.getfield 12, 3) := by decide +kernel
theorem dX5_noise_47 : decode cX5_noise 47 = .ok (.getfield 136, 3) := by decide +kernel
theorem dX5_noise_50 : decode cX5_noise 50 = .ok (.iload_n 1, 1) := by decide +kernel
theorem dX5_noise_51 : decode cX5_noise 51 = .ok (.iload_n 2, 1) := by decide +kernel
theorem dX5_noise_52 : decode cX5_noise 52 = .ok (.invokestatic 128, 3) := by decide +kernel
theorem dX5_noise_55 : decode cX5_noise 55 = .ok (.iload_n 3, 1) := by decide +kernel
theorem dX5_noise_56 : decode cX5_noise 56 = .ok (.bipush 100, 2) := by decide +kernel
theorem dX5_noise_58 : decode cX5_noise 58 = .ok (.iadd, 1) := by decide +kernel
theorem dX5_noise_59 : decode cX5_noise 59 = .ok (.ireturn, 1) := by decide +kernel
theorem dX5_set_0 : decode cX5_set 0 = .ok (.iload_n 1, 1) := by decide +kernel
theorem dX5_set_1 : decode cX5_set 1 = .ok (.iconst 0, 1) := by decide +kernel
theorem dX5_set_2 : decode cX5_set 2 = .ok (.iconst 3, 1) := by decide +kernel
theorem dX5_set_3 : decode cX5_set 3 = .ok (.invokestatic 44, 3) := by decide +kernel
theorem dX5_set_6 : decode cX5_set 6 = .ok (.ifCond .ne 24, 3) := by decide +kernel
theorem dX5_set_9 : decode cX5_set 9 = .ok (.iload_n 2, 1) := by decide +kernel
theorem dX5_set_10 : decode cX5_set 10 = .ok (.getstatic 139, 3) := by decide +kernel
theorem dX5_set_13 : decode cX5_set 13 = .ok (.iload_n 1, 1) := by decide +kernel
theorem dX5_set_14 : decode cX5_set 14 = .ok (.invokestatic 124, 3) := by decide +kernel
theorem dX5_set_17 : decode cX5_set 17 = .ok (.getstatic 142, 3) := by decide +kernel
theorem dX5_set_20 : decode cX5_set 20 = .ok (.iload_n 1, 1) := by decide +kernel
theorem dX5_set_21 : decode cX5_set 21 = .ok (.invokestatic 124, 3) := by decide +kernel
theorem dX5_set_24 : decode cX5_set 24 = .ok (.invokestatic 44, 3) := by decide +kernel
theorem dX5_set_27 : decode cX5_set 27 = .ok (.ifCond .eq 5, 3) := by decide +kernel
theorem dX5_set_30 : decode cX5_set 30 = .ok (.iconst (-1), 1) := by decide +kernel
theorem dX5_set_31 : decode cX5_set 31 = .ok (.ireturn, 1) := by decide +kernel
theorem dX5_set_32 : decode cX5_set 32 = .ok (.aload_n 0, 1) := by decide +kernel
theorem dX5_set_33 : decode cX5_set 33 = .ok (.getfield 19, 3) := by decide +kernel
theorem dX5_set_36 : decode cX5_set 36 = .ok (.aload_n 0, 1) := by decide +kernel
theorem dX5_set_37 : decode cX5_set 37 = .ok (.getfield 12, 3) := by decide +kernel
theorem dX5_set_40 : decode cX5_set 40 = .ok (.invokevirtual 53, 3) := by decide +kernel
theorem dX5_set_43 : decode cX5_set 43 = .ok (.aload_n 0, 1) := by decide +kernel
theorem dX5_set_44 : decode cX5_set 44 = .ok (.iload_n 1, 1) := by decide +kernel
theorem dX5_set_45 : decode cX5_set 45 = .ok (.invokevirtual 145, 3) := by decide +kernel
theorem dX5_set_48 : decode cX5_set 48 = .ok (.istore_n 3, 1) := by decide +kernel
theorem dX5_set_49 : decode cX5_set 49 = .ok (.aload_n 0, 1) := by decide +kernel
theorem dX5_set_50 : decode cX5_set 50 = .ok (.getfield 12, 3) := by decide +kernel
theorem dX5_set_53 : decode cX5_set 53 = .ok (.getfield 148, 3) := by decide +kernel
theorem dX5_set_56 : decode cX5_set 56 = .ok (.iload_n 1, 1) := by decide +kernel
theorem dX5_set_57 : decode cX5_set 57 = .ok (.iload_n 2, 1) := by decide +kernel
theorem dX5_set_58 : decode cX5_set 58 = .ok (.invokestatic 128, 3) := by decide +kernel
theorem dX5_set_61 : decode cX5_set 61 = .ok (.iload_n 3, 1) := by decide +kernel
theorem dX5_set_62 : decode cX5_set 62 = .ok (.ireturn, 1) := by decide +kernel
theorem dX5_reading_0 : decode cX5_reading 0 = .ok (.iload_n 1, 1) := by decide +kernel
theorem dX5_reading_1 : decode cX5_reading 1 = .ok (.invokestatic 132, 3) := by decide +kernel
theorem dX5_reading_4 : decode cX5_reading 4 = .ok (.ifCond .eq 21, 3) := by decide +kernel
theorem dX5_reading_7 : decode cX5_reading 7 = .ok (.aload_n 0, 1) := by decide +kernel
theorem dX5_reading_8 : decode cX5_reading 8 = .ok (.getfield 12, 3) := by decide +kernel
theorem dX5_reading_11 : decode cX5_reading 11 = .ok (.iload_n 1, 1) := by decide +kernel
theorem dX5_reading_12 : decode cX5_reading 12 = .ok (.aload_n 0, 1) := by decide +kernel
theorem dX5_reading_13 : decode cX5_reading 13 = .ok (.getfield 12, 3) := by decide +kernel
theorem dX5_reading_16 : decode cX5_reading 16 = .ok (.invokevirtual 81, 3) := by decide +kernel
theorem dX5_reading_19 : decode cX5_reading 19 = .ok (.invokevirtual 151, 3) := by decide +kernel
theorem dX5_reading_22 : decode cX5_reading 22 = .ok (.goto 4, 3) := by decide +kernel
theorem dX5_reading_25 : decode cX5_reading 25 = .ok (.iconst (-1), 1) := by decide +kernel
theorem dX5_reading_26 : decode cX5_reading 26 = .ok (.ireturn, 1) := by decide +kernel
theorem dX5_found_0 : decode cX5_found 0 = .ok (.iconst 0, 1) := by decide +kernel
theorem dX5_found_1 : decode cX5_found 1 = .ok (.iload_n 1, 1) := by decide +kernel
theorem dX5_found_2 : decode cX5_found 2 = .ok (.invokestatic 154, 3) := by decide +kernel
theorem dX5_found_5 : decode cX5_found 5 = .ok (.ifCond .eq 29, 3) := by decide +kernel
theorem dX5_found_8 : decode cX5_found 8 = .ok (.iconst 1, 1) := by decide +kernel
theorem dX5_found_9 : decode cX5_found 9 = .ok (.iload_n 2, 1) := by decide +kernel
theorem dX5_found_10 : decode cX5_found 10 = .ok (.invokestatic 154, 3) := by decide +kernel
theorem dX5_found_13 : decode cX5_found 13 = .ok (.ifCond .eq 21, 3) := by decide +kernel
theorem dX5_found_16 : decode cX5_found 16 = .ok (.iconst 2, 1) := by decide +kernel
theorem dX5_found_17 : decode cX5_found 17 = .ok (.iload_n 3, 1) := by decide +kernel
theorem dX5_found_18 : decode cX5_found 18 = .ok (.invokestatic 154, 3) := by decide +kernel
theorem dX5_found_21 : decode cX5_found 21 = .ok (.ifCond .eq 13, 3) := by decide +kernel
theorem dX5_found_24 : decode cX5_found 24 = .ok (.iload 4, 2) := by decide +kernel
theorem dX5_found_26 : decode cX5_found 26 = .ok (.iconst 0, 1) := by decide +kernel
theorem dX5_found_27 : decode cX5_found 27 = .ok (.iconst 1, 1) := by decide +kernel
theorem dX5_found_28 : decode cX5_found 28 = .ok (.invokestatic 44, 3) := by decide +kernel
theorem dX5_found_31 : decode cX5_found 31 = .ok (.ifCond .eq 5, 3) := by decide +kernel
theorem dX5_found_34 : decode cX5_found 34 = .ok (.iconst (-1), 1) := by decide +kernel
theorem dX5_found_35 : decode cX5_found 35 = .ok (.ireturn, 1) := by decide +kernel
theorem dX5_found_36 : decode cX5_found 36 = .ok (.iload_n 1, 1) := by decide +kernel
theorem dX5_found_37 : decode cX5_found 37 = .ok (.iload_n 2, 1) := by decide +kernel
theorem dX5_found_38 : decode cX5_found 38 = .ok (.iload_n 3, 1) := by decide +kernel
theorem dX5_found_39 : decode cX5_found 39 = .ok (.invokestatic 157, 3) := by decide +kernel
theorem dX5_found_42 : decode cX5_found 42 = .ok (.istore 5, 2) := by decide +kernel
theorem dX5_found_44 : decode cX5_found 44 = .ok (.iload 4, 2) := by decide +kernel
theorem dX5_found_46 : decode cX5_found 46 = .ok (.ifCond .ne 8, 3) := by decide +kernel
theorem dX5_found_49 : decode cX5_found 49 = .ok (.iload 5, 2) := by decide +kernel
theorem dX5_found_51 : decode cX5_found 51 = .ok (.goto 11, 3) := by decide +kernel
theorem dX5_found_54 : decode cX5_found 54 = .ok (.iload 5, 2) := by decide +kernel
theorem dX5_found_56 : decode cX5_found 56 = .ok (.iload_n 1, 1) := by decide +kernel
theorem dX5_found_57 : decode cX5_found 57 = .ok (.iload_n 2, 1) := by decide +kernel
theorem dX5_found_58 : decode cX5_found 58 = .ok (.iload_n 3, 1) := by decide +kernel
theorem dX5_found_59 : decode cX5_found 59 = .ok (.invokestatic 161, 3) := by decide +kernel
theorem dX5_found_62 : decode cX5_found 62 = .ok (.ireturn, 1) := by decide +kernel
theorem dX5_byTwo_0 : decode cX5_byTwo 0 = .ok (.iload_n 1, 1) := by decide +kernel
theorem dX5_byTwo_1 : decode cX5_byTwo 1 = .ok (.invokestatic 132, 3) := by decide +kernel
theorem dX5_byTwo_4 : decode cX5_byTwo 4 = .ok (.ifCond .eq 32, 3) := by decide +kernel
theorem dX5_byTwo_7 : decode cX5_byTwo 7 = .ok (.iload_n 3, 1) := by decide +kernel
theorem dX5_byTwo_8 : decode cX5_byTwo 8 = .ok (.invokestatic 132, 3) := by decide +kernel
theorem dX5_byTwo_11 : decode cX5_byTwo 11 = .ok (.ifCond .eq 25, 3) := by decide +kernel
theorem dX5_byTwo_14 : decode cX5_byTwo 14 = .ok (.iload_n 1, 1) := by decide +kernel
theorem dX5_byTwo_15 : decode cX5_byTwo 15 = .ok (.iload_n 3, 1) := by decide +kernel
theorem dX5_byTwo_16 : decode cX5_byTwo 16 = .ok (.if_icmp .eq 20, 3) := by decide +kernel
theorem dX5_byTwo_19 : decode cX5_byTwo 19 = .ok (.iload_n 1, 1) := by decide +kernel
theorem dX5_byTwo_20 : decode cX5_byTwo 20 = .ok (.iload_n 2, 1) := by decide +kernel
theorem dX5_byTwo_21 : decode cX5_byTwo 21 = .ok (.invokestatic 154, 3) := by decide +kernel
theorem dX5_byTwo_24 : decode cX5_byTwo 24 = .ok (.ifCond .eq 12, 3) := by decide +kernel
theorem dX5_byTwo_27 : decode cX5_byTwo 27 = .ok (.iload_n 3, 1) := by decide +kernel
theorem dX5_byTwo_28 : decode cX5_byTwo 28 = .ok (.iload 4, 2) := by decide +kernel
theorem dX5_byTwo_30 : decode cX5_byTwo 30 = .ok (.invokestatic 154, 3) := by decide +kernel
theorem dX5_byTwo_33 : decode cX5_byTwo 33 = .ok (.ifCond .ne 5, 3) := by decide +kernel
theorem dX5_byTwo_36 : decode cX5_byTwo 36 = .ok (.iconst (-1), 1) := by decide +kernel
theorem dX5_byTwo_37 : decode cX5_byTwo 37 = .ok (.ireturn, 1) := by decide +kernel
theorem dX5_byTwo_38 : decode cX5_byTwo 38 = .ok (.iconst 0, 1) := by decide +kernel
theorem dX5_byTwo_39 : decode cX5_byTwo 39 = .ok (.istore 5, 2) := by decide +kernel
theorem dX5_byTwo_41 : decode cX5_byTwo 41 = .ok (.iload 5, 2) := by decide +kernel
theorem dX5_byTwo_43 : decode cX5_byTwo 43 = .ok (.sipush 4080, 3) := by decide +kernel
theorem dX5_byTwo_46 : decode cX5_byTwo 46 = .ok (.if_icmp .ge 45, 3) := by decide +kernel
theorem dX5_byTwo_49 : decode cX5_byTwo 49 = .ok (.iload 5, 2) := by decide +kernel
theorem dX5_byTwo_51 : decode cX5_byTwo 51 = .ok (.getstatic 165, 3) := by decide +kernel
theorem dX5_byTwo_54 : decode cX5_byTwo 54 = .ok (.iload_n 1, 1) := by decide +kernel
theorem dX5_byTwo_55 : decode cX5_byTwo 55 = .ok (.invokestatic 124, 3) := by decide +kernel
theorem dX5_byTwo_58 : decode cX5_byTwo 58 = .ok (.invokestatic 168, 3) := by decide +kernel
theorem dX5_byTwo_61 : decode cX5_byTwo 61 = .ok (.iload_n 2, 1) := by decide +kernel
theorem dX5_byTwo_62 : decode cX5_byTwo 62 = .ok (.if_icmp .ne 23, 3) := by decide +kernel
theorem dX5_byTwo_65 : decode cX5_byTwo 65 = .ok (.iload 5, 2) := by decide +kernel
theorem dX5_byTwo_67 : decode cX5_byTwo 67 = .ok (.getstatic 165, 3) := by decide +kernel
theorem dX5_byTwo_70 : decode cX5_byTwo 70 = .ok (.iload_n 3, 1) := by decide +kernel
theorem dX5_byTwo_71 : decode cX5_byTwo 71 = .ok (.invokestatic 124, 3) := by decide +kernel
theorem dX5_byTwo_74 : decode cX5_byTwo 74 = .ok (.invokestatic 168, 3) := by decide +kernel
theorem dX5_byTwo_77 : decode cX5_byTwo 77 = .ok (.iload 4, 2) := by decide +kernel
theorem dX5_byTwo_79 : decode cX5_byTwo 79 = .ok (.if_icmp .ne 6, 3) := by decide +kernel
theorem dX5_byTwo_82 : decode cX5_byTwo 82 = .ok (.iload 5, 2) := by decide +kernel
theorem dX5_byTwo_84 : decode cX5_byTwo 84 = .ok (.ireturn, 1) := by decide +kernel
theorem dX5_byTwo_85 : decode cX5_byTwo 85 = .ok (.iinc 5 1, 3) := by decide +kernel
theorem dX5_byTwo_88 : decode cX5_byTwo 88 = .ok (.goto (-47), 3) := by decide +kernel
theorem dX5_byTwo_91 : decode cX5_byTwo 91 = .ok (.bipush (-4), 2) := by decide +kernel
theorem dX5_byTwo_93 : decode cX5_byTwo 93 = .ok (.ireturn, 1) := by decide +kernel
theorem dX5_correct_0 : decode cX5_correct 0 = .ok (.iload_n 1, 1) := by decide +kernel
theorem dX5_correct_1 : decode cX5_correct 1 = .ok (.iload_n 2, 1) := by decide +kernel
theorem dX5_correct_2 : decode cX5_correct 2 = .ok (.invokestatic 112, 3) := by decide +kernel
theorem dX5_correct_5 : decode cX5_correct 5 = .ok (.ifCond .eq 14, 3) := by decide +kernel
theorem dX5_correct_8 : decode cX5_correct 8 = .ok (.iload_n 3, 1) := by decide +kernel
theorem dX5_correct_9 : decode cX5_correct 9 = .ok (.bipush (-20), 2) := by decide +kernel
theorem dX5_correct_11 : decode cX5_correct 11 = .ok (.bipush 20, 2) := by decide +kernel
theorem dX5_correct_13 : decode cX5_correct 13 = .ok (.invokestatic 44, 3) := by decide +kernel
theorem dX5_correct_16 : decode cX5_correct 16 = .ok (.ifCond .eq 5, 3) := by decide +kernel
theorem dX5_correct_19 : decode cX5_correct 19 = .ok (.iconst (-1), 1) := by decide +kernel
theorem dX5_correct_20 : decode cX5_correct 20 = .ok (.ireturn, 1) := by decide +kernel
theorem dX5_correct_21 : decode cX5_correct 21 = .ok (.aload_n 0, 1) := by decide +kernel
theorem dX5_correct_22 : decode cX5_correct 22 = .ok (.getfield 19, 3) := by decide +kernel
theorem dX5_correct_25 : decode cX5_correct 25 = .ok (.aload_n 0, 1) := by decide +kernel
theorem dX5_correct_26 : decode cX5_correct 26 = .ok (.getfield 12, 3) := by decide +kernel
theorem dX5_correct_29 : decode cX5_correct 29 = .ok (.invokevirtual 53, 3) := by decide +kernel
theorem dX5_correct_32 : decode cX5_correct 32 = .ok (.aload_n 0, 1) := by decide +kernel
theorem dX5_correct_33 : decode cX5_correct 33 = .ok (.getfield 12, 3) := by decide +kernel
theorem dX5_correct_36 : decode cX5_correct 36 = .ok (.getfield 171, 3) := by decide +kernel
theorem dX5_correct_39 : decode cX5_correct 39 = .ok (.iload_n 1, 1) := by decide +kernel
theorem dX5_correct_40 : decode cX5_correct 40 = .ok (.iload_n 2, 1) := by decide +kernel
theorem dX5_correct_41 : decode cX5_correct 41 = .ok (.invokestatic 120, 3) := by decide +kernel
theorem dX5_correct_44 : decode cX5_correct 44 = .ok (.invokestatic 124, 3) := by decide +kernel
theorem dX5_correct_47 : decode cX5_correct 47 = .ok (.istore 4, 2) := by decide +kernel
theorem dX5_correct_49 : decode cX5_correct 49 = .ok (.aload_n 0, 1) := by decide +kernel
theorem dX5_correct_50 : decode cX5_correct 50 = .ok (.getfield 12, 3) := by decide +kernel
theorem dX5_correct_53 : decode cX5_correct 53 = .ok (.getfield 171, 3) := by decide +kernel
theorem dX5_correct_56 : decode cX5_correct 56 = .ok (.iload_n 1, 1) := by decide +kernel
theorem dX5_correct_57 : decode cX5_correct 57 = .ok (.iload_n 2, 1) := by decide +kernel
theorem dX5_correct_58 : decode cX5_correct 58 = .ok (.invokestatic 120, 3) := by decide +kernel
theorem dX5_correct_61 : decode cX5_correct 61 = .ok (.iload_n 3, 1) := by decide +kernel
theorem dX5_correct_62 : decode cX5_correct 62 = .ok (.invokestatic 128, 3) := by decide +kernel
theorem dX5_correct_65 : decode cX5_correct 65 = .ok (.iload 4, 2) := by decide +kernel
theorem dX5_correct_67 : decode cX5_correct 67 = .ok (.bipush 100, 2) := by decide +kernel
theorem dX5_correct_69 : decode cX5_correct 69 = .ok (.iadd, 1) := by decide +kernel
theorem dX5_correct_70 : decode cX5_correct 70 = .ok (.ireturn, 1) := by decide +kernel
theorem dX5_correction_0 : decode cX5_correction 0 = .ok (.iload_n 1, 1) := by decide +kernel
theorem dX5_correction_1 : decode cX5_correction 1 = .ok (.iload_n 2, 1) := by decide +kernel
theorem dX5_correction_2 : decode cX5_correction 2 = .ok (.invokestatic 112, 3) := by decide +kernel
theorem dX5_correction_5 : decode cX5_correction 5 = .ok (.ifCond .ne 5, 3) := by decide +kernel
theorem dX5_correction_8 : decode cX5_correction 8 = .ok (.iconst (-1), 1) := by decide +kernel
theorem dX5_correction_9 : decode cX5_correction 9 = .ok (.ireturn, 1) := by decide +kernel
theorem dX5_correction_10 : decode cX5_correction 10 = .ok (.aload_n 0, 1) := by decide +kernel
theorem dX5_correction_11 : decode cX5_correction 11 = .ok (.getfield 12, 3) := by decide +kernel
theorem dX5_correction_14 : decode cX5_correction 14 = .ok (.getfield 171, 3) := by decide +kernel
theorem dX5_correction_17 : decode cX5_correction 17 = .ok (.iload_n 1, 1) := by decide +kernel
theorem dX5_correction_18 : decode cX5_correction 18 = .ok (.iload_n 2, 1) := by decide +kernel
theorem dX5_correction_19 : decode cX5_correction 19 = .ok (.invokestatic 120, 3) := by decide +kernel
theorem dX5_correction_22 : decode cX5_correction 22 = .ok (.invokestatic 124, 3) := by decide +kernel
theorem dX5_correction_25 : decode cX5_correction 25 = .ok (.bipush 100, 2) := by decide +kernel
theorem dX5_correction_27 : decode cX5_correction 27 = .ok (.iadd, 1) := by decide +kernel
theorem dX5_correction_28 : decode cX5_correction 28 = .ok (.ireturn, 1) := by decide +kernel
theorem dX5_learn_0 : decode cX5_learn 0 = .ok (.iconst 0, 1) := by decide +kernel
theorem dX5_learn_1 : decode cX5_learn 1 = .ok (.istore_n 1, 1) := by decide +kernel
theorem dX5_learn_2 : decode cX5_learn 2 = .ok (.iload_n 1, 1) := by decide +kernel
theorem dX5_learn_3 : decode cX5_learn 3 = .ok (.iconst 3, 1) := by decide +kernel
theorem dX5_learn_4 : decode cX5_learn 4 = .ok (.if_icmp .ge 30, 3) := by decide +kernel
theorem dX5_learn_7 : decode cX5_learn 7 = .ok (.aload_n 0, 1) := by decide +kernel
theorem dX5_learn_8 : decode cX5_learn 8 = .ok (.getfield 12, 3) := by decide +kernel
theorem dX5_learn_11 : decode cX5_learn 11 = .ok (.iload_n 1, 1) := by decide +kernel
theorem dX5_learn_12 : decode cX5_learn 12 = .ok (.invokevirtual 174, 3) := by decide +kernel
theorem dX5_learn_15 : decode cX5_learn 15 = .ok (.bipush (-20), 2) := by decide +kernel
theorem dX5_learn_17 : decode cX5_learn 17 = .ok (.bipush 20, 2) := by decide +kernel
theorem dX5_learn_19 : decode cX5_learn 19 = .ok (.invokestatic 44, 3) := by decide +kernel
theorem dX5_learn_22 : decode cX5_learn 22 = .ok (.ifCond .eq 6, 3) := by decide +kernel
theorem dX5_learn_25 : decode cX5_learn 25 = .ok (.bipush (-2), 2) := by decide +kernel
theorem dX5_learn_27 : decode cX5_learn 27 = .ok (.ireturn, 1) := by decide +kernel
theorem dX5_learn_28 : decode cX5_learn 28 = .ok (.iinc 1 1, 3) := by decide +kernel
theorem dX5_learn_31 : decode cX5_learn 31 = .ok (.goto (-29), 3) := by decide +kernel
theorem dX5_learn_34 : decode cX5_learn 34 = .ok (.aload_n 0, 1) := by decide +kernel
theorem dX5_learn_35 : decode cX5_learn 35 = .ok (.getfield 19, 3) := by decide +kernel
theorem dX5_learn_38 : decode cX5_learn 38 = .ok (.aload_n 0, 1) := by decide +kernel
theorem dX5_learn_39 : decode cX5_learn 39 = .ok (.getfield 12, 3) := by decide +kernel
theorem dX5_learn_42 : decode cX5_learn 42 = .ok (.invokevirtual 53, 3) := by decide +kernel
theorem dX5_learn_45 : decode cX5_learn 45 = .ok (.aload_n 0, 1) := by decide +kernel
theorem dX5_learn_46 : decode cX5_learn 46 = .ok (.getfield 12, 3) := by decide +kernel
theorem dX5_learn_49 : decode cX5_learn 49 = .ok (.invokevirtual 81, 3) := by decide +kernel
theorem dX5_learn_52 : decode cX5_learn 52 = .ok (.invokestatic 177, 3) := by decide +kernel
theorem dX5_learn_55 : decode cX5_learn 55 = .ok (.istore_n 1, 1) := by decide +kernel
theorem dX5_learn_56 : decode cX5_learn 56 = .ok (.iconst 0, 1) := by decide +kernel
theorem dX5_learn_57 : decode cX5_learn 57 = .ok (.istore_n 2, 1) := by decide +kernel
theorem dX5_learn_58 : decode cX5_learn 58 = .ok (.iconst 0, 1) := by decide +kernel
theorem dX5_learn_59 : decode cX5_learn 59 = .ok (.istore_n 3, 1) := by decide +kernel
theorem dX5_learn_60 : decode cX5_learn 60 = .ok (.iload_n 3, 1) := by decide +kernel
theorem dX5_learn_61 : decode cX5_learn 61 = .ok (.iconst 3, 1) := by decide +kernel
theorem dX5_learn_62 : decode cX5_learn 62 = .ok (.if_icmp .ge 59, 3) := by decide +kernel
theorem dX5_learn_65 : decode cX5_learn 65 = .ok (.aload_n 0, 1) := by decide +kernel
theorem dX5_learn_66 : decode cX5_learn 66 = .ok (.getfield 12, 3) := by decide +kernel
theorem dX5_learn_69 : decode cX5_learn 69 = .ok (.iload_n 3, 1) := by decide +kernel
theorem dX5_learn_70 : decode cX5_learn 70 = .ok (.invokevirtual 174, 3) := by decide +kernel
theorem dX5_learn_73 : decode cX5_learn 73 = .ok (.istore 4, 2) := by decide +kernel
theorem dX5_learn_75 : decode cX5_learn 75 = .ok (.aload_n 0, 1) := by decide +kernel
theorem dX5_learn_76 : decode cX5_learn 76 = .ok (.getfield 12, 3) := by decide +kernel
theorem dX5_learn_79 : decode cX5_learn 79 = .ok (.getfield 171, 3) := by decide +kernel
theorem dX5_learn_82 : decode cX5_learn 82 = .ok (.iload_n 3, 1) := by decide +kernel
theorem dX5_learn_83 : decode cX5_learn 83 = .ok (.iload_n 1, 1) := by decide +kernel
theorem dX5_learn_84 : decode cX5_learn 84 = .ok (.invokestatic 120, 3) := by decide +kernel
theorem dX5_learn_87 : decode cX5_learn 87 = .ok (.invokestatic 124, 3) := by decide +kernel
theorem dX5_learn_90 : decode cX5_learn 90 = .ok (.iload 4, 2) := by decide +kernel
theorem dX5_learn_92 : decode cX5_learn 92 = .ok (.if_icmp .eq 6, 3) := by decide +kernel
theorem dX5_learn_95 : decode cX5_learn 95 = .ok (.iinc 2 1, 3) := by decide +kernel
theorem dX5_learn_98 : decode cX5_learn 98 = .ok (.aload_n 0, 1) := by decide +kernel
theorem dX5_learn_99 : decode cX5_learn 99 = .ok (.getfield 12, 3) := by decide +kernel
theorem dX5_learn_102 : decode cX5_learn 102 = .ok (.getfield 171, 3) := by decide +kernel
theorem dX5_learn_105 : decode cX5_learn 105 = .ok (.iload_n 3, 1) := by decide +kernel
theorem dX5_learn_106 : decode cX5_learn 106 = .ok (.iload_n 1, 1) := by decide +kernel
theorem dX5_learn_107 : decode cX5_learn 107 = .ok (.invokestatic 120, 3) := by decide +kernel
theorem dX5_learn_110 : decode cX5_learn 110 = .ok (.iload 4, 2) := by decide +kernel
theorem dX5_learn_112 : decode cX5_learn 112 = .ok (.invokestatic 128, 3) := by decide +kernel
theorem dX5_learn_115 : decode cX5_learn 115 = .ok (.iinc 3 1, 3) := by decide +kernel
theorem dX5_learn_118 : decode cX5_learn 118 = .ok (.goto (-58), 3) := by decide +kernel
theorem dX5_learn_121 : decode cX5_learn 121 = .ok (.iload_n 2, 1) := by decide +kernel
theorem dX5_learn_122 : decode cX5_learn 122 = .ok (.ireturn, 1) := by decide +kernel
theorem dX5_look_0 : decode cX5_look 0 = .ok (.iload_n 1, 1) := by decide +kernel
theorem dX5_look_1 : decode cX5_look 1 = .ok (.iconst 0, 1) := by decide +kernel
theorem dX5_look_2 : decode cX5_look 2 = .ok (.iconst 4, 1) := by decide +kernel
theorem dX5_look_3 : decode cX5_look 3 = .ok (.invokestatic 44, 3) := by decide +kernel
theorem dX5_look_6 : decode cX5_look 6 = .ok (.ifCond .eq 5, 3) := by decide +kernel
theorem dX5_look_9 : decode cX5_look 9 = .ok (.iconst (-1), 1) := by decide +kernel
theorem dX5_look_10 : decode cX5_look 10 = .ok (.ireturn, 1) := by decide +kernel
theorem dX5_look_11 : decode cX5_look 11 = .ok (.aload_n 0, 1) := by decide +kernel
theorem dX5_look_12 : decode cX5_look 12 = .ok (.getfield 26, 3) := by decide +kernel
theorem dX5_look_15 : decode cX5_look 15 = .ok (.aload_n 0, 1) := by decide +kernel
theorem dX5_look_16 : decode cX5_look 16 = .ok (.getfield 12, 3) := by decide +kernel
theorem dX5_look_19 : decode cX5_look 19 = .ok (.aload_n 0, 1) := by decide +kernel
theorem dX5_look_20 : decode cX5_look 20 = .ok (.getfield 12, 3) := by decide +kernel
theorem dX5_look_23 : decode cX5_look 23 = .ok (.invokevirtual 81, 3) := by decide +kernel
theorem dX5_look_26 : decode cX5_look 26 = .ok (.invokevirtual 180, 3) := by decide +kernel
theorem dX5_look_29 : decode cX5_look 29 = .ok (.iload_n 1, 1) := by decide +kernel
theorem dX5_look_30 : decode cX5_look 30 = .ok (.tableswitch 62 0 3 #[30, 38, 46, 54], 30) := by decide +kernel
theorem dX5_look_60 : decode cX5_look 60 = .ok (.aload_n 0, 1) := by decide +kernel
theorem dX5_look_61 : decode cX5_look 61 = .ok (.getfield 26, 3) := by decide +kernel
theorem dX5_look_64 : decode cX5_look 64 = .ok (.getfield 184, 3) := by decide +kernel
theorem dX5_look_67 : decode cX5_look 67 = .ok (.ireturn, 1) := by decide +kernel
theorem dX5_look_68 : decode cX5_look 68 = .ok (.aload_n 0, 1) := by decide +kernel
theorem dX5_look_69 : decode cX5_look 69 = .ok (.getfield 26, 3) := by decide +kernel
theorem dX5_look_72 : decode cX5_look 72 = .ok (.getfield 187, 3) := by decide +kernel
theorem dX5_look_75 : decode cX5_look 75 = .ok (.ireturn, 1) := by decide +kernel
theorem dX5_look_76 : decode cX5_look 76 = .ok (.aload_n 0, 1) := by decide +kernel
theorem dX5_look_77 : decode cX5_look 77 = .ok (.getfield 26, 3) := by decide +kernel
theorem dX5_look_80 : decode cX5_look 80 = .ok (.getfield 190, 3) := by decide +kernel
theorem dX5_look_83 : decode cX5_look 83 = .ok (.ireturn, 1) := by decide +kernel
theorem dX5_look_84 : decode cX5_look 84 = .ok (.aload_n 0, 1) := by decide +kernel
theorem dX5_look_85 : decode cX5_look 85 = .ok (.getfield 26, 3) := by decide +kernel
theorem dX5_look_88 : decode cX5_look 88 = .ok (.getfield 193, 3) := by decide +kernel
theorem dX5_look_91 : decode cX5_look 91 = .ok (.ireturn, 1) := by decide +kernel
theorem dX5_look_92 : decode cX5_look 92 = .ok (.aload_n 0, 1) := by decide +kernel
theorem dX5_look_93 : decode cX5_look 93 = .ok (.getfield 26, 3) := by decide +kernel
theorem dX5_look_96 : decode cX5_look 96 = .ok (.getfield 184, 3) := by decide +kernel
theorem dX5_look_99 : decode cX5_look 99 = .ok (.aload_n 0, 1) := by decide +kernel
theorem dX5_look_100 : decode cX5_look 100 = .ok (.getfield 12, 3) := by decide +kernel
theorem dX5_look_103 : decode cX5_look 103 = .ok (.invokevirtual 81, 3) := by decide +kernel
theorem dX5_look_106 : decode cX5_look 106 = .ok (.if_icmp .ne 7, 3) := by decide +kernel
theorem dX5_look_109 : decode cX5_look 109 = .ok (.iconst 1, 1) := by decide +kernel
theorem dX5_look_110 : decode cX5_look 110 = .ok (.goto 4, 3) := by decide +kernel
theorem dX5_look_113 : decode cX5_look 113 = .ok (.iconst 0, 1) := by decide +kernel
theorem dX5_look_114 : decode cX5_look 114 = .ok (.invokestatic 71, 3) := by decide +kernel
theorem dX5_look_117 : decode cX5_look 117 = .ok (.ireturn, 1) := by decide +kernel
theorem dX5_survey_0 : decode cX5_survey 0 = .ok (.iload_n 1, 1) := by decide +kernel
theorem dX5_survey_1 : decode cX5_survey 1 = .ok (.bipush 102, 2) := by decide +kernel
theorem dX5_survey_3 : decode cX5_survey 3 = .ok (.sipush 4080, 3) := by decide +kernel
theorem dX5_survey_6 : decode cX5_survey 6 = .ok (.invokestatic 44, 3) := by decide +kernel
theorem dX5_survey_9 : decode cX5_survey 9 = .ok (.ifCond .ne 12, 3) := by decide +kernel
theorem dX5_survey_12 : decode cX5_survey 12 = .ok (.iload_n 2, 1) := by decide +kernel
theorem dX5_survey_13 : decode cX5_survey 13 = .ok (.iconst 0, 1) := by decide +kernel
theorem dX5_survey_14 : decode cX5_survey 14 = .ok (.iconst 2, 1) := by decide +kernel
theorem dX5_survey_15 : decode cX5_survey 15 = .ok (.invokestatic 44, 3) := by decide +kernel
theorem dX5_survey_18 : decode cX5_survey 18 = .ok (.ifCond .eq 5, 3) := by decide +kernel
theorem dX5_survey_21 : decode cX5_survey 21 = .ok (.iconst (-1), 1) := by decide +kernel
theorem dX5_survey_22 : decode cX5_survey 22 = .ok (.ireturn, 1) := by decide +kernel
theorem dX5_survey_23 : decode cX5_survey 23 = .ok (.iconst 0, 1) := by decide +kernel
theorem dX5_survey_24 : decode cX5_survey 24 = .ok (.istore_n 3, 1) := by decide +kernel
theorem dX5_survey_25 : decode cX5_survey 25 = .ok (.bipush (-4), 2) := by decide +kernel
theorem dX5_survey_27 : decode cX5_survey 27 = .ok (.istore 4, 2) := by decide +kernel
theorem dX5_survey_29 : decode cX5_survey 29 = .ok (.iconst 0, 1) := by decide +kernel
theorem dX5_survey_30 : decode cX5_survey 30 = .ok (.istore 5, 2) := by decide +kernel
theorem dX5_survey_32 : decode cX5_survey 32 = .ok (.iconst 0, 1) := by decide +kernel
theorem dX5_survey_33 : decode cX5_survey 33 = .ok (.istore 6, 2) := by decide +kernel
theorem dX5_survey_35 : decode cX5_survey 35 = .ok (.iload 6, 2) := by decide +kernel
theorem dX5_survey_37 : decode cX5_survey 37 = .ok (.sipush 4080, 3) := by decide +kernel
theorem dX5_survey_40 : decode cX5_survey 40 = .ok (.if_icmp .ge 67, 3) := by decide +kernel
theorem dX5_survey_43 : decode cX5_survey 43 = .ok (.aload_n 0, 1) := by decide +kernel
theorem dX5_survey_44 : decode cX5_survey 44 = .ok (.getfield 26, 3) := by decide +kernel
theorem dX5_survey_47 : decode cX5_survey 47 = .ok (.aload_n 0, 1) := by decide +kernel
theorem dX5_survey_48 : decode cX5_survey 48 = .ok (.getfield 12, 3) := by decide +kernel
theorem dX5_survey_51 : decode cX5_survey 51 = .ok (.iload 6, 2) := by decide +kernel
theorem dX5_survey_53 : decode cX5_survey 53 = .ok (.invokevirtual 180, 3) := by decide +kernel
theorem dX5_survey_56 : decode cX5_survey 56 = .ok (.iload 5, 2) := by decide +kernel
theorem dX5_survey_58 : decode cX5_survey 58 = .ok (.aload_n 0, 1) := by decide +kernel
theorem dX5_survey_59 : decode cX5_survey 59 = .ok (.getfield 26, 3) := by decide +kernel
theorem dX5_survey_62 : decode cX5_survey 62 = .ok (.getfield 187, 3) := by decide +kernel
theorem dX5_survey_65 : decode cX5_survey 65 = .ok (.invokestatic 196, 3) := by decide +kernel
theorem dX5_survey_68 : decode cX5_survey 68 = .ok (.istore 5, 2) := by decide +kernel
theorem dX5_survey_70 : decode cX5_survey 70 = .ok (.aload_n 0, 1) := by decide +kernel
theorem dX5_survey_71 : decode cX5_survey 71 = .ok (.getfield 26, 3) := by decide +kernel
theorem dX5_survey_74 : decode cX5_survey 74 = .ok (.getfield 184, 3) := by decide +kernel
theorem dX5_survey_77 : decode cX5_survey 77 = .ok (.iload 6, 2) := by decide +kernel
theorem dX5_survey_79 : decode cX5_survey 79 = .ok (.if_icmp .eq 19, 3) := by decide +kernel
theorem dX5_survey_82 : decode cX5_survey 82 = .ok (.iload_n 3, 1) := by decide +kernel
theorem dX5_survey_83 : decode cX5_survey 83 = .ok (.ifCond .ne 8, 3) := by decide +kernel
theorem dX5_survey_86 : decode cX5_survey 86 = .ok (.iload 6, 2) := by decide +kernel
theorem dX5_survey_88 : decode cX5_survey 88 = .ok (.goto 5, 3) := by decide +kernel
theorem dX5_survey_91 : decode cX5_survey 91 = .ok (.iload 4, 2) := by decide +kernel
theorem dX5_survey_93 : decode cX5_survey 93 = .ok (.istore 4, 2) := by decide +kernel
theorem dX5_survey_95 : decode cX5_survey 95 = .ok (.iinc 3 1, 3) := by decide +kernel
theorem dX5_survey_98 : decode cX5_survey 98 = .ok (.iload 6, 2) := by decide +kernel
theorem dX5_survey_100 : decode cX5_survey 100 = .ok (.iload_n 1, 1) := by decide +kernel
theorem dX5_survey_101 : decode cX5_survey 101 = .ok (.iadd, 1) := by decide +kernel
theorem dX5_survey_102 : decode cX5_survey 102 = .ok (.istore 6, 2) := by decide +kernel
theorem dX5_survey_104 : decode cX5_survey 104 = .ok (.goto (-69), 3) := by decide +kernel
theorem dX5_survey_107 : decode cX5_survey 107 = .ok (.iload_n 2, 1) := by decide +kernel
theorem dX5_survey_108 : decode cX5_survey 108 = .ok (.lookupswitch 33 #[(0, 28), (1, 30)], 28) := by decide +kernel
theorem dX5_survey_136 : decode cX5_survey 136 = .ok (.iload_n 3, 1) := by decide +kernel
theorem dX5_survey_137 : decode cX5_survey 137 = .ok (.ireturn, 1) := by decide +kernel
theorem dX5_survey_138 : decode cX5_survey 138 = .ok (.iload 4, 2) := by decide +kernel
theorem dX5_survey_140 : decode cX5_survey 140 = .ok (.ireturn, 1) := by decide +kernel
theorem dX5_survey_141 : decode cX5_survey 141 = .ok (.iload 5, 2) := by decide +kernel
theorem dX5_survey_143 : decode cX5_survey 143 = .ok (.ireturn, 1) := by decide +kernel
theorem dX5_poor_0 : decode cX5_poor 0 = .ok (.iconst 0, 1) := by decide +kernel
theorem dX5_poor_1 : decode cX5_poor 1 = .ok (.istore_n 1, 1) := by decide +kernel
theorem dX5_poor_2 : decode cX5_poor 2 = .ok (.iconst 0, 1) := by decide +kernel
theorem dX5_poor_3 : decode cX5_poor 3 = .ok (.istore_n 2, 1) := by decide +kernel
theorem dX5_poor_4 : decode cX5_poor 4 = .ok (.iload_n 2, 1) := by decide +kernel
theorem dX5_poor_5 : decode cX5_poor 5 = .ok (.bipush 8, 2) := by decide +kernel
theorem dX5_poor_7 : decode cX5_poor 7 = .ok (.if_icmp .ge 23, 3) := by decide +kernel
theorem dX5_poor_10 : decode cX5_poor 10 = .ok (.aload_n 0, 1) := by decide +kernel
theorem dX5_poor_11 : decode cX5_poor 11 = .ok (.getfield 12, 3) := by decide +kernel
theorem dX5_poor_14 : decode cX5_poor 14 = .ok (.iload_n 2, 1) := by decide +kernel
theorem dX5_poor_15 : decode cX5_poor 15 = .ok (.invokevirtual 199, 3) := by decide +kernel
theorem dX5_poor_18 : decode cX5_poor 18 = .ok (.ifCond .eq 6, 3) := by decide +kernel
theorem dX5_poor_21 : decode cX5_poor 21 = .ok (.iinc 1 1, 3) := by decide +kernel
theorem dX5_poor_24 : decode cX5_poor 24 = .ok (.iinc 2 1, 3) := by decide +kernel
theorem dX5_poor_27 : decode cX5_poor 27 = .ok (.goto (-23), 3) := by decide +kernel
theorem dX5_poor_30 : decode cX5_poor 30 = .ok (.iload_n 1, 1) := by decide +kernel
theorem dX5_poor_31 : decode cX5_poor 31 = .ok (.ireturn, 1) := by decide +kernel
theorem dX5_sample_0 : decode cX5_sample 0 = .ok (.aload_n 0, 1) := by decide +kernel
theorem dX5_sample_1 : decode cX5_sample 1 = .ok (.getfield 12, 3) := by decide +kernel
theorem dX5_sample_4 : decode cX5_sample 4 = .ok (.getfield 67, 3) := by decide +kernel
theorem dX5_sample_7 : decode cX5_sample 7 = .ok (.ifCond .ne 6, 3) := by decide +kernel
theorem dX5_sample_10 : decode cX5_sample 10 = .ok (.bipush (-2), 2) := by decide +kernel
theorem dX5_sample_12 : decode cX5_sample 12 = .ok (.ireturn, 1) := by decide +kernel
theorem dX5_sample_13 : decode cX5_sample 13 = .ok (.aload_n 0, 1) := by decide +kernel
theorem dX5_sample_14 : decode cX5_sample 14 = .ok (.getfield 19, 3) := by decide +kernel
theorem dX5_sample_17 : decode cX5_sample 17 = .ok (.aload_n 0, 1) := by decide +kernel
theorem dX5_sample_18 : decode cX5_sample 18 = .ok (.getfield 12, 3) := by decide +kernel
theorem dX5_sample_21 : decode cX5_sample 21 = .ok (.invokevirtual 53, 3) := by decide +kernel
theorem dX5_sample_24 : decode cX5_sample 24 = .ok (.aload_n 0, 1) := by decide +kernel
theorem dX5_sample_25 : decode cX5_sample 25 = .ok (.getfield 26, 3) := by decide +kernel
theorem dX5_sample_28 : decode cX5_sample 28 = .ok (.aload_n 0, 1) := by decide +kernel
theorem dX5_sample_29 : decode cX5_sample 29 = .ok (.getfield 12, 3) := by decide +kernel
theorem dX5_sample_32 : decode cX5_sample 32 = .ok (.aload_n 0, 1) := by decide +kernel
theorem dX5_sample_33 : decode cX5_sample 33 = .ok (.getfield 12, 3) := by decide +kernel
theorem dX5_sample_36 : decode cX5_sample 36 = .ok (.invokevirtual 81, 3) := by decide +kernel
theorem dX5_sample_39 : decode cX5_sample 39 = .ok (.invokevirtual 180, 3) := by decide +kernel
theorem dX5_sample_42 : decode cX5_sample 42 = .ok (.aload_n 0, 1) := by decide +kernel
theorem dX5_sample_43 : decode cX5_sample 43 = .ok (.getfield 33, 3) := by decide +kernel
theorem dX5_sample_46 : decode cX5_sample 46 = .ok (.aload_n 0, 1) := by decide +kernel
theorem dX5_sample_47 : decode cX5_sample 47 = .ok (.getfield 12, 3) := by decide +kernel
theorem dX5_sample_50 : decode cX5_sample 50 = .ok (.aload_n 0, 1) := by decide +kernel
theorem dX5_sample_51 : decode cX5_sample 51 = .ok (.getfield 26, 3) := by decide +kernel
theorem dX5_sample_54 : decode cX5_sample 54 = .ok (.invokevirtual 202, 3) := by decide +kernel
theorem dX5_sample_57 : decode cX5_sample 57 = .ok (.aload_n 0, 1) := by decide +kernel
theorem dX5_sample_58 : decode cX5_sample 58 = .ok (.getfield 12, 3) := by decide +kernel
theorem dX5_sample_61 : decode cX5_sample 61 = .ok (.aload_n 0, 1) := by decide +kernel
theorem dX5_sample_62 : decode cX5_sample 62 = .ok (.getfield 33, 3) := by decide +kernel
theorem dX5_sample_65 : decode cX5_sample 65 = .ok (.getfield 206, 3) := by decide +kernel
theorem dX5_sample_68 : decode cX5_sample 68 = .ok (.putfield 85, 3) := by decide +kernel
theorem dX5_sample_71 : decode cX5_sample 71 = .ok (.aload_n 0, 1) := by decide +kernel
theorem dX5_sample_72 : decode cX5_sample 72 = .ok (.getfield 12, 3) := by decide +kernel
theorem dX5_sample_75 : decode cX5_sample 75 = .ok (.aload_n 0, 1) := by decide +kernel
theorem dX5_sample_76 : decode cX5_sample 76 = .ok (.getfield 33, 3) := by decide +kernel
theorem dX5_sample_79 : decode cX5_sample 79 = .ok (.getfield 207, 3) := by decide +kernel
theorem dX5_sample_82 : decode cX5_sample 82 = .ok (.putfield 91, 3) := by decide +kernel
theorem dX5_sample_85 : decode cX5_sample 85 = .ok (.aload_n 0, 1) := by decide +kernel
theorem dX5_sample_86 : decode cX5_sample 86 = .ok (.getfield 33, 3) := by decide +kernel
theorem dX5_sample_89 : decode cX5_sample 89 = .ok (.getfield 208, 3) := by decide +kernel
theorem dX5_sample_92 : decode cX5_sample 92 = .ok (.ifCond .eq 14, 3) := by decide +kernel
theorem dX5_sample_95 : decode cX5_sample 95 = .ok (.ldc 211, 2) := by decide +kernel
theorem dX5_sample_97 : decode cX5_sample 97 = .ok (.aload_n 0, 1) := by decide +kernel
theorem dX5_sample_98 : decode cX5_sample 98 = .ok (.getfield 33, 3) := by decide +kernel
theorem dX5_sample_101 : decode cX5_sample 101 = .ok (.getfield 208, 3) := by decide +kernel
theorem dX5_sample_104 : decode cX5_sample 104 = .ok (.iadd, 1) := by decide +kernel
theorem dX5_sample_105 : decode cX5_sample 105 = .ok (.ireturn, 1) := by decide +kernel
theorem dX5_sample_106 : decode cX5_sample 106 = .ok (.aload_n 0, 1) := by decide +kernel
theorem dX5_sample_107 : decode cX5_sample 107 = .ok (.getfield 12, 3) := by decide +kernel
theorem dX5_sample_110 : decode cX5_sample 110 = .ok (.aload_n 0, 1) := by decide +kernel
theorem dX5_sample_111 : decode cX5_sample 111 = .ok (.getfield 33, 3) := by decide +kernel
theorem dX5_sample_114 : decode cX5_sample 114 = .ok (.getfield 212, 3) := by decide +kernel
theorem dX5_sample_117 : decode cX5_sample 117 = .ok (.putfield 88, 3) := by decide +kernel
theorem dX5_sample_120 : decode cX5_sample 120 = .ok (.aload_n 0, 1) := by decide +kernel
theorem dX5_sample_121 : decode cX5_sample 121 = .ok (.getfield 12, 3) := by decide +kernel
theorem dX5_sample_124 : decode cX5_sample 124 = .ok (.getfield 88, 3) := by decide +kernel
theorem dX5_sample_127 : decode cX5_sample 127 = .ok (.ireturn, 1) := by decide +kernel
theorem dX5_reason_0 : decode cX5_reason 0 = .ok (.aload_n 0, 1) := by decide +kernel
theorem dX5_reason_1 : decode cX5_reason 1 = .ok (.getfield 12, 3) := by decide +kernel
theorem dX5_reason_4 : decode cX5_reason 4 = .ok (.getfield 67, 3) := by decide +kernel
theorem dX5_reason_7 : decode cX5_reason 7 = .ok (.ifCond .ne 6, 3) := by decide +kernel
theorem dX5_reason_10 : decode cX5_reason 10 = .ok (.bipush (-2), 2) := by decide +kernel
theorem dX5_reason_12 : decode cX5_reason 12 = .ok (.ireturn, 1) := by decide +kernel
theorem dX5_reason_13 : decode cX5_reason 13 = .ok (.aload_n 0, 1) := by decide +kernel
theorem dX5_reason_14 : decode cX5_reason 14 = .ok (.getfield 26, 3) := by decide +kernel
theorem dX5_reason_17 : decode cX5_reason 17 = .ok (.aload_n 0, 1) := by decide +kernel
theorem dX5_reason_18 : decode cX5_reason 18 = .ok (.getfield 12, 3) := by decide +kernel
theorem dX5_reason_21 : decode cX5_reason 21 = .ok (.aload_n 0, 1) := by decide +kernel
theorem dX5_reason_22 : decode cX5_reason 22 = .ok (.getfield 12, 3) := by decide +kernel
theorem dX5_reason_25 : decode cX5_reason 25 = .ok (.invokevirtual 81, 3) := by decide +kernel
theorem dX5_reason_28 : decode cX5_reason 28 = .ok (.invokevirtual 180, 3) := by decide +kernel
theorem dX5_reason_31 : decode cX5_reason 31 = .ok (.aload_n 0, 1) := by decide +kernel
theorem dX5_reason_32 : decode cX5_reason 32 = .ok (.getfield 33, 3) := by decide +kernel
theorem dX5_reason_35 : decode cX5_reason 35 = .ok (.aload_n 0, 1) := by decide +kernel
theorem dX5_reason_36 : decode cX5_reason 36 = .ok (.getfield 12, 3) := by decide +kernel
theorem dX5_reason_39 : decode cX5_reason 39 = .ok (.aload_n 0, 1) := by decide +kernel
theorem dX5_reason_40 : decode cX5_reason 40 = .ok (.getfield 26, 3) := by decide +kernel
theorem dX5_reason_43 : decode cX5_reason 43 = .ok (.invokevirtual 202, 3) := by decide +kernel
theorem dX5_reason_46 : decode cX5_reason 46 = .ok (.aload_n 0, 1) := by decide +kernel
theorem dX5_reason_47 : decode cX5_reason 47 = .ok (.getfield 33, 3) := by decide +kernel
theorem dX5_reason_50 : decode cX5_reason 50 = .ok (.getfield 208, 3) := by decide +kernel
theorem dX5_reason_53 : decode cX5_reason 53 = .ok (.ireturn, 1) := by decide +kernel
theorem dX5_forget_0 : decode cX5_forget 0 = .ok (.aload_n 0, 1) := by decide +kernel
theorem dX5_forget_1 : decode cX5_forget 1 = .ok (.getfield 19, 3) := by decide +kernel
theorem dX5_forget_4 : decode cX5_forget 4 = .ok (.aload_n 0, 1) := by decide +kernel
theorem dX5_forget_5 : decode cX5_forget 5 = .ok (.getfield 12, 3) := by decide +kernel
theorem dX5_forget_8 : decode cX5_forget 8 = .ok (.invokevirtual 53, 3) := by decide +kernel
theorem dX5_forget_11 : decode cX5_forget 11 = .ok (.aload_n 0, 1) := by decide +kernel
theorem dX5_forget_12 : decode cX5_forget 12 = .ok (.getfield 12, 3) := by decide +kernel
theorem dX5_forget_15 : decode cX5_forget 15 = .ok (.getfield 88, 3) := by decide +kernel
theorem dX5_forget_18 : decode cX5_forget 18 = .ok (.iconst (-1), 1) := by decide +kernel
theorem dX5_forget_19 : decode cX5_forget 19 = .ok (.if_icmp .eq 7, 3) := by decide +kernel
theorem dX5_forget_22 : decode cX5_forget 22 = .ok (.iconst 1, 1) := by decide +kernel
theorem dX5_forget_23 : decode cX5_forget 23 = .ok (.goto 4, 3) := by decide +kernel
theorem dX5_forget_26 : decode cX5_forget 26 = .ok (.iconst 0, 1) := by decide +kernel
theorem dX5_forget_27 : decode cX5_forget 27 = .ok (.invokestatic 71, 3) := by decide +kernel
theorem dX5_forget_30 : decode cX5_forget 30 = .ok (.istore_n 1, 1) := by decide +kernel
theorem dX5_forget_31 : decode cX5_forget 31 = .ok (.aload_n 0, 1) := by decide +kernel
theorem dX5_forget_32 : decode cX5_forget 32 = .ok (.getfield 12, 3) := by decide +kernel
theorem dX5_forget_35 : decode cX5_forget 35 = .ok (.iconst (-1), 1) := by decide +kernel
theorem dX5_forget_36 : decode cX5_forget 36 = .ok (.putfield 88, 3) := by decide +kernel
theorem dX5_forget_39 : decode cX5_forget 39 = .ok (.aload_n 0, 1) := by decide +kernel
theorem dX5_forget_40 : decode cX5_forget 40 = .ok (.getfield 12, 3) := by decide +kernel
theorem dX5_forget_43 : decode cX5_forget 43 = .ok (.iconst 0, 1) := by decide +kernel
theorem dX5_forget_44 : decode cX5_forget 44 = .ok (.putfield 91, 3) := by decide +kernel
theorem dX5_forget_47 : decode cX5_forget 47 = .ok (.iload_n 1, 1) := by decide +kernel
theorem dX5_forget_48 : decode cX5_forget 48 = .ok (.ireturn, 1) := by decide +kernel
theorem dX5_apart_0 : decode cX5_apart 0 = .ok (.aload_n 0, 1) := by decide +kernel
theorem dX5_apart_1 : decode cX5_apart 1 = .ok (.getfield 12, 3) := by decide +kernel
theorem dX5_apart_4 : decode cX5_apart 4 = .ok (.getfield 88, 3) := by decide +kernel
theorem dX5_apart_7 : decode cX5_apart 7 = .ok (.iconst (-1), 1) := by decide +kernel
theorem dX5_apart_8 : decode cX5_apart 8 = .ok (.if_icmp .ne 8, 3) := by decide +kernel
theorem dX5_apart_11 : decode cX5_apart 11 = .ok (.bipush (-4), 2) := by decide +kernel
theorem dX5_apart_13 : decode cX5_apart 13 = .ok (.goto 22, 3) := by decide +kernel
theorem dX5_apart_16 : decode cX5_apart 16 = .ok (.aload_n 0, 1) := by decide +kernel
theorem dX5_apart_17 : decode cX5_apart 17 = .ok (.getfield 12, 3) := by decide +kernel
theorem dX5_apart_20 : decode cX5_apart 20 = .ok (.getfield 88, 3) := by decide +kernel
theorem dX5_apart_23 : decode cX5_apart 23 = .ok (.aload_n 0, 1) := by decide +kernel
theorem dX5_apart_24 : decode cX5_apart 24 = .ok (.getfield 12, 3) := by decide +kernel
theorem dX5_apart_27 : decode cX5_apart 27 = .ok (.getfield 48, 3) := by decide +kernel
theorem dX5_apart_30 : decode cX5_apart 30 = .ok (.ldc 213, 2) := by decide +kernel
theorem dX5_apart_32 : decode cX5_apart 32 = .ok (.invokestatic 214, 3) := by decide +kernel
theorem dX5_apart_35 : decode cX5_apart 35 = .ok (.ireturn, 1) := by decide +kernel
theorem dX5_type_0 : decode cX5_type 0 = .ok (.iload_n 1, 1) := by decide +kernel
theorem dX5_type_1 : decode cX5_type 1 = .ok (.bipush 32, 2) := by decide +kernel
theorem dX5_type_3 : decode cX5_type 3 = .ok (.bipush 126, 2) := by decide +kernel
theorem dX5_type_5 : decode cX5_type 5 = .ok (.invokestatic 44, 3) := by decide +kernel
theorem dX5_type_8 : decode cX5_type 8 = .ok (.ifCond .eq 5, 3) := by decide +kernel
theorem dX5_type_11 : decode cX5_type 11 = .ok (.iconst (-1), 1) := by decide +kernel
theorem dX5_type_12 : decode cX5_type 12 = .ok (.ireturn, 1) := by decide +kernel
theorem dX5_type_13 : decode cX5_type 13 = .ok (.aload_n 0, 1) := by decide +kernel
theorem dX5_type_14 : decode cX5_type 14 = .ok (.getfield 40, 3) := by decide +kernel
theorem dX5_type_17 : decode cX5_type 17 = .ok (.getfield 103, 3) := by decide +kernel
theorem dX5_type_20 : decode cX5_type 20 = .ok (.bipush 60, 2) := by decide +kernel
theorem dX5_type_22 : decode cX5_type 22 = .ok (.if_icmp .lt 6, 3) := by decide +kernel
theorem dX5_type_25 : decode cX5_type 25 = .ok (.bipush (-3), 2) := by decide +kernel
theorem dX5_type_27 : decode cX5_type 27 = .ok (.ireturn, 1) := by decide +kernel
theorem dX5_type_28 : decode cX5_type 28 = .ok (.aload_n 0, 1) := by decide +kernel
theorem dX5_type_29 : decode cX5_type 29 = .ok (.getfield 40, 3) := by decide +kernel
theorem dX5_type_32 : decode cX5_type 32 = .ok (.iload_n 1, 1) := by decide +kernel
theorem dX5_type_33 : decode cX5_type 33 = .ok (.invokevirtual 217, 3) := by decide +kernel
theorem dX5_type_36 : decode cX5_type 36 = .ok (.aload_n 0, 1) := by decide +kernel
theorem dX5_type_37 : decode cX5_type 37 = .ok (.getfield 40, 3) := by decide +kernel
theorem dX5_type_40 : decode cX5_type 40 = .ok (.getfield 103, 3) := by decide +kernel
theorem dX5_type_43 : decode cX5_type 43 = .ok (.ireturn, 1) := by decide +kernel
theorem dX5_fault_0 : decode cX5_fault 0 = .ok (.iload_n 1, 1) := by decide +kernel
theorem dX5_fault_1 : decode cX5_fault 1 = .ok (.iconst 0, 1) := by decide +kernel
theorem dX5_fault_2 : decode cX5_fault 2 = .ok (.iconst 1, 1) := by decide +kernel
theorem dX5_fault_3 : decode cX5_fault 3 = .ok (.invokestatic 44, 3) := by decide +kernel
theorem dX5_fault_6 : decode cX5_fault 6 = .ok (.ifCond .eq 5, 3) := by decide +kernel
theorem dX5_fault_9 : decode cX5_fault 9 = .ok (.iconst (-1), 1) := by decide +kernel
theorem dX5_fault_10 : decode cX5_fault 10 = .ok (.ireturn, 1) := by decide +kernel
theorem dX5_fault_11 : decode cX5_fault 11 = .ok (.aload_n 0, 1) := by decide +kernel
theorem dX5_fault_12 : decode cX5_fault 12 = .ok (.getfield 40, 3) := by decide +kernel
theorem dX5_fault_15 : decode cX5_fault 15 = .ok (.invokevirtual 220, 3) := by decide +kernel
theorem dX5_fault_18 : decode cX5_fault 18 = .ok (.aload_n 0, 1) := by decide +kernel
theorem dX5_fault_19 : decode cX5_fault 19 = .ok (.getfield 40, 3) := by decide +kernel
theorem dX5_fault_22 : decode cX5_fault 22 = .ok (.getfield 223, 3) := by decide +kernel
theorem dX5_fault_25 : decode cX5_fault 25 = .ok (.ifCond .ne 6, 3) := by decide +kernel
theorem dX5_fault_28 : decode cX5_fault 28 = .ok (.bipush (-4), 2) := by decide +kernel
theorem dX5_fault_30 : decode cX5_fault 30 = .ok (.ireturn, 1) := by decide +kernel
theorem dX5_fault_31 : decode cX5_fault 31 = .ok (.iload_n 1, 1) := by decide +kernel
theorem dX5_fault_32 : decode cX5_fault 32 = .ok (.ifCond .ne 13, 3) := by decide +kernel
theorem dX5_fault_35 : decode cX5_fault 35 = .ok (.aload_n 0, 1) := by decide +kernel
theorem dX5_fault_36 : decode cX5_fault 36 = .ok (.getfield 40, 3) := by decide +kernel
theorem dX5_fault_39 : decode cX5_fault 39 = .ok (.getfield 226, 3) := by decide +kernel
theorem dX5_fault_42 : decode cX5_fault 42 = .ok (.goto 10, 3) := by decide +kernel
theorem dX5_fault_45 : decode cX5_fault 45 = .ok (.aload_n 0, 1) := by decide +kernel
theorem dX5_fault_46 : decode cX5_fault 46 = .ok (.getfield 40, 3) := by decide +kernel
theorem dX5_fault_49 : decode cX5_fault 49 = .ok (.getfield 223, 3) := by decide +kernel
theorem dX5_fault_52 : decode cX5_fault 52 = .ok (.ireturn, 1) := by decide +kernel
theorem dX5_settingCount_0 : decode cX5_settingCount 0 = .ok (.iload_n 1, 1) := by decide +kernel
theorem dX5_settingCount_1 : decode cX5_settingCount 1 = .ok (.iconst 0, 1) := by decide +kernel
theorem dX5_settingCount_2 : decode cX5_settingCount 2 = .ok (.iconst 3, 1) := by decide +kernel
theorem dX5_settingCount_3 : decode cX5_settingCount 3 = .ok (.invokestatic 44, 3) := by decide +kernel
theorem dX5_settingCount_6 : decode cX5_settingCount 6 = .ok (.ifCond .eq 7, 3) := by decide +kernel
theorem dX5_settingCount_9 : decode cX5_settingCount 9 = .ok (.iconst (-1), 1) := by decide +kernel
theorem dX5_settingCount_10 : decode cX5_settingCount 10 = .ok (.goto 8, 3) := by decide +kernel
theorem dX5_settingCount_13 : decode cX5_settingCount 13 = .ok (.aload_n 0, 1) := by decide +kernel
theorem dX5_settingCount_14 : decode cX5_settingCount 14 = .ok (.iload_n 1, 1) := by decide +kernel
theorem dX5_settingCount_15 : decode cX5_settingCount 15 = .ok (.invokevirtual 145, 3) := by decide +kernel
theorem dX5_settingCount_18 : decode cX5_settingCount 18 = .ok (.ireturn, 1) := by decide +kernel
theorem dX5_shownSetting_0 : decode cX5_shownSetting 0 = .ok (.aload_n 0, 1) := by decide +kernel
theorem dX5_shownSetting_1 : decode cX5_shownSetting 1 = .ok (.getfield 12, 3) := by decide +kernel
theorem dX5_shownSetting_4 : decode cX5_shownSetting 4 = .ok (.getfield 148, 3) := by decide +kernel
theorem dX5_shownSetting_7 : decode cX5_shownSetting 7 = .ok (.iload_n 1, 1) := by decide +kernel
theorem dX5_shownSetting_8 : decode cX5_shownSetting 8 = .ok (.invokestatic 124, 3) := by decide +kernel
theorem dX5_shownSetting_11 : decode cX5_shownSetting 11 = .ok (.istore_n 2, 1) := by decide +kernel
theorem dX5_shownSetting_12 : decode cX5_shownSetting 12 = .ok (.iload_n 1, 1) := by decide +kernel
theorem dX5_shownSetting_13 : decode cX5_shownSetting 13 = .ok (.iconst 3, 1) := by decide +kernel
theorem dX5_shownSetting_14 : decode cX5_shownSetting 14 = .ok (.if_icmp .ne 10, 3) := by decide +kernel
theorem dX5_shownSetting_17 : decode cX5_shownSetting 17 = .ok (.iload_n 2, 1) := by decide +kernel
theorem dX5_shownSetting_18 : decode cX5_shownSetting 18 = .ok (.bipush 100, 2) := by decide +kernel
theorem dX5_shownSetting_20 : decode cX5_shownSetting 20 = .ok (.iadd, 1) := by decide +kernel
theorem dX5_shownSetting_21 : decode cX5_shownSetting 21 = .ok (.goto 4, 3) := by decide +kernel
theorem dX5_shownSetting_24 : decode cX5_shownSetting 24 = .ok (.iload_n 2, 1) := by decide +kernel
theorem dX5_shownSetting_25 : decode cX5_shownSetting 25 = .ok (.ireturn, 1) := by decide +kernel
theorem dX5_isOutside_0 : decode cX5_isOutside 0 = .ok (.iload_n 0, 1) := by decide +kernel
theorem dX5_isOutside_1 : decode cX5_isOutside 1 = .ok (.iload_n 1, 1) := by decide +kernel
theorem dX5_isOutside_2 : decode cX5_isOutside 2 = .ok (.if_icmp .lt 8, 3) := by decide +kernel
theorem dX5_isOutside_5 : decode cX5_isOutside 5 = .ok (.iload_n 0, 1) := by decide +kernel
theorem dX5_isOutside_6 : decode cX5_isOutside 6 = .ok (.iload_n 2, 1) := by decide +kernel
theorem dX5_isOutside_7 : decode cX5_isOutside 7 = .ok (.if_icmp .le 7, 3) := by decide +kernel
theorem dX5_isOutside_10 : decode cX5_isOutside 10 = .ok (.iconst 1, 1) := by decide +kernel
theorem dX5_isOutside_11 : decode cX5_isOutside 11 = .ok (.goto 4, 3) := by decide +kernel
theorem dX5_isOutside_14 : decode cX5_isOutside 14 = .ok (.iconst 0, 1) := by decide +kernel
theorem dX5_isOutside_15 : decode cX5_isOutside 15 = .ok (.ireturn, 1) := by decide +kernel
theorem dX5_isTrack_0 : decode cX5_isTrack 0 = .ok (.iload_n 0, 1) := by decide +kernel
theorem dX5_isTrack_1 : decode cX5_isTrack 1 = .ok (.iconst 0, 1) := by decide +kernel
theorem dX5_isTrack_2 : decode cX5_isTrack 2 = .ok (.iconst 2, 1) := by decide +kernel
theorem dX5_isTrack_3 : decode cX5_isTrack 3 = .ok (.invokestatic 44, 3) := by decide +kernel
theorem dX5_isTrack_6 : decode cX5_isTrack 6 = .ok (.ifCond .ne 7, 3) := by decide +kernel
theorem dX5_isTrack_9 : decode cX5_isTrack 9 = .ok (.iconst 1, 1) := by decide +kernel
theorem dX5_isTrack_10 : decode cX5_isTrack 10 = .ok (.goto 4, 3) := by decide +kernel
theorem dX5_isTrack_13 : decode cX5_isTrack 13 = .ok (.iconst 0, 1) := by decide +kernel
theorem dX5_isTrack_14 : decode cX5_isTrack 14 = .ok (.ireturn, 1) := by decide +kernel
theorem dX5_isCell_0 : decode cX5_isCell 0 = .ok (.iload_n 0, 1) := by decide +kernel
theorem dX5_isCell_1 : decode cX5_isCell 1 = .ok (.invokestatic 132, 3) := by decide +kernel
theorem dX5_isCell_4 : decode cX5_isCell 4 = .ok (.ifCond .eq 17, 3) := by decide +kernel
theorem dX5_isCell_7 : decode cX5_isCell 7 = .ok (.iload_n 1, 1) := by decide +kernel
theorem dX5_isCell_8 : decode cX5_isCell 8 = .ok (.iconst 0, 1) := by decide +kernel
theorem dX5_isCell_9 : decode cX5_isCell 9 = .ok (.bipush 7, 2) := by decide +kernel
theorem dX5_isCell_11 : decode cX5_isCell 11 = .ok (.invokestatic 44, 3) := by decide +kernel
theorem dX5_isCell_14 : decode cX5_isCell 14 = .ok (.ifCond .ne 7, 3) := by decide +kernel
theorem dX5_isCell_17 : decode cX5_isCell 17 = .ok (.iconst 1, 1) := by decide +kernel
theorem dX5_isCell_18 : decode cX5_isCell 18 = .ok (.goto 4, 3) := by decide +kernel
theorem dX5_isCell_21 : decode cX5_isCell 21 = .ok (.iconst 0, 1) := by decide +kernel
theorem dX5_isCell_22 : decode cX5_isCell 22 = .ok (.ireturn, 1) := by decide +kernel
theorem dX5_isReading_0 : decode cX5_isReading 0 = .ok (.iload_n 1, 1) := by decide +kernel
theorem dX5_isReading_1 : decode cX5_isReading 1 = .ok (.iconst 0, 1) := by decide +kernel
theorem dX5_isReading_2 : decode cX5_isReading 2 = .ok (.getstatic 165, 3) := by decide +kernel
theorem dX5_isReading_5 : decode cX5_isReading 5 = .ok (.iload_n 0, 1) := by decide +kernel
theorem dX5_isReading_6 : decode cX5_isReading 6 = .ok (.invokestatic 124, 3) := by decide +kernel
theorem dX5_isReading_9 : decode cX5_isReading 9 = .ok (.iconst 1, 1) := by decide +kernel
theorem dX5_isReading_10 : decode cX5_isReading 10 = .ok (.isub, 1) := by decide +kernel
theorem dX5_isReading_11 : decode cX5_isReading 11 = .ok (.invokestatic 44, 3) := by decide +kernel
theorem dX5_isReading_14 : decode cX5_isReading 14 = .ok (.ifCond .ne 7, 3) := by decide +kernel
theorem dX5_isReading_17 : decode cX5_isReading 17 = .ok (.iconst 1, 1) := by decide +kernel
theorem dX5_isReading_18 : decode cX5_isReading 18 = .ok (.goto 4, 3) := by decide +kernel
theorem dX5_isReading_21 : decode cX5_isReading 21 = .ok (.iconst 0, 1) := by decide +kernel
theorem dX5_isReading_22 : decode cX5_isReading 22 = .ok (.ireturn, 1) := by decide +kernel
theorem dX5_cell_0 : decode cX5_cell 0 = .ok (.iload_n 0, 1) := by decide +kernel
theorem dX5_cell_1 : decode cX5_cell 1 = .ok (.bipush 8, 2) := by decide +kernel
theorem dX5_cell_3 : decode cX5_cell 3 = .ok (.imul, 1) := by decide +kernel
theorem dX5_cell_4 : decode cX5_cell 4 = .ok (.iload_n 1, 1) := by decide +kernel
theorem dX5_cell_5 : decode cX5_cell 5 = .ok (.iadd, 1) := by decide +kernel
theorem dX5_cell_6 : decode cX5_cell 6 = .ok (.ireturn, 1) := by decide +kernel
theorem dX5_sectorOf_0 : decode cX5_sectorOf 0 = .ok (.iload_n 0, 1) := by decide +kernel
theorem dX5_sectorOf_1 : decode cX5_sectorOf 1 = .ok (.sipush 510, 3) := by decide +kernel
theorem dX5_sectorOf_4 : decode cX5_sectorOf 4 = .ok (.idiv, 1) := by decide +kernel
theorem dX5_sectorOf_5 : decode cX5_sectorOf 5 = .ok (.ireturn, 1) := by decide +kernel
theorem dX5_toNumber_0 : decode cX5_toNumber 0 = .ok (.iload_n 0, 1) := by decide +kernel
theorem dX5_toNumber_1 : decode cX5_toNumber 1 = .ok (.ifCond .eq 7, 3) := by decide +kernel
theorem dX5_toNumber_4 : decode cX5_toNumber 4 = .ok (.iconst 1, 1) := by decide +kernel
theorem dX5_toNumber_5 : decode cX5_toNumber 5 = .ok (.goto 4, 3) := by decide +kernel
theorem dX5_toNumber_8 : decode cX5_toNumber 8 = .ok (.iconst 0, 1) := by decide +kernel
theorem dX5_toNumber_9 : decode cX5_toNumber 9 = .ok (.ireturn, 1) := by decide +kernel
theorem dX5_at_0 : decode cX5_at 0 = .ok (.iload_n 1, 1) := by decide +kernel
theorem dX5_at_1 : decode cX5_at 1 = .ok (.ifCond .lt 15, 3) := by decide +kernel
theorem dX5_at_4 : decode cX5_at 4 = .ok (.iload_n 1, 1) := by decide +kernel
theorem dX5_at_5 : decode cX5_at 5 = .ok (.aload_n 0, 1) := by decide +kernel
theorem dX5_at_6 : decode cX5_at 6 = .ok (.arraylength, 1) := by decide +kernel
theorem dX5_at_7 : decode cX5_at 7 = .ok (.if_icmp .ge 9, 3) := by decide +kernel
theorem dX5_at_10 : decode cX5_at 10 = .ok (.aload_n 0, 1) := by decide +kernel
theorem dX5_at_11 : decode cX5_at 11 = .ok (.iload_n 1, 1) := by decide +kernel
theorem dX5_at_12 : decode cX5_at 12 = .ok (.iaload, 1) := by decide +kernel
theorem dX5_at_13 : decode cX5_at 13 = .ok (.goto 4, 3) := by decide +kernel
theorem dX5_at_16 : decode cX5_at 16 = .ok (.iconst 0, 1) := by decide +kernel
theorem dX5_at_17 : decode cX5_at 17 = .ok (.ireturn, 1) := by decide +kernel
theorem dX5_put_0 : decode cX5_put 0 = .ok (.iload_n 1, 1) := by decide +kernel
theorem dX5_put_1 : decode cX5_put 1 = .ok (.ifCond .lt 13, 3) := by decide +kernel
theorem dX5_put_4 : decode cX5_put 4 = .ok (.iload_n 1, 1) := by decide +kernel
theorem dX5_put_5 : decode cX5_put 5 = .ok (.aload_n 0, 1) := by decide +kernel
theorem dX5_put_6 : decode cX5_put 6 = .ok (.arraylength, 1) := by decide +kernel
theorem dX5_put_7 : decode cX5_put 7 = .ok (.if_icmp .ge 7, 3) := by decide +kernel
theorem dX5_put_10 : decode cX5_put 10 = .ok (.aload_n 0, 1) := by decide +kernel
theorem dX5_put_11 : decode cX5_put 11 = .ok (.iload_n 1, 1) := by decide +kernel
theorem dX5_put_12 : decode cX5_put 12 = .ok (.iload_n 2, 1) := by decide +kernel
theorem dX5_put_13 : decode cX5_put 13 = .ok (.iastore, 1) := by decide +kernel
theorem dX5_put_14 : decode cX5_put 14 = .ok (.return_, 1) := by decide +kernel
theorem dX5_copy_0 : decode cX5_copy 0 = .ok (.iconst 0, 1) := by decide +kernel
theorem dX5_copy_1 : decode cX5_copy 1 = .ok (.istore_n 2, 1) := by decide +kernel
theorem dX5_copy_2 : decode cX5_copy 2 = .ok (.iload_n 2, 1) := by decide +kernel
theorem dX5_copy_3 : decode cX5_copy 3 = .ok (.aload_n 0, 1) := by decide +kernel
theorem dX5_copy_4 : decode cX5_copy 4 = .ok (.arraylength, 1) := by decide +kernel
theorem dX5_copy_5 : decode cX5_copy 5 = .ok (.if_icmp .ge 21, 3) := by decide +kernel
theorem dX5_copy_8 : decode cX5_copy 8 = .ok (.iload_n 2, 1) := by decide +kernel
theorem dX5_copy_9 : decode cX5_copy 9 = .ok (.aload_n 1, 1) := by decide +kernel
theorem dX5_copy_10 : decode cX5_copy 10 = .ok (.arraylength, 1) := by decide +kernel
theorem dX5_copy_11 : decode cX5_copy 11 = .ok (.if_icmp .ge 15, 3) := by decide +kernel
theorem dX5_copy_14 : decode cX5_copy 14 = .ok (.aload_n 1, 1) := by decide +kernel
theorem dX5_copy_15 : decode cX5_copy 15 = .ok (.iload_n 2, 1) := by decide +kernel
theorem dX5_copy_16 : decode cX5_copy 16 = .ok (.aload_n 0, 1) := by decide +kernel
theorem dX5_copy_17 : decode cX5_copy 17 = .ok (.iload_n 2, 1) := by decide +kernel
theorem dX5_copy_18 : decode cX5_copy 18 = .ok (.iaload, 1) := by decide +kernel
theorem dX5_copy_19 : decode cX5_copy 19 = .ok (.iastore, 1) := by decide +kernel
theorem dX5_copy_20 : decode cX5_copy 20 = .ok (.iinc 2 1, 3) := by decide +kernel
theorem dX5_copy_23 : decode cX5_copy 23 = .ok (.goto (-21), 3) := by decide +kernel
theorem dX5_copy_26 : decode cX5_copy 26 = .ok (.return_, 1) := by decide +kernel
theorem dX5_remainder_0 : decode cX5_remainder 0 = .ok (.iload_n 1, 1) := by decide +kernel
theorem dX5_remainder_1 : decode cX5_remainder 1 = .ok (.ifCond .gt 5, 3) := by decide +kernel
theorem dX5_remainder_4 : decode cX5_remainder 4 = .ok (.iconst 0, 1) := by decide +kernel
theorem dX5_remainder_5 : decode cX5_remainder 5 = .ok (.ireturn, 1) := by decide +kernel
theorem dX5_remainder_6 : decode cX5_remainder 6 = .ok (.iload_n 0, 1) := by decide +kernel
theorem dX5_remainder_7 : decode cX5_remainder 7 = .ok (.iload_n 1, 1) := by decide +kernel
theorem dX5_remainder_8 : decode cX5_remainder 8 = .ok (.irem, 1) := by decide +kernel
theorem dX5_remainder_9 : decode cX5_remainder 9 = .ok (.istore_n 2, 1) := by decide +kernel
theorem dX5_remainder_10 : decode cX5_remainder 10 = .ok (.iload_n 2, 1) := by decide +kernel
theorem dX5_remainder_11 : decode cX5_remainder 11 = .ok (.ifCond .ge 9, 3) := by decide +kernel
theorem dX5_remainder_14 : decode cX5_remainder 14 = .ok (.iload_n 2, 1) := by decide +kernel
theorem dX5_remainder_15 : decode cX5_remainder 15 = .ok (.iload_n 1, 1) := by decide +kernel
theorem dX5_remainder_16 : decode cX5_remainder 16 = .ok (.iadd, 1) := by decide +kernel
theorem dX5_remainder_17 : decode cX5_remainder 17 = .ok (.goto 4, 3) := by decide +kernel
theorem dX5_remainder_20 : decode cX5_remainder 20 = .ok (.iload_n 2, 1) := by decide +kernel
theorem dX5_remainder_21 : decode cX5_remainder 21 = .ok (.ireturn, 1) := by decide +kernel
theorem dX5_distance_0 : decode cX5_distance 0 = .ok (.iload_n 0, 1) := by decide +kernel
theorem dX5_distance_1 : decode cX5_distance 1 = .ok (.iload_n 1, 1) := by decide +kernel
theorem dX5_distance_2 : decode cX5_distance 2 = .ok (.isub, 1) := by decide +kernel
theorem dX5_distance_3 : decode cX5_distance 3 = .ok (.iload_n 2, 1) := by decide +kernel
theorem dX5_distance_4 : decode cX5_distance 4 = .ok (.invokestatic 168, 3) := by decide +kernel
theorem dX5_distance_7 : decode cX5_distance 7 = .ok (.iload_n 1, 1) := by decide +kernel
theorem dX5_distance_8 : decode cX5_distance 8 = .ok (.iload_n 0, 1) := by decide +kernel
theorem dX5_distance_9 : decode cX5_distance 9 = .ok (.isub, 1) := by decide +kernel
theorem dX5_distance_10 : decode cX5_distance 10 = .ok (.iload_n 2, 1) := by decide +kernel
theorem dX5_distance_11 : decode cX5_distance 11 = .ok (.invokestatic 168, 3) := by decide +kernel
theorem dX5_distance_14 : decode cX5_distance 14 = .ok (.invokestatic 239, 3) := by decide +kernel
theorem dX5_distance_17 : decode cX5_distance 17 = .ok (.ireturn, 1) := by decide +kernel
theorem dX5_deviation_0 : decode cX5_deviation 0 = .ok (.iload_n 0, 1) := by decide +kernel
theorem dX5_deviation_1 : decode cX5_deviation 1 = .ok (.iload_n 1, 1) := by decide +kernel
theorem dX5_deviation_2 : decode cX5_deviation 2 = .ok (.getstatic 165, 3) := by decide +kernel
theorem dX5_deviation_5 : decode cX5_deviation 5 = .ok (.iconst 0, 1) := by decide +kernel
theorem dX5_deviation_6 : decode cX5_deviation 6 = .ok (.invokestatic 124, 3) := by decide +kernel
theorem dX5_deviation_9 : decode cX5_deviation 9 = .ok (.invokestatic 214, 3) := by decide +kernel
theorem dX5_deviation_12 : decode cX5_deviation 12 = .ok (.istore 4, 2) := by decide +kernel
theorem dX5_deviation_14 : decode cX5_deviation 14 = .ok (.iload_n 0, 1) := by decide +kernel
theorem dX5_deviation_15 : decode cX5_deviation 15 = .ok (.iload_n 2, 1) := by decide +kernel
theorem dX5_deviation_16 : decode cX5_deviation 16 = .ok (.getstatic 165, 3) := by decide +kernel
theorem dX5_deviation_19 : decode cX5_deviation 19 = .ok (.iconst 1, 1) := by decide +kernel
theorem dX5_deviation_20 : decode cX5_deviation 20 = .ok (.invokestatic 124, 3) := by decide +kernel
theorem dX5_deviation_23 : decode cX5_deviation 23 = .ok (.invokestatic 214, 3) := by decide +kernel
theorem dX5_deviation_26 : decode cX5_deviation 26 = .ok (.istore 5, 2) := by decide +kernel
theorem dX5_deviation_28 : decode cX5_deviation 28 = .ok (.iload_n 0, 1) := by decide +kernel
theorem dX5_deviation_29 : decode cX5_deviation 29 = .ok (.iload_n 3, 1) := by decide +kernel
theorem dX5_deviation_30 : decode cX5_deviation 30 = .ok (.getstatic 165, 3) := by decide +kernel
theorem dX5_deviation_33 : decode cX5_deviation 33 = .ok (.iconst 2, 1) := by decide +kernel
theorem dX5_deviation_34 : decode cX5_deviation 34 = .ok (.invokestatic 124, 3) := by decide +kernel
theorem dX5_deviation_37 : decode cX5_deviation 37 = .ok (.invokestatic 214, 3) := by decide +kernel
theorem dX5_deviation_40 : decode cX5_deviation 40 = .ok (.istore 6, 2) := by decide +kernel
theorem dX5_deviation_42 : decode cX5_deviation 42 = .ok (.iload 4, 2) := by decide +kernel
theorem dX5_deviation_44 : decode cX5_deviation 44 = .ok (.iload 5, 2) := by decide +kernel
theorem dX5_deviation_46 : decode cX5_deviation 46 = .ok (.iload 6, 2) := by decide +kernel
theorem dX5_deviation_48 : decode cX5_deviation 48 = .ok (.invokestatic 196, 3) := by decide +kernel
theorem dX5_deviation_51 : decode cX5_deviation 51 = .ok (.invokestatic 196, 3) := by decide +kernel
theorem dX5_deviation_54 : decode cX5_deviation 54 = .ok (.ireturn, 1) := by decide +kernel
theorem dX5_nearestAngle_0 : decode cX5_nearestAngle 0 = .ok (.iconst 0, 1) := by decide +kernel
theorem dX5_nearestAngle_1 : decode cX5_nearestAngle 1 = .ok (.istore_n 3, 1) := by decide +kernel
theorem dX5_nearestAngle_2 : decode cX5_nearestAngle 2 = .ok (.iconst 0, 1) := by decide +kernel
theorem dX5_nearestAngle_3 : decode cX5_nearestAngle 3 = .ok (.iload_n 0, 1) := by decide +kernel
theorem dX5_nearestAngle_4 : decode cX5_nearestAngle 4 = .ok (.iload_n 1, 1) := by decide +kernel
theorem dX5_nearestAngle_5 : decode cX5_nearestAngle 5 = .ok (.iload_n 2, 1) := by decide +kernel
theorem dX5_nearestAngle_6 : decode cX5_nearestAngle 6 = .ok (.invokestatic 161, 3) := by decide +kernel
theorem dX5_nearestAngle_9 : decode cX5_nearestAngle 9 = .ok (.istore 4, 2) := by decide +kernel
theorem dX5_nearestAngle_11 : decode cX5_nearestAngle 11 = .ok (.iconst 1, 1) := by decide +kernel
theorem dX5_nearestAngle_12 : decode cX5_nearestAngle 12 = .ok (.istore 5, 2) := by decide +kernel
theorem dX5_nearestAngle_14 : decode cX5_nearestAngle 14 = .ok (.iload 5, 2) := by decide +kernel
theorem dX5_nearestAngle_16 : decode cX5_nearestAngle 16 = .ok (.sipush 4080, 3) := by decide +kernel
theorem dX5_nearestAngle_19 : decode cX5_nearestAngle 19 = .ok (.if_icmp .ge 51, 3) := by decide +kernel
theorem dX5_nearestAngle_22 : decode cX5_nearestAngle 22 = .ok (.iload 4, 2) := by decide +kernel
theorem dX5_nearestAngle_24 : decode cX5_nearestAngle 24 = .ok (.ifCond .le 46, 3) := by decide +kernel
theorem dX5_nearestAngle_27 : decode cX5_nearestAngle 27 = .ok (.iload 5, 2) := by decide +kernel
theorem dX5_nearestAngle_29 : decode cX5_nearestAngle 29 = .ok (.iload_n 0, 1) := by decide +kernel
theorem dX5_nearestAngle_30 : decode cX5_nearestAngle 30 = .ok (.iload_n 1, 1) := by decide +kernel
theorem dX5_nearestAngle_31 : decode cX5_nearestAngle 31 = .ok (.iload_n 2, 1) := by decide +kernel
theorem dX5_nearestAngle_32 : decode cX5_nearestAngle 32 = .ok (.invokestatic 161, 3) := by decide +kernel
theorem dX5_nearestAngle_35 : decode cX5_nearestAngle 35 = .ok (.istore 6, 2) := by decide +kernel
theorem dX5_nearestAngle_37 : decode cX5_nearestAngle 37 = .ok (.iload 6, 2) := by decide +kernel
theorem dX5_nearestAngle_39 : decode cX5_nearestAngle 39 = .ok (.iload 4, 2) := by decide +kernel
theorem dX5_nearestAngle_41 : decode cX5_nearestAngle 41 = .ok (.if_icmp .ge 10, 3) := by decide +kernel
theorem dX5_nearestAngle_44 : decode cX5_nearestAngle 44 = .ok (.iload 5, 2) := by decide +kernel
theorem dX5_nearestAngle_46 : decode cX5_nearestAngle 46 = .ok (.istore_n 3, 1) := by decide +kernel
theorem dX5_nearestAngle_47 : decode cX5_nearestAngle 47 = .ok (.iload 6, 2) := by decide +kernel
theorem dX5_nearestAngle_49 : decode cX5_nearestAngle 49 = .ok (.istore 4, 2) := by decide +kernel
theorem dX5_nearestAngle_51 : decode cX5_nearestAngle 51 = .ok (.iload 5, 2) := by decide +kernel
theorem dX5_nearestAngle_53 : decode cX5_nearestAngle 53 = .ok (.iconst 1, 1) := by decide +kernel
theorem dX5_nearestAngle_54 : decode cX5_nearestAngle 54 = .ok (.iload 6, 2) := by decide +kernel
theorem dX5_nearestAngle_56 : decode cX5_nearestAngle 56 = .ok (.iload 4, 2) := by decide +kernel
theorem dX5_nearestAngle_58 : decode cX5_nearestAngle 58 = .ok (.isub, 1) := by decide +kernel
theorem dX5_nearestAngle_59 : decode cX5_nearestAngle 59 = .ok (.iconst 1, 1) := by decide +kernel
theorem dX5_nearestAngle_60 : decode cX5_nearestAngle 60 = .ok (.iadd, 1) := by decide +kernel
theorem dX5_nearestAngle_61 : decode cX5_nearestAngle 61 = .ok (.invokestatic 196, 3) := by decide +kernel
theorem dX5_nearestAngle_64 : decode cX5_nearestAngle 64 = .ok (.iadd, 1) := by decide +kernel
theorem dX5_nearestAngle_65 : decode cX5_nearestAngle 65 = .ok (.istore 5, 2) := by decide +kernel
theorem dX5_nearestAngle_67 : decode cX5_nearestAngle 67 = .ok (.goto (-53), 3) := by decide +kernel
theorem dX5_nearestAngle_70 : decode cX5_nearestAngle 70 = .ok (.iload_n 3, 1) := by decide +kernel
theorem dX5_nearestAngle_71 : decode cX5_nearestAngle 71 = .ok (.ireturn, 1) := by decide +kernel
end
section
theorem dL_cell_0 : decode cL_cell 0 = .ok (.iload_n 1, 1) := by decide +kernel
theorem dL_cell_1 : decode cL_cell 1 = .ok (.aload_n 0, 1) := by decide +kernel
theorem dL_cell_2 : decode cL_cell 2 = .ok (.arraylength, 1) := by decide +kernel
theorem dL_cell_3 : decode cL_cell 3 = .ok (.if_icmp .ge 9, 3) := by decide +kernel
theorem dL_cell_6 : decode cL_cell 6 = .ok (.aload_n 0, 1) := by decide +kernel
theorem dL_cell_7 : decode cL_cell 7 = .ok (.iload_n 1, 1) := by decide +kernel
theorem dL_cell_8 : decode cL_cell 8 = .ok (.iaload, 1) := by decide +kernel
theorem dL_cell_9 : decode cL_cell 9 = .ok (.goto 9, 3) := by decide +kernel
theorem dL_cell_12 : decode cL_cell 12 = .ok (.ldc 7, 2) := by decide +kernel
theorem dL_cell_14 : decode cL_cell 14 = .ok (.iload_n 1, 1) := by decide +kernel
theorem dL_cell_15 : decode cL_cell 15 = .ok (.iconst 3, 1) := by decide +kernel
theorem dL_cell_16 : decode cL_cell 16 = .ok (.iadd, 1) := by decide +kernel
theorem dL_cell_17 : decode cL_cell 17 = .ok (.imul, 1) := by decide +kernel
theorem dL_cell_18 : decode cL_cell 18 = .ok (.istore_n 2, 1) := by decide +kernel
theorem dL_cell_19 : decode cL_cell 19 = .ok (.iload_n 2, 1) := by decide +kernel
theorem dL_cell_20 : decode cL_cell 20 = .ok (.iload_n 2, 1) := by decide +kernel
theorem dL_cell_21 : decode cL_cell 21 = .ok (.bipush 15, 2) := by decide +kernel
theorem dL_cell_23 : decode cL_cell 23 = .ok (.iushr, 1) := by decide +kernel
theorem dL_cell_24 : decode cL_cell 24 = .ok (.ixor, 1) := by decide +kernel
theorem dL_cell_25 : decode cL_cell 25 = .ok (.ireturn, 1) := by decide +kernel
theorem dL_low_0 : decode cL_low 0 = .ok (.iload_n 0, 1) := by decide +kernel
theorem dL_low_1 : decode cL_low 1 = .ok (.ldc 8, 2) := by decide +kernel
theorem dL_low_3 : decode cL_low 3 = .ok (.iand, 1) := by decide +kernel
theorem dL_low_4 : decode cL_low 4 = .ok (.iload_n 1, 1) := by decide +kernel
theorem dL_low_5 : decode cL_low 5 = .ok (.irem, 1) := by decide +kernel
theorem dL_low_6 : decode cL_low 6 = .ok (.ireturn, 1) := by decide +kernel
theorem dL_period_0 : decode cL_period 0 = .ok (.sipush 4080, 3) := by decide +kernel
theorem dL_period_3 : decode cL_period 3 = .ok (.bipush 15, 2) := by decide +kernel
theorem dL_period_5 : decode cL_period 5 = .ok (.iload_n 0, 1) := by decide +kernel
theorem dL_period_6 : decode cL_period 6 = .ok (.iadd, 1) := by decide +kernel
theorem dL_period_7 : decode cL_period 7 = .ok (.idiv, 1) := by decide +kernel
theorem dL_period_8 : decode cL_period 8 = .ok (.ireturn, 1) := by decide +kernel
theorem dL_rest_0 : decode cL_rest 0 = .ok (.iload_n 0, 1) := by decide +kernel
theorem dL_rest_1 : decode cL_rest 1 = .ok (.iload_n 1, 1) := by decide +kernel
theorem dL_rest_2 : decode cL_rest 2 = .ok (.irem, 1) := by decide +kernel
theorem dL_rest_3 : decode cL_rest 3 = .ok (.iload_n 1, 1) := by decide +kernel
theorem dL_rest_4 : decode cL_rest 4 = .ok (.iadd, 1) := by decide +kernel
theorem dL_rest_5 : decode cL_rest 5 = .ok (.iload_n 1, 1) := by decide +kernel
theorem dL_rest_6 : decode cL_rest 6 = .ok (.irem, 1) := by decide +kernel
theorem dL_rest_7 : decode cL_rest 7 = .ok (.ireturn, 1) := by decide +kernel
theorem dL_near_0 : decode cL_near 0 = .ok (.iload_n 0, 1) := by decide +kernel
theorem dL_near_1 : decode cL_near 1 = .ok (.iload_n 1, 1) := by decide +kernel
theorem dL_near_2 : decode cL_near 2 = .ok (.invokestatic 9, 3) := by decide +kernel
theorem dL_near_5 : decode cL_near 5 = .ok (.istore_n 2, 1) := by decide +kernel
theorem dL_near_6 : decode cL_near 6 = .ok (.iload_n 2, 1) := by decide +kernel
theorem dL_near_7 : decode cL_near 7 = .ok (.iload_n 1, 1) := by decide +kernel
theorem dL_near_8 : decode cL_near 8 = .ok (.iload_n 2, 1) := by decide +kernel
theorem dL_near_9 : decode cL_near 9 = .ok (.isub, 1) := by decide +kernel
theorem dL_near_10 : decode cL_near 10 = .ok (.if_icmp .ge 7, 3) := by decide +kernel
theorem dL_near_13 : decode cL_near 13 = .ok (.iload_n 2, 1) := by decide +kernel
theorem dL_near_14 : decode cL_near 14 = .ok (.goto 6, 3) := by decide +kernel
theorem dL_near_17 : decode cL_near 17 = .ok (.iload_n 1, 1) := by decide +kernel
theorem dL_near_18 : decode cL_near 18 = .ok (.iload_n 2, 1) := by decide +kernel
theorem dL_near_19 : decode cL_near 19 = .ok (.isub, 1) := by decide +kernel
theorem dL_near_20 : decode cL_near 20 = .ok (.ireturn, 1) := by decide +kernel
theorem dL_sum_0 : decode cL_sum 0 = .ok (.ldc2_w 15, 3) := by decide +kernel
theorem dL_sum_3 : decode cL_sum 3 = .ok (.lstore_n 1, 1) := by decide +kernel
theorem dL_sum_4 : decode cL_sum 4 = .ok (.iconst 0, 1) := by decide +kernel
theorem dL_sum_5 : decode cL_sum 5 = .ok (.istore_n 3, 1) := by decide +kernel
theorem dL_sum_6 : decode cL_sum 6 = .ok (.iload_n 3, 1) := by decide +kernel
theorem dL_sum_7 : decode cL_sum 7 = .ok (.bipush 12, 2) := by decide +kernel
theorem dL_sum_9 : decode cL_sum 9 = .ok (.if_icmp .ge 32, 3) := by decide +kernel
theorem dL_sum_12 : decode cL_sum 12 = .ok (.ldc2_w 17, 3) := by decide +kernel
theorem dL_sum_15 : decode cL_sum 15 = .ok (.lload_n 1, 1) := by decide +kernel
theorem dL_sum_16 : decode cL_sum 16 = .ok (.lmul, 1) := by decide +kernel
theorem dL_sum_17 : decode cL_sum 17 = .ok (.iload_n 3, 1) := by decide +kernel
theorem dL_sum_18 : decode cL_sum 18 = .ok (.bipush 10, 2) := by decide +kernel
theorem dL_sum_20 : decode cL_sum 20 = .ok (.if_icmp .ne 7, 3) := by decide +kernel
theorem dL_sum_23 : decode cL_sum 23 = .ok (.iconst 0, 1) := by decide +kernel
theorem dL_sum_24 : decode cL_sum 24 = .ok (.goto 8, 3) := by decide +kernel
theorem dL_sum_27 : decode cL_sum 27 = .ok (.aload_n 0, 1) := by decide +kernel
theorem dL_sum_28 : decode cL_sum 28 = .ok (.iload_n 3, 1) := by decide +kernel
theorem dL_sum_29 : decode cL_sum 29 = .ok (.invokevirtual 19, 3) := by decide +kernel
theorem dL_sum_32 : decode cL_sum 32 = .ok (.i2l, 1) := by decide +kernel
theorem dL_sum_33 : decode cL_sum 33 = .ok (.ladd, 1) := by decide +kernel
theorem dL_sum_34 : decode cL_sum 34 = .ok (.lstore_n 1, 1) := by decide +kernel
theorem dL_sum_35 : decode cL_sum 35 = .ok (.iinc 3 1, 3) := by decide +kernel
theorem dL_sum_38 : decode cL_sum 38 = .ok (.goto (-32), 3) := by decide +kernel
theorem dL_sum_41 : decode cL_sum 41 = .ok (.iconst 0, 1) := by decide +kernel
theorem dL_sum_42 : decode cL_sum 42 = .ok (.istore_n 3, 1) := by decide +kernel
theorem dL_sum_43 : decode cL_sum 43 = .ok (.iload_n 3, 1) := by decide +kernel
theorem dL_sum_44 : decode cL_sum 44 = .ok (.bipush 24, 2) := by decide +kernel
theorem dL_sum_46 : decode cL_sum 46 = .ok (.if_icmp .ge 29, 3) := by decide +kernel
theorem dL_sum_49 : decode cL_sum 49 = .ok (.ldc2_w 17, 3) := by decide +kernel
theorem dL_sum_52 : decode cL_sum 52 = .ok (.lload_n 1, 1) := by decide +kernel
theorem dL_sum_53 : decode cL_sum 53 = .ok (.lmul, 1) := by decide +kernel
theorem dL_sum_54 : decode cL_sum 54 = .ok (.aload_n 0, 1) := by decide +kernel
theorem dL_sum_55 : decode cL_sum 55 = .ok (.iload_n 3, 1) := by decide +kernel
theorem dL_sum_56 : decode cL_sum 56 = .ok (.bipush 8, 2) := by decide +kernel
theorem dL_sum_58 : decode cL_sum 58 = .ok (.idiv, 1) := by decide +kernel
theorem dL_sum_59 : decode cL_sum 59 = .ok (.iload_n 3, 1) := by decide +kernel
theorem dL_sum_60 : decode cL_sum 60 = .ok (.bipush 8, 2) := by decide +kernel
theorem dL_sum_62 : decode cL_sum 62 = .ok (.irem, 1) := by decide +kernel
theorem dL_sum_63 : decode cL_sum 63 = .ok (.invokevirtual 25, 3) := by decide +kernel
theorem dL_sum_66 : decode cL_sum 66 = .ok (.i2l, 1) := by decide +kernel
theorem dL_sum_67 : decode cL_sum 67 = .ok (.ladd, 1) := by decide +kernel
theorem dL_sum_68 : decode cL_sum 68 = .ok (.lstore_n 1, 1) := by decide +kernel
theorem dL_sum_69 : decode cL_sum 69 = .ok (.iinc 3 1, 3) := by decide +kernel
theorem dL_sum_72 : decode cL_sum 72 = .ok (.goto (-29), 3) := by decide +kernel
theorem dL_sum_75 : decode cL_sum 75 = .ok (.iconst 0, 1) := by decide +kernel
theorem dL_sum_76 : decode cL_sum 76 = .ok (.istore_n 3, 1) := by decide +kernel
theorem dL_sum_77 : decode cL_sum 77 = .ok (.iload_n 3, 1) := by decide +kernel
theorem dL_sum_78 : decode cL_sum 78 = .ok (.iconst 4, 1) := by decide +kernel
theorem dL_sum_79 : decode cL_sum 79 = .ok (.if_icmp .ge 49, 3) := by decide +kernel
theorem dL_sum_82 : decode cL_sum 82 = .ok (.ldc2_w 17, 3) := by decide +kernel
theorem dL_sum_85 : decode cL_sum 85 = .ok (.lload_n 1, 1) := by decide +kernel
theorem dL_sum_86 : decode cL_sum 86 = .ok (.lmul, 1) := by decide +kernel
theorem dL_sum_87 : decode cL_sum 87 = .ok (.aload_n 0, 1) := by decide +kernel
theorem dL_sum_88 : decode cL_sum 88 = .ok (.bipush 20, 2) := by decide +kernel
theorem dL_sum_90 : decode cL_sum 90 = .ok (.iload_n 3, 1) := by decide +kernel
theorem dL_sum_91 : decode cL_sum 91 = .ok (.iadd, 1) := by decide +kernel
theorem dL_sum_92 : decode cL_sum 92 = .ok (.invokevirtual 19, 3) := by decide +kernel
theorem dL_sum_95 : decode cL_sum 95 = .ok (.i2l, 1) := by decide +kernel
theorem dL_sum_96 : decode cL_sum 96 = .ok (.ladd, 1) := by decide +kernel
theorem dL_sum_97 : decode cL_sum 97 = .ok (.iload_n 3, 1) := by decide +kernel
theorem dL_sum_98 : decode cL_sum 98 = .ok (.iconst 3, 1) := by decide +kernel
theorem dL_sum_99 : decode cL_sum 99 = .ok (.if_icmp .ge 16, 3) := by decide +kernel
theorem dL_sum_102 : decode cL_sum 102 = .ok (.ldc2_w 28, 3) := by decide +kernel
theorem dL_sum_105 : decode cL_sum 105 = .ok (.aload_n 0, 1) := by decide +kernel
theorem dL_sum_106 : decode cL_sum 106 = .ok (.iload_n 3, 1) := by decide +kernel
theorem dL_sum_107 : decode cL_sum 107 = .ok (.invokevirtual 30, 3) := by decide +kernel
theorem dL_sum_110 : decode cL_sum 110 = .ok (.i2l, 1) := by decide +kernel
theorem dL_sum_111 : decode cL_sum 111 = .ok (.lmul, 1) := by decide +kernel
theorem dL_sum_112 : decode cL_sum 112 = .ok (.goto 8, 3) := by decide +kernel
theorem dL_sum_115 : decode cL_sum 115 = .ok (.aload_n 0, 1) := by decide +kernel
theorem dL_sum_116 : decode cL_sum 116 = .ok (.invokevirtual 33, 3) := by decide +kernel
theorem dL_sum_119 : decode cL_sum 119 = .ok (.i2l, 1) := by decide +kernel
theorem dL_sum_120 : decode cL_sum 120 = .ok (.ladd, 1) := by decide +kernel
theorem dL_sum_121 : decode cL_sum 121 = .ok (.lstore_n 1, 1) := by decide +kernel
theorem dL_sum_122 : decode cL_sum 122 = .ok (.iinc 3 1, 3) := by decide +kernel
theorem dL_sum_125 : decode cL_sum 125 = .ok (.goto (-48), 3) := by decide +kernel
theorem dL_sum_128 : decode cL_sum 128 = .ok (.lload_n 1, 1) := by decide +kernel
theorem dL_sum_129 : decode cL_sum 129 = .ok (.lreturn, 1) := by decide +kernel
theorem dL_refused_0 : decode cL_refused 0 = .ok (.aload_n 0, 1) := by decide +kernel
theorem dL_refused_1 : decode cL_refused 1 = .ok (.invokestatic 37, 3) := by decide +kernel
theorem dL_refused_4 : decode cL_refused 4 = .ok (.lstore_n 1, 1) := by decide +kernel
theorem dL_refused_5 : decode cL_refused 5 = .ok (.aload_n 0, 1) := by decide +kernel
theorem dL_refused_6 : decode cL_refused 6 = .ok (.bipush 10, 2) := by decide +kernel
theorem dL_refused_8 : decode cL_refused 8 = .ok (.invokevirtual 19, 3) := by decide +kernel
theorem dL_refused_11 : decode cL_refused 11 = .ok (.istore_n 3, 1) := by decide +kernel
theorem dL_refused_12 : decode cL_refused 12 = .ok (.aload_n 0, 1) := by decide +kernel
theorem dL_refused_13 : decode cL_refused 13 = .ok (.sipush 10000, 3) := by decide +kernel
theorem dL_refused_16 : decode cL_refused 16 = .ok (.invokevirtual 41, 3) := by decide +kernel
theorem dL_refused_19 : decode cL_refused 19 = .ok (.iconst (-1), 1) := by decide +kernel
theorem dL_refused_20 : decode cL_refused 20 = .ok (.if_icmp .ne 166, 3) := by decide +kernel
theorem dL_refused_23 : decode cL_refused 23 = .ok (.aload_n 0, 1) := by decide +kernel
theorem dL_refused_24 : decode cL_refused 24 = .ok (.sipush (-10000), 3) := by decide +kernel
theorem dL_refused_27 : decode cL_refused 27 = .ok (.invokevirtual 41, 3) := by decide +kernel
theorem dL_refused_30 : decode cL_refused 30 = .ok (.iconst (-1), 1) := by decide +kernel
theorem dL_refused_31 : decode cL_refused 31 = .ok (.if_icmp .ne 155, 3) := by decide +kernel
theorem dL_refused_34 : decode cL_refused 34 = .ok (.aload_n 0, 1) := by decide +kernel
theorem dL_refused_35 : decode cL_refused 35 = .ok (.iconst (-1), 1) := by decide +kernel
theorem dL_refused_36 : decode cL_refused 36 = .ok (.invokevirtual 44, 3) := by decide +kernel
theorem dL_refused_39 : decode cL_refused 39 = .ok (.iconst (-1), 1) := by decide +kernel
theorem dL_refused_40 : decode cL_refused 40 = .ok (.if_icmp .ne 146, 3) := by decide +kernel
theorem dL_refused_43 : decode cL_refused 43 = .ok (.aload_n 0, 1) := by decide +kernel
theorem dL_refused_44 : decode cL_refused 44 = .ok (.bipush 10, 2) := by decide +kernel
theorem dL_refused_46 : decode cL_refused 46 = .ok (.invokevirtual 47, 3) := by decide +kernel
theorem dL_refused_49 : decode cL_refused 49 = .ok (.iconst (-1), 1) := by decide +kernel
theorem dL_refused_50 : decode cL_refused 50 = .ok (.if_icmp .ne 136, 3) := by decide +kernel
theorem dL_refused_53 : decode cL_refused 53 = .ok (.aload_n 0, 1) := by decide +kernel
theorem dL_refused_54 : decode cL_refused 54 = .ok (.iconst (-1), 1) := by decide +kernel
theorem dL_refused_55 : decode cL_refused 55 = .ok (.invokevirtual 50, 3) := by decide +kernel
theorem dL_refused_58 : decode cL_refused 58 = .ok (.iconst (-1), 1) := by decide +kernel
theorem dL_refused_59 : decode cL_refused 59 = .ok (.if_icmp .ne 127, 3) := by decide +kernel
theorem dL_refused_62 : decode cL_refused 62 = .ok (.aload_n 0, 1) := by decide +kernel
theorem dL_refused_63 : decode cL_refused 63 = .ok (.iconst 0, 1) := by decide +kernel
theorem dL_refused_64 : decode cL_refused 64 = .ok (.iconst 0, 1) := by decide +kernel
theorem dL_refused_65 : decode cL_refused 65 = .ok (.bipush 10, 2) := by decide +kernel
theorem dL_refused_67 : decode cL_refused 67 = .ok (.invokevirtual 53, 3) := by decide +kernel
theorem dL_refused_70 : decode cL_refused 70 = .ok (.iconst (-1), 1) := by decide +kernel
theorem dL_refused_71 : decode cL_refused 71 = .ok (.if_icmp .ne 115, 3) := by decide +kernel
theorem dL_refused_74 : decode cL_refused 74 = .ok (.aload_n 0, 1) := by decide +kernel
theorem dL_refused_75 : decode cL_refused 75 = .ok (.iconst 0, 1) := by decide +kernel
theorem dL_refused_76 : decode cL_refused 76 = .ok (.bipush (-10), 2) := by decide +kernel
theorem dL_refused_78 : decode cL_refused 78 = .ok (.invokevirtual 57, 3) := by decide +kernel
theorem dL_refused_81 : decode cL_refused 81 = .ok (.iconst (-1), 1) := by decide +kernel
theorem dL_refused_82 : decode cL_refused 82 = .ok (.if_icmp .ne 104, 3) := by decide +kernel
theorem dL_refused_85 : decode cL_refused 85 = .ok (.aload_n 0, 1) := by decide +kernel
theorem dL_refused_86 : decode cL_refused 86 = .ok (.iconst 1, 1) := by decide +kernel
theorem dL_refused_87 : decode cL_refused 87 = .ok (.bipush 33, 2) := by decide +kernel
theorem dL_refused_89 : decode cL_refused 89 = .ok (.invokevirtual 60, 3) := by decide +kernel
theorem dL_refused_92 : decode cL_refused 92 = .ok (.iconst (-1), 1) := by decide +kernel
theorem dL_refused_93 : decode cL_refused 93 = .ok (.if_icmp .ne 93, 3) := by decide +kernel
theorem dL_refused_96 : decode cL_refused 96 = .ok (.aload_n 0, 1) := by decide +kernel
theorem dL_refused_97 : decode cL_refused 97 = .ok (.iconst (-1), 1) := by decide +kernel
theorem dL_refused_98 : decode cL_refused 98 = .ok (.iconst 0, 1) := by decide +kernel
theorem dL_refused_99 : decode cL_refused 99 = .ok (.invokevirtual 60, 3) := by decide +kernel
theorem dL_refused_102 : decode cL_refused 102 = .ok (.iconst (-1), 1) := by decide +kernel
theorem dL_refused_103 : decode cL_refused 103 = .ok (.if_icmp .ne 83, 3) := by decide +kernel
theorem dL_refused_106 : decode cL_refused 106 = .ok (.aload_n 0, 1) := by decide +kernel
theorem dL_refused_107 : decode cL_refused 107 = .ok (.iconst 2, 1) := by decide +kernel
theorem dL_refused_108 : decode cL_refused 108 = .ok (.bipush 7, 2) := by decide +kernel
theorem dL_refused_110 : decode cL_refused 110 = .ok (.bipush (-21), 2) := by decide +kernel
theorem dL_refused_112 : decode cL_refused 112 = .ok (.invokevirtual 63, 3) := by decide +kernel
theorem dL_refused_115 : decode cL_refused 115 = .ok (.iconst (-1), 1) := by decide +kernel
theorem dL_refused_116 : decode cL_refused 116 = .ok (.if_icmp .ne 70, 3) := by decide +kernel
theorem dL_refused_119 : decode cL_refused 119 = .ok (.aload_n 0, 1) := by decide +kernel
theorem dL_refused_120 : decode cL_refused 120 = .ok (.iconst 5, 1) := by decide +kernel
theorem dL_refused_121 : decode cL_refused 121 = .ok (.invokevirtual 66, 3) := by decide +kernel
theorem dL_refused_124 : decode cL_refused 124 = .ok (.iconst (-1), 1) := by decide +kernel
theorem dL_refused_125 : decode cL_refused 125 = .ok (.if_icmp .ne 61, 3) := by decide +kernel
theorem dL_refused_128 : decode cL_refused 128 = .ok (.aload_n 0, 1) := by decide +kernel
theorem dL_refused_129 : decode cL_refused 129 = .ok (.bipush 100, 2) := by decide +kernel
theorem dL_refused_131 : decode cL_refused 131 = .ok (.iconst 0, 1) := by decide +kernel
theorem dL_refused_132 : decode cL_refused 132 = .ok (.invokevirtual 69, 3) := by decide +kernel
theorem dL_refused_135 : decode cL_refused 135 = .ok (.iconst (-1), 1) := by decide +kernel
theorem dL_refused_136 : decode cL_refused 136 = .ok (.if_icmp .ne 50, 3) := by decide +kernel
theorem dL_refused_139 : decode cL_refused 139 = .ok (.aload_n 0, 1) := by decide +kernel
theorem dL_refused_140 : decode cL_refused 140 = .ok (.iconst 0, 1) := by decide +kernel
theorem dL_refused_141 : decode cL_refused 141 = .ok (.iconst 0, 1) := by decide +kernel
theorem dL_refused_142 : decode cL_refused 142 = .ok (.iconst 0, 1) := by decide +kernel
theorem dL_refused_143 : decode cL_refused 143 = .ok (.iconst (-1), 1) := by decide +kernel
theorem dL_refused_144 : decode cL_refused 144 = .ok (.invokevirtual 72, 3) := by decide +kernel
theorem dL_refused_147 : decode cL_refused 147 = .ok (.iconst (-1), 1) := by decide +kernel
theorem dL_refused_148 : decode cL_refused 148 = .ok (.if_icmp .ne 38, 3) := by decide +kernel
theorem dL_refused_151 : decode cL_refused 151 = .ok (.aload_n 0, 1) := by decide +kernel
theorem dL_refused_152 : decode cL_refused 152 = .ok (.iconst 1, 1) := by decide +kernel
theorem dL_refused_153 : decode cL_refused 153 = .ok (.iconst 0, 1) := by decide +kernel
theorem dL_refused_154 : decode cL_refused 154 = .ok (.iconst 1, 1) := by decide +kernel
theorem dL_refused_155 : decode cL_refused 155 = .ok (.iconst 0, 1) := by decide +kernel
theorem dL_refused_156 : decode cL_refused 156 = .ok (.invokevirtual 76, 3) := by decide +kernel
theorem dL_refused_159 : decode cL_refused 159 = .ok (.iconst (-1), 1) := by decide +kernel
theorem dL_refused_160 : decode cL_refused 160 = .ok (.if_icmp .ne 26, 3) := by decide +kernel
theorem dL_refused_163 : decode cL_refused 163 = .ok (.aload_n 0, 1) := by decide +kernel
theorem dL_refused_164 : decode cL_refused 164 = .ok (.bipush 10, 2) := by decide +kernel
theorem dL_refused_166 : decode cL_refused 166 = .ok (.invokevirtual 79, 3) := by decide +kernel
theorem dL_refused_169 : decode cL_refused 169 = .ok (.iconst (-1), 1) := by decide +kernel
theorem dL_refused_170 : decode cL_refused 170 = .ok (.if_icmp .ne 16, 3) := by decide +kernel
theorem dL_refused_173 : decode cL_refused 173 = .ok (.aload_n 0, 1) := by decide +kernel
theorem dL_refused_174 : decode cL_refused 174 = .ok (.iconst 3, 1) := by decide +kernel
theorem dL_refused_175 : decode cL_refused 175 = .ok (.invokevirtual 82, 3) := by decide +kernel
theorem dL_refused_178 : decode cL_refused 178 = .ok (.iconst (-1), 1) := by decide +kernel
theorem dL_refused_179 : decode cL_refused 179 = .ok (.if_icmp .ne 7, 3) := by decide +kernel
theorem dL_refused_182 : decode cL_refused 182 = .ok (.iconst 1, 1) := by decide +kernel
theorem dL_refused_183 : decode cL_refused 183 = .ok (.goto 4, 3) := by decide +kernel
theorem dL_refused_186 : decode cL_refused 186 = .ok (.iconst 0, 1) := by decide +kernel
theorem dL_refused_187 : decode cL_refused 187 = .ok (.istore 4, 2) := by decide +kernel
theorem dL_refused_189 : decode cL_refused 189 = .ok (.iload 4, 2) := by decide +kernel
theorem dL_refused_191 : decode cL_refused 191 = .ok (.ifCond .eq 83, 3) := by decide +kernel
theorem dL_refused_194 : decode cL_refused 194 = .ok (.aload_n 0, 1) := by decide +kernel
theorem dL_refused_195 : decode cL_refused 195 = .ok (.iconst 0, 1) := by decide +kernel
theorem dL_refused_196 : decode cL_refused 196 = .ok (.invokevirtual 19, 3) := by decide +kernel
theorem dL_refused_199 : decode cL_refused 199 = .ok (.sipush 9999, 3) := by decide +kernel
theorem dL_refused_202 : decode cL_refused 202 = .ok (.if_icmp .ge 20, 3) := by decide +kernel
theorem dL_refused_205 : decode cL_refused 205 = .ok (.aload_n 0, 1) := by decide +kernel
theorem dL_refused_206 : decode cL_refused 206 = .ok (.aload_n 0, 1) := by decide +kernel
theorem dL_refused_207 : decode cL_refused 207 = .ok (.iconst 0, 1) := by decide +kernel
theorem dL_refused_208 : decode cL_refused 208 = .ok (.invokevirtual 19, 3) := by decide +kernel
theorem dL_refused_211 : decode cL_refused 211 = .ok (.ineg, 1) := by decide +kernel
theorem dL_refused_212 : decode cL_refused 212 = .ok (.iconst 1, 1) := by decide +kernel
theorem dL_refused_213 : decode cL_refused 213 = .ok (.isub, 1) := by decide +kernel
theorem dL_refused_214 : decode cL_refused 214 = .ok (.invokevirtual 41, 3) := by decide +kernel
theorem dL_refused_217 : decode cL_refused 217 = .ok (.bipush (-2), 2) := by decide +kernel
theorem dL_refused_219 : decode cL_refused 219 = .ok (.if_icmp .ne 55, 3) := by decide +kernel
theorem dL_refused_222 : decode cL_refused 222 = .ok (.aload_n 0, 1) := by decide +kernel
theorem dL_refused_223 : decode cL_refused 223 = .ok (.iconst 3, 1) := by decide +kernel
theorem dL_refused_224 : decode cL_refused 224 = .ok (.invokevirtual 19, 3) := by decide +kernel
theorem dL_refused_227 : decode cL_refused 227 = .ok (.iconst 1, 1) := by decide +kernel
theorem dL_refused_228 : decode cL_refused 228 = .ok (.if_icmp .eq 21, 3) := by decide +kernel
theorem dL_refused_231 : decode cL_refused 231 = .ok (.aload_n 0, 1) := by decide +kernel
theorem dL_refused_232 : decode cL_refused 232 = .ok (.invokevirtual 85, 3) := by decide +kernel
theorem dL_refused_235 : decode cL_refused 235 = .ok (.bipush (-2), 2) := by decide +kernel
theorem dL_refused_237 : decode cL_refused 237 = .ok (.if_icmp .ne 37, 3) := by decide +kernel
theorem dL_refused_240 : decode cL_refused 240 = .ok (.aload_n 0, 1) := by decide +kernel
theorem dL_refused_241 : decode cL_refused 241 = .ok (.invokevirtual 88, 3) := by decide +kernel
theorem dL_refused_244 : decode cL_refused 244 = .ok (.bipush (-2), 2) := by decide +kernel
theorem dL_refused_246 : decode cL_refused 246 = .ok (.if_icmp .ne 28, 3) := by decide +kernel
theorem dL_refused_249 : decode cL_refused 249 = .ok (.aload_n 0, 1) := by decide +kernel
theorem dL_refused_250 : decode cL_refused 250 = .ok (.iconst 5, 1) := by decide +kernel
theorem dL_refused_251 : decode cL_refused 251 = .ok (.invokevirtual 19, 3) := by decide +kernel
theorem dL_refused_254 : decode cL_refused 254 = .ok (.bipush 91, 2) := by decide +kernel
theorem dL_refused_256 : decode cL_refused 256 = .ok (.if_icmp .lt 14, 3) := by decide +kernel
theorem dL_refused_259 : decode cL_refused 259 = .ok (.aload_n 0, 1) := by decide +kernel
theorem dL_refused_260 : decode cL_refused 260 = .ok (.bipush 9, 2) := by decide +kernel
theorem dL_refused_262 : decode cL_refused 262 = .ok (.invokevirtual 47, 3) := by decide +kernel
theorem dL_refused_265 : decode cL_refused 265 = .ok (.bipush (-3), 2) := by decide +kernel
theorem dL_refused_267 : decode cL_refused 267 = .ok (.if_icmp .ne 7, 3) := by decide +kernel
theorem dL_refused_270 : decode cL_refused 270 = .ok (.iconst 1, 1) := by decide +kernel
theorem dL_refused_271 : decode cL_refused 271 = .ok (.goto 4, 3) := by decide +kernel
theorem dL_refused_274 : decode cL_refused 274 = .ok (.iconst 0, 1) := by decide +kernel
theorem dL_refused_275 : decode cL_refused 275 = .ok (.istore 4, 2) := by decide +kernel
theorem dL_refused_277 : decode cL_refused 277 = .ok (.iload 4, 2) := by decide +kernel
theorem dL_refused_279 : decode cL_refused 279 = .ok (.ifCond .eq 26, 3) := by decide +kernel
theorem dL_refused_282 : decode cL_refused 282 = .ok (.aload_n 0, 1) := by decide +kernel
theorem dL_refused_283 : decode cL_refused 283 = .ok (.invokestatic 37, 3) := by decide +kernel
theorem dL_refused_286 : decode cL_refused 286 = .ok (.lload_n 1, 1) := by decide +kernel
theorem dL_refused_287 : decode cL_refused 287 = .ok (.lcmp, 1) := by decide +kernel
theorem dL_refused_288 : decode cL_refused 288 = .ok (.ifCond .ne 17, 3) := by decide +kernel
theorem dL_refused_291 : decode cL_refused 291 = .ok (.aload_n 0, 1) := by decide +kernel
theorem dL_refused_292 : decode cL_refused 292 = .ok (.bipush 10, 2) := by decide +kernel
theorem dL_refused_294 : decode cL_refused 294 = .ok (.invokevirtual 19, 3) := by decide +kernel
theorem dL_refused_297 : decode cL_refused 297 = .ok (.iload_n 3, 1) := by decide +kernel
theorem dL_refused_298 : decode cL_refused 298 = .ok (.if_icmp .ne 7, 3) := by decide +kernel
theorem dL_refused_301 : decode cL_refused 301 = .ok (.iconst 1, 1) := by decide +kernel
theorem dL_refused_302 : decode cL_refused 302 = .ok (.goto 4, 3) := by decide +kernel
theorem dL_refused_305 : decode cL_refused 305 = .ok (.iconst 0, 1) := by decide +kernel
theorem dL_refused_306 : decode cL_refused 306 = .ok (.ireturn, 1) := by decide +kernel
theorem dL_fits_0 : decode cL_fits 0 = .ok (.aload_n 0, 1) := by decide +kernel
theorem dL_fits_1 : decode cL_fits 1 = .ok (.iconst 0, 1) := by decide +kernel
theorem dL_fits_2 : decode cL_fits 2 = .ok (.invokevirtual 19, 3) := by decide +kernel
theorem dL_fits_5 : decode cL_fits 5 = .ok (.istore_n 1, 1) := by decide +kernel
theorem dL_fits_6 : decode cL_fits 6 = .ok (.aload_n 0, 1) := by decide +kernel
theorem dL_fits_7 : decode cL_fits 7 = .ok (.iconst 1, 1) := by decide +kernel
theorem dL_fits_8 : decode cL_fits 8 = .ok (.invokevirtual 19, 3) := by decide +kernel
theorem dL_fits_11 : decode cL_fits 11 = .ok (.istore_n 2, 1) := by decide +kernel
theorem dL_fits_12 : decode cL_fits 12 = .ok (.iconst 0, 1) := by decide +kernel
theorem dL_fits_13 : decode cL_fits 13 = .ok (.istore_n 3, 1) := by decide +kernel
theorem dL_fits_14 : decode cL_fits 14 = .ok (.iconst 0, 1) := by decide +kernel
theorem dL_fits_15 : decode cL_fits 15 = .ok (.istore 4, 2) := by decide +kernel
theorem dL_fits_17 : decode cL_fits 17 = .ok (.iconst 0, 1) := by decide +kernel
theorem dL_fits_18 : decode cL_fits 18 = .ok (.istore 5, 2) := by decide +kernel
theorem dL_fits_20 : decode cL_fits 20 = .ok (.iload 5, 2) := by decide +kernel
theorem dL_fits_22 : decode cL_fits 22 = .ok (.bipush 24, 2) := by decide +kernel
theorem dL_fits_24 : decode cL_fits 24 = .ok (.if_icmp .ge 36, 3) := by decide +kernel
theorem dL_fits_27 : decode cL_fits 27 = .ok (.iload_n 3, 1) := by decide +kernel
theorem dL_fits_28 : decode cL_fits 28 = .ok (.aload_n 0, 1) := by decide +kernel
theorem dL_fits_29 : decode cL_fits 29 = .ok (.iload 5, 2) := by decide +kernel
theorem dL_fits_31 : decode cL_fits 31 = .ok (.bipush 8, 2) := by decide +kernel
theorem dL_fits_33 : decode cL_fits 33 = .ok (.idiv, 1) := by decide +kernel
theorem dL_fits_34 : decode cL_fits 34 = .ok (.iload 5, 2) := by decide +kernel
theorem dL_fits_36 : decode cL_fits 36 = .ok (.bipush 8, 2) := by decide +kernel
theorem dL_fits_38 : decode cL_fits 38 = .ok (.irem, 1) := by decide +kernel
theorem dL_fits_39 : decode cL_fits 39 = .ok (.invokevirtual 25, 3) := by decide +kernel
theorem dL_fits_42 : decode cL_fits 42 = .ok (.bipush 100, 2) := by decide +kernel
theorem dL_fits_44 : decode cL_fits 44 = .ok (.if_icmp .ne 7, 3) := by decide +kernel
theorem dL_fits_47 : decode cL_fits 47 = .ok (.iconst 0, 1) := by decide +kernel
theorem dL_fits_48 : decode cL_fits 48 = .ok (.goto 4, 3) := by decide +kernel
theorem dL_fits_51 : decode cL_fits 51 = .ok (.iconst 1, 1) := by decide +kernel
theorem dL_fits_52 : decode cL_fits 52 = .ok (.iadd, 1) := by decide +kernel
theorem dL_fits_53 : decode cL_fits 53 = .ok (.istore_n 3, 1) := by decide +kernel
theorem dL_fits_54 : decode cL_fits 54 = .ok (.iinc 5 1, 3) := by decide +kernel
theorem dL_fits_57 : decode cL_fits 57 = .ok (.goto (-37), 3) := by decide +kernel
theorem dL_fits_60 : decode cL_fits 60 = .ok (.iload_n 1, 1) := by decide +kernel
theorem dL_fits_61 : decode cL_fits 61 = .ok (.ifCond .lt 193, 3) := by decide +kernel
theorem dL_fits_64 : decode cL_fits 64 = .ok (.iload_n 1, 1) := by decide +kernel
theorem dL_fits_65 : decode cL_fits 65 = .ok (.ldc 91, 2) := by decide +kernel
theorem dL_fits_67 : decode cL_fits 67 = .ok (.if_icmp .ge 187, 3) := by decide +kernel
theorem dL_fits_70 : decode cL_fits 70 = .ok (.iload_n 2, 1) := by decide +kernel
theorem dL_fits_71 : decode cL_fits 71 = .ok (.iload_n 1, 1) := by decide +kernel
theorem dL_fits_72 : decode cL_fits 72 = .ok (.sipush 4080, 3) := by decide +kernel
theorem dL_fits_75 : decode cL_fits 75 = .ok (.irem, 1) := by decide +kernel
theorem dL_fits_76 : decode cL_fits 76 = .ok (.if_icmp .ne 178, 3) := by decide +kernel
theorem dL_fits_79 : decode cL_fits 79 = .ok (.aload_n 0, 1) := by decide +kernel
theorem dL_fits_80 : decode cL_fits 80 = .ok (.iconst 2, 1) := by decide +kernel
theorem dL_fits_81 : decode cL_fits 81 = .ok (.invokevirtual 19, 3) := by decide +kernel
theorem dL_fits_84 : decode cL_fits 84 = .ok (.ifCond .lt 170, 3) := by decide +kernel
theorem dL_fits_87 : decode cL_fits 87 = .ok (.aload_n 0, 1) := by decide +kernel
theorem dL_fits_88 : decode cL_fits 88 = .ok (.iconst 2, 1) := by decide +kernel
theorem dL_fits_89 : decode cL_fits 89 = .ok (.invokevirtual 19, 3) := by decide +kernel
theorem dL_fits_92 : decode cL_fits 92 = .ok (.bipush 64, 2) := by decide +kernel
theorem dL_fits_94 : decode cL_fits 94 = .ok (.if_icmp .ge 160, 3) := by decide +kernel
theorem dL_fits_97 : decode cL_fits 97 = .ok (.aload_n 0, 1) := by decide +kernel
theorem dL_fits_98 : decode cL_fits 98 = .ok (.iconst 4, 1) := by decide +kernel
theorem dL_fits_99 : decode cL_fits 99 = .ok (.invokevirtual 19, 3) := by decide +kernel
theorem dL_fits_102 : decode cL_fits 102 = .ok (.ifCond .lt 152, 3) := by decide +kernel
theorem dL_fits_105 : decode cL_fits 105 = .ok (.aload_n 0, 1) := by decide +kernel
theorem dL_fits_106 : decode cL_fits 106 = .ok (.iconst 4, 1) := by decide +kernel
theorem dL_fits_107 : decode cL_fits 107 = .ok (.invokevirtual 19, 3) := by decide +kernel
theorem dL_fits_110 : decode cL_fits 110 = .ok (.sipush 1000, 3) := by decide +kernel
theorem dL_fits_113 : decode cL_fits 113 = .ok (.if_icmp .ge 141, 3) := by decide +kernel
theorem dL_fits_116 : decode cL_fits 116 = .ok (.aload_n 0, 1) := by decide +kernel
theorem dL_fits_117 : decode cL_fits 117 = .ok (.iconst 5, 1) := by decide +kernel
theorem dL_fits_118 : decode cL_fits 118 = .ok (.invokevirtual 19, 3) := by decide +kernel
theorem dL_fits_121 : decode cL_fits 121 = .ok (.ifCond .lt 133, 3) := by decide +kernel
theorem dL_fits_124 : decode cL_fits 124 = .ok (.aload_n 0, 1) := by decide +kernel
theorem dL_fits_125 : decode cL_fits 125 = .ok (.iconst 5, 1) := by decide +kernel
theorem dL_fits_126 : decode cL_fits 126 = .ok (.invokevirtual 19, 3) := by decide +kernel
theorem dL_fits_129 : decode cL_fits 129 = .ok (.bipush 100, 2) := by decide +kernel
theorem dL_fits_131 : decode cL_fits 131 = .ok (.if_icmp .ge 123, 3) := by decide +kernel
theorem dL_fits_134 : decode cL_fits 134 = .ok (.aload_n 0, 1) := by decide +kernel
theorem dL_fits_135 : decode cL_fits 135 = .ok (.bipush 8, 2) := by decide +kernel
theorem dL_fits_137 : decode cL_fits 137 = .ok (.invokevirtual 19, 3) := by decide +kernel
theorem dL_fits_140 : decode cL_fits 140 = .ok (.iload_n 2, 1) := by decide +kernel
theorem dL_fits_141 : decode cL_fits 141 = .ok (.bipush 64, 2) := by decide +kernel
theorem dL_fits_143 : decode cL_fits 143 = .ok (.imul, 1) := by decide +kernel
theorem dL_fits_144 : decode cL_fits 144 = .ok (.sipush 4080, 3) := by decide +kernel
theorem dL_fits_147 : decode cL_fits 147 = .ok (.idiv, 1) := by decide +kernel
theorem dL_fits_148 : decode cL_fits 148 = .ok (.aload_n 0, 1) := by decide +kernel
theorem dL_fits_149 : decode cL_fits 149 = .ok (.bipush 23, 2) := by decide +kernel
theorem dL_fits_151 : decode cL_fits 151 = .ok (.invokevirtual 19, 3) := by decide +kernel
theorem dL_fits_154 : decode cL_fits 154 = .ok (.iadd, 1) := by decide +kernel
theorem dL_fits_155 : decode cL_fits 155 = .ok (.bipush 100, 2) := by decide +kernel
theorem dL_fits_157 : decode cL_fits 157 = .ok (.isub, 1) := by decide +kernel
theorem dL_fits_158 : decode cL_fits 158 = .ok (.bipush 64, 2) := by decide +kernel
theorem dL_fits_160 : decode cL_fits 160 = .ok (.invokestatic 9, 3) := by decide +kernel
theorem dL_fits_163 : decode cL_fits 163 = .ok (.if_icmp .ne 91, 3) := by decide +kernel
theorem dL_fits_166 : decode cL_fits 166 = .ok (.aload_n 0, 1) := by decide +kernel
theorem dL_fits_167 : decode cL_fits 167 = .ok (.bipush 9, 2) := by decide +kernel
theorem dL_fits_169 : decode cL_fits 169 = .ok (.invokevirtual 19, 3) := by decide +kernel
theorem dL_fits_172 : decode cL_fits 172 = .ok (.iload_n 3, 1) := by decide +kernel
theorem dL_fits_173 : decode cL_fits 173 = .ok (.if_icmp .ne 81, 3) := by decide +kernel
theorem dL_fits_176 : decode cL_fits 176 = .ok (.aload_n 0, 1) := by decide +kernel
theorem dL_fits_177 : decode cL_fits 177 = .ok (.bipush 6, 2) := by decide +kernel
theorem dL_fits_179 : decode cL_fits 179 = .ok (.invokevirtual 19, 3) := by decide +kernel
theorem dL_fits_182 : decode cL_fits 182 = .ok (.bipush (-4), 2) := by decide +kernel
theorem dL_fits_184 : decode cL_fits 184 = .ok (.if_icmp .lt 70, 3) := by decide +kernel
theorem dL_fits_187 : decode cL_fits 187 = .ok (.aload_n 0, 1) := by decide +kernel
theorem dL_fits_188 : decode cL_fits 188 = .ok (.bipush 6, 2) := by decide +kernel
theorem dL_fits_190 : decode cL_fits 190 = .ok (.invokevirtual 19, 3) := by decide +kernel
theorem dL_fits_193 : decode cL_fits 193 = .ok (.ldc 91, 2) := by decide +kernel
theorem dL_fits_195 : decode cL_fits 195 = .ok (.if_icmp .ge 59, 3) := by decide +kernel
theorem dL_fits_198 : decode cL_fits 198 = .ok (.aload_n 0, 1) := by decide +kernel
theorem dL_fits_199 : decode cL_fits 199 = .ok (.invokevirtual 92, 3) := by decide +kernel
theorem dL_fits_202 : decode cL_fits 202 = .ok (.aload_n 0, 1) := by decide +kernel
theorem dL_fits_203 : decode cL_fits 203 = .ok (.bipush 6, 2) := by decide +kernel
theorem dL_fits_205 : decode cL_fits 205 = .ok (.invokevirtual 19, 3) := by decide +kernel
theorem dL_fits_208 : decode cL_fits 208 = .ok (.bipush (-4), 2) := by decide +kernel
theorem dL_fits_210 : decode cL_fits 210 = .ok (.if_icmp .ne 8, 3) := by decide +kernel
theorem dL_fits_213 : decode cL_fits 213 = .ok (.bipush (-4), 2) := by decide +kernel
theorem dL_fits_215 : decode cL_fits 215 = .ok (.goto 16, 3) := by decide +kernel
theorem dL_fits_218 : decode cL_fits 218 = .ok (.aload_n 0, 1) := by decide +kernel
theorem dL_fits_219 : decode cL_fits 219 = .ok (.bipush 6, 2) := by decide +kernel
theorem dL_fits_221 : decode cL_fits 221 = .ok (.invokevirtual 19, 3) := by decide +kernel
theorem dL_fits_224 : decode cL_fits 224 = .ok (.iload_n 1, 1) := by decide +kernel
theorem dL_fits_225 : decode cL_fits 225 = .ok (.isub, 1) := by decide +kernel
theorem dL_fits_226 : decode cL_fits 226 = .ok (.ldc 91, 2) := by decide +kernel
theorem dL_fits_228 : decode cL_fits 228 = .ok (.invokestatic 95, 3) := by decide +kernel
theorem dL_fits_231 : decode cL_fits 231 = .ok (.if_icmp .ne 23, 3) := by decide +kernel
theorem dL_fits_234 : decode cL_fits 234 = .ok (.aload_n 0, 1) := by decide +kernel
theorem dL_fits_235 : decode cL_fits 235 = .ok (.invokevirtual 33, 3) := by decide +kernel
theorem dL_fits_238 : decode cL_fits 238 = .ok (.ifCond .lt 16, 3) := by decide +kernel
theorem dL_fits_241 : decode cL_fits 241 = .ok (.aload_n 0, 1) := by decide +kernel
theorem dL_fits_242 : decode cL_fits 242 = .ok (.invokevirtual 33, 3) := by decide +kernel
theorem dL_fits_245 : decode cL_fits 245 = .ok (.bipush 9, 2) := by decide +kernel
theorem dL_fits_247 : decode cL_fits 247 = .ok (.if_icmp .ge 7, 3) := by decide +kernel
theorem dL_fits_250 : decode cL_fits 250 = .ok (.iconst 1, 1) := by decide +kernel
theorem dL_fits_251 : decode cL_fits 251 = .ok (.goto 4, 3) := by decide +kernel
theorem dL_fits_254 : decode cL_fits 254 = .ok (.iconst 0, 1) := by decide +kernel
theorem dL_fits_255 : decode cL_fits 255 = .ok (.istore 5, 2) := by decide +kernel
theorem dL_fits_257 : decode cL_fits 257 = .ok (.iconst 0, 1) := by decide +kernel
theorem dL_fits_258 : decode cL_fits 258 = .ok (.istore 6, 2) := by decide +kernel
theorem dL_fits_260 : decode cL_fits 260 = .ok (.iload 6, 2) := by decide +kernel
theorem dL_fits_262 : decode cL_fits 262 = .ok (.iconst 3, 1) := by decide +kernel
theorem dL_fits_263 : decode cL_fits 263 = .ok (.if_icmp .ge 42, 3) := by decide +kernel
theorem dL_fits_266 : decode cL_fits 266 = .ok (.iload 5, 2) := by decide +kernel
theorem dL_fits_268 : decode cL_fits 268 = .ok (.ifCond .eq 37, 3) := by decide +kernel
theorem dL_fits_271 : decode cL_fits 271 = .ok (.aload_n 0, 1) := by decide +kernel
theorem dL_fits_272 : decode cL_fits 272 = .ok (.iload 6, 2) := by decide +kernel
theorem dL_fits_274 : decode cL_fits 274 = .ok (.invokevirtual 30, 3) := by decide +kernel
theorem dL_fits_277 : decode cL_fits 277 = .ok (.iload_n 2, 1) := by decide +kernel
theorem dL_fits_278 : decode cL_fits 278 = .ok (.isub, 1) := by decide +kernel
theorem dL_fits_279 : decode cL_fits 279 = .ok (.iload 6, 2) := by decide +kernel
theorem dL_fits_281 : decode cL_fits 281 = .ok (.invokestatic 98, 3) := by decide +kernel
theorem dL_fits_284 : decode cL_fits 284 = .ok (.invokestatic 95, 3) := by decide +kernel
theorem dL_fits_287 : decode cL_fits 287 = .ok (.bipush 19, 2) := by decide +kernel
theorem dL_fits_289 : decode cL_fits 289 = .ok (.if_icmp .ge 7, 3) := by decide +kernel
theorem dL_fits_292 : decode cL_fits 292 = .ok (.iconst 1, 1) := by decide +kernel
theorem dL_fits_293 : decode cL_fits 293 = .ok (.goto 4, 3) := by decide +kernel
theorem dL_fits_296 : decode cL_fits 296 = .ok (.iconst 0, 1) := by decide +kernel
theorem dL_fits_297 : decode cL_fits 297 = .ok (.istore 5, 2) := by decide +kernel
theorem dL_fits_299 : decode cL_fits 299 = .ok (.iinc 6 1, 3) := by decide +kernel
theorem dL_fits_302 : decode cL_fits 302 = .ok (.goto (-42), 3) := by decide +kernel
theorem dL_fits_305 : decode cL_fits 305 = .ok (.aload_n 0, 1) := by decide +kernel
theorem dL_fits_306 : decode cL_fits 306 = .ok (.iconst 2, 1) := by decide +kernel
theorem dL_fits_307 : decode cL_fits 307 = .ok (.invokevirtual 66, 3) := by decide +kernel
theorem dL_fits_310 : decode cL_fits 310 = .ok (.istore 6, 2) := by decide +kernel
theorem dL_fits_312 : decode cL_fits 312 = .ok (.aload_n 0, 1) := by decide +kernel
theorem dL_fits_313 : decode cL_fits 313 = .ok (.iconst 0, 1) := by decide +kernel
theorem dL_fits_314 : decode cL_fits 314 = .ok (.invokevirtual 66, 3) := by decide +kernel
theorem dL_fits_317 : decode cL_fits 317 = .ok (.istore 7, 2) := by decide +kernel
theorem dL_fits_319 : decode cL_fits 319 = .ok (.iload 5, 2) := by decide +kernel
theorem dL_fits_321 : decode cL_fits 321 = .ok (.ifCond .eq 51, 3) := by decide +kernel
theorem dL_fits_324 : decode cL_fits 324 = .ok (.iload 6, 2) := by decide +kernel
theorem dL_fits_326 : decode cL_fits 326 = .ok (.aload_n 0, 1) := by decide +kernel
theorem dL_fits_327 : decode cL_fits 327 = .ok (.aload_n 0, 1) := by decide +kernel
theorem dL_fits_328 : decode cL_fits 328 = .ok (.iconst 0, 1) := by decide +kernel
theorem dL_fits_329 : decode cL_fits 329 = .ok (.invokevirtual 30, 3) := by decide +kernel
theorem dL_fits_332 : decode cL_fits 332 = .ok (.aload_n 0, 1) := by decide +kernel
theorem dL_fits_333 : decode cL_fits 333 = .ok (.iconst 1, 1) := by decide +kernel
theorem dL_fits_334 : decode cL_fits 334 = .ok (.invokevirtual 30, 3) := by decide +kernel
theorem dL_fits_337 : decode cL_fits 337 = .ok (.aload_n 0, 1) := by decide +kernel
theorem dL_fits_338 : decode cL_fits 338 = .ok (.iconst 2, 1) := by decide +kernel
theorem dL_fits_339 : decode cL_fits 339 = .ok (.invokevirtual 30, 3) := by decide +kernel
theorem dL_fits_342 : decode cL_fits 342 = .ok (.iconst 0, 1) := by decide +kernel
theorem dL_fits_343 : decode cL_fits 343 = .ok (.invokevirtual 72, 3) := by decide +kernel
theorem dL_fits_346 : decode cL_fits 346 = .ok (.if_icmp .ne 26, 3) := by decide +kernel
theorem dL_fits_349 : decode cL_fits 349 = .ok (.aload_n 0, 1) := by decide +kernel
theorem dL_fits_350 : decode cL_fits 350 = .ok (.iconst 4, 1) := by decide +kernel
theorem dL_fits_351 : decode cL_fits 351 = .ok (.invokevirtual 66, 3) := by decide +kernel
theorem dL_fits_354 : decode cL_fits 354 = .ok (.iload 7, 2) := by decide +kernel
theorem dL_fits_356 : decode cL_fits 356 = .ok (.iload_n 2, 1) := by decide +kernel
theorem dL_fits_357 : decode cL_fits 357 = .ok (.if_icmp .ne 7, 3) := by decide +kernel
theorem dL_fits_360 : decode cL_fits 360 = .ok (.iconst 1, 1) := by decide +kernel
theorem dL_fits_361 : decode cL_fits 361 = .ok (.goto 4, 3) := by decide +kernel
theorem dL_fits_364 : decode cL_fits 364 = .ok (.iconst 0, 1) := by decide +kernel
theorem dL_fits_365 : decode cL_fits 365 = .ok (.if_icmp .ne 7, 3) := by decide +kernel
theorem dL_fits_368 : decode cL_fits 368 = .ok (.iconst 1, 1) := by decide +kernel
theorem dL_fits_369 : decode cL_fits 369 = .ok (.goto 4, 3) := by decide +kernel
theorem dL_fits_372 : decode cL_fits 372 = .ok (.iconst 0, 1) := by decide +kernel
theorem dL_fits_373 : decode cL_fits 373 = .ok (.istore 5, 2) := by decide +kernel
theorem dL_fits_375 : decode cL_fits 375 = .ok (.aload_n 0, 1) := by decide +kernel
theorem dL_fits_376 : decode cL_fits 376 = .ok (.iload 6, 2) := by decide +kernel
theorem dL_fits_378 : decode cL_fits 378 = .ok (.sipush 510, 3) := by decide +kernel
theorem dL_fits_381 : decode cL_fits 381 = .ok (.idiv, 1) := by decide +kernel
theorem dL_fits_382 : decode cL_fits 382 = .ok (.iconst 0, 1) := by decide +kernel
theorem dL_fits_383 : decode cL_fits 383 = .ok (.invokestatic 101, 3) := by decide +kernel
theorem dL_fits_386 : decode cL_fits 386 = .ok (.istore 8, 2) := by decide +kernel
theorem dL_fits_388 : decode cL_fits 388 = .ok (.iload 8, 2) := by decide +kernel
theorem dL_fits_390 : decode cL_fits 390 = .ok (.sipush 510, 3) := by decide +kernel
theorem dL_fits_393 : decode cL_fits 393 = .ok (.idiv, 1) := by decide +kernel
theorem dL_fits_394 : decode cL_fits 394 = .ok (.iload 6, 2) := by decide +kernel
theorem dL_fits_396 : decode cL_fits 396 = .ok (.sipush 510, 3) := by decide +kernel
theorem dL_fits_399 : decode cL_fits 399 = .ok (.idiv, 1) := by decide +kernel
theorem dL_fits_400 : decode cL_fits 400 = .ok (.if_icmp .ne 8, 3) := by decide +kernel
theorem dL_fits_403 : decode cL_fits 403 = .ok (.iload 8, 2) := by decide +kernel
theorem dL_fits_405 : decode cL_fits 405 = .ok (.goto 14, 3) := by decide +kernel
theorem dL_fits_408 : decode cL_fits 408 = .ok (.aload_n 0, 1) := by decide +kernel
theorem dL_fits_409 : decode cL_fits 409 = .ok (.iload 8, 2) := by decide +kernel
theorem dL_fits_411 : decode cL_fits 411 = .ok (.sipush 510, 3) := by decide +kernel
theorem dL_fits_414 : decode cL_fits 414 = .ok (.idiv, 1) := by decide +kernel
theorem dL_fits_415 : decode cL_fits 415 = .ok (.iconst 0, 1) := by decide +kernel
theorem dL_fits_416 : decode cL_fits 416 = .ok (.invokestatic 101, 3) := by decide +kernel
theorem dL_fits_419 : decode cL_fits 419 = .ok (.istore 9, 2) := by decide +kernel
theorem dL_fits_421 : decode cL_fits 421 = .ok (.aload_n 0, 1) := by decide +kernel
theorem dL_fits_422 : decode cL_fits 422 = .ok (.iload 8, 2) := by decide +kernel
theorem dL_fits_424 : decode cL_fits 424 = .ok (.sipush 510, 3) := by decide +kernel
theorem dL_fits_427 : decode cL_fits 427 = .ok (.idiv, 1) := by decide +kernel
theorem dL_fits_428 : decode cL_fits 428 = .ok (.iload 6, 2) := by decide +kernel
theorem dL_fits_430 : decode cL_fits 430 = .ok (.sipush 510, 3) := by decide +kernel
theorem dL_fits_433 : decode cL_fits 433 = .ok (.idiv, 1) := by decide +kernel
theorem dL_fits_434 : decode cL_fits 434 = .ok (.if_icmp .ne 12, 3) := by decide +kernel
theorem dL_fits_437 : decode cL_fits 437 = .ok (.iload 6, 2) := by decide +kernel
theorem dL_fits_439 : decode cL_fits 439 = .ok (.sipush 510, 3) := by decide +kernel
theorem dL_fits_442 : decode cL_fits 442 = .ok (.idiv, 1) := by decide +kernel
theorem dL_fits_443 : decode cL_fits 443 = .ok (.goto 9, 3) := by decide +kernel
theorem dL_fits_446 : decode cL_fits 446 = .ok (.iload 8, 2) := by decide +kernel
theorem dL_fits_448 : decode cL_fits 448 = .ok (.sipush 510, 3) := by decide +kernel
theorem dL_fits_451 : decode cL_fits 451 = .ok (.idiv, 1) := by decide +kernel
theorem dL_fits_452 : decode cL_fits 452 = .ok (.iconst 1, 1) := by decide +kernel
theorem dL_fits_453 : decode cL_fits 453 = .ok (.invokestatic 101, 3) := by decide +kernel
theorem dL_fits_456 : decode cL_fits 456 = .ok (.istore 10, 2) := by decide +kernel
theorem dL_fits_458 : decode cL_fits 458 = .ok (.iload 5, 2) := by decide +kernel
theorem dL_fits_460 : decode cL_fits 460 = .ok (.ifCond .eq 52, 3) := by decide +kernel
theorem dL_fits_463 : decode cL_fits 463 = .ok (.iload 7, 2) := by decide +kernel
theorem dL_fits_465 : decode cL_fits 465 = .ok (.iload 9, 2) := by decide +kernel
theorem dL_fits_467 : decode cL_fits 467 = .ok (.if_icmp .ne 45, 3) := by decide +kernel
theorem dL_fits_470 : decode cL_fits 470 = .ok (.aload_n 0, 1) := by decide +kernel
theorem dL_fits_471 : decode cL_fits 471 = .ok (.iconst 1, 1) := by decide +kernel
theorem dL_fits_472 : decode cL_fits 472 = .ok (.invokevirtual 66, 3) := by decide +kernel
theorem dL_fits_475 : decode cL_fits 475 = .ok (.iload 10, 2) := by decide +kernel
theorem dL_fits_477 : decode cL_fits 477 = .ok (.if_icmp .ne 35, 3) := by decide +kernel
theorem dL_fits_480 : decode cL_fits 480 = .ok (.aload_n 0, 1) := by decide +kernel
theorem dL_fits_481 : decode cL_fits 481 = .ok (.iconst 3, 1) := by decide +kernel
theorem dL_fits_482 : decode cL_fits 482 = .ok (.invokevirtual 66, 3) := by decide +kernel
theorem dL_fits_485 : decode cL_fits 485 = .ok (.iload 8, 2) := by decide +kernel
theorem dL_fits_487 : decode cL_fits 487 = .ok (.sipush 510, 3) := by decide +kernel
theorem dL_fits_490 : decode cL_fits 490 = .ok (.idiv, 1) := by decide +kernel
theorem dL_fits_491 : decode cL_fits 491 = .ok (.iload 6, 2) := by decide +kernel
theorem dL_fits_493 : decode cL_fits 493 = .ok (.sipush 510, 3) := by decide +kernel
theorem dL_fits_496 : decode cL_fits 496 = .ok (.idiv, 1) := by decide +kernel
theorem dL_fits_497 : decode cL_fits 497 = .ok (.if_icmp .ne 7, 3) := by decide +kernel
theorem dL_fits_500 : decode cL_fits 500 = .ok (.iconst 2, 1) := by decide +kernel
theorem dL_fits_501 : decode cL_fits 501 = .ok (.goto 4, 3) := by decide +kernel
theorem dL_fits_504 : decode cL_fits 504 = .ok (.iconst 3, 1) := by decide +kernel
theorem dL_fits_505 : decode cL_fits 505 = .ok (.if_icmp .ne 7, 3) := by decide +kernel
theorem dL_fits_508 : decode cL_fits 508 = .ok (.iconst 1, 1) := by decide +kernel
theorem dL_fits_509 : decode cL_fits 509 = .ok (.goto 4, 3) := by decide +kernel
theorem dL_fits_512 : decode cL_fits 512 = .ok (.iconst 0, 1) := by decide +kernel
theorem dL_fits_513 : decode cL_fits 513 = .ok (.ireturn, 1) := by decide +kernel
theorem dL_byTable_0 : decode cL_byTable 0 = .ok (.aload_n 0, 1) := by decide +kernel
theorem dL_byTable_1 : decode cL_byTable 1 = .ok (.iconst 0, 1) := by decide +kernel
theorem dL_byTable_2 : decode cL_byTable 2 = .ok (.invokevirtual 30, 3) := by decide +kernel
theorem dL_byTable_5 : decode cL_byTable 5 = .ok (.aload_n 0, 1) := by decide +kernel
theorem dL_byTable_6 : decode cL_byTable 6 = .ok (.iconst 0, 1) := by decide +kernel
theorem dL_byTable_7 : decode cL_byTable 7 = .ok (.iload_n 1, 1) := by decide +kernel
theorem dL_byTable_8 : decode cL_byTable 8 = .ok (.invokevirtual 25, 3) := by decide +kernel
theorem dL_byTable_11 : decode cL_byTable 11 = .ok (.isub, 1) := by decide +kernel
theorem dL_byTable_12 : decode cL_byTable 12 = .ok (.bipush 100, 2) := by decide +kernel
theorem dL_byTable_14 : decode cL_byTable 14 = .ok (.iadd, 1) := by decide +kernel
theorem dL_byTable_15 : decode cL_byTable 15 = .ok (.sipush 272, 3) := by decide +kernel
theorem dL_byTable_18 : decode cL_byTable 18 = .ok (.invokestatic 9, 3) := by decide +kernel
theorem dL_byTable_21 : decode cL_byTable 21 = .ok (.istore_n 3, 1) := by decide +kernel
theorem dL_byTable_22 : decode cL_byTable 22 = .ok (.aload_n 0, 1) := by decide +kernel
theorem dL_byTable_23 : decode cL_byTable 23 = .ok (.iconst 1, 1) := by decide +kernel
theorem dL_byTable_24 : decode cL_byTable 24 = .ok (.invokevirtual 30, 3) := by decide +kernel
theorem dL_byTable_27 : decode cL_byTable 27 = .ok (.aload_n 0, 1) := by decide +kernel
theorem dL_byTable_28 : decode cL_byTable 28 = .ok (.iconst 1, 1) := by decide +kernel
theorem dL_byTable_29 : decode cL_byTable 29 = .ok (.iload_n 1, 1) := by decide +kernel
theorem dL_byTable_30 : decode cL_byTable 30 = .ok (.invokevirtual 25, 3) := by decide +kernel
theorem dL_byTable_33 : decode cL_byTable 33 = .ok (.isub, 1) := by decide +kernel
theorem dL_byTable_34 : decode cL_byTable 34 = .ok (.bipush 100, 2) := by decide +kernel
theorem dL_byTable_36 : decode cL_byTable 36 = .ok (.iadd, 1) := by decide +kernel
theorem dL_byTable_37 : decode cL_byTable 37 = .ok (.sipush 255, 3) := by decide +kernel
theorem dL_byTable_40 : decode cL_byTable 40 = .ok (.invokestatic 9, 3) := by decide +kernel
theorem dL_byTable_43 : decode cL_byTable 43 = .ok (.istore 4, 2) := by decide +kernel
theorem dL_byTable_45 : decode cL_byTable 45 = .ok (.aload_n 0, 1) := by decide +kernel
theorem dL_byTable_46 : decode cL_byTable 46 = .ok (.iconst 2, 1) := by decide +kernel
theorem dL_byTable_47 : decode cL_byTable 47 = .ok (.invokevirtual 30, 3) := by decide +kernel
theorem dL_byTable_50 : decode cL_byTable 50 = .ok (.aload_n 0, 1) := by decide +kernel
theorem dL_byTable_51 : decode cL_byTable 51 = .ok (.iconst 2, 1) := by decide +kernel
theorem dL_byTable_52 : decode cL_byTable 52 = .ok (.iload_n 1, 1) := by decide +kernel
theorem dL_byTable_53 : decode cL_byTable 53 = .ok (.invokevirtual 25, 3) := by decide +kernel
theorem dL_byTable_56 : decode cL_byTable 56 = .ok (.isub, 1) := by decide +kernel
theorem dL_byTable_57 : decode cL_byTable 57 = .ok (.bipush 100, 2) := by decide +kernel
theorem dL_byTable_59 : decode cL_byTable 59 = .ok (.iadd, 1) := by decide +kernel
theorem dL_byTable_60 : decode cL_byTable 60 = .ok (.sipush 240, 3) := by decide +kernel
theorem dL_byTable_63 : decode cL_byTable 63 = .ok (.invokestatic 9, 3) := by decide +kernel
theorem dL_byTable_66 : decode cL_byTable 66 = .ok (.istore 5, 2) := by decide +kernel
theorem dL_byTable_68 : decode cL_byTable 68 = .ok (.aload_n 0, 1) := by decide +kernel
theorem dL_byTable_69 : decode cL_byTable 69 = .ok (.iload_n 3, 1) := by decide +kernel
theorem dL_byTable_70 : decode cL_byTable 70 = .ok (.iload 4, 2) := by decide +kernel
theorem dL_byTable_72 : decode cL_byTable 72 = .ok (.iload 5, 2) := by decide +kernel
theorem dL_byTable_74 : decode cL_byTable 74 = .ok (.iload_n 2, 1) := by decide +kernel
theorem dL_byTable_75 : decode cL_byTable 75 = .ok (.invokevirtual 72, 3) := by decide +kernel
theorem dL_byTable_78 : decode cL_byTable 78 = .ok (.ireturn, 1) := by decide +kernel
theorem dL_isSampled_0 : decode cL_isSampled 0 = .ok (.aload_n 0, 1) := by decide +kernel
theorem dL_isSampled_1 : decode cL_isSampled 1 = .ok (.invokevirtual 88, 3) := by decide +kernel
theorem dL_isSampled_4 : decode cL_isSampled 4 = .ok (.istore_n 1, 1) := by decide +kernel
theorem dL_isSampled_5 : decode cL_isSampled 5 = .ok (.aload_n 0, 1) := by decide +kernel
theorem dL_isSampled_6 : decode cL_isSampled 6 = .ok (.iconst 3, 1) := by decide +kernel
theorem dL_isSampled_7 : decode cL_isSampled 7 = .ok (.invokevirtual 19, 3) := by decide +kernel
theorem dL_isSampled_10 : decode cL_isSampled 10 = .ok (.ifCond .ne 24, 3) := by decide +kernel
theorem dL_isSampled_13 : decode cL_isSampled 13 = .ok (.iload_n 1, 1) := by decide +kernel
theorem dL_isSampled_14 : decode cL_isSampled 14 = .ok (.bipush (-2), 2) := by decide +kernel
theorem dL_isSampled_16 : decode cL_isSampled 16 = .ok (.if_icmp .ne 16, 3) := by decide +kernel
theorem dL_isSampled_19 : decode cL_isSampled 19 = .ok (.aload_n 0, 1) := by decide +kernel
theorem dL_isSampled_20 : decode cL_isSampled 20 = .ok (.invokevirtual 85, 3) := by decide +kernel
theorem dL_isSampled_23 : decode cL_isSampled 23 = .ok (.bipush (-2), 2) := by decide +kernel
theorem dL_isSampled_25 : decode cL_isSampled 25 = .ok (.if_icmp .ne 7, 3) := by decide +kernel
theorem dL_isSampled_28 : decode cL_isSampled 28 = .ok (.iconst 1, 1) := by decide +kernel
theorem dL_isSampled_29 : decode cL_isSampled 29 = .ok (.goto 4, 3) := by decide +kernel
theorem dL_isSampled_32 : decode cL_isSampled 32 = .ok (.iconst 0, 1) := by decide +kernel
theorem dL_isSampled_33 : decode cL_isSampled 33 = .ok (.ireturn, 1) := by decide +kernel
theorem dL_isSampled_34 : decode cL_isSampled 34 = .ok (.aload_n 0, 1) := by decide +kernel
theorem dL_isSampled_35 : decode cL_isSampled 35 = .ok (.iconst 0, 1) := by decide +kernel
theorem dL_isSampled_36 : decode cL_isSampled 36 = .ok (.invokevirtual 66, 3) := by decide +kernel
theorem dL_isSampled_39 : decode cL_isSampled 39 = .ok (.istore_n 2, 1) := by decide +kernel
theorem dL_isSampled_40 : decode cL_isSampled 40 = .ok (.aload_n 0, 1) := by decide +kernel
theorem dL_isSampled_41 : decode cL_isSampled 41 = .ok (.iconst 1, 1) := by decide +kernel
theorem dL_isSampled_42 : decode cL_isSampled 42 = .ok (.invokevirtual 66, 3) := by decide +kernel
theorem dL_isSampled_45 : decode cL_isSampled 45 = .ok (.istore_n 3, 1) := by decide +kernel
theorem dL_isSampled_46 : decode cL_isSampled 46 = .ok (.aload_n 0, 1) := by decide +kernel
theorem dL_isSampled_47 : decode cL_isSampled 47 = .ok (.iconst 2, 1) := by decide +kernel
theorem dL_isSampled_48 : decode cL_isSampled 48 = .ok (.invokevirtual 19, 3) := by decide +kernel
theorem dL_isSampled_51 : decode cL_isSampled 51 = .ok (.istore 4, 2) := by decide +kernel
theorem dL_isSampled_53 : decode cL_isSampled 53 = .ok (.aload_n 0, 1) := by decide +kernel
theorem dL_isSampled_54 : decode cL_isSampled 54 = .ok (.bipush 6, 2) := by decide +kernel
theorem dL_isSampled_56 : decode cL_isSampled 56 = .ok (.invokevirtual 19, 3) := by decide +kernel
theorem dL_isSampled_59 : decode cL_isSampled 59 = .ok (.istore 5, 2) := by decide +kernel
theorem dL_isSampled_61 : decode cL_isSampled 61 = .ok (.aload_n 0, 1) := by decide +kernel
theorem dL_isSampled_62 : decode cL_isSampled 62 = .ok (.bipush 7, 2) := by decide +kernel
theorem dL_isSampled_64 : decode cL_isSampled 64 = .ok (.invokevirtual 19, 3) := by decide +kernel
theorem dL_isSampled_67 : decode cL_isSampled 67 = .ok (.istore 6, 2) := by decide +kernel
theorem dL_isSampled_69 : decode cL_isSampled 69 = .ok (.iload_n 2, 1) := by decide +kernel
theorem dL_isSampled_70 : decode cL_isSampled 70 = .ok (.sipush 1020, 3) := by decide +kernel
theorem dL_isSampled_73 : decode cL_isSampled 73 = .ok (.idiv, 1) := by decide +kernel
theorem dL_isSampled_74 : decode cL_isSampled 74 = .ok (.iload 4, 2) := by decide +kernel
theorem dL_isSampled_76 : decode cL_isSampled 76 = .ok (.isub, 1) := by decide +kernel
theorem dL_isSampled_77 : decode cL_isSampled 77 = .ok (.iconst 4, 1) := by decide +kernel
theorem dL_isSampled_78 : decode cL_isSampled 78 = .ok (.invokestatic 9, 3) := by decide +kernel
theorem dL_isSampled_81 : decode cL_isSampled 81 = .ok (.istore 7, 2) := by decide +kernel
theorem dL_isSampled_83 : decode cL_isSampled 83 = .ok (.aload_n 0, 1) := by decide +kernel
theorem dL_isSampled_84 : decode cL_isSampled 84 = .ok (.bipush 8, 2) := by decide +kernel
theorem dL_isSampled_86 : decode cL_isSampled 86 = .ok (.invokevirtual 19, 3) := by decide +kernel
theorem dL_isSampled_89 : decode cL_isSampled 89 = .ok (.iload_n 2, 1) := by decide +kernel
theorem dL_isSampled_90 : decode cL_isSampled 90 = .ok (.bipush 64, 2) := by decide +kernel
theorem dL_isSampled_92 : decode cL_isSampled 92 = .ok (.imul, 1) := by decide +kernel
theorem dL_isSampled_93 : decode cL_isSampled 93 = .ok (.sipush 4080, 3) := by decide +kernel
theorem dL_isSampled_96 : decode cL_isSampled 96 = .ok (.idiv, 1) := by decide +kernel
theorem dL_isSampled_97 : decode cL_isSampled 97 = .ok (.isub, 1) := by decide +kernel
theorem dL_isSampled_98 : decode cL_isSampled 98 = .ok (.bipush 64, 2) := by decide +kernel
theorem dL_isSampled_100 : decode cL_isSampled 100 = .ok (.invokestatic 95, 3) := by decide +kernel
theorem dL_isSampled_103 : decode cL_isSampled 103 = .ok (.aload_n 0, 1) := by decide +kernel
theorem dL_isSampled_104 : decode cL_isSampled 104 = .ok (.bipush 21, 2) := by decide +kernel
theorem dL_isSampled_106 : decode cL_isSampled 106 = .ok (.invokevirtual 19, 3) := by decide +kernel
theorem dL_isSampled_109 : decode cL_isSampled 109 = .ok (.if_icmp .le 7, 3) := by decide +kernel
theorem dL_isSampled_112 : decode cL_isSampled 112 = .ok (.iconst 1, 1) := by decide +kernel
theorem dL_isSampled_113 : decode cL_isSampled 113 = .ok (.goto 4, 3) := by decide +kernel
theorem dL_isSampled_116 : decode cL_isSampled 116 = .ok (.iconst 0, 1) := by decide +kernel
theorem dL_isSampled_117 : decode cL_isSampled 117 = .ok (.istore 8, 2) := by decide +kernel
theorem dL_isSampled_119 : decode cL_isSampled 119 = .ok (.aload_n 0, 1) := by decide +kernel
theorem dL_isSampled_120 : decode cL_isSampled 120 = .ok (.invokevirtual 85, 3) := by decide +kernel
theorem dL_isSampled_123 : decode cL_isSampled 123 = .ok (.istore 9, 2) := by decide +kernel
theorem dL_isSampled_125 : decode cL_isSampled 125 = .ok (.iload_n 1, 1) := by decide +kernel
theorem dL_isSampled_126 : decode cL_isSampled 126 = .ok (.ifCond .lt 73, 3) := by decide +kernel
theorem dL_isSampled_129 : decode cL_isSampled 129 = .ok (.iload_n 1, 1) := by decide +kernel
theorem dL_isSampled_130 : decode cL_isSampled 130 = .ok (.iconst 5, 1) := by decide +kernel
theorem dL_isSampled_131 : decode cL_isSampled 131 = .ok (.if_icmp .ge 68, 3) := by decide +kernel
theorem dL_isSampled_134 : decode cL_isSampled 134 = .ok (.iload 9, 2) := by decide +kernel
theorem dL_isSampled_136 : decode cL_isSampled 136 = .ok (.iload_n 1, 1) := by decide +kernel
theorem dL_isSampled_137 : decode cL_isSampled 137 = .ok (.ifCond .ne 12, 3) := by decide +kernel
theorem dL_isSampled_140 : decode cL_isSampled 140 = .ok (.aload_n 0, 1) := by decide +kernel
theorem dL_isSampled_141 : decode cL_isSampled 141 = .ok (.bipush 6, 2) := by decide +kernel
theorem dL_isSampled_143 : decode cL_isSampled 143 = .ok (.invokevirtual 19, 3) := by decide +kernel
theorem dL_isSampled_146 : decode cL_isSampled 146 = .ok (.goto 7, 3) := by decide +kernel
theorem dL_isSampled_149 : decode cL_isSampled 149 = .ok (.ldc 105, 2) := by decide +kernel
theorem dL_isSampled_151 : decode cL_isSampled 151 = .ok (.iload_n 1, 1) := by decide +kernel
theorem dL_isSampled_152 : decode cL_isSampled 152 = .ok (.iadd, 1) := by decide +kernel
theorem dL_isSampled_153 : decode cL_isSampled 153 = .ok (.if_icmp .ne 46, 3) := by decide +kernel
theorem dL_isSampled_156 : decode cL_isSampled 156 = .ok (.iload_n 1, 1) := by decide +kernel
theorem dL_isSampled_157 : decode cL_isSampled 157 = .ok (.iconst 1, 1) := by decide +kernel
theorem dL_isSampled_158 : decode cL_isSampled 158 = .ok (.if_icmp .ne 7, 3) := by decide +kernel
theorem dL_isSampled_161 : decode cL_isSampled 161 = .ok (.iconst 1, 1) := by decide +kernel
theorem dL_isSampled_162 : decode cL_isSampled 162 = .ok (.goto 4, 3) := by decide +kernel
theorem dL_isSampled_165 : decode cL_isSampled 165 = .ok (.iconst 0, 1) := by decide +kernel
theorem dL_isSampled_166 : decode cL_isSampled 166 = .ok (.iload_n 3, 1) := by decide +kernel
theorem dL_isSampled_167 : decode cL_isSampled 167 = .ok (.aload_n 0, 1) := by decide +kernel
theorem dL_isSampled_168 : decode cL_isSampled 168 = .ok (.bipush 20, 2) := by decide +kernel
theorem dL_isSampled_170 : decode cL_isSampled 170 = .ok (.invokevirtual 19, 3) := by decide +kernel
theorem dL_isSampled_173 : decode cL_isSampled 173 = .ok (.if_icmp .le 7, 3) := by decide +kernel
theorem dL_isSampled_176 : decode cL_isSampled 176 = .ok (.iconst 1, 1) := by decide +kernel
theorem dL_isSampled_177 : decode cL_isSampled 177 = .ok (.goto 4, 3) := by decide +kernel
theorem dL_isSampled_180 : decode cL_isSampled 180 = .ok (.iconst 0, 1) := by decide +kernel
theorem dL_isSampled_181 : decode cL_isSampled 181 = .ok (.if_icmp .ne 18, 3) := by decide +kernel
theorem dL_isSampled_184 : decode cL_isSampled 184 = .ok (.iload_n 1, 1) := by decide +kernel
theorem dL_isSampled_185 : decode cL_isSampled 185 = .ok (.iconst 2, 1) := by decide +kernel
theorem dL_isSampled_186 : decode cL_isSampled 186 = .ok (.if_icmp .ne 9, 3) := by decide +kernel
theorem dL_isSampled_189 : decode cL_isSampled 189 = .ok (.iload 7, 2) := by decide +kernel
theorem dL_isSampled_191 : decode cL_isSampled 191 = .ok (.iconst 2, 1) := by decide +kernel
theorem dL_isSampled_192 : decode cL_isSampled 192 = .ok (.if_icmp .ne 7, 3) := by decide +kernel
theorem dL_isSampled_195 : decode cL_isSampled 195 = .ok (.iconst 1, 1) := by decide +kernel
theorem dL_isSampled_196 : decode cL_isSampled 196 = .ok (.goto 4, 3) := by decide +kernel
theorem dL_isSampled_199 : decode cL_isSampled 199 = .ok (.iconst 0, 1) := by decide +kernel
theorem dL_isSampled_200 : decode cL_isSampled 200 = .ok (.istore 10, 2) := by decide +kernel
theorem dL_isSampled_202 : decode cL_isSampled 202 = .ok (.iload_n 1, 1) := by decide +kernel
theorem dL_isSampled_203 : decode cL_isSampled 203 = .ok (.iconst 1, 1) := by decide +kernel
theorem dL_isSampled_204 : decode cL_isSampled 204 = .ok (.if_icmp .eq 8, 3) := by decide +kernel
theorem dL_isSampled_207 : decode cL_isSampled 207 = .ok (.iload_n 1, 1) := by decide +kernel
theorem dL_isSampled_208 : decode cL_isSampled 208 = .ok (.iconst 2, 1) := by decide +kernel
theorem dL_isSampled_209 : decode cL_isSampled 209 = .ok (.if_icmp .ne 46, 3) := by decide +kernel
theorem dL_isSampled_212 : decode cL_isSampled 212 = .ok (.iload 10, 2) := by decide +kernel
theorem dL_isSampled_214 : decode cL_isSampled 214 = .ok (.ifCond .eq 39, 3) := by decide +kernel
theorem dL_isSampled_217 : decode cL_isSampled 217 = .ok (.aload_n 0, 1) := by decide +kernel
theorem dL_isSampled_218 : decode cL_isSampled 218 = .ok (.iconst 2, 1) := by decide +kernel
theorem dL_isSampled_219 : decode cL_isSampled 219 = .ok (.invokevirtual 19, 3) := by decide +kernel
theorem dL_isSampled_222 : decode cL_isSampled 222 = .ok (.iload 4, 2) := by decide +kernel
theorem dL_isSampled_224 : decode cL_isSampled 224 = .ok (.if_icmp .ne 29, 3) := by decide +kernel
theorem dL_isSampled_227 : decode cL_isSampled 227 = .ok (.aload_n 0, 1) := by decide +kernel
theorem dL_isSampled_228 : decode cL_isSampled 228 = .ok (.bipush 6, 2) := by decide +kernel
theorem dL_isSampled_230 : decode cL_isSampled 230 = .ok (.invokevirtual 19, 3) := by decide +kernel
theorem dL_isSampled_233 : decode cL_isSampled 233 = .ok (.iload 5, 2) := by decide +kernel
theorem dL_isSampled_235 : decode cL_isSampled 235 = .ok (.if_icmp .ne 18, 3) := by decide +kernel
theorem dL_isSampled_238 : decode cL_isSampled 238 = .ok (.aload_n 0, 1) := by decide +kernel
theorem dL_isSampled_239 : decode cL_isSampled 239 = .ok (.bipush 7, 2) := by decide +kernel
theorem dL_isSampled_241 : decode cL_isSampled 241 = .ok (.invokevirtual 19, 3) := by decide +kernel
theorem dL_isSampled_244 : decode cL_isSampled 244 = .ok (.iload 6, 2) := by decide +kernel
theorem dL_isSampled_246 : decode cL_isSampled 246 = .ok (.if_icmp .ne 7, 3) := by decide +kernel
theorem dL_isSampled_249 : decode cL_isSampled 249 = .ok (.iconst 1, 1) := by decide +kernel
theorem dL_isSampled_250 : decode cL_isSampled 250 = .ok (.goto 4, 3) := by decide +kernel
theorem dL_isSampled_253 : decode cL_isSampled 253 = .ok (.iconst 0, 1) := by decide +kernel
theorem dL_isSampled_254 : decode cL_isSampled 254 = .ok (.ireturn, 1) := by decide +kernel
theorem dL_isSampled_255 : decode cL_isSampled 255 = .ok (.aload_n 0, 1) := by decide +kernel
theorem dL_isSampled_256 : decode cL_isSampled 256 = .ok (.iconst 2, 1) := by decide +kernel
theorem dL_isSampled_257 : decode cL_isSampled 257 = .ok (.invokevirtual 19, 3) := by decide +kernel
theorem dL_isSampled_260 : decode cL_isSampled 260 = .ok (.istore 11, 2) := by decide +kernel
theorem dL_isSampled_262 : decode cL_isSampled 262 = .ok (.iload 11, 2) := by decide +kernel
theorem dL_isSampled_264 : decode cL_isSampled 264 = .ok (.iconst 4, 1) := by decide +kernel
theorem dL_isSampled_265 : decode cL_isSampled 265 = .ok (.idiv, 1) := by decide +kernel
theorem dL_isSampled_266 : decode cL_isSampled 266 = .ok (.sipush 4080, 3) := by decide +kernel
theorem dL_isSampled_269 : decode cL_isSampled 269 = .ok (.imul, 1) := by decide +kernel
theorem dL_isSampled_270 : decode cL_isSampled 270 = .ok (.iload_n 2, 1) := by decide +kernel
theorem dL_isSampled_271 : decode cL_isSampled 271 = .ok (.iadd, 1) := by decide +kernel
theorem dL_isSampled_272 : decode cL_isSampled 272 = .ok (.istore 12, 2) := by decide +kernel
theorem dL_isSampled_274 : decode cL_isSampled 274 = .ok (.iload 10, 2) := by decide +kernel
theorem dL_isSampled_276 : decode cL_isSampled 276 = .ok (.ifCond .eq 101, 3) := by decide +kernel
theorem dL_isSampled_279 : decode cL_isSampled 279 = .ok (.iload 7, 2) := by decide +kernel
theorem dL_isSampled_281 : decode cL_isSampled 281 = .ok (.iconst 2, 1) := by decide +kernel
theorem dL_isSampled_282 : decode cL_isSampled 282 = .ok (.if_icmp .eq 95, 3) := by decide +kernel
theorem dL_isSampled_285 : decode cL_isSampled 285 = .ok (.iload 11, 2) := by decide +kernel
theorem dL_isSampled_287 : decode cL_isSampled 287 = .ok (.iload 4, 2) := by decide +kernel
theorem dL_isSampled_289 : decode cL_isSampled 289 = .ok (.iload 7, 2) := by decide +kernel
theorem dL_isSampled_291 : decode cL_isSampled 291 = .ok (.iconst 3, 1) := by decide +kernel
theorem dL_isSampled_292 : decode cL_isSampled 292 = .ok (.if_icmp .ne 7, 3) := by decide +kernel
theorem dL_isSampled_295 : decode cL_isSampled 295 = .ok (.iconst (-1), 1) := by decide +kernel
theorem dL_isSampled_296 : decode cL_isSampled 296 = .ok (.goto 5, 3) := by decide +kernel
theorem dL_isSampled_299 : decode cL_isSampled 299 = .ok (.iload 7, 2) := by decide +kernel
theorem dL_isSampled_301 : decode cL_isSampled 301 = .ok (.iadd, 1) := by decide +kernel
theorem dL_isSampled_302 : decode cL_isSampled 302 = .ok (.bipush 64, 2) := by decide +kernel
theorem dL_isSampled_304 : decode cL_isSampled 304 = .ok (.invokestatic 9, 3) := by decide +kernel
theorem dL_isSampled_307 : decode cL_isSampled 307 = .ok (.if_icmp .ne 70, 3) := by decide +kernel
theorem dL_isSampled_310 : decode cL_isSampled 310 = .ok (.iload 11, 2) := by decide +kernel
theorem dL_isSampled_312 : decode cL_isSampled 312 = .ok (.iconst 4, 1) := by decide +kernel
theorem dL_isSampled_313 : decode cL_isSampled 313 = .ok (.irem, 1) := by decide +kernel
theorem dL_isSampled_314 : decode cL_isSampled 314 = .ok (.iload_n 2, 1) := by decide +kernel
theorem dL_isSampled_315 : decode cL_isSampled 315 = .ok (.sipush 1020, 3) := by decide +kernel
theorem dL_isSampled_318 : decode cL_isSampled 318 = .ok (.idiv, 1) := by decide +kernel
theorem dL_isSampled_319 : decode cL_isSampled 319 = .ok (.if_icmp .ne 58, 3) := by decide +kernel
theorem dL_isSampled_322 : decode cL_isSampled 322 = .ok (.aload_n 0, 1) := by decide +kernel
theorem dL_isSampled_323 : decode cL_isSampled 323 = .ok (.bipush 7, 2) := by decide +kernel
theorem dL_isSampled_325 : decode cL_isSampled 325 = .ok (.invokevirtual 19, 3) := by decide +kernel
theorem dL_isSampled_328 : decode cL_isSampled 328 = .ok (.iload 8, 2) := by decide +kernel
theorem dL_isSampled_330 : decode cL_isSampled 330 = .ok (.ifCond .eq 10, 3) := by decide +kernel
theorem dL_isSampled_333 : decode cL_isSampled 333 = .ok (.iload 6, 2) := by decide +kernel
theorem dL_isSampled_335 : decode cL_isSampled 335 = .ok (.iconst 1, 1) := by decide +kernel
theorem dL_isSampled_336 : decode cL_isSampled 336 = .ok (.iadd, 1) := by decide +kernel
theorem dL_isSampled_337 : decode cL_isSampled 337 = .ok (.goto 4, 3) := by decide +kernel
theorem dL_isSampled_340 : decode cL_isSampled 340 = .ok (.iconst 0, 1) := by decide +kernel
theorem dL_isSampled_341 : decode cL_isSampled 341 = .ok (.if_icmp .ne 36, 3) := by decide +kernel
theorem dL_isSampled_344 : decode cL_isSampled 344 = .ok (.iload_n 1, 1) := by decide +kernel
theorem dL_isSampled_345 : decode cL_isSampled 345 = .ok (.iconst 3, 1) := by decide +kernel
theorem dL_isSampled_346 : decode cL_isSampled 346 = .ok (.if_icmp .ne 7, 3) := by decide +kernel
theorem dL_isSampled_349 : decode cL_isSampled 349 = .ok (.iconst 1, 1) := by decide +kernel
theorem dL_isSampled_350 : decode cL_isSampled 350 = .ok (.goto 4, 3) := by decide +kernel
theorem dL_isSampled_353 : decode cL_isSampled 353 = .ok (.iconst 0, 1) := by decide +kernel
theorem dL_isSampled_354 : decode cL_isSampled 354 = .ok (.iload 8, 2) := by decide +kernel
theorem dL_isSampled_356 : decode cL_isSampled 356 = .ok (.ifCond .eq 13, 3) := by decide +kernel
theorem dL_isSampled_359 : decode cL_isSampled 359 = .ok (.iload 6, 2) := by decide +kernel
theorem dL_isSampled_361 : decode cL_isSampled 361 = .ok (.iconst 1, 1) := by decide +kernel
theorem dL_isSampled_362 : decode cL_isSampled 362 = .ok (.if_icmp .le 7, 3) := by decide +kernel
theorem dL_isSampled_365 : decode cL_isSampled 365 = .ok (.iconst 1, 1) := by decide +kernel
theorem dL_isSampled_366 : decode cL_isSampled 366 = .ok (.goto 4, 3) := by decide +kernel
theorem dL_isSampled_369 : decode cL_isSampled 369 = .ok (.iconst 0, 1) := by decide +kernel
theorem dL_isSampled_370 : decode cL_isSampled 370 = .ok (.if_icmp .ne 7, 3) := by decide +kernel
theorem dL_isSampled_373 : decode cL_isSampled 373 = .ok (.iconst 1, 1) := by decide +kernel
theorem dL_isSampled_374 : decode cL_isSampled 374 = .ok (.goto 4, 3) := by decide +kernel
theorem dL_isSampled_377 : decode cL_isSampled 377 = .ok (.iconst 0, 1) := by decide +kernel
theorem dL_isSampled_378 : decode cL_isSampled 378 = .ok (.istore 10, 2) := by decide +kernel
theorem dL_isSampled_380 : decode cL_isSampled 380 = .ok (.iload 10, 2) := by decide +kernel
theorem dL_isSampled_382 : decode cL_isSampled 382 = .ok (.ifCond .eq 86, 3) := by decide +kernel
theorem dL_isSampled_385 : decode cL_isSampled 385 = .ok (.iload_n 1, 1) := by decide +kernel
theorem dL_isSampled_386 : decode cL_isSampled 386 = .ok (.ifCond .ne 43, 3) := by decide +kernel
theorem dL_isSampled_389 : decode cL_isSampled 389 = .ok (.aload_n 0, 1) := by decide +kernel
theorem dL_isSampled_390 : decode cL_isSampled 390 = .ok (.bipush 6, 2) := by decide +kernel
theorem dL_isSampled_392 : decode cL_isSampled 392 = .ok (.invokevirtual 19, 3) := by decide +kernel
theorem dL_isSampled_395 : decode cL_isSampled 395 = .ok (.iload 12, 2) := by decide +kernel
theorem dL_isSampled_397 : decode cL_isSampled 397 = .ok (.if_icmp .ne 71, 3) := by decide +kernel
theorem dL_isSampled_400 : decode cL_isSampled 400 = .ok (.iload 5, 2) := by decide +kernel
theorem dL_isSampled_402 : decode cL_isSampled 402 = .ok (.bipush (-4), 2) := by decide +kernel
theorem dL_isSampled_404 : decode cL_isSampled 404 = .ok (.if_icmp .eq 60, 3) := by decide +kernel
theorem dL_isSampled_407 : decode cL_isSampled 407 = .ok (.iload 12, 2) := by decide +kernel
theorem dL_isSampled_409 : decode cL_isSampled 409 = .ok (.iload 5, 2) := by decide +kernel
theorem dL_isSampled_411 : decode cL_isSampled 411 = .ok (.isub, 1) := by decide +kernel
theorem dL_isSampled_412 : decode cL_isSampled 412 = .ok (.ldc 91, 2) := by decide +kernel
theorem dL_isSampled_414 : decode cL_isSampled 414 = .ok (.invokestatic 95, 3) := by decide +kernel
theorem dL_isSampled_417 : decode cL_isSampled 417 = .ok (.aload_n 0, 1) := by decide +kernel
theorem dL_isSampled_418 : decode cL_isSampled 418 = .ok (.bipush 22, 2) := by decide +kernel
theorem dL_isSampled_420 : decode cL_isSampled 420 = .ok (.invokevirtual 19, 3) := by decide +kernel
theorem dL_isSampled_423 : decode cL_isSampled 423 = .ok (.if_icmp .gt 45, 3) := by decide +kernel
theorem dL_isSampled_426 : decode cL_isSampled 426 = .ok (.goto 38, 3) := by decide +kernel
theorem dL_isSampled_429 : decode cL_isSampled 429 = .ok (.aload_n 0, 1) := by decide +kernel
theorem dL_isSampled_430 : decode cL_isSampled 430 = .ok (.bipush 6, 2) := by decide +kernel
theorem dL_isSampled_432 : decode cL_isSampled 432 = .ok (.invokevirtual 19, 3) := by decide +kernel
theorem dL_isSampled_435 : decode cL_isSampled 435 = .ok (.iload 5, 2) := by decide +kernel
theorem dL_isSampled_437 : decode cL_isSampled 437 = .ok (.if_icmp .ne 31, 3) := by decide +kernel
theorem dL_isSampled_440 : decode cL_isSampled 440 = .ok (.iload_n 1, 1) := by decide +kernel
theorem dL_isSampled_441 : decode cL_isSampled 441 = .ok (.iconst 3, 1) := by decide +kernel
theorem dL_isSampled_442 : decode cL_isSampled 442 = .ok (.if_icmp .eq 22, 3) := by decide +kernel
theorem dL_isSampled_445 : decode cL_isSampled 445 = .ok (.iload 12, 2) := by decide +kernel
theorem dL_isSampled_447 : decode cL_isSampled 447 = .ok (.iload 5, 2) := by decide +kernel
theorem dL_isSampled_449 : decode cL_isSampled 449 = .ok (.isub, 1) := by decide +kernel
theorem dL_isSampled_450 : decode cL_isSampled 450 = .ok (.ldc 91, 2) := by decide +kernel
theorem dL_isSampled_452 : decode cL_isSampled 452 = .ok (.invokestatic 95, 3) := by decide +kernel
theorem dL_isSampled_455 : decode cL_isSampled 455 = .ok (.aload_n 0, 1) := by decide +kernel
theorem dL_isSampled_456 : decode cL_isSampled 456 = .ok (.bipush 22, 2) := by decide +kernel
theorem dL_isSampled_458 : decode cL_isSampled 458 = .ok (.invokevirtual 19, 3) := by decide +kernel
theorem dL_isSampled_461 : decode cL_isSampled 461 = .ok (.if_icmp .le 7, 3) := by decide +kernel
theorem dL_isSampled_464 : decode cL_isSampled 464 = .ok (.iconst 1, 1) := by decide +kernel
theorem dL_isSampled_465 : decode cL_isSampled 465 = .ok (.goto 4, 3) := by decide +kernel
theorem dL_isSampled_468 : decode cL_isSampled 468 = .ok (.iconst 0, 1) := by decide +kernel
theorem dL_isSampled_469 : decode cL_isSampled 469 = .ok (.ireturn, 1) := by decide +kernel
theorem dL_isTurned_0 : decode cL_isTurned 0 = .ok (.iload_n 1, 1) := by decide +kernel
theorem dL_isTurned_1 : decode cL_isTurned 1 = .ok (.sipush 19999, 3) := by decide +kernel
theorem dL_isTurned_4 : decode cL_isTurned 4 = .ok (.invokestatic 106, 3) := by decide +kernel
theorem dL_isTurned_7 : decode cL_isTurned 7 = .ok (.sipush 9999, 3) := by decide +kernel
theorem dL_isTurned_10 : decode cL_isTurned 10 = .ok (.isub, 1) := by decide +kernel
theorem dL_isTurned_11 : decode cL_isTurned 11 = .ok (.istore_n 2, 1) := by decide +kernel
theorem dL_isTurned_12 : decode cL_isTurned 12 = .ok (.aload_n 0, 1) := by decide +kernel
theorem dL_isTurned_13 : decode cL_isTurned 13 = .ok (.iconst 0, 1) := by decide +kernel
theorem dL_isTurned_14 : decode cL_isTurned 14 = .ok (.invokevirtual 19, 3) := by decide +kernel
theorem dL_isTurned_17 : decode cL_isTurned 17 = .ok (.istore_n 3, 1) := by decide +kernel
theorem dL_isTurned_18 : decode cL_isTurned 18 = .ok (.aload_n 0, 1) := by decide +kernel
theorem dL_isTurned_19 : decode cL_isTurned 19 = .ok (.iconst 2, 1) := by decide +kernel
theorem dL_isTurned_20 : decode cL_isTurned 20 = .ok (.invokevirtual 19, 3) := by decide +kernel
theorem dL_isTurned_23 : decode cL_isTurned 23 = .ok (.istore 4, 2) := by decide +kernel
theorem dL_isTurned_25 : decode cL_isTurned 25 = .ok (.aload_n 0, 1) := by decide +kernel
theorem dL_isTurned_26 : decode cL_isTurned 26 = .ok (.iconst 4, 1) := by decide +kernel
theorem dL_isTurned_27 : decode cL_isTurned 27 = .ok (.invokevirtual 19, 3) := by decide +kernel
theorem dL_isTurned_30 : decode cL_isTurned 30 = .ok (.istore 5, 2) := by decide +kernel
theorem dL_isTurned_32 : decode cL_isTurned 32 = .ok (.aload_n 0, 1) := by decide +kernel
theorem dL_isTurned_33 : decode cL_isTurned 33 = .ok (.iload_n 2, 1) := by decide +kernel
theorem dL_isTurned_34 : decode cL_isTurned 34 = .ok (.invokevirtual 41, 3) := by decide +kernel
theorem dL_isTurned_37 : decode cL_isTurned 37 = .ok (.istore 6, 2) := by decide +kernel
theorem dL_isTurned_39 : decode cL_isTurned 39 = .ok (.iload 6, 2) := by decide +kernel
theorem dL_isTurned_41 : decode cL_isTurned 41 = .ok (.ifCond .ge 30, 3) := by decide +kernel
theorem dL_isTurned_44 : decode cL_isTurned 44 = .ok (.iload 6, 2) := by decide +kernel
theorem dL_isTurned_46 : decode cL_isTurned 46 = .ok (.bipush (-2), 2) := by decide +kernel
theorem dL_isTurned_48 : decode cL_isTurned 48 = .ok (.if_icmp .ne 21, 3) := by decide +kernel
theorem dL_isTurned_51 : decode cL_isTurned 51 = .ok (.iload_n 3, 1) := by decide +kernel
theorem dL_isTurned_52 : decode cL_isTurned 52 = .ok (.iload_n 2, 1) := by decide +kernel
theorem dL_isTurned_53 : decode cL_isTurned 53 = .ok (.iadd, 1) := by decide +kernel
theorem dL_isTurned_54 : decode cL_isTurned 54 = .ok (.ifCond .lt 11, 3) := by decide +kernel
theorem dL_isTurned_57 : decode cL_isTurned 57 = .ok (.iload_n 3, 1) := by decide +kernel
theorem dL_isTurned_58 : decode cL_isTurned 58 = .ok (.iload_n 2, 1) := by decide +kernel
theorem dL_isTurned_59 : decode cL_isTurned 59 = .ok (.iadd, 1) := by decide +kernel
theorem dL_isTurned_60 : decode cL_isTurned 60 = .ok (.ldc 109, 2) := by decide +kernel
theorem dL_isTurned_62 : decode cL_isTurned 62 = .ok (.if_icmp .le 7, 3) := by decide +kernel
theorem dL_isTurned_65 : decode cL_isTurned 65 = .ok (.iconst 1, 1) := by decide +kernel
theorem dL_isTurned_66 : decode cL_isTurned 66 = .ok (.goto 4, 3) := by decide +kernel
theorem dL_isTurned_69 : decode cL_isTurned 69 = .ok (.iconst 0, 1) := by decide +kernel
theorem dL_isTurned_70 : decode cL_isTurned 70 = .ok (.ireturn, 1) := by decide +kernel
theorem dL_isTurned_71 : decode cL_isTurned 71 = .ok (.iload 6, 2) := by decide +kernel
theorem dL_isTurned_73 : decode cL_isTurned 73 = .ok (.sipush 1020, 3) := by decide +kernel
theorem dL_isTurned_76 : decode cL_isTurned 76 = .ok (.idiv, 1) := by decide +kernel
theorem dL_isTurned_77 : decode cL_isTurned 77 = .ok (.iload_n 3, 1) := by decide +kernel
theorem dL_isTurned_78 : decode cL_isTurned 78 = .ok (.sipush 1020, 3) := by decide +kernel
theorem dL_isTurned_81 : decode cL_isTurned 81 = .ok (.idiv, 1) := by decide +kernel
theorem dL_isTurned_82 : decode cL_isTurned 82 = .ok (.isub, 1) := by decide +kernel
theorem dL_isTurned_83 : decode cL_isTurned 83 = .ok (.istore 7, 2) := by decide +kernel
theorem dL_isTurned_85 : decode cL_isTurned 85 = .ok (.iload 6, 2) := by decide +kernel
theorem dL_isTurned_87 : decode cL_isTurned 87 = .ok (.iload_n 3, 1) := by decide +kernel
theorem dL_isTurned_88 : decode cL_isTurned 88 = .ok (.iload_n 2, 1) := by decide +kernel
theorem dL_isTurned_89 : decode cL_isTurned 89 = .ok (.iadd, 1) := by decide +kernel
theorem dL_isTurned_90 : decode cL_isTurned 90 = .ok (.if_icmp .ne 75, 3) := by decide +kernel
theorem dL_isTurned_93 : decode cL_isTurned 93 = .ok (.aload_n 0, 1) := by decide +kernel
theorem dL_isTurned_94 : decode cL_isTurned 94 = .ok (.iconst 3, 1) := by decide +kernel
theorem dL_isTurned_95 : decode cL_isTurned 95 = .ok (.invokevirtual 19, 3) := by decide +kernel
theorem dL_isTurned_98 : decode cL_isTurned 98 = .ok (.ifCond .ne 35, 3) := by decide +kernel
theorem dL_isTurned_101 : decode cL_isTurned 101 = .ok (.iload 5, 2) := by decide +kernel
theorem dL_isTurned_103 : decode cL_isTurned 103 = .ok (.aload_n 0, 1) := by decide +kernel
theorem dL_isTurned_104 : decode cL_isTurned 104 = .ok (.iconst 4, 1) := by decide +kernel
theorem dL_isTurned_105 : decode cL_isTurned 105 = .ok (.invokevirtual 19, 3) := by decide +kernel
theorem dL_isTurned_108 : decode cL_isTurned 108 = .ok (.isub, 1) := by decide +kernel
theorem dL_isTurned_109 : decode cL_isTurned 109 = .ok (.iload 5, 2) := by decide +kernel
theorem dL_isTurned_111 : decode cL_isTurned 111 = .ok (.iload 7, 2) := by decide +kernel
theorem dL_isTurned_113 : decode cL_isTurned 113 = .ok (.ifCond .ge 9, 3) := by decide +kernel
theorem dL_isTurned_116 : decode cL_isTurned 116 = .ok (.iload 7, 2) := by decide +kernel
theorem dL_isTurned_118 : decode cL_isTurned 118 = .ok (.ineg, 1) := by decide +kernel
theorem dL_isTurned_119 : decode cL_isTurned 119 = .ok (.goto 5, 3) := by decide +kernel
theorem dL_isTurned_122 : decode cL_isTurned 122 = .ok (.iload 7, 2) := by decide +kernel
theorem dL_isTurned_124 : decode cL_isTurned 124 = .ok (.invokestatic 110, 3) := by decide +kernel
theorem dL_isTurned_127 : decode cL_isTurned 127 = .ok (.if_icmp .ne 38, 3) := by decide +kernel
theorem dL_isTurned_130 : decode cL_isTurned 130 = .ok (.goto 31, 3) := by decide +kernel
theorem dL_isTurned_133 : decode cL_isTurned 133 = .ok (.aload_n 0, 1) := by decide +kernel
theorem dL_isTurned_134 : decode cL_isTurned 134 = .ok (.iconst 4, 1) := by decide +kernel
theorem dL_isTurned_135 : decode cL_isTurned 135 = .ok (.invokevirtual 19, 3) := by decide +kernel
theorem dL_isTurned_138 : decode cL_isTurned 138 = .ok (.iload 5, 2) := by decide +kernel
theorem dL_isTurned_140 : decode cL_isTurned 140 = .ok (.if_icmp .ne 25, 3) := by decide +kernel
theorem dL_isTurned_143 : decode cL_isTurned 143 = .ok (.aload_n 0, 1) := by decide +kernel
theorem dL_isTurned_144 : decode cL_isTurned 144 = .ok (.iconst 2, 1) := by decide +kernel
theorem dL_isTurned_145 : decode cL_isTurned 145 = .ok (.invokevirtual 19, 3) := by decide +kernel
theorem dL_isTurned_148 : decode cL_isTurned 148 = .ok (.iload 4, 2) := by decide +kernel
theorem dL_isTurned_150 : decode cL_isTurned 150 = .ok (.iload 7, 2) := by decide +kernel
theorem dL_isTurned_152 : decode cL_isTurned 152 = .ok (.iadd, 1) := by decide +kernel
theorem dL_isTurned_153 : decode cL_isTurned 153 = .ok (.bipush 64, 2) := by decide +kernel
theorem dL_isTurned_155 : decode cL_isTurned 155 = .ok (.invokestatic 9, 3) := by decide +kernel
theorem dL_isTurned_158 : decode cL_isTurned 158 = .ok (.if_icmp .ne 7, 3) := by decide +kernel
theorem dL_isTurned_161 : decode cL_isTurned 161 = .ok (.iconst 1, 1) := by decide +kernel
theorem dL_isTurned_162 : decode cL_isTurned 162 = .ok (.goto 4, 3) := by decide +kernel
theorem dL_isTurned_165 : decode cL_isTurned 165 = .ok (.iconst 0, 1) := by decide +kernel
theorem dL_isTurned_166 : decode cL_isTurned 166 = .ok (.istore 8, 2) := by decide +kernel
theorem dL_isTurned_168 : decode cL_isTurned 168 = .ok (.iload 8, 2) := by decide +kernel
theorem dL_isTurned_170 : decode cL_isTurned 170 = .ok (.ifCond .eq 49, 3) := by decide +kernel
theorem dL_isTurned_173 : decode cL_isTurned 173 = .ok (.iload_n 1, 1) := by decide +kernel
theorem dL_isTurned_174 : decode cL_isTurned 174 = .ok (.bipush 7, 2) := by decide +kernel
theorem dL_isTurned_176 : decode cL_isTurned 176 = .ok (.ishr, 1) := by decide +kernel
theorem dL_isTurned_177 : decode cL_isTurned 177 = .ok (.iconst 2, 1) := by decide +kernel
theorem dL_isTurned_178 : decode cL_isTurned 178 = .ok (.invokestatic 106, 3) := by decide +kernel
theorem dL_isTurned_181 : decode cL_isTurned 181 = .ok (.ifCond .ne 38, 3) := by decide +kernel
theorem dL_isTurned_184 : decode cL_isTurned 184 = .ok (.aload_n 0, 1) := by decide +kernel
theorem dL_isTurned_185 : decode cL_isTurned 185 = .ok (.iload_n 2, 1) := by decide +kernel
theorem dL_isTurned_186 : decode cL_isTurned 186 = .ok (.ineg, 1) := by decide +kernel
theorem dL_isTurned_187 : decode cL_isTurned 187 = .ok (.invokevirtual 41, 3) := by decide +kernel
theorem dL_isTurned_190 : decode cL_isTurned 190 = .ok (.iload_n 3, 1) := by decide +kernel
theorem dL_isTurned_191 : decode cL_isTurned 191 = .ok (.if_icmp .ne 25, 3) := by decide +kernel
theorem dL_isTurned_194 : decode cL_isTurned 194 = .ok (.aload_n 0, 1) := by decide +kernel
theorem dL_isTurned_195 : decode cL_isTurned 195 = .ok (.iconst 3, 1) := by decide +kernel
theorem dL_isTurned_196 : decode cL_isTurned 196 = .ok (.invokevirtual 19, 3) := by decide +kernel
theorem dL_isTurned_199 : decode cL_isTurned 199 = .ok (.ifCond .eq 13, 3) := by decide +kernel
theorem dL_isTurned_202 : decode cL_isTurned 202 = .ok (.aload_n 0, 1) := by decide +kernel
theorem dL_isTurned_203 : decode cL_isTurned 203 = .ok (.iconst 2, 1) := by decide +kernel
theorem dL_isTurned_204 : decode cL_isTurned 204 = .ok (.invokevirtual 19, 3) := by decide +kernel
theorem dL_isTurned_207 : decode cL_isTurned 207 = .ok (.iload 4, 2) := by decide +kernel
theorem dL_isTurned_209 : decode cL_isTurned 209 = .ok (.if_icmp .ne 7, 3) := by decide +kernel
theorem dL_isTurned_212 : decode cL_isTurned 212 = .ok (.iconst 1, 1) := by decide +kernel
theorem dL_isTurned_213 : decode cL_isTurned 213 = .ok (.goto 4, 3) := by decide +kernel
theorem dL_isTurned_216 : decode cL_isTurned 216 = .ok (.iconst 0, 1) := by decide +kernel
theorem dL_isTurned_217 : decode cL_isTurned 217 = .ok (.istore 8, 2) := by decide +kernel
theorem dL_isTurned_219 : decode cL_isTurned 219 = .ok (.iload 8, 2) := by decide +kernel
theorem dL_isTurned_221 : decode cL_isTurned 221 = .ok (.ireturn, 1) := by decide +kernel
theorem dL_least_0 : decode cL_least 0 = .ok (.iload_n 0, 1) := by decide +kernel
theorem dL_least_1 : decode cL_least 1 = .ok (.iload_n 1, 1) := by decide +kernel
theorem dL_least_2 : decode cL_least 2 = .ok (.if_icmp .ge 7, 3) := by decide +kernel
theorem dL_least_5 : decode cL_least 5 = .ok (.iload_n 0, 1) := by decide +kernel
theorem dL_least_6 : decode cL_least 6 = .ok (.goto 4, 3) := by decide +kernel
theorem dL_least_9 : decode cL_least 9 = .ok (.iload_n 1, 1) := by decide +kernel
theorem dL_least_10 : decode cL_least 10 = .ok (.ireturn, 1) := by decide +kernel
theorem dL_isLearned_0 : decode cL_isLearned 0 = .ok (.aload_n 0, 1) := by decide +kernel
theorem dL_isLearned_1 : decode cL_isLearned 1 = .ok (.iconst 1, 1) := by decide +kernel
theorem dL_isLearned_2 : decode cL_isLearned 2 = .ok (.invokevirtual 19, 3) := by decide +kernel
theorem dL_isLearned_5 : decode cL_isLearned 5 = .ok (.istore_n 1, 1) := by decide +kernel
theorem dL_isLearned_6 : decode cL_isLearned 6 = .ok (.iload_n 1, 1) := by decide +kernel
theorem dL_isLearned_7 : decode cL_isLearned 7 = .ok (.sipush 510, 3) := by decide +kernel
theorem dL_isLearned_10 : decode cL_isLearned 10 = .ok (.idiv, 1) := by decide +kernel
theorem dL_isLearned_11 : decode cL_isLearned 11 = .ok (.istore_n 2, 1) := by decide +kernel
theorem dL_isLearned_12 : decode cL_isLearned 12 = .ok (.iconst 0, 1) := by decide +kernel
theorem dL_isLearned_13 : decode cL_isLearned 13 = .ok (.istore_n 3, 1) := by decide +kernel
theorem dL_isLearned_14 : decode cL_isLearned 14 = .ok (.iconst 3, 1) := by decide +kernel
theorem dL_isLearned_15 : decode cL_isLearned 15 = .ok (.newarray .int, 2) := by decide +kernel
theorem dL_isLearned_17 : decode cL_isLearned 17 = .ok (.astore 4, 2) := by decide +kernel
theorem dL_isLearned_19 : decode cL_isLearned 19 = .ok (.iconst 0, 1) := by decide +kernel
theorem dL_isLearned_20 : decode cL_isLearned 20 = .ok (.istore 5, 2) := by decide +kernel
theorem dL_isLearned_22 : decode cL_isLearned 22 = .ok (.iload 5, 2) := by decide +kernel
theorem dL_isLearned_24 : decode cL_isLearned 24 = .ok (.iconst 3, 1) := by decide +kernel
theorem dL_isLearned_25 : decode cL_isLearned 25 = .ok (.if_icmp .ge 21, 3) := by decide +kernel
theorem dL_isLearned_28 : decode cL_isLearned 28 = .ok (.aload 4, 2) := by decide +kernel
theorem dL_isLearned_30 : decode cL_isLearned 30 = .ok (.iload 5, 2) := by decide +kernel
theorem dL_isLearned_32 : decode cL_isLearned 32 = .ok (.aload_n 0, 1) := by decide +kernel
theorem dL_isLearned_33 : decode cL_isLearned 33 = .ok (.iload 5, 2) := by decide +kernel
theorem dL_isLearned_35 : decode cL_isLearned 35 = .ok (.iload_n 2, 1) := by decide +kernel
theorem dL_isLearned_36 : decode cL_isLearned 36 = .ok (.invokevirtual 25, 3) := by decide +kernel
theorem dL_isLearned_39 : decode cL_isLearned 39 = .ok (.iastore, 1) := by decide +kernel
theorem dL_isLearned_40 : decode cL_isLearned 40 = .ok (.iinc 5 1, 3) := by decide +kernel
theorem dL_isLearned_43 : decode cL_isLearned 43 = .ok (.goto (-21), 3) := by decide +kernel
theorem dL_isLearned_46 : decode cL_isLearned 46 = .ok (.aload_n 0, 1) := by decide +kernel
theorem dL_isLearned_47 : decode cL_isLearned 47 = .ok (.invokevirtual 113, 3) := by decide +kernel
theorem dL_isLearned_50 : decode cL_isLearned 50 = .ok (.istore 5, 2) := by decide +kernel
theorem dL_isLearned_52 : decode cL_isLearned 52 = .ok (.iload 5, 2) := by decide +kernel
theorem dL_isLearned_54 : decode cL_isLearned 54 = .ok (.ifCond .lt 7, 3) := by decide +kernel
theorem dL_isLearned_57 : decode cL_isLearned 57 = .ok (.iconst 1, 1) := by decide +kernel
theorem dL_isLearned_58 : decode cL_isLearned 58 = .ok (.goto 4, 3) := by decide +kernel
theorem dL_isLearned_61 : decode cL_isLearned 61 = .ok (.iconst 0, 1) := by decide +kernel
theorem dL_isLearned_62 : decode cL_isLearned 62 = .ok (.istore 6, 2) := by decide +kernel
theorem dL_isLearned_64 : decode cL_isLearned 64 = .ok (.iconst 0, 1) := by decide +kernel
theorem dL_isLearned_65 : decode cL_isLearned 65 = .ok (.istore 7, 2) := by decide +kernel
theorem dL_isLearned_67 : decode cL_isLearned 67 = .ok (.iload 7, 2) := by decide +kernel
theorem dL_isLearned_69 : decode cL_isLearned 69 = .ok (.iconst 3, 1) := by decide +kernel
theorem dL_isLearned_70 : decode cL_isLearned 70 = .ok (.if_icmp .ge 92, 3) := by decide +kernel
theorem dL_isLearned_73 : decode cL_isLearned 73 = .ok (.iload 6, 2) := by decide +kernel
theorem dL_isLearned_75 : decode cL_isLearned 75 = .ok (.ifCond .eq 87, 3) := by decide +kernel
theorem dL_isLearned_78 : decode cL_isLearned 78 = .ok (.aload_n 0, 1) := by decide +kernel
theorem dL_isLearned_79 : decode cL_isLearned 79 = .ok (.iload 7, 2) := by decide +kernel
theorem dL_isLearned_81 : decode cL_isLearned 81 = .ok (.iload_n 2, 1) := by decide +kernel
theorem dL_isLearned_82 : decode cL_isLearned 82 = .ok (.invokevirtual 25, 3) := by decide +kernel
theorem dL_isLearned_85 : decode cL_isLearned 85 = .ok (.istore 8, 2) := by decide +kernel
theorem dL_isLearned_87 : decode cL_isLearned 87 = .ok (.iload_n 3, 1) := by decide +kernel
theorem dL_isLearned_88 : decode cL_isLearned 88 = .ok (.iload 8, 2) := by decide +kernel
theorem dL_isLearned_90 : decode cL_isLearned 90 = .ok (.aload 4, 2) := by decide +kernel
theorem dL_isLearned_92 : decode cL_isLearned 92 = .ok (.iload 7, 2) := by decide +kernel
theorem dL_isLearned_94 : decode cL_isLearned 94 = .ok (.iaload, 1) := by decide +kernel
theorem dL_isLearned_95 : decode cL_isLearned 95 = .ok (.if_icmp .ne 7, 3) := by decide +kernel
theorem dL_isLearned_98 : decode cL_isLearned 98 = .ok (.iconst 0, 1) := by decide +kernel
theorem dL_isLearned_99 : decode cL_isLearned 99 = .ok (.goto 4, 3) := by decide +kernel
theorem dL_isLearned_102 : decode cL_isLearned 102 = .ok (.iconst 1, 1) := by decide +kernel
theorem dL_isLearned_103 : decode cL_isLearned 103 = .ok (.iadd, 1) := by decide +kernel
theorem dL_isLearned_104 : decode cL_isLearned 104 = .ok (.istore_n 3, 1) := by decide +kernel
theorem dL_isLearned_105 : decode cL_isLearned 105 = .ok (.iload 8, 2) := by decide +kernel
theorem dL_isLearned_107 : decode cL_isLearned 107 = .ok (.bipush 81, 2) := by decide +kernel
theorem dL_isLearned_109 : decode cL_isLearned 109 = .ok (.if_icmp .le 44, 3) := by decide +kernel
theorem dL_isLearned_112 : decode cL_isLearned 112 = .ok (.iload 8, 2) := by decide +kernel
theorem dL_isLearned_114 : decode cL_isLearned 114 = .ok (.bipush 119, 2) := by decide +kernel
theorem dL_isLearned_116 : decode cL_isLearned 116 = .ok (.if_icmp .ge 37, 3) := by decide +kernel
theorem dL_isLearned_119 : decode cL_isLearned 119 = .ok (.aload_n 0, 1) := by decide +kernel
theorem dL_isLearned_120 : decode cL_isLearned 120 = .ok (.iload 7, 2) := by decide +kernel
theorem dL_isLearned_122 : decode cL_isLearned 122 = .ok (.invokevirtual 30, 3) := by decide +kernel
theorem dL_isLearned_125 : decode cL_isLearned 125 = .ok (.iload 8, 2) := by decide +kernel
theorem dL_isLearned_127 : decode cL_isLearned 127 = .ok (.isub, 1) := by decide +kernel
theorem dL_isLearned_128 : decode cL_isLearned 128 = .ok (.bipush 100, 2) := by decide +kernel
theorem dL_isLearned_130 : decode cL_isLearned 130 = .ok (.iadd, 1) := by decide +kernel
theorem dL_isLearned_131 : decode cL_isLearned 131 = .ok (.iload 7, 2) := by decide +kernel
theorem dL_isLearned_133 : decode cL_isLearned 133 = .ok (.invokestatic 98, 3) := by decide +kernel
theorem dL_isLearned_136 : decode cL_isLearned 136 = .ok (.invokestatic 9, 3) := by decide +kernel
theorem dL_isLearned_139 : decode cL_isLearned 139 = .ok (.iload_n 1, 1) := by decide +kernel
theorem dL_isLearned_140 : decode cL_isLearned 140 = .ok (.iload 7, 2) := by decide +kernel
theorem dL_isLearned_142 : decode cL_isLearned 142 = .ok (.invokestatic 98, 3) := by decide +kernel
theorem dL_isLearned_145 : decode cL_isLearned 145 = .ok (.irem, 1) := by decide +kernel
theorem dL_isLearned_146 : decode cL_isLearned 146 = .ok (.if_icmp .ne 7, 3) := by decide +kernel
theorem dL_isLearned_149 : decode cL_isLearned 149 = .ok (.iconst 1, 1) := by decide +kernel
theorem dL_isLearned_150 : decode cL_isLearned 150 = .ok (.goto 4, 3) := by decide +kernel
theorem dL_isLearned_153 : decode cL_isLearned 153 = .ok (.iconst 0, 1) := by decide +kernel
theorem dL_isLearned_154 : decode cL_isLearned 154 = .ok (.istore 6, 2) := by decide +kernel
theorem dL_isLearned_156 : decode cL_isLearned 156 = .ok (.iinc 7 1, 3) := by decide +kernel
theorem dL_isLearned_159 : decode cL_isLearned 159 = .ok (.goto (-92), 3) := by decide +kernel
theorem dL_isLearned_162 : decode cL_isLearned 162 = .ok (.iload 6, 2) := by decide +kernel
theorem dL_isLearned_164 : decode cL_isLearned 164 = .ok (.ifCond .eq 71, 3) := by decide +kernel
theorem dL_isLearned_167 : decode cL_isLearned 167 = .ok (.iload 5, 2) := by decide +kernel
theorem dL_isLearned_169 : decode cL_isLearned 169 = .ok (.iload_n 3, 1) := by decide +kernel
theorem dL_isLearned_170 : decode cL_isLearned 170 = .ok (.if_icmp .ne 65, 3) := by decide +kernel
theorem dL_isLearned_173 : decode cL_isLearned 173 = .ok (.aload_n 0, 1) := by decide +kernel
theorem dL_isLearned_174 : decode cL_isLearned 174 = .ok (.iload_n 2, 1) := by decide +kernel
theorem dL_isLearned_175 : decode cL_isLearned 175 = .ok (.iconst 0, 1) := by decide +kernel
theorem dL_isLearned_176 : decode cL_isLearned 176 = .ok (.invokestatic 101, 3) := by decide +kernel
theorem dL_isLearned_179 : decode cL_isLearned 179 = .ok (.iload_n 1, 1) := by decide +kernel
theorem dL_isLearned_180 : decode cL_isLearned 180 = .ok (.if_icmp .ne 55, 3) := by decide +kernel
theorem dL_isLearned_183 : decode cL_isLearned 183 = .ok (.aload_n 0, 1) := by decide +kernel
theorem dL_isLearned_184 : decode cL_isLearned 184 = .ok (.iload_n 2, 1) := by decide +kernel
theorem dL_isLearned_185 : decode cL_isLearned 185 = .ok (.iconst 1, 1) := by decide +kernel
theorem dL_isLearned_186 : decode cL_isLearned 186 = .ok (.invokestatic 101, 3) := by decide +kernel
theorem dL_isLearned_189 : decode cL_isLearned 189 = .ok (.ifCond .ne 46, 3) := by decide +kernel
theorem dL_isLearned_192 : decode cL_isLearned 192 = .ok (.aload_n 0, 1) := by decide +kernel
theorem dL_isLearned_193 : decode cL_isLearned 193 = .ok (.iconst 2, 1) := by decide +kernel
theorem dL_isLearned_194 : decode cL_isLearned 194 = .ok (.invokevirtual 66, 3) := by decide +kernel
theorem dL_isLearned_197 : decode cL_isLearned 197 = .ok (.sipush 510, 3) := by decide +kernel
theorem dL_isLearned_200 : decode cL_isLearned 200 = .ok (.idiv, 1) := by decide +kernel
theorem dL_isLearned_201 : decode cL_isLearned 201 = .ok (.iload_n 2, 1) := by decide +kernel
theorem dL_isLearned_202 : decode cL_isLearned 202 = .ok (.if_icmp .ne 29, 3) := by decide +kernel
theorem dL_isLearned_205 : decode cL_isLearned 205 = .ok (.aload_n 0, 1) := by decide +kernel
theorem dL_isLearned_206 : decode cL_isLearned 206 = .ok (.iconst 0, 1) := by decide +kernel
theorem dL_isLearned_207 : decode cL_isLearned 207 = .ok (.invokevirtual 66, 3) := by decide +kernel
theorem dL_isLearned_210 : decode cL_isLearned 210 = .ok (.iload_n 1, 1) := by decide +kernel
theorem dL_isLearned_211 : decode cL_isLearned 211 = .ok (.if_icmp .ne 24, 3) := by decide +kernel
theorem dL_isLearned_214 : decode cL_isLearned 214 = .ok (.aload_n 0, 1) := by decide +kernel
theorem dL_isLearned_215 : decode cL_isLearned 215 = .ok (.iconst 1, 1) := by decide +kernel
theorem dL_isLearned_216 : decode cL_isLearned 216 = .ok (.invokevirtual 66, 3) := by decide +kernel
theorem dL_isLearned_219 : decode cL_isLearned 219 = .ok (.ifCond .ne 16, 3) := by decide +kernel
theorem dL_isLearned_222 : decode cL_isLearned 222 = .ok (.aload_n 0, 1) := by decide +kernel
theorem dL_isLearned_223 : decode cL_isLearned 223 = .ok (.iconst 3, 1) := by decide +kernel
theorem dL_isLearned_224 : decode cL_isLearned 224 = .ok (.invokevirtual 66, 3) := by decide +kernel
theorem dL_isLearned_227 : decode cL_isLearned 227 = .ok (.iconst 2, 1) := by decide +kernel
theorem dL_isLearned_228 : decode cL_isLearned 228 = .ok (.if_icmp .ne 7, 3) := by decide +kernel
theorem dL_isLearned_231 : decode cL_isLearned 231 = .ok (.iconst 1, 1) := by decide +kernel
theorem dL_isLearned_232 : decode cL_isLearned 232 = .ok (.goto 4, 3) := by decide +kernel
theorem dL_isLearned_235 : decode cL_isLearned 235 = .ok (.iconst 0, 1) := by decide +kernel
theorem dL_isLearned_236 : decode cL_isLearned 236 = .ok (.ireturn, 1) := by decide +kernel
theorem dL_acts_0 : decode cL_acts 0 = .ok (.iload_n 1, 1) := by decide +kernel
theorem dL_acts_1 : decode cL_acts 1 = .ok (.bipush 14, 2) := by decide +kernel
theorem dL_acts_3 : decode cL_acts 3 = .ok (.invokestatic 106, 3) := by decide +kernel
theorem dL_acts_6 : decode cL_acts 6 = .ok (.tableswitch 445 0 12 #[66, 66, 66, 72, 90, 112, 131, 131, 211, 241, 350, 389, 394], 66) := by decide +kernel
theorem dL_acts_72 : decode cL_acts 72 = .ok (.aload_n 0, 1) := by decide +kernel
theorem dL_acts_73 : decode cL_acts 73 = .ok (.iload_n 2, 1) := by decide +kernel
theorem dL_acts_74 : decode cL_acts 74 = .ok (.invokestatic 116, 3) := by decide +kernel
theorem dL_acts_77 : decode cL_acts 77 = .ok (.ireturn, 1) := by decide +kernel
theorem dL_acts_78 : decode cL_acts 78 = .ok (.aload_n 0, 1) := by decide +kernel
theorem dL_acts_79 : decode cL_acts 79 = .ok (.iload_n 2, 1) := by decide +kernel
theorem dL_acts_80 : decode cL_acts 80 = .ok (.iconst 2, 1) := by decide +kernel
theorem dL_acts_81 : decode cL_acts 81 = .ok (.invokestatic 106, 3) := by decide +kernel
theorem dL_acts_84 : decode cL_acts 84 = .ok (.invokevirtual 44, 3) := by decide +kernel
theorem dL_acts_87 : decode cL_acts 87 = .ok (.ifCond .lt 7, 3) := by decide +kernel
theorem dL_acts_90 : decode cL_acts 90 = .ok (.iconst 1, 1) := by decide +kernel
theorem dL_acts_91 : decode cL_acts 91 = .ok (.goto 4, 3) := by decide +kernel
theorem dL_acts_94 : decode cL_acts 94 = .ok (.iconst 0, 1) := by decide +kernel
theorem dL_acts_95 : decode cL_acts 95 = .ok (.ireturn, 1) := by decide +kernel
theorem dL_acts_96 : decode cL_acts 96 = .ok (.aload_n 0, 1) := by decide +kernel
theorem dL_acts_97 : decode cL_acts 97 = .ok (.iconst 1, 1) := by decide +kernel
theorem dL_acts_98 : decode cL_acts 98 = .ok (.iload_n 2, 1) := by decide +kernel
theorem dL_acts_99 : decode cL_acts 99 = .ok (.bipush 9, 2) := by decide +kernel
theorem dL_acts_101 : decode cL_acts 101 = .ok (.invokestatic 106, 3) := by decide +kernel
theorem dL_acts_104 : decode cL_acts 104 = .ok (.iadd, 1) := by decide +kernel
theorem dL_acts_105 : decode cL_acts 105 = .ok (.invokevirtual 47, 3) := by decide +kernel
theorem dL_acts_108 : decode cL_acts 108 = .ok (.iconst (-1), 1) := by decide +kernel
theorem dL_acts_109 : decode cL_acts 109 = .ok (.if_icmp .eq 7, 3) := by decide +kernel
theorem dL_acts_112 : decode cL_acts 112 = .ok (.iconst 1, 1) := by decide +kernel
theorem dL_acts_113 : decode cL_acts 113 = .ok (.goto 4, 3) := by decide +kernel
theorem dL_acts_116 : decode cL_acts 116 = .ok (.iconst 0, 1) := by decide +kernel
theorem dL_acts_117 : decode cL_acts 117 = .ok (.ireturn, 1) := by decide +kernel
theorem dL_acts_118 : decode cL_acts 118 = .ok (.aload_n 0, 1) := by decide +kernel
theorem dL_acts_119 : decode cL_acts 119 = .ok (.iload_n 2, 1) := by decide +kernel
theorem dL_acts_120 : decode cL_acts 120 = .ok (.bipush 40, 2) := by decide +kernel
theorem dL_acts_122 : decode cL_acts 122 = .ok (.invokestatic 106, 3) := by decide +kernel
theorem dL_acts_125 : decode cL_acts 125 = .ok (.invokevirtual 50, 3) := by decide +kernel
theorem dL_acts_128 : decode cL_acts 128 = .ok (.ifCond .lt 7, 3) := by decide +kernel
theorem dL_acts_131 : decode cL_acts 131 = .ok (.iconst 1, 1) := by decide +kernel
theorem dL_acts_132 : decode cL_acts 132 = .ok (.goto 4, 3) := by decide +kernel
theorem dL_acts_135 : decode cL_acts 135 = .ok (.iconst 0, 1) := by decide +kernel
theorem dL_acts_136 : decode cL_acts 136 = .ok (.ireturn, 1) := by decide +kernel
theorem dL_acts_137 : decode cL_acts 137 = .ok (.iload_n 2, 1) := by decide +kernel
theorem dL_acts_138 : decode cL_acts 138 = .ok (.iconst 3, 1) := by decide +kernel
theorem dL_acts_139 : decode cL_acts 139 = .ok (.invokestatic 106, 3) := by decide +kernel
theorem dL_acts_142 : decode cL_acts 142 = .ok (.istore_n 3, 1) := by decide +kernel
theorem dL_acts_143 : decode cL_acts 143 = .ok (.iload_n 2, 1) := by decide +kernel
theorem dL_acts_144 : decode cL_acts 144 = .ok (.bipush 6, 2) := by decide +kernel
theorem dL_acts_146 : decode cL_acts 146 = .ok (.ishr, 1) := by decide +kernel
theorem dL_acts_147 : decode cL_acts 147 = .ok (.bipush 19, 2) := by decide +kernel
theorem dL_acts_149 : decode cL_acts 149 = .ok (.invokestatic 106, 3) := by decide +kernel
theorem dL_acts_152 : decode cL_acts 152 = .ok (.bipush 9, 2) := by decide +kernel
theorem dL_acts_154 : decode cL_acts 154 = .ok (.isub, 1) := by decide +kernel
theorem dL_acts_155 : decode cL_acts 155 = .ok (.istore 4, 2) := by decide +kernel
theorem dL_acts_157 : decode cL_acts 157 = .ok (.aload_n 0, 1) := by decide +kernel
theorem dL_acts_158 : decode cL_acts 158 = .ok (.iload_n 3, 1) := by decide +kernel
theorem dL_acts_159 : decode cL_acts 159 = .ok (.iload_n 2, 1) := by decide +kernel
theorem dL_acts_160 : decode cL_acts 160 = .ok (.iconst 2, 1) := by decide +kernel
theorem dL_acts_161 : decode cL_acts 161 = .ok (.ishr, 1) := by decide +kernel
theorem dL_acts_162 : decode cL_acts 162 = .ok (.bipush 8, 2) := by decide +kernel
theorem dL_acts_164 : decode cL_acts 164 = .ok (.invokestatic 106, 3) := by decide +kernel
theorem dL_acts_167 : decode cL_acts 167 = .ok (.iload 4, 2) := by decide +kernel
theorem dL_acts_169 : decode cL_acts 169 = .ok (.invokevirtual 53, 3) := by decide +kernel
theorem dL_acts_172 : decode cL_acts 172 = .ok (.istore 5, 2) := by decide +kernel
theorem dL_acts_174 : decode cL_acts 174 = .ok (.iload 5, 2) := by decide +kernel
theorem dL_acts_176 : decode cL_acts 176 = .ok (.bipush 90, 2) := by decide +kernel
theorem dL_acts_178 : decode cL_acts 178 = .ok (.if_icmp .le 37, 3) := by decide +kernel
theorem dL_acts_181 : decode cL_acts 181 = .ok (.iload 5, 2) := by decide +kernel
theorem dL_acts_183 : decode cL_acts 183 = .ok (.bipush 110, 2) := by decide +kernel
theorem dL_acts_185 : decode cL_acts 185 = .ok (.if_icmp .ge 30, 3) := by decide +kernel
theorem dL_acts_188 : decode cL_acts 188 = .ok (.aload_n 0, 1) := by decide +kernel
theorem dL_acts_189 : decode cL_acts 189 = .ok (.iload_n 3, 1) := by decide +kernel
theorem dL_acts_190 : decode cL_acts 190 = .ok (.iload_n 2, 1) := by decide +kernel
theorem dL_acts_191 : decode cL_acts 191 = .ok (.iconst 2, 1) := by decide +kernel
theorem dL_acts_192 : decode cL_acts 192 = .ok (.ishr, 1) := by decide +kernel
theorem dL_acts_193 : decode cL_acts 193 = .ok (.bipush 8, 2) := by decide +kernel
theorem dL_acts_195 : decode cL_acts 195 = .ok (.invokestatic 106, 3) := by decide +kernel
theorem dL_acts_198 : decode cL_acts 198 = .ok (.iload 4, 2) := by decide +kernel
theorem dL_acts_200 : decode cL_acts 200 = .ok (.invokevirtual 53, 3) := by decide +kernel
theorem dL_acts_203 : decode cL_acts 203 = .ok (.iload 4, 2) := by decide +kernel
theorem dL_acts_205 : decode cL_acts 205 = .ok (.bipush 100, 2) := by decide +kernel
theorem dL_acts_207 : decode cL_acts 207 = .ok (.iadd, 1) := by decide +kernel
theorem dL_acts_208 : decode cL_acts 208 = .ok (.if_icmp .ne 7, 3) := by decide +kernel
theorem dL_acts_211 : decode cL_acts 211 = .ok (.iconst 1, 1) := by decide +kernel
theorem dL_acts_212 : decode cL_acts 212 = .ok (.goto 4, 3) := by decide +kernel
theorem dL_acts_215 : decode cL_acts 215 = .ok (.iconst 0, 1) := by decide +kernel
theorem dL_acts_216 : decode cL_acts 216 = .ok (.ireturn, 1) := by decide +kernel
theorem dL_acts_217 : decode cL_acts 217 = .ok (.aload_n 0, 1) := by decide +kernel
theorem dL_acts_218 : decode cL_acts 218 = .ok (.iload_n 2, 1) := by decide +kernel
theorem dL_acts_219 : decode cL_acts 219 = .ok (.iconst 3, 1) := by decide +kernel
theorem dL_acts_220 : decode cL_acts 220 = .ok (.invokestatic 106, 3) := by decide +kernel
theorem dL_acts_223 : decode cL_acts 223 = .ok (.iload_n 2, 1) := by decide +kernel
theorem dL_acts_224 : decode cL_acts 224 = .ok (.iconst 2, 1) := by decide +kernel
theorem dL_acts_225 : decode cL_acts 225 = .ok (.ishr, 1) := by decide +kernel
theorem dL_acts_226 : decode cL_acts 226 = .ok (.bipush 7, 2) := by decide +kernel
theorem dL_acts_228 : decode cL_acts 228 = .ok (.invokestatic 106, 3) := by decide +kernel
theorem dL_acts_231 : decode cL_acts 231 = .ok (.iconst 3, 1) := by decide +kernel
theorem dL_acts_232 : decode cL_acts 232 = .ok (.isub, 1) := by decide +kernel
theorem dL_acts_233 : decode cL_acts 233 = .ok (.invokevirtual 57, 3) := by decide +kernel
theorem dL_acts_236 : decode cL_acts 236 = .ok (.bipush 90, 2) := by decide +kernel
theorem dL_acts_238 : decode cL_acts 238 = .ok (.if_icmp .le 7, 3) := by decide +kernel
theorem dL_acts_241 : decode cL_acts 241 = .ok (.iconst 1, 1) := by decide +kernel
theorem dL_acts_242 : decode cL_acts 242 = .ok (.goto 4, 3) := by decide +kernel
theorem dL_acts_245 : decode cL_acts 245 = .ok (.iconst 0, 1) := by decide +kernel
theorem dL_acts_246 : decode cL_acts 246 = .ok (.ireturn, 1) := by decide +kernel
theorem dL_acts_247 : decode cL_acts 247 = .ok (.iload_n 2, 1) := by decide +kernel
theorem dL_acts_248 : decode cL_acts 248 = .ok (.iconst 4, 1) := by decide +kernel
theorem dL_acts_249 : decode cL_acts 249 = .ok (.invokestatic 106, 3) := by decide +kernel
theorem dL_acts_252 : decode cL_acts 252 = .ok (.istore_n 3, 1) := by decide +kernel
theorem dL_acts_253 : decode cL_acts 253 = .ok (.iload_n 3, 1) := by decide +kernel
theorem dL_acts_254 : decode cL_acts 254 = .ok (.ifCond .ne 14, 3) := by decide +kernel
theorem dL_acts_257 : decode cL_acts 257 = .ok (.iload_n 2, 1) := by decide +kernel
theorem dL_acts_258 : decode cL_acts 258 = .ok (.iconst 2, 1) := by decide +kernel
theorem dL_acts_259 : decode cL_acts 259 = .ok (.ishr, 1) := by decide +kernel
theorem dL_acts_260 : decode cL_acts 260 = .ok (.bipush 41, 2) := by decide +kernel
theorem dL_acts_262 : decode cL_acts 262 = .ok (.invokestatic 106, 3) := by decide +kernel
theorem dL_acts_265 : decode cL_acts 265 = .ok (.goto 48, 3) := by decide +kernel
theorem dL_acts_268 : decode cL_acts 268 = .ok (.iload_n 3, 1) := by decide +kernel
theorem dL_acts_269 : decode cL_acts 269 = .ok (.iconst 1, 1) := by decide +kernel
theorem dL_acts_270 : decode cL_acts 270 = .ok (.if_icmp .ne 14, 3) := by decide +kernel
theorem dL_acts_273 : decode cL_acts 273 = .ok (.iload_n 2, 1) := by decide +kernel
theorem dL_acts_274 : decode cL_acts 274 = .ok (.iconst 2, 1) := by decide +kernel
theorem dL_acts_275 : decode cL_acts 275 = .ok (.ishr, 1) := by decide +kernel
theorem dL_acts_276 : decode cL_acts 276 = .ok (.bipush 33, 2) := by decide +kernel
theorem dL_acts_278 : decode cL_acts 278 = .ok (.invokestatic 106, 3) := by decide +kernel
theorem dL_acts_281 : decode cL_acts 281 = .ok (.goto 32, 3) := by decide +kernel
theorem dL_acts_284 : decode cL_acts 284 = .ok (.iload_n 3, 1) := by decide +kernel
theorem dL_acts_285 : decode cL_acts 285 = .ok (.iconst 2, 1) := by decide +kernel
theorem dL_acts_286 : decode cL_acts 286 = .ok (.if_icmp .ne 17, 3) := by decide +kernel
theorem dL_acts_289 : decode cL_acts 289 = .ok (.iconst 1, 1) := by decide +kernel
theorem dL_acts_290 : decode cL_acts 290 = .ok (.iload_n 2, 1) := by decide +kernel
theorem dL_acts_291 : decode cL_acts 291 = .ok (.iconst 2, 1) := by decide +kernel
theorem dL_acts_292 : decode cL_acts 292 = .ok (.ishr, 1) := by decide +kernel
theorem dL_acts_293 : decode cL_acts 293 = .ok (.sipush 4080, 3) := by decide +kernel
theorem dL_acts_296 : decode cL_acts 296 = .ok (.invokestatic 106, 3) := by decide +kernel
theorem dL_acts_299 : decode cL_acts 299 = .ok (.iadd, 1) := by decide +kernel
theorem dL_acts_300 : decode cL_acts 300 = .ok (.goto 13, 3) := by decide +kernel
theorem dL_acts_303 : decode cL_acts 303 = .ok (.iload_n 2, 1) := by decide +kernel
theorem dL_acts_304 : decode cL_acts 304 = .ok (.iconst 2, 1) := by decide +kernel
theorem dL_acts_305 : decode cL_acts 305 = .ok (.ishr, 1) := by decide +kernel
theorem dL_acts_306 : decode cL_acts 306 = .ok (.bipush 9, 2) := by decide +kernel
theorem dL_acts_308 : decode cL_acts 308 = .ok (.invokestatic 106, 3) := by decide +kernel
theorem dL_acts_311 : decode cL_acts 311 = .ok (.iconst 4, 1) := by decide +kernel
theorem dL_acts_312 : decode cL_acts 312 = .ok (.isub, 1) := by decide +kernel
theorem dL_acts_313 : decode cL_acts 313 = .ok (.istore 4, 2) := by decide +kernel
theorem dL_acts_315 : decode cL_acts 315 = .ok (.aload_n 0, 1) := by decide +kernel
theorem dL_acts_316 : decode cL_acts 316 = .ok (.iload_n 3, 1) := by decide +kernel
theorem dL_acts_317 : decode cL_acts 317 = .ok (.iload 4, 2) := by decide +kernel
theorem dL_acts_319 : decode cL_acts 319 = .ok (.invokevirtual 60, 3) := by decide +kernel
theorem dL_acts_322 : decode cL_acts 322 = .ok (.ifCond .lt 32, 3) := by decide +kernel
theorem dL_acts_325 : decode cL_acts 325 = .ok (.aload_n 0, 1) := by decide +kernel
theorem dL_acts_326 : decode cL_acts 326 = .ok (.bipush 20, 2) := by decide +kernel
theorem dL_acts_328 : decode cL_acts 328 = .ok (.iload_n 3, 1) := by decide +kernel
theorem dL_acts_329 : decode cL_acts 329 = .ok (.iadd, 1) := by decide +kernel
theorem dL_acts_330 : decode cL_acts 330 = .ok (.invokevirtual 19, 3) := by decide +kernel
theorem dL_acts_333 : decode cL_acts 333 = .ok (.iload 4, 2) := by decide +kernel
theorem dL_acts_335 : decode cL_acts 335 = .ok (.iload_n 3, 1) := by decide +kernel
theorem dL_acts_336 : decode cL_acts 336 = .ok (.iconst 3, 1) := by decide +kernel
theorem dL_acts_337 : decode cL_acts 337 = .ok (.if_icmp .ne 8, 3) := by decide +kernel
theorem dL_acts_340 : decode cL_acts 340 = .ok (.bipush 100, 2) := by decide +kernel
theorem dL_acts_342 : decode cL_acts 342 = .ok (.goto 4, 3) := by decide +kernel
theorem dL_acts_345 : decode cL_acts 345 = .ok (.iconst 0, 1) := by decide +kernel
theorem dL_acts_346 : decode cL_acts 346 = .ok (.iadd, 1) := by decide +kernel
theorem dL_acts_347 : decode cL_acts 347 = .ok (.if_icmp .ne 7, 3) := by decide +kernel
theorem dL_acts_350 : decode cL_acts 350 = .ok (.iconst 1, 1) := by decide +kernel
theorem dL_acts_351 : decode cL_acts 351 = .ok (.goto 4, 3) := by decide +kernel
theorem dL_acts_354 : decode cL_acts 354 = .ok (.iconst 0, 1) := by decide +kernel
theorem dL_acts_355 : decode cL_acts 355 = .ok (.ireturn, 1) := by decide +kernel
theorem dL_acts_356 : decode cL_acts 356 = .ok (.aload_n 0, 1) := by decide +kernel
theorem dL_acts_357 : decode cL_acts 357 = .ok (.iload_n 2, 1) := by decide +kernel
theorem dL_acts_358 : decode cL_acts 358 = .ok (.iconst 3, 1) := by decide +kernel
theorem dL_acts_359 : decode cL_acts 359 = .ok (.invokestatic 106, 3) := by decide +kernel
theorem dL_acts_362 : decode cL_acts 362 = .ok (.iload_n 2, 1) := by decide +kernel
theorem dL_acts_363 : decode cL_acts 363 = .ok (.iconst 2, 1) := by decide +kernel
theorem dL_acts_364 : decode cL_acts 364 = .ok (.ishr, 1) := by decide +kernel
theorem dL_acts_365 : decode cL_acts 365 = .ok (.bipush 8, 2) := by decide +kernel
theorem dL_acts_367 : decode cL_acts 367 = .ok (.invokestatic 106, 3) := by decide +kernel
theorem dL_acts_370 : decode cL_acts 370 = .ok (.iload_n 2, 1) := by decide +kernel
theorem dL_acts_371 : decode cL_acts 371 = .ok (.iconst 5, 1) := by decide +kernel
theorem dL_acts_372 : decode cL_acts 372 = .ok (.ishr, 1) := by decide +kernel
theorem dL_acts_373 : decode cL_acts 373 = .ok (.bipush 41, 2) := by decide +kernel
theorem dL_acts_375 : decode cL_acts 375 = .ok (.invokestatic 106, 3) := by decide +kernel
theorem dL_acts_378 : decode cL_acts 378 = .ok (.bipush 20, 2) := by decide +kernel
theorem dL_acts_380 : decode cL_acts 380 = .ok (.isub, 1) := by decide +kernel
theorem dL_acts_381 : decode cL_acts 381 = .ok (.invokevirtual 63, 3) := by decide +kernel
theorem dL_acts_384 : decode cL_acts 384 = .ok (.bipush 79, 2) := by decide +kernel
theorem dL_acts_386 : decode cL_acts 386 = .ok (.if_icmp .le 7, 3) := by decide +kernel
theorem dL_acts_389 : decode cL_acts 389 = .ok (.iconst 1, 1) := by decide +kernel
theorem dL_acts_390 : decode cL_acts 390 = .ok (.goto 4, 3) := by decide +kernel
theorem dL_acts_393 : decode cL_acts 393 = .ok (.iconst 0, 1) := by decide +kernel
theorem dL_acts_394 : decode cL_acts 394 = .ok (.ireturn, 1) := by decide +kernel
theorem dL_acts_395 : decode cL_acts 395 = .ok (.aload_n 0, 1) := by decide +kernel
theorem dL_acts_396 : decode cL_acts 396 = .ok (.invokestatic 120, 3) := by decide +kernel
theorem dL_acts_399 : decode cL_acts 399 = .ok (.ireturn, 1) := by decide +kernel
theorem dL_acts_400 : decode cL_acts 400 = .ok (.aload_n 0, 1) := by decide +kernel
theorem dL_acts_401 : decode cL_acts 401 = .ok (.bipush 6, 2) := by decide +kernel
theorem dL_acts_403 : decode cL_acts 403 = .ok (.invokevirtual 19, 3) := by decide +kernel
theorem dL_acts_406 : decode cL_acts 406 = .ok (.bipush (-4), 2) := by decide +kernel
theorem dL_acts_408 : decode cL_acts 408 = .ok (.if_icmp .ne 7, 3) := by decide +kernel
theorem dL_acts_411 : decode cL_acts 411 = .ok (.iconst 0, 1) := by decide +kernel
theorem dL_acts_412 : decode cL_acts 412 = .ok (.goto 4, 3) := by decide +kernel
theorem dL_acts_415 : decode cL_acts 415 = .ok (.iconst 1, 1) := by decide +kernel
theorem dL_acts_416 : decode cL_acts 416 = .ok (.istore_n 3, 1) := by decide +kernel
theorem dL_acts_417 : decode cL_acts 417 = .ok (.aload_n 0, 1) := by decide +kernel
theorem dL_acts_418 : decode cL_acts 418 = .ok (.invokevirtual 124, 3) := by decide +kernel
theorem dL_acts_421 : decode cL_acts 421 = .ok (.iload_n 3, 1) := by decide +kernel
theorem dL_acts_422 : decode cL_acts 422 = .ok (.if_icmp .ne 27, 3) := by decide +kernel
theorem dL_acts_425 : decode cL_acts 425 = .ok (.aload_n 0, 1) := by decide +kernel
theorem dL_acts_426 : decode cL_acts 426 = .ok (.bipush 6, 2) := by decide +kernel
theorem dL_acts_428 : decode cL_acts 428 = .ok (.invokevirtual 19, 3) := by decide +kernel
theorem dL_acts_431 : decode cL_acts 431 = .ok (.bipush (-4), 2) := by decide +kernel
theorem dL_acts_433 : decode cL_acts 433 = .ok (.if_icmp .ne 16, 3) := by decide +kernel
theorem dL_acts_436 : decode cL_acts 436 = .ok (.aload_n 0, 1) := by decide +kernel
theorem dL_acts_437 : decode cL_acts 437 = .ok (.bipush 7, 2) := by decide +kernel
theorem dL_acts_439 : decode cL_acts 439 = .ok (.invokevirtual 19, 3) := by decide +kernel
theorem dL_acts_442 : decode cL_acts 442 = .ok (.ifCond .ne 7, 3) := by decide +kernel
theorem dL_acts_445 : decode cL_acts 445 = .ok (.iconst 1, 1) := by decide +kernel
theorem dL_acts_446 : decode cL_acts 446 = .ok (.goto 4, 3) := by decide +kernel
theorem dL_acts_449 : decode cL_acts 449 = .ok (.iconst 0, 1) := by decide +kernel
theorem dL_acts_450 : decode cL_acts 450 = .ok (.ireturn, 1) := by decide +kernel
theorem dL_acts_451 : decode cL_acts 451 = .ok (.aload_n 0, 1) := by decide +kernel
theorem dL_acts_452 : decode cL_acts 452 = .ok (.invokestatic 127, 3) := by decide +kernel
theorem dL_acts_455 : decode cL_acts 455 = .ok (.ireturn, 1) := by decide +kernel
theorem dL_law_0 : decode cL_law 0 = .ok (.new 20, 3) := by decide +kernel
theorem dL_law_3 : decode cL_law 3 = .ok (.dup, 1) := by decide +kernel
theorem dL_law_4 : decode cL_law 4 = .ok (.invokespecial 130, 3) := by decide +kernel
theorem dL_law_7 : decode cL_law 7 = .ok (.astore_n 1, 1) := by decide +kernel
theorem dL_law_8 : decode cL_law 8 = .ok (.aload_n 1, 1) := by decide +kernel
theorem dL_law_9 : decode cL_law 9 = .ok (.invokevirtual 131, 3) := by decide +kernel
theorem dL_law_12 : decode cL_law 12 = .ok (.bipush (-2), 2) := by decide +kernel
theorem dL_law_14 : decode cL_law 14 = .ok (.if_icmp .ne 21, 3) := by decide +kernel
theorem dL_law_17 : decode cL_law 17 = .ok (.aload_n 1, 1) := by decide +kernel
theorem dL_law_18 : decode cL_law 18 = .ok (.invokestatic 134, 3) := by decide +kernel
theorem dL_law_21 : decode cL_law 21 = .ok (.ifCond .eq 14, 3) := by decide +kernel
theorem dL_law_24 : decode cL_law 24 = .ok (.aload_n 1, 1) := by decide +kernel
theorem dL_law_25 : decode cL_law 25 = .ok (.invokestatic 137, 3) := by decide +kernel
theorem dL_law_28 : decode cL_law 28 = .ok (.ifCond .eq 7, 3) := by decide +kernel
theorem dL_law_31 : decode cL_law 31 = .ok (.iconst 1, 1) := by decide +kernel
theorem dL_law_32 : decode cL_law 32 = .ok (.goto 4, 3) := by decide +kernel
theorem dL_law_35 : decode cL_law 35 = .ok (.iconst 0, 1) := by decide +kernel
theorem dL_law_36 : decode cL_law 36 = .ok (.istore_n 2, 1) := by decide +kernel
theorem dL_law_37 : decode cL_law 37 = .ok (.iconst 0, 1) := by decide +kernel
theorem dL_law_38 : decode cL_law 38 = .ok (.istore_n 3, 1) := by decide +kernel
theorem dL_law_39 : decode cL_law 39 = .ok (.iload_n 3, 1) := by decide +kernel
theorem dL_law_40 : decode cL_law 40 = .ok (.bipush 40, 2) := by decide +kernel
theorem dL_law_42 : decode cL_law 42 = .ok (.if_icmp .ge 190, 3) := by decide +kernel
theorem dL_law_45 : decode cL_law 45 = .ok (.iload_n 2, 1) := by decide +kernel
theorem dL_law_46 : decode cL_law 46 = .ok (.ifCond .eq 186, 3) := by decide +kernel
theorem dL_law_49 : decode cL_law 49 = .ok (.aload_n 0, 1) := by decide +kernel
theorem dL_law_50 : decode cL_law 50 = .ok (.iconst 2, 1) := by decide +kernel
theorem dL_law_51 : decode cL_law 51 = .ok (.iload_n 3, 1) := by decide +kernel
theorem dL_law_52 : decode cL_law 52 = .ok (.imul, 1) := by decide +kernel
theorem dL_law_53 : decode cL_law 53 = .ok (.invokestatic 140, 3) := by decide +kernel
theorem dL_law_56 : decode cL_law 56 = .ok (.istore 4, 2) := by decide +kernel
theorem dL_law_58 : decode cL_law 58 = .ok (.aload_n 0, 1) := by decide +kernel
theorem dL_law_59 : decode cL_law 59 = .ok (.iconst 2, 1) := by decide +kernel
theorem dL_law_60 : decode cL_law 60 = .ok (.iload_n 3, 1) := by decide +kernel
theorem dL_law_61 : decode cL_law 61 = .ok (.imul, 1) := by decide +kernel
theorem dL_law_62 : decode cL_law 62 = .ok (.iconst 1, 1) := by decide +kernel
theorem dL_law_63 : decode cL_law 63 = .ok (.iadd, 1) := by decide +kernel
theorem dL_law_64 : decode cL_law 64 = .ok (.invokestatic 140, 3) := by decide +kernel
theorem dL_law_67 : decode cL_law 67 = .ok (.istore 5, 2) := by decide +kernel
theorem dL_law_69 : decode cL_law 69 = .ok (.aload_n 1, 1) := by decide +kernel
theorem dL_law_70 : decode cL_law 70 = .ok (.iload 4, 2) := by decide +kernel
theorem dL_law_72 : decode cL_law 72 = .ok (.iload 5, 2) := by decide +kernel
theorem dL_law_74 : decode cL_law 74 = .ok (.invokestatic 144, 3) := by decide +kernel
theorem dL_law_77 : decode cL_law 77 = .ok (.ifCond .eq 29, 3) := by decide +kernel
theorem dL_law_80 : decode cL_law 80 = .ok (.aload_n 1, 1) := by decide +kernel
theorem dL_law_81 : decode cL_law 81 = .ok (.invokestatic 137, 3) := by decide +kernel
theorem dL_law_84 : decode cL_law 84 = .ok (.ifCond .eq 22, 3) := by decide +kernel
theorem dL_law_87 : decode cL_law 87 = .ok (.iload_n 3, 1) := by decide +kernel
theorem dL_law_88 : decode cL_law 88 = .ok (.bipush 9, 2) := by decide +kernel
theorem dL_law_90 : decode cL_law 90 = .ok (.irem, 1) := by decide +kernel
theorem dL_law_91 : decode cL_law 91 = .ok (.iconst 5, 1) := by decide +kernel
theorem dL_law_92 : decode cL_law 92 = .ok (.if_icmp .ne 10, 3) := by decide +kernel
theorem dL_law_95 : decode cL_law 95 = .ok (.aload_n 1, 1) := by decide +kernel
theorem dL_law_96 : decode cL_law 96 = .ok (.invokestatic 134, 3) := by decide +kernel
theorem dL_law_99 : decode cL_law 99 = .ok (.ifCond .eq 7, 3) := by decide +kernel
theorem dL_law_102 : decode cL_law 102 = .ok (.iconst 1, 1) := by decide +kernel
theorem dL_law_103 : decode cL_law 103 = .ok (.goto 4, 3) := by decide +kernel
theorem dL_law_106 : decode cL_law 106 = .ok (.iconst 0, 1) := by decide +kernel
theorem dL_law_107 : decode cL_law 107 = .ok (.istore_n 2, 1) := by decide +kernel
theorem dL_law_108 : decode cL_law 108 = .ok (.iload_n 2, 1) := by decide +kernel
theorem dL_law_109 : decode cL_law 109 = .ok (.ifCond .eq 117, 3) := by decide +kernel
theorem dL_law_112 : decode cL_law 112 = .ok (.iload_n 3, 1) := by decide +kernel
theorem dL_law_113 : decode cL_law 113 = .ok (.bipush 6, 2) := by decide +kernel
theorem dL_law_115 : decode cL_law 115 = .ok (.irem, 1) := by decide +kernel
theorem dL_law_116 : decode cL_law 116 = .ok (.iconst 5, 1) := by decide +kernel
theorem dL_law_117 : decode cL_law 117 = .ok (.if_icmp .ne 109, 3) := by decide +kernel
theorem dL_law_120 : decode cL_law 120 = .ok (.aload_n 1, 1) := by decide +kernel
theorem dL_law_121 : decode cL_law 121 = .ok (.invokestatic 37, 3) := by decide +kernel
theorem dL_law_124 : decode cL_law 124 = .ok (.lstore 6, 2) := by decide +kernel
theorem dL_law_126 : decode cL_law 126 = .ok (.aload_n 1, 1) := by decide +kernel
theorem dL_law_127 : decode cL_law 127 = .ok (.iload 5, 2) := by decide +kernel
theorem dL_law_129 : decode cL_law 129 = .ok (.iconst 3, 1) := by decide +kernel
theorem dL_law_130 : decode cL_law 130 = .ok (.invokestatic 106, 3) := by decide +kernel
theorem dL_law_133 : decode cL_law 133 = .ok (.iload 5, 2) := by decide +kernel
theorem dL_law_135 : decode cL_law 135 = .ok (.iconst 3, 1) := by decide +kernel
theorem dL_law_136 : decode cL_law 136 = .ok (.ishr, 1) := by decide +kernel
theorem dL_law_137 : decode cL_law 137 = .ok (.bipush 8, 2) := by decide +kernel
theorem dL_law_139 : decode cL_law 139 = .ok (.invokestatic 106, 3) := by decide +kernel
theorem dL_law_142 : decode cL_law 142 = .ok (.iload 5, 2) := by decide +kernel
theorem dL_law_144 : decode cL_law 144 = .ok (.bipush 6, 2) := by decide +kernel
theorem dL_law_146 : decode cL_law 146 = .ok (.ishr, 1) := by decide +kernel
theorem dL_law_147 : decode cL_law 147 = .ok (.bipush 41, 2) := by decide +kernel
theorem dL_law_149 : decode cL_law 149 = .ok (.invokestatic 106, 3) := by decide +kernel
theorem dL_law_152 : decode cL_law 152 = .ok (.bipush 20, 2) := by decide +kernel
theorem dL_law_154 : decode cL_law 154 = .ok (.isub, 1) := by decide +kernel
theorem dL_law_155 : decode cL_law 155 = .ok (.invokevirtual 63, 3) := by decide +kernel
theorem dL_law_158 : decode cL_law 158 = .ok (.bipush 80, 2) := by decide +kernel
theorem dL_law_160 : decode cL_law 160 = .ok (.if_icmp .lt 64, 3) := by decide +kernel
theorem dL_law_163 : decode cL_law 163 = .ok (.aload_n 1, 1) := by decide +kernel
theorem dL_law_164 : decode cL_law 164 = .ok (.iconst 0, 1) := by decide +kernel
theorem dL_law_165 : decode cL_law 165 = .ok (.iload 5, 2) := by decide +kernel
theorem dL_law_167 : decode cL_law 167 = .ok (.bipush 41, 2) := by decide +kernel
theorem dL_law_169 : decode cL_law 169 = .ok (.invokestatic 106, 3) := by decide +kernel
theorem dL_law_172 : decode cL_law 172 = .ok (.invokevirtual 60, 3) := by decide +kernel
theorem dL_law_175 : decode cL_law 175 = .ok (.ifCond .lt 49, 3) := by decide +kernel
theorem dL_law_178 : decode cL_law 178 = .ok (.aload_n 1, 1) := by decide +kernel
theorem dL_law_179 : decode cL_law 179 = .ok (.iconst 1, 1) := by decide +kernel
theorem dL_law_180 : decode cL_law 180 = .ok (.iconst 4, 1) := by decide +kernel
theorem dL_law_181 : decode cL_law 181 = .ok (.invokevirtual 57, 3) := by decide +kernel
theorem dL_law_184 : decode cL_law 184 = .ok (.bipush 90, 2) := by decide +kernel
theorem dL_law_186 : decode cL_law 186 = .ok (.if_icmp .le 38, 3) := by decide +kernel
theorem dL_law_189 : decode cL_law 189 = .ok (.aload_n 1, 1) := by decide +kernel
theorem dL_law_190 : decode cL_law 190 = .ok (.invokevirtual 131, 3) := by decide +kernel
theorem dL_law_193 : decode cL_law 193 = .ok (.ifCond .lt 31, 3) := by decide +kernel
theorem dL_law_196 : decode cL_law 196 = .ok (.aload_n 1, 1) := by decide +kernel
theorem dL_law_197 : decode cL_law 197 = .ok (.invokevirtual 131, 3) := by decide +kernel
theorem dL_law_200 : decode cL_law 200 = .ok (.ifCond .lt 24, 3) := by decide +kernel
theorem dL_law_203 : decode cL_law 203 = .ok (.aload_n 1, 1) := by decide +kernel
theorem dL_law_204 : decode cL_law 204 = .ok (.invokevirtual 131, 3) := by decide +kernel
theorem dL_law_207 : decode cL_law 207 = .ok (.ifCond .lt 17, 3) := by decide +kernel
theorem dL_law_210 : decode cL_law 210 = .ok (.aload_n 1, 1) := by decide +kernel
theorem dL_law_211 : decode cL_law 211 = .ok (.invokestatic 37, 3) := by decide +kernel
theorem dL_law_214 : decode cL_law 214 = .ok (.lload 6, 2) := by decide +kernel
theorem dL_law_216 : decode cL_law 216 = .ok (.lcmp, 1) := by decide +kernel
theorem dL_law_217 : decode cL_law 217 = .ok (.ifCond .ne 7, 3) := by decide +kernel
theorem dL_law_220 : decode cL_law 220 = .ok (.iconst 1, 1) := by decide +kernel
theorem dL_law_221 : decode cL_law 221 = .ok (.goto 4, 3) := by decide +kernel
theorem dL_law_224 : decode cL_law 224 = .ok (.iconst 0, 1) := by decide +kernel
theorem dL_law_225 : decode cL_law 225 = .ok (.istore_n 2, 1) := by decide +kernel
theorem dL_law_226 : decode cL_law 226 = .ok (.iinc 3 1, 3) := by decide +kernel
theorem dL_law_229 : decode cL_law 229 = .ok (.goto (-190), 3) := by decide +kernel
theorem dL_law_232 : decode cL_law 232 = .ok (.iload_n 2, 1) := by decide +kernel
theorem dL_law_233 : decode cL_law 233 = .ok (.ifCond .eq 21, 3) := by decide +kernel
theorem dL_law_236 : decode cL_law 236 = .ok (.aload_n 1, 1) := by decide +kernel
theorem dL_law_237 : decode cL_law 237 = .ok (.invokestatic 134, 3) := by decide +kernel
theorem dL_law_240 : decode cL_law 240 = .ok (.ifCond .eq 14, 3) := by decide +kernel
theorem dL_law_243 : decode cL_law 243 = .ok (.aload_n 1, 1) := by decide +kernel
theorem dL_law_244 : decode cL_law 244 = .ok (.invokestatic 137, 3) := by decide +kernel
theorem dL_law_247 : decode cL_law 247 = .ok (.ifCond .eq 7, 3) := by decide +kernel
theorem dL_law_250 : decode cL_law 250 = .ok (.iconst 1, 1) := by decide +kernel
theorem dL_law_251 : decode cL_law 251 = .ok (.goto 4, 3) := by decide +kernel
theorem dL_law_254 : decode cL_law 254 = .ok (.iconst 0, 1) := by decide +kernel
theorem dL_law_255 : decode cL_law 255 = .ok (.ireturn, 1) := by decide +kernel
end
section
/-- the words that every method of the two classes is given: the tables' words that keep -/
def WS : List Cond := lw_tbl.filter goodWord
def o_isN : Cond → Bool
  | .fieldLinkNest .. => true
  | .methodLinkNest .. => true
  | _ => false
/-- the nest mates' words -/
def o_N : List Cond := lw_tbl.filter o_isN
theorem o_gWS : GoodIn WS WS := fun w hw => ⟨hw, good_of_word (List.mem_filter.mp hw).2⟩
theorem o_gL : GoodIn lw_tbl WS := fun w hw => ⟨(List.mem_filter.mp hw).1, good_of_word (List.mem_filter.mp hw).2⟩
/-- what the tables say of a static method, of an instance method -/
def o_MS (y : MethodName) (bytes : ByteArray) (maxL : Nat) (ret : Option FieldType) (n : Nat) : Prop := Cond.code y bytes maxL ret ∈ WS ∧ Cond.static y ∈ WS ∧ Cond.initialized y.cls ∈ WS ∧ y.cls ≠ "java/lang/invoke/MethodHandle" ∧ y.cls ≠ "java/lang/invoke/VarHandle" ∧ (parseMethodDescriptor y.desc).map (fun d => d.parameters.length) = some n
def o_MV (C : String) (y : MethodName) (bytes : ByteArray) (maxL : Nat) (ret : Option FieldType) (n : Nat) : Prop := y.cls = C ∧ Cond.code y bytes maxL ret ∈ WS ∧ Cond.instanceMethod y ∈ WS ∧ Cond.selects C y y ∈ WS ∧ Cond.initialized C ∈ WS ∧ C ≠ "java/lang/invoke/MethodHandle" ∧ C ≠ "java/lang/invoke/VarHandle" ∧ (parseMethodDescriptor y.desc).map (fun d => d.parameters.length) = some n
theorem kIn_L : (Cond.initialized RL : Cond) ∈ WS := List.mem_filter.mpr ⟨List.mem_of_getElem? (i := 28) (by decide +kernel), by decide +kernel⟩
theorem kIn_X5 : (Cond.initialized RX5 : Cond) ∈ WS := List.mem_filter.mpr ⟨List.mem_of_getElem? (i := 29) (by decide +kernel), by decide +kernel⟩
theorem kIn_X3 : (Cond.initialized RX3 : Cond) ∈ WS := List.mem_filter.mpr ⟨List.mem_of_getElem? (i := 30) (by decide +kernel), by decide +kernel⟩
theorem kIn_X2 : (Cond.initialized RX2 : Cond) ∈ WS := List.mem_filter.mpr ⟨List.mem_of_getElem? (i := 31) (by decide +kernel), by decide +kernel⟩
theorem kIn_X1 : (Cond.initialized RX1 : Cond) ∈ WS := List.mem_filter.mpr ⟨List.mem_of_getElem? (i := 32) (by decide +kernel), by decide +kernel⟩
theorem kIn_X4 : (Cond.initialized RX4 : Cond) ∈ WS := List.mem_filter.mpr ⟨List.mem_of_getElem? (i := 33) (by decide +kernel), by decide +kernel⟩
theorem kIn_X0 : (Cond.initialized RX0 : Cond) ∈ WS := List.mem_filter.mpr ⟨List.mem_of_getElem? (i := 34) (by decide +kernel), by decide +kernel⟩
theorem kIn_Math : (Cond.initialized "java/lang/Math" : Cond) ∈ WS := List.mem_filter.mpr ⟨List.mem_of_getElem? (i := 35) (by decide +kernel), by decide +kernel⟩
theorem kL_L_20 : (Cond.classLink RL 20 RX5 : Cond) ∈ WS := List.mem_filter.mpr ⟨List.mem_of_getElem? (i := 36) (by decide +kernel), by decide +kernel⟩
theorem kT_X5 : (Cond.instantiable RX5 5 : Cond) ∈ WS := List.mem_filter.mpr ⟨List.mem_of_getElem? (i := 37) (by decide +kernel), by decide +kernel⟩
theorem kM_L_130 : (Cond.methodLink RL 130 yX5_init : Cond) ∈ WS := List.mem_filter.mpr ⟨List.mem_of_getElem? (i := 38) (by decide +kernel), by decide +kernel⟩
theorem kI_X5_init : (Cond.instanceMethod yX5_init : Cond) ∈ WS := List.mem_filter.mpr ⟨List.mem_of_getElem? (i := 39) (by decide +kernel), by decide +kernel⟩
theorem kC_X5_init : (Cond.code yX5_init cX5_init 1 none : Cond) ∈ WS := List.mem_filter.mpr ⟨List.mem_of_getElem? (i := 40) (by decide +kernel), by decide +kernel⟩
theorem kM_X5_3 : (Cond.methodLink RX5 3 Lib.objectInit : Cond) ∈ WS := List.mem_filter.mpr ⟨List.mem_of_getElem? (i := 41) (by decide +kernel), by decide +kernel⟩
theorem kI_Object_init : (Cond.instanceMethod Lib.objectInit : Cond) ∈ WS := List.mem_filter.mpr ⟨List.mem_of_getElem? (i := 42) (by decide +kernel), by decide +kernel⟩
theorem kC_Object_init : (Cond.code Lib.objectInit ⟨#[0xb1]⟩ 1 none : Cond) ∈ WS := List.mem_filter.mpr ⟨List.mem_of_getElem? (i := 43) (by decide +kernel), by decide +kernel⟩
theorem kL_X5_9 : (Cond.classLink RX5 9 RX3 : Cond) ∈ WS := List.mem_filter.mpr ⟨List.mem_of_getElem? (i := 44) (by decide +kernel), by decide +kernel⟩
theorem kT_X3 : (Cond.instantiable RX3 11 : Cond) ∈ WS := List.mem_filter.mpr ⟨List.mem_of_getElem? (i := 45) (by decide +kernel), by decide +kernel⟩
theorem kN_X5_11 : (Cond.methodLinkNest RX5 11 yX3_init RX5 : Cond) ∈ o_N := List.mem_filter.mpr ⟨List.mem_of_getElem? (i := 46) (by decide +kernel), by decide +kernel⟩
theorem kI_X3_init : (Cond.instanceMethod yX3_init : Cond) ∈ WS := List.mem_filter.mpr ⟨List.mem_of_getElem? (i := 47) (by decide +kernel), by decide +kernel⟩
theorem kC_X3_init : (Cond.code yX3_init cX3_init 1 none : Cond) ∈ WS := List.mem_filter.mpr ⟨List.mem_of_getElem? (i := 48) (by decide +kernel), by decide +kernel⟩
theorem kM_X3_3 : (Cond.methodLink RX3 3 Lib.objectInit : Cond) ∈ WS := List.mem_filter.mpr ⟨List.mem_of_getElem? (i := 49) (by decide +kernel), by decide +kernel⟩
theorem kF_X3_9 : (Cond.fieldLink RX3 9 RX3 "place" "I" : Cond) ∈ WS := List.mem_filter.mpr ⟨List.mem_of_getElem? (i := 50) (by decide +kernel), by decide +kernel⟩
theorem kN_X5_48 : (Cond.fieldLinkNest RX5 48 RX3 "place" "I" RX5 : Cond) ∈ o_N := List.mem_filter.mpr ⟨List.mem_of_getElem? (i := 51) (by decide +kernel), by decide +kernel⟩
theorem kF_X3_15 : (Cond.fieldLink RX3 15 RX3 "counter" "I" : Cond) ∈ WS := List.mem_filter.mpr ⟨List.mem_of_getElem? (i := 52) (by decide +kernel), by decide +kernel⟩
theorem kN_X4_24 : (Cond.fieldLinkNest RX4 24 RX3 "counter" "I" RX5 : Cond) ∈ o_N := List.mem_filter.mpr ⟨List.mem_of_getElem? (i := 53) (by decide +kernel), by decide +kernel⟩
theorem kN_X5_85 : (Cond.fieldLinkNest RX5 85 RX3 "counter" "I" RX5 : Cond) ∈ o_N := List.mem_filter.mpr ⟨List.mem_of_getElem? (i := 54) (by decide +kernel), by decide +kernel⟩
theorem kF_X3_18 : (Cond.fieldLink RX3 18 RX3 "powered" "Z" : Cond) ∈ WS := List.mem_filter.mpr ⟨List.mem_of_getElem? (i := 55) (by decide +kernel), by decide +kernel⟩
theorem kN_X5_67 : (Cond.fieldLinkNest RX5 67 RX3 "powered" "Z" RX5 : Cond) ∈ o_N := List.mem_filter.mpr ⟨List.mem_of_getElem? (i := 56) (by decide +kernel), by decide +kernel⟩
theorem kF_X3_22 : (Cond.fieldLink RX3 22 RX3 "battery" "I" : Cond) ∈ WS := List.mem_filter.mpr ⟨List.mem_of_getElem? (i := 57) (by decide +kernel), by decide +kernel⟩
theorem kN_X5_78 : (Cond.fieldLinkNest RX5 78 RX3 "battery" "I" RX5 : Cond) ∈ o_N := List.mem_filter.mpr ⟨List.mem_of_getElem? (i := 58) (by decide +kernel), by decide +kernel⟩
theorem kF_X3_25 : (Cond.fieldLink RX3 25 RX3 "toMiss" "I" : Cond) ∈ WS := List.mem_filter.mpr ⟨List.mem_of_getElem? (i := 59) (by decide +kernel), by decide +kernel⟩
theorem kN_X5_75 : (Cond.fieldLinkNest RX5 75 RX3 "toMiss" "I" RX5 : Cond) ∈ o_N := List.mem_filter.mpr ⟨List.mem_of_getElem? (i := 60) (by decide +kernel), by decide +kernel⟩
theorem kF_X3_28 : (Cond.fieldLink RX3 28 RX3 "accepted" "I" : Cond) ∈ WS := List.mem_filter.mpr ⟨List.mem_of_getElem? (i := 61) (by decide +kernel), by decide +kernel⟩
theorem kN_X4_60 : (Cond.fieldLinkNest RX4 60 RX3 "accepted" "I" RX5 : Cond) ∈ o_N := List.mem_filter.mpr ⟨List.mem_of_getElem? (i := 62) (by decide +kernel), by decide +kernel⟩
theorem kN_X5_88 : (Cond.fieldLinkNest RX5 88 RX3 "accepted" "I" RX5 : Cond) ∈ o_N := List.mem_filter.mpr ⟨List.mem_of_getElem? (i := 63) (by decide +kernel), by decide +kernel⟩
theorem kF_X3_31 : (Cond.fieldLink RX3 31 RX3 "apartInRow" "I" : Cond) ∈ WS := List.mem_filter.mpr ⟨List.mem_of_getElem? (i := 64) (by decide +kernel), by decide +kernel⟩
theorem kN_X4_27 : (Cond.fieldLinkNest RX4 27 RX3 "apartInRow" "I" RX5 : Cond) ∈ o_N := List.mem_filter.mpr ⟨List.mem_of_getElem? (i := 65) (by decide +kernel), by decide +kernel⟩
theorem kN_X5_91 : (Cond.fieldLinkNest RX5 91 RX3 "apartInRow" "I" RX5 : Cond) ∈ o_N := List.mem_filter.mpr ⟨List.mem_of_getElem? (i := 66) (by decide +kernel), by decide +kernel⟩
theorem kF_X3_34 : (Cond.fieldLink RX3 34 RX3 "settings" "[I" : Cond) ∈ WS := List.mem_filter.mpr ⟨List.mem_of_getElem? (i := 67) (by decide +kernel), by decide +kernel⟩
theorem kN_X4_37 : (Cond.fieldLinkNest RX4 37 RX3 "settings" "[I" RX5 : Cond) ∈ o_N := List.mem_filter.mpr ⟨List.mem_of_getElem? (i := 68) (by decide +kernel), by decide +kernel⟩
theorem kN_X5_148 : (Cond.fieldLinkNest RX5 148 RX3 "settings" "[I" RX5 : Cond) ∈ o_N := List.mem_filter.mpr ⟨List.mem_of_getElem? (i := 69) (by decide +kernel), by decide +kernel⟩
theorem kF_X3_38 : (Cond.fieldLink RX3 38 RX3 "errors" "[I" : Cond) ∈ WS := List.mem_filter.mpr ⟨List.mem_of_getElem? (i := 70) (by decide +kernel), by decide +kernel⟩
theorem kN_X5_116 : (Cond.fieldLinkNest RX5 116 RX3 "errors" "[I" RX5 : Cond) ∈ o_N := List.mem_filter.mpr ⟨List.mem_of_getElem? (i := 71) (by decide +kernel), by decide +kernel⟩
theorem kF_X3_41 : (Cond.fieldLink RX3 41 RX3 "noises" "[I" : Cond) ∈ WS := List.mem_filter.mpr ⟨List.mem_of_getElem? (i := 72) (by decide +kernel), by decide +kernel⟩
theorem kN_X5_136 : (Cond.fieldLinkNest RX5 136 RX3 "noises" "[I" RX5 : Cond) ∈ o_N := List.mem_filter.mpr ⟨List.mem_of_getElem? (i := 73) (by decide +kernel), by decide +kernel⟩
theorem kF_X3_44 : (Cond.fieldLink RX3 44 RX3 "corrections" "[I" : Cond) ∈ WS := List.mem_filter.mpr ⟨List.mem_of_getElem? (i := 74) (by decide +kernel), by decide +kernel⟩
theorem kN_X5_171 : (Cond.fieldLinkNest RX5 171 RX3 "corrections" "[I" RX5 : Cond) ∈ o_N := List.mem_filter.mpr ⟨List.mem_of_getElem? (i := 75) (by decide +kernel), by decide +kernel⟩
theorem kA_int : (Cond.arrayClass .int : Cond) ∈ WS := List.mem_filter.mpr ⟨List.mem_of_getElem? (i := 99) (by decide +kernel), by decide +kernel⟩
theorem kL_X5_16 : (Cond.classLink RX5 16 RX2 : Cond) ∈ WS := List.mem_filter.mpr ⟨List.mem_of_getElem? (i := 100) (by decide +kernel), by decide +kernel⟩
theorem kT_X2 : (Cond.instantiable RX2 3 : Cond) ∈ WS := List.mem_filter.mpr ⟨List.mem_of_getElem? (i := 101) (by decide +kernel), by decide +kernel⟩
theorem kN_X5_18 : (Cond.methodLinkNest RX5 18 yX2_init RX5 : Cond) ∈ o_N := List.mem_filter.mpr ⟨List.mem_of_getElem? (i := 102) (by decide +kernel), by decide +kernel⟩
theorem kI_X2_init : (Cond.instanceMethod yX2_init : Cond) ∈ WS := List.mem_filter.mpr ⟨List.mem_of_getElem? (i := 103) (by decide +kernel), by decide +kernel⟩
theorem kC_X2_init : (Cond.code yX2_init cX2_init 1 none : Cond) ∈ WS := List.mem_filter.mpr ⟨List.mem_of_getElem? (i := 104) (by decide +kernel), by decide +kernel⟩
theorem kM_X2_3 : (Cond.methodLink RX2 3 Lib.objectInit : Cond) ∈ WS := List.mem_filter.mpr ⟨List.mem_of_getElem? (i := 105) (by decide +kernel), by decide +kernel⟩
theorem kL_X2_9 : (Cond.classLink RX2 9 RX3 : Cond) ∈ WS := List.mem_filter.mpr ⟨List.mem_of_getElem? (i := 106) (by decide +kernel), by decide +kernel⟩
theorem kA_State : (Cond.arrayOver (.object RX3) : Cond) ∈ lw_tbl := List.mem_of_getElem? (i := 107) (by decide +kernel)
theorem kN_X2_11 : (Cond.methodLinkNest RX2 11 yX3_init RX5 : Cond) ∈ o_N := List.mem_filter.mpr ⟨List.mem_of_getElem? (i := 108) (by decide +kernel), by decide +kernel⟩
theorem kF_X2_12 : (Cond.fieldLink RX2 12 RX2 "states" "[LVernierEncoder$State;" : Cond) ∈ WS := List.mem_filter.mpr ⟨List.mem_of_getElem? (i := 109) (by decide +kernel), by decide +kernel⟩
theorem kF_X2_18 : (Cond.fieldLink RX2 18 RX2 "oldest" "I" : Cond) ∈ WS := List.mem_filter.mpr ⟨List.mem_of_getElem? (i := 110) (by decide +kernel), by decide +kernel⟩
theorem kF_X2_22 : (Cond.fieldLink RX2 22 RX2 "size" "I" : Cond) ∈ WS := List.mem_filter.mpr ⟨List.mem_of_getElem? (i := 111) (by decide +kernel), by decide +kernel⟩
theorem kN_X5_100 : (Cond.fieldLinkNest RX5 100 RX2 "size" "I" RX5 : Cond) ∈ o_N := List.mem_filter.mpr ⟨List.mem_of_getElem? (i := 112) (by decide +kernel), by decide +kernel⟩
theorem kL_X5_23 : (Cond.classLink RX5 23 RX1 : Cond) ∈ WS := List.mem_filter.mpr ⟨List.mem_of_getElem? (i := 120) (by decide +kernel), by decide +kernel⟩
theorem kT_X1 : (Cond.instantiable RX1 4 : Cond) ∈ WS := List.mem_filter.mpr ⟨List.mem_of_getElem? (i := 121) (by decide +kernel), by decide +kernel⟩
theorem kN_X5_25 : (Cond.methodLinkNest RX5 25 yX1_init RX5 : Cond) ∈ o_N := List.mem_filter.mpr ⟨List.mem_of_getElem? (i := 122) (by decide +kernel), by decide +kernel⟩
theorem kI_X1_init : (Cond.instanceMethod yX1_init : Cond) ∈ WS := List.mem_filter.mpr ⟨List.mem_of_getElem? (i := 123) (by decide +kernel), by decide +kernel⟩
theorem kC_X1_init : (Cond.code yX1_init cX1_init 1 none : Cond) ∈ WS := List.mem_filter.mpr ⟨List.mem_of_getElem? (i := 124) (by decide +kernel), by decide +kernel⟩
theorem kM_X1_1 : (Cond.methodLink RX1 1 Lib.objectInit : Cond) ∈ WS := List.mem_filter.mpr ⟨List.mem_of_getElem? (i := 125) (by decide +kernel), by decide +kernel⟩
theorem kF_X1_7 : (Cond.fieldLink RX1 7 RX1 "first" "I" : Cond) ∈ WS := List.mem_filter.mpr ⟨List.mem_of_getElem? (i := 126) (by decide +kernel), by decide +kernel⟩
theorem kN_X5_190 : (Cond.fieldLinkNest RX5 190 RX1 "first" "I" RX5 : Cond) ∈ o_N := List.mem_filter.mpr ⟨List.mem_of_getElem? (i := 127) (by decide +kernel), by decide +kernel⟩
theorem kF_X1_13 : (Cond.fieldLink RX1 13 RX1 "last" "I" : Cond) ∈ WS := List.mem_filter.mpr ⟨List.mem_of_getElem? (i := 128) (by decide +kernel), by decide +kernel⟩
theorem kN_X4_45 : (Cond.fieldLinkNest RX4 45 RX1 "last" "I" RX5 : Cond) ∈ o_N := List.mem_filter.mpr ⟨List.mem_of_getElem? (i := 129) (by decide +kernel), by decide +kernel⟩
theorem kN_X5_184 : (Cond.fieldLinkNest RX5 184 RX1 "last" "I" RX5 : Cond) ∈ o_N := List.mem_filter.mpr ⟨List.mem_of_getElem? (i := 130) (by decide +kernel), by decide +kernel⟩
theorem kF_X1_16 : (Cond.fieldLink RX1 16 RX1 "lastDeviation" "I" : Cond) ∈ WS := List.mem_filter.mpr ⟨List.mem_of_getElem? (i := 131) (by decide +kernel), by decide +kernel⟩
theorem kN_X4_32 : (Cond.fieldLinkNest RX4 32 RX1 "lastDeviation" "I" RX5 : Cond) ∈ o_N := List.mem_filter.mpr ⟨List.mem_of_getElem? (i := 132) (by decide +kernel), by decide +kernel⟩
theorem kN_X5_187 : (Cond.fieldLinkNest RX5 187 RX1 "lastDeviation" "I" RX5 : Cond) ∈ o_N := List.mem_filter.mpr ⟨List.mem_of_getElem? (i := 133) (by decide +kernel), by decide +kernel⟩
theorem kF_X1_19 : (Cond.fieldLink RX1 19 RX1 "angles" "I" : Cond) ∈ WS := List.mem_filter.mpr ⟨List.mem_of_getElem? (i := 134) (by decide +kernel), by decide +kernel⟩
theorem kN_X5_193 : (Cond.fieldLinkNest RX5 193 RX1 "angles" "I" RX5 : Cond) ∈ o_N := List.mem_filter.mpr ⟨List.mem_of_getElem? (i := 135) (by decide +kernel), by decide +kernel⟩
theorem kL_X5_30 : (Cond.classLink RX5 30 RX4 : Cond) ∈ WS := List.mem_filter.mpr ⟨List.mem_of_getElem? (i := 145) (by decide +kernel), by decide +kernel⟩
theorem kT_X4 : (Cond.instantiable RX4 4 : Cond) ∈ WS := List.mem_filter.mpr ⟨List.mem_of_getElem? (i := 146) (by decide +kernel), by decide +kernel⟩
theorem kN_X5_32 : (Cond.methodLinkNest RX5 32 yX4_init RX5 : Cond) ∈ o_N := List.mem_filter.mpr ⟨List.mem_of_getElem? (i := 147) (by decide +kernel), by decide +kernel⟩
theorem kI_X4_init : (Cond.instanceMethod yX4_init : Cond) ∈ WS := List.mem_filter.mpr ⟨List.mem_of_getElem? (i := 148) (by decide +kernel), by decide +kernel⟩
theorem kC_X4_init : (Cond.code yX4_init cX4_init 1 none : Cond) ∈ WS := List.mem_filter.mpr ⟨List.mem_of_getElem? (i := 149) (by decide +kernel), by decide +kernel⟩
theorem kM_X4_3 : (Cond.methodLink RX4 3 Lib.objectInit : Cond) ∈ WS := List.mem_filter.mpr ⟨List.mem_of_getElem? (i := 150) (by decide +kernel), by decide +kernel⟩
theorem kF_X4_9 : (Cond.fieldLink RX4 9 RX4 "refusal" "I" : Cond) ∈ WS := List.mem_filter.mpr ⟨List.mem_of_getElem? (i := 151) (by decide +kernel), by decide +kernel⟩
theorem kN_X5_208 : (Cond.fieldLinkNest RX5 208 RX4 "refusal" "I" RX5 : Cond) ∈ o_N := List.mem_filter.mpr ⟨List.mem_of_getElem? (i := 152) (by decide +kernel), by decide +kernel⟩
theorem kF_X4_15 : (Cond.fieldLink RX4 15 RX4 "counter" "I" : Cond) ∈ WS := List.mem_filter.mpr ⟨List.mem_of_getElem? (i := 153) (by decide +kernel), by decide +kernel⟩
theorem kN_X5_206 : (Cond.fieldLinkNest RX5 206 RX4 "counter" "I" RX5 : Cond) ∈ o_N := List.mem_filter.mpr ⟨List.mem_of_getElem? (i := 154) (by decide +kernel), by decide +kernel⟩
theorem kF_X4_18 : (Cond.fieldLink RX4 18 RX4 "apartInRow" "I" : Cond) ∈ WS := List.mem_filter.mpr ⟨List.mem_of_getElem? (i := 155) (by decide +kernel), by decide +kernel⟩
theorem kN_X5_207 : (Cond.fieldLinkNest RX5 207 RX4 "apartInRow" "I" RX5 : Cond) ∈ o_N := List.mem_filter.mpr ⟨List.mem_of_getElem? (i := 156) (by decide +kernel), by decide +kernel⟩
theorem kF_X4_21 : (Cond.fieldLink RX4 21 RX4 "place" "I" : Cond) ∈ WS := List.mem_filter.mpr ⟨List.mem_of_getElem? (i := 157) (by decide +kernel), by decide +kernel⟩
theorem kN_X5_212 : (Cond.fieldLinkNest RX5 212 RX4 "place" "I" RX5 : Cond) ∈ o_N := List.mem_filter.mpr ⟨List.mem_of_getElem? (i := 158) (by decide +kernel), by decide +kernel⟩
theorem kL_X5_37 : (Cond.classLink RX5 37 RX0 : Cond) ∈ WS := List.mem_filter.mpr ⟨List.mem_of_getElem? (i := 168) (by decide +kernel), by decide +kernel⟩
theorem kT_X0 : (Cond.instantiable RX0 7 : Cond) ∈ WS := List.mem_filter.mpr ⟨List.mem_of_getElem? (i := 169) (by decide +kernel), by decide +kernel⟩
theorem kN_X5_39 : (Cond.methodLinkNest RX5 39 yX0_init RX5 : Cond) ∈ o_N := List.mem_filter.mpr ⟨List.mem_of_getElem? (i := 170) (by decide +kernel), by decide +kernel⟩
theorem kI_X0_init : (Cond.instanceMethod yX0_init : Cond) ∈ WS := List.mem_filter.mpr ⟨List.mem_of_getElem? (i := 171) (by decide +kernel), by decide +kernel⟩
theorem kC_X0_init : (Cond.code yX0_init cX0_init 1 none : Cond) ∈ WS := List.mem_filter.mpr ⟨List.mem_of_getElem? (i := 172) (by decide +kernel), by decide +kernel⟩
theorem kM_X0_3 : (Cond.methodLink RX0 3 Lib.objectInit : Cond) ∈ WS := List.mem_filter.mpr ⟨List.mem_of_getElem? (i := 173) (by decide +kernel), by decide +kernel⟩
theorem kF_X0_9 : (Cond.fieldLink RX0 9 RX0 "characters" "[I" : Cond) ∈ WS := List.mem_filter.mpr ⟨List.mem_of_getElem? (i := 174) (by decide +kernel), by decide +kernel⟩
theorem kF_X0_15 : (Cond.fieldLink RX0 15 RX0 "length" "I" : Cond) ∈ WS := List.mem_filter.mpr ⟨List.mem_of_getElem? (i := 175) (by decide +kernel), by decide +kernel⟩
theorem kN_X5_103 : (Cond.fieldLinkNest RX5 103 RX0 "length" "I" RX5 : Cond) ∈ o_N := List.mem_filter.mpr ⟨List.mem_of_getElem? (i := 176) (by decide +kernel), by decide +kernel⟩
theorem kF_X0_19 : (Cond.fieldLink RX0 19 RX0 "table" "[I" : Cond) ∈ WS := List.mem_filter.mpr ⟨List.mem_of_getElem? (i := 177) (by decide +kernel), by decide +kernel⟩
theorem kF_X0_22 : (Cond.fieldLink RX0 22 RX0 "named" "[I" : Cond) ∈ WS := List.mem_filter.mpr ⟨List.mem_of_getElem? (i := 178) (by decide +kernel), by decide +kernel⟩
theorem kF_X0_25 : (Cond.fieldLink RX0 25 RX0 "scanned" "I" : Cond) ∈ WS := List.mem_filter.mpr ⟨List.mem_of_getElem? (i := 179) (by decide +kernel), by decide +kernel⟩
theorem kF_X0_28 : (Cond.fieldLink RX0 28 RX0 "faultPosition" "I" : Cond) ∈ WS := List.mem_filter.mpr ⟨List.mem_of_getElem? (i := 180) (by decide +kernel), by decide +kernel⟩
theorem kN_X5_226 : (Cond.fieldLinkNest RX5 226 RX0 "faultPosition" "I" RX5 : Cond) ∈ o_N := List.mem_filter.mpr ⟨List.mem_of_getElem? (i := 181) (by decide +kernel), by decide +kernel⟩
theorem kF_X0_31 : (Cond.fieldLink RX0 31 RX0 "faultReason" "I" : Cond) ∈ WS := List.mem_filter.mpr ⟨List.mem_of_getElem? (i := 182) (by decide +kernel), by decide +kernel⟩
theorem kN_X5_223 : (Cond.fieldLinkNest RX5 223 RX0 "faultReason" "I" RX5 : Cond) ∈ o_N := List.mem_filter.mpr ⟨List.mem_of_getElem? (i := 183) (by decide +kernel), by decide +kernel⟩
theorem kF_X5_12 : (Cond.fieldLink RX5 12 RX5 "now" "LVernierEncoder$State;" : Cond) ∈ WS := List.mem_filter.mpr ⟨List.mem_of_getElem? (i := 199) (by decide +kernel), by decide +kernel⟩
theorem kF_X5_19 : (Cond.fieldLink RX5 19 RX5 "history" "LVernierEncoder$History;" : Cond) ∈ WS := List.mem_filter.mpr ⟨List.mem_of_getElem? (i := 200) (by decide +kernel), by decide +kernel⟩
theorem kF_X5_26 : (Cond.fieldLink RX5 26 RX5 "finding" "LVernierEncoder$Finding;" : Cond) ∈ WS := List.mem_filter.mpr ⟨List.mem_of_getElem? (i := 201) (by decide +kernel), by decide +kernel⟩
theorem kF_X5_33 : (Cond.fieldLink RX5 33 RX5 "trial" "LVernierEncoder$Trial;" : Cond) ∈ WS := List.mem_filter.mpr ⟨List.mem_of_getElem? (i := 202) (by decide +kernel), by decide +kernel⟩
theorem kF_X5_40 : (Cond.fieldLink RX5 40 RX5 "entries" "LVernierEncoder$Entries;" : Cond) ∈ WS := List.mem_filter.mpr ⟨List.mem_of_getElem? (i := 203) (by decide +kernel), by decide +kernel⟩
theorem kM_L_131 : (Cond.methodLink RL 131 yX5_undo : Cond) ∈ WS := List.mem_filter.mpr ⟨List.mem_of_getElem? (i := 215) (by decide +kernel), by decide +kernel⟩
theorem kI_X5_undo : (Cond.instanceMethod yX5_undo : Cond) ∈ WS := List.mem_filter.mpr ⟨List.mem_of_getElem? (i := 216) (by decide +kernel), by decide +kernel⟩
theorem kV_X5_undo : (Cond.selects RX5 yX5_undo yX5_undo : Cond) ∈ WS := List.mem_filter.mpr ⟨List.mem_of_getElem? (i := 217) (by decide +kernel), by decide +kernel⟩
theorem kC_X5_undo : (Cond.code yX5_undo cX5_undo 1 (some .int) : Cond) ∈ WS := List.mem_filter.mpr ⟨List.mem_of_getElem? (i := 218) (by decide +kernel), by decide +kernel⟩
theorem kN_X5_109 : (Cond.methodLinkNest RX5 109 yX2_restoreLatest RX5 : Cond) ∈ o_N := List.mem_filter.mpr ⟨List.mem_of_getElem? (i := 219) (by decide +kernel), by decide +kernel⟩
theorem kI_X2_restoreLatest : (Cond.instanceMethod yX2_restoreLatest : Cond) ∈ WS := List.mem_filter.mpr ⟨List.mem_of_getElem? (i := 221) (by decide +kernel), by decide +kernel⟩
theorem kC_X2_restoreLatest : (Cond.code yX2_restoreLatest cX2_restoreLatest 3 none : Cond) ∈ WS := List.mem_filter.mpr ⟨List.mem_of_getElem? (i := 222) (by decide +kernel), by decide +kernel⟩
theorem kM_X2_29 : (Cond.methodLink RX2 29 yX2_slot : Cond) ∈ WS := List.mem_filter.mpr ⟨List.mem_of_getElem? (i := 223) (by decide +kernel), by decide +kernel⟩
theorem kI_X2_slot : (Cond.instanceMethod yX2_slot : Cond) ∈ WS := List.mem_filter.mpr ⟨List.mem_of_getElem? (i := 225) (by decide +kernel), by decide +kernel⟩
theorem kC_X2_slot : (Cond.code yX2_slot cX2_slot 3 (some (.object RX3)) : Cond) ∈ WS := List.mem_filter.mpr ⟨List.mem_of_getElem? (i := 226) (by decide +kernel), by decide +kernel⟩
theorem kN_X2_25 : (Cond.methodLinkNest RX2 25 yX5_remainder RX5 : Cond) ∈ o_N := List.mem_filter.mpr ⟨List.mem_of_getElem? (i := 227) (by decide +kernel), by decide +kernel⟩
theorem kS_X5_remainder : (Cond.static yX5_remainder : Cond) ∈ WS := List.mem_filter.mpr ⟨List.mem_of_getElem? (i := 228) (by decide +kernel), by decide +kernel⟩
theorem kC_X5_remainder : (Cond.code yX5_remainder cX5_remainder 3 (some .int) : Cond) ∈ WS := List.mem_filter.mpr ⟨List.mem_of_getElem? (i := 229) (by decide +kernel), by decide +kernel⟩
theorem kN_X2_33 : (Cond.methodLinkNest RX2 33 yX3_copyFrom RX5 : Cond) ∈ o_N := List.mem_filter.mpr ⟨List.mem_of_getElem? (i := 230) (by decide +kernel), by decide +kernel⟩
theorem kI_X3_copyFrom : (Cond.instanceMethod yX3_copyFrom : Cond) ∈ WS := List.mem_filter.mpr ⟨List.mem_of_getElem? (i := 232) (by decide +kernel), by decide +kernel⟩
theorem kC_X3_copyFrom : (Cond.code yX3_copyFrom cX3_copyFrom 2 none : Cond) ∈ WS := List.mem_filter.mpr ⟨List.mem_of_getElem? (i := 233) (by decide +kernel), by decide +kernel⟩
theorem kN_X3_47 : (Cond.methodLinkNest RX3 47 yX5_copy RX5 : Cond) ∈ o_N := List.mem_filter.mpr ⟨List.mem_of_getElem? (i := 234) (by decide +kernel), by decide +kernel⟩
theorem kS_X5_copy : (Cond.static yX5_copy : Cond) ∈ WS := List.mem_filter.mpr ⟨List.mem_of_getElem? (i := 235) (by decide +kernel), by decide +kernel⟩
theorem kC_X5_copy : (Cond.code yX5_copy cX5_copy 3 none : Cond) ∈ WS := List.mem_filter.mpr ⟨List.mem_of_getElem? (i := 236) (by decide +kernel), by decide +kernel⟩
theorem kM_L_57 : (Cond.methodLink RL 57 yX5_noise : Cond) ∈ WS := List.mem_filter.mpr ⟨List.mem_of_getElem? (i := 237) (by decide +kernel), by decide +kernel⟩
theorem kI_X5_noise : (Cond.instanceMethod yX5_noise : Cond) ∈ WS := List.mem_filter.mpr ⟨List.mem_of_getElem? (i := 238) (by decide +kernel), by decide +kernel⟩
theorem kV_X5_noise : (Cond.selects RX5 yX5_noise yX5_noise : Cond) ∈ WS := List.mem_filter.mpr ⟨List.mem_of_getElem? (i := 239) (by decide +kernel), by decide +kernel⟩
theorem kC_X5_noise : (Cond.code yX5_noise cX5_noise 4 (some .int) : Cond) ∈ WS := List.mem_filter.mpr ⟨List.mem_of_getElem? (i := 240) (by decide +kernel), by decide +kernel⟩
theorem kM_X5_132 : (Cond.methodLink RX5 132 yX5_isTrack : Cond) ∈ WS := List.mem_filter.mpr ⟨List.mem_of_getElem? (i := 241) (by decide +kernel), by decide +kernel⟩
theorem kS_X5_isTrack : (Cond.static yX5_isTrack : Cond) ∈ WS := List.mem_filter.mpr ⟨List.mem_of_getElem? (i := 242) (by decide +kernel), by decide +kernel⟩
theorem kC_X5_isTrack : (Cond.code yX5_isTrack cX5_isTrack 1 (some .boolean) : Cond) ∈ WS := List.mem_filter.mpr ⟨List.mem_of_getElem? (i := 243) (by decide +kernel), by decide +kernel⟩
theorem kM_X5_44 : (Cond.methodLink RX5 44 yX5_isOutside : Cond) ∈ WS := List.mem_filter.mpr ⟨List.mem_of_getElem? (i := 244) (by decide +kernel), by decide +kernel⟩
theorem kS_X5_isOutside : (Cond.static yX5_isOutside : Cond) ∈ WS := List.mem_filter.mpr ⟨List.mem_of_getElem? (i := 245) (by decide +kernel), by decide +kernel⟩
theorem kC_X5_isOutside : (Cond.code yX5_isOutside cX5_isOutside 3 (some .boolean) : Cond) ∈ WS := List.mem_filter.mpr ⟨List.mem_of_getElem? (i := 246) (by decide +kernel), by decide +kernel⟩
theorem kN_X5_53 : (Cond.methodLinkNest RX5 53 yX2_keep RX5 : Cond) ∈ o_N := List.mem_filter.mpr ⟨List.mem_of_getElem? (i := 247) (by decide +kernel), by decide +kernel⟩
theorem kI_X2_keep : (Cond.instanceMethod yX2_keep : Cond) ∈ WS := List.mem_filter.mpr ⟨List.mem_of_getElem? (i := 249) (by decide +kernel), by decide +kernel⟩
theorem kC_X2_keep : (Cond.code yX2_keep cX2_keep 3 none : Cond) ∈ WS := List.mem_filter.mpr ⟨List.mem_of_getElem? (i := 250) (by decide +kernel), by decide +kernel⟩
theorem kM_X5_124 : (Cond.methodLink RX5 124 yX5_at : Cond) ∈ WS := List.mem_filter.mpr ⟨List.mem_of_getElem? (i := 251) (by decide +kernel), by decide +kernel⟩
theorem kS_X5_at : (Cond.static yX5_at : Cond) ∈ WS := List.mem_filter.mpr ⟨List.mem_of_getElem? (i := 252) (by decide +kernel), by decide +kernel⟩
theorem kC_X5_at : (Cond.code yX5_at cX5_at 2 (some .int) : Cond) ∈ WS := List.mem_filter.mpr ⟨List.mem_of_getElem? (i := 253) (by decide +kernel), by decide +kernel⟩
theorem kM_X5_128 : (Cond.methodLink RX5 128 yX5_put : Cond) ∈ WS := List.mem_filter.mpr ⟨List.mem_of_getElem? (i := 254) (by decide +kernel), by decide +kernel⟩
theorem kS_X5_put : (Cond.static yX5_put : Cond) ∈ WS := List.mem_filter.mpr ⟨List.mem_of_getElem? (i := 255) (by decide +kernel), by decide +kernel⟩
theorem kC_X5_put : (Cond.code yX5_put cX5_put 3 none : Cond) ∈ WS := List.mem_filter.mpr ⟨List.mem_of_getElem? (i := 256) (by decide +kernel), by decide +kernel⟩
theorem kM_L_60 : (Cond.methodLink RL 60 yX5_set : Cond) ∈ WS := List.mem_filter.mpr ⟨List.mem_of_getElem? (i := 257) (by decide +kernel), by decide +kernel⟩
theorem kI_X5_set : (Cond.instanceMethod yX5_set : Cond) ∈ WS := List.mem_filter.mpr ⟨List.mem_of_getElem? (i := 258) (by decide +kernel), by decide +kernel⟩
theorem kV_X5_set : (Cond.selects RX5 yX5_set yX5_set : Cond) ∈ WS := List.mem_filter.mpr ⟨List.mem_of_getElem? (i := 259) (by decide +kernel), by decide +kernel⟩
theorem kC_X5_set : (Cond.code yX5_set cX5_set 4 (some .int) : Cond) ∈ WS := List.mem_filter.mpr ⟨List.mem_of_getElem? (i := 260) (by decide +kernel), by decide +kernel⟩
theorem kF_X5_139 : (Cond.fieldLink RX5 139 RX5 "LEAST_SETTINGS" "[I" : Cond) ∈ WS := List.mem_filter.mpr ⟨List.mem_of_getElem? (i := 261) (by decide +kernel), by decide +kernel⟩
theorem kZ_LEAST_SETTINGS : (Cond.laysStatic RX5 "LEAST_SETTINGS" "[I" : Cond) ∈ lw_tbl := List.mem_of_getElem? (i := 262) (by decide +kernel)
theorem kF_X5_142 : (Cond.fieldLink RX5 142 RX5 "GREATEST_SETTINGS" "[I" : Cond) ∈ WS := List.mem_filter.mpr ⟨List.mem_of_getElem? (i := 263) (by decide +kernel), by decide +kernel⟩
theorem kZ_GREATEST_SETTINGS : (Cond.laysStatic RX5 "GREATEST_SETTINGS" "[I" : Cond) ∈ lw_tbl := List.mem_of_getElem? (i := 264) (by decide +kernel)
theorem kM_X5_145 : (Cond.methodLink RX5 145 yX5_shownSetting : Cond) ∈ WS := List.mem_filter.mpr ⟨List.mem_of_getElem? (i := 265) (by decide +kernel), by decide +kernel⟩
theorem kI_X5_shownSetting : (Cond.instanceMethod yX5_shownSetting : Cond) ∈ WS := List.mem_filter.mpr ⟨List.mem_of_getElem? (i := 267) (by decide +kernel), by decide +kernel⟩
theorem kC_X5_shownSetting : (Cond.code yX5_shownSetting cX5_shownSetting 3 (some .int) : Cond) ∈ WS := List.mem_filter.mpr ⟨List.mem_of_getElem? (i := 268) (by decide +kernel), by decide +kernel⟩
theorem kM_L_63 : (Cond.methodLink RL 63 yX5_correct : Cond) ∈ WS := List.mem_filter.mpr ⟨List.mem_of_getElem? (i := 269) (by decide +kernel), by decide +kernel⟩
theorem kI_X5_correct : (Cond.instanceMethod yX5_correct : Cond) ∈ WS := List.mem_filter.mpr ⟨List.mem_of_getElem? (i := 270) (by decide +kernel), by decide +kernel⟩
theorem kV_X5_correct : (Cond.selects RX5 yX5_correct yX5_correct : Cond) ∈ WS := List.mem_filter.mpr ⟨List.mem_of_getElem? (i := 271) (by decide +kernel), by decide +kernel⟩
theorem kC_X5_correct : (Cond.code yX5_correct cX5_correct 5 (some .int) : Cond) ∈ WS := List.mem_filter.mpr ⟨List.mem_of_getElem? (i := 272) (by decide +kernel), by decide +kernel⟩
theorem kM_X5_112 : (Cond.methodLink RX5 112 yX5_isCell : Cond) ∈ WS := List.mem_filter.mpr ⟨List.mem_of_getElem? (i := 273) (by decide +kernel), by decide +kernel⟩
theorem kS_X5_isCell : (Cond.static yX5_isCell : Cond) ∈ WS := List.mem_filter.mpr ⟨List.mem_of_getElem? (i := 274) (by decide +kernel), by decide +kernel⟩
theorem kC_X5_isCell : (Cond.code yX5_isCell cX5_isCell 2 (some .boolean) : Cond) ∈ WS := List.mem_filter.mpr ⟨List.mem_of_getElem? (i := 275) (by decide +kernel), by decide +kernel⟩
theorem kM_X5_120 : (Cond.methodLink RX5 120 yX5_cell : Cond) ∈ WS := List.mem_filter.mpr ⟨List.mem_of_getElem? (i := 276) (by decide +kernel), by decide +kernel⟩
theorem kS_X5_cell : (Cond.static yX5_cell : Cond) ∈ WS := List.mem_filter.mpr ⟨List.mem_of_getElem? (i := 277) (by decide +kernel), by decide +kernel⟩
theorem kC_X5_cell : (Cond.code yX5_cell cX5_cell 2 (some .int) : Cond) ∈ WS := List.mem_filter.mpr ⟨List.mem_of_getElem? (i := 278) (by decide +kernel), by decide +kernel⟩
theorem kM_L_140 : (Cond.methodLink RL 140 yL_cell : Cond) ∈ WS := List.mem_filter.mpr ⟨List.mem_of_getElem? (i := 279) (by decide +kernel), by decide +kernel⟩
theorem kS_L_cell : (Cond.static yL_cell : Cond) ∈ WS := List.mem_filter.mpr ⟨List.mem_of_getElem? (i := 280) (by decide +kernel), by decide +kernel⟩
theorem kC_L_cell : (Cond.code yL_cell cL_cell 3 (some .int) : Cond) ∈ WS := List.mem_filter.mpr ⟨List.mem_of_getElem? (i := 281) (by decide +kernel), by decide +kernel⟩
theorem kK_L_7 : (Cond.constant RL 7 916318735 : Cond) ∈ WS := List.mem_filter.mpr ⟨List.mem_of_getElem? (i := 282) (by decide +kernel), by decide +kernel⟩
theorem kM_L_106 : (Cond.methodLink RL 106 yL_low : Cond) ∈ WS := List.mem_filter.mpr ⟨List.mem_of_getElem? (i := 283) (by decide +kernel), by decide +kernel⟩
theorem kS_L_low : (Cond.static yL_low : Cond) ∈ WS := List.mem_filter.mpr ⟨List.mem_of_getElem? (i := 284) (by decide +kernel), by decide +kernel⟩
theorem kC_L_low : (Cond.code yL_low cL_low 2 (some .int) : Cond) ∈ WS := List.mem_filter.mpr ⟨List.mem_of_getElem? (i := 285) (by decide +kernel), by decide +kernel⟩
theorem kK_L_8 : (Cond.constant RL 8 2147483647 : Cond) ∈ WS := List.mem_filter.mpr ⟨List.mem_of_getElem? (i := 286) (by decide +kernel), by decide +kernel⟩
theorem kM_L_37 : (Cond.methodLink RL 37 yL_sum : Cond) ∈ WS := List.mem_filter.mpr ⟨List.mem_of_getElem? (i := 287) (by decide +kernel), by decide +kernel⟩
theorem kS_L_sum : (Cond.static yL_sum : Cond) ∈ WS := List.mem_filter.mpr ⟨List.mem_of_getElem? (i := 288) (by decide +kernel), by decide +kernel⟩
theorem kC_L_sum : (Cond.code yL_sum cL_sum 4 (some .long) : Cond) ∈ WS := List.mem_filter.mpr ⟨List.mem_of_getElem? (i := 289) (by decide +kernel), by decide +kernel⟩
theorem kJ_L_15 : (Cond.constantLong RL 15 17 : Cond) ∈ WS := List.mem_filter.mpr ⟨List.mem_of_getElem? (i := 290) (by decide +kernel), by decide +kernel⟩
theorem kJ_L_17 : (Cond.constantLong RL 17 31 : Cond) ∈ WS := List.mem_filter.mpr ⟨List.mem_of_getElem? (i := 291) (by decide +kernel), by decide +kernel⟩
theorem kM_L_19 : (Cond.methodLink RL 19 yX5_count : Cond) ∈ WS := List.mem_filter.mpr ⟨List.mem_of_getElem? (i := 292) (by decide +kernel), by decide +kernel⟩
theorem kI_X5_count : (Cond.instanceMethod yX5_count : Cond) ∈ WS := List.mem_filter.mpr ⟨List.mem_of_getElem? (i := 293) (by decide +kernel), by decide +kernel⟩
theorem kV_X5_count : (Cond.selects RX5 yX5_count yX5_count : Cond) ∈ WS := List.mem_filter.mpr ⟨List.mem_of_getElem? (i := 294) (by decide +kernel), by decide +kernel⟩
theorem kC_X5_count : (Cond.code yX5_count cX5_count 2 (some .int) : Cond) ∈ WS := List.mem_filter.mpr ⟨List.mem_of_getElem? (i := 295) (by decide +kernel), by decide +kernel⟩
theorem kN_X5_81 : (Cond.methodLinkNest RX5 81 yX3_angle RX5 : Cond) ∈ o_N := List.mem_filter.mpr ⟨List.mem_of_getElem? (i := 296) (by decide +kernel), by decide +kernel⟩
theorem kI_X3_angle : (Cond.instanceMethod yX3_angle : Cond) ∈ WS := List.mem_filter.mpr ⟨List.mem_of_getElem? (i := 298) (by decide +kernel), by decide +kernel⟩
theorem kC_X3_angle : (Cond.code yX3_angle cX3_angle 1 (some .int) : Cond) ∈ WS := List.mem_filter.mpr ⟨List.mem_of_getElem? (i := 299) (by decide +kernel), by decide +kernel⟩
theorem kN_X3_51 : (Cond.methodLinkNest RX3 51 yX5_remainder RX5 : Cond) ∈ o_N := List.mem_filter.mpr ⟨List.mem_of_getElem? (i := 300) (by decide +kernel), by decide +kernel⟩
theorem kM_X5_71 : (Cond.methodLink RX5 71 yX5_toNumber : Cond) ∈ WS := List.mem_filter.mpr ⟨List.mem_of_getElem? (i := 301) (by decide +kernel), by decide +kernel⟩
theorem kS_X5_toNumber : (Cond.static yX5_toNumber : Cond) ∈ WS := List.mem_filter.mpr ⟨List.mem_of_getElem? (i := 302) (by decide +kernel), by decide +kernel⟩
theorem kC_X5_toNumber : (Cond.code yX5_toNumber cX5_toNumber 1 (some .int) : Cond) ∈ WS := List.mem_filter.mpr ⟨List.mem_of_getElem? (i := 303) (by decide +kernel), by decide +kernel⟩
theorem kN_X5_94 : (Cond.methodLinkNest RX5 94 yX3_coarse RX5 : Cond) ∈ o_N := List.mem_filter.mpr ⟨List.mem_of_getElem? (i := 304) (by decide +kernel), by decide +kernel⟩
theorem kI_X3_coarse : (Cond.instanceMethod yX3_coarse : Cond) ∈ WS := List.mem_filter.mpr ⟨List.mem_of_getElem? (i := 306) (by decide +kernel), by decide +kernel⟩
theorem kC_X3_coarse : (Cond.code yX3_coarse cX3_coarse 2 (some .int) : Cond) ∈ WS := List.mem_filter.mpr ⟨List.mem_of_getElem? (i := 307) (by decide +kernel), by decide +kernel⟩
theorem kM_X3_55 : (Cond.methodLink RX3 55 yX3_angle : Cond) ∈ WS := List.mem_filter.mpr ⟨List.mem_of_getElem? (i := 308) (by decide +kernel), by decide +kernel⟩
theorem kN_X3_59 : (Cond.methodLinkNest RX3 59 yX5_at RX5 : Cond) ∈ o_N := List.mem_filter.mpr ⟨List.mem_of_getElem? (i := 309) (by decide +kernel), by decide +kernel⟩
theorem kN_X5_97 : (Cond.methodLinkNest RX5 97 yX3_correctionsInUse RX5 : Cond) ∈ o_N := List.mem_filter.mpr ⟨List.mem_of_getElem? (i := 310) (by decide +kernel), by decide +kernel⟩
theorem kI_X3_correctionsInUse : (Cond.instanceMethod yX3_correctionsInUse : Cond) ∈ WS := List.mem_filter.mpr ⟨List.mem_of_getElem? (i := 312) (by decide +kernel), by decide +kernel⟩
theorem kC_X3_correctionsInUse : (Cond.code yX3_correctionsInUse cX3_correctionsInUse 3 (some .int) : Cond) ∈ WS := List.mem_filter.mpr ⟨List.mem_of_getElem? (i := 313) (by decide +kernel), by decide +kernel⟩
theorem kM_X5_106 : (Cond.methodLink RX5 106 yX5_settingCount : Cond) ∈ WS := List.mem_filter.mpr ⟨List.mem_of_getElem? (i := 314) (by decide +kernel), by decide +kernel⟩
theorem kI_X5_settingCount : (Cond.instanceMethod yX5_settingCount : Cond) ∈ WS := List.mem_filter.mpr ⟨List.mem_of_getElem? (i := 316) (by decide +kernel), by decide +kernel⟩
theorem kC_X5_settingCount : (Cond.code yX5_settingCount cX5_settingCount 2 (some .int) : Cond) ∈ WS := List.mem_filter.mpr ⟨List.mem_of_getElem? (i := 317) (by decide +kernel), by decide +kernel⟩
theorem kM_L_25 : (Cond.methodLink RL 25 yX5_correction : Cond) ∈ WS := List.mem_filter.mpr ⟨List.mem_of_getElem? (i := 318) (by decide +kernel), by decide +kernel⟩
theorem kI_X5_correction : (Cond.instanceMethod yX5_correction : Cond) ∈ WS := List.mem_filter.mpr ⟨List.mem_of_getElem? (i := 319) (by decide +kernel), by decide +kernel⟩
theorem kV_X5_correction : (Cond.selects RX5 yX5_correction yX5_correction : Cond) ∈ WS := List.mem_filter.mpr ⟨List.mem_of_getElem? (i := 320) (by decide +kernel), by decide +kernel⟩
theorem kC_X5_correction : (Cond.code yX5_correction cX5_correction 3 (some .int) : Cond) ∈ WS := List.mem_filter.mpr ⟨List.mem_of_getElem? (i := 321) (by decide +kernel), by decide +kernel⟩
theorem kJ_L_28 : (Cond.constantLong RL 28 4 : Cond) ∈ WS := List.mem_filter.mpr ⟨List.mem_of_getElem? (i := 322) (by decide +kernel), by decide +kernel⟩
theorem kM_L_30 : (Cond.methodLink RL 30 yX5_reading : Cond) ∈ WS := List.mem_filter.mpr ⟨List.mem_of_getElem? (i := 323) (by decide +kernel), by decide +kernel⟩
theorem kI_X5_reading : (Cond.instanceMethod yX5_reading : Cond) ∈ WS := List.mem_filter.mpr ⟨List.mem_of_getElem? (i := 324) (by decide +kernel), by decide +kernel⟩
theorem kV_X5_reading : (Cond.selects RX5 yX5_reading yX5_reading : Cond) ∈ WS := List.mem_filter.mpr ⟨List.mem_of_getElem? (i := 325) (by decide +kernel), by decide +kernel⟩
theorem kC_X5_reading : (Cond.code yX5_reading cX5_reading 2 (some .int) : Cond) ∈ WS := List.mem_filter.mpr ⟨List.mem_of_getElem? (i := 326) (by decide +kernel), by decide +kernel⟩
theorem kN_X5_151 : (Cond.methodLinkNest RX5 151 yX3_readingAt RX5 : Cond) ∈ o_N := List.mem_filter.mpr ⟨List.mem_of_getElem? (i := 327) (by decide +kernel), by decide +kernel⟩
theorem kI_X3_readingAt : (Cond.instanceMethod yX3_readingAt : Cond) ∈ WS := List.mem_filter.mpr ⟨List.mem_of_getElem? (i := 329) (by decide +kernel), by decide +kernel⟩
theorem kC_X3_readingAt : (Cond.code yX3_readingAt cX3_readingAt 4 (some .int) : Cond) ∈ WS := List.mem_filter.mpr ⟨List.mem_of_getElem? (i := 330) (by decide +kernel), by decide +kernel⟩
theorem kN_X3_63 : (Cond.methodLinkNest RX3 63 yX5_sectorOf RX5 : Cond) ∈ o_N := List.mem_filter.mpr ⟨List.mem_of_getElem? (i := 331) (by decide +kernel), by decide +kernel⟩
theorem kS_X5_sectorOf : (Cond.static yX5_sectorOf : Cond) ∈ WS := List.mem_filter.mpr ⟨List.mem_of_getElem? (i := 332) (by decide +kernel), by decide +kernel⟩
theorem kC_X5_sectorOf : (Cond.code yX5_sectorOf cX5_sectorOf 1 (some .int) : Cond) ∈ WS := List.mem_filter.mpr ⟨List.mem_of_getElem? (i := 333) (by decide +kernel), by decide +kernel⟩
theorem kN_X3_67 : (Cond.methodLinkNest RX3 67 yX5_cell RX5 : Cond) ∈ o_N := List.mem_filter.mpr ⟨List.mem_of_getElem? (i := 334) (by decide +kernel), by decide +kernel⟩
theorem kN_X3_70 : (Cond.fieldLinkNest RX3 70 RX5 "LENGTHS" "[I" RX5 : Cond) ∈ o_N := List.mem_filter.mpr ⟨List.mem_of_getElem? (i := 335) (by decide +kernel), by decide +kernel⟩
theorem kZ_LENGTHS : (Cond.laysStatic RX5 "LENGTHS" "[I" : Cond) ∈ lw_tbl := List.mem_of_getElem? (i := 336) (by decide +kernel)
theorem kM_L_33 : (Cond.methodLink RL 33 yX5_poor : Cond) ∈ WS := List.mem_filter.mpr ⟨List.mem_of_getElem? (i := 337) (by decide +kernel), by decide +kernel⟩
theorem kI_X5_poor : (Cond.instanceMethod yX5_poor : Cond) ∈ WS := List.mem_filter.mpr ⟨List.mem_of_getElem? (i := 338) (by decide +kernel), by decide +kernel⟩
theorem kV_X5_poor : (Cond.selects RX5 yX5_poor yX5_poor : Cond) ∈ WS := List.mem_filter.mpr ⟨List.mem_of_getElem? (i := 339) (by decide +kernel), by decide +kernel⟩
theorem kC_X5_poor : (Cond.code yX5_poor cX5_poor 3 (some .int) : Cond) ∈ WS := List.mem_filter.mpr ⟨List.mem_of_getElem? (i := 340) (by decide +kernel), by decide +kernel⟩
theorem kN_X5_199 : (Cond.methodLinkNest RX5 199 yX3_isPoor RX5 : Cond) ∈ o_N := List.mem_filter.mpr ⟨List.mem_of_getElem? (i := 341) (by decide +kernel), by decide +kernel⟩
theorem kI_X3_isPoor : (Cond.instanceMethod yX3_isPoor : Cond) ∈ WS := List.mem_filter.mpr ⟨List.mem_of_getElem? (i := 343) (by decide +kernel), by decide +kernel⟩
theorem kC_X3_isPoor : (Cond.code yX3_isPoor cX3_isPoor 5 (some .boolean) : Cond) ∈ WS := List.mem_filter.mpr ⟨List.mem_of_getElem? (i := 344) (by decide +kernel), by decide +kernel⟩
theorem kM_X3_76 : (Cond.methodLink RX3 76 Lib.Math.abs.name : Cond) ∈ WS := List.mem_filter.mpr ⟨List.mem_of_getElem? (i := 345) (by decide +kernel), by decide +kernel⟩
theorem kS_Math_abs : (Cond.static Lib.Math.abs.name : Cond) ∈ WS := List.mem_filter.mpr ⟨List.mem_of_getElem? (i := 346) (by decide +kernel), by decide +kernel⟩
theorem kC_Math_abs : (Cond.code Lib.Math.abs.name Lib.Math.abs.code 1 (some .int) : Cond) ∈ WS := List.mem_filter.mpr ⟨List.mem_of_getElem? (i := 347) (by decide +kernel), by decide +kernel⟩
theorem kM_L_134 : (Cond.methodLink RL 134 yL_refused : Cond) ∈ WS := List.mem_filter.mpr ⟨List.mem_of_getElem? (i := 348) (by decide +kernel), by decide +kernel⟩
theorem kS_L_refused : (Cond.static yL_refused : Cond) ∈ WS := List.mem_filter.mpr ⟨List.mem_of_getElem? (i := 349) (by decide +kernel), by decide +kernel⟩
theorem kC_L_refused : (Cond.code yL_refused cL_refused 5 (some .boolean) : Cond) ∈ WS := List.mem_filter.mpr ⟨List.mem_of_getElem? (i := 350) (by decide +kernel), by decide +kernel⟩
theorem kM_L_41 : (Cond.methodLink RL 41 yX5_turn : Cond) ∈ WS := List.mem_filter.mpr ⟨List.mem_of_getElem? (i := 351) (by decide +kernel), by decide +kernel⟩
theorem kI_X5_turn : (Cond.instanceMethod yX5_turn : Cond) ∈ WS := List.mem_filter.mpr ⟨List.mem_of_getElem? (i := 352) (by decide +kernel), by decide +kernel⟩
theorem kV_X5_turn : (Cond.selects RX5 yX5_turn yX5_turn : Cond) ∈ WS := List.mem_filter.mpr ⟨List.mem_of_getElem? (i := 353) (by decide +kernel), by decide +kernel⟩
theorem kC_X5_turn : (Cond.code yX5_turn cX5_turn 6 (some .int) : Cond) ∈ WS := List.mem_filter.mpr ⟨List.mem_of_getElem? (i := 354) (by decide +kernel), by decide +kernel⟩
theorem kK_X5_52 : (Cond.constant RX5 52 65279 : Cond) ∈ WS := List.mem_filter.mpr ⟨List.mem_of_getElem? (i := 355) (by decide +kernel), by decide +kernel⟩
theorem kM_X5_57 : (Cond.methodLink RX5 57 Lib.Math.abs.name : Cond) ∈ WS := List.mem_filter.mpr ⟨List.mem_of_getElem? (i := 356) (by decide +kernel), by decide +kernel⟩
theorem kN_X5_63 : (Cond.methodLinkNest RX5 63 yX3_crossBound RX5 : Cond) ∈ o_N := List.mem_filter.mpr ⟨List.mem_of_getElem? (i := 357) (by decide +kernel), by decide +kernel⟩
theorem kI_X3_crossBound : (Cond.instanceMethod yX3_crossBound : Cond) ∈ WS := List.mem_filter.mpr ⟨List.mem_of_getElem? (i := 359) (by decide +kernel), by decide +kernel⟩
theorem kC_X3_crossBound : (Cond.code yX3_crossBound cX3_crossBound 2 none : Cond) ∈ WS := List.mem_filter.mpr ⟨List.mem_of_getElem? (i := 360) (by decide +kernel), by decide +kernel⟩
theorem kM_L_44 : (Cond.methodLink RL 44 yX5_power : Cond) ∈ WS := List.mem_filter.mpr ⟨List.mem_of_getElem? (i := 361) (by decide +kernel), by decide +kernel⟩
theorem kI_X5_power : (Cond.instanceMethod yX5_power : Cond) ∈ WS := List.mem_filter.mpr ⟨List.mem_of_getElem? (i := 362) (by decide +kernel), by decide +kernel⟩
theorem kV_X5_power : (Cond.selects RX5 yX5_power yX5_power : Cond) ∈ WS := List.mem_filter.mpr ⟨List.mem_of_getElem? (i := 363) (by decide +kernel), by decide +kernel⟩
theorem kC_X5_power : (Cond.code yX5_power cX5_power 3 (some .int) : Cond) ∈ WS := List.mem_filter.mpr ⟨List.mem_of_getElem? (i := 364) (by decide +kernel), by decide +kernel⟩
theorem kM_L_47 : (Cond.methodLink RL 47 yX5_brownout : Cond) ∈ WS := List.mem_filter.mpr ⟨List.mem_of_getElem? (i := 365) (by decide +kernel), by decide +kernel⟩
theorem kI_X5_brownout : (Cond.instanceMethod yX5_brownout : Cond) ∈ WS := List.mem_filter.mpr ⟨List.mem_of_getElem? (i := 366) (by decide +kernel), by decide +kernel⟩
theorem kV_X5_brownout : (Cond.selects RX5 yX5_brownout yX5_brownout : Cond) ∈ WS := List.mem_filter.mpr ⟨List.mem_of_getElem? (i := 367) (by decide +kernel), by decide +kernel⟩
theorem kC_X5_brownout : (Cond.code yX5_brownout cX5_brownout 2 (some .int) : Cond) ∈ WS := List.mem_filter.mpr ⟨List.mem_of_getElem? (i := 368) (by decide +kernel), by decide +kernel⟩
theorem kM_L_50 : (Cond.methodLink RL 50 yX5_charge : Cond) ∈ WS := List.mem_filter.mpr ⟨List.mem_of_getElem? (i := 369) (by decide +kernel), by decide +kernel⟩
theorem kI_X5_charge : (Cond.instanceMethod yX5_charge : Cond) ∈ WS := List.mem_filter.mpr ⟨List.mem_of_getElem? (i := 370) (by decide +kernel), by decide +kernel⟩
theorem kV_X5_charge : (Cond.selects RX5 yX5_charge yX5_charge : Cond) ∈ WS := List.mem_filter.mpr ⟨List.mem_of_getElem? (i := 371) (by decide +kernel), by decide +kernel⟩
theorem kC_X5_charge : (Cond.code yX5_charge cX5_charge 3 (some .int) : Cond) ∈ WS := List.mem_filter.mpr ⟨List.mem_of_getElem? (i := 372) (by decide +kernel), by decide +kernel⟩
theorem kM_L_53 : (Cond.methodLink RL 53 yX5_disk : Cond) ∈ WS := List.mem_filter.mpr ⟨List.mem_of_getElem? (i := 373) (by decide +kernel), by decide +kernel⟩
theorem kI_X5_disk : (Cond.instanceMethod yX5_disk : Cond) ∈ WS := List.mem_filter.mpr ⟨List.mem_of_getElem? (i := 374) (by decide +kernel), by decide +kernel⟩
theorem kV_X5_disk : (Cond.selects RX5 yX5_disk yX5_disk : Cond) ∈ WS := List.mem_filter.mpr ⟨List.mem_of_getElem? (i := 375) (by decide +kernel), by decide +kernel⟩
theorem kC_X5_disk : (Cond.code yX5_disk cX5_disk 5 (some .int) : Cond) ∈ WS := List.mem_filter.mpr ⟨List.mem_of_getElem? (i := 376) (by decide +kernel), by decide +kernel⟩
theorem kM_L_66 : (Cond.methodLink RL 66 yX5_look : Cond) ∈ WS := List.mem_filter.mpr ⟨List.mem_of_getElem? (i := 377) (by decide +kernel), by decide +kernel⟩
theorem kI_X5_look : (Cond.instanceMethod yX5_look : Cond) ∈ WS := List.mem_filter.mpr ⟨List.mem_of_getElem? (i := 378) (by decide +kernel), by decide +kernel⟩
theorem kV_X5_look : (Cond.selects RX5 yX5_look yX5_look : Cond) ∈ WS := List.mem_filter.mpr ⟨List.mem_of_getElem? (i := 379) (by decide +kernel), by decide +kernel⟩
theorem kC_X5_look : (Cond.code yX5_look cX5_look 2 (some .int) : Cond) ∈ WS := List.mem_filter.mpr ⟨List.mem_of_getElem? (i := 380) (by decide +kernel), by decide +kernel⟩
theorem kN_X5_180 : (Cond.methodLinkNest RX5 180 yX1_search RX5 : Cond) ∈ o_N := List.mem_filter.mpr ⟨List.mem_of_getElem? (i := 381) (by decide +kernel), by decide +kernel⟩
theorem kI_X1_search : (Cond.instanceMethod yX1_search : Cond) ∈ WS := List.mem_filter.mpr ⟨List.mem_of_getElem? (i := 383) (by decide +kernel), by decide +kernel⟩
theorem kC_X1_search : (Cond.code yX1_search cX1_search 4 none : Cond) ∈ WS := List.mem_filter.mpr ⟨List.mem_of_getElem? (i := 384) (by decide +kernel), by decide +kernel⟩
theorem kN_X1_22 : (Cond.methodLinkNest RX1 22 yX3_readingAt RX5 : Cond) ∈ o_N := List.mem_filter.mpr ⟨List.mem_of_getElem? (i := 385) (by decide +kernel), by decide +kernel⟩
theorem kN_X1_28 : (Cond.methodLinkNest RX1 28 yX5_nearestAngle RX5 : Cond) ∈ o_N := List.mem_filter.mpr ⟨List.mem_of_getElem? (i := 386) (by decide +kernel), by decide +kernel⟩
theorem kS_X5_nearestAngle : (Cond.static yX5_nearestAngle : Cond) ∈ WS := List.mem_filter.mpr ⟨List.mem_of_getElem? (i := 387) (by decide +kernel), by decide +kernel⟩
theorem kC_X5_nearestAngle : (Cond.code yX5_nearestAngle cX5_nearestAngle 7 (some .int) : Cond) ∈ WS := List.mem_filter.mpr ⟨List.mem_of_getElem? (i := 388) (by decide +kernel), by decide +kernel⟩
theorem kM_X5_161 : (Cond.methodLink RX5 161 yX5_deviation : Cond) ∈ WS := List.mem_filter.mpr ⟨List.mem_of_getElem? (i := 389) (by decide +kernel), by decide +kernel⟩
theorem kS_X5_deviation : (Cond.static yX5_deviation : Cond) ∈ WS := List.mem_filter.mpr ⟨List.mem_of_getElem? (i := 390) (by decide +kernel), by decide +kernel⟩
theorem kC_X5_deviation : (Cond.code yX5_deviation cX5_deviation 7 (some .int) : Cond) ∈ WS := List.mem_filter.mpr ⟨List.mem_of_getElem? (i := 391) (by decide +kernel), by decide +kernel⟩
theorem kF_X5_165 : (Cond.fieldLink RX5 165 RX5 "LENGTHS" "[I" : Cond) ∈ WS := List.mem_filter.mpr ⟨List.mem_of_getElem? (i := 392) (by decide +kernel), by decide +kernel⟩
theorem kM_X5_214 : (Cond.methodLink RX5 214 yX5_distance : Cond) ∈ WS := List.mem_filter.mpr ⟨List.mem_of_getElem? (i := 393) (by decide +kernel), by decide +kernel⟩
theorem kS_X5_distance : (Cond.static yX5_distance : Cond) ∈ WS := List.mem_filter.mpr ⟨List.mem_of_getElem? (i := 394) (by decide +kernel), by decide +kernel⟩
theorem kC_X5_distance : (Cond.code yX5_distance cX5_distance 3 (some .int) : Cond) ∈ WS := List.mem_filter.mpr ⟨List.mem_of_getElem? (i := 395) (by decide +kernel), by decide +kernel⟩
theorem kM_X5_168 : (Cond.methodLink RX5 168 yX5_remainder : Cond) ∈ WS := List.mem_filter.mpr ⟨List.mem_of_getElem? (i := 396) (by decide +kernel), by decide +kernel⟩
theorem kM_X5_239 : (Cond.methodLink RX5 239 Lib.Math.min.name : Cond) ∈ WS := List.mem_filter.mpr ⟨List.mem_of_getElem? (i := 397) (by decide +kernel), by decide +kernel⟩
theorem kS_Math_min : (Cond.static Lib.Math.min.name : Cond) ∈ WS := List.mem_filter.mpr ⟨List.mem_of_getElem? (i := 398) (by decide +kernel), by decide +kernel⟩
theorem kC_Math_min : (Cond.code Lib.Math.min.name Lib.Math.min.code 2 (some .int) : Cond) ∈ WS := List.mem_filter.mpr ⟨List.mem_of_getElem? (i := 399) (by decide +kernel), by decide +kernel⟩
theorem kM_X5_196 : (Cond.methodLink RX5 196 Lib.Math.max.name : Cond) ∈ WS := List.mem_filter.mpr ⟨List.mem_of_getElem? (i := 400) (by decide +kernel), by decide +kernel⟩
theorem kS_Math_max : (Cond.static Lib.Math.max.name : Cond) ∈ WS := List.mem_filter.mpr ⟨List.mem_of_getElem? (i := 401) (by decide +kernel), by decide +kernel⟩
theorem kC_Math_max : (Cond.code Lib.Math.max.name Lib.Math.max.code 2 (some .int) : Cond) ∈ WS := List.mem_filter.mpr ⟨List.mem_of_getElem? (i := 402) (by decide +kernel), by decide +kernel⟩
theorem kN_X1_34 : (Cond.methodLinkNest RX1 34 yX5_sectorOf RX5 : Cond) ∈ o_N := List.mem_filter.mpr ⟨List.mem_of_getElem? (i := 403) (by decide +kernel), by decide +kernel⟩
theorem kM_X1_38 : (Cond.methodLink RX1 38 yX1_searchCorrected : Cond) ∈ WS := List.mem_filter.mpr ⟨List.mem_of_getElem? (i := 404) (by decide +kernel), by decide +kernel⟩
theorem kI_X1_searchCorrected : (Cond.instanceMethod yX1_searchCorrected : Cond) ∈ WS := List.mem_filter.mpr ⟨List.mem_of_getElem? (i := 406) (by decide +kernel), by decide +kernel⟩
theorem kC_X1_searchCorrected : (Cond.code yX1_searchCorrected cX1_searchCorrected 7 none : Cond) ∈ WS := List.mem_filter.mpr ⟨List.mem_of_getElem? (i := 407) (by decide +kernel), by decide +kernel⟩
theorem kN_X1_42 : (Cond.methodLinkNest RX1 42 yX3_corrected RX5 : Cond) ∈ o_N := List.mem_filter.mpr ⟨List.mem_of_getElem? (i := 408) (by decide +kernel), by decide +kernel⟩
theorem kI_X3_corrected : (Cond.instanceMethod yX3_corrected : Cond) ∈ WS := List.mem_filter.mpr ⟨List.mem_of_getElem? (i := 410) (by decide +kernel), by decide +kernel⟩
theorem kC_X3_corrected : (Cond.code yX3_corrected cX3_corrected 4 (some .int) : Cond) ∈ WS := List.mem_filter.mpr ⟨List.mem_of_getElem? (i := 411) (by decide +kernel), by decide +kernel⟩
theorem kN_X1_45 : (Cond.methodLinkNest RX1 45 yX5_deviation RX5 : Cond) ∈ o_N := List.mem_filter.mpr ⟨List.mem_of_getElem? (i := 412) (by decide +kernel), by decide +kernel⟩
theorem kM_L_69 : (Cond.methodLink RL 69 yX5_survey : Cond) ∈ WS := List.mem_filter.mpr ⟨List.mem_of_getElem? (i := 413) (by decide +kernel), by decide +kernel⟩
theorem kI_X5_survey : (Cond.instanceMethod yX5_survey : Cond) ∈ WS := List.mem_filter.mpr ⟨List.mem_of_getElem? (i := 414) (by decide +kernel), by decide +kernel⟩
theorem kV_X5_survey : (Cond.selects RX5 yX5_survey yX5_survey : Cond) ∈ WS := List.mem_filter.mpr ⟨List.mem_of_getElem? (i := 415) (by decide +kernel), by decide +kernel⟩
theorem kC_X5_survey : (Cond.code yX5_survey cX5_survey 7 (some .int) : Cond) ∈ WS := List.mem_filter.mpr ⟨List.mem_of_getElem? (i := 416) (by decide +kernel), by decide +kernel⟩
theorem kM_L_72 : (Cond.methodLink RL 72 yX5_found : Cond) ∈ WS := List.mem_filter.mpr ⟨List.mem_of_getElem? (i := 417) (by decide +kernel), by decide +kernel⟩
theorem kI_X5_found : (Cond.instanceMethod yX5_found : Cond) ∈ WS := List.mem_filter.mpr ⟨List.mem_of_getElem? (i := 418) (by decide +kernel), by decide +kernel⟩
theorem kV_X5_found : (Cond.selects RX5 yX5_found yX5_found : Cond) ∈ WS := List.mem_filter.mpr ⟨List.mem_of_getElem? (i := 419) (by decide +kernel), by decide +kernel⟩
theorem kC_X5_found : (Cond.code yX5_found cX5_found 6 (some .int) : Cond) ∈ WS := List.mem_filter.mpr ⟨List.mem_of_getElem? (i := 420) (by decide +kernel), by decide +kernel⟩
theorem kM_X5_154 : (Cond.methodLink RX5 154 yX5_isReading : Cond) ∈ WS := List.mem_filter.mpr ⟨List.mem_of_getElem? (i := 421) (by decide +kernel), by decide +kernel⟩
theorem kS_X5_isReading : (Cond.static yX5_isReading : Cond) ∈ WS := List.mem_filter.mpr ⟨List.mem_of_getElem? (i := 422) (by decide +kernel), by decide +kernel⟩
theorem kC_X5_isReading : (Cond.code yX5_isReading cX5_isReading 2 (some .boolean) : Cond) ∈ WS := List.mem_filter.mpr ⟨List.mem_of_getElem? (i := 423) (by decide +kernel), by decide +kernel⟩
theorem kM_X5_157 : (Cond.methodLink RX5 157 yX5_nearestAngle : Cond) ∈ WS := List.mem_filter.mpr ⟨List.mem_of_getElem? (i := 424) (by decide +kernel), by decide +kernel⟩
theorem kM_L_76 : (Cond.methodLink RL 76 yX5_byTwo : Cond) ∈ WS := List.mem_filter.mpr ⟨List.mem_of_getElem? (i := 425) (by decide +kernel), by decide +kernel⟩
theorem kI_X5_byTwo : (Cond.instanceMethod yX5_byTwo : Cond) ∈ WS := List.mem_filter.mpr ⟨List.mem_of_getElem? (i := 426) (by decide +kernel), by decide +kernel⟩
theorem kV_X5_byTwo : (Cond.selects RX5 yX5_byTwo yX5_byTwo : Cond) ∈ WS := List.mem_filter.mpr ⟨List.mem_of_getElem? (i := 427) (by decide +kernel), by decide +kernel⟩
theorem kC_X5_byTwo : (Cond.code yX5_byTwo cX5_byTwo 6 (some .int) : Cond) ∈ WS := List.mem_filter.mpr ⟨List.mem_of_getElem? (i := 428) (by decide +kernel), by decide +kernel⟩
theorem kM_L_79 : (Cond.methodLink RL 79 yX5_type : Cond) ∈ WS := List.mem_filter.mpr ⟨List.mem_of_getElem? (i := 429) (by decide +kernel), by decide +kernel⟩
theorem kI_X5_type : (Cond.instanceMethod yX5_type : Cond) ∈ WS := List.mem_filter.mpr ⟨List.mem_of_getElem? (i := 430) (by decide +kernel), by decide +kernel⟩
theorem kV_X5_type : (Cond.selects RX5 yX5_type yX5_type : Cond) ∈ WS := List.mem_filter.mpr ⟨List.mem_of_getElem? (i := 431) (by decide +kernel), by decide +kernel⟩
theorem kC_X5_type : (Cond.code yX5_type cX5_type 2 (some .int) : Cond) ∈ WS := List.mem_filter.mpr ⟨List.mem_of_getElem? (i := 432) (by decide +kernel), by decide +kernel⟩
theorem kN_X5_217 : (Cond.methodLinkNest RX5 217 yX0_append RX5 : Cond) ∈ o_N := List.mem_filter.mpr ⟨List.mem_of_getElem? (i := 433) (by decide +kernel), by decide +kernel⟩
theorem kI_X0_append : (Cond.instanceMethod yX0_append : Cond) ∈ WS := List.mem_filter.mpr ⟨List.mem_of_getElem? (i := 435) (by decide +kernel), by decide +kernel⟩
theorem kC_X0_append : (Cond.code yX0_append cX0_append 2 none : Cond) ∈ WS := List.mem_filter.mpr ⟨List.mem_of_getElem? (i := 436) (by decide +kernel), by decide +kernel⟩
theorem kN_X0_34 : (Cond.methodLinkNest RX0 34 yX5_put RX5 : Cond) ∈ o_N := List.mem_filter.mpr ⟨List.mem_of_getElem? (i := 437) (by decide +kernel), by decide +kernel⟩
theorem kM_L_82 : (Cond.methodLink RL 82 yX5_fault : Cond) ∈ WS := List.mem_filter.mpr ⟨List.mem_of_getElem? (i := 438) (by decide +kernel), by decide +kernel⟩
theorem kI_X5_fault : (Cond.instanceMethod yX5_fault : Cond) ∈ WS := List.mem_filter.mpr ⟨List.mem_of_getElem? (i := 439) (by decide +kernel), by decide +kernel⟩
theorem kV_X5_fault : (Cond.selects RX5 yX5_fault yX5_fault : Cond) ∈ WS := List.mem_filter.mpr ⟨List.mem_of_getElem? (i := 440) (by decide +kernel), by decide +kernel⟩
theorem kC_X5_fault : (Cond.code yX5_fault cX5_fault 2 (some .int) : Cond) ∈ WS := List.mem_filter.mpr ⟨List.mem_of_getElem? (i := 441) (by decide +kernel), by decide +kernel⟩
theorem kN_X5_220 : (Cond.methodLinkNest RX5 220 yX0_scan RX5 : Cond) ∈ o_N := List.mem_filter.mpr ⟨List.mem_of_getElem? (i := 442) (by decide +kernel), by decide +kernel⟩
theorem kI_X0_scan : (Cond.instanceMethod yX0_scan : Cond) ∈ WS := List.mem_filter.mpr ⟨List.mem_of_getElem? (i := 444) (by decide +kernel), by decide +kernel⟩
theorem kC_X0_scan : (Cond.code yX0_scan cX0_scan 2 none : Cond) ∈ WS := List.mem_filter.mpr ⟨List.mem_of_getElem? (i := 445) (by decide +kernel), by decide +kernel⟩
theorem kM_X0_38 : (Cond.methodLink RX0 38 yX0_entryFault : Cond) ∈ WS := List.mem_filter.mpr ⟨List.mem_of_getElem? (i := 446) (by decide +kernel), by decide +kernel⟩
theorem kI_X0_entryFault : (Cond.instanceMethod yX0_entryFault : Cond) ∈ WS := List.mem_filter.mpr ⟨List.mem_of_getElem? (i := 448) (by decide +kernel), by decide +kernel⟩
theorem kC_X0_entryFault : (Cond.code yX0_entryFault cX0_entryFault 2 (some .int) : Cond) ∈ WS := List.mem_filter.mpr ⟨List.mem_of_getElem? (i := 449) (by decide +kernel), by decide +kernel⟩
theorem kM_X0_46 : (Cond.methodLink RX0 46 yX0_entryLength : Cond) ∈ WS := List.mem_filter.mpr ⟨List.mem_of_getElem? (i := 450) (by decide +kernel), by decide +kernel⟩
theorem kI_X0_entryLength : (Cond.instanceMethod yX0_entryLength : Cond) ∈ WS := List.mem_filter.mpr ⟨List.mem_of_getElem? (i := 452) (by decide +kernel), by decide +kernel⟩
theorem kC_X0_entryLength : (Cond.code yX0_entryLength cX0_entryLength 4 (some .int) : Cond) ∈ WS := List.mem_filter.mpr ⟨List.mem_of_getElem? (i := 453) (by decide +kernel), by decide +kernel⟩
theorem kM_X0_76 : (Cond.methodLink RX0 76 yX0_characterAt : Cond) ∈ WS := List.mem_filter.mpr ⟨List.mem_of_getElem? (i := 454) (by decide +kernel), by decide +kernel⟩
theorem kI_X0_characterAt : (Cond.instanceMethod yX0_characterAt : Cond) ∈ WS := List.mem_filter.mpr ⟨List.mem_of_getElem? (i := 456) (by decide +kernel), by decide +kernel⟩
theorem kC_X0_characterAt : (Cond.code yX0_characterAt cX0_characterAt 2 (some .int) : Cond) ∈ WS := List.mem_filter.mpr ⟨List.mem_of_getElem? (i := 457) (by decide +kernel), by decide +kernel⟩
theorem kN_X0_72 : (Cond.methodLinkNest RX0 72 yX5_at RX5 : Cond) ∈ o_N := List.mem_filter.mpr ⟨List.mem_of_getElem? (i := 458) (by decide +kernel), by decide +kernel⟩
theorem kM_X0_79 : (Cond.methodLink RX0 79 yX0_isDigit : Cond) ∈ WS := List.mem_filter.mpr ⟨List.mem_of_getElem? (i := 459) (by decide +kernel), by decide +kernel⟩
theorem kI_X0_isDigit : (Cond.instanceMethod yX0_isDigit : Cond) ∈ WS := List.mem_filter.mpr ⟨List.mem_of_getElem? (i := 461) (by decide +kernel), by decide +kernel⟩
theorem kC_X0_isDigit : (Cond.code yX0_isDigit cX0_isDigit 2 (some .boolean) : Cond) ∈ WS := List.mem_filter.mpr ⟨List.mem_of_getElem? (i := 462) (by decide +kernel), by decide +kernel⟩
theorem kN_X0_85 : (Cond.methodLinkNest RX0 85 yX5_isOutside RX5 : Cond) ∈ o_N := List.mem_filter.mpr ⟨List.mem_of_getElem? (i := 463) (by decide +kernel), by decide +kernel⟩
theorem kM_X0_55 : (Cond.methodLink RX0 55 yX0_digitAt : Cond) ∈ WS := List.mem_filter.mpr ⟨List.mem_of_getElem? (i := 464) (by decide +kernel), by decide +kernel⟩
theorem kI_X0_digitAt : (Cond.instanceMethod yX0_digitAt : Cond) ∈ WS := List.mem_filter.mpr ⟨List.mem_of_getElem? (i := 466) (by decide +kernel), by decide +kernel⟩
theorem kC_X0_digitAt : (Cond.code yX0_digitAt cX0_digitAt 2 (some .int) : Cond) ∈ WS := List.mem_filter.mpr ⟨List.mem_of_getElem? (i := 467) (by decide +kernel), by decide +kernel⟩
theorem kN_X0_58 : (Cond.methodLinkNest RX0 58 yX5_isTrack RX5 : Cond) ∈ o_N := List.mem_filter.mpr ⟨List.mem_of_getElem? (i := 468) (by decide +kernel), by decide +kernel⟩
theorem kN_X0_62 : (Cond.methodLinkNest RX0 62 yX5_isCell RX5 : Cond) ∈ o_N := List.mem_filter.mpr ⟨List.mem_of_getElem? (i := 469) (by decide +kernel), by decide +kernel⟩
theorem kM_X0_66 : (Cond.methodLink RX0 66 yX0_amount : Cond) ∈ WS := List.mem_filter.mpr ⟨List.mem_of_getElem? (i := 470) (by decide +kernel), by decide +kernel⟩
theorem kI_X0_amount : (Cond.instanceMethod yX0_amount : Cond) ∈ WS := List.mem_filter.mpr ⟨List.mem_of_getElem? (i := 472) (by decide +kernel), by decide +kernel⟩
theorem kC_X0_amount : (Cond.code yX0_amount cX0_amount 3 (some .int) : Cond) ∈ WS := List.mem_filter.mpr ⟨List.mem_of_getElem? (i := 473) (by decide +kernel), by decide +kernel⟩
theorem kM_X0_69 : (Cond.methodLink RX0 69 yX0_entryCell : Cond) ∈ WS := List.mem_filter.mpr ⟨List.mem_of_getElem? (i := 474) (by decide +kernel), by decide +kernel⟩
theorem kI_X0_entryCell : (Cond.instanceMethod yX0_entryCell : Cond) ∈ WS := List.mem_filter.mpr ⟨List.mem_of_getElem? (i := 476) (by decide +kernel), by decide +kernel⟩
theorem kC_X0_entryCell : (Cond.code yX0_entryCell cX0_entryCell 2 (some .int) : Cond) ∈ WS := List.mem_filter.mpr ⟨List.mem_of_getElem? (i := 477) (by decide +kernel), by decide +kernel⟩
theorem kN_X0_82 : (Cond.methodLinkNest RX0 82 yX5_cell RX5 : Cond) ∈ o_N := List.mem_filter.mpr ⟨List.mem_of_getElem? (i := 478) (by decide +kernel), by decide +kernel⟩
theorem kM_X0_42 : (Cond.methodLink RX0 42 yX0_takeEntry : Cond) ∈ WS := List.mem_filter.mpr ⟨List.mem_of_getElem? (i := 479) (by decide +kernel), by decide +kernel⟩
theorem kI_X0_takeEntry : (Cond.instanceMethod yX0_takeEntry : Cond) ∈ WS := List.mem_filter.mpr ⟨List.mem_of_getElem? (i := 481) (by decide +kernel), by decide +kernel⟩
theorem kC_X0_takeEntry : (Cond.code yX0_takeEntry cX0_takeEntry 3 none : Cond) ∈ WS := List.mem_filter.mpr ⟨List.mem_of_getElem? (i := 482) (by decide +kernel), by decide +kernel⟩
theorem kM_X0_49 : (Cond.methodLink RX0 49 Lib.Math.max.name : Cond) ∈ WS := List.mem_filter.mpr ⟨List.mem_of_getElem? (i := 483) (by decide +kernel), by decide +kernel⟩
theorem kM_L_85 : (Cond.methodLink RL 85 yX5_sample : Cond) ∈ WS := List.mem_filter.mpr ⟨List.mem_of_getElem? (i := 484) (by decide +kernel), by decide +kernel⟩
theorem kI_X5_sample : (Cond.instanceMethod yX5_sample : Cond) ∈ WS := List.mem_filter.mpr ⟨List.mem_of_getElem? (i := 485) (by decide +kernel), by decide +kernel⟩
theorem kV_X5_sample : (Cond.selects RX5 yX5_sample yX5_sample : Cond) ∈ WS := List.mem_filter.mpr ⟨List.mem_of_getElem? (i := 486) (by decide +kernel), by decide +kernel⟩
theorem kC_X5_sample : (Cond.code yX5_sample cX5_sample 1 (some .int) : Cond) ∈ WS := List.mem_filter.mpr ⟨List.mem_of_getElem? (i := 487) (by decide +kernel), by decide +kernel⟩
theorem kN_X5_202 : (Cond.methodLinkNest RX5 202 yX4_judge RX5 : Cond) ∈ o_N := List.mem_filter.mpr ⟨List.mem_of_getElem? (i := 488) (by decide +kernel), by decide +kernel⟩
theorem kI_X4_judge : (Cond.instanceMethod yX4_judge : Cond) ∈ WS := List.mem_filter.mpr ⟨List.mem_of_getElem? (i := 490) (by decide +kernel), by decide +kernel⟩
theorem kC_X4_judge : (Cond.code yX4_judge cX4_judge 3 none : Cond) ∈ WS := List.mem_filter.mpr ⟨List.mem_of_getElem? (i := 491) (by decide +kernel), by decide +kernel⟩
theorem kM_X4_28 : (Cond.methodLink RX4 28 yX4_firstRefusal : Cond) ∈ WS := List.mem_filter.mpr ⟨List.mem_of_getElem? (i := 492) (by decide +kernel), by decide +kernel⟩
theorem kI_X4_firstRefusal : (Cond.instanceMethod yX4_firstRefusal : Cond) ∈ WS := List.mem_filter.mpr ⟨List.mem_of_getElem? (i := 494) (by decide +kernel), by decide +kernel⟩
theorem kC_X4_firstRefusal : (Cond.code yX4_firstRefusal cX4_firstRefusal 7 (some .int) : Cond) ∈ WS := List.mem_filter.mpr ⟨List.mem_of_getElem? (i := 495) (by decide +kernel), by decide +kernel⟩
theorem kN_X4_41 : (Cond.methodLinkNest RX4 41 yX5_at RX5 : Cond) ∈ o_N := List.mem_filter.mpr ⟨List.mem_of_getElem? (i := 496) (by decide +kernel), by decide +kernel⟩
theorem kN_X4_48 : (Cond.methodLinkNest RX4 48 yX5_remainder RX5 : Cond) ∈ o_N := List.mem_filter.mpr ⟨List.mem_of_getElem? (i := 497) (by decide +kernel), by decide +kernel⟩
theorem kN_X4_52 : (Cond.methodLinkNest RX4 52 yX3_coarse RX5 : Cond) ∈ o_N := List.mem_filter.mpr ⟨List.mem_of_getElem? (i := 498) (by decide +kernel), by decide +kernel⟩
theorem kN_X4_56 : (Cond.methodLinkNest RX4 56 yX5_distance RX5 : Cond) ∈ o_N := List.mem_filter.mpr ⟨List.mem_of_getElem? (i := 499) (by decide +kernel), by decide +kernel⟩
theorem kK_X4_63 : (Cond.constant RX4 63 65280 : Cond) ∈ WS := List.mem_filter.mpr ⟨List.mem_of_getElem? (i := 500) (by decide +kernel), by decide +kernel⟩
theorem kK_X5_211 : (Cond.constant RX5 211 100000 : Cond) ∈ WS := List.mem_filter.mpr ⟨List.mem_of_getElem? (i := 501) (by decide +kernel), by decide +kernel⟩
theorem kM_L_88 : (Cond.methodLink RL 88 yX5_reason : Cond) ∈ WS := List.mem_filter.mpr ⟨List.mem_of_getElem? (i := 502) (by decide +kernel), by decide +kernel⟩
theorem kI_X5_reason : (Cond.instanceMethod yX5_reason : Cond) ∈ WS := List.mem_filter.mpr ⟨List.mem_of_getElem? (i := 503) (by decide +kernel), by decide +kernel⟩
theorem kV_X5_reason : (Cond.selects RX5 yX5_reason yX5_reason : Cond) ∈ WS := List.mem_filter.mpr ⟨List.mem_of_getElem? (i := 504) (by decide +kernel), by decide +kernel⟩
theorem kC_X5_reason : (Cond.code yX5_reason cX5_reason 1 (some .int) : Cond) ∈ WS := List.mem_filter.mpr ⟨List.mem_of_getElem? (i := 505) (by decide +kernel), by decide +kernel⟩
theorem kM_L_137 : (Cond.methodLink RL 137 yL_fits : Cond) ∈ WS := List.mem_filter.mpr ⟨List.mem_of_getElem? (i := 506) (by decide +kernel), by decide +kernel⟩
theorem kS_L_fits : (Cond.static yL_fits : Cond) ∈ WS := List.mem_filter.mpr ⟨List.mem_of_getElem? (i := 507) (by decide +kernel), by decide +kernel⟩
theorem kC_L_fits : (Cond.code yL_fits cL_fits 11 (some .boolean) : Cond) ∈ WS := List.mem_filter.mpr ⟨List.mem_of_getElem? (i := 508) (by decide +kernel), by decide +kernel⟩
theorem kK_L_91 : (Cond.constant RL 91 65280 : Cond) ∈ WS := List.mem_filter.mpr ⟨List.mem_of_getElem? (i := 509) (by decide +kernel), by decide +kernel⟩
theorem kM_L_9 : (Cond.methodLink RL 9 yL_rest : Cond) ∈ WS := List.mem_filter.mpr ⟨List.mem_of_getElem? (i := 510) (by decide +kernel), by decide +kernel⟩
theorem kS_L_rest : (Cond.static yL_rest : Cond) ∈ WS := List.mem_filter.mpr ⟨List.mem_of_getElem? (i := 511) (by decide +kernel), by decide +kernel⟩
theorem kC_L_rest : (Cond.code yL_rest cL_rest 2 (some .int) : Cond) ∈ WS := List.mem_filter.mpr ⟨List.mem_of_getElem? (i := 512) (by decide +kernel), by decide +kernel⟩
theorem kM_L_92 : (Cond.methodLink RL 92 yX5_apart : Cond) ∈ WS := List.mem_filter.mpr ⟨List.mem_of_getElem? (i := 513) (by decide +kernel), by decide +kernel⟩
theorem kI_X5_apart : (Cond.instanceMethod yX5_apart : Cond) ∈ WS := List.mem_filter.mpr ⟨List.mem_of_getElem? (i := 514) (by decide +kernel), by decide +kernel⟩
theorem kV_X5_apart : (Cond.selects RX5 yX5_apart yX5_apart : Cond) ∈ WS := List.mem_filter.mpr ⟨List.mem_of_getElem? (i := 515) (by decide +kernel), by decide +kernel⟩
theorem kC_X5_apart : (Cond.code yX5_apart cX5_apart 1 (some .int) : Cond) ∈ WS := List.mem_filter.mpr ⟨List.mem_of_getElem? (i := 516) (by decide +kernel), by decide +kernel⟩
theorem kK_X5_213 : (Cond.constant RX5 213 65280 : Cond) ∈ WS := List.mem_filter.mpr ⟨List.mem_of_getElem? (i := 517) (by decide +kernel), by decide +kernel⟩
theorem kM_L_95 : (Cond.methodLink RL 95 yL_near : Cond) ∈ WS := List.mem_filter.mpr ⟨List.mem_of_getElem? (i := 518) (by decide +kernel), by decide +kernel⟩
theorem kS_L_near : (Cond.static yL_near : Cond) ∈ WS := List.mem_filter.mpr ⟨List.mem_of_getElem? (i := 519) (by decide +kernel), by decide +kernel⟩
theorem kC_L_near : (Cond.code yL_near cL_near 3 (some .int) : Cond) ∈ WS := List.mem_filter.mpr ⟨List.mem_of_getElem? (i := 520) (by decide +kernel), by decide +kernel⟩
theorem kM_L_98 : (Cond.methodLink RL 98 yL_period : Cond) ∈ WS := List.mem_filter.mpr ⟨List.mem_of_getElem? (i := 521) (by decide +kernel), by decide +kernel⟩
theorem kS_L_period : (Cond.static yL_period : Cond) ∈ WS := List.mem_filter.mpr ⟨List.mem_of_getElem? (i := 522) (by decide +kernel), by decide +kernel⟩
theorem kC_L_period : (Cond.code yL_period cL_period 1 (some .int) : Cond) ∈ WS := List.mem_filter.mpr ⟨List.mem_of_getElem? (i := 523) (by decide +kernel), by decide +kernel⟩
theorem kM_L_101 : (Cond.methodLink RL 101 yL_byTable : Cond) ∈ WS := List.mem_filter.mpr ⟨List.mem_of_getElem? (i := 524) (by decide +kernel), by decide +kernel⟩
theorem kS_L_byTable : (Cond.static yL_byTable : Cond) ∈ WS := List.mem_filter.mpr ⟨List.mem_of_getElem? (i := 525) (by decide +kernel), by decide +kernel⟩
theorem kC_L_byTable : (Cond.code yL_byTable cL_byTable 6 (some .int) : Cond) ∈ WS := List.mem_filter.mpr ⟨List.mem_of_getElem? (i := 526) (by decide +kernel), by decide +kernel⟩
theorem kM_L_144 : (Cond.methodLink RL 144 yL_acts : Cond) ∈ WS := List.mem_filter.mpr ⟨List.mem_of_getElem? (i := 527) (by decide +kernel), by decide +kernel⟩
theorem kS_L_acts : (Cond.static yL_acts : Cond) ∈ WS := List.mem_filter.mpr ⟨List.mem_of_getElem? (i := 528) (by decide +kernel), by decide +kernel⟩
theorem kC_L_acts : (Cond.code yL_acts cL_acts 6 (some .boolean) : Cond) ∈ WS := List.mem_filter.mpr ⟨List.mem_of_getElem? (i := 529) (by decide +kernel), by decide +kernel⟩
theorem kM_L_116 : (Cond.methodLink RL 116 yL_isTurned : Cond) ∈ WS := List.mem_filter.mpr ⟨List.mem_of_getElem? (i := 530) (by decide +kernel), by decide +kernel⟩
theorem kS_L_isTurned : (Cond.static yL_isTurned : Cond) ∈ WS := List.mem_filter.mpr ⟨List.mem_of_getElem? (i := 531) (by decide +kernel), by decide +kernel⟩
theorem kC_L_isTurned : (Cond.code yL_isTurned cL_isTurned 9 (some .boolean) : Cond) ∈ WS := List.mem_filter.mpr ⟨List.mem_of_getElem? (i := 532) (by decide +kernel), by decide +kernel⟩
theorem kK_L_109 : (Cond.constant RL 109 65279 : Cond) ∈ WS := List.mem_filter.mpr ⟨List.mem_of_getElem? (i := 533) (by decide +kernel), by decide +kernel⟩
theorem kM_L_110 : (Cond.methodLink RL 110 yL_least : Cond) ∈ WS := List.mem_filter.mpr ⟨List.mem_of_getElem? (i := 534) (by decide +kernel), by decide +kernel⟩
theorem kS_L_least : (Cond.static yL_least : Cond) ∈ WS := List.mem_filter.mpr ⟨List.mem_of_getElem? (i := 535) (by decide +kernel), by decide +kernel⟩
theorem kC_L_least : (Cond.code yL_least cL_least 2 (some .int) : Cond) ∈ WS := List.mem_filter.mpr ⟨List.mem_of_getElem? (i := 536) (by decide +kernel), by decide +kernel⟩
theorem kM_L_120 : (Cond.methodLink RL 120 yL_isLearned : Cond) ∈ WS := List.mem_filter.mpr ⟨List.mem_of_getElem? (i := 537) (by decide +kernel), by decide +kernel⟩
theorem kS_L_isLearned : (Cond.static yL_isLearned : Cond) ∈ WS := List.mem_filter.mpr ⟨List.mem_of_getElem? (i := 538) (by decide +kernel), by decide +kernel⟩
theorem kC_L_isLearned : (Cond.code yL_isLearned cL_isLearned 9 (some .boolean) : Cond) ∈ WS := List.mem_filter.mpr ⟨List.mem_of_getElem? (i := 539) (by decide +kernel), by decide +kernel⟩
theorem kM_L_113 : (Cond.methodLink RL 113 yX5_learn : Cond) ∈ WS := List.mem_filter.mpr ⟨List.mem_of_getElem? (i := 540) (by decide +kernel), by decide +kernel⟩
theorem kI_X5_learn : (Cond.instanceMethod yX5_learn : Cond) ∈ WS := List.mem_filter.mpr ⟨List.mem_of_getElem? (i := 541) (by decide +kernel), by decide +kernel⟩
theorem kV_X5_learn : (Cond.selects RX5 yX5_learn yX5_learn : Cond) ∈ WS := List.mem_filter.mpr ⟨List.mem_of_getElem? (i := 542) (by decide +kernel), by decide +kernel⟩
theorem kC_X5_learn : (Cond.code yX5_learn cX5_learn 5 (some .int) : Cond) ∈ WS := List.mem_filter.mpr ⟨List.mem_of_getElem? (i := 543) (by decide +kernel), by decide +kernel⟩
theorem kN_X5_174 : (Cond.methodLinkNest RX5 174 yX3_excess RX5 : Cond) ∈ o_N := List.mem_filter.mpr ⟨List.mem_of_getElem? (i := 544) (by decide +kernel), by decide +kernel⟩
theorem kI_X3_excess : (Cond.instanceMethod yX3_excess : Cond) ∈ WS := List.mem_filter.mpr ⟨List.mem_of_getElem? (i := 546) (by decide +kernel), by decide +kernel⟩
theorem kC_X3_excess : (Cond.code yX3_excess cX3_excess 4 (some .int) : Cond) ∈ WS := List.mem_filter.mpr ⟨List.mem_of_getElem? (i := 547) (by decide +kernel), by decide +kernel⟩
theorem kM_X3_73 : (Cond.methodLink RX3 73 yX3_readingAt : Cond) ∈ WS := List.mem_filter.mpr ⟨List.mem_of_getElem? (i := 548) (by decide +kernel), by decide +kernel⟩
theorem kM_X5_177 : (Cond.methodLink RX5 177 yX5_sectorOf : Cond) ∈ WS := List.mem_filter.mpr ⟨List.mem_of_getElem? (i := 549) (by decide +kernel), by decide +kernel⟩
theorem kM_L_124 : (Cond.methodLink RL 124 yX5_forget : Cond) ∈ WS := List.mem_filter.mpr ⟨List.mem_of_getElem? (i := 550) (by decide +kernel), by decide +kernel⟩
theorem kI_X5_forget : (Cond.instanceMethod yX5_forget : Cond) ∈ WS := List.mem_filter.mpr ⟨List.mem_of_getElem? (i := 551) (by decide +kernel), by decide +kernel⟩
theorem kV_X5_forget : (Cond.selects RX5 yX5_forget yX5_forget : Cond) ∈ WS := List.mem_filter.mpr ⟨List.mem_of_getElem? (i := 552) (by decide +kernel), by decide +kernel⟩
theorem kC_X5_forget : (Cond.code yX5_forget cX5_forget 2 (some .int) : Cond) ∈ WS := List.mem_filter.mpr ⟨List.mem_of_getElem? (i := 553) (by decide +kernel), by decide +kernel⟩
theorem kM_L_127 : (Cond.methodLink RL 127 yL_isSampled : Cond) ∈ WS := List.mem_filter.mpr ⟨List.mem_of_getElem? (i := 554) (by decide +kernel), by decide +kernel⟩
theorem kS_L_isSampled : (Cond.static yL_isSampled : Cond) ∈ WS := List.mem_filter.mpr ⟨List.mem_of_getElem? (i := 555) (by decide +kernel), by decide +kernel⟩
theorem kC_L_isSampled : (Cond.code yL_isSampled cL_isSampled 13 (some .boolean) : Cond) ∈ WS := List.mem_filter.mpr ⟨List.mem_of_getElem? (i := 556) (by decide +kernel), by decide +kernel⟩
theorem kK_L_105 : (Cond.constant RL 105 100000 : Cond) ∈ WS := List.mem_filter.mpr ⟨List.mem_of_getElem? (i := 557) (by decide +kernel), by decide +kernel⟩
theorem kV_X2_restoreLatest : (Cond.selects RX2 yX2_restoreLatest yX2_restoreLatest : Cond) ∈ WS := List.mem_filter.mpr ⟨List.mem_of_getElem? (i := 0) (by decide +kernel), by decide +kernel⟩
theorem kV_X2_slot : (Cond.selects RX2 yX2_slot yX2_slot : Cond) ∈ WS := List.mem_filter.mpr ⟨List.mem_of_getElem? (i := 1) (by decide +kernel), by decide +kernel⟩
theorem kV_X3_copyFrom : (Cond.selects RX3 yX3_copyFrom yX3_copyFrom : Cond) ∈ WS := List.mem_filter.mpr ⟨List.mem_of_getElem? (i := 2) (by decide +kernel), by decide +kernel⟩
theorem kV_X2_keep : (Cond.selects RX2 yX2_keep yX2_keep : Cond) ∈ WS := List.mem_filter.mpr ⟨List.mem_of_getElem? (i := 3) (by decide +kernel), by decide +kernel⟩
theorem kV_X5_shownSetting : (Cond.selects RX5 yX5_shownSetting yX5_shownSetting : Cond) ∈ WS := List.mem_filter.mpr ⟨List.mem_of_getElem? (i := 4) (by decide +kernel), by decide +kernel⟩
theorem kV_X3_angle : (Cond.selects RX3 yX3_angle yX3_angle : Cond) ∈ WS := List.mem_filter.mpr ⟨List.mem_of_getElem? (i := 5) (by decide +kernel), by decide +kernel⟩
theorem kV_X3_coarse : (Cond.selects RX3 yX3_coarse yX3_coarse : Cond) ∈ WS := List.mem_filter.mpr ⟨List.mem_of_getElem? (i := 6) (by decide +kernel), by decide +kernel⟩
theorem kV_X3_correctionsInUse : (Cond.selects RX3 yX3_correctionsInUse yX3_correctionsInUse : Cond) ∈ WS := List.mem_filter.mpr ⟨List.mem_of_getElem? (i := 7) (by decide +kernel), by decide +kernel⟩
theorem kV_X5_settingCount : (Cond.selects RX5 yX5_settingCount yX5_settingCount : Cond) ∈ WS := List.mem_filter.mpr ⟨List.mem_of_getElem? (i := 8) (by decide +kernel), by decide +kernel⟩
theorem kV_X3_readingAt : (Cond.selects RX3 yX3_readingAt yX3_readingAt : Cond) ∈ WS := List.mem_filter.mpr ⟨List.mem_of_getElem? (i := 9) (by decide +kernel), by decide +kernel⟩
theorem kV_X3_isPoor : (Cond.selects RX3 yX3_isPoor yX3_isPoor : Cond) ∈ WS := List.mem_filter.mpr ⟨List.mem_of_getElem? (i := 10) (by decide +kernel), by decide +kernel⟩
theorem kV_X3_crossBound : (Cond.selects RX3 yX3_crossBound yX3_crossBound : Cond) ∈ WS := List.mem_filter.mpr ⟨List.mem_of_getElem? (i := 11) (by decide +kernel), by decide +kernel⟩
theorem kV_X1_search : (Cond.selects RX1 yX1_search yX1_search : Cond) ∈ WS := List.mem_filter.mpr ⟨List.mem_of_getElem? (i := 12) (by decide +kernel), by decide +kernel⟩
theorem kV_X1_searchCorrected : (Cond.selects RX1 yX1_searchCorrected yX1_searchCorrected : Cond) ∈ WS := List.mem_filter.mpr ⟨List.mem_of_getElem? (i := 13) (by decide +kernel), by decide +kernel⟩
theorem kV_X3_corrected : (Cond.selects RX3 yX3_corrected yX3_corrected : Cond) ∈ WS := List.mem_filter.mpr ⟨List.mem_of_getElem? (i := 14) (by decide +kernel), by decide +kernel⟩
theorem kV_X0_append : (Cond.selects RX0 yX0_append yX0_append : Cond) ∈ WS := List.mem_filter.mpr ⟨List.mem_of_getElem? (i := 15) (by decide +kernel), by decide +kernel⟩
theorem kV_X0_scan : (Cond.selects RX0 yX0_scan yX0_scan : Cond) ∈ WS := List.mem_filter.mpr ⟨List.mem_of_getElem? (i := 16) (by decide +kernel), by decide +kernel⟩
theorem kV_X0_entryFault : (Cond.selects RX0 yX0_entryFault yX0_entryFault : Cond) ∈ WS := List.mem_filter.mpr ⟨List.mem_of_getElem? (i := 17) (by decide +kernel), by decide +kernel⟩
theorem kV_X0_entryLength : (Cond.selects RX0 yX0_entryLength yX0_entryLength : Cond) ∈ WS := List.mem_filter.mpr ⟨List.mem_of_getElem? (i := 18) (by decide +kernel), by decide +kernel⟩
theorem kV_X0_characterAt : (Cond.selects RX0 yX0_characterAt yX0_characterAt : Cond) ∈ WS := List.mem_filter.mpr ⟨List.mem_of_getElem? (i := 19) (by decide +kernel), by decide +kernel⟩
theorem kV_X0_isDigit : (Cond.selects RX0 yX0_isDigit yX0_isDigit : Cond) ∈ WS := List.mem_filter.mpr ⟨List.mem_of_getElem? (i := 20) (by decide +kernel), by decide +kernel⟩
theorem kV_X0_digitAt : (Cond.selects RX0 yX0_digitAt yX0_digitAt : Cond) ∈ WS := List.mem_filter.mpr ⟨List.mem_of_getElem? (i := 21) (by decide +kernel), by decide +kernel⟩
theorem kV_X0_amount : (Cond.selects RX0 yX0_amount yX0_amount : Cond) ∈ WS := List.mem_filter.mpr ⟨List.mem_of_getElem? (i := 22) (by decide +kernel), by decide +kernel⟩
theorem kV_X0_entryCell : (Cond.selects RX0 yX0_entryCell yX0_entryCell : Cond) ∈ WS := List.mem_filter.mpr ⟨List.mem_of_getElem? (i := 23) (by decide +kernel), by decide +kernel⟩
theorem kV_X0_takeEntry : (Cond.selects RX0 yX0_takeEntry yX0_takeEntry : Cond) ∈ WS := List.mem_filter.mpr ⟨List.mem_of_getElem? (i := 24) (by decide +kernel), by decide +kernel⟩
theorem kV_X4_judge : (Cond.selects RX4 yX4_judge yX4_judge : Cond) ∈ WS := List.mem_filter.mpr ⟨List.mem_of_getElem? (i := 25) (by decide +kernel), by decide +kernel⟩
theorem kV_X4_firstRefusal : (Cond.selects RX4 yX4_firstRefusal yX4_firstRefusal : Cond) ∈ WS := List.mem_filter.mpr ⟨List.mem_of_getElem? (i := 26) (by decide +kernel), by decide +kernel⟩
theorem kV_X3_excess : (Cond.selects RX3 yX3_excess yX3_excess : Cond) ∈ WS := List.mem_filter.mpr ⟨List.mem_of_getElem? (i := 27) (by decide +kernel), by decide +kernel⟩
theorem kW_X0 : ∀ w ∈ u_ws RX0 TX0 7, w ∈ WS := by decide +kernel
theorem kW_X1 : ∀ w ∈ u_ws RX1 TX1 4, w ∈ WS := by decide +kernel
theorem kW_X2 : ∀ w ∈ u_ws RX2 TX2 3, w ∈ WS := by decide +kernel
theorem kW_X3 : ∀ w ∈ u_ws RX3 TX3 11, w ∈ WS := by decide +kernel
theorem kW_X4 : ∀ w ∈ u_ws RX4 TX4 4, w ∈ WS := by decide +kernel
theorem kW_X5 : ∀ w ∈ u_ws RX5 TX5 5, w ∈ WS := by decide +kernel
end
section
theorem mV_X5_undo : o_MV RX5 yX5_undo cX5_undo 1 (some .int) 0 := ⟨rfl, kC_X5_undo, kI_X5_undo, kV_X5_undo, kIn_X5, by decide +kernel⟩
theorem mV_X2_restoreLatest : o_MV RX2 yX2_restoreLatest cX2_restoreLatest 3 none 1 := ⟨rfl, kC_X2_restoreLatest, kI_X2_restoreLatest, kV_X2_restoreLatest, kIn_X2, by decide +kernel⟩
theorem mV_X2_slot : o_MV RX2 yX2_slot cX2_slot 3 (some (.object RX3)) 1 := ⟨rfl, kC_X2_slot, kI_X2_slot, kV_X2_slot, kIn_X2, by decide +kernel⟩
theorem mS_X5_remainder : o_MS yX5_remainder cX5_remainder 3 (some .int) 2 := ⟨kC_X5_remainder, kS_X5_remainder, kIn_X5, by decide +kernel⟩
theorem mV_X3_copyFrom : o_MV RX3 yX3_copyFrom cX3_copyFrom 2 none 1 := ⟨rfl, kC_X3_copyFrom, kI_X3_copyFrom, kV_X3_copyFrom, kIn_X3, by decide +kernel⟩
theorem mS_X5_copy : o_MS yX5_copy cX5_copy 3 none 2 := ⟨kC_X5_copy, kS_X5_copy, kIn_X5, by decide +kernel⟩
theorem mV_X5_noise : o_MV RX5 yX5_noise cX5_noise 4 (some .int) 2 := ⟨rfl, kC_X5_noise, kI_X5_noise, kV_X5_noise, kIn_X5, by decide +kernel⟩
theorem mS_X5_isTrack : o_MS yX5_isTrack cX5_isTrack 1 (some .boolean) 1 := ⟨kC_X5_isTrack, kS_X5_isTrack, kIn_X5, by decide +kernel⟩
theorem mS_X5_isOutside : o_MS yX5_isOutside cX5_isOutside 3 (some .boolean) 3 := ⟨kC_X5_isOutside, kS_X5_isOutside, kIn_X5, by decide +kernel⟩
theorem mV_X2_keep : o_MV RX2 yX2_keep cX2_keep 3 none 1 := ⟨rfl, kC_X2_keep, kI_X2_keep, kV_X2_keep, kIn_X2, by decide +kernel⟩
theorem mS_X5_at : o_MS yX5_at cX5_at 2 (some .int) 2 := ⟨kC_X5_at, kS_X5_at, kIn_X5, by decide +kernel⟩
theorem mS_X5_put : o_MS yX5_put cX5_put 3 none 3 := ⟨kC_X5_put, kS_X5_put, kIn_X5, by decide +kernel⟩
theorem mV_X5_set : o_MV RX5 yX5_set cX5_set 4 (some .int) 2 := ⟨rfl, kC_X5_set, kI_X5_set, kV_X5_set, kIn_X5, by decide +kernel⟩
theorem mV_X5_shownSetting : o_MV RX5 yX5_shownSetting cX5_shownSetting 3 (some .int) 1 := ⟨rfl, kC_X5_shownSetting, kI_X5_shownSetting, kV_X5_shownSetting, kIn_X5, by decide +kernel⟩
theorem mV_X5_correct : o_MV RX5 yX5_correct cX5_correct 5 (some .int) 3 := ⟨rfl, kC_X5_correct, kI_X5_correct, kV_X5_correct, kIn_X5, by decide +kernel⟩
theorem mS_X5_isCell : o_MS yX5_isCell cX5_isCell 2 (some .boolean) 2 := ⟨kC_X5_isCell, kS_X5_isCell, kIn_X5, by decide +kernel⟩
theorem mS_X5_cell : o_MS yX5_cell cX5_cell 2 (some .int) 2 := ⟨kC_X5_cell, kS_X5_cell, kIn_X5, by decide +kernel⟩
theorem mS_L_cell : o_MS yL_cell cL_cell 3 (some .int) 2 := ⟨kC_L_cell, kS_L_cell, kIn_L, by decide +kernel⟩
theorem mS_L_low : o_MS yL_low cL_low 2 (some .int) 2 := ⟨kC_L_low, kS_L_low, kIn_L, by decide +kernel⟩
theorem mS_L_sum : o_MS yL_sum cL_sum 4 (some .long) 1 := ⟨kC_L_sum, kS_L_sum, kIn_L, by decide +kernel⟩
theorem mV_X5_count : o_MV RX5 yX5_count cX5_count 2 (some .int) 1 := ⟨rfl, kC_X5_count, kI_X5_count, kV_X5_count, kIn_X5, by decide +kernel⟩
theorem mV_X3_angle : o_MV RX3 yX3_angle cX3_angle 1 (some .int) 0 := ⟨rfl, kC_X3_angle, kI_X3_angle, kV_X3_angle, kIn_X3, by decide +kernel⟩
theorem mS_X5_toNumber : o_MS yX5_toNumber cX5_toNumber 1 (some .int) 1 := ⟨kC_X5_toNumber, kS_X5_toNumber, kIn_X5, by decide +kernel⟩
theorem mV_X3_coarse : o_MV RX3 yX3_coarse cX3_coarse 2 (some .int) 0 := ⟨rfl, kC_X3_coarse, kI_X3_coarse, kV_X3_coarse, kIn_X3, by decide +kernel⟩
theorem mV_X3_correctionsInUse : o_MV RX3 yX3_correctionsInUse cX3_correctionsInUse 3 (some .int) 0 := ⟨rfl, kC_X3_correctionsInUse, kI_X3_correctionsInUse, kV_X3_correctionsInUse, kIn_X3, by decide +kernel⟩
theorem mV_X5_settingCount : o_MV RX5 yX5_settingCount cX5_settingCount 2 (some .int) 1 := ⟨rfl, kC_X5_settingCount, kI_X5_settingCount, kV_X5_settingCount, kIn_X5, by decide +kernel⟩
theorem mV_X5_correction : o_MV RX5 yX5_correction cX5_correction 3 (some .int) 2 := ⟨rfl, kC_X5_correction, kI_X5_correction, kV_X5_correction, kIn_X5, by decide +kernel⟩
theorem mV_X5_reading : o_MV RX5 yX5_reading cX5_reading 2 (some .int) 1 := ⟨rfl, kC_X5_reading, kI_X5_reading, kV_X5_reading, kIn_X5, by decide +kernel⟩
theorem mV_X3_readingAt : o_MV RX3 yX3_readingAt cX3_readingAt 4 (some .int) 2 := ⟨rfl, kC_X3_readingAt, kI_X3_readingAt, kV_X3_readingAt, kIn_X3, by decide +kernel⟩
theorem mS_X5_sectorOf : o_MS yX5_sectorOf cX5_sectorOf 1 (some .int) 1 := ⟨kC_X5_sectorOf, kS_X5_sectorOf, kIn_X5, by decide +kernel⟩
theorem mV_X5_poor : o_MV RX5 yX5_poor cX5_poor 3 (some .int) 0 := ⟨rfl, kC_X5_poor, kI_X5_poor, kV_X5_poor, kIn_X5, by decide +kernel⟩
theorem mV_X3_isPoor : o_MV RX3 yX3_isPoor cX3_isPoor 5 (some .boolean) 1 := ⟨rfl, kC_X3_isPoor, kI_X3_isPoor, kV_X3_isPoor, kIn_X3, by decide +kernel⟩
theorem mS_L_refused : o_MS yL_refused cL_refused 5 (some .boolean) 1 := ⟨kC_L_refused, kS_L_refused, kIn_L, by decide +kernel⟩
theorem mV_X5_turn : o_MV RX5 yX5_turn cX5_turn 6 (some .int) 1 := ⟨rfl, kC_X5_turn, kI_X5_turn, kV_X5_turn, kIn_X5, by decide +kernel⟩
theorem mV_X3_crossBound : o_MV RX3 yX3_crossBound cX3_crossBound 2 none 1 := ⟨rfl, kC_X3_crossBound, kI_X3_crossBound, kV_X3_crossBound, kIn_X3, by decide +kernel⟩
theorem mV_X5_power : o_MV RX5 yX5_power cX5_power 3 (some .int) 1 := ⟨rfl, kC_X5_power, kI_X5_power, kV_X5_power, kIn_X5, by decide +kernel⟩
theorem mV_X5_brownout : o_MV RX5 yX5_brownout cX5_brownout 2 (some .int) 1 := ⟨rfl, kC_X5_brownout, kI_X5_brownout, kV_X5_brownout, kIn_X5, by decide +kernel⟩
theorem mV_X5_charge : o_MV RX5 yX5_charge cX5_charge 3 (some .int) 1 := ⟨rfl, kC_X5_charge, kI_X5_charge, kV_X5_charge, kIn_X5, by decide +kernel⟩
theorem mV_X5_disk : o_MV RX5 yX5_disk cX5_disk 5 (some .int) 3 := ⟨rfl, kC_X5_disk, kI_X5_disk, kV_X5_disk, kIn_X5, by decide +kernel⟩
theorem mV_X5_look : o_MV RX5 yX5_look cX5_look 2 (some .int) 1 := ⟨rfl, kC_X5_look, kI_X5_look, kV_X5_look, kIn_X5, by decide +kernel⟩
theorem mV_X1_search : o_MV RX1 yX1_search cX1_search 4 none 2 := ⟨rfl, kC_X1_search, kI_X1_search, kV_X1_search, kIn_X1, by decide +kernel⟩
theorem mS_X5_nearestAngle : o_MS yX5_nearestAngle cX5_nearestAngle 7 (some .int) 3 := ⟨kC_X5_nearestAngle, kS_X5_nearestAngle, kIn_X5, by decide +kernel⟩
theorem mS_X5_deviation : o_MS yX5_deviation cX5_deviation 7 (some .int) 4 := ⟨kC_X5_deviation, kS_X5_deviation, kIn_X5, by decide +kernel⟩
theorem mS_X5_distance : o_MS yX5_distance cX5_distance 3 (some .int) 3 := ⟨kC_X5_distance, kS_X5_distance, kIn_X5, by decide +kernel⟩
theorem mV_X1_searchCorrected : o_MV RX1 yX1_searchCorrected cX1_searchCorrected 7 none 3 := ⟨rfl, kC_X1_searchCorrected, kI_X1_searchCorrected, kV_X1_searchCorrected, kIn_X1, by decide +kernel⟩
theorem mV_X3_corrected : o_MV RX3 yX3_corrected cX3_corrected 4 (some .int) 3 := ⟨rfl, kC_X3_corrected, kI_X3_corrected, kV_X3_corrected, kIn_X3, by decide +kernel⟩
theorem mV_X5_survey : o_MV RX5 yX5_survey cX5_survey 7 (some .int) 2 := ⟨rfl, kC_X5_survey, kI_X5_survey, kV_X5_survey, kIn_X5, by decide +kernel⟩
theorem mV_X5_found : o_MV RX5 yX5_found cX5_found 6 (some .int) 4 := ⟨rfl, kC_X5_found, kI_X5_found, kV_X5_found, kIn_X5, by decide +kernel⟩
theorem mS_X5_isReading : o_MS yX5_isReading cX5_isReading 2 (some .boolean) 2 := ⟨kC_X5_isReading, kS_X5_isReading, kIn_X5, by decide +kernel⟩
theorem mV_X5_byTwo : o_MV RX5 yX5_byTwo cX5_byTwo 6 (some .int) 4 := ⟨rfl, kC_X5_byTwo, kI_X5_byTwo, kV_X5_byTwo, kIn_X5, by decide +kernel⟩
theorem mV_X5_type : o_MV RX5 yX5_type cX5_type 2 (some .int) 1 := ⟨rfl, kC_X5_type, kI_X5_type, kV_X5_type, kIn_X5, by decide +kernel⟩
theorem mV_X0_append : o_MV RX0 yX0_append cX0_append 2 none 1 := ⟨rfl, kC_X0_append, kI_X0_append, kV_X0_append, kIn_X0, by decide +kernel⟩
theorem mV_X5_fault : o_MV RX5 yX5_fault cX5_fault 2 (some .int) 1 := ⟨rfl, kC_X5_fault, kI_X5_fault, kV_X5_fault, kIn_X5, by decide +kernel⟩
theorem mV_X0_scan : o_MV RX0 yX0_scan cX0_scan 2 none 0 := ⟨rfl, kC_X0_scan, kI_X0_scan, kV_X0_scan, kIn_X0, by decide +kernel⟩
theorem mV_X0_entryFault : o_MV RX0 yX0_entryFault cX0_entryFault 2 (some .int) 1 := ⟨rfl, kC_X0_entryFault, kI_X0_entryFault, kV_X0_entryFault, kIn_X0, by decide +kernel⟩
theorem mV_X0_entryLength : o_MV RX0 yX0_entryLength cX0_entryLength 4 (some .int) 1 := ⟨rfl, kC_X0_entryLength, kI_X0_entryLength, kV_X0_entryLength, kIn_X0, by decide +kernel⟩
theorem mV_X0_characterAt : o_MV RX0 yX0_characterAt cX0_characterAt 2 (some .int) 1 := ⟨rfl, kC_X0_characterAt, kI_X0_characterAt, kV_X0_characterAt, kIn_X0, by decide +kernel⟩
theorem mV_X0_isDigit : o_MV RX0 yX0_isDigit cX0_isDigit 2 (some .boolean) 1 := ⟨rfl, kC_X0_isDigit, kI_X0_isDigit, kV_X0_isDigit, kIn_X0, by decide +kernel⟩
theorem mV_X0_digitAt : o_MV RX0 yX0_digitAt cX0_digitAt 2 (some .int) 1 := ⟨rfl, kC_X0_digitAt, kI_X0_digitAt, kV_X0_digitAt, kIn_X0, by decide +kernel⟩
theorem mV_X0_amount : o_MV RX0 yX0_amount cX0_amount 3 (some .int) 1 := ⟨rfl, kC_X0_amount, kI_X0_amount, kV_X0_amount, kIn_X0, by decide +kernel⟩
theorem mV_X0_entryCell : o_MV RX0 yX0_entryCell cX0_entryCell 2 (some .int) 1 := ⟨rfl, kC_X0_entryCell, kI_X0_entryCell, kV_X0_entryCell, kIn_X0, by decide +kernel⟩
theorem mV_X0_takeEntry : o_MV RX0 yX0_takeEntry cX0_takeEntry 3 none 1 := ⟨rfl, kC_X0_takeEntry, kI_X0_takeEntry, kV_X0_takeEntry, kIn_X0, by decide +kernel⟩
theorem mV_X5_sample : o_MV RX5 yX5_sample cX5_sample 1 (some .int) 0 := ⟨rfl, kC_X5_sample, kI_X5_sample, kV_X5_sample, kIn_X5, by decide +kernel⟩
theorem mV_X4_judge : o_MV RX4 yX4_judge cX4_judge 3 none 2 := ⟨rfl, kC_X4_judge, kI_X4_judge, kV_X4_judge, kIn_X4, by decide +kernel⟩
theorem mV_X4_firstRefusal : o_MV RX4 yX4_firstRefusal cX4_firstRefusal 7 (some .int) 2 := ⟨rfl, kC_X4_firstRefusal, kI_X4_firstRefusal, kV_X4_firstRefusal, kIn_X4, by decide +kernel⟩
theorem mV_X5_reason : o_MV RX5 yX5_reason cX5_reason 1 (some .int) 0 := ⟨rfl, kC_X5_reason, kI_X5_reason, kV_X5_reason, kIn_X5, by decide +kernel⟩
theorem mS_L_fits : o_MS yL_fits cL_fits 11 (some .boolean) 1 := ⟨kC_L_fits, kS_L_fits, kIn_L, by decide +kernel⟩
theorem mS_L_rest : o_MS yL_rest cL_rest 2 (some .int) 2 := ⟨kC_L_rest, kS_L_rest, kIn_L, by decide +kernel⟩
theorem mV_X5_apart : o_MV RX5 yX5_apart cX5_apart 1 (some .int) 0 := ⟨rfl, kC_X5_apart, kI_X5_apart, kV_X5_apart, kIn_X5, by decide +kernel⟩
theorem mS_L_near : o_MS yL_near cL_near 3 (some .int) 2 := ⟨kC_L_near, kS_L_near, kIn_L, by decide +kernel⟩
theorem mS_L_period : o_MS yL_period cL_period 1 (some .int) 1 := ⟨kC_L_period, kS_L_period, kIn_L, by decide +kernel⟩
theorem mS_L_byTable : o_MS yL_byTable cL_byTable 6 (some .int) 3 := ⟨kC_L_byTable, kS_L_byTable, kIn_L, by decide +kernel⟩
theorem mS_L_acts : o_MS yL_acts cL_acts 6 (some .boolean) 3 := ⟨kC_L_acts, kS_L_acts, kIn_L, by decide +kernel⟩
theorem mS_L_isTurned : o_MS yL_isTurned cL_isTurned 9 (some .boolean) 2 := ⟨kC_L_isTurned, kS_L_isTurned, kIn_L, by decide +kernel⟩
theorem mS_L_least : o_MS yL_least cL_least 2 (some .int) 2 := ⟨kC_L_least, kS_L_least, kIn_L, by decide +kernel⟩
theorem mS_L_isLearned : o_MS yL_isLearned cL_isLearned 9 (some .boolean) 1 := ⟨kC_L_isLearned, kS_L_isLearned, kIn_L, by decide +kernel⟩
theorem mV_X5_learn : o_MV RX5 yX5_learn cX5_learn 5 (some .int) 0 := ⟨rfl, kC_X5_learn, kI_X5_learn, kV_X5_learn, kIn_X5, by decide +kernel⟩
theorem mV_X3_excess : o_MV RX3 yX3_excess cX3_excess 4 (some .int) 1 := ⟨rfl, kC_X3_excess, kI_X3_excess, kV_X3_excess, kIn_X3, by decide +kernel⟩
theorem mV_X5_forget : o_MV RX5 yX5_forget cX5_forget 2 (some .int) 0 := ⟨rfl, kC_X5_forget, kI_X5_forget, kV_X5_forget, kIn_X5, by decide +kernel⟩
theorem mS_L_isSampled : o_MS yL_isSampled cL_isSampled 13 (some .boolean) 1 := ⟨kC_L_isSampled, kS_L_isSampled, kIn_L, by decide +kernel⟩
end
