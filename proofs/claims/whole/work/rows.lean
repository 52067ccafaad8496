section
-- ===== PART A: goes FIRST, ahead of the names: the tables' words, and 'selects' of the private methods out of them =====
/-- a private method of a class that the tables say can be made, by its rows of tables_1 -/
def lw_okq (q : MethodName × Nat) : Prop := (q.1.cls ≠ "java/lang/invoke/MethodHandle" ∧ q.1.cls ≠ "java/lang/invoke/VarHandle") ∧ Cond.instantiable q.1.cls q.2 ∈ tables_1 ∧ Cond.privateMethod q.1 ∈ tables_1 ∧ Cond.instanceMethod q.1 ∈ tables_1
theorem lw_p0 : lw_okq (⟨"VernierEncoder$History", "keep", "(LVernierEncoder$State;)V"⟩, 3) := ⟨⟨by decide +kernel, by decide +kernel⟩, List.mem_of_getElem? (i := 74) (by decide +kernel), List.mem_of_getElem? (i := 199) (by decide +kernel), List.mem_of_getElem? (i := 200) (by decide +kernel)⟩
theorem lw_p1 : lw_okq (⟨"VernierEncoder$History", "slot", "(I)LVernierEncoder$State;"⟩, 3) := ⟨⟨by decide +kernel, by decide +kernel⟩, List.mem_of_getElem? (i := 74) (by decide +kernel), List.mem_of_getElem? (i := 206) (by decide +kernel), List.mem_of_getElem? (i := 207) (by decide +kernel)⟩
theorem lw_p2 : lw_okq (⟨"VernierEncoder$State", "copyFrom", "(LVernierEncoder$State;)V"⟩, 11) := ⟨⟨by decide +kernel, by decide +kernel⟩, List.mem_of_getElem? (i := 18) (by decide +kernel), List.mem_of_getElem? (i := 210) (by decide +kernel), List.mem_of_getElem? (i := 211) (by decide +kernel)⟩
theorem lw_p3 : lw_okq (⟨"VernierEncoder$State", "crossBound", "(I)V"⟩, 11) := ⟨⟨by decide +kernel, by decide +kernel⟩, List.mem_of_getElem? (i := 18) (by decide +kernel), List.mem_of_getElem? (i := 220) (by decide +kernel), List.mem_of_getElem? (i := 221) (by decide +kernel)⟩
theorem lw_p4 : lw_okq (⟨"VernierEncoder$State", "angle", "()I"⟩, 11) := ⟨⟨by decide +kernel, by decide +kernel⟩, List.mem_of_getElem? (i := 18) (by decide +kernel), List.mem_of_getElem? (i := 244) (by decide +kernel), List.mem_of_getElem? (i := 245) (by decide +kernel)⟩
theorem lw_p5 : lw_okq (⟨"VernierEncoder$State", "coarse", "()I"⟩, 11) := ⟨⟨by decide +kernel, by decide +kernel⟩, List.mem_of_getElem? (i := 18) (by decide +kernel), List.mem_of_getElem? (i := 248) (by decide +kernel), List.mem_of_getElem? (i := 249) (by decide +kernel)⟩
theorem lw_p6 : lw_okq (⟨"VernierEncoder$State", "correctionsInUse", "()I"⟩, 11) := ⟨⟨by decide +kernel, by decide +kernel⟩, List.mem_of_getElem? (i := 18) (by decide +kernel), List.mem_of_getElem? (i := 256) (by decide +kernel), List.mem_of_getElem? (i := 257) (by decide +kernel)⟩
theorem lw_p7 : lw_okq (⟨"VernierEncoder", "settingCount", "(I)I"⟩, 5) := ⟨⟨by decide +kernel, by decide +kernel⟩, List.mem_of_getElem? (i := 10) (by decide +kernel), List.mem_of_getElem? (i := 260) (by decide +kernel), List.mem_of_getElem? (i := 261) (by decide +kernel)⟩
theorem lw_p8 : lw_okq (⟨"VernierEncoder", "shownSetting", "(I)I"⟩, 5) := ⟨⟨by decide +kernel, by decide +kernel⟩, List.mem_of_getElem? (i := 10) (by decide +kernel), List.mem_of_getElem? (i := 264) (by decide +kernel), List.mem_of_getElem? (i := 265) (by decide +kernel)⟩
theorem lw_p9 : lw_okq (⟨"VernierEncoder$History", "restoreLatest", "(LVernierEncoder$State;)V"⟩, 3) := ⟨⟨by decide +kernel, by decide +kernel⟩, List.mem_of_getElem? (i := 74) (by decide +kernel), List.mem_of_getElem? (i := 273) (by decide +kernel), List.mem_of_getElem? (i := 274) (by decide +kernel)⟩
theorem lw_p10 : lw_okq (⟨"VernierEncoder$State", "readingAt", "(II)I"⟩, 11) := ⟨⟨by decide +kernel, by decide +kernel⟩, List.mem_of_getElem? (i := 18) (by decide +kernel), List.mem_of_getElem? (i := 309) (by decide +kernel), List.mem_of_getElem? (i := 310) (by decide +kernel)⟩
theorem lw_p11 : lw_okq (⟨"VernierEncoder$State", "excess", "(I)I"⟩, 11) := ⟨⟨by decide +kernel, by decide +kernel⟩, List.mem_of_getElem? (i := 18) (by decide +kernel), List.mem_of_getElem? (i := 359) (by decide +kernel), List.mem_of_getElem? (i := 360) (by decide +kernel)⟩
theorem lw_p12 : lw_okq (⟨"VernierEncoder$Finding", "search", "(LVernierEncoder$State;I)V"⟩, 4) := ⟨⟨by decide +kernel, by decide +kernel⟩, List.mem_of_getElem? (i := 94) (by decide +kernel), List.mem_of_getElem? (i := 369) (by decide +kernel), List.mem_of_getElem? (i := 370) (by decide +kernel)⟩
theorem lw_p13 : lw_okq (⟨"VernierEncoder$Finding", "searchCorrected", "(LVernierEncoder$State;II)V"⟩, 4) := ⟨⟨by decide +kernel, by decide +kernel⟩, List.mem_of_getElem? (i := 94) (by decide +kernel), List.mem_of_getElem? (i := 376) (by decide +kernel), List.mem_of_getElem? (i := 377) (by decide +kernel)⟩
theorem lw_p14 : lw_okq (⟨"VernierEncoder$State", "corrected", "(III)I"⟩, 11) := ⟨⟨by decide +kernel, by decide +kernel⟩, List.mem_of_getElem? (i := 18) (by decide +kernel), List.mem_of_getElem? (i := 380) (by decide +kernel), List.mem_of_getElem? (i := 381) (by decide +kernel)⟩
theorem lw_p15 : lw_okq (⟨"VernierEncoder$State", "isPoor", "(I)Z"⟩, 11) := ⟨⟨by decide +kernel, by decide +kernel⟩, List.mem_of_getElem? (i := 18) (by decide +kernel), List.mem_of_getElem? (i := 393) (by decide +kernel), List.mem_of_getElem? (i := 394) (by decide +kernel)⟩
def lw_privs_1 : List (MethodName × Nat) := [(⟨"VernierEncoder$History", "keep", "(LVernierEncoder$State;)V"⟩, 3), (⟨"VernierEncoder$History", "slot", "(I)LVernierEncoder$State;"⟩, 3), (⟨"VernierEncoder$State", "copyFrom", "(LVernierEncoder$State;)V"⟩, 11), (⟨"VernierEncoder$State", "crossBound", "(I)V"⟩, 11), (⟨"VernierEncoder$State", "angle", "()I"⟩, 11), (⟨"VernierEncoder$State", "coarse", "()I"⟩, 11), (⟨"VernierEncoder$State", "correctionsInUse", "()I"⟩, 11), (⟨"VernierEncoder", "settingCount", "(I)I"⟩, 5), (⟨"VernierEncoder", "shownSetting", "(I)I"⟩, 5), (⟨"VernierEncoder$History", "restoreLatest", "(LVernierEncoder$State;)V"⟩, 3), (⟨"VernierEncoder$State", "readingAt", "(II)I"⟩, 11), (⟨"VernierEncoder$State", "excess", "(I)I"⟩, 11), (⟨"VernierEncoder$Finding", "search", "(LVernierEncoder$State;I)V"⟩, 4), (⟨"VernierEncoder$Finding", "searchCorrected", "(LVernierEncoder$State;II)V"⟩, 4), (⟨"VernierEncoder$State", "corrected", "(III)I"⟩, 11), (⟨"VernierEncoder$State", "isPoor", "(I)Z"⟩, 11)]
theorem lw_r1 : ∀ q ∈ lw_privs_1, lw_okq q := List.forall_mem_cons.mpr ⟨lw_p0, List.forall_mem_cons.mpr ⟨lw_p1, List.forall_mem_cons.mpr ⟨lw_p2, List.forall_mem_cons.mpr ⟨lw_p3, List.forall_mem_cons.mpr ⟨lw_p4, List.forall_mem_cons.mpr ⟨lw_p5, List.forall_mem_cons.mpr ⟨lw_p6, List.forall_mem_cons.mpr ⟨lw_p7, List.forall_mem_cons.mpr ⟨lw_p8, List.forall_mem_cons.mpr ⟨lw_p9, List.forall_mem_cons.mpr ⟨lw_p10, List.forall_mem_cons.mpr ⟨lw_p11, List.forall_mem_cons.mpr ⟨lw_p12, List.forall_mem_cons.mpr ⟨lw_p13, List.forall_mem_cons.mpr ⟨lw_p14, List.forall_mem_cons.mpr ⟨lw_p15, fun _ h => absurd h List.not_mem_nil⟩⟩⟩⟩⟩⟩⟩⟩⟩⟩⟩⟩⟩⟩⟩⟩
theorem lw_p16 : lw_okq (⟨"VernierEncoder$Trial", "judge", "(LVernierEncoder$State;LVernierEncoder$Finding;)V"⟩, 4) := ⟨⟨by decide +kernel, by decide +kernel⟩, List.mem_of_getElem? (i := 119) (by decide +kernel), List.mem_of_getElem? (i := 402) (by decide +kernel), List.mem_of_getElem? (i := 403) (by decide +kernel)⟩
theorem lw_p17 : lw_okq (⟨"VernierEncoder$Trial", "firstRefusal", "(LVernierEncoder$State;LVernierEncoder$Finding;)I"⟩, 4) := ⟨⟨by decide +kernel, by decide +kernel⟩, List.mem_of_getElem? (i := 119) (by decide +kernel), List.mem_of_getElem? (i := 406) (by decide +kernel), List.mem_of_getElem? (i := 407) (by decide +kernel)⟩
theorem lw_p18 : lw_okq (⟨"VernierEncoder$Entries", "append", "(I)V"⟩, 7) := ⟨⟨by decide +kernel, by decide +kernel⟩, List.mem_of_getElem? (i := 142) (by decide +kernel), List.mem_of_getElem? (i := 433) (by decide +kernel), List.mem_of_getElem? (i := 434) (by decide +kernel)⟩
theorem lw_p19 : lw_okq (⟨"VernierEncoder$Entries", "scan", "()V"⟩, 7) := ⟨⟨by decide +kernel, by decide +kernel⟩, List.mem_of_getElem? (i := 142) (by decide +kernel), List.mem_of_getElem? (i := 446) (by decide +kernel), List.mem_of_getElem? (i := 447) (by decide +kernel)⟩
theorem lw_p20 : lw_okq (⟨"VernierEncoder$Entries", "entryFault", "(I)I"⟩, 7) := ⟨⟨by decide +kernel, by decide +kernel⟩, List.mem_of_getElem? (i := 142) (by decide +kernel), List.mem_of_getElem? (i := 450) (by decide +kernel), List.mem_of_getElem? (i := 451) (by decide +kernel)⟩
theorem lw_p21 : lw_okq (⟨"VernierEncoder$Entries", "entryLength", "(I)I"⟩, 7) := ⟨⟨by decide +kernel, by decide +kernel⟩, List.mem_of_getElem? (i := 142) (by decide +kernel), List.mem_of_getElem? (i := 454) (by decide +kernel), List.mem_of_getElem? (i := 455) (by decide +kernel)⟩
theorem lw_p22 : lw_okq (⟨"VernierEncoder$Entries", "characterAt", "(I)I"⟩, 7) := ⟨⟨by decide +kernel, by decide +kernel⟩, List.mem_of_getElem? (i := 142) (by decide +kernel), List.mem_of_getElem? (i := 458) (by decide +kernel), List.mem_of_getElem? (i := 459) (by decide +kernel)⟩
theorem lw_p23 : lw_okq (⟨"VernierEncoder$Entries", "isDigit", "(I)Z"⟩, 7) := ⟨⟨by decide +kernel, by decide +kernel⟩, List.mem_of_getElem? (i := 142) (by decide +kernel), List.mem_of_getElem? (i := 463) (by decide +kernel), List.mem_of_getElem? (i := 464) (by decide +kernel)⟩
theorem lw_p24 : lw_okq (⟨"VernierEncoder$Entries", "digitAt", "(I)I"⟩, 7) := ⟨⟨by decide +kernel, by decide +kernel⟩, List.mem_of_getElem? (i := 142) (by decide +kernel), List.mem_of_getElem? (i := 468) (by decide +kernel), List.mem_of_getElem? (i := 469) (by decide +kernel)⟩
theorem lw_p25 : lw_okq (⟨"VernierEncoder$Entries", "amount", "(I)I"⟩, 7) := ⟨⟨by decide +kernel, by decide +kernel⟩, List.mem_of_getElem? (i := 142) (by decide +kernel), List.mem_of_getElem? (i := 474) (by decide +kernel), List.mem_of_getElem? (i := 475) (by decide +kernel)⟩
theorem lw_p26 : lw_okq (⟨"VernierEncoder$Entries", "entryCell", "(I)I"⟩, 7) := ⟨⟨by decide +kernel, by decide +kernel⟩, List.mem_of_getElem? (i := 142) (by decide +kernel), List.mem_of_getElem? (i := 478) (by decide +kernel), List.mem_of_getElem? (i := 479) (by decide +kernel)⟩
theorem lw_p27 : lw_okq (⟨"VernierEncoder$Entries", "takeEntry", "(I)V"⟩, 7) := ⟨⟨by decide +kernel, by decide +kernel⟩, List.mem_of_getElem? (i := 142) (by decide +kernel), List.mem_of_getElem? (i := 483) (by decide +kernel), List.mem_of_getElem? (i := 484) (by decide +kernel)⟩
theorem lw_p28 : lw_okq (⟨"VernierEncoderModel", "saves", "()V"⟩, 18) := ⟨⟨by decide +kernel, by decide +kernel⟩, List.mem_of_getElem? (i := 493) (by decide +kernel), List.mem_of_getElem? (i := 566) (by decide +kernel), List.mem_of_getElem? (i := 567) (by decide +kernel)⟩
theorem lw_p29 : lw_okq (⟨"VernierEncoderModel", "crosses", "(I)V"⟩, 18) := ⟨⟨by decide +kernel, by decide +kernel⟩, List.mem_of_getElem? (i := 493) (by decide +kernel), List.mem_of_getElem? (i := 570) (by decide +kernel), List.mem_of_getElem? (i := 571) (by decide +kernel)⟩
theorem lw_p30 : lw_okq (⟨"VernierEncoderModel", "puts", "(II)I"⟩, 18) := ⟨⟨by decide +kernel, by decide +kernel⟩, List.mem_of_getElem? (i := 493) (by decide +kernel), List.mem_of_getElem? (i := 581) (by decide +kernel), List.mem_of_getElem? (i := 582) (by decide +kernel)⟩
theorem lw_p31 : lw_okq (⟨"VernierEncoderModel", "angle", "()I"⟩, 18) := ⟨⟨by decide +kernel, by decide +kernel⟩, List.mem_of_getElem? (i := 493) (by decide +kernel), List.mem_of_getElem? (i := 597) (by decide +kernel), List.mem_of_getElem? (i := 598) (by decide +kernel)⟩
def lw_privs_2 : List (MethodName × Nat) := [(⟨"VernierEncoder$Trial", "judge", "(LVernierEncoder$State;LVernierEncoder$Finding;)V"⟩, 4), (⟨"VernierEncoder$Trial", "firstRefusal", "(LVernierEncoder$State;LVernierEncoder$Finding;)I"⟩, 4), (⟨"VernierEncoder$Entries", "append", "(I)V"⟩, 7), (⟨"VernierEncoder$Entries", "scan", "()V"⟩, 7), (⟨"VernierEncoder$Entries", "entryFault", "(I)I"⟩, 7), (⟨"VernierEncoder$Entries", "entryLength", "(I)I"⟩, 7), (⟨"VernierEncoder$Entries", "characterAt", "(I)I"⟩, 7), (⟨"VernierEncoder$Entries", "isDigit", "(I)Z"⟩, 7), (⟨"VernierEncoder$Entries", "digitAt", "(I)I"⟩, 7), (⟨"VernierEncoder$Entries", "amount", "(I)I"⟩, 7), (⟨"VernierEncoder$Entries", "entryCell", "(I)I"⟩, 7), (⟨"VernierEncoder$Entries", "takeEntry", "(I)V"⟩, 7), (⟨"VernierEncoderModel", "saves", "()V"⟩, 18), (⟨"VernierEncoderModel", "crosses", "(I)V"⟩, 18), (⟨"VernierEncoderModel", "puts", "(II)I"⟩, 18), (⟨"VernierEncoderModel", "angle", "()I"⟩, 18)]
theorem lw_r2 : ∀ q ∈ lw_privs_2, lw_okq q := List.forall_mem_cons.mpr ⟨lw_p16, List.forall_mem_cons.mpr ⟨lw_p17, List.forall_mem_cons.mpr ⟨lw_p18, List.forall_mem_cons.mpr ⟨lw_p19, List.forall_mem_cons.mpr ⟨lw_p20, List.forall_mem_cons.mpr ⟨lw_p21, List.forall_mem_cons.mpr ⟨lw_p22, List.forall_mem_cons.mpr ⟨lw_p23, List.forall_mem_cons.mpr ⟨lw_p24, List.forall_mem_cons.mpr ⟨lw_p25, List.forall_mem_cons.mpr ⟨lw_p26, List.forall_mem_cons.mpr ⟨lw_p27, List.forall_mem_cons.mpr ⟨lw_p28, List.forall_mem_cons.mpr ⟨lw_p29, List.forall_mem_cons.mpr ⟨lw_p30, List.forall_mem_cons.mpr ⟨lw_p31, fun _ h => absurd h List.not_mem_nil⟩⟩⟩⟩⟩⟩⟩⟩⟩⟩⟩⟩⟩⟩⟩⟩
theorem lw_p32 : lw_okq (⟨"VernierEncoderModel", "coarse", "()I"⟩, 18) := ⟨⟨by decide +kernel, by decide +kernel⟩, List.mem_of_getElem? (i := 493) (by decide +kernel), List.mem_of_getElem? (i := 601) (by decide +kernel), List.mem_of_getElem? (i := 602) (by decide +kernel)⟩
theorem lw_p33 : lw_okq (⟨"VernierEncoderModel", "corrections", "()I"⟩, 18) := ⟨⟨by decide +kernel, by decide +kernel⟩, List.mem_of_getElem? (i := 493) (by decide +kernel), List.mem_of_getElem? (i := 605) (by decide +kernel), List.mem_of_getElem? (i := 606) (by decide +kernel)⟩
theorem lw_p34 : lw_okq (⟨"VernierEncoderModel", "readingAt", "(II)I"⟩, 18) := ⟨⟨by decide +kernel, by decide +kernel⟩, List.mem_of_getElem? (i := 493) (by decide +kernel), List.mem_of_getElem? (i := 634) (by decide +kernel), List.mem_of_getElem? (i := 635) (by decide +kernel)⟩
theorem lw_p35 : lw_okq (⟨"VernierEncoderModel", "finds", "(III)V"⟩, 18) := ⟨⟨by decide +kernel, by decide +kernel⟩, List.mem_of_getElem? (i := 493) (by decide +kernel), List.mem_of_getElem? (i := 645) (by decide +kernel), List.mem_of_getElem? (i := 646) (by decide +kernel)⟩
theorem lw_p36 : lw_okq (⟨"VernierEncoderModel", "tooHigh", "(I)I"⟩, 18) := ⟨⟨by decide +kernel, by decide +kernel⟩, List.mem_of_getElem? (i := 493) (by decide +kernel), List.mem_of_getElem? (i := 674) (by decide +kernel), List.mem_of_getElem? (i := 675) (by decide +kernel)⟩
theorem lw_p37 : lw_okq (⟨"VernierEncoderModel", "looks", "(I)V"⟩, 18) := ⟨⟨by decide +kernel, by decide +kernel⟩, List.mem_of_getElem? (i := 493) (by decide +kernel), List.mem_of_getElem? (i := 682) (by decide +kernel), List.mem_of_getElem? (i := 683) (by decide +kernel)⟩
theorem lw_p38 : lw_okq (⟨"VernierEncoderModel", "findsIn", "(I)V"⟩, 18) := ⟨⟨by decide +kernel, by decide +kernel⟩, List.mem_of_getElem? (i := 493) (by decide +kernel), List.mem_of_getElem? (i := 686) (by decide +kernel), List.mem_of_getElem? (i := 687) (by decide +kernel)⟩
theorem lw_p39 : lw_okq (⟨"VernierEncoderModel", "corrected", "(II)I"⟩, 18) := ⟨⟨by decide +kernel, by decide +kernel⟩, List.mem_of_getElem? (i := 493) (by decide +kernel), List.mem_of_getElem? (i := 690) (by decide +kernel), List.mem_of_getElem? (i := 691) (by decide +kernel)⟩
theorem lw_p40 : lw_okq (⟨"VernierEncoderModel", "why", "()I"⟩, 18) := ⟨⟨by decide +kernel, by decide +kernel⟩, List.mem_of_getElem? (i := 493) (by decide +kernel), List.mem_of_getElem? (i := 706) (by decide +kernel), List.mem_of_getElem? (i := 707) (by decide +kernel)⟩
theorem lw_p41 : lw_okq (⟨"VernierEncoderModel", "fitting", "()I"⟩, 18) := ⟨⟨by decide +kernel, by decide +kernel⟩, List.mem_of_getElem? (i := 493) (by decide +kernel), List.mem_of_getElem? (i := 710) (by decide +kernel), List.mem_of_getElem? (i := 711) (by decide +kernel)⟩
theorem lw_p42 : lw_okq (⟨"VernierEncoderModel", "isCoarseApart", "()Z"⟩, 18) := ⟨⟨by decide +kernel, by decide +kernel⟩, List.mem_of_getElem? (i := 493) (by decide +kernel), List.mem_of_getElem? (i := 714) (by decide +kernel), List.mem_of_getElem? (i := 715) (by decide +kernel)⟩
theorem lw_p43 : lw_okq (⟨"VernierEncoderModel", "placeFound", "()I"⟩, 18) := ⟨⟨by decide +kernel, by decide +kernel⟩, List.mem_of_getElem? (i := 493) (by decide +kernel), List.mem_of_getElem? (i := 721) (by decide +kernel), List.mem_of_getElem? (i := 722) (by decide +kernel)⟩
theorem lw_p44 : lw_okq (⟨"VernierEncoderModel", "reads", "()I"⟩, 18) := ⟨⟨by decide +kernel, by decide +kernel⟩, List.mem_of_getElem? (i := 493) (by decide +kernel), List.mem_of_getElem? (i := 751) (by decide +kernel), List.mem_of_getElem? (i := 752) (by decide +kernel)⟩
theorem lw_p45 : lw_okq (⟨"VernierEncoderModel", "entry", "()I"⟩, 18) := ⟨⟨by decide +kernel, by decide +kernel⟩, List.mem_of_getElem? (i := 493) (by decide +kernel), List.mem_of_getElem? (i := 755) (by decide +kernel), List.mem_of_getElem? (i := 756) (by decide +kernel)⟩
theorem lw_p46 : lw_okq (⟨"VernierEncoderModel", "letterAt", "(I)I"⟩, 18) := ⟨⟨by decide +kernel, by decide +kernel⟩, List.mem_of_getElem? (i := 493) (by decide +kernel), List.mem_of_getElem? (i := 759) (by decide +kernel), List.mem_of_getElem? (i := 760) (by decide +kernel)⟩
theorem lw_p47 : lw_okq (⟨"VernierEncoderModel", "isDigit", "(I)Z"⟩, 18) := ⟨⟨by decide +kernel, by decide +kernel⟩, List.mem_of_getElem? (i := 493) (by decide +kernel), List.mem_of_getElem? (i := 763) (by decide +kernel), List.mem_of_getElem? (i := 764) (by decide +kernel)⟩
def lw_privs_3 : List (MethodName × Nat) := [(⟨"VernierEncoderModel", "coarse", "()I"⟩, 18), (⟨"VernierEncoderModel", "corrections", "()I"⟩, 18), (⟨"VernierEncoderModel", "readingAt", "(II)I"⟩, 18), (⟨"VernierEncoderModel", "finds", "(III)V"⟩, 18), (⟨"VernierEncoderModel", "tooHigh", "(I)I"⟩, 18), (⟨"VernierEncoderModel", "looks", "(I)V"⟩, 18), (⟨"VernierEncoderModel", "findsIn", "(I)V"⟩, 18), (⟨"VernierEncoderModel", "corrected", "(II)I"⟩, 18), (⟨"VernierEncoderModel", "why", "()I"⟩, 18), (⟨"VernierEncoderModel", "fitting", "()I"⟩, 18), (⟨"VernierEncoderModel", "isCoarseApart", "()Z"⟩, 18), (⟨"VernierEncoderModel", "placeFound", "()I"⟩, 18), (⟨"VernierEncoderModel", "reads", "()I"⟩, 18), (⟨"VernierEncoderModel", "entry", "()I"⟩, 18), (⟨"VernierEncoderModel", "letterAt", "(I)I"⟩, 18), (⟨"VernierEncoderModel", "isDigit", "(I)Z"⟩, 18)]
theorem lw_r3 : ∀ q ∈ lw_privs_3, lw_okq q := List.forall_mem_cons.mpr ⟨lw_p32, List.forall_mem_cons.mpr ⟨lw_p33, List.forall_mem_cons.mpr ⟨lw_p34, List.forall_mem_cons.mpr ⟨lw_p35, List.forall_mem_cons.mpr ⟨lw_p36, List.forall_mem_cons.mpr ⟨lw_p37, List.forall_mem_cons.mpr ⟨lw_p38, List.forall_mem_cons.mpr ⟨lw_p39, List.forall_mem_cons.mpr ⟨lw_p40, List.forall_mem_cons.mpr ⟨lw_p41, List.forall_mem_cons.mpr ⟨lw_p42, List.forall_mem_cons.mpr ⟨lw_p43, List.forall_mem_cons.mpr ⟨lw_p44, List.forall_mem_cons.mpr ⟨lw_p45, List.forall_mem_cons.mpr ⟨lw_p46, List.forall_mem_cons.mpr ⟨lw_p47, fun _ h => absurd h List.not_mem_nil⟩⟩⟩⟩⟩⟩⟩⟩⟩⟩⟩⟩⟩⟩⟩⟩
def lw_privs : List (MethodName × Nat) := lw_privs_1 ++ (lw_privs_2 ++ (lw_privs_3))
def lw_tbl : List Cond := k2_sels lw_privs ++ tables_1
theorem lw_privs_ok : ∀ q ∈ lw_privs, lw_okq q := by
  show ∀ q ∈ lw_privs_1 ++ (lw_privs_2 ++ (lw_privs_3)), lw_okq q
  exact List.forall_mem_append.mpr ⟨lw_r1, List.forall_mem_append.mpr ⟨lw_r2, lw_r3⟩⟩

def RX0 : String := "VernierEncoder$Entries"
def TX0 : u_T := fun k => match k with
  | 0 => ("VernierEncoder$Entries", "characters", "[I", true)
  | 1 => ("VernierEncoder$Entries", "length", "I", false)
  | 2 => ("VernierEncoder$Entries", "table", "[I", true)
  | 3 => ("VernierEncoder$Entries", "named", "[I", true)
  | 4 => ("VernierEncoder$Entries", "scanned", "I", false)
  | 5 => ("VernierEncoder$Entries", "faultPosition", "I", false)
  | _ => ("VernierEncoder$Entries", "faultReason", "I", false)
def tyX0 : Nat → FieldType := fun k => match k with
  | 0 => .array .int
  | 1 => .int
  | 2 => .array .int
  | 3 => .array .int
  | 4 => .int
  | 5 => .int
  | _ => .int
theorem nmX0 : ∀ a, a < 7 → ∀ b, b < 7 → a ≠ b → (TX0 a).2.1 ≠ (TX0 b).2.1 := by decide +kernel
theorem tyX0_ok : ∀ k, k < 7 → parseFieldDescriptor (TX0 k).2.2.1 = some (tyX0 k) := by decide +kernel
abbrev cX0_init : ByteArray := prog_2_method_1_code
def yX0_init : MethodName := ⟨RX0, "<init>", "()V"⟩
abbrev cX0_append : ByteArray := prog_2_method_2_code
def yX0_append : MethodName := ⟨RX0, "append", "(I)V"⟩
abbrev cX0_scan : ByteArray := prog_2_method_3_code
def yX0_scan : MethodName := ⟨RX0, "scan", "()V"⟩
abbrev cX0_entryFault : ByteArray := prog_2_method_4_code
def yX0_entryFault : MethodName := ⟨RX0, "entryFault", "(I)I"⟩
abbrev cX0_takeEntry : ByteArray := prog_2_method_5_code
def yX0_takeEntry : MethodName := ⟨RX0, "takeEntry", "(I)V"⟩
abbrev cX0_entryLength : ByteArray := prog_2_method_6_code
def yX0_entryLength : MethodName := ⟨RX0, "entryLength", "(I)I"⟩
abbrev cX0_amount : ByteArray := prog_2_method_7_code
def yX0_amount : MethodName := ⟨RX0, "amount", "(I)I"⟩
abbrev cX0_entryCell : ByteArray := prog_2_method_8_code
def yX0_entryCell : MethodName := ⟨RX0, "entryCell", "(I)I"⟩
abbrev cX0_characterAt : ByteArray := prog_2_method_9_code
def yX0_characterAt : MethodName := ⟨RX0, "characterAt", "(I)I"⟩
abbrev cX0_isDigit : ByteArray := prog_2_method_10_code
def yX0_isDigit : MethodName := ⟨RX0, "isDigit", "(I)Z"⟩
abbrev cX0_digitAt : ByteArray := prog_2_method_11_code
def yX0_digitAt : MethodName := ⟨RX0, "digitAt", "(I)I"⟩
def RX1 : String := "VernierEncoder$Finding"
def TX1 : u_T := fun k => match k with
  | 0 => ("VernierEncoder$Finding", "first", "I", false)
  | 1 => ("VernierEncoder$Finding", "last", "I", false)
  | 2 => ("VernierEncoder$Finding", "lastDeviation", "I", false)
  | _ => ("VernierEncoder$Finding", "angles", "I", false)
def tyX1 : Nat → FieldType := fun k => match k with
  | 0 => .int
  | 1 => .int
  | 2 => .int
  | _ => .int
theorem nmX1 : ∀ a, a < 4 → ∀ b, b < 4 → a ≠ b → (TX1 a).2.1 ≠ (TX1 b).2.1 := by decide +kernel
theorem tyX1_ok : ∀ k, k < 4 → parseFieldDescriptor (TX1 k).2.2.1 = some (tyX1 k) := by decide +kernel
abbrev cX1_init : ByteArray := prog_3_method_1_code
def yX1_init : MethodName := ⟨RX1, "<init>", "()V"⟩
abbrev cX1_search : ByteArray := prog_3_method_2_code
def yX1_search : MethodName := ⟨RX1, "search", "(LVernierEncoder$State;I)V"⟩
abbrev cX1_searchCorrected : ByteArray := prog_3_method_3_code
def yX1_searchCorrected : MethodName := ⟨RX1, "searchCorrected", "(LVernierEncoder$State;II)V"⟩
def RX2 : String := "VernierEncoder$History"
def TX2 : u_T := fun k => match k with
  | 0 => ("VernierEncoder$History", "states", "[LVernierEncoder$State;", true)
  | 1 => ("VernierEncoder$History", "oldest", "I", false)
  | _ => ("VernierEncoder$History", "size", "I", false)
def tyX2 : Nat → FieldType := fun k => match k with
  | 0 => .array (.object "VernierEncoder$State")
  | 1 => .int
  | _ => .int
theorem nmX2 : ∀ a, a < 3 → ∀ b, b < 3 → a ≠ b → (TX2 a).2.1 ≠ (TX2 b).2.1 := by decide +kernel
theorem tyX2_ok : ∀ k, k < 3 → parseFieldDescriptor (TX2 k).2.2.1 = some (tyX2 k) := by decide +kernel
abbrev cX2_init : ByteArray := prog_4_method_1_code
def yX2_init : MethodName := ⟨RX2, "<init>", "()V"⟩
abbrev cX2_slot : ByteArray := prog_4_method_2_code
def yX2_slot : MethodName := ⟨RX2, "slot", "(I)LVernierEncoder$State;"⟩
abbrev cX2_keep : ByteArray := prog_4_method_3_code
def yX2_keep : MethodName := ⟨RX2, "keep", "(LVernierEncoder$State;)V"⟩
abbrev cX2_restoreLatest : ByteArray := prog_4_method_4_code
def yX2_restoreLatest : MethodName := ⟨RX2, "restoreLatest", "(LVernierEncoder$State;)V"⟩
def RX3 : String := "VernierEncoder$State"
def TX3 : u_T := fun k => match k with
  | 0 => ("VernierEncoder$State", "place", "I", false)
  | 1 => ("VernierEncoder$State", "counter", "I", false)
  | 2 => ("VernierEncoder$State", "powered", "Z", false)
  | 3 => ("VernierEncoder$State", "battery", "I", false)
  | 4 => ("VernierEncoder$State", "toMiss", "I", false)
  | 5 => ("VernierEncoder$State", "accepted", "I", false)
  | 6 => ("VernierEncoder$State", "apartInRow", "I", false)
  | 7 => ("VernierEncoder$State", "settings", "[I", true)
  | 8 => ("VernierEncoder$State", "errors", "[I", true)
  | 9 => ("VernierEncoder$State", "noises", "[I", true)
  | _ => ("VernierEncoder$State", "corrections", "[I", true)
def tyX3 : Nat → FieldType := fun k => match k with
  | 0 => .int
  | 1 => .int
  | 2 => .boolean
  | 3 => .int
  | 4 => .int
  | 5 => .int
  | 6 => .int
  | 7 => .array .int
  | 8 => .array .int
  | 9 => .array .int
  | _ => .array .int
theorem nmX3 : ∀ a, a < 11 → ∀ b, b < 11 → a ≠ b → (TX3 a).2.1 ≠ (TX3 b).2.1 := by decide +kernel
theorem tyX3_ok : ∀ k, k < 11 → parseFieldDescriptor (TX3 k).2.2.1 = some (tyX3 k) := by decide +kernel
abbrev cX3_init : ByteArray := prog_5_method_1_code
def yX3_init : MethodName := ⟨RX3, "<init>", "()V"⟩
abbrev cX3_copyFrom : ByteArray := prog_5_method_2_code
def yX3_copyFrom : MethodName := ⟨RX3, "copyFrom", "(LVernierEncoder$State;)V"⟩
abbrev cX3_angle : ByteArray := prog_5_method_3_code
def yX3_angle : MethodName := ⟨RX3, "angle", "()I"⟩
abbrev cX3_coarse : ByteArray := prog_5_method_4_code
def yX3_coarse : MethodName := ⟨RX3, "coarse", "()I"⟩
abbrev cX3_readingAt : ByteArray := prog_5_method_5_code
def yX3_readingAt : MethodName := ⟨RX3, "readingAt", "(II)I"⟩
abbrev cX3_excess : ByteArray := prog_5_method_6_code
def yX3_excess : MethodName := ⟨RX3, "excess", "(I)I"⟩
abbrev cX3_corrected : ByteArray := prog_5_method_7_code
def yX3_corrected : MethodName := ⟨RX3, "corrected", "(III)I"⟩
abbrev cX3_correctionsInUse : ByteArray := prog_5_method_8_code
def yX3_correctionsInUse : MethodName := ⟨RX3, "correctionsInUse", "()I"⟩
abbrev cX3_isPoor : ByteArray := prog_5_method_9_code
def yX3_isPoor : MethodName := ⟨RX3, "isPoor", "(I)Z"⟩
abbrev cX3_crossBound : ByteArray := prog_5_method_10_code
def yX3_crossBound : MethodName := ⟨RX3, "crossBound", "(I)V"⟩
def RX4 : String := "VernierEncoder$Trial"
def TX4 : u_T := fun k => match k with
  | 0 => ("VernierEncoder$Trial", "refusal", "I", false)
  | 1 => ("VernierEncoder$Trial", "counter", "I", false)
  | 2 => ("VernierEncoder$Trial", "apartInRow", "I", false)
  | _ => ("VernierEncoder$Trial", "place", "I", false)
def tyX4 : Nat → FieldType := fun k => match k with
  | 0 => .int
  | 1 => .int
  | 2 => .int
  | _ => .int
theorem nmX4 : ∀ a, a < 4 → ∀ b, b < 4 → a ≠ b → (TX4 a).2.1 ≠ (TX4 b).2.1 := by decide +kernel
theorem tyX4_ok : ∀ k, k < 4 → parseFieldDescriptor (TX4 k).2.2.1 = some (tyX4 k) := by decide +kernel
abbrev cX4_init : ByteArray := prog_6_method_1_code
def yX4_init : MethodName := ⟨RX4, "<init>", "()V"⟩
abbrev cX4_judge : ByteArray := prog_6_method_2_code
def yX4_judge : MethodName := ⟨RX4, "judge", "(LVernierEncoder$State;LVernierEncoder$Finding;)V"⟩
abbrev cX4_firstRefusal : ByteArray := prog_6_method_3_code
def yX4_firstRefusal : MethodName := ⟨RX4, "firstRefusal", "(LVernierEncoder$State;LVernierEncoder$Finding;)I"⟩
def RX5 : String := "VernierEncoder"
def TX5 : u_T := fun k => match k with
  | 0 => ("VernierEncoder", "now", "LVernierEncoder$State;", true)
  | 1 => ("VernierEncoder", "history", "LVernierEncoder$History;", true)
  | 2 => ("VernierEncoder", "finding", "LVernierEncoder$Finding;", true)
  | 3 => ("VernierEncoder", "trial", "LVernierEncoder$Trial;", true)
  | _ => ("VernierEncoder", "entries", "LVernierEncoder$Entries;", true)
def tyX5 : Nat → FieldType := fun k => match k with
  | 0 => .object "VernierEncoder$State"
  | 1 => .object "VernierEncoder$History"
  | 2 => .object "VernierEncoder$Finding"
  | 3 => .object "VernierEncoder$Trial"
  | _ => .object "VernierEncoder$Entries"
theorem nmX5 : ∀ a, a < 5 → ∀ b, b < 5 → a ≠ b → (TX5 a).2.1 ≠ (TX5 b).2.1 := by decide +kernel
theorem tyX5_ok : ∀ k, k < 5 → parseFieldDescriptor (TX5 k).2.2.1 = some (tyX5 k) := by decide +kernel
abbrev cX5_init : ByteArray := prog_1_method_1_code
def yX5_init : MethodName := ⟨RX5, "<init>", "()V"⟩
abbrev cX5_turn : ByteArray := prog_1_method_2_code
def yX5_turn : MethodName := ⟨RX5, "turn", "(I)I"⟩
abbrev cX5_power : ByteArray := prog_1_method_3_code
def yX5_power : MethodName := ⟨RX5, "power", "(I)I"⟩
abbrev cX5_brownout : ByteArray := prog_1_method_4_code
def yX5_brownout : MethodName := ⟨RX5, "brownout", "(I)I"⟩
abbrev cX5_charge : ByteArray := prog_1_method_5_code
def yX5_charge : MethodName := ⟨RX5, "charge", "(I)I"⟩
abbrev cX5_count : ByteArray := prog_1_method_6_code
def yX5_count : MethodName := ⟨RX5, "count", "(I)I"⟩
abbrev cX5_undo : ByteArray := prog_1_method_7_code
def yX5_undo : MethodName := ⟨RX5, "undo", "()I"⟩
abbrev cX5_disk : ByteArray := prog_1_method_8_code
def yX5_disk : MethodName := ⟨RX5, "disk", "(III)I"⟩
abbrev cX5_noise : ByteArray := prog_1_method_9_code
def yX5_noise : MethodName := ⟨RX5, "noise", "(II)I"⟩
abbrev cX5_set : ByteArray := prog_1_method_10_code
def yX5_set : MethodName := ⟨RX5, "set", "(II)I"⟩
abbrev cX5_reading : ByteArray := prog_1_method_11_code
def yX5_reading : MethodName := ⟨RX5, "reading", "(I)I"⟩
abbrev cX5_found : ByteArray := prog_1_method_12_code
def yX5_found : MethodName := ⟨RX5, "found", "(IIII)I"⟩
abbrev cX5_byTwo : ByteArray := prog_1_method_13_code
def yX5_byTwo : MethodName := ⟨RX5, "byTwo", "(IIII)I"⟩
abbrev cX5_correct : ByteArray := prog_1_method_14_code
def yX5_correct : MethodName := ⟨RX5, "correct", "(III)I"⟩
abbrev cX5_correction : ByteArray := prog_1_method_15_code
def yX5_correction : MethodName := ⟨RX5, "correction", "(II)I"⟩
abbrev cX5_learn : ByteArray := prog_1_method_16_code
def yX5_learn : MethodName := ⟨RX5, "learn", "()I"⟩
abbrev cX5_look : ByteArray := prog_1_method_17_code
def yX5_look : MethodName := ⟨RX5, "look", "(I)I"⟩
abbrev cX5_survey : ByteArray := prog_1_method_18_code
def yX5_survey : MethodName := ⟨RX5, "survey", "(II)I"⟩
abbrev cX5_poor : ByteArray := prog_1_method_19_code
def yX5_poor : MethodName := ⟨RX5, "poor", "()I"⟩
abbrev cX5_sample : ByteArray := prog_1_method_20_code
def yX5_sample : MethodName := ⟨RX5, "sample", "()I"⟩
abbrev cX5_reason : ByteArray := prog_1_method_21_code
def yX5_reason : MethodName := ⟨RX5, "reason", "()I"⟩
abbrev cX5_forget : ByteArray := prog_1_method_22_code
def yX5_forget : MethodName := ⟨RX5, "forget", "()I"⟩
abbrev cX5_apart : ByteArray := prog_1_method_23_code
def yX5_apart : MethodName := ⟨RX5, "apart", "()I"⟩
abbrev cX5_type : ByteArray := prog_1_method_24_code
def yX5_type : MethodName := ⟨RX5, "type", "(I)I"⟩
abbrev cX5_clearText : ByteArray := prog_1_method_25_code
def yX5_clearText : MethodName := ⟨RX5, "clearText", "()I"⟩
abbrev cX5_fault : ByteArray := prog_1_method_26_code
def yX5_fault : MethodName := ⟨RX5, "fault", "(I)I"⟩
abbrev cX5_load : ByteArray := prog_1_method_27_code
def yX5_load : MethodName := ⟨RX5, "load", "()I"⟩
abbrev cX5_settingCount : ByteArray := prog_1_method_28_code
def yX5_settingCount : MethodName := ⟨RX5, "settingCount", "(I)I"⟩
abbrev cX5_shownSetting : ByteArray := prog_1_method_29_code
def yX5_shownSetting : MethodName := ⟨RX5, "shownSetting", "(I)I"⟩
abbrev cX5_isOutside : ByteArray := prog_1_method_30_code
def yX5_isOutside : MethodName := ⟨RX5, "isOutside", "(III)Z"⟩
abbrev cX5_isTrack : ByteArray := prog_1_method_31_code
def yX5_isTrack : MethodName := ⟨RX5, "isTrack", "(I)Z"⟩
abbrev cX5_isCell : ByteArray := prog_1_method_32_code
def yX5_isCell : MethodName := ⟨RX5, "isCell", "(II)Z"⟩
abbrev cX5_isReading : ByteArray := prog_1_method_33_code
def yX5_isReading : MethodName := ⟨RX5, "isReading", "(II)Z"⟩
abbrev cX5_cell : ByteArray := prog_1_method_34_code
def yX5_cell : MethodName := ⟨RX5, "cell", "(II)I"⟩
abbrev cX5_sectorOf : ByteArray := prog_1_method_35_code
def yX5_sectorOf : MethodName := ⟨RX5, "sectorOf", "(I)I"⟩
abbrev cX5_toNumber : ByteArray := prog_1_method_36_code
def yX5_toNumber : MethodName := ⟨RX5, "toNumber", "(Z)I"⟩
abbrev cX5_at : ByteArray := prog_1_method_37_code
def yX5_at : MethodName := ⟨RX5, "at", "([II)I"⟩
abbrev cX5_put : ByteArray := prog_1_method_38_code
def yX5_put : MethodName := ⟨RX5, "put", "([III)V"⟩
abbrev cX5_copy : ByteArray := prog_1_method_39_code
def yX5_copy : MethodName := ⟨RX5, "copy", "([I[I)V"⟩
abbrev cX5_remainder : ByteArray := prog_1_method_40_code
def yX5_remainder : MethodName := ⟨RX5, "remainder", "(II)I"⟩
abbrev cX5_distance : ByteArray := prog_1_method_41_code
def yX5_distance : MethodName := ⟨RX5, "distance", "(III)I"⟩
abbrev cX5_deviation : ByteArray := prog_1_method_42_code
def yX5_deviation : MethodName := ⟨RX5, "deviation", "(IIII)I"⟩
abbrev cX5_nearestAngle : ByteArray := prog_1_method_43_code
def yX5_nearestAngle : MethodName := ⟨RX5, "nearestAngle", "(III)I"⟩
def RX6 : String := "VernierEncoderModel"
def TX6 : u_T := fun k => match k with
  | 0 => ("VernierEncoderModel", "now", "[I", true)
  | 1 => ("VernierEncoderModel", "past", "[I", true)
  | 2 => ("VernierEncoderModel", "saved", "I", false)
  | 3 => ("VernierEncoderModel", "text", "[I", true)
  | 4 => ("VernierEncoderModel", "length", "I", false)
  | 5 => ("VernierEncoderModel", "foundAngle", "I", false)
  | 6 => ("VernierEncoderModel", "foundOff", "I", false)
  | 7 => ("VernierEncoderModel", "looked", "[I", true)
  | 8 => ("VernierEncoderModel", "firstAngle", "I", false)
  | 9 => ("VernierEncoderModel", "angles", "I", false)
  | 10 => ("VernierEncoderModel", "at", "I", false)
  | 11 => ("VernierEncoderModel", "behind", "I", false)
  | 12 => ("VernierEncoderModel", "track", "I", false)
  | 13 => ("VernierEncoderModel", "sector", "I", false)
  | 14 => ("VernierEncoderModel", "number", "I", false)
  | 15 => ("VernierEncoderModel", "told", "[I", true)
  | 16 => ("VernierEncoderModel", "tells", "[I", true)
  | _ => ("VernierEncoderModel", "entries", "I", false)
def tyX6 : Nat → FieldType := fun k => match k with
  | 0 => .array .int
  | 1 => .array .int
  | 2 => .int
  | 3 => .array .int
  | 4 => .int
  | 5 => .int
  | 6 => .int
  | 7 => .array .int
  | 8 => .int
  | 9 => .int
  | 10 => .int
  | 11 => .int
  | 12 => .int
  | 13 => .int
  | 14 => .int
  | 15 => .array .int
  | 16 => .array .int
  | _ => .int
theorem nmX6 : ∀ a, a < 18 → ∀ b, b < 18 → a ≠ b → (TX6 a).2.1 ≠ (TX6 b).2.1 := by decide +kernel
theorem tyX6_ok : ∀ k, k < 18 → parseFieldDescriptor (TX6 k).2.2.1 = some (tyX6 k) := by decide +kernel
abbrev cX6_init : ByteArray := prog_8_method_1_code
def yX6_init : MethodName := ⟨RX6, "<init>", "()V"⟩
abbrev cX6_in : ByteArray := prog_8_method_2_code
def yX6_in : MethodName := ⟨RX6, "in", "(III)Z"⟩
abbrev cX6_rest : ByteArray := prog_8_method_3_code
def yX6_rest : MethodName := ⟨RX6, "rest", "(II)I"⟩
abbrev cX6_off : ByteArray := prog_8_method_4_code
def yX6_off : MethodName := ⟨RX6, "off", "(III)I"⟩
abbrev cX6_lengthOf : ByteArray := prog_8_method_5_code
def yX6_lengthOf : MethodName := ⟨RX6, "lengthOf", "(I)I"⟩
abbrev cX6_isTrack : ByteArray := prog_8_method_6_code
def yX6_isTrack : MethodName := ⟨RX6, "isTrack", "(I)Z"⟩
abbrev cX6_isCell : ByteArray := prog_8_method_7_code
def yX6_isCell : MethodName := ⟨RX6, "isCell", "(II)Z"⟩
abbrev cX6_saves : ByteArray := prog_8_method_8_code
def yX6_saves : MethodName := ⟨RX6, "saves", "()V"⟩
abbrev cX6_puts : ByteArray := prog_8_method_9_code
def yX6_puts : MethodName := ⟨RX6, "puts", "(II)I"⟩
abbrev cX6_undo : ByteArray := prog_8_method_10_code
def yX6_undo : MethodName := ⟨RX6, "undo", "()I"⟩
abbrev cX6_crosses : ByteArray := prog_8_method_11_code
def yX6_crosses : MethodName := ⟨RX6, "crosses", "(I)V"⟩
abbrev cX6_turn : ByteArray := prog_8_method_12_code
def yX6_turn : MethodName := ⟨RX6, "turn", "(I)I"⟩
abbrev cX6_power : ByteArray := prog_8_method_13_code
def yX6_power : MethodName := ⟨RX6, "power", "(I)I"⟩
abbrev cX6_brownout : ByteArray := prog_8_method_14_code
def yX6_brownout : MethodName := ⟨RX6, "brownout", "(I)I"⟩
abbrev cX6_charge : ByteArray := prog_8_method_15_code
def yX6_charge : MethodName := ⟨RX6, "charge", "(I)I"⟩
abbrev cX6_angle : ByteArray := prog_8_method_16_code
def yX6_angle : MethodName := ⟨RX6, "angle", "()I"⟩
abbrev cX6_coarse : ByteArray := prog_8_method_17_code
def yX6_coarse : MethodName := ⟨RX6, "coarse", "()I"⟩
abbrev cX6_corrections : ByteArray := prog_8_method_18_code
def yX6_corrections : MethodName := ⟨RX6, "corrections", "()I"⟩
abbrev cX6_count : ByteArray := prog_8_method_19_code
def yX6_count : MethodName := ⟨RX6, "count", "(I)I"⟩
abbrev cX6_disk : ByteArray := prog_8_method_20_code
def yX6_disk : MethodName := ⟨RX6, "disk", "(III)I"⟩
abbrev cX6_noise : ByteArray := prog_8_method_21_code
def yX6_noise : MethodName := ⟨RX6, "noise", "(II)I"⟩
abbrev cX6_isSetting : ByteArray := prog_8_method_22_code
def yX6_isSetting : MethodName := ⟨RX6, "isSetting", "(II)Z"⟩
abbrev cX6_set : ByteArray := prog_8_method_23_code
def yX6_set : MethodName := ⟨RX6, "set", "(II)I"⟩
abbrev cX6_readingAt : ByteArray := prog_8_method_24_code
def yX6_readingAt : MethodName := ⟨RX6, "readingAt", "(II)I"⟩
abbrev cX6_reading : ByteArray := prog_8_method_25_code
def yX6_reading : MethodName := ⟨RX6, "reading", "(I)I"⟩
abbrev cX6_nearer : ByteArray := prog_8_method_26_code
def yX6_nearer : MethodName := ⟨RX6, "nearer", "(II)I"⟩
abbrev cX6_finds : ByteArray := prog_8_method_27_code
def yX6_finds : MethodName := ⟨RX6, "finds", "(III)V"⟩
abbrev cX6_found : ByteArray := prog_8_method_28_code
def yX6_found : MethodName := ⟨RX6, "found", "(IIII)I"⟩
abbrev cX6_isReading : ByteArray := prog_8_method_29_code
def yX6_isReading : MethodName := ⟨RX6, "isReading", "(II)Z"⟩
abbrev cX6_byTwo : ByteArray := prog_8_method_30_code
def yX6_byTwo : MethodName := ⟨RX6, "byTwo", "(IIII)I"⟩
abbrev cX6_isCorrection : ByteArray := prog_8_method_31_code
def yX6_isCorrection : MethodName := ⟨RX6, "isCorrection", "(I)Z"⟩
abbrev cX6_correct : ByteArray := prog_8_method_32_code
def yX6_correct : MethodName := ⟨RX6, "correct", "(III)I"⟩
abbrev cX6_correction : ByteArray := prog_8_method_33_code
def yX6_correction : MethodName := ⟨RX6, "correction", "(II)I"⟩
abbrev cX6_tooHigh : ByteArray := prog_8_method_34_code
def yX6_tooHigh : MethodName := ⟨RX6, "tooHigh", "(I)I"⟩
abbrev cX6_learn : ByteArray := prog_8_method_35_code
def yX6_learn : MethodName := ⟨RX6, "learn", "()I"⟩
abbrev cX6_corrected : ByteArray := prog_8_method_36_code
def yX6_corrected : MethodName := ⟨RX6, "corrected", "(II)I"⟩
abbrev cX6_findsIn : ByteArray := prog_8_method_37_code
def yX6_findsIn : MethodName := ⟨RX6, "findsIn", "(I)V"⟩
abbrev cX6_looks : ByteArray := prog_8_method_38_code
def yX6_looks : MethodName := ⟨RX6, "looks", "(I)V"⟩
abbrev cX6_look : ByteArray := prog_8_method_39_code
def yX6_look : MethodName := ⟨RX6, "look", "(I)I"⟩
abbrev cX6_survey : ByteArray := prog_8_method_40_code
def yX6_survey : MethodName := ⟨RX6, "survey", "(II)I"⟩
abbrev cX6_poor : ByteArray := prog_8_method_41_code
def yX6_poor : MethodName := ⟨RX6, "poor", "()I"⟩
abbrev cX6_fitting : ByteArray := prog_8_method_42_code
def yX6_fitting : MethodName := ⟨RX6, "fitting", "()I"⟩
abbrev cX6_isCoarseApart : ByteArray := prog_8_method_43_code
def yX6_isCoarseApart : MethodName := ⟨RX6, "isCoarseApart", "()Z"⟩
abbrev cX6_placeFound : ByteArray := prog_8_method_44_code
def yX6_placeFound : MethodName := ⟨RX6, "placeFound", "()I"⟩
abbrev cX6_why : ByteArray := prog_8_method_45_code
def yX6_why : MethodName := ⟨RX6, "why", "()I"⟩
abbrev cX6_sample : ByteArray := prog_8_method_46_code
def yX6_sample : MethodName := ⟨RX6, "sample", "()I"⟩
abbrev cX6_reason : ByteArray := prog_8_method_47_code
def yX6_reason : MethodName := ⟨RX6, "reason", "()I"⟩
abbrev cX6_forget : ByteArray := prog_8_method_48_code
def yX6_forget : MethodName := ⟨RX6, "forget", "()I"⟩
abbrev cX6_apart : ByteArray := prog_8_method_49_code
def yX6_apart : MethodName := ⟨RX6, "apart", "()I"⟩
abbrev cX6_type : ByteArray := prog_8_method_50_code
def yX6_type : MethodName := ⟨RX6, "type", "(I)I"⟩
abbrev cX6_clearText : ByteArray := prog_8_method_51_code
def yX6_clearText : MethodName := ⟨RX6, "clearText", "()I"⟩
abbrev cX6_letterAt : ByteArray := prog_8_method_52_code
def yX6_letterAt : MethodName := ⟨RX6, "letterAt", "(I)I"⟩
abbrev cX6_isDigit : ByteArray := prog_8_method_53_code
def yX6_isDigit : MethodName := ⟨RX6, "isDigit", "(I)Z"⟩
abbrev cX6_entry : ByteArray := prog_8_method_54_code
def yX6_entry : MethodName := ⟨RX6, "entry", "()I"⟩
abbrev cX6_reads : ByteArray := prog_8_method_55_code
def yX6_reads : MethodName := ⟨RX6, "reads", "()I"⟩
abbrev cX6_fault : ByteArray := prog_8_method_56_code
def yX6_fault : MethodName := ⟨RX6, "fault", "(I)I"⟩
abbrev cX6_load : ByteArray := prog_8_method_57_code
def yX6_load : MethodName := ⟨RX6, "load", "()I"⟩
def RL : String := "VernierEncoderLaw"
abbrev cL_law : ByteArray := code
def yL_law : MethodName := ⟨RL, "law", "([I)Z"⟩
abbrev vwCl : List vw_C := [(RX0, TX0, 7), (RX1, TX1, 4), (RX2, TX2, 3), (RX3, TX3, 11), (RX4, TX4, 4), (RX5, TX5, 5), (RX6, TX6, 18)]
end
section
theorem dX0_init_0 : decode cX0_init 0 = .ok (.aload_n 0, 1) := by decide +kernel
theorem dX0_init_1 : decode cX0_init 1 = .ok (.invokespecial 3, 3) := by decide +kernel
theorem dX0_init_4 : decode cX0_init 4 = .ok (.aload_n 0, 1) := by decide +kernel
theorem dX0_init_5 : decode cX0_init 5 = .ok (.bipush 60, 2) := by decide +kernel
theorem dX0_init_7 : decode cX0_init 7 = .ok (.newarray .int, 2) := by decide +kernel
theorem dX0_init_9 : decode cX0_init 9 = .ok (.putfield 9, 3) := by decide +kernel
theorem dX0_init_12 : decode cX0_init 12 = .ok (.aload_n 0, 1) := by decide +kernel
theorem dX0_init_13 : decode cX0_init 13 = .ok (.iconst 0, 1) := by decide +kernel
theorem dX0_init_14 : decode cX0_init 14 = .ok (.putfield 15, 3) := by decide +kernel
theorem dX0_init_17 : decode cX0_init 17 = .ok (.aload_n 0, 1) := by decide +kernel
theorem dX0_init_18 : decode cX0_init 18 = .ok (.bipush 24, 2) := by decide +kernel
theorem dX0_init_20 : decode cX0_init 20 = .ok (.newarray .int, 2) := by decide +kernel
theorem dX0_init_22 : decode cX0_init 22 = .ok (.putfield 19, 3) := by decide +kernel
theorem dX0_init_25 : decode cX0_init 25 = .ok (.aload_n 0, 1) := by decide +kernel
theorem dX0_init_26 : decode cX0_init 26 = .ok (.bipush 24, 2) := by decide +kernel
theorem dX0_init_28 : decode cX0_init 28 = .ok (.newarray .int, 2) := by decide +kernel
theorem dX0_init_30 : decode cX0_init 30 = .ok (.putfield 22, 3) := by decide +kernel
theorem dX0_init_33 : decode cX0_init 33 = .ok (.aload_n 0, 1) := by decide +kernel
theorem dX0_init_34 : decode cX0_init 34 = .ok (.iconst 0, 1) := by decide +kernel
theorem dX0_init_35 : decode cX0_init 35 = .ok (.putfield 25, 3) := by decide +kernel
theorem dX0_init_38 : decode cX0_init 38 = .ok (.aload_n 0, 1) := by decide +kernel
theorem dX0_init_39 : decode cX0_init 39 = .ok (.iconst 0, 1) := by decide +kernel
theorem dX0_init_40 : decode cX0_init 40 = .ok (.putfield 28, 3) := by decide +kernel
theorem dX0_init_43 : decode cX0_init 43 = .ok (.aload_n 0, 1) := by decide +kernel
theorem dX0_init_44 : decode cX0_init 44 = .ok (.iconst 0, 1) := by decide +kernel
theorem dX0_init_45 : decode cX0_init 45 = .ok (.putfield 31, 3) := by decide +kernel
theorem dX0_init_48 : decode cX0_init 48 = .ok (.return_, 1) := by decide +kernel
theorem dX0_append_0 : decode cX0_append 0 = .ok (.aload_n 0, 1) := by decide +kernel
theorem dX0_append_1 : decode cX0_append 1 = .ok (.getfield 9, 3) := by decide +kernel
theorem dX0_append_4 : decode cX0_append 4 = .ok (.aload_n 0, 1) := by decide +kernel
theorem dX0_append_5 : decode cX0_append 5 = .ok (.getfield 15, 3) := by decide +kernel
theorem dX0_append_8 : decode cX0_append 8 = .ok (.iload_n 1, 1) := by decide +kernel
theorem dX0_append_9 : decode cX0_append 9 = .ok (.invokestatic 34, 3) := by decide +kernel
theorem dX0_append_12 : decode cX0_append 12 = .ok (.aload_n 0, 1) := by decide +kernel
theorem dX0_append_13 : decode cX0_append 13 = .ok (.dup, 1) := by decide +kernel
theorem dX0_append_14 : decode cX0_append 14 = .ok (.getfield 15, 3) := by decide +kernel
theorem dX0_append_17 : decode cX0_append 17 = .ok (.iconst 1, 1) := by decide +kernel
theorem dX0_append_18 : decode cX0_append 18 = .ok (.iadd, 1) := by decide +kernel
theorem dX0_append_19 : decode cX0_append 19 = .ok (.putfield 15, 3) := by decide +kernel
theorem dX0_append_22 : decode cX0_append 22 = .ok (.return_, 1) := by decide +kernel
theorem dX0_scan_0 : decode cX0_scan 0 = .ok (.iconst 0, 1) := by decide +kernel
theorem dX0_scan_1 : decode cX0_scan 1 = .ok (.istore_n 1, 1) := by decide +kernel
theorem dX0_scan_2 : decode cX0_scan 2 = .ok (.iload_n 1, 1) := by decide +kernel
theorem dX0_scan_3 : decode cX0_scan 3 = .ok (.bipush 24, 2) := by decide +kernel
theorem dX0_scan_5 : decode cX0_scan 5 = .ok (.if_icmp .ge 27, 3) := by decide +kernel
theorem dX0_scan_8 : decode cX0_scan 8 = .ok (.aload_n 0, 1) := by decide +kernel
theorem dX0_scan_9 : decode cX0_scan 9 = .ok (.getfield 19, 3) := by decide +kernel
theorem dX0_scan_12 : decode cX0_scan 12 = .ok (.iload_n 1, 1) := by decide +kernel
theorem dX0_scan_13 : decode cX0_scan 13 = .ok (.iconst 0, 1) := by decide +kernel
theorem dX0_scan_14 : decode cX0_scan 14 = .ok (.invokestatic 34, 3) := by decide +kernel
theorem dX0_scan_17 : decode cX0_scan 17 = .ok (.aload_n 0, 1) := by decide +kernel
theorem dX0_scan_18 : decode cX0_scan 18 = .ok (.getfield 22, 3) := by decide +kernel
theorem dX0_scan_21 : decode cX0_scan 21 = .ok (.iload_n 1, 1) := by decide +kernel
theorem dX0_scan_22 : decode cX0_scan 22 = .ok (.iconst 0, 1) := by decide +kernel
theorem dX0_scan_23 : decode cX0_scan 23 = .ok (.invokestatic 34, 3) := by decide +kernel
theorem dX0_scan_26 : decode cX0_scan 26 = .ok (.iinc 1 1, 3) := by decide +kernel
theorem dX0_scan_29 : decode cX0_scan 29 = .ok (.goto (-27), 3) := by decide +kernel
theorem dX0_scan_32 : decode cX0_scan 32 = .ok (.aload_n 0, 1) := by decide +kernel
theorem dX0_scan_33 : decode cX0_scan 33 = .ok (.iconst 0, 1) := by decide +kernel
theorem dX0_scan_34 : decode cX0_scan 34 = .ok (.putfield 25, 3) := by decide +kernel
theorem dX0_scan_37 : decode cX0_scan 37 = .ok (.aload_n 0, 1) := by decide +kernel
theorem dX0_scan_38 : decode cX0_scan 38 = .ok (.iconst 0, 1) := by decide +kernel
theorem dX0_scan_39 : decode cX0_scan 39 = .ok (.putfield 31, 3) := by decide +kernel
theorem dX0_scan_42 : decode cX0_scan 42 = .ok (.aload_n 0, 1) := by decide +kernel
theorem dX0_scan_43 : decode cX0_scan 43 = .ok (.iconst 0, 1) := by decide +kernel
theorem dX0_scan_44 : decode cX0_scan 44 = .ok (.putfield 28, 3) := by decide +kernel
theorem dX0_scan_47 : decode cX0_scan 47 = .ok (.aload_n 0, 1) := by decide +kernel
theorem dX0_scan_48 : decode cX0_scan 48 = .ok (.getfield 28, 3) := by decide +kernel
theorem dX0_scan_51 : decode cX0_scan 51 = .ok (.aload_n 0, 1) := by decide +kernel
theorem dX0_scan_52 : decode cX0_scan 52 = .ok (.getfield 15, 3) := by decide +kernel
theorem dX0_scan_55 : decode cX0_scan 55 = .ok (.if_icmp .ge 61, 3) := by decide +kernel
theorem dX0_scan_58 : decode cX0_scan 58 = .ok (.aload_n 0, 1) := by decide +kernel
theorem dX0_scan_59 : decode cX0_scan 59 = .ok (.getfield 31, 3) := by decide +kernel
theorem dX0_scan_62 : decode cX0_scan 62 = .ok (.ifCond .ne 54, 3) := by decide +kernel
theorem dX0_scan_65 : decode cX0_scan 65 = .ok (.aload_n 0, 1) := by decide +kernel
theorem dX0_scan_66 : decode cX0_scan 66 = .ok (.aload_n 0, 1) := by decide +kernel
theorem dX0_scan_67 : decode cX0_scan 67 = .ok (.aload_n 0, 1) := by decide +kernel
theorem dX0_scan_68 : decode cX0_scan 68 = .ok (.getfield 28, 3) := by decide +kernel
theorem dX0_scan_71 : decode cX0_scan 71 = .ok (.invokevirtual 38, 3) := by decide +kernel
theorem dX0_scan_74 : decode cX0_scan 74 = .ok (.putfield 31, 3) := by decide +kernel
theorem dX0_scan_77 : decode cX0_scan 77 = .ok (.aload_n 0, 1) := by decide +kernel
theorem dX0_scan_78 : decode cX0_scan 78 = .ok (.getfield 31, 3) := by decide +kernel
theorem dX0_scan_81 : decode cX0_scan 81 = .ok (.ifCond .ne (-34), 3) := by decide +kernel
theorem dX0_scan_84 : decode cX0_scan 84 = .ok (.aload_n 0, 1) := by decide +kernel
theorem dX0_scan_85 : decode cX0_scan 85 = .ok (.aload_n 0, 1) := by decide +kernel
theorem dX0_scan_86 : decode cX0_scan 86 = .ok (.getfield 28, 3) := by decide +kernel
theorem dX0_scan_89 : decode cX0_scan 89 = .ok (.invokevirtual 42, 3) := by decide +kernel
theorem dX0_scan_92 : decode cX0_scan 92 = .ok (.aload_n 0, 1) := by decide +kernel
theorem dX0_scan_93 : decode cX0_scan 93 = .ok (.dup, 1) := by decide +kernel
theorem dX0_scan_94 : decode cX0_scan 94 = .ok (.getfield 28, 3) := by decide +kernel
theorem dX0_scan_97 : decode cX0_scan 97 = .ok (.iconst 1, 1) := by decide +kernel
theorem dX0_scan_98 : decode cX0_scan 98 = .ok (.aload_n 0, 1) := by decide +kernel
theorem dX0_scan_99 : decode cX0_scan 99 = .ok (.aload_n 0, 1) := by decide +kernel
theorem dX0_scan_100 : decode cX0_scan 100 = .ok (.getfield 28, 3) := by decide +kernel
theorem dX0_scan_103 : decode cX0_scan 103 = .ok (.invokevirtual 46, 3) := by decide +kernel
theorem dX0_scan_106 : decode cX0_scan 106 = .ok (.invokestatic 49, 3) := by decide +kernel
theorem dX0_scan_109 : decode cX0_scan 109 = .ok (.iadd, 1) := by decide +kernel
theorem dX0_scan_110 : decode cX0_scan 110 = .ok (.putfield 28, 3) := by decide +kernel
theorem dX0_scan_113 : decode cX0_scan 113 = .ok (.goto (-66), 3) := by decide +kernel
theorem dX0_scan_116 : decode cX0_scan 116 = .ok (.return_, 1) := by decide +kernel
theorem dX0_entryFault_0 : decode cX0_entryFault 0 = .ok (.aload_n 0, 1) := by decide +kernel
theorem dX0_entryFault_1 : decode cX0_entryFault 1 = .ok (.iload_n 1, 1) := by decide +kernel
theorem dX0_entryFault_2 : decode cX0_entryFault 2 = .ok (.invokevirtual 46, 3) := by decide +kernel
theorem dX0_entryFault_5 : decode cX0_entryFault 5 = .ok (.ifCond .ne 5, 3) := by decide +kernel
theorem dX0_entryFault_8 : decode cX0_entryFault 8 = .ok (.iconst 1, 1) := by decide +kernel
theorem dX0_entryFault_9 : decode cX0_entryFault 9 = .ok (.ireturn, 1) := by decide +kernel
theorem dX0_entryFault_10 : decode cX0_entryFault 10 = .ok (.aload_n 0, 1) := by decide +kernel
theorem dX0_entryFault_11 : decode cX0_entryFault 11 = .ok (.iload_n 1, 1) := by decide +kernel
theorem dX0_entryFault_12 : decode cX0_entryFault 12 = .ok (.invokevirtual 55, 3) := by decide +kernel
theorem dX0_entryFault_15 : decode cX0_entryFault 15 = .ok (.invokestatic 58, 3) := by decide +kernel
theorem dX0_entryFault_18 : decode cX0_entryFault 18 = .ok (.ifCond .ne 5, 3) := by decide +kernel
theorem dX0_entryFault_21 : decode cX0_entryFault 21 = .ok (.iconst 2, 1) := by decide +kernel
theorem dX0_entryFault_22 : decode cX0_entryFault 22 = .ok (.ireturn, 1) := by decide +kernel
theorem dX0_entryFault_23 : decode cX0_entryFault 23 = .ok (.aload_n 0, 1) := by decide +kernel
theorem dX0_entryFault_24 : decode cX0_entryFault 24 = .ok (.iload_n 1, 1) := by decide +kernel
theorem dX0_entryFault_25 : decode cX0_entryFault 25 = .ok (.invokevirtual 55, 3) := by decide +kernel
theorem dX0_entryFault_28 : decode cX0_entryFault 28 = .ok (.aload_n 0, 1) := by decide +kernel
theorem dX0_entryFault_29 : decode cX0_entryFault 29 = .ok (.iload_n 1, 1) := by decide +kernel
theorem dX0_entryFault_30 : decode cX0_entryFault 30 = .ok (.iconst 1, 1) := by decide +kernel
theorem dX0_entryFault_31 : decode cX0_entryFault 31 = .ok (.iadd, 1) := by decide +kernel
theorem dX0_entryFault_32 : decode cX0_entryFault 32 = .ok (.invokevirtual 55, 3) := by decide +kernel
theorem dX0_entryFault_35 : decode cX0_entryFault 35 = .ok (.invokestatic 62, 3) := by decide +kernel
theorem dX0_entryFault_38 : decode cX0_entryFault 38 = .ok (.ifCond .ne 5, 3) := by decide +kernel
theorem dX0_entryFault_41 : decode cX0_entryFault 41 = .ok (.iconst 3, 1) := by decide +kernel
theorem dX0_entryFault_42 : decode cX0_entryFault 42 = .ok (.ireturn, 1) := by decide +kernel
theorem dX0_entryFault_43 : decode cX0_entryFault 43 = .ok (.aload_n 0, 1) := by decide +kernel
theorem dX0_entryFault_44 : decode cX0_entryFault 44 = .ok (.iload_n 1, 1) := by decide +kernel
theorem dX0_entryFault_45 : decode cX0_entryFault 45 = .ok (.invokevirtual 66, 3) := by decide +kernel
theorem dX0_entryFault_48 : decode cX0_entryFault 48 = .ok (.bipush 20, 2) := by decide +kernel
theorem dX0_entryFault_50 : decode cX0_entryFault 50 = .ok (.if_icmp .le 5, 3) := by decide +kernel
theorem dX0_entryFault_53 : decode cX0_entryFault 53 = .ok (.iconst 4, 1) := by decide +kernel
theorem dX0_entryFault_54 : decode cX0_entryFault 54 = .ok (.ireturn, 1) := by decide +kernel
theorem dX0_entryFault_55 : decode cX0_entryFault 55 = .ok (.aload_n 0, 1) := by decide +kernel
theorem dX0_entryFault_56 : decode cX0_entryFault 56 = .ok (.getfield 22, 3) := by decide +kernel
theorem dX0_entryFault_59 : decode cX0_entryFault 59 = .ok (.aload_n 0, 1) := by decide +kernel
theorem dX0_entryFault_60 : decode cX0_entryFault 60 = .ok (.iload_n 1, 1) := by decide +kernel
theorem dX0_entryFault_61 : decode cX0_entryFault 61 = .ok (.invokevirtual 69, 3) := by decide +kernel
theorem dX0_entryFault_64 : decode cX0_entryFault 64 = .ok (.invokestatic 72, 3) := by decide +kernel
theorem dX0_entryFault_67 : decode cX0_entryFault 67 = .ok (.ifCond .eq 7, 3) := by decide +kernel
theorem dX0_entryFault_70 : decode cX0_entryFault 70 = .ok (.iconst 5, 1) := by decide +kernel
theorem dX0_entryFault_71 : decode cX0_entryFault 71 = .ok (.goto 4, 3) := by decide +kernel
theorem dX0_entryFault_74 : decode cX0_entryFault 74 = .ok (.iconst 0, 1) := by decide +kernel
theorem dX0_entryFault_75 : decode cX0_entryFault 75 = .ok (.ireturn, 1) := by decide +kernel
theorem dX0_takeEntry_0 : decode cX0_takeEntry 0 = .ok (.aload_n 0, 1) := by decide +kernel
theorem dX0_takeEntry_1 : decode cX0_takeEntry 1 = .ok (.iload_n 1, 1) := by decide +kernel
theorem dX0_takeEntry_2 : decode cX0_takeEntry 2 = .ok (.invokevirtual 66, 3) := by decide +kernel
theorem dX0_takeEntry_5 : decode cX0_takeEntry 5 = .ok (.istore_n 2, 1) := by decide +kernel
theorem dX0_takeEntry_6 : decode cX0_takeEntry 6 = .ok (.aload_n 0, 1) := by decide +kernel
theorem dX0_takeEntry_7 : decode cX0_takeEntry 7 = .ok (.getfield 19, 3) := by decide +kernel
theorem dX0_takeEntry_10 : decode cX0_takeEntry 10 = .ok (.aload_n 0, 1) := by decide +kernel
theorem dX0_takeEntry_11 : decode cX0_takeEntry 11 = .ok (.iload_n 1, 1) := by decide +kernel
theorem dX0_takeEntry_12 : decode cX0_takeEntry 12 = .ok (.invokevirtual 69, 3) := by decide +kernel
theorem dX0_takeEntry_15 : decode cX0_takeEntry 15 = .ok (.aload_n 0, 1) := by decide +kernel
theorem dX0_takeEntry_16 : decode cX0_takeEntry 16 = .ok (.iload_n 1, 1) := by decide +kernel
theorem dX0_takeEntry_17 : decode cX0_takeEntry 17 = .ok (.iconst 2, 1) := by decide +kernel
theorem dX0_takeEntry_18 : decode cX0_takeEntry 18 = .ok (.iadd, 1) := by decide +kernel
theorem dX0_takeEntry_19 : decode cX0_takeEntry 19 = .ok (.invokevirtual 76, 3) := by decide +kernel
theorem dX0_takeEntry_22 : decode cX0_takeEntry 22 = .ok (.bipush 45, 2) := by decide +kernel
theorem dX0_takeEntry_24 : decode cX0_takeEntry 24 = .ok (.if_icmp .ne 8, 3) := by decide +kernel
theorem dX0_takeEntry_27 : decode cX0_takeEntry 27 = .ok (.iload_n 2, 1) := by decide +kernel
theorem dX0_takeEntry_28 : decode cX0_takeEntry 28 = .ok (.ineg, 1) := by decide +kernel
theorem dX0_takeEntry_29 : decode cX0_takeEntry 29 = .ok (.goto 4, 3) := by decide +kernel
theorem dX0_takeEntry_32 : decode cX0_takeEntry 32 = .ok (.iload_n 2, 1) := by decide +kernel
theorem dX0_takeEntry_33 : decode cX0_takeEntry 33 = .ok (.invokestatic 34, 3) := by decide +kernel
theorem dX0_takeEntry_36 : decode cX0_takeEntry 36 = .ok (.aload_n 0, 1) := by decide +kernel
theorem dX0_takeEntry_37 : decode cX0_takeEntry 37 = .ok (.getfield 22, 3) := by decide +kernel
theorem dX0_takeEntry_40 : decode cX0_takeEntry 40 = .ok (.aload_n 0, 1) := by decide +kernel
theorem dX0_takeEntry_41 : decode cX0_takeEntry 41 = .ok (.iload_n 1, 1) := by decide +kernel
theorem dX0_takeEntry_42 : decode cX0_takeEntry 42 = .ok (.invokevirtual 69, 3) := by decide +kernel
theorem dX0_takeEntry_45 : decode cX0_takeEntry 45 = .ok (.iconst 1, 1) := by decide +kernel
theorem dX0_takeEntry_46 : decode cX0_takeEntry 46 = .ok (.invokestatic 34, 3) := by decide +kernel
theorem dX0_takeEntry_49 : decode cX0_takeEntry 49 = .ok (.aload_n 0, 1) := by decide +kernel
theorem dX0_takeEntry_50 : decode cX0_takeEntry 50 = .ok (.dup, 1) := by decide +kernel
theorem dX0_takeEntry_51 : decode cX0_takeEntry 51 = .ok (.getfield 25, 3) := by decide +kernel
theorem dX0_takeEntry_54 : decode cX0_takeEntry 54 = .ok (.iconst 1, 1) := by decide +kernel
theorem dX0_takeEntry_55 : decode cX0_takeEntry 55 = .ok (.iadd, 1) := by decide +kernel
theorem dX0_takeEntry_56 : decode cX0_takeEntry 56 = .ok (.putfield 25, 3) := by decide +kernel
theorem dX0_takeEntry_59 : decode cX0_takeEntry 59 = .ok (.return_, 1) := by decide +kernel
theorem dX0_entryLength_0 : decode cX0_entryLength 0 = .ok (.aload_n 0, 1) := by decide +kernel
theorem dX0_entryLength_1 : decode cX0_entryLength 1 = .ok (.iload_n 1, 1) := by decide +kernel
theorem dX0_entryLength_2 : decode cX0_entryLength 2 = .ok (.iconst 2, 1) := by decide +kernel
theorem dX0_entryLength_3 : decode cX0_entryLength 3 = .ok (.iadd, 1) := by decide +kernel
theorem dX0_entryLength_4 : decode cX0_entryLength 4 = .ok (.invokevirtual 76, 3) := by decide +kernel
theorem dX0_entryLength_7 : decode cX0_entryLength 7 = .ok (.istore_n 2, 1) := by decide +kernel
theorem dX0_entryLength_8 : decode cX0_entryLength 8 = .ok (.aload_n 0, 1) := by decide +kernel
theorem dX0_entryLength_9 : decode cX0_entryLength 9 = .ok (.iload_n 1, 1) := by decide +kernel
theorem dX0_entryLength_10 : decode cX0_entryLength 10 = .ok (.invokevirtual 79, 3) := by decide +kernel
theorem dX0_entryLength_13 : decode cX0_entryLength 13 = .ok (.ifCond .eq 35, 3) := by decide +kernel
theorem dX0_entryLength_16 : decode cX0_entryLength 16 = .ok (.aload_n 0, 1) := by decide +kernel
theorem dX0_entryLength_17 : decode cX0_entryLength 17 = .ok (.iload_n 1, 1) := by decide +kernel
theorem dX0_entryLength_18 : decode cX0_entryLength 18 = .ok (.iconst 1, 1) := by decide +kernel
theorem dX0_entryLength_19 : decode cX0_entryLength 19 = .ok (.iadd, 1) := by decide +kernel
theorem dX0_entryLength_20 : decode cX0_entryLength 20 = .ok (.invokevirtual 79, 3) := by decide +kernel
theorem dX0_entryLength_23 : decode cX0_entryLength 23 = .ok (.ifCond .eq 25, 3) := by decide +kernel
theorem dX0_entryLength_26 : decode cX0_entryLength 26 = .ok (.iload_n 2, 1) := by decide +kernel
theorem dX0_entryLength_27 : decode cX0_entryLength 27 = .ok (.bipush 43, 2) := by decide +kernel
theorem dX0_entryLength_29 : decode cX0_entryLength 29 = .ok (.if_icmp .eq 9, 3) := by decide +kernel
theorem dX0_entryLength_32 : decode cX0_entryLength 32 = .ok (.iload_n 2, 1) := by decide +kernel
theorem dX0_entryLength_33 : decode cX0_entryLength 33 = .ok (.bipush 45, 2) := by decide +kernel
theorem dX0_entryLength_35 : decode cX0_entryLength 35 = .ok (.if_icmp .ne 13, 3) := by decide +kernel
theorem dX0_entryLength_38 : decode cX0_entryLength 38 = .ok (.aload_n 0, 1) := by decide +kernel
theorem dX0_entryLength_39 : decode cX0_entryLength 39 = .ok (.iload_n 1, 1) := by decide +kernel
theorem dX0_entryLength_40 : decode cX0_entryLength 40 = .ok (.iconst 3, 1) := by decide +kernel
theorem dX0_entryLength_41 : decode cX0_entryLength 41 = .ok (.iadd, 1) := by decide +kernel
theorem dX0_entryLength_42 : decode cX0_entryLength 42 = .ok (.invokevirtual 79, 3) := by decide +kernel
theorem dX0_entryLength_45 : decode cX0_entryLength 45 = .ok (.ifCond .ne 5, 3) := by decide +kernel
theorem dX0_entryLength_48 : decode cX0_entryLength 48 = .ok (.iconst 0, 1) := by decide +kernel
theorem dX0_entryLength_49 : decode cX0_entryLength 49 = .ok (.ireturn, 1) := by decide +kernel
theorem dX0_entryLength_50 : decode cX0_entryLength 50 = .ok (.aload_n 0, 1) := by decide +kernel
theorem dX0_entryLength_51 : decode cX0_entryLength 51 = .ok (.iload_n 1, 1) := by decide +kernel
theorem dX0_entryLength_52 : decode cX0_entryLength 52 = .ok (.iconst 4, 1) := by decide +kernel
theorem dX0_entryLength_53 : decode cX0_entryLength 53 = .ok (.iadd, 1) := by decide +kernel
theorem dX0_entryLength_54 : decode cX0_entryLength 54 = .ok (.invokevirtual 79, 3) := by decide +kernel
theorem dX0_entryLength_57 : decode cX0_entryLength 57 = .ok (.ifCond .eq 9, 3) := by decide +kernel
theorem dX0_entryLength_60 : decode cX0_entryLength 60 = .ok (.iload_n 1, 1) := by decide +kernel
theorem dX0_entryLength_61 : decode cX0_entryLength 61 = .ok (.iconst 5, 1) := by decide +kernel
theorem dX0_entryLength_62 : decode cX0_entryLength 62 = .ok (.iadd, 1) := by decide +kernel
theorem dX0_entryLength_63 : decode cX0_entryLength 63 = .ok (.goto 6, 3) := by decide +kernel
theorem dX0_entryLength_66 : decode cX0_entryLength 66 = .ok (.iload_n 1, 1) := by decide +kernel
theorem dX0_entryLength_67 : decode cX0_entryLength 67 = .ok (.iconst 4, 1) := by decide +kernel
theorem dX0_entryLength_68 : decode cX0_entryLength 68 = .ok (.iadd, 1) := by decide +kernel
theorem dX0_entryLength_69 : decode cX0_entryLength 69 = .ok (.istore_n 3, 1) := by decide +kernel
theorem dX0_entryLength_70 : decode cX0_entryLength 70 = .ok (.aload_n 0, 1) := by decide +kernel
theorem dX0_entryLength_71 : decode cX0_entryLength 71 = .ok (.iload_n 3, 1) := by decide +kernel
theorem dX0_entryLength_72 : decode cX0_entryLength 72 = .ok (.invokevirtual 76, 3) := by decide +kernel
theorem dX0_entryLength_75 : decode cX0_entryLength 75 = .ok (.bipush 59, 2) := by decide +kernel
theorem dX0_entryLength_77 : decode cX0_entryLength 77 = .ok (.if_icmp .ne 11, 3) := by decide +kernel
theorem dX0_entryLength_80 : decode cX0_entryLength 80 = .ok (.iload_n 3, 1) := by decide +kernel
theorem dX0_entryLength_81 : decode cX0_entryLength 81 = .ok (.iconst 1, 1) := by decide +kernel
theorem dX0_entryLength_82 : decode cX0_entryLength 82 = .ok (.iadd, 1) := by decide +kernel
theorem dX0_entryLength_83 : decode cX0_entryLength 83 = .ok (.iload_n 1, 1) := by decide +kernel
theorem dX0_entryLength_84 : decode cX0_entryLength 84 = .ok (.isub, 1) := by decide +kernel
theorem dX0_entryLength_85 : decode cX0_entryLength 85 = .ok (.goto 4, 3) := by decide +kernel
theorem dX0_entryLength_88 : decode cX0_entryLength 88 = .ok (.iconst 0, 1) := by decide +kernel
theorem dX0_entryLength_89 : decode cX0_entryLength 89 = .ok (.ireturn, 1) := by decide +kernel
theorem dX0_amount_0 : decode cX0_amount 0 = .ok (.aload_n 0, 1) := by decide +kernel
theorem dX0_amount_1 : decode cX0_amount 1 = .ok (.iload_n 1, 1) := by decide +kernel
theorem dX0_amount_2 : decode cX0_amount 2 = .ok (.iconst 3, 1) := by decide +kernel
theorem dX0_amount_3 : decode cX0_amount 3 = .ok (.iadd, 1) := by decide +kernel
theorem dX0_amount_4 : decode cX0_amount 4 = .ok (.invokevirtual 55, 3) := by decide +kernel
theorem dX0_amount_7 : decode cX0_amount 7 = .ok (.istore_n 2, 1) := by decide +kernel
theorem dX0_amount_8 : decode cX0_amount 8 = .ok (.aload_n 0, 1) := by decide +kernel
theorem dX0_amount_9 : decode cX0_amount 9 = .ok (.iload_n 1, 1) := by decide +kernel
theorem dX0_amount_10 : decode cX0_amount 10 = .ok (.iconst 4, 1) := by decide +kernel
theorem dX0_amount_11 : decode cX0_amount 11 = .ok (.iadd, 1) := by decide +kernel
theorem dX0_amount_12 : decode cX0_amount 12 = .ok (.invokevirtual 79, 3) := by decide +kernel
theorem dX0_amount_15 : decode cX0_amount 15 = .ok (.ifCond .eq 18, 3) := by decide +kernel
theorem dX0_amount_18 : decode cX0_amount 18 = .ok (.iload_n 2, 1) := by decide +kernel
theorem dX0_amount_19 : decode cX0_amount 19 = .ok (.bipush 10, 2) := by decide +kernel
theorem dX0_amount_21 : decode cX0_amount 21 = .ok (.imul, 1) := by decide +kernel
theorem dX0_amount_22 : decode cX0_amount 22 = .ok (.aload_n 0, 1) := by decide +kernel
theorem dX0_amount_23 : decode cX0_amount 23 = .ok (.iload_n 1, 1) := by decide +kernel
theorem dX0_amount_24 : decode cX0_amount 24 = .ok (.iconst 4, 1) := by decide +kernel
theorem dX0_amount_25 : decode cX0_amount 25 = .ok (.iadd, 1) := by decide +kernel
theorem dX0_amount_26 : decode cX0_amount 26 = .ok (.invokevirtual 55, 3) := by decide +kernel
theorem dX0_amount_29 : decode cX0_amount 29 = .ok (.iadd, 1) := by decide +kernel
theorem dX0_amount_30 : decode cX0_amount 30 = .ok (.goto 4, 3) := by decide +kernel
theorem dX0_amount_33 : decode cX0_amount 33 = .ok (.iload_n 2, 1) := by decide +kernel
theorem dX0_amount_34 : decode cX0_amount 34 = .ok (.ireturn, 1) := by decide +kernel
theorem dX0_entryCell_0 : decode cX0_entryCell 0 = .ok (.aload_n 0, 1) := by decide +kernel
theorem dX0_entryCell_1 : decode cX0_entryCell 1 = .ok (.iload_n 1, 1) := by decide +kernel
theorem dX0_entryCell_2 : decode cX0_entryCell 2 = .ok (.invokevirtual 55, 3) := by decide +kernel
theorem dX0_entryCell_5 : decode cX0_entryCell 5 = .ok (.aload_n 0, 1) := by decide +kernel
theorem dX0_entryCell_6 : decode cX0_entryCell 6 = .ok (.iload_n 1, 1) := by decide +kernel
theorem dX0_entryCell_7 : decode cX0_entryCell 7 = .ok (.iconst 1, 1) := by decide +kernel
theorem dX0_entryCell_8 : decode cX0_entryCell 8 = .ok (.iadd, 1) := by decide +kernel
theorem dX0_entryCell_9 : decode cX0_entryCell 9 = .ok (.invokevirtual 55, 3) := by decide +kernel
theorem dX0_entryCell_12 : decode cX0_entryCell 12 = .ok (.invokestatic 82, 3) := by decide +kernel
theorem dX0_entryCell_15 : decode cX0_entryCell 15 = .ok (.ireturn, 1) := by decide +kernel
theorem dX0_characterAt_0 : decode cX0_characterAt 0 = .ok (.iload_n 1, 1) := by decide +kernel
theorem dX0_characterAt_1 : decode cX0_characterAt 1 = .ok (.aload_n 0, 1) := by decide +kernel
theorem dX0_characterAt_2 : decode cX0_characterAt 2 = .ok (.getfield 15, 3) := by decide +kernel
theorem dX0_characterAt_5 : decode cX0_characterAt 5 = .ok (.if_icmp .ge 14, 3) := by decide +kernel
theorem dX0_characterAt_8 : decode cX0_characterAt 8 = .ok (.aload_n 0, 1) := by decide +kernel
theorem dX0_characterAt_9 : decode cX0_characterAt 9 = .ok (.getfield 9, 3) := by decide +kernel
theorem dX0_characterAt_12 : decode cX0_characterAt 12 = .ok (.iload_n 1, 1) := by decide +kernel
theorem dX0_characterAt_13 : decode cX0_characterAt 13 = .ok (.invokestatic 72, 3) := by decide +kernel
theorem dX0_characterAt_16 : decode cX0_characterAt 16 = .ok (.goto 4, 3) := by decide +kernel
theorem dX0_characterAt_19 : decode cX0_characterAt 19 = .ok (.iconst 0, 1) := by decide +kernel
theorem dX0_characterAt_20 : decode cX0_characterAt 20 = .ok (.ireturn, 1) := by decide +kernel
theorem dX0_isDigit_0 : decode cX0_isDigit 0 = .ok (.aload_n 0, 1) := by decide +kernel
theorem dX0_isDigit_1 : decode cX0_isDigit 1 = .ok (.iload_n 1, 1) := by decide +kernel
theorem dX0_isDigit_2 : decode cX0_isDigit 2 = .ok (.invokevirtual 76, 3) := by decide +kernel
theorem dX0_isDigit_5 : decode cX0_isDigit 5 = .ok (.bipush 48, 2) := by decide +kernel
theorem dX0_isDigit_7 : decode cX0_isDigit 7 = .ok (.bipush 57, 2) := by decide +kernel
theorem dX0_isDigit_9 : decode cX0_isDigit 9 = .ok (.invokestatic 85, 3) := by decide +kernel
theorem dX0_isDigit_12 : decode cX0_isDigit 12 = .ok (.ifCond .ne 7, 3) := by decide +kernel
theorem dX0_isDigit_15 : decode cX0_isDigit 15 = .ok (.iconst 1, 1) := by decide +kernel
theorem dX0_isDigit_16 : decode cX0_isDigit 16 = .ok (.goto 4, 3) := by decide +kernel
theorem dX0_isDigit_19 : decode cX0_isDigit 19 = .ok (.iconst 0, 1) := by decide +kernel
theorem dX0_isDigit_20 : decode cX0_isDigit 20 = .ok (.ireturn, 1) := by decide +kernel
theorem dX0_digitAt_0 : decode cX0_digitAt 0 = .ok (.aload_n 0, 1) := by decide +kernel
theorem dX0_digitAt_1 : decode cX0_digitAt 1 = .ok (.iload_n 1, 1) := by decide +kernel
theorem dX0_digitAt_2 : decode cX0_digitAt 2 = .ok (.invokevirtual 76, 3) := by decide +kernel
theorem dX0_digitAt_5 : decode cX0_digitAt 5 = .ok (.bipush 48, 2) := by decide +kernel
theorem dX0_digitAt_7 : decode cX0_digitAt 7 = .ok (.isub, 1) := by decide +kernel
theorem dX0_digitAt_8 : decode cX0_digitAt 8 = .ok (.ireturn, 1) := by decide +kernel
theorem dX1_init_0 : decode cX1_init 0 = .ok (.aload_n 0, 1) := by decide +kernel
theorem dX1_init_1 : decode cX1_init 1 = .ok (.invokespecial 1, 3) := by decide +kernel
theorem dX1_init_4 : decode cX1_init 4 = .ok (.aload_n 0, 1) := by decide +kernel
theorem dX1_init_5 : decode cX1_init 5 = .ok (.iconst 0, 1) := by decide +kernel
theorem dX1_init_6 : decode cX1_init 6 = .ok (.putfield 7, 3) := by decide +kernel
theorem dX1_init_9 : decode cX1_init 9 = .ok (.aload_n 0, 1) := by decide +kernel
theorem dX1_init_10 : decode cX1_init 10 = .ok (.iconst 0, 1) := by decide +kernel
theorem dX1_init_11 : decode cX1_init 11 = .ok (.putfield 13, 3) := by decide +kernel
theorem dX1_init_14 : decode cX1_init 14 = .ok (.aload_n 0, 1) := by decide +kernel
theorem dX1_init_15 : decode cX1_init 15 = .ok (.iconst 0, 1) := by decide +kernel
theorem dX1_init_16 : decode cX1_init 16 = .ok (.putfield 16, 3) := by decide +kernel
theorem dX1_init_19 : decode cX1_init 19 = .ok (.aload_n 0, 1) := by decide +kernel
theorem dX1_init_20 : decode cX1_init 20 = .ok (.iconst 0, 1) := by decide +kernel
theorem dX1_init_21 : decode cX1_init 21 = .ok (.putfield 19, 3) := by decide +kernel
theorem dX1_init_24 : decode cX1_init 24 = .ok (.return_, 1) := by decide +kernel
theorem dX1_search_0 : decode cX1_search 0 = .ok (.aload_n 0, 1) := by decide +kernel
theorem dX1_search_1 : decode cX1_search 1 = .ok (.aload_n 1, 1) := by decide +kernel
theorem dX1_search_2 : decode cX1_search 2 = .ok (.iconst 0, 1) := by decide +kernel
theorem dX1_search_3 : decode cX1_search 3 = .ok (.iload_n 2, 1) := by decide +kernel
theorem dX1_search_4 : decode cX1_search 4 = .ok (.invokevirtual 22, 3) := by decide +kernel
theorem dX1_search_7 : decode cX1_search 7 = .ok (.aload_n 1, 1) := by decide +kernel
theorem dX1_search_8 : decode cX1_search 8 = .ok (.iconst 1, 1) := by decide +kernel
theorem dX1_search_9 : decode cX1_search 9 = .ok (.iload_n 2, 1) := by decide +kernel
theorem dX1_search_10 : decode cX1_search 10 = .ok (.invokevirtual 22, 3) := by decide +kernel
theorem dX1_search_13 : decode cX1_search 13 = .ok (.aload_n 1, 1) := by decide +kernel
theorem dX1_search_14 : decode cX1_search 14 = .ok (.iconst 2, 1) := by decide +kernel
theorem dX1_search_15 : decode cX1_search 15 = .ok (.iload_n 2, 1) := by decide +kernel
theorem dX1_search_16 : decode cX1_search 16 = .ok (.invokevirtual 22, 3) := by decide +kernel
theorem dX1_search_19 : decode cX1_search 19 = .ok (.invokestatic 28, 3) := by decide +kernel
theorem dX1_search_22 : decode cX1_search 22 = .ok (.putfield 7, 3) := by decide +kernel
theorem dX1_search_25 : decode cX1_search 25 = .ok (.aload_n 0, 1) := by decide +kernel
theorem dX1_search_26 : decode cX1_search 26 = .ok (.getfield 7, 3) := by decide +kernel
theorem dX1_search_29 : decode cX1_search 29 = .ok (.invokestatic 34, 3) := by decide +kernel
theorem dX1_search_32 : decode cX1_search 32 = .ok (.istore_n 3, 1) := by decide +kernel
theorem dX1_search_33 : decode cX1_search 33 = .ok (.aload_n 0, 1) := by decide +kernel
theorem dX1_search_34 : decode cX1_search 34 = .ok (.aload_n 1, 1) := by decide +kernel
theorem dX1_search_35 : decode cX1_search 35 = .ok (.iload_n 2, 1) := by decide +kernel
theorem dX1_search_36 : decode cX1_search 36 = .ok (.iload_n 3, 1) := by decide +kernel
theorem dX1_search_37 : decode cX1_search 37 = .ok (.invokevirtual 38, 3) := by decide +kernel
theorem dX1_search_40 : decode cX1_search 40 = .ok (.aload_n 0, 1) := by decide +kernel
theorem dX1_search_41 : decode cX1_search 41 = .ok (.iconst 2, 1) := by decide +kernel
theorem dX1_search_42 : decode cX1_search 42 = .ok (.putfield 19, 3) := by decide +kernel
theorem dX1_search_45 : decode cX1_search 45 = .ok (.aload_n 0, 1) := by decide +kernel
theorem dX1_search_46 : decode cX1_search 46 = .ok (.getfield 13, 3) := by decide +kernel
theorem dX1_search_49 : decode cX1_search 49 = .ok (.invokestatic 34, 3) := by decide +kernel
theorem dX1_search_52 : decode cX1_search 52 = .ok (.iload_n 3, 1) := by decide +kernel
theorem dX1_search_53 : decode cX1_search 53 = .ok (.if_icmp .eq 21, 3) := by decide +kernel
theorem dX1_search_56 : decode cX1_search 56 = .ok (.aload_n 0, 1) := by decide +kernel
theorem dX1_search_57 : decode cX1_search 57 = .ok (.aload_n 1, 1) := by decide +kernel
theorem dX1_search_58 : decode cX1_search 58 = .ok (.iload_n 2, 1) := by decide +kernel
theorem dX1_search_59 : decode cX1_search 59 = .ok (.aload_n 0, 1) := by decide +kernel
theorem dX1_search_60 : decode cX1_search 60 = .ok (.getfield 13, 3) := by decide +kernel
theorem dX1_search_63 : decode cX1_search 63 = .ok (.invokestatic 34, 3) := by decide +kernel
theorem dX1_search_66 : decode cX1_search 66 = .ok (.invokevirtual 38, 3) := by decide +kernel
theorem dX1_search_69 : decode cX1_search 69 = .ok (.aload_n 0, 1) := by decide +kernel
theorem dX1_search_70 : decode cX1_search 70 = .ok (.iconst 3, 1) := by decide +kernel
theorem dX1_search_71 : decode cX1_search 71 = .ok (.putfield 19, 3) := by decide +kernel
theorem dX1_search_74 : decode cX1_search 74 = .ok (.return_, 1) := by decide +kernel
theorem dX1_searchCorrected_0 : decode cX1_searchCorrected 0 = .ok (.aload_n 1, 1) := by decide +kernel
theorem dX1_searchCorrected_1 : decode cX1_searchCorrected 1 = .ok (.iconst 0, 1) := by decide +kernel
theorem dX1_searchCorrected_2 : decode cX1_searchCorrected 2 = .ok (.aload_n 1, 1) := by decide +kernel
theorem dX1_searchCorrected_3 : decode cX1_searchCorrected 3 = .ok (.iconst 0, 1) := by decide +kernel
theorem dX1_searchCorrected_4 : decode cX1_searchCorrected 4 = .ok (.iload_n 2, 1) := by decide +kernel
theorem dX1_searchCorrected_5 : decode cX1_searchCorrected 5 = .ok (.invokevirtual 22, 3) := by decide +kernel
theorem dX1_searchCorrected_8 : decode cX1_searchCorrected 8 = .ok (.iload_n 3, 1) := by decide +kernel
theorem dX1_searchCorrected_9 : decode cX1_searchCorrected 9 = .ok (.invokevirtual 42, 3) := by decide +kernel
theorem dX1_searchCorrected_12 : decode cX1_searchCorrected 12 = .ok (.istore 4, 2) := by decide +kernel
theorem dX1_searchCorrected_14 : decode cX1_searchCorrected 14 = .ok (.aload_n 1, 1) := by decide +kernel
theorem dX1_searchCorrected_15 : decode cX1_searchCorrected 15 = .ok (.iconst 1, 1) := by decide +kernel
theorem dX1_searchCorrected_16 : decode cX1_searchCorrected 16 = .ok (.aload_n 1, 1) := by decide +kernel
theorem dX1_searchCorrected_17 : decode cX1_searchCorrected 17 = .ok (.iconst 1, 1) := by decide +kernel
theorem dX1_searchCorrected_18 : decode cX1_searchCorrected 18 = .ok (.iload_n 2, 1) := by decide +kernel
theorem dX1_searchCorrected_19 : decode cX1_searchCorrected 19 = .ok (.invokevirtual 22, 3) := by decide +kernel
theorem dX1_searchCorrected_22 : decode cX1_searchCorrected 22 = .ok (.iload_n 3, 1) := by decide +kernel
theorem dX1_searchCorrected_23 : decode cX1_searchCorrected 23 = .ok (.invokevirtual 42, 3) := by decide +kernel
theorem dX1_searchCorrected_26 : decode cX1_searchCorrected 26 = .ok (.istore 5, 2) := by decide +kernel
theorem dX1_searchCorrected_28 : decode cX1_searchCorrected 28 = .ok (.aload_n 1, 1) := by decide +kernel
theorem dX1_searchCorrected_29 : decode cX1_searchCorrected 29 = .ok (.iconst 2, 1) := by decide +kernel
theorem dX1_searchCorrected_30 : decode cX1_searchCorrected 30 = .ok (.aload_n 1, 1) := by decide +kernel
theorem dX1_searchCorrected_31 : decode cX1_searchCorrected 31 = .ok (.iconst 2, 1) := by decide +kernel
theorem dX1_searchCorrected_32 : decode cX1_searchCorrected 32 = .ok (.iload_n 2, 1) := by decide +kernel
theorem dX1_searchCorrected_33 : decode cX1_searchCorrected 33 = .ok (.invokevirtual 22, 3) := by decide +kernel
theorem dX1_searchCorrected_36 : decode cX1_searchCorrected 36 = .ok (.iload_n 3, 1) := by decide +kernel
theorem dX1_searchCorrected_37 : decode cX1_searchCorrected 37 = .ok (.invokevirtual 42, 3) := by decide +kernel
theorem dX1_searchCorrected_40 : decode cX1_searchCorrected 40 = .ok (.istore 6, 2) := by decide +kernel
theorem dX1_searchCorrected_42 : decode cX1_searchCorrected 42 = .ok (.aload_n 0, 1) := by decide +kernel
theorem dX1_searchCorrected_43 : decode cX1_searchCorrected 43 = .ok (.iload 4, 2) := by decide +kernel
theorem dX1_searchCorrected_45 : decode cX1_searchCorrected 45 = .ok (.iload 5, 2) := by decide +kernel
theorem dX1_searchCorrected_47 : decode cX1_searchCorrected 47 = .ok (.iload 6, 2) := by decide +kernel
theorem dX1_searchCorrected_49 : decode cX1_searchCorrected 49 = .ok (.invokestatic 28, 3) := by decide +kernel
theorem dX1_searchCorrected_52 : decode cX1_searchCorrected 52 = .ok (.putfield 13, 3) := by decide +kernel
theorem dX1_searchCorrected_55 : decode cX1_searchCorrected 55 = .ok (.aload_n 0, 1) := by decide +kernel
theorem dX1_searchCorrected_56 : decode cX1_searchCorrected 56 = .ok (.aload_n 0, 1) := by decide +kernel
theorem dX1_searchCorrected_57 : decode cX1_searchCorrected 57 = .ok (.getfield 13, 3) := by decide +kernel
theorem dX1_searchCorrected_60 : decode cX1_searchCorrected 60 = .ok (.iload 4, 2) := by decide +kernel
theorem dX1_searchCorrected_62 : decode cX1_searchCorrected 62 = .ok (.iload 5, 2) := by decide +kernel
theorem dX1_searchCorrected_64 : decode cX1_searchCorrected 64 = .ok (.iload 6, 2) := by decide +kernel
theorem dX1_searchCorrected_66 : decode cX1_searchCorrected 66 = .ok (.invokestatic 45, 3) := by decide +kernel
theorem dX1_searchCorrected_69 : decode cX1_searchCorrected 69 = .ok (.putfield 16, 3) := by decide +kernel
theorem dX1_searchCorrected_72 : decode cX1_searchCorrected 72 = .ok (.return_, 1) := by decide +kernel
theorem dX2_init_0 : decode cX2_init 0 = .ok (.aload_n 0, 1) := by decide +kernel
theorem dX2_init_1 : decode cX2_init 1 = .ok (.invokespecial 3, 3) := by decide +kernel
theorem dX2_init_4 : decode cX2_init 4 = .ok (.aload_n 0, 1) := by decide +kernel
theorem dX2_init_5 : decode cX2_init 5 = .ok (.iconst 4, 1) := by decide +kernel
theorem dX2_init_6 : decode cX2_init 6 = .ok (.anewarray 9, 3) := by decide +kernel
theorem dX2_init_9 : decode cX2_init 9 = .ok (.dup, 1) := by decide +kernel
theorem dX2_init_10 : decode cX2_init 10 = .ok (.iconst 0, 1) := by decide +kernel
theorem dX2_init_11 : decode cX2_init 11 = .ok (.new 9, 3) := by decide +kernel
theorem dX2_init_14 : decode cX2_init 14 = .ok (.dup, 1) := by decide +kernel
theorem dX2_init_15 : decode cX2_init 15 = .ok (.invokespecial 11, 3) := by decide +kernel
theorem dX2_init_18 : decode cX2_init 18 = .ok (.aastore, 1) := by decide +kernel
theorem dX2_init_19 : decode cX2_init 19 = .ok (.dup, 1) := by decide +kernel
theorem dX2_init_20 : decode cX2_init 20 = .ok (.iconst 1, 1) := by decide +kernel
theorem dX2_init_21 : decode cX2_init 21 = .ok (.new 9, 3) := by decide +kernel
theorem dX2_init_24 : decode cX2_init 24 = .ok (.dup, 1) := by decide +kernel
theorem dX2_init_25 : decode cX2_init 25 = .ok (.invokespecial 11, 3) := by decide +kernel
theorem dX2_init_28 : decode cX2_init 28 = .ok (.aastore, 1) := by decide +kernel
theorem dX2_init_29 : decode cX2_init 29 = .ok (.dup, 1) := by decide +kernel
theorem dX2_init_30 : decode cX2_init 30 = .ok (.iconst 2, 1) := by decide +kernel
theorem dX2_init_31 : decode cX2_init 31 = .ok (.new 9, 3) := by decide +kernel
theorem dX2_init_34 : decode cX2_init 34 = .ok (.dup, 1) := by decide +kernel
theorem dX2_init_35 : decode cX2_init 35 = .ok (.invokespecial 11, 3) := by decide +kernel
theorem dX2_init_38 : decode cX2_init 38 = .ok (.aastore, 1) := by decide +kernel
theorem dX2_init_39 : decode cX2_init 39 = .ok (.dup, 1) := by decide +kernel
theorem dX2_init_40 : decode cX2_init 40 = .ok (.iconst 3, 1) := by decide +kernel
theorem dX2_init_41 : decode cX2_init 41 = .ok (.new 9, 3) := by decide +kernel
theorem dX2_init_44 : decode cX2_init 44 = .ok (.dup, 1) := by decide +kernel
theorem dX2_init_45 : decode cX2_init 45 = .ok (.invokespecial 11, 3) := by decide +kernel
theorem dX2_init_48 : decode cX2_init 48 = .ok (.aastore, 1) := by decide +kernel
theorem dX2_init_49 : decode cX2_init 49 = .ok (.putfield 12, 3) := by decide +kernel
theorem dX2_init_52 : decode cX2_init 52 = .ok (.aload_n 0, 1) := by decide +kernel
theorem dX2_init_53 : decode cX2_init 53 = .ok (.iconst 0, 1) := by decide +kernel
theorem dX2_init_54 : decode cX2_init 54 = .ok (.putfield 18, 3) := by decide +kernel
theorem dX2_init_57 : decode cX2_init 57 = .ok (.aload_n 0, 1) := by decide +kernel
theorem dX2_init_58 : decode cX2_init 58 = .ok (.iconst 0, 1) := by decide +kernel
theorem dX2_init_59 : decode cX2_init 59 = .ok (.putfield 22, 3) := by decide +kernel
theorem dX2_init_62 : decode cX2_init 62 = .ok (.return_, 1) := by decide +kernel
theorem dX2_slot_0 : decode cX2_slot 0 = .ok (.aload_n 0, 1) := by decide +kernel
theorem dX2_slot_1 : decode cX2_slot 1 = .ok (.getfield 18, 3) := by decide +kernel
theorem dX2_slot_4 : decode cX2_slot 4 = .ok (.iload_n 1, 1) := by decide +kernel
theorem dX2_slot_5 : decode cX2_slot 5 = .ok (.iadd, 1) := by decide +kernel
theorem dX2_slot_6 : decode cX2_slot 6 = .ok (.iconst 4, 1) := by decide +kernel
theorem dX2_slot_7 : decode cX2_slot 7 = .ok (.invokestatic 25, 3) := by decide +kernel
theorem dX2_slot_10 : decode cX2_slot 10 = .ok (.istore_n 2, 1) := by decide +kernel
theorem dX2_slot_11 : decode cX2_slot 11 = .ok (.iload_n 2, 1) := by decide +kernel
theorem dX2_slot_12 : decode cX2_slot 12 = .ok (.ifCond .lt 21, 3) := by decide +kernel
theorem dX2_slot_15 : decode cX2_slot 15 = .ok (.iload_n 2, 1) := by decide +kernel
theorem dX2_slot_16 : decode cX2_slot 16 = .ok (.aload_n 0, 1) := by decide +kernel
theorem dX2_slot_17 : decode cX2_slot 17 = .ok (.getfield 12, 3) := by decide +kernel
theorem dX2_slot_20 : decode cX2_slot 20 = .ok (.arraylength, 1) := by decide +kernel
theorem dX2_slot_21 : decode cX2_slot 21 = .ok (.if_icmp .ge 12, 3) := by decide +kernel
theorem dX2_slot_24 : decode cX2_slot 24 = .ok (.aload_n 0, 1) := by decide +kernel
theorem dX2_slot_25 : decode cX2_slot 25 = .ok (.getfield 12, 3) := by decide +kernel
theorem dX2_slot_28 : decode cX2_slot 28 = .ok (.iload_n 2, 1) := by decide +kernel
theorem dX2_slot_29 : decode cX2_slot 29 = .ok (.aaload, 1) := by decide +kernel
theorem dX2_slot_30 : decode cX2_slot 30 = .ok (.goto 4, 3) := by decide +kernel
theorem dX2_slot_33 : decode cX2_slot 33 = .ok (.aconst_null, 1) := by decide +kernel
theorem dX2_slot_34 : decode cX2_slot 34 = .ok (.areturn, 1) := by decide +kernel
theorem dX2_keep_0 : decode cX2_keep 0 = .ok (.aload_n 0, 1) := by decide +kernel
theorem dX2_keep_1 : decode cX2_keep 1 = .ok (.getfield 22, 3) := by decide +kernel
theorem dX2_keep_4 : decode cX2_keep 4 = .ok (.iconst 4, 1) := by decide +kernel
theorem dX2_keep_5 : decode cX2_keep 5 = .ok (.if_icmp .ne 27, 3) := by decide +kernel
theorem dX2_keep_8 : decode cX2_keep 8 = .ok (.aload_n 0, 1) := by decide +kernel
theorem dX2_keep_9 : decode cX2_keep 9 = .ok (.aload_n 0, 1) := by decide +kernel
theorem dX2_keep_10 : decode cX2_keep 10 = .ok (.getfield 18, 3) := by decide +kernel
theorem dX2_keep_13 : decode cX2_keep 13 = .ok (.iconst 1, 1) := by decide +kernel
theorem dX2_keep_14 : decode cX2_keep 14 = .ok (.iadd, 1) := by decide +kernel
theorem dX2_keep_15 : decode cX2_keep 15 = .ok (.iconst 4, 1) := by decide +kernel
theorem dX2_keep_16 : decode cX2_keep 16 = .ok (.invokestatic 25, 3) := by decide +kernel
theorem dX2_keep_19 : decode cX2_keep 19 = .ok (.putfield 18, 3) := by decide +kernel
theorem dX2_keep_22 : decode cX2_keep 22 = .ok (.aload_n 0, 1) := by decide +kernel
theorem dX2_keep_23 : decode cX2_keep 23 = .ok (.dup, 1) := by decide +kernel
theorem dX2_keep_24 : decode cX2_keep 24 = .ok (.getfield 22, 3) := by decide +kernel
theorem dX2_keep_27 : decode cX2_keep 27 = .ok (.iconst 1, 1) := by decide +kernel
theorem dX2_keep_28 : decode cX2_keep 28 = .ok (.isub, 1) := by decide +kernel
theorem dX2_keep_29 : decode cX2_keep 29 = .ok (.putfield 22, 3) := by decide +kernel
theorem dX2_keep_32 : decode cX2_keep 32 = .ok (.aload_n 0, 1) := by decide +kernel
theorem dX2_keep_33 : decode cX2_keep 33 = .ok (.aload_n 0, 1) := by decide +kernel
theorem dX2_keep_34 : decode cX2_keep 34 = .ok (.getfield 22, 3) := by decide +kernel
theorem dX2_keep_37 : decode cX2_keep 37 = .ok (.invokevirtual 29, 3) := by decide +kernel
theorem dX2_keep_40 : decode cX2_keep 40 = .ok (.astore_n 2, 1) := by decide +kernel
theorem dX2_keep_41 : decode cX2_keep 41 = .ok (.aload_n 2, 1) := by decide +kernel
theorem dX2_keep_42 : decode cX2_keep 42 = .ok (.ifnull 18, 3) := by decide +kernel
theorem dX2_keep_45 : decode cX2_keep 45 = .ok (.aload_n 2, 1) := by decide +kernel
theorem dX2_keep_46 : decode cX2_keep 46 = .ok (.aload_n 1, 1) := by decide +kernel
theorem dX2_keep_47 : decode cX2_keep 47 = .ok (.invokevirtual 33, 3) := by decide +kernel
theorem dX2_keep_50 : decode cX2_keep 50 = .ok (.aload_n 0, 1) := by decide +kernel
theorem dX2_keep_51 : decode cX2_keep 51 = .ok (.dup, 1) := by decide +kernel
theorem dX2_keep_52 : decode cX2_keep 52 = .ok (.getfield 22, 3) := by decide +kernel
theorem dX2_keep_55 : decode cX2_keep 55 = .ok (.iconst 1, 1) := by decide +kernel
theorem dX2_keep_56 : decode cX2_keep 56 = .ok (.iadd, 1) := by decide +kernel
theorem dX2_keep_57 : decode cX2_keep 57 = .ok (.putfield 22, 3) := by decide +kernel
theorem dX2_keep_60 : decode cX2_keep 60 = .ok (.return_, 1) := by decide +kernel
theorem dX2_restoreLatest_0 : decode cX2_restoreLatest 0 = .ok (.aload_n 0, 1) := by decide +kernel
theorem dX2_restoreLatest_1 : decode cX2_restoreLatest 1 = .ok (.aload_n 0, 1) := by decide +kernel
theorem dX2_restoreLatest_2 : decode cX2_restoreLatest 2 = .ok (.getfield 22, 3) := by decide +kernel
theorem dX2_restoreLatest_5 : decode cX2_restoreLatest 5 = .ok (.iconst 1, 1) := by decide +kernel
theorem dX2_restoreLatest_6 : decode cX2_restoreLatest 6 = .ok (.isub, 1) := by decide +kernel
theorem dX2_restoreLatest_7 : decode cX2_restoreLatest 7 = .ok (.invokevirtual 29, 3) := by decide +kernel
theorem dX2_restoreLatest_10 : decode cX2_restoreLatest 10 = .ok (.astore_n 2, 1) := by decide +kernel
theorem dX2_restoreLatest_11 : decode cX2_restoreLatest 11 = .ok (.aload_n 2, 1) := by decide +kernel
theorem dX2_restoreLatest_12 : decode cX2_restoreLatest 12 = .ok (.ifnull 18, 3) := by decide +kernel
theorem dX2_restoreLatest_15 : decode cX2_restoreLatest 15 = .ok (.aload_n 1, 1) := by decide +kernel
theorem dX2_restoreLatest_16 : decode cX2_restoreLatest 16 = .ok (.aload_n 2, 1) := by decide +kernel
theorem dX2_restoreLatest_17 : decode cX2_restoreLatest 17 = .ok (.invokevirtual 33, 3) := by decide +kernel
theorem dX2_restoreLatest_20 : decode cX2_restoreLatest 20 = .ok (.aload_n 0, 1) := by decide +kernel
theorem dX2_restoreLatest_21 : decode cX2_restoreLatest 21 = .ok (.dup, 1) := by decide +kernel
theorem dX2_restoreLatest_22 : decode cX2_restoreLatest 22 = .ok (.getfield 22, 3) := by decide +kernel
theorem dX2_restoreLatest_25 : decode cX2_restoreLatest 25 = .ok (.iconst 1, 1) := by decide +kernel
theorem dX2_restoreLatest_26 : decode cX2_restoreLatest 26 = .ok (.isub, 1) := by decide +kernel
theorem dX2_restoreLatest_27 : decode cX2_restoreLatest 27 = .ok (.putfield 22, 3) := by decide +kernel
theorem dX2_restoreLatest_30 : decode cX2_restoreLatest 30 = .ok (.return_, 1) := by decide +kernel
theorem dX3_init_0 : decode cX3_init 0 = .ok (.aload_n 0, 1) := by decide +kernel
theorem dX3_init_1 : decode cX3_init 1 = .ok (.invokespecial 3, 3) := by decide +kernel
theorem dX3_init_4 : decode cX3_init 4 = .ok (.aload_n 0, 1) := by decide +kernel
theorem dX3_init_5 : decode cX3_init 5 = .ok (.iconst 0, 1) := by decide +kernel
theorem dX3_init_6 : decode cX3_init 6 = .ok (.putfield 9, 3) := by decide +kernel
theorem dX3_init_9 : decode cX3_init 9 = .ok (.aload_n 0, 1) := by decide +kernel
theorem dX3_init_10 : decode cX3_init 10 = .ok (.iconst 0, 1) := by decide +kernel
theorem dX3_init_11 : decode cX3_init 11 = .ok (.putfield 15, 3) := by decide +kernel
theorem dX3_init_14 : decode cX3_init 14 = .ok (.aload_n 0, 1) := by decide +kernel
theorem dX3_init_15 : decode cX3_init 15 = .ok (.iconst 1, 1) := by decide +kernel
theorem dX3_init_16 : decode cX3_init 16 = .ok (.putfield 18, 3) := by decide +kernel
theorem dX3_init_19 : decode cX3_init 19 = .ok (.aload_n 0, 1) := by decide +kernel
theorem dX3_init_20 : decode cX3_init 20 = .ok (.sipush 200, 3) := by decide +kernel
theorem dX3_init_23 : decode cX3_init 23 = .ok (.putfield 22, 3) := by decide +kernel
theorem dX3_init_26 : decode cX3_init 26 = .ok (.aload_n 0, 1) := by decide +kernel
theorem dX3_init_27 : decode cX3_init 27 = .ok (.iconst 0, 1) := by decide +kernel
theorem dX3_init_28 : decode cX3_init 28 = .ok (.putfield 25, 3) := by decide +kernel
theorem dX3_init_31 : decode cX3_init 31 = .ok (.aload_n 0, 1) := by decide +kernel
theorem dX3_init_32 : decode cX3_init 32 = .ok (.iconst (-1), 1) := by decide +kernel
theorem dX3_init_33 : decode cX3_init 33 = .ok (.putfield 28, 3) := by decide +kernel
theorem dX3_init_36 : decode cX3_init 36 = .ok (.aload_n 0, 1) := by decide +kernel
theorem dX3_init_37 : decode cX3_init 37 = .ok (.iconst 0, 1) := by decide +kernel
theorem dX3_init_38 : decode cX3_init 38 = .ok (.putfield 31, 3) := by decide +kernel
theorem dX3_init_41 : decode cX3_init 41 = .ok (.aload_n 0, 1) := by decide +kernel
theorem dX3_init_42 : decode cX3_init 42 = .ok (.iconst 4, 1) := by decide +kernel
theorem dX3_init_43 : decode cX3_init 43 = .ok (.newarray .int, 2) := by decide +kernel
theorem dX3_init_45 : decode cX3_init 45 = .ok (.dup, 1) := by decide +kernel
theorem dX3_init_46 : decode cX3_init 46 = .ok (.iconst 0, 1) := by decide +kernel
theorem dX3_init_47 : decode cX3_init 47 = .ok (.iconst 5, 1) := by decide +kernel
theorem dX3_init_48 : decode cX3_init 48 = .ok (.iastore, 1) := by decide +kernel
theorem dX3_init_49 : decode cX3_init 49 = .ok (.dup, 1) := by decide +kernel
theorem dX3_init_50 : decode cX3_init 50 = .ok (.iconst 1, 1) := by decide +kernel
theorem dX3_init_51 : decode cX3_init 51 = .ok (.iconst 2, 1) := by decide +kernel
theorem dX3_init_52 : decode cX3_init 52 = .ok (.iastore, 1) := by decide +kernel
theorem dX3_init_53 : decode cX3_init 53 = .ok (.dup, 1) := by decide +kernel
theorem dX3_init_54 : decode cX3_init 54 = .ok (.iconst 2, 1) := by decide +kernel
theorem dX3_init_55 : decode cX3_init 55 = .ok (.sipush 500, 3) := by decide +kernel
theorem dX3_init_58 : decode cX3_init 58 = .ok (.iastore, 1) := by decide +kernel
theorem dX3_init_59 : decode cX3_init 59 = .ok (.dup, 1) := by decide +kernel
theorem dX3_init_60 : decode cX3_init 60 = .ok (.iconst 3, 1) := by decide +kernel
theorem dX3_init_61 : decode cX3_init 61 = .ok (.iconst 0, 1) := by decide +kernel
theorem dX3_init_62 : decode cX3_init 62 = .ok (.iastore, 1) := by decide +kernel
theorem dX3_init_63 : decode cX3_init 63 = .ok (.putfield 34, 3) := by decide +kernel
theorem dX3_init_66 : decode cX3_init 66 = .ok (.aload_n 0, 1) := by decide +kernel
theorem dX3_init_67 : decode cX3_init 67 = .ok (.bipush 24, 2) := by decide +kernel
theorem dX3_init_69 : decode cX3_init 69 = .ok (.newarray .int, 2) := by decide +kernel
theorem dX3_init_71 : decode cX3_init 71 = .ok (.putfield 38, 3) := by decide +kernel
theorem dX3_init_74 : decode cX3_init 74 = .ok (.aload_n 0, 1) := by decide +kernel
theorem dX3_init_75 : decode cX3_init 75 = .ok (.iconst 3, 1) := by decide +kernel
theorem dX3_init_76 : decode cX3_init 76 = .ok (.newarray .int, 2) := by decide +kernel
theorem dX3_init_78 : decode cX3_init 78 = .ok (.putfield 41, 3) := by decide +kernel
theorem dX3_init_81 : decode cX3_init 81 = .ok (.aload_n 0, 1) := by decide +kernel
theorem dX3_init_82 : decode cX3_init 82 = .ok (.bipush 24, 2) := by decide +kernel
theorem dX3_init_84 : decode cX3_init 84 = .ok (.newarray .int, 2) := by decide +kernel
theorem dX3_init_86 : decode cX3_init 86 = .ok (.putfield 44, 3) := by decide +kernel
theorem dX3_init_89 : decode cX3_init 89 = .ok (.return_, 1) := by decide +kernel
theorem dX3_copyFrom_0 : decode cX3_copyFrom 0 = .ok (.aload_n 0, 1) := by decide +kernel
theorem dX3_copyFrom_1 : decode cX3_copyFrom 1 = .ok (.aload_n 1, 1) := by decide +kernel
theorem dX3_copyFrom_2 : decode cX3_copyFrom 2 = .ok (.getfield 9, 3) := by decide +kernel
theorem dX3_copyFrom_5 : decode cX3_copyFrom 5 = .ok (.putfield 9, 3) := by decide +kernel
theorem dX3_copyFrom_8 : decode cX3_copyFrom 8 = .ok (.aload_n 0, 1) := by decide +kernel
theorem dX3_copyFrom_9 : decode cX3_copyFrom 9 = .ok (.aload_n 1, 1) := by decide +kernel
theorem dX3_copyFrom_10 : decode cX3_copyFrom 10 = .ok (.getfield 15, 3) := by decide +kernel
theorem dX3_copyFrom_13 : decode cX3_copyFrom 13 = .ok (.putfield 15, 3) := by decide +kernel
theorem dX3_copyFrom_16 : decode cX3_copyFrom 16 = .ok (.aload_n 0, 1) := by decide +kernel
theorem dX3_copyFrom_17 : decode cX3_copyFrom 17 = .ok (.aload_n 1, 1) := by decide +kernel
theorem dX3_copyFrom_18 : decode cX3_copyFrom 18 = .ok (.getfield 18, 3) := by decide +kernel
theorem dX3_copyFrom_21 : decode cX3_copyFrom 21 = .ok (.putfield 18, 3) := by decide +kernel
theorem dX3_copyFrom_24 : decode cX3_copyFrom 24 = .ok (.aload_n 0, 1) := by decide +kernel
theorem dX3_copyFrom_25 : decode cX3_copyFrom 25 = .ok (.aload_n 1, 1) := by decide +kernel
theorem dX3_copyFrom_26 : decode cX3_copyFrom 26 = .ok (.getfield 22, 3) := by decide +kernel
theorem dX3_copyFrom_29 : decode cX3_copyFrom 29 = .ok (.putfield 22, 3) := by decide +kernel
theorem dX3_copyFrom_32 : decode cX3_copyFrom 32 = .ok (.aload_n 0, 1) := by decide +kernel
theorem dX3_copyFrom_33 : decode cX3_copyFrom 33 = .ok (.aload_n 1, 1) := by decide +kernel
theorem dX3_copyFrom_34 : decode cX3_copyFrom 34 = .ok (.getfield 25, 3) := by decide +kernel
theorem dX3_copyFrom_37 : decode cX3_copyFrom 37 = .ok (.putfield 25, 3) := by decide +kernel
theorem dX3_copyFrom_40 : decode cX3_copyFrom 40 = .ok (.aload_n 0, 1) := by decide +kernel
theorem dX3_copyFrom_41 : decode cX3_copyFrom 41 = .ok (.aload_n 1, 1) := by decide +kernel
theorem dX3_copyFrom_42 : decode cX3_copyFrom 42 = .ok (.getfield 28, 3) := by decide +kernel
theorem dX3_copyFrom_45 : decode cX3_copyFrom 45 = .ok (.putfield 28, 3) := by decide +kernel
theorem dX3_copyFrom_48 : decode cX3_copyFrom 48 = .ok (.aload_n 0, 1) := by decide +kernel
theorem dX3_copyFrom_49 : decode cX3_copyFrom 49 = .ok (.aload_n 1, 1) := by decide +kernel
theorem dX3_copyFrom_50 : decode cX3_copyFrom 50 = .ok (.getfield 31, 3) := by decide +kernel
theorem dX3_copyFrom_53 : decode cX3_copyFrom 53 = .ok (.putfield 31, 3) := by decide +kernel
theorem dX3_copyFrom_56 : decode cX3_copyFrom 56 = .ok (.aload_n 1, 1) := by decide +kernel
theorem dX3_copyFrom_57 : decode cX3_copyFrom 57 = .ok (.getfield 34, 3) := by decide +kernel
theorem dX3_copyFrom_60 : decode cX3_copyFrom 60 = .ok (.aload_n 0, 1) := by decide +kernel
theorem dX3_copyFrom_61 : decode cX3_copyFrom 61 = .ok (.getfield 34, 3) := by decide +kernel
theorem dX3_copyFrom_64 : decode cX3_copyFrom 64 = .ok (.invokestatic 47, 3) := by decide +kernel
theorem dX3_copyFrom_67 : decode cX3_copyFrom 67 = .ok (.aload_n 1, 1) := by decide +kernel
theorem dX3_copyFrom_68 : decode cX3_copyFrom 68 = .ok (.getfield 38, 3) := by decide +kernel
theorem dX3_copyFrom_71 : decode cX3_copyFrom 71 = .ok (.aload_n 0, 1) := by decide +kernel
theorem dX3_copyFrom_72 : decode cX3_copyFrom 72 = .ok (.getfield 38, 3) := by decide +kernel
theorem dX3_copyFrom_75 : decode cX3_copyFrom 75 = .ok (.invokestatic 47, 3) := by decide +kernel
theorem dX3_copyFrom_78 : decode cX3_copyFrom 78 = .ok (.aload_n 1, 1) := by decide +kernel
theorem dX3_copyFrom_79 : decode cX3_copyFrom 79 = .ok (.getfield 41, 3) := by decide +kernel
theorem dX3_copyFrom_82 : decode cX3_copyFrom 82 = .ok (.aload_n 0, 1) := by decide +kernel
theorem dX3_copyFrom_83 : decode cX3_copyFrom 83 = .ok (.getfield 41, 3) := by decide +kernel
theorem dX3_copyFrom_86 : decode cX3_copyFrom 86 = .ok (.invokestatic 47, 3) := by decide +kernel
theorem dX3_copyFrom_89 : decode cX3_copyFrom 89 = .ok (.aload_n 1, 1) := by decide +kernel
theorem dX3_copyFrom_90 : decode cX3_copyFrom 90 = .ok (.getfield 44, 3) := by decide +kernel
theorem dX3_copyFrom_93 : decode cX3_copyFrom 93 = .ok (.aload_n 0, 1) := by decide +kernel
theorem dX3_copyFrom_94 : decode cX3_copyFrom 94 = .ok (.getfield 44, 3) := by decide +kernel
theorem dX3_copyFrom_97 : decode cX3_copyFrom 97 = .ok (.invokestatic 47, 3) := by decide +kernel
theorem dX3_copyFrom_100 : decode cX3_copyFrom 100 = .ok (.return_, 1) := by decide +kernel
theorem dX3_angle_0 : decode cX3_angle 0 = .ok (.aload_n 0, 1) := by decide +kernel
theorem dX3_angle_1 : decode cX3_angle 1 = .ok (.getfield 9, 3) := by decide +kernel
theorem dX3_angle_4 : decode cX3_angle 4 = .ok (.sipush 4080, 3) := by decide +kernel
theorem dX3_angle_7 : decode cX3_angle 7 = .ok (.invokestatic 51, 3) := by decide +kernel
theorem dX3_angle_10 : decode cX3_angle 10 = .ok (.ireturn, 1) := by decide +kernel
theorem dX3_coarse_0 : decode cX3_coarse 0 = .ok (.aload_n 0, 1) := by decide +kernel
theorem dX3_coarse_1 : decode cX3_coarse 1 = .ok (.invokevirtual 55, 3) := by decide +kernel
theorem dX3_coarse_4 : decode cX3_coarse 4 = .ok (.bipush 64, 2) := by decide +kernel
theorem dX3_coarse_6 : decode cX3_coarse 6 = .ok (.imul, 1) := by decide +kernel
theorem dX3_coarse_7 : decode cX3_coarse 7 = .ok (.sipush 4080, 3) := by decide +kernel
theorem dX3_coarse_10 : decode cX3_coarse 10 = .ok (.idiv, 1) := by decide +kernel
theorem dX3_coarse_11 : decode cX3_coarse 11 = .ok (.istore_n 1, 1) := by decide +kernel
theorem dX3_coarse_12 : decode cX3_coarse 12 = .ok (.iload_n 1, 1) := by decide +kernel
theorem dX3_coarse_13 : decode cX3_coarse 13 = .ok (.aload_n 0, 1) := by decide +kernel
theorem dX3_coarse_14 : decode cX3_coarse 14 = .ok (.getfield 34, 3) := by decide +kernel
theorem dX3_coarse_17 : decode cX3_coarse 17 = .ok (.iconst 3, 1) := by decide +kernel
theorem dX3_coarse_18 : decode cX3_coarse 18 = .ok (.invokestatic 59, 3) := by decide +kernel
theorem dX3_coarse_21 : decode cX3_coarse 21 = .ok (.iadd, 1) := by decide +kernel
theorem dX3_coarse_22 : decode cX3_coarse 22 = .ok (.bipush 64, 2) := by decide +kernel
theorem dX3_coarse_24 : decode cX3_coarse 24 = .ok (.invokestatic 51, 3) := by decide +kernel
theorem dX3_coarse_27 : decode cX3_coarse 27 = .ok (.ireturn, 1) := by decide +kernel
theorem dX3_readingAt_0 : decode cX3_readingAt 0 = .ok (.aload_n 0, 1) := by decide +kernel
theorem dX3_readingAt_1 : decode cX3_readingAt 1 = .ok (.getfield 38, 3) := by decide +kernel
theorem dX3_readingAt_4 : decode cX3_readingAt 4 = .ok (.iload_n 1, 1) := by decide +kernel
theorem dX3_readingAt_5 : decode cX3_readingAt 5 = .ok (.iload_n 2, 1) := by decide +kernel
theorem dX3_readingAt_6 : decode cX3_readingAt 6 = .ok (.invokestatic 63, 3) := by decide +kernel
theorem dX3_readingAt_9 : decode cX3_readingAt 9 = .ok (.invokestatic 67, 3) := by decide +kernel
theorem dX3_readingAt_12 : decode cX3_readingAt 12 = .ok (.invokestatic 59, 3) := by decide +kernel
theorem dX3_readingAt_15 : decode cX3_readingAt 15 = .ok (.istore_n 3, 1) := by decide +kernel
theorem dX3_readingAt_16 : decode cX3_readingAt 16 = .ok (.iload_n 2, 1) := by decide +kernel
theorem dX3_readingAt_17 : decode cX3_readingAt 17 = .ok (.iload_n 3, 1) := by decide +kernel
theorem dX3_readingAt_18 : decode cX3_readingAt 18 = .ok (.iadd, 1) := by decide +kernel
theorem dX3_readingAt_19 : decode cX3_readingAt 19 = .ok (.aload_n 0, 1) := by decide +kernel
theorem dX3_readingAt_20 : decode cX3_readingAt 20 = .ok (.getfield 41, 3) := by decide +kernel
theorem dX3_readingAt_23 : decode cX3_readingAt 23 = .ok (.iload_n 1, 1) := by decide +kernel
theorem dX3_readingAt_24 : decode cX3_readingAt 24 = .ok (.invokestatic 59, 3) := by decide +kernel
theorem dX3_readingAt_27 : decode cX3_readingAt 27 = .ok (.iadd, 1) := by decide +kernel
theorem dX3_readingAt_28 : decode cX3_readingAt 28 = .ok (.getstatic 70, 3) := by decide +kernel
theorem dX3_readingAt_31 : decode cX3_readingAt 31 = .ok (.iload_n 1, 1) := by decide +kernel
theorem dX3_readingAt_32 : decode cX3_readingAt 32 = .ok (.invokestatic 59, 3) := by decide +kernel
theorem dX3_readingAt_35 : decode cX3_readingAt 35 = .ok (.invokestatic 51, 3) := by decide +kernel
theorem dX3_readingAt_38 : decode cX3_readingAt 38 = .ok (.ireturn, 1) := by decide +kernel
theorem dX3_excess_0 : decode cX3_excess 0 = .ok (.getstatic 70, 3) := by decide +kernel
theorem dX3_excess_3 : decode cX3_excess 3 = .ok (.iload_n 1, 1) := by decide +kernel
theorem dX3_excess_4 : decode cX3_excess 4 = .ok (.invokestatic 59, 3) := by decide +kernel
theorem dX3_excess_7 : decode cX3_excess 7 = .ok (.istore_n 2, 1) := by decide +kernel
theorem dX3_excess_8 : decode cX3_excess 8 = .ok (.aload_n 0, 1) := by decide +kernel
theorem dX3_excess_9 : decode cX3_excess 9 = .ok (.iload_n 1, 1) := by decide +kernel
theorem dX3_excess_10 : decode cX3_excess 10 = .ok (.aload_n 0, 1) := by decide +kernel
theorem dX3_excess_11 : decode cX3_excess 11 = .ok (.invokevirtual 55, 3) := by decide +kernel
theorem dX3_excess_14 : decode cX3_excess 14 = .ok (.invokevirtual 73, 3) := by decide +kernel
theorem dX3_excess_17 : decode cX3_excess 17 = .ok (.aload_n 0, 1) := by decide +kernel
theorem dX3_excess_18 : decode cX3_excess 18 = .ok (.invokevirtual 55, 3) := by decide +kernel
theorem dX3_excess_21 : decode cX3_excess 21 = .ok (.isub, 1) := by decide +kernel
theorem dX3_excess_22 : decode cX3_excess 22 = .ok (.iload_n 2, 1) := by decide +kernel
theorem dX3_excess_23 : decode cX3_excess 23 = .ok (.invokestatic 51, 3) := by decide +kernel
theorem dX3_excess_26 : decode cX3_excess 26 = .ok (.istore_n 3, 1) := by decide +kernel
theorem dX3_excess_27 : decode cX3_excess 27 = .ok (.iload_n 3, 1) := by decide +kernel
theorem dX3_excess_28 : decode cX3_excess 28 = .ok (.iload_n 2, 1) := by decide +kernel
theorem dX3_excess_29 : decode cX3_excess 29 = .ok (.iconst 2, 1) := by decide +kernel
theorem dX3_excess_30 : decode cX3_excess 30 = .ok (.idiv, 1) := by decide +kernel
theorem dX3_excess_31 : decode cX3_excess 31 = .ok (.if_icmp .le 9, 3) := by decide +kernel
theorem dX3_excess_34 : decode cX3_excess 34 = .ok (.iload_n 3, 1) := by decide +kernel
theorem dX3_excess_35 : decode cX3_excess 35 = .ok (.iload_n 2, 1) := by decide +kernel
theorem dX3_excess_36 : decode cX3_excess 36 = .ok (.isub, 1) := by decide +kernel
theorem dX3_excess_37 : decode cX3_excess 37 = .ok (.goto 4, 3) := by decide +kernel
theorem dX3_excess_40 : decode cX3_excess 40 = .ok (.iload_n 3, 1) := by decide +kernel
theorem dX3_excess_41 : decode cX3_excess 41 = .ok (.ireturn, 1) := by decide +kernel
theorem dX3_corrected_0 : decode cX3_corrected 0 = .ok (.iload_n 2, 1) := by decide +kernel
theorem dX3_corrected_1 : decode cX3_corrected 1 = .ok (.aload_n 0, 1) := by decide +kernel
theorem dX3_corrected_2 : decode cX3_corrected 2 = .ok (.getfield 44, 3) := by decide +kernel
theorem dX3_corrected_5 : decode cX3_corrected 5 = .ok (.iload_n 1, 1) := by decide +kernel
theorem dX3_corrected_6 : decode cX3_corrected 6 = .ok (.iload_n 3, 1) := by decide +kernel
theorem dX3_corrected_7 : decode cX3_corrected 7 = .ok (.invokestatic 67, 3) := by decide +kernel
theorem dX3_corrected_10 : decode cX3_corrected 10 = .ok (.invokestatic 59, 3) := by decide +kernel
theorem dX3_corrected_13 : decode cX3_corrected 13 = .ok (.isub, 1) := by decide +kernel
theorem dX3_corrected_14 : decode cX3_corrected 14 = .ok (.getstatic 70, 3) := by decide +kernel
theorem dX3_corrected_17 : decode cX3_corrected 17 = .ok (.iload_n 1, 1) := by decide +kernel
theorem dX3_corrected_18 : decode cX3_corrected 18 = .ok (.invokestatic 59, 3) := by decide +kernel
theorem dX3_corrected_21 : decode cX3_corrected 21 = .ok (.invokestatic 51, 3) := by decide +kernel
theorem dX3_corrected_24 : decode cX3_corrected 24 = .ok (.ireturn, 1) := by decide +kernel
theorem dX3_correctionsInUse_0 : decode cX3_correctionsInUse 0 = .ok (.iconst 0, 1) := by decide +kernel
theorem dX3_correctionsInUse_1 : decode cX3_correctionsInUse 1 = .ok (.istore_n 1, 1) := by decide +kernel
theorem dX3_correctionsInUse_2 : decode cX3_correctionsInUse 2 = .ok (.iconst 0, 1) := by decide +kernel
theorem dX3_correctionsInUse_3 : decode cX3_correctionsInUse 3 = .ok (.istore_n 2, 1) := by decide +kernel
theorem dX3_correctionsInUse_4 : decode cX3_correctionsInUse 4 = .ok (.iload_n 2, 1) := by decide +kernel
theorem dX3_correctionsInUse_5 : decode cX3_correctionsInUse 5 = .ok (.bipush 24, 2) := by decide +kernel
theorem dX3_correctionsInUse_7 : decode cX3_correctionsInUse 7 = .ok (.if_icmp .ge 23, 3) := by decide +kernel
theorem dX3_correctionsInUse_10 : decode cX3_correctionsInUse 10 = .ok (.aload_n 0, 1) := by decide +kernel
theorem dX3_correctionsInUse_11 : decode cX3_correctionsInUse 11 = .ok (.getfield 44, 3) := by decide +kernel
theorem dX3_correctionsInUse_14 : decode cX3_correctionsInUse 14 = .ok (.iload_n 2, 1) := by decide +kernel
theorem dX3_correctionsInUse_15 : decode cX3_correctionsInUse 15 = .ok (.invokestatic 59, 3) := by decide +kernel
theorem dX3_correctionsInUse_18 : decode cX3_correctionsInUse 18 = .ok (.ifCond .eq 6, 3) := by decide +kernel
theorem dX3_correctionsInUse_21 : decode cX3_correctionsInUse 21 = .ok (.iinc 1 1, 3) := by decide +kernel
theorem dX3_correctionsInUse_24 : decode cX3_correctionsInUse 24 = .ok (.iinc 2 1, 3) := by decide +kernel
theorem dX3_correctionsInUse_27 : decode cX3_correctionsInUse 27 = .ok (.goto (-23), 3) := by decide +kernel
theorem dX3_correctionsInUse_30 : decode cX3_correctionsInUse 30 = .ok (.iload_n 1, 1) := by decide +kernel
theorem dX3_correctionsInUse_31 : decode cX3_correctionsInUse 31 = .ok (.ireturn, 1) := by decide +kernel
theorem dX3_isPoor_0 : decode cX3_isPoor 0 = .ok (.iconst 0, 1) := by decide +kernel
theorem dX3_isPoor_1 : decode cX3_isPoor 1 = .ok (.istore_n 2, 1) := by decide +kernel
theorem dX3_isPoor_2 : decode cX3_isPoor 2 = .ok (.iload_n 2, 1) := by decide +kernel
theorem dX3_isPoor_3 : decode cX3_isPoor 3 = .ok (.iconst 3, 1) := by decide +kernel
theorem dX3_isPoor_4 : decode cX3_isPoor 4 = .ok (.if_icmp .ge 61, 3) := by decide +kernel
theorem dX3_isPoor_7 : decode cX3_isPoor 7 = .ok (.iload_n 2, 1) := by decide +kernel
theorem dX3_isPoor_8 : decode cX3_isPoor 8 = .ok (.iload_n 1, 1) := by decide +kernel
theorem dX3_isPoor_9 : decode cX3_isPoor 9 = .ok (.invokestatic 67, 3) := by decide +kernel
theorem dX3_isPoor_12 : decode cX3_isPoor 12 = .ok (.istore_n 3, 1) := by decide +kernel
theorem dX3_isPoor_13 : decode cX3_isPoor 13 = .ok (.aload_n 0, 1) := by decide +kernel
theorem dX3_isPoor_14 : decode cX3_isPoor 14 = .ok (.getfield 38, 3) := by decide +kernel
theorem dX3_isPoor_17 : decode cX3_isPoor 17 = .ok (.iload_n 3, 1) := by decide +kernel
theorem dX3_isPoor_18 : decode cX3_isPoor 18 = .ok (.invokestatic 59, 3) := by decide +kernel
theorem dX3_isPoor_21 : decode cX3_isPoor 21 = .ok (.aload_n 0, 1) := by decide +kernel
theorem dX3_isPoor_22 : decode cX3_isPoor 22 = .ok (.getfield 41, 3) := by decide +kernel
theorem dX3_isPoor_25 : decode cX3_isPoor 25 = .ok (.iload_n 2, 1) := by decide +kernel
theorem dX3_isPoor_26 : decode cX3_isPoor 26 = .ok (.invokestatic 59, 3) := by decide +kernel
theorem dX3_isPoor_29 : decode cX3_isPoor 29 = .ok (.iadd, 1) := by decide +kernel
theorem dX3_isPoor_30 : decode cX3_isPoor 30 = .ok (.aload_n 0, 1) := by decide +kernel
theorem dX3_isPoor_31 : decode cX3_isPoor 31 = .ok (.getfield 44, 3) := by decide +kernel
theorem dX3_isPoor_34 : decode cX3_isPoor 34 = .ok (.iload_n 3, 1) := by decide +kernel
theorem dX3_isPoor_35 : decode cX3_isPoor 35 = .ok (.invokestatic 59, 3) := by decide +kernel
theorem dX3_isPoor_38 : decode cX3_isPoor 38 = .ok (.isub, 1) := by decide +kernel
theorem dX3_isPoor_39 : decode cX3_isPoor 39 = .ok (.istore 4, 2) := by decide +kernel
theorem dX3_isPoor_41 : decode cX3_isPoor 41 = .ok (.iload 4, 2) := by decide +kernel
theorem dX3_isPoor_43 : decode cX3_isPoor 43 = .ok (.invokestatic 76, 3) := by decide +kernel
theorem dX3_isPoor_46 : decode cX3_isPoor 46 = .ok (.aload_n 0, 1) := by decide +kernel
theorem dX3_isPoor_47 : decode cX3_isPoor 47 = .ok (.getfield 34, 3) := by decide +kernel
theorem dX3_isPoor_50 : decode cX3_isPoor 50 = .ok (.iconst 0, 1) := by decide +kernel
theorem dX3_isPoor_51 : decode cX3_isPoor 51 = .ok (.invokestatic 59, 3) := by decide +kernel
theorem dX3_isPoor_54 : decode cX3_isPoor 54 = .ok (.if_icmp .le 5, 3) := by decide +kernel
theorem dX3_isPoor_57 : decode cX3_isPoor 57 = .ok (.iconst 1, 1) := by decide +kernel
theorem dX3_isPoor_58 : decode cX3_isPoor 58 = .ok (.ireturn, 1) := by decide +kernel
theorem dX3_isPoor_59 : decode cX3_isPoor 59 = .ok (.iinc 2 1, 3) := by decide +kernel
theorem dX3_isPoor_62 : decode cX3_isPoor 62 = .ok (.goto (-60), 3) := by decide +kernel
theorem dX3_isPoor_65 : decode cX3_isPoor 65 = .ok (.iconst 0, 1) := by decide +kernel
theorem dX3_isPoor_66 : decode cX3_isPoor 66 = .ok (.ireturn, 1) := by decide +kernel
theorem dX3_crossBound_0 : decode cX3_crossBound 0 = .ok (.aload_n 0, 1) := by decide +kernel
theorem dX3_crossBound_1 : decode cX3_crossBound 1 = .ok (.getfield 18, 3) := by decide +kernel
theorem dX3_crossBound_4 : decode cX3_crossBound 4 = .ok (.ifCond .ne 39, 3) := by decide +kernel
theorem dX3_crossBound_7 : decode cX3_crossBound 7 = .ok (.aload_n 0, 1) := by decide +kernel
theorem dX3_crossBound_8 : decode cX3_crossBound 8 = .ok (.getfield 22, 3) := by decide +kernel
theorem dX3_crossBound_11 : decode cX3_crossBound 11 = .ok (.ifCond .ne 4, 3) := by decide +kernel
theorem dX3_crossBound_14 : decode cX3_crossBound 14 = .ok (.return_, 1) := by decide +kernel
theorem dX3_crossBound_15 : decode cX3_crossBound 15 = .ok (.aload_n 0, 1) := by decide +kernel
theorem dX3_crossBound_16 : decode cX3_crossBound 16 = .ok (.dup, 1) := by decide +kernel
theorem dX3_crossBound_17 : decode cX3_crossBound 17 = .ok (.getfield 22, 3) := by decide +kernel
theorem dX3_crossBound_20 : decode cX3_crossBound 20 = .ok (.iconst 1, 1) := by decide +kernel
theorem dX3_crossBound_21 : decode cX3_crossBound 21 = .ok (.isub, 1) := by decide +kernel
theorem dX3_crossBound_22 : decode cX3_crossBound 22 = .ok (.putfield 22, 3) := by decide +kernel
theorem dX3_crossBound_25 : decode cX3_crossBound 25 = .ok (.aload_n 0, 1) := by decide +kernel
theorem dX3_crossBound_26 : decode cX3_crossBound 26 = .ok (.getfield 25, 3) := by decide +kernel
theorem dX3_crossBound_29 : decode cX3_crossBound 29 = .ok (.ifCond .le 14, 3) := by decide +kernel
theorem dX3_crossBound_32 : decode cX3_crossBound 32 = .ok (.aload_n 0, 1) := by decide +kernel
theorem dX3_crossBound_33 : decode cX3_crossBound 33 = .ok (.dup, 1) := by decide +kernel
theorem dX3_crossBound_34 : decode cX3_crossBound 34 = .ok (.getfield 25, 3) := by decide +kernel
theorem dX3_crossBound_37 : decode cX3_crossBound 37 = .ok (.iconst 1, 1) := by decide +kernel
theorem dX3_crossBound_38 : decode cX3_crossBound 38 = .ok (.isub, 1) := by decide +kernel
theorem dX3_crossBound_39 : decode cX3_crossBound 39 = .ok (.putfield 25, 3) := by decide +kernel
theorem dX3_crossBound_42 : decode cX3_crossBound 42 = .ok (.return_, 1) := by decide +kernel
theorem dX3_crossBound_43 : decode cX3_crossBound 43 = .ok (.aload_n 0, 1) := by decide +kernel
theorem dX3_crossBound_44 : decode cX3_crossBound 44 = .ok (.aload_n 0, 1) := by decide +kernel
theorem dX3_crossBound_45 : decode cX3_crossBound 45 = .ok (.getfield 15, 3) := by decide +kernel
theorem dX3_crossBound_48 : decode cX3_crossBound 48 = .ok (.iload_n 1, 1) := by decide +kernel
theorem dX3_crossBound_49 : decode cX3_crossBound 49 = .ok (.iadd, 1) := by decide +kernel
theorem dX3_crossBound_50 : decode cX3_crossBound 50 = .ok (.bipush 64, 2) := by decide +kernel
theorem dX3_crossBound_52 : decode cX3_crossBound 52 = .ok (.invokestatic 51, 3) := by decide +kernel
theorem dX3_crossBound_55 : decode cX3_crossBound 55 = .ok (.putfield 15, 3) := by decide +kernel
theorem dX3_crossBound_58 : decode cX3_crossBound 58 = .ok (.return_, 1) := by decide +kernel
theorem dX4_init_0 : decode cX4_init 0 = .ok (.aload_n 0, 1) := by decide +kernel
theorem dX4_init_1 : decode cX4_init 1 = .ok (.invokespecial 3, 3) := by decide +kernel
theorem dX4_init_4 : decode cX4_init 4 = .ok (.aload_n 0, 1) := by decide +kernel
theorem dX4_init_5 : decode cX4_init 5 = .ok (.iconst 0, 1) := by decide +kernel
theorem dX4_init_6 : decode cX4_init 6 = .ok (.putfield 9, 3) := by decide +kernel
theorem dX4_init_9 : decode cX4_init 9 = .ok (.aload_n 0, 1) := by decide +kernel
theorem dX4_init_10 : decode cX4_init 10 = .ok (.iconst 0, 1) := by decide +kernel
theorem dX4_init_11 : decode cX4_init 11 = .ok (.putfield 15, 3) := by decide +kernel
theorem dX4_init_14 : decode cX4_init 14 = .ok (.aload_n 0, 1) := by decide +kernel
theorem dX4_init_15 : decode cX4_init 15 = .ok (.iconst 0, 1) := by decide +kernel
theorem dX4_init_16 : decode cX4_init 16 = .ok (.putfield 18, 3) := by decide +kernel
theorem dX4_init_19 : decode cX4_init 19 = .ok (.aload_n 0, 1) := by decide +kernel
theorem dX4_init_20 : decode cX4_init 20 = .ok (.iconst 0, 1) := by decide +kernel
theorem dX4_init_21 : decode cX4_init 21 = .ok (.putfield 21, 3) := by decide +kernel
theorem dX4_init_24 : decode cX4_init 24 = .ok (.return_, 1) := by decide +kernel
theorem dX4_judge_0 : decode cX4_judge 0 = .ok (.aload_n 0, 1) := by decide +kernel
theorem dX4_judge_1 : decode cX4_judge 1 = .ok (.aload_n 1, 1) := by decide +kernel
theorem dX4_judge_2 : decode cX4_judge 2 = .ok (.getfield 24, 3) := by decide +kernel
theorem dX4_judge_5 : decode cX4_judge 5 = .ok (.putfield 15, 3) := by decide +kernel
theorem dX4_judge_8 : decode cX4_judge 8 = .ok (.aload_n 0, 1) := by decide +kernel
theorem dX4_judge_9 : decode cX4_judge 9 = .ok (.aload_n 1, 1) := by decide +kernel
theorem dX4_judge_10 : decode cX4_judge 10 = .ok (.getfield 27, 3) := by decide +kernel
theorem dX4_judge_13 : decode cX4_judge 13 = .ok (.putfield 18, 3) := by decide +kernel
theorem dX4_judge_16 : decode cX4_judge 16 = .ok (.aload_n 0, 1) := by decide +kernel
theorem dX4_judge_17 : decode cX4_judge 17 = .ok (.aload_n 0, 1) := by decide +kernel
theorem dX4_judge_18 : decode cX4_judge 18 = .ok (.aload_n 1, 1) := by decide +kernel
theorem dX4_judge_19 : decode cX4_judge 19 = .ok (.aload_n 2, 1) := by decide +kernel
theorem dX4_judge_20 : decode cX4_judge 20 = .ok (.invokevirtual 28, 3) := by decide +kernel
theorem dX4_judge_23 : decode cX4_judge 23 = .ok (.putfield 9, 3) := by decide +kernel
theorem dX4_judge_26 : decode cX4_judge 26 = .ok (.return_, 1) := by decide +kernel
theorem dX4_firstRefusal_0 : decode cX4_firstRefusal 0 = .ok (.aload_n 2, 1) := by decide +kernel
theorem dX4_firstRefusal_1 : decode cX4_firstRefusal 1 = .ok (.getfield 32, 3) := by decide +kernel
theorem dX4_firstRefusal_4 : decode cX4_firstRefusal 4 = .ok (.aload_n 1, 1) := by decide +kernel
theorem dX4_firstRefusal_5 : decode cX4_firstRefusal 5 = .ok (.getfield 37, 3) := by decide +kernel
theorem dX4_firstRefusal_8 : decode cX4_firstRefusal 8 = .ok (.iconst 0, 1) := by decide +kernel
theorem dX4_firstRefusal_9 : decode cX4_firstRefusal 9 = .ok (.invokestatic 41, 3) := by decide +kernel
theorem dX4_firstRefusal_12 : decode cX4_firstRefusal 12 = .ok (.if_icmp .le 5, 3) := by decide +kernel
theorem dX4_firstRefusal_15 : decode cX4_firstRefusal 15 = .ok (.iconst 1, 1) := by decide +kernel
theorem dX4_firstRefusal_16 : decode cX4_firstRefusal 16 = .ok (.ireturn, 1) := by decide +kernel
theorem dX4_firstRefusal_17 : decode cX4_firstRefusal 17 = .ok (.aload_n 2, 1) := by decide +kernel
theorem dX4_firstRefusal_18 : decode cX4_firstRefusal 18 = .ok (.getfield 45, 3) := by decide +kernel
theorem dX4_firstRefusal_21 : decode cX4_firstRefusal 21 = .ok (.sipush 1020, 3) := by decide +kernel
theorem dX4_firstRefusal_24 : decode cX4_firstRefusal 24 = .ok (.idiv, 1) := by decide +kernel
theorem dX4_firstRefusal_25 : decode cX4_firstRefusal 25 = .ok (.aload_n 1, 1) := by decide +kernel
theorem dX4_firstRefusal_26 : decode cX4_firstRefusal 26 = .ok (.getfield 24, 3) := by decide +kernel
theorem dX4_firstRefusal_29 : decode cX4_firstRefusal 29 = .ok (.isub, 1) := by decide +kernel
theorem dX4_firstRefusal_30 : decode cX4_firstRefusal 30 = .ok (.iconst 4, 1) := by decide +kernel
theorem dX4_firstRefusal_31 : decode cX4_firstRefusal 31 = .ok (.invokestatic 48, 3) := by decide +kernel
theorem dX4_firstRefusal_34 : decode cX4_firstRefusal 34 = .ok (.istore_n 3, 1) := by decide +kernel
theorem dX4_firstRefusal_35 : decode cX4_firstRefusal 35 = .ok (.iload_n 3, 1) := by decide +kernel
theorem dX4_firstRefusal_36 : decode cX4_firstRefusal 36 = .ok (.iconst 2, 1) := by decide +kernel
theorem dX4_firstRefusal_37 : decode cX4_firstRefusal 37 = .ok (.if_icmp .ne 5, 3) := by decide +kernel
theorem dX4_firstRefusal_40 : decode cX4_firstRefusal 40 = .ok (.iconst 2, 1) := by decide +kernel
theorem dX4_firstRefusal_41 : decode cX4_firstRefusal 41 = .ok (.ireturn, 1) := by decide +kernel
theorem dX4_firstRefusal_42 : decode cX4_firstRefusal 42 = .ok (.iload_n 3, 1) := by decide +kernel
theorem dX4_firstRefusal_43 : decode cX4_firstRefusal 43 = .ok (.iconst 3, 1) := by decide +kernel
theorem dX4_firstRefusal_44 : decode cX4_firstRefusal 44 = .ok (.if_icmp .ne 7, 3) := by decide +kernel
theorem dX4_firstRefusal_47 : decode cX4_firstRefusal 47 = .ok (.iconst (-1), 1) := by decide +kernel
theorem dX4_firstRefusal_48 : decode cX4_firstRefusal 48 = .ok (.goto 4, 3) := by decide +kernel
theorem dX4_firstRefusal_51 : decode cX4_firstRefusal 51 = .ok (.iload_n 3, 1) := by decide +kernel
theorem dX4_firstRefusal_52 : decode cX4_firstRefusal 52 = .ok (.istore 4, 2) := by decide +kernel
theorem dX4_firstRefusal_54 : decode cX4_firstRefusal 54 = .ok (.aload_n 0, 1) := by decide +kernel
theorem dX4_firstRefusal_55 : decode cX4_firstRefusal 55 = .ok (.aload_n 1, 1) := by decide +kernel
theorem dX4_firstRefusal_56 : decode cX4_firstRefusal 56 = .ok (.getfield 24, 3) := by decide +kernel
theorem dX4_firstRefusal_59 : decode cX4_firstRefusal 59 = .ok (.iload 4, 2) := by decide +kernel
theorem dX4_firstRefusal_61 : decode cX4_firstRefusal 61 = .ok (.iadd, 1) := by decide +kernel
theorem dX4_firstRefusal_62 : decode cX4_firstRefusal 62 = .ok (.bipush 64, 2) := by decide +kernel
theorem dX4_firstRefusal_64 : decode cX4_firstRefusal 64 = .ok (.invokestatic 48, 3) := by decide +kernel
theorem dX4_firstRefusal_67 : decode cX4_firstRefusal 67 = .ok (.putfield 15, 3) := by decide +kernel
theorem dX4_firstRefusal_70 : decode cX4_firstRefusal 70 = .ok (.aload_n 0, 1) := by decide +kernel
theorem dX4_firstRefusal_71 : decode cX4_firstRefusal 71 = .ok (.aload_n 0, 1) := by decide +kernel
theorem dX4_firstRefusal_72 : decode cX4_firstRefusal 72 = .ok (.getfield 15, 3) := by decide +kernel
theorem dX4_firstRefusal_75 : decode cX4_firstRefusal 75 = .ok (.iconst 4, 1) := by decide +kernel
theorem dX4_firstRefusal_76 : decode cX4_firstRefusal 76 = .ok (.idiv, 1) := by decide +kernel
theorem dX4_firstRefusal_77 : decode cX4_firstRefusal 77 = .ok (.sipush 4080, 3) := by decide +kernel
theorem dX4_firstRefusal_80 : decode cX4_firstRefusal 80 = .ok (.imul, 1) := by decide +kernel
theorem dX4_firstRefusal_81 : decode cX4_firstRefusal 81 = .ok (.aload_n 2, 1) := by decide +kernel
theorem dX4_firstRefusal_82 : decode cX4_firstRefusal 82 = .ok (.getfield 45, 3) := by decide +kernel
theorem dX4_firstRefusal_85 : decode cX4_firstRefusal 85 = .ok (.iadd, 1) := by decide +kernel
theorem dX4_firstRefusal_86 : decode cX4_firstRefusal 86 = .ok (.putfield 21, 3) := by decide +kernel
theorem dX4_firstRefusal_89 : decode cX4_firstRefusal 89 = .ok (.aload_n 2, 1) := by decide +kernel
theorem dX4_firstRefusal_90 : decode cX4_firstRefusal 90 = .ok (.getfield 45, 3) := by decide +kernel
theorem dX4_firstRefusal_93 : decode cX4_firstRefusal 93 = .ok (.bipush 64, 2) := by decide +kernel
theorem dX4_firstRefusal_95 : decode cX4_firstRefusal 95 = .ok (.imul, 1) := by decide +kernel
theorem dX4_firstRefusal_96 : decode cX4_firstRefusal 96 = .ok (.sipush 4080, 3) := by decide +kernel
theorem dX4_firstRefusal_99 : decode cX4_firstRefusal 99 = .ok (.idiv, 1) := by decide +kernel
theorem dX4_firstRefusal_100 : decode cX4_firstRefusal 100 = .ok (.istore 5, 2) := by decide +kernel
theorem dX4_firstRefusal_102 : decode cX4_firstRefusal 102 = .ok (.aload_n 1, 1) := by decide +kernel
theorem dX4_firstRefusal_103 : decode cX4_firstRefusal 103 = .ok (.invokevirtual 52, 3) := by decide +kernel
theorem dX4_firstRefusal_106 : decode cX4_firstRefusal 106 = .ok (.iload 5, 2) := by decide +kernel
theorem dX4_firstRefusal_108 : decode cX4_firstRefusal 108 = .ok (.bipush 64, 2) := by decide +kernel
theorem dX4_firstRefusal_110 : decode cX4_firstRefusal 110 = .ok (.invokestatic 56, 3) := by decide +kernel
theorem dX4_firstRefusal_113 : decode cX4_firstRefusal 113 = .ok (.aload_n 1, 1) := by decide +kernel
theorem dX4_firstRefusal_114 : decode cX4_firstRefusal 114 = .ok (.getfield 37, 3) := by decide +kernel
theorem dX4_firstRefusal_117 : decode cX4_firstRefusal 117 = .ok (.iconst 1, 1) := by decide +kernel
theorem dX4_firstRefusal_118 : decode cX4_firstRefusal 118 = .ok (.invokestatic 41, 3) := by decide +kernel
theorem dX4_firstRefusal_121 : decode cX4_firstRefusal 121 = .ok (.if_icmp .le 7, 3) := by decide +kernel
theorem dX4_firstRefusal_124 : decode cX4_firstRefusal 124 = .ok (.iconst 1, 1) := by decide +kernel
theorem dX4_firstRefusal_125 : decode cX4_firstRefusal 125 = .ok (.goto 4, 3) := by decide +kernel
theorem dX4_firstRefusal_128 : decode cX4_firstRefusal 128 = .ok (.iconst 0, 1) := by decide +kernel
theorem dX4_firstRefusal_129 : decode cX4_firstRefusal 129 = .ok (.istore 6, 2) := by decide +kernel
theorem dX4_firstRefusal_131 : decode cX4_firstRefusal 131 = .ok (.aload_n 0, 1) := by decide +kernel
theorem dX4_firstRefusal_132 : decode cX4_firstRefusal 132 = .ok (.iload 6, 2) := by decide +kernel
theorem dX4_firstRefusal_134 : decode cX4_firstRefusal 134 = .ok (.ifCond .eq 12, 3) := by decide +kernel
theorem dX4_firstRefusal_137 : decode cX4_firstRefusal 137 = .ok (.aload_n 1, 1) := by decide +kernel
theorem dX4_firstRefusal_138 : decode cX4_firstRefusal 138 = .ok (.getfield 27, 3) := by decide +kernel
theorem dX4_firstRefusal_141 : decode cX4_firstRefusal 141 = .ok (.iconst 1, 1) := by decide +kernel
theorem dX4_firstRefusal_142 : decode cX4_firstRefusal 142 = .ok (.iadd, 1) := by decide +kernel
theorem dX4_firstRefusal_143 : decode cX4_firstRefusal 143 = .ok (.goto 4, 3) := by decide +kernel
theorem dX4_firstRefusal_146 : decode cX4_firstRefusal 146 = .ok (.iconst 0, 1) := by decide +kernel
theorem dX4_firstRefusal_147 : decode cX4_firstRefusal 147 = .ok (.putfield 18, 3) := by decide +kernel
theorem dX4_firstRefusal_150 : decode cX4_firstRefusal 150 = .ok (.aload_n 0, 1) := by decide +kernel
theorem dX4_firstRefusal_151 : decode cX4_firstRefusal 151 = .ok (.getfield 18, 3) := by decide +kernel
theorem dX4_firstRefusal_154 : decode cX4_firstRefusal 154 = .ok (.iconst 3, 1) := by decide +kernel
theorem dX4_firstRefusal_155 : decode cX4_firstRefusal 155 = .ok (.if_icmp .lt 5, 3) := by decide +kernel
theorem dX4_firstRefusal_158 : decode cX4_firstRefusal 158 = .ok (.iconst 3, 1) := by decide +kernel
theorem dX4_firstRefusal_159 : decode cX4_firstRefusal 159 = .ok (.ireturn, 1) := by decide +kernel
theorem dX4_firstRefusal_160 : decode cX4_firstRefusal 160 = .ok (.aload_n 1, 1) := by decide +kernel
theorem dX4_firstRefusal_161 : decode cX4_firstRefusal 161 = .ok (.getfield 60, 3) := by decide +kernel
theorem dX4_firstRefusal_164 : decode cX4_firstRefusal 164 = .ok (.iconst (-1), 1) := by decide +kernel
theorem dX4_firstRefusal_165 : decode cX4_firstRefusal 165 = .ok (.if_icmp .eq 29, 3) := by decide +kernel
theorem dX4_firstRefusal_168 : decode cX4_firstRefusal 168 = .ok (.aload_n 1, 1) := by decide +kernel
theorem dX4_firstRefusal_169 : decode cX4_firstRefusal 169 = .ok (.getfield 60, 3) := by decide +kernel
theorem dX4_firstRefusal_172 : decode cX4_firstRefusal 172 = .ok (.aload_n 0, 1) := by decide +kernel
theorem dX4_firstRefusal_173 : decode cX4_firstRefusal 173 = .ok (.getfield 21, 3) := by decide +kernel
theorem dX4_firstRefusal_176 : decode cX4_firstRefusal 176 = .ok (.ldc 63, 2) := by decide +kernel
theorem dX4_firstRefusal_178 : decode cX4_firstRefusal 178 = .ok (.invokestatic 56, 3) := by decide +kernel
theorem dX4_firstRefusal_181 : decode cX4_firstRefusal 181 = .ok (.aload_n 1, 1) := by decide +kernel
theorem dX4_firstRefusal_182 : decode cX4_firstRefusal 182 = .ok (.getfield 37, 3) := by decide +kernel
theorem dX4_firstRefusal_185 : decode cX4_firstRefusal 185 = .ok (.iconst 2, 1) := by decide +kernel
theorem dX4_firstRefusal_186 : decode cX4_firstRefusal 186 = .ok (.invokestatic 41, 3) := by decide +kernel
theorem dX4_firstRefusal_189 : decode cX4_firstRefusal 189 = .ok (.if_icmp .le 5, 3) := by decide +kernel
theorem dX4_firstRefusal_192 : decode cX4_firstRefusal 192 = .ok (.iconst 4, 1) := by decide +kernel
theorem dX4_firstRefusal_193 : decode cX4_firstRefusal 193 = .ok (.ireturn, 1) := by decide +kernel
theorem dX4_firstRefusal_194 : decode cX4_firstRefusal 194 = .ok (.iconst 0, 1) := by decide +kernel
theorem dX4_firstRefusal_195 : decode cX4_firstRefusal 195 = .ok (.ireturn, 1) := by decide +kernel
theorem dX5_init_0 : decode cX5_init 0 = .ok (.aload_n 0, 1) := by decide +kernel
theorem dX5_init_1 : decode cX5_init 1 = .ok (.invokespecial 3, 3) := by decide +kernel
theorem dX5_init_4 : decode cX5_init 4 = .ok (.aload_n 0, 1) := by decide +kernel
theorem dX5_init_5 : decode cX5_init 5 = .ok (.new 9, 3) := by decide +kernel
theorem dX5_init_8 : decode cX5_init 8 = .ok (.dup, 1) := by decide +kernel
theorem dX5_init_9 : decode cX5_init 9 = .ok (.invokespecial 11, 3) := by decide +kernel
theorem dX5_init_12 : decode cX5_init 12 = .ok (.putfield 12, 3) := by decide +kernel
theorem dX5_init_15 : decode cX5_init 15 = .ok (.aload_n 0, 1) := by decide +kernel
theorem dX5_init_16 : decode cX5_init 16 = .ok (.new 16, 3) := by decide +kernel
theorem dX5_init_19 : decode cX5_init 19 = .ok (.dup, 1) := by decide +kernel
theorem dX5_init_20 : decode cX5_init 20 = .ok (.invokespecial 18, 3) := by decide +kernel
theorem dX5_init_23 : decode cX5_init 23 = .ok (.putfield 19, 3) := by decide +kernel
theorem dX5_init_26 : decode cX5_init 26 = .ok (.aload_n 0, 1) := by decide +kernel
theorem dX5_init_27 : decode cX5_init 27 = .ok (.new 23, 3) := by decide +kernel
theorem dX5_init_30 : decode cX5_init 30 = .ok (.dup, 1) := by decide +kernel
theorem dX5_init_31 : decode cX5_init 31 = .ok (.invokespecial 25, 3) := by decide +kernel
theorem dX5_init_34 : decode cX5_init 34 = .ok (.putfield 26, 3) := by decide +kernel
theorem dX5_init_37 : decode cX5_init 37 = .ok (.aload_n 0, 1) := by decide +kernel
theorem dX5_init_38 : decode cX5_init 38 = .ok (.new 30, 3) := by decide +kernel
theorem dX5_init_41 : decode cX5_init 41 = .ok (.dup, 1) := by decide +kernel
theorem dX5_init_42 : decode cX5_init 42 = .ok (.invokespecial 32, 3) := by decide +kernel
theorem dX5_init_45 : decode cX5_init 45 = .ok (.putfield 33, 3) := by decide +kernel
theorem dX5_init_48 : decode cX5_init 48 = .ok (.aload_n 0, 1) := by decide +kernel
theorem dX5_init_49 : decode cX5_init 49 = .ok (.new 37, 3) := by decide +kernel
theorem dX5_init_52 : decode cX5_init 52 = .ok (.dup, 1) := by decide +kernel
theorem dX5_init_53 : decode cX5_init 53 = .ok (.invokespecial 39, 3) := by decide +kernel
theorem dX5_init_56 : decode cX5_init 56 = .ok (.putfield 40, 3) := by decide +kernel
theorem dX5_init_59 : decode cX5_init 59 = .ok (.return_, 1) := by decide +kernel
theorem dX5_turn_0 : decode cX5_turn 0 = .ok (.iload_n 1, 1) := by decide +kernel
theorem dX5_turn_1 : decode cX5_turn 1 = .ok (.sipush (-9999), 3) := by decide +kernel
theorem dX5_turn_4 : decode cX5_turn 4 = .ok (.sipush 9999, 3) := by decide +kernel
theorem dX5_turn_7 : decode cX5_turn 7 = .ok (.invokestatic 44, 3) := by decide +kernel
theorem dX5_turn_10 : decode cX5_turn 10 = .ok (.ifCond .eq 5, 3) := by decide +kernel
theorem dX5_turn_13 : decode cX5_turn 13 = .ok (.iconst (-1), 1) := by decide +kernel
theorem dX5_turn_14 : decode cX5_turn 14 = .ok (.ireturn, 1) := by decide +kernel
theorem dX5_turn_15 : decode cX5_turn 15 = .ok (.aload_n 0, 1) := by decide +kernel
theorem dX5_turn_16 : decode cX5_turn 16 = .ok (.getfield 12, 3) := by decide +kernel
theorem dX5_turn_19 : decode cX5_turn 19 = .ok (.getfield 48, 3) := by decide +kernel
theorem dX5_turn_22 : decode cX5_turn 22 = .ok (.iload_n 1, 1) := by decide +kernel
theorem dX5_turn_23 : decode cX5_turn 23 = .ok (.iadd, 1) := by decide +kernel
theorem dX5_turn_24 : decode cX5_turn 24 = .ok (.istore_n 2, 1) := by decide +kernel
theorem dX5_turn_25 : decode cX5_turn 25 = .ok (.iload_n 2, 1) := by decide +kernel
theorem dX5_turn_26 : decode cX5_turn 26 = .ok (.iconst 0, 1) := by decide +kernel
theorem dX5_turn_27 : decode cX5_turn 27 = .ok (.ldc 52, 2) := by decide +kernel
theorem dX5_turn_29 : decode cX5_turn 29 = .ok (.invokestatic 44, 3) := by decide +kernel
theorem dX5_turn_32 : decode cX5_turn 32 = .ok (.ifCond .eq 6, 3) := by decide +kernel
theorem dX5_turn_35 : decode cX5_turn 35 = .ok (.bipush (-2), 2) := by decide +kernel
theorem dX5_turn_37 : decode cX5_turn 37 = .ok (.ireturn, 1) := by decide +kernel
theorem dX5_turn_38 : decode cX5_turn 38 = .ok (.aload_n 0, 1) := by decide +kernel
theorem dX5_turn_39 : decode cX5_turn 39 = .ok (.getfield 19, 3) := by decide +kernel
theorem dX5_turn_42 : decode cX5_turn 42 = .ok (.aload_n 0, 1) := by decide +kernel
theorem dX5_turn_43 : decode cX5_turn 43 = .ok (.getfield 12, 3) := by decide +kernel
theorem dX5_turn_46 : decode cX5_turn 46 = .ok (.invokevirtual 53, 3) := by decide +kernel
theorem dX5_turn_49 : decode cX5_turn 49 = .ok (.iload_n 2, 1) := by decide +kernel
theorem dX5_turn_50 : decode cX5_turn 50 = .ok (.sipush 1020, 3) := by decide +kernel
theorem dX5_turn_53 : decode cX5_turn 53 = .ok (.idiv, 1) := by decide +kernel
theorem dX5_turn_54 : decode cX5_turn 54 = .ok (.aload_n 0, 1) := by decide +kernel
theorem dX5_turn_55 : decode cX5_turn 55 = .ok (.getfield 12, 3) := by decide +kernel
theorem dX5_turn_58 : decode cX5_turn 58 = .ok (.getfield 48, 3) := by decide +kernel
theorem dX5_turn_61 : decode cX5_turn 61 = .ok (.sipush 1020, 3) := by decide +kernel
theorem dX5_turn_64 : decode cX5_turn 64 = .ok (.idiv, 1) := by decide +kernel
theorem dX5_turn_65 : decode cX5_turn 65 = .ok (.isub, 1) := by decide +kernel
theorem dX5_turn_66 : decode cX5_turn 66 = .ok (.istore_n 3, 1) := by decide +kernel
theorem dX5_turn_67 : decode cX5_turn 67 = .ok (.iload_n 3, 1) := by decide +kernel
theorem dX5_turn_68 : decode cX5_turn 68 = .ok (.ifCond .ge 7, 3) := by decide +kernel
theorem dX5_turn_71 : decode cX5_turn 71 = .ok (.iconst (-1), 1) := by decide +kernel
theorem dX5_turn_72 : decode cX5_turn 72 = .ok (.goto 4, 3) := by decide +kernel
theorem dX5_turn_75 : decode cX5_turn 75 = .ok (.iconst 1, 1) := by decide +kernel
theorem dX5_turn_76 : decode cX5_turn 76 = .ok (.istore 4, 2) := by decide +kernel
theorem dX5_turn_78 : decode cX5_turn 78 = .ok (.iconst 0, 1) := by decide +kernel
theorem dX5_turn_79 : decode cX5_turn 79 = .ok (.istore 5, 2) := by decide +kernel
theorem dX5_turn_81 : decode cX5_turn 81 = .ok (.iload 5, 2) := by decide +kernel
theorem dX5_turn_83 : decode cX5_turn 83 = .ok (.iload_n 3, 1) := by decide +kernel
theorem dX5_turn_84 : decode cX5_turn 84 = .ok (.invokestatic 57, 3) := by decide +kernel
theorem dX5_turn_87 : decode cX5_turn 87 = .ok (.if_icmp .ge 18, 3) := by decide +kernel
theorem dX5_turn_90 : decode cX5_turn 90 = .ok (.aload_n 0, 1) := by decide +kernel
theorem dX5_turn_91 : decode cX5_turn 91 = .ok (.getfield 12, 3) := by decide +kernel
theorem dX5_turn_94 : decode cX5_turn 94 = .ok (.iload 4, 2) := by decide +kernel
theorem dX5_turn_96 : decode cX5_turn 96 = .ok (.invokevirtual 63, 3) := by decide +kernel
theorem dX5_turn_99 : decode cX5_turn 99 = .ok (.iinc 5 1, 3) := by decide +kernel
theorem dX5_turn_102 : decode cX5_turn 102 = .ok (.goto (-21), 3) := by decide +kernel
theorem dX5_turn_105 : decode cX5_turn 105 = .ok (.aload_n 0, 1) := by decide +kernel
theorem dX5_turn_106 : decode cX5_turn 106 = .ok (.getfield 12, 3) := by decide +kernel
theorem dX5_turn_109 : decode cX5_turn 109 = .ok (.iload_n 2, 1) := by decide +kernel
theorem dX5_turn_110 : decode cX5_turn 110 = .ok (.putfield 48, 3) := by decide +kernel
theorem dX5_turn_113 : decode cX5_turn 113 = .ok (.iload_n 2, 1) := by decide +kernel
theorem dX5_turn_114 : decode cX5_turn 114 = .ok (.ireturn, 1) := by decide +kernel
theorem dX5_power_0 : decode cX5_power 0 = .ok (.iload_n 1, 1) := by decide +kernel
theorem dX5_power_1 : decode cX5_power 1 = .ok (.iconst 0, 1) := by decide +kernel
theorem dX5_power_2 : decode cX5_power 2 = .ok (.iconst 1, 1) := by decide +kernel
theorem dX5_power_3 : decode cX5_power 3 = .ok (.invokestatic 44, 3) := by decide +kernel
theorem dX5_power_6 : decode cX5_power 6 = .ok (.ifCond .eq 5, 3) := by decide +kernel
theorem dX5_power_9 : decode cX5_power 9 = .ok (.iconst (-1), 1) := by decide +kernel
theorem dX5_power_10 : decode cX5_power 10 = .ok (.ireturn, 1) := by decide +kernel
theorem dX5_power_11 : decode cX5_power 11 = .ok (.aload_n 0, 1) := by decide +kernel
theorem dX5_power_12 : decode cX5_power 12 = .ok (.getfield 19, 3) := by decide +kernel
theorem dX5_power_15 : decode cX5_power 15 = .ok (.aload_n 0, 1) := by decide +kernel
theorem dX5_power_16 : decode cX5_power 16 = .ok (.getfield 12, 3) := by decide +kernel
theorem dX5_power_19 : decode cX5_power 19 = .ok (.invokevirtual 53, 3) := by decide +kernel
theorem dX5_power_22 : decode cX5_power 22 = .ok (.aload_n 0, 1) := by decide +kernel
theorem dX5_power_23 : decode cX5_power 23 = .ok (.getfield 12, 3) := by decide +kernel
theorem dX5_power_26 : decode cX5_power 26 = .ok (.getfield 67, 3) := by decide +kernel
theorem dX5_power_29 : decode cX5_power 29 = .ok (.invokestatic 71, 3) := by decide +kernel
theorem dX5_power_32 : decode cX5_power 32 = .ok (.istore_n 2, 1) := by decide +kernel
theorem dX5_power_33 : decode cX5_power 33 = .ok (.aload_n 0, 1) := by decide +kernel
theorem dX5_power_34 : decode cX5_power 34 = .ok (.getfield 12, 3) := by decide +kernel
theorem dX5_power_37 : decode cX5_power 37 = .ok (.iload_n 1, 1) := by decide +kernel
theorem dX5_power_38 : decode cX5_power 38 = .ok (.iconst 1, 1) := by decide +kernel
theorem dX5_power_39 : decode cX5_power 39 = .ok (.if_icmp .ne 7, 3) := by decide +kernel
theorem dX5_power_42 : decode cX5_power 42 = .ok (.iconst 1, 1) := by decide +kernel
theorem dX5_power_43 : decode cX5_power 43 = .ok (.goto 4, 3) := by decide +kernel
theorem dX5_power_46 : decode cX5_power 46 = .ok (.iconst 0, 1) := by decide +kernel
theorem dX5_power_47 : decode cX5_power 47 = .ok (.putfield 67, 3) := by decide +kernel
theorem dX5_power_50 : decode cX5_power 50 = .ok (.iload_n 2, 1) := by decide +kernel
theorem dX5_power_51 : decode cX5_power 51 = .ok (.ireturn, 1) := by decide +kernel
theorem dX5_brownout_0 : decode cX5_brownout 0 = .ok (.iload_n 1, 1) := by decide +kernel
theorem dX5_brownout_1 : decode cX5_brownout 1 = .ok (.iconst 1, 1) := by decide +kernel
theorem dX5_brownout_2 : decode cX5_brownout 2 = .ok (.bipush 9, 2) := by decide +kernel
theorem dX5_brownout_4 : decode cX5_brownout 4 = .ok (.invokestatic 44, 3) := by decide +kernel
theorem dX5_brownout_7 : decode cX5_brownout 7 = .ok (.ifCond .eq 5, 3) := by decide +kernel
theorem dX5_brownout_10 : decode cX5_brownout 10 = .ok (.iconst (-1), 1) := by decide +kernel
theorem dX5_brownout_11 : decode cX5_brownout 11 = .ok (.ireturn, 1) := by decide +kernel
theorem dX5_brownout_12 : decode cX5_brownout 12 = .ok (.aload_n 0, 1) := by decide +kernel
theorem dX5_brownout_13 : decode cX5_brownout 13 = .ok (.getfield 12, 3) := by decide +kernel
theorem dX5_brownout_16 : decode cX5_brownout 16 = .ok (.getfield 75, 3) := by decide +kernel
theorem dX5_brownout_19 : decode cX5_brownout 19 = .ok (.iload_n 1, 1) := by decide +kernel
theorem dX5_brownout_20 : decode cX5_brownout 20 = .ok (.iadd, 1) := by decide +kernel
theorem dX5_brownout_21 : decode cX5_brownout 21 = .ok (.bipush 99, 2) := by decide +kernel
theorem dX5_brownout_23 : decode cX5_brownout 23 = .ok (.if_icmp .le 6, 3) := by decide +kernel
theorem dX5_brownout_26 : decode cX5_brownout 26 = .ok (.bipush (-3), 2) := by decide +kernel
theorem dX5_brownout_28 : decode cX5_brownout 28 = .ok (.ireturn, 1) := by decide +kernel
theorem dX5_brownout_29 : decode cX5_brownout 29 = .ok (.aload_n 0, 1) := by decide +kernel
theorem dX5_brownout_30 : decode cX5_brownout 30 = .ok (.getfield 19, 3) := by decide +kernel
theorem dX5_brownout_33 : decode cX5_brownout 33 = .ok (.aload_n 0, 1) := by decide +kernel
theorem dX5_brownout_34 : decode cX5_brownout 34 = .ok (.getfield 12, 3) := by decide +kernel
theorem dX5_brownout_37 : decode cX5_brownout 37 = .ok (.invokevirtual 53, 3) := by decide +kernel
theorem dX5_brownout_40 : decode cX5_brownout 40 = .ok (.aload_n 0, 1) := by decide +kernel
theorem dX5_brownout_41 : decode cX5_brownout 41 = .ok (.getfield 12, 3) := by decide +kernel
theorem dX5_brownout_44 : decode cX5_brownout 44 = .ok (.dup, 1) := by decide +kernel
theorem dX5_brownout_45 : decode cX5_brownout 45 = .ok (.getfield 75, 3) := by decide +kernel
theorem dX5_brownout_48 : decode cX5_brownout 48 = .ok (.iload_n 1, 1) := by decide +kernel
theorem dX5_brownout_49 : decode cX5_brownout 49 = .ok (.iadd, 1) := by decide +kernel
theorem dX5_brownout_50 : decode cX5_brownout 50 = .ok (.putfield 75, 3) := by decide +kernel
theorem dX5_brownout_53 : decode cX5_brownout 53 = .ok (.aload_n 0, 1) := by decide +kernel
theorem dX5_brownout_54 : decode cX5_brownout 54 = .ok (.getfield 12, 3) := by decide +kernel
theorem dX5_brownout_57 : decode cX5_brownout 57 = .ok (.getfield 75, 3) := by decide +kernel
theorem dX5_brownout_60 : decode cX5_brownout 60 = .ok (.ireturn, 1) := by decide +kernel
theorem dX5_charge_0 : decode cX5_charge 0 = .ok (.iload_n 1, 1) := by decide +kernel
theorem dX5_charge_1 : decode cX5_charge 1 = .ok (.iconst 0, 1) := by decide +kernel
theorem dX5_charge_2 : decode cX5_charge 2 = .ok (.sipush 999, 3) := by decide +kernel
theorem dX5_charge_5 : decode cX5_charge 5 = .ok (.invokestatic 44, 3) := by decide +kernel
theorem dX5_charge_8 : decode cX5_charge 8 = .ok (.ifCond .eq 5, 3) := by decide +kernel
theorem dX5_charge_11 : decode cX5_charge 11 = .ok (.iconst (-1), 1) := by decide +kernel
theorem dX5_charge_12 : decode cX5_charge 12 = .ok (.ireturn, 1) := by decide +kernel
theorem dX5_charge_13 : decode cX5_charge 13 = .ok (.aload_n 0, 1) := by decide +kernel
theorem dX5_charge_14 : decode cX5_charge 14 = .ok (.getfield 19, 3) := by decide +kernel
theorem dX5_charge_17 : decode cX5_charge 17 = .ok (.aload_n 0, 1) := by decide +kernel
theorem dX5_charge_18 : decode cX5_charge 18 = .ok (.getfield 12, 3) := by decide +kernel
theorem dX5_charge_21 : decode cX5_charge 21 = .ok (.invokevirtual 53, 3) := by decide +kernel
theorem dX5_charge_24 : decode cX5_charge 24 = .ok (.aload_n 0, 1) := by decide +kernel
theorem dX5_charge_25 : decode cX5_charge 25 = .ok (.getfield 12, 3) := by decide +kernel
theorem dX5_charge_28 : decode cX5_charge 28 = .ok (.getfield 78, 3) := by decide +kernel
theorem dX5_charge_31 : decode cX5_charge 31 = .ok (.istore_n 2, 1) := by decide +kernel
theorem dX5_charge_32 : decode cX5_charge 32 = .ok (.aload_n 0, 1) := by decide +kernel
theorem dX5_charge_33 : decode cX5_charge 33 = .ok (.getfield 12, 3) := by decide +kernel
theorem dX5_charge_36 : decode cX5_charge 36 = .ok (.iload_n 1, 1) := by decide +kernel
theorem dX5_charge_37 : decode cX5_charge 37 = .ok (.putfield 78, 3) := by decide +kernel
theorem dX5_charge_40 : decode cX5_charge 40 = .ok (.iload_n 2, 1) := by decide +kernel
theorem dX5_charge_41 : decode cX5_charge 41 = .ok (.ireturn, 1) := by decide +kernel
theorem dX5_count_0 : decode cX5_count 0 = .ok (.iload_n 1, 1) := by decide +kernel
theorem dX5_count_1 : decode cX5_count 1 = .ok (.tableswitch 178 0 11 #[63, 71, 79, 87, 98, 106, 114, 138, 146, 154, 162, 170], 63) := by decide +kernel
theorem dX5_count_64 : decode cX5_count 64 = .ok (.aload_n 0, 1) := by decide +kernel
theorem dX5_count_65 : decode cX5_count 65 = .ok (.getfield 12, 3) := by decide +kernel
theorem dX5_count_68 : decode cX5_count 68 = .ok (.getfield 48, 3) := by decide +kernel
theorem dX5_count_71 : decode cX5_count 71 = .ok (.ireturn, 1) := by decide +kernel
theorem dX5_count_72 : decode cX5_count 72 = .ok (.aload_n 0, 1) := by decide +kernel
theorem dX5_count_73 : decode cX5_count 73 = .ok (.getfield 12, 3) := by decide +kernel
theorem dX5_count_76 : decode cX5_count 76 = .ok (.invokevirtual 81, 3) := by decide +kernel
theorem dX5_count_79 : decode cX5_count 79 = .ok (.ireturn, 1) := by decide +kernel
theorem dX5_count_80 : decode cX5_count 80 = .ok (.aload_n 0, 1) := by decide +kernel
theorem dX5_count_81 : decode cX5_count 81 = .ok (.getfield 12, 3) := by decide +kernel
theorem dX5_count_84 : decode cX5_count 84 = .ok (.getfield 85, 3) := by decide +kernel
theorem dX5_count_87 : decode cX5_count 87 = .ok (.ireturn, 1) := by decide +kernel
theorem dX5_count_88 : decode cX5_count 88 = .ok (.aload_n 0, 1) := by decide +kernel
theorem dX5_count_89 : decode cX5_count 89 = .ok (.getfield 12, 3) := by decide +kernel
theorem dX5_count_92 : decode cX5_count 92 = .ok (.getfield 67, 3) := by decide +kernel
theorem dX5_count_95 : decode cX5_count 95 = .ok (.invokestatic 71, 3) := by decide +kernel
theorem dX5_count_98 : decode cX5_count 98 = .ok (.ireturn, 1) := by decide +kernel
theorem dX5_count_99 : decode cX5_count 99 = .ok (.aload_n 0, 1) := by decide +kernel
theorem dX5_count_100 : decode cX5_count 100 = .ok (.getfield 12, 3) := by decide +kernel
theorem dX5_count_103 : decode cX5_count 103 = .ok (.getfield 78, 3) := by decide +kernel
theorem dX5_count_106 : decode cX5_count 106 = .ok (.ireturn, 1) := by decide +kernel
theorem dX5_count_107 : decode cX5_count 107 = .ok (.aload_n 0, 1) := by decide +kernel
theorem dX5_count_108 : decode cX5_count 108 = .ok (.getfield 12, 3) := by decide +kernel
theorem dX5_count_111 : decode cX5_count 111 = .ok (.getfield 75, 3) := by decide +kernel
theorem dX5_count_114 : decode cX5_count 114 = .ok (.ireturn, 1) := by decide +kernel
theorem dX5_count_115 : decode cX5_count 115 = .ok (.aload_n 0, 1) := by decide +kernel
theorem dX5_count_116 : decode cX5_count 116 = .ok (.getfield 12, 3) := by decide +kernel
theorem dX5_count_119 : decode cX5_count 119 = .ok (.getfield 88, 3) := by decide +kernel
theorem dX5_count_122 : decode cX5_count 122 = .ok (.iconst (-1), 1) := by decide +kernel
theorem dX5_count_123 : decode cX5_count 123 = .ok (.if_icmp .ne 8, 3) := by decide +kernel
theorem dX5_count_126 : decode cX5_count 126 = .ok (.bipush (-4), 2) := by decide +kernel
theorem dX5_count_128 : decode cX5_count 128 = .ok (.goto 10, 3) := by decide +kernel
theorem dX5_count_131 : decode cX5_count 131 = .ok (.aload_n 0, 1) := by decide +kernel
theorem dX5_count_132 : decode cX5_count 132 = .ok (.getfield 12, 3) := by decide +kernel
theorem dX5_count_135 : decode cX5_count 135 = .ok (.getfield 88, 3) := by decide +kernel
theorem dX5_count_138 : decode cX5_count 138 = .ok (.ireturn, 1) := by decide +kernel
theorem dX5_count_139 : decode cX5_count 139 = .ok (.aload_n 0, 1) := by decide +kernel
theorem dX5_count_140 : decode cX5_count 140 = .ok (.getfield 12, 3) := by decide +kernel
theorem dX5_count_143 : decode cX5_count 143 = .ok (.getfield 91, 3) := by decide +kernel
theorem dX5_count_146 : decode cX5_count 146 = .ok (.ireturn, 1) := by decide +kernel
theorem dX5_count_147 : decode cX5_count 147 = .ok (.aload_n 0, 1) := by decide +kernel
theorem dX5_count_148 : decode cX5_count 148 = .ok (.getfield 12, 3) := by decide +kernel
theorem dX5_count_151 : decode cX5_count 151 = .ok (.invokevirtual 94, 3) := by decide +kernel
theorem dX5_count_154 : decode cX5_count 154 = .ok (.ireturn, 1) := by decide +kernel
theorem dX5_count_155 : decode cX5_count 155 = .ok (.aload_n 0, 1) := by decide +kernel
theorem dX5_count_156 : decode cX5_count 156 = .ok (.getfield 12, 3) := by decide +kernel
theorem dX5_count_159 : decode cX5_count 159 = .ok (.invokevirtual 97, 3) := by decide +kernel
theorem dX5_count_162 : decode cX5_count 162 = .ok (.ireturn, 1) := by decide +kernel
theorem dX5_count_163 : decode cX5_count 163 = .ok (.aload_n 0, 1) := by decide +kernel
theorem dX5_count_164 : decode cX5_count 164 = .ok (.getfield 19, 3) := by decide +kernel
theorem dX5_count_167 : decode cX5_count 167 = .ok (.getfield 100, 3) := by decide +kernel
theorem dX5_count_170 : decode cX5_count 170 = .ok (.ireturn, 1) := by decide +kernel
theorem dX5_count_171 : decode cX5_count 171 = .ok (.aload_n 0, 1) := by decide +kernel
theorem dX5_count_172 : decode cX5_count 172 = .ok (.getfield 40, 3) := by decide +kernel
theorem dX5_count_175 : decode cX5_count 175 = .ok (.getfield 103, 3) := by decide +kernel
theorem dX5_count_178 : decode cX5_count 178 = .ok (.ireturn, 1) := by decide +kernel
theorem dX5_count_179 : decode cX5_count 179 = .ok (.aload_n 0, 1) := by decide +kernel
theorem dX5_count_180 : decode cX5_count 180 = .ok (.iload_n 1, 1) := by decide +kernel
theorem dX5_count_181 : decode cX5_count 181 = .ok (.bipush 20, 2) := by decide +kernel
theorem dX5_count_183 : decode cX5_count 183 = .ok (.isub, 1) := by decide +kernel
theorem dX5_count_184 : decode cX5_count 184 = .ok (.invokevirtual 106, 3) := by decide +kernel
theorem dX5_count_187 : decode cX5_count 187 = .ok (.ireturn, 1) := by decide +kernel
theorem dX5_undo_0 : decode cX5_undo 0 = .ok (.aload_n 0, 1) := by decide +kernel
theorem dX5_undo_1 : decode cX5_undo 1 = .ok (.getfield 19, 3) := by decide +kernel
theorem dX5_undo_4 : decode cX5_undo 4 = .ok (.getfield 100, 3) := by decide +kernel
theorem dX5_undo_7 : decode cX5_undo 7 = .ok (.ifCond .ne 6, 3) := by decide +kernel
theorem dX5_undo_10 : decode cX5_undo 10 = .ok (.bipush (-2), 2) := by decide +kernel
theorem dX5_undo_12 : decode cX5_undo 12 = .ok (.ireturn, 1) := by decide +kernel
theorem dX5_undo_13 : decode cX5_undo 13 = .ok (.aload_n 0, 1) := by decide +kernel
theorem dX5_undo_14 : decode cX5_undo 14 = .ok (.getfield 19, 3) := by decide +kernel
theorem dX5_undo_17 : decode cX5_undo 17 = .ok (.aload_n 0, 1) := by decide +kernel
theorem dX5_undo_18 : decode cX5_undo 18 = .ok (.getfield 12, 3) := by decide +kernel
theorem dX5_undo_21 : decode cX5_undo 21 = .ok (.invokevirtual 109, 3) := by decide +kernel
theorem dX5_undo_24 : decode cX5_undo 24 = .ok (.aload_n 0, 1) := by decide +kernel
theorem dX5_undo_25 : decode cX5_undo 25 = .ok (.getfield 19, 3) := by decide +kernel
theorem dX5_undo_28 : decode cX5_undo 28 = .ok (.getfield 100, 3) := by decide +kernel
theorem dX5_undo_31 : decode cX5_undo 31 = .ok (.ireturn, 1) := by decide +kernel
theorem dX5_disk_0 : decode cX5_disk 0 = .ok (.iload_n 1, 1) := by decide +kernel
theorem dX5_disk_1 : decode cX5_disk 1 = .ok (.iload_n 2, 1) := by decide +kernel
theorem dX5_disk_2 : decode cX5_disk 2 = .ok (.invokestatic 112, 3) := by decide +kernel
theorem dX5_disk_5 : decode cX5_disk 5 = .ok (.ifCond .eq 14, 3) := by decide +kernel
theorem dX5_disk_8 : decode cX5_disk 8 = .ok (.iload_n 3, 1) := by decide +kernel
theorem dX5_disk_9 : decode cX5_disk 9 = .ok (.bipush (-9), 2) := by decide +kernel
theorem dX5_disk_11 : decode cX5_disk 11 = .ok (.bipush 9, 2) := by decide +kernel
theorem dX5_disk_13 : decode cX5_disk 13 = .ok (.invokestatic 44, 3) := by decide +kernel
theorem dX5_disk_16 : decode cX5_disk 16 = .ok (.ifCond .eq 5, 3) := by decide +kernel
theorem dX5_disk_19 : decode cX5_disk 19 = .ok (.iconst (-1), 1) := by decide +kernel
theorem dX5_disk_20 : decode cX5_disk 20 = .ok (.ireturn, 1) := by decide +kernel
theorem dX5_disk_21 : decode cX5_disk 21 = .ok (.aload_n 0, 1) := by decide +kernel
theorem dX5_disk_22 : decode cX5_disk 22 = .ok (.getfield 19, 3) := by decide +kernel
theorem dX5_disk_25 : decode cX5_disk 25 = .ok (.aload_n 0, 1) := by decide +kernel
theorem dX5_disk_26 : decode cX5_disk 26 = .ok (.getfield 12, 3) := by decide +kernel
theorem dX5_disk_29 : decode cX5_disk 29 = .ok (.invokevirtual 53, 3) := by decide +kernel
theorem dX5_disk_32 : decode cX5_disk 32 = .ok (.aload_n 0, 1) := by decide +kernel
theorem dX5_disk_33 : decode cX5_disk 33 = .ok (.getfield 12, 3) := by decide +kernel
theorem dX5_disk_36 : decode cX5_disk 36 = .ok (.getfield 116, 3) := by decide +kernel
theorem dX5_disk_39 : decode cX5_disk 39 = .ok (.iload_n 1, 1) := by decide +kernel
theorem dX5_disk_40 : decode cX5_disk 40 = .ok (.iload_n 2, 1) := by decide +kernel
theorem dX5_disk_41 : decode cX5_disk 41 = .ok (.invokestatic 120, 3) := by decide +kernel
theorem dX5_disk_44 : decode cX5_disk 44 = .ok (.invokestatic 124, 3) := by decide +kernel
theorem dX5_disk_47 : decode cX5_disk 47 = .ok (.istore 4, 2) := by decide +kernel
theorem dX5_disk_49 : decode cX5_disk 49 = .ok (.aload_n 0, 1) := by decide +kernel
theorem dX5_disk_50 : decode cX5_disk 50 = .ok (.getfield 12, 3) := by decide +kernel
theorem dX5_disk_53 : decode cX5_disk 53 = .ok (.getfield 116, 3) := by decide +kernel
theorem dX5_disk_56 : decode cX5_disk 56 = .ok (.iload_n 1, 1) := by decide +kernel
theorem dX5_disk_57 : decode cX5_disk 57 = .ok (.iload_n 2, 1) := by decide +kernel
theorem dX5_disk_58 : decode cX5_disk 58 = .ok (.invokestatic 120, 3) := by decide +kernel
theorem dX5_disk_61 : decode cX5_disk 61 = .ok (.iload_n 3, 1) := by decide +kernel
theorem dX5_disk_62 : decode cX5_disk 62 = .ok (.invokestatic 128, 3) := by decide +kernel
theorem dX5_disk_65 : decode cX5_disk 65 = .ok (.iload 4, 2) := by decide +kernel
theorem dX5_disk_67 : decode cX5_disk 67 = .ok (.bipush 100, 2) := by decide +kernel
theorem dX5_disk_69 : decode cX5_disk 69 = .ok (.iadd, 1) := by decide +kernel
theorem dX5_disk_70 : decode cX5_disk 70 = .ok (.ireturn, 1) := by decide +kernel
theorem dX5_noise_0 : decode cX5_noise 0 = .ok (.iload_n 1, 1) := by decide +kernel
theorem dX5_noise_1 : decode cX5_noise 1 = .ok (.invokestatic 132, 3) := by decide +kernel
theorem dX5_noise_4 : decode cX5_noise 4 = .ok (.ifCond .eq 14, 3) := by decide +kernel
theorem dX5_noise_7 : decode cX5_noise 7 = .ok (.iload_n 2, 1) := by decide +kernel
theorem dX5_noise_8 : decode cX5_noise 8 = .ok (.bipush (-9), 2) := by decide +kernel
theorem dX5_noise_10 : decode cX5_noise 10 = .ok (.bipush 9, 2) := by decide +kernel
theorem dX5_noise_12 : decode cX5_noise 12 = .ok (.invokestatic 44, 3) := by decide +kernel
theorem dX5_noise_15 : decode cX5_noise 15 = .ok (.ifCond .eq 5, 3) := by decide +kernel
theorem dX5_noise_18 : decode cX5_noise 18 = .ok (.iconst (-1), 1) := by decide +kernel
theorem dX5_noise_19 : decode cX5_noise 19 = .ok (.ireturn, 1) := by decide +kernel
theorem dX5_noise_20 : decode cX5_noise 20 = .ok (.aload_n 0, 1) := by decide +kernel
theorem dX5_noise_21 : decode cX5_noise 21 = .ok (.getfield 19, 3) := by decide +kernel
theorem dX5_noise_24 : decode cX5_noise 24 = .ok (.aload_n 0, 1) := by decide +kernel
theorem dX5_noise_25 : decode cX5_noise 25 = .ok (.getfield 12, 3) := by decide +kernel
theorem dX5_noise_28 : decode cX5_noise 28 = .ok (.invokevirtual 53, 3) := by decide +kernel
theorem dX5_noise_31 : decode cX5_noise 31 = .ok (.aload_n 0, 1) := by decide +kernel
theorem dX5_noise_32 : decode cX5_noise 32 = .ok (.getfield 12, 3) := by decide +kernel
theorem dX5_noise_35 : decode cX5_noise 35 = .ok (.getfield 136, 3) := by decide +kernel
theorem dX5_noise_38 : decode cX5_noise 38 = .ok (.iload_n 1, 1) := by decide +kernel
theorem dX5_noise_39 : decode cX5_noise 39 = .ok (.invokestatic 124, 3) := by decide +kernel
theorem dX5_noise_42 : decode cX5_noise 42 = .ok (.istore_n 3, 1) := by decide +kernel
theorem dX5_noise_43 : decode cX5_noise 43 = .ok (.aload_n 0, 1) := by decide +kernel
theorem dX5_noise_44 : decode cX5_noise 44 = .ok (.getfield 12, 3) := by decide +kernel
theorem dX5_noise_47 : decode cX5_noise 47 = .ok (.getfield 136, 3) := by decide +kernel
theorem dX5_noise_50 : decode cX5_noise 50 = .ok (.iload_n 1, 1) := by decide +kernel
theorem dX5_noise_51 : decode cX5_noise 51 = .ok (.iload_n 2, 1) := by decide +kernel
theorem dX5_noise_52 : decode cX5_noise 52 = .ok (.invokestatic 128, 3) := by decide +kernel
theorem dX5_noise_55 : decode cX5_noise 55 = .ok (.iload_n 3, 1) := by decide +kernel
theorem dX5_noise_56 : decode cX5_noise 56 = .ok (.bipush 100, 2) := by decide +kernel
theorem dX5_noise_58 : decode cX5_noise 58 = .ok (.iadd, 1) := by decide +kernel
theorem dX5_noise_59 : decode cX5_noise 59 = .ok (.ireturn, 1) := by decide +kernel
theorem dX5_set_0 : decode cX5_set 0 = .ok (.iload_n 1, 1) := by decide +kernel
theorem dX5_set_1 : decode cX5_set 1 = .ok (.iconst 0, 1) := by decide +kernel
theorem dX5_set_2 : decode cX5_set 2 = .ok (.iconst 3, 1) := by decide +kernel
theorem dX5_set_3 : decode cX5_set 3 = .ok (.invokestatic 44, 3) := by decide +kernel
theorem dX5_set_6 : decode cX5_set 6 = .ok (.ifCond .ne 24, 3) := by decide +kernel
theorem dX5_set_9 : decode cX5_set 9 = .ok (.iload_n 2, 1) := by decide +kernel
theorem dX5_set_10 : decode cX5_set 10 = .ok (.getstatic 139, 3) := by decide +kernel
theorem dX5_set_13 : decode cX5_set 13 = .ok (.iload_n 1, 1) := by decide +kernel
theorem dX5_set_14 : decode cX5_set 14 = .ok (.invokestatic 124, 3) := by decide +kernel
theorem dX5_set_17 : decode cX5_set 17 = .ok (.getstatic 142, 3) := by decide +kernel
theorem dX5_set_20 : decode cX5_set 20 = .ok (.iload_n 1, 1) := by decide +kernel
theorem dX5_set_21 : decode cX5_set 21 = .ok (.invokestatic 124, 3) := by decide +kernel
theorem dX5_set_24 : decode cX5_set 24 = .ok (.invokestatic 44, 3) := by decide +kernel
theorem dX5_set_27 : decode cX5_set 27 = .ok (.ifCond .eq 5, 3) := by decide +kernel
theorem dX5_set_30 : decode cX5_set 30 = .ok (.iconst (-1), 1) := by decide +kernel
theorem dX5_set_31 : decode cX5_set 31 = .ok (.ireturn, 1) := by decide +kernel
theorem dX5_set_32 : decode cX5_set 32 = .ok (.aload_n 0, 1) := by decide +kernel
theorem dX5_set_33 : decode cX5_set 33 = .ok (.getfield 19, 3) := by decide +kernel
theorem dX5_set_36 : decode cX5_set 36 = .ok (.aload_n 0, 1) := by decide +kernel
theorem dX5_set_37 : decode cX5_set 37 = .ok (.getfield 12, 3) := by decide +kernel
theorem dX5_set_40 : decode cX5_set 40 = .ok (.invokevirtual 53, 3) := by decide +kernel
theorem dX5_set_43 : decode cX5_set 43 = .ok (.aload_n 0, 1) := by decide +kernel
theorem dX5_set_44 : decode cX5_set 44 = .ok (.iload_n 1, 1) := by decide +kernel
theorem dX5_set_45 : decode cX5_set 45 = .ok (.invokevirtual 145, 3) := by decide +kernel
theorem dX5_set_48 : decode cX5_set 48 = .ok (.istore_n 3, 1) := by decide +kernel
theorem dX5_set_49 : decode cX5_set 49 = .ok (.aload_n 0, 1) := by decide +kernel
theorem dX5_set_50 : decode cX5_set 50 = .ok (.getfield 12, 3) := by decide +kernel
theorem dX5_set_53 : decode cX5_set 53 = .ok (.getfield 148, 3) := by decide +kernel
theorem dX5_set_56 : decode cX5_set 56 = .ok (.iload_n 1, 1) := by decide +kernel
theorem dX5_set_57 : decode cX5_set 57 = .ok (.iload_n 2, 1) := by decide +kernel
theorem dX5_set_58 : decode cX5_set 58 = .ok (.invokestatic 128, 3) := by decide +kernel
theorem dX5_set_61 : decode cX5_set 61 = .ok (.iload_n 3, 1) := by decide +kernel
theorem dX5_set_62 : decode cX5_set 62 = .ok (.ireturn, 1) := by decide +kernel
theorem dX5_reading_0 : decode cX5_reading 0 = .ok (.iload_n 1, 1) := by decide +kernel
theorem dX5_reading_1 : decode cX5_reading 1 = .ok (.invokestatic 132, 3) := by decide +kernel
theorem dX5_reading_4 : decode cX5_reading 4 = .ok (.ifCond .eq 21, 3) := by decide +kernel
theorem dX5_reading_7 : decode cX5_reading 7 = .ok (.aload_n 0, 1) := by decide +kernel
theorem dX5_reading_8 : decode cX5_reading 8 = .ok (.getfield 12, 3) := by decide +kernel
theorem dX5_reading_11 : decode cX5_reading 11 = .ok (.iload_n 1, 1) := by decide +kernel
theorem dX5_reading_12 : decode cX5_reading 12 = .ok (.aload_n 0, 1) := by decide +kernel
theorem dX5_reading_13 : decode cX5_reading 13 = .ok (.getfield 12, 3) := by decide +kernel
theorem dX5_reading_16 : decode cX5_reading 16 = .ok (.invokevirtual 81, 3) := by decide +kernel
theorem dX5_reading_19 : decode cX5_reading 19 = .ok (.invokevirtual 151, 3) := by decide +kernel
theorem dX5_reading_22 : decode cX5_reading 22 = .ok (.goto 4, 3) := by decide +kernel
theorem dX5_reading_25 : decode cX5_reading 25 = .ok (.iconst (-1), 1) := by decide +kernel
theorem dX5_reading_26 : decode cX5_reading 26 = .ok (.ireturn, 1) := by decide +kernel
theorem dX5_found_0 : decode cX5_found 0 = .ok (.iconst 0, 1) := by decide +kernel
theorem dX5_found_1 : decode cX5_found 1 = .ok (.iload_n 1, 1) := by decide +kernel
theorem dX5_found_2 : decode cX5_found 2 = .ok (.invokestatic 154, 3) := by decide +kernel
theorem dX5_found_5 : decode cX5_found 5 = .ok (.ifCond .eq 29, 3) := by decide +kernel
theorem dX5_found_8 : decode cX5_found 8 = .ok (.iconst 1, 1) := by decide +kernel
theorem dX5_found_9 : decode cX5_found 9 = .ok (.iload_n 2, 1) := by decide +kernel
theorem dX5_found_10 : decode cX5_found 10 = .ok (.invokestatic 154, 3) := by decide +kernel
theorem dX5_found_13 : decode cX5_found 13 = .ok (.ifCond .eq 21, 3) := by decide +kernel
theorem dX5_found_16 : decode cX5_found 16 = .ok (.iconst 2, 1) := by decide +kernel
theorem dX5_found_17 : decode cX5_found 17 = .ok (.iload_n 3, 1) := by decide +kernel
theorem dX5_found_18 : decode cX5_found 18 = .ok (.invokestatic 154, 3) := by decide +kernel
theorem dX5_found_21 : decode cX5_found 21 = .ok (.ifCond .eq 13, 3) := by decide +kernel
theorem dX5_found_24 : decode cX5_found 24 = .ok (.iload 4, 2) := by decide +kernel
theorem dX5_found_26 : decode cX5_found 26 = .ok (.iconst 0, 1) := by decide +kernel
theorem dX5_found_27 : decode cX5_found 27 = .ok (.iconst 1, 1) := by decide +kernel
theorem dX5_found_28 : decode cX5_found 28 = .ok (.invokestatic 44, 3) := by decide +kernel
theorem dX5_found_31 : decode cX5_found 31 = .ok (.ifCond .eq 5, 3) := by decide +kernel
theorem dX5_found_34 : decode cX5_found 34 = .ok (.iconst (-1), 1) := by decide +kernel
theorem dX5_found_35 : decode cX5_found 35 = .ok (.ireturn, 1) := by decide +kernel
theorem dX5_found_36 : decode cX5_found 36 = .ok (.iload_n 1, 1) := by decide +kernel
theorem dX5_found_37 : decode cX5_found 37 = .ok (.iload_n 2, 1) := by decide +kernel
theorem dX5_found_38 : decode cX5_found 38 = .ok (.iload_n 3, 1) := by decide +kernel
theorem dX5_found_39 : decode cX5_found 39 = .ok (.invokestatic 157, 3) := by decide +kernel
theorem dX5_found_42 : decode cX5_found 42 = .ok (.istore 5, 2) := by decide +kernel
theorem dX5_found_44 : decode cX5_found 44 = .ok (.iload 4, 2) := by decide +kernel
theorem dX5_found_46 : decode cX5_found 46 = .ok (.ifCond .ne 8, 3) := by decide +kernel
theorem dX5_found_49 : decode cX5_found 49 = .ok (.iload 5, 2) := by decide +kernel
theorem dX5_found_51 : decode cX5_found 51 = .ok (.goto 11, 3) := by decide +kernel
theorem dX5_found_54 : decode cX5_found 54 = .ok (.iload 5, 2) := by decide +kernel
theorem dX5_found_56 : decode cX5_found 56 = .ok (.iload_n 1, 1) := by decide +kernel
theorem dX5_found_57 : decode cX5_found 57 = .ok (.iload_n 2, 1) := by decide +kernel
theorem dX5_found_58 : decode cX5_found 58 = .ok (.iload_n 3, 1) := by decide +kernel
theorem dX5_found_59 : decode cX5_found 59 = .ok (.invokestatic 161, 3) := by decide +kernel
theorem dX5_found_62 : decode cX5_found 62 = .ok (.ireturn, 1) := by decide +kernel
theorem dX5_byTwo_0 : decode cX5_byTwo 0 = .ok (.iload_n 1, 1) := by decide +kernel
theorem dX5_byTwo_1 : decode cX5_byTwo 1 = .ok (.invokestatic 132, 3) := by decide +kernel
theorem dX5_byTwo_4 : decode cX5_byTwo 4 = .ok (.ifCond .eq 32, 3) := by decide +kernel
theorem dX5_byTwo_7 : decode cX5_byTwo 7 = .ok (.iload_n 3, 1) := by decide +kernel
theorem dX5_byTwo_8 : decode cX5_byTwo 8 = .ok (.invokestatic 132, 3) := by decide +kernel
theorem dX5_byTwo_11 : decode cX5_byTwo 11 = .ok (.ifCond .eq 25, 3) := by decide +kernel
theorem dX5_byTwo_14 : decode cX5_byTwo 14 = .ok (.iload_n 1, 1) := by decide +kernel
theorem dX5_byTwo_15 : decode cX5_byTwo 15 = .ok (.iload_n 3, 1) := by decide +kernel
theorem dX5_byTwo_16 : decode cX5_byTwo 16 = .ok (.if_icmp .eq 20, 3) := by decide +kernel
theorem dX5_byTwo_19 : decode cX5_byTwo 19 = .ok (.iload_n 1, 1) := by decide +kernel
theorem dX5_byTwo_20 : decode cX5_byTwo 20 = .ok (.iload_n 2, 1) := by decide +kernel
theorem dX5_byTwo_21 : decode cX5_byTwo 21 = .ok (.invokestatic 154, 3) := by decide +kernel
theorem dX5_byTwo_24 : decode cX5_byTwo 24 = .ok (.ifCond .eq 12, 3) := by decide +kernel
theorem dX5_byTwo_27 : decode cX5_byTwo 27 = .ok (.iload_n 3, 1) := by decide +kernel
theorem dX5_byTwo_28 : decode cX5_byTwo 28 = .ok (.iload 4, 2) := by decide +kernel
theorem dX5_byTwo_30 : decode cX5_byTwo 30 = .ok (.invokestatic 154, 3) := by decide +kernel
theorem dX5_byTwo_33 : decode cX5_byTwo 33 = .ok (.ifCond .ne 5, 3) := by decide +kernel
theorem dX5_byTwo_36 : decode cX5_byTwo 36 = .ok (.iconst (-1), 1) := by decide +kernel
theorem dX5_byTwo_37 : decode cX5_byTwo 37 = .ok (.ireturn, 1) := by decide +kernel
theorem dX5_byTwo_38 : decode cX5_byTwo 38 = .ok (.iconst 0, 1) := by decide +kernel
theorem dX5_byTwo_39 : decode cX5_byTwo 39 = .ok (.istore 5, 2) := by decide +kernel
theorem dX5_byTwo_41 : decode cX5_byTwo 41 = .ok (.iload 5, 2) := by decide +kernel
theorem dX5_byTwo_43 : decode cX5_byTwo 43 = .ok (.sipush 4080, 3) := by decide +kernel
theorem dX5_byTwo_46 : decode cX5_byTwo 46 = .ok (.if_icmp .ge 45, 3) := by decide +kernel
theorem dX5_byTwo_49 : decode cX5_byTwo 49 = .ok (.iload 5, 2) := by decide +kernel
theorem dX5_byTwo_51 : decode cX5_byTwo 51 = .ok (.getstatic 165, 3) := by decide +kernel
theorem dX5_byTwo_54 : decode cX5_byTwo 54 = .ok (.iload_n 1, 1) := by decide +kernel
theorem dX5_byTwo_55 : decode cX5_byTwo 55 = .ok (.invokestatic 124, 3) := by decide +kernel
theorem dX5_byTwo_58 : decode cX5_byTwo 58 = .ok (.invokestatic 168, 3) := by decide +kernel
theorem dX5_byTwo_61 : decode cX5_byTwo 61 = .ok (.iload_n 2, 1) := by decide +kernel
theorem dX5_byTwo_62 : decode cX5_byTwo 62 = .ok (.if_icmp .ne 23, 3) := by decide +kernel
theorem dX5_byTwo_65 : decode cX5_byTwo 65 = .ok (.iload 5, 2) := by decide +kernel
theorem dX5_byTwo_67 : decode cX5_byTwo 67 = .ok (.getstatic 165, 3) := by decide +kernel
theorem dX5_byTwo_70 : decode cX5_byTwo 70 = .ok (.iload_n 3, 1) := by decide +kernel
theorem dX5_byTwo_71 : decode cX5_byTwo 71 = .ok (.invokestatic 124, 3) := by decide +kernel
theorem dX5_byTwo_74 : decode cX5_byTwo 74 = .ok (.invokestatic 168, 3) := by decide +kernel
theorem dX5_byTwo_77 : decode cX5_byTwo 77 = .ok (.iload 4, 2) := by decide +kernel
theorem dX5_byTwo_79 : decode cX5_byTwo 79 = .ok (.if_icmp .ne 6, 3) := by decide +kernel
theorem dX5_byTwo_82 : decode cX5_byTwo 82 = .ok (.iload 5, 2) := by decide +kernel
theorem dX5_byTwo_84 : decode cX5_byTwo 84 = .ok (.ireturn, 1) := by decide +kernel
theorem dX5_byTwo_85 : decode cX5_byTwo 85 = .ok (.iinc 5 1, 3) := by decide +kernel
theorem dX5_byTwo_88 : decode cX5_byTwo 88 = .ok (.goto (-47), 3) := by decide +kernel
theorem dX5_byTwo_91 : decode cX5_byTwo 91 = .ok (.bipush (-4), 2) := by decide +kernel
theorem dX5_byTwo_93 : decode cX5_byTwo 93 = .ok (.ireturn, 1) := by decide +kernel
theorem dX5_correct_0 : decode cX5_correct 0 = .ok (.iload_n 1, 1) := by decide +kernel
theorem dX5_correct_1 : decode cX5_correct 1 = .ok (.iload_n 2, 1) := by decide +kernel
theorem dX5_correct_2 : decode cX5_correct 2 = .ok (.invokestatic 112, 3) := by decide +kernel
theorem dX5_correct_5 : decode cX5_correct 5 = .ok (.ifCond .eq 14, 3) := by decide +kernel
theorem dX5_correct_8 : decode cX5_correct 8 = .ok (.iload_n 3, 1) := by decide +kernel
theorem dX5_correct_9 : decode cX5_correct 9 = .ok (.bipush (-20), 2) := by decide +kernel
theorem dX5_correct_11 : decode cX5_correct 11 = .ok (.bipush 20, 2) := by decide +kernel
theorem dX5_correct_13 : decode cX5_correct 13 = .ok (.invokestatic 44, 3) := by decide +kernel
theorem dX5_correct_16 : decode cX5_correct 16 = .ok (.ifCond .eq 5, 3) := by decide +kernel
theorem dX5_correct_19 : decode cX5_correct 19 = .ok (.iconst (-1), 1) := by decide +kernel
theorem dX5_correct_20 : decode cX5_correct 20 = .ok (.ireturn, 1) := by decide +kernel
theorem dX5_correct_21 : decode cX5_correct 21 = .ok (.aload_n 0, 1) := by decide +kernel
theorem dX5_correct_22 : decode cX5_correct 22 = .ok (.getfield 19, 3) := by decide +kernel
theorem dX5_correct_25 : decode cX5_correct 25 = .ok (.aload_n 0, 1) := by decide +kernel
theorem dX5_correct_26 : decode cX5_correct 26 = .ok (.getfield 12, 3) := by decide +kernel
theorem dX5_correct_29 : decode cX5_correct 29 = .ok (.invokevirtual 53, 3) := by decide +kernel
theorem dX5_correct_32 : decode cX5_correct 32 = .ok (.aload_n 0, 1) := by decide +kernel
theorem dX5_correct_33 : decode cX5_correct 33 = .ok (.getfield 12, 3) := by decide +kernel
theorem dX5_correct_36 : decode cX5_correct 36 = .ok (.getfield 171, 3) := by decide +kernel
theorem dX5_correct_39 : decode cX5_correct 39 = .ok (.iload_n 1, 1) := by decide +kernel
theorem dX5_correct_40 : decode cX5_correct 40 = .ok (.iload_n 2, 1) := by decide +kernel
theorem dX5_correct_41 : decode cX5_correct 41 = .ok (.invokestatic 120, 3) := by decide +kernel
theorem dX5_correct_44 : decode cX5_correct 44 = .ok (.invokestatic 124, 3) := by decide +kernel
theorem dX5_correct_47 : decode cX5_correct 47 = .ok (.istore 4, 2) := by decide +kernel
theorem dX5_correct_49 : decode cX5_correct 49 = .ok (.aload_n 0, 1) := by decide +kernel
theorem dX5_correct_50 : decode cX5_correct 50 = .ok (.getfield 12, 3) := by decide +kernel
theorem dX5_correct_53 : decode cX5_correct 53 = .ok (.getfield 171, 3) := by decide +kernel
theorem dX5_correct_56 : decode cX5_correct 56 = .ok (.iload_n 1, 1) := by decide +kernel
theorem dX5_correct_57 : decode cX5_correct 57 = .ok (.iload_n 2, 1) := by decide +kernel
theorem dX5_correct_58 : decode cX5_correct 58 = .ok (.invokestatic 120, 3) := by decide +kernel
theorem dX5_correct_61 : decode cX5_correct 61 = .ok (.iload_n 3, 1) := by decide +kernel
theorem dX5_correct_62 : decode cX5_correct 62 = .ok (.invokestatic 128, 3) := by decide +kernel
theorem dX5_correct_65 : decode cX5_correct 65 = .ok (.iload 4, 2) := by decide +kernel
theorem dX5_correct_67 : decode cX5_correct 67 = .ok (.bipush 100, 2) := by decide +kernel
theorem dX5_correct_69 : decode cX5_correct 69 = .ok (.iadd, 1) := by decide +kernel
theorem dX5_correct_70 : decode cX5_correct 70 = .ok (.ireturn, 1) := by decide +kernel
theorem dX5_correction_0 : decode cX5_correction 0 = .ok (.iload_n 1, 1) := by decide +kernel
theorem dX5_correction_1 : decode cX5_correction 1 = .ok (.iload_n 2, 1) := by decide +kernel
theorem dX5_correction_2 : decode cX5_correction 2 = .ok (.invokestatic 112, 3) := by decide +kernel
theorem dX5_correction_5 : decode cX5_correction 5 = .ok (.ifCond .ne 5, 3) := by decide +kernel
theorem dX5_correction_8 : decode cX5_correction 8 = .ok (.iconst (-1), 1) := by decide +kernel
theorem dX5_correction_9 : decode cX5_correction 9 = .ok (.ireturn, 1) := by decide +kernel
theorem dX5_correction_10 : decode cX5_correction 10 = .ok (.aload_n 0, 1) := by decide +kernel
theorem dX5_correction_11 : decode cX5_correction 11 = .ok (.getfield 12, 3) := by decide +kernel
theorem dX5_correction_14 : decode cX5_correction 14 = .ok (.getfield 171, 3) := by decide +kernel
theorem dX5_correction_17 : decode cX5_correction 17 = .ok (.iload_n 1, 1) := by decide +kernel
theorem dX5_correction_18 : decode cX5_correction 18 = .ok (.iload_n 2, 1) := by decide +kernel
theorem dX5_correction_19 : decode cX5_correction 19 = .ok (.invokestatic 120, 3) := by decide +kernel
theorem dX5_correction_22 : decode cX5_correction 22 = .ok (.invokestatic 124, 3) := by decide +kernel
theorem dX5_correction_25 : decode cX5_correction 25 = .ok (.bipush 100, 2) := by decide +kernel
theorem dX5_correction_27 : decode cX5_correction 27 = .ok (.iadd, 1) := by decide +kernel
theorem dX5_correction_28 : decode cX5_correction 28 = .ok (.ireturn, 1) := by decide +kernel
theorem dX5_learn_0 : decode cX5_learn 0 = .ok (.iconst 0, 1) := by decide +kernel
theorem dX5_learn_1 : decode cX5_learn 1 = .ok (.istore_n 1, 1) := by decide +kernel
theorem dX5_learn_2 : decode cX5_learn 2 = .ok (.iload_n 1, 1) := by decide +kernel
theorem dX5_learn_3 : decode cX5_learn 3 = .ok (.iconst 3, 1) := by decide +kernel
theorem dX5_learn_4 : decode cX5_learn 4 = .ok (.if_icmp .ge 30, 3) := by decide +kernel
theorem dX5_learn_7 : decode cX5_learn 7 = .ok (.aload_n 0, 1) := by decide +kernel
theorem dX5_learn_8 : decode cX5_learn 8 = .ok (.getfield 12, 3) := by decide +kernel
theorem dX5_learn_11 : decode cX5_learn 11 = .ok (.iload_n 1, 1) := by decide +kernel
theorem dX5_learn_12 : decode cX5_learn 12 = .ok (.invokevirtual 174, 3) := by decide +kernel
theorem dX5_learn_15 : decode cX5_learn 15 = .ok (.bipush (-20), 2) := by decide +kernel
theorem dX5_learn_17 : decode cX5_learn 17 = .ok (.bipush 20, 2) := by decide +kernel
theorem dX5_learn_19 : decode cX5_learn 19 = .ok (.invokestatic 44, 3) := by decide +kernel
theorem dX5_learn_22 : decode cX5_learn 22 = .ok (.ifCond .eq 6, 3) := by decide +kernel
theorem dX5_learn_25 : decode cX5_learn 25 = .ok (.bipush (-2), 2) := by decide +kernel
theorem dX5_learn_27 : decode cX5_learn 27 = .ok (.ireturn, 1) := by decide +kernel
theorem dX5_learn_28 : decode cX5_learn 28 = .ok (.iinc 1 1, 3) := by decide +kernel
theorem dX5_learn_31 : decode cX5_learn 31 = .ok (.goto (-29), 3) := by decide +kernel
theorem dX5_learn_34 : decode cX5_learn 34 = .ok (.aload_n 0, 1) := by decide +kernel
theorem dX5_learn_35 : decode cX5_learn 35 = .ok (.getfield 19, 3) := by decide +kernel
theorem dX5_learn_38 : decode cX5_learn 38 = .ok (.aload_n 0, 1) := by decide +kernel
theorem dX5_learn_39 : decode cX5_learn 39 = .ok (.getfield 12, 3) := by decide +kernel
theorem dX5_learn_42 : decode cX5_learn 42 = .ok (.invokevirtual 53, 3) := by decide +kernel
theorem dX5_learn_45 : decode cX5_learn 45 = .ok (.aload_n 0, 1) := by decide +kernel
theorem dX5_learn_46 : decode cX5_learn 46 = .ok (.getfield 12, 3) := by decide +kernel
theorem dX5_learn_49 : decode cX5_learn 49 = .ok (.invokevirtual 81, 3) := by decide +kernel
theorem dX5_learn_52 : decode cX5_learn 52 = .ok (.invokestatic 177, 3) := by decide +kernel
theorem dX5_learn_55 : decode cX5_learn 55 = .ok (.istore_n 1, 1) := by decide +kernel
theorem dX5_learn_56 : decode cX5_learn 56 = .ok (.iconst 0, 1) := by decide +kernel
theorem dX5_learn_57 : decode cX5_learn 57 = .ok (.istore_n 2, 1) := by decide +kernel
theorem dX5_learn_58 : decode cX5_learn 58 = .ok (.iconst 0, 1) := by decide +kernel
theorem dX5_learn_59 : decode cX5_learn 59 = .ok (.istore_n 3, 1) := by decide +kernel
theorem dX5_learn_60 : decode cX5_learn 60 = .ok (.iload_n 3, 1) := by decide +kernel
theorem dX5_learn_61 : decode cX5_learn 61 = .ok (.iconst 3, 1) := by decide +kernel
theorem dX5_learn_62 : decode cX5_learn 62 = .ok (.if_icmp .ge 59, 3) := by decide +kernel
theorem dX5_learn_65 : decode cX5_learn 65 = .ok (.aload_n 0, 1) := by decide +kernel
theorem dX5_learn_66 : decode cX5_learn 66 = .ok (.getfield 12, 3) := by decide +kernel
theorem dX5_learn_69 : decode cX5_learn 69 = .ok (.iload_n 3, 1) := by decide +kernel
theorem dX5_learn_70 : decode cX5_learn 70 = .ok (.invokevirtual 174, 3) := by decide +kernel
theorem dX5_learn_73 : decode cX5_learn 73 = .ok (.istore 4, 2) := by decide +kernel
theorem dX5_learn_75 : decode cX5_learn 75 = .ok (.aload_n 0, 1) := by decide +kernel
theorem dX5_learn_76 : decode cX5_learn 76 = .ok (.getfield 12, 3) := by decide +kernel
theorem dX5_learn_79 : decode cX5_learn 79 = .ok (.getfield 171, 3) := by decide +kernel
theorem dX5_learn_82 : decode cX5_learn 82 = .ok (.iload_n 3, 1) := by decide +kernel
theorem dX5_learn_83 : decode cX5_learn 83 = .ok (.iload_n 1, 1) := by decide +kernel
theorem dX5_learn_84 : decode cX5_learn 84 = .ok (.invokestatic 120, 3) := by decide +kernel
theorem dX5_learn_87 : decode cX5_learn 87 = .ok (.invokestatic 124, 3) := by decide +kernel
theorem dX5_learn_90 : decode cX5_learn 90 = .ok (.iload 4, 2) := by decide +kernel
theorem dX5_learn_92 : decode cX5_learn 92 = .ok (.if_icmp .eq 6, 3) := by decide +kernel
theorem dX5_learn_95 : decode cX5_learn 95 = .ok (.iinc 2 1, 3) := by decide +kernel
theorem dX5_learn_98 : decode cX5_learn 98 = .ok (.aload_n 0, 1) := by decide +kernel
theorem dX5_learn_99 : decode cX5_learn 99 = .ok (.getfield 12, 3) := by decide +kernel
theorem dX5_learn_102 : decode cX5_learn 102 = .ok (.getfield 171, 3) := by decide +kernel
theorem dX5_learn_105 : decode cX5_learn 105 = .ok (.iload_n 3, 1) := by decide +kernel
theorem dX5_learn_106 : decode cX5_learn 106 = .ok (.iload_n 1, 1) := by decide +kernel
theorem dX5_learn_107 : decode cX5_learn 107 = .ok (.invokestatic 120, 3) := by decide +kernel
theorem dX5_learn_110 : decode cX5_learn 110 = .ok (.iload 4, 2) := by decide +kernel
theorem dX5_learn_112 : decode cX5_learn 112 = .ok (.invokestatic 128, 3) := by decide +kernel
theorem dX5_learn_115 : decode cX5_learn 115 = .ok (.iinc 3 1, 3) := by decide +kernel
theorem dX5_learn_118 : decode cX5_learn 118 = .ok (.goto (-58), 3) := by decide +kernel
theorem dX5_learn_121 : decode cX5_learn 121 = .ok (.iload_n 2, 1) := by decide +kernel
theorem dX5_learn_122 : decode cX5_learn 122 = .ok (.ireturn, 1) := by decide +kernel
theorem dX5_look_0 : decode cX5_look 0 = .ok (.iload_n 1, 1) := by decide +kernel
theorem dX5_look_1 : decode cX5_look 1 = .ok (.iconst 0, 1) := by decide +kernel
theorem dX5_look_2 : decode cX5_look 2 = .ok (.iconst 4, 1) := by decide +kernel
theorem dX5_look_3 : decode cX5_look 3 = .ok (.invokestatic 44, 3) := by decide +kernel
theorem dX5_look_6 : decode cX5_look 6 = .ok (.ifCond .eq 5, 3) := by decide +kernel
theorem dX5_look_9 : decode cX5_look 9 = .ok (.iconst (-1), 1) := by decide +kernel
theorem dX5_look_10 : decode cX5_look 10 = .ok (.ireturn, 1) := by decide +kernel
theorem dX5_look_11 : decode cX5_look 11 = .ok (.aload_n 0, 1) := by decide +kernel
theorem dX5_look_12 : decode cX5_look 12 = .ok (.getfield 26, 3) := by decide +kernel
theorem dX5_look_15 : decode cX5_look 15 = .ok (.aload_n 0, 1) := by decide +kernel
theorem dX5_look_16 : decode cX5_look 16 = .ok (.getfield 12, 3) := by decide +kernel
theorem dX5_look_19 : decode cX5_look 19 = .ok (.aload_n 0, 1) := by decide +kernel
theorem dX5_look_20 : decode cX5_look 20 = .ok (.getfield 12, 3) := by decide +kernel
theorem dX5_look_23 : decode cX5_look 23 = .ok (.invokevirtual 81, 3) := by decide +kernel
theorem dX5_look_26 : decode cX5_look 26 = .ok (.invokevirtual 180, 3) := by decide +kernel
theorem dX5_look_29 : decode cX5_look 29 = .ok (.iload_n 1, 1) := by decide +kernel
theorem dX5_look_30 : decode cX5_look 30 = .ok (.tableswitch 62 0 3 #[30, 38, 46, 54], 30) := by decide +kernel
theorem dX5_look_60 : decode cX5_look 60 = .ok (.aload_n 0, 1) := by decide +kernel
theorem dX5_look_61 : decode cX5_look 61 = .ok (.getfield 26, 3) := by decide +kernel
theorem dX5_look_64 : decode cX5_look 64 = .ok (.getfield 184, 3) := by decide +kernel
theorem dX5_look_67 : decode cX5_look 67 = .ok (.ireturn, 1) := by decide +kernel
theorem dX5_look_68 : decode cX5_look 68 = .ok (.aload_n 0, 1) := by decide +kernel
theorem dX5_look_69 : decode cX5_look 69 = .ok (.getfield 26, 3) := by decide +kernel
theorem dX5_look_72 : decode cX5_look 72 = .ok (.getfield 187, 3) := by decide +kernel
theorem dX5_look_75 : decode cX5_look 75 = .ok (.ireturn, 1) := by decide +kernel
theorem dX5_look_76 : decode cX5_look 76 = .ok (.aload_n 0, 1) := by decide +kernel
theorem dX5_look_77 : decode cX5_look 77 = .ok (.getfield 26, 3) := by decide +kernel
theorem dX5_look_80 : decode cX5_look 80 = .ok (.getfield 190, 3) := by decide +kernel
theorem dX5_look_83 : decode cX5_look 83 = .ok (.ireturn, 1) := by decide +kernel
theorem dX5_look_84 : decode cX5_look 84 = .ok (.aload_n 0, 1) := by decide +kernel
theorem dX5_look_85 : decode cX5_look 85 = .ok (.getfield 26, 3) := by decide +kernel
theorem dX5_look_88 : decode cX5_look 88 = .ok (.getfield 193, 3) := by decide +kernel
theorem dX5_look_91 : decode cX5_look 91 = .ok (.ireturn, 1) := by decide +kernel
theorem dX5_look_92 : decode cX5_look 92 = .ok (.aload_n 0, 1) := by decide +kernel
theorem dX5_look_93 : decode cX5_look 93 = .ok (.getfield 26, 3) := by decide +kernel
theorem dX5_look_96 : decode cX5_look 96 = .ok (.getfield 184, 3) := by decide +kernel
theorem dX5_look_99 : decode cX5_look 99 = .ok (.aload_n 0, 1) := by decide +kernel
theorem dX5_look_100 : decode cX5_look 100 = .ok (.getfield 12, 3) := by decide +kernel
theorem dX5_look_103 : decode cX5_look 103 = .ok (.invokevirtual 81, 3) := by decide +kernel
theorem dX5_look_106 : decode cX5_look 106 = .ok (.if_icmp .ne 7, 3) := by decide +kernel
theorem dX5_look_109 : decode cX5_look 109 = .ok (.iconst 1, 1) := by decide +kernel
theorem dX5_look_110 : decode cX5_look 110 = .ok (.goto 4, 3) := by decide +kernel
theorem dX5_look_113 : decode cX5_look 113 = .ok (.iconst 0, 1) := by decide +kernel
theorem dX5_look_114 : decode cX5_look 114 = .ok (.invokestatic 71, 3) := by decide +kernel
theorem dX5_look_117 : decode cX5_look 117 = .ok (.ireturn, 1) := by decide +kernel
theorem dX5_survey_0 : decode cX5_survey 0 = .ok (.iload_n 1, 1) := by decide +kernel
theorem dX5_survey_1 : decode cX5_survey 1 = .ok (.bipush 102, 2) := by decide +kernel
theorem dX5_survey_3 : decode cX5_survey 3 = .ok (.sipush 4080, 3) := by decide +kernel
theorem dX5_survey_6 : decode cX5_survey 6 = .ok (.invokestatic 44, 3) := by decide +kernel
theorem dX5_survey_9 : decode cX5_survey 9 = .ok (.ifCond .ne 12, 3) := by decide +kernel
theorem dX5_survey_12 : decode cX5_survey 12 = .ok (.iload_n 2, 1) := by decide +kernel
theorem dX5_survey_13 : decode cX5_survey 13 = .ok (.iconst 0, 1) := by decide +kernel
theorem dX5_survey_14 : decode cX5_survey 14 = .ok (.iconst 2, 1) := by decide +kernel
theorem dX5_survey_15 : decode cX5_survey 15 = .ok (.invokestatic 44, 3) := by decide +kernel
theorem dX5_survey_18 : decode cX5_survey 18 = .ok (.ifCond .eq 5, 3) := by decide +kernel
theorem dX5_survey_21 : decode cX5_survey 21 = .ok (.iconst (-1), 1) := by decide +kernel
theorem dX5_survey_22 : decode cX5_survey 22 = .ok (.ireturn, 1) := by decide +kernel
theorem dX5_survey_23 : decode cX5_survey 23 = .ok (.iconst 0, 1) := by decide +kernel
theorem dX5_survey_24 : decode cX5_survey 24 = .ok (.istore_n 3, 1) := by decide +kernel
theorem dX5_survey_25 : decode cX5_survey 25 = .ok (.bipush (-4), 2) := by decide +kernel
theorem dX5_survey_27 : decode cX5_survey 27 = .ok (.istore 4, 2) := by decide +kernel
theorem dX5_survey_29 : decode cX5_survey 29 = .ok (.iconst 0, 1) := by decide +kernel
theorem dX5_survey_30 : decode cX5_survey 30 = .ok (.istore 5, 2) := by decide +kernel
theorem dX5_survey_32 : decode cX5_survey 32 = .ok (.iconst 0, 1) := by decide +kernel
theorem dX5_survey_33 : decode cX5_survey 33 = .ok (.istore 6, 2) := by decide +kernel
theorem dX5_survey_35 : decode cX5_survey 35 = .ok (.iload 6, 2) := by decide +kernel
theorem dX5_survey_37 : decode cX5_survey 37 = .ok (.sipush 4080, 3) := by decide +kernel
theorem dX5_survey_40 : decode cX5_survey 40 = .ok (.if_icmp .ge 67, 3) := by decide +kernel
theorem dX5_survey_43 : decode cX5_survey 43 = .ok (.aload_n 0, 1) := by decide +kernel
theorem dX5_survey_44 : decode cX5_survey 44 = .ok (.getfield 26, 3) := by decide +kernel
theorem dX5_survey_47 : decode cX5_survey 47 = .ok (.aload_n 0, 1) := by decide +kernel
theorem dX5_survey_48 : decode cX5_survey 48 = .ok (.getfield 12, 3) := by decide +kernel
theorem dX5_survey_51 : decode cX5_survey 51 = .ok (.iload 6, 2) := by decide +kernel
theorem dX5_survey_53 : decode cX5_survey 53 = .ok (.invokevirtual 180, 3) := by decide +kernel
theorem dX5_survey_56 : decode cX5_survey 56 = .ok (.iload 5, 2) := by decide +kernel
theorem dX5_survey_58 : decode cX5_survey 58 = .ok (.aload_n 0, 1) := by decide +kernel
theorem dX5_survey_59 : decode cX5_survey 59 = .ok (.getfield 26, 3) := by decide +kernel
theorem dX5_survey_62 : decode cX5_survey 62 = .ok (.getfield 187, 3) := by decide +kernel
theorem dX5_survey_65 : decode cX5_survey 65 = .ok (.invokestatic 196, 3) := by decide +kernel
theorem dX5_survey_68 : decode cX5_survey 68 = .ok (.istore 5, 2) := by decide +kernel
theorem dX5_survey_70 : decode cX5_survey 70 = .ok (.aload_n 0, 1) := by decide +kernel
theorem dX5_survey_71 : decode cX5_survey 71 = .ok (.getfield 26, 3) := by decide +kernel
theorem dX5_survey_74 : decode cX5_survey 74 = .ok (.getfield 184, 3) := by decide +kernel
theorem dX5_survey_77 : decode cX5_survey 77 = .ok (.iload 6, 2) := by decide +kernel
theorem dX5_survey_79 : decode cX5_survey 79 = .ok (.if_icmp .eq 19, 3) := by decide +kernel
theorem dX5_survey_82 : decode cX5_survey 82 = .ok (.iload_n 3, 1) := by decide +kernel
theorem dX5_survey_83 : decode cX5_survey 83 = .ok (.ifCond .ne 8, 3) := by decide +kernel
theorem dX5_survey_86 : decode cX5_survey 86 = .ok (.iload 6, 2) := by decide +kernel
theorem dX5_survey_88 : decode cX5_survey 88 = .ok (.goto 5, 3) := by decide +kernel
theorem dX5_survey_91 : decode cX5_survey 91 = .ok (.iload 4, 2) := by decide +kernel
theorem dX5_survey_93 : decode cX5_survey 93 = .ok (.istore 4, 2) := by decide +kernel
theorem dX5_survey_95 : decode cX5_survey 95 = .ok (.iinc 3 1, 3) := by decide +kernel
theorem dX5_survey_98 : decode cX5_survey 98 = .ok (.iload 6, 2) := by decide +kernel
theorem dX5_survey_100 : decode cX5_survey 100 = .ok (.iload_n 1, 1) := by decide +kernel
theorem dX5_survey_101 : decode cX5_survey 101 = .ok (.iadd, 1) := by decide +kernel
theorem dX5_survey_102 : decode cX5_survey 102 = .ok (.istore 6, 2) := by decide +kernel
theorem dX5_survey_104 : decode cX5_survey 104 = .ok (.goto (-69), 3) := by decide +kernel
theorem dX5_survey_107 : decode cX5_survey 107 = .ok (.iload_n 2, 1) := by decide +kernel
theorem dX5_survey_108 : decode cX5_survey 108 = .ok (.lookupswitch 33 #[(0, 28), (1, 30)], 28) := by decide +kernel
theorem dX5_survey_136 : decode cX5_survey 136 = .ok (.iload_n 3, 1) := by decide +kernel
theorem dX5_survey_137 : decode cX5_survey 137 = .ok (.ireturn, 1) := by decide +kernel
theorem dX5_survey_138 : decode cX5_survey 138 = .ok (.iload 4, 2) := by decide +kernel
theorem dX5_survey_140 : decode cX5_survey 140 = .ok (.ireturn, 1) := by decide +kernel
theorem dX5_survey_141 : decode cX5_survey 141 = .ok (.iload 5, 2) := by decide +kernel
theorem dX5_survey_143 : decode cX5_survey 143 = .ok (.ireturn, 1) := by decide +kernel
theorem dX5_poor_0 : decode cX5_poor 0 = .ok (.iconst 0, 1) := by decide +kernel
theorem dX5_poor_1 : decode cX5_poor 1 = .ok (.istore_n 1, 1) := by decide +kernel
theorem dX5_poor_2 : decode cX5_poor 2 = .ok (.iconst 0, 1) := by decide +kernel
theorem dX5_poor_3 : decode cX5_poor 3 = .ok (.istore_n 2, 1) := by decide +kernel
theorem dX5_poor_4 : decode cX5_poor 4 = .ok (.iload_n 2, 1) := by decide +kernel
theorem dX5_poor_5 : decode cX5_poor 5 = .ok (.bipush 8, 2) := by decide +kernel
theorem dX5_poor_7 : decode cX5_poor 7 = .ok (.if_icmp .ge 23, 3) := by decide +kernel
theorem dX5_poor_10 : decode cX5_poor 10 = .ok (.aload_n 0, 1) := by decide +kernel
theorem dX5_poor_11 : decode cX5_poor 11 = .ok (.getfield 12, 3) := by decide +kernel
theorem dX5_poor_14 : decode cX5_poor 14 = .ok (.iload_n 2, 1) := by decide +kernel
theorem dX5_poor_15 : decode cX5_poor 15 = .ok (.invokevirtual 199, 3) := by decide +kernel
theorem dX5_poor_18 : decode cX5_poor 18 = .ok (.ifCond .eq 6, 3) := by decide +kernel
theorem dX5_poor_21 : decode cX5_poor 21 = .ok (.iinc 1 1, 3) := by decide +kernel
theorem dX5_poor_24 : decode cX5_poor 24 = .ok (.iinc 2 1, 3) := by decide +kernel
theorem dX5_poor_27 : decode cX5_poor 27 = .ok (.goto (-23), 3) := by decide +kernel
theorem dX5_poor_30 : decode cX5_poor 30 = .ok (.iload_n 1, 1) := by decide +kernel
theorem dX5_poor_31 : decode cX5_poor 31 = .ok (.ireturn, 1) := by decide +kernel
theorem dX5_sample_0 : decode cX5_sample 0 = .ok (.aload_n 0, 1) := by decide +kernel
theorem dX5_sample_1 : decode cX5_sample 1 = .ok (.getfield 12, 3) := by decide +kernel
theorem dX5_sample_4 : decode cX5_sample 4 = .ok (.getfield 67, 3) := by decide +kernel
theorem dX5_sample_7 : decode cX5_sample 7 = .ok (.ifCond .ne 6, 3) := by decide +kernel
theorem dX5_sample_10 : decode cX5_sample 10 = .ok (.bipush (-2), 2) := by decide +kernel
theorem dX5_sample_12 : decode cX5_sample 12 = .ok (.ireturn, 1) := by decide +kernel
theorem dX5_sample_13 : decode cX5_sample 13 = .ok (.aload_n 0, 1) := by decide +kernel
theorem dX5_sample_14 : decode cX5_sample 14 = .ok (.getfield 19, 3) := by decide +kernel
theorem dX5_sample_17 : decode cX5_sample 17 = .ok (.aload_n 0, 1) := by decide +kernel
theorem dX5_sample_18 : decode cX5_sample 18 = .ok (.getfield 12, 3) := by decide +kernel
theorem dX5_sample_21 : decode cX5_sample 21 = .ok (.invokevirtual 53, 3) := by decide +kernel
theorem dX5_sample_24 : decode cX5_sample 24 = .ok (.aload_n 0, 1) := by decide +kernel
theorem dX5_sample_25 : decode cX5_sample 25 = .ok (.getfield 26, 3) := by decide +kernel
theorem dX5_sample_28 : decode cX5_sample 28 = .ok (.aload_n 0, 1) := by decide +kernel
theorem dX5_sample_29 : decode cX5_sample 29 = .ok (.getfield 12, 3) := by decide +kernel
theorem dX5_sample_32 : decode cX5_sample 32 = .ok (.aload_n 0, 1) := by decide +kernel
theorem dX5_sample_33 : decode cX5_sample 33 = .ok (.getfield 12, 3) := by decide +kernel
theorem dX5_sample_36 : decode cX5_sample 36 = .ok (.invokevirtual 81, 3) := by decide +kernel
theorem dX5_sample_39 : decode cX5_sample 39 = .ok (.invokevirtual 180, 3) := by decide +kernel
theorem dX5_sample_42 : decode cX5_sample 42 = .ok (.aload_n 0, 1) := by decide +kernel
theorem dX5_sample_43 : decode cX5_sample 43 = .ok (.getfield 33, 3) := by decide +kernel
theorem dX5_sample_46 : decode cX5_sample 46 = .ok (.aload_n 0, 1) := by decide +kernel
theorem dX5_sample_47 : decode cX5_sample 47 = .ok (.getfield 12, 3) := by decide +kernel
theorem dX5_sample_50 : decode cX5_sample 50 = .ok (.aload_n 0, 1) := by decide +kernel
theorem dX5_sample_51 : decode cX5_sample 51 = .ok (.getfield 26, 3) := by decide +kernel
theorem dX5_sample_54 : decode cX5_sample 54 = .ok (.invokevirtual 202, 3) := by decide +kernel
theorem dX5_sample_57 : decode cX5_sample 57 = .ok (.aload_n 0, 1) := by decide +kernel
theorem dX5_sample_58 : decode cX5_sample 58 = .ok (.getfield 12, 3) := by decide +kernel
theorem dX5_sample_61 : decode cX5_sample 61 = .ok (.aload_n 0, 1) := by decide +kernel
theorem dX5_sample_62 : decode cX5_sample 62 = .ok (.getfield 33, 3) := by decide +kernel
theorem dX5_sample_65 : decode cX5_sample 65 = .ok (.getfield 206, 3) := by decide +kernel
theorem dX5_sample_68 : decode cX5_sample 68 = .ok (.putfield 85, 3) := by decide +kernel
theorem dX5_sample_71 : decode cX5_sample 71 = .ok (.aload_n 0, 1) := by decide +kernel
theorem dX5_sample_72 : decode cX5_sample 72 = .ok (.getfield 12, 3) := by decide +kernel
theorem dX5_sample_75 : decode cX5_sample 75 = .ok (.aload_n 0, 1) := by decide +kernel
theorem dX5_sample_76 : decode cX5_sample 76 = .ok (.getfield 33, 3) := by decide +kernel
theorem dX5_sample_79 : decode cX5_sample 79 = .ok (.getfield 207, 3) := by decide +kernel
theorem dX5_sample_82 : decode cX5_sample 82 = .ok (.putfield 91, 3) := by decide +kernel
theorem dX5_sample_85 : decode cX5_sample 85 = .ok (.aload_n 0, 1) := by decide +kernel
theorem dX5_sample_86 : decode cX5_sample 86 = .ok (.getfield 33, 3) := by decide +kernel
theorem dX5_sample_89 : decode cX5_sample 89 = .ok (.getfield 208, 3) := by decide +kernel
theorem dX5_sample_92 : decode cX5_sample 92 = .ok (.ifCond .eq 14, 3) := by decide +kernel
theorem dX5_sample_95 : decode cX5_sample 95 = .ok (.ldc 211, 2) := by decide +kernel
theorem dX5_sample_97 : decode cX5_sample 97 = .ok (.aload_n 0, 1) := by decide +kernel
theorem dX5_sample_98 : decode cX5_sample 98 = .ok (.getfield 33, 3) := by decide +kernel
theorem dX5_sample_101 : decode cX5_sample 101 = .ok (.getfield 208, 3) := by decide +kernel
theorem dX5_sample_104 : decode cX5_sample 104 = .ok (.iadd, 1) := by decide +kernel
theorem dX5_sample_105 : decode cX5_sample 105 = .ok (.ireturn, 1) := by decide +kernel
theorem dX5_sample_106 : decode cX5_sample 106 = .ok (.aload_n 0, 1) := by decide +kernel
theorem dX5_sample_107 : decode cX5_sample 107 = .ok (.getfield 12, 3) := by decide +kernel
theorem dX5_sample_110 : decode cX5_sample 110 = .ok (.aload_n 0, 1) := by decide +kernel
theorem dX5_sample_111 : decode cX5_sample 111 = .ok (.getfield 33, 3) := by decide +kernel
theorem dX5_sample_114 : decode cX5_sample 114 = .ok (.getfield 212, 3) := by decide +kernel
theorem dX5_sample_117 : decode cX5_sample 117 = .ok (.putfield 88, 3) := by decide +kernel
theorem dX5_sample_120 : decode cX5_sample 120 = .ok (.aload_n 0, 1) := by decide +kernel
theorem dX5_sample_121 : decode cX5_sample 121 = .ok (.getfield 12, 3) := by decide +kernel
theorem dX5_sample_124 : decode cX5_sample 124 = .ok (.getfield 88, 3) := by decide +kernel
theorem dX5_sample_127 : decode cX5_sample 127 = .ok (.ireturn, 1) := by decide +kernel
theorem dX5_reason_0 : decode cX5_reason 0 = .ok (.aload_n 0, 1) := by decide +kernel
theorem dX5_reason_1 : decode cX5_reason 1 = .ok (.getfield 12, 3) := by decide +kernel
theorem dX5_reason_4 : decode cX5_reason 4 = .ok (.getfield 67, 3) := by decide +kernel
theorem dX5_reason_7 : decode cX5_reason 7 = .ok (.ifCond .ne 6, 3) := by decide +kernel
theorem dX5_reason_10 : decode cX5_reason 10 = .ok (.bipush (-2), 2) := by decide +kernel
theorem dX5_reason_12 : decode cX5_reason 12 = .ok (.ireturn, 1) := by decide +kernel
theorem dX5_reason_13 : decode cX5_reason 13 = .ok (.aload_n 0, 1) := by decide +kernel
theorem dX5_reason_14 : decode cX5_reason 14 = .ok (.getfield 26, 3) := by decide +kernel
theorem dX5_reason_17 : decode cX5_reason 17 = .ok (.aload_n 0, 1) := by decide +kernel
theorem dX5_reason_18 : decode cX5_reason 18 = .ok (.getfield 12, 3) := by decide +kernel
theorem dX5_reason_21 : decode cX5_reason 21 = .ok (.aload_n 0, 1) := by decide +kernel
theorem dX5_reason_22 : decode cX5_reason 22 = .ok (.getfield 12, 3) := by decide +kernel
theorem dX5_reason_25 : decode cX5_reason 25 = .ok (.invokevirtual 81, 3) := by decide +kernel
theorem dX5_reason_28 : decode cX5_reason 28 = .ok (.invokevirtual 180, 3) := by decide +kernel
theorem dX5_reason_31 : decode cX5_reason 31 = .ok (.aload_n 0, 1) := by decide +kernel
theorem dX5_reason_32 : decode cX5_reason 32 = .ok (.getfield 33, 3) := by decide +kernel
theorem dX5_reason_35 : decode cX5_reason 35 = .ok (.aload_n 0, 1) := by decide +kernel
theorem dX5_reason_36 : decode cX5_reason 36 = .ok (.getfield 12, 3) := by decide +kernel
theorem dX5_reason_39 : decode cX5_reason 39 = .ok (.aload_n 0, 1) := by decide +kernel
theorem dX5_reason_40 : decode cX5_reason 40 = .ok (.getfield 26, 3) := by decide +kernel
theorem dX5_reason_43 : decode cX5_reason 43 = .ok (.invokevirtual 202, 3) := by decide +kernel
theorem dX5_reason_46 : decode cX5_reason 46 = .ok (.aload_n 0, 1) := by decide +kernel
theorem dX5_reason_47 : decode cX5_reason 47 = .ok (.getfield 33, 3) := by decide +kernel
theorem dX5_reason_50 : decode cX5_reason 50 = .ok (.getfield 208, 3) := by decide +kernel
theorem dX5_reason_53 : decode cX5_reason 53 = .ok (.ireturn, 1) := by decide +kernel
theorem dX5_forget_0 : decode cX5_forget 0 = .ok (.aload_n 0, 1) := by decide +kernel
theorem dX5_forget_1 : decode cX5_forget 1 = .ok (.getfield 19, 3) := by decide +kernel
theorem dX5_forget_4 : decode cX5_forget 4 = .ok (.aload_n 0, 1) := by decide +kernel
theorem dX5_forget_5 : decode cX5_forget 5 = .ok (.getfield 12, 3) := by decide +kernel
theorem dX5_forget_8 : decode cX5_forget 8 = .ok (.invokevirtual 53, 3) := by decide +kernel
theorem dX5_forget_11 : decode cX5_forget 11 = .ok (.aload_n 0, 1) := by decide +kernel
theorem dX5_forget_12 : decode cX5_forget 12 = .ok (.getfield 12, 3) := by decide +kernel
theorem dX5_forget_15 : decode cX5_forget 15 = .ok (.getfield 88, 3) := by decide +kernel
theorem dX5_forget_18 : decode cX5_forget 18 = .ok (.iconst (-1), 1) := by decide +kernel
theorem dX5_forget_19 : decode cX5_forget 19 = .ok (.if_icmp .eq 7, 3) := by decide +kernel
theorem dX5_forget_22 : decode cX5_forget 22 = .ok (.iconst 1, 1) := by decide +kernel
theorem dX5_forget_23 : decode cX5_forget 23 = .ok (.goto 4, 3) := by decide +kernel
theorem dX5_forget_26 : decode cX5_forget 26 = .ok (.iconst 0, 1) := by decide +kernel
theorem dX5_forget_27 : decode cX5_forget 27 = .ok (.invokestatic 71, 3) := by decide +kernel
theorem dX5_forget_30 : decode cX5_forget 30 = .ok (.istore_n 1, 1) := by decide +kernel
theorem dX5_forget_31 : decode cX5_forget 31 = .ok (.aload_n 0, 1) := by decide +kernel
theorem dX5_forget_32 : decode cX5_forget 32 = .ok (.getfield 12, 3) := by decide +kernel
theorem dX5_forget_35 : decode cX5_forget 35 = .ok (.iconst (-1), 1) := by decide +kernel
theorem dX5_forget_36 : decode cX5_forget 36 = .ok (.putfield 88, 3) := by decide +kernel
theorem dX5_forget_39 : decode cX5_forget 39 = .ok (.aload_n 0, 1) := by decide +kernel
theorem dX5_forget_40 : decode cX5_forget 40 = .ok (.getfield 12, 3) := by decide +kernel
theorem dX5_forget_43 : decode cX5_forget 43 = .ok (.iconst 0, 1) := by decide +kernel
theorem dX5_forget_44 : decode cX5_forget 44 = .ok (.putfield 91, 3) := by decide +kernel
theorem dX5_forget_47 : decode cX5_forget 47 = .ok (.iload_n 1, 1) := by decide +kernel
theorem dX5_forget_48 : decode cX5_forget 48 = .ok (.ireturn, 1) := by decide +kernel
theorem dX5_apart_0 : decode cX5_apart 0 = .ok (.aload_n 0, 1) := by decide +kernel
theorem dX5_apart_1 : decode cX5_apart 1 = .ok (.getfield 12, 3) := by decide +kernel
theorem dX5_apart_4 : decode cX5_apart 4 = .ok (.getfield 88, 3) := by decide +kernel
theorem dX5_apart_7 : decode cX5_apart 7 = .ok (.iconst (-1), 1) := by decide +kernel
theorem dX5_apart_8 : decode cX5_apart 8 = .ok (.if_icmp .ne 8, 3) := by decide +kernel
theorem dX5_apart_11 : decode cX5_apart 11 = .ok (.bipush (-4), 2) := by decide +kernel
theorem dX5_apart_13 : decode cX5_apart 13 = .ok (.goto 22, 3) := by decide +kernel
theorem dX5_apart_16 : decode cX5_apart 16 = .ok (.aload_n 0, 1) := by decide +kernel
theorem dX5_apart_17 : decode cX5_apart 17 = .ok (.getfield 12, 3) := by decide +kernel
theorem dX5_apart_20 : decode cX5_apart 20 = .ok (.getfield 88, 3) := by decide +kernel
theorem dX5_apart_23 : decode cX5_apart 23 = .ok (.aload_n 0, 1) := by decide +kernel
theorem dX5_apart_24 : decode cX5_apart 24 = .ok (.getfield 12, 3) := by decide +kernel
theorem dX5_apart_27 : decode cX5_apart 27 = .ok (.getfield 48, 3) := by decide +kernel
theorem dX5_apart_30 : decode cX5_apart 30 = .ok (.ldc 213, 2) := by decide +kernel
theorem dX5_apart_32 : decode cX5_apart 32 = .ok (.invokestatic 214, 3) := by decide +kernel
theorem dX5_apart_35 : decode cX5_apart 35 = .ok (.ireturn, 1) := by decide +kernel
theorem dX5_type_0 : decode cX5_type 0 = .ok (.iload_n 1, 1) := by decide +kernel
theorem dX5_type_1 : decode cX5_type 1 = .ok (.bipush 32, 2) := by decide +kernel
theorem dX5_type_3 : decode cX5_type 3 = .ok (.bipush 126, 2) := by decide +kernel
theorem dX5_type_5 : decode cX5_type 5 = .ok (.invokestatic 44, 3) := by decide +kernel
theorem dX5_type_8 : decode cX5_type 8 = .ok (.ifCond .eq 5, 3) := by decide +kernel
theorem dX5_type_11 : decode cX5_type 11 = .ok (.iconst (-1), 1) := by decide +kernel
theorem dX5_type_12 : decode cX5_type 12 = .ok (.ireturn, 1) := by decide +kernel
theorem dX5_type_13 : decode cX5_type 13 = .ok (.aload_n 0, 1) := by decide +kernel
theorem dX5_type_14 : decode cX5_type 14 = .ok (.getfield 40, 3) := by decide +kernel
theorem dX5_type_17 : decode cX5_type 17 = .ok (.getfield 103, 3) := by decide +kernel
theorem dX5_type_20 : decode cX5_type 20 = .ok (.bipush 60, 2) := by decide +kernel
theorem dX5_type_22 : decode cX5_type 22 = .ok (.if_icmp .lt 6, 3) := by decide +kernel
theorem dX5_type_25 : decode cX5_type 25 = .ok (.bipush (-3), 2) := by decide +kernel
theorem dX5_type_27 : decode cX5_type 27 = .ok (.ireturn, 1) := by decide +kernel
theorem dX5_type_28 : decode cX5_type 28 = .ok (.aload_n 0, 1) := by decide +kernel
theorem dX5_type_29 : decode cX5_type 29 = .ok (.getfield 40, 3) := by decide +kernel
theorem dX5_type_32 : decode cX5_type 32 = .ok (.iload_n 1, 1) := by decide +kernel
theorem dX5_type_33 : decode cX5_type 33 = .ok (.invokevirtual 217, 3) := by decide +kernel
theorem dX5_type_36 : decode cX5_type 36 = .ok (.aload_n 0, 1) := by decide +kernel
theorem dX5_type_37 : decode cX5_type 37 = .ok (.getfield 40, 3) := by decide +kernel
theorem dX5_type_40 : decode cX5_type 40 = .ok (.getfield 103, 3) := by decide +kernel
theorem dX5_type_43 : decode cX5_type 43 = .ok (.ireturn, 1) := by decide +kernel
theorem dX5_clearText_0 : decode cX5_clearText 0 = .ok (.aload_n 0, 1) := by decide +kernel
theorem dX5_clearText_1 : decode cX5_clearText 1 = .ok (.getfield 40, 3) := by decide +kernel
theorem dX5_clearText_4 : decode cX5_clearText 4 = .ok (.getfield 103, 3) := by decide +kernel
theorem dX5_clearText_7 : decode cX5_clearText 7 = .ok (.istore_n 1, 1) := by decide +kernel
theorem dX5_clearText_8 : decode cX5_clearText 8 = .ok (.aload_n 0, 1) := by decide +kernel
theorem dX5_clearText_9 : decode cX5_clearText 9 = .ok (.getfield 40, 3) := by decide +kernel
theorem dX5_clearText_12 : decode cX5_clearText 12 = .ok (.iconst 0, 1) := by decide +kernel
theorem dX5_clearText_13 : decode cX5_clearText 13 = .ok (.putfield 103, 3) := by decide +kernel
theorem dX5_clearText_16 : decode cX5_clearText 16 = .ok (.iload_n 1, 1) := by decide +kernel
theorem dX5_clearText_17 : decode cX5_clearText 17 = .ok (.ireturn, 1) := by decide +kernel
theorem dX5_fault_0 : decode cX5_fault 0 = .ok (.iload_n 1, 1) := by decide +kernel
theorem dX5_fault_1 : decode cX5_fault 1 = .ok (.iconst 0, 1) := by decide +kernel
theorem dX5_fault_2 : decode cX5_fault 2 = .ok (.iconst 1, 1) := by decide +kernel
theorem dX5_fault_3 : decode cX5_fault 3 = .ok (.invokestatic 44, 3) := by decide +kernel
theorem dX5_fault_6 : decode cX5_fault 6 = .ok (.ifCond .eq 5, 3) := by decide +kernel
theorem dX5_fault_9 : decode cX5_fault 9 = .ok (.iconst (-1), 1) := by decide +kernel
theorem dX5_fault_10 : decode cX5_fault 10 = .ok (.ireturn, 1) := by decide +kernel
theorem dX5_fault_11 : decode cX5_fault 11 = .ok (.aload_n 0, 1) := by decide +kernel
theorem dX5_fault_12 : decode cX5_fault 12 = .ok (.getfield 40, 3) := by decide +kernel
theorem dX5_fault_15 : decode cX5_fault 15 = .ok (.invokevirtual 220, 3) := by decide +kernel
theorem dX5_fault_18 : decode cX5_fault 18 = .ok (.aload_n 0, 1) := by decide +kernel
theorem dX5_fault_19 : decode cX5_fault 19 = .ok (.getfield 40, 3) := by decide +kernel
theorem dX5_fault_22 : decode cX5_fault 22 = .ok (.getfield 223, 3) := by decide +kernel
theorem dX5_fault_25 : decode cX5_fault 25 = .ok (.ifCond .ne 6, 3) := by decide +kernel
theorem dX5_fault_28 : decode cX5_fault 28 = .ok (.bipush (-4), 2) := by decide +kernel
theorem dX5_fault_30 : decode cX5_fault 30 = .ok (.ireturn, 1) := by decide +kernel
theorem dX5_fault_31 : decode cX5_fault 31 = .ok (.iload_n 1, 1) := by decide +kernel
theorem dX5_fault_32 : decode cX5_fault 32 = .ok (.ifCond .ne 13, 3) := by decide +kernel
theorem dX5_fault_35 : decode cX5_fault 35 = .ok (.aload_n 0, 1) := by decide +kernel
theorem dX5_fault_36 : decode cX5_fault 36 = .ok (.getfield 40, 3) := by decide +kernel
theorem dX5_fault_39 : decode cX5_fault 39 = .ok (.getfield 226, 3) := by decide +kernel
theorem dX5_fault_42 : decode cX5_fault 42 = .ok (.goto 10, 3) := by decide +kernel
theorem dX5_fault_45 : decode cX5_fault 45 = .ok (.aload_n 0, 1) := by decide +kernel
theorem dX5_fault_46 : decode cX5_fault 46 = .ok (.getfield 40, 3) := by decide +kernel
theorem dX5_fault_49 : decode cX5_fault 49 = .ok (.getfield 223, 3) := by decide +kernel
theorem dX5_fault_52 : decode cX5_fault 52 = .ok (.ireturn, 1) := by decide +kernel
theorem dX5_load_0 : decode cX5_load 0 = .ok (.aload_n 0, 1) := by decide +kernel
theorem dX5_load_1 : decode cX5_load 1 = .ok (.getfield 40, 3) := by decide +kernel
theorem dX5_load_4 : decode cX5_load 4 = .ok (.invokevirtual 220, 3) := by decide +kernel
theorem dX5_load_7 : decode cX5_load 7 = .ok (.aload_n 0, 1) := by decide +kernel
theorem dX5_load_8 : decode cX5_load 8 = .ok (.getfield 40, 3) := by decide +kernel
theorem dX5_load_11 : decode cX5_load 11 = .ok (.getfield 223, 3) := by decide +kernel
theorem dX5_load_14 : decode cX5_load 14 = .ok (.ifCond .eq 6, 3) := by decide +kernel
theorem dX5_load_17 : decode cX5_load 17 = .ok (.bipush (-2), 2) := by decide +kernel
theorem dX5_load_19 : decode cX5_load 19 = .ok (.ireturn, 1) := by decide +kernel
theorem dX5_load_20 : decode cX5_load 20 = .ok (.aload_n 0, 1) := by decide +kernel
theorem dX5_load_21 : decode cX5_load 21 = .ok (.getfield 19, 3) := by decide +kernel
theorem dX5_load_24 : decode cX5_load 24 = .ok (.aload_n 0, 1) := by decide +kernel
theorem dX5_load_25 : decode cX5_load 25 = .ok (.getfield 12, 3) := by decide +kernel
theorem dX5_load_28 : decode cX5_load 28 = .ok (.invokevirtual 53, 3) := by decide +kernel
theorem dX5_load_31 : decode cX5_load 31 = .ok (.aload_n 0, 1) := by decide +kernel
theorem dX5_load_32 : decode cX5_load 32 = .ok (.getfield 40, 3) := by decide +kernel
theorem dX5_load_35 : decode cX5_load 35 = .ok (.getfield 229, 3) := by decide +kernel
theorem dX5_load_38 : decode cX5_load 38 = .ok (.aload_n 0, 1) := by decide +kernel
theorem dX5_load_39 : decode cX5_load 39 = .ok (.getfield 12, 3) := by decide +kernel
theorem dX5_load_42 : decode cX5_load 42 = .ok (.getfield 171, 3) := by decide +kernel
theorem dX5_load_45 : decode cX5_load 45 = .ok (.invokestatic 232, 3) := by decide +kernel
theorem dX5_load_48 : decode cX5_load 48 = .ok (.aload_n 0, 1) := by decide +kernel
theorem dX5_load_49 : decode cX5_load 49 = .ok (.getfield 40, 3) := by decide +kernel
theorem dX5_load_52 : decode cX5_load 52 = .ok (.getfield 236, 3) := by decide +kernel
theorem dX5_load_55 : decode cX5_load 55 = .ok (.ireturn, 1) := by decide +kernel
theorem dX5_settingCount_0 : decode cX5_settingCount 0 = .ok (.iload_n 1, 1) := by decide +kernel
theorem dX5_settingCount_1 : decode cX5_settingCount 1 = .ok (.iconst 0, 1) := by decide +kernel
theorem dX5_settingCount_2 : decode cX5_settingCount 2 = .ok (.iconst 3, 1) := by decide +kernel
theorem dX5_settingCount_3 : decode cX5_settingCount 3 = .ok (.invokestatic 44, 3) := by decide +kernel
theorem dX5_settingCount_6 : decode cX5_settingCount 6 = .ok (.ifCond .eq 7, 3) := by decide +kernel
theorem dX5_settingCount_9 : decode cX5_settingCount 9 = .ok (.iconst (-1), 1) := by decide +kernel
theorem dX5_settingCount_10 : decode cX5_settingCount 10 = .ok (.goto 8, 3) := by decide +kernel
theorem dX5_settingCount_13 : decode cX5_settingCount 13 = .ok (.aload_n 0, 1) := by decide +kernel
theorem dX5_settingCount_14 : decode cX5_settingCount 14 = .ok (.iload_n 1, 1) := by decide +kernel
theorem dX5_settingCount_15 : decode cX5_settingCount 15 = .ok (.invokevirtual 145, 3) := by decide +kernel
theorem dX5_settingCount_18 : decode cX5_settingCount 18 = .ok (.ireturn, 1) := by decide +kernel
theorem dX5_shownSetting_0 : decode cX5_shownSetting 0 = .ok (.aload_n 0, 1) := by decide +kernel
theorem dX5_shownSetting_1 : decode cX5_shownSetting 1 = .ok (.getfield 12, 3) := by decide +kernel
theorem dX5_shownSetting_4 : decode cX5_shownSetting 4 = .ok (.getfield 148, 3) := by decide +kernel
theorem dX5_shownSetting_7 : decode cX5_shownSetting 7 = .ok (.iload_n 1, 1) := by decide +kernel
theorem dX5_shownSetting_8 : decode cX5_shownSetting 8 = .ok (.invokestatic 124, 3) := by decide +kernel
theorem dX5_shownSetting_11 : decode cX5_shownSetting 11 = .ok (.istore_n 2, 1) := by decide +kernel
theorem dX5_shownSetting_12 : decode cX5_shownSetting 12 = .ok (.iload_n 1, 1) := by decide +kernel
theorem dX5_shownSetting_13 : decode cX5_shownSetting 13 = .ok (.iconst 3, 1) := by decide +kernel
theorem dX5_shownSetting_14 : decode cX5_shownSetting 14 = .ok (.if_icmp .ne 10, 3) := by decide +kernel
theorem dX5_shownSetting_17 : decode cX5_shownSetting 17 = .ok (.iload_n 2, 1) := by decide +kernel
theorem dX5_shownSetting_18 : decode cX5_shownSetting 18 = .ok (.bipush 100, 2) := by decide +kernel
theorem dX5_shownSetting_20 : decode cX5_shownSetting 20 = .ok (.iadd, 1) := by decide +kernel
theorem dX5_shownSetting_21 : decode cX5_shownSetting 21 = .ok (.goto 4, 3) := by decide +kernel
theorem dX5_shownSetting_24 : decode cX5_shownSetting 24 = .ok (.iload_n 2, 1) := by decide +kernel
theorem dX5_shownSetting_25 : decode cX5_shownSetting 25 = .ok (.ireturn, 1) := by decide +kernel
theorem dX5_isOutside_0 : decode cX5_isOutside 0 = .ok (.iload_n 0, 1) := by decide +kernel
theorem dX5_isOutside_1 : decode cX5_isOutside 1 = .ok (.iload_n 1, 1) := by decide +kernel
theorem dX5_isOutside_2 : decode cX5_isOutside 2 = .ok (.if_icmp .lt 8, 3) := by decide +kernel
theorem dX5_isOutside_5 : decode cX5_isOutside 5 = .ok (.iload_n 0, 1) := by decide +kernel
theorem dX5_isOutside_6 : decode cX5_isOutside 6 = .ok (.iload_n 2, 1) := by decide +kernel
theorem dX5_isOutside_7 : decode cX5_isOutside 7 = .ok (.if_icmp .le 7, 3) := by decide +kernel
theorem dX5_isOutside_10 : decode cX5_isOutside 10 = .ok (.iconst 1, 1) := by decide +kernel
theorem dX5_isOutside_11 : decode cX5_isOutside 11 = .ok (.goto 4, 3) := by decide +kernel
theorem dX5_isOutside_14 : decode cX5_isOutside 14 = .ok (.iconst 0, 1) := by decide +kernel
theorem dX5_isOutside_15 : decode cX5_isOutside 15 = .ok (.ireturn, 1) := by decide +kernel
theorem dX5_isTrack_0 : decode cX5_isTrack 0 = .ok (.iload_n 0, 1) := by decide +kernel
theorem dX5_isTrack_1 : decode cX5_isTrack 1 = .ok (.iconst 0, 1) := by decide +kernel
theorem dX5_isTrack_2 : decode cX5_isTrack 2 = .ok (.iconst 2, 1) := by decide +kernel
theorem dX5_isTrack_3 : decode cX5_isTrack 3 = .ok (.invokestatic 44, 3) := by decide +kernel
theorem dX5_isTrack_6 : decode cX5_isTrack 6 = .ok (.ifCond .ne 7, 3) := by decide +kernel
theorem dX5_isTrack_9 : decode cX5_isTrack 9 = .ok (.iconst 1, 1) := by decide +kernel
theorem dX5_isTrack_10 : decode cX5_isTrack 10 = .ok (.goto 4, 3) := by decide +kernel
theorem dX5_isTrack_13 : decode cX5_isTrack 13 = .ok (.iconst 0, 1) := by decide +kernel
theorem dX5_isTrack_14 : decode cX5_isTrack 14 = .ok (.ireturn, 1) := by decide +kernel
theorem dX5_isCell_0 : decode cX5_isCell 0 = .ok (.iload_n 0, 1) := by decide +kernel
theorem dX5_isCell_1 : decode cX5_isCell 1 = .ok (.invokestatic 132, 3) := by decide +kernel
theorem dX5_isCell_4 : decode cX5_isCell 4 = .ok (.ifCond .eq 17, 3) := by decide +kernel
theorem dX5_isCell_7 : decode cX5_isCell 7 = .ok (.iload_n 1, 1) := by decide +kernel
theorem dX5_isCell_8 : decode cX5_isCell 8 = .ok (.iconst 0, 1) := by decide +kernel
theorem dX5_isCell_9 : decode cX5_isCell 9 = .ok (.bipush 7, 2) := by decide +kernel
theorem dX5_isCell_11 : decode cX5_isCell 11 = .ok (.invokestatic 44, 3) := by decide +kernel
theorem dX5_isCell_14 : decode cX5_isCell 14 = .ok (.ifCond .ne 7, 3) := by decide +kernel
theorem dX5_isCell_17 : decode cX5_isCell 17 = .ok (.iconst 1, 1) := by decide +kernel
theorem dX5_isCell_18 : decode cX5_isCell 18 = .ok (.goto 4, 3) := by decide +kernel
theorem dX5_isCell_21 : decode cX5_isCell 21 = .ok (.iconst 0, 1) := by decide +kernel
theorem dX5_isCell_22 : decode cX5_isCell 22 = .ok (.ireturn, 1) := by decide +kernel
theorem dX5_isReading_0 : decode cX5_isReading 0 = .ok (.iload_n 1, 1) := by decide +kernel
theorem dX5_isReading_1 : decode cX5_isReading 1 = .ok (.iconst 0, 1) := by decide +kernel
theorem dX5_isReading_2 : decode cX5_isReading 2 = .ok (.getstatic 165, 3) := by decide +kernel
theorem dX5_isReading_5 : decode cX5_isReading 5 = .ok (.iload_n 0, 1) := by decide +kernel
theorem dX5_isReading_6 : decode cX5_isReading 6 = .ok (.invokestatic 124, 3) := by decide +kernel
theorem dX5_isReading_9 : decode cX5_isReading 9 = .ok (.iconst 1, 1) := by decide +kernel
theorem dX5_isReading_10 : decode cX5_isReading 10 = .ok (.isub, 1) := by decide +kernel
theorem dX5_isReading_11 : decode cX5_isReading 11 = .ok (.invokestatic 44, 3) := by decide +kernel
theorem dX5_isReading_14 : decode cX5_isReading 14 = .ok (.ifCond .ne 7, 3) := by decide +kernel
theorem dX5_isReading_17 : decode cX5_isReading 17 = .ok (.iconst 1, 1) := by decide +kernel
theorem dX5_isReading_18 : decode cX5_isReading 18 = .ok (.goto 4, 3) := by decide +kernel
theorem dX5_isReading_21 : decode cX5_isReading 21 = .ok (.iconst 0, 1) := by decide +kernel
theorem dX5_isReading_22 : decode cX5_isReading 22 = .ok (.ireturn, 1) := by decide +kernel
theorem dX5_cell_0 : decode cX5_cell 0 = .ok (.iload_n 0, 1) := by decide +kernel
theorem dX5_cell_1 : decode cX5_cell 1 = .ok (.bipush 8, 2) := by decide +kernel
theorem dX5_cell_3 : decode cX5_cell 3 = .ok (.imul, 1) := by decide +kernel
theorem dX5_cell_4 : decode cX5_cell 4 = .ok (.iload_n 1, 1) := by decide +kernel
theorem dX5_cell_5 : decode cX5_cell 5 = .ok (.iadd, 1) := by decide +kernel
theorem dX5_cell_6 : decode cX5_cell 6 = .ok (.ireturn, 1) := by decide +kernel
theorem dX5_sectorOf_0 : decode cX5_sectorOf 0 = .ok (.iload_n 0, 1) := by decide +kernel
theorem dX5_sectorOf_1 : decode cX5_sectorOf 1 = .ok (.sipush 510, 3) := by decide +kernel
theorem dX5_sectorOf_4 : decode cX5_sectorOf 4 = .ok (.idiv, 1) := by decide +kernel
theorem dX5_sectorOf_5 : decode cX5_sectorOf 5 = .ok (.ireturn, 1) := by decide +kernel
theorem dX5_toNumber_0 : decode cX5_toNumber 0 = .ok (.iload_n 0, 1) := by decide +kernel
theorem dX5_toNumber_1 : decode cX5_toNumber 1 = .ok (.ifCond .eq 7, 3) := by decide +kernel
theorem dX5_toNumber_4 : decode cX5_toNumber 4 = .ok (.iconst 1, 1) := by decide +kernel
theorem dX5_toNumber_5 : decode cX5_toNumber 5 = .ok (.goto 4, 3) := by decide +kernel
theorem dX5_toNumber_8 : decode cX5_toNumber 8 = .ok (.iconst 0, 1) := by decide +kernel
theorem dX5_toNumber_9 : decode cX5_toNumber 9 = .ok (.ireturn, 1) := by decide +kernel
theorem dX5_at_0 : decode cX5_at 0 = .ok (.iload_n 1, 1) := by decide +kernel
theorem dX5_at_1 : decode cX5_at 1 = .ok (.ifCond .lt 15, 3) := by decide +kernel
theorem dX5_at_4 : decode cX5_at 4 = .ok (.iload_n 1, 1) := by decide +kernel
theorem dX5_at_5 : decode cX5_at 5 = .ok (.aload_n 0, 1) := by decide +kernel
theorem dX5_at_6 : decode cX5_at 6 = .ok (.arraylength, 1) := by decide +kernel
theorem dX5_at_7 : decode cX5_at 7 = .ok (.if_icmp .ge 9, 3) := by decide +kernel
theorem dX5_at_10 : decode cX5_at 10 = .ok (.aload_n 0, 1) := by decide +kernel
theorem dX5_at_11 : decode cX5_at 11 = .ok (.iload_n 1, 1) := by decide +kernel
theorem dX5_at_12 : decode cX5_at 12 = .ok (.iaload, 1) := by decide +kernel
theorem dX5_at_13 : decode cX5_at 13 = .ok (.goto 4, 3) := by decide +kernel
theorem dX5_at_16 : decode cX5_at 16 = .ok (.iconst 0, 1) := by decide +kernel
theorem dX5_at_17 : decode cX5_at 17 = .ok (.ireturn, 1) := by decide +kernel
theorem dX5_put_0 : decode cX5_put 0 = .ok (.iload_n 1, 1) := by decide +kernel
theorem dX5_put_1 : decode cX5_put 1 = .ok (.ifCond .lt 13, 3) := by decide +kernel
theorem dX5_put_4 : decode cX5_put 4 = .ok (.iload_n 1, 1) := by decide +kernel
theorem dX5_put_5 : decode cX5_put 5 = .ok (.aload_n 0, 1) := by decide +kernel
theorem dX5_put_6 : decode cX5_put 6 = .ok (.arraylength, 1) := by decide +kernel
theorem dX5_put_7 : decode cX5_put 7 = .ok (.if_icmp .ge 7, 3) := by decide +kernel
theorem dX5_put_10 : decode cX5_put 10 = .ok (.aload_n 0, 1) := by decide +kernel
theorem dX5_put_11 : decode cX5_put 11 = .ok (.iload_n 1, 1) := by decide +kernel
theorem dX5_put_12 : decode cX5_put 12 = .ok (.iload_n 2, 1) := by decide +kernel
theorem dX5_put_13 : decode cX5_put 13 = .ok (.iastore, 1) := by decide +kernel
theorem dX5_put_14 : decode cX5_put 14 = .ok (.return_, 1) := by decide +kernel
theorem dX5_copy_0 : decode cX5_copy 0 = .ok (.iconst 0, 1) := by decide +kernel
theorem dX5_copy_1 : decode cX5_copy 1 = .ok (.istore_n 2, 1) := by decide +kernel
theorem dX5_copy_2 : decode cX5_copy 2 = .ok (.iload_n 2, 1) := by decide +kernel
theorem dX5_copy_3 : decode cX5_copy 3 = .ok (.aload_n 0, 1) := by decide +kernel
theorem dX5_copy_4 : decode cX5_copy 4 = .ok (.arraylength, 1) := by decide +kernel
theorem dX5_copy_5 : decode cX5_copy 5 = .ok (.if_icmp .ge 21, 3) := by decide +kernel
theorem dX5_copy_8 : decode cX5_copy 8 = .ok (.iload_n 2, 1) := by decide +kernel
theorem dX5_copy_9 : decode cX5_copy 9 = .ok (.aload_n 1, 1) := by decide +kernel
theorem dX5_copy_10 : decode cX5_copy 10 = .ok (.arraylength, 1) := by decide +kernel
theorem dX5_copy_11 : decode cX5_copy 11 = .ok (.if_icmp .ge 15, 3) := by decide +kernel
theorem dX5_copy_14 : decode cX5_copy 14 = .ok (.aload_n 1, 1) := by decide +kernel
theorem dX5_copy_15 : decode cX5_copy 15 = .ok (.iload_n 2, 1) := by decide +kernel
theorem dX5_copy_16 : decode cX5_copy 16 = .ok (.aload_n 0, 1) := by decide +kernel
theorem dX5_copy_17 : decode cX5_copy 17 = .ok (.iload_n 2, 1) := by decide +kernel
theorem dX5_copy_18 : decode cX5_copy 18 = .ok (.iaload, 1) := by decide +kernel
theorem dX5_copy_19 : decode cX5_copy 19 = .ok (.iastore, 1) := by decide +kernel
theorem dX5_copy_20 : decode cX5_copy 20 = .ok (.iinc 2 1, 3) := by decide +kernel
theorem dX5_copy_23 : decode cX5_copy 23 = .ok (.goto (-21), 3) := by decide +kernel
theorem dX5_copy_26 : decode cX5_copy 26 = .ok (.return_, 1) := by decide +kernel
theorem dX5_remainder_0 : decode cX5_remainder 0 = .ok (.iload_n 1, 1) := by decide +kernel
theorem dX5_remainder_1 : decode cX5_remainder 1 = .ok (.ifCond .gt 5, 3) := by decide +kernel
theorem dX5_remainder_4 : decode cX5_remainder 4 = .ok (.iconst 0, 1) := by decide +kernel
theorem dX5_remainder_5 : decode cX5_remainder 5 = .ok (.ireturn, 1) := by decide +kernel
theorem dX5_remainder_6 : decode cX5_remainder 6 = .ok (.iload_n 0, 1) := by decide +kernel
theorem dX5_remainder_7 : decode cX5_remainder 7 = .ok (.iload_n 1, 1) := by decide +kernel
theorem dX5_remainder_8 : decode cX5_remainder 8 = .ok (.irem, 1) := by decide +kernel
end
section
theorem dX5_remainder_9 : decode cX5_remainder 9 = .ok (.istore_n 2, 1) := by decide +kernel
theorem dX5_remainder_10 : decode cX5_remainder 10 = .ok (.iload_n 2, 1) := by decide +kernel
theorem dX5_remainder_11 : decode cX5_remainder 11 = .ok (.ifCond .ge 9, 3) := by decide +kernel
theorem dX5_remainder_14 : decode cX5_remainder 14 = .ok (.iload_n 2, 1) := by decide +kernel
theorem dX5_remainder_15 : decode cX5_remainder 15 = .ok (.iload_n 1, 1) := by decide +kernel
theorem dX5_remainder_16 : decode cX5_remainder 16 = .ok (.iadd, 1) := by decide +kernel
theorem dX5_remainder_17 : decode cX5_remainder 17 = .ok (.goto 4, 3) := by decide +kernel
theorem dX5_remainder_20 : decode cX5_remainder 20 = .ok (.iload_n 2, 1) := by decide +kernel
theorem dX5_remainder_21 : decode cX5_remainder 21 = .ok (.ireturn, 1) := by decide +kernel
theorem dX5_distance_0 : decode cX5_distance 0 = .ok (.iload_n 0, 1) := by decide +kernel
theorem dX5_distance_1 : decode cX5_distance 1 = .ok (.iload_n 1, 1) := by decide +kernel
theorem dX5_distance_2 : decode cX5_distance 2 = .ok (.isub, 1) := by decide +kernel
theorem dX5_distance_3 : decode cX5_distance 3 = .ok (.iload_n 2, 1) := by decide +kernel
theorem dX5_distance_4 : decode cX5_distance 4 = .ok (.invokestatic 168, 3) := by decide +kernel
theorem dX5_distance_7 : decode cX5_distance 7 = .ok (.iload_n 1, 1) := by decide +kernel
theorem dX5_distance_8 : decode cX5_distance 8 = .ok (.iload_n 0, 1) := by decide +kernel
theorem dX5_distance_9 : decode cX5_distance 9 = .ok (.isub, 1) := by decide +kernel
theorem dX5_distance_10 : decode cX5_distance 10 = .ok (.iload_n 2, 1) := by decide +kernel
theorem dX5_distance_11 : decode cX5_distance 11 = .ok (.invokestatic 168, 3) := by decide +kernel
theorem dX5_distance_14 : decode cX5_distance 14 = .ok (.invokestatic 239, 3) := by decide +kernel
theorem dX5_distance_17 : decode cX5_distance 17 = .ok (.ireturn, 1) := by decide +kernel
theorem dX5_deviation_0 : decode cX5_deviation 0 = .ok (.iload_n 0, 1) := by decide +kernel
theorem dX5_deviation_1 : decode cX5_deviation 1 = .ok (.iload_n 1, 1) := by decide +kernel
theorem dX5_deviation_2 : decode cX5_deviation 2 = .ok (.getstatic 165, 3) := by decide +kernel
theorem dX5_deviation_5 : decode cX5_deviation 5 = .ok (.iconst 0, 1) := by decide +kernel
theorem dX5_deviation_6 : decode cX5_deviation 6 = .ok (.invokestatic 124, 3) := by decide +kernel
theorem dX5_deviation_9 : decode cX5_deviation 9 = .ok (.invokestatic 214, 3) := by decide +kernel
theorem dX5_deviation_12 : decode cX5_deviation 12 = .ok (.istore 4, 2) := by decide +kernel
theorem dX5_deviation_14 : decode cX5_deviation 14 = .ok (.iload_n 0, 1) := by decide +kernel
theorem dX5_deviation_15 : decode cX5_deviation 15 = .ok (.iload_n 2, 1) := by decide +kernel
theorem dX5_deviation_16 : decode cX5_deviation 16 = .ok (.getstatic 165, 3) := by decide +kernel
theorem dX5_deviation_19 : decode cX5_deviation 19 = .ok (.iconst 1, 1) := by decide +kernel
theorem dX5_deviation_20 : decode cX5_deviation 20 = .ok (.invokestatic 124, 3) := by decide +kernel
theorem dX5_deviation_23 : decode cX5_deviation 23 = .ok (.invokestatic 214, 3) := by decide +kernel
theorem dX5_deviation_26 : decode cX5_deviation 26 = .ok (.istore 5, 2) := by decide +kernel
theorem dX5_deviation_28 : decode cX5_deviation 28 = .ok (.iload_n 0, 1) := by decide +kernel
theorem dX5_deviation_29 : decode cX5_deviation 29 = .ok (.iload_n 3, 1) := by decide +kernel
theorem dX5_deviation_30 : decode cX5_deviation 30 = .ok (.getstatic 165, 3) := by decide +kernel
theorem dX5_deviation_33 : decode cX5_deviation 33 = .ok (.iconst 2, 1) := by decide +kernel
theorem dX5_deviation_34 : decode cX5_deviation 34 = .ok (.invokestatic 124, 3) := by decide +kernel
theorem dX5_deviation_37 : decode cX5_deviation 37 = .ok (.invokestatic 214, 3) := by decide +kernel
theorem dX5_deviation_40 : decode cX5_deviation 40 = .ok (.istore 6, 2) := by decide +kernel
theorem dX5_deviation_42 : decode cX5_deviation 42 = .ok (.iload 4, 2) := by decide +kernel
theorem dX5_deviation_44 : decode cX5_deviation 44 = .ok (.iload 5, 2) := by decide +kernel
theorem dX5_deviation_46 : decode cX5_deviation 46 = .ok (.iload 6, 2) := by decide +kernel
theorem dX5_deviation_48 : decode cX5_deviation 48 = .ok (.invokestatic 196, 3) := by decide +kernel
theorem dX5_deviation_51 : decode cX5_deviation 51 = .ok (.invokestatic 196, 3) := by decide +kernel
theorem dX5_deviation_54 : decode cX5_deviation 54 = .ok (.ireturn, 1) := by decide +kernel
theorem dX5_nearestAngle_0 : decode cX5_nearestAngle 0 = .ok (.iconst 0, 1) := by decide +kernel
theorem dX5_nearestAngle_1 : decode cX5_nearestAngle 1 = .ok (.istore_n 3, 1) := by decide +kernel
theorem dX5_nearestAngle_2 : decode cX5_nearestAngle 2 = .ok (.iconst 0, 1) := by decide +kernel
theorem dX5_nearestAngle_3 : decode cX5_nearestAngle 3 = .ok (.iload_n 0, 1) := by decide +kernel
theorem dX5_nearestAngle_4 : decode cX5_nearestAngle 4 = .ok (.iload_n 1, 1) := by decide +kernel
theorem dX5_nearestAngle_5 : decode cX5_nearestAngle 5 = .ok (.iload_n 2, 1) := by decide +kernel
theorem dX5_nearestAngle_6 : decode cX5_nearestAngle 6 = .ok (.invokestatic 161, 3) := by decide +kernel
theorem dX5_nearestAngle_9 : decode cX5_nearestAngle 9 = .ok (.istore 4, 2) := by decide +kernel
theorem dX5_nearestAngle_11 : decode cX5_nearestAngle 11 = .ok (.iconst 1, 1) := by decide +kernel
theorem dX5_nearestAngle_12 : decode cX5_nearestAngle 12 = .ok (.istore 5, 2) := by decide +kernel
theorem dX5_nearestAngle_14 : decode cX5_nearestAngle 14 = .ok (.iload 5, 2) := by decide +kernel
theorem dX5_nearestAngle_16 : decode cX5_nearestAngle 16 = .ok (.sipush 4080, 3) := by decide +kernel
theorem dX5_nearestAngle_19 : decode cX5_nearestAngle 19 = .ok (.if_icmp .ge 51, 3) := by decide +kernel
theorem dX5_nearestAngle_22 : decode cX5_nearestAngle 22 = .ok (.iload 4, 2) := by decide +kernel
theorem dX5_nearestAngle_24 : decode cX5_nearestAngle 24 = .ok (.ifCond .le 46, 3) := by decide +kernel
theorem dX5_nearestAngle_27 : decode cX5_nearestAngle 27 = .ok (.iload 5, 2) := by decide +kernel
theorem dX5_nearestAngle_29 : decode cX5_nearestAngle 29 = .ok (.iload_n 0, 1) := by decide +kernel
theorem dX5_nearestAngle_30 : decode cX5_nearestAngle 30 = .ok (.iload_n 1, 1) := by decide +kernel
theorem dX5_nearestAngle_31 : decode cX5_nearestAngle 31 = .ok (.iload_n 2, 1) := by decide +kernel
theorem dX5_nearestAngle_32 : decode cX5_nearestAngle 32 = .ok (.invokestatic 161, 3) := by decide +kernel
theorem dX5_nearestAngle_35 : decode cX5_nearestAngle 35 = .ok (.istore 6, 2) := by decide +kernel
theorem dX5_nearestAngle_37 : decode cX5_nearestAngle 37 = .ok (.iload 6, 2) := by decide +kernel
theorem dX5_nearestAngle_39 : decode cX5_nearestAngle 39 = .ok (.iload 4, 2) := by decide +kernel
theorem dX5_nearestAngle_41 : decode cX5_nearestAngle 41 = .ok (.if_icmp .ge 10, 3) := by decide +kernel
theorem dX5_nearestAngle_44 : decode cX5_nearestAngle 44 = .ok (.iload 5, 2) := by decide +kernel
theorem dX5_nearestAngle_46 : decode cX5_nearestAngle 46 = .ok (.istore_n 3, 1) := by decide +kernel
theorem dX5_nearestAngle_47 : decode cX5_nearestAngle 47 = .ok (.iload 6, 2) := by decide +kernel
theorem dX5_nearestAngle_49 : decode cX5_nearestAngle 49 = .ok (.istore 4, 2) := by decide +kernel
theorem dX5_nearestAngle_51 : decode cX5_nearestAngle 51 = .ok (.iload 5, 2) := by decide +kernel
theorem dX5_nearestAngle_53 : decode cX5_nearestAngle 53 = .ok (.iconst 1, 1) := by decide +kernel
theorem dX5_nearestAngle_54 : decode cX5_nearestAngle 54 = .ok (.iload 6, 2) := by decide +kernel
theorem dX5_nearestAngle_56 : decode cX5_nearestAngle 56 = .ok (.iload 4, 2) := by decide +kernel
theorem dX5_nearestAngle_58 : decode cX5_nearestAngle 58 = .ok (.isub, 1) := by decide +kernel
theorem dX5_nearestAngle_59 : decode cX5_nearestAngle 59 = .ok (.iconst 1, 1) := by decide +kernel
theorem dX5_nearestAngle_60 : decode cX5_nearestAngle 60 = .ok (.iadd, 1) := by decide +kernel
theorem dX5_nearestAngle_61 : decode cX5_nearestAngle 61 = .ok (.invokestatic 196, 3) := by decide +kernel
theorem dX5_nearestAngle_64 : decode cX5_nearestAngle 64 = .ok (.iadd, 1) := by decide +kernel
theorem dX5_nearestAngle_65 : decode cX5_nearestAngle 65 = .ok (.istore 5, 2) := by decide +kernel
theorem dX5_nearestAngle_67 : decode cX5_nearestAngle 67 = .ok (.goto (-53), 3) := by decide +kernel
theorem dX5_nearestAngle_70 : decode cX5_nearestAngle 70 = .ok (.iload_n 3, 1) := by decide +kernel
theorem dX5_nearestAngle_71 : decode cX5_nearestAngle 71 = .ok (.ireturn, 1) := by decide +kernel
theorem dX6_init_0 : decode cX6_init 0 = .ok (.aload_n 0, 1) := by decide +kernel
theorem dX6_init_1 : decode cX6_init 1 = .ok (.invokespecial 1, 3) := by decide +kernel
theorem dX6_init_4 : decode cX6_init 4 = .ok (.aload_n 0, 1) := by decide +kernel
theorem dX6_init_5 : decode cX6_init 5 = .ok (.bipush 62, 2) := by decide +kernel
theorem dX6_init_7 : decode cX6_init 7 = .ok (.newarray .int, 2) := by decide +kernel
theorem dX6_init_9 : decode cX6_init 9 = .ok (.putfield 7, 3) := by decide +kernel
theorem dX6_init_12 : decode cX6_init 12 = .ok (.aload_n 0, 1) := by decide +kernel
theorem dX6_init_13 : decode cX6_init 13 = .ok (.sipush 248, 3) := by decide +kernel
theorem dX6_init_16 : decode cX6_init 16 = .ok (.newarray .int, 2) := by decide +kernel
theorem dX6_init_18 : decode cX6_init 18 = .ok (.putfield 13, 3) := by decide +kernel
theorem dX6_init_21 : decode cX6_init 21 = .ok (.aload_n 0, 1) := by decide +kernel
theorem dX6_init_22 : decode cX6_init 22 = .ok (.bipush 60, 2) := by decide +kernel
theorem dX6_init_24 : decode cX6_init 24 = .ok (.newarray .int, 2) := by decide +kernel
theorem dX6_init_26 : decode cX6_init 26 = .ok (.putfield 16, 3) := by decide +kernel
theorem dX6_init_29 : decode cX6_init 29 = .ok (.aload_n 0, 1) := by decide +kernel
theorem dX6_init_30 : decode cX6_init 30 = .ok (.iconst 3, 1) := by decide +kernel
theorem dX6_init_31 : decode cX6_init 31 = .ok (.newarray .int, 2) := by decide +kernel
theorem dX6_init_33 : decode cX6_init 33 = .ok (.putfield 19, 3) := by decide +kernel
theorem dX6_init_36 : decode cX6_init 36 = .ok (.aload_n 0, 1) := by decide +kernel
theorem dX6_init_37 : decode cX6_init 37 = .ok (.bipush 30, 2) := by decide +kernel
theorem dX6_init_39 : decode cX6_init 39 = .ok (.newarray .int, 2) := by decide +kernel
theorem dX6_init_41 : decode cX6_init 41 = .ok (.putfield 22, 3) := by decide +kernel
theorem dX6_init_44 : decode cX6_init 44 = .ok (.aload_n 0, 1) := by decide +kernel
theorem dX6_init_45 : decode cX6_init 45 = .ok (.bipush 30, 2) := by decide +kernel
theorem dX6_init_47 : decode cX6_init 47 = .ok (.newarray .int, 2) := by decide +kernel
theorem dX6_init_49 : decode cX6_init 49 = .ok (.putfield 25, 3) := by decide +kernel
theorem dX6_init_52 : decode cX6_init 52 = .ok (.aload_n 0, 1) := by decide +kernel
theorem dX6_init_53 : decode cX6_init 53 = .ok (.getfield 7, 3) := by decide +kernel
theorem dX6_init_56 : decode cX6_init 56 = .ok (.iconst 1, 1) := by decide +kernel
theorem dX6_init_57 : decode cX6_init 57 = .ok (.iconst 1, 1) := by decide +kernel
theorem dX6_init_58 : decode cX6_init 58 = .ok (.iastore, 1) := by decide +kernel
theorem dX6_init_59 : decode cX6_init 59 = .ok (.aload_n 0, 1) := by decide +kernel
theorem dX6_init_60 : decode cX6_init 60 = .ok (.getfield 7, 3) := by decide +kernel
theorem dX6_init_63 : decode cX6_init 63 = .ok (.iconst 3, 1) := by decide +kernel
theorem dX6_init_64 : decode cX6_init 64 = .ok (.sipush 200, 3) := by decide +kernel
theorem dX6_init_67 : decode cX6_init 67 = .ok (.iastore, 1) := by decide +kernel
theorem dX6_init_68 : decode cX6_init 68 = .ok (.aload_n 0, 1) := by decide +kernel
theorem dX6_init_69 : decode cX6_init 69 = .ok (.getfield 7, 3) := by decide +kernel
theorem dX6_init_72 : decode cX6_init 72 = .ok (.iconst 5, 1) := by decide +kernel
theorem dX6_init_73 : decode cX6_init 73 = .ok (.iconst (-1), 1) := by decide +kernel
theorem dX6_init_74 : decode cX6_init 74 = .ok (.iastore, 1) := by decide +kernel
theorem dX6_init_75 : decode cX6_init 75 = .ok (.aload_n 0, 1) := by decide +kernel
theorem dX6_init_76 : decode cX6_init 76 = .ok (.getfield 7, 3) := by decide +kernel
theorem dX6_init_79 : decode cX6_init 79 = .ok (.bipush 7, 2) := by decide +kernel
theorem dX6_init_81 : decode cX6_init 81 = .ok (.iconst 5, 1) := by decide +kernel
theorem dX6_init_82 : decode cX6_init 82 = .ok (.iastore, 1) := by decide +kernel
theorem dX6_init_83 : decode cX6_init 83 = .ok (.aload_n 0, 1) := by decide +kernel
theorem dX6_init_84 : decode cX6_init 84 = .ok (.getfield 7, 3) := by decide +kernel
theorem dX6_init_87 : decode cX6_init 87 = .ok (.bipush 8, 2) := by decide +kernel
theorem dX6_init_89 : decode cX6_init 89 = .ok (.iconst 2, 1) := by decide +kernel
theorem dX6_init_90 : decode cX6_init 90 = .ok (.iastore, 1) := by decide +kernel
theorem dX6_init_91 : decode cX6_init 91 = .ok (.aload_n 0, 1) := by decide +kernel
theorem dX6_init_92 : decode cX6_init 92 = .ok (.getfield 7, 3) := by decide +kernel
theorem dX6_init_95 : decode cX6_init 95 = .ok (.bipush 9, 2) := by decide +kernel
theorem dX6_init_97 : decode cX6_init 97 = .ok (.sipush 500, 3) := by decide +kernel
theorem dX6_init_100 : decode cX6_init 100 = .ok (.iastore, 1) := by decide +kernel
theorem dX6_init_101 : decode cX6_init 101 = .ok (.return_, 1) := by decide +kernel
theorem dX6_in_0 : decode cX6_in 0 = .ok (.iload_n 0, 1) := by decide +kernel
theorem dX6_in_1 : decode cX6_in 1 = .ok (.iload_n 1, 1) := by decide +kernel
theorem dX6_in_2 : decode cX6_in 2 = .ok (.if_icmp .lt 12, 3) := by decide +kernel
theorem dX6_in_5 : decode cX6_in 5 = .ok (.iload_n 0, 1) := by decide +kernel
theorem dX6_in_6 : decode cX6_in 6 = .ok (.iload_n 2, 1) := by decide +kernel
theorem dX6_in_7 : decode cX6_in 7 = .ok (.if_icmp .gt 7, 3) := by decide +kernel
theorem dX6_in_10 : decode cX6_in 10 = .ok (.iconst 1, 1) := by decide +kernel
theorem dX6_in_11 : decode cX6_in 11 = .ok (.goto 4, 3) := by decide +kernel
theorem dX6_in_14 : decode cX6_in 14 = .ok (.iconst 0, 1) := by decide +kernel
theorem dX6_in_15 : decode cX6_in 15 = .ok (.ireturn, 1) := by decide +kernel
theorem dX6_rest_0 : decode cX6_rest 0 = .ok (.iload_n 0, 1) := by decide +kernel
theorem dX6_rest_1 : decode cX6_rest 1 = .ok (.iload_n 1, 1) := by decide +kernel
theorem dX6_rest_2 : decode cX6_rest 2 = .ok (.irem, 1) := by decide +kernel
theorem dX6_rest_3 : decode cX6_rest 3 = .ok (.istore_n 2, 1) := by decide +kernel
theorem dX6_rest_4 : decode cX6_rest 4 = .ok (.iload_n 2, 1) := by decide +kernel
theorem dX6_rest_5 : decode cX6_rest 5 = .ok (.ifCond .ge 9, 3) := by decide +kernel
theorem dX6_rest_8 : decode cX6_rest 8 = .ok (.iload_n 2, 1) := by decide +kernel
theorem dX6_rest_9 : decode cX6_rest 9 = .ok (.iload_n 1, 1) := by decide +kernel
theorem dX6_rest_10 : decode cX6_rest 10 = .ok (.iadd, 1) := by decide +kernel
theorem dX6_rest_11 : decode cX6_rest 11 = .ok (.goto 4, 3) := by decide +kernel
theorem dX6_rest_14 : decode cX6_rest 14 = .ok (.iload_n 2, 1) := by decide +kernel
theorem dX6_rest_15 : decode cX6_rest 15 = .ok (.ireturn, 1) := by decide +kernel
theorem dX6_off_0 : decode cX6_off 0 = .ok (.iload_n 0, 1) := by decide +kernel
theorem dX6_off_1 : decode cX6_off 1 = .ok (.iload_n 1, 1) := by decide +kernel
theorem dX6_off_2 : decode cX6_off 2 = .ok (.isub, 1) := by decide +kernel
theorem dX6_off_3 : decode cX6_off 3 = .ok (.iload_n 2, 1) := by decide +kernel
theorem dX6_off_4 : decode cX6_off 4 = .ok (.invokestatic 28, 3) := by decide +kernel
theorem dX6_off_7 : decode cX6_off 7 = .ok (.istore_n 3, 1) := by decide +kernel
theorem dX6_off_8 : decode cX6_off 8 = .ok (.iload_n 3, 1) := by decide +kernel
theorem dX6_off_9 : decode cX6_off 9 = .ok (.iload_n 2, 1) := by decide +kernel
theorem dX6_off_10 : decode cX6_off 10 = .ok (.iload_n 3, 1) := by decide +kernel
theorem dX6_off_11 : decode cX6_off 11 = .ok (.isub, 1) := by decide +kernel
theorem dX6_off_12 : decode cX6_off 12 = .ok (.if_icmp .le 9, 3) := by decide +kernel
theorem dX6_off_15 : decode cX6_off 15 = .ok (.iload_n 2, 1) := by decide +kernel
theorem dX6_off_16 : decode cX6_off 16 = .ok (.iload_n 3, 1) := by decide +kernel
theorem dX6_off_17 : decode cX6_off 17 = .ok (.isub, 1) := by decide +kernel
theorem dX6_off_18 : decode cX6_off 18 = .ok (.goto 4, 3) := by decide +kernel
theorem dX6_off_21 : decode cX6_off 21 = .ok (.iload_n 3, 1) := by decide +kernel
theorem dX6_off_22 : decode cX6_off 22 = .ok (.ireturn, 1) := by decide +kernel
theorem dX6_lengthOf_0 : decode cX6_lengthOf 0 = .ok (.iload_n 0, 1) := by decide +kernel
theorem dX6_lengthOf_1 : decode cX6_lengthOf 1 = .ok (.ifCond .ne 9, 3) := by decide +kernel
theorem dX6_lengthOf_4 : decode cX6_lengthOf 4 = .ok (.sipush 272, 3) := by decide +kernel
theorem dX6_lengthOf_7 : decode cX6_lengthOf 7 = .ok (.goto 17, 3) := by decide +kernel
theorem dX6_lengthOf_10 : decode cX6_lengthOf 10 = .ok (.iload_n 0, 1) := by decide +kernel
theorem dX6_lengthOf_11 : decode cX6_lengthOf 11 = .ok (.iconst 1, 1) := by decide +kernel
theorem dX6_lengthOf_12 : decode cX6_lengthOf 12 = .ok (.if_icmp .ne 9, 3) := by decide +kernel
theorem dX6_lengthOf_15 : decode cX6_lengthOf 15 = .ok (.sipush 255, 3) := by decide +kernel
theorem dX6_lengthOf_18 : decode cX6_lengthOf 18 = .ok (.goto 6, 3) := by decide +kernel
theorem dX6_lengthOf_21 : decode cX6_lengthOf 21 = .ok (.sipush 240, 3) := by decide +kernel
theorem dX6_lengthOf_24 : decode cX6_lengthOf 24 = .ok (.ireturn, 1) := by decide +kernel
theorem dX6_isTrack_0 : decode cX6_isTrack 0 = .ok (.iload_n 0, 1) := by decide +kernel
theorem dX6_isTrack_1 : decode cX6_isTrack 1 = .ok (.iconst 0, 1) := by decide +kernel
theorem dX6_isTrack_2 : decode cX6_isTrack 2 = .ok (.iconst 2, 1) := by decide +kernel
theorem dX6_isTrack_3 : decode cX6_isTrack 3 = .ok (.invokestatic 32, 3) := by decide +kernel
theorem dX6_isTrack_6 : decode cX6_isTrack 6 = .ok (.ireturn, 1) := by decide +kernel
theorem dX6_isCell_0 : decode cX6_isCell 0 = .ok (.iload_n 0, 1) := by decide +kernel
theorem dX6_isCell_1 : decode cX6_isCell 1 = .ok (.invokestatic 36, 3) := by decide +kernel
theorem dX6_isCell_4 : decode cX6_isCell 4 = .ok (.ifCond .eq 17, 3) := by decide +kernel
theorem dX6_isCell_7 : decode cX6_isCell 7 = .ok (.iload_n 1, 1) := by decide +kernel
theorem dX6_isCell_8 : decode cX6_isCell 8 = .ok (.iconst 0, 1) := by decide +kernel
theorem dX6_isCell_9 : decode cX6_isCell 9 = .ok (.bipush 7, 2) := by decide +kernel
theorem dX6_isCell_11 : decode cX6_isCell 11 = .ok (.invokestatic 32, 3) := by decide +kernel
theorem dX6_isCell_14 : decode cX6_isCell 14 = .ok (.ifCond .eq 7, 3) := by decide +kernel
theorem dX6_isCell_17 : decode cX6_isCell 17 = .ok (.iconst 1, 1) := by decide +kernel
theorem dX6_isCell_18 : decode cX6_isCell 18 = .ok (.goto 4, 3) := by decide +kernel
theorem dX6_isCell_21 : decode cX6_isCell 21 = .ok (.iconst 0, 1) := by decide +kernel
theorem dX6_isCell_22 : decode cX6_isCell 22 = .ok (.ireturn, 1) := by decide +kernel
theorem dX6_saves_0 : decode cX6_saves 0 = .ok (.aload_n 0, 1) := by decide +kernel
theorem dX6_saves_1 : decode cX6_saves 1 = .ok (.getfield 40, 3) := by decide +kernel
theorem dX6_saves_4 : decode cX6_saves 4 = .ok (.iconst 4, 1) := by decide +kernel
theorem dX6_saves_5 : decode cX6_saves 5 = .ok (.if_icmp .ne 43, 3) := by decide +kernel
theorem dX6_saves_8 : decode cX6_saves 8 = .ok (.iconst 0, 1) := by decide +kernel
theorem dX6_saves_9 : decode cX6_saves 9 = .ok (.istore_n 1, 1) := by decide +kernel
theorem dX6_saves_10 : decode cX6_saves 10 = .ok (.iload_n 1, 1) := by decide +kernel
theorem dX6_saves_11 : decode cX6_saves 11 = .ok (.sipush 186, 3) := by decide +kernel
theorem dX6_saves_14 : decode cX6_saves 14 = .ok (.if_icmp .ge 24, 3) := by decide +kernel
theorem dX6_saves_17 : decode cX6_saves 17 = .ok (.aload_n 0, 1) := by decide +kernel
theorem dX6_saves_18 : decode cX6_saves 18 = .ok (.getfield 13, 3) := by decide +kernel
theorem dX6_saves_21 : decode cX6_saves 21 = .ok (.iload_n 1, 1) := by decide +kernel
theorem dX6_saves_22 : decode cX6_saves 22 = .ok (.aload_n 0, 1) := by decide +kernel
theorem dX6_saves_23 : decode cX6_saves 23 = .ok (.getfield 13, 3) := by decide +kernel
theorem dX6_saves_26 : decode cX6_saves 26 = .ok (.iload_n 1, 1) := by decide +kernel
theorem dX6_saves_27 : decode cX6_saves 27 = .ok (.bipush 62, 2) := by decide +kernel
theorem dX6_saves_29 : decode cX6_saves 29 = .ok (.iadd, 1) := by decide +kernel
theorem dX6_saves_30 : decode cX6_saves 30 = .ok (.iaload, 1) := by decide +kernel
theorem dX6_saves_31 : decode cX6_saves 31 = .ok (.iastore, 1) := by decide +kernel
theorem dX6_saves_32 : decode cX6_saves 32 = .ok (.iinc 1 1, 3) := by decide +kernel
theorem dX6_saves_35 : decode cX6_saves 35 = .ok (.goto (-25), 3) := by decide +kernel
theorem dX6_saves_38 : decode cX6_saves 38 = .ok (.aload_n 0, 1) := by decide +kernel
theorem dX6_saves_39 : decode cX6_saves 39 = .ok (.dup, 1) := by decide +kernel
theorem dX6_saves_40 : decode cX6_saves 40 = .ok (.getfield 40, 3) := by decide +kernel
theorem dX6_saves_43 : decode cX6_saves 43 = .ok (.iconst 1, 1) := by decide +kernel
theorem dX6_saves_44 : decode cX6_saves 44 = .ok (.isub, 1) := by decide +kernel
theorem dX6_saves_45 : decode cX6_saves 45 = .ok (.putfield 40, 3) := by decide +kernel
theorem dX6_saves_48 : decode cX6_saves 48 = .ok (.iconst 0, 1) := by decide +kernel
theorem dX6_saves_49 : decode cX6_saves 49 = .ok (.istore_n 1, 1) := by decide +kernel
theorem dX6_saves_50 : decode cX6_saves 50 = .ok (.iload_n 1, 1) := by decide +kernel
theorem dX6_saves_51 : decode cX6_saves 51 = .ok (.bipush 62, 2) := by decide +kernel
theorem dX6_saves_53 : decode cX6_saves 53 = .ok (.if_icmp .ge 29, 3) := by decide +kernel
theorem dX6_saves_56 : decode cX6_saves 56 = .ok (.aload_n 0, 1) := by decide +kernel
theorem dX6_saves_57 : decode cX6_saves 57 = .ok (.getfield 13, 3) := by decide +kernel
theorem dX6_saves_60 : decode cX6_saves 60 = .ok (.bipush 62, 2) := by decide +kernel
theorem dX6_saves_62 : decode cX6_saves 62 = .ok (.aload_n 0, 1) := by decide +kernel
theorem dX6_saves_63 : decode cX6_saves 63 = .ok (.getfield 40, 3) := by decide +kernel
theorem dX6_saves_66 : decode cX6_saves 66 = .ok (.imul, 1) := by decide +kernel
theorem dX6_saves_67 : decode cX6_saves 67 = .ok (.iload_n 1, 1) := by decide +kernel
theorem dX6_saves_68 : decode cX6_saves 68 = .ok (.iadd, 1) := by decide +kernel
theorem dX6_saves_69 : decode cX6_saves 69 = .ok (.aload_n 0, 1) := by decide +kernel
theorem dX6_saves_70 : decode cX6_saves 70 = .ok (.getfield 7, 3) := by decide +kernel
theorem dX6_saves_73 : decode cX6_saves 73 = .ok (.iload_n 1, 1) := by decide +kernel
theorem dX6_saves_74 : decode cX6_saves 74 = .ok (.iaload, 1) := by decide +kernel
theorem dX6_saves_75 : decode cX6_saves 75 = .ok (.iastore, 1) := by decide +kernel
theorem dX6_saves_76 : decode cX6_saves 76 = .ok (.iinc 1 1, 3) := by decide +kernel
theorem dX6_saves_79 : decode cX6_saves 79 = .ok (.goto (-29), 3) := by decide +kernel
theorem dX6_saves_82 : decode cX6_saves 82 = .ok (.aload_n 0, 1) := by decide +kernel
theorem dX6_saves_83 : decode cX6_saves 83 = .ok (.dup, 1) := by decide +kernel
theorem dX6_saves_84 : decode cX6_saves 84 = .ok (.getfield 40, 3) := by decide +kernel
theorem dX6_saves_87 : decode cX6_saves 87 = .ok (.iconst 1, 1) := by decide +kernel
theorem dX6_saves_88 : decode cX6_saves 88 = .ok (.iadd, 1) := by decide +kernel
theorem dX6_saves_89 : decode cX6_saves 89 = .ok (.putfield 40, 3) := by decide +kernel
theorem dX6_saves_92 : decode cX6_saves 92 = .ok (.return_, 1) := by decide +kernel
theorem dX6_puts_0 : decode cX6_puts 0 = .ok (.aload_n 0, 1) := by decide +kernel
theorem dX6_puts_1 : decode cX6_puts 1 = .ok (.invokevirtual 44, 3) := by decide +kernel
theorem dX6_puts_4 : decode cX6_puts 4 = .ok (.aload_n 0, 1) := by decide +kernel
theorem dX6_puts_5 : decode cX6_puts 5 = .ok (.getfield 7, 3) := by decide +kernel
theorem dX6_puts_8 : decode cX6_puts 8 = .ok (.iload_n 1, 1) := by decide +kernel
theorem dX6_puts_9 : decode cX6_puts 9 = .ok (.iaload, 1) := by decide +kernel
theorem dX6_puts_10 : decode cX6_puts 10 = .ok (.istore_n 3, 1) := by decide +kernel
theorem dX6_puts_11 : decode cX6_puts 11 = .ok (.aload_n 0, 1) := by decide +kernel
theorem dX6_puts_12 : decode cX6_puts 12 = .ok (.getfield 7, 3) := by decide +kernel
theorem dX6_puts_15 : decode cX6_puts 15 = .ok (.iload_n 1, 1) := by decide +kernel
theorem dX6_puts_16 : decode cX6_puts 16 = .ok (.iload_n 2, 1) := by decide +kernel
theorem dX6_puts_17 : decode cX6_puts 17 = .ok (.iastore, 1) := by decide +kernel
theorem dX6_puts_18 : decode cX6_puts 18 = .ok (.iload_n 3, 1) := by decide +kernel
theorem dX6_puts_19 : decode cX6_puts 19 = .ok (.ireturn, 1) := by decide +kernel
theorem dX6_undo_0 : decode cX6_undo 0 = .ok (.aload_n 0, 1) := by decide +kernel
theorem dX6_undo_1 : decode cX6_undo 1 = .ok (.getfield 40, 3) := by decide +kernel
theorem dX6_undo_4 : decode cX6_undo 4 = .ok (.ifCond .ne 6, 3) := by decide +kernel
theorem dX6_undo_7 : decode cX6_undo 7 = .ok (.bipush (-2), 2) := by decide +kernel
theorem dX6_undo_9 : decode cX6_undo 9 = .ok (.ireturn, 1) := by decide +kernel
theorem dX6_undo_10 : decode cX6_undo 10 = .ok (.aload_n 0, 1) := by decide +kernel
theorem dX6_undo_11 : decode cX6_undo 11 = .ok (.dup, 1) := by decide +kernel
theorem dX6_undo_12 : decode cX6_undo 12 = .ok (.getfield 40, 3) := by decide +kernel
theorem dX6_undo_15 : decode cX6_undo 15 = .ok (.iconst 1, 1) := by decide +kernel
theorem dX6_undo_16 : decode cX6_undo 16 = .ok (.isub, 1) := by decide +kernel
theorem dX6_undo_17 : decode cX6_undo 17 = .ok (.putfield 40, 3) := by decide +kernel
theorem dX6_undo_20 : decode cX6_undo 20 = .ok (.iconst 0, 1) := by decide +kernel
theorem dX6_undo_21 : decode cX6_undo 21 = .ok (.istore_n 1, 1) := by decide +kernel
theorem dX6_undo_22 : decode cX6_undo 22 = .ok (.iload_n 1, 1) := by decide +kernel
theorem dX6_undo_23 : decode cX6_undo 23 = .ok (.bipush 62, 2) := by decide +kernel
theorem dX6_undo_25 : decode cX6_undo 25 = .ok (.if_icmp .ge 29, 3) := by decide +kernel
theorem dX6_undo_28 : decode cX6_undo 28 = .ok (.aload_n 0, 1) := by decide +kernel
theorem dX6_undo_29 : decode cX6_undo 29 = .ok (.getfield 7, 3) := by decide +kernel
theorem dX6_undo_32 : decode cX6_undo 32 = .ok (.iload_n 1, 1) := by decide +kernel
theorem dX6_undo_33 : decode cX6_undo 33 = .ok (.aload_n 0, 1) := by decide +kernel
theorem dX6_undo_34 : decode cX6_undo 34 = .ok (.getfield 13, 3) := by decide +kernel
theorem dX6_undo_37 : decode cX6_undo 37 = .ok (.bipush 62, 2) := by decide +kernel
theorem dX6_undo_39 : decode cX6_undo 39 = .ok (.aload_n 0, 1) := by decide +kernel
theorem dX6_undo_40 : decode cX6_undo 40 = .ok (.getfield 40, 3) := by decide +kernel
theorem dX6_undo_43 : decode cX6_undo 43 = .ok (.imul, 1) := by decide +kernel
theorem dX6_undo_44 : decode cX6_undo 44 = .ok (.iload_n 1, 1) := by decide +kernel
theorem dX6_undo_45 : decode cX6_undo 45 = .ok (.iadd, 1) := by decide +kernel
theorem dX6_undo_46 : decode cX6_undo 46 = .ok (.iaload, 1) := by decide +kernel
theorem dX6_undo_47 : decode cX6_undo 47 = .ok (.iastore, 1) := by decide +kernel
theorem dX6_undo_48 : decode cX6_undo 48 = .ok (.iinc 1 1, 3) := by decide +kernel
theorem dX6_undo_51 : decode cX6_undo 51 = .ok (.goto (-29), 3) := by decide +kernel
theorem dX6_undo_54 : decode cX6_undo 54 = .ok (.aload_n 0, 1) := by decide +kernel
theorem dX6_undo_55 : decode cX6_undo 55 = .ok (.getfield 40, 3) := by decide +kernel
theorem dX6_undo_58 : decode cX6_undo 58 = .ok (.ireturn, 1) := by decide +kernel
theorem dX6_crosses_0 : decode cX6_crosses 0 = .ok (.iconst 1, 1) := by decide +kernel
theorem dX6_crosses_1 : decode cX6_crosses 1 = .ok (.istore_n 2, 1) := by decide +kernel
theorem dX6_crosses_2 : decode cX6_crosses 2 = .ok (.aload_n 0, 1) := by decide +kernel
theorem dX6_crosses_3 : decode cX6_crosses 3 = .ok (.getfield 7, 3) := by decide +kernel
theorem dX6_crosses_6 : decode cX6_crosses 6 = .ok (.iconst 1, 1) := by decide +kernel
theorem dX6_crosses_7 : decode cX6_crosses 7 = .ok (.iaload, 1) := by decide +kernel
theorem dX6_crosses_8 : decode cX6_crosses 8 = .ok (.ifCond .ne 82, 3) := by decide +kernel
theorem dX6_crosses_11 : decode cX6_crosses 11 = .ok (.aload_n 0, 1) := by decide +kernel
theorem dX6_crosses_12 : decode cX6_crosses 12 = .ok (.getfield 7, 3) := by decide +kernel
theorem dX6_crosses_15 : decode cX6_crosses 15 = .ok (.iconst 3, 1) := by decide +kernel
theorem dX6_crosses_16 : decode cX6_crosses 16 = .ok (.iaload, 1) := by decide +kernel
theorem dX6_crosses_17 : decode cX6_crosses 17 = .ok (.ifCond .le 16, 3) := by decide +kernel
theorem dX6_crosses_20 : decode cX6_crosses 20 = .ok (.aload_n 0, 1) := by decide +kernel
theorem dX6_crosses_21 : decode cX6_crosses 21 = .ok (.getfield 7, 3) := by decide +kernel
theorem dX6_crosses_24 : decode cX6_crosses 24 = .ok (.iconst 4, 1) := by decide +kernel
theorem dX6_crosses_25 : decode cX6_crosses 25 = .ok (.iaload, 1) := by decide +kernel
theorem dX6_crosses_26 : decode cX6_crosses 26 = .ok (.ifCond .ne 7, 3) := by decide +kernel
theorem dX6_crosses_29 : decode cX6_crosses 29 = .ok (.iconst 1, 1) := by decide +kernel
theorem dX6_crosses_30 : decode cX6_crosses 30 = .ok (.goto 4, 3) := by decide +kernel
theorem dX6_crosses_33 : decode cX6_crosses 33 = .ok (.iconst 0, 1) := by decide +kernel
theorem dX6_crosses_34 : decode cX6_crosses 34 = .ok (.istore_n 2, 1) := by decide +kernel
theorem dX6_crosses_35 : decode cX6_crosses 35 = .ok (.aload_n 0, 1) := by decide +kernel
theorem dX6_crosses_36 : decode cX6_crosses 36 = .ok (.getfield 7, 3) := by decide +kernel
theorem dX6_crosses_39 : decode cX6_crosses 39 = .ok (.iconst 4, 1) := by decide +kernel
theorem dX6_crosses_40 : decode cX6_crosses 40 = .ok (.dup2, 1) := by decide +kernel
theorem dX6_crosses_41 : decode cX6_crosses 41 = .ok (.iaload, 1) := by decide +kernel
theorem dX6_crosses_42 : decode cX6_crosses 42 = .ok (.aload_n 0, 1) := by decide +kernel
theorem dX6_crosses_43 : decode cX6_crosses 43 = .ok (.getfield 7, 3) := by decide +kernel
theorem dX6_crosses_46 : decode cX6_crosses 46 = .ok (.iconst 3, 1) := by decide +kernel
theorem dX6_crosses_47 : decode cX6_crosses 47 = .ok (.iaload, 1) := by decide +kernel
theorem dX6_crosses_48 : decode cX6_crosses 48 = .ok (.ifCond .le 16, 3) := by decide +kernel
theorem dX6_crosses_51 : decode cX6_crosses 51 = .ok (.aload_n 0, 1) := by decide +kernel
theorem dX6_crosses_52 : decode cX6_crosses 52 = .ok (.getfield 7, 3) := by decide +kernel
theorem dX6_crosses_55 : decode cX6_crosses 55 = .ok (.iconst 4, 1) := by decide +kernel
theorem dX6_crosses_56 : decode cX6_crosses 56 = .ok (.iaload, 1) := by decide +kernel
theorem dX6_crosses_57 : decode cX6_crosses 57 = .ok (.ifCond .le 7, 3) := by decide +kernel
theorem dX6_crosses_60 : decode cX6_crosses 60 = .ok (.iconst 1, 1) := by decide +kernel
theorem dX6_crosses_61 : decode cX6_crosses 61 = .ok (.goto 4, 3) := by decide +kernel
theorem dX6_crosses_64 : decode cX6_crosses 64 = .ok (.iconst 0, 1) := by decide +kernel
theorem dX6_crosses_65 : decode cX6_crosses 65 = .ok (.isub, 1) := by decide +kernel
theorem dX6_crosses_66 : decode cX6_crosses 66 = .ok (.iastore, 1) := by decide +kernel
theorem dX6_crosses_67 : decode cX6_crosses 67 = .ok (.aload_n 0, 1) := by decide +kernel
theorem dX6_crosses_68 : decode cX6_crosses 68 = .ok (.getfield 7, 3) := by decide +kernel
theorem dX6_crosses_71 : decode cX6_crosses 71 = .ok (.iconst 3, 1) := by decide +kernel
theorem dX6_crosses_72 : decode cX6_crosses 72 = .ok (.dup2, 1) := by decide +kernel
theorem dX6_crosses_73 : decode cX6_crosses 73 = .ok (.iaload, 1) := by decide +kernel
theorem dX6_crosses_74 : decode cX6_crosses 74 = .ok (.aload_n 0, 1) := by decide +kernel
theorem dX6_crosses_75 : decode cX6_crosses 75 = .ok (.getfield 7, 3) := by decide +kernel
theorem dX6_crosses_78 : decode cX6_crosses 78 = .ok (.iconst 3, 1) := by decide +kernel
theorem dX6_crosses_79 : decode cX6_crosses 79 = .ok (.iaload, 1) := by decide +kernel
theorem dX6_crosses_80 : decode cX6_crosses 80 = .ok (.ifCond .le 7, 3) := by decide +kernel
theorem dX6_crosses_83 : decode cX6_crosses 83 = .ok (.iconst 1, 1) := by decide +kernel
theorem dX6_crosses_84 : decode cX6_crosses 84 = .ok (.goto 4, 3) := by decide +kernel
theorem dX6_crosses_87 : decode cX6_crosses 87 = .ok (.iconst 0, 1) := by decide +kernel
theorem dX6_crosses_88 : decode cX6_crosses 88 = .ok (.isub, 1) := by decide +kernel
theorem dX6_crosses_89 : decode cX6_crosses 89 = .ok (.iastore, 1) := by decide +kernel
theorem dX6_crosses_90 : decode cX6_crosses 90 = .ok (.aload_n 0, 1) := by decide +kernel
theorem dX6_crosses_91 : decode cX6_crosses 91 = .ok (.getfield 7, 3) := by decide +kernel
theorem dX6_crosses_94 : decode cX6_crosses 94 = .ok (.iconst 2, 1) := by decide +kernel
theorem dX6_crosses_95 : decode cX6_crosses 95 = .ok (.aload_n 0, 1) := by decide +kernel
theorem dX6_crosses_96 : decode cX6_crosses 96 = .ok (.getfield 7, 3) := by decide +kernel
theorem dX6_crosses_99 : decode cX6_crosses 99 = .ok (.iconst 2, 1) := by decide +kernel
theorem dX6_crosses_100 : decode cX6_crosses 100 = .ok (.iaload, 1) := by decide +kernel
theorem dX6_crosses_101 : decode cX6_crosses 101 = .ok (.iload_n 2, 1) := by decide +kernel
theorem dX6_crosses_102 : decode cX6_crosses 102 = .ok (.ifCond .eq 7, 3) := by decide +kernel
theorem dX6_crosses_105 : decode cX6_crosses 105 = .ok (.iload_n 1, 1) := by decide +kernel
theorem dX6_crosses_106 : decode cX6_crosses 106 = .ok (.goto 4, 3) := by decide +kernel
theorem dX6_crosses_109 : decode cX6_crosses 109 = .ok (.iconst 0, 1) := by decide +kernel
theorem dX6_crosses_110 : decode cX6_crosses 110 = .ok (.iadd, 1) := by decide +kernel
theorem dX6_crosses_111 : decode cX6_crosses 111 = .ok (.bipush 64, 2) := by decide +kernel
theorem dX6_crosses_113 : decode cX6_crosses 113 = .ok (.invokestatic 28, 3) := by decide +kernel
theorem dX6_crosses_116 : decode cX6_crosses 116 = .ok (.iastore, 1) := by decide +kernel
theorem dX6_crosses_117 : decode cX6_crosses 117 = .ok (.return_, 1) := by decide +kernel
theorem dX6_turn_0 : decode cX6_turn 0 = .ok (.iload_n 1, 1) := by decide +kernel
theorem dX6_turn_1 : decode cX6_turn 1 = .ok (.sipush (-9999), 3) := by decide +kernel
theorem dX6_turn_4 : decode cX6_turn 4 = .ok (.sipush 9999, 3) := by decide +kernel
theorem dX6_turn_7 : decode cX6_turn 7 = .ok (.invokestatic 32, 3) := by decide +kernel
theorem dX6_turn_10 : decode cX6_turn 10 = .ok (.ifCond .ne 5, 3) := by decide +kernel
theorem dX6_turn_13 : decode cX6_turn 13 = .ok (.iconst (-1), 1) := by decide +kernel
theorem dX6_turn_14 : decode cX6_turn 14 = .ok (.ireturn, 1) := by decide +kernel
theorem dX6_turn_15 : decode cX6_turn 15 = .ok (.aload_n 0, 1) := by decide +kernel
theorem dX6_turn_16 : decode cX6_turn 16 = .ok (.getfield 7, 3) := by decide +kernel
theorem dX6_turn_19 : decode cX6_turn 19 = .ok (.iconst 0, 1) := by decide +kernel
theorem dX6_turn_20 : decode cX6_turn 20 = .ok (.iaload, 1) := by decide +kernel
theorem dX6_turn_21 : decode cX6_turn 21 = .ok (.iload_n 1, 1) := by decide +kernel
theorem dX6_turn_22 : decode cX6_turn 22 = .ok (.iadd, 1) := by decide +kernel
theorem dX6_turn_23 : decode cX6_turn 23 = .ok (.iconst 0, 1) := by decide +kernel
theorem dX6_turn_24 : decode cX6_turn 24 = .ok (.ldc 47, 2) := by decide +kernel
theorem dX6_turn_26 : decode cX6_turn 26 = .ok (.invokestatic 32, 3) := by decide +kernel
theorem dX6_turn_29 : decode cX6_turn 29 = .ok (.ifCond .ne 6, 3) := by decide +kernel
theorem dX6_turn_32 : decode cX6_turn 32 = .ok (.bipush (-2), 2) := by decide +kernel
theorem dX6_turn_34 : decode cX6_turn 34 = .ok (.ireturn, 1) := by decide +kernel
theorem dX6_turn_35 : decode cX6_turn 35 = .ok (.aload_n 0, 1) := by decide +kernel
theorem dX6_turn_36 : decode cX6_turn 36 = .ok (.invokevirtual 44, 3) := by decide +kernel
theorem dX6_turn_39 : decode cX6_turn 39 = .ok (.aload_n 0, 1) := by decide +kernel
theorem dX6_turn_40 : decode cX6_turn 40 = .ok (.getfield 7, 3) := by decide +kernel
theorem dX6_turn_43 : decode cX6_turn 43 = .ok (.iconst 0, 1) := by decide +kernel
theorem dX6_turn_44 : decode cX6_turn 44 = .ok (.iaload, 1) := by decide +kernel
theorem dX6_turn_45 : decode cX6_turn 45 = .ok (.sipush 1020, 3) := by decide +kernel
theorem dX6_turn_48 : decode cX6_turn 48 = .ok (.idiv, 1) := by decide +kernel
theorem dX6_turn_49 : decode cX6_turn 49 = .ok (.istore_n 2, 1) := by decide +kernel
theorem dX6_turn_50 : decode cX6_turn 50 = .ok (.aload_n 0, 1) := by decide +kernel
theorem dX6_turn_51 : decode cX6_turn 51 = .ok (.getfield 7, 3) := by decide +kernel
theorem dX6_turn_54 : decode cX6_turn 54 = .ok (.iconst 0, 1) := by decide +kernel
theorem dX6_turn_55 : decode cX6_turn 55 = .ok (.dup2, 1) := by decide +kernel
theorem dX6_turn_56 : decode cX6_turn 56 = .ok (.iaload, 1) := by decide +kernel
theorem dX6_turn_57 : decode cX6_turn 57 = .ok (.iload_n 1, 1) := by decide +kernel
theorem dX6_turn_58 : decode cX6_turn 58 = .ok (.iadd, 1) := by decide +kernel
theorem dX6_turn_59 : decode cX6_turn 59 = .ok (.iastore, 1) := by decide +kernel
theorem dX6_turn_60 : decode cX6_turn 60 = .ok (.iload_n 1, 1) := by decide +kernel
theorem dX6_turn_61 : decode cX6_turn 61 = .ok (.ifCond .le 7, 3) := by decide +kernel
theorem dX6_turn_64 : decode cX6_turn 64 = .ok (.iconst 1, 1) := by decide +kernel
theorem dX6_turn_65 : decode cX6_turn 65 = .ok (.goto 4, 3) := by decide +kernel
theorem dX6_turn_68 : decode cX6_turn 68 = .ok (.iconst (-1), 1) := by decide +kernel
theorem dX6_turn_69 : decode cX6_turn 69 = .ok (.istore_n 3, 1) := by decide +kernel
theorem dX6_turn_70 : decode cX6_turn 70 = .ok (.iload_n 2, 1) := by decide +kernel
theorem dX6_turn_71 : decode cX6_turn 71 = .ok (.aload_n 0, 1) := by decide +kernel
theorem dX6_turn_72 : decode cX6_turn 72 = .ok (.getfield 7, 3) := by decide +kernel
theorem dX6_turn_75 : decode cX6_turn 75 = .ok (.iconst 0, 1) := by decide +kernel
theorem dX6_turn_76 : decode cX6_turn 76 = .ok (.iaload, 1) := by decide +kernel
theorem dX6_turn_77 : decode cX6_turn 77 = .ok (.sipush 1020, 3) := by decide +kernel
theorem dX6_turn_80 : decode cX6_turn 80 = .ok (.idiv, 1) := by decide +kernel
theorem dX6_turn_81 : decode cX6_turn 81 = .ok (.if_icmp .eq 15, 3) := by decide +kernel
theorem dX6_turn_84 : decode cX6_turn 84 = .ok (.aload_n 0, 1) := by decide +kernel
theorem dX6_turn_85 : decode cX6_turn 85 = .ok (.iload_n 3, 1) := by decide +kernel
theorem dX6_turn_86 : decode cX6_turn 86 = .ok (.invokevirtual 48, 3) := by decide +kernel
theorem dX6_turn_89 : decode cX6_turn 89 = .ok (.iload_n 2, 1) := by decide +kernel
theorem dX6_turn_90 : decode cX6_turn 90 = .ok (.iload_n 3, 1) := by decide +kernel
theorem dX6_turn_91 : decode cX6_turn 91 = .ok (.iadd, 1) := by decide +kernel
theorem dX6_turn_92 : decode cX6_turn 92 = .ok (.istore_n 2, 1) := by decide +kernel
theorem dX6_turn_93 : decode cX6_turn 93 = .ok (.goto (-23), 3) := by decide +kernel
theorem dX6_turn_96 : decode cX6_turn 96 = .ok (.aload_n 0, 1) := by decide +kernel
theorem dX6_turn_97 : decode cX6_turn 97 = .ok (.getfield 7, 3) := by decide +kernel
theorem dX6_turn_100 : decode cX6_turn 100 = .ok (.iconst 0, 1) := by decide +kernel
theorem dX6_turn_101 : decode cX6_turn 101 = .ok (.iaload, 1) := by decide +kernel
theorem dX6_turn_102 : decode cX6_turn 102 = .ok (.ireturn, 1) := by decide +kernel
theorem dX6_power_0 : decode cX6_power 0 = .ok (.iload_n 1, 1) := by decide +kernel
theorem dX6_power_1 : decode cX6_power 1 = .ok (.iconst 0, 1) := by decide +kernel
theorem dX6_power_2 : decode cX6_power 2 = .ok (.iconst 1, 1) := by decide +kernel
theorem dX6_power_3 : decode cX6_power 3 = .ok (.invokestatic 32, 3) := by decide +kernel
theorem dX6_power_6 : decode cX6_power 6 = .ok (.ifCond .eq 12, 3) := by decide +kernel
theorem dX6_power_9 : decode cX6_power 9 = .ok (.aload_n 0, 1) := by decide +kernel
theorem dX6_power_10 : decode cX6_power 10 = .ok (.iconst 1, 1) := by decide +kernel
theorem dX6_power_11 : decode cX6_power 11 = .ok (.iload_n 1, 1) := by decide +kernel
theorem dX6_power_12 : decode cX6_power 12 = .ok (.invokevirtual 52, 3) := by decide +kernel
theorem dX6_power_15 : decode cX6_power 15 = .ok (.goto 4, 3) := by decide +kernel
theorem dX6_power_18 : decode cX6_power 18 = .ok (.iconst (-1), 1) := by decide +kernel
theorem dX6_power_19 : decode cX6_power 19 = .ok (.ireturn, 1) := by decide +kernel
theorem dX6_brownout_0 : decode cX6_brownout 0 = .ok (.iload_n 1, 1) := by decide +kernel
theorem dX6_brownout_1 : decode cX6_brownout 1 = .ok (.iconst 1, 1) := by decide +kernel
theorem dX6_brownout_2 : decode cX6_brownout 2 = .ok (.bipush 9, 2) := by decide +kernel
theorem dX6_brownout_4 : decode cX6_brownout 4 = .ok (.invokestatic 32, 3) := by decide +kernel
theorem dX6_brownout_7 : decode cX6_brownout 7 = .ok (.ifCond .ne 5, 3) := by decide +kernel
theorem dX6_brownout_10 : decode cX6_brownout 10 = .ok (.iconst (-1), 1) := by decide +kernel
theorem dX6_brownout_11 : decode cX6_brownout 11 = .ok (.ireturn, 1) := by decide +kernel
theorem dX6_brownout_12 : decode cX6_brownout 12 = .ok (.aload_n 0, 1) := by decide +kernel
theorem dX6_brownout_13 : decode cX6_brownout 13 = .ok (.getfield 7, 3) := by decide +kernel
theorem dX6_brownout_16 : decode cX6_brownout 16 = .ok (.iconst 4, 1) := by decide +kernel
theorem dX6_brownout_17 : decode cX6_brownout 17 = .ok (.iaload, 1) := by decide +kernel
theorem dX6_brownout_18 : decode cX6_brownout 18 = .ok (.iload_n 1, 1) := by decide +kernel
theorem dX6_brownout_19 : decode cX6_brownout 19 = .ok (.iadd, 1) := by decide +kernel
theorem dX6_brownout_20 : decode cX6_brownout 20 = .ok (.bipush 99, 2) := by decide +kernel
theorem dX6_brownout_22 : decode cX6_brownout 22 = .ok (.if_icmp .le 6, 3) := by decide +kernel
theorem dX6_brownout_25 : decode cX6_brownout 25 = .ok (.bipush (-3), 2) := by decide +kernel
theorem dX6_brownout_27 : decode cX6_brownout 27 = .ok (.ireturn, 1) := by decide +kernel
theorem dX6_brownout_28 : decode cX6_brownout 28 = .ok (.aload_n 0, 1) := by decide +kernel
theorem dX6_brownout_29 : decode cX6_brownout 29 = .ok (.iconst 4, 1) := by decide +kernel
theorem dX6_brownout_30 : decode cX6_brownout 30 = .ok (.aload_n 0, 1) := by decide +kernel
theorem dX6_brownout_31 : decode cX6_brownout 31 = .ok (.getfield 7, 3) := by decide +kernel
theorem dX6_brownout_34 : decode cX6_brownout 34 = .ok (.iconst 4, 1) := by decide +kernel
theorem dX6_brownout_35 : decode cX6_brownout 35 = .ok (.iaload, 1) := by decide +kernel
theorem dX6_brownout_36 : decode cX6_brownout 36 = .ok (.iload_n 1, 1) := by decide +kernel
theorem dX6_brownout_37 : decode cX6_brownout 37 = .ok (.iadd, 1) := by decide +kernel
theorem dX6_brownout_38 : decode cX6_brownout 38 = .ok (.invokevirtual 52, 3) := by decide +kernel
theorem dX6_brownout_41 : decode cX6_brownout 41 = .ok (.istore_n 2, 1) := by decide +kernel
theorem dX6_brownout_42 : decode cX6_brownout 42 = .ok (.iload_n 2, 1) := by decide +kernel
theorem dX6_brownout_43 : decode cX6_brownout 43 = .ok (.iload_n 1, 1) := by decide +kernel
theorem dX6_brownout_44 : decode cX6_brownout 44 = .ok (.iadd, 1) := by decide +kernel
theorem dX6_brownout_45 : decode cX6_brownout 45 = .ok (.ireturn, 1) := by decide +kernel
theorem dX6_charge_0 : decode cX6_charge 0 = .ok (.iload_n 1, 1) := by decide +kernel
theorem dX6_charge_1 : decode cX6_charge 1 = .ok (.iconst 0, 1) := by decide +kernel
theorem dX6_charge_2 : decode cX6_charge 2 = .ok (.sipush 999, 3) := by decide +kernel
theorem dX6_charge_5 : decode cX6_charge 5 = .ok (.invokestatic 32, 3) := by decide +kernel
theorem dX6_charge_8 : decode cX6_charge 8 = .ok (.ifCond .eq 12, 3) := by decide +kernel
theorem dX6_charge_11 : decode cX6_charge 11 = .ok (.aload_n 0, 1) := by decide +kernel
theorem dX6_charge_12 : decode cX6_charge 12 = .ok (.iconst 3, 1) := by decide +kernel
theorem dX6_charge_13 : decode cX6_charge 13 = .ok (.iload_n 1, 1) := by decide +kernel
theorem dX6_charge_14 : decode cX6_charge 14 = .ok (.invokevirtual 52, 3) := by decide +kernel
theorem dX6_charge_17 : decode cX6_charge 17 = .ok (.goto 4, 3) := by decide +kernel
theorem dX6_charge_20 : decode cX6_charge 20 = .ok (.iconst (-1), 1) := by decide +kernel
theorem dX6_charge_21 : decode cX6_charge 21 = .ok (.ireturn, 1) := by decide +kernel
theorem dX6_angle_0 : decode cX6_angle 0 = .ok (.aload_n 0, 1) := by decide +kernel
theorem dX6_angle_1 : decode cX6_angle 1 = .ok (.getfield 7, 3) := by decide +kernel
theorem dX6_angle_4 : decode cX6_angle 4 = .ok (.iconst 0, 1) := by decide +kernel
theorem dX6_angle_5 : decode cX6_angle 5 = .ok (.iaload, 1) := by decide +kernel
theorem dX6_angle_6 : decode cX6_angle 6 = .ok (.sipush 4080, 3) := by decide +kernel
theorem dX6_angle_9 : decode cX6_angle 9 = .ok (.irem, 1) := by decide +kernel
theorem dX6_angle_10 : decode cX6_angle 10 = .ok (.ireturn, 1) := by decide +kernel
theorem dX6_coarse_0 : decode cX6_coarse 0 = .ok (.aload_n 0, 1) := by decide +kernel
theorem dX6_coarse_1 : decode cX6_coarse 1 = .ok (.invokevirtual 55, 3) := by decide +kernel
theorem dX6_coarse_4 : decode cX6_coarse 4 = .ok (.bipush 64, 2) := by decide +kernel
theorem dX6_coarse_6 : decode cX6_coarse 6 = .ok (.imul, 1) := by decide +kernel
theorem dX6_coarse_7 : decode cX6_coarse 7 = .ok (.sipush 4080, 3) := by decide +kernel
theorem dX6_coarse_10 : decode cX6_coarse 10 = .ok (.idiv, 1) := by decide +kernel
theorem dX6_coarse_11 : decode cX6_coarse 11 = .ok (.aload_n 0, 1) := by decide +kernel
theorem dX6_coarse_12 : decode cX6_coarse 12 = .ok (.getfield 7, 3) := by decide +kernel
theorem dX6_coarse_15 : decode cX6_coarse 15 = .ok (.bipush 10, 2) := by decide +kernel
theorem dX6_coarse_17 : decode cX6_coarse 17 = .ok (.iaload, 1) := by decide +kernel
theorem dX6_coarse_18 : decode cX6_coarse 18 = .ok (.iadd, 1) := by decide +kernel
theorem dX6_coarse_19 : decode cX6_coarse 19 = .ok (.bipush 64, 2) := by decide +kernel
theorem dX6_coarse_21 : decode cX6_coarse 21 = .ok (.invokestatic 28, 3) := by decide +kernel
theorem dX6_coarse_24 : decode cX6_coarse 24 = .ok (.ireturn, 1) := by decide +kernel
theorem dX6_corrections_0 : decode cX6_corrections 0 = .ok (.iconst 0, 1) := by decide +kernel
theorem dX6_corrections_1 : decode cX6_corrections 1 = .ok (.istore_n 1, 1) := by decide +kernel
theorem dX6_corrections_2 : decode cX6_corrections 2 = .ok (.bipush 38, 2) := by decide +kernel
theorem dX6_corrections_4 : decode cX6_corrections 4 = .ok (.istore_n 2, 1) := by decide +kernel
theorem dX6_corrections_5 : decode cX6_corrections 5 = .ok (.iload_n 2, 1) := by decide +kernel
theorem dX6_corrections_6 : decode cX6_corrections 6 = .ok (.bipush 62, 2) := by decide +kernel
theorem dX6_corrections_8 : decode cX6_corrections 8 = .ok (.if_icmp .ge 26, 3) := by decide +kernel
theorem dX6_corrections_11 : decode cX6_corrections 11 = .ok (.iload_n 1, 1) := by decide +kernel
theorem dX6_corrections_12 : decode cX6_corrections 12 = .ok (.aload_n 0, 1) := by decide +kernel
theorem dX6_corrections_13 : decode cX6_corrections 13 = .ok (.getfield 7, 3) := by decide +kernel
theorem dX6_corrections_16 : decode cX6_corrections 16 = .ok (.iload_n 2, 1) := by decide +kernel
theorem dX6_corrections_17 : decode cX6_corrections 17 = .ok (.iaload, 1) := by decide +kernel
theorem dX6_corrections_18 : decode cX6_corrections 18 = .ok (.ifCond .ne 7, 3) := by decide +kernel
theorem dX6_corrections_21 : decode cX6_corrections 21 = .ok (.iconst 0, 1) := by decide +kernel
theorem dX6_corrections_22 : decode cX6_corrections 22 = .ok (.goto 4, 3) := by decide +kernel
theorem dX6_corrections_25 : decode cX6_corrections 25 = .ok (.iconst 1, 1) := by decide +kernel
theorem dX6_corrections_26 : decode cX6_corrections 26 = .ok (.iadd, 1) := by decide +kernel
theorem dX6_corrections_27 : decode cX6_corrections 27 = .ok (.istore_n 1, 1) := by decide +kernel
theorem dX6_corrections_28 : decode cX6_corrections 28 = .ok (.iinc 2 1, 3) := by decide +kernel
theorem dX6_corrections_31 : decode cX6_corrections 31 = .ok (.goto (-26), 3) := by decide +kernel
theorem dX6_corrections_34 : decode cX6_corrections 34 = .ok (.iload_n 1, 1) := by decide +kernel
theorem dX6_corrections_35 : decode cX6_corrections 35 = .ok (.ireturn, 1) := by decide +kernel
theorem dX6_count_0 : decode cX6_count 0 = .ok (.iload_n 1, 1) := by decide +kernel
theorem dX6_count_1 : decode cX6_count 1 = .ok (.tableswitch 225 0 23 #[111, 118, 123, 130, 137, 144, 151, 173, 181, 186, 191, 196, 225, 225, 225, 225, 225, 225, 225, 225, 201, 201, 201, 214], 111) := by decide +kernel
theorem dX6_count_112 : decode cX6_count 112 = .ok (.aload_n 0, 1) := by decide +kernel
theorem dX6_count_113 : decode cX6_count 113 = .ok (.getfield 7, 3) := by decide +kernel
theorem dX6_count_116 : decode cX6_count 116 = .ok (.iconst 0, 1) := by decide +kernel
theorem dX6_count_117 : decode cX6_count 117 = .ok (.iaload, 1) := by decide +kernel
theorem dX6_count_118 : decode cX6_count 118 = .ok (.ireturn, 1) := by decide +kernel
theorem dX6_count_119 : decode cX6_count 119 = .ok (.aload_n 0, 1) := by decide +kernel
theorem dX6_count_120 : decode cX6_count 120 = .ok (.invokevirtual 55, 3) := by decide +kernel
theorem dX6_count_123 : decode cX6_count 123 = .ok (.ireturn, 1) := by decide +kernel
theorem dX6_count_124 : decode cX6_count 124 = .ok (.aload_n 0, 1) := by decide +kernel
theorem dX6_count_125 : decode cX6_count 125 = .ok (.getfield 7, 3) := by decide +kernel
theorem dX6_count_128 : decode cX6_count 128 = .ok (.iconst 2, 1) := by decide +kernel
theorem dX6_count_129 : decode cX6_count 129 = .ok (.iaload, 1) := by decide +kernel
theorem dX6_count_130 : decode cX6_count 130 = .ok (.ireturn, 1) := by decide +kernel
theorem dX6_count_131 : decode cX6_count 131 = .ok (.aload_n 0, 1) := by decide +kernel
theorem dX6_count_132 : decode cX6_count 132 = .ok (.getfield 7, 3) := by decide +kernel
theorem dX6_count_135 : decode cX6_count 135 = .ok (.iconst 1, 1) := by decide +kernel
theorem dX6_count_136 : decode cX6_count 136 = .ok (.iaload, 1) := by decide +kernel
theorem dX6_count_137 : decode cX6_count 137 = .ok (.ireturn, 1) := by decide +kernel
theorem dX6_count_138 : decode cX6_count 138 = .ok (.aload_n 0, 1) := by decide +kernel
theorem dX6_count_139 : decode cX6_count 139 = .ok (.getfield 7, 3) := by decide +kernel
theorem dX6_count_142 : decode cX6_count 142 = .ok (.iconst 3, 1) := by decide +kernel
theorem dX6_count_143 : decode cX6_count 143 = .ok (.iaload, 1) := by decide +kernel
theorem dX6_count_144 : decode cX6_count 144 = .ok (.ireturn, 1) := by decide +kernel
theorem dX6_count_145 : decode cX6_count 145 = .ok (.aload_n 0, 1) := by decide +kernel
theorem dX6_count_146 : decode cX6_count 146 = .ok (.getfield 7, 3) := by decide +kernel
theorem dX6_count_149 : decode cX6_count 149 = .ok (.iconst 4, 1) := by decide +kernel
theorem dX6_count_150 : decode cX6_count 150 = .ok (.iaload, 1) := by decide +kernel
theorem dX6_count_151 : decode cX6_count 151 = .ok (.ireturn, 1) := by decide +kernel
theorem dX6_count_152 : decode cX6_count 152 = .ok (.aload_n 0, 1) := by decide +kernel
theorem dX6_count_153 : decode cX6_count 153 = .ok (.getfield 7, 3) := by decide +kernel
theorem dX6_count_156 : decode cX6_count 156 = .ok (.iconst 5, 1) := by decide +kernel
theorem dX6_count_157 : decode cX6_count 157 = .ok (.iaload, 1) := by decide +kernel
theorem dX6_count_158 : decode cX6_count 158 = .ok (.iconst (-1), 1) := by decide +kernel
theorem dX6_count_159 : decode cX6_count 159 = .ok (.if_icmp .ne 8, 3) := by decide +kernel
theorem dX6_count_162 : decode cX6_count 162 = .ok (.bipush (-4), 2) := by decide +kernel
theorem dX6_count_164 : decode cX6_count 164 = .ok (.goto 9, 3) := by decide +kernel
theorem dX6_count_167 : decode cX6_count 167 = .ok (.aload_n 0, 1) := by decide +kernel
theorem dX6_count_168 : decode cX6_count 168 = .ok (.getfield 7, 3) := by decide +kernel
theorem dX6_count_171 : decode cX6_count 171 = .ok (.iconst 5, 1) := by decide +kernel
theorem dX6_count_172 : decode cX6_count 172 = .ok (.iaload, 1) := by decide +kernel
theorem dX6_count_173 : decode cX6_count 173 = .ok (.ireturn, 1) := by decide +kernel
theorem dX6_count_174 : decode cX6_count 174 = .ok (.aload_n 0, 1) := by decide +kernel
theorem dX6_count_175 : decode cX6_count 175 = .ok (.getfield 7, 3) := by decide +kernel
theorem dX6_count_178 : decode cX6_count 178 = .ok (.bipush 6, 2) := by decide +kernel
theorem dX6_count_180 : decode cX6_count 180 = .ok (.iaload, 1) := by decide +kernel
theorem dX6_count_181 : decode cX6_count 181 = .ok (.ireturn, 1) := by decide +kernel
theorem dX6_count_182 : decode cX6_count 182 = .ok (.aload_n 0, 1) := by decide +kernel
theorem dX6_count_183 : decode cX6_count 183 = .ok (.invokevirtual 59, 3) := by decide +kernel
theorem dX6_count_186 : decode cX6_count 186 = .ok (.ireturn, 1) := by decide +kernel
theorem dX6_count_187 : decode cX6_count 187 = .ok (.aload_n 0, 1) := by decide +kernel
theorem dX6_count_188 : decode cX6_count 188 = .ok (.invokevirtual 62, 3) := by decide +kernel
theorem dX6_count_191 : decode cX6_count 191 = .ok (.ireturn, 1) := by decide +kernel
theorem dX6_count_192 : decode cX6_count 192 = .ok (.aload_n 0, 1) := by decide +kernel
theorem dX6_count_193 : decode cX6_count 193 = .ok (.getfield 40, 3) := by decide +kernel
theorem dX6_count_196 : decode cX6_count 196 = .ok (.ireturn, 1) := by decide +kernel
theorem dX6_count_197 : decode cX6_count 197 = .ok (.aload_n 0, 1) := by decide +kernel
theorem dX6_count_198 : decode cX6_count 198 = .ok (.getfield 65, 3) := by decide +kernel
theorem dX6_count_201 : decode cX6_count 201 = .ok (.ireturn, 1) := by decide +kernel
theorem dX6_count_202 : decode cX6_count 202 = .ok (.aload_n 0, 1) := by decide +kernel
theorem dX6_count_203 : decode cX6_count 203 = .ok (.getfield 7, 3) := by decide +kernel
theorem dX6_count_206 : decode cX6_count 206 = .ok (.bipush 7, 2) := by decide +kernel
theorem dX6_count_208 : decode cX6_count 208 = .ok (.iload_n 1, 1) := by decide +kernel
theorem dX6_count_209 : decode cX6_count 209 = .ok (.iadd, 1) := by decide +kernel
theorem dX6_count_210 : decode cX6_count 210 = .ok (.bipush 20, 2) := by decide +kernel
theorem dX6_count_212 : decode cX6_count 212 = .ok (.isub, 1) := by decide +kernel
theorem dX6_count_213 : decode cX6_count 213 = .ok (.iaload, 1) := by decide +kernel
theorem dX6_count_214 : decode cX6_count 214 = .ok (.ireturn, 1) := by decide +kernel
theorem dX6_count_215 : decode cX6_count 215 = .ok (.aload_n 0, 1) := by decide +kernel
theorem dX6_count_216 : decode cX6_count 216 = .ok (.getfield 7, 3) := by decide +kernel
theorem dX6_count_219 : decode cX6_count 219 = .ok (.bipush 10, 2) := by decide +kernel
theorem dX6_count_221 : decode cX6_count 221 = .ok (.iaload, 1) := by decide +kernel
theorem dX6_count_222 : decode cX6_count 222 = .ok (.bipush 100, 2) := by decide +kernel
theorem dX6_count_224 : decode cX6_count 224 = .ok (.iadd, 1) := by decide +kernel
theorem dX6_count_225 : decode cX6_count 225 = .ok (.ireturn, 1) := by decide +kernel
theorem dX6_count_226 : decode cX6_count 226 = .ok (.iconst (-1), 1) := by decide +kernel
theorem dX6_count_227 : decode cX6_count 227 = .ok (.ireturn, 1) := by decide +kernel
theorem dX6_disk_0 : decode cX6_disk 0 = .ok (.iload_n 1, 1) := by decide +kernel
theorem dX6_disk_1 : decode cX6_disk 1 = .ok (.iload_n 2, 1) := by decide +kernel
theorem dX6_disk_2 : decode cX6_disk 2 = .ok (.invokestatic 68, 3) := by decide +kernel
theorem dX6_disk_5 : decode cX6_disk 5 = .ok (.ifCond .eq 14, 3) := by decide +kernel
theorem dX6_disk_8 : decode cX6_disk 8 = .ok (.iload_n 3, 1) := by decide +kernel
theorem dX6_disk_9 : decode cX6_disk 9 = .ok (.bipush (-9), 2) := by decide +kernel
theorem dX6_disk_11 : decode cX6_disk 11 = .ok (.bipush 9, 2) := by decide +kernel
theorem dX6_disk_13 : decode cX6_disk 13 = .ok (.invokestatic 32, 3) := by decide +kernel
theorem dX6_disk_16 : decode cX6_disk 16 = .ok (.ifCond .ne 5, 3) := by decide +kernel
theorem dX6_disk_19 : decode cX6_disk 19 = .ok (.iconst (-1), 1) := by decide +kernel
theorem dX6_disk_20 : decode cX6_disk 20 = .ok (.ireturn, 1) := by decide +kernel
theorem dX6_disk_21 : decode cX6_disk 21 = .ok (.aload_n 0, 1) := by decide +kernel
theorem dX6_disk_22 : decode cX6_disk 22 = .ok (.bipush 11, 2) := by decide +kernel
theorem dX6_disk_24 : decode cX6_disk 24 = .ok (.bipush 8, 2) := by decide +kernel
theorem dX6_disk_26 : decode cX6_disk 26 = .ok (.iload_n 1, 1) := by decide +kernel
theorem dX6_disk_27 : decode cX6_disk 27 = .ok (.imul, 1) := by decide +kernel
theorem dX6_disk_28 : decode cX6_disk 28 = .ok (.iadd, 1) := by decide +kernel
theorem dX6_disk_29 : decode cX6_disk 29 = .ok (.iload_n 2, 1) := by decide +kernel
theorem dX6_disk_30 : decode cX6_disk 30 = .ok (.iadd, 1) := by decide +kernel
theorem dX6_disk_31 : decode cX6_disk 31 = .ok (.iload_n 3, 1) := by decide +kernel
theorem dX6_disk_32 : decode cX6_disk 32 = .ok (.invokevirtual 52, 3) := by decide +kernel
theorem dX6_disk_35 : decode cX6_disk 35 = .ok (.bipush 100, 2) := by decide +kernel
theorem dX6_disk_37 : decode cX6_disk 37 = .ok (.iadd, 1) := by decide +kernel
theorem dX6_disk_38 : decode cX6_disk 38 = .ok (.ireturn, 1) := by decide +kernel
theorem dX6_noise_0 : decode cX6_noise 0 = .ok (.iload_n 1, 1) := by decide +kernel
theorem dX6_noise_1 : decode cX6_noise 1 = .ok (.invokestatic 36, 3) := by decide +kernel
theorem dX6_noise_4 : decode cX6_noise 4 = .ok (.ifCond .eq 29, 3) := by decide +kernel
theorem dX6_noise_7 : decode cX6_noise 7 = .ok (.iload_n 2, 1) := by decide +kernel
theorem dX6_noise_8 : decode cX6_noise 8 = .ok (.bipush (-9), 2) := by decide +kernel
theorem dX6_noise_10 : decode cX6_noise 10 = .ok (.bipush 9, 2) := by decide +kernel
theorem dX6_noise_12 : decode cX6_noise 12 = .ok (.invokestatic 32, 3) := by decide +kernel
theorem dX6_noise_15 : decode cX6_noise 15 = .ok (.ifCond .eq 18, 3) := by decide +kernel
theorem dX6_noise_18 : decode cX6_noise 18 = .ok (.aload_n 0, 1) := by decide +kernel
theorem dX6_noise_19 : decode cX6_noise 19 = .ok (.bipush 35, 2) := by decide +kernel
theorem dX6_noise_21 : decode cX6_noise 21 = .ok (.iload_n 1, 1) := by decide +kernel
theorem dX6_noise_22 : decode cX6_noise 22 = .ok (.iadd, 1) := by decide +kernel
theorem dX6_noise_23 : decode cX6_noise 23 = .ok (.iload_n 2, 1) := by decide +kernel
theorem dX6_noise_24 : decode cX6_noise 24 = .ok (.invokevirtual 52, 3) := by decide +kernel
theorem dX6_noise_27 : decode cX6_noise 27 = .ok (.bipush 100, 2) := by decide +kernel
theorem dX6_noise_29 : decode cX6_noise 29 = .ok (.iadd, 1) := by decide +kernel
theorem dX6_noise_30 : decode cX6_noise 30 = .ok (.goto 4, 3) := by decide +kernel
theorem dX6_noise_33 : decode cX6_noise 33 = .ok (.iconst (-1), 1) := by decide +kernel
theorem dX6_noise_34 : decode cX6_noise 34 = .ok (.ireturn, 1) := by decide +kernel
theorem dX6_isSetting_0 : decode cX6_isSetting 0 = .ok (.iload_n 0, 1) := by decide +kernel
theorem dX6_isSetting_1 : decode cX6_isSetting 1 = .ok (.tableswitch 65 0 3 #[31, 39, 47, 56], 31) := by decide +kernel
theorem dX6_isSetting_32 : decode cX6_isSetting 32 = .ok (.iload_n 1, 1) := by decide +kernel
theorem dX6_isSetting_33 : decode cX6_isSetting 33 = .ok (.iconst 0, 1) := by decide +kernel
theorem dX6_isSetting_34 : decode cX6_isSetting 34 = .ok (.bipush 40, 2) := by decide +kernel
theorem dX6_isSetting_36 : decode cX6_isSetting 36 = .ok (.invokestatic 32, 3) := by decide +kernel
theorem dX6_isSetting_39 : decode cX6_isSetting 39 = .ok (.ireturn, 1) := by decide +kernel
theorem dX6_isSetting_40 : decode cX6_isSetting 40 = .ok (.iload_n 1, 1) := by decide +kernel
theorem dX6_isSetting_41 : decode cX6_isSetting 41 = .ok (.iconst 0, 1) := by decide +kernel
theorem dX6_isSetting_42 : decode cX6_isSetting 42 = .ok (.bipush 32, 2) := by decide +kernel
theorem dX6_isSetting_44 : decode cX6_isSetting 44 = .ok (.invokestatic 32, 3) := by decide +kernel
theorem dX6_isSetting_47 : decode cX6_isSetting 47 = .ok (.ireturn, 1) := by decide +kernel
theorem dX6_isSetting_48 : decode cX6_isSetting 48 = .ok (.iload_n 1, 1) := by decide +kernel
theorem dX6_isSetting_49 : decode cX6_isSetting 49 = .ok (.iconst 1, 1) := by decide +kernel
theorem dX6_isSetting_50 : decode cX6_isSetting 50 = .ok (.sipush 4080, 3) := by decide +kernel
theorem dX6_isSetting_53 : decode cX6_isSetting 53 = .ok (.invokestatic 32, 3) := by decide +kernel
theorem dX6_isSetting_56 : decode cX6_isSetting 56 = .ok (.ireturn, 1) := by decide +kernel
theorem dX6_isSetting_57 : decode cX6_isSetting 57 = .ok (.iload_n 1, 1) := by decide +kernel
theorem dX6_isSetting_58 : decode cX6_isSetting 58 = .ok (.bipush (-31), 2) := by decide +kernel
theorem dX6_isSetting_60 : decode cX6_isSetting 60 = .ok (.bipush 31, 2) := by decide +kernel
theorem dX6_isSetting_62 : decode cX6_isSetting 62 = .ok (.invokestatic 32, 3) := by decide +kernel
theorem dX6_isSetting_65 : decode cX6_isSetting 65 = .ok (.ireturn, 1) := by decide +kernel
theorem dX6_isSetting_66 : decode cX6_isSetting 66 = .ok (.iconst 0, 1) := by decide +kernel
theorem dX6_isSetting_67 : decode cX6_isSetting 67 = .ok (.ireturn, 1) := by decide +kernel
theorem dX6_set_0 : decode cX6_set 0 = .ok (.iload_n 1, 1) := by decide +kernel
theorem dX6_set_1 : decode cX6_set 1 = .ok (.iload_n 2, 1) := by decide +kernel
theorem dX6_set_2 : decode cX6_set 2 = .ok (.invokestatic 72, 3) := by decide +kernel
theorem dX6_set_5 : decode cX6_set 5 = .ok (.ifCond .eq 27, 3) := by decide +kernel
theorem dX6_set_8 : decode cX6_set 8 = .ok (.aload_n 0, 1) := by decide +kernel
theorem dX6_set_9 : decode cX6_set 9 = .ok (.bipush 7, 2) := by decide +kernel
theorem dX6_set_11 : decode cX6_set 11 = .ok (.iload_n 1, 1) := by decide +kernel
theorem dX6_set_12 : decode cX6_set 12 = .ok (.iadd, 1) := by decide +kernel
theorem dX6_set_13 : decode cX6_set 13 = .ok (.iload_n 2, 1) := by decide +kernel
theorem dX6_set_14 : decode cX6_set 14 = .ok (.invokevirtual 52, 3) := by decide +kernel
theorem dX6_set_17 : decode cX6_set 17 = .ok (.iload_n 1, 1) := by decide +kernel
theorem dX6_set_18 : decode cX6_set 18 = .ok (.iconst 3, 1) := by decide +kernel
theorem dX6_set_19 : decode cX6_set 19 = .ok (.if_icmp .ne 8, 3) := by decide +kernel
theorem dX6_set_22 : decode cX6_set 22 = .ok (.bipush 100, 2) := by decide +kernel
theorem dX6_set_24 : decode cX6_set 24 = .ok (.goto 4, 3) := by decide +kernel
theorem dX6_set_27 : decode cX6_set 27 = .ok (.iconst 0, 1) := by decide +kernel
theorem dX6_set_28 : decode cX6_set 28 = .ok (.iadd, 1) := by decide +kernel
theorem dX6_set_29 : decode cX6_set 29 = .ok (.goto 4, 3) := by decide +kernel
theorem dX6_set_32 : decode cX6_set 32 = .ok (.iconst (-1), 1) := by decide +kernel
theorem dX6_set_33 : decode cX6_set 33 = .ok (.ireturn, 1) := by decide +kernel
theorem dX6_readingAt_0 : decode cX6_readingAt 0 = .ok (.iload_n 2, 1) := by decide +kernel
theorem dX6_readingAt_1 : decode cX6_readingAt 1 = .ok (.aload_n 0, 1) := by decide +kernel
theorem dX6_readingAt_2 : decode cX6_readingAt 2 = .ok (.getfield 7, 3) := by decide +kernel
theorem dX6_readingAt_5 : decode cX6_readingAt 5 = .ok (.bipush 11, 2) := by decide +kernel
theorem dX6_readingAt_7 : decode cX6_readingAt 7 = .ok (.bipush 8, 2) := by decide +kernel
theorem dX6_readingAt_9 : decode cX6_readingAt 9 = .ok (.iload_n 1, 1) := by decide +kernel
theorem dX6_readingAt_10 : decode cX6_readingAt 10 = .ok (.imul, 1) := by decide +kernel
theorem dX6_readingAt_11 : decode cX6_readingAt 11 = .ok (.iadd, 1) := by decide +kernel
theorem dX6_readingAt_12 : decode cX6_readingAt 12 = .ok (.iload_n 2, 1) := by decide +kernel
theorem dX6_readingAt_13 : decode cX6_readingAt 13 = .ok (.sipush 510, 3) := by decide +kernel
theorem dX6_readingAt_16 : decode cX6_readingAt 16 = .ok (.idiv, 1) := by decide +kernel
theorem dX6_readingAt_17 : decode cX6_readingAt 17 = .ok (.iadd, 1) := by decide +kernel
theorem dX6_readingAt_18 : decode cX6_readingAt 18 = .ok (.iaload, 1) := by decide +kernel
theorem dX6_readingAt_19 : decode cX6_readingAt 19 = .ok (.iadd, 1) := by decide +kernel
theorem dX6_readingAt_20 : decode cX6_readingAt 20 = .ok (.aload_n 0, 1) := by decide +kernel
theorem dX6_readingAt_21 : decode cX6_readingAt 21 = .ok (.getfield 7, 3) := by decide +kernel
theorem dX6_readingAt_24 : decode cX6_readingAt 24 = .ok (.bipush 35, 2) := by decide +kernel
theorem dX6_readingAt_26 : decode cX6_readingAt 26 = .ok (.iload_n 1, 1) := by decide +kernel
theorem dX6_readingAt_27 : decode cX6_readingAt 27 = .ok (.iadd, 1) := by decide +kernel
theorem dX6_readingAt_28 : decode cX6_readingAt 28 = .ok (.iaload, 1) := by decide +kernel
theorem dX6_readingAt_29 : decode cX6_readingAt 29 = .ok (.iadd, 1) := by decide +kernel
theorem dX6_readingAt_30 : decode cX6_readingAt 30 = .ok (.iload_n 1, 1) := by decide +kernel
theorem dX6_readingAt_31 : decode cX6_readingAt 31 = .ok (.invokestatic 75, 3) := by decide +kernel
theorem dX6_readingAt_34 : decode cX6_readingAt 34 = .ok (.invokestatic 28, 3) := by decide +kernel
theorem dX6_readingAt_37 : decode cX6_readingAt 37 = .ok (.ireturn, 1) := by decide +kernel
theorem dX6_reading_0 : decode cX6_reading 0 = .ok (.iload_n 1, 1) := by decide +kernel
theorem dX6_reading_1 : decode cX6_reading 1 = .ok (.invokestatic 36, 3) := by decide +kernel
theorem dX6_reading_4 : decode cX6_reading 4 = .ok (.ifCond .eq 15, 3) := by decide +kernel
theorem dX6_reading_7 : decode cX6_reading 7 = .ok (.aload_n 0, 1) := by decide +kernel
theorem dX6_reading_8 : decode cX6_reading 8 = .ok (.iload_n 1, 1) := by decide +kernel
theorem dX6_reading_9 : decode cX6_reading 9 = .ok (.aload_n 0, 1) := by decide +kernel
theorem dX6_reading_10 : decode cX6_reading 10 = .ok (.invokevirtual 55, 3) := by decide +kernel
theorem dX6_reading_13 : decode cX6_reading 13 = .ok (.invokevirtual 79, 3) := by decide +kernel
theorem dX6_reading_16 : decode cX6_reading 16 = .ok (.goto 4, 3) := by decide +kernel
theorem dX6_reading_19 : decode cX6_reading 19 = .ok (.iconst (-1), 1) := by decide +kernel
theorem dX6_reading_20 : decode cX6_reading 20 = .ok (.ireturn, 1) := by decide +kernel
theorem dX6_nearer_0 : decode cX6_nearer 0 = .ok (.iload_n 0, 1) := by decide +kernel
theorem dX6_nearer_1 : decode cX6_nearer 1 = .ok (.iload_n 1, 1) := by decide +kernel
theorem dX6_nearer_2 : decode cX6_nearer 2 = .ok (.iload_n 0, 1) := by decide +kernel
theorem dX6_nearer_3 : decode cX6_nearer 3 = .ok (.isub, 1) := by decide +kernel
theorem dX6_nearer_4 : decode cX6_nearer 4 = .ok (.if_icmp .le 9, 3) := by decide +kernel
theorem dX6_nearer_7 : decode cX6_nearer 7 = .ok (.iload_n 1, 1) := by decide +kernel
theorem dX6_nearer_8 : decode cX6_nearer 8 = .ok (.iload_n 0, 1) := by decide +kernel
theorem dX6_nearer_9 : decode cX6_nearer 9 = .ok (.isub, 1) := by decide +kernel
theorem dX6_nearer_10 : decode cX6_nearer 10 = .ok (.goto 4, 3) := by decide +kernel
theorem dX6_nearer_13 : decode cX6_nearer 13 = .ok (.iload_n 0, 1) := by decide +kernel
theorem dX6_nearer_14 : decode cX6_nearer 14 = .ok (.ireturn, 1) := by decide +kernel
theorem dX6_finds_0 : decode cX6_finds 0 = .ok (.iload_n 1, 1) := by decide +kernel
theorem dX6_finds_1 : decode cX6_finds 1 = .ok (.ifCond .ne 7, 3) := by decide +kernel
theorem dX6_finds_4 : decode cX6_finds 4 = .ok (.iconst 0, 1) := by decide +kernel
theorem dX6_finds_5 : decode cX6_finds 5 = .ok (.goto 8, 3) := by decide +kernel
theorem dX6_finds_8 : decode cX6_finds 8 = .ok (.sipush 272, 3) := by decide +kernel
theorem dX6_finds_11 : decode cX6_finds 11 = .ok (.iload_n 1, 1) := by decide +kernel
theorem dX6_finds_12 : decode cX6_finds 12 = .ok (.isub, 1) := by decide +kernel
theorem dX6_finds_13 : decode cX6_finds 13 = .ok (.istore 4, 2) := by decide +kernel
theorem dX6_finds_15 : decode cX6_finds 15 = .ok (.iload_n 2, 1) := by decide +kernel
theorem dX6_finds_16 : decode cX6_finds 16 = .ok (.ifCond .ne 7, 3) := by decide +kernel
theorem dX6_finds_19 : decode cX6_finds 19 = .ok (.iconst 0, 1) := by decide +kernel
theorem dX6_finds_20 : decode cX6_finds 20 = .ok (.goto 8, 3) := by decide +kernel
theorem dX6_finds_23 : decode cX6_finds 23 = .ok (.sipush 255, 3) := by decide +kernel
theorem dX6_finds_26 : decode cX6_finds 26 = .ok (.iload_n 2, 1) := by decide +kernel
theorem dX6_finds_27 : decode cX6_finds 27 = .ok (.isub, 1) := by decide +kernel
theorem dX6_finds_28 : decode cX6_finds 28 = .ok (.istore 5, 2) := by decide +kernel
theorem dX6_finds_30 : decode cX6_finds 30 = .ok (.iload_n 3, 1) := by decide +kernel
theorem dX6_finds_31 : decode cX6_finds 31 = .ok (.ifCond .ne 7, 3) := by decide +kernel
theorem dX6_finds_34 : decode cX6_finds 34 = .ok (.iconst 0, 1) := by decide +kernel
theorem dX6_finds_35 : decode cX6_finds 35 = .ok (.goto 8, 3) := by decide +kernel
theorem dX6_finds_38 : decode cX6_finds 38 = .ok (.sipush 240, 3) := by decide +kernel
theorem dX6_finds_41 : decode cX6_finds 41 = .ok (.iload_n 3, 1) := by decide +kernel
theorem dX6_finds_42 : decode cX6_finds 42 = .ok (.isub, 1) := by decide +kernel
theorem dX6_finds_43 : decode cX6_finds 43 = .ok (.istore 6, 2) := by decide +kernel
theorem dX6_finds_45 : decode cX6_finds 45 = .ok (.aload_n 0, 1) := by decide +kernel
theorem dX6_finds_46 : decode cX6_finds 46 = .ok (.sipush 4080, 3) := by decide +kernel
theorem dX6_finds_49 : decode cX6_finds 49 = .ok (.putfield 82, 3) := by decide +kernel
theorem dX6_finds_52 : decode cX6_finds 52 = .ok (.aload_n 0, 1) := by decide +kernel
theorem dX6_finds_53 : decode cX6_finds 53 = .ok (.iconst 0, 1) := by decide +kernel
theorem dX6_finds_54 : decode cX6_finds 54 = .ok (.putfield 85, 3) := by decide +kernel
theorem dX6_finds_57 : decode cX6_finds 57 = .ok (.iconst 0, 1) := by decide +kernel
theorem dX6_finds_58 : decode cX6_finds 58 = .ok (.istore 7, 2) := by decide +kernel
theorem dX6_finds_60 : decode cX6_finds 60 = .ok (.iload 7, 2) := by decide +kernel
theorem dX6_finds_62 : decode cX6_finds 62 = .ok (.sipush 4080, 3) := by decide +kernel
theorem dX6_finds_65 : decode cX6_finds 65 = .ok (.if_icmp .ge 146, 3) := by decide +kernel
theorem dX6_finds_68 : decode cX6_finds 68 = .ok (.iload 4, 2) := by decide +kernel
theorem dX6_finds_70 : decode cX6_finds 70 = .ok (.sipush 272, 3) := by decide +kernel
theorem dX6_finds_73 : decode cX6_finds 73 = .ok (.invokestatic 88, 3) := by decide +kernel
theorem dX6_finds_76 : decode cX6_finds 76 = .ok (.istore 8, 2) := by decide +kernel
theorem dX6_finds_78 : decode cX6_finds 78 = .ok (.iload 5, 2) := by decide +kernel
theorem dX6_finds_80 : decode cX6_finds 80 = .ok (.sipush 255, 3) := by decide +kernel
theorem dX6_finds_83 : decode cX6_finds 83 = .ok (.invokestatic 88, 3) := by decide +kernel
theorem dX6_finds_86 : decode cX6_finds 86 = .ok (.istore 9, 2) := by decide +kernel
theorem dX6_finds_88 : decode cX6_finds 88 = .ok (.iload 9, 2) := by decide +kernel
theorem dX6_finds_90 : decode cX6_finds 90 = .ok (.iload 8, 2) := by decide +kernel
theorem dX6_finds_92 : decode cX6_finds 92 = .ok (.if_icmp .le 8, 3) := by decide +kernel
theorem dX6_finds_95 : decode cX6_finds 95 = .ok (.iload 9, 2) := by decide +kernel
theorem dX6_finds_97 : decode cX6_finds 97 = .ok (.goto 5, 3) := by decide +kernel
theorem dX6_finds_100 : decode cX6_finds 100 = .ok (.iload 8, 2) := by decide +kernel
theorem dX6_finds_102 : decode cX6_finds 102 = .ok (.istore 8, 2) := by decide +kernel
theorem dX6_finds_104 : decode cX6_finds 104 = .ok (.iload 6, 2) := by decide +kernel
theorem dX6_finds_106 : decode cX6_finds 106 = .ok (.sipush 240, 3) := by decide +kernel
theorem dX6_finds_109 : decode cX6_finds 109 = .ok (.invokestatic 88, 3) := by decide +kernel
theorem dX6_finds_112 : decode cX6_finds 112 = .ok (.istore 9, 2) := by decide +kernel
theorem dX6_finds_114 : decode cX6_finds 114 = .ok (.iload 9, 2) := by decide +kernel
theorem dX6_finds_116 : decode cX6_finds 116 = .ok (.iload 8, 2) := by decide +kernel
theorem dX6_finds_118 : decode cX6_finds 118 = .ok (.if_icmp .le 8, 3) := by decide +kernel
theorem dX6_finds_121 : decode cX6_finds 121 = .ok (.iload 9, 2) := by decide +kernel
theorem dX6_finds_123 : decode cX6_finds 123 = .ok (.goto 5, 3) := by decide +kernel
theorem dX6_finds_126 : decode cX6_finds 126 = .ok (.iload 8, 2) := by decide +kernel
theorem dX6_finds_128 : decode cX6_finds 128 = .ok (.istore 8, 2) := by decide +kernel
theorem dX6_finds_130 : decode cX6_finds 130 = .ok (.iload 8, 2) := by decide +kernel
theorem dX6_finds_132 : decode cX6_finds 132 = .ok (.aload_n 0, 1) := by decide +kernel
theorem dX6_finds_133 : decode cX6_finds 133 = .ok (.getfield 82, 3) := by decide +kernel
theorem dX6_finds_136 : decode cX6_finds 136 = .ok (.if_icmp .ge 15, 3) := by decide +kernel
theorem dX6_finds_139 : decode cX6_finds 139 = .ok (.aload_n 0, 1) := by decide +kernel
theorem dX6_finds_140 : decode cX6_finds 140 = .ok (.iload 8, 2) := by decide +kernel
theorem dX6_finds_142 : decode cX6_finds 142 = .ok (.putfield 82, 3) := by decide +kernel
theorem dX6_finds_145 : decode cX6_finds 145 = .ok (.aload_n 0, 1) := by decide +kernel
theorem dX6_finds_146 : decode cX6_finds 146 = .ok (.iload 7, 2) := by decide +kernel
theorem dX6_finds_148 : decode cX6_finds 148 = .ok (.putfield 85, 3) := by decide +kernel
theorem dX6_finds_151 : decode cX6_finds 151 = .ok (.iload 4, 2) := by decide +kernel
theorem dX6_finds_153 : decode cX6_finds 153 = .ok (.sipush 271, 3) := by decide +kernel
theorem dX6_finds_156 : decode cX6_finds 156 = .ok (.if_icmp .ne 7, 3) := by decide +kernel
theorem dX6_finds_159 : decode cX6_finds 159 = .ok (.iconst 0, 1) := by decide +kernel
theorem dX6_finds_160 : decode cX6_finds 160 = .ok (.goto 7, 3) := by decide +kernel
theorem dX6_finds_163 : decode cX6_finds 163 = .ok (.iload 4, 2) := by decide +kernel
theorem dX6_finds_165 : decode cX6_finds 165 = .ok (.iconst 1, 1) := by decide +kernel
theorem dX6_finds_166 : decode cX6_finds 166 = .ok (.iadd, 1) := by decide +kernel
theorem dX6_finds_167 : decode cX6_finds 167 = .ok (.istore 4, 2) := by decide +kernel
theorem dX6_finds_169 : decode cX6_finds 169 = .ok (.iload 5, 2) := by decide +kernel
theorem dX6_finds_171 : decode cX6_finds 171 = .ok (.sipush 254, 3) := by decide +kernel
theorem dX6_finds_174 : decode cX6_finds 174 = .ok (.if_icmp .ne 7, 3) := by decide +kernel
theorem dX6_finds_177 : decode cX6_finds 177 = .ok (.iconst 0, 1) := by decide +kernel
theorem dX6_finds_178 : decode cX6_finds 178 = .ok (.goto 7, 3) := by decide +kernel
theorem dX6_finds_181 : decode cX6_finds 181 = .ok (.iload 5, 2) := by decide +kernel
theorem dX6_finds_183 : decode cX6_finds 183 = .ok (.iconst 1, 1) := by decide +kernel
theorem dX6_finds_184 : decode cX6_finds 184 = .ok (.iadd, 1) := by decide +kernel
theorem dX6_finds_185 : decode cX6_finds 185 = .ok (.istore 5, 2) := by decide +kernel
theorem dX6_finds_187 : decode cX6_finds 187 = .ok (.iload 6, 2) := by decide +kernel
theorem dX6_finds_189 : decode cX6_finds 189 = .ok (.sipush 239, 3) := by decide +kernel
theorem dX6_finds_192 : decode cX6_finds 192 = .ok (.if_icmp .ne 7, 3) := by decide +kernel
theorem dX6_finds_195 : decode cX6_finds 195 = .ok (.iconst 0, 1) := by decide +kernel
theorem dX6_finds_196 : decode cX6_finds 196 = .ok (.goto 7, 3) := by decide +kernel
theorem dX6_finds_199 : decode cX6_finds 199 = .ok (.iload 6, 2) := by decide +kernel
theorem dX6_finds_201 : decode cX6_finds 201 = .ok (.iconst 1, 1) := by decide +kernel
theorem dX6_finds_202 : decode cX6_finds 202 = .ok (.iadd, 1) := by decide +kernel
theorem dX6_finds_203 : decode cX6_finds 203 = .ok (.istore 6, 2) := by decide +kernel
theorem dX6_finds_205 : decode cX6_finds 205 = .ok (.iinc 7 1, 3) := by decide +kernel
theorem dX6_finds_208 : decode cX6_finds 208 = .ok (.goto (-148), 3) := by decide +kernel
theorem dX6_finds_211 : decode cX6_finds 211 = .ok (.return_, 1) := by decide +kernel
theorem dX6_found_0 : decode cX6_found 0 = .ok (.iload_n 1, 1) := by decide +kernel
theorem dX6_found_1 : decode cX6_found 1 = .ok (.iconst 0, 1) := by decide +kernel
theorem dX6_found_2 : decode cX6_found 2 = .ok (.sipush 271, 3) := by decide +kernel
theorem dX6_found_5 : decode cX6_found 5 = .ok (.invokestatic 32, 3) := by decide +kernel
theorem dX6_found_8 : decode cX6_found 8 = .ok (.ifCond .eq 35, 3) := by decide +kernel
theorem dX6_found_11 : decode cX6_found 11 = .ok (.iload_n 2, 1) := by decide +kernel
theorem dX6_found_12 : decode cX6_found 12 = .ok (.iconst 0, 1) := by decide +kernel
theorem dX6_found_13 : decode cX6_found 13 = .ok (.sipush 254, 3) := by decide +kernel
theorem dX6_found_16 : decode cX6_found 16 = .ok (.invokestatic 32, 3) := by decide +kernel
theorem dX6_found_19 : decode cX6_found 19 = .ok (.ifCond .eq 24, 3) := by decide +kernel
theorem dX6_found_22 : decode cX6_found 22 = .ok (.iload_n 3, 1) := by decide +kernel
theorem dX6_found_23 : decode cX6_found 23 = .ok (.iconst 0, 1) := by decide +kernel
theorem dX6_found_24 : decode cX6_found 24 = .ok (.sipush 239, 3) := by decide +kernel
theorem dX6_found_27 : decode cX6_found 27 = .ok (.invokestatic 32, 3) := by decide +kernel
theorem dX6_found_30 : decode cX6_found 30 = .ok (.ifCond .eq 13, 3) := by decide +kernel
theorem dX6_found_33 : decode cX6_found 33 = .ok (.iload 4, 2) := by decide +kernel
theorem dX6_found_35 : decode cX6_found 35 = .ok (.iconst 0, 1) := by decide +kernel
theorem dX6_found_36 : decode cX6_found 36 = .ok (.iconst 1, 1) := by decide +kernel
theorem dX6_found_37 : decode cX6_found 37 = .ok (.invokestatic 32, 3) := by decide +kernel
theorem dX6_found_40 : decode cX6_found 40 = .ok (.ifCond .ne 5, 3) := by decide +kernel
theorem dX6_found_43 : decode cX6_found 43 = .ok (.iconst (-1), 1) := by decide +kernel
theorem dX6_found_44 : decode cX6_found 44 = .ok (.ireturn, 1) := by decide +kernel
theorem dX6_found_45 : decode cX6_found 45 = .ok (.aload_n 0, 1) := by decide +kernel
theorem dX6_found_46 : decode cX6_found 46 = .ok (.iload_n 1, 1) := by decide +kernel
theorem dX6_found_47 : decode cX6_found 47 = .ok (.iload_n 2, 1) := by decide +kernel
theorem dX6_found_48 : decode cX6_found 48 = .ok (.iload_n 3, 1) := by decide +kernel
theorem dX6_found_49 : decode cX6_found 49 = .ok (.invokevirtual 91, 3) := by decide +kernel
theorem dX6_found_52 : decode cX6_found 52 = .ok (.iload 4, 2) := by decide +kernel
theorem dX6_found_54 : decode cX6_found 54 = .ok (.ifCond .ne 10, 3) := by decide +kernel
theorem dX6_found_57 : decode cX6_found 57 = .ok (.aload_n 0, 1) := by decide +kernel
theorem dX6_found_58 : decode cX6_found 58 = .ok (.getfield 85, 3) := by decide +kernel
theorem dX6_found_61 : decode cX6_found 61 = .ok (.goto 7, 3) := by decide +kernel
theorem dX6_found_64 : decode cX6_found 64 = .ok (.aload_n 0, 1) := by decide +kernel
theorem dX6_found_65 : decode cX6_found 65 = .ok (.getfield 82, 3) := by decide +kernel
theorem dX6_found_68 : decode cX6_found 68 = .ok (.ireturn, 1) := by decide +kernel
theorem dX6_isReading_0 : decode cX6_isReading 0 = .ok (.iload_n 1, 1) := by decide +kernel
theorem dX6_isReading_1 : decode cX6_isReading 1 = .ok (.iconst 0, 1) := by decide +kernel
theorem dX6_isReading_2 : decode cX6_isReading 2 = .ok (.iload_n 0, 1) := by decide +kernel
theorem dX6_isReading_3 : decode cX6_isReading 3 = .ok (.invokestatic 75, 3) := by decide +kernel
theorem dX6_isReading_6 : decode cX6_isReading 6 = .ok (.iconst 1, 1) := by decide +kernel
theorem dX6_isReading_7 : decode cX6_isReading 7 = .ok (.isub, 1) := by decide +kernel
theorem dX6_isReading_8 : decode cX6_isReading 8 = .ok (.invokestatic 32, 3) := by decide +kernel
theorem dX6_isReading_11 : decode cX6_isReading 11 = .ok (.ireturn, 1) := by decide +kernel
theorem dX6_byTwo_0 : decode cX6_byTwo 0 = .ok (.iload_n 1, 1) := by decide +kernel
theorem dX6_byTwo_1 : decode cX6_byTwo 1 = .ok (.invokestatic 36, 3) := by decide +kernel
theorem dX6_byTwo_4 : decode cX6_byTwo 4 = .ok (.ifCond .eq 32, 3) := by decide +kernel
theorem dX6_byTwo_7 : decode cX6_byTwo 7 = .ok (.iload_n 3, 1) := by decide +kernel
theorem dX6_byTwo_8 : decode cX6_byTwo 8 = .ok (.invokestatic 36, 3) := by decide +kernel
theorem dX6_byTwo_11 : decode cX6_byTwo 11 = .ok (.ifCond .eq 25, 3) := by decide +kernel
theorem dX6_byTwo_14 : decode cX6_byTwo 14 = .ok (.iload_n 1, 1) := by decide +kernel
theorem dX6_byTwo_15 : decode cX6_byTwo 15 = .ok (.iload_n 3, 1) := by decide +kernel
theorem dX6_byTwo_16 : decode cX6_byTwo 16 = .ok (.if_icmp .eq 20, 3) := by decide +kernel
theorem dX6_byTwo_19 : decode cX6_byTwo 19 = .ok (.iload_n 1, 1) := by decide +kernel
theorem dX6_byTwo_20 : decode cX6_byTwo 20 = .ok (.iload_n 2, 1) := by decide +kernel
theorem dX6_byTwo_21 : decode cX6_byTwo 21 = .ok (.invokestatic 95, 3) := by decide +kernel
theorem dX6_byTwo_24 : decode cX6_byTwo 24 = .ok (.ifCond .eq 12, 3) := by decide +kernel
theorem dX6_byTwo_27 : decode cX6_byTwo 27 = .ok (.iload_n 3, 1) := by decide +kernel
theorem dX6_byTwo_28 : decode cX6_byTwo 28 = .ok (.iload 4, 2) := by decide +kernel
theorem dX6_byTwo_30 : decode cX6_byTwo 30 = .ok (.invokestatic 95, 3) := by decide +kernel
theorem dX6_byTwo_33 : decode cX6_byTwo 33 = .ok (.ifCond .ne 5, 3) := by decide +kernel
theorem dX6_byTwo_36 : decode cX6_byTwo 36 = .ok (.iconst (-1), 1) := by decide +kernel
theorem dX6_byTwo_37 : decode cX6_byTwo 37 = .ok (.ireturn, 1) := by decide +kernel
theorem dX6_byTwo_38 : decode cX6_byTwo 38 = .ok (.iload_n 2, 1) := by decide +kernel
theorem dX6_byTwo_39 : decode cX6_byTwo 39 = .ok (.istore 5, 2) := by decide +kernel
theorem dX6_byTwo_41 : decode cX6_byTwo 41 = .ok (.iload 5, 2) := by decide +kernel
theorem dX6_byTwo_43 : decode cX6_byTwo 43 = .ok (.sipush 4080, 3) := by decide +kernel
theorem dX6_byTwo_46 : decode cX6_byTwo 46 = .ok (.if_icmp .ge 30, 3) := by decide +kernel
theorem dX6_byTwo_49 : decode cX6_byTwo 49 = .ok (.iload 5, 2) := by decide +kernel
theorem dX6_byTwo_51 : decode cX6_byTwo 51 = .ok (.iload_n 3, 1) := by decide +kernel
theorem dX6_byTwo_52 : decode cX6_byTwo 52 = .ok (.invokestatic 75, 3) := by decide +kernel
theorem dX6_byTwo_55 : decode cX6_byTwo 55 = .ok (.irem, 1) := by decide +kernel
theorem dX6_byTwo_56 : decode cX6_byTwo 56 = .ok (.iload 4, 2) := by decide +kernel
theorem dX6_byTwo_58 : decode cX6_byTwo 58 = .ok (.if_icmp .ne 6, 3) := by decide +kernel
theorem dX6_byTwo_61 : decode cX6_byTwo 61 = .ok (.iload 5, 2) := by decide +kernel
theorem dX6_byTwo_63 : decode cX6_byTwo 63 = .ok (.ireturn, 1) := by decide +kernel
theorem dX6_byTwo_64 : decode cX6_byTwo 64 = .ok (.iload 5, 2) := by decide +kernel
theorem dX6_byTwo_66 : decode cX6_byTwo 66 = .ok (.iload_n 1, 1) := by decide +kernel
theorem dX6_byTwo_67 : decode cX6_byTwo 67 = .ok (.invokestatic 75, 3) := by decide +kernel
theorem dX6_byTwo_70 : decode cX6_byTwo 70 = .ok (.iadd, 1) := by decide +kernel
theorem dX6_byTwo_71 : decode cX6_byTwo 71 = .ok (.istore 5, 2) := by decide +kernel
theorem dX6_byTwo_73 : decode cX6_byTwo 73 = .ok (.goto (-32), 3) := by decide +kernel
theorem dX6_byTwo_76 : decode cX6_byTwo 76 = .ok (.bipush (-4), 2) := by decide +kernel
theorem dX6_byTwo_78 : decode cX6_byTwo 78 = .ok (.ireturn, 1) := by decide +kernel
theorem dX6_isCorrection_0 : decode cX6_isCorrection 0 = .ok (.iload_n 0, 1) := by decide +kernel
theorem dX6_isCorrection_1 : decode cX6_isCorrection 1 = .ok (.bipush (-20), 2) := by decide +kernel
theorem dX6_isCorrection_3 : decode cX6_isCorrection 3 = .ok (.bipush 20, 2) := by decide +kernel
theorem dX6_isCorrection_5 : decode cX6_isCorrection 5 = .ok (.invokestatic 32, 3) := by decide +kernel
theorem dX6_isCorrection_8 : decode cX6_isCorrection 8 = .ok (.ireturn, 1) := by decide +kernel
theorem dX6_correct_0 : decode cX6_correct 0 = .ok (.iload_n 1, 1) := by decide +kernel
theorem dX6_correct_1 : decode cX6_correct 1 = .ok (.iload_n 2, 1) := by decide +kernel
theorem dX6_correct_2 : decode cX6_correct 2 = .ok (.invokestatic 68, 3) := by decide +kernel
theorem dX6_correct_5 : decode cX6_correct 5 = .ok (.ifCond .eq 10, 3) := by decide +kernel
theorem dX6_correct_8 : decode cX6_correct 8 = .ok (.iload_n 3, 1) := by decide +kernel
theorem dX6_correct_9 : decode cX6_correct 9 = .ok (.invokestatic 98, 3) := by decide +kernel
theorem dX6_correct_12 : decode cX6_correct 12 = .ok (.ifCond .ne 5, 3) := by decide +kernel
theorem dX6_correct_15 : decode cX6_correct 15 = .ok (.iconst (-1), 1) := by decide +kernel
theorem dX6_correct_16 : decode cX6_correct 16 = .ok (.ireturn, 1) := by decide +kernel
theorem dX6_correct_17 : decode cX6_correct 17 = .ok (.aload_n 0, 1) := by decide +kernel
theorem dX6_correct_18 : decode cX6_correct 18 = .ok (.bipush 38, 2) := by decide +kernel
theorem dX6_correct_20 : decode cX6_correct 20 = .ok (.bipush 8, 2) := by decide +kernel
theorem dX6_correct_22 : decode cX6_correct 22 = .ok (.iload_n 1, 1) := by decide +kernel
theorem dX6_correct_23 : decode cX6_correct 23 = .ok (.imul, 1) := by decide +kernel
theorem dX6_correct_24 : decode cX6_correct 24 = .ok (.iadd, 1) := by decide +kernel
theorem dX6_correct_25 : decode cX6_correct 25 = .ok (.iload_n 2, 1) := by decide +kernel
theorem dX6_correct_26 : decode cX6_correct 26 = .ok (.iadd, 1) := by decide +kernel
theorem dX6_correct_27 : decode cX6_correct 27 = .ok (.iload_n 3, 1) := by decide +kernel
theorem dX6_correct_28 : decode cX6_correct 28 = .ok (.invokevirtual 52, 3) := by decide +kernel
theorem dX6_correct_31 : decode cX6_correct 31 = .ok (.bipush 100, 2) := by decide +kernel
theorem dX6_correct_33 : decode cX6_correct 33 = .ok (.iadd, 1) := by decide +kernel
theorem dX6_correct_34 : decode cX6_correct 34 = .ok (.ireturn, 1) := by decide +kernel
theorem dX6_correction_0 : decode cX6_correction 0 = .ok (.iload_n 1, 1) := by decide +kernel
theorem dX6_correction_1 : decode cX6_correction 1 = .ok (.iload_n 2, 1) := by decide +kernel
theorem dX6_correction_2 : decode cX6_correction 2 = .ok (.invokestatic 68, 3) := by decide +kernel
theorem dX6_correction_5 : decode cX6_correction 5 = .ok (.ifCond .eq 23, 3) := by decide +kernel
theorem dX6_correction_8 : decode cX6_correction 8 = .ok (.aload_n 0, 1) := by decide +kernel
theorem dX6_correction_9 : decode cX6_correction 9 = .ok (.getfield 7, 3) := by decide +kernel
theorem dX6_correction_12 : decode cX6_correction 12 = .ok (.bipush 38, 2) := by decide +kernel
theorem dX6_correction_14 : decode cX6_correction 14 = .ok (.bipush 8, 2) := by decide +kernel
theorem dX6_correction_16 : decode cX6_correction 16 = .ok (.iload_n 1, 1) := by decide +kernel
theorem dX6_correction_17 : decode cX6_correction 17 = .ok (.imul, 1) := by decide +kernel
theorem dX6_correction_18 : decode cX6_correction 18 = .ok (.iadd, 1) := by decide +kernel
theorem dX6_correction_19 : decode cX6_correction 19 = .ok (.iload_n 2, 1) := by decide +kernel
theorem dX6_correction_20 : decode cX6_correction 20 = .ok (.iadd, 1) := by decide +kernel
theorem dX6_correction_21 : decode cX6_correction 21 = .ok (.iaload, 1) := by decide +kernel
theorem dX6_correction_22 : decode cX6_correction 22 = .ok (.bipush 100, 2) := by decide +kernel
theorem dX6_correction_24 : decode cX6_correction 24 = .ok (.iadd, 1) := by decide +kernel
theorem dX6_correction_25 : decode cX6_correction 25 = .ok (.goto 4, 3) := by decide +kernel
theorem dX6_correction_28 : decode cX6_correction 28 = .ok (.iconst (-1), 1) := by decide +kernel
theorem dX6_correction_29 : decode cX6_correction 29 = .ok (.ireturn, 1) := by decide +kernel
theorem dX6_tooHigh_0 : decode cX6_tooHigh 0 = .ok (.aload_n 0, 1) := by decide +kernel
theorem dX6_tooHigh_1 : decode cX6_tooHigh 1 = .ok (.iload_n 1, 1) := by decide +kernel
theorem dX6_tooHigh_2 : decode cX6_tooHigh 2 = .ok (.aload_n 0, 1) := by decide +kernel
theorem dX6_tooHigh_3 : decode cX6_tooHigh 3 = .ok (.invokevirtual 55, 3) := by decide +kernel
theorem dX6_tooHigh_6 : decode cX6_tooHigh 6 = .ok (.invokevirtual 79, 3) := by decide +kernel
theorem dX6_tooHigh_9 : decode cX6_tooHigh 9 = .ok (.aload_n 0, 1) := by decide +kernel
theorem dX6_tooHigh_10 : decode cX6_tooHigh 10 = .ok (.invokevirtual 55, 3) := by decide +kernel
theorem dX6_tooHigh_13 : decode cX6_tooHigh 13 = .ok (.isub, 1) := by decide +kernel
theorem dX6_tooHigh_14 : decode cX6_tooHigh 14 = .ok (.iload_n 1, 1) := by decide +kernel
theorem dX6_tooHigh_15 : decode cX6_tooHigh 15 = .ok (.invokestatic 75, 3) := by decide +kernel
theorem dX6_tooHigh_18 : decode cX6_tooHigh 18 = .ok (.invokestatic 28, 3) := by decide +kernel
theorem dX6_tooHigh_21 : decode cX6_tooHigh 21 = .ok (.istore_n 2, 1) := by decide +kernel
theorem dX6_tooHigh_22 : decode cX6_tooHigh 22 = .ok (.iconst 2, 1) := by decide +kernel
theorem dX6_tooHigh_23 : decode cX6_tooHigh 23 = .ok (.iload_n 2, 1) := by decide +kernel
theorem dX6_tooHigh_24 : decode cX6_tooHigh 24 = .ok (.imul, 1) := by decide +kernel
theorem dX6_tooHigh_25 : decode cX6_tooHigh 25 = .ok (.iload_n 1, 1) := by decide +kernel
theorem dX6_tooHigh_26 : decode cX6_tooHigh 26 = .ok (.invokestatic 75, 3) := by decide +kernel
theorem dX6_tooHigh_29 : decode cX6_tooHigh 29 = .ok (.if_icmp .le 12, 3) := by decide +kernel
theorem dX6_tooHigh_32 : decode cX6_tooHigh 32 = .ok (.iload_n 2, 1) := by decide +kernel
theorem dX6_tooHigh_33 : decode cX6_tooHigh 33 = .ok (.iload_n 1, 1) := by decide +kernel
theorem dX6_tooHigh_34 : decode cX6_tooHigh 34 = .ok (.invokestatic 75, 3) := by decide +kernel
theorem dX6_tooHigh_37 : decode cX6_tooHigh 37 = .ok (.isub, 1) := by decide +kernel
theorem dX6_tooHigh_38 : decode cX6_tooHigh 38 = .ok (.goto 4, 3) := by decide +kernel
theorem dX6_tooHigh_41 : decode cX6_tooHigh 41 = .ok (.iload_n 2, 1) := by decide +kernel
theorem dX6_tooHigh_42 : decode cX6_tooHigh 42 = .ok (.ireturn, 1) := by decide +kernel
theorem dX6_learn_0 : decode cX6_learn 0 = .ok (.aload_n 0, 1) := by decide +kernel
theorem dX6_learn_1 : decode cX6_learn 1 = .ok (.iconst 0, 1) := by decide +kernel
theorem dX6_learn_2 : decode cX6_learn 2 = .ok (.invokevirtual 101, 3) := by decide +kernel
theorem dX6_learn_5 : decode cX6_learn 5 = .ok (.invokestatic 98, 3) := by decide +kernel
theorem dX6_learn_8 : decode cX6_learn 8 = .ok (.ifCond .eq 25, 3) := by decide +kernel
theorem dX6_learn_11 : decode cX6_learn 11 = .ok (.aload_n 0, 1) := by decide +kernel
theorem dX6_learn_12 : decode cX6_learn 12 = .ok (.iconst 1, 1) := by decide +kernel
theorem dX6_learn_13 : decode cX6_learn 13 = .ok (.invokevirtual 101, 3) := by decide +kernel
theorem dX6_learn_16 : decode cX6_learn 16 = .ok (.invokestatic 98, 3) := by decide +kernel
theorem dX6_learn_19 : decode cX6_learn 19 = .ok (.ifCond .eq 14, 3) := by decide +kernel
theorem dX6_learn_22 : decode cX6_learn 22 = .ok (.aload_n 0, 1) := by decide +kernel
theorem dX6_learn_23 : decode cX6_learn 23 = .ok (.iconst 2, 1) := by decide +kernel
theorem dX6_learn_24 : decode cX6_learn 24 = .ok (.invokevirtual 101, 3) := by decide +kernel
theorem dX6_learn_27 : decode cX6_learn 27 = .ok (.invokestatic 98, 3) := by decide +kernel
theorem dX6_learn_30 : decode cX6_learn 30 = .ok (.ifCond .ne 6, 3) := by decide +kernel
theorem dX6_learn_33 : decode cX6_learn 33 = .ok (.bipush (-2), 2) := by decide +kernel
theorem dX6_learn_35 : decode cX6_learn 35 = .ok (.ireturn, 1) := by decide +kernel
theorem dX6_learn_36 : decode cX6_learn 36 = .ok (.aload_n 0, 1) := by decide +kernel
theorem dX6_learn_37 : decode cX6_learn 37 = .ok (.invokevirtual 44, 3) := by decide +kernel
theorem dX6_learn_40 : decode cX6_learn 40 = .ok (.iconst 0, 1) := by decide +kernel
theorem dX6_learn_41 : decode cX6_learn 41 = .ok (.istore_n 1, 1) := by decide +kernel
theorem dX6_learn_42 : decode cX6_learn 42 = .ok (.iconst 0, 1) := by decide +kernel
theorem dX6_learn_43 : decode cX6_learn 43 = .ok (.istore_n 2, 1) := by decide +kernel
theorem dX6_learn_44 : decode cX6_learn 44 = .ok (.iload_n 2, 1) := by decide +kernel
theorem dX6_learn_45 : decode cX6_learn 45 = .ok (.iconst 3, 1) := by decide +kernel
theorem dX6_learn_46 : decode cX6_learn 46 = .ok (.if_icmp .ge 59, 3) := by decide +kernel
theorem dX6_learn_49 : decode cX6_learn 49 = .ok (.bipush 38, 2) := by decide +kernel
theorem dX6_learn_51 : decode cX6_learn 51 = .ok (.bipush 8, 2) := by decide +kernel
theorem dX6_learn_53 : decode cX6_learn 53 = .ok (.iload_n 2, 1) := by decide +kernel
theorem dX6_learn_54 : decode cX6_learn 54 = .ok (.imul, 1) := by decide +kernel
theorem dX6_learn_55 : decode cX6_learn 55 = .ok (.iadd, 1) := by decide +kernel
theorem dX6_learn_56 : decode cX6_learn 56 = .ok (.aload_n 0, 1) := by decide +kernel
theorem dX6_learn_57 : decode cX6_learn 57 = .ok (.invokevirtual 55, 3) := by decide +kernel
theorem dX6_learn_60 : decode cX6_learn 60 = .ok (.sipush 510, 3) := by decide +kernel
theorem dX6_learn_63 : decode cX6_learn 63 = .ok (.idiv, 1) := by decide +kernel
theorem dX6_learn_64 : decode cX6_learn 64 = .ok (.iadd, 1) := by decide +kernel
theorem dX6_learn_65 : decode cX6_learn 65 = .ok (.istore_n 3, 1) := by decide +kernel
theorem dX6_learn_66 : decode cX6_learn 66 = .ok (.iload_n 1, 1) := by decide +kernel
theorem dX6_learn_67 : decode cX6_learn 67 = .ok (.aload_n 0, 1) := by decide +kernel
theorem dX6_learn_68 : decode cX6_learn 68 = .ok (.getfield 7, 3) := by decide +kernel
theorem dX6_learn_71 : decode cX6_learn 71 = .ok (.iload_n 3, 1) := by decide +kernel
theorem dX6_learn_72 : decode cX6_learn 72 = .ok (.iaload, 1) := by decide +kernel
theorem dX6_learn_73 : decode cX6_learn 73 = .ok (.aload_n 0, 1) := by decide +kernel
theorem dX6_learn_74 : decode cX6_learn 74 = .ok (.iload_n 2, 1) := by decide +kernel
theorem dX6_learn_75 : decode cX6_learn 75 = .ok (.invokevirtual 101, 3) := by decide +kernel
theorem dX6_learn_78 : decode cX6_learn 78 = .ok (.if_icmp .ne 7, 3) := by decide +kernel
theorem dX6_learn_81 : decode cX6_learn 81 = .ok (.iconst 0, 1) := by decide +kernel
theorem dX6_learn_82 : decode cX6_learn 82 = .ok (.goto 4, 3) := by decide +kernel
theorem dX6_learn_85 : decode cX6_learn 85 = .ok (.iconst 1, 1) := by decide +kernel
theorem dX6_learn_86 : decode cX6_learn 86 = .ok (.iadd, 1) := by decide +kernel
theorem dX6_learn_87 : decode cX6_learn 87 = .ok (.istore_n 1, 1) := by decide +kernel
theorem dX6_learn_88 : decode cX6_learn 88 = .ok (.aload_n 0, 1) := by decide +kernel
theorem dX6_learn_89 : decode cX6_learn 89 = .ok (.getfield 7, 3) := by decide +kernel
theorem dX6_learn_92 : decode cX6_learn 92 = .ok (.iload_n 3, 1) := by decide +kernel
theorem dX6_learn_93 : decode cX6_learn 93 = .ok (.aload_n 0, 1) := by decide +kernel
theorem dX6_learn_94 : decode cX6_learn 94 = .ok (.iload_n 2, 1) := by decide +kernel
theorem dX6_learn_95 : decode cX6_learn 95 = .ok (.invokevirtual 101, 3) := by decide +kernel
theorem dX6_learn_98 : decode cX6_learn 98 = .ok (.iastore, 1) := by decide +kernel
theorem dX6_learn_99 : decode cX6_learn 99 = .ok (.iinc 2 1, 3) := by decide +kernel
theorem dX6_learn_102 : decode cX6_learn 102 = .ok (.goto (-58), 3) := by decide +kernel
theorem dX6_learn_105 : decode cX6_learn 105 = .ok (.iload_n 1, 1) := by decide +kernel
theorem dX6_learn_106 : decode cX6_learn 106 = .ok (.ireturn, 1) := by decide +kernel
theorem dX6_corrected_0 : decode cX6_corrected 0 = .ok (.aload_n 0, 1) := by decide +kernel
theorem dX6_corrected_1 : decode cX6_corrected 1 = .ok (.getfield 19, 3) := by decide +kernel
theorem dX6_corrected_4 : decode cX6_corrected 4 = .ok (.iload_n 1, 1) := by decide +kernel
theorem dX6_corrected_5 : decode cX6_corrected 5 = .ok (.iaload, 1) := by decide +kernel
theorem dX6_corrected_6 : decode cX6_corrected 6 = .ok (.aload_n 0, 1) := by decide +kernel
theorem dX6_corrected_7 : decode cX6_corrected 7 = .ok (.getfield 7, 3) := by decide +kernel
theorem dX6_corrected_10 : decode cX6_corrected 10 = .ok (.bipush 38, 2) := by decide +kernel
theorem dX6_corrected_12 : decode cX6_corrected 12 = .ok (.bipush 8, 2) := by decide +kernel
theorem dX6_corrected_14 : decode cX6_corrected 14 = .ok (.iload_n 1, 1) := by decide +kernel
theorem dX6_corrected_15 : decode cX6_corrected 15 = .ok (.imul, 1) := by decide +kernel
theorem dX6_corrected_16 : decode cX6_corrected 16 = .ok (.iadd, 1) := by decide +kernel
theorem dX6_corrected_17 : decode cX6_corrected 17 = .ok (.iload_n 2, 1) := by decide +kernel
theorem dX6_corrected_18 : decode cX6_corrected 18 = .ok (.iadd, 1) := by decide +kernel
theorem dX6_corrected_19 : decode cX6_corrected 19 = .ok (.iaload, 1) := by decide +kernel
theorem dX6_corrected_20 : decode cX6_corrected 20 = .ok (.isub, 1) := by decide +kernel
theorem dX6_corrected_21 : decode cX6_corrected 21 = .ok (.iload_n 1, 1) := by decide +kernel
theorem dX6_corrected_22 : decode cX6_corrected 22 = .ok (.invokestatic 75, 3) := by decide +kernel
theorem dX6_corrected_25 : decode cX6_corrected 25 = .ok (.invokestatic 28, 3) := by decide +kernel
theorem dX6_corrected_28 : decode cX6_corrected 28 = .ok (.ireturn, 1) := by decide +kernel
theorem dX6_findsIn_0 : decode cX6_findsIn 0 = .ok (.aload_n 0, 1) := by decide +kernel
theorem dX6_findsIn_1 : decode cX6_findsIn 1 = .ok (.aload_n 0, 1) := by decide +kernel
theorem dX6_findsIn_2 : decode cX6_findsIn 2 = .ok (.iconst 0, 1) := by decide +kernel
theorem dX6_findsIn_3 : decode cX6_findsIn 3 = .ok (.iload_n 1, 1) := by decide +kernel
theorem dX6_findsIn_4 : decode cX6_findsIn 4 = .ok (.invokevirtual 104, 3) := by decide +kernel
theorem dX6_findsIn_7 : decode cX6_findsIn 7 = .ok (.aload_n 0, 1) := by decide +kernel
theorem dX6_findsIn_8 : decode cX6_findsIn 8 = .ok (.iconst 1, 1) := by decide +kernel
theorem dX6_findsIn_9 : decode cX6_findsIn 9 = .ok (.iload_n 1, 1) := by decide +kernel
theorem dX6_findsIn_10 : decode cX6_findsIn 10 = .ok (.invokevirtual 104, 3) := by decide +kernel
theorem dX6_findsIn_13 : decode cX6_findsIn 13 = .ok (.aload_n 0, 1) := by decide +kernel
theorem dX6_findsIn_14 : decode cX6_findsIn 14 = .ok (.iconst 2, 1) := by decide +kernel
theorem dX6_findsIn_15 : decode cX6_findsIn 15 = .ok (.iload_n 1, 1) := by decide +kernel
theorem dX6_findsIn_16 : decode cX6_findsIn 16 = .ok (.invokevirtual 104, 3) := by decide +kernel
theorem dX6_findsIn_19 : decode cX6_findsIn 19 = .ok (.invokevirtual 91, 3) := by decide +kernel
theorem dX6_findsIn_22 : decode cX6_findsIn 22 = .ok (.aload_n 0, 1) := by decide +kernel
theorem dX6_findsIn_23 : decode cX6_findsIn 23 = .ok (.dup, 1) := by decide +kernel
theorem dX6_findsIn_24 : decode cX6_findsIn 24 = .ok (.getfield 107, 3) := by decide +kernel
theorem dX6_findsIn_27 : decode cX6_findsIn 27 = .ok (.iconst 1, 1) := by decide +kernel
theorem dX6_findsIn_28 : decode cX6_findsIn 28 = .ok (.iadd, 1) := by decide +kernel
theorem dX6_findsIn_29 : decode cX6_findsIn 29 = .ok (.putfield 107, 3) := by decide +kernel
theorem dX6_findsIn_32 : decode cX6_findsIn 32 = .ok (.return_, 1) := by decide +kernel
theorem dX6_looks_0 : decode cX6_looks 0 = .ok (.iconst 0, 1) := by decide +kernel
theorem dX6_looks_1 : decode cX6_looks 1 = .ok (.istore_n 2, 1) := by decide +kernel
theorem dX6_looks_2 : decode cX6_looks 2 = .ok (.iload_n 2, 1) := by decide +kernel
theorem dX6_looks_3 : decode cX6_looks 3 = .ok (.iconst 3, 1) := by decide +kernel
theorem dX6_looks_4 : decode cX6_looks 4 = .ok (.if_icmp .ge 21, 3) := by decide +kernel
theorem dX6_looks_7 : decode cX6_looks 7 = .ok (.aload_n 0, 1) := by decide +kernel
theorem dX6_looks_8 : decode cX6_looks 8 = .ok (.getfield 19, 3) := by decide +kernel
theorem dX6_looks_11 : decode cX6_looks 11 = .ok (.iload_n 2, 1) := by decide +kernel
theorem dX6_looks_12 : decode cX6_looks 12 = .ok (.aload_n 0, 1) := by decide +kernel
theorem dX6_looks_13 : decode cX6_looks 13 = .ok (.iload_n 2, 1) := by decide +kernel
theorem dX6_looks_14 : decode cX6_looks 14 = .ok (.iload_n 1, 1) := by decide +kernel
theorem dX6_looks_15 : decode cX6_looks 15 = .ok (.invokevirtual 79, 3) := by decide +kernel
theorem dX6_looks_18 : decode cX6_looks 18 = .ok (.iastore, 1) := by decide +kernel
theorem dX6_looks_19 : decode cX6_looks 19 = .ok (.iinc 2 1, 3) := by decide +kernel
theorem dX6_looks_22 : decode cX6_looks 22 = .ok (.goto (-20), 3) := by decide +kernel
theorem dX6_looks_25 : decode cX6_looks 25 = .ok (.aload_n 0, 1) := by decide +kernel
theorem dX6_looks_26 : decode cX6_looks 26 = .ok (.aload_n 0, 1) := by decide +kernel
theorem dX6_looks_27 : decode cX6_looks 27 = .ok (.getfield 19, 3) := by decide +kernel
theorem dX6_looks_30 : decode cX6_looks 30 = .ok (.iconst 0, 1) := by decide +kernel
theorem dX6_looks_31 : decode cX6_looks 31 = .ok (.iaload, 1) := by decide +kernel
theorem dX6_looks_32 : decode cX6_looks 32 = .ok (.aload_n 0, 1) := by decide +kernel
theorem dX6_looks_33 : decode cX6_looks 33 = .ok (.getfield 19, 3) := by decide +kernel
theorem dX6_looks_36 : decode cX6_looks 36 = .ok (.iconst 1, 1) := by decide +kernel
theorem dX6_looks_37 : decode cX6_looks 37 = .ok (.iaload, 1) := by decide +kernel
theorem dX6_looks_38 : decode cX6_looks 38 = .ok (.aload_n 0, 1) := by decide +kernel
theorem dX6_looks_39 : decode cX6_looks 39 = .ok (.getfield 19, 3) := by decide +kernel
theorem dX6_looks_42 : decode cX6_looks 42 = .ok (.iconst 2, 1) := by decide +kernel
theorem dX6_looks_43 : decode cX6_looks 43 = .ok (.iaload, 1) := by decide +kernel
theorem dX6_looks_44 : decode cX6_looks 44 = .ok (.invokevirtual 91, 3) := by decide +kernel
theorem dX6_looks_47 : decode cX6_looks 47 = .ok (.aload_n 0, 1) := by decide +kernel
theorem dX6_looks_48 : decode cX6_looks 48 = .ok (.aload_n 0, 1) := by decide +kernel
theorem dX6_looks_49 : decode cX6_looks 49 = .ok (.getfield 85, 3) := by decide +kernel
theorem dX6_looks_52 : decode cX6_looks 52 = .ok (.putfield 110, 3) := by decide +kernel
theorem dX6_looks_55 : decode cX6_looks 55 = .ok (.aload_n 0, 1) := by decide +kernel
theorem dX6_looks_56 : decode cX6_looks 56 = .ok (.iconst 1, 1) := by decide +kernel
theorem dX6_looks_57 : decode cX6_looks 57 = .ok (.putfield 107, 3) := by decide +kernel
theorem dX6_looks_60 : decode cX6_looks 60 = .ok (.aload_n 0, 1) := by decide +kernel
theorem dX6_looks_61 : decode cX6_looks 61 = .ok (.getfield 110, 3) := by decide +kernel
theorem dX6_looks_64 : decode cX6_looks 64 = .ok (.sipush 510, 3) := by decide +kernel
theorem dX6_looks_67 : decode cX6_looks 67 = .ok (.idiv, 1) := by decide +kernel
theorem dX6_looks_68 : decode cX6_looks 68 = .ok (.istore_n 2, 1) := by decide +kernel
theorem dX6_looks_69 : decode cX6_looks 69 = .ok (.aload_n 0, 1) := by decide +kernel
theorem dX6_looks_70 : decode cX6_looks 70 = .ok (.iload_n 2, 1) := by decide +kernel
theorem dX6_looks_71 : decode cX6_looks 71 = .ok (.invokevirtual 113, 3) := by decide +kernel
theorem dX6_looks_74 : decode cX6_looks 74 = .ok (.aload_n 0, 1) := by decide +kernel
theorem dX6_looks_75 : decode cX6_looks 75 = .ok (.getfield 85, 3) := by decide +kernel
theorem dX6_looks_78 : decode cX6_looks 78 = .ok (.sipush 510, 3) := by decide +kernel
theorem dX6_looks_81 : decode cX6_looks 81 = .ok (.idiv, 1) := by decide +kernel
theorem dX6_looks_82 : decode cX6_looks 82 = .ok (.iload_n 2, 1) := by decide +kernel
theorem dX6_looks_83 : decode cX6_looks 83 = .ok (.if_icmp .eq 15, 3) := by decide +kernel
theorem dX6_looks_86 : decode cX6_looks 86 = .ok (.aload_n 0, 1) := by decide +kernel
theorem dX6_looks_87 : decode cX6_looks 87 = .ok (.aload_n 0, 1) := by decide +kernel
theorem dX6_looks_88 : decode cX6_looks 88 = .ok (.getfield 85, 3) := by decide +kernel
theorem dX6_looks_91 : decode cX6_looks 91 = .ok (.sipush 510, 3) := by decide +kernel
theorem dX6_looks_94 : decode cX6_looks 94 = .ok (.idiv, 1) := by decide +kernel
theorem dX6_looks_95 : decode cX6_looks 95 = .ok (.invokevirtual 113, 3) := by decide +kernel
theorem dX6_looks_98 : decode cX6_looks 98 = .ok (.return_, 1) := by decide +kernel
theorem dX6_look_0 : decode cX6_look 0 = .ok (.iload_n 1, 1) := by decide +kernel
theorem dX6_look_1 : decode cX6_look 1 = .ok (.iconst 0, 1) := by decide +kernel
theorem dX6_look_2 : decode cX6_look 2 = .ok (.iconst 4, 1) := by decide +kernel
theorem dX6_look_3 : decode cX6_look 3 = .ok (.invokestatic 32, 3) := by decide +kernel
theorem dX6_look_6 : decode cX6_look 6 = .ok (.ifCond .ne 5, 3) := by decide +kernel
theorem dX6_look_9 : decode cX6_look 9 = .ok (.iconst (-1), 1) := by decide +kernel
theorem dX6_look_10 : decode cX6_look 10 = .ok (.ireturn, 1) := by decide +kernel
theorem dX6_look_11 : decode cX6_look 11 = .ok (.aload_n 0, 1) := by decide +kernel
theorem dX6_look_12 : decode cX6_look 12 = .ok (.aload_n 0, 1) := by decide +kernel
theorem dX6_look_13 : decode cX6_look 13 = .ok (.invokevirtual 55, 3) := by decide +kernel
theorem dX6_look_16 : decode cX6_look 16 = .ok (.invokevirtual 116, 3) := by decide +kernel
theorem dX6_look_19 : decode cX6_look 19 = .ok (.iload_n 1, 1) := by decide +kernel
theorem dX6_look_20 : decode cX6_look 20 = .ok (.tableswitch 52 0 3 #[32, 37, 42, 47], 32) := by decide +kernel
theorem dX6_look_52 : decode cX6_look 52 = .ok (.aload_n 0, 1) := by decide +kernel
theorem dX6_look_53 : decode cX6_look 53 = .ok (.getfield 85, 3) := by decide +kernel
theorem dX6_look_56 : decode cX6_look 56 = .ok (.ireturn, 1) := by decide +kernel
theorem dX6_look_57 : decode cX6_look 57 = .ok (.aload_n 0, 1) := by decide +kernel
theorem dX6_look_58 : decode cX6_look 58 = .ok (.getfield 82, 3) := by decide +kernel
theorem dX6_look_61 : decode cX6_look 61 = .ok (.ireturn, 1) := by decide +kernel
theorem dX6_look_62 : decode cX6_look 62 = .ok (.aload_n 0, 1) := by decide +kernel
theorem dX6_look_63 : decode cX6_look 63 = .ok (.getfield 110, 3) := by decide +kernel
theorem dX6_look_66 : decode cX6_look 66 = .ok (.ireturn, 1) := by decide +kernel
theorem dX6_look_67 : decode cX6_look 67 = .ok (.aload_n 0, 1) := by decide +kernel
theorem dX6_look_68 : decode cX6_look 68 = .ok (.getfield 107, 3) := by decide +kernel
theorem dX6_look_71 : decode cX6_look 71 = .ok (.ireturn, 1) := by decide +kernel
theorem dX6_look_72 : decode cX6_look 72 = .ok (.aload_n 0, 1) := by decide +kernel
theorem dX6_look_73 : decode cX6_look 73 = .ok (.getfield 85, 3) := by decide +kernel
theorem dX6_look_76 : decode cX6_look 76 = .ok (.aload_n 0, 1) := by decide +kernel
theorem dX6_look_77 : decode cX6_look 77 = .ok (.invokevirtual 55, 3) := by decide +kernel
theorem dX6_look_80 : decode cX6_look 80 = .ok (.if_icmp .ne 7, 3) := by decide +kernel
theorem dX6_look_83 : decode cX6_look 83 = .ok (.iconst 1, 1) := by decide +kernel
theorem dX6_look_84 : decode cX6_look 84 = .ok (.goto 4, 3) := by decide +kernel
theorem dX6_look_87 : decode cX6_look 87 = .ok (.iconst 0, 1) := by decide +kernel
theorem dX6_look_88 : decode cX6_look 88 = .ok (.ireturn, 1) := by decide +kernel
theorem dX6_survey_0 : decode cX6_survey 0 = .ok (.iload_n 1, 1) := by decide +kernel
theorem dX6_survey_1 : decode cX6_survey 1 = .ok (.bipush 102, 2) := by decide +kernel
theorem dX6_survey_3 : decode cX6_survey 3 = .ok (.sipush 4080, 3) := by decide +kernel
theorem dX6_survey_6 : decode cX6_survey 6 = .ok (.invokestatic 32, 3) := by decide +kernel
theorem dX6_survey_9 : decode cX6_survey 9 = .ok (.ifCond .eq 12, 3) := by decide +kernel
theorem dX6_survey_12 : decode cX6_survey 12 = .ok (.iload_n 2, 1) := by decide +kernel
theorem dX6_survey_13 : decode cX6_survey 13 = .ok (.iconst 0, 1) := by decide +kernel
theorem dX6_survey_14 : decode cX6_survey 14 = .ok (.iconst 2, 1) := by decide +kernel
theorem dX6_survey_15 : decode cX6_survey 15 = .ok (.invokestatic 32, 3) := by decide +kernel
theorem dX6_survey_18 : decode cX6_survey 18 = .ok (.ifCond .ne 5, 3) := by decide +kernel
theorem dX6_survey_21 : decode cX6_survey 21 = .ok (.iconst (-1), 1) := by decide +kernel
theorem dX6_survey_22 : decode cX6_survey 22 = .ok (.ireturn, 1) := by decide +kernel
theorem dX6_survey_23 : decode cX6_survey 23 = .ok (.iconst 0, 1) := by decide +kernel
theorem dX6_survey_24 : decode cX6_survey 24 = .ok (.istore_n 3, 1) := by decide +kernel
theorem dX6_survey_25 : decode cX6_survey 25 = .ok (.bipush (-4), 2) := by decide +kernel
theorem dX6_survey_27 : decode cX6_survey 27 = .ok (.istore 4, 2) := by decide +kernel
theorem dX6_survey_29 : decode cX6_survey 29 = .ok (.iconst 0, 1) := by decide +kernel
theorem dX6_survey_30 : decode cX6_survey 30 = .ok (.istore 5, 2) := by decide +kernel
theorem dX6_survey_32 : decode cX6_survey 32 = .ok (.iconst 0, 1) := by decide +kernel
theorem dX6_survey_33 : decode cX6_survey 33 = .ok (.istore 6, 2) := by decide +kernel
theorem dX6_survey_35 : decode cX6_survey 35 = .ok (.iload 6, 2) := by decide +kernel
theorem dX6_survey_37 : decode cX6_survey 37 = .ok (.sipush 4080, 3) := by decide +kernel
theorem dX6_survey_40 : decode cX6_survey 40 = .ok (.if_icmp .ge 77, 3) := by decide +kernel
theorem dX6_survey_43 : decode cX6_survey 43 = .ok (.aload_n 0, 1) := by decide +kernel
theorem dX6_survey_44 : decode cX6_survey 44 = .ok (.iload 6, 2) := by decide +kernel
theorem dX6_survey_46 : decode cX6_survey 46 = .ok (.invokevirtual 116, 3) := by decide +kernel
theorem dX6_survey_49 : decode cX6_survey 49 = .ok (.aload_n 0, 1) := by decide +kernel
theorem dX6_survey_50 : decode cX6_survey 50 = .ok (.getfield 85, 3) := by decide +kernel
theorem dX6_survey_53 : decode cX6_survey 53 = .ok (.iload 6, 2) := by decide +kernel
theorem dX6_survey_55 : decode cX6_survey 55 = .ok (.if_icmp .eq 12, 3) := by decide +kernel
theorem dX6_survey_58 : decode cX6_survey 58 = .ok (.iload_n 3, 1) := by decide +kernel
theorem dX6_survey_59 : decode cX6_survey 59 = .ok (.ifCond .ne 8, 3) := by decide +kernel
theorem dX6_survey_62 : decode cX6_survey 62 = .ok (.iload 6, 2) := by decide +kernel
theorem dX6_survey_64 : decode cX6_survey 64 = .ok (.goto 5, 3) := by decide +kernel
theorem dX6_survey_67 : decode cX6_survey 67 = .ok (.iload 4, 2) := by decide +kernel
theorem dX6_survey_69 : decode cX6_survey 69 = .ok (.istore 4, 2) := by decide +kernel
theorem dX6_survey_71 : decode cX6_survey 71 = .ok (.iload_n 3, 1) := by decide +kernel
theorem dX6_survey_72 : decode cX6_survey 72 = .ok (.aload_n 0, 1) := by decide +kernel
theorem dX6_survey_73 : decode cX6_survey 73 = .ok (.getfield 85, 3) := by decide +kernel
theorem dX6_survey_76 : decode cX6_survey 76 = .ok (.iload 6, 2) := by decide +kernel
theorem dX6_survey_78 : decode cX6_survey 78 = .ok (.if_icmp .ne 7, 3) := by decide +kernel
theorem dX6_survey_81 : decode cX6_survey 81 = .ok (.iconst 0, 1) := by decide +kernel
theorem dX6_survey_82 : decode cX6_survey 82 = .ok (.goto 4, 3) := by decide +kernel
theorem dX6_survey_85 : decode cX6_survey 85 = .ok (.iconst 1, 1) := by decide +kernel
theorem dX6_survey_86 : decode cX6_survey 86 = .ok (.iadd, 1) := by decide +kernel
theorem dX6_survey_87 : decode cX6_survey 87 = .ok (.istore_n 3, 1) := by decide +kernel
theorem dX6_survey_88 : decode cX6_survey 88 = .ok (.aload_n 0, 1) := by decide +kernel
theorem dX6_survey_89 : decode cX6_survey 89 = .ok (.getfield 82, 3) := by decide +kernel
theorem dX6_survey_92 : decode cX6_survey 92 = .ok (.iload 5, 2) := by decide +kernel
theorem dX6_survey_94 : decode cX6_survey 94 = .ok (.if_icmp .le 10, 3) := by decide +kernel
theorem dX6_survey_97 : decode cX6_survey 97 = .ok (.aload_n 0, 1) := by decide +kernel
theorem dX6_survey_98 : decode cX6_survey 98 = .ok (.getfield 82, 3) := by decide +kernel
theorem dX6_survey_101 : decode cX6_survey 101 = .ok (.goto 5, 3) := by decide +kernel
theorem dX6_survey_104 : decode cX6_survey 104 = .ok (.iload 5, 2) := by decide +kernel
theorem dX6_survey_106 : decode cX6_survey 106 = .ok (.istore 5, 2) := by decide +kernel
theorem dX6_survey_108 : decode cX6_survey 108 = .ok (.iload 6, 2) := by decide +kernel
theorem dX6_survey_110 : decode cX6_survey 110 = .ok (.iload_n 1, 1) := by decide +kernel
theorem dX6_survey_111 : decode cX6_survey 111 = .ok (.iadd, 1) := by decide +kernel
theorem dX6_survey_112 : decode cX6_survey 112 = .ok (.istore 6, 2) := by decide +kernel
theorem dX6_survey_114 : decode cX6_survey 114 = .ok (.goto (-79), 3) := by decide +kernel
theorem dX6_survey_117 : decode cX6_survey 117 = .ok (.iload_n 2, 1) := by decide +kernel
theorem dX6_survey_118 : decode cX6_survey 118 = .ok (.ifCond .ne 7, 3) := by decide +kernel
theorem dX6_survey_121 : decode cX6_survey 121 = .ok (.iload_n 3, 1) := by decide +kernel
theorem dX6_survey_122 : decode cX6_survey 122 = .ok (.goto 15, 3) := by decide +kernel
theorem dX6_survey_125 : decode cX6_survey 125 = .ok (.iload_n 2, 1) := by decide +kernel
theorem dX6_survey_126 : decode cX6_survey 126 = .ok (.iconst 1, 1) := by decide +kernel
theorem dX6_survey_127 : decode cX6_survey 127 = .ok (.if_icmp .ne 8, 3) := by decide +kernel
theorem dX6_survey_130 : decode cX6_survey 130 = .ok (.iload 4, 2) := by decide +kernel
theorem dX6_survey_132 : decode cX6_survey 132 = .ok (.goto 5, 3) := by decide +kernel
theorem dX6_survey_135 : decode cX6_survey 135 = .ok (.iload 5, 2) := by decide +kernel
theorem dX6_survey_137 : decode cX6_survey 137 = .ok (.ireturn, 1) := by decide +kernel
theorem dX6_poor_0 : decode cX6_poor 0 = .ok (.iconst 0, 1) := by decide +kernel
theorem dX6_poor_1 : decode cX6_poor 1 = .ok (.istore_n 1, 1) := by decide +kernel
theorem dX6_poor_2 : decode cX6_poor 2 = .ok (.iconst 0, 1) := by decide +kernel
theorem dX6_poor_3 : decode cX6_poor 3 = .ok (.istore_n 2, 1) := by decide +kernel
theorem dX6_poor_4 : decode cX6_poor 4 = .ok (.iload_n 2, 1) := by decide +kernel
theorem dX6_poor_5 : decode cX6_poor 5 = .ok (.bipush 8, 2) := by decide +kernel
theorem dX6_poor_7 : decode cX6_poor 7 = .ok (.if_icmp .ge 116, 3) := by decide +kernel
theorem dX6_poor_10 : decode cX6_poor 10 = .ok (.iconst 0, 1) := by decide +kernel
theorem dX6_poor_11 : decode cX6_poor 11 = .ok (.istore_n 3, 1) := by decide +kernel
theorem dX6_poor_12 : decode cX6_poor 12 = .ok (.iconst 0, 1) := by decide +kernel
theorem dX6_poor_13 : decode cX6_poor 13 = .ok (.istore 4, 2) := by decide +kernel
theorem dX6_poor_15 : decode cX6_poor 15 = .ok (.iload 4, 2) := by decide +kernel
theorem dX6_poor_17 : decode cX6_poor 17 = .ok (.iconst 3, 1) := by decide +kernel
theorem dX6_poor_18 : decode cX6_poor 18 = .ok (.if_icmp .ge 87, 3) := by decide +kernel
theorem dX6_poor_21 : decode cX6_poor 21 = .ok (.bipush 8, 2) := by decide +kernel
theorem dX6_poor_23 : decode cX6_poor 23 = .ok (.iload 4, 2) := by decide +kernel
theorem dX6_poor_25 : decode cX6_poor 25 = .ok (.imul, 1) := by decide +kernel
theorem dX6_poor_26 : decode cX6_poor 26 = .ok (.iload_n 2, 1) := by decide +kernel
theorem dX6_poor_27 : decode cX6_poor 27 = .ok (.iadd, 1) := by decide +kernel
theorem dX6_poor_28 : decode cX6_poor 28 = .ok (.istore 5, 2) := by decide +kernel
theorem dX6_poor_30 : decode cX6_poor 30 = .ok (.aload_n 0, 1) := by decide +kernel
theorem dX6_poor_31 : decode cX6_poor 31 = .ok (.getfield 7, 3) := by decide +kernel
theorem dX6_poor_34 : decode cX6_poor 34 = .ok (.bipush 11, 2) := by decide +kernel
theorem dX6_poor_36 : decode cX6_poor 36 = .ok (.iload 5, 2) := by decide +kernel
theorem dX6_poor_38 : decode cX6_poor 38 = .ok (.iadd, 1) := by decide +kernel
theorem dX6_poor_39 : decode cX6_poor 39 = .ok (.iaload, 1) := by decide +kernel
theorem dX6_poor_40 : decode cX6_poor 40 = .ok (.aload_n 0, 1) := by decide +kernel
theorem dX6_poor_41 : decode cX6_poor 41 = .ok (.getfield 7, 3) := by decide +kernel
theorem dX6_poor_44 : decode cX6_poor 44 = .ok (.bipush 35, 2) := by decide +kernel
theorem dX6_poor_46 : decode cX6_poor 46 = .ok (.iload 4, 2) := by decide +kernel
theorem dX6_poor_48 : decode cX6_poor 48 = .ok (.iadd, 1) := by decide +kernel
theorem dX6_poor_49 : decode cX6_poor 49 = .ok (.iaload, 1) := by decide +kernel
theorem dX6_poor_50 : decode cX6_poor 50 = .ok (.iadd, 1) := by decide +kernel
theorem dX6_poor_51 : decode cX6_poor 51 = .ok (.aload_n 0, 1) := by decide +kernel
theorem dX6_poor_52 : decode cX6_poor 52 = .ok (.getfield 7, 3) := by decide +kernel
theorem dX6_poor_55 : decode cX6_poor 55 = .ok (.bipush 38, 2) := by decide +kernel
theorem dX6_poor_57 : decode cX6_poor 57 = .ok (.iload 5, 2) := by decide +kernel
theorem dX6_poor_59 : decode cX6_poor 59 = .ok (.iadd, 1) := by decide +kernel
theorem dX6_poor_60 : decode cX6_poor 60 = .ok (.iaload, 1) := by decide +kernel
theorem dX6_poor_61 : decode cX6_poor 61 = .ok (.isub, 1) := by decide +kernel
theorem dX6_poor_62 : decode cX6_poor 62 = .ok (.istore 6, 2) := by decide +kernel
theorem dX6_poor_64 : decode cX6_poor 64 = .ok (.iload_n 3, 1) := by decide +kernel
theorem dX6_poor_65 : decode cX6_poor 65 = .ok (.ifCond .ne 28, 3) := by decide +kernel
theorem dX6_poor_68 : decode cX6_poor 68 = .ok (.iload 6, 2) := by decide +kernel
theorem dX6_poor_70 : decode cX6_poor 70 = .ok (.aload_n 0, 1) := by decide +kernel
theorem dX6_poor_71 : decode cX6_poor 71 = .ok (.getfield 7, 3) := by decide +kernel
theorem dX6_poor_74 : decode cX6_poor 74 = .ok (.bipush 7, 2) := by decide +kernel
theorem dX6_poor_76 : decode cX6_poor 76 = .ok (.iaload, 1) := by decide +kernel
theorem dX6_poor_77 : decode cX6_poor 77 = .ok (.if_icmp .gt 16, 3) := by decide +kernel
theorem dX6_poor_80 : decode cX6_poor 80 = .ok (.iload 6, 2) := by decide +kernel
theorem dX6_poor_82 : decode cX6_poor 82 = .ok (.aload_n 0, 1) := by decide +kernel
theorem dX6_poor_83 : decode cX6_poor 83 = .ok (.getfield 7, 3) := by decide +kernel
theorem dX6_poor_86 : decode cX6_poor 86 = .ok (.bipush 7, 2) := by decide +kernel
theorem dX6_poor_88 : decode cX6_poor 88 = .ok (.iaload, 1) := by decide +kernel
theorem dX6_poor_89 : decode cX6_poor 89 = .ok (.ineg, 1) := by decide +kernel
theorem dX6_poor_90 : decode cX6_poor 90 = .ok (.if_icmp .ge 7, 3) := by decide +kernel
theorem dX6_poor_93 : decode cX6_poor 93 = .ok (.iconst 1, 1) := by decide +kernel
theorem dX6_poor_94 : decode cX6_poor 94 = .ok (.goto 4, 3) := by decide +kernel
theorem dX6_poor_97 : decode cX6_poor 97 = .ok (.iconst 0, 1) := by decide +kernel
theorem dX6_poor_98 : decode cX6_poor 98 = .ok (.istore_n 3, 1) := by decide +kernel
theorem dX6_poor_99 : decode cX6_poor 99 = .ok (.iinc 4 1, 3) := by decide +kernel
theorem dX6_poor_102 : decode cX6_poor 102 = .ok (.goto (-87), 3) := by decide +kernel
theorem dX6_poor_105 : decode cX6_poor 105 = .ok (.iload_n 1, 1) := by decide +kernel
theorem dX6_poor_106 : decode cX6_poor 106 = .ok (.iload_n 3, 1) := by decide +kernel
theorem dX6_poor_107 : decode cX6_poor 107 = .ok (.ifCond .eq 7, 3) := by decide +kernel
theorem dX6_poor_110 : decode cX6_poor 110 = .ok (.iconst 1, 1) := by decide +kernel
theorem dX6_poor_111 : decode cX6_poor 111 = .ok (.goto 4, 3) := by decide +kernel
theorem dX6_poor_114 : decode cX6_poor 114 = .ok (.iconst 0, 1) := by decide +kernel
theorem dX6_poor_115 : decode cX6_poor 115 = .ok (.iadd, 1) := by decide +kernel
theorem dX6_poor_116 : decode cX6_poor 116 = .ok (.istore_n 1, 1) := by decide +kernel
theorem dX6_poor_117 : decode cX6_poor 117 = .ok (.iinc 2 1, 3) := by decide +kernel
theorem dX6_poor_120 : decode cX6_poor 120 = .ok (.goto (-116), 3) := by decide +kernel
theorem dX6_poor_123 : decode cX6_poor 123 = .ok (.iload_n 1, 1) := by decide +kernel
theorem dX6_poor_124 : decode cX6_poor 124 = .ok (.ireturn, 1) := by decide +kernel
theorem dX6_fitting_0 : decode cX6_fitting 0 = .ok (.aload_n 0, 1) := by decide +kernel
theorem dX6_fitting_1 : decode cX6_fitting 1 = .ok (.getfield 85, 3) := by decide +kernel
theorem dX6_fitting_4 : decode cX6_fitting 4 = .ok (.sipush 1020, 3) := by decide +kernel
theorem dX6_fitting_7 : decode cX6_fitting 7 = .ok (.idiv, 1) := by decide +kernel
theorem dX6_fitting_8 : decode cX6_fitting 8 = .ok (.aload_n 0, 1) := by decide +kernel
theorem dX6_fitting_9 : decode cX6_fitting 9 = .ok (.getfield 7, 3) := by decide +kernel
theorem dX6_fitting_12 : decode cX6_fitting 12 = .ok (.iconst 2, 1) := by decide +kernel
theorem dX6_fitting_13 : decode cX6_fitting 13 = .ok (.iaload, 1) := by decide +kernel
theorem dX6_fitting_14 : decode cX6_fitting 14 = .ok (.isub, 1) := by decide +kernel
theorem dX6_fitting_15 : decode cX6_fitting 15 = .ok (.iconst 4, 1) := by decide +kernel
theorem dX6_fitting_16 : decode cX6_fitting 16 = .ok (.invokestatic 28, 3) := by decide +kernel
theorem dX6_fitting_19 : decode cX6_fitting 19 = .ok (.istore_n 1, 1) := by decide +kernel
theorem dX6_fitting_20 : decode cX6_fitting 20 = .ok (.iload_n 1, 1) := by decide +kernel
theorem dX6_fitting_21 : decode cX6_fitting 21 = .ok (.iconst 2, 1) := by decide +kernel
theorem dX6_fitting_22 : decode cX6_fitting 22 = .ok (.if_icmp .ne 7, 3) := by decide +kernel
theorem dX6_fitting_25 : decode cX6_fitting 25 = .ok (.iconst (-1), 1) := by decide +kernel
theorem dX6_fitting_26 : decode cX6_fitting 26 = .ok (.goto 25, 3) := by decide +kernel
theorem dX6_fitting_29 : decode cX6_fitting 29 = .ok (.aload_n 0, 1) := by decide +kernel
theorem dX6_fitting_30 : decode cX6_fitting 30 = .ok (.getfield 7, 3) := by decide +kernel
theorem dX6_fitting_33 : decode cX6_fitting 33 = .ok (.iconst 2, 1) := by decide +kernel
theorem dX6_fitting_34 : decode cX6_fitting 34 = .ok (.iaload, 1) := by decide +kernel
theorem dX6_fitting_35 : decode cX6_fitting 35 = .ok (.iload_n 1, 1) := by decide +kernel
theorem dX6_fitting_36 : decode cX6_fitting 36 = .ok (.iconst 3, 1) := by decide +kernel
theorem dX6_fitting_37 : decode cX6_fitting 37 = .ok (.if_icmp .ne 7, 3) := by decide +kernel
theorem dX6_fitting_40 : decode cX6_fitting 40 = .ok (.iconst (-1), 1) := by decide +kernel
theorem dX6_fitting_41 : decode cX6_fitting 41 = .ok (.goto 4, 3) := by decide +kernel
theorem dX6_fitting_44 : decode cX6_fitting 44 = .ok (.iload_n 1, 1) := by decide +kernel
theorem dX6_fitting_45 : decode cX6_fitting 45 = .ok (.iadd, 1) := by decide +kernel
theorem dX6_fitting_46 : decode cX6_fitting 46 = .ok (.bipush 64, 2) := by decide +kernel
theorem dX6_fitting_48 : decode cX6_fitting 48 = .ok (.invokestatic 28, 3) := by decide +kernel
theorem dX6_fitting_51 : decode cX6_fitting 51 = .ok (.ireturn, 1) := by decide +kernel
theorem dX6_isCoarseApart_0 : decode cX6_isCoarseApart 0 = .ok (.aload_n 0, 1) := by decide +kernel
theorem dX6_isCoarseApart_1 : decode cX6_isCoarseApart 1 = .ok (.invokevirtual 59, 3) := by decide +kernel
theorem dX6_isCoarseApart_4 : decode cX6_isCoarseApart 4 = .ok (.aload_n 0, 1) := by decide +kernel
theorem dX6_isCoarseApart_5 : decode cX6_isCoarseApart 5 = .ok (.getfield 85, 3) := by decide +kernel
theorem dX6_isCoarseApart_8 : decode cX6_isCoarseApart 8 = .ok (.bipush 64, 2) := by decide +kernel
theorem dX6_isCoarseApart_10 : decode cX6_isCoarseApart 10 = .ok (.imul, 1) := by decide +kernel
theorem dX6_isCoarseApart_11 : decode cX6_isCoarseApart 11 = .ok (.sipush 4080, 3) := by decide +kernel
theorem dX6_isCoarseApart_14 : decode cX6_isCoarseApart 14 = .ok (.idiv, 1) := by decide +kernel
theorem dX6_isCoarseApart_15 : decode cX6_isCoarseApart 15 = .ok (.bipush 64, 2) := by decide +kernel
theorem dX6_isCoarseApart_17 : decode cX6_isCoarseApart 17 = .ok (.invokestatic 119, 3) := by decide +kernel
theorem dX6_isCoarseApart_20 : decode cX6_isCoarseApart 20 = .ok (.aload_n 0, 1) := by decide +kernel
theorem dX6_isCoarseApart_21 : decode cX6_isCoarseApart 21 = .ok (.getfield 7, 3) := by decide +kernel
theorem dX6_isCoarseApart_24 : decode cX6_isCoarseApart 24 = .ok (.bipush 8, 2) := by decide +kernel
theorem dX6_isCoarseApart_26 : decode cX6_isCoarseApart 26 = .ok (.iaload, 1) := by decide +kernel
theorem dX6_isCoarseApart_27 : decode cX6_isCoarseApart 27 = .ok (.if_icmp .le 7, 3) := by decide +kernel
theorem dX6_isCoarseApart_30 : decode cX6_isCoarseApart 30 = .ok (.iconst 1, 1) := by decide +kernel
theorem dX6_isCoarseApart_31 : decode cX6_isCoarseApart 31 = .ok (.goto 4, 3) := by decide +kernel
theorem dX6_isCoarseApart_34 : decode cX6_isCoarseApart 34 = .ok (.iconst 0, 1) := by decide +kernel
theorem dX6_isCoarseApart_35 : decode cX6_isCoarseApart 35 = .ok (.ireturn, 1) := by decide +kernel
theorem dX6_placeFound_0 : decode cX6_placeFound 0 = .ok (.aload_n 0, 1) := by decide +kernel
theorem dX6_placeFound_1 : decode cX6_placeFound 1 = .ok (.invokevirtual 123, 3) := by decide +kernel
theorem dX6_placeFound_4 : decode cX6_placeFound 4 = .ok (.iconst 4, 1) := by decide +kernel
theorem dX6_placeFound_5 : decode cX6_placeFound 5 = .ok (.idiv, 1) := by decide +kernel
theorem dX6_placeFound_6 : decode cX6_placeFound 6 = .ok (.sipush 4080, 3) := by decide +kernel
theorem dX6_placeFound_9 : decode cX6_placeFound 9 = .ok (.imul, 1) := by decide +kernel
theorem dX6_placeFound_10 : decode cX6_placeFound 10 = .ok (.aload_n 0, 1) := by decide +kernel
theorem dX6_placeFound_11 : decode cX6_placeFound 11 = .ok (.getfield 85, 3) := by decide +kernel
theorem dX6_placeFound_14 : decode cX6_placeFound 14 = .ok (.iadd, 1) := by decide +kernel
theorem dX6_placeFound_15 : decode cX6_placeFound 15 = .ok (.ireturn, 1) := by decide +kernel
theorem dX6_why_0 : decode cX6_why 0 = .ok (.aload_n 0, 1) := by decide +kernel
theorem dX6_why_1 : decode cX6_why 1 = .ok (.getfield 82, 3) := by decide +kernel
theorem dX6_why_4 : decode cX6_why 4 = .ok (.aload_n 0, 1) := by decide +kernel
theorem dX6_why_5 : decode cX6_why 5 = .ok (.getfield 7, 3) := by decide +kernel
theorem dX6_why_8 : decode cX6_why 8 = .ok (.bipush 7, 2) := by decide +kernel
theorem dX6_why_10 : decode cX6_why 10 = .ok (.iaload, 1) := by decide +kernel
theorem dX6_why_11 : decode cX6_why 11 = .ok (.if_icmp .le 5, 3) := by decide +kernel
theorem dX6_why_14 : decode cX6_why 14 = .ok (.iconst 1, 1) := by decide +kernel
theorem dX6_why_15 : decode cX6_why 15 = .ok (.ireturn, 1) := by decide +kernel
theorem dX6_why_16 : decode cX6_why 16 = .ok (.aload_n 0, 1) := by decide +kernel
theorem dX6_why_17 : decode cX6_why 17 = .ok (.invokevirtual 123, 3) := by decide +kernel
theorem dX6_why_20 : decode cX6_why 20 = .ok (.iconst (-1), 1) := by decide +kernel
theorem dX6_why_21 : decode cX6_why 21 = .ok (.if_icmp .ne 5, 3) := by decide +kernel
theorem dX6_why_24 : decode cX6_why 24 = .ok (.iconst 2, 1) := by decide +kernel
theorem dX6_why_25 : decode cX6_why 25 = .ok (.ireturn, 1) := by decide +kernel
theorem dX6_why_26 : decode cX6_why 26 = .ok (.aload_n 0, 1) := by decide +kernel
theorem dX6_why_27 : decode cX6_why 27 = .ok (.invokevirtual 126, 3) := by decide +kernel
theorem dX6_why_30 : decode cX6_why 30 = .ok (.ifCond .eq 16, 3) := by decide +kernel
theorem dX6_why_33 : decode cX6_why 33 = .ok (.aload_n 0, 1) := by decide +kernel
theorem dX6_why_34 : decode cX6_why 34 = .ok (.getfield 7, 3) := by decide +kernel
theorem dX6_why_37 : decode cX6_why 37 = .ok (.bipush 6, 2) := by decide +kernel
theorem dX6_why_39 : decode cX6_why 39 = .ok (.iaload, 1) := by decide +kernel
theorem dX6_why_40 : decode cX6_why 40 = .ok (.iconst 2, 1) := by decide +kernel
theorem dX6_why_41 : decode cX6_why 41 = .ok (.if_icmp .lt 5, 3) := by decide +kernel
theorem dX6_why_44 : decode cX6_why 44 = .ok (.iconst 3, 1) := by decide +kernel
theorem dX6_why_45 : decode cX6_why 45 = .ok (.ireturn, 1) := by decide +kernel
theorem dX6_why_46 : decode cX6_why 46 = .ok (.aload_n 0, 1) := by decide +kernel
theorem dX6_why_47 : decode cX6_why 47 = .ok (.getfield 7, 3) := by decide +kernel
theorem dX6_why_50 : decode cX6_why 50 = .ok (.iconst 5, 1) := by decide +kernel
theorem dX6_why_51 : decode cX6_why 51 = .ok (.iaload, 1) := by decide +kernel
theorem dX6_why_52 : decode cX6_why 52 = .ok (.iconst (-1), 1) := by decide +kernel
theorem dX6_why_53 : decode cX6_why 53 = .ok (.if_icmp .eq 32, 3) := by decide +kernel
theorem dX6_why_56 : decode cX6_why 56 = .ok (.aload_n 0, 1) := by decide +kernel
theorem dX6_why_57 : decode cX6_why 57 = .ok (.invokevirtual 130, 3) := by decide +kernel
theorem dX6_why_60 : decode cX6_why 60 = .ok (.aload_n 0, 1) := by decide +kernel
theorem dX6_why_61 : decode cX6_why 61 = .ok (.getfield 7, 3) := by decide +kernel
theorem dX6_why_64 : decode cX6_why 64 = .ok (.iconst 5, 1) := by decide +kernel
theorem dX6_why_65 : decode cX6_why 65 = .ok (.iaload, 1) := by decide +kernel
theorem dX6_why_66 : decode cX6_why 66 = .ok (.ldc 133, 2) := by decide +kernel
theorem dX6_why_68 : decode cX6_why 68 = .ok (.invokestatic 119, 3) := by decide +kernel
theorem dX6_why_71 : decode cX6_why 71 = .ok (.aload_n 0, 1) := by decide +kernel
theorem dX6_why_72 : decode cX6_why 72 = .ok (.getfield 7, 3) := by decide +kernel
theorem dX6_why_75 : decode cX6_why 75 = .ok (.bipush 9, 2) := by decide +kernel
theorem dX6_why_77 : decode cX6_why 77 = .ok (.iaload, 1) := by decide +kernel
theorem dX6_why_78 : decode cX6_why 78 = .ok (.if_icmp .le 7, 3) := by decide +kernel
theorem dX6_why_81 : decode cX6_why 81 = .ok (.iconst 4, 1) := by decide +kernel
theorem dX6_why_82 : decode cX6_why 82 = .ok (.goto 4, 3) := by decide +kernel
theorem dX6_why_85 : decode cX6_why 85 = .ok (.iconst 0, 1) := by decide +kernel
theorem dX6_why_86 : decode cX6_why 86 = .ok (.ireturn, 1) := by decide +kernel
theorem dX6_sample_0 : decode cX6_sample 0 = .ok (.aload_n 0, 1) := by decide +kernel
theorem dX6_sample_1 : decode cX6_sample 1 = .ok (.getfield 7, 3) := by decide +kernel
theorem dX6_sample_4 : decode cX6_sample 4 = .ok (.iconst 1, 1) := by decide +kernel
theorem dX6_sample_5 : decode cX6_sample 5 = .ok (.iaload, 1) := by decide +kernel
theorem dX6_sample_6 : decode cX6_sample 6 = .ok (.ifCond .ne 6, 3) := by decide +kernel
theorem dX6_sample_9 : decode cX6_sample 9 = .ok (.bipush (-2), 2) := by decide +kernel
theorem dX6_sample_11 : decode cX6_sample 11 = .ok (.ireturn, 1) := by decide +kernel
theorem dX6_sample_12 : decode cX6_sample 12 = .ok (.aload_n 0, 1) := by decide +kernel
theorem dX6_sample_13 : decode cX6_sample 13 = .ok (.invokevirtual 44, 3) := by decide +kernel
theorem dX6_sample_16 : decode cX6_sample 16 = .ok (.aload_n 0, 1) := by decide +kernel
theorem dX6_sample_17 : decode cX6_sample 17 = .ok (.aload_n 0, 1) := by decide +kernel
theorem dX6_sample_18 : decode cX6_sample 18 = .ok (.invokevirtual 55, 3) := by decide +kernel
theorem dX6_sample_21 : decode cX6_sample 21 = .ok (.invokevirtual 116, 3) := by decide +kernel
theorem dX6_sample_24 : decode cX6_sample 24 = .ok (.aload_n 0, 1) := by decide +kernel
theorem dX6_sample_25 : decode cX6_sample 25 = .ok (.invokevirtual 134, 3) := by decide +kernel
theorem dX6_sample_28 : decode cX6_sample 28 = .ok (.istore_n 1, 1) := by decide +kernel
theorem dX6_sample_29 : decode cX6_sample 29 = .ok (.iload_n 1, 1) := by decide +kernel
theorem dX6_sample_30 : decode cX6_sample 30 = .ok (.iconst 1, 1) := by decide +kernel
theorem dX6_sample_31 : decode cX6_sample 31 = .ok (.if_icmp .eq 8, 3) := by decide +kernel
theorem dX6_sample_34 : decode cX6_sample 34 = .ok (.iload_n 1, 1) := by decide +kernel
theorem dX6_sample_35 : decode cX6_sample 35 = .ok (.iconst 2, 1) := by decide +kernel
theorem dX6_sample_36 : decode cX6_sample 36 = .ok (.if_icmp .ne 7, 3) := by decide +kernel
theorem dX6_sample_39 : decode cX6_sample 39 = .ok (.iconst (-1), 1) := by decide +kernel
theorem dX6_sample_40 : decode cX6_sample 40 = .ok (.goto 7, 3) := by decide +kernel
theorem dX6_sample_43 : decode cX6_sample 43 = .ok (.aload_n 0, 1) := by decide +kernel
theorem dX6_sample_44 : decode cX6_sample 44 = .ok (.invokevirtual 130, 3) := by decide +kernel
theorem dX6_sample_47 : decode cX6_sample 47 = .ok (.istore_n 2, 1) := by decide +kernel
theorem dX6_sample_48 : decode cX6_sample 48 = .ok (.iload_n 2, 1) := by decide +kernel
theorem dX6_sample_49 : decode cX6_sample 49 = .ok (.iconst (-1), 1) := by decide +kernel
theorem dX6_sample_50 : decode cX6_sample 50 = .ok (.if_icmp .eq 40, 3) := by decide +kernel
theorem dX6_sample_53 : decode cX6_sample 53 = .ok (.aload_n 0, 1) := by decide +kernel
theorem dX6_sample_54 : decode cX6_sample 54 = .ok (.getfield 7, 3) := by decide +kernel
theorem dX6_sample_57 : decode cX6_sample 57 = .ok (.bipush 6, 2) := by decide +kernel
theorem dX6_sample_59 : decode cX6_sample 59 = .ok (.aload_n 0, 1) := by decide +kernel
theorem dX6_sample_60 : decode cX6_sample 60 = .ok (.invokevirtual 126, 3) := by decide +kernel
theorem dX6_sample_63 : decode cX6_sample 63 = .ok (.ifCond .eq 15, 3) := by decide +kernel
theorem dX6_sample_66 : decode cX6_sample 66 = .ok (.aload_n 0, 1) := by decide +kernel
theorem dX6_sample_67 : decode cX6_sample 67 = .ok (.getfield 7, 3) := by decide +kernel
theorem dX6_sample_70 : decode cX6_sample 70 = .ok (.bipush 6, 2) := by decide +kernel
theorem dX6_sample_72 : decode cX6_sample 72 = .ok (.iaload, 1) := by decide +kernel
theorem dX6_sample_73 : decode cX6_sample 73 = .ok (.iconst 1, 1) := by decide +kernel
theorem dX6_sample_74 : decode cX6_sample 74 = .ok (.iadd, 1) := by decide +kernel
theorem dX6_sample_75 : decode cX6_sample 75 = .ok (.goto 4, 3) := by decide +kernel
theorem dX6_sample_78 : decode cX6_sample 78 = .ok (.iconst 0, 1) := by decide +kernel
theorem dX6_sample_79 : decode cX6_sample 79 = .ok (.iastore, 1) := by decide +kernel
theorem dX6_sample_80 : decode cX6_sample 80 = .ok (.aload_n 0, 1) := by decide +kernel
theorem dX6_sample_81 : decode cX6_sample 81 = .ok (.getfield 7, 3) := by decide +kernel
theorem dX6_sample_84 : decode cX6_sample 84 = .ok (.iconst 2, 1) := by decide +kernel
theorem dX6_sample_85 : decode cX6_sample 85 = .ok (.aload_n 0, 1) := by decide +kernel
theorem dX6_sample_86 : decode cX6_sample 86 = .ok (.invokevirtual 123, 3) := by decide +kernel
theorem dX6_sample_89 : decode cX6_sample 89 = .ok (.iastore, 1) := by decide +kernel
theorem dX6_sample_90 : decode cX6_sample 90 = .ok (.aload_n 0, 1) := by decide +kernel
theorem dX6_sample_91 : decode cX6_sample 91 = .ok (.getfield 7, 3) := by decide +kernel
theorem dX6_sample_94 : decode cX6_sample 94 = .ok (.iconst 5, 1) := by decide +kernel
theorem dX6_sample_95 : decode cX6_sample 95 = .ok (.iload_n 1, 1) := by decide +kernel
theorem dX6_sample_96 : decode cX6_sample 96 = .ok (.ifCond .ne 7, 3) := by decide +kernel
theorem dX6_sample_99 : decode cX6_sample 99 = .ok (.iload_n 2, 1) := by decide +kernel
theorem dX6_sample_100 : decode cX6_sample 100 = .ok (.goto 9, 3) := by decide +kernel
theorem dX6_sample_103 : decode cX6_sample 103 = .ok (.aload_n 0, 1) := by decide +kernel
theorem dX6_sample_104 : decode cX6_sample 104 = .ok (.getfield 7, 3) := by decide +kernel
theorem dX6_sample_107 : decode cX6_sample 107 = .ok (.iconst 5, 1) := by decide +kernel
theorem dX6_sample_108 : decode cX6_sample 108 = .ok (.iaload, 1) := by decide +kernel
theorem dX6_sample_109 : decode cX6_sample 109 = .ok (.iastore, 1) := by decide +kernel
theorem dX6_sample_110 : decode cX6_sample 110 = .ok (.iload_n 1, 1) := by decide +kernel
theorem dX6_sample_111 : decode cX6_sample 111 = .ok (.ifCond .ne 7, 3) := by decide +kernel
theorem dX6_sample_114 : decode cX6_sample 114 = .ok (.iload_n 2, 1) := by decide +kernel
theorem dX6_sample_115 : decode cX6_sample 115 = .ok (.goto 7, 3) := by decide +kernel
theorem dX6_sample_118 : decode cX6_sample 118 = .ok (.ldc 137, 2) := by decide +kernel
theorem dX6_sample_120 : decode cX6_sample 120 = .ok (.iload_n 1, 1) := by decide +kernel
theorem dX6_sample_121 : decode cX6_sample 121 = .ok (.iadd, 1) := by decide +kernel
theorem dX6_sample_122 : decode cX6_sample 122 = .ok (.ireturn, 1) := by decide +kernel
theorem dX6_reason_0 : decode cX6_reason 0 = .ok (.aload_n 0, 1) := by decide +kernel
theorem dX6_reason_1 : decode cX6_reason 1 = .ok (.getfield 7, 3) := by decide +kernel
theorem dX6_reason_4 : decode cX6_reason 4 = .ok (.iconst 1, 1) := by decide +kernel
theorem dX6_reason_5 : decode cX6_reason 5 = .ok (.iaload, 1) := by decide +kernel
theorem dX6_reason_6 : decode cX6_reason 6 = .ok (.ifCond .ne 6, 3) := by decide +kernel
theorem dX6_reason_9 : decode cX6_reason 9 = .ok (.bipush (-2), 2) := by decide +kernel
theorem dX6_reason_11 : decode cX6_reason 11 = .ok (.ireturn, 1) := by decide +kernel
theorem dX6_reason_12 : decode cX6_reason 12 = .ok (.aload_n 0, 1) := by decide +kernel
theorem dX6_reason_13 : decode cX6_reason 13 = .ok (.aload_n 0, 1) := by decide +kernel
theorem dX6_reason_14 : decode cX6_reason 14 = .ok (.invokevirtual 55, 3) := by decide +kernel
theorem dX6_reason_17 : decode cX6_reason 17 = .ok (.invokevirtual 116, 3) := by decide +kernel
theorem dX6_reason_20 : decode cX6_reason 20 = .ok (.aload_n 0, 1) := by decide +kernel
theorem dX6_reason_21 : decode cX6_reason 21 = .ok (.invokevirtual 134, 3) := by decide +kernel
theorem dX6_reason_24 : decode cX6_reason 24 = .ok (.ireturn, 1) := by decide +kernel
theorem dX6_forget_0 : decode cX6_forget 0 = .ok (.aload_n 0, 1) := by decide +kernel
theorem dX6_forget_1 : decode cX6_forget 1 = .ok (.iconst 5, 1) := by decide +kernel
theorem dX6_forget_2 : decode cX6_forget 2 = .ok (.iconst (-1), 1) := by decide +kernel
theorem dX6_forget_3 : decode cX6_forget 3 = .ok (.invokevirtual 52, 3) := by decide +kernel
theorem dX6_forget_6 : decode cX6_forget 6 = .ok (.istore_n 1, 1) := by decide +kernel
theorem dX6_forget_7 : decode cX6_forget 7 = .ok (.aload_n 0, 1) := by decide +kernel
theorem dX6_forget_8 : decode cX6_forget 8 = .ok (.getfield 7, 3) := by decide +kernel
theorem dX6_forget_11 : decode cX6_forget 11 = .ok (.bipush 6, 2) := by decide +kernel
theorem dX6_forget_13 : decode cX6_forget 13 = .ok (.iconst 0, 1) := by decide +kernel
theorem dX6_forget_14 : decode cX6_forget 14 = .ok (.iastore, 1) := by decide +kernel
theorem dX6_forget_15 : decode cX6_forget 15 = .ok (.iload_n 1, 1) := by decide +kernel
theorem dX6_forget_16 : decode cX6_forget 16 = .ok (.iconst (-1), 1) := by decide +kernel
theorem dX6_forget_17 : decode cX6_forget 17 = .ok (.if_icmp .ne 7, 3) := by decide +kernel
theorem dX6_forget_20 : decode cX6_forget 20 = .ok (.iconst 0, 1) := by decide +kernel
theorem dX6_forget_21 : decode cX6_forget 21 = .ok (.goto 4, 3) := by decide +kernel
theorem dX6_forget_24 : decode cX6_forget 24 = .ok (.iconst 1, 1) := by decide +kernel
theorem dX6_forget_25 : decode cX6_forget 25 = .ok (.ireturn, 1) := by decide +kernel
theorem dX6_apart_0 : decode cX6_apart 0 = .ok (.aload_n 0, 1) := by decide +kernel
theorem dX6_apart_1 : decode cX6_apart 1 = .ok (.getfield 7, 3) := by decide +kernel
theorem dX6_apart_4 : decode cX6_apart 4 = .ok (.iconst 5, 1) := by decide +kernel
theorem dX6_apart_5 : decode cX6_apart 5 = .ok (.iaload, 1) := by decide +kernel
theorem dX6_apart_6 : decode cX6_apart 6 = .ok (.iconst (-1), 1) := by decide +kernel
theorem dX6_apart_7 : decode cX6_apart 7 = .ok (.if_icmp .ne 8, 3) := by decide +kernel
theorem dX6_apart_10 : decode cX6_apart 10 = .ok (.bipush (-4), 2) := by decide +kernel
theorem dX6_apart_12 : decode cX6_apart 12 = .ok (.goto 20, 3) := by decide +kernel
theorem dX6_apart_15 : decode cX6_apart 15 = .ok (.aload_n 0, 1) := by decide +kernel
theorem dX6_apart_16 : decode cX6_apart 16 = .ok (.getfield 7, 3) := by decide +kernel
theorem dX6_apart_19 : decode cX6_apart 19 = .ok (.iconst 5, 1) := by decide +kernel
theorem dX6_apart_20 : decode cX6_apart 20 = .ok (.iaload, 1) := by decide +kernel
theorem dX6_apart_21 : decode cX6_apart 21 = .ok (.aload_n 0, 1) := by decide +kernel
theorem dX6_apart_22 : decode cX6_apart 22 = .ok (.getfield 7, 3) := by decide +kernel
theorem dX6_apart_25 : decode cX6_apart 25 = .ok (.iconst 0, 1) := by decide +kernel
theorem dX6_apart_26 : decode cX6_apart 26 = .ok (.iaload, 1) := by decide +kernel
theorem dX6_apart_27 : decode cX6_apart 27 = .ok (.ldc 133, 2) := by decide +kernel
theorem dX6_apart_29 : decode cX6_apart 29 = .ok (.invokestatic 119, 3) := by decide +kernel
theorem dX6_apart_32 : decode cX6_apart 32 = .ok (.ireturn, 1) := by decide +kernel
theorem dX6_type_0 : decode cX6_type 0 = .ok (.iload_n 1, 1) := by decide +kernel
theorem dX6_type_1 : decode cX6_type 1 = .ok (.bipush 32, 2) := by decide +kernel
theorem dX6_type_3 : decode cX6_type 3 = .ok (.bipush 126, 2) := by decide +kernel
theorem dX6_type_5 : decode cX6_type 5 = .ok (.invokestatic 32, 3) := by decide +kernel
theorem dX6_type_8 : decode cX6_type 8 = .ok (.ifCond .ne 5, 3) := by decide +kernel
theorem dX6_type_11 : decode cX6_type 11 = .ok (.iconst (-1), 1) := by decide +kernel
theorem dX6_type_12 : decode cX6_type 12 = .ok (.ireturn, 1) := by decide +kernel
theorem dX6_type_13 : decode cX6_type 13 = .ok (.aload_n 0, 1) := by decide +kernel
theorem dX6_type_14 : decode cX6_type 14 = .ok (.getfield 65, 3) := by decide +kernel
theorem dX6_type_17 : decode cX6_type 17 = .ok (.bipush 60, 2) := by decide +kernel
theorem dX6_type_19 : decode cX6_type 19 = .ok (.if_icmp .ne 6, 3) := by decide +kernel
theorem dX6_type_22 : decode cX6_type 22 = .ok (.bipush (-3), 2) := by decide +kernel
theorem dX6_type_24 : decode cX6_type 24 = .ok (.ireturn, 1) := by decide +kernel
theorem dX6_type_25 : decode cX6_type 25 = .ok (.aload_n 0, 1) := by decide +kernel
theorem dX6_type_26 : decode cX6_type 26 = .ok (.getfield 16, 3) := by decide +kernel
theorem dX6_type_29 : decode cX6_type 29 = .ok (.aload_n 0, 1) := by decide +kernel
theorem dX6_type_30 : decode cX6_type 30 = .ok (.getfield 65, 3) := by decide +kernel
theorem dX6_type_33 : decode cX6_type 33 = .ok (.iload_n 1, 1) := by decide +kernel
theorem dX6_type_34 : decode cX6_type 34 = .ok (.iastore, 1) := by decide +kernel
theorem dX6_type_35 : decode cX6_type 35 = .ok (.aload_n 0, 1) := by decide +kernel
theorem dX6_type_36 : decode cX6_type 36 = .ok (.dup, 1) := by decide +kernel
theorem dX6_type_37 : decode cX6_type 37 = .ok (.getfield 65, 3) := by decide +kernel
theorem dX6_type_40 : decode cX6_type 40 = .ok (.iconst 1, 1) := by decide +kernel
theorem dX6_type_41 : decode cX6_type 41 = .ok (.iadd, 1) := by decide +kernel
theorem dX6_type_42 : decode cX6_type 42 = .ok (.putfield 65, 3) := by decide +kernel
theorem dX6_type_45 : decode cX6_type 45 = .ok (.aload_n 0, 1) := by decide +kernel
theorem dX6_type_46 : decode cX6_type 46 = .ok (.getfield 65, 3) := by decide +kernel
theorem dX6_type_49 : decode cX6_type 49 = .ok (.ireturn, 1) := by decide +kernel
theorem dX6_clearText_0 : decode cX6_clearText 0 = .ok (.aload_n 0, 1) := by decide +kernel
theorem dX6_clearText_1 : decode cX6_clearText 1 = .ok (.getfield 65, 3) := by decide +kernel
theorem dX6_clearText_4 : decode cX6_clearText 4 = .ok (.istore_n 1, 1) := by decide +kernel
theorem dX6_clearText_5 : decode cX6_clearText 5 = .ok (.aload_n 0, 1) := by decide +kernel
theorem dX6_clearText_6 : decode cX6_clearText 6 = .ok (.iconst 0, 1) := by decide +kernel
theorem dX6_clearText_7 : decode cX6_clearText 7 = .ok (.putfield 65, 3) := by decide +kernel
theorem dX6_clearText_10 : decode cX6_clearText 10 = .ok (.iload_n 1, 1) := by decide +kernel
theorem dX6_clearText_11 : decode cX6_clearText 11 = .ok (.ireturn, 1) := by decide +kernel
theorem dX6_letterAt_0 : decode cX6_letterAt 0 = .ok (.iload_n 1, 1) := by decide +kernel
theorem dX6_letterAt_1 : decode cX6_letterAt 1 = .ok (.aload_n 0, 1) := by decide +kernel
theorem dX6_letterAt_2 : decode cX6_letterAt 2 = .ok (.getfield 65, 3) := by decide +kernel
theorem dX6_letterAt_5 : decode cX6_letterAt 5 = .ok (.if_icmp .ge 12, 3) := by decide +kernel
theorem dX6_letterAt_8 : decode cX6_letterAt 8 = .ok (.aload_n 0, 1) := by decide +kernel
theorem dX6_letterAt_9 : decode cX6_letterAt 9 = .ok (.getfield 16, 3) := by decide +kernel
theorem dX6_letterAt_12 : decode cX6_letterAt 12 = .ok (.iload_n 1, 1) := by decide +kernel
theorem dX6_letterAt_13 : decode cX6_letterAt 13 = .ok (.iaload, 1) := by decide +kernel
theorem dX6_letterAt_14 : decode cX6_letterAt 14 = .ok (.goto 4, 3) := by decide +kernel
theorem dX6_letterAt_17 : decode cX6_letterAt 17 = .ok (.iconst 0, 1) := by decide +kernel
theorem dX6_letterAt_18 : decode cX6_letterAt 18 = .ok (.ireturn, 1) := by decide +kernel
theorem dX6_isDigit_0 : decode cX6_isDigit 0 = .ok (.aload_n 0, 1) := by decide +kernel
theorem dX6_isDigit_1 : decode cX6_isDigit 1 = .ok (.iload_n 1, 1) := by decide +kernel
theorem dX6_isDigit_2 : decode cX6_isDigit 2 = .ok (.invokevirtual 138, 3) := by decide +kernel
theorem dX6_isDigit_5 : decode cX6_isDigit 5 = .ok (.bipush 48, 2) := by decide +kernel
theorem dX6_isDigit_7 : decode cX6_isDigit 7 = .ok (.bipush 57, 2) := by decide +kernel
theorem dX6_isDigit_9 : decode cX6_isDigit 9 = .ok (.invokestatic 32, 3) := by decide +kernel
theorem dX6_isDigit_12 : decode cX6_isDigit 12 = .ok (.ireturn, 1) := by decide +kernel
theorem dX6_entry_0 : decode cX6_entry 0 = .ok (.aload_n 0, 1) := by decide +kernel
theorem dX6_entry_1 : decode cX6_entry 1 = .ok (.aload_n 0, 1) := by decide +kernel
theorem dX6_entry_2 : decode cX6_entry 2 = .ok (.getfield 141, 3) := by decide +kernel
theorem dX6_entry_5 : decode cX6_entry 5 = .ok (.iconst 2, 1) := by decide +kernel
theorem dX6_entry_6 : decode cX6_entry 6 = .ok (.iadd, 1) := by decide +kernel
theorem dX6_entry_7 : decode cX6_entry 7 = .ok (.invokevirtual 138, 3) := by decide +kernel
theorem dX6_entry_10 : decode cX6_entry 10 = .ok (.bipush 43, 2) := by decide +kernel
theorem dX6_entry_12 : decode cX6_entry 12 = .ok (.if_icmp .eq 18, 3) := by decide +kernel
theorem dX6_entry_15 : decode cX6_entry 15 = .ok (.aload_n 0, 1) := by decide +kernel
theorem dX6_entry_16 : decode cX6_entry 16 = .ok (.aload_n 0, 1) := by decide +kernel
theorem dX6_entry_17 : decode cX6_entry 17 = .ok (.getfield 141, 3) := by decide +kernel
theorem dX6_entry_20 : decode cX6_entry 20 = .ok (.iconst 2, 1) := by decide +kernel
theorem dX6_entry_21 : decode cX6_entry 21 = .ok (.iadd, 1) := by decide +kernel
theorem dX6_entry_22 : decode cX6_entry 22 = .ok (.invokevirtual 138, 3) := by decide +kernel
theorem dX6_entry_25 : decode cX6_entry 25 = .ok (.bipush 45, 2) := by decide +kernel
theorem dX6_entry_27 : decode cX6_entry 27 = .ok (.if_icmp .ne 7, 3) := by decide +kernel
theorem dX6_entry_30 : decode cX6_entry 30 = .ok (.iconst 1, 1) := by decide +kernel
theorem dX6_entry_31 : decode cX6_entry 31 = .ok (.goto 4, 3) := by decide +kernel
theorem dX6_entry_34 : decode cX6_entry 34 = .ok (.iconst 0, 1) := by decide +kernel
theorem dX6_entry_35 : decode cX6_entry 35 = .ok (.istore_n 1, 1) := by decide +kernel
theorem dX6_entry_36 : decode cX6_entry 36 = .ok (.aload_n 0, 1) := by decide +kernel
theorem dX6_entry_37 : decode cX6_entry 37 = .ok (.aload_n 0, 1) := by decide +kernel
theorem dX6_entry_38 : decode cX6_entry 38 = .ok (.getfield 141, 3) := by decide +kernel
theorem dX6_entry_41 : decode cX6_entry 41 = .ok (.iconst 4, 1) := by decide +kernel
theorem dX6_entry_42 : decode cX6_entry 42 = .ok (.iadd, 1) := by decide +kernel
theorem dX6_entry_43 : decode cX6_entry 43 = .ok (.invokevirtual 144, 3) := by decide +kernel
theorem dX6_entry_46 : decode cX6_entry 46 = .ok (.ifCond .eq 12, 3) := by decide +kernel
theorem dX6_entry_49 : decode cX6_entry 49 = .ok (.aload_n 0, 1) := by decide +kernel
theorem dX6_entry_50 : decode cX6_entry 50 = .ok (.getfield 141, 3) := by decide +kernel
theorem dX6_entry_53 : decode cX6_entry 53 = .ok (.iconst 5, 1) := by decide +kernel
theorem dX6_entry_54 : decode cX6_entry 54 = .ok (.iadd, 1) := by decide +kernel
theorem dX6_entry_55 : decode cX6_entry 55 = .ok (.goto 9, 3) := by decide +kernel
theorem dX6_entry_58 : decode cX6_entry 58 = .ok (.aload_n 0, 1) := by decide +kernel
theorem dX6_entry_59 : decode cX6_entry 59 = .ok (.getfield 141, 3) := by decide +kernel
theorem dX6_entry_62 : decode cX6_entry 62 = .ok (.iconst 4, 1) := by decide +kernel
theorem dX6_entry_63 : decode cX6_entry 63 = .ok (.iadd, 1) := by decide +kernel
theorem dX6_entry_64 : decode cX6_entry 64 = .ok (.istore_n 2, 1) := by decide +kernel
theorem dX6_entry_65 : decode cX6_entry 65 = .ok (.aload_n 0, 1) := by decide +kernel
theorem dX6_entry_66 : decode cX6_entry 66 = .ok (.aload_n 0, 1) := by decide +kernel
theorem dX6_entry_67 : decode cX6_entry 67 = .ok (.getfield 141, 3) := by decide +kernel
theorem dX6_entry_70 : decode cX6_entry 70 = .ok (.invokevirtual 144, 3) := by decide +kernel
theorem dX6_entry_73 : decode cX6_entry 73 = .ok (.ifCond .eq 43, 3) := by decide +kernel
theorem dX6_entry_76 : decode cX6_entry 76 = .ok (.aload_n 0, 1) := by decide +kernel
theorem dX6_entry_77 : decode cX6_entry 77 = .ok (.aload_n 0, 1) := by decide +kernel
theorem dX6_entry_78 : decode cX6_entry 78 = .ok (.getfield 141, 3) := by decide +kernel
theorem dX6_entry_81 : decode cX6_entry 81 = .ok (.iconst 1, 1) := by decide +kernel
theorem dX6_entry_82 : decode cX6_entry 82 = .ok (.iadd, 1) := by decide +kernel
theorem dX6_entry_83 : decode cX6_entry 83 = .ok (.invokevirtual 144, 3) := by decide +kernel
theorem dX6_entry_86 : decode cX6_entry 86 = .ok (.ifCond .eq 30, 3) := by decide +kernel
theorem dX6_entry_89 : decode cX6_entry 89 = .ok (.iload_n 1, 1) := by decide +kernel
theorem dX6_entry_90 : decode cX6_entry 90 = .ok (.ifCond .eq 26, 3) := by decide +kernel
theorem dX6_entry_93 : decode cX6_entry 93 = .ok (.aload_n 0, 1) := by decide +kernel
theorem dX6_entry_94 : decode cX6_entry 94 = .ok (.aload_n 0, 1) := by decide +kernel
theorem dX6_entry_95 : decode cX6_entry 95 = .ok (.getfield 141, 3) := by decide +kernel
theorem dX6_entry_98 : decode cX6_entry 98 = .ok (.iconst 3, 1) := by decide +kernel
theorem dX6_entry_99 : decode cX6_entry 99 = .ok (.iadd, 1) := by decide +kernel
theorem dX6_entry_100 : decode cX6_entry 100 = .ok (.invokevirtual 144, 3) := by decide +kernel
theorem dX6_entry_103 : decode cX6_entry 103 = .ok (.ifCond .eq 13, 3) := by decide +kernel
theorem dX6_entry_106 : decode cX6_entry 106 = .ok (.aload_n 0, 1) := by decide +kernel
theorem dX6_entry_107 : decode cX6_entry 107 = .ok (.iload_n 2, 1) := by decide +kernel
theorem dX6_entry_108 : decode cX6_entry 108 = .ok (.invokevirtual 138, 3) := by decide +kernel
theorem dX6_entry_111 : decode cX6_entry 111 = .ok (.bipush 59, 2) := by decide +kernel
theorem dX6_entry_113 : decode cX6_entry 113 = .ok (.if_icmp .eq 5, 3) := by decide +kernel
theorem dX6_entry_116 : decode cX6_entry 116 = .ok (.iconst 1, 1) := by decide +kernel
theorem dX6_entry_117 : decode cX6_entry 117 = .ok (.ireturn, 1) := by decide +kernel
theorem dX6_entry_118 : decode cX6_entry 118 = .ok (.aload_n 0, 1) := by decide +kernel
theorem dX6_entry_119 : decode cX6_entry 119 = .ok (.aload_n 0, 1) := by decide +kernel
theorem dX6_entry_120 : decode cX6_entry 120 = .ok (.aload_n 0, 1) := by decide +kernel
theorem dX6_entry_121 : decode cX6_entry 121 = .ok (.getfield 141, 3) := by decide +kernel
theorem dX6_entry_124 : decode cX6_entry 124 = .ok (.invokevirtual 138, 3) := by decide +kernel
theorem dX6_entry_127 : decode cX6_entry 127 = .ok (.bipush 48, 2) := by decide +kernel
theorem dX6_entry_129 : decode cX6_entry 129 = .ok (.isub, 1) := by decide +kernel
theorem dX6_entry_130 : decode cX6_entry 130 = .ok (.putfield 147, 3) := by decide +kernel
theorem dX6_entry_133 : decode cX6_entry 133 = .ok (.aload_n 0, 1) := by decide +kernel
theorem dX6_entry_134 : decode cX6_entry 134 = .ok (.aload_n 0, 1) := by decide +kernel
theorem dX6_entry_135 : decode cX6_entry 135 = .ok (.aload_n 0, 1) := by decide +kernel
theorem dX6_entry_136 : decode cX6_entry 136 = .ok (.getfield 141, 3) := by decide +kernel
theorem dX6_entry_139 : decode cX6_entry 139 = .ok (.iconst 1, 1) := by decide +kernel
theorem dX6_entry_140 : decode cX6_entry 140 = .ok (.iadd, 1) := by decide +kernel
theorem dX6_entry_141 : decode cX6_entry 141 = .ok (.invokevirtual 138, 3) := by decide +kernel
theorem dX6_entry_144 : decode cX6_entry 144 = .ok (.bipush 48, 2) := by decide +kernel
theorem dX6_entry_146 : decode cX6_entry 146 = .ok (.isub, 1) := by decide +kernel
theorem dX6_entry_147 : decode cX6_entry 147 = .ok (.putfield 150, 3) := by decide +kernel
theorem dX6_entry_150 : decode cX6_entry 150 = .ok (.aload_n 0, 1) := by decide +kernel
theorem dX6_entry_151 : decode cX6_entry 151 = .ok (.aload_n 0, 1) := by decide +kernel
theorem dX6_entry_152 : decode cX6_entry 152 = .ok (.aload_n 0, 1) := by decide +kernel
theorem dX6_entry_153 : decode cX6_entry 153 = .ok (.getfield 141, 3) := by decide +kernel
theorem dX6_entry_156 : decode cX6_entry 156 = .ok (.iconst 3, 1) := by decide +kernel
theorem dX6_entry_157 : decode cX6_entry 157 = .ok (.iadd, 1) := by decide +kernel
theorem dX6_entry_158 : decode cX6_entry 158 = .ok (.invokevirtual 138, 3) := by decide +kernel
theorem dX6_entry_161 : decode cX6_entry 161 = .ok (.bipush 48, 2) := by decide +kernel
theorem dX6_entry_163 : decode cX6_entry 163 = .ok (.isub, 1) := by decide +kernel
theorem dX6_entry_164 : decode cX6_entry 164 = .ok (.putfield 153, 3) := by decide +kernel
theorem dX6_entry_167 : decode cX6_entry 167 = .ok (.aload_n 0, 1) := by decide +kernel
theorem dX6_entry_168 : decode cX6_entry 168 = .ok (.iload_n 2, 1) := by decide +kernel
theorem dX6_entry_169 : decode cX6_entry 169 = .ok (.aload_n 0, 1) := by decide +kernel
theorem dX6_entry_170 : decode cX6_entry 170 = .ok (.getfield 141, 3) := by decide +kernel
theorem dX6_entry_173 : decode cX6_entry 173 = .ok (.iconst 5, 1) := by decide +kernel
theorem dX6_entry_174 : decode cX6_entry 174 = .ok (.iadd, 1) := by decide +kernel
theorem dX6_entry_175 : decode cX6_entry 175 = .ok (.if_icmp .ne 27, 3) := by decide +kernel
theorem dX6_entry_178 : decode cX6_entry 178 = .ok (.bipush 10, 2) := by decide +kernel
theorem dX6_entry_180 : decode cX6_entry 180 = .ok (.aload_n 0, 1) := by decide +kernel
theorem dX6_entry_181 : decode cX6_entry 181 = .ok (.getfield 153, 3) := by decide +kernel
theorem dX6_entry_184 : decode cX6_entry 184 = .ok (.imul, 1) := by decide +kernel
theorem dX6_entry_185 : decode cX6_entry 185 = .ok (.aload_n 0, 1) := by decide +kernel
theorem dX6_entry_186 : decode cX6_entry 186 = .ok (.aload_n 0, 1) := by decide +kernel
theorem dX6_entry_187 : decode cX6_entry 187 = .ok (.getfield 141, 3) := by decide +kernel
theorem dX6_entry_190 : decode cX6_entry 190 = .ok (.iconst 4, 1) := by decide +kernel
theorem dX6_entry_191 : decode cX6_entry 191 = .ok (.iadd, 1) := by decide +kernel
theorem dX6_entry_192 : decode cX6_entry 192 = .ok (.invokevirtual 138, 3) := by decide +kernel
theorem dX6_entry_195 : decode cX6_entry 195 = .ok (.iadd, 1) := by decide +kernel
theorem dX6_entry_196 : decode cX6_entry 196 = .ok (.bipush 48, 2) := by decide +kernel
theorem dX6_entry_198 : decode cX6_entry 198 = .ok (.isub, 1) := by decide +kernel
theorem dX6_entry_199 : decode cX6_entry 199 = .ok (.goto 7, 3) := by decide +kernel
theorem dX6_entry_202 : decode cX6_entry 202 = .ok (.aload_n 0, 1) := by decide +kernel
theorem dX6_entry_203 : decode cX6_entry 203 = .ok (.getfield 153, 3) := by decide +kernel
theorem dX6_entry_206 : decode cX6_entry 206 = .ok (.putfield 153, 3) := by decide +kernel
theorem dX6_entry_209 : decode cX6_entry 209 = .ok (.aload_n 0, 1) := by decide +kernel
theorem dX6_entry_210 : decode cX6_entry 210 = .ok (.iload_n 2, 1) := by decide +kernel
theorem dX6_entry_211 : decode cX6_entry 211 = .ok (.iconst 1, 1) := by decide +kernel
theorem dX6_entry_212 : decode cX6_entry 212 = .ok (.iadd, 1) := by decide +kernel
theorem dX6_entry_213 : decode cX6_entry 213 = .ok (.putfield 156, 3) := by decide +kernel
theorem dX6_entry_216 : decode cX6_entry 216 = .ok (.aload_n 0, 1) := by decide +kernel
theorem dX6_entry_217 : decode cX6_entry 217 = .ok (.getfield 147, 3) := by decide +kernel
theorem dX6_entry_220 : decode cX6_entry 220 = .ok (.iconst 2, 1) := by decide +kernel
theorem dX6_entry_221 : decode cX6_entry 221 = .ok (.if_icmp .le 7, 3) := by decide +kernel
theorem dX6_entry_224 : decode cX6_entry 224 = .ok (.iconst 2, 1) := by decide +kernel
theorem dX6_entry_225 : decode cX6_entry 225 = .ok (.goto 55, 3) := by decide +kernel
theorem dX6_entry_228 : decode cX6_entry 228 = .ok (.aload_n 0, 1) := by decide +kernel
theorem dX6_entry_229 : decode cX6_entry 229 = .ok (.getfield 150, 3) := by decide +kernel
theorem dX6_entry_232 : decode cX6_entry 232 = .ok (.bipush 7, 2) := by decide +kernel
theorem dX6_entry_234 : decode cX6_entry 234 = .ok (.if_icmp .le 7, 3) := by decide +kernel
theorem dX6_entry_237 : decode cX6_entry 237 = .ok (.iconst 3, 1) := by decide +kernel
theorem dX6_entry_238 : decode cX6_entry 238 = .ok (.goto 42, 3) := by decide +kernel
theorem dX6_entry_241 : decode cX6_entry 241 = .ok (.aload_n 0, 1) := by decide +kernel
theorem dX6_entry_242 : decode cX6_entry 242 = .ok (.getfield 153, 3) := by decide +kernel
theorem dX6_entry_245 : decode cX6_entry 245 = .ok (.bipush 20, 2) := by decide +kernel
theorem dX6_entry_247 : decode cX6_entry 247 = .ok (.if_icmp .le 7, 3) := by decide +kernel
theorem dX6_entry_250 : decode cX6_entry 250 = .ok (.iconst 4, 1) := by decide +kernel
theorem dX6_entry_251 : decode cX6_entry 251 = .ok (.goto 29, 3) := by decide +kernel
theorem dX6_entry_254 : decode cX6_entry 254 = .ok (.aload_n 0, 1) := by decide +kernel
theorem dX6_entry_255 : decode cX6_entry 255 = .ok (.getfield 22, 3) := by decide +kernel
theorem dX6_entry_258 : decode cX6_entry 258 = .ok (.bipush 10, 2) := by decide +kernel
theorem dX6_entry_260 : decode cX6_entry 260 = .ok (.aload_n 0, 1) := by decide +kernel
theorem dX6_entry_261 : decode cX6_entry 261 = .ok (.getfield 147, 3) := by decide +kernel
theorem dX6_entry_264 : decode cX6_entry 264 = .ok (.imul, 1) := by decide +kernel
theorem dX6_entry_265 : decode cX6_entry 265 = .ok (.aload_n 0, 1) := by decide +kernel
theorem dX6_entry_266 : decode cX6_entry 266 = .ok (.getfield 150, 3) := by decide +kernel
theorem dX6_entry_269 : decode cX6_entry 269 = .ok (.iadd, 1) := by decide +kernel
theorem dX6_entry_270 : decode cX6_entry 270 = .ok (.iaload, 1) := by decide +kernel
theorem dX6_entry_271 : decode cX6_entry 271 = .ok (.iconst 1, 1) := by decide +kernel
theorem dX6_entry_272 : decode cX6_entry 272 = .ok (.if_icmp .ne 7, 3) := by decide +kernel
theorem dX6_entry_275 : decode cX6_entry 275 = .ok (.iconst 5, 1) := by decide +kernel
theorem dX6_entry_276 : decode cX6_entry 276 = .ok (.goto 4, 3) := by decide +kernel
theorem dX6_entry_279 : decode cX6_entry 279 = .ok (.iconst 0, 1) := by decide +kernel
theorem dX6_entry_280 : decode cX6_entry 280 = .ok (.ireturn, 1) := by decide +kernel
theorem dX6_reads_0 : decode cX6_reads 0 = .ok (.iconst 0, 1) := by decide +kernel
theorem dX6_reads_1 : decode cX6_reads 1 = .ok (.istore_n 1, 1) := by decide +kernel
theorem dX6_reads_2 : decode cX6_reads 2 = .ok (.iload_n 1, 1) := by decide +kernel
theorem dX6_reads_3 : decode cX6_reads 3 = .ok (.bipush 30, 2) := by decide +kernel
theorem dX6_reads_5 : decode cX6_reads 5 = .ok (.if_icmp .ge 23, 3) := by decide +kernel
theorem dX6_reads_8 : decode cX6_reads 8 = .ok (.aload_n 0, 1) := by decide +kernel
theorem dX6_reads_9 : decode cX6_reads 9 = .ok (.getfield 22, 3) := by decide +kernel
theorem dX6_reads_12 : decode cX6_reads 12 = .ok (.iload_n 1, 1) := by decide +kernel
theorem dX6_reads_13 : decode cX6_reads 13 = .ok (.iconst 0, 1) := by decide +kernel
theorem dX6_reads_14 : decode cX6_reads 14 = .ok (.iastore, 1) := by decide +kernel
theorem dX6_reads_15 : decode cX6_reads 15 = .ok (.aload_n 0, 1) := by decide +kernel
theorem dX6_reads_16 : decode cX6_reads 16 = .ok (.getfield 25, 3) := by decide +kernel
theorem dX6_reads_19 : decode cX6_reads 19 = .ok (.iload_n 1, 1) := by decide +kernel
theorem dX6_reads_20 : decode cX6_reads 20 = .ok (.iconst 0, 1) := by decide +kernel
theorem dX6_reads_21 : decode cX6_reads 21 = .ok (.iastore, 1) := by decide +kernel
theorem dX6_reads_22 : decode cX6_reads 22 = .ok (.iinc 1 1, 3) := by decide +kernel
theorem dX6_reads_25 : decode cX6_reads 25 = .ok (.goto (-23), 3) := by decide +kernel
theorem dX6_reads_28 : decode cX6_reads 28 = .ok (.aload_n 0, 1) := by decide +kernel
theorem dX6_reads_29 : decode cX6_reads 29 = .ok (.iconst 0, 1) := by decide +kernel
theorem dX6_reads_30 : decode cX6_reads 30 = .ok (.putfield 141, 3) := by decide +kernel
theorem dX6_reads_33 : decode cX6_reads 33 = .ok (.aload_n 0, 1) := by decide +kernel
theorem dX6_reads_34 : decode cX6_reads 34 = .ok (.iconst 0, 1) := by decide +kernel
theorem dX6_reads_35 : decode cX6_reads 35 = .ok (.putfield 159, 3) := by decide +kernel
theorem dX6_reads_38 : decode cX6_reads 38 = .ok (.aload_n 0, 1) := by decide +kernel
theorem dX6_reads_39 : decode cX6_reads 39 = .ok (.getfield 141, 3) := by decide +kernel
theorem dX6_reads_42 : decode cX6_reads 42 = .ok (.aload_n 0, 1) := by decide +kernel
theorem dX6_reads_43 : decode cX6_reads 43 = .ok (.getfield 65, 3) := by decide +kernel
theorem dX6_reads_46 : decode cX6_reads 46 = .ok (.if_icmp .ge 97, 3) := by decide +kernel
theorem dX6_reads_49 : decode cX6_reads 49 = .ok (.aload_n 0, 1) := by decide +kernel
theorem dX6_reads_50 : decode cX6_reads 50 = .ok (.invokevirtual 162, 3) := by decide +kernel
theorem dX6_reads_53 : decode cX6_reads 53 = .ok (.istore_n 1, 1) := by decide +kernel
theorem dX6_reads_54 : decode cX6_reads 54 = .ok (.iload_n 1, 1) := by decide +kernel
theorem dX6_reads_55 : decode cX6_reads 55 = .ok (.ifCond .le 5, 3) := by decide +kernel
theorem dX6_reads_58 : decode cX6_reads 58 = .ok (.iload_n 1, 1) := by decide +kernel
theorem dX6_reads_59 : decode cX6_reads 59 = .ok (.ireturn, 1) := by decide +kernel
theorem dX6_reads_60 : decode cX6_reads 60 = .ok (.aload_n 0, 1) := by decide +kernel
theorem dX6_reads_61 : decode cX6_reads 61 = .ok (.getfield 22, 3) := by decide +kernel
theorem dX6_reads_64 : decode cX6_reads 64 = .ok (.bipush 10, 2) := by decide +kernel
theorem dX6_reads_66 : decode cX6_reads 66 = .ok (.aload_n 0, 1) := by decide +kernel
theorem dX6_reads_67 : decode cX6_reads 67 = .ok (.getfield 147, 3) := by decide +kernel
theorem dX6_reads_70 : decode cX6_reads 70 = .ok (.imul, 1) := by decide +kernel
theorem dX6_reads_71 : decode cX6_reads 71 = .ok (.aload_n 0, 1) := by decide +kernel
theorem dX6_reads_72 : decode cX6_reads 72 = .ok (.getfield 150, 3) := by decide +kernel
theorem dX6_reads_75 : decode cX6_reads 75 = .ok (.iadd, 1) := by decide +kernel
theorem dX6_reads_76 : decode cX6_reads 76 = .ok (.iconst 1, 1) := by decide +kernel
theorem dX6_reads_77 : decode cX6_reads 77 = .ok (.iastore, 1) := by decide +kernel
theorem dX6_reads_78 : decode cX6_reads 78 = .ok (.aload_n 0, 1) := by decide +kernel
theorem dX6_reads_79 : decode cX6_reads 79 = .ok (.getfield 25, 3) := by decide +kernel
theorem dX6_reads_82 : decode cX6_reads 82 = .ok (.bipush 10, 2) := by decide +kernel
theorem dX6_reads_84 : decode cX6_reads 84 = .ok (.aload_n 0, 1) := by decide +kernel
theorem dX6_reads_85 : decode cX6_reads 85 = .ok (.getfield 147, 3) := by decide +kernel
theorem dX6_reads_88 : decode cX6_reads 88 = .ok (.imul, 1) := by decide +kernel
theorem dX6_reads_89 : decode cX6_reads 89 = .ok (.aload_n 0, 1) := by decide +kernel
theorem dX6_reads_90 : decode cX6_reads 90 = .ok (.getfield 150, 3) := by decide +kernel
theorem dX6_reads_93 : decode cX6_reads 93 = .ok (.iadd, 1) := by decide +kernel
theorem dX6_reads_94 : decode cX6_reads 94 = .ok (.aload_n 0, 1) := by decide +kernel
theorem dX6_reads_95 : decode cX6_reads 95 = .ok (.aload_n 0, 1) := by decide +kernel
theorem dX6_reads_96 : decode cX6_reads 96 = .ok (.getfield 141, 3) := by decide +kernel
theorem dX6_reads_99 : decode cX6_reads 99 = .ok (.iconst 2, 1) := by decide +kernel
theorem dX6_reads_100 : decode cX6_reads 100 = .ok (.iadd, 1) := by decide +kernel
theorem dX6_reads_101 : decode cX6_reads 101 = .ok (.invokevirtual 138, 3) := by decide +kernel
theorem dX6_reads_104 : decode cX6_reads 104 = .ok (.bipush 45, 2) := by decide +kernel
theorem dX6_reads_106 : decode cX6_reads 106 = .ok (.if_icmp .ne 11, 3) := by decide +kernel
theorem dX6_reads_109 : decode cX6_reads 109 = .ok (.aload_n 0, 1) := by decide +kernel
theorem dX6_reads_110 : decode cX6_reads 110 = .ok (.getfield 153, 3) := by decide +kernel
theorem dX6_reads_113 : decode cX6_reads 113 = .ok (.ineg, 1) := by decide +kernel
theorem dX6_reads_114 : decode cX6_reads 114 = .ok (.goto 7, 3) := by decide +kernel
theorem dX6_reads_117 : decode cX6_reads 117 = .ok (.aload_n 0, 1) := by decide +kernel
theorem dX6_reads_118 : decode cX6_reads 118 = .ok (.getfield 153, 3) := by decide +kernel
theorem dX6_reads_121 : decode cX6_reads 121 = .ok (.iastore, 1) := by decide +kernel
theorem dX6_reads_122 : decode cX6_reads 122 = .ok (.aload_n 0, 1) := by decide +kernel
theorem dX6_reads_123 : decode cX6_reads 123 = .ok (.dup, 1) := by decide +kernel
theorem dX6_reads_124 : decode cX6_reads 124 = .ok (.getfield 159, 3) := by decide +kernel
theorem dX6_reads_127 : decode cX6_reads 127 = .ok (.iconst 1, 1) := by decide +kernel
theorem dX6_reads_128 : decode cX6_reads 128 = .ok (.iadd, 1) := by decide +kernel
theorem dX6_reads_129 : decode cX6_reads 129 = .ok (.putfield 159, 3) := by decide +kernel
theorem dX6_reads_132 : decode cX6_reads 132 = .ok (.aload_n 0, 1) := by decide +kernel
theorem dX6_reads_133 : decode cX6_reads 133 = .ok (.aload_n 0, 1) := by decide +kernel
theorem dX6_reads_134 : decode cX6_reads 134 = .ok (.getfield 156, 3) := by decide +kernel
theorem dX6_reads_137 : decode cX6_reads 137 = .ok (.putfield 141, 3) := by decide +kernel
theorem dX6_reads_140 : decode cX6_reads 140 = .ok (.goto (-102), 3) := by decide +kernel
theorem dX6_reads_143 : decode cX6_reads 143 = .ok (.iconst 0, 1) := by decide +kernel
theorem dX6_reads_144 : decode cX6_reads 144 = .ok (.ireturn, 1) := by decide +kernel
theorem dX6_fault_0 : decode cX6_fault 0 = .ok (.iload_n 1, 1) := by decide +kernel
theorem dX6_fault_1 : decode cX6_fault 1 = .ok (.iconst 0, 1) := by decide +kernel
theorem dX6_fault_2 : decode cX6_fault 2 = .ok (.iconst 1, 1) := by decide +kernel
theorem dX6_fault_3 : decode cX6_fault 3 = .ok (.invokestatic 32, 3) := by decide +kernel
theorem dX6_fault_6 : decode cX6_fault 6 = .ok (.ifCond .ne 5, 3) := by decide +kernel
theorem dX6_fault_9 : decode cX6_fault 9 = .ok (.iconst (-1), 1) := by decide +kernel
theorem dX6_fault_10 : decode cX6_fault 10 = .ok (.ireturn, 1) := by decide +kernel
theorem dX6_fault_11 : decode cX6_fault 11 = .ok (.aload_n 0, 1) := by decide +kernel
theorem dX6_fault_12 : decode cX6_fault 12 = .ok (.invokevirtual 165, 3) := by decide +kernel
theorem dX6_fault_15 : decode cX6_fault 15 = .ok (.istore_n 2, 1) := by decide +kernel
theorem dX6_fault_16 : decode cX6_fault 16 = .ok (.iload_n 2, 1) := by decide +kernel
theorem dX6_fault_17 : decode cX6_fault 17 = .ok (.ifCond .ne 8, 3) := by decide +kernel
theorem dX6_fault_20 : decode cX6_fault 20 = .ok (.bipush (-4), 2) := by decide +kernel
theorem dX6_fault_22 : decode cX6_fault 22 = .ok (.goto 15, 3) := by decide +kernel
theorem dX6_fault_25 : decode cX6_fault 25 = .ok (.iload_n 1, 1) := by decide +kernel
theorem dX6_fault_26 : decode cX6_fault 26 = .ok (.ifCond .ne 10, 3) := by decide +kernel
theorem dX6_fault_29 : decode cX6_fault 29 = .ok (.aload_n 0, 1) := by decide +kernel
theorem dX6_fault_30 : decode cX6_fault 30 = .ok (.getfield 141, 3) := by decide +kernel
theorem dX6_fault_33 : decode cX6_fault 33 = .ok (.goto 4, 3) := by decide +kernel
theorem dX6_fault_36 : decode cX6_fault 36 = .ok (.iload_n 2, 1) := by decide +kernel
theorem dX6_fault_37 : decode cX6_fault 37 = .ok (.ireturn, 1) := by decide +kernel
theorem dX6_load_0 : decode cX6_load 0 = .ok (.aload_n 0, 1) := by decide +kernel
theorem dX6_load_1 : decode cX6_load 1 = .ok (.invokevirtual 165, 3) := by decide +kernel
theorem dX6_load_4 : decode cX6_load 4 = .ok (.ifCond .le 6, 3) := by decide +kernel
theorem dX6_load_7 : decode cX6_load 7 = .ok (.bipush (-2), 2) := by decide +kernel
theorem dX6_load_9 : decode cX6_load 9 = .ok (.ireturn, 1) := by decide +kernel
theorem dX6_load_10 : decode cX6_load 10 = .ok (.aload_n 0, 1) := by decide +kernel
theorem dX6_load_11 : decode cX6_load 11 = .ok (.invokevirtual 44, 3) := by decide +kernel
theorem dX6_load_14 : decode cX6_load 14 = .ok (.iconst 0, 1) := by decide +kernel
theorem dX6_load_15 : decode cX6_load 15 = .ok (.istore_n 1, 1) := by decide +kernel
theorem dX6_load_16 : decode cX6_load 16 = .ok (.iload_n 1, 1) := by decide +kernel
theorem dX6_load_17 : decode cX6_load 17 = .ok (.bipush 24, 2) := by decide +kernel
theorem dX6_load_19 : decode cX6_load 19 = .ok (.if_icmp .ge 35, 3) := by decide +kernel
theorem dX6_load_22 : decode cX6_load 22 = .ok (.aload_n 0, 1) := by decide +kernel
theorem dX6_load_23 : decode cX6_load 23 = .ok (.getfield 7, 3) := by decide +kernel
theorem dX6_load_26 : decode cX6_load 26 = .ok (.bipush 38, 2) := by decide +kernel
theorem dX6_load_28 : decode cX6_load 28 = .ok (.iload_n 1, 1) := by decide +kernel
theorem dX6_load_29 : decode cX6_load 29 = .ok (.iadd, 1) := by decide +kernel
theorem dX6_load_30 : decode cX6_load 30 = .ok (.aload_n 0, 1) := by decide +kernel
theorem dX6_load_31 : decode cX6_load 31 = .ok (.getfield 25, 3) := by decide +kernel
theorem dX6_load_34 : decode cX6_load 34 = .ok (.bipush 10, 2) := by decide +kernel
theorem dX6_load_36 : decode cX6_load 36 = .ok (.iload_n 1, 1) := by decide +kernel
theorem dX6_load_37 : decode cX6_load 37 = .ok (.bipush 8, 2) := by decide +kernel
theorem dX6_load_39 : decode cX6_load 39 = .ok (.idiv, 1) := by decide +kernel
theorem dX6_load_40 : decode cX6_load 40 = .ok (.imul, 1) := by decide +kernel
theorem dX6_load_41 : decode cX6_load 41 = .ok (.iload_n 1, 1) := by decide +kernel
theorem dX6_load_42 : decode cX6_load 42 = .ok (.bipush 8, 2) := by decide +kernel
theorem dX6_load_44 : decode cX6_load 44 = .ok (.irem, 1) := by decide +kernel
theorem dX6_load_45 : decode cX6_load 45 = .ok (.iadd, 1) := by decide +kernel
theorem dX6_load_46 : decode cX6_load 46 = .ok (.iaload, 1) := by decide +kernel
theorem dX6_load_47 : decode cX6_load 47 = .ok (.iastore, 1) := by decide +kernel
theorem dX6_load_48 : decode cX6_load 48 = .ok (.iinc 1 1, 3) := by decide +kernel
theorem dX6_load_51 : decode cX6_load 51 = .ok (.goto (-35), 3) := by decide +kernel
theorem dX6_load_54 : decode cX6_load 54 = .ok (.aload_n 0, 1) := by decide +kernel
theorem dX6_load_55 : decode cX6_load 55 = .ok (.getfield 159, 3) := by decide +kernel
theorem dX6_load_58 : decode cX6_load 58 = .ok (.ireturn, 1) := by decide +kernel
end
section
theorem dL_law_0 : decode cL_law 0 = .ok (.new 7, 3) := by decide +kernel
theorem dL_law_3 : decode cL_law 3 = .ok (.dup, 1) := by decide +kernel
theorem dL_law_4 : decode cL_law 4 = .ok (.invokespecial 9, 3) := by decide +kernel
theorem dL_law_7 : decode cL_law 7 = .ok (.astore_n 1, 1) := by decide +kernel
theorem dL_law_8 : decode cL_law 8 = .ok (.new 10, 3) := by decide +kernel
theorem dL_law_11 : decode cL_law 11 = .ok (.dup, 1) := by decide +kernel
theorem dL_law_12 : decode cL_law 12 = .ok (.invokespecial 12, 3) := by decide +kernel
theorem dL_law_15 : decode cL_law 15 = .ok (.astore_n 2, 1) := by decide +kernel
theorem dL_law_16 : decode cL_law 16 = .ok (.iconst 0, 1) := by decide +kernel
theorem dL_law_17 : decode cL_law 17 = .ok (.istore_n 3, 1) := by decide +kernel
theorem dL_law_18 : decode cL_law 18 = .ok (.iload_n 3, 1) := by decide +kernel
theorem dL_law_19 : decode cL_law 19 = .ok (.aload_n 0, 1) := by decide +kernel
theorem dL_law_20 : decode cL_law 20 = .ok (.arraylength, 1) := by decide +kernel
theorem dL_law_21 : decode cL_law 21 = .ok (.iconst 5, 1) := by decide +kernel
theorem dL_law_22 : decode cL_law 22 = .ok (.isub, 1) := by decide +kernel
theorem dL_law_23 : decode cL_law 23 = .ok (.if_icmp .gt 783, 3) := by decide +kernel
theorem dL_law_26 : decode cL_law 26 = .ok (.aload_n 0, 1) := by decide +kernel
theorem dL_law_27 : decode cL_law 27 = .ok (.iload_n 3, 1) := by decide +kernel
theorem dL_law_28 : decode cL_law 28 = .ok (.iaload, 1) := by decide +kernel
theorem dL_law_29 : decode cL_law 29 = .ok (.bipush 31, 2) := by decide +kernel
theorem dL_law_31 : decode cL_law 31 = .ok (.iand, 1) := by decide +kernel
theorem dL_law_32 : decode cL_law 32 = .ok (.tableswitch 768 0 25 #[120, 143, 166, 189, 212, 235, 248, 291, 324, 357, 380, 433, 486, 529, 562, 575, 598, 631, 644, 657, 670, 683, 696, 719, 732, 755], 120) := by decide +kernel
theorem dL_law_152 : decode cL_law 152 = .ok (.aload_n 1, 1) := by decide +kernel
theorem dL_law_153 : decode cL_law 153 = .ok (.aload_n 0, 1) := by decide +kernel
theorem dL_law_154 : decode cL_law 154 = .ok (.iload_n 3, 1) := by decide +kernel
theorem dL_law_155 : decode cL_law 155 = .ok (.iconst 1, 1) := by decide +kernel
theorem dL_law_156 : decode cL_law 156 = .ok (.iadd, 1) := by decide +kernel
theorem dL_law_157 : decode cL_law 157 = .ok (.iaload, 1) := by decide +kernel
theorem dL_law_158 : decode cL_law 158 = .ok (.invokevirtual 13, 3) := by decide +kernel
theorem dL_law_161 : decode cL_law 161 = .ok (.aload_n 2, 1) := by decide +kernel
theorem dL_law_162 : decode cL_law 162 = .ok (.aload_n 0, 1) := by decide +kernel
theorem dL_law_163 : decode cL_law 163 = .ok (.iload_n 3, 1) := by decide +kernel
theorem dL_law_164 : decode cL_law 164 = .ok (.iconst 1, 1) := by decide +kernel
theorem dL_law_165 : decode cL_law 165 = .ok (.iadd, 1) := by decide +kernel
theorem dL_law_166 : decode cL_law 166 = .ok (.iaload, 1) := by decide +kernel
theorem dL_law_167 : decode cL_law 167 = .ok (.invokevirtual 17, 3) := by decide +kernel
theorem dL_law_170 : decode cL_law 170 = .ok (.if_icmp .eq 630, 3) := by decide +kernel
theorem dL_law_173 : decode cL_law 173 = .ok (.iconst 0, 1) := by decide +kernel
theorem dL_law_174 : decode cL_law 174 = .ok (.ireturn, 1) := by decide +kernel
theorem dL_law_175 : decode cL_law 175 = .ok (.aload_n 1, 1) := by decide +kernel
theorem dL_law_176 : decode cL_law 176 = .ok (.aload_n 0, 1) := by decide +kernel
theorem dL_law_177 : decode cL_law 177 = .ok (.iload_n 3, 1) := by decide +kernel
theorem dL_law_178 : decode cL_law 178 = .ok (.iconst 1, 1) := by decide +kernel
theorem dL_law_179 : decode cL_law 179 = .ok (.iadd, 1) := by decide +kernel
theorem dL_law_180 : decode cL_law 180 = .ok (.iaload, 1) := by decide +kernel
theorem dL_law_181 : decode cL_law 181 = .ok (.invokevirtual 18, 3) := by decide +kernel
theorem dL_law_184 : decode cL_law 184 = .ok (.aload_n 2, 1) := by decide +kernel
theorem dL_law_185 : decode cL_law 185 = .ok (.aload_n 0, 1) := by decide +kernel
theorem dL_law_186 : decode cL_law 186 = .ok (.iload_n 3, 1) := by decide +kernel
theorem dL_law_187 : decode cL_law 187 = .ok (.iconst 1, 1) := by decide +kernel
theorem dL_law_188 : decode cL_law 188 = .ok (.iadd, 1) := by decide +kernel
theorem dL_law_189 : decode cL_law 189 = .ok (.iaload, 1) := by decide +kernel
theorem dL_law_190 : decode cL_law 190 = .ok (.invokevirtual 21, 3) := by decide +kernel
theorem dL_law_193 : decode cL_law 193 = .ok (.if_icmp .eq 607, 3) := by decide +kernel
theorem dL_law_196 : decode cL_law 196 = .ok (.iconst 0, 1) := by decide +kernel
theorem dL_law_197 : decode cL_law 197 = .ok (.ireturn, 1) := by decide +kernel
theorem dL_law_198 : decode cL_law 198 = .ok (.aload_n 1, 1) := by decide +kernel
theorem dL_law_199 : decode cL_law 199 = .ok (.aload_n 0, 1) := by decide +kernel
theorem dL_law_200 : decode cL_law 200 = .ok (.iload_n 3, 1) := by decide +kernel
theorem dL_law_201 : decode cL_law 201 = .ok (.iconst 1, 1) := by decide +kernel
theorem dL_law_202 : decode cL_law 202 = .ok (.iadd, 1) := by decide +kernel
theorem dL_law_203 : decode cL_law 203 = .ok (.iaload, 1) := by decide +kernel
theorem dL_law_204 : decode cL_law 204 = .ok (.invokevirtual 22, 3) := by decide +kernel
theorem dL_law_207 : decode cL_law 207 = .ok (.aload_n 2, 1) := by decide +kernel
theorem dL_law_208 : decode cL_law 208 = .ok (.aload_n 0, 1) := by decide +kernel
theorem dL_law_209 : decode cL_law 209 = .ok (.iload_n 3, 1) := by decide +kernel
theorem dL_law_210 : decode cL_law 210 = .ok (.iconst 1, 1) := by decide +kernel
theorem dL_law_211 : decode cL_law 211 = .ok (.iadd, 1) := by decide +kernel
theorem dL_law_212 : decode cL_law 212 = .ok (.iaload, 1) := by decide +kernel
theorem dL_law_213 : decode cL_law 213 = .ok (.invokevirtual 25, 3) := by decide +kernel
theorem dL_law_216 : decode cL_law 216 = .ok (.if_icmp .eq 584, 3) := by decide +kernel
theorem dL_law_219 : decode cL_law 219 = .ok (.iconst 0, 1) := by decide +kernel
theorem dL_law_220 : decode cL_law 220 = .ok (.ireturn, 1) := by decide +kernel
theorem dL_law_221 : decode cL_law 221 = .ok (.aload_n 1, 1) := by decide +kernel
theorem dL_law_222 : decode cL_law 222 = .ok (.aload_n 0, 1) := by decide +kernel
theorem dL_law_223 : decode cL_law 223 = .ok (.iload_n 3, 1) := by decide +kernel
theorem dL_law_224 : decode cL_law 224 = .ok (.iconst 1, 1) := by decide +kernel
theorem dL_law_225 : decode cL_law 225 = .ok (.iadd, 1) := by decide +kernel
theorem dL_law_226 : decode cL_law 226 = .ok (.iaload, 1) := by decide +kernel
theorem dL_law_227 : decode cL_law 227 = .ok (.invokevirtual 26, 3) := by decide +kernel
theorem dL_law_230 : decode cL_law 230 = .ok (.aload_n 2, 1) := by decide +kernel
theorem dL_law_231 : decode cL_law 231 = .ok (.aload_n 0, 1) := by decide +kernel
theorem dL_law_232 : decode cL_law 232 = .ok (.iload_n 3, 1) := by decide +kernel
theorem dL_law_233 : decode cL_law 233 = .ok (.iconst 1, 1) := by decide +kernel
theorem dL_law_234 : decode cL_law 234 = .ok (.iadd, 1) := by decide +kernel
theorem dL_law_235 : decode cL_law 235 = .ok (.iaload, 1) := by decide +kernel
theorem dL_law_236 : decode cL_law 236 = .ok (.invokevirtual 29, 3) := by decide +kernel
theorem dL_law_239 : decode cL_law 239 = .ok (.if_icmp .eq 561, 3) := by decide +kernel
theorem dL_law_242 : decode cL_law 242 = .ok (.iconst 0, 1) := by decide +kernel
theorem dL_law_243 : decode cL_law 243 = .ok (.ireturn, 1) := by decide +kernel
theorem dL_law_244 : decode cL_law 244 = .ok (.aload_n 1, 1) := by decide +kernel
theorem dL_law_245 : decode cL_law 245 = .ok (.aload_n 0, 1) := by decide +kernel
theorem dL_law_246 : decode cL_law 246 = .ok (.iload_n 3, 1) := by decide +kernel
theorem dL_law_247 : decode cL_law 247 = .ok (.iconst 1, 1) := by decide +kernel
theorem dL_law_248 : decode cL_law 248 = .ok (.iadd, 1) := by decide +kernel
theorem dL_law_249 : decode cL_law 249 = .ok (.iaload, 1) := by decide +kernel
theorem dL_law_250 : decode cL_law 250 = .ok (.invokevirtual 30, 3) := by decide +kernel
theorem dL_law_253 : decode cL_law 253 = .ok (.aload_n 2, 1) := by decide +kernel
theorem dL_law_254 : decode cL_law 254 = .ok (.aload_n 0, 1) := by decide +kernel
theorem dL_law_255 : decode cL_law 255 = .ok (.iload_n 3, 1) := by decide +kernel
theorem dL_law_256 : decode cL_law 256 = .ok (.iconst 1, 1) := by decide +kernel
theorem dL_law_257 : decode cL_law 257 = .ok (.iadd, 1) := by decide +kernel
theorem dL_law_258 : decode cL_law 258 = .ok (.iaload, 1) := by decide +kernel
theorem dL_law_259 : decode cL_law 259 = .ok (.invokevirtual 33, 3) := by decide +kernel
theorem dL_law_262 : decode cL_law 262 = .ok (.if_icmp .eq 538, 3) := by decide +kernel
theorem dL_law_265 : decode cL_law 265 = .ok (.iconst 0, 1) := by decide +kernel
theorem dL_law_266 : decode cL_law 266 = .ok (.ireturn, 1) := by decide +kernel
theorem dL_law_267 : decode cL_law 267 = .ok (.aload_n 1, 1) := by decide +kernel
theorem dL_law_268 : decode cL_law 268 = .ok (.invokevirtual 34, 3) := by decide +kernel
theorem dL_law_271 : decode cL_law 271 = .ok (.aload_n 2, 1) := by decide +kernel
theorem dL_law_272 : decode cL_law 272 = .ok (.invokevirtual 38, 3) := by decide +kernel
theorem dL_law_275 : decode cL_law 275 = .ok (.if_icmp .eq 525, 3) := by decide +kernel
theorem dL_law_278 : decode cL_law 278 = .ok (.iconst 0, 1) := by decide +kernel
theorem dL_law_279 : decode cL_law 279 = .ok (.ireturn, 1) := by decide +kernel
theorem dL_law_280 : decode cL_law 280 = .ok (.aload_n 1, 1) := by decide +kernel
theorem dL_law_281 : decode cL_law 281 = .ok (.aload_n 0, 1) := by decide +kernel
theorem dL_law_282 : decode cL_law 282 = .ok (.iload_n 3, 1) := by decide +kernel
theorem dL_law_283 : decode cL_law 283 = .ok (.iconst 1, 1) := by decide +kernel
theorem dL_law_284 : decode cL_law 284 = .ok (.iadd, 1) := by decide +kernel
theorem dL_law_285 : decode cL_law 285 = .ok (.iaload, 1) := by decide +kernel
theorem dL_law_286 : decode cL_law 286 = .ok (.aload_n 0, 1) := by decide +kernel
theorem dL_law_287 : decode cL_law 287 = .ok (.iload_n 3, 1) := by decide +kernel
theorem dL_law_288 : decode cL_law 288 = .ok (.iconst 2, 1) := by decide +kernel
theorem dL_law_289 : decode cL_law 289 = .ok (.iadd, 1) := by decide +kernel
theorem dL_law_290 : decode cL_law 290 = .ok (.iaload, 1) := by decide +kernel
theorem dL_law_291 : decode cL_law 291 = .ok (.aload_n 0, 1) := by decide +kernel
theorem dL_law_292 : decode cL_law 292 = .ok (.iload_n 3, 1) := by decide +kernel
theorem dL_law_293 : decode cL_law 293 = .ok (.iconst 3, 1) := by decide +kernel
theorem dL_law_294 : decode cL_law 294 = .ok (.iadd, 1) := by decide +kernel
theorem dL_law_295 : decode cL_law 295 = .ok (.iaload, 1) := by decide +kernel
theorem dL_law_296 : decode cL_law 296 = .ok (.invokevirtual 39, 3) := by decide +kernel
theorem dL_law_299 : decode cL_law 299 = .ok (.aload_n 2, 1) := by decide +kernel
theorem dL_law_300 : decode cL_law 300 = .ok (.aload_n 0, 1) := by decide +kernel
theorem dL_law_301 : decode cL_law 301 = .ok (.iload_n 3, 1) := by decide +kernel
theorem dL_law_302 : decode cL_law 302 = .ok (.iconst 1, 1) := by decide +kernel
theorem dL_law_303 : decode cL_law 303 = .ok (.iadd, 1) := by decide +kernel
theorem dL_law_304 : decode cL_law 304 = .ok (.iaload, 1) := by decide +kernel
theorem dL_law_305 : decode cL_law 305 = .ok (.aload_n 0, 1) := by decide +kernel
theorem dL_law_306 : decode cL_law 306 = .ok (.iload_n 3, 1) := by decide +kernel
theorem dL_law_307 : decode cL_law 307 = .ok (.iconst 2, 1) := by decide +kernel
theorem dL_law_308 : decode cL_law 308 = .ok (.iadd, 1) := by decide +kernel
theorem dL_law_309 : decode cL_law 309 = .ok (.iaload, 1) := by decide +kernel
theorem dL_law_310 : decode cL_law 310 = .ok (.aload_n 0, 1) := by decide +kernel
theorem dL_law_311 : decode cL_law 311 = .ok (.iload_n 3, 1) := by decide +kernel
theorem dL_law_312 : decode cL_law 312 = .ok (.iconst 3, 1) := by decide +kernel
theorem dL_law_313 : decode cL_law 313 = .ok (.iadd, 1) := by decide +kernel
theorem dL_law_314 : decode cL_law 314 = .ok (.iaload, 1) := by decide +kernel
theorem dL_law_315 : decode cL_law 315 = .ok (.invokevirtual 43, 3) := by decide +kernel
theorem dL_law_318 : decode cL_law 318 = .ok (.if_icmp .eq 482, 3) := by decide +kernel
theorem dL_law_321 : decode cL_law 321 = .ok (.iconst 0, 1) := by decide +kernel
theorem dL_law_322 : decode cL_law 322 = .ok (.ireturn, 1) := by decide +kernel
theorem dL_law_323 : decode cL_law 323 = .ok (.aload_n 1, 1) := by decide +kernel
theorem dL_law_324 : decode cL_law 324 = .ok (.aload_n 0, 1) := by decide +kernel
theorem dL_law_325 : decode cL_law 325 = .ok (.iload_n 3, 1) := by decide +kernel
theorem dL_law_326 : decode cL_law 326 = .ok (.iconst 1, 1) := by decide +kernel
theorem dL_law_327 : decode cL_law 327 = .ok (.iadd, 1) := by decide +kernel
theorem dL_law_328 : decode cL_law 328 = .ok (.iaload, 1) := by decide +kernel
theorem dL_law_329 : decode cL_law 329 = .ok (.aload_n 0, 1) := by decide +kernel
theorem dL_law_330 : decode cL_law 330 = .ok (.iload_n 3, 1) := by decide +kernel
theorem dL_law_331 : decode cL_law 331 = .ok (.iconst 2, 1) := by decide +kernel
theorem dL_law_332 : decode cL_law 332 = .ok (.iadd, 1) := by decide +kernel
theorem dL_law_333 : decode cL_law 333 = .ok (.iaload, 1) := by decide +kernel
theorem dL_law_334 : decode cL_law 334 = .ok (.invokevirtual 44, 3) := by decide +kernel
theorem dL_law_337 : decode cL_law 337 = .ok (.aload_n 2, 1) := by decide +kernel
theorem dL_law_338 : decode cL_law 338 = .ok (.aload_n 0, 1) := by decide +kernel
theorem dL_law_339 : decode cL_law 339 = .ok (.iload_n 3, 1) := by decide +kernel
theorem dL_law_340 : decode cL_law 340 = .ok (.iconst 1, 1) := by decide +kernel
theorem dL_law_341 : decode cL_law 341 = .ok (.iadd, 1) := by decide +kernel
theorem dL_law_342 : decode cL_law 342 = .ok (.iaload, 1) := by decide +kernel
theorem dL_law_343 : decode cL_law 343 = .ok (.aload_n 0, 1) := by decide +kernel
theorem dL_law_344 : decode cL_law 344 = .ok (.iload_n 3, 1) := by decide +kernel
theorem dL_law_345 : decode cL_law 345 = .ok (.iconst 2, 1) := by decide +kernel
theorem dL_law_346 : decode cL_law 346 = .ok (.iadd, 1) := by decide +kernel
theorem dL_law_347 : decode cL_law 347 = .ok (.iaload, 1) := by decide +kernel
theorem dL_law_348 : decode cL_law 348 = .ok (.invokevirtual 48, 3) := by decide +kernel
theorem dL_law_351 : decode cL_law 351 = .ok (.if_icmp .eq 449, 3) := by decide +kernel
theorem dL_law_354 : decode cL_law 354 = .ok (.iconst 0, 1) := by decide +kernel
theorem dL_law_355 : decode cL_law 355 = .ok (.ireturn, 1) := by decide +kernel
theorem dL_law_356 : decode cL_law 356 = .ok (.aload_n 1, 1) := by decide +kernel
theorem dL_law_357 : decode cL_law 357 = .ok (.aload_n 0, 1) := by decide +kernel
theorem dL_law_358 : decode cL_law 358 = .ok (.iload_n 3, 1) := by decide +kernel
theorem dL_law_359 : decode cL_law 359 = .ok (.iconst 1, 1) := by decide +kernel
theorem dL_law_360 : decode cL_law 360 = .ok (.iadd, 1) := by decide +kernel
theorem dL_law_361 : decode cL_law 361 = .ok (.iaload, 1) := by decide +kernel
theorem dL_law_362 : decode cL_law 362 = .ok (.aload_n 0, 1) := by decide +kernel
theorem dL_law_363 : decode cL_law 363 = .ok (.iload_n 3, 1) := by decide +kernel
theorem dL_law_364 : decode cL_law 364 = .ok (.iconst 2, 1) := by decide +kernel
theorem dL_law_365 : decode cL_law 365 = .ok (.iadd, 1) := by decide +kernel
theorem dL_law_366 : decode cL_law 366 = .ok (.iaload, 1) := by decide +kernel
theorem dL_law_367 : decode cL_law 367 = .ok (.invokevirtual 49, 3) := by decide +kernel
theorem dL_law_370 : decode cL_law 370 = .ok (.aload_n 2, 1) := by decide +kernel
theorem dL_law_371 : decode cL_law 371 = .ok (.aload_n 0, 1) := by decide +kernel
theorem dL_law_372 : decode cL_law 372 = .ok (.iload_n 3, 1) := by decide +kernel
theorem dL_law_373 : decode cL_law 373 = .ok (.iconst 1, 1) := by decide +kernel
theorem dL_law_374 : decode cL_law 374 = .ok (.iadd, 1) := by decide +kernel
theorem dL_law_375 : decode cL_law 375 = .ok (.iaload, 1) := by decide +kernel
theorem dL_law_376 : decode cL_law 376 = .ok (.aload_n 0, 1) := by decide +kernel
theorem dL_law_377 : decode cL_law 377 = .ok (.iload_n 3, 1) := by decide +kernel
theorem dL_law_378 : decode cL_law 378 = .ok (.iconst 2, 1) := by decide +kernel
theorem dL_law_379 : decode cL_law 379 = .ok (.iadd, 1) := by decide +kernel
theorem dL_law_380 : decode cL_law 380 = .ok (.iaload, 1) := by decide +kernel
theorem dL_law_381 : decode cL_law 381 = .ok (.invokevirtual 52, 3) := by decide +kernel
theorem dL_law_384 : decode cL_law 384 = .ok (.if_icmp .eq 416, 3) := by decide +kernel
theorem dL_law_387 : decode cL_law 387 = .ok (.iconst 0, 1) := by decide +kernel
theorem dL_law_388 : decode cL_law 388 = .ok (.ireturn, 1) := by decide +kernel
theorem dL_law_389 : decode cL_law 389 = .ok (.aload_n 1, 1) := by decide +kernel
theorem dL_law_390 : decode cL_law 390 = .ok (.aload_n 0, 1) := by decide +kernel
theorem dL_law_391 : decode cL_law 391 = .ok (.iload_n 3, 1) := by decide +kernel
theorem dL_law_392 : decode cL_law 392 = .ok (.iconst 1, 1) := by decide +kernel
theorem dL_law_393 : decode cL_law 393 = .ok (.iadd, 1) := by decide +kernel
theorem dL_law_394 : decode cL_law 394 = .ok (.iaload, 1) := by decide +kernel
theorem dL_law_395 : decode cL_law 395 = .ok (.invokevirtual 53, 3) := by decide +kernel
theorem dL_law_398 : decode cL_law 398 = .ok (.aload_n 2, 1) := by decide +kernel
theorem dL_law_399 : decode cL_law 399 = .ok (.aload_n 0, 1) := by decide +kernel
theorem dL_law_400 : decode cL_law 400 = .ok (.iload_n 3, 1) := by decide +kernel
theorem dL_law_401 : decode cL_law 401 = .ok (.iconst 1, 1) := by decide +kernel
theorem dL_law_402 : decode cL_law 402 = .ok (.iadd, 1) := by decide +kernel
theorem dL_law_403 : decode cL_law 403 = .ok (.iaload, 1) := by decide +kernel
theorem dL_law_404 : decode cL_law 404 = .ok (.invokevirtual 56, 3) := by decide +kernel
theorem dL_law_407 : decode cL_law 407 = .ok (.if_icmp .eq 393, 3) := by decide +kernel
theorem dL_law_410 : decode cL_law 410 = .ok (.iconst 0, 1) := by decide +kernel
theorem dL_law_411 : decode cL_law 411 = .ok (.ireturn, 1) := by decide +kernel
theorem dL_law_412 : decode cL_law 412 = .ok (.aload_n 1, 1) := by decide +kernel
theorem dL_law_413 : decode cL_law 413 = .ok (.aload_n 0, 1) := by decide +kernel
theorem dL_law_414 : decode cL_law 414 = .ok (.iload_n 3, 1) := by decide +kernel
theorem dL_law_415 : decode cL_law 415 = .ok (.iconst 1, 1) := by decide +kernel
theorem dL_law_416 : decode cL_law 416 = .ok (.iadd, 1) := by decide +kernel
theorem dL_law_417 : decode cL_law 417 = .ok (.iaload, 1) := by decide +kernel
theorem dL_law_418 : decode cL_law 418 = .ok (.aload_n 0, 1) := by decide +kernel
theorem dL_law_419 : decode cL_law 419 = .ok (.iload_n 3, 1) := by decide +kernel
theorem dL_law_420 : decode cL_law 420 = .ok (.iconst 2, 1) := by decide +kernel
theorem dL_law_421 : decode cL_law 421 = .ok (.iadd, 1) := by decide +kernel
theorem dL_law_422 : decode cL_law 422 = .ok (.iaload, 1) := by decide +kernel
theorem dL_law_423 : decode cL_law 423 = .ok (.aload_n 0, 1) := by decide +kernel
theorem dL_law_424 : decode cL_law 424 = .ok (.iload_n 3, 1) := by decide +kernel
theorem dL_law_425 : decode cL_law 425 = .ok (.iconst 3, 1) := by decide +kernel
theorem dL_law_426 : decode cL_law 426 = .ok (.iadd, 1) := by decide +kernel
theorem dL_law_427 : decode cL_law 427 = .ok (.iaload, 1) := by decide +kernel
theorem dL_law_428 : decode cL_law 428 = .ok (.aload_n 0, 1) := by decide +kernel
theorem dL_law_429 : decode cL_law 429 = .ok (.iload_n 3, 1) := by decide +kernel
theorem dL_law_430 : decode cL_law 430 = .ok (.iconst 4, 1) := by decide +kernel
theorem dL_law_431 : decode cL_law 431 = .ok (.iadd, 1) := by decide +kernel
theorem dL_law_432 : decode cL_law 432 = .ok (.iaload, 1) := by decide +kernel
theorem dL_law_433 : decode cL_law 433 = .ok (.invokevirtual 57, 3) := by decide +kernel
theorem dL_law_436 : decode cL_law 436 = .ok (.aload_n 2, 1) := by decide +kernel
theorem dL_law_437 : decode cL_law 437 = .ok (.aload_n 0, 1) := by decide +kernel
theorem dL_law_438 : decode cL_law 438 = .ok (.iload_n 3, 1) := by decide +kernel
theorem dL_law_439 : decode cL_law 439 = .ok (.iconst 1, 1) := by decide +kernel
theorem dL_law_440 : decode cL_law 440 = .ok (.iadd, 1) := by decide +kernel
theorem dL_law_441 : decode cL_law 441 = .ok (.iaload, 1) := by decide +kernel
theorem dL_law_442 : decode cL_law 442 = .ok (.aload_n 0, 1) := by decide +kernel
theorem dL_law_443 : decode cL_law 443 = .ok (.iload_n 3, 1) := by decide +kernel
theorem dL_law_444 : decode cL_law 444 = .ok (.iconst 2, 1) := by decide +kernel
theorem dL_law_445 : decode cL_law 445 = .ok (.iadd, 1) := by decide +kernel
theorem dL_law_446 : decode cL_law 446 = .ok (.iaload, 1) := by decide +kernel
theorem dL_law_447 : decode cL_law 447 = .ok (.aload_n 0, 1) := by decide +kernel
theorem dL_law_448 : decode cL_law 448 = .ok (.iload_n 3, 1) := by decide +kernel
theorem dL_law_449 : decode cL_law 449 = .ok (.iconst 3, 1) := by decide +kernel
theorem dL_law_450 : decode cL_law 450 = .ok (.iadd, 1) := by decide +kernel
theorem dL_law_451 : decode cL_law 451 = .ok (.iaload, 1) := by decide +kernel
theorem dL_law_452 : decode cL_law 452 = .ok (.aload_n 0, 1) := by decide +kernel
theorem dL_law_453 : decode cL_law 453 = .ok (.iload_n 3, 1) := by decide +kernel
theorem dL_law_454 : decode cL_law 454 = .ok (.iconst 4, 1) := by decide +kernel
theorem dL_law_455 : decode cL_law 455 = .ok (.iadd, 1) := by decide +kernel
theorem dL_law_456 : decode cL_law 456 = .ok (.iaload, 1) := by decide +kernel
theorem dL_law_457 : decode cL_law 457 = .ok (.invokevirtual 61, 3) := by decide +kernel
theorem dL_law_460 : decode cL_law 460 = .ok (.if_icmp .eq 340, 3) := by decide +kernel
theorem dL_law_463 : decode cL_law 463 = .ok (.iconst 0, 1) := by decide +kernel
theorem dL_law_464 : decode cL_law 464 = .ok (.ireturn, 1) := by decide +kernel
theorem dL_law_465 : decode cL_law 465 = .ok (.aload_n 1, 1) := by decide +kernel
theorem dL_law_466 : decode cL_law 466 = .ok (.aload_n 0, 1) := by decide +kernel
theorem dL_law_467 : decode cL_law 467 = .ok (.iload_n 3, 1) := by decide +kernel
theorem dL_law_468 : decode cL_law 468 = .ok (.iconst 1, 1) := by decide +kernel
theorem dL_law_469 : decode cL_law 469 = .ok (.iadd, 1) := by decide +kernel
theorem dL_law_470 : decode cL_law 470 = .ok (.iaload, 1) := by decide +kernel
theorem dL_law_471 : decode cL_law 471 = .ok (.aload_n 0, 1) := by decide +kernel
theorem dL_law_472 : decode cL_law 472 = .ok (.iload_n 3, 1) := by decide +kernel
theorem dL_law_473 : decode cL_law 473 = .ok (.iconst 2, 1) := by decide +kernel
theorem dL_law_474 : decode cL_law 474 = .ok (.iadd, 1) := by decide +kernel
theorem dL_law_475 : decode cL_law 475 = .ok (.iaload, 1) := by decide +kernel
theorem dL_law_476 : decode cL_law 476 = .ok (.aload_n 0, 1) := by decide +kernel
theorem dL_law_477 : decode cL_law 477 = .ok (.iload_n 3, 1) := by decide +kernel
theorem dL_law_478 : decode cL_law 478 = .ok (.iconst 3, 1) := by decide +kernel
theorem dL_law_479 : decode cL_law 479 = .ok (.iadd, 1) := by decide +kernel
theorem dL_law_480 : decode cL_law 480 = .ok (.iaload, 1) := by decide +kernel
theorem dL_law_481 : decode cL_law 481 = .ok (.aload_n 0, 1) := by decide +kernel
theorem dL_law_482 : decode cL_law 482 = .ok (.iload_n 3, 1) := by decide +kernel
theorem dL_law_483 : decode cL_law 483 = .ok (.iconst 4, 1) := by decide +kernel
theorem dL_law_484 : decode cL_law 484 = .ok (.iadd, 1) := by decide +kernel
theorem dL_law_485 : decode cL_law 485 = .ok (.iaload, 1) := by decide +kernel
theorem dL_law_486 : decode cL_law 486 = .ok (.invokevirtual 62, 3) := by decide +kernel
theorem dL_law_489 : decode cL_law 489 = .ok (.aload_n 2, 1) := by decide +kernel
theorem dL_law_490 : decode cL_law 490 = .ok (.aload_n 0, 1) := by decide +kernel
theorem dL_law_491 : decode cL_law 491 = .ok (.iload_n 3, 1) := by decide +kernel
theorem dL_law_492 : decode cL_law 492 = .ok (.iconst 1, 1) := by decide +kernel
theorem dL_law_493 : decode cL_law 493 = .ok (.iadd, 1) := by decide +kernel
theorem dL_law_494 : decode cL_law 494 = .ok (.iaload, 1) := by decide +kernel
theorem dL_law_495 : decode cL_law 495 = .ok (.aload_n 0, 1) := by decide +kernel
theorem dL_law_496 : decode cL_law 496 = .ok (.iload_n 3, 1) := by decide +kernel
theorem dL_law_497 : decode cL_law 497 = .ok (.iconst 2, 1) := by decide +kernel
theorem dL_law_498 : decode cL_law 498 = .ok (.iadd, 1) := by decide +kernel
theorem dL_law_499 : decode cL_law 499 = .ok (.iaload, 1) := by decide +kernel
theorem dL_law_500 : decode cL_law 500 = .ok (.aload_n 0, 1) := by decide +kernel
theorem dL_law_501 : decode cL_law 501 = .ok (.iload_n 3, 1) := by decide +kernel
theorem dL_law_502 : decode cL_law 502 = .ok (.iconst 3, 1) := by decide +kernel
theorem dL_law_503 : decode cL_law 503 = .ok (.iadd, 1) := by decide +kernel
theorem dL_law_504 : decode cL_law 504 = .ok (.iaload, 1) := by decide +kernel
theorem dL_law_505 : decode cL_law 505 = .ok (.aload_n 0, 1) := by decide +kernel
theorem dL_law_506 : decode cL_law 506 = .ok (.iload_n 3, 1) := by decide +kernel
theorem dL_law_507 : decode cL_law 507 = .ok (.iconst 4, 1) := by decide +kernel
theorem dL_law_508 : decode cL_law 508 = .ok (.iadd, 1) := by decide +kernel
theorem dL_law_509 : decode cL_law 509 = .ok (.iaload, 1) := by decide +kernel
theorem dL_law_510 : decode cL_law 510 = .ok (.invokevirtual 65, 3) := by decide +kernel
theorem dL_law_513 : decode cL_law 513 = .ok (.if_icmp .eq 287, 3) := by decide +kernel
theorem dL_law_516 : decode cL_law 516 = .ok (.iconst 0, 1) := by decide +kernel
theorem dL_law_517 : decode cL_law 517 = .ok (.ireturn, 1) := by decide +kernel
theorem dL_law_518 : decode cL_law 518 = .ok (.aload_n 1, 1) := by decide +kernel
theorem dL_law_519 : decode cL_law 519 = .ok (.aload_n 0, 1) := by decide +kernel
theorem dL_law_520 : decode cL_law 520 = .ok (.iload_n 3, 1) := by decide +kernel
theorem dL_law_521 : decode cL_law 521 = .ok (.iconst 1, 1) := by decide +kernel
theorem dL_law_522 : decode cL_law 522 = .ok (.iadd, 1) := by decide +kernel
theorem dL_law_523 : decode cL_law 523 = .ok (.iaload, 1) := by decide +kernel
theorem dL_law_524 : decode cL_law 524 = .ok (.aload_n 0, 1) := by decide +kernel
theorem dL_law_525 : decode cL_law 525 = .ok (.iload_n 3, 1) := by decide +kernel
theorem dL_law_526 : decode cL_law 526 = .ok (.iconst 2, 1) := by decide +kernel
theorem dL_law_527 : decode cL_law 527 = .ok (.iadd, 1) := by decide +kernel
theorem dL_law_528 : decode cL_law 528 = .ok (.iaload, 1) := by decide +kernel
theorem dL_law_529 : decode cL_law 529 = .ok (.aload_n 0, 1) := by decide +kernel
theorem dL_law_530 : decode cL_law 530 = .ok (.iload_n 3, 1) := by decide +kernel
theorem dL_law_531 : decode cL_law 531 = .ok (.iconst 3, 1) := by decide +kernel
theorem dL_law_532 : decode cL_law 532 = .ok (.iadd, 1) := by decide +kernel
theorem dL_law_533 : decode cL_law 533 = .ok (.iaload, 1) := by decide +kernel
theorem dL_law_534 : decode cL_law 534 = .ok (.invokevirtual 66, 3) := by decide +kernel
theorem dL_law_537 : decode cL_law 537 = .ok (.aload_n 2, 1) := by decide +kernel
theorem dL_law_538 : decode cL_law 538 = .ok (.aload_n 0, 1) := by decide +kernel
theorem dL_law_539 : decode cL_law 539 = .ok (.iload_n 3, 1) := by decide +kernel
theorem dL_law_540 : decode cL_law 540 = .ok (.iconst 1, 1) := by decide +kernel
theorem dL_law_541 : decode cL_law 541 = .ok (.iadd, 1) := by decide +kernel
theorem dL_law_542 : decode cL_law 542 = .ok (.iaload, 1) := by decide +kernel
theorem dL_law_543 : decode cL_law 543 = .ok (.aload_n 0, 1) := by decide +kernel
theorem dL_law_544 : decode cL_law 544 = .ok (.iload_n 3, 1) := by decide +kernel
theorem dL_law_545 : decode cL_law 545 = .ok (.iconst 2, 1) := by decide +kernel
theorem dL_law_546 : decode cL_law 546 = .ok (.iadd, 1) := by decide +kernel
theorem dL_law_547 : decode cL_law 547 = .ok (.iaload, 1) := by decide +kernel
theorem dL_law_548 : decode cL_law 548 = .ok (.aload_n 0, 1) := by decide +kernel
theorem dL_law_549 : decode cL_law 549 = .ok (.iload_n 3, 1) := by decide +kernel
theorem dL_law_550 : decode cL_law 550 = .ok (.iconst 3, 1) := by decide +kernel
theorem dL_law_551 : decode cL_law 551 = .ok (.iadd, 1) := by decide +kernel
theorem dL_law_552 : decode cL_law 552 = .ok (.iaload, 1) := by decide +kernel
theorem dL_law_553 : decode cL_law 553 = .ok (.invokevirtual 69, 3) := by decide +kernel
theorem dL_law_556 : decode cL_law 556 = .ok (.if_icmp .eq 244, 3) := by decide +kernel
theorem dL_law_559 : decode cL_law 559 = .ok (.iconst 0, 1) := by decide +kernel
theorem dL_law_560 : decode cL_law 560 = .ok (.ireturn, 1) := by decide +kernel
theorem dL_law_561 : decode cL_law 561 = .ok (.aload_n 1, 1) := by decide +kernel
theorem dL_law_562 : decode cL_law 562 = .ok (.aload_n 0, 1) := by decide +kernel
theorem dL_law_563 : decode cL_law 563 = .ok (.iload_n 3, 1) := by decide +kernel
theorem dL_law_564 : decode cL_law 564 = .ok (.iconst 1, 1) := by decide +kernel
theorem dL_law_565 : decode cL_law 565 = .ok (.iadd, 1) := by decide +kernel
theorem dL_law_566 : decode cL_law 566 = .ok (.iaload, 1) := by decide +kernel
theorem dL_law_567 : decode cL_law 567 = .ok (.aload_n 0, 1) := by decide +kernel
theorem dL_law_568 : decode cL_law 568 = .ok (.iload_n 3, 1) := by decide +kernel
theorem dL_law_569 : decode cL_law 569 = .ok (.iconst 2, 1) := by decide +kernel
theorem dL_law_570 : decode cL_law 570 = .ok (.iadd, 1) := by decide +kernel
theorem dL_law_571 : decode cL_law 571 = .ok (.iaload, 1) := by decide +kernel
theorem dL_law_572 : decode cL_law 572 = .ok (.invokevirtual 70, 3) := by decide +kernel
theorem dL_law_575 : decode cL_law 575 = .ok (.aload_n 2, 1) := by decide +kernel
theorem dL_law_576 : decode cL_law 576 = .ok (.aload_n 0, 1) := by decide +kernel
theorem dL_law_577 : decode cL_law 577 = .ok (.iload_n 3, 1) := by decide +kernel
theorem dL_law_578 : decode cL_law 578 = .ok (.iconst 1, 1) := by decide +kernel
theorem dL_law_579 : decode cL_law 579 = .ok (.iadd, 1) := by decide +kernel
theorem dL_law_580 : decode cL_law 580 = .ok (.iaload, 1) := by decide +kernel
theorem dL_law_581 : decode cL_law 581 = .ok (.aload_n 0, 1) := by decide +kernel
theorem dL_law_582 : decode cL_law 582 = .ok (.iload_n 3, 1) := by decide +kernel
theorem dL_law_583 : decode cL_law 583 = .ok (.iconst 2, 1) := by decide +kernel
theorem dL_law_584 : decode cL_law 584 = .ok (.iadd, 1) := by decide +kernel
theorem dL_law_585 : decode cL_law 585 = .ok (.iaload, 1) := by decide +kernel
theorem dL_law_586 : decode cL_law 586 = .ok (.invokevirtual 73, 3) := by decide +kernel
theorem dL_law_589 : decode cL_law 589 = .ok (.if_icmp .eq 211, 3) := by decide +kernel
theorem dL_law_592 : decode cL_law 592 = .ok (.iconst 0, 1) := by decide +kernel
theorem dL_law_593 : decode cL_law 593 = .ok (.ireturn, 1) := by decide +kernel
theorem dL_law_594 : decode cL_law 594 = .ok (.aload_n 1, 1) := by decide +kernel
theorem dL_law_595 : decode cL_law 595 = .ok (.invokevirtual 74, 3) := by decide +kernel
theorem dL_law_598 : decode cL_law 598 = .ok (.aload_n 2, 1) := by decide +kernel
theorem dL_law_599 : decode cL_law 599 = .ok (.invokevirtual 77, 3) := by decide +kernel
theorem dL_law_602 : decode cL_law 602 = .ok (.if_icmp .eq 198, 3) := by decide +kernel
theorem dL_law_605 : decode cL_law 605 = .ok (.iconst 0, 1) := by decide +kernel
theorem dL_law_606 : decode cL_law 606 = .ok (.ireturn, 1) := by decide +kernel
theorem dL_law_607 : decode cL_law 607 = .ok (.aload_n 1, 1) := by decide +kernel
theorem dL_law_608 : decode cL_law 608 = .ok (.aload_n 0, 1) := by decide +kernel
theorem dL_law_609 : decode cL_law 609 = .ok (.iload_n 3, 1) := by decide +kernel
theorem dL_law_610 : decode cL_law 610 = .ok (.iconst 1, 1) := by decide +kernel
theorem dL_law_611 : decode cL_law 611 = .ok (.iadd, 1) := by decide +kernel
theorem dL_law_612 : decode cL_law 612 = .ok (.iaload, 1) := by decide +kernel
theorem dL_law_613 : decode cL_law 613 = .ok (.invokevirtual 78, 3) := by decide +kernel
theorem dL_law_616 : decode cL_law 616 = .ok (.aload_n 2, 1) := by decide +kernel
theorem dL_law_617 : decode cL_law 617 = .ok (.aload_n 0, 1) := by decide +kernel
theorem dL_law_618 : decode cL_law 618 = .ok (.iload_n 3, 1) := by decide +kernel
theorem dL_law_619 : decode cL_law 619 = .ok (.iconst 1, 1) := by decide +kernel
theorem dL_law_620 : decode cL_law 620 = .ok (.iadd, 1) := by decide +kernel
theorem dL_law_621 : decode cL_law 621 = .ok (.iaload, 1) := by decide +kernel
theorem dL_law_622 : decode cL_law 622 = .ok (.invokevirtual 81, 3) := by decide +kernel
theorem dL_law_625 : decode cL_law 625 = .ok (.if_icmp .eq 175, 3) := by decide +kernel
theorem dL_law_628 : decode cL_law 628 = .ok (.iconst 0, 1) := by decide +kernel
theorem dL_law_629 : decode cL_law 629 = .ok (.ireturn, 1) := by decide +kernel
theorem dL_law_630 : decode cL_law 630 = .ok (.aload_n 1, 1) := by decide +kernel
theorem dL_law_631 : decode cL_law 631 = .ok (.aload_n 0, 1) := by decide +kernel
theorem dL_law_632 : decode cL_law 632 = .ok (.iload_n 3, 1) := by decide +kernel
theorem dL_law_633 : decode cL_law 633 = .ok (.iconst 1, 1) := by decide +kernel
theorem dL_law_634 : decode cL_law 634 = .ok (.iadd, 1) := by decide +kernel
theorem dL_law_635 : decode cL_law 635 = .ok (.iaload, 1) := by decide +kernel
theorem dL_law_636 : decode cL_law 636 = .ok (.aload_n 0, 1) := by decide +kernel
theorem dL_law_637 : decode cL_law 637 = .ok (.iload_n 3, 1) := by decide +kernel
theorem dL_law_638 : decode cL_law 638 = .ok (.iconst 2, 1) := by decide +kernel
theorem dL_law_639 : decode cL_law 639 = .ok (.iadd, 1) := by decide +kernel
theorem dL_law_640 : decode cL_law 640 = .ok (.iaload, 1) := by decide +kernel
theorem dL_law_641 : decode cL_law 641 = .ok (.invokevirtual 82, 3) := by decide +kernel
theorem dL_law_644 : decode cL_law 644 = .ok (.aload_n 2, 1) := by decide +kernel
theorem dL_law_645 : decode cL_law 645 = .ok (.aload_n 0, 1) := by decide +kernel
theorem dL_law_646 : decode cL_law 646 = .ok (.iload_n 3, 1) := by decide +kernel
theorem dL_law_647 : decode cL_law 647 = .ok (.iconst 1, 1) := by decide +kernel
theorem dL_law_648 : decode cL_law 648 = .ok (.iadd, 1) := by decide +kernel
theorem dL_law_649 : decode cL_law 649 = .ok (.iaload, 1) := by decide +kernel
theorem dL_law_650 : decode cL_law 650 = .ok (.aload_n 0, 1) := by decide +kernel
theorem dL_law_651 : decode cL_law 651 = .ok (.iload_n 3, 1) := by decide +kernel
theorem dL_law_652 : decode cL_law 652 = .ok (.iconst 2, 1) := by decide +kernel
theorem dL_law_653 : decode cL_law 653 = .ok (.iadd, 1) := by decide +kernel
theorem dL_law_654 : decode cL_law 654 = .ok (.iaload, 1) := by decide +kernel
theorem dL_law_655 : decode cL_law 655 = .ok (.invokevirtual 85, 3) := by decide +kernel
theorem dL_law_658 : decode cL_law 658 = .ok (.if_icmp .eq 142, 3) := by decide +kernel
theorem dL_law_661 : decode cL_law 661 = .ok (.iconst 0, 1) := by decide +kernel
theorem dL_law_662 : decode cL_law 662 = .ok (.ireturn, 1) := by decide +kernel
theorem dL_law_663 : decode cL_law 663 = .ok (.aload_n 1, 1) := by decide +kernel
theorem dL_law_664 : decode cL_law 664 = .ok (.invokevirtual 86, 3) := by decide +kernel
theorem dL_law_667 : decode cL_law 667 = .ok (.aload_n 2, 1) := by decide +kernel
theorem dL_law_668 : decode cL_law 668 = .ok (.invokevirtual 89, 3) := by decide +kernel
theorem dL_law_671 : decode cL_law 671 = .ok (.if_icmp .eq 129, 3) := by decide +kernel
theorem dL_law_674 : decode cL_law 674 = .ok (.iconst 0, 1) := by decide +kernel
theorem dL_law_675 : decode cL_law 675 = .ok (.ireturn, 1) := by decide +kernel
theorem dL_law_676 : decode cL_law 676 = .ok (.aload_n 1, 1) := by decide +kernel
theorem dL_law_677 : decode cL_law 677 = .ok (.invokevirtual 90, 3) := by decide +kernel
theorem dL_law_680 : decode cL_law 680 = .ok (.aload_n 2, 1) := by decide +kernel
theorem dL_law_681 : decode cL_law 681 = .ok (.invokevirtual 93, 3) := by decide +kernel
theorem dL_law_684 : decode cL_law 684 = .ok (.if_icmp .eq 116, 3) := by decide +kernel
theorem dL_law_687 : decode cL_law 687 = .ok (.iconst 0, 1) := by decide +kernel
theorem dL_law_688 : decode cL_law 688 = .ok (.ireturn, 1) := by decide +kernel
theorem dL_law_689 : decode cL_law 689 = .ok (.aload_n 1, 1) := by decide +kernel
theorem dL_law_690 : decode cL_law 690 = .ok (.invokevirtual 94, 3) := by decide +kernel
theorem dL_law_693 : decode cL_law 693 = .ok (.aload_n 2, 1) := by decide +kernel
theorem dL_law_694 : decode cL_law 694 = .ok (.invokevirtual 97, 3) := by decide +kernel
theorem dL_law_697 : decode cL_law 697 = .ok (.if_icmp .eq 103, 3) := by decide +kernel
theorem dL_law_700 : decode cL_law 700 = .ok (.iconst 0, 1) := by decide +kernel
theorem dL_law_701 : decode cL_law 701 = .ok (.ireturn, 1) := by decide +kernel
theorem dL_law_702 : decode cL_law 702 = .ok (.aload_n 1, 1) := by decide +kernel
theorem dL_law_703 : decode cL_law 703 = .ok (.invokevirtual 98, 3) := by decide +kernel
theorem dL_law_706 : decode cL_law 706 = .ok (.aload_n 2, 1) := by decide +kernel
theorem dL_law_707 : decode cL_law 707 = .ok (.invokevirtual 101, 3) := by decide +kernel
theorem dL_law_710 : decode cL_law 710 = .ok (.if_icmp .eq 90, 3) := by decide +kernel
theorem dL_law_713 : decode cL_law 713 = .ok (.iconst 0, 1) := by decide +kernel
theorem dL_law_714 : decode cL_law 714 = .ok (.ireturn, 1) := by decide +kernel
theorem dL_law_715 : decode cL_law 715 = .ok (.aload_n 1, 1) := by decide +kernel
theorem dL_law_716 : decode cL_law 716 = .ok (.invokevirtual 102, 3) := by decide +kernel
theorem dL_law_719 : decode cL_law 719 = .ok (.aload_n 2, 1) := by decide +kernel
theorem dL_law_720 : decode cL_law 720 = .ok (.invokevirtual 105, 3) := by decide +kernel
theorem dL_law_723 : decode cL_law 723 = .ok (.if_icmp .eq 77, 3) := by decide +kernel
theorem dL_law_726 : decode cL_law 726 = .ok (.iconst 0, 1) := by decide +kernel
theorem dL_law_727 : decode cL_law 727 = .ok (.ireturn, 1) := by decide +kernel
theorem dL_law_728 : decode cL_law 728 = .ok (.aload_n 1, 1) := by decide +kernel
theorem dL_law_729 : decode cL_law 729 = .ok (.aload_n 0, 1) := by decide +kernel
theorem dL_law_730 : decode cL_law 730 = .ok (.iload_n 3, 1) := by decide +kernel
theorem dL_law_731 : decode cL_law 731 = .ok (.iconst 1, 1) := by decide +kernel
theorem dL_law_732 : decode cL_law 732 = .ok (.iadd, 1) := by decide +kernel
theorem dL_law_733 : decode cL_law 733 = .ok (.iaload, 1) := by decide +kernel
theorem dL_law_734 : decode cL_law 734 = .ok (.invokevirtual 106, 3) := by decide +kernel
theorem dL_law_737 : decode cL_law 737 = .ok (.aload_n 2, 1) := by decide +kernel
theorem dL_law_738 : decode cL_law 738 = .ok (.aload_n 0, 1) := by decide +kernel
theorem dL_law_739 : decode cL_law 739 = .ok (.iload_n 3, 1) := by decide +kernel
theorem dL_law_740 : decode cL_law 740 = .ok (.iconst 1, 1) := by decide +kernel
theorem dL_law_741 : decode cL_law 741 = .ok (.iadd, 1) := by decide +kernel
theorem dL_law_742 : decode cL_law 742 = .ok (.iaload, 1) := by decide +kernel
theorem dL_law_743 : decode cL_law 743 = .ok (.invokevirtual 109, 3) := by decide +kernel
theorem dL_law_746 : decode cL_law 746 = .ok (.if_icmp .eq 54, 3) := by decide +kernel
theorem dL_law_749 : decode cL_law 749 = .ok (.iconst 0, 1) := by decide +kernel
theorem dL_law_750 : decode cL_law 750 = .ok (.ireturn, 1) := by decide +kernel
theorem dL_law_751 : decode cL_law 751 = .ok (.aload_n 1, 1) := by decide +kernel
theorem dL_law_752 : decode cL_law 752 = .ok (.invokevirtual 110, 3) := by decide +kernel
theorem dL_law_755 : decode cL_law 755 = .ok (.aload_n 2, 1) := by decide +kernel
theorem dL_law_756 : decode cL_law 756 = .ok (.invokevirtual 113, 3) := by decide +kernel
theorem dL_law_759 : decode cL_law 759 = .ok (.if_icmp .eq 41, 3) := by decide +kernel
theorem dL_law_762 : decode cL_law 762 = .ok (.iconst 0, 1) := by decide +kernel
theorem dL_law_763 : decode cL_law 763 = .ok (.ireturn, 1) := by decide +kernel
theorem dL_law_764 : decode cL_law 764 = .ok (.aload_n 1, 1) := by decide +kernel
theorem dL_law_765 : decode cL_law 765 = .ok (.aload_n 0, 1) := by decide +kernel
theorem dL_law_766 : decode cL_law 766 = .ok (.iload_n 3, 1) := by decide +kernel
theorem dL_law_767 : decode cL_law 767 = .ok (.iconst 1, 1) := by decide +kernel
theorem dL_law_768 : decode cL_law 768 = .ok (.iadd, 1) := by decide +kernel
theorem dL_law_769 : decode cL_law 769 = .ok (.iaload, 1) := by decide +kernel
theorem dL_law_770 : decode cL_law 770 = .ok (.invokevirtual 114, 3) := by decide +kernel
theorem dL_law_773 : decode cL_law 773 = .ok (.aload_n 2, 1) := by decide +kernel
theorem dL_law_774 : decode cL_law 774 = .ok (.aload_n 0, 1) := by decide +kernel
theorem dL_law_775 : decode cL_law 775 = .ok (.iload_n 3, 1) := by decide +kernel
theorem dL_law_776 : decode cL_law 776 = .ok (.iconst 1, 1) := by decide +kernel
theorem dL_law_777 : decode cL_law 777 = .ok (.iadd, 1) := by decide +kernel
theorem dL_law_778 : decode cL_law 778 = .ok (.iaload, 1) := by decide +kernel
theorem dL_law_779 : decode cL_law 779 = .ok (.invokevirtual 117, 3) := by decide +kernel
theorem dL_law_782 : decode cL_law 782 = .ok (.if_icmp .eq 18, 3) := by decide +kernel
theorem dL_law_785 : decode cL_law 785 = .ok (.iconst 0, 1) := by decide +kernel
theorem dL_law_786 : decode cL_law 786 = .ok (.ireturn, 1) := by decide +kernel
theorem dL_law_787 : decode cL_law 787 = .ok (.aload_n 1, 1) := by decide +kernel
theorem dL_law_788 : decode cL_law 788 = .ok (.invokevirtual 118, 3) := by decide +kernel
theorem dL_law_791 : decode cL_law 791 = .ok (.aload_n 2, 1) := by decide +kernel
theorem dL_law_792 : decode cL_law 792 = .ok (.invokevirtual 121, 3) := by decide +kernel
theorem dL_law_795 : decode cL_law 795 = .ok (.if_icmp .eq 5, 3) := by decide +kernel
theorem dL_law_798 : decode cL_law 798 = .ok (.iconst 0, 1) := by decide +kernel
theorem dL_law_799 : decode cL_law 799 = .ok (.ireturn, 1) := by decide +kernel
theorem dL_law_800 : decode cL_law 800 = .ok (.iinc 3 5, 3) := by decide +kernel
theorem dL_law_803 : decode cL_law 803 = .ok (.goto (-785), 3) := by decide +kernel
theorem dL_law_806 : decode cL_law 806 = .ok (.iconst 1, 1) := by decide +kernel
theorem dL_law_807 : decode cL_law 807 = .ok (.ireturn, 1) := by decide +kernel
end
section
/-- the words that every method of the two classes is given: the tables' words that keep -/
def WS : List Cond := lw_tbl.filter goodWord
def o_isN : Cond → Bool
  | .fieldLinkNest .. => true
  | .methodLinkNest .. => true
  | _ => false
/-- the nest mates' words -/
def o_N : List Cond := lw_tbl.filter o_isN
theorem o_gWS : GoodIn WS WS := fun w hw => ⟨hw, good_of_word (List.mem_filter.mp hw).2⟩
theorem o_gL : GoodIn lw_tbl WS := fun w hw => ⟨(List.mem_filter.mp hw).1, good_of_word (List.mem_filter.mp hw).2⟩
/-- what the tables say of a static method, of an instance method -/
def o_MS (y : MethodName) (bytes : ByteArray) (maxL : Nat) (ret : Option FieldType) (n : Nat) : Prop := Cond.code y bytes maxL ret ∈ WS ∧ Cond.static y ∈ WS ∧ Cond.initialized y.cls ∈ WS ∧ y.cls ≠ "java/lang/invoke/MethodHandle" ∧ y.cls ≠ "java/lang/invoke/VarHandle" ∧ (parseMethodDescriptor y.desc).map (fun d => d.parameters.length) = some n
def o_MV (C : String) (y : MethodName) (bytes : ByteArray) (maxL : Nat) (ret : Option FieldType) (n : Nat) : Prop := y.cls = C ∧ Cond.code y bytes maxL ret ∈ WS ∧ Cond.instanceMethod y ∈ WS ∧ Cond.selects C y y ∈ WS ∧ Cond.initialized C ∈ WS ∧ C ≠ "java/lang/invoke/MethodHandle" ∧ C ≠ "java/lang/invoke/VarHandle" ∧ (parseMethodDescriptor y.desc).map (fun d => d.parameters.length) = some n
theorem kIn_L : (Cond.initialized RL : Cond) ∈ WS := List.mem_filter.mpr ⟨List.mem_of_getElem? (i := 48) (by decide +kernel), by decide +kernel⟩
theorem kIn_X5 : (Cond.initialized RX5 : Cond) ∈ WS := List.mem_filter.mpr ⟨List.mem_of_getElem? (i := 49) (by decide +kernel), by decide +kernel⟩
theorem kIn_X3 : (Cond.initialized RX3 : Cond) ∈ WS := List.mem_filter.mpr ⟨List.mem_of_getElem? (i := 50) (by decide +kernel), by decide +kernel⟩
theorem kIn_X2 : (Cond.initialized RX2 : Cond) ∈ WS := List.mem_filter.mpr ⟨List.mem_of_getElem? (i := 51) (by decide +kernel), by decide +kernel⟩
theorem kIn_X1 : (Cond.initialized RX1 : Cond) ∈ WS := List.mem_filter.mpr ⟨List.mem_of_getElem? (i := 52) (by decide +kernel), by decide +kernel⟩
theorem kIn_X4 : (Cond.initialized RX4 : Cond) ∈ WS := List.mem_filter.mpr ⟨List.mem_of_getElem? (i := 53) (by decide +kernel), by decide +kernel⟩
theorem kIn_X0 : (Cond.initialized RX0 : Cond) ∈ WS := List.mem_filter.mpr ⟨List.mem_of_getElem? (i := 54) (by decide +kernel), by decide +kernel⟩
theorem kIn_X6 : (Cond.initialized RX6 : Cond) ∈ WS := List.mem_filter.mpr ⟨List.mem_of_getElem? (i := 55) (by decide +kernel), by decide +kernel⟩
theorem kIn_Math : (Cond.initialized "java/lang/Math" : Cond) ∈ WS := List.mem_filter.mpr ⟨List.mem_of_getElem? (i := 56) (by decide +kernel), by decide +kernel⟩
theorem kL_L_7 : (Cond.classLink RL 7 RX5 : Cond) ∈ WS := List.mem_filter.mpr ⟨List.mem_of_getElem? (i := 57) (by decide +kernel), by decide +kernel⟩
theorem kT_X5 : (Cond.instantiable RX5 5 : Cond) ∈ WS := List.mem_filter.mpr ⟨List.mem_of_getElem? (i := 58) (by decide +kernel), by decide +kernel⟩
theorem kM_L_9 : (Cond.methodLink RL 9 yX5_init : Cond) ∈ WS := List.mem_filter.mpr ⟨List.mem_of_getElem? (i := 59) (by decide +kernel), by decide +kernel⟩
theorem kI_X5_init : (Cond.instanceMethod yX5_init : Cond) ∈ WS := List.mem_filter.mpr ⟨List.mem_of_getElem? (i := 60) (by decide +kernel), by decide +kernel⟩
theorem kC_X5_init : (Cond.code yX5_init cX5_init 1 none : Cond) ∈ WS := List.mem_filter.mpr ⟨List.mem_of_getElem? (i := 61) (by decide +kernel), by decide +kernel⟩
theorem kM_X5_3 : (Cond.methodLink RX5 3 Lib.objectInit : Cond) ∈ WS := List.mem_filter.mpr ⟨List.mem_of_getElem? (i := 62) (by decide +kernel), by decide +kernel⟩
theorem kI_Object_init : (Cond.instanceMethod Lib.objectInit : Cond) ∈ WS := List.mem_filter.mpr ⟨List.mem_of_getElem? (i := 63) (by decide +kernel), by decide +kernel⟩
theorem kC_Object_init : (Cond.code Lib.objectInit ⟨#[0xb1]⟩ 1 none : Cond) ∈ WS := List.mem_filter.mpr ⟨List.mem_of_getElem? (i := 64) (by decide +kernel), by decide +kernel⟩
theorem kL_X5_9 : (Cond.classLink RX5 9 RX3 : Cond) ∈ WS := List.mem_filter.mpr ⟨List.mem_of_getElem? (i := 65) (by decide +kernel), by decide +kernel⟩
theorem kT_X3 : (Cond.instantiable RX3 11 : Cond) ∈ WS := List.mem_filter.mpr ⟨List.mem_of_getElem? (i := 66) (by decide +kernel), by decide +kernel⟩
theorem kN_X5_11 : (Cond.methodLinkNest RX5 11 yX3_init RX5 : Cond) ∈ o_N := List.mem_filter.mpr ⟨List.mem_of_getElem? (i := 67) (by decide +kernel), by decide +kernel⟩
theorem kI_X3_init : (Cond.instanceMethod yX3_init : Cond) ∈ WS := List.mem_filter.mpr ⟨List.mem_of_getElem? (i := 68) (by decide +kernel), by decide +kernel⟩
theorem kC_X3_init : (Cond.code yX3_init cX3_init 1 none : Cond) ∈ WS := List.mem_filter.mpr ⟨List.mem_of_getElem? (i := 69) (by decide +kernel), by decide +kernel⟩
theorem kM_X3_3 : (Cond.methodLink RX3 3 Lib.objectInit : Cond) ∈ WS := List.mem_filter.mpr ⟨List.mem_of_getElem? (i := 70) (by decide +kernel), by decide +kernel⟩
theorem kF_X3_9 : (Cond.fieldLink RX3 9 RX3 "place" "I" : Cond) ∈ WS := List.mem_filter.mpr ⟨List.mem_of_getElem? (i := 71) (by decide +kernel), by decide +kernel⟩
theorem kN_X5_48 : (Cond.fieldLinkNest RX5 48 RX3 "place" "I" RX5 : Cond) ∈ o_N := List.mem_filter.mpr ⟨List.mem_of_getElem? (i := 72) (by decide +kernel), by decide +kernel⟩
theorem kF_X3_15 : (Cond.fieldLink RX3 15 RX3 "counter" "I" : Cond) ∈ WS := List.mem_filter.mpr ⟨List.mem_of_getElem? (i := 73) (by decide +kernel), by decide +kernel⟩
theorem kN_X4_24 : (Cond.fieldLinkNest RX4 24 RX3 "counter" "I" RX5 : Cond) ∈ o_N := List.mem_filter.mpr ⟨List.mem_of_getElem? (i := 74) (by decide +kernel), by decide +kernel⟩
theorem kN_X5_85 : (Cond.fieldLinkNest RX5 85 RX3 "counter" "I" RX5 : Cond) ∈ o_N := List.mem_filter.mpr ⟨List.mem_of_getElem? (i := 75) (by decide +kernel), by decide +kernel⟩
theorem kF_X3_18 : (Cond.fieldLink RX3 18 RX3 "powered" "Z" : Cond) ∈ WS := List.mem_filter.mpr ⟨List.mem_of_getElem? (i := 76) (by decide +kernel), by decide +kernel⟩
theorem kN_X5_67 : (Cond.fieldLinkNest RX5 67 RX3 "powered" "Z" RX5 : Cond) ∈ o_N := List.mem_filter.mpr ⟨List.mem_of_getElem? (i := 77) (by decide +kernel), by decide +kernel⟩
theorem kF_X3_22 : (Cond.fieldLink RX3 22 RX3 "battery" "I" : Cond) ∈ WS := List.mem_filter.mpr ⟨List.mem_of_getElem? (i := 78) (by decide +kernel), by decide +kernel⟩
theorem kN_X5_78 : (Cond.fieldLinkNest RX5 78 RX3 "battery" "I" RX5 : Cond) ∈ o_N := List.mem_filter.mpr ⟨List.mem_of_getElem? (i := 79) (by decide +kernel), by decide +kernel⟩
theorem kF_X3_25 : (Cond.fieldLink RX3 25 RX3 "toMiss" "I" : Cond) ∈ WS := List.mem_filter.mpr ⟨List.mem_of_getElem? (i := 80) (by decide +kernel), by decide +kernel⟩
theorem kN_X5_75 : (Cond.fieldLinkNest RX5 75 RX3 "toMiss" "I" RX5 : Cond) ∈ o_N := List.mem_filter.mpr ⟨List.mem_of_getElem? (i := 81) (by decide +kernel), by decide +kernel⟩
theorem kF_X3_28 : (Cond.fieldLink RX3 28 RX3 "accepted" "I" : Cond) ∈ WS := List.mem_filter.mpr ⟨List.mem_of_getElem? (i := 82) (by decide +kernel), by decide +kernel⟩
theorem kN_X4_60 : (Cond.fieldLinkNest RX4 60 RX3 "accepted" "I" RX5 : Cond) ∈ o_N := List.mem_filter.mpr ⟨List.mem_of_getElem? (i := 83) (by decide +kernel), by decide +kernel⟩
theorem kN_X5_88 : (Cond.fieldLinkNest RX5 88 RX3 "accepted" "I" RX5 : Cond) ∈ o_N := List.mem_filter.mpr ⟨List.mem_of_getElem? (i := 84) (by decide +kernel), by decide +kernel⟩
theorem kF_X3_31 : (Cond.fieldLink RX3 31 RX3 "apartInRow" "I" : Cond) ∈ WS := List.mem_filter.mpr ⟨List.mem_of_getElem? (i := 85) (by decide +kernel), by decide +kernel⟩
theorem kN_X4_27 : (Cond.fieldLinkNest RX4 27 RX3 "apartInRow" "I" RX5 : Cond) ∈ o_N := List.mem_filter.mpr ⟨List.mem_of_getElem? (i := 86) (by decide +kernel), by decide +kernel⟩
theorem kN_X5_91 : (Cond.fieldLinkNest RX5 91 RX3 "apartInRow" "I" RX5 : Cond) ∈ o_N := List.mem_filter.mpr ⟨List.mem_of_getElem? (i := 87) (by decide +kernel), by decide +kernel⟩
theorem kF_X3_34 : (Cond.fieldLink RX3 34 RX3 "settings" "[I" : Cond) ∈ WS := List.mem_filter.mpr ⟨List.mem_of_getElem? (i := 88) (by decide +kernel), by decide +kernel⟩
theorem kN_X4_37 : (Cond.fieldLinkNest RX4 37 RX3 "settings" "[I" RX5 : Cond) ∈ o_N := List.mem_filter.mpr ⟨List.mem_of_getElem? (i := 89) (by decide +kernel), by decide +kernel⟩
theorem kN_X5_148 : (Cond.fieldLinkNest RX5 148 RX3 "settings" "[I" RX5 : Cond) ∈ o_N := List.mem_filter.mpr ⟨List.mem_of_getElem? (i := 90) (by decide +kernel), by decide +kernel⟩
theorem kF_X3_38 : (Cond.fieldLink RX3 38 RX3 "errors" "[I" : Cond) ∈ WS := List.mem_filter.mpr ⟨List.mem_of_getElem? (i := 91) (by decide +kernel), by decide +kernel⟩
theorem kN_X5_116 : (Cond.fieldLinkNest RX5 116 RX3 "errors" "[I" RX5 : Cond) ∈ o_N := List.mem_filter.mpr ⟨List.mem_of_getElem? (i := 92) (by decide +kernel), by decide +kernel⟩
theorem kF_X3_41 : (Cond.fieldLink RX3 41 RX3 "noises" "[I" : Cond) ∈ WS := List.mem_filter.mpr ⟨List.mem_of_getElem? (i := 93) (by decide +kernel), by decide +kernel⟩
theorem kN_X5_136 : (Cond.fieldLinkNest RX5 136 RX3 "noises" "[I" RX5 : Cond) ∈ o_N := List.mem_filter.mpr ⟨List.mem_of_getElem? (i := 94) (by decide +kernel), by decide +kernel⟩
theorem kF_X3_44 : (Cond.fieldLink RX3 44 RX3 "corrections" "[I" : Cond) ∈ WS := List.mem_filter.mpr ⟨List.mem_of_getElem? (i := 95) (by decide +kernel), by decide +kernel⟩
theorem kN_X5_171 : (Cond.fieldLinkNest RX5 171 RX3 "corrections" "[I" RX5 : Cond) ∈ o_N := List.mem_filter.mpr ⟨List.mem_of_getElem? (i := 96) (by decide +kernel), by decide +kernel⟩
theorem kA_int : (Cond.arrayClass .int : Cond) ∈ WS := List.mem_filter.mpr ⟨List.mem_of_getElem? (i := 120) (by decide +kernel), by decide +kernel⟩
theorem kL_X5_16 : (Cond.classLink RX5 16 RX2 : Cond) ∈ WS := List.mem_filter.mpr ⟨List.mem_of_getElem? (i := 121) (by decide +kernel), by decide +kernel⟩
theorem kT_X2 : (Cond.instantiable RX2 3 : Cond) ∈ WS := List.mem_filter.mpr ⟨List.mem_of_getElem? (i := 122) (by decide +kernel), by decide +kernel⟩
theorem kN_X5_18 : (Cond.methodLinkNest RX5 18 yX2_init RX5 : Cond) ∈ o_N := List.mem_filter.mpr ⟨List.mem_of_getElem? (i := 123) (by decide +kernel), by decide +kernel⟩
theorem kI_X2_init : (Cond.instanceMethod yX2_init : Cond) ∈ WS := List.mem_filter.mpr ⟨List.mem_of_getElem? (i := 124) (by decide +kernel), by decide +kernel⟩
theorem kC_X2_init : (Cond.code yX2_init cX2_init 1 none : Cond) ∈ WS := List.mem_filter.mpr ⟨List.mem_of_getElem? (i := 125) (by decide +kernel), by decide +kernel⟩
theorem kM_X2_3 : (Cond.methodLink RX2 3 Lib.objectInit : Cond) ∈ WS := List.mem_filter.mpr ⟨List.mem_of_getElem? (i := 126) (by decide +kernel), by decide +kernel⟩
theorem kL_X2_9 : (Cond.classLink RX2 9 RX3 : Cond) ∈ WS := List.mem_filter.mpr ⟨List.mem_of_getElem? (i := 127) (by decide +kernel), by decide +kernel⟩
theorem kA_State : (Cond.arrayOver (.object RX3) : Cond) ∈ lw_tbl := List.mem_of_getElem? (i := 128) (by decide +kernel)
theorem kN_X2_11 : (Cond.methodLinkNest RX2 11 yX3_init RX5 : Cond) ∈ o_N := List.mem_filter.mpr ⟨List.mem_of_getElem? (i := 129) (by decide +kernel), by decide +kernel⟩
theorem kF_X2_12 : (Cond.fieldLink RX2 12 RX2 "states" "[LVernierEncoder$State;" : Cond) ∈ WS := List.mem_filter.mpr ⟨List.mem_of_getElem? (i := 130) (by decide +kernel), by decide +kernel⟩
theorem kF_X2_18 : (Cond.fieldLink RX2 18 RX2 "oldest" "I" : Cond) ∈ WS := List.mem_filter.mpr ⟨List.mem_of_getElem? (i := 131) (by decide +kernel), by decide +kernel⟩
theorem kF_X2_22 : (Cond.fieldLink RX2 22 RX2 "size" "I" : Cond) ∈ WS := List.mem_filter.mpr ⟨List.mem_of_getElem? (i := 132) (by decide +kernel), by decide +kernel⟩
theorem kN_X5_100 : (Cond.fieldLinkNest RX5 100 RX2 "size" "I" RX5 : Cond) ∈ o_N := List.mem_filter.mpr ⟨List.mem_of_getElem? (i := 133) (by decide +kernel), by decide +kernel⟩
theorem kL_X5_23 : (Cond.classLink RX5 23 RX1 : Cond) ∈ WS := List.mem_filter.mpr ⟨List.mem_of_getElem? (i := 141) (by decide +kernel), by decide +kernel⟩
theorem kT_X1 : (Cond.instantiable RX1 4 : Cond) ∈ WS := List.mem_filter.mpr ⟨List.mem_of_getElem? (i := 142) (by decide +kernel), by decide +kernel⟩
theorem kN_X5_25 : (Cond.methodLinkNest RX5 25 yX1_init RX5 : Cond) ∈ o_N := List.mem_filter.mpr ⟨List.mem_of_getElem? (i := 143) (by decide +kernel), by decide +kernel⟩
theorem kI_X1_init : (Cond.instanceMethod yX1_init : Cond) ∈ WS := List.mem_filter.mpr ⟨List.mem_of_getElem? (i := 144) (by decide +kernel), by decide +kernel⟩
theorem kC_X1_init : (Cond.code yX1_init cX1_init 1 none : Cond) ∈ WS := List.mem_filter.mpr ⟨List.mem_of_getElem? (i := 145) (by decide +kernel), by decide +kernel⟩
theorem kM_X1_1 : (Cond.methodLink RX1 1 Lib.objectInit : Cond) ∈ WS := List.mem_filter.mpr ⟨List.mem_of_getElem? (i := 146) (by decide +kernel), by decide +kernel⟩
theorem kF_X1_7 : (Cond.fieldLink RX1 7 RX1 "first" "I" : Cond) ∈ WS := List.mem_filter.mpr ⟨List.mem_of_getElem? (i := 147) (by decide +kernel), by decide +kernel⟩
theorem kN_X5_190 : (Cond.fieldLinkNest RX5 190 RX1 "first" "I" RX5 : Cond) ∈ o_N := List.mem_filter.mpr ⟨List.mem_of_getElem? (i := 148) (by decide +kernel), by decide +kernel⟩
theorem kF_X1_13 : (Cond.fieldLink RX1 13 RX1 "last" "I" : Cond) ∈ WS := List.mem_filter.mpr ⟨List.mem_of_getElem? (i := 149) (by decide +kernel), by decide +kernel⟩
theorem kN_X4_45 : (Cond.fieldLinkNest RX4 45 RX1 "last" "I" RX5 : Cond) ∈ o_N := List.mem_filter.mpr ⟨List.mem_of_getElem? (i := 150) (by decide +kernel), by decide +kernel⟩
theorem kN_X5_184 : (Cond.fieldLinkNest RX5 184 RX1 "last" "I" RX5 : Cond) ∈ o_N := List.mem_filter.mpr ⟨List.mem_of_getElem? (i := 151) (by decide +kernel), by decide +kernel⟩
theorem kF_X1_16 : (Cond.fieldLink RX1 16 RX1 "lastDeviation" "I" : Cond) ∈ WS := List.mem_filter.mpr ⟨List.mem_of_getElem? (i := 152) (by decide +kernel), by decide +kernel⟩
theorem kN_X4_32 : (Cond.fieldLinkNest RX4 32 RX1 "lastDeviation" "I" RX5 : Cond) ∈ o_N := List.mem_filter.mpr ⟨List.mem_of_getElem? (i := 153) (by decide +kernel), by decide +kernel⟩
theorem kN_X5_187 : (Cond.fieldLinkNest RX5 187 RX1 "lastDeviation" "I" RX5 : Cond) ∈ o_N := List.mem_filter.mpr ⟨List.mem_of_getElem? (i := 154) (by decide +kernel), by decide +kernel⟩
theorem kF_X1_19 : (Cond.fieldLink RX1 19 RX1 "angles" "I" : Cond) ∈ WS := List.mem_filter.mpr ⟨List.mem_of_getElem? (i := 155) (by decide +kernel), by decide +kernel⟩
theorem kN_X5_193 : (Cond.fieldLinkNest RX5 193 RX1 "angles" "I" RX5 : Cond) ∈ o_N := List.mem_filter.mpr ⟨List.mem_of_getElem? (i := 156) (by decide +kernel), by decide +kernel⟩
theorem kL_X5_30 : (Cond.classLink RX5 30 RX4 : Cond) ∈ WS := List.mem_filter.mpr ⟨List.mem_of_getElem? (i := 166) (by decide +kernel), by decide +kernel⟩
theorem kT_X4 : (Cond.instantiable RX4 4 : Cond) ∈ WS := List.mem_filter.mpr ⟨List.mem_of_getElem? (i := 167) (by decide +kernel), by decide +kernel⟩
theorem kN_X5_32 : (Cond.methodLinkNest RX5 32 yX4_init RX5 : Cond) ∈ o_N := List.mem_filter.mpr ⟨List.mem_of_getElem? (i := 168) (by decide +kernel), by decide +kernel⟩
theorem kI_X4_init : (Cond.instanceMethod yX4_init : Cond) ∈ WS := List.mem_filter.mpr ⟨List.mem_of_getElem? (i := 169) (by decide +kernel), by decide +kernel⟩
theorem kC_X4_init : (Cond.code yX4_init cX4_init 1 none : Cond) ∈ WS := List.mem_filter.mpr ⟨List.mem_of_getElem? (i := 170) (by decide +kernel), by decide +kernel⟩
theorem kM_X4_3 : (Cond.methodLink RX4 3 Lib.objectInit : Cond) ∈ WS := List.mem_filter.mpr ⟨List.mem_of_getElem? (i := 171) (by decide +kernel), by decide +kernel⟩
theorem kF_X4_9 : (Cond.fieldLink RX4 9 RX4 "refusal" "I" : Cond) ∈ WS := List.mem_filter.mpr ⟨List.mem_of_getElem? (i := 172) (by decide +kernel), by decide +kernel⟩
theorem kN_X5_208 : (Cond.fieldLinkNest RX5 208 RX4 "refusal" "I" RX5 : Cond) ∈ o_N := List.mem_filter.mpr ⟨List.mem_of_getElem? (i := 173) (by decide +kernel), by decide +kernel⟩
theorem kF_X4_15 : (Cond.fieldLink RX4 15 RX4 "counter" "I" : Cond) ∈ WS := List.mem_filter.mpr ⟨List.mem_of_getElem? (i := 174) (by decide +kernel), by decide +kernel⟩
theorem kN_X5_206 : (Cond.fieldLinkNest RX5 206 RX4 "counter" "I" RX5 : Cond) ∈ o_N := List.mem_filter.mpr ⟨List.mem_of_getElem? (i := 175) (by decide +kernel), by decide +kernel⟩
theorem kF_X4_18 : (Cond.fieldLink RX4 18 RX4 "apartInRow" "I" : Cond) ∈ WS := List.mem_filter.mpr ⟨List.mem_of_getElem? (i := 176) (by decide +kernel), by decide +kernel⟩
theorem kN_X5_207 : (Cond.fieldLinkNest RX5 207 RX4 "apartInRow" "I" RX5 : Cond) ∈ o_N := List.mem_filter.mpr ⟨List.mem_of_getElem? (i := 177) (by decide +kernel), by decide +kernel⟩
theorem kF_X4_21 : (Cond.fieldLink RX4 21 RX4 "place" "I" : Cond) ∈ WS := List.mem_filter.mpr ⟨List.mem_of_getElem? (i := 178) (by decide +kernel), by decide +kernel⟩
theorem kN_X5_212 : (Cond.fieldLinkNest RX5 212 RX4 "place" "I" RX5 : Cond) ∈ o_N := List.mem_filter.mpr ⟨List.mem_of_getElem? (i := 179) (by decide +kernel), by decide +kernel⟩
theorem kL_X5_37 : (Cond.classLink RX5 37 RX0 : Cond) ∈ WS := List.mem_filter.mpr ⟨List.mem_of_getElem? (i := 189) (by decide +kernel), by decide +kernel⟩
theorem kT_X0 : (Cond.instantiable RX0 7 : Cond) ∈ WS := List.mem_filter.mpr ⟨List.mem_of_getElem? (i := 190) (by decide +kernel), by decide +kernel⟩
theorem kN_X5_39 : (Cond.methodLinkNest RX5 39 yX0_init RX5 : Cond) ∈ o_N := List.mem_filter.mpr ⟨List.mem_of_getElem? (i := 191) (by decide +kernel), by decide +kernel⟩
theorem kI_X0_init : (Cond.instanceMethod yX0_init : Cond) ∈ WS := List.mem_filter.mpr ⟨List.mem_of_getElem? (i := 192) (by decide +kernel), by decide +kernel⟩
theorem kC_X0_init : (Cond.code yX0_init cX0_init 1 none : Cond) ∈ WS := List.mem_filter.mpr ⟨List.mem_of_getElem? (i := 193) (by decide +kernel), by decide +kernel⟩
theorem kM_X0_3 : (Cond.methodLink RX0 3 Lib.objectInit : Cond) ∈ WS := List.mem_filter.mpr ⟨List.mem_of_getElem? (i := 194) (by decide +kernel), by decide +kernel⟩
theorem kF_X0_9 : (Cond.fieldLink RX0 9 RX0 "characters" "[I" : Cond) ∈ WS := List.mem_filter.mpr ⟨List.mem_of_getElem? (i := 195) (by decide +kernel), by decide +kernel⟩
theorem kF_X0_15 : (Cond.fieldLink RX0 15 RX0 "length" "I" : Cond) ∈ WS := List.mem_filter.mpr ⟨List.mem_of_getElem? (i := 196) (by decide +kernel), by decide +kernel⟩
theorem kN_X5_103 : (Cond.fieldLinkNest RX5 103 RX0 "length" "I" RX5 : Cond) ∈ o_N := List.mem_filter.mpr ⟨List.mem_of_getElem? (i := 197) (by decide +kernel), by decide +kernel⟩
theorem kF_X0_19 : (Cond.fieldLink RX0 19 RX0 "table" "[I" : Cond) ∈ WS := List.mem_filter.mpr ⟨List.mem_of_getElem? (i := 198) (by decide +kernel), by decide +kernel⟩
theorem kN_X5_229 : (Cond.fieldLinkNest RX5 229 RX0 "table" "[I" RX5 : Cond) ∈ o_N := List.mem_filter.mpr ⟨List.mem_of_getElem? (i := 199) (by decide +kernel), by decide +kernel⟩
theorem kF_X0_22 : (Cond.fieldLink RX0 22 RX0 "named" "[I" : Cond) ∈ WS := List.mem_filter.mpr ⟨List.mem_of_getElem? (i := 200) (by decide +kernel), by decide +kernel⟩
theorem kF_X0_25 : (Cond.fieldLink RX0 25 RX0 "scanned" "I" : Cond) ∈ WS := List.mem_filter.mpr ⟨List.mem_of_getElem? (i := 201) (by decide +kernel), by decide +kernel⟩
theorem kN_X5_236 : (Cond.fieldLinkNest RX5 236 RX0 "scanned" "I" RX5 : Cond) ∈ o_N := List.mem_filter.mpr ⟨List.mem_of_getElem? (i := 202) (by decide +kernel), by decide +kernel⟩
theorem kF_X0_28 : (Cond.fieldLink RX0 28 RX0 "faultPosition" "I" : Cond) ∈ WS := List.mem_filter.mpr ⟨List.mem_of_getElem? (i := 203) (by decide +kernel), by decide +kernel⟩
theorem kN_X5_226 : (Cond.fieldLinkNest RX5 226 RX0 "faultPosition" "I" RX5 : Cond) ∈ o_N := List.mem_filter.mpr ⟨List.mem_of_getElem? (i := 204) (by decide +kernel), by decide +kernel⟩
theorem kF_X0_31 : (Cond.fieldLink RX0 31 RX0 "faultReason" "I" : Cond) ∈ WS := List.mem_filter.mpr ⟨List.mem_of_getElem? (i := 205) (by decide +kernel), by decide +kernel⟩
theorem kN_X5_223 : (Cond.fieldLinkNest RX5 223 RX0 "faultReason" "I" RX5 : Cond) ∈ o_N := List.mem_filter.mpr ⟨List.mem_of_getElem? (i := 206) (by decide +kernel), by decide +kernel⟩
theorem kF_X5_12 : (Cond.fieldLink RX5 12 RX5 "now" "LVernierEncoder$State;" : Cond) ∈ WS := List.mem_filter.mpr ⟨List.mem_of_getElem? (i := 222) (by decide +kernel), by decide +kernel⟩
theorem kF_X5_19 : (Cond.fieldLink RX5 19 RX5 "history" "LVernierEncoder$History;" : Cond) ∈ WS := List.mem_filter.mpr ⟨List.mem_of_getElem? (i := 223) (by decide +kernel), by decide +kernel⟩
theorem kF_X5_26 : (Cond.fieldLink RX5 26 RX5 "finding" "LVernierEncoder$Finding;" : Cond) ∈ WS := List.mem_filter.mpr ⟨List.mem_of_getElem? (i := 224) (by decide +kernel), by decide +kernel⟩
theorem kF_X5_33 : (Cond.fieldLink RX5 33 RX5 "trial" "LVernierEncoder$Trial;" : Cond) ∈ WS := List.mem_filter.mpr ⟨List.mem_of_getElem? (i := 225) (by decide +kernel), by decide +kernel⟩
theorem kF_X5_40 : (Cond.fieldLink RX5 40 RX5 "entries" "LVernierEncoder$Entries;" : Cond) ∈ WS := List.mem_filter.mpr ⟨List.mem_of_getElem? (i := 226) (by decide +kernel), by decide +kernel⟩
theorem kM_L_13 : (Cond.methodLink RL 13 yX5_turn : Cond) ∈ WS := List.mem_filter.mpr ⟨List.mem_of_getElem? (i := 238) (by decide +kernel), by decide +kernel⟩
theorem kI_X5_turn : (Cond.instanceMethod yX5_turn : Cond) ∈ WS := List.mem_filter.mpr ⟨List.mem_of_getElem? (i := 239) (by decide +kernel), by decide +kernel⟩
theorem kV_X5_turn : (Cond.selects RX5 yX5_turn yX5_turn : Cond) ∈ WS := List.mem_filter.mpr ⟨List.mem_of_getElem? (i := 240) (by decide +kernel), by decide +kernel⟩
theorem kC_X5_turn : (Cond.code yX5_turn cX5_turn 6 (some .int) : Cond) ∈ WS := List.mem_filter.mpr ⟨List.mem_of_getElem? (i := 241) (by decide +kernel), by decide +kernel⟩
theorem kM_X5_44 : (Cond.methodLink RX5 44 yX5_isOutside : Cond) ∈ WS := List.mem_filter.mpr ⟨List.mem_of_getElem? (i := 242) (by decide +kernel), by decide +kernel⟩
theorem kS_X5_isOutside : (Cond.static yX5_isOutside : Cond) ∈ WS := List.mem_filter.mpr ⟨List.mem_of_getElem? (i := 243) (by decide +kernel), by decide +kernel⟩
theorem kC_X5_isOutside : (Cond.code yX5_isOutside cX5_isOutside 3 (some .boolean) : Cond) ∈ WS := List.mem_filter.mpr ⟨List.mem_of_getElem? (i := 244) (by decide +kernel), by decide +kernel⟩
theorem kK_X5_52 : (Cond.constant RX5 52 65279 : Cond) ∈ WS := List.mem_filter.mpr ⟨List.mem_of_getElem? (i := 245) (by decide +kernel), by decide +kernel⟩
theorem kN_X5_53 : (Cond.methodLinkNest RX5 53 yX2_keep RX5 : Cond) ∈ o_N := List.mem_filter.mpr ⟨List.mem_of_getElem? (i := 246) (by decide +kernel), by decide +kernel⟩
theorem kI_X2_keep : (Cond.instanceMethod yX2_keep : Cond) ∈ WS := List.mem_filter.mpr ⟨List.mem_of_getElem? (i := 248) (by decide +kernel), by decide +kernel⟩
theorem kC_X2_keep : (Cond.code yX2_keep cX2_keep 3 none : Cond) ∈ WS := List.mem_filter.mpr ⟨List.mem_of_getElem? (i := 249) (by decide +kernel), by decide +kernel⟩
theorem kN_X2_25 : (Cond.methodLinkNest RX2 25 yX5_remainder RX5 : Cond) ∈ o_N := List.mem_filter.mpr ⟨List.mem_of_getElem? (i := 250) (by decide +kernel), by decide +kernel⟩
theorem kS_X5_remainder : (Cond.static yX5_remainder : Cond) ∈ WS := List.mem_filter.mpr ⟨List.mem_of_getElem? (i := 251) (by decide +kernel), by decide +kernel⟩
theorem kC_X5_remainder : (Cond.code yX5_remainder cX5_remainder 3 (some .int) : Cond) ∈ WS := List.mem_filter.mpr ⟨List.mem_of_getElem? (i := 252) (by decide +kernel), by decide +kernel⟩
theorem kM_X2_29 : (Cond.methodLink RX2 29 yX2_slot : Cond) ∈ WS := List.mem_filter.mpr ⟨List.mem_of_getElem? (i := 253) (by decide +kernel), by decide +kernel⟩
theorem kI_X2_slot : (Cond.instanceMethod yX2_slot : Cond) ∈ WS := List.mem_filter.mpr ⟨List.mem_of_getElem? (i := 255) (by decide +kernel), by decide +kernel⟩
theorem kC_X2_slot : (Cond.code yX2_slot cX2_slot 3 (some (.object RX3)) : Cond) ∈ WS := List.mem_filter.mpr ⟨List.mem_of_getElem? (i := 256) (by decide +kernel), by decide +kernel⟩
theorem kN_X2_33 : (Cond.methodLinkNest RX2 33 yX3_copyFrom RX5 : Cond) ∈ o_N := List.mem_filter.mpr ⟨List.mem_of_getElem? (i := 257) (by decide +kernel), by decide +kernel⟩
theorem kI_X3_copyFrom : (Cond.instanceMethod yX3_copyFrom : Cond) ∈ WS := List.mem_filter.mpr ⟨List.mem_of_getElem? (i := 259) (by decide +kernel), by decide +kernel⟩
theorem kC_X3_copyFrom : (Cond.code yX3_copyFrom cX3_copyFrom 2 none : Cond) ∈ WS := List.mem_filter.mpr ⟨List.mem_of_getElem? (i := 260) (by decide +kernel), by decide +kernel⟩
theorem kN_X3_47 : (Cond.methodLinkNest RX3 47 yX5_copy RX5 : Cond) ∈ o_N := List.mem_filter.mpr ⟨List.mem_of_getElem? (i := 261) (by decide +kernel), by decide +kernel⟩
theorem kS_X5_copy : (Cond.static yX5_copy : Cond) ∈ WS := List.mem_filter.mpr ⟨List.mem_of_getElem? (i := 262) (by decide +kernel), by decide +kernel⟩
theorem kC_X5_copy : (Cond.code yX5_copy cX5_copy 3 none : Cond) ∈ WS := List.mem_filter.mpr ⟨List.mem_of_getElem? (i := 263) (by decide +kernel), by decide +kernel⟩
theorem kM_X5_57 : (Cond.methodLink RX5 57 Lib.Math.abs.name : Cond) ∈ WS := List.mem_filter.mpr ⟨List.mem_of_getElem? (i := 264) (by decide +kernel), by decide +kernel⟩
theorem kS_Math_abs : (Cond.static Lib.Math.abs.name : Cond) ∈ WS := List.mem_filter.mpr ⟨List.mem_of_getElem? (i := 265) (by decide +kernel), by decide +kernel⟩
theorem kC_Math_abs : (Cond.code Lib.Math.abs.name Lib.Math.abs.code 1 (some .int) : Cond) ∈ WS := List.mem_filter.mpr ⟨List.mem_of_getElem? (i := 266) (by decide +kernel), by decide +kernel⟩
theorem kN_X5_63 : (Cond.methodLinkNest RX5 63 yX3_crossBound RX5 : Cond) ∈ o_N := List.mem_filter.mpr ⟨List.mem_of_getElem? (i := 267) (by decide +kernel), by decide +kernel⟩
theorem kI_X3_crossBound : (Cond.instanceMethod yX3_crossBound : Cond) ∈ WS := List.mem_filter.mpr ⟨List.mem_of_getElem? (i := 269) (by decide +kernel), by decide +kernel⟩
theorem kC_X3_crossBound : (Cond.code yX3_crossBound cX3_crossBound 2 none : Cond) ∈ WS := List.mem_filter.mpr ⟨List.mem_of_getElem? (i := 270) (by decide +kernel), by decide +kernel⟩
theorem kN_X3_51 : (Cond.methodLinkNest RX3 51 yX5_remainder RX5 : Cond) ∈ o_N := List.mem_filter.mpr ⟨List.mem_of_getElem? (i := 271) (by decide +kernel), by decide +kernel⟩
theorem kM_L_18 : (Cond.methodLink RL 18 yX5_power : Cond) ∈ WS := List.mem_filter.mpr ⟨List.mem_of_getElem? (i := 272) (by decide +kernel), by decide +kernel⟩
theorem kI_X5_power : (Cond.instanceMethod yX5_power : Cond) ∈ WS := List.mem_filter.mpr ⟨List.mem_of_getElem? (i := 273) (by decide +kernel), by decide +kernel⟩
theorem kV_X5_power : (Cond.selects RX5 yX5_power yX5_power : Cond) ∈ WS := List.mem_filter.mpr ⟨List.mem_of_getElem? (i := 274) (by decide +kernel), by decide +kernel⟩
theorem kC_X5_power : (Cond.code yX5_power cX5_power 3 (some .int) : Cond) ∈ WS := List.mem_filter.mpr ⟨List.mem_of_getElem? (i := 275) (by decide +kernel), by decide +kernel⟩
theorem kM_X5_71 : (Cond.methodLink RX5 71 yX5_toNumber : Cond) ∈ WS := List.mem_filter.mpr ⟨List.mem_of_getElem? (i := 276) (by decide +kernel), by decide +kernel⟩
theorem kS_X5_toNumber : (Cond.static yX5_toNumber : Cond) ∈ WS := List.mem_filter.mpr ⟨List.mem_of_getElem? (i := 277) (by decide +kernel), by decide +kernel⟩
theorem kC_X5_toNumber : (Cond.code yX5_toNumber cX5_toNumber 1 (some .int) : Cond) ∈ WS := List.mem_filter.mpr ⟨List.mem_of_getElem? (i := 278) (by decide +kernel), by decide +kernel⟩
theorem kM_L_22 : (Cond.methodLink RL 22 yX5_brownout : Cond) ∈ WS := List.mem_filter.mpr ⟨List.mem_of_getElem? (i := 279) (by decide +kernel), by decide +kernel⟩
theorem kI_X5_brownout : (Cond.instanceMethod yX5_brownout : Cond) ∈ WS := List.mem_filter.mpr ⟨List.mem_of_getElem? (i := 280) (by decide +kernel), by decide +kernel⟩
theorem kV_X5_brownout : (Cond.selects RX5 yX5_brownout yX5_brownout : Cond) ∈ WS := List.mem_filter.mpr ⟨List.mem_of_getElem? (i := 281) (by decide +kernel), by decide +kernel⟩
theorem kC_X5_brownout : (Cond.code yX5_brownout cX5_brownout 2 (some .int) : Cond) ∈ WS := List.mem_filter.mpr ⟨List.mem_of_getElem? (i := 282) (by decide +kernel), by decide +kernel⟩
theorem kM_L_26 : (Cond.methodLink RL 26 yX5_charge : Cond) ∈ WS := List.mem_filter.mpr ⟨List.mem_of_getElem? (i := 283) (by decide +kernel), by decide +kernel⟩
theorem kI_X5_charge : (Cond.instanceMethod yX5_charge : Cond) ∈ WS := List.mem_filter.mpr ⟨List.mem_of_getElem? (i := 284) (by decide +kernel), by decide +kernel⟩
theorem kV_X5_charge : (Cond.selects RX5 yX5_charge yX5_charge : Cond) ∈ WS := List.mem_filter.mpr ⟨List.mem_of_getElem? (i := 285) (by decide +kernel), by decide +kernel⟩
theorem kC_X5_charge : (Cond.code yX5_charge cX5_charge 3 (some .int) : Cond) ∈ WS := List.mem_filter.mpr ⟨List.mem_of_getElem? (i := 286) (by decide +kernel), by decide +kernel⟩
theorem kM_L_30 : (Cond.methodLink RL 30 yX5_count : Cond) ∈ WS := List.mem_filter.mpr ⟨List.mem_of_getElem? (i := 287) (by decide +kernel), by decide +kernel⟩
theorem kI_X5_count : (Cond.instanceMethod yX5_count : Cond) ∈ WS := List.mem_filter.mpr ⟨List.mem_of_getElem? (i := 288) (by decide +kernel), by decide +kernel⟩
theorem kV_X5_count : (Cond.selects RX5 yX5_count yX5_count : Cond) ∈ WS := List.mem_filter.mpr ⟨List.mem_of_getElem? (i := 289) (by decide +kernel), by decide +kernel⟩
theorem kC_X5_count : (Cond.code yX5_count cX5_count 2 (some .int) : Cond) ∈ WS := List.mem_filter.mpr ⟨List.mem_of_getElem? (i := 290) (by decide +kernel), by decide +kernel⟩
theorem kN_X5_81 : (Cond.methodLinkNest RX5 81 yX3_angle RX5 : Cond) ∈ o_N := List.mem_filter.mpr ⟨List.mem_of_getElem? (i := 291) (by decide +kernel), by decide +kernel⟩
theorem kI_X3_angle : (Cond.instanceMethod yX3_angle : Cond) ∈ WS := List.mem_filter.mpr ⟨List.mem_of_getElem? (i := 293) (by decide +kernel), by decide +kernel⟩
theorem kC_X3_angle : (Cond.code yX3_angle cX3_angle 1 (some .int) : Cond) ∈ WS := List.mem_filter.mpr ⟨List.mem_of_getElem? (i := 294) (by decide +kernel), by decide +kernel⟩
theorem kN_X5_94 : (Cond.methodLinkNest RX5 94 yX3_coarse RX5 : Cond) ∈ o_N := List.mem_filter.mpr ⟨List.mem_of_getElem? (i := 295) (by decide +kernel), by decide +kernel⟩
theorem kI_X3_coarse : (Cond.instanceMethod yX3_coarse : Cond) ∈ WS := List.mem_filter.mpr ⟨List.mem_of_getElem? (i := 297) (by decide +kernel), by decide +kernel⟩
theorem kC_X3_coarse : (Cond.code yX3_coarse cX3_coarse 2 (some .int) : Cond) ∈ WS := List.mem_filter.mpr ⟨List.mem_of_getElem? (i := 298) (by decide +kernel), by decide +kernel⟩
theorem kM_X3_55 : (Cond.methodLink RX3 55 yX3_angle : Cond) ∈ WS := List.mem_filter.mpr ⟨List.mem_of_getElem? (i := 299) (by decide +kernel), by decide +kernel⟩
theorem kN_X3_59 : (Cond.methodLinkNest RX3 59 yX5_at RX5 : Cond) ∈ o_N := List.mem_filter.mpr ⟨List.mem_of_getElem? (i := 300) (by decide +kernel), by decide +kernel⟩
theorem kS_X5_at : (Cond.static yX5_at : Cond) ∈ WS := List.mem_filter.mpr ⟨List.mem_of_getElem? (i := 301) (by decide +kernel), by decide +kernel⟩
theorem kC_X5_at : (Cond.code yX5_at cX5_at 2 (some .int) : Cond) ∈ WS := List.mem_filter.mpr ⟨List.mem_of_getElem? (i := 302) (by decide +kernel), by decide +kernel⟩
theorem kN_X5_97 : (Cond.methodLinkNest RX5 97 yX3_correctionsInUse RX5 : Cond) ∈ o_N := List.mem_filter.mpr ⟨List.mem_of_getElem? (i := 303) (by decide +kernel), by decide +kernel⟩
theorem kI_X3_correctionsInUse : (Cond.instanceMethod yX3_correctionsInUse : Cond) ∈ WS := List.mem_filter.mpr ⟨List.mem_of_getElem? (i := 305) (by decide +kernel), by decide +kernel⟩
theorem kC_X3_correctionsInUse : (Cond.code yX3_correctionsInUse cX3_correctionsInUse 3 (some .int) : Cond) ∈ WS := List.mem_filter.mpr ⟨List.mem_of_getElem? (i := 306) (by decide +kernel), by decide +kernel⟩
theorem kM_X5_106 : (Cond.methodLink RX5 106 yX5_settingCount : Cond) ∈ WS := List.mem_filter.mpr ⟨List.mem_of_getElem? (i := 307) (by decide +kernel), by decide +kernel⟩
theorem kI_X5_settingCount : (Cond.instanceMethod yX5_settingCount : Cond) ∈ WS := List.mem_filter.mpr ⟨List.mem_of_getElem? (i := 309) (by decide +kernel), by decide +kernel⟩
theorem kC_X5_settingCount : (Cond.code yX5_settingCount cX5_settingCount 2 (some .int) : Cond) ∈ WS := List.mem_filter.mpr ⟨List.mem_of_getElem? (i := 310) (by decide +kernel), by decide +kernel⟩
theorem kM_X5_145 : (Cond.methodLink RX5 145 yX5_shownSetting : Cond) ∈ WS := List.mem_filter.mpr ⟨List.mem_of_getElem? (i := 311) (by decide +kernel), by decide +kernel⟩
theorem kI_X5_shownSetting : (Cond.instanceMethod yX5_shownSetting : Cond) ∈ WS := List.mem_filter.mpr ⟨List.mem_of_getElem? (i := 313) (by decide +kernel), by decide +kernel⟩
theorem kC_X5_shownSetting : (Cond.code yX5_shownSetting cX5_shownSetting 3 (some .int) : Cond) ∈ WS := List.mem_filter.mpr ⟨List.mem_of_getElem? (i := 314) (by decide +kernel), by decide +kernel⟩
theorem kM_X5_124 : (Cond.methodLink RX5 124 yX5_at : Cond) ∈ WS := List.mem_filter.mpr ⟨List.mem_of_getElem? (i := 315) (by decide +kernel), by decide +kernel⟩
theorem kM_L_34 : (Cond.methodLink RL 34 yX5_undo : Cond) ∈ WS := List.mem_filter.mpr ⟨List.mem_of_getElem? (i := 316) (by decide +kernel), by decide +kernel⟩
theorem kI_X5_undo : (Cond.instanceMethod yX5_undo : Cond) ∈ WS := List.mem_filter.mpr ⟨List.mem_of_getElem? (i := 317) (by decide +kernel), by decide +kernel⟩
theorem kV_X5_undo : (Cond.selects RX5 yX5_undo yX5_undo : Cond) ∈ WS := List.mem_filter.mpr ⟨List.mem_of_getElem? (i := 318) (by decide +kernel), by decide +kernel⟩
theorem kC_X5_undo : (Cond.code yX5_undo cX5_undo 1 (some .int) : Cond) ∈ WS := List.mem_filter.mpr ⟨List.mem_of_getElem? (i := 319) (by decide +kernel), by decide +kernel⟩
theorem kN_X5_109 : (Cond.methodLinkNest RX5 109 yX2_restoreLatest RX5 : Cond) ∈ o_N := List.mem_filter.mpr ⟨List.mem_of_getElem? (i := 320) (by decide +kernel), by decide +kernel⟩
theorem kI_X2_restoreLatest : (Cond.instanceMethod yX2_restoreLatest : Cond) ∈ WS := List.mem_filter.mpr ⟨List.mem_of_getElem? (i := 322) (by decide +kernel), by decide +kernel⟩
theorem kC_X2_restoreLatest : (Cond.code yX2_restoreLatest cX2_restoreLatest 3 none : Cond) ∈ WS := List.mem_filter.mpr ⟨List.mem_of_getElem? (i := 323) (by decide +kernel), by decide +kernel⟩
theorem kM_L_39 : (Cond.methodLink RL 39 yX5_disk : Cond) ∈ WS := List.mem_filter.mpr ⟨List.mem_of_getElem? (i := 324) (by decide +kernel), by decide +kernel⟩
theorem kI_X5_disk : (Cond.instanceMethod yX5_disk : Cond) ∈ WS := List.mem_filter.mpr ⟨List.mem_of_getElem? (i := 325) (by decide +kernel), by decide +kernel⟩
theorem kV_X5_disk : (Cond.selects RX5 yX5_disk yX5_disk : Cond) ∈ WS := List.mem_filter.mpr ⟨List.mem_of_getElem? (i := 326) (by decide +kernel), by decide +kernel⟩
theorem kC_X5_disk : (Cond.code yX5_disk cX5_disk 5 (some .int) : Cond) ∈ WS := List.mem_filter.mpr ⟨List.mem_of_getElem? (i := 327) (by decide +kernel), by decide +kernel⟩
theorem kM_X5_112 : (Cond.methodLink RX5 112 yX5_isCell : Cond) ∈ WS := List.mem_filter.mpr ⟨List.mem_of_getElem? (i := 328) (by decide +kernel), by decide +kernel⟩
theorem kS_X5_isCell : (Cond.static yX5_isCell : Cond) ∈ WS := List.mem_filter.mpr ⟨List.mem_of_getElem? (i := 329) (by decide +kernel), by decide +kernel⟩
theorem kC_X5_isCell : (Cond.code yX5_isCell cX5_isCell 2 (some .boolean) : Cond) ∈ WS := List.mem_filter.mpr ⟨List.mem_of_getElem? (i := 330) (by decide +kernel), by decide +kernel⟩
theorem kM_X5_132 : (Cond.methodLink RX5 132 yX5_isTrack : Cond) ∈ WS := List.mem_filter.mpr ⟨List.mem_of_getElem? (i := 331) (by decide +kernel), by decide +kernel⟩
theorem kS_X5_isTrack : (Cond.static yX5_isTrack : Cond) ∈ WS := List.mem_filter.mpr ⟨List.mem_of_getElem? (i := 332) (by decide +kernel), by decide +kernel⟩
theorem kC_X5_isTrack : (Cond.code yX5_isTrack cX5_isTrack 1 (some .boolean) : Cond) ∈ WS := List.mem_filter.mpr ⟨List.mem_of_getElem? (i := 333) (by decide +kernel), by decide +kernel⟩
theorem kM_X5_120 : (Cond.methodLink RX5 120 yX5_cell : Cond) ∈ WS := List.mem_filter.mpr ⟨List.mem_of_getElem? (i := 334) (by decide +kernel), by decide +kernel⟩
theorem kS_X5_cell : (Cond.static yX5_cell : Cond) ∈ WS := List.mem_filter.mpr ⟨List.mem_of_getElem? (i := 335) (by decide +kernel), by decide +kernel⟩
theorem kC_X5_cell : (Cond.code yX5_cell cX5_cell 2 (some .int) : Cond) ∈ WS := List.mem_filter.mpr ⟨List.mem_of_getElem? (i := 336) (by decide +kernel), by decide +kernel⟩
theorem kM_X5_128 : (Cond.methodLink RX5 128 yX5_put : Cond) ∈ WS := List.mem_filter.mpr ⟨List.mem_of_getElem? (i := 337) (by decide +kernel), by decide +kernel⟩
theorem kS_X5_put : (Cond.static yX5_put : Cond) ∈ WS := List.mem_filter.mpr ⟨List.mem_of_getElem? (i := 338) (by decide +kernel), by decide +kernel⟩
theorem kC_X5_put : (Cond.code yX5_put cX5_put 3 none : Cond) ∈ WS := List.mem_filter.mpr ⟨List.mem_of_getElem? (i := 339) (by decide +kernel), by decide +kernel⟩
theorem kM_L_44 : (Cond.methodLink RL 44 yX5_noise : Cond) ∈ WS := List.mem_filter.mpr ⟨List.mem_of_getElem? (i := 340) (by decide +kernel), by decide +kernel⟩
theorem kI_X5_noise : (Cond.instanceMethod yX5_noise : Cond) ∈ WS := List.mem_filter.mpr ⟨List.mem_of_getElem? (i := 341) (by decide +kernel), by decide +kernel⟩
theorem kV_X5_noise : (Cond.selects RX5 yX5_noise yX5_noise : Cond) ∈ WS := List.mem_filter.mpr ⟨List.mem_of_getElem? (i := 342) (by decide +kernel), by decide +kernel⟩
theorem kC_X5_noise : (Cond.code yX5_noise cX5_noise 4 (some .int) : Cond) ∈ WS := List.mem_filter.mpr ⟨List.mem_of_getElem? (i := 343) (by decide +kernel), by decide +kernel⟩
theorem kM_L_49 : (Cond.methodLink RL 49 yX5_set : Cond) ∈ WS := List.mem_filter.mpr ⟨List.mem_of_getElem? (i := 344) (by decide +kernel), by decide +kernel⟩
theorem kI_X5_set : (Cond.instanceMethod yX5_set : Cond) ∈ WS := List.mem_filter.mpr ⟨List.mem_of_getElem? (i := 345) (by decide +kernel), by decide +kernel⟩
theorem kV_X5_set : (Cond.selects RX5 yX5_set yX5_set : Cond) ∈ WS := List.mem_filter.mpr ⟨List.mem_of_getElem? (i := 346) (by decide +kernel), by decide +kernel⟩
theorem kC_X5_set : (Cond.code yX5_set cX5_set 4 (some .int) : Cond) ∈ WS := List.mem_filter.mpr ⟨List.mem_of_getElem? (i := 347) (by decide +kernel), by decide +kernel⟩
theorem kF_X5_139 : (Cond.fieldLink RX5 139 RX5 "LEAST_SETTINGS" "[I" : Cond) ∈ WS := List.mem_filter.mpr ⟨List.mem_of_getElem? (i := 348) (by decide +kernel), by decide +kernel⟩
theorem kZ_LEAST_SETTINGS : (Cond.laysStatic RX5 "LEAST_SETTINGS" "[I" : Cond) ∈ lw_tbl := List.mem_of_getElem? (i := 349) (by decide +kernel)
theorem kF_X5_142 : (Cond.fieldLink RX5 142 RX5 "GREATEST_SETTINGS" "[I" : Cond) ∈ WS := List.mem_filter.mpr ⟨List.mem_of_getElem? (i := 350) (by decide +kernel), by decide +kernel⟩
theorem kZ_GREATEST_SETTINGS : (Cond.laysStatic RX5 "GREATEST_SETTINGS" "[I" : Cond) ∈ lw_tbl := List.mem_of_getElem? (i := 351) (by decide +kernel)
theorem kM_L_53 : (Cond.methodLink RL 53 yX5_reading : Cond) ∈ WS := List.mem_filter.mpr ⟨List.mem_of_getElem? (i := 352) (by decide +kernel), by decide +kernel⟩
theorem kI_X5_reading : (Cond.instanceMethod yX5_reading : Cond) ∈ WS := List.mem_filter.mpr ⟨List.mem_of_getElem? (i := 353) (by decide +kernel), by decide +kernel⟩
theorem kV_X5_reading : (Cond.selects RX5 yX5_reading yX5_reading : Cond) ∈ WS := List.mem_filter.mpr ⟨List.mem_of_getElem? (i := 354) (by decide +kernel), by decide +kernel⟩
theorem kC_X5_reading : (Cond.code yX5_reading cX5_reading 2 (some .int) : Cond) ∈ WS := List.mem_filter.mpr ⟨List.mem_of_getElem? (i := 355) (by decide +kernel), by decide +kernel⟩
theorem kN_X5_151 : (Cond.methodLinkNest RX5 151 yX3_readingAt RX5 : Cond) ∈ o_N := List.mem_filter.mpr ⟨List.mem_of_getElem? (i := 356) (by decide +kernel), by decide +kernel⟩
theorem kI_X3_readingAt : (Cond.instanceMethod yX3_readingAt : Cond) ∈ WS := List.mem_filter.mpr ⟨List.mem_of_getElem? (i := 358) (by decide +kernel), by decide +kernel⟩
theorem kC_X3_readingAt : (Cond.code yX3_readingAt cX3_readingAt 4 (some .int) : Cond) ∈ WS := List.mem_filter.mpr ⟨List.mem_of_getElem? (i := 359) (by decide +kernel), by decide +kernel⟩
theorem kN_X3_63 : (Cond.methodLinkNest RX3 63 yX5_sectorOf RX5 : Cond) ∈ o_N := List.mem_filter.mpr ⟨List.mem_of_getElem? (i := 360) (by decide +kernel), by decide +kernel⟩
theorem kS_X5_sectorOf : (Cond.static yX5_sectorOf : Cond) ∈ WS := List.mem_filter.mpr ⟨List.mem_of_getElem? (i := 361) (by decide +kernel), by decide +kernel⟩
theorem kC_X5_sectorOf : (Cond.code yX5_sectorOf cX5_sectorOf 1 (some .int) : Cond) ∈ WS := List.mem_filter.mpr ⟨List.mem_of_getElem? (i := 362) (by decide +kernel), by decide +kernel⟩
theorem kN_X3_67 : (Cond.methodLinkNest RX3 67 yX5_cell RX5 : Cond) ∈ o_N := List.mem_filter.mpr ⟨List.mem_of_getElem? (i := 363) (by decide +kernel), by decide +kernel⟩
theorem kN_X3_70 : (Cond.fieldLinkNest RX3 70 RX5 "LENGTHS" "[I" RX5 : Cond) ∈ o_N := List.mem_filter.mpr ⟨List.mem_of_getElem? (i := 364) (by decide +kernel), by decide +kernel⟩
theorem kZ_LENGTHS : (Cond.laysStatic RX5 "LENGTHS" "[I" : Cond) ∈ lw_tbl := List.mem_of_getElem? (i := 365) (by decide +kernel)
theorem kM_L_57 : (Cond.methodLink RL 57 yX5_found : Cond) ∈ WS := List.mem_filter.mpr ⟨List.mem_of_getElem? (i := 366) (by decide +kernel), by decide +kernel⟩
theorem kI_X5_found : (Cond.instanceMethod yX5_found : Cond) ∈ WS := List.mem_filter.mpr ⟨List.mem_of_getElem? (i := 367) (by decide +kernel), by decide +kernel⟩
theorem kV_X5_found : (Cond.selects RX5 yX5_found yX5_found : Cond) ∈ WS := List.mem_filter.mpr ⟨List.mem_of_getElem? (i := 368) (by decide +kernel), by decide +kernel⟩
theorem kC_X5_found : (Cond.code yX5_found cX5_found 6 (some .int) : Cond) ∈ WS := List.mem_filter.mpr ⟨List.mem_of_getElem? (i := 369) (by decide +kernel), by decide +kernel⟩
theorem kM_X5_154 : (Cond.methodLink RX5 154 yX5_isReading : Cond) ∈ WS := List.mem_filter.mpr ⟨List.mem_of_getElem? (i := 370) (by decide +kernel), by decide +kernel⟩
theorem kS_X5_isReading : (Cond.static yX5_isReading : Cond) ∈ WS := List.mem_filter.mpr ⟨List.mem_of_getElem? (i := 371) (by decide +kernel), by decide +kernel⟩
theorem kC_X5_isReading : (Cond.code yX5_isReading cX5_isReading 2 (some .boolean) : Cond) ∈ WS := List.mem_filter.mpr ⟨List.mem_of_getElem? (i := 372) (by decide +kernel), by decide +kernel⟩
theorem kF_X5_165 : (Cond.fieldLink RX5 165 RX5 "LENGTHS" "[I" : Cond) ∈ WS := List.mem_filter.mpr ⟨List.mem_of_getElem? (i := 373) (by decide +kernel), by decide +kernel⟩
theorem kM_X5_157 : (Cond.methodLink RX5 157 yX5_nearestAngle : Cond) ∈ WS := List.mem_filter.mpr ⟨List.mem_of_getElem? (i := 374) (by decide +kernel), by decide +kernel⟩
theorem kS_X5_nearestAngle : (Cond.static yX5_nearestAngle : Cond) ∈ WS := List.mem_filter.mpr ⟨List.mem_of_getElem? (i := 375) (by decide +kernel), by decide +kernel⟩
theorem kC_X5_nearestAngle : (Cond.code yX5_nearestAngle cX5_nearestAngle 7 (some .int) : Cond) ∈ WS := List.mem_filter.mpr ⟨List.mem_of_getElem? (i := 376) (by decide +kernel), by decide +kernel⟩
theorem kM_X5_161 : (Cond.methodLink RX5 161 yX5_deviation : Cond) ∈ WS := List.mem_filter.mpr ⟨List.mem_of_getElem? (i := 377) (by decide +kernel), by decide +kernel⟩
theorem kS_X5_deviation : (Cond.static yX5_deviation : Cond) ∈ WS := List.mem_filter.mpr ⟨List.mem_of_getElem? (i := 378) (by decide +kernel), by decide +kernel⟩
theorem kC_X5_deviation : (Cond.code yX5_deviation cX5_deviation 7 (some .int) : Cond) ∈ WS := List.mem_filter.mpr ⟨List.mem_of_getElem? (i := 379) (by decide +kernel), by decide +kernel⟩
theorem kM_X5_214 : (Cond.methodLink RX5 214 yX5_distance : Cond) ∈ WS := List.mem_filter.mpr ⟨List.mem_of_getElem? (i := 380) (by decide +kernel), by decide +kernel⟩
theorem kS_X5_distance : (Cond.static yX5_distance : Cond) ∈ WS := List.mem_filter.mpr ⟨List.mem_of_getElem? (i := 381) (by decide +kernel), by decide +kernel⟩
theorem kC_X5_distance : (Cond.code yX5_distance cX5_distance 3 (some .int) : Cond) ∈ WS := List.mem_filter.mpr ⟨List.mem_of_getElem? (i := 382) (by decide +kernel), by decide +kernel⟩
theorem kM_X5_168 : (Cond.methodLink RX5 168 yX5_remainder : Cond) ∈ WS := List.mem_filter.mpr ⟨List.mem_of_getElem? (i := 383) (by decide +kernel), by decide +kernel⟩
theorem kM_X5_239 : (Cond.methodLink RX5 239 Lib.Math.min.name : Cond) ∈ WS := List.mem_filter.mpr ⟨List.mem_of_getElem? (i := 384) (by decide +kernel), by decide +kernel⟩
theorem kS_Math_min : (Cond.static Lib.Math.min.name : Cond) ∈ WS := List.mem_filter.mpr ⟨List.mem_of_getElem? (i := 385) (by decide +kernel), by decide +kernel⟩
theorem kC_Math_min : (Cond.code Lib.Math.min.name Lib.Math.min.code 2 (some .int) : Cond) ∈ WS := List.mem_filter.mpr ⟨List.mem_of_getElem? (i := 386) (by decide +kernel), by decide +kernel⟩
theorem kM_X5_196 : (Cond.methodLink RX5 196 Lib.Math.max.name : Cond) ∈ WS := List.mem_filter.mpr ⟨List.mem_of_getElem? (i := 387) (by decide +kernel), by decide +kernel⟩
theorem kS_Math_max : (Cond.static Lib.Math.max.name : Cond) ∈ WS := List.mem_filter.mpr ⟨List.mem_of_getElem? (i := 388) (by decide +kernel), by decide +kernel⟩
theorem kC_Math_max : (Cond.code Lib.Math.max.name Lib.Math.max.code 2 (some .int) : Cond) ∈ WS := List.mem_filter.mpr ⟨List.mem_of_getElem? (i := 389) (by decide +kernel), by decide +kernel⟩
theorem kM_L_62 : (Cond.methodLink RL 62 yX5_byTwo : Cond) ∈ WS := List.mem_filter.mpr ⟨List.mem_of_getElem? (i := 390) (by decide +kernel), by decide +kernel⟩
theorem kI_X5_byTwo : (Cond.instanceMethod yX5_byTwo : Cond) ∈ WS := List.mem_filter.mpr ⟨List.mem_of_getElem? (i := 391) (by decide +kernel), by decide +kernel⟩
theorem kV_X5_byTwo : (Cond.selects RX5 yX5_byTwo yX5_byTwo : Cond) ∈ WS := List.mem_filter.mpr ⟨List.mem_of_getElem? (i := 392) (by decide +kernel), by decide +kernel⟩
theorem kC_X5_byTwo : (Cond.code yX5_byTwo cX5_byTwo 6 (some .int) : Cond) ∈ WS := List.mem_filter.mpr ⟨List.mem_of_getElem? (i := 393) (by decide +kernel), by decide +kernel⟩
theorem kM_L_66 : (Cond.methodLink RL 66 yX5_correct : Cond) ∈ WS := List.mem_filter.mpr ⟨List.mem_of_getElem? (i := 394) (by decide +kernel), by decide +kernel⟩
theorem kI_X5_correct : (Cond.instanceMethod yX5_correct : Cond) ∈ WS := List.mem_filter.mpr ⟨List.mem_of_getElem? (i := 395) (by decide +kernel), by decide +kernel⟩
theorem kV_X5_correct : (Cond.selects RX5 yX5_correct yX5_correct : Cond) ∈ WS := List.mem_filter.mpr ⟨List.mem_of_getElem? (i := 396) (by decide +kernel), by decide +kernel⟩
theorem kC_X5_correct : (Cond.code yX5_correct cX5_correct 5 (some .int) : Cond) ∈ WS := List.mem_filter.mpr ⟨List.mem_of_getElem? (i := 397) (by decide +kernel), by decide +kernel⟩
theorem kM_L_70 : (Cond.methodLink RL 70 yX5_correction : Cond) ∈ WS := List.mem_filter.mpr ⟨List.mem_of_getElem? (i := 398) (by decide +kernel), by decide +kernel⟩
theorem kI_X5_correction : (Cond.instanceMethod yX5_correction : Cond) ∈ WS := List.mem_filter.mpr ⟨List.mem_of_getElem? (i := 399) (by decide +kernel), by decide +kernel⟩
theorem kV_X5_correction : (Cond.selects RX5 yX5_correction yX5_correction : Cond) ∈ WS := List.mem_filter.mpr ⟨List.mem_of_getElem? (i := 400) (by decide +kernel), by decide +kernel⟩
theorem kC_X5_correction : (Cond.code yX5_correction cX5_correction 3 (some .int) : Cond) ∈ WS := List.mem_filter.mpr ⟨List.mem_of_getElem? (i := 401) (by decide +kernel), by decide +kernel⟩
theorem kM_L_74 : (Cond.methodLink RL 74 yX5_learn : Cond) ∈ WS := List.mem_filter.mpr ⟨List.mem_of_getElem? (i := 402) (by decide +kernel), by decide +kernel⟩
theorem kI_X5_learn : (Cond.instanceMethod yX5_learn : Cond) ∈ WS := List.mem_filter.mpr ⟨List.mem_of_getElem? (i := 403) (by decide +kernel), by decide +kernel⟩
theorem kV_X5_learn : (Cond.selects RX5 yX5_learn yX5_learn : Cond) ∈ WS := List.mem_filter.mpr ⟨List.mem_of_getElem? (i := 404) (by decide +kernel), by decide +kernel⟩
theorem kC_X5_learn : (Cond.code yX5_learn cX5_learn 5 (some .int) : Cond) ∈ WS := List.mem_filter.mpr ⟨List.mem_of_getElem? (i := 405) (by decide +kernel), by decide +kernel⟩
theorem kN_X5_174 : (Cond.methodLinkNest RX5 174 yX3_excess RX5 : Cond) ∈ o_N := List.mem_filter.mpr ⟨List.mem_of_getElem? (i := 406) (by decide +kernel), by decide +kernel⟩
theorem kI_X3_excess : (Cond.instanceMethod yX3_excess : Cond) ∈ WS := List.mem_filter.mpr ⟨List.mem_of_getElem? (i := 408) (by decide +kernel), by decide +kernel⟩
theorem kC_X3_excess : (Cond.code yX3_excess cX3_excess 4 (some .int) : Cond) ∈ WS := List.mem_filter.mpr ⟨List.mem_of_getElem? (i := 409) (by decide +kernel), by decide +kernel⟩
theorem kM_X3_73 : (Cond.methodLink RX3 73 yX3_readingAt : Cond) ∈ WS := List.mem_filter.mpr ⟨List.mem_of_getElem? (i := 410) (by decide +kernel), by decide +kernel⟩
theorem kM_X5_177 : (Cond.methodLink RX5 177 yX5_sectorOf : Cond) ∈ WS := List.mem_filter.mpr ⟨List.mem_of_getElem? (i := 411) (by decide +kernel), by decide +kernel⟩
theorem kM_L_78 : (Cond.methodLink RL 78 yX5_look : Cond) ∈ WS := List.mem_filter.mpr ⟨List.mem_of_getElem? (i := 412) (by decide +kernel), by decide +kernel⟩
theorem kI_X5_look : (Cond.instanceMethod yX5_look : Cond) ∈ WS := List.mem_filter.mpr ⟨List.mem_of_getElem? (i := 413) (by decide +kernel), by decide +kernel⟩
theorem kV_X5_look : (Cond.selects RX5 yX5_look yX5_look : Cond) ∈ WS := List.mem_filter.mpr ⟨List.mem_of_getElem? (i := 414) (by decide +kernel), by decide +kernel⟩
theorem kC_X5_look : (Cond.code yX5_look cX5_look 2 (some .int) : Cond) ∈ WS := List.mem_filter.mpr ⟨List.mem_of_getElem? (i := 415) (by decide +kernel), by decide +kernel⟩
theorem kN_X5_180 : (Cond.methodLinkNest RX5 180 yX1_search RX5 : Cond) ∈ o_N := List.mem_filter.mpr ⟨List.mem_of_getElem? (i := 416) (by decide +kernel), by decide +kernel⟩
theorem kI_X1_search : (Cond.instanceMethod yX1_search : Cond) ∈ WS := List.mem_filter.mpr ⟨List.mem_of_getElem? (i := 418) (by decide +kernel), by decide +kernel⟩
theorem kC_X1_search : (Cond.code yX1_search cX1_search 4 none : Cond) ∈ WS := List.mem_filter.mpr ⟨List.mem_of_getElem? (i := 419) (by decide +kernel), by decide +kernel⟩
theorem kN_X1_22 : (Cond.methodLinkNest RX1 22 yX3_readingAt RX5 : Cond) ∈ o_N := List.mem_filter.mpr ⟨List.mem_of_getElem? (i := 420) (by decide +kernel), by decide +kernel⟩
theorem kN_X1_28 : (Cond.methodLinkNest RX1 28 yX5_nearestAngle RX5 : Cond) ∈ o_N := List.mem_filter.mpr ⟨List.mem_of_getElem? (i := 421) (by decide +kernel), by decide +kernel⟩
theorem kN_X1_34 : (Cond.methodLinkNest RX1 34 yX5_sectorOf RX5 : Cond) ∈ o_N := List.mem_filter.mpr ⟨List.mem_of_getElem? (i := 422) (by decide +kernel), by decide +kernel⟩
theorem kM_X1_38 : (Cond.methodLink RX1 38 yX1_searchCorrected : Cond) ∈ WS := List.mem_filter.mpr ⟨List.mem_of_getElem? (i := 423) (by decide +kernel), by decide +kernel⟩
theorem kI_X1_searchCorrected : (Cond.instanceMethod yX1_searchCorrected : Cond) ∈ WS := List.mem_filter.mpr ⟨List.mem_of_getElem? (i := 425) (by decide +kernel), by decide +kernel⟩
theorem kC_X1_searchCorrected : (Cond.code yX1_searchCorrected cX1_searchCorrected 7 none : Cond) ∈ WS := List.mem_filter.mpr ⟨List.mem_of_getElem? (i := 426) (by decide +kernel), by decide +kernel⟩
theorem kN_X1_42 : (Cond.methodLinkNest RX1 42 yX3_corrected RX5 : Cond) ∈ o_N := List.mem_filter.mpr ⟨List.mem_of_getElem? (i := 427) (by decide +kernel), by decide +kernel⟩
theorem kI_X3_corrected : (Cond.instanceMethod yX3_corrected : Cond) ∈ WS := List.mem_filter.mpr ⟨List.mem_of_getElem? (i := 429) (by decide +kernel), by decide +kernel⟩
theorem kC_X3_corrected : (Cond.code yX3_corrected cX3_corrected 4 (some .int) : Cond) ∈ WS := List.mem_filter.mpr ⟨List.mem_of_getElem? (i := 430) (by decide +kernel), by decide +kernel⟩
theorem kN_X1_45 : (Cond.methodLinkNest RX1 45 yX5_deviation RX5 : Cond) ∈ o_N := List.mem_filter.mpr ⟨List.mem_of_getElem? (i := 431) (by decide +kernel), by decide +kernel⟩
theorem kM_L_82 : (Cond.methodLink RL 82 yX5_survey : Cond) ∈ WS := List.mem_filter.mpr ⟨List.mem_of_getElem? (i := 432) (by decide +kernel), by decide +kernel⟩
theorem kI_X5_survey : (Cond.instanceMethod yX5_survey : Cond) ∈ WS := List.mem_filter.mpr ⟨List.mem_of_getElem? (i := 433) (by decide +kernel), by decide +kernel⟩
theorem kV_X5_survey : (Cond.selects RX5 yX5_survey yX5_survey : Cond) ∈ WS := List.mem_filter.mpr ⟨List.mem_of_getElem? (i := 434) (by decide +kernel), by decide +kernel⟩
theorem kC_X5_survey : (Cond.code yX5_survey cX5_survey 7 (some .int) : Cond) ∈ WS := List.mem_filter.mpr ⟨List.mem_of_getElem? (i := 435) (by decide +kernel), by decide +kernel⟩
theorem kM_L_86 : (Cond.methodLink RL 86 yX5_poor : Cond) ∈ WS := List.mem_filter.mpr ⟨List.mem_of_getElem? (i := 436) (by decide +kernel), by decide +kernel⟩
theorem kI_X5_poor : (Cond.instanceMethod yX5_poor : Cond) ∈ WS := List.mem_filter.mpr ⟨List.mem_of_getElem? (i := 437) (by decide +kernel), by decide +kernel⟩
theorem kV_X5_poor : (Cond.selects RX5 yX5_poor yX5_poor : Cond) ∈ WS := List.mem_filter.mpr ⟨List.mem_of_getElem? (i := 438) (by decide +kernel), by decide +kernel⟩
theorem kC_X5_poor : (Cond.code yX5_poor cX5_poor 3 (some .int) : Cond) ∈ WS := List.mem_filter.mpr ⟨List.mem_of_getElem? (i := 439) (by decide +kernel), by decide +kernel⟩
theorem kN_X5_199 : (Cond.methodLinkNest RX5 199 yX3_isPoor RX5 : Cond) ∈ o_N := List.mem_filter.mpr ⟨List.mem_of_getElem? (i := 440) (by decide +kernel), by decide +kernel⟩
theorem kI_X3_isPoor : (Cond.instanceMethod yX3_isPoor : Cond) ∈ WS := List.mem_filter.mpr ⟨List.mem_of_getElem? (i := 442) (by decide +kernel), by decide +kernel⟩
theorem kC_X3_isPoor : (Cond.code yX3_isPoor cX3_isPoor 5 (some .boolean) : Cond) ∈ WS := List.mem_filter.mpr ⟨List.mem_of_getElem? (i := 443) (by decide +kernel), by decide +kernel⟩
theorem kM_X3_76 : (Cond.methodLink RX3 76 Lib.Math.abs.name : Cond) ∈ WS := List.mem_filter.mpr ⟨List.mem_of_getElem? (i := 444) (by decide +kernel), by decide +kernel⟩
theorem kM_L_90 : (Cond.methodLink RL 90 yX5_sample : Cond) ∈ WS := List.mem_filter.mpr ⟨List.mem_of_getElem? (i := 445) (by decide +kernel), by decide +kernel⟩
theorem kI_X5_sample : (Cond.instanceMethod yX5_sample : Cond) ∈ WS := List.mem_filter.mpr ⟨List.mem_of_getElem? (i := 446) (by decide +kernel), by decide +kernel⟩
theorem kV_X5_sample : (Cond.selects RX5 yX5_sample yX5_sample : Cond) ∈ WS := List.mem_filter.mpr ⟨List.mem_of_getElem? (i := 447) (by decide +kernel), by decide +kernel⟩
theorem kC_X5_sample : (Cond.code yX5_sample cX5_sample 1 (some .int) : Cond) ∈ WS := List.mem_filter.mpr ⟨List.mem_of_getElem? (i := 448) (by decide +kernel), by decide +kernel⟩
theorem kN_X5_202 : (Cond.methodLinkNest RX5 202 yX4_judge RX5 : Cond) ∈ o_N := List.mem_filter.mpr ⟨List.mem_of_getElem? (i := 449) (by decide +kernel), by decide +kernel⟩
theorem kI_X4_judge : (Cond.instanceMethod yX4_judge : Cond) ∈ WS := List.mem_filter.mpr ⟨List.mem_of_getElem? (i := 451) (by decide +kernel), by decide +kernel⟩
theorem kC_X4_judge : (Cond.code yX4_judge cX4_judge 3 none : Cond) ∈ WS := List.mem_filter.mpr ⟨List.mem_of_getElem? (i := 452) (by decide +kernel), by decide +kernel⟩
theorem kM_X4_28 : (Cond.methodLink RX4 28 yX4_firstRefusal : Cond) ∈ WS := List.mem_filter.mpr ⟨List.mem_of_getElem? (i := 453) (by decide +kernel), by decide +kernel⟩
theorem kI_X4_firstRefusal : (Cond.instanceMethod yX4_firstRefusal : Cond) ∈ WS := List.mem_filter.mpr ⟨List.mem_of_getElem? (i := 455) (by decide +kernel), by decide +kernel⟩
theorem kC_X4_firstRefusal : (Cond.code yX4_firstRefusal cX4_firstRefusal 7 (some .int) : Cond) ∈ WS := List.mem_filter.mpr ⟨List.mem_of_getElem? (i := 456) (by decide +kernel), by decide +kernel⟩
theorem kN_X4_41 : (Cond.methodLinkNest RX4 41 yX5_at RX5 : Cond) ∈ o_N := List.mem_filter.mpr ⟨List.mem_of_getElem? (i := 457) (by decide +kernel), by decide +kernel⟩
theorem kN_X4_48 : (Cond.methodLinkNest RX4 48 yX5_remainder RX5 : Cond) ∈ o_N := List.mem_filter.mpr ⟨List.mem_of_getElem? (i := 458) (by decide +kernel), by decide +kernel⟩
theorem kN_X4_52 : (Cond.methodLinkNest RX4 52 yX3_coarse RX5 : Cond) ∈ o_N := List.mem_filter.mpr ⟨List.mem_of_getElem? (i := 459) (by decide +kernel), by decide +kernel⟩
theorem kN_X4_56 : (Cond.methodLinkNest RX4 56 yX5_distance RX5 : Cond) ∈ o_N := List.mem_filter.mpr ⟨List.mem_of_getElem? (i := 460) (by decide +kernel), by decide +kernel⟩
theorem kK_X4_63 : (Cond.constant RX4 63 65280 : Cond) ∈ WS := List.mem_filter.mpr ⟨List.mem_of_getElem? (i := 461) (by decide +kernel), by decide +kernel⟩
theorem kK_X5_211 : (Cond.constant RX5 211 100000 : Cond) ∈ WS := List.mem_filter.mpr ⟨List.mem_of_getElem? (i := 462) (by decide +kernel), by decide +kernel⟩
theorem kM_L_94 : (Cond.methodLink RL 94 yX5_reason : Cond) ∈ WS := List.mem_filter.mpr ⟨List.mem_of_getElem? (i := 463) (by decide +kernel), by decide +kernel⟩
theorem kI_X5_reason : (Cond.instanceMethod yX5_reason : Cond) ∈ WS := List.mem_filter.mpr ⟨List.mem_of_getElem? (i := 464) (by decide +kernel), by decide +kernel⟩
theorem kV_X5_reason : (Cond.selects RX5 yX5_reason yX5_reason : Cond) ∈ WS := List.mem_filter.mpr ⟨List.mem_of_getElem? (i := 465) (by decide +kernel), by decide +kernel⟩
theorem kC_X5_reason : (Cond.code yX5_reason cX5_reason 1 (some .int) : Cond) ∈ WS := List.mem_filter.mpr ⟨List.mem_of_getElem? (i := 466) (by decide +kernel), by decide +kernel⟩
theorem kM_L_98 : (Cond.methodLink RL 98 yX5_forget : Cond) ∈ WS := List.mem_filter.mpr ⟨List.mem_of_getElem? (i := 467) (by decide +kernel), by decide +kernel⟩
theorem kI_X5_forget : (Cond.instanceMethod yX5_forget : Cond) ∈ WS := List.mem_filter.mpr ⟨List.mem_of_getElem? (i := 468) (by decide +kernel), by decide +kernel⟩
theorem kV_X5_forget : (Cond.selects RX5 yX5_forget yX5_forget : Cond) ∈ WS := List.mem_filter.mpr ⟨List.mem_of_getElem? (i := 469) (by decide +kernel), by decide +kernel⟩
theorem kC_X5_forget : (Cond.code yX5_forget cX5_forget 2 (some .int) : Cond) ∈ WS := List.mem_filter.mpr ⟨List.mem_of_getElem? (i := 470) (by decide +kernel), by decide +kernel⟩
theorem kM_L_102 : (Cond.methodLink RL 102 yX5_apart : Cond) ∈ WS := List.mem_filter.mpr ⟨List.mem_of_getElem? (i := 471) (by decide +kernel), by decide +kernel⟩
theorem kI_X5_apart : (Cond.instanceMethod yX5_apart : Cond) ∈ WS := List.mem_filter.mpr ⟨List.mem_of_getElem? (i := 472) (by decide +kernel), by decide +kernel⟩
theorem kV_X5_apart : (Cond.selects RX5 yX5_apart yX5_apart : Cond) ∈ WS := List.mem_filter.mpr ⟨List.mem_of_getElem? (i := 473) (by decide +kernel), by decide +kernel⟩
theorem kC_X5_apart : (Cond.code yX5_apart cX5_apart 1 (some .int) : Cond) ∈ WS := List.mem_filter.mpr ⟨List.mem_of_getElem? (i := 474) (by decide +kernel), by decide +kernel⟩
theorem kK_X5_213 : (Cond.constant RX5 213 65280 : Cond) ∈ WS := List.mem_filter.mpr ⟨List.mem_of_getElem? (i := 475) (by decide +kernel), by decide +kernel⟩
theorem kM_L_106 : (Cond.methodLink RL 106 yX5_type : Cond) ∈ WS := List.mem_filter.mpr ⟨List.mem_of_getElem? (i := 476) (by decide +kernel), by decide +kernel⟩
theorem kI_X5_type : (Cond.instanceMethod yX5_type : Cond) ∈ WS := List.mem_filter.mpr ⟨List.mem_of_getElem? (i := 477) (by decide +kernel), by decide +kernel⟩
theorem kV_X5_type : (Cond.selects RX5 yX5_type yX5_type : Cond) ∈ WS := List.mem_filter.mpr ⟨List.mem_of_getElem? (i := 478) (by decide +kernel), by decide +kernel⟩
theorem kC_X5_type : (Cond.code yX5_type cX5_type 2 (some .int) : Cond) ∈ WS := List.mem_filter.mpr ⟨List.mem_of_getElem? (i := 479) (by decide +kernel), by decide +kernel⟩
theorem kN_X5_217 : (Cond.methodLinkNest RX5 217 yX0_append RX5 : Cond) ∈ o_N := List.mem_filter.mpr ⟨List.mem_of_getElem? (i := 480) (by decide +kernel), by decide +kernel⟩
theorem kI_X0_append : (Cond.instanceMethod yX0_append : Cond) ∈ WS := List.mem_filter.mpr ⟨List.mem_of_getElem? (i := 482) (by decide +kernel), by decide +kernel⟩
theorem kC_X0_append : (Cond.code yX0_append cX0_append 2 none : Cond) ∈ WS := List.mem_filter.mpr ⟨List.mem_of_getElem? (i := 483) (by decide +kernel), by decide +kernel⟩
theorem kN_X0_34 : (Cond.methodLinkNest RX0 34 yX5_put RX5 : Cond) ∈ o_N := List.mem_filter.mpr ⟨List.mem_of_getElem? (i := 484) (by decide +kernel), by decide +kernel⟩
theorem kM_L_110 : (Cond.methodLink RL 110 yX5_clearText : Cond) ∈ WS := List.mem_filter.mpr ⟨List.mem_of_getElem? (i := 485) (by decide +kernel), by decide +kernel⟩
theorem kI_X5_clearText : (Cond.instanceMethod yX5_clearText : Cond) ∈ WS := List.mem_filter.mpr ⟨List.mem_of_getElem? (i := 486) (by decide +kernel), by decide +kernel⟩
theorem kV_X5_clearText : (Cond.selects RX5 yX5_clearText yX5_clearText : Cond) ∈ WS := List.mem_filter.mpr ⟨List.mem_of_getElem? (i := 487) (by decide +kernel), by decide +kernel⟩
theorem kC_X5_clearText : (Cond.code yX5_clearText cX5_clearText 2 (some .int) : Cond) ∈ WS := List.mem_filter.mpr ⟨List.mem_of_getElem? (i := 488) (by decide +kernel), by decide +kernel⟩
theorem kM_L_114 : (Cond.methodLink RL 114 yX5_fault : Cond) ∈ WS := List.mem_filter.mpr ⟨List.mem_of_getElem? (i := 489) (by decide +kernel), by decide +kernel⟩
theorem kI_X5_fault : (Cond.instanceMethod yX5_fault : Cond) ∈ WS := List.mem_filter.mpr ⟨List.mem_of_getElem? (i := 490) (by decide +kernel), by decide +kernel⟩
theorem kV_X5_fault : (Cond.selects RX5 yX5_fault yX5_fault : Cond) ∈ WS := List.mem_filter.mpr ⟨List.mem_of_getElem? (i := 491) (by decide +kernel), by decide +kernel⟩
theorem kC_X5_fault : (Cond.code yX5_fault cX5_fault 2 (some .int) : Cond) ∈ WS := List.mem_filter.mpr ⟨List.mem_of_getElem? (i := 492) (by decide +kernel), by decide +kernel⟩
theorem kN_X5_220 : (Cond.methodLinkNest RX5 220 yX0_scan RX5 : Cond) ∈ o_N := List.mem_filter.mpr ⟨List.mem_of_getElem? (i := 493) (by decide +kernel), by decide +kernel⟩
theorem kI_X0_scan : (Cond.instanceMethod yX0_scan : Cond) ∈ WS := List.mem_filter.mpr ⟨List.mem_of_getElem? (i := 495) (by decide +kernel), by decide +kernel⟩
theorem kC_X0_scan : (Cond.code yX0_scan cX0_scan 2 none : Cond) ∈ WS := List.mem_filter.mpr ⟨List.mem_of_getElem? (i := 496) (by decide +kernel), by decide +kernel⟩
theorem kM_X0_38 : (Cond.methodLink RX0 38 yX0_entryFault : Cond) ∈ WS := List.mem_filter.mpr ⟨List.mem_of_getElem? (i := 497) (by decide +kernel), by decide +kernel⟩
theorem kI_X0_entryFault : (Cond.instanceMethod yX0_entryFault : Cond) ∈ WS := List.mem_filter.mpr ⟨List.mem_of_getElem? (i := 499) (by decide +kernel), by decide +kernel⟩
theorem kC_X0_entryFault : (Cond.code yX0_entryFault cX0_entryFault 2 (some .int) : Cond) ∈ WS := List.mem_filter.mpr ⟨List.mem_of_getElem? (i := 500) (by decide +kernel), by decide +kernel⟩
theorem kM_X0_46 : (Cond.methodLink RX0 46 yX0_entryLength : Cond) ∈ WS := List.mem_filter.mpr ⟨List.mem_of_getElem? (i := 501) (by decide +kernel), by decide +kernel⟩
theorem kI_X0_entryLength : (Cond.instanceMethod yX0_entryLength : Cond) ∈ WS := List.mem_filter.mpr ⟨List.mem_of_getElem? (i := 503) (by decide +kernel), by decide +kernel⟩
theorem kC_X0_entryLength : (Cond.code yX0_entryLength cX0_entryLength 4 (some .int) : Cond) ∈ WS := List.mem_filter.mpr ⟨List.mem_of_getElem? (i := 504) (by decide +kernel), by decide +kernel⟩
theorem kM_X0_76 : (Cond.methodLink RX0 76 yX0_characterAt : Cond) ∈ WS := List.mem_filter.mpr ⟨List.mem_of_getElem? (i := 505) (by decide +kernel), by decide +kernel⟩
theorem kI_X0_characterAt : (Cond.instanceMethod yX0_characterAt : Cond) ∈ WS := List.mem_filter.mpr ⟨List.mem_of_getElem? (i := 507) (by decide +kernel), by decide +kernel⟩
theorem kC_X0_characterAt : (Cond.code yX0_characterAt cX0_characterAt 2 (some .int) : Cond) ∈ WS := List.mem_filter.mpr ⟨List.mem_of_getElem? (i := 508) (by decide +kernel), by decide +kernel⟩
theorem kN_X0_72 : (Cond.methodLinkNest RX0 72 yX5_at RX5 : Cond) ∈ o_N := List.mem_filter.mpr ⟨List.mem_of_getElem? (i := 509) (by decide +kernel), by decide +kernel⟩
theorem kM_X0_79 : (Cond.methodLink RX0 79 yX0_isDigit : Cond) ∈ WS := List.mem_filter.mpr ⟨List.mem_of_getElem? (i := 510) (by decide +kernel), by decide +kernel⟩
theorem kI_X0_isDigit : (Cond.instanceMethod yX0_isDigit : Cond) ∈ WS := List.mem_filter.mpr ⟨List.mem_of_getElem? (i := 512) (by decide +kernel), by decide +kernel⟩
theorem kC_X0_isDigit : (Cond.code yX0_isDigit cX0_isDigit 2 (some .boolean) : Cond) ∈ WS := List.mem_filter.mpr ⟨List.mem_of_getElem? (i := 513) (by decide +kernel), by decide +kernel⟩
theorem kN_X0_85 : (Cond.methodLinkNest RX0 85 yX5_isOutside RX5 : Cond) ∈ o_N := List.mem_filter.mpr ⟨List.mem_of_getElem? (i := 514) (by decide +kernel), by decide +kernel⟩
theorem kM_X0_55 : (Cond.methodLink RX0 55 yX0_digitAt : Cond) ∈ WS := List.mem_filter.mpr ⟨List.mem_of_getElem? (i := 515) (by decide +kernel), by decide +kernel⟩
theorem kI_X0_digitAt : (Cond.instanceMethod yX0_digitAt : Cond) ∈ WS := List.mem_filter.mpr ⟨List.mem_of_getElem? (i := 517) (by decide +kernel), by decide +kernel⟩
theorem kC_X0_digitAt : (Cond.code yX0_digitAt cX0_digitAt 2 (some .int) : Cond) ∈ WS := List.mem_filter.mpr ⟨List.mem_of_getElem? (i := 518) (by decide +kernel), by decide +kernel⟩
theorem kN_X0_58 : (Cond.methodLinkNest RX0 58 yX5_isTrack RX5 : Cond) ∈ o_N := List.mem_filter.mpr ⟨List.mem_of_getElem? (i := 519) (by decide +kernel), by decide +kernel⟩
theorem kN_X0_62 : (Cond.methodLinkNest RX0 62 yX5_isCell RX5 : Cond) ∈ o_N := List.mem_filter.mpr ⟨List.mem_of_getElem? (i := 520) (by decide +kernel), by decide +kernel⟩
theorem kM_X0_66 : (Cond.methodLink RX0 66 yX0_amount : Cond) ∈ WS := List.mem_filter.mpr ⟨List.mem_of_getElem? (i := 521) (by decide +kernel), by decide +kernel⟩
theorem kI_X0_amount : (Cond.instanceMethod yX0_amount : Cond) ∈ WS := List.mem_filter.mpr ⟨List.mem_of_getElem? (i := 523) (by decide +kernel), by decide +kernel⟩
theorem kC_X0_amount : (Cond.code yX0_amount cX0_amount 3 (some .int) : Cond) ∈ WS := List.mem_filter.mpr ⟨List.mem_of_getElem? (i := 524) (by decide +kernel), by decide +kernel⟩
theorem kM_X0_69 : (Cond.methodLink RX0 69 yX0_entryCell : Cond) ∈ WS := List.mem_filter.mpr ⟨List.mem_of_getElem? (i := 525) (by decide +kernel), by decide +kernel⟩
theorem kI_X0_entryCell : (Cond.instanceMethod yX0_entryCell : Cond) ∈ WS := List.mem_filter.mpr ⟨List.mem_of_getElem? (i := 527) (by decide +kernel), by decide +kernel⟩
theorem kC_X0_entryCell : (Cond.code yX0_entryCell cX0_entryCell 2 (some .int) : Cond) ∈ WS := List.mem_filter.mpr ⟨List.mem_of_getElem? (i := 528) (by decide +kernel), by decide +kernel⟩
theorem kN_X0_82 : (Cond.methodLinkNest RX0 82 yX5_cell RX5 : Cond) ∈ o_N := List.mem_filter.mpr ⟨List.mem_of_getElem? (i := 529) (by decide +kernel), by decide +kernel⟩
theorem kM_X0_42 : (Cond.methodLink RX0 42 yX0_takeEntry : Cond) ∈ WS := List.mem_filter.mpr ⟨List.mem_of_getElem? (i := 530) (by decide +kernel), by decide +kernel⟩
theorem kI_X0_takeEntry : (Cond.instanceMethod yX0_takeEntry : Cond) ∈ WS := List.mem_filter.mpr ⟨List.mem_of_getElem? (i := 532) (by decide +kernel), by decide +kernel⟩
theorem kC_X0_takeEntry : (Cond.code yX0_takeEntry cX0_takeEntry 3 none : Cond) ∈ WS := List.mem_filter.mpr ⟨List.mem_of_getElem? (i := 533) (by decide +kernel), by decide +kernel⟩
theorem kM_X0_49 : (Cond.methodLink RX0 49 Lib.Math.max.name : Cond) ∈ WS := List.mem_filter.mpr ⟨List.mem_of_getElem? (i := 534) (by decide +kernel), by decide +kernel⟩
theorem kM_L_118 : (Cond.methodLink RL 118 yX5_load : Cond) ∈ WS := List.mem_filter.mpr ⟨List.mem_of_getElem? (i := 535) (by decide +kernel), by decide +kernel⟩
theorem kI_X5_load : (Cond.instanceMethod yX5_load : Cond) ∈ WS := List.mem_filter.mpr ⟨List.mem_of_getElem? (i := 536) (by decide +kernel), by decide +kernel⟩
theorem kV_X5_load : (Cond.selects RX5 yX5_load yX5_load : Cond) ∈ WS := List.mem_filter.mpr ⟨List.mem_of_getElem? (i := 537) (by decide +kernel), by decide +kernel⟩
theorem kC_X5_load : (Cond.code yX5_load cX5_load 1 (some .int) : Cond) ∈ WS := List.mem_filter.mpr ⟨List.mem_of_getElem? (i := 538) (by decide +kernel), by decide +kernel⟩
theorem kM_X5_232 : (Cond.methodLink RX5 232 yX5_copy : Cond) ∈ WS := List.mem_filter.mpr ⟨List.mem_of_getElem? (i := 539) (by decide +kernel), by decide +kernel⟩
theorem kL_L_10 : (Cond.classLink RL 10 RX6 : Cond) ∈ WS := List.mem_filter.mpr ⟨List.mem_of_getElem? (i := 540) (by decide +kernel), by decide +kernel⟩
theorem kT_X6 : (Cond.instantiable RX6 18 : Cond) ∈ WS := List.mem_filter.mpr ⟨List.mem_of_getElem? (i := 541) (by decide +kernel), by decide +kernel⟩
theorem kM_L_12 : (Cond.methodLink RL 12 yX6_init : Cond) ∈ WS := List.mem_filter.mpr ⟨List.mem_of_getElem? (i := 542) (by decide +kernel), by decide +kernel⟩
theorem kI_X6_init : (Cond.instanceMethod yX6_init : Cond) ∈ WS := List.mem_filter.mpr ⟨List.mem_of_getElem? (i := 543) (by decide +kernel), by decide +kernel⟩
theorem kC_X6_init : (Cond.code yX6_init cX6_init 1 none : Cond) ∈ WS := List.mem_filter.mpr ⟨List.mem_of_getElem? (i := 544) (by decide +kernel), by decide +kernel⟩
theorem kM_X6_1 : (Cond.methodLink RX6 1 Lib.objectInit : Cond) ∈ WS := List.mem_filter.mpr ⟨List.mem_of_getElem? (i := 545) (by decide +kernel), by decide +kernel⟩
theorem kF_X6_7 : (Cond.fieldLink RX6 7 RX6 "now" "[I" : Cond) ∈ WS := List.mem_filter.mpr ⟨List.mem_of_getElem? (i := 546) (by decide +kernel), by decide +kernel⟩
theorem kF_X6_13 : (Cond.fieldLink RX6 13 RX6 "past" "[I" : Cond) ∈ WS := List.mem_filter.mpr ⟨List.mem_of_getElem? (i := 547) (by decide +kernel), by decide +kernel⟩
theorem kF_X6_40 : (Cond.fieldLink RX6 40 RX6 "saved" "I" : Cond) ∈ WS := List.mem_filter.mpr ⟨List.mem_of_getElem? (i := 548) (by decide +kernel), by decide +kernel⟩
theorem kF_X6_16 : (Cond.fieldLink RX6 16 RX6 "text" "[I" : Cond) ∈ WS := List.mem_filter.mpr ⟨List.mem_of_getElem? (i := 549) (by decide +kernel), by decide +kernel⟩
theorem kF_X6_65 : (Cond.fieldLink RX6 65 RX6 "length" "I" : Cond) ∈ WS := List.mem_filter.mpr ⟨List.mem_of_getElem? (i := 550) (by decide +kernel), by decide +kernel⟩
theorem kF_X6_85 : (Cond.fieldLink RX6 85 RX6 "foundAngle" "I" : Cond) ∈ WS := List.mem_filter.mpr ⟨List.mem_of_getElem? (i := 551) (by decide +kernel), by decide +kernel⟩
theorem kF_X6_82 : (Cond.fieldLink RX6 82 RX6 "foundOff" "I" : Cond) ∈ WS := List.mem_filter.mpr ⟨List.mem_of_getElem? (i := 552) (by decide +kernel), by decide +kernel⟩
theorem kF_X6_19 : (Cond.fieldLink RX6 19 RX6 "looked" "[I" : Cond) ∈ WS := List.mem_filter.mpr ⟨List.mem_of_getElem? (i := 553) (by decide +kernel), by decide +kernel⟩
theorem kF_X6_110 : (Cond.fieldLink RX6 110 RX6 "firstAngle" "I" : Cond) ∈ WS := List.mem_filter.mpr ⟨List.mem_of_getElem? (i := 554) (by decide +kernel), by decide +kernel⟩
theorem kF_X6_107 : (Cond.fieldLink RX6 107 RX6 "angles" "I" : Cond) ∈ WS := List.mem_filter.mpr ⟨List.mem_of_getElem? (i := 555) (by decide +kernel), by decide +kernel⟩
theorem kF_X6_141 : (Cond.fieldLink RX6 141 RX6 "at" "I" : Cond) ∈ WS := List.mem_filter.mpr ⟨List.mem_of_getElem? (i := 556) (by decide +kernel), by decide +kernel⟩
theorem kF_X6_156 : (Cond.fieldLink RX6 156 RX6 "behind" "I" : Cond) ∈ WS := List.mem_filter.mpr ⟨List.mem_of_getElem? (i := 557) (by decide +kernel), by decide +kernel⟩
theorem kF_X6_147 : (Cond.fieldLink RX6 147 RX6 "track" "I" : Cond) ∈ WS := List.mem_filter.mpr ⟨List.mem_of_getElem? (i := 558) (by decide +kernel), by decide +kernel⟩
theorem kF_X6_150 : (Cond.fieldLink RX6 150 RX6 "sector" "I" : Cond) ∈ WS := List.mem_filter.mpr ⟨List.mem_of_getElem? (i := 559) (by decide +kernel), by decide +kernel⟩
theorem kF_X6_153 : (Cond.fieldLink RX6 153 RX6 "number" "I" : Cond) ∈ WS := List.mem_filter.mpr ⟨List.mem_of_getElem? (i := 560) (by decide +kernel), by decide +kernel⟩
theorem kF_X6_22 : (Cond.fieldLink RX6 22 RX6 "told" "[I" : Cond) ∈ WS := List.mem_filter.mpr ⟨List.mem_of_getElem? (i := 561) (by decide +kernel), by decide +kernel⟩
theorem kF_X6_25 : (Cond.fieldLink RX6 25 RX6 "tells" "[I" : Cond) ∈ WS := List.mem_filter.mpr ⟨List.mem_of_getElem? (i := 562) (by decide +kernel), by decide +kernel⟩
theorem kF_X6_159 : (Cond.fieldLink RX6 159 RX6 "entries" "I" : Cond) ∈ WS := List.mem_filter.mpr ⟨List.mem_of_getElem? (i := 563) (by decide +kernel), by decide +kernel⟩
theorem kM_L_38 : (Cond.methodLink RL 38 yX6_undo : Cond) ∈ WS := List.mem_filter.mpr ⟨List.mem_of_getElem? (i := 601) (by decide +kernel), by decide +kernel⟩
theorem kI_X6_undo : (Cond.instanceMethod yX6_undo : Cond) ∈ WS := List.mem_filter.mpr ⟨List.mem_of_getElem? (i := 602) (by decide +kernel), by decide +kernel⟩
theorem kV_X6_undo : (Cond.selects RX6 yX6_undo yX6_undo : Cond) ∈ WS := List.mem_filter.mpr ⟨List.mem_of_getElem? (i := 603) (by decide +kernel), by decide +kernel⟩
theorem kC_X6_undo : (Cond.code yX6_undo cX6_undo 2 (some .int) : Cond) ∈ WS := List.mem_filter.mpr ⟨List.mem_of_getElem? (i := 604) (by decide +kernel), by decide +kernel⟩
theorem kM_L_17 : (Cond.methodLink RL 17 yX6_turn : Cond) ∈ WS := List.mem_filter.mpr ⟨List.mem_of_getElem? (i := 605) (by decide +kernel), by decide +kernel⟩
theorem kI_X6_turn : (Cond.instanceMethod yX6_turn : Cond) ∈ WS := List.mem_filter.mpr ⟨List.mem_of_getElem? (i := 606) (by decide +kernel), by decide +kernel⟩
theorem kV_X6_turn : (Cond.selects RX6 yX6_turn yX6_turn : Cond) ∈ WS := List.mem_filter.mpr ⟨List.mem_of_getElem? (i := 607) (by decide +kernel), by decide +kernel⟩
theorem kC_X6_turn : (Cond.code yX6_turn cX6_turn 4 (some .int) : Cond) ∈ WS := List.mem_filter.mpr ⟨List.mem_of_getElem? (i := 608) (by decide +kernel), by decide +kernel⟩
theorem kM_X6_32 : (Cond.methodLink RX6 32 yX6_in : Cond) ∈ WS := List.mem_filter.mpr ⟨List.mem_of_getElem? (i := 609) (by decide +kernel), by decide +kernel⟩
theorem kS_X6_in : (Cond.static yX6_in : Cond) ∈ WS := List.mem_filter.mpr ⟨List.mem_of_getElem? (i := 610) (by decide +kernel), by decide +kernel⟩
theorem kC_X6_in : (Cond.code yX6_in cX6_in 3 (some .boolean) : Cond) ∈ WS := List.mem_filter.mpr ⟨List.mem_of_getElem? (i := 611) (by decide +kernel), by decide +kernel⟩
theorem kK_X6_47 : (Cond.constant RX6 47 65279 : Cond) ∈ WS := List.mem_filter.mpr ⟨List.mem_of_getElem? (i := 612) (by decide +kernel), by decide +kernel⟩
theorem kM_X6_44 : (Cond.methodLink RX6 44 yX6_saves : Cond) ∈ WS := List.mem_filter.mpr ⟨List.mem_of_getElem? (i := 613) (by decide +kernel), by decide +kernel⟩
theorem kI_X6_saves : (Cond.instanceMethod yX6_saves : Cond) ∈ WS := List.mem_filter.mpr ⟨List.mem_of_getElem? (i := 615) (by decide +kernel), by decide +kernel⟩
theorem kC_X6_saves : (Cond.code yX6_saves cX6_saves 2 none : Cond) ∈ WS := List.mem_filter.mpr ⟨List.mem_of_getElem? (i := 616) (by decide +kernel), by decide +kernel⟩
theorem kM_X6_48 : (Cond.methodLink RX6 48 yX6_crosses : Cond) ∈ WS := List.mem_filter.mpr ⟨List.mem_of_getElem? (i := 617) (by decide +kernel), by decide +kernel⟩
theorem kI_X6_crosses : (Cond.instanceMethod yX6_crosses : Cond) ∈ WS := List.mem_filter.mpr ⟨List.mem_of_getElem? (i := 619) (by decide +kernel), by decide +kernel⟩
theorem kC_X6_crosses : (Cond.code yX6_crosses cX6_crosses 3 none : Cond) ∈ WS := List.mem_filter.mpr ⟨List.mem_of_getElem? (i := 620) (by decide +kernel), by decide +kernel⟩
theorem kM_X6_28 : (Cond.methodLink RX6 28 yX6_rest : Cond) ∈ WS := List.mem_filter.mpr ⟨List.mem_of_getElem? (i := 621) (by decide +kernel), by decide +kernel⟩
theorem kS_X6_rest : (Cond.static yX6_rest : Cond) ∈ WS := List.mem_filter.mpr ⟨List.mem_of_getElem? (i := 622) (by decide +kernel), by decide +kernel⟩
theorem kC_X6_rest : (Cond.code yX6_rest cX6_rest 3 (some .int) : Cond) ∈ WS := List.mem_filter.mpr ⟨List.mem_of_getElem? (i := 623) (by decide +kernel), by decide +kernel⟩
theorem kM_L_21 : (Cond.methodLink RL 21 yX6_power : Cond) ∈ WS := List.mem_filter.mpr ⟨List.mem_of_getElem? (i := 624) (by decide +kernel), by decide +kernel⟩
theorem kI_X6_power : (Cond.instanceMethod yX6_power : Cond) ∈ WS := List.mem_filter.mpr ⟨List.mem_of_getElem? (i := 625) (by decide +kernel), by decide +kernel⟩
theorem kV_X6_power : (Cond.selects RX6 yX6_power yX6_power : Cond) ∈ WS := List.mem_filter.mpr ⟨List.mem_of_getElem? (i := 626) (by decide +kernel), by decide +kernel⟩
theorem kC_X6_power : (Cond.code yX6_power cX6_power 2 (some .int) : Cond) ∈ WS := List.mem_filter.mpr ⟨List.mem_of_getElem? (i := 627) (by decide +kernel), by decide +kernel⟩
theorem kM_X6_52 : (Cond.methodLink RX6 52 yX6_puts : Cond) ∈ WS := List.mem_filter.mpr ⟨List.mem_of_getElem? (i := 628) (by decide +kernel), by decide +kernel⟩
theorem kI_X6_puts : (Cond.instanceMethod yX6_puts : Cond) ∈ WS := List.mem_filter.mpr ⟨List.mem_of_getElem? (i := 630) (by decide +kernel), by decide +kernel⟩
theorem kC_X6_puts : (Cond.code yX6_puts cX6_puts 4 (some .int) : Cond) ∈ WS := List.mem_filter.mpr ⟨List.mem_of_getElem? (i := 631) (by decide +kernel), by decide +kernel⟩
theorem kM_L_25 : (Cond.methodLink RL 25 yX6_brownout : Cond) ∈ WS := List.mem_filter.mpr ⟨List.mem_of_getElem? (i := 632) (by decide +kernel), by decide +kernel⟩
theorem kI_X6_brownout : (Cond.instanceMethod yX6_brownout : Cond) ∈ WS := List.mem_filter.mpr ⟨List.mem_of_getElem? (i := 633) (by decide +kernel), by decide +kernel⟩
theorem kV_X6_brownout : (Cond.selects RX6 yX6_brownout yX6_brownout : Cond) ∈ WS := List.mem_filter.mpr ⟨List.mem_of_getElem? (i := 634) (by decide +kernel), by decide +kernel⟩
theorem kC_X6_brownout : (Cond.code yX6_brownout cX6_brownout 3 (some .int) : Cond) ∈ WS := List.mem_filter.mpr ⟨List.mem_of_getElem? (i := 635) (by decide +kernel), by decide +kernel⟩
theorem kM_L_29 : (Cond.methodLink RL 29 yX6_charge : Cond) ∈ WS := List.mem_filter.mpr ⟨List.mem_of_getElem? (i := 636) (by decide +kernel), by decide +kernel⟩
theorem kI_X6_charge : (Cond.instanceMethod yX6_charge : Cond) ∈ WS := List.mem_filter.mpr ⟨List.mem_of_getElem? (i := 637) (by decide +kernel), by decide +kernel⟩
theorem kV_X6_charge : (Cond.selects RX6 yX6_charge yX6_charge : Cond) ∈ WS := List.mem_filter.mpr ⟨List.mem_of_getElem? (i := 638) (by decide +kernel), by decide +kernel⟩
theorem kC_X6_charge : (Cond.code yX6_charge cX6_charge 2 (some .int) : Cond) ∈ WS := List.mem_filter.mpr ⟨List.mem_of_getElem? (i := 639) (by decide +kernel), by decide +kernel⟩
theorem kM_L_33 : (Cond.methodLink RL 33 yX6_count : Cond) ∈ WS := List.mem_filter.mpr ⟨List.mem_of_getElem? (i := 640) (by decide +kernel), by decide +kernel⟩
theorem kI_X6_count : (Cond.instanceMethod yX6_count : Cond) ∈ WS := List.mem_filter.mpr ⟨List.mem_of_getElem? (i := 641) (by decide +kernel), by decide +kernel⟩
theorem kV_X6_count : (Cond.selects RX6 yX6_count yX6_count : Cond) ∈ WS := List.mem_filter.mpr ⟨List.mem_of_getElem? (i := 642) (by decide +kernel), by decide +kernel⟩
theorem kC_X6_count : (Cond.code yX6_count cX6_count 2 (some .int) : Cond) ∈ WS := List.mem_filter.mpr ⟨List.mem_of_getElem? (i := 643) (by decide +kernel), by decide +kernel⟩
theorem kM_X6_55 : (Cond.methodLink RX6 55 yX6_angle : Cond) ∈ WS := List.mem_filter.mpr ⟨List.mem_of_getElem? (i := 644) (by decide +kernel), by decide +kernel⟩
theorem kI_X6_angle : (Cond.instanceMethod yX6_angle : Cond) ∈ WS := List.mem_filter.mpr ⟨List.mem_of_getElem? (i := 646) (by decide +kernel), by decide +kernel⟩
theorem kC_X6_angle : (Cond.code yX6_angle cX6_angle 1 (some .int) : Cond) ∈ WS := List.mem_filter.mpr ⟨List.mem_of_getElem? (i := 647) (by decide +kernel), by decide +kernel⟩
theorem kM_X6_59 : (Cond.methodLink RX6 59 yX6_coarse : Cond) ∈ WS := List.mem_filter.mpr ⟨List.mem_of_getElem? (i := 648) (by decide +kernel), by decide +kernel⟩
theorem kI_X6_coarse : (Cond.instanceMethod yX6_coarse : Cond) ∈ WS := List.mem_filter.mpr ⟨List.mem_of_getElem? (i := 650) (by decide +kernel), by decide +kernel⟩
theorem kC_X6_coarse : (Cond.code yX6_coarse cX6_coarse 1 (some .int) : Cond) ∈ WS := List.mem_filter.mpr ⟨List.mem_of_getElem? (i := 651) (by decide +kernel), by decide +kernel⟩
theorem kM_X6_62 : (Cond.methodLink RX6 62 yX6_corrections : Cond) ∈ WS := List.mem_filter.mpr ⟨List.mem_of_getElem? (i := 652) (by decide +kernel), by decide +kernel⟩
theorem kI_X6_corrections : (Cond.instanceMethod yX6_corrections : Cond) ∈ WS := List.mem_filter.mpr ⟨List.mem_of_getElem? (i := 654) (by decide +kernel), by decide +kernel⟩
theorem kC_X6_corrections : (Cond.code yX6_corrections cX6_corrections 3 (some .int) : Cond) ∈ WS := List.mem_filter.mpr ⟨List.mem_of_getElem? (i := 655) (by decide +kernel), by decide +kernel⟩
theorem kM_L_43 : (Cond.methodLink RL 43 yX6_disk : Cond) ∈ WS := List.mem_filter.mpr ⟨List.mem_of_getElem? (i := 656) (by decide +kernel), by decide +kernel⟩
theorem kI_X6_disk : (Cond.instanceMethod yX6_disk : Cond) ∈ WS := List.mem_filter.mpr ⟨List.mem_of_getElem? (i := 657) (by decide +kernel), by decide +kernel⟩
theorem kV_X6_disk : (Cond.selects RX6 yX6_disk yX6_disk : Cond) ∈ WS := List.mem_filter.mpr ⟨List.mem_of_getElem? (i := 658) (by decide +kernel), by decide +kernel⟩
theorem kC_X6_disk : (Cond.code yX6_disk cX6_disk 4 (some .int) : Cond) ∈ WS := List.mem_filter.mpr ⟨List.mem_of_getElem? (i := 659) (by decide +kernel), by decide +kernel⟩
theorem kM_X6_68 : (Cond.methodLink RX6 68 yX6_isCell : Cond) ∈ WS := List.mem_filter.mpr ⟨List.mem_of_getElem? (i := 660) (by decide +kernel), by decide +kernel⟩
theorem kS_X6_isCell : (Cond.static yX6_isCell : Cond) ∈ WS := List.mem_filter.mpr ⟨List.mem_of_getElem? (i := 661) (by decide +kernel), by decide +kernel⟩
theorem kC_X6_isCell : (Cond.code yX6_isCell cX6_isCell 2 (some .boolean) : Cond) ∈ WS := List.mem_filter.mpr ⟨List.mem_of_getElem? (i := 662) (by decide +kernel), by decide +kernel⟩
theorem kM_X6_36 : (Cond.methodLink RX6 36 yX6_isTrack : Cond) ∈ WS := List.mem_filter.mpr ⟨List.mem_of_getElem? (i := 663) (by decide +kernel), by decide +kernel⟩
theorem kS_X6_isTrack : (Cond.static yX6_isTrack : Cond) ∈ WS := List.mem_filter.mpr ⟨List.mem_of_getElem? (i := 664) (by decide +kernel), by decide +kernel⟩
theorem kC_X6_isTrack : (Cond.code yX6_isTrack cX6_isTrack 1 (some .boolean) : Cond) ∈ WS := List.mem_filter.mpr ⟨List.mem_of_getElem? (i := 665) (by decide +kernel), by decide +kernel⟩
theorem kM_L_48 : (Cond.methodLink RL 48 yX6_noise : Cond) ∈ WS := List.mem_filter.mpr ⟨List.mem_of_getElem? (i := 666) (by decide +kernel), by decide +kernel⟩
theorem kI_X6_noise : (Cond.instanceMethod yX6_noise : Cond) ∈ WS := List.mem_filter.mpr ⟨List.mem_of_getElem? (i := 667) (by decide +kernel), by decide +kernel⟩
theorem kV_X6_noise : (Cond.selects RX6 yX6_noise yX6_noise : Cond) ∈ WS := List.mem_filter.mpr ⟨List.mem_of_getElem? (i := 668) (by decide +kernel), by decide +kernel⟩
theorem kC_X6_noise : (Cond.code yX6_noise cX6_noise 3 (some .int) : Cond) ∈ WS := List.mem_filter.mpr ⟨List.mem_of_getElem? (i := 669) (by decide +kernel), by decide +kernel⟩
theorem kM_L_52 : (Cond.methodLink RL 52 yX6_set : Cond) ∈ WS := List.mem_filter.mpr ⟨List.mem_of_getElem? (i := 670) (by decide +kernel), by decide +kernel⟩
theorem kI_X6_set : (Cond.instanceMethod yX6_set : Cond) ∈ WS := List.mem_filter.mpr ⟨List.mem_of_getElem? (i := 671) (by decide +kernel), by decide +kernel⟩
theorem kV_X6_set : (Cond.selects RX6 yX6_set yX6_set : Cond) ∈ WS := List.mem_filter.mpr ⟨List.mem_of_getElem? (i := 672) (by decide +kernel), by decide +kernel⟩
theorem kC_X6_set : (Cond.code yX6_set cX6_set 3 (some .int) : Cond) ∈ WS := List.mem_filter.mpr ⟨List.mem_of_getElem? (i := 673) (by decide +kernel), by decide +kernel⟩
theorem kM_X6_72 : (Cond.methodLink RX6 72 yX6_isSetting : Cond) ∈ WS := List.mem_filter.mpr ⟨List.mem_of_getElem? (i := 674) (by decide +kernel), by decide +kernel⟩
theorem kS_X6_isSetting : (Cond.static yX6_isSetting : Cond) ∈ WS := List.mem_filter.mpr ⟨List.mem_of_getElem? (i := 675) (by decide +kernel), by decide +kernel⟩
theorem kC_X6_isSetting : (Cond.code yX6_isSetting cX6_isSetting 2 (some .boolean) : Cond) ∈ WS := List.mem_filter.mpr ⟨List.mem_of_getElem? (i := 676) (by decide +kernel), by decide +kernel⟩
theorem kM_L_56 : (Cond.methodLink RL 56 yX6_reading : Cond) ∈ WS := List.mem_filter.mpr ⟨List.mem_of_getElem? (i := 677) (by decide +kernel), by decide +kernel⟩
theorem kI_X6_reading : (Cond.instanceMethod yX6_reading : Cond) ∈ WS := List.mem_filter.mpr ⟨List.mem_of_getElem? (i := 678) (by decide +kernel), by decide +kernel⟩
theorem kV_X6_reading : (Cond.selects RX6 yX6_reading yX6_reading : Cond) ∈ WS := List.mem_filter.mpr ⟨List.mem_of_getElem? (i := 679) (by decide +kernel), by decide +kernel⟩
theorem kC_X6_reading : (Cond.code yX6_reading cX6_reading 2 (some .int) : Cond) ∈ WS := List.mem_filter.mpr ⟨List.mem_of_getElem? (i := 680) (by decide +kernel), by decide +kernel⟩
theorem kM_X6_79 : (Cond.methodLink RX6 79 yX6_readingAt : Cond) ∈ WS := List.mem_filter.mpr ⟨List.mem_of_getElem? (i := 681) (by decide +kernel), by decide +kernel⟩
theorem kI_X6_readingAt : (Cond.instanceMethod yX6_readingAt : Cond) ∈ WS := List.mem_filter.mpr ⟨List.mem_of_getElem? (i := 683) (by decide +kernel), by decide +kernel⟩
theorem kC_X6_readingAt : (Cond.code yX6_readingAt cX6_readingAt 3 (some .int) : Cond) ∈ WS := List.mem_filter.mpr ⟨List.mem_of_getElem? (i := 684) (by decide +kernel), by decide +kernel⟩
theorem kM_X6_75 : (Cond.methodLink RX6 75 yX6_lengthOf : Cond) ∈ WS := List.mem_filter.mpr ⟨List.mem_of_getElem? (i := 685) (by decide +kernel), by decide +kernel⟩
theorem kS_X6_lengthOf : (Cond.static yX6_lengthOf : Cond) ∈ WS := List.mem_filter.mpr ⟨List.mem_of_getElem? (i := 686) (by decide +kernel), by decide +kernel⟩
theorem kC_X6_lengthOf : (Cond.code yX6_lengthOf cX6_lengthOf 1 (some .int) : Cond) ∈ WS := List.mem_filter.mpr ⟨List.mem_of_getElem? (i := 687) (by decide +kernel), by decide +kernel⟩
theorem kM_L_61 : (Cond.methodLink RL 61 yX6_found : Cond) ∈ WS := List.mem_filter.mpr ⟨List.mem_of_getElem? (i := 688) (by decide +kernel), by decide +kernel⟩
theorem kI_X6_found : (Cond.instanceMethod yX6_found : Cond) ∈ WS := List.mem_filter.mpr ⟨List.mem_of_getElem? (i := 689) (by decide +kernel), by decide +kernel⟩
theorem kV_X6_found : (Cond.selects RX6 yX6_found yX6_found : Cond) ∈ WS := List.mem_filter.mpr ⟨List.mem_of_getElem? (i := 690) (by decide +kernel), by decide +kernel⟩
theorem kC_X6_found : (Cond.code yX6_found cX6_found 5 (some .int) : Cond) ∈ WS := List.mem_filter.mpr ⟨List.mem_of_getElem? (i := 691) (by decide +kernel), by decide +kernel⟩
theorem kM_X6_91 : (Cond.methodLink RX6 91 yX6_finds : Cond) ∈ WS := List.mem_filter.mpr ⟨List.mem_of_getElem? (i := 692) (by decide +kernel), by decide +kernel⟩
theorem kI_X6_finds : (Cond.instanceMethod yX6_finds : Cond) ∈ WS := List.mem_filter.mpr ⟨List.mem_of_getElem? (i := 694) (by decide +kernel), by decide +kernel⟩
theorem kC_X6_finds : (Cond.code yX6_finds cX6_finds 10 none : Cond) ∈ WS := List.mem_filter.mpr ⟨List.mem_of_getElem? (i := 695) (by decide +kernel), by decide +kernel⟩
theorem kM_X6_88 : (Cond.methodLink RX6 88 yX6_nearer : Cond) ∈ WS := List.mem_filter.mpr ⟨List.mem_of_getElem? (i := 696) (by decide +kernel), by decide +kernel⟩
theorem kS_X6_nearer : (Cond.static yX6_nearer : Cond) ∈ WS := List.mem_filter.mpr ⟨List.mem_of_getElem? (i := 697) (by decide +kernel), by decide +kernel⟩
theorem kC_X6_nearer : (Cond.code yX6_nearer cX6_nearer 2 (some .int) : Cond) ∈ WS := List.mem_filter.mpr ⟨List.mem_of_getElem? (i := 698) (by decide +kernel), by decide +kernel⟩
theorem kM_L_65 : (Cond.methodLink RL 65 yX6_byTwo : Cond) ∈ WS := List.mem_filter.mpr ⟨List.mem_of_getElem? (i := 699) (by decide +kernel), by decide +kernel⟩
theorem kI_X6_byTwo : (Cond.instanceMethod yX6_byTwo : Cond) ∈ WS := List.mem_filter.mpr ⟨List.mem_of_getElem? (i := 700) (by decide +kernel), by decide +kernel⟩
theorem kV_X6_byTwo : (Cond.selects RX6 yX6_byTwo yX6_byTwo : Cond) ∈ WS := List.mem_filter.mpr ⟨List.mem_of_getElem? (i := 701) (by decide +kernel), by decide +kernel⟩
theorem kC_X6_byTwo : (Cond.code yX6_byTwo cX6_byTwo 6 (some .int) : Cond) ∈ WS := List.mem_filter.mpr ⟨List.mem_of_getElem? (i := 702) (by decide +kernel), by decide +kernel⟩
theorem kM_X6_95 : (Cond.methodLink RX6 95 yX6_isReading : Cond) ∈ WS := List.mem_filter.mpr ⟨List.mem_of_getElem? (i := 703) (by decide +kernel), by decide +kernel⟩
theorem kS_X6_isReading : (Cond.static yX6_isReading : Cond) ∈ WS := List.mem_filter.mpr ⟨List.mem_of_getElem? (i := 704) (by decide +kernel), by decide +kernel⟩
theorem kC_X6_isReading : (Cond.code yX6_isReading cX6_isReading 2 (some .boolean) : Cond) ∈ WS := List.mem_filter.mpr ⟨List.mem_of_getElem? (i := 705) (by decide +kernel), by decide +kernel⟩
theorem kM_L_69 : (Cond.methodLink RL 69 yX6_correct : Cond) ∈ WS := List.mem_filter.mpr ⟨List.mem_of_getElem? (i := 706) (by decide +kernel), by decide +kernel⟩
theorem kI_X6_correct : (Cond.instanceMethod yX6_correct : Cond) ∈ WS := List.mem_filter.mpr ⟨List.mem_of_getElem? (i := 707) (by decide +kernel), by decide +kernel⟩
theorem kV_X6_correct : (Cond.selects RX6 yX6_correct yX6_correct : Cond) ∈ WS := List.mem_filter.mpr ⟨List.mem_of_getElem? (i := 708) (by decide +kernel), by decide +kernel⟩
theorem kC_X6_correct : (Cond.code yX6_correct cX6_correct 4 (some .int) : Cond) ∈ WS := List.mem_filter.mpr ⟨List.mem_of_getElem? (i := 709) (by decide +kernel), by decide +kernel⟩
theorem kM_X6_98 : (Cond.methodLink RX6 98 yX6_isCorrection : Cond) ∈ WS := List.mem_filter.mpr ⟨List.mem_of_getElem? (i := 710) (by decide +kernel), by decide +kernel⟩
theorem kS_X6_isCorrection : (Cond.static yX6_isCorrection : Cond) ∈ WS := List.mem_filter.mpr ⟨List.mem_of_getElem? (i := 711) (by decide +kernel), by decide +kernel⟩
theorem kC_X6_isCorrection : (Cond.code yX6_isCorrection cX6_isCorrection 1 (some .boolean) : Cond) ∈ WS := List.mem_filter.mpr ⟨List.mem_of_getElem? (i := 712) (by decide +kernel), by decide +kernel⟩
theorem kM_L_73 : (Cond.methodLink RL 73 yX6_correction : Cond) ∈ WS := List.mem_filter.mpr ⟨List.mem_of_getElem? (i := 713) (by decide +kernel), by decide +kernel⟩
theorem kI_X6_correction : (Cond.instanceMethod yX6_correction : Cond) ∈ WS := List.mem_filter.mpr ⟨List.mem_of_getElem? (i := 714) (by decide +kernel), by decide +kernel⟩
theorem kV_X6_correction : (Cond.selects RX6 yX6_correction yX6_correction : Cond) ∈ WS := List.mem_filter.mpr ⟨List.mem_of_getElem? (i := 715) (by decide +kernel), by decide +kernel⟩
theorem kC_X6_correction : (Cond.code yX6_correction cX6_correction 3 (some .int) : Cond) ∈ WS := List.mem_filter.mpr ⟨List.mem_of_getElem? (i := 716) (by decide +kernel), by decide +kernel⟩
theorem kM_L_77 : (Cond.methodLink RL 77 yX6_learn : Cond) ∈ WS := List.mem_filter.mpr ⟨List.mem_of_getElem? (i := 717) (by decide +kernel), by decide +kernel⟩
theorem kI_X6_learn : (Cond.instanceMethod yX6_learn : Cond) ∈ WS := List.mem_filter.mpr ⟨List.mem_of_getElem? (i := 718) (by decide +kernel), by decide +kernel⟩
theorem kV_X6_learn : (Cond.selects RX6 yX6_learn yX6_learn : Cond) ∈ WS := List.mem_filter.mpr ⟨List.mem_of_getElem? (i := 719) (by decide +kernel), by decide +kernel⟩
theorem kC_X6_learn : (Cond.code yX6_learn cX6_learn 4 (some .int) : Cond) ∈ WS := List.mem_filter.mpr ⟨List.mem_of_getElem? (i := 720) (by decide +kernel), by decide +kernel⟩
theorem kM_X6_101 : (Cond.methodLink RX6 101 yX6_tooHigh : Cond) ∈ WS := List.mem_filter.mpr ⟨List.mem_of_getElem? (i := 721) (by decide +kernel), by decide +kernel⟩
theorem kI_X6_tooHigh : (Cond.instanceMethod yX6_tooHigh : Cond) ∈ WS := List.mem_filter.mpr ⟨List.mem_of_getElem? (i := 723) (by decide +kernel), by decide +kernel⟩
theorem kC_X6_tooHigh : (Cond.code yX6_tooHigh cX6_tooHigh 3 (some .int) : Cond) ∈ WS := List.mem_filter.mpr ⟨List.mem_of_getElem? (i := 724) (by decide +kernel), by decide +kernel⟩
theorem kM_L_81 : (Cond.methodLink RL 81 yX6_look : Cond) ∈ WS := List.mem_filter.mpr ⟨List.mem_of_getElem? (i := 725) (by decide +kernel), by decide +kernel⟩
theorem kI_X6_look : (Cond.instanceMethod yX6_look : Cond) ∈ WS := List.mem_filter.mpr ⟨List.mem_of_getElem? (i := 726) (by decide +kernel), by decide +kernel⟩
theorem kV_X6_look : (Cond.selects RX6 yX6_look yX6_look : Cond) ∈ WS := List.mem_filter.mpr ⟨List.mem_of_getElem? (i := 727) (by decide +kernel), by decide +kernel⟩
theorem kC_X6_look : (Cond.code yX6_look cX6_look 2 (some .int) : Cond) ∈ WS := List.mem_filter.mpr ⟨List.mem_of_getElem? (i := 728) (by decide +kernel), by decide +kernel⟩
theorem kM_X6_116 : (Cond.methodLink RX6 116 yX6_looks : Cond) ∈ WS := List.mem_filter.mpr ⟨List.mem_of_getElem? (i := 729) (by decide +kernel), by decide +kernel⟩
theorem kI_X6_looks : (Cond.instanceMethod yX6_looks : Cond) ∈ WS := List.mem_filter.mpr ⟨List.mem_of_getElem? (i := 731) (by decide +kernel), by decide +kernel⟩
theorem kC_X6_looks : (Cond.code yX6_looks cX6_looks 3 none : Cond) ∈ WS := List.mem_filter.mpr ⟨List.mem_of_getElem? (i := 732) (by decide +kernel), by decide +kernel⟩
theorem kM_X6_113 : (Cond.methodLink RX6 113 yX6_findsIn : Cond) ∈ WS := List.mem_filter.mpr ⟨List.mem_of_getElem? (i := 733) (by decide +kernel), by decide +kernel⟩
theorem kI_X6_findsIn : (Cond.instanceMethod yX6_findsIn : Cond) ∈ WS := List.mem_filter.mpr ⟨List.mem_of_getElem? (i := 735) (by decide +kernel), by decide +kernel⟩
theorem kC_X6_findsIn : (Cond.code yX6_findsIn cX6_findsIn 2 none : Cond) ∈ WS := List.mem_filter.mpr ⟨List.mem_of_getElem? (i := 736) (by decide +kernel), by decide +kernel⟩
theorem kM_X6_104 : (Cond.methodLink RX6 104 yX6_corrected : Cond) ∈ WS := List.mem_filter.mpr ⟨List.mem_of_getElem? (i := 737) (by decide +kernel), by decide +kernel⟩
theorem kI_X6_corrected : (Cond.instanceMethod yX6_corrected : Cond) ∈ WS := List.mem_filter.mpr ⟨List.mem_of_getElem? (i := 739) (by decide +kernel), by decide +kernel⟩
theorem kC_X6_corrected : (Cond.code yX6_corrected cX6_corrected 3 (some .int) : Cond) ∈ WS := List.mem_filter.mpr ⟨List.mem_of_getElem? (i := 740) (by decide +kernel), by decide +kernel⟩
theorem kM_L_85 : (Cond.methodLink RL 85 yX6_survey : Cond) ∈ WS := List.mem_filter.mpr ⟨List.mem_of_getElem? (i := 741) (by decide +kernel), by decide +kernel⟩
theorem kI_X6_survey : (Cond.instanceMethod yX6_survey : Cond) ∈ WS := List.mem_filter.mpr ⟨List.mem_of_getElem? (i := 742) (by decide +kernel), by decide +kernel⟩
theorem kV_X6_survey : (Cond.selects RX6 yX6_survey yX6_survey : Cond) ∈ WS := List.mem_filter.mpr ⟨List.mem_of_getElem? (i := 743) (by decide +kernel), by decide +kernel⟩
theorem kC_X6_survey : (Cond.code yX6_survey cX6_survey 7 (some .int) : Cond) ∈ WS := List.mem_filter.mpr ⟨List.mem_of_getElem? (i := 744) (by decide +kernel), by decide +kernel⟩
theorem kM_L_89 : (Cond.methodLink RL 89 yX6_poor : Cond) ∈ WS := List.mem_filter.mpr ⟨List.mem_of_getElem? (i := 745) (by decide +kernel), by decide +kernel⟩
theorem kI_X6_poor : (Cond.instanceMethod yX6_poor : Cond) ∈ WS := List.mem_filter.mpr ⟨List.mem_of_getElem? (i := 746) (by decide +kernel), by decide +kernel⟩
theorem kV_X6_poor : (Cond.selects RX6 yX6_poor yX6_poor : Cond) ∈ WS := List.mem_filter.mpr ⟨List.mem_of_getElem? (i := 747) (by decide +kernel), by decide +kernel⟩
theorem kC_X6_poor : (Cond.code yX6_poor cX6_poor 7 (some .int) : Cond) ∈ WS := List.mem_filter.mpr ⟨List.mem_of_getElem? (i := 748) (by decide +kernel), by decide +kernel⟩
theorem kM_L_93 : (Cond.methodLink RL 93 yX6_sample : Cond) ∈ WS := List.mem_filter.mpr ⟨List.mem_of_getElem? (i := 749) (by decide +kernel), by decide +kernel⟩
theorem kI_X6_sample : (Cond.instanceMethod yX6_sample : Cond) ∈ WS := List.mem_filter.mpr ⟨List.mem_of_getElem? (i := 750) (by decide +kernel), by decide +kernel⟩
theorem kV_X6_sample : (Cond.selects RX6 yX6_sample yX6_sample : Cond) ∈ WS := List.mem_filter.mpr ⟨List.mem_of_getElem? (i := 751) (by decide +kernel), by decide +kernel⟩
theorem kC_X6_sample : (Cond.code yX6_sample cX6_sample 3 (some .int) : Cond) ∈ WS := List.mem_filter.mpr ⟨List.mem_of_getElem? (i := 752) (by decide +kernel), by decide +kernel⟩
theorem kM_X6_134 : (Cond.methodLink RX6 134 yX6_why : Cond) ∈ WS := List.mem_filter.mpr ⟨List.mem_of_getElem? (i := 753) (by decide +kernel), by decide +kernel⟩
theorem kI_X6_why : (Cond.instanceMethod yX6_why : Cond) ∈ WS := List.mem_filter.mpr ⟨List.mem_of_getElem? (i := 755) (by decide +kernel), by decide +kernel⟩
theorem kC_X6_why : (Cond.code yX6_why cX6_why 1 (some .int) : Cond) ∈ WS := List.mem_filter.mpr ⟨List.mem_of_getElem? (i := 756) (by decide +kernel), by decide +kernel⟩
theorem kM_X6_123 : (Cond.methodLink RX6 123 yX6_fitting : Cond) ∈ WS := List.mem_filter.mpr ⟨List.mem_of_getElem? (i := 757) (by decide +kernel), by decide +kernel⟩
theorem kI_X6_fitting : (Cond.instanceMethod yX6_fitting : Cond) ∈ WS := List.mem_filter.mpr ⟨List.mem_of_getElem? (i := 759) (by decide +kernel), by decide +kernel⟩
theorem kC_X6_fitting : (Cond.code yX6_fitting cX6_fitting 2 (some .int) : Cond) ∈ WS := List.mem_filter.mpr ⟨List.mem_of_getElem? (i := 760) (by decide +kernel), by decide +kernel⟩
theorem kM_X6_126 : (Cond.methodLink RX6 126 yX6_isCoarseApart : Cond) ∈ WS := List.mem_filter.mpr ⟨List.mem_of_getElem? (i := 761) (by decide +kernel), by decide +kernel⟩
theorem kI_X6_isCoarseApart : (Cond.instanceMethod yX6_isCoarseApart : Cond) ∈ WS := List.mem_filter.mpr ⟨List.mem_of_getElem? (i := 763) (by decide +kernel), by decide +kernel⟩
theorem kC_X6_isCoarseApart : (Cond.code yX6_isCoarseApart cX6_isCoarseApart 1 (some .boolean) : Cond) ∈ WS := List.mem_filter.mpr ⟨List.mem_of_getElem? (i := 764) (by decide +kernel), by decide +kernel⟩
theorem kM_X6_119 : (Cond.methodLink RX6 119 yX6_off : Cond) ∈ WS := List.mem_filter.mpr ⟨List.mem_of_getElem? (i := 765) (by decide +kernel), by decide +kernel⟩
theorem kS_X6_off : (Cond.static yX6_off : Cond) ∈ WS := List.mem_filter.mpr ⟨List.mem_of_getElem? (i := 766) (by decide +kernel), by decide +kernel⟩
theorem kC_X6_off : (Cond.code yX6_off cX6_off 4 (some .int) : Cond) ∈ WS := List.mem_filter.mpr ⟨List.mem_of_getElem? (i := 767) (by decide +kernel), by decide +kernel⟩
theorem kM_X6_130 : (Cond.methodLink RX6 130 yX6_placeFound : Cond) ∈ WS := List.mem_filter.mpr ⟨List.mem_of_getElem? (i := 768) (by decide +kernel), by decide +kernel⟩
theorem kI_X6_placeFound : (Cond.instanceMethod yX6_placeFound : Cond) ∈ WS := List.mem_filter.mpr ⟨List.mem_of_getElem? (i := 770) (by decide +kernel), by decide +kernel⟩
theorem kC_X6_placeFound : (Cond.code yX6_placeFound cX6_placeFound 1 (some .int) : Cond) ∈ WS := List.mem_filter.mpr ⟨List.mem_of_getElem? (i := 771) (by decide +kernel), by decide +kernel⟩
theorem kK_X6_133 : (Cond.constant RX6 133 65280 : Cond) ∈ WS := List.mem_filter.mpr ⟨List.mem_of_getElem? (i := 772) (by decide +kernel), by decide +kernel⟩
theorem kK_X6_137 : (Cond.constant RX6 137 100000 : Cond) ∈ WS := List.mem_filter.mpr ⟨List.mem_of_getElem? (i := 773) (by decide +kernel), by decide +kernel⟩
theorem kM_L_97 : (Cond.methodLink RL 97 yX6_reason : Cond) ∈ WS := List.mem_filter.mpr ⟨List.mem_of_getElem? (i := 774) (by decide +kernel), by decide +kernel⟩
theorem kI_X6_reason : (Cond.instanceMethod yX6_reason : Cond) ∈ WS := List.mem_filter.mpr ⟨List.mem_of_getElem? (i := 775) (by decide +kernel), by decide +kernel⟩
theorem kV_X6_reason : (Cond.selects RX6 yX6_reason yX6_reason : Cond) ∈ WS := List.mem_filter.mpr ⟨List.mem_of_getElem? (i := 776) (by decide +kernel), by decide +kernel⟩
theorem kC_X6_reason : (Cond.code yX6_reason cX6_reason 1 (some .int) : Cond) ∈ WS := List.mem_filter.mpr ⟨List.mem_of_getElem? (i := 777) (by decide +kernel), by decide +kernel⟩
theorem kM_L_101 : (Cond.methodLink RL 101 yX6_forget : Cond) ∈ WS := List.mem_filter.mpr ⟨List.mem_of_getElem? (i := 778) (by decide +kernel), by decide +kernel⟩
theorem kI_X6_forget : (Cond.instanceMethod yX6_forget : Cond) ∈ WS := List.mem_filter.mpr ⟨List.mem_of_getElem? (i := 779) (by decide +kernel), by decide +kernel⟩
theorem kV_X6_forget : (Cond.selects RX6 yX6_forget yX6_forget : Cond) ∈ WS := List.mem_filter.mpr ⟨List.mem_of_getElem? (i := 780) (by decide +kernel), by decide +kernel⟩
theorem kC_X6_forget : (Cond.code yX6_forget cX6_forget 2 (some .int) : Cond) ∈ WS := List.mem_filter.mpr ⟨List.mem_of_getElem? (i := 781) (by decide +kernel), by decide +kernel⟩
theorem kM_L_105 : (Cond.methodLink RL 105 yX6_apart : Cond) ∈ WS := List.mem_filter.mpr ⟨List.mem_of_getElem? (i := 782) (by decide +kernel), by decide +kernel⟩
theorem kI_X6_apart : (Cond.instanceMethod yX6_apart : Cond) ∈ WS := List.mem_filter.mpr ⟨List.mem_of_getElem? (i := 783) (by decide +kernel), by decide +kernel⟩
theorem kV_X6_apart : (Cond.selects RX6 yX6_apart yX6_apart : Cond) ∈ WS := List.mem_filter.mpr ⟨List.mem_of_getElem? (i := 784) (by decide +kernel), by decide +kernel⟩
theorem kC_X6_apart : (Cond.code yX6_apart cX6_apart 1 (some .int) : Cond) ∈ WS := List.mem_filter.mpr ⟨List.mem_of_getElem? (i := 785) (by decide +kernel), by decide +kernel⟩
theorem kM_L_109 : (Cond.methodLink RL 109 yX6_type : Cond) ∈ WS := List.mem_filter.mpr ⟨List.mem_of_getElem? (i := 786) (by decide +kernel), by decide +kernel⟩
theorem kI_X6_type : (Cond.instanceMethod yX6_type : Cond) ∈ WS := List.mem_filter.mpr ⟨List.mem_of_getElem? (i := 787) (by decide +kernel), by decide +kernel⟩
theorem kV_X6_type : (Cond.selects RX6 yX6_type yX6_type : Cond) ∈ WS := List.mem_filter.mpr ⟨List.mem_of_getElem? (i := 788) (by decide +kernel), by decide +kernel⟩
theorem kC_X6_type : (Cond.code yX6_type cX6_type 2 (some .int) : Cond) ∈ WS := List.mem_filter.mpr ⟨List.mem_of_getElem? (i := 789) (by decide +kernel), by decide +kernel⟩
theorem kM_L_113 : (Cond.methodLink RL 113 yX6_clearText : Cond) ∈ WS := List.mem_filter.mpr ⟨List.mem_of_getElem? (i := 790) (by decide +kernel), by decide +kernel⟩
theorem kI_X6_clearText : (Cond.instanceMethod yX6_clearText : Cond) ∈ WS := List.mem_filter.mpr ⟨List.mem_of_getElem? (i := 791) (by decide +kernel), by decide +kernel⟩
theorem kV_X6_clearText : (Cond.selects RX6 yX6_clearText yX6_clearText : Cond) ∈ WS := List.mem_filter.mpr ⟨List.mem_of_getElem? (i := 792) (by decide +kernel), by decide +kernel⟩
theorem kC_X6_clearText : (Cond.code yX6_clearText cX6_clearText 2 (some .int) : Cond) ∈ WS := List.mem_filter.mpr ⟨List.mem_of_getElem? (i := 793) (by decide +kernel), by decide +kernel⟩
theorem kM_L_117 : (Cond.methodLink RL 117 yX6_fault : Cond) ∈ WS := List.mem_filter.mpr ⟨List.mem_of_getElem? (i := 794) (by decide +kernel), by decide +kernel⟩
theorem kI_X6_fault : (Cond.instanceMethod yX6_fault : Cond) ∈ WS := List.mem_filter.mpr ⟨List.mem_of_getElem? (i := 795) (by decide +kernel), by decide +kernel⟩
theorem kV_X6_fault : (Cond.selects RX6 yX6_fault yX6_fault : Cond) ∈ WS := List.mem_filter.mpr ⟨List.mem_of_getElem? (i := 796) (by decide +kernel), by decide +kernel⟩
theorem kC_X6_fault : (Cond.code yX6_fault cX6_fault 3 (some .int) : Cond) ∈ WS := List.mem_filter.mpr ⟨List.mem_of_getElem? (i := 797) (by decide +kernel), by decide +kernel⟩
theorem kM_X6_165 : (Cond.methodLink RX6 165 yX6_reads : Cond) ∈ WS := List.mem_filter.mpr ⟨List.mem_of_getElem? (i := 798) (by decide +kernel), by decide +kernel⟩
theorem kI_X6_reads : (Cond.instanceMethod yX6_reads : Cond) ∈ WS := List.mem_filter.mpr ⟨List.mem_of_getElem? (i := 800) (by decide +kernel), by decide +kernel⟩
theorem kC_X6_reads : (Cond.code yX6_reads cX6_reads 2 (some .int) : Cond) ∈ WS := List.mem_filter.mpr ⟨List.mem_of_getElem? (i := 801) (by decide +kernel), by decide +kernel⟩
theorem kM_X6_162 : (Cond.methodLink RX6 162 yX6_entry : Cond) ∈ WS := List.mem_filter.mpr ⟨List.mem_of_getElem? (i := 802) (by decide +kernel), by decide +kernel⟩
theorem kI_X6_entry : (Cond.instanceMethod yX6_entry : Cond) ∈ WS := List.mem_filter.mpr ⟨List.mem_of_getElem? (i := 804) (by decide +kernel), by decide +kernel⟩
theorem kC_X6_entry : (Cond.code yX6_entry cX6_entry 3 (some .int) : Cond) ∈ WS := List.mem_filter.mpr ⟨List.mem_of_getElem? (i := 805) (by decide +kernel), by decide +kernel⟩
theorem kM_X6_138 : (Cond.methodLink RX6 138 yX6_letterAt : Cond) ∈ WS := List.mem_filter.mpr ⟨List.mem_of_getElem? (i := 806) (by decide +kernel), by decide +kernel⟩
theorem kI_X6_letterAt : (Cond.instanceMethod yX6_letterAt : Cond) ∈ WS := List.mem_filter.mpr ⟨List.mem_of_getElem? (i := 808) (by decide +kernel), by decide +kernel⟩
theorem kC_X6_letterAt : (Cond.code yX6_letterAt cX6_letterAt 2 (some .int) : Cond) ∈ WS := List.mem_filter.mpr ⟨List.mem_of_getElem? (i := 809) (by decide +kernel), by decide +kernel⟩
theorem kM_X6_144 : (Cond.methodLink RX6 144 yX6_isDigit : Cond) ∈ WS := List.mem_filter.mpr ⟨List.mem_of_getElem? (i := 810) (by decide +kernel), by decide +kernel⟩
theorem kI_X6_isDigit : (Cond.instanceMethod yX6_isDigit : Cond) ∈ WS := List.mem_filter.mpr ⟨List.mem_of_getElem? (i := 812) (by decide +kernel), by decide +kernel⟩
theorem kC_X6_isDigit : (Cond.code yX6_isDigit cX6_isDigit 2 (some .boolean) : Cond) ∈ WS := List.mem_filter.mpr ⟨List.mem_of_getElem? (i := 813) (by decide +kernel), by decide +kernel⟩
theorem kM_L_121 : (Cond.methodLink RL 121 yX6_load : Cond) ∈ WS := List.mem_filter.mpr ⟨List.mem_of_getElem? (i := 814) (by decide +kernel), by decide +kernel⟩
theorem kI_X6_load : (Cond.instanceMethod yX6_load : Cond) ∈ WS := List.mem_filter.mpr ⟨List.mem_of_getElem? (i := 815) (by decide +kernel), by decide +kernel⟩
theorem kV_X6_load : (Cond.selects RX6 yX6_load yX6_load : Cond) ∈ WS := List.mem_filter.mpr ⟨List.mem_of_getElem? (i := 816) (by decide +kernel), by decide +kernel⟩
theorem kC_X6_load : (Cond.code yX6_load cX6_load 2 (some .int) : Cond) ∈ WS := List.mem_filter.mpr ⟨List.mem_of_getElem? (i := 817) (by decide +kernel), by decide +kernel⟩
theorem kV_X2_keep : (Cond.selects RX2 yX2_keep yX2_keep : Cond) ∈ WS := List.mem_filter.mpr ⟨List.mem_of_getElem? (i := 0) (by decide +kernel), by decide +kernel⟩
theorem kV_X2_slot : (Cond.selects RX2 yX2_slot yX2_slot : Cond) ∈ WS := List.mem_filter.mpr ⟨List.mem_of_getElem? (i := 1) (by decide +kernel), by decide +kernel⟩
theorem kV_X3_copyFrom : (Cond.selects RX3 yX3_copyFrom yX3_copyFrom : Cond) ∈ WS := List.mem_filter.mpr ⟨List.mem_of_getElem? (i := 2) (by decide +kernel), by decide +kernel⟩
theorem kV_X3_crossBound : (Cond.selects RX3 yX3_crossBound yX3_crossBound : Cond) ∈ WS := List.mem_filter.mpr ⟨List.mem_of_getElem? (i := 3) (by decide +kernel), by decide +kernel⟩
theorem kV_X3_angle : (Cond.selects RX3 yX3_angle yX3_angle : Cond) ∈ WS := List.mem_filter.mpr ⟨List.mem_of_getElem? (i := 4) (by decide +kernel), by decide +kernel⟩
theorem kV_X3_coarse : (Cond.selects RX3 yX3_coarse yX3_coarse : Cond) ∈ WS := List.mem_filter.mpr ⟨List.mem_of_getElem? (i := 5) (by decide +kernel), by decide +kernel⟩
theorem kV_X3_correctionsInUse : (Cond.selects RX3 yX3_correctionsInUse yX3_correctionsInUse : Cond) ∈ WS := List.mem_filter.mpr ⟨List.mem_of_getElem? (i := 6) (by decide +kernel), by decide +kernel⟩
theorem kV_X5_settingCount : (Cond.selects RX5 yX5_settingCount yX5_settingCount : Cond) ∈ WS := List.mem_filter.mpr ⟨List.mem_of_getElem? (i := 7) (by decide +kernel), by decide +kernel⟩
theorem kV_X5_shownSetting : (Cond.selects RX5 yX5_shownSetting yX5_shownSetting : Cond) ∈ WS := List.mem_filter.mpr ⟨List.mem_of_getElem? (i := 8) (by decide +kernel), by decide +kernel⟩
theorem kV_X2_restoreLatest : (Cond.selects RX2 yX2_restoreLatest yX2_restoreLatest : Cond) ∈ WS := List.mem_filter.mpr ⟨List.mem_of_getElem? (i := 9) (by decide +kernel), by decide +kernel⟩
theorem kV_X3_readingAt : (Cond.selects RX3 yX3_readingAt yX3_readingAt : Cond) ∈ WS := List.mem_filter.mpr ⟨List.mem_of_getElem? (i := 10) (by decide +kernel), by decide +kernel⟩
theorem kV_X3_excess : (Cond.selects RX3 yX3_excess yX3_excess : Cond) ∈ WS := List.mem_filter.mpr ⟨List.mem_of_getElem? (i := 11) (by decide +kernel), by decide +kernel⟩
theorem kV_X1_search : (Cond.selects RX1 yX1_search yX1_search : Cond) ∈ WS := List.mem_filter.mpr ⟨List.mem_of_getElem? (i := 12) (by decide +kernel), by decide +kernel⟩
theorem kV_X1_searchCorrected : (Cond.selects RX1 yX1_searchCorrected yX1_searchCorrected : Cond) ∈ WS := List.mem_filter.mpr ⟨List.mem_of_getElem? (i := 13) (by decide +kernel), by decide +kernel⟩
theorem kV_X3_corrected : (Cond.selects RX3 yX3_corrected yX3_corrected : Cond) ∈ WS := List.mem_filter.mpr ⟨List.mem_of_getElem? (i := 14) (by decide +kernel), by decide +kernel⟩
theorem kV_X3_isPoor : (Cond.selects RX3 yX3_isPoor yX3_isPoor : Cond) ∈ WS := List.mem_filter.mpr ⟨List.mem_of_getElem? (i := 15) (by decide +kernel), by decide +kernel⟩
theorem kV_X4_judge : (Cond.selects RX4 yX4_judge yX4_judge : Cond) ∈ WS := List.mem_filter.mpr ⟨List.mem_of_getElem? (i := 16) (by decide +kernel), by decide +kernel⟩
theorem kV_X4_firstRefusal : (Cond.selects RX4 yX4_firstRefusal yX4_firstRefusal : Cond) ∈ WS := List.mem_filter.mpr ⟨List.mem_of_getElem? (i := 17) (by decide +kernel), by decide +kernel⟩
theorem kV_X0_append : (Cond.selects RX0 yX0_append yX0_append : Cond) ∈ WS := List.mem_filter.mpr ⟨List.mem_of_getElem? (i := 18) (by decide +kernel), by decide +kernel⟩
theorem kV_X0_scan : (Cond.selects RX0 yX0_scan yX0_scan : Cond) ∈ WS := List.mem_filter.mpr ⟨List.mem_of_getElem? (i := 19) (by decide +kernel), by decide +kernel⟩
theorem kV_X0_entryFault : (Cond.selects RX0 yX0_entryFault yX0_entryFault : Cond) ∈ WS := List.mem_filter.mpr ⟨List.mem_of_getElem? (i := 20) (by decide +kernel), by decide +kernel⟩
theorem kV_X0_entryLength : (Cond.selects RX0 yX0_entryLength yX0_entryLength : Cond) ∈ WS := List.mem_filter.mpr ⟨List.mem_of_getElem? (i := 21) (by decide +kernel), by decide +kernel⟩
theorem kV_X0_characterAt : (Cond.selects RX0 yX0_characterAt yX0_characterAt : Cond) ∈ WS := List.mem_filter.mpr ⟨List.mem_of_getElem? (i := 22) (by decide +kernel), by decide +kernel⟩
theorem kV_X0_isDigit : (Cond.selects RX0 yX0_isDigit yX0_isDigit : Cond) ∈ WS := List.mem_filter.mpr ⟨List.mem_of_getElem? (i := 23) (by decide +kernel), by decide +kernel⟩
theorem kV_X0_digitAt : (Cond.selects RX0 yX0_digitAt yX0_digitAt : Cond) ∈ WS := List.mem_filter.mpr ⟨List.mem_of_getElem? (i := 24) (by decide +kernel), by decide +kernel⟩
theorem kV_X0_amount : (Cond.selects RX0 yX0_amount yX0_amount : Cond) ∈ WS := List.mem_filter.mpr ⟨List.mem_of_getElem? (i := 25) (by decide +kernel), by decide +kernel⟩
theorem kV_X0_entryCell : (Cond.selects RX0 yX0_entryCell yX0_entryCell : Cond) ∈ WS := List.mem_filter.mpr ⟨List.mem_of_getElem? (i := 26) (by decide +kernel), by decide +kernel⟩
theorem kV_X0_takeEntry : (Cond.selects RX0 yX0_takeEntry yX0_takeEntry : Cond) ∈ WS := List.mem_filter.mpr ⟨List.mem_of_getElem? (i := 27) (by decide +kernel), by decide +kernel⟩
theorem kV_X6_saves : (Cond.selects RX6 yX6_saves yX6_saves : Cond) ∈ WS := List.mem_filter.mpr ⟨List.mem_of_getElem? (i := 28) (by decide +kernel), by decide +kernel⟩
theorem kV_X6_crosses : (Cond.selects RX6 yX6_crosses yX6_crosses : Cond) ∈ WS := List.mem_filter.mpr ⟨List.mem_of_getElem? (i := 29) (by decide +kernel), by decide +kernel⟩
theorem kV_X6_puts : (Cond.selects RX6 yX6_puts yX6_puts : Cond) ∈ WS := List.mem_filter.mpr ⟨List.mem_of_getElem? (i := 30) (by decide +kernel), by decide +kernel⟩
theorem kV_X6_angle : (Cond.selects RX6 yX6_angle yX6_angle : Cond) ∈ WS := List.mem_filter.mpr ⟨List.mem_of_getElem? (i := 31) (by decide +kernel), by decide +kernel⟩
theorem kV_X6_coarse : (Cond.selects RX6 yX6_coarse yX6_coarse : Cond) ∈ WS := List.mem_filter.mpr ⟨List.mem_of_getElem? (i := 32) (by decide +kernel), by decide +kernel⟩
theorem kV_X6_corrections : (Cond.selects RX6 yX6_corrections yX6_corrections : Cond) ∈ WS := List.mem_filter.mpr ⟨List.mem_of_getElem? (i := 33) (by decide +kernel), by decide +kernel⟩
theorem kV_X6_readingAt : (Cond.selects RX6 yX6_readingAt yX6_readingAt : Cond) ∈ WS := List.mem_filter.mpr ⟨List.mem_of_getElem? (i := 34) (by decide +kernel), by decide +kernel⟩
theorem kV_X6_finds : (Cond.selects RX6 yX6_finds yX6_finds : Cond) ∈ WS := List.mem_filter.mpr ⟨List.mem_of_getElem? (i := 35) (by decide +kernel), by decide +kernel⟩
theorem kV_X6_tooHigh : (Cond.selects RX6 yX6_tooHigh yX6_tooHigh : Cond) ∈ WS := List.mem_filter.mpr ⟨List.mem_of_getElem? (i := 36) (by decide +kernel), by decide +kernel⟩
theorem kV_X6_looks : (Cond.selects RX6 yX6_looks yX6_looks : Cond) ∈ WS := List.mem_filter.mpr ⟨List.mem_of_getElem? (i := 37) (by decide +kernel), by decide +kernel⟩
theorem kV_X6_findsIn : (Cond.selects RX6 yX6_findsIn yX6_findsIn : Cond) ∈ WS := List.mem_filter.mpr ⟨List.mem_of_getElem? (i := 38) (by decide +kernel), by decide +kernel⟩
theorem kV_X6_corrected : (Cond.selects RX6 yX6_corrected yX6_corrected : Cond) ∈ WS := List.mem_filter.mpr ⟨List.mem_of_getElem? (i := 39) (by decide +kernel), by decide +kernel⟩
theorem kV_X6_why : (Cond.selects RX6 yX6_why yX6_why : Cond) ∈ WS := List.mem_filter.mpr ⟨List.mem_of_getElem? (i := 40) (by decide +kernel), by decide +kernel⟩
theorem kV_X6_fitting : (Cond.selects RX6 yX6_fitting yX6_fitting : Cond) ∈ WS := List.mem_filter.mpr ⟨List.mem_of_getElem? (i := 41) (by decide +kernel), by decide +kernel⟩
theorem kV_X6_isCoarseApart : (Cond.selects RX6 yX6_isCoarseApart yX6_isCoarseApart : Cond) ∈ WS := List.mem_filter.mpr ⟨List.mem_of_getElem? (i := 42) (by decide +kernel), by decide +kernel⟩
theorem kV_X6_placeFound : (Cond.selects RX6 yX6_placeFound yX6_placeFound : Cond) ∈ WS := List.mem_filter.mpr ⟨List.mem_of_getElem? (i := 43) (by decide +kernel), by decide +kernel⟩
theorem kV_X6_reads : (Cond.selects RX6 yX6_reads yX6_reads : Cond) ∈ WS := List.mem_filter.mpr ⟨List.mem_of_getElem? (i := 44) (by decide +kernel), by decide +kernel⟩
theorem kV_X6_entry : (Cond.selects RX6 yX6_entry yX6_entry : Cond) ∈ WS := List.mem_filter.mpr ⟨List.mem_of_getElem? (i := 45) (by decide +kernel), by decide +kernel⟩
theorem kV_X6_letterAt : (Cond.selects RX6 yX6_letterAt yX6_letterAt : Cond) ∈ WS := List.mem_filter.mpr ⟨List.mem_of_getElem? (i := 46) (by decide +kernel), by decide +kernel⟩
theorem kV_X6_isDigit : (Cond.selects RX6 yX6_isDigit yX6_isDigit : Cond) ∈ WS := List.mem_filter.mpr ⟨List.mem_of_getElem? (i := 47) (by decide +kernel), by decide +kernel⟩
theorem kW_X0 : ∀ w ∈ u_ws RX0 TX0 7, w ∈ WS := by decide +kernel
theorem kW_X1 : ∀ w ∈ u_ws RX1 TX1 4, w ∈ WS := by decide +kernel
theorem kW_X2 : ∀ w ∈ u_ws RX2 TX2 3, w ∈ WS := by decide +kernel
theorem kW_X3 : ∀ w ∈ u_ws RX3 TX3 11, w ∈ WS := by decide +kernel
theorem kW_X4 : ∀ w ∈ u_ws RX4 TX4 4, w ∈ WS := by decide +kernel
theorem kW_X5 : ∀ w ∈ u_ws RX5 TX5 5, w ∈ WS := by decide +kernel
theorem kW_X6 : ∀ w ∈ u_ws RX6 TX6 18, w ∈ WS := by decide +kernel
end
section
theorem mV_X5_turn : o_MV RX5 yX5_turn cX5_turn 6 (some .int) 1 := ⟨rfl, kC_X5_turn, kI_X5_turn, kV_X5_turn, kIn_X5, by decide +kernel⟩
theorem mS_X5_isOutside : o_MS yX5_isOutside cX5_isOutside 3 (some .boolean) 3 := ⟨kC_X5_isOutside, kS_X5_isOutside, kIn_X5, by decide +kernel⟩
theorem mV_X2_keep : o_MV RX2 yX2_keep cX2_keep 3 none 1 := ⟨rfl, kC_X2_keep, kI_X2_keep, kV_X2_keep, kIn_X2, by decide +kernel⟩
theorem mS_X5_remainder : o_MS yX5_remainder cX5_remainder 3 (some .int) 2 := ⟨kC_X5_remainder, kS_X5_remainder, kIn_X5, by decide +kernel⟩
theorem mV_X2_slot : o_MV RX2 yX2_slot cX2_slot 3 (some (.object RX3)) 1 := ⟨rfl, kC_X2_slot, kI_X2_slot, kV_X2_slot, kIn_X2, by decide +kernel⟩
theorem mV_X3_copyFrom : o_MV RX3 yX3_copyFrom cX3_copyFrom 2 none 1 := ⟨rfl, kC_X3_copyFrom, kI_X3_copyFrom, kV_X3_copyFrom, kIn_X3, by decide +kernel⟩
theorem mS_X5_copy : o_MS yX5_copy cX5_copy 3 none 2 := ⟨kC_X5_copy, kS_X5_copy, kIn_X5, by decide +kernel⟩
theorem mV_X3_crossBound : o_MV RX3 yX3_crossBound cX3_crossBound 2 none 1 := ⟨rfl, kC_X3_crossBound, kI_X3_crossBound, kV_X3_crossBound, kIn_X3, by decide +kernel⟩
theorem mV_X5_power : o_MV RX5 yX5_power cX5_power 3 (some .int) 1 := ⟨rfl, kC_X5_power, kI_X5_power, kV_X5_power, kIn_X5, by decide +kernel⟩
theorem mS_X5_toNumber : o_MS yX5_toNumber cX5_toNumber 1 (some .int) 1 := ⟨kC_X5_toNumber, kS_X5_toNumber, kIn_X5, by decide +kernel⟩
theorem mV_X5_brownout : o_MV RX5 yX5_brownout cX5_brownout 2 (some .int) 1 := ⟨rfl, kC_X5_brownout, kI_X5_brownout, kV_X5_brownout, kIn_X5, by decide +kernel⟩
theorem mV_X5_charge : o_MV RX5 yX5_charge cX5_charge 3 (some .int) 1 := ⟨rfl, kC_X5_charge, kI_X5_charge, kV_X5_charge, kIn_X5, by decide +kernel⟩
theorem mV_X5_count : o_MV RX5 yX5_count cX5_count 2 (some .int) 1 := ⟨rfl, kC_X5_count, kI_X5_count, kV_X5_count, kIn_X5, by decide +kernel⟩
theorem mV_X3_angle : o_MV RX3 yX3_angle cX3_angle 1 (some .int) 0 := ⟨rfl, kC_X3_angle, kI_X3_angle, kV_X3_angle, kIn_X3, by decide +kernel⟩
theorem mV_X3_coarse : o_MV RX3 yX3_coarse cX3_coarse 2 (some .int) 0 := ⟨rfl, kC_X3_coarse, kI_X3_coarse, kV_X3_coarse, kIn_X3, by decide +kernel⟩
theorem mS_X5_at : o_MS yX5_at cX5_at 2 (some .int) 2 := ⟨kC_X5_at, kS_X5_at, kIn_X5, by decide +kernel⟩
theorem mV_X3_correctionsInUse : o_MV RX3 yX3_correctionsInUse cX3_correctionsInUse 3 (some .int) 0 := ⟨rfl, kC_X3_correctionsInUse, kI_X3_correctionsInUse, kV_X3_correctionsInUse, kIn_X3, by decide +kernel⟩
theorem mV_X5_settingCount : o_MV RX5 yX5_settingCount cX5_settingCount 2 (some .int) 1 := ⟨rfl, kC_X5_settingCount, kI_X5_settingCount, kV_X5_settingCount, kIn_X5, by decide +kernel⟩
theorem mV_X5_shownSetting : o_MV RX5 yX5_shownSetting cX5_shownSetting 3 (some .int) 1 := ⟨rfl, kC_X5_shownSetting, kI_X5_shownSetting, kV_X5_shownSetting, kIn_X5, by decide +kernel⟩
theorem mV_X5_undo : o_MV RX5 yX5_undo cX5_undo 1 (some .int) 0 := ⟨rfl, kC_X5_undo, kI_X5_undo, kV_X5_undo, kIn_X5, by decide +kernel⟩
theorem mV_X2_restoreLatest : o_MV RX2 yX2_restoreLatest cX2_restoreLatest 3 none 1 := ⟨rfl, kC_X2_restoreLatest, kI_X2_restoreLatest, kV_X2_restoreLatest, kIn_X2, by decide +kernel⟩
theorem mV_X5_disk : o_MV RX5 yX5_disk cX5_disk 5 (some .int) 3 := ⟨rfl, kC_X5_disk, kI_X5_disk, kV_X5_disk, kIn_X5, by decide +kernel⟩
theorem mS_X5_isCell : o_MS yX5_isCell cX5_isCell 2 (some .boolean) 2 := ⟨kC_X5_isCell, kS_X5_isCell, kIn_X5, by decide +kernel⟩
theorem mS_X5_isTrack : o_MS yX5_isTrack cX5_isTrack 1 (some .boolean) 1 := ⟨kC_X5_isTrack, kS_X5_isTrack, kIn_X5, by decide +kernel⟩
theorem mS_X5_cell : o_MS yX5_cell cX5_cell 2 (some .int) 2 := ⟨kC_X5_cell, kS_X5_cell, kIn_X5, by decide +kernel⟩
theorem mS_X5_put : o_MS yX5_put cX5_put 3 none 3 := ⟨kC_X5_put, kS_X5_put, kIn_X5, by decide +kernel⟩
theorem mV_X5_noise : o_MV RX5 yX5_noise cX5_noise 4 (some .int) 2 := ⟨rfl, kC_X5_noise, kI_X5_noise, kV_X5_noise, kIn_X5, by decide +kernel⟩
theorem mV_X5_set : o_MV RX5 yX5_set cX5_set 4 (some .int) 2 := ⟨rfl, kC_X5_set, kI_X5_set, kV_X5_set, kIn_X5, by decide +kernel⟩
theorem mV_X5_reading : o_MV RX5 yX5_reading cX5_reading 2 (some .int) 1 := ⟨rfl, kC_X5_reading, kI_X5_reading, kV_X5_reading, kIn_X5, by decide +kernel⟩
theorem mV_X3_readingAt : o_MV RX3 yX3_readingAt cX3_readingAt 4 (some .int) 2 := ⟨rfl, kC_X3_readingAt, kI_X3_readingAt, kV_X3_readingAt, kIn_X3, by decide +kernel⟩
theorem mS_X5_sectorOf : o_MS yX5_sectorOf cX5_sectorOf 1 (some .int) 1 := ⟨kC_X5_sectorOf, kS_X5_sectorOf, kIn_X5, by decide +kernel⟩
theorem mV_X5_found : o_MV RX5 yX5_found cX5_found 6 (some .int) 4 := ⟨rfl, kC_X5_found, kI_X5_found, kV_X5_found, kIn_X5, by decide +kernel⟩
theorem mS_X5_isReading : o_MS yX5_isReading cX5_isReading 2 (some .boolean) 2 := ⟨kC_X5_isReading, kS_X5_isReading, kIn_X5, by decide +kernel⟩
theorem mS_X5_nearestAngle : o_MS yX5_nearestAngle cX5_nearestAngle 7 (some .int) 3 := ⟨kC_X5_nearestAngle, kS_X5_nearestAngle, kIn_X5, by decide +kernel⟩
theorem mS_X5_deviation : o_MS yX5_deviation cX5_deviation 7 (some .int) 4 := ⟨kC_X5_deviation, kS_X5_deviation, kIn_X5, by decide +kernel⟩
theorem mS_X5_distance : o_MS yX5_distance cX5_distance 3 (some .int) 3 := ⟨kC_X5_distance, kS_X5_distance, kIn_X5, by decide +kernel⟩
theorem mV_X5_byTwo : o_MV RX5 yX5_byTwo cX5_byTwo 6 (some .int) 4 := ⟨rfl, kC_X5_byTwo, kI_X5_byTwo, kV_X5_byTwo, kIn_X5, by decide +kernel⟩
theorem mV_X5_correct : o_MV RX5 yX5_correct cX5_correct 5 (some .int) 3 := ⟨rfl, kC_X5_correct, kI_X5_correct, kV_X5_correct, kIn_X5, by decide +kernel⟩
theorem mV_X5_correction : o_MV RX5 yX5_correction cX5_correction 3 (some .int) 2 := ⟨rfl, kC_X5_correction, kI_X5_correction, kV_X5_correction, kIn_X5, by decide +kernel⟩
theorem mV_X5_learn : o_MV RX5 yX5_learn cX5_learn 5 (some .int) 0 := ⟨rfl, kC_X5_learn, kI_X5_learn, kV_X5_learn, kIn_X5, by decide +kernel⟩
theorem mV_X3_excess : o_MV RX3 yX3_excess cX3_excess 4 (some .int) 1 := ⟨rfl, kC_X3_excess, kI_X3_excess, kV_X3_excess, kIn_X3, by decide +kernel⟩
theorem mV_X5_look : o_MV RX5 yX5_look cX5_look 2 (some .int) 1 := ⟨rfl, kC_X5_look, kI_X5_look, kV_X5_look, kIn_X5, by decide +kernel⟩
theorem mV_X1_search : o_MV RX1 yX1_search cX1_search 4 none 2 := ⟨rfl, kC_X1_search, kI_X1_search, kV_X1_search, kIn_X1, by decide +kernel⟩
theorem mV_X1_searchCorrected : o_MV RX1 yX1_searchCorrected cX1_searchCorrected 7 none 3 := ⟨rfl, kC_X1_searchCorrected, kI_X1_searchCorrected, kV_X1_searchCorrected, kIn_X1, by decide +kernel⟩
theorem mV_X3_corrected : o_MV RX3 yX3_corrected cX3_corrected 4 (some .int) 3 := ⟨rfl, kC_X3_corrected, kI_X3_corrected, kV_X3_corrected, kIn_X3, by decide +kernel⟩
theorem mV_X5_survey : o_MV RX5 yX5_survey cX5_survey 7 (some .int) 2 := ⟨rfl, kC_X5_survey, kI_X5_survey, kV_X5_survey, kIn_X5, by decide +kernel⟩
theorem mV_X5_poor : o_MV RX5 yX5_poor cX5_poor 3 (some .int) 0 := ⟨rfl, kC_X5_poor, kI_X5_poor, kV_X5_poor, kIn_X5, by decide +kernel⟩
theorem mV_X3_isPoor : o_MV RX3 yX3_isPoor cX3_isPoor 5 (some .boolean) 1 := ⟨rfl, kC_X3_isPoor, kI_X3_isPoor, kV_X3_isPoor, kIn_X3, by decide +kernel⟩
theorem mV_X5_sample : o_MV RX5 yX5_sample cX5_sample 1 (some .int) 0 := ⟨rfl, kC_X5_sample, kI_X5_sample, kV_X5_sample, kIn_X5, by decide +kernel⟩
theorem mV_X4_judge : o_MV RX4 yX4_judge cX4_judge 3 none 2 := ⟨rfl, kC_X4_judge, kI_X4_judge, kV_X4_judge, kIn_X4, by decide +kernel⟩
theorem mV_X4_firstRefusal : o_MV RX4 yX4_firstRefusal cX4_firstRefusal 7 (some .int) 2 := ⟨rfl, kC_X4_firstRefusal, kI_X4_firstRefusal, kV_X4_firstRefusal, kIn_X4, by decide +kernel⟩
theorem mV_X5_reason : o_MV RX5 yX5_reason cX5_reason 1 (some .int) 0 := ⟨rfl, kC_X5_reason, kI_X5_reason, kV_X5_reason, kIn_X5, by decide +kernel⟩
theorem mV_X5_forget : o_MV RX5 yX5_forget cX5_forget 2 (some .int) 0 := ⟨rfl, kC_X5_forget, kI_X5_forget, kV_X5_forget, kIn_X5, by decide +kernel⟩
theorem mV_X5_apart : o_MV RX5 yX5_apart cX5_apart 1 (some .int) 0 := ⟨rfl, kC_X5_apart, kI_X5_apart, kV_X5_apart, kIn_X5, by decide +kernel⟩
theorem mV_X5_type : o_MV RX5 yX5_type cX5_type 2 (some .int) 1 := ⟨rfl, kC_X5_type, kI_X5_type, kV_X5_type, kIn_X5, by decide +kernel⟩
theorem mV_X0_append : o_MV RX0 yX0_append cX0_append 2 none 1 := ⟨rfl, kC_X0_append, kI_X0_append, kV_X0_append, kIn_X0, by decide +kernel⟩
theorem mV_X5_clearText : o_MV RX5 yX5_clearText cX5_clearText 2 (some .int) 0 := ⟨rfl, kC_X5_clearText, kI_X5_clearText, kV_X5_clearText, kIn_X5, by decide +kernel⟩
theorem mV_X5_fault : o_MV RX5 yX5_fault cX5_fault 2 (some .int) 1 := ⟨rfl, kC_X5_fault, kI_X5_fault, kV_X5_fault, kIn_X5, by decide +kernel⟩
theorem mV_X0_scan : o_MV RX0 yX0_scan cX0_scan 2 none 0 := ⟨rfl, kC_X0_scan, kI_X0_scan, kV_X0_scan, kIn_X0, by decide +kernel⟩
theorem mV_X0_entryFault : o_MV RX0 yX0_entryFault cX0_entryFault 2 (some .int) 1 := ⟨rfl, kC_X0_entryFault, kI_X0_entryFault, kV_X0_entryFault, kIn_X0, by decide +kernel⟩
theorem mV_X0_entryLength : o_MV RX0 yX0_entryLength cX0_entryLength 4 (some .int) 1 := ⟨rfl, kC_X0_entryLength, kI_X0_entryLength, kV_X0_entryLength, kIn_X0, by decide +kernel⟩
theorem mV_X0_characterAt : o_MV RX0 yX0_characterAt cX0_characterAt 2 (some .int) 1 := ⟨rfl, kC_X0_characterAt, kI_X0_characterAt, kV_X0_characterAt, kIn_X0, by decide +kernel⟩
theorem mV_X0_isDigit : o_MV RX0 yX0_isDigit cX0_isDigit 2 (some .boolean) 1 := ⟨rfl, kC_X0_isDigit, kI_X0_isDigit, kV_X0_isDigit, kIn_X0, by decide +kernel⟩
theorem mV_X0_digitAt : o_MV RX0 yX0_digitAt cX0_digitAt 2 (some .int) 1 := ⟨rfl, kC_X0_digitAt, kI_X0_digitAt, kV_X0_digitAt, kIn_X0, by decide +kernel⟩
theorem mV_X0_amount : o_MV RX0 yX0_amount cX0_amount 3 (some .int) 1 := ⟨rfl, kC_X0_amount, kI_X0_amount, kV_X0_amount, kIn_X0, by decide +kernel⟩
theorem mV_X0_entryCell : o_MV RX0 yX0_entryCell cX0_entryCell 2 (some .int) 1 := ⟨rfl, kC_X0_entryCell, kI_X0_entryCell, kV_X0_entryCell, kIn_X0, by decide +kernel⟩
theorem mV_X0_takeEntry : o_MV RX0 yX0_takeEntry cX0_takeEntry 3 none 1 := ⟨rfl, kC_X0_takeEntry, kI_X0_takeEntry, kV_X0_takeEntry, kIn_X0, by decide +kernel⟩
theorem mV_X5_load : o_MV RX5 yX5_load cX5_load 1 (some .int) 0 := ⟨rfl, kC_X5_load, kI_X5_load, kV_X5_load, kIn_X5, by decide +kernel⟩
theorem mV_X6_undo : o_MV RX6 yX6_undo cX6_undo 2 (some .int) 0 := ⟨rfl, kC_X6_undo, kI_X6_undo, kV_X6_undo, kIn_X6, by decide +kernel⟩
theorem mV_X6_turn : o_MV RX6 yX6_turn cX6_turn 4 (some .int) 1 := ⟨rfl, kC_X6_turn, kI_X6_turn, kV_X6_turn, kIn_X6, by decide +kernel⟩
theorem mS_X6_in : o_MS yX6_in cX6_in 3 (some .boolean) 3 := ⟨kC_X6_in, kS_X6_in, kIn_X6, by decide +kernel⟩
theorem mV_X6_saves : o_MV RX6 yX6_saves cX6_saves 2 none 0 := ⟨rfl, kC_X6_saves, kI_X6_saves, kV_X6_saves, kIn_X6, by decide +kernel⟩
theorem mV_X6_crosses : o_MV RX6 yX6_crosses cX6_crosses 3 none 1 := ⟨rfl, kC_X6_crosses, kI_X6_crosses, kV_X6_crosses, kIn_X6, by decide +kernel⟩
theorem mS_X6_rest : o_MS yX6_rest cX6_rest 3 (some .int) 2 := ⟨kC_X6_rest, kS_X6_rest, kIn_X6, by decide +kernel⟩
theorem mV_X6_power : o_MV RX6 yX6_power cX6_power 2 (some .int) 1 := ⟨rfl, kC_X6_power, kI_X6_power, kV_X6_power, kIn_X6, by decide +kernel⟩
theorem mV_X6_puts : o_MV RX6 yX6_puts cX6_puts 4 (some .int) 2 := ⟨rfl, kC_X6_puts, kI_X6_puts, kV_X6_puts, kIn_X6, by decide +kernel⟩
theorem mV_X6_brownout : o_MV RX6 yX6_brownout cX6_brownout 3 (some .int) 1 := ⟨rfl, kC_X6_brownout, kI_X6_brownout, kV_X6_brownout, kIn_X6, by decide +kernel⟩
theorem mV_X6_charge : o_MV RX6 yX6_charge cX6_charge 2 (some .int) 1 := ⟨rfl, kC_X6_charge, kI_X6_charge, kV_X6_charge, kIn_X6, by decide +kernel⟩
theorem mV_X6_count : o_MV RX6 yX6_count cX6_count 2 (some .int) 1 := ⟨rfl, kC_X6_count, kI_X6_count, kV_X6_count, kIn_X6, by decide +kernel⟩
theorem mV_X6_angle : o_MV RX6 yX6_angle cX6_angle 1 (some .int) 0 := ⟨rfl, kC_X6_angle, kI_X6_angle, kV_X6_angle, kIn_X6, by decide +kernel⟩
theorem mV_X6_coarse : o_MV RX6 yX6_coarse cX6_coarse 1 (some .int) 0 := ⟨rfl, kC_X6_coarse, kI_X6_coarse, kV_X6_coarse, kIn_X6, by decide +kernel⟩
theorem mV_X6_corrections : o_MV RX6 yX6_corrections cX6_corrections 3 (some .int) 0 := ⟨rfl, kC_X6_corrections, kI_X6_corrections, kV_X6_corrections, kIn_X6, by decide +kernel⟩
theorem mV_X6_disk : o_MV RX6 yX6_disk cX6_disk 4 (some .int) 3 := ⟨rfl, kC_X6_disk, kI_X6_disk, kV_X6_disk, kIn_X6, by decide +kernel⟩
theorem mS_X6_isCell : o_MS yX6_isCell cX6_isCell 2 (some .boolean) 2 := ⟨kC_X6_isCell, kS_X6_isCell, kIn_X6, by decide +kernel⟩
theorem mS_X6_isTrack : o_MS yX6_isTrack cX6_isTrack 1 (some .boolean) 1 := ⟨kC_X6_isTrack, kS_X6_isTrack, kIn_X6, by decide +kernel⟩
theorem mV_X6_noise : o_MV RX6 yX6_noise cX6_noise 3 (some .int) 2 := ⟨rfl, kC_X6_noise, kI_X6_noise, kV_X6_noise, kIn_X6, by decide +kernel⟩
theorem mV_X6_set : o_MV RX6 yX6_set cX6_set 3 (some .int) 2 := ⟨rfl, kC_X6_set, kI_X6_set, kV_X6_set, kIn_X6, by decide +kernel⟩
theorem mS_X6_isSetting : o_MS yX6_isSetting cX6_isSetting 2 (some .boolean) 2 := ⟨kC_X6_isSetting, kS_X6_isSetting, kIn_X6, by decide +kernel⟩
theorem mV_X6_reading : o_MV RX6 yX6_reading cX6_reading 2 (some .int) 1 := ⟨rfl, kC_X6_reading, kI_X6_reading, kV_X6_reading, kIn_X6, by decide +kernel⟩
theorem mV_X6_readingAt : o_MV RX6 yX6_readingAt cX6_readingAt 3 (some .int) 2 := ⟨rfl, kC_X6_readingAt, kI_X6_readingAt, kV_X6_readingAt, kIn_X6, by decide +kernel⟩
theorem mS_X6_lengthOf : o_MS yX6_lengthOf cX6_lengthOf 1 (some .int) 1 := ⟨kC_X6_lengthOf, kS_X6_lengthOf, kIn_X6, by decide +kernel⟩
theorem mV_X6_found : o_MV RX6 yX6_found cX6_found 5 (some .int) 4 := ⟨rfl, kC_X6_found, kI_X6_found, kV_X6_found, kIn_X6, by decide +kernel⟩
theorem mV_X6_finds : o_MV RX6 yX6_finds cX6_finds 10 none 3 := ⟨rfl, kC_X6_finds, kI_X6_finds, kV_X6_finds, kIn_X6, by decide +kernel⟩
theorem mS_X6_nearer : o_MS yX6_nearer cX6_nearer 2 (some .int) 2 := ⟨kC_X6_nearer, kS_X6_nearer, kIn_X6, by decide +kernel⟩
theorem mV_X6_byTwo : o_MV RX6 yX6_byTwo cX6_byTwo 6 (some .int) 4 := ⟨rfl, kC_X6_byTwo, kI_X6_byTwo, kV_X6_byTwo, kIn_X6, by decide +kernel⟩
theorem mS_X6_isReading : o_MS yX6_isReading cX6_isReading 2 (some .boolean) 2 := ⟨kC_X6_isReading, kS_X6_isReading, kIn_X6, by decide +kernel⟩
theorem mV_X6_correct : o_MV RX6 yX6_correct cX6_correct 4 (some .int) 3 := ⟨rfl, kC_X6_correct, kI_X6_correct, kV_X6_correct, kIn_X6, by decide +kernel⟩
theorem mS_X6_isCorrection : o_MS yX6_isCorrection cX6_isCorrection 1 (some .boolean) 1 := ⟨kC_X6_isCorrection, kS_X6_isCorrection, kIn_X6, by decide +kernel⟩
theorem mV_X6_correction : o_MV RX6 yX6_correction cX6_correction 3 (some .int) 2 := ⟨rfl, kC_X6_correction, kI_X6_correction, kV_X6_correction, kIn_X6, by decide +kernel⟩
theorem mV_X6_learn : o_MV RX6 yX6_learn cX6_learn 4 (some .int) 0 := ⟨rfl, kC_X6_learn, kI_X6_learn, kV_X6_learn, kIn_X6, by decide +kernel⟩
theorem mV_X6_tooHigh : o_MV RX6 yX6_tooHigh cX6_tooHigh 3 (some .int) 1 := ⟨rfl, kC_X6_tooHigh, kI_X6_tooHigh, kV_X6_tooHigh, kIn_X6, by decide +kernel⟩
theorem mV_X6_look : o_MV RX6 yX6_look cX6_look 2 (some .int) 1 := ⟨rfl, kC_X6_look, kI_X6_look, kV_X6_look, kIn_X6, by decide +kernel⟩
theorem mV_X6_looks : o_MV RX6 yX6_looks cX6_looks 3 none 1 := ⟨rfl, kC_X6_looks, kI_X6_looks, kV_X6_looks, kIn_X6, by decide +kernel⟩
theorem mV_X6_findsIn : o_MV RX6 yX6_findsIn cX6_findsIn 2 none 1 := ⟨rfl, kC_X6_findsIn, kI_X6_findsIn, kV_X6_findsIn, kIn_X6, by decide +kernel⟩
theorem mV_X6_corrected : o_MV RX6 yX6_corrected cX6_corrected 3 (some .int) 2 := ⟨rfl, kC_X6_corrected, kI_X6_corrected, kV_X6_corrected, kIn_X6, by decide +kernel⟩
theorem mV_X6_survey : o_MV RX6 yX6_survey cX6_survey 7 (some .int) 2 := ⟨rfl, kC_X6_survey, kI_X6_survey, kV_X6_survey, kIn_X6, by decide +kernel⟩
theorem mV_X6_poor : o_MV RX6 yX6_poor cX6_poor 7 (some .int) 0 := ⟨rfl, kC_X6_poor, kI_X6_poor, kV_X6_poor, kIn_X6, by decide +kernel⟩
theorem mV_X6_sample : o_MV RX6 yX6_sample cX6_sample 3 (some .int) 0 := ⟨rfl, kC_X6_sample, kI_X6_sample, kV_X6_sample, kIn_X6, by decide +kernel⟩
theorem mV_X6_why : o_MV RX6 yX6_why cX6_why 1 (some .int) 0 := ⟨rfl, kC_X6_why, kI_X6_why, kV_X6_why, kIn_X6, by decide +kernel⟩
theorem mV_X6_fitting : o_MV RX6 yX6_fitting cX6_fitting 2 (some .int) 0 := ⟨rfl, kC_X6_fitting, kI_X6_fitting, kV_X6_fitting, kIn_X6, by decide +kernel⟩
theorem mV_X6_isCoarseApart : o_MV RX6 yX6_isCoarseApart cX6_isCoarseApart 1 (some .boolean) 0 := ⟨rfl, kC_X6_isCoarseApart, kI_X6_isCoarseApart, kV_X6_isCoarseApart, kIn_X6, by decide +kernel⟩
theorem mS_X6_off : o_MS yX6_off cX6_off 4 (some .int) 3 := ⟨kC_X6_off, kS_X6_off, kIn_X6, by decide +kernel⟩
theorem mV_X6_placeFound : o_MV RX6 yX6_placeFound cX6_placeFound 1 (some .int) 0 := ⟨rfl, kC_X6_placeFound, kI_X6_placeFound, kV_X6_placeFound, kIn_X6, by decide +kernel⟩
theorem mV_X6_reason : o_MV RX6 yX6_reason cX6_reason 1 (some .int) 0 := ⟨rfl, kC_X6_reason, kI_X6_reason, kV_X6_reason, kIn_X6, by decide +kernel⟩
theorem mV_X6_forget : o_MV RX6 yX6_forget cX6_forget 2 (some .int) 0 := ⟨rfl, kC_X6_forget, kI_X6_forget, kV_X6_forget, kIn_X6, by decide +kernel⟩
theorem mV_X6_apart : o_MV RX6 yX6_apart cX6_apart 1 (some .int) 0 := ⟨rfl, kC_X6_apart, kI_X6_apart, kV_X6_apart, kIn_X6, by decide +kernel⟩
theorem mV_X6_type : o_MV RX6 yX6_type cX6_type 2 (some .int) 1 := ⟨rfl, kC_X6_type, kI_X6_type, kV_X6_type, kIn_X6, by decide +kernel⟩
theorem mV_X6_clearText : o_MV RX6 yX6_clearText cX6_clearText 2 (some .int) 0 := ⟨rfl, kC_X6_clearText, kI_X6_clearText, kV_X6_clearText, kIn_X6, by decide +kernel⟩
theorem mV_X6_fault : o_MV RX6 yX6_fault cX6_fault 3 (some .int) 1 := ⟨rfl, kC_X6_fault, kI_X6_fault, kV_X6_fault, kIn_X6, by decide +kernel⟩
theorem mV_X6_reads : o_MV RX6 yX6_reads cX6_reads 2 (some .int) 0 := ⟨rfl, kC_X6_reads, kI_X6_reads, kV_X6_reads, kIn_X6, by decide +kernel⟩
theorem mV_X6_entry : o_MV RX6 yX6_entry cX6_entry 3 (some .int) 0 := ⟨rfl, kC_X6_entry, kI_X6_entry, kV_X6_entry, kIn_X6, by decide +kernel⟩
theorem mV_X6_letterAt : o_MV RX6 yX6_letterAt cX6_letterAt 2 (some .int) 1 := ⟨rfl, kC_X6_letterAt, kI_X6_letterAt, kV_X6_letterAt, kIn_X6, by decide +kernel⟩
theorem mV_X6_isDigit : o_MV RX6 yX6_isDigit cX6_isDigit 2 (some .boolean) 1 := ⟨rfl, kC_X6_isDigit, kI_X6_isDigit, kV_X6_isDigit, kIn_X6, by decide +kernel⟩
theorem mV_X6_load : o_MV RX6 yX6_load cX6_load 2 (some .int) 0 := ⟨rfl, kC_X6_load, kI_X6_load, kV_X6_load, kIn_X6, by decide +kernel⟩
end
section
/-! THE WORLD: 41 cells after the constructors, all references constant; sigma i k = the int at place k of cell i.
 0 VernierEncoder; 1 now (2 settings 3 errors 4 noises 5 corrections); 6 history, 7 its row; 8 13 18 23 states (each with 4 rows behind it);
 28 finding; 29 trial; 30 entries (31 characters 32 table 33 named); 34 reference (35 now 36 past 37 text 38 looked 39 told 40 tells); 41 42 43 the static rows -/
abbrev Sg : Type := Nat → Nat → Int32
abbrev Gt : Type := Nat × (Nat → Nat) × va_G × ClassId × ClassId
abbrev gLo (G : Gt) : Nat := G.1
abbrev gAd (G : Gt) : Nat → Nat := G.2.1
abbrev gD (G : Gt) : va_G := G.2.2.1
abbrev gI (G : Gt) : ClassId := G.2.2.2.1
abbrev gO (G : Gt) : ClassId := G.2.2.2.2
def o_A (G : Gt) : Nat → Prop := fun q => gLo G ≤ q
def o_kd (i : Nat) : Nat := [5, 3, 7, 7, 7, 7, 2, 8, 3, 7, 7, 7, 7, 3, 7, 7, 7, 7, 3, 7, 7, 7, 7, 3, 7, 7, 7, 7, 1, 4, 0, 7, 7, 7, 6, 7, 7, 7, 7, 7, 7].getD i 9
def o_len (i : Nat) : Nat := [0, 0, 4, 24, 3, 24, 0, 4, 0, 4, 24, 3, 24, 0, 4, 24, 3, 24, 0, 4, 24, 3, 24, 0, 4, 24, 3, 24, 0, 0, 0, 60, 24, 24, 0, 62, 248, 60, 3, 30, 30, 3, 4, 4].getD i 0
def o_rt (i k : Nat) : Option Nat := match o_kd i with
  | 3 => if 7 ≤ k then some (i + (k - 6)) else none
  | 5 => some ([1, 6, 28, 29, 30].getD k 0)
  | 2 => if k = 0 then some 7 else none
  | 0 => if k = 0 then some 31 else if k = 2 then some 32 else if k = 3 then some 33 else none
  | 6 => if k = 0 then some 35 else if k = 1 then some 36 else if k = 3 then some 37 else if k = 7 then some 38 else if k = 15 then some 39 else if k = 16 then some 40 else none
  | _ => none
def o_nf (c : Nat) : Nat := [7, 4, 3, 11, 4, 5, 18].getD c 0
def o_fv (G : Gt) (σ : Sg) (i k : Nat) : Value := match o_rt i k with
  | some j => .ref (gAd G j)
  | none => .int (σ i k)
def o_ce (G : Gt) (σ : Sg) (i : Nat) : va_E := if o_kd i = 7 then .inl (gI G, o_len i, .inl (σ i)) else if o_kd i = 8 then .inl (gO G, 4, .inr (.inr (.inr (.inr (fun j => some (gAd G (8 + 5 * j))))))) else .inr (o_kd i, (List.range (o_nf (o_kd i))).map (o_fv G σ i))
def o_W (G : Gt) (σ : Sg) (H : Heap) : Prop := ∀ i, i < 41 → va_at (gD G) vwCl (gAd G i, o_ce G σ i) H
def pu (σ : Sg) (i k : Nat) (x : Int32) : Sg := fun i' k' => if i' = i then (if k' = k then x else σ i k') else σ i' k'
theorem pu_ne {σ : Sg} {i k j : Nat} {x : Int32} (h : j ≠ i) : pu σ i k x j = σ j := funext fun k' => if_neg h
theorem pu_eq {σ : Sg} {i k : Nat} {x : Int32} : pu σ i k x i = upd (σ i) k x := funext fun k' => if_pos rfl
theorem pu_at {σ : Sg} {i k : Nat} {x : Int32} : pu σ i k x i k = x := by simp [pu]
theorem pu_un {σ : Sg} {i k i' k' : Nat} {x : Int32} (h : ¬ (i' = i ∧ k' = k)) : pu σ i k x i' k' = σ i' k' := by
  unfold pu
  by_cases h1 : i' = i
  · rw [if_pos h1, if_neg (fun h2 => h ⟨h1, h2⟩), h1]
  · rw [if_neg h1]
theorem o_fv_c {G : Gt} {σ σ' : Sg} {i : Nat} (h : σ i = σ' i) : o_fv G σ i = o_fv G σ' i := by
  funext k
  unfold o_fv
  rw [h]
theorem o_ce_c {G : Gt} {σ σ' : Sg} {i : Nat} (h : σ i = σ' i) : o_ce G σ i = o_ce G σ' i := by
  unfold o_ce
  rw [h, o_fv_c h]
def o_sv (i : Nat) : Nat → Int32 := fun k => if i = 41 then [272, 255, 240].getD k 0 else if i = 42 then [0, 0, 1, -31].getD k 0 else [40, 32, 4080, 31].getD k 0
def o_sn (i : Nat) : String := if i = 41 then "LENGTHS" else if i = 42 then "LEAST_SETTINGS" else "GREATEST_SETTINGS"
def o_St (G : Gt) (U : State) (H : Heap) : Prop := ∀ i, 41 ≤ i → i < 44 → va_Z RX5 (o_sn i) "[I" (.ref (gAd G i)) (o_A G) U H ∧ va_T .int (gAd G i) (o_len i) (fun k => .int (o_sv i k)) (o_A G) U H
def o_En (G : Gt) (U : State) : Prop := va_K (gD G) vwCl [(gI G, .int), (gO G, .object RX3)] U ∧ (∀ w ∈ o_N, va_Nw w U) ∧ o_St G U U.heap ∧ (∀ i j, i < 41 → j < 41 → gAd G i = gAd G j → i = j) ∧ ∀ i, i < 41 → gLo G ≤ gAd G i
theorem o_nwW {w : Cond} {s U : State} (hw : w ∈ o_N) (hW : s.WarmedH U.vm) (h : va_Nw w s) : va_Nw w U := by
  have h1 := (List.mem_filter.mp hw).2
  cases w <;> first | exact va_Nw.warmF hW h | exact va_Nw.warmM hW h | cases h1
theorem o_nwT {w : Cond} (hw : w ∈ o_N) : w.onTables = true := by
  have h1 := (List.mem_filter.mp hw).2
  cases w <;> first | rfl | cases h1
theorem o_nw {w : Cond} {G : Gt} {s : State} {args : Array Value} (h : o_En G s) (hw : w ∈ o_N) : w.before args s = true := va_Nw.use (o_nwT hw) (h.2.1 w hw)
theorem o_St.moved {G : Gt} {u U : State} {H : Heap} (hvm : u.vm.Alike U.vm) (h : o_St G u H) : o_St G U H := fun i h1 h2 => ⟨va_Z.moved hvm (h i h1 h2).1, va_T.moved hvm (h i h1 h2).2⟩
theorem o_St.kept {G : Gt} {U : State} {H H1 : Heap} (h : o_St G U H) (hq : ∀ a : Nat, a < H.size → ¬ o_A G a → H1[a]? = H[a]?) : o_St G U H1 := fun i h1 h2 => ⟨(h i h1 h2).1.kept hq, (h i h1 h2).2.kept hq⟩
theorem o_En.warm {G : Gt} {s U : State} {H : Heap} {locs : List Loc} (h : o_En G s) (hS : va_S (o_A G) s.heap H locs) (hH : U.heap = H) (hW : s.WarmedH U.vm) : o_En G U := by
  refine ⟨va_K.moved hW.alike h.1, fun w hw => o_nwW hw hW (h.2.1 w hw), ?_, h.2.2.2⟩
  rw [hH]
  exact (h.2.2.1.moved hW.alike).kept hS.2.1
theorem o_En.blind {G : Gt} {U : State} {g : JFrame} {mk : MethodId} {a : Array Value} (h : o_En G U) : o_En G (U.calling g mk a) :=
  ⟨va_K.moved (u := U) (U := U.calling g mk a) (Vm.Alike.refl U.vm) h.1, fun w hw => va_Nw.same (o_nwT hw) (u := U) (U := U.calling g mk a) rfl (h.2.1 w hw), o_St.moved (u := U) (U := U.calling g mk a) (Vm.Alike.refl U.vm) h.2.2.1, h.2.2.2⟩
/-- a cell written -/
theorem o_W.put {G : Gt} {σ : Sg} {H H1 : Heap} {i k : Nat} {x : Int32} (h : o_W G σ H) (hinj : ∀ i j, i < 41 → j < 41 → gAd G i = gAd G j → i = j) (hi : i < 41) (hn : va_at (gD G) vwCl (gAd G i, o_ce G (pu σ i k x) i) H1) (oq : ∀ q : Nat, q ≠ gAd G i → H1[q]? = H[q]?) : o_W G (pu σ i k x) H1 := by
  intro j hj
  by_cases hji : j = i
  · subst hji
    exact hn
  · rw [o_ce_c (σ' := σ) (pu_ne hji)]
    exact (h j hj).kept (oq _ (fun e => hji (hinj j i hj hi e)))
def o_Pc (G : Gt) (as : List Value) (σ : Sg) : Array Value → State → Prop := va_Pc as (fun U => o_En G U ∧ o_W G σ U.heap)
theorem o_blind (G : Gt) (as : List Value) (σ : Sg) : FrameBlind (o_Pc G as σ) := fun _ _ _ _ q => ⟨q.1, q.2.1.blind, q.2.2⟩
/-- contracts: an int, nothing, a state of the history -/
def o_Ci (l : Launch) (G : Gt) (y : MethodName) (bytes : ByteArray) (maxL : Nat) (ret : Option FieldType) (fr lc : Nat) (as : List Value) (σ : Sg) (post : Int32 → Sg → Prop) : Prop :=
  Met l y (Cond.code y bytes maxL ret :: WS) { frames := fr, cells := 0, slots := 0, locals := lc } (o_Pc G as σ) (va_Qi post (fun σ' t => o_W G σ' t.heap) (o_A G)) 0 0 (o_A G)
def o_Cv (l : Launch) (G : Gt) (y : MethodName) (bytes : ByteArray) (maxL : Nat) (fr lc : Nat) (as : List Value) (σ : Sg) (post : Sg → Prop) : Prop :=
  Met l y (Cond.code y bytes maxL none :: WS) { frames := fr, cells := 0, slots := 0, locals := lc } (o_Pc G as σ) (va_Qv post (fun σ' t => o_W G σ' t.heap) (o_A G)) 0 0 (o_A G)
def o_Cr (l : Launch) (G : Gt) (y : MethodName) (bytes : ByteArray) (maxL : Nat) (ret : Option FieldType) (fr lc : Nat) (as : List Value) (σ : Sg) (post : Nat → Prop) : Prop :=
  Met l y (Cond.code y bytes maxL ret :: WS) { frames := fr, cells := 0, slots := 0, locals := lc } (o_Pc G as σ) (va_Qr post (fun b a t => a = gAd G b ∧ o_W G σ t.heap) (o_A G)) 0 0 (o_A G)
/-- the judgement over the world: any heap and locals that hold the picture -/
def o_V (p : Program) (l : Launch) (e : Env) (R : Room) (s : State) (m : MethodId) (args : Array Value) (below : List Frame) (meth : Method) (c : Code) (Q : State → Prop) (G : Gt) (kc ks nL : Nat) (σ : Sg) (pc : Nat) (lv : List (Nat × Value)) (st : List Value) : Prop :=
  ∀ (H : Heap) (locs : List Loc) (ls : Array Slot), o_W G σ H → va_S (o_A G) s.heap H locs → lv_has ls nL lv → W p l e R s m args below meth c H locs kc ks Q (F0 m pc ls st)
def o_Cx (p : Program) (s : State) (m : MethodId) (args : Array Value) (meth : Method) (c : Code) (G : Gt) (cc : ByteArray) (own : String) (nL : Nat) : Prop :=
  p.tables.exec = Jvm.exec ∧ c.code = cc ∧ c.maxLocals = nL ∧ s.vm.findClass own = some m.cls ∧ (∀ w ∈ WS, w.before args s = true) ∧ o_En G s ∧ meth.locks = false
/-- classes: number, name, fields, how many, types -/
def o_KK (ci : Nat) (C : String) (T : u_T) (N : Nat) (ty : Nat → FieldType) : Prop := vwCl[ci]? = some (C, T, N) ∧ (∀ w ∈ u_ws C T N, w ∈ WS) ∧ (∀ k, k < N → parseFieldDescriptor (T k).2.2.1 = some (ty k)) ∧ (∀ a, a < N → ∀ b, b < N → a ≠ b → (T a).2.1 ≠ (T b).2.1) ∧ o_nf ci = N ∧ ci ≠ 7 ∧ ci ≠ 8
theorem kk0 : o_KK 0 RX0 TX0 7 tyX0 := ⟨rfl, kW_X0, tyX0_ok, nmX0, rfl, by decide, by decide⟩
theorem kk1 : o_KK 1 RX1 TX1 4 tyX1 := ⟨rfl, kW_X1, tyX1_ok, nmX1, rfl, by decide, by decide⟩
theorem kk2 : o_KK 2 RX2 TX2 3 tyX2 := ⟨rfl, kW_X2, tyX2_ok, nmX2, rfl, by decide, by decide⟩
theorem kk3 : o_KK 3 RX3 TX3 11 tyX3 := ⟨rfl, kW_X3, tyX3_ok, nmX3, rfl, by decide, by decide⟩
theorem kk4 : o_KK 4 RX4 TX4 4 tyX4 := ⟨rfl, kW_X4, tyX4_ok, nmX4, rfl, by decide, by decide⟩
theorem kk5 : o_KK 5 RX5 TX5 5 tyX5 := ⟨rfl, kW_X5, tyX5_ok, nmX5, rfl, by decide, by decide⟩
theorem kk6 : o_KK 6 RX6 TX6 18 tyX6 := ⟨rfl, kW_X6, tyX6_ok, nmX6, rfl, by decide, by decide⟩
def o_st (b : Nat) : Prop := b = 1 ∨ b = 8 ∨ b = 13 ∨ b = 18 ∨ b = 23
theorem o_st.lt {b : Nat} (h : o_st b) : b + 4 < 41 := by rcases h with rfl | rfl | rfl | rfl | rfl <;> decide
theorem o_st.kd {b : Nat} (h : o_st b) : o_kd b = 3 := by rcases h with rfl | rfl | rfl | rfl | rfl <;> rfl
theorem o_st.a1 {b : Nat} (h : o_st b) : o_kd (b + 1) = 7 ∧ o_len (b + 1) = 4 := by rcases h with rfl | rfl | rfl | rfl | rfl <;> exact ⟨rfl, rfl⟩
theorem o_st.a2 {b : Nat} (h : o_st b) : o_kd (b + 2) = 7 ∧ o_len (b + 2) = 24 := by rcases h with rfl | rfl | rfl | rfl | rfl <;> exact ⟨rfl, rfl⟩
theorem o_st.a3 {b : Nat} (h : o_st b) : o_kd (b + 3) = 7 ∧ o_len (b + 3) = 3 := by rcases h with rfl | rfl | rfl | rfl | rfl <;> exact ⟨rfl, rfl⟩
theorem o_st.a4 {b : Nat} (h : o_st b) : o_kd (b + 4) = 7 ∧ o_len (b + 4) = 24 := by rcases h with rfl | rfl | rfl | rfl | rfl <;> exact ⟨rfl, rfl⟩
theorem o_st.n {b : Nat} (h : o_st b) {k : Nat} (hk : k < 7) : o_rt b k = none := by
  unfold o_rt
  rw [h.kd]
  exact if_neg (by omega)
theorem o_st.s {b : Nat} (h : o_st b) {k : Nat} (hk : 7 ≤ k) : o_rt b k = some (b + (k - 6)) := by
  unfold o_rt
  rw [h.kd]
  exact if_pos hk
theorem o_ceO {G : Gt} {σ : Sg} {i ci : Nat} (h : o_kd i = ci) (h7 : ci ≠ 7) (h8 : ci ≠ 8) : o_ce G σ i = .inr (ci, (List.range (o_nf ci)).map (o_fv G σ i)) := by
  unfold o_ce
  rw [h, if_neg h7, if_neg h8]
theorem o_ceA {G : Gt} {σ : Sg} {i : Nat} (h : o_kd i = 7) : o_ce G σ i = .inl (gI G, o_len i, .inl (σ i)) := by
  unfold o_ce
  rw [h, if_pos rfl]
theorem o_fvs {G : Gt} {σ : Sg} {i N k : Nat} (hk : k < N) : ((List.range N).map (o_fv G σ i))[k]? = some (o_fv G σ i k) := by
  rw [List.getElem?_map, List.getElem?_range hk]
  rfl
theorem o_W.obj {G : Gt} {σ : Sg} {H : Heap} {i ci N : Nat} {C : String} {T : u_T} {ty : Nat → FieldType} (h : o_W G σ H) (hi : i < 41) (hk : o_kd i = ci) (hK : o_KK ci C T N ty) : va_P (gD G) vwCl [(gAd G i, .inr (ci, (List.range N).map (o_fv G σ i)))] H := by
  intro k q hq
  match k, hq with
  | 0, hq =>
    cases hq
    have h1 := h i hi
    rw [o_ceO hk hK.2.2.2.2.2.1 hK.2.2.2.2.2.2, hK.2.2.2.2.1] at h1
    exact h1
  | k + 1, hq => simp at hq
theorem o_W.arr {G : Gt} {σ : Sg} {H : Heap} {i : Nat} (h : o_W G σ H) (hi : i < 41) (hk : o_kd i = 7) : va_P (gD G) vwCl [(gAd G i, .inl (gI G, o_len i, .inl (σ i)))] H := by
  intro k q hq
  match k, hq with
  | 0, hq =>
    cases hq
    have h1 := h i hi
    rw [o_ceA hk] at h1
    exact h1
  | k + 1, hq => simp at hq
theorem o_W.arq {G : Gt} {σ : Sg} {H : Heap} (h : o_W G σ H) : va_P (gD G) vwCl [(gAd G 7, .inl (gO G, 4, .inr (.inr (.inr (.inr (fun j => some (gAd G (8 + 5 * j))))))))] H := by
  intro k q hq
  match k, hq with
  | 0, hq =>
    cases hq
    exact h 7 (by decide)
  | k + 1, hq => simp at hq
end
section
/-! THE ROWS over the world: an instruction each -/
section ROWS
variable {p : Program} {l : Launch} {e : Env} {R : Room} {s : State} {m : MethodId} {args : Array Value} {below : List Frame} {meth : Method} {c : Code} {Q : State → Prop} {G : Gt} {kc ks nL : Nat} {σ : Sg} {pc : Nat} {lv lv' : List (Nat × Value)} {st : List Value} {cc : ByteArray} {own : String}
theorem r_iconst (hc : o_Cx p s m args meth c G cc own nL) {n : Int} {v : Int32} (hd : decode cc pc = .ok (.iconst n, 1)) (hv : Int32.ofInt n = v)
    (kk : o_V p l e R s m args below meth c Q G kc ks nL σ (pc + 1) lv (.int v :: st)) : o_V p l e R s m args below meth c Q G kc ks nL σ pc lv st :=
  fun H locs ls hP hS hl => lv_iconst hc.1 hc.2.1 hd hv (kk H locs ls hP hS hl)
theorem r_bipush (hc : o_Cx p s m args meth c G cc own nL) {n : Int} {v : Int32} (hd : decode cc pc = .ok (.bipush n, 2)) (hv : (Int8.ofInt n).toInt32 = v)
    (kk : o_V p l e R s m args below meth c Q G kc ks nL σ (pc + 2) lv (.int v :: st)) : o_V p l e R s m args below meth c Q G kc ks nL σ pc lv st :=
  fun H locs ls hP hS hl => lv_bipush hc.1 hc.2.1 hd hv (kk H locs ls hP hS hl)
theorem r_sipush (hc : o_Cx p s m args meth c G cc own nL) {n : Int} {v : Int32} (hd : decode cc pc = .ok (.sipush n, 3)) (hv : (Int16.ofInt n).toInt32 = v)
    (kk : o_V p l e R s m args below meth c Q G kc ks nL σ (pc + 3) lv (.int v :: st)) : o_V p l e R s m args below meth c Q G kc ks nL σ pc lv st :=
  fun H locs ls hP hS hl => lv_sipush hc.1 hc.2.1 hd hv (kk H locs ls hP hS hl)
theorem r_ldc (hc : o_Cx p s m args meth c G cc own nL) {idx : Nat} {v : Int32} (hw : Cond.constant own idx v ∈ WS) (hd : decode cc pc = .ok (.ldc idx, 2))
    (kk : o_V p l e R s m args below meth c Q G kc ks nL σ (pc + 2) lv (.int v :: st)) : o_V p l e R s m args below meth c Q G kc ks nL σ pc lv st :=
  fun H locs ls hP hS hl => lv_ldc hc.1 hc.2.1 hc.2.2.2.1 (hc.2.2.2.2.1 _ hw) hd (kk H locs ls hP hS hl)
theorem r_null (hc : o_Cx p s m args meth c G cc own nL) (hd : decode cc pc = .ok (.aconst_null, 1))
    (kk : o_V p l e R s m args below meth c Q G kc ks nL σ (pc + 1) lv (.null :: st)) : o_V p l e R s m args below meth c Q G kc ks nL σ pc lv st :=
  fun H locs ls hP hS hl => lv_null hc.1 hc.2.1 hd (kk H locs ls hP hS hl)
theorem r_iload_n (hc : o_Cx p s m args meth c G cc own nL) {k : Fin 4} {i : Nat} {x : Int32} (q : Nat) (hd : decode cc pc = .ok (.iload_n k, 1)) (hi : (k : Nat) = i) (hq : lv[q]? = some (i, .int x))
    (kk : o_V p l e R s m args below meth c Q G kc ks nL σ (pc + 1) lv (.int x :: st)) : o_V p l e R s m args below meth c Q G kc ks nL σ pc lv st :=
  fun H locs ls hP hS hl => lv_iload_n hc.1 hc.2.1 hd hi (lv_at hl q hq) (kk H locs ls hP hS hl)
theorem r_iload (hc : o_Cx p s m args meth c G cc own nL) {i : Nat} {x : Int32} (q : Nat) (hd : decode cc pc = .ok (.iload i, 2)) (hq : lv[q]? = some (i, .int x))
    (kk : o_V p l e R s m args below meth c Q G kc ks nL σ (pc + 2) lv (.int x :: st)) : o_V p l e R s m args below meth c Q G kc ks nL σ pc lv st :=
  fun H locs ls hP hS hl => lv_iload hc.1 hc.2.1 hd (lv_at hl q hq) (kk H locs ls hP hS hl)
theorem r_aload_n (hc : o_Cx p s m args meth c G cc own nL) {k : Fin 4} {i : Nat} {x : Nat} (q : Nat) (hd : decode cc pc = .ok (.aload_n k, 1)) (hi : (k : Nat) = i) (hq : lv[q]? = some (i, .ref x))
    (kk : o_V p l e R s m args below meth c Q G kc ks nL σ (pc + 1) lv (.ref x :: st)) : o_V p l e R s m args below meth c Q G kc ks nL σ pc lv st :=
  fun H locs ls hP hS hl => lv_aload_n hc.1 hc.2.1 hd hi (lv_at hl q hq) (kk H locs ls hP hS hl)
theorem r_aload (hc : o_Cx p s m args meth c G cc own nL) {i : Nat} {x : Nat} (q : Nat) (hd : decode cc pc = .ok (.aload i, 2)) (hq : lv[q]? = some (i, .ref x))
    (kk : o_V p l e R s m args below meth c Q G kc ks nL σ (pc + 2) lv (.ref x :: st)) : o_V p l e R s m args below meth c Q G kc ks nL σ pc lv st :=
  fun H locs ls hP hS hl => lv_aload hc.1 hc.2.1 hd (lv_at hl q hq) (kk H locs ls hP hS hl)
theorem r_istore_n (hc : o_Cx p s m args meth c G cc own nL) {k : Fin 4} {i : Nat} {x : Int32} (hd : decode cc pc = .ok (.istore_n k, 1)) (hi : (k : Nat) = i) (hn : i < nL) (hl' : (i, Value.int x) :: lv.filter (fun q => !(q.1 == i) && !(q.1 + 1 == i && q.2.category == 2)) = lv')
    (kk : o_V p l e R s m args below meth c Q G kc ks nL σ (pc + 1) lv' st) : o_V p l e R s m args below meth c Q G kc ks nL σ pc lv (Value.int x :: st) :=
  fun H locs ls hP hS hl => lv_istore_n hc.1 hc.2.1 hd hi hl hn hl' (fun ls2 h2 => kk H locs ls2 hP hS h2)
theorem r_istore (hc : o_Cx p s m args meth c G cc own nL) {i : Nat} {x : Int32} (hd : decode cc pc = .ok (.istore i, 2)) (hn : i < nL) (hl' : (i, Value.int x) :: lv.filter (fun q => !(q.1 == i) && !(q.1 + 1 == i && q.2.category == 2)) = lv')
    (kk : o_V p l e R s m args below meth c Q G kc ks nL σ (pc + 2) lv' st) : o_V p l e R s m args below meth c Q G kc ks nL σ pc lv (Value.int x :: st) :=
  fun H locs ls hP hS hl => lv_istore hc.1 hc.2.1 hd hl hn hl' (fun ls2 h2 => kk H locs ls2 hP hS h2)
theorem r_astore_n (hc : o_Cx p s m args meth c G cc own nL) {k : Fin 4} {i : Nat} {x : Nat} (hd : decode cc pc = .ok (.astore_n k, 1)) (hi : (k : Nat) = i) (hn : i < nL) (hl' : (i, Value.ref x) :: lv.filter (fun q => !(q.1 == i) && !(q.1 + 1 == i && q.2.category == 2)) = lv')
    (kk : o_V p l e R s m args below meth c Q G kc ks nL σ (pc + 1) lv' st) : o_V p l e R s m args below meth c Q G kc ks nL σ pc lv (Value.ref x :: st) :=
  fun H locs ls hP hS hl => lv_astore_n hc.1 hc.2.1 hd hi hl hn hl' (fun ls2 h2 => kk H locs ls2 hP hS h2)
theorem r_astore (hc : o_Cx p s m args meth c G cc own nL) {i : Nat} {x : Nat} (hd : decode cc pc = .ok (.astore i, 2)) (hn : i < nL) (hl' : (i, Value.ref x) :: lv.filter (fun q => !(q.1 == i) && !(q.1 + 1 == i && q.2.category == 2)) = lv')
    (kk : o_V p l e R s m args below meth c Q G kc ks nL σ (pc + 2) lv' st) : o_V p l e R s m args below meth c Q G kc ks nL σ pc lv (Value.ref x :: st) :=
  fun H locs ls hP hS hl => lv_astore hc.1 hc.2.1 hd hl hn hl' (fun ls2 h2 => kk H locs ls2 hP hS h2)
theorem r_iinc (hc : o_Cx p s m args meth c G cc own nL) {i q : Nat} {n : Int} {x v : Int32} (hd : decode cc pc = .ok (.iinc i n, 3)) (hq : lv[q]? = some (i, .int x)) (hv : x + Int32.ofInt n = v) (hn : i < nL) (hl' : (i, Value.int v) :: lv.filter (fun q => !(q.1 == i) && !(q.1 + 1 == i && q.2.category == 2)) = lv')
    (kk : o_V p l e R s m args below meth c Q G kc ks nL σ (pc + 3) lv' st) : o_V p l e R s m args below meth c Q G kc ks nL σ pc lv st :=
  fun H locs ls hP hS hl => lv_iinc hc.1 hc.2.1 hd hl hq hv hn hl' (fun ls2 h2 => kk H locs ls2 hP hS h2)
theorem r_iadd (hc : o_Cx p s m args meth c G cc own nL) {x y : Int32} (hd : decode cc pc = .ok (.iadd, 1))
    (kk : o_V p l e R s m args below meth c Q G kc ks nL σ (pc + 1) lv (.int (x + y) :: st)) : o_V p l e R s m args below meth c Q G kc ks nL σ pc lv (.int y :: .int x :: st) :=
  fun H locs ls hP hS hl => lv_iadd hc.1 hc.2.1 hd (kk H locs ls hP hS hl)
theorem r_isub (hc : o_Cx p s m args meth c G cc own nL) {x y : Int32} (hd : decode cc pc = .ok (.isub, 1))
    (kk : o_V p l e R s m args below meth c Q G kc ks nL σ (pc + 1) lv (.int (x - y) :: st)) : o_V p l e R s m args below meth c Q G kc ks nL σ pc lv (.int y :: .int x :: st) :=
  fun H locs ls hP hS hl => lv_isub hc.1 hc.2.1 hd (kk H locs ls hP hS hl)
theorem r_imul (hc : o_Cx p s m args meth c G cc own nL) {x y : Int32} (hd : decode cc pc = .ok (.imul, 1))
    (kk : o_V p l e R s m args below meth c Q G kc ks nL σ (pc + 1) lv (.int (x * y) :: st)) : o_V p l e R s m args below meth c Q G kc ks nL σ pc lv (.int y :: .int x :: st) :=
  fun H locs ls hP hS hl => lv_imul hc.1 hc.2.1 hd (kk H locs ls hP hS hl)
theorem r_iand (hc : o_Cx p s m args meth c G cc own nL) {x y : Int32} (hd : decode cc pc = .ok (.iand, 1))
    (kk : o_V p l e R s m args below meth c Q G kc ks nL σ (pc + 1) lv (.int (x &&& y) :: st)) : o_V p l e R s m args below meth c Q G kc ks nL σ pc lv (.int y :: .int x :: st) :=
  fun H locs ls hP hS hl => lv_iand hc.1 hc.2.1 hd (kk H locs ls hP hS hl)
theorem r_idiv (hc : o_Cx p s m args meth c G cc own nL) {x y : Int32} (hd : decode cc pc = .ok (.idiv, 1)) (hne : ¬ y = 0)
    (kk : o_V p l e R s m args below meth c Q G kc ks nL σ (pc + 1) lv (.int (x / y) :: st)) : o_V p l e R s m args below meth c Q G kc ks nL σ pc lv (.int y :: .int x :: st) :=
  fun H locs ls hP hS hl => lv_idiv hc.1 hc.2.1 hd hne (kk H locs ls hP hS hl)
theorem r_irem (hc : o_Cx p s m args meth c G cc own nL) {x y : Int32} (hd : decode cc pc = .ok (.irem, 1)) (hne : ¬ y = 0)
    (kk : o_V p l e R s m args below meth c Q G kc ks nL σ (pc + 1) lv (.int (x - x / y * y) :: st)) : o_V p l e R s m args below meth c Q G kc ks nL σ pc lv (.int y :: .int x :: st) :=
  fun H locs ls hP hS hl => lv_irem hc.1 hc.2.1 hd hne (kk H locs ls hP hS hl)
theorem r_ineg (hc : o_Cx p s m args meth c G cc own nL) {x : Int32} (hd : decode cc pc = .ok (.ineg, 1))
    (kk : o_V p l e R s m args below meth c Q G kc ks nL σ (pc + 1) lv (.int (-x) :: st)) : o_V p l e R s m args below meth c Q G kc ks nL σ pc lv (.int x :: st) :=
  fun H locs ls hP hS hl => lv_ineg hc.1 hc.2.1 hd (kk H locs ls hP hS hl)
theorem r_dup (hc : o_Cx p s m args meth c G cc own nL) {v : Value} (hd : decode cc pc = .ok (.dup, 1)) (hv : v.category = 1)
    (kk : o_V p l e R s m args below meth c Q G kc ks nL σ (pc + 1) lv (v :: v :: st)) : o_V p l e R s m args below meth c Q G kc ks nL σ pc lv (v :: st) :=
  fun H locs ls hP hS hl => lv_dup hc.1 hc.2.1 hd hv (kk H locs ls hP hS hl)
theorem r_dup2 (hc : o_Cx p s m args meth c G cc own nL) {v w : Value} (hd : decode cc pc = .ok (.dup2, 1)) (hv : v.category = 1) (hw : w.category = 1)
    (kk : o_V p l e R s m args below meth c Q G kc ks nL σ (pc + 1) lv (v :: w :: v :: w :: st)) : o_V p l e R s m args below meth c Q G kc ks nL σ pc lv (v :: w :: st) :=
  fun H locs ls hP hS hl => lv_dup2_11 hc.1 hc.2.1 hd hv hw (kk H locs ls hP hS hl)
theorem r_goto (hc : o_Cx p s m args meth c G cc own nL) {off : Int} {tgt : Nat} (hd : decode cc pc = .ok (.goto off, 3)) (ht : (pc : Int) + off = (tgt : Int))
    (kk : o_V p l e R s m args below meth c Q G kc ks nL σ tgt lv st) : o_V p l e R s m args below meth c Q G kc ks nL σ pc lv st :=
  fun H locs ls hP hS hl => lv_goto hc.1 hc.2.1 hd ht (kk H locs ls hP hS hl)
theorem r_icmp_eq (hc : o_Cx p s m args meth c G cc own nL) {x y : Int32} {off : Int} {tgt : Nat} (hd : decode cc pc = .ok (.if_icmp .eq off, 3)) (ht : (pc : Int) + off = (tgt : Int))
    (kt : x = y → o_V p l e R s m args below meth c Q G kc ks nL σ tgt lv st) (kf : ¬ x = y → o_V p l e R s m args below meth c Q G kc ks nL σ (pc + 3) lv st) : o_V p l e R s m args below meth c Q G kc ks nL σ pc lv (.int y :: .int x :: st) :=
  fun H locs ls hP hS hl => lv_icmp_eq hc.1 hc.2.1 hd ht (fun h => kt h H locs ls hP hS hl) (fun h => kf h H locs ls hP hS hl)
theorem r_if_eq (hc : o_Cx p s m args meth c G cc own nL) {x : Int32} {off : Int} {tgt : Nat} (hd : decode cc pc = .ok (.ifCond .eq off, 3)) (ht : (pc : Int) + off = (tgt : Int))
    (kt : x = 0 → o_V p l e R s m args below meth c Q G kc ks nL σ tgt lv st) (kf : ¬ x = 0 → o_V p l e R s m args below meth c Q G kc ks nL σ (pc + 3) lv st) : o_V p l e R s m args below meth c Q G kc ks nL σ pc lv (.int x :: st) :=
  fun H locs ls hP hS hl => lv_if_eq hc.1 hc.2.1 hd ht (fun h => kt h H locs ls hP hS hl) (fun h => kf h H locs ls hP hS hl)
theorem r_icmp_ne (hc : o_Cx p s m args meth c G cc own nL) {x y : Int32} {off : Int} {tgt : Nat} (hd : decode cc pc = .ok (.if_icmp .ne off, 3)) (ht : (pc : Int) + off = (tgt : Int))
    (kt : ¬ x = y → o_V p l e R s m args below meth c Q G kc ks nL σ tgt lv st) (kf : x = y → o_V p l e R s m args below meth c Q G kc ks nL σ (pc + 3) lv st) : o_V p l e R s m args below meth c Q G kc ks nL σ pc lv (.int y :: .int x :: st) :=
  fun H locs ls hP hS hl => lv_icmp_ne hc.1 hc.2.1 hd ht (fun h => kt h H locs ls hP hS hl) (fun h => kf h H locs ls hP hS hl)
theorem r_if_ne (hc : o_Cx p s m args meth c G cc own nL) {x : Int32} {off : Int} {tgt : Nat} (hd : decode cc pc = .ok (.ifCond .ne off, 3)) (ht : (pc : Int) + off = (tgt : Int))
    (kt : ¬ x = 0 → o_V p l e R s m args below meth c Q G kc ks nL σ tgt lv st) (kf : x = 0 → o_V p l e R s m args below meth c Q G kc ks nL σ (pc + 3) lv st) : o_V p l e R s m args below meth c Q G kc ks nL σ pc lv (.int x :: st) :=
  fun H locs ls hP hS hl => lv_if_ne hc.1 hc.2.1 hd ht (fun h => kt h H locs ls hP hS hl) (fun h => kf h H locs ls hP hS hl)
theorem r_icmp_lt (hc : o_Cx p s m args meth c G cc own nL) {x y : Int32} {off : Int} {tgt : Nat} (hd : decode cc pc = .ok (.if_icmp .lt off, 3)) (ht : (pc : Int) + off = (tgt : Int))
    (kt : x < y → o_V p l e R s m args below meth c Q G kc ks nL σ tgt lv st) (kf : ¬ x < y → o_V p l e R s m args below meth c Q G kc ks nL σ (pc + 3) lv st) : o_V p l e R s m args below meth c Q G kc ks nL σ pc lv (.int y :: .int x :: st) :=
  fun H locs ls hP hS hl => lv_icmp_lt hc.1 hc.2.1 hd ht (fun h => kt h H locs ls hP hS hl) (fun h => kf h H locs ls hP hS hl)
theorem r_if_lt (hc : o_Cx p s m args meth c G cc own nL) {x : Int32} {off : Int} {tgt : Nat} (hd : decode cc pc = .ok (.ifCond .lt off, 3)) (ht : (pc : Int) + off = (tgt : Int))
    (kt : x < 0 → o_V p l e R s m args below meth c Q G kc ks nL σ tgt lv st) (kf : ¬ x < 0 → o_V p l e R s m args below meth c Q G kc ks nL σ (pc + 3) lv st) : o_V p l e R s m args below meth c Q G kc ks nL σ pc lv (.int x :: st) :=
  fun H locs ls hP hS hl => lv_if_lt hc.1 hc.2.1 hd ht (fun h => kt h H locs ls hP hS hl) (fun h => kf h H locs ls hP hS hl)
theorem r_icmp_ge (hc : o_Cx p s m args meth c G cc own nL) {x y : Int32} {off : Int} {tgt : Nat} (hd : decode cc pc = .ok (.if_icmp .ge off, 3)) (ht : (pc : Int) + off = (tgt : Int))
    (kt : y ≤ x → o_V p l e R s m args below meth c Q G kc ks nL σ tgt lv st) (kf : ¬ y ≤ x → o_V p l e R s m args below meth c Q G kc ks nL σ (pc + 3) lv st) : o_V p l e R s m args below meth c Q G kc ks nL σ pc lv (.int y :: .int x :: st) :=
  fun H locs ls hP hS hl => lv_icmp_ge hc.1 hc.2.1 hd ht (fun h => kt h H locs ls hP hS hl) (fun h => kf h H locs ls hP hS hl)
theorem r_if_ge (hc : o_Cx p s m args meth c G cc own nL) {x : Int32} {off : Int} {tgt : Nat} (hd : decode cc pc = .ok (.ifCond .ge off, 3)) (ht : (pc : Int) + off = (tgt : Int))
    (kt : 0 ≤ x → o_V p l e R s m args below meth c Q G kc ks nL σ tgt lv st) (kf : ¬ 0 ≤ x → o_V p l e R s m args below meth c Q G kc ks nL σ (pc + 3) lv st) : o_V p l e R s m args below meth c Q G kc ks nL σ pc lv (.int x :: st) :=
  fun H locs ls hP hS hl => lv_if_ge hc.1 hc.2.1 hd ht (fun h => kt h H locs ls hP hS hl) (fun h => kf h H locs ls hP hS hl)
theorem r_icmp_gt (hc : o_Cx p s m args meth c G cc own nL) {x y : Int32} {off : Int} {tgt : Nat} (hd : decode cc pc = .ok (.if_icmp .gt off, 3)) (ht : (pc : Int) + off = (tgt : Int))
    (kt : y < x → o_V p l e R s m args below meth c Q G kc ks nL σ tgt lv st) (kf : ¬ y < x → o_V p l e R s m args below meth c Q G kc ks nL σ (pc + 3) lv st) : o_V p l e R s m args below meth c Q G kc ks nL σ pc lv (.int y :: .int x :: st) :=
  fun H locs ls hP hS hl => lv_icmp_gt hc.1 hc.2.1 hd ht (fun h => kt h H locs ls hP hS hl) (fun h => kf h H locs ls hP hS hl)
theorem r_if_gt (hc : o_Cx p s m args meth c G cc own nL) {x : Int32} {off : Int} {tgt : Nat} (hd : decode cc pc = .ok (.ifCond .gt off, 3)) (ht : (pc : Int) + off = (tgt : Int))
    (kt : 0 < x → o_V p l e R s m args below meth c Q G kc ks nL σ tgt lv st) (kf : ¬ 0 < x → o_V p l e R s m args below meth c Q G kc ks nL σ (pc + 3) lv st) : o_V p l e R s m args below meth c Q G kc ks nL σ pc lv (.int x :: st) :=
  fun H locs ls hP hS hl => lv_if_gt hc.1 hc.2.1 hd ht (fun h => kt h H locs ls hP hS hl) (fun h => kf h H locs ls hP hS hl)
theorem r_icmp_le (hc : o_Cx p s m args meth c G cc own nL) {x y : Int32} {off : Int} {tgt : Nat} (hd : decode cc pc = .ok (.if_icmp .le off, 3)) (ht : (pc : Int) + off = (tgt : Int))
    (kt : x ≤ y → o_V p l e R s m args below meth c Q G kc ks nL σ tgt lv st) (kf : ¬ x ≤ y → o_V p l e R s m args below meth c Q G kc ks nL σ (pc + 3) lv st) : o_V p l e R s m args below meth c Q G kc ks nL σ pc lv (.int y :: .int x :: st) :=
  fun H locs ls hP hS hl => lv_icmp_le hc.1 hc.2.1 hd ht (fun h => kt h H locs ls hP hS hl) (fun h => kf h H locs ls hP hS hl)
theorem r_if_le (hc : o_Cx p s m args meth c G cc own nL) {x : Int32} {off : Int} {tgt : Nat} (hd : decode cc pc = .ok (.ifCond .le off, 3)) (ht : (pc : Int) + off = (tgt : Int))
    (kt : x ≤ 0 → o_V p l e R s m args below meth c Q G kc ks nL σ tgt lv st) (kf : ¬ x ≤ 0 → o_V p l e R s m args below meth c Q G kc ks nL σ (pc + 3) lv st) : o_V p l e R s m args below meth c Q G kc ks nL σ pc lv (.int x :: st) :=
  fun H locs ls hP hS hl => lv_if_le hc.1 hc.2.1 hd ht (fun h => kt h H locs ls hP hS hl) (fun h => kf h H locs ls hP hS hl)
theorem r_ifnull (hc : o_Cx p s m args meth c G cc own nL) {x : Nat} {off : Int} (hd : decode cc pc = .ok (.ifnull off, 3))
    (kk : o_V p l e R s m args below meth c Q G kc ks nL σ (pc + 3) lv st) : o_V p l e R s m args below meth c Q G kc ks nL σ pc lv (.ref x :: st) :=
  fun H locs ls hP hS hl => lv_ifnull hc.1 hc.2.1 hd (kk H locs ls hP hS hl)
/-- fields -/
theorem r_get (hc : o_Cx p s m args meth c G cc own nL) {i ci N idx : Nat} {ref C : String} {T : u_T} {ty : Nat → FieldType} (k : Nat) {v : Value} (hK : o_KK ci C T N ty) (hi : i < 41) (hkd : o_kd i = ci) (hk : k < N) (hw : Cond.fieldLink own idx ref (T k).2.1 (T k).2.2.1 ∈ WS) (hr : (T k).1 = ref) (hv : o_fv G σ i k = v) (hd : decode cc pc = .ok (.getfield idx, 3))
    (kk : o_V p l e R s m args below meth c Q G kc ks nL σ (pc + 3) lv (v :: st)) : o_V p l e R s m args below meth c Q G kc ks nL σ pc lv (.ref (gAd G i) :: st) :=
  fun H locs ls hP hS hl => va_get hc.1 hc.2.1 hc.2.2.2.2.1 hK.2.1 hc.2.2.2.1 hc.2.2.2.2.2.1.1 (hP.obj hi hkd hK) 0 rfl hK.1 k hk (hc.2.2.2.2.1 _ hw) (fun x h => by rw [← hr]; exact h) ((o_fvs hk).trans (congrArg some hv)) hd (kk H locs ls hP hS hl)
theorem r_getN (hc : o_Cx p s m args meth c G cc own nL) {i ci N idx : Nat} {ref C host : String} {T : u_T} {ty : Nat → FieldType} (k : Nat) {v : Value} (hK : o_KK ci C T N ty) (hi : i < 41) (hkd : o_kd i = ci) (hk : k < N) (hw : Cond.fieldLinkNest own idx ref (T k).2.1 (T k).2.2.1 host ∈ o_N) (hr : (T k).1 = ref) (hv : o_fv G σ i k = v) (hd : decode cc pc = .ok (.getfield idx, 3))
    (kk : o_V p l e R s m args below meth c Q G kc ks nL σ (pc + 3) lv (v :: st)) : o_V p l e R s m args below meth c Q G kc ks nL σ pc lv (.ref (gAd G i) :: st) :=
  fun H locs ls hP hS hl => va_getN hc.1 hc.2.1 hc.2.2.2.2.1 hK.2.1 hc.2.2.2.1 hc.2.2.2.2.2.1.1 (hP.obj hi hkd hK) 0 rfl hK.1 k hk (o_nw hc.2.2.2.2.2.1 hw) (fun x h => by rw [← hr]; exact h) ((o_fvs hk).trans (congrArg some hv)) hd (kk H locs ls hP hS hl)
theorem o_fv_pu {G : Gt} {σ : Sg} {i k j : Nat} {x : Int32} (hk : o_rt i k = none) : o_fv G (pu σ i k x) i j = updV (o_fv G σ i) k (.int x) j := by
  unfold updV
  by_cases h : j = k
  · rw [if_pos h, h]
    unfold o_fv
    rw [hk, pu_at]
  · rw [if_neg h]
    unfold o_fv
    rw [pu_un (fun q => h q.2)]
theorem o_newO {G : Gt} {σ : Sg} {H1 : Heap} {i k ci N : Nat} {x : Int32} {C : String} {T : u_T} {ty : Nat → FieldType} (hK : o_KK ci C T N ty) (hkd : o_kd i = ci) (hk : o_rt i k = none) {cell : Cell} (e1 : H1[gAd G i]? = some cell) (e2 : cell.cls = (gD G).1 ci) (e3 : cell.vm = .none) (h : ∀ j, j < N → cell.slots[(gD G).2 ci j]? = some (updV (o_fv G σ i) k (.int x) j)) : va_at (gD G) vwCl (gAd G i, o_ce G (pu σ i k x) i) H1 := by
  rw [o_ceO hkd hK.2.2.2.2.2.1 hK.2.2.2.2.2.2, hK.2.2.2.2.1]
  refine ⟨(C, T, N), hK.1, cell, e1, e2, e3, fun j hj => ?_⟩
  rw [h j hj, ← o_fv_pu hk]
  show _ = some (vp_V _ j)
  unfold vp_V
  rw [List.getD_eq_getElem?_getD, o_fvs hj]
  rfl
theorem o_oldO {G : Gt} {σ : Sg} {H : Heap} {i ci N : Nat} {C : String} {T : u_T} {ty : Nat → FieldType} (h : o_W G σ H) (hi : i < 41) (hkd : o_kd i = ci) (hK : o_KK ci C T N ty) : ∃ cell : Cell, H[gAd G i]? = some cell ∧ cell.cls = (gD G).1 ci ∧ cell.vm = .none ∧ ∀ j, j < N → cell.slots[(gD G).2 ci j]? = some (o_fv G σ i j) := by
  obtain ⟨r, h1, cell, q1, q2, q3, q4⟩ := h.obj hi hkd hK 0 _ rfl
  have hr : r = (C, T, N) := Option.some.inj (h1.symm.trans hK.1)
  subst hr
  refine ⟨cell, q1, q2, q3, fun j hj => ?_⟩
  rw [q4 j hj]
  show some (vp_V _ j) = _
  unfold vp_V
  rw [List.getD_eq_getElem?_getD, o_fvs hj]
  rfl
theorem r_put (hc : o_Cx p s m args meth c G cc own nL) {i ci N idx : Nat} {ref C : String} {T : u_T} {ty : Nat → FieldType} (k : Nat) {x : Int32} (hK : o_KK ci C T N ty) (hi : i < 41) (hkd : o_kd i = ci) (hk : k < N) (hw : Cond.fieldLink own idx ref (T k).2.1 (T k).2.2.1 ∈ WS) (hr : (T k).1 = ref) (hfin : (T k).2.2.2 = false) (hrt : o_rt i k = none) (hn : narrow (ty k) (.int x) = .int x) (hf : fits (ty k) (.int x) = true) (hd : decode cc pc = .ok (.putfield idx, 3))
    (kk : o_V p l e R s m args below meth c Q G kc ks nL (pu σ i k x) (pc + 3) lv st) : o_V p l e R s m args below meth c Q G kc ks nL σ pc lv (.int x :: .ref (gAd G i) :: st) := by
  intro H locs ls hP hS hl
  obtain ⟨hx, hb, -, hown, hts, hE, -⟩ := hc
  have hap := va_apart (own := own) hts hK.2.1 ty hK.2.2.1 hK.2.2.2.1 hE.1 hK.1
  obtain ⟨cell, q1, q2, q3, q4⟩ := o_oldO hP hi hkd hK
  obtain ⟨hSl, hfc, kC, hkC, hkind⟩ := hE.1.1 ci _ hK.1
  obtain ⟨cf, kf, fi, f, hi2, hsl⟩ := hSl k hk
  have hlay := hts _ (hK.2.1 _ (u_in_lay hk))
  unfold u_lay at hlay
  rw [if_neg (by rw [hfin]; decide)] at hlay
  have hst := (u_facts hfc hkC (u_lays hts hK.2.1 hk) hi2).1
  have h6 := u_store hfc hkC hkind hlay hi2 (hK.2.2.1 k hk) hn hf
  refine W.putK hx hb (f := f) ⟨hown, hts _ hw, ⟨_, _, _, by rw [← hr]; exact hi2⟩, hst⟩ (by rw [q2]; exact h6) q1 q3 (by rw [hsl]; exact k2_hasslot (q4 k hk)) rfl rfl hd fun H1 e1 e2 e3 => ?_
  rw [hsl] at e1 ⊢
  exact kk H1 _ ls (hP.put hE.2.2.2.1 hi (o_newO hK hkd hrt e1 q2 q3 (t_set q4 hap hk _)) e3) (hS.put e2 e3 (hE.2.2.2.2 i hi)) hl
theorem r_putN (hc : o_Cx p s m args meth c G cc own nL) {i ci N idx : Nat} {ref C host : String} {T : u_T} {ty : Nat → FieldType} (k : Nat) {x : Int32} (hK : o_KK ci C T N ty) (hi : i < 41) (hkd : o_kd i = ci) (hk : k < N) (hw : Cond.fieldLinkNest own idx ref (T k).2.1 (T k).2.2.1 host ∈ o_N) (hr : (T k).1 = ref) (hfin : (T k).2.2.2 = false) (hrt : o_rt i k = none) (hn : narrow (ty k) (.int x) = .int x) (hf : fits (ty k) (.int x) = true) (hd : decode cc pc = .ok (.putfield idx, 3))
    (kk : o_V p l e R s m args below meth c Q G kc ks nL (pu σ i k x) (pc + 3) lv st) : o_V p l e R s m args below meth c Q G kc ks nL σ pc lv (.int x :: .ref (gAd G i) :: st) := by
  intro H locs ls hP hS hl
  obtain ⟨hx, hb, -, hown, hts, hE, -⟩ := hc
  have hap := va_apart (own := own) hts hK.2.1 ty hK.2.2.1 hK.2.2.2.1 hE.1 hK.1
  obtain ⟨cell, q1, q2, q3, q4⟩ := o_oldO hP hi hkd hK
  obtain ⟨hSl, hfc, kC, hkC, hkind⟩ := hE.1.1 ci _ hK.1
  obtain ⟨cf, kf, fi, f, hi2, hsl⟩ := hSl k hk
  have hlay := hts _ (hK.2.1 _ (u_in_lay hk))
  unfold u_lay at hlay
  rw [if_neg (by rw [hfin]; decide)] at hlay
  have hst := (u_facts hfc hkC (u_lays hts hK.2.1 hk) hi2).1
  have h6 := u_store hfc hkC hkind hlay hi2 (hK.2.2.1 k hk) hn hf
  refine va_WputK hx hb (f := f) hown (o_nw hE hw) (by rw [← hr]; exact hi2) hst (by rw [q2]; exact h6) q1 q3 (by rw [hsl]; exact k2_hasslot (q4 k hk)) rfl rfl hd fun H1 e1 e2 e3 => ?_
  rw [hsl] at e1 ⊢
  exact kk H1 _ ls (hP.put hE.2.2.2.1 hi (o_newO hK hkd hrt e1 q2 q3 (t_set q4 hap hk _)) e3) (hS.put e2 e3 (hE.2.2.2.2 i hi)) hl
/-- arrays of ints -/
theorem r_iald (hc : o_Cx p s m args meth c G cc own nL) {i k : Nat} {j : Int32} (hi : i < 41) (hkd : o_kd i = 7) (hin : vp_in j (o_len i)) (hj : j.toNatClampNeg = k) (hd : decode cc pc = .ok (.iaload, 1))
    (kk : o_V p l e R s m args below meth c Q G kc ks nL σ (pc + 1) lv (.int (σ i k) :: st)) : o_V p l e R s m args below meth c Q G kc ks nL σ pc lv (.int j :: .ref (gAd G i) :: st) := by
  subst hj
  exact fun H locs ls hP hS hl => va_iald hc.1 hc.2.1 hc.2.2.2.2.2.1.1 (hP.arr hi hkd) 0 0 rfl rfl hin hd (kk H locs ls hP hS hl)
theorem r_alen (hc : o_Cx p s m args meth c G cc own nL) {i : Nat} {v : Int32} (hi : i < 41) (hkd : o_kd i = 7) (hv : Int32.ofNat (o_len i) = v) (hd : decode cc pc = .ok (.arraylength, 1))
    (kk : o_V p l e R s m args below meth c Q G kc ks nL σ (pc + 1) lv (.int v :: st)) : o_V p l e R s m args below meth c Q G kc ks nL σ pc lv (.ref (gAd G i) :: st) :=
  fun H locs ls hP hS hl => va_alen hc.1 hc.2.1 hc.2.2.2.2.2.1.1 (hP.arr hi hkd) 0 0 rfl rfl hv hd (kk H locs ls hP hS hl)
theorem r_iast (hc : o_Cx p s m args meth c G cc own nL) {i k : Nat} {j x : Int32} (hi : i < 41) (hkd : o_kd i = 7) (hin : vp_in j (o_len i)) (hj : j.toNatClampNeg = k) (hd : decode cc pc = .ok (.iastore, 1))
    (kk : o_V p l e R s m args below meth c Q G kc ks nL (pu σ i k x) (pc + 1) lv st) : o_V p l e R s m args below meth c Q G kc ks nL σ pc lv (.int x :: .int j :: .ref (gAd G i) :: st) := by
  intro H locs ls hP hS hl
  subst hj
  obtain ⟨hx, hb, -, hown, hts, hE, -⟩ := hc
  have h1 := hP.arr hi hkd 0 _ rfl
  refine W.iast hx hb h1 ((hE.1.2 0 _ rfl).1 (o_len i) (fun q => .int (σ i q))) (fun q => by cases q) (by show ¬ (j < 0 ∨ (arrV _ _ _).slots.size ≤ _); rw [arrV_size]; exact hin) rfl rfl hd fun H1 e1 e2 e3 => ?_
  refine kk H1 _ ls (hP.put hE.2.2.2.1 hi ?_ e3) (hS.put e2 e3 (hE.2.2.2.2 i hi)) hl
  rw [o_ceA hkd]
  show H1[gAd G i]? = some (vp_cell _ _)
  rw [e1, vp_cell_i, vp_cell_i, arrV_store, pu_eq]
  congr 2
  funext q
  by_cases hq : q = j.toNatClampNeg
  · subst hq
    simp [updV, upd]
  · simp [updV, upd, hq]
/-- the static rows -/
theorem r_gets (hc : o_Cx p s m args meth c G cc own nL) (i : Nat) {idx : Nat} {nm : String} (h1 : 41 ≤ i) (h2 : i < 44) (hnm : o_sn i = nm) (hw : Cond.fieldLink own idx RX5 nm "[I" ∈ WS) (hd : decode cc pc = .ok (.getstatic idx, 3))
    (kk : o_V p l e R s m args below meth c Q G kc ks nL σ (pc + 3) lv (.ref (gAd G i) :: st)) : o_V p l e R s m args below meth c Q G kc ks nL σ pc lv st := by
  subst hnm
  exact fun H locs ls hP hS hl => va_gets hc.1 hc.2.1 (hc.2.2.2.2.2.1.2.2.1 i h1 h2).1 hS hc.2.2.2.1 (hc.2.2.2.2.1 _ hw) (fun x h => h) hd (kk H locs ls hP hS hl)
theorem r_getsN (hc : o_Cx p s m args meth c G cc own nL) (i : Nat) {idx : Nat} {nm host : String} (h1 : 41 ≤ i) (h2 : i < 44) (hnm : o_sn i = nm) (hw : Cond.fieldLinkNest own idx RX5 nm "[I" host ∈ o_N) (hd : decode cc pc = .ok (.getstatic idx, 3))
    (kk : o_V p l e R s m args below meth c Q G kc ks nL σ (pc + 3) lv (.ref (gAd G i) :: st)) : o_V p l e R s m args below meth c Q G kc ks nL σ pc lv st := by
  subst hnm
  exact fun H locs ls hP hS hl => va_getsN hc.1 hc.2.1 (hc.2.2.2.2.2.1.2.2.1 i h1 h2).1 hS hc.2.2.2.1 (o_nw hc.2.2.2.2.2.1 hw) (fun x h => h) hd (kk H locs ls hP hS hl)
/-- a row that is an int row of the world or a static one -/
def o_isA (i : Nat) : Prop := (i < 41 ∧ o_kd i = 7) ∨ (41 ≤ i ∧ i < 44)
def o_av (σ : Sg) (i : Nat) : Nat → Int32 := fun k => if i < 41 then σ i k else o_sv i k
theorem r_ialdG (hc : o_Cx p s m args meth c G cc own nL) {i k : Nat} {j : Int32} (hi : o_isA i) (hin : vp_in j (o_len i)) (hj : j.toNatClampNeg = k) (hd : decode cc pc = .ok (.iaload, 1))
    (kk : o_V p l e R s m args below meth c Q G kc ks nL σ (pc + 1) lv (.int (o_av σ i k) :: st)) : o_V p l e R s m args below meth c Q G kc ks nL σ pc lv (.int j :: .ref (gAd G i) :: st) := by
  rcases hi with ⟨h1, h2⟩ | ⟨h1, h2⟩
  · refine r_iald hc h1 h2 hin hj hd ?_
    rw [show σ i k = o_av σ i k from (if_pos h1).symm]
    exact kk
  · subst hj
    intro H locs ls hP hS hl
    refine va_ti hc.1 hc.2.1 (hc.2.2.2.2.2.1.2.2.1 i h1 h2).2 hS hin rfl hd ?_
    rw [show o_sv i j.toNatClampNeg = o_av σ i j.toNatClampNeg from (if_neg (by omega)).symm]
    exact kk H locs ls hP hS hl
theorem r_alenG (hc : o_Cx p s m args meth c G cc own nL) {i : Nat} {v : Int32} (hi : o_isA i) (hv : Int32.ofNat (o_len i) = v) (hd : decode cc pc = .ok (.arraylength, 1))
    (kk : o_V p l e R s m args below meth c Q G kc ks nL σ (pc + 1) lv (.int v :: st)) : o_V p l e R s m args below meth c Q G kc ks nL σ pc lv (.ref (gAd G i) :: st) := by
  rcases hi with ⟨h1, h2⟩ | ⟨h1, h2⟩
  · exact r_alen hc h1 h2 hv hd kk
  · intro H locs ls hP hS hl
    obtain ⟨cell, a1, a2, a3, a4, a5, a6, a7⟩ := (hc.2.2.2.2.2.1.2.2.1 i h1 h2).2
    exact W.alen (n := v) hc.1 hc.2.1 (by rw [hS.2.1 _ (Array.getElem?_eq_some_iff.mp a1).1 a7]; exact a1) a2 (by rw [a5, hv]) rfl rfl hd (kk H locs ls hP hS hl)
/-- the row of the history's states -/
theorem r_aald (hc : o_Cx p s m args meth c G cc own nL) {k : Nat} {j : Int32} (hin : vp_in j 4) (hj : j.toNatClampNeg = k) (hd : decode cc pc = .ok (.aaload, 1))
    (kk : o_V p l e R s m args below meth c Q G kc ks nL σ (pc + 1) lv (.ref (gAd G (8 + 5 * k)) :: st)) : o_V p l e R s m args below meth c Q G kc ks nL σ pc lv (.int j :: .ref (gAd G 7) :: st) := by
  subst hj
  exact fun H locs ls hP hS hl => va_aldq hc.1 hc.2.1 hc.2.2.2.2.2.1.1 hP.arq 0 1 rfl rfl hin hd (kk H locs ls hP hS hl)
theorem r_alenQ (hc : o_Cx p s m args meth c G cc own nL) (hd : decode cc pc = .ok (.arraylength, 1))
    (kk : o_V p l e R s m args below meth c Q G kc ks nL σ (pc + 1) lv (.int 4 :: st)) : o_V p l e R s m args below meth c Q G kc ks nL σ pc lv (.ref (gAd G 7) :: st) :=
  fun H locs ls hP hS hl => va_alen hc.1 hc.2.1 hc.2.2.2.2.2.1.1 hP.arq 0 1 rfl rfl rfl hd (kk H locs ls hP hS hl)
/-- Math -/
theorem r_max (hc : o_Cx p s m args meth c G cc own nL) {idx : Nat} {x y : Int32} (hw : Cond.methodLink own idx Lib.Math.max.name ∈ WS) (hR : 1 ≤ R.frames) (hR2 : (st.map fun v => v.category).sum + 13 ≤ R.locals) (hcs : kc ≤ R.cells ∧ ks ≤ R.slots) (hd : decode cc pc = .ok (.invokestatic idx, 3))
    (kk : o_V p l e R s m args below meth c Q G kc ks nL σ (pc + 3) lv (.int (if x < y then y else x) :: st)) : o_V p l e R s m args below meth c Q G kc ks nL σ pc lv (.int y :: .int x :: st) :=
  fun H locs ls hP hS hl => va_mmax hc.1 hc.2.1 (hc.2.2.1.trans hl.1.symm) hc.2.2.2.1 (hc.2.2.2.2.1 _ hw) (hc.2.2.2.2.1 _ kS_Math_max) (hc.2.2.2.2.1 _ kIn_Math) (hc.2.2.2.2.1 _ kC_Math_max) hR hR2 hcs.1 hcs.2 hd (kk H locs ls hP hS hl)
theorem r_min (hc : o_Cx p s m args meth c G cc own nL) {idx : Nat} {x y : Int32} (hw : Cond.methodLink own idx Lib.Math.min.name ∈ WS) (hR : 1 ≤ R.frames) (hR2 : (st.map fun v => v.category).sum + 13 ≤ R.locals) (hcs : kc ≤ R.cells ∧ ks ≤ R.slots) (hd : decode cc pc = .ok (.invokestatic idx, 3))
    (kk : o_V p l e R s m args below meth c Q G kc ks nL σ (pc + 3) lv (.int (if y < x then y else x) :: st)) : o_V p l e R s m args below meth c Q G kc ks nL σ pc lv (.int y :: .int x :: st) :=
  fun H locs ls hP hS hl => va_mmin hc.1 hc.2.1 (hc.2.2.1.trans hl.1.symm) hc.2.2.2.1 (hc.2.2.2.2.1 _ hw) (hc.2.2.2.2.1 _ kS_Math_min) (hc.2.2.2.2.1 _ kIn_Math) (hc.2.2.2.2.1 _ kC_Math_min) hR hR2 hcs.1 hcs.2 hd (kk H locs ls hP hS hl)
theorem r_abs (hc : o_Cx p s m args meth c G cc own nL) {idx : Nat} {x : Int32} (hw : Cond.methodLink own idx Lib.Math.abs.name ∈ WS) (hR : 1 ≤ R.frames) (hR2 : (st.map fun v => v.category).sum + 13 ≤ R.locals) (hcs : kc ≤ R.cells ∧ ks ≤ R.slots) (hd : decode cc pc = .ok (.invokestatic idx, 3))
    (kk : o_V p l e R s m args below meth c Q G kc ks nL σ (pc + 3) lv (.int (if 0 ≤ x then x else 0 - x) :: st)) : o_V p l e R s m args below meth c Q G kc ks nL σ pc lv (.int x :: st) :=
  fun H locs ls hP hS hl => va_mabs hc.1 hc.2.1 (hc.2.2.1.trans hl.1.symm) hc.2.2.2.1 (hc.2.2.2.2.1 _ hw) (hc.2.2.2.2.1 _ kS_Math_abs) (hc.2.2.2.2.1 _ kIn_Math) (hc.2.2.2.2.1 _ kC_Math_abs) hR hR2 hcs.1 hcs.2 hd (kk H locs ls hP hS hl)

/-! calls -/
theorem o_preS {as : List Value} {H : Heap} {locs : List Loc} (hc : o_Cx p s m args meth c G cc own nL) (hP : o_W G σ H) (hS : va_S (o_A G) s.heap H locs) : PreS s H (o_Pc G as σ) as :=
  ⟨o_blind G as σ, fun U hU hW => ⟨rfl, hc.2.2.2.2.2.1.warm hS hU hW, by rw [hU]; exact hP⟩⟩
theorem o_preV {as : List Value} {H : Heap} {locs : List Loc} {i ci N : Nat} {C : String} {T : u_T} {ty : Nat → FieldType} (hc : o_Cx p s m args meth c G cc own nL) (hP : o_W G σ H) (hS : va_S (o_A G) s.heap H locs) (hK : o_KK ci C T N ty) (hi : i < 41) (hkd : o_kd i = ci) : PreV s H C (gAd G i) (o_Pc G (.ref (gAd G i) :: as) σ) as :=
  ⟨o_blind G _ σ, va_recv hc.2.2.2.2.2.1.1 (hP.obj hi hkd hK) hK.1 (q0 := 0) rfl, fun U hU hW => ⟨rfl, hc.2.2.2.2.2.1.warm hS hU hW, by rw [hU]; exact hP⟩⟩
variable {y : MethodName} {bytes : ByteArray} {maxL fr lc n idx : Nat} {ret : Option FieldType} {as rest stk : List Value}
theorem o_gi (hcode : Cond.code y bytes maxL ret ∈ WS) : GoodIn WS (Cond.code y bytes maxL ret :: WS) := fun w hw => (List.mem_cons.mp hw).elim (fun e => by rw [e]; exact o_gWS _ hcode) (o_gWS w)
theorem o_cwS (hc : o_Cx p s m args meth c G cc own nL) (hm : o_MS y bytes maxL ret n) (hw : Cond.methodLink own idx y ∈ WS) (hR : fr + 1 ≤ R.frames ∧ 8 + (maxL + 11) + lc ≤ R.locals) : CallB R s args own idx y bytes maxL ret (Cond.code y bytes maxL ret :: WS) { frames := fr, cells := 0, slots := 0, locals := lc } 0 0 n ∧ (Cond.static y).before args s = true :=
  ⟨callB_of n hc.2.2.2.2.1 (o_gi hm.1) rfl rfl rfl (hc.2.2.2.2.1 _ hm.2.2.1) (hc.2.2.2.2.1 _ hw) hm.2.2.2 hR, hc.2.2.2.2.1 _ hm.2.1⟩
theorem o_cwV {C : String} (hc : o_Cx p s m args meth c G cc own nL) (hm : o_MV C y bytes maxL ret n) (hw : Cond.methodLink own idx y ∈ WS) (hR : fr + 1 ≤ R.frames ∧ 8 + (maxL + 11) + lc ≤ R.locals) : CallW R s args own C idx y bytes maxL ret (Cond.code y bytes maxL ret :: WS) { frames := fr, cells := 0, slots := 0, locals := lc } 0 0 n := by
  obtain ⟨rfl, h1, h2, h3, h4, h5⟩ := hm
  exact ⟨callB_of n hc.2.2.2.2.1 (o_gi h1) rfl rfl rfl (hc.2.2.2.2.1 _ h4) (hc.2.2.2.2.1 _ hw) h5 hR, hc.2.2.2.2.1 _ h2, hc.2.2.2.2.1 _ h3⟩
theorem o_cnS {host : String} (hc : o_Cx p s m args meth c G cc own nL) (hm : o_MS y bytes maxL ret n) (hw : Cond.methodLinkNest own idx y host ∈ o_N) (hR : fr + 1 ≤ R.frames ∧ 8 + (maxL + 11) + lc ≤ R.locals) : va_CN R s args own idx y host bytes maxL ret (Cond.code y bytes maxL ret :: WS) { frames := fr, cells := 0, slots := 0, locals := lc } 0 0 n ∧ (Cond.static y).before args s = true ∧ True :=
  ⟨va_cnB n hc.2.2.2.2.1 (o_gi hm.1) rfl rfl rfl (hc.2.2.2.2.2.1.2.1 _ hw) (hc.2.2.2.2.1 _ hm.2.2.1) hm.2.2.2 hR, hc.2.2.2.2.1 _ hm.2.1, trivial⟩
theorem o_cnV {C host : String} (hc : o_Cx p s m args meth c G cc own nL) (hm : o_MV C y bytes maxL ret n) (hw : Cond.methodLinkNest own idx y host ∈ o_N) (hR : fr + 1 ≤ R.frames ∧ 8 + (maxL + 11) + lc ≤ R.locals) : va_CN R s args own idx y host bytes maxL ret (Cond.code y bytes maxL ret :: WS) { frames := fr, cells := 0, slots := 0, locals := lc } 0 0 n ∧ (Cond.instanceMethod y).before args s = true ∧ (Cond.selects C y y).before args s = true := by
  obtain ⟨rfl, h1, h2, h3, h4, h5⟩ := hm
  exact ⟨va_cnB n hc.2.2.2.2.1 (o_gi h1) rfl rfl rfl (hc.2.2.2.2.2.1.2.1 _ hw) (hc.2.2.2.2.1 _ h4) h5 hR, hc.2.2.2.2.1 _ h2, hc.2.2.2.2.1 _ h3⟩
theorem o_fix (hc : o_Cx p s m args meth c G cc own nL) : CallFix p m c cc nL s args WS own := ⟨hc.1, hc.2.1, hc.2.2.1, hc.2.2.2.1, hc.2.2.2.2.1⟩
theorem o_endi {H : Heap} {locs : List Loc} {ls : Array Slot} {a : Array Value} {post : Int32 → Sg → Prop} (hS : va_S (o_A G) s.heap H locs) (hl : lv_has ls nL lv) (hr : va_Run p l e R s m args below meth c H locs kc ks 0 0 (F0 m pc ls stk) st (va_Qi post (fun σ' t => o_W G σ' t.heap) (o_A G) a) (o_A G))
    (kk : ∀ (r : Int32) (σ' : Sg), post r σ' → o_V p l e R s m args below meth c Q G kc ks nL σ' (pc + 3) lv (.int r :: st)) : W p l e R s m args below meth c H locs kc ks Q (F0 m pc ls stk) :=
  va_calli hr hS (fun _ _ h => h) (fun _ h => h) (fun r u t H1 locs1 ht _ hp hB _ _ hS1 => kk r u hp H1 locs1 ls (by rw [← ht]; exact hB) hS1 hl)
theorem o_endv {H : Heap} {locs : List Loc} {ls : Array Slot} {a : Array Value} {post : Sg → Prop} (hS : va_S (o_A G) s.heap H locs) (hl : lv_has ls nL lv) (hr : va_Run p l e R s m args below meth c H locs kc ks 0 0 (F0 m pc ls stk) st (va_Qv post (fun σ' t => o_W G σ' t.heap) (o_A G) a) (o_A G))
    (kk : ∀ (σ' : Sg), post σ' → o_V p l e R s m args below meth c Q G kc ks nL σ' (pc + 3) lv st) : W p l e R s m args below meth c H locs kc ks Q (F0 m pc ls stk) :=
  va_callv hr hS (fun _ _ h => h) (fun _ h => h) (fun u t H1 locs1 ht _ hp hB _ _ hS1 => kk u hp H1 locs1 ls (by rw [← ht]; exact hB) hS1 hl)
theorem o_endr {H : Heap} {locs : List Loc} {ls : Array Slot} {a : Array Value} {post : Nat → Prop} (hS : va_S (o_A G) s.heap H locs) (hl : lv_has ls nL lv) (hr : va_Run p l e R s m args below meth c H locs kc ks 0 0 (F0 m pc ls stk) st (va_Qr post (fun b a t => a = gAd G b ∧ o_W G σ t.heap) (o_A G) a) (o_A G))
    (kk : ∀ b : Nat, post b → o_V p l e R s m args below meth c Q G kc ks nL σ (pc + 3) lv (.ref (gAd G b) :: st)) : W p l e R s m args below meth c H locs kc ks Q (F0 m pc ls stk) :=
  va_callr hr hS (fun _ _ h => h) (fun _ h => h) (fun u ra t H1 locs1 ht _ hp hB _ _ hS1 => by
    obtain ⟨rfl, hB⟩ := hB
    exact kk u hp H1 locs1 ls (by rw [← ht]; exact hB) hS1 hl)
theorem r_callS_i (hc : o_Cx p s m args meth c G cc own nL) {post : Int32 → Sg → Prop}  (hM : o_Ci l G y bytes maxL ret fr lc as σ post) (hm : o_MS y bytes maxL ret n) (hw : Cond.methodLink own idx y ∈ WS) (hR : fr + 1 ≤ R.frames ∧ 8 + (maxL + 11) + lc ≤ R.locals) (hcs : kc + 0 ≤ R.cells ∧ ks + 0 ≤ R.slots) (hn : as.length = n) (hstk : stk = as.reverse ++ st) (hroom : (st.map fun v => v.category).sum ≤ 8) (hd : decode cc pc = .ok (.invokestatic idx, 3))
    (kk : ∀ (r : Int32) (σ' : Sg), post r σ' → o_V p l e R s m args below meth c Q G kc ks nL σ' (pc + 3) lv (.int r :: st)) : o_V p l e R s m args below meth c Q G kc ks nL σ pc lv stk := by
  intro H locs ls hP hS hl
  exact o_endi hS hl (va_runS (g := F0 m pc ls stk) (o_fix hc) hM (o_cwS hc hm hw hR) (o_preS hc hP hS) rfl hn hl.1 hstk (lv_room hroom) hd hcs) kk
theorem r_callS_v (hc : o_Cx p s m args meth c G cc own nL) {post : Sg → Prop}  (hM : o_Cv l G y bytes maxL fr lc as σ post) (hm : o_MS y bytes maxL none n) (hw : Cond.methodLink own idx y ∈ WS) (hR : fr + 1 ≤ R.frames ∧ 8 + (maxL + 11) + lc ≤ R.locals) (hcs : kc + 0 ≤ R.cells ∧ ks + 0 ≤ R.slots) (hn : as.length = n) (hstk : stk = as.reverse ++ st) (hroom : (st.map fun v => v.category).sum ≤ 8) (hd : decode cc pc = .ok (.invokestatic idx, 3))
    (kk : ∀ σ' : Sg, post σ' → o_V p l e R s m args below meth c Q G kc ks nL σ' (pc + 3) lv st) : o_V p l e R s m args below meth c Q G kc ks nL σ pc lv stk := by
  intro H locs ls hP hS hl
  exact o_endv hS hl (va_runS (g := F0 m pc ls stk) (o_fix hc) hM (o_cwS hc hm hw hR) (o_preS hc hP hS) rfl hn hl.1 hstk (lv_room hroom) hd hcs) kk
theorem r_callSN_i (hc : o_Cx p s m args meth c G cc own nL) {post : Int32 → Sg → Prop}  (hM : o_Ci l G y bytes maxL ret fr lc as σ post) (hm : o_MS y bytes maxL ret n) {host : String} (hw : Cond.methodLinkNest own idx y host ∈ o_N) (hR : fr + 1 ≤ R.frames ∧ 8 + (maxL + 11) + lc ≤ R.locals) (hcs : kc + 0 ≤ R.cells ∧ ks + 0 ≤ R.slots) (hn : as.length = n) (hstk : stk = as.reverse ++ st) (hroom : (st.map fun v => v.category).sum ≤ 8) (hd : decode cc pc = .ok (.invokestatic idx, 3))
    (kk : ∀ (r : Int32) (σ' : Sg), post r σ' → o_V p l e R s m args below meth c Q G kc ks nL σ' (pc + 3) lv (.int r :: st)) : o_V p l e R s m args below meth c Q G kc ks nL σ pc lv stk := by
  intro H locs ls hP hS hl
  exact o_endi hS hl (va_runSN (g := F0 m pc ls stk) (o_fix hc) hM (o_cnS hc hm hw hR) (o_preS hc hP hS) rfl hn hl.1 hstk (lv_room hroom) hd hcs) kk
theorem r_callSN_v (hc : o_Cx p s m args meth c G cc own nL) {post : Sg → Prop}  (hM : o_Cv l G y bytes maxL fr lc as σ post) (hm : o_MS y bytes maxL none n) {host : String} (hw : Cond.methodLinkNest own idx y host ∈ o_N) (hR : fr + 1 ≤ R.frames ∧ 8 + (maxL + 11) + lc ≤ R.locals) (hcs : kc + 0 ≤ R.cells ∧ ks + 0 ≤ R.slots) (hn : as.length = n) (hstk : stk = as.reverse ++ st) (hroom : (st.map fun v => v.category).sum ≤ 8) (hd : decode cc pc = .ok (.invokestatic idx, 3))
    (kk : ∀ σ' : Sg, post σ' → o_V p l e R s m args below meth c Q G kc ks nL σ' (pc + 3) lv st) : o_V p l e R s m args below meth c Q G kc ks nL σ pc lv stk := by
  intro H locs ls hP hS hl
  exact o_endv hS hl (va_runSN (g := F0 m pc ls stk) (o_fix hc) hM (o_cnS hc hm hw hR) (o_preS hc hP hS) rfl hn hl.1 hstk (lv_room hroom) hd hcs) kk
theorem r_callV_i (hc : o_Cx p s m args meth c G cc own nL) {post : Int32 → Sg → Prop} {i ci N : Nat} {C : String} {T : u_T} {ty : Nat → FieldType} (hM : o_Ci l G y bytes maxL ret fr lc (.ref (gAd G i) :: as) σ post) (hK : o_KK ci C T N ty) (hi : i < 41) (hkd : o_kd i = ci) (hm : o_MV C y bytes maxL ret n) (hw : Cond.methodLink own idx y ∈ WS) (hR : fr + 1 ≤ R.frames ∧ 8 + (maxL + 11) + lc ≤ R.locals) (hcs : kc + 0 ≤ R.cells ∧ ks + 0 ≤ R.slots) (hn : as.length = n) (hstk : stk = as.reverse ++ .ref (gAd G i) :: st) (hroom : (st.map fun v => v.category).sum ≤ 8) (hd : decode cc pc = .ok (.invokevirtual idx, 3))
    (kk : ∀ (r : Int32) (σ' : Sg), post r σ' → o_V p l e R s m args below meth c Q G kc ks nL σ' (pc + 3) lv (.int r :: st)) : o_V p l e R s m args below meth c Q G kc ks nL σ pc lv stk := by
  intro H locs ls hP hS hl
  exact o_endi hS hl (va_runV (g := F0 m pc ls stk) (o_fix hc) hM (o_cwV hc hm hw hR) (o_preV hc hP hS hK hi hkd) rfl hn hl.1 hstk (lv_room hroom) hd hcs) kk
theorem r_callV_v (hc : o_Cx p s m args meth c G cc own nL) {post : Sg → Prop} {i ci N : Nat} {C : String} {T : u_T} {ty : Nat → FieldType} (hM : o_Cv l G y bytes maxL fr lc (.ref (gAd G i) :: as) σ post) (hK : o_KK ci C T N ty) (hi : i < 41) (hkd : o_kd i = ci) (hm : o_MV C y bytes maxL none n) (hw : Cond.methodLink own idx y ∈ WS) (hR : fr + 1 ≤ R.frames ∧ 8 + (maxL + 11) + lc ≤ R.locals) (hcs : kc + 0 ≤ R.cells ∧ ks + 0 ≤ R.slots) (hn : as.length = n) (hstk : stk = as.reverse ++ .ref (gAd G i) :: st) (hroom : (st.map fun v => v.category).sum ≤ 8) (hd : decode cc pc = .ok (.invokevirtual idx, 3))
    (kk : ∀ σ' : Sg, post σ' → o_V p l e R s m args below meth c Q G kc ks nL σ' (pc + 3) lv st) : o_V p l e R s m args below meth c Q G kc ks nL σ pc lv stk := by
  intro H locs ls hP hS hl
  exact o_endv hS hl (va_runV (g := F0 m pc ls stk) (o_fix hc) hM (o_cwV hc hm hw hR) (o_preV hc hP hS hK hi hkd) rfl hn hl.1 hstk (lv_room hroom) hd hcs) kk
theorem r_callV_r (hc : o_Cx p s m args meth c G cc own nL) {post : Nat → Prop} {i ci N : Nat} {C : String} {T : u_T} {ty : Nat → FieldType} (hM : o_Cr l G y bytes maxL ret fr lc (.ref (gAd G i) :: as) σ post) (hK : o_KK ci C T N ty) (hi : i < 41) (hkd : o_kd i = ci) (hm : o_MV C y bytes maxL ret n) (hw : Cond.methodLink own idx y ∈ WS) (hR : fr + 1 ≤ R.frames ∧ 8 + (maxL + 11) + lc ≤ R.locals) (hcs : kc + 0 ≤ R.cells ∧ ks + 0 ≤ R.slots) (hn : as.length = n) (hstk : stk = as.reverse ++ .ref (gAd G i) :: st) (hroom : (st.map fun v => v.category).sum ≤ 8) (hd : decode cc pc = .ok (.invokevirtual idx, 3))
    (kk : ∀ b : Nat, post b → o_V p l e R s m args below meth c Q G kc ks nL σ (pc + 3) lv (.ref (gAd G b) :: st)) : o_V p l e R s m args below meth c Q G kc ks nL σ pc lv stk := by
  intro H locs ls hP hS hl
  exact o_endr hS hl (va_runV (g := F0 m pc ls stk) (o_fix hc) hM (o_cwV hc hm hw hR) (o_preV hc hP hS hK hi hkd) rfl hn hl.1 hstk (lv_room hroom) hd hcs) kk
theorem r_callVN_i (hc : o_Cx p s m args meth c G cc own nL) {post : Int32 → Sg → Prop} {i ci N : Nat} {C : String} {T : u_T} {ty : Nat → FieldType} (hM : o_Ci l G y bytes maxL ret fr lc (.ref (gAd G i) :: as) σ post) (hK : o_KK ci C T N ty) (hi : i < 41) (hkd : o_kd i = ci) (hm : o_MV C y bytes maxL ret n) {host : String} (hw : Cond.methodLinkNest own idx y host ∈ o_N) (hR : fr + 1 ≤ R.frames ∧ 8 + (maxL + 11) + lc ≤ R.locals) (hcs : kc + 0 ≤ R.cells ∧ ks + 0 ≤ R.slots) (hn : as.length = n) (hstk : stk = as.reverse ++ .ref (gAd G i) :: st) (hroom : (st.map fun v => v.category).sum ≤ 8) (hd : decode cc pc = .ok (.invokevirtual idx, 3))
    (kk : ∀ (r : Int32) (σ' : Sg), post r σ' → o_V p l e R s m args below meth c Q G kc ks nL σ' (pc + 3) lv (.int r :: st)) : o_V p l e R s m args below meth c Q G kc ks nL σ pc lv stk := by
  intro H locs ls hP hS hl
  exact o_endi hS hl (va_runVN (g := F0 m pc ls stk) (o_fix hc) hM (o_cnV hc hm hw hR) (o_preV hc hP hS hK hi hkd) rfl hn hl.1 hstk (lv_room hroom) hd hcs) kk
theorem r_callVN_v (hc : o_Cx p s m args meth c G cc own nL) {post : Sg → Prop} {i ci N : Nat} {C : String} {T : u_T} {ty : Nat → FieldType} (hM : o_Cv l G y bytes maxL fr lc (.ref (gAd G i) :: as) σ post) (hK : o_KK ci C T N ty) (hi : i < 41) (hkd : o_kd i = ci) (hm : o_MV C y bytes maxL none n) {host : String} (hw : Cond.methodLinkNest own idx y host ∈ o_N) (hR : fr + 1 ≤ R.frames ∧ 8 + (maxL + 11) + lc ≤ R.locals) (hcs : kc + 0 ≤ R.cells ∧ ks + 0 ≤ R.slots) (hn : as.length = n) (hstk : stk = as.reverse ++ .ref (gAd G i) :: st) (hroom : (st.map fun v => v.category).sum ≤ 8) (hd : decode cc pc = .ok (.invokevirtual idx, 3))
    (kk : ∀ σ' : Sg, post σ' → o_V p l e R s m args below meth c Q G kc ks nL σ' (pc + 3) lv st) : o_V p l e R s m args below meth c Q G kc ks nL σ pc lv stk := by
  intro H locs ls hP hS hl
  exact o_endv hS hl (va_runVN (g := F0 m pc ls stk) (o_fix hc) hM (o_cnV hc hm hw hR) (o_preV hc hP hS hK hi hkd) rfl hn hl.1 hstk (lv_room hroom) hd hcs) kk
/-! a method's entry and its ends -/
theorem o_Ci.of {post : Int32 → Sg → Prop} (hy : plainName y.cls = true) (hn : (lg_sl as).length ≤ maxL)
    (body : ∀ (p : Program) (e : Env) (s : State) (m : MethodId) (args : Array Value) (below : List Frame) (meth : Method) (c : Code), o_Cx p s m args meth c G bytes y.cls maxL → meth.sig.returnType = ret → o_V p l e { frames := fr, cells := 0, slots := 0, locals := lc } s m args below meth c (MQ below (va_Qi post (fun σ' t => o_W G σ' t.heap) (o_A G)) args s 0 0 (o_A G)) G 0 0 maxL σ 0 (lv_args 0 as) []) : o_Ci l G y bytes maxL ret fr lc as σ post := by
  refine Met.ofW (cc := bytes) (maxL := maxL) (ret := ret) hy rfl ?_
  intro p e s m args below meth c s₁ B hml hv
  obtain ⟨rfl, hE, hP⟩ := hv
  have hts := atoms_spec (ws := Cond.code y bytes maxL ret :: WS) B.pre
  rw [lg_entry_eq]
  exact body p e s m _ below meth c ⟨B.exec, B.bytes, hml, findClass_of_methodNamed B.named, fun w hw => hts w (List.mem_cons_of_mem _ hw), hE, B.notSynchronized⟩ B.returns s.heap [] _ hP va_S.rf (lv_entry as hn)
theorem o_Cv.of {post : Sg → Prop} (hy : plainName y.cls = true) (hn : (lg_sl as).length ≤ maxL)
    (body : ∀ (p : Program) (e : Env) (s : State) (m : MethodId) (args : Array Value) (below : List Frame) (meth : Method) (c : Code), o_Cx p s m args meth c G bytes y.cls maxL → meth.sig.returnType = none → o_V p l e { frames := fr, cells := 0, slots := 0, locals := lc } s m args below meth c (MQ below (va_Qv post (fun σ' t => o_W G σ' t.heap) (o_A G)) args s 0 0 (o_A G)) G 0 0 maxL σ 0 (lv_args 0 as) []) : o_Cv l G y bytes maxL fr lc as σ post := by
  refine Met.ofW (cc := bytes) (maxL := maxL) (ret := none) hy rfl ?_
  intro p e s m args below meth c s₁ B hml hv
  obtain ⟨rfl, hE, hP⟩ := hv
  have hts := atoms_spec (ws := Cond.code y bytes maxL none :: WS) B.pre
  rw [lg_entry_eq]
  exact body p e s m _ below meth c ⟨B.exec, B.bytes, hml, findClass_of_methodNamed B.named, fun w hw => hts w (List.mem_cons_of_mem _ hw), hE, B.notSynchronized⟩ B.returns s.heap [] _ hP va_S.rf (lv_entry as hn)
theorem o_Cr.of {post : Nat → Prop} (hy : plainName y.cls = true) (hn : (lg_sl as).length ≤ maxL)
    (body : ∀ (p : Program) (e : Env) (s : State) (m : MethodId) (args : Array Value) (below : List Frame) (meth : Method) (c : Code), o_Cx p s m args meth c G bytes y.cls maxL → meth.sig.returnType = ret → o_V p l e { frames := fr, cells := 0, slots := 0, locals := lc } s m args below meth c (MQ below (va_Qr post (fun b a t => a = gAd G b ∧ o_W G σ t.heap) (o_A G)) args s 0 0 (o_A G)) G 0 0 maxL σ 0 (lv_args 0 as) []) : o_Cr l G y bytes maxL ret fr lc as σ post := by
  refine Met.ofW (cc := bytes) (maxL := maxL) (ret := ret) hy rfl ?_
  intro p e s m args below meth c s₁ B hml hv
  obtain ⟨rfl, hE, hP⟩ := hv
  have hts := atoms_spec (ws := Cond.code y bytes maxL ret :: WS) B.pre
  rw [lg_entry_eq]
  exact body p e s m _ below meth c ⟨B.exec, B.bytes, hml, findClass_of_methodNamed B.named, fun w hw => hts w (List.mem_cons_of_mem _ hw), hE, B.notSynchronized⟩ B.returns s.heap [] _ hP va_S.rf (lv_entry as hn)
theorem r_iret (hc : o_Cx p s m args meth c G cc own nL) {post : Int32 → Sg → Prop} {v : Int32} {ty : FieldType} (hr : meth.sig.returnType = some ty) (hn : narrow ty (.int v) = .int v) (hd : decode cc pc = .ok (.ireturn, 1)) (hp : post v σ) : o_V p l e R s m args below meth c (MQ below (va_Qi post (fun σ' t => o_W G σ' t.heap) (o_A G)) args s kc ks (o_A G)) G kc ks nL σ pc lv [.int v] :=
  fun H locs ls hP hS hl => W.zret hc.1 hc.2.1 hr hn (fun t ht hW => ⟨⟨v, σ, rfl, hp, by show o_W G σ t.heap; rw [ht]; exact hP⟩, hS.F ht⟩) hS.2.2 hd hc.2.2.2.2.2.2
theorem r_vret (hc : o_Cx p s m args meth c G cc own nL) {post : Sg → Prop} (hr : meth.sig.returnType = none) (hd : decode cc pc = .ok (.return_, 1)) (hp : post σ) : o_V p l e R s m args below meth c (MQ below (va_Qv post (fun σ' t => o_W G σ' t.heap) (o_A G)) args s kc ks (o_A G)) G kc ks nL σ pc lv [] :=
  fun H locs ls hP hS hl => W.vret hc.1 hc.2.1 hr (fun t ht hW => ⟨⟨σ, rfl, hp, by show o_W G σ t.heap; rw [ht]; exact hP⟩, hS.F ht⟩) hS.2.2 hd hc.2.2.2.2.2.2
theorem r_aret (hc : o_Cx p s m args meth c G cc own nL) {post : Nat → Prop} {b : Nat} {C : String} {σ0 : Sg} (hr : meth.sig.returnType = some (.object C)) (hd : decode cc pc = .ok (.areturn, 1)) (hs : σ0 = σ) (hp : post b) : o_V p l e R s m args below meth c (MQ below (va_Qr post (fun b a t => a = gAd G b ∧ o_W G σ0 t.heap) (o_A G)) args s kc ks (o_A G)) G kc ks nL σ pc lv [.ref (gAd G b)] := by
  subst hs
  exact fun H locs ls hP hS hl => W.aret hc.1 hc.2.1 hr (Or.inl ⟨_, rfl⟩) (Or.inr ⟨_, rfl⟩) (fun t ht hW => ⟨⟨b, gAd G b, rfl, hp, rfl, by show o_W G σ0 t.heap; rw [ht]; exact hP⟩, hS.F ht⟩) hS.2.2 hd hc.2.2.2.2.2.2
theorem o_V.sub (h : o_V p l e R s m args below meth c Q G kc ks nL σ pc lv' st) (is : List Nat) (hs : lv_pick lv is = lv') : o_V p l e R s m args below meth c Q G kc ks nL σ pc lv st :=
  fun H locs ls hP hS hl => h H locs ls hP hS (lv_sub hl is hs)
end ROWS
end
section

/-- a choice whose condition nobody computes -/
noncomputable def o_ite {α : Type} (c : Prop) (a b : α) : α := @ite α c (Classical.propDecidable c) a b
theorem o_itp {α : Type} {c : Prop} {a b : α} (h : c) : o_ite c a b = a := @if_pos c (Classical.propDecidable c) h α a b
theorem o_itn {α : Type} {c : Prop} {a b : α} (h : ¬ c) : o_ite c a b = b := @if_neg c (Classical.propDecidable c) h α a b
theorem o_itd {α : Type} {c : Prop} [Decidable c] {a b : α} : o_ite c a b = if c then a else b := by
  by_cases h : c
  · rw [o_itp h, if_pos h]
  · rw [o_itn h, if_neg h]
theorem o_qp {α : Type} {P : α → Prop} {c : Prop} {A B : α} (h : ∀ a : α, a = o_ite c A B → P a) (hc : c) : ∀ a : α, a = A → P a := fun a e => h a (e.trans (o_itp hc).symm)
theorem o_qn {α : Type} {P : α → Prop} {c : Prop} {A B : α} (h : ∀ a : α, a = o_ite c A B → P a) (hc : ¬ c) : ∀ a : α, a = B → P a := fun a e => h a (e.trans (o_itn hc).symm)
theorem o_cs (c : Prop) [Decidable c] {X : Prop} (kt : c → X) (kf : ¬ c → X) : X := if h : c then kt h else kf h
/-- fuel for every loop -/
def oF : Nat := 5000
section ROWS2
variable {p : Program} {l : Launch} {e : Env} {R : Room} {s : State} {m : MethodId} {args : Array Value} {below : List Frame} {meth : Method} {c : Code} {Q : State → Prop} {G : Gt} {kc ks nL : Nat} {σ : Sg} {pc : Nat} {lv : List (Nat × Value)} {st : List Value} {cc : ByteArray} {own : String}
theorem r_geti (hc : o_Cx p s m args meth c G cc own nL) {i ci N idx : Nat} {ref C : String}  {T : u_T} {ty : Nat → FieldType} (k : Nat) (hK : o_KK ci C T N ty) (hi : i < 41) (hkd : o_kd i = ci) (hk : k < N) (hw : Cond.fieldLink own idx ref (T k).2.1 (T k).2.2.1 ∈ WS) (hr : (T k).1 = ref) (hv : o_rt i k = none) (hd : decode cc pc = .ok (.getfield idx, 3)) (kk : o_V p l e R s m args below meth c Q G kc ks nL σ (pc + 3) lv (.int (σ i k) :: st)) : o_V p l e R s m args below meth c Q G kc ks nL σ pc lv (.ref (gAd G i) :: st) :=
  r_get hc k hK hi hkd hk hw hr (by unfold o_fv; rw [hv]) hd kk
theorem r_getr (hc : o_Cx p s m args meth c G cc own nL) {i ci N idx j : Nat} {ref C : String}  {T : u_T} {ty : Nat → FieldType} (k : Nat) (hK : o_KK ci C T N ty) (hi : i < 41) (hkd : o_kd i = ci) (hk : k < N) (hw : Cond.fieldLink own idx ref (T k).2.1 (T k).2.2.1 ∈ WS) (hr : (T k).1 = ref) (hv : o_rt i k = some j) (hd : decode cc pc = .ok (.getfield idx, 3)) (kk : o_V p l e R s m args below meth c Q G kc ks nL σ (pc + 3) lv (.ref (gAd G j) :: st)) : o_V p l e R s m args below meth c Q G kc ks nL σ pc lv (.ref (gAd G i) :: st) :=
  r_get hc k hK hi hkd hk hw hr (by unfold o_fv; rw [hv]) hd kk
theorem r_getiN (hc : o_Cx p s m args meth c G cc own nL) {i ci N idx : Nat} {ref C : String} {host : String} {T : u_T} {ty : Nat → FieldType} (k : Nat) (hK : o_KK ci C T N ty) (hi : i < 41) (hkd : o_kd i = ci) (hk : k < N) (hw : Cond.fieldLinkNest own idx ref (T k).2.1 (T k).2.2.1 host ∈ o_N) (hr : (T k).1 = ref) (hv : o_rt i k = none) (hd : decode cc pc = .ok (.getfield idx, 3)) (kk : o_V p l e R s m args below meth c Q G kc ks nL σ (pc + 3) lv (.int (σ i k) :: st)) : o_V p l e R s m args below meth c Q G kc ks nL σ pc lv (.ref (gAd G i) :: st) :=
  r_getN hc k hK hi hkd hk hw hr (by unfold o_fv; rw [hv]) hd kk
theorem r_getrN (hc : o_Cx p s m args meth c G cc own nL) {i ci N idx j : Nat} {ref C : String} {host : String} {T : u_T} {ty : Nat → FieldType} (k : Nat) (hK : o_KK ci C T N ty) (hi : i < 41) (hkd : o_kd i = ci) (hk : k < N) (hw : Cond.fieldLinkNest own idx ref (T k).2.1 (T k).2.2.1 host ∈ o_N) (hr : (T k).1 = ref) (hv : o_rt i k = some j) (hd : decode cc pc = .ok (.getfield idx, 3)) (kk : o_V p l e R s m args below meth c Q G kc ks nL σ (pc + 3) lv (.ref (gAd G j) :: st)) : o_V p l e R s m args below meth c Q G kc ks nL σ pc lv (.ref (gAd G i) :: st) :=
  r_getN hc k hK hi hkd hk hw hr (by unfold o_fv; rw [hv]) hd kk
theorem r_tabIn (hc : o_Cx p s m args meth c G cc own nL) {dflt lo hi : Int} {offs : Array Int} {len : Nat} {x k : Int32} {off : Int} {tgt : Nat} (hd : decode cc pc = .ok (.tableswitch dflt lo hi offs, len)) (hx : x = k) (h1 : ¬ k.toInt < lo) (h2 : ¬ hi < k.toInt) (ho : offs[(k.toInt - lo).toNat]? = some off) (ht : (pc : Int) + off = (tgt : Int))
    (kk : o_V p l e R s m args below meth c Q G kc ks nL σ tgt lv st) : o_V p l e R s m args below meth c Q G kc ks nL σ pc lv (.int x :: st) := by
  subst hx
  exact fun H locs ls hP hS hl => lv_tableIn hc.1 hc.2.1 hd h1 h2 ho ht (kk H locs ls hP hS hl)
theorem r_tabOut (hc : o_Cx p s m args meth c G cc own nL) {dflt lo hi : Int} {offs : Array Int} {len : Nat} {x : Int32} {tgt : Nat} (hd : decode cc pc = .ok (.tableswitch dflt lo hi offs, len)) (h : x.toInt < lo ∨ hi < x.toInt) (ht : (pc : Int) + dflt = (tgt : Int))
    (kk : o_V p l e R s m args below meth c Q G kc ks nL σ tgt lv st) : o_V p l e R s m args below meth c Q G kc ks nL σ pc lv (.int x :: st) :=
  fun H locs ls hP hS hl => lv_tableOut hc.1 hc.2.1 hd h ht (kk H locs ls hP hS hl)
theorem r_lookOut (hc : o_Cx p s m args meth c G cc own nL) {dflt : Int} {ps : Array (Int × Int)} {len : Nat} {x : Int32} {off : Int} {tgt : Nat} (hd : decode cc pc = .ok (.lookupswitch dflt ps, len)) (hp : (ps.toList.zip (ps.toList.drop 1)).all (fun (a, next) => a.1 < next.1) = true) (ho : Op.lookupswitch.offset ps.toList dflt x.toInt = off) (ht : (pc : Int) + off = (tgt : Int))
    (kk : o_V p l e R s m args below meth c Q G kc ks nL σ tgt lv st) : o_V p l e R s m args below meth c Q G kc ks nL σ pc lv (.int x :: st) :=
  fun H locs ls hP hS hl => lv_lookup hc.1 hc.2.1 hd hp ho ht (kk H locs ls hP hS hl)
theorem r_lookIn (hc : o_Cx p s m args meth c G cc own nL) {dflt : Int} {ps : Array (Int × Int)} {len : Nat} {x k : Int32} {off : Int} {tgt : Nat} (hd : decode cc pc = .ok (.lookupswitch dflt ps, len)) (hx : x = k) (hp : (ps.toList.zip (ps.toList.drop 1)).all (fun (a, next) => a.1 < next.1) = true) (ho : Op.lookupswitch.offset ps.toList dflt k.toInt = off) (ht : (pc : Int) + off = (tgt : Int))
    (kk : o_V p l e R s m args below meth c Q G kc ks nL σ tgt lv st) : o_V p l e R s m args below meth c Q G kc ks nL σ pc lv (.int x :: st) := by
  subst hx
  exact r_lookOut hc hd hp ho ht kk
end ROWS2
end
section
set_option linter.all false
noncomputable def f_X5_at (a0 : Nat) (p1 : Int32) (σ : Sg) : Int32 :=
  o_ite (p1 < 0) (
    0) (
    o_ite ((Int32.ofNat (o_len a0)) ≤ p1) (
      0) (
      (o_av σ a0 p1.toNatClampNeg)))
def ok_X5_at (a0 : Nat) (p1 : Int32) (σ : Sg) : Prop :=
  ((p1 < 0) →
    True) ∧ (¬ (p1 < 0) →
    (((Int32.ofNat (o_len a0)) ≤ p1) →
      True) ∧ (¬ ((Int32.ofNat (o_len a0)) ≤ p1) →
      (vp_in p1 (o_len a0)) ∧ (True)))
set_option maxHeartbeats 4000000 in
set_option maxRecDepth 100000 in
theorem c_X5_at (l : Launch) (G : Gt) {a0 : Nat} {p1 : Int32} (ha0 : o_isA a0) {σ : Sg} (hok : ok_X5_at a0 p1 σ) : o_Ci l G yX5_at cX5_at 2 (some .int) 0 0 [.ref (gAd G a0), .int p1] σ (fun r σ' => r = f_X5_at a0 p1 σ ∧ σ' = σ) := by
  refine o_Ci.of (by decide +kernel) (Nat.le_of_ble_eq_true rfl) ?_
  intro p e s m args below meth c hc hr
  have hq : ∀ q : Int32, q = f_X5_at a0 p1 σ → (fun r σ' => r = f_X5_at a0 p1 σ ∧ σ' = σ) q σ := fun q h => ⟨h, rfl⟩
  refine r_iload_n (pc := 0) hc 1 dX5_at_0 rfl rfl ?_
  refine r_if_lt (pc := 1) (tgt := 16) hc dX5_at_1 (by decide) (fun c1 => ?_) (fun c1 => ?_)
  · have hok := hok.1 c1
    have hq := o_qp hq c1
    refine r_iconst (pc := 16) (v := 0) hc dX5_at_16 rfl ?_
    exact r_iret hc hr rfl dX5_at_17 (hq _ rfl)
  · have hok := hok.2 c1
    have hq := o_qn hq c1
    refine r_iload_n (pc := 4) hc 1 dX5_at_4 rfl rfl ?_
    refine r_aload_n (pc := 5) hc 0 dX5_at_5 rfl rfl ?_
    refine r_alenG (pc := 6) hc ha0 rfl dX5_at_6 ?_
    refine r_icmp_ge (pc := 7) (tgt := 16) hc dX5_at_7 (by decide) (fun c7 => ?_) (fun c7 => ?_)
    · have hok := hok.1 c7
      have hq := o_qp hq c7
      refine r_iconst (pc := 16) (v := 0) hc dX5_at_16 rfl ?_
      exact r_iret hc hr rfl dX5_at_17 (hq _ rfl)
    · have hok := hok.2 c7
      have hq := o_qn hq c7
      refine r_aload_n (pc := 10) hc 0 dX5_at_10 rfl rfl ?_
      refine r_iload_n (pc := 11) hc 1 dX5_at_11 rfl rfl ?_
      obtain ⟨hs1, hok⟩ := hok
      refine r_ialdG (pc := 12) (k := _) hc ha0 hs1 rfl dX5_at_12 ?_
      refine r_goto (pc := 13) (tgt := 17) hc dX5_at_13 (by decide) ?_
      exact r_iret hc hr rfl dX5_at_17 (hq _ rfl)
noncomputable def f_X5_isOutside (p0 : Int32) (p1 : Int32) (p2 : Int32) (σ : Sg) : Int32 :=
  o_ite (p0 < p1) (
    1) (
    o_ite (p0 ≤ p2) (
      0) (
      1))
def ok_X5_isOutside (p0 : Int32) (p1 : Int32) (p2 : Int32) (σ : Sg) : Prop :=
  ((p0 < p1) →
    True) ∧ (¬ (p0 < p1) →
    ((p0 ≤ p2) →
      True) ∧ (¬ (p0 ≤ p2) →
      True))
set_option maxHeartbeats 4000000 in
set_option maxRecDepth 100000 in
theorem c_X5_isOutside (l : Launch) (G : Gt) {p0 : Int32} {p1 : Int32} {p2 : Int32}  {σ : Sg} (hok : ok_X5_isOutside p0 p1 p2 σ) : o_Ci l G yX5_isOutside cX5_isOutside 3 (some .boolean) 0 0 [.int p0, .int p1, .int p2] σ (fun r σ' => r = f_X5_isOutside p0 p1 p2 σ ∧ σ' = σ) := by
  refine o_Ci.of (by decide +kernel) (Nat.le_of_ble_eq_true rfl) ?_
  intro p e s m args below meth c hc hr
  have hq : ∀ q : Int32, q = f_X5_isOutside p0 p1 p2 σ → (fun r σ' => r = f_X5_isOutside p0 p1 p2 σ ∧ σ' = σ) q σ := fun q h => ⟨h, rfl⟩
  refine r_iload_n (pc := 0) hc 0 dX5_isOutside_0 rfl rfl ?_
  refine r_iload_n (pc := 1) hc 1 dX5_isOutside_1 rfl rfl ?_
  refine r_icmp_lt (pc := 2) (tgt := 10) hc dX5_isOutside_2 (by decide) (fun c2 => ?_) (fun c2 => ?_)
  · have hok := hok.1 c2
    have hq := o_qp hq c2
    refine r_iconst (pc := 10) (v := 1) hc dX5_isOutside_10 rfl ?_
    refine r_goto (pc := 11) (tgt := 15) hc dX5_isOutside_11 (by decide) ?_
    exact r_iret hc hr rfl dX5_isOutside_15 (hq _ rfl)
  · have hok := hok.2 c2
    have hq := o_qn hq c2
    refine r_iload_n (pc := 5) hc 0 dX5_isOutside_5 rfl rfl ?_
    refine r_iload_n (pc := 6) hc 2 dX5_isOutside_6 rfl rfl ?_
    refine r_icmp_le (pc := 7) (tgt := 14) hc dX5_isOutside_7 (by decide) (fun c7 => ?_) (fun c7 => ?_)
    · have hok := hok.1 c7
      have hq := o_qp hq c7
      refine r_iconst (pc := 14) (v := 0) hc dX5_isOutside_14 rfl ?_
      exact r_iret hc hr rfl dX5_isOutside_15 (hq _ rfl)
    · have hok := hok.2 c7
      have hq := o_qn hq c7
      refine r_iconst (pc := 10) (v := 1) hc dX5_isOutside_10 rfl ?_
      refine r_goto (pc := 11) (tgt := 15) hc dX5_isOutside_11 (by decide) ?_
      exact r_iret hc hr rfl dX5_isOutside_15 (hq _ rfl)
noncomputable def f_X5_put (a0 : Nat) (p1 : Int32) (p2 : Int32) (σ : Sg) : Sg :=
  o_ite (p1 < 0) (
    σ) (
    o_ite ((Int32.ofNat (o_len a0)) ≤ p1) (
      σ) (
      let σ2 := pu σ a0 p1.toNatClampNeg p2
      σ2))
def ok_X5_put (a0 : Nat) (p1 : Int32) (p2 : Int32) (σ : Sg) : Prop :=
  ((p1 < 0) →
    True) ∧ (¬ (p1 < 0) →
    (((Int32.ofNat (o_len a0)) ≤ p1) →
      True) ∧ (¬ ((Int32.ofNat (o_len a0)) ≤ p1) →
      (vp_in p1 (o_len a0)) ∧ (let σ2 := pu σ a0 p1.toNatClampNeg p2
      True)))
set_option maxHeartbeats 4000000 in
set_option maxRecDepth 100000 in
theorem c_X5_put (l : Launch) (G : Gt) {a0 : Nat} {p1 : Int32} {p2 : Int32} (ha0 : a0 < 41 ∧ o_kd a0 = 7) {σ : Sg} (hok : ok_X5_put a0 p1 p2 σ) : o_Cv l G yX5_put cX5_put 3 0 0 [.ref (gAd G a0), .int p1, .int p2] σ (fun σ' => σ' = f_X5_put a0 p1 p2 σ) := by
  refine o_Cv.of (by decide +kernel) (Nat.le_of_ble_eq_true rfl) ?_
  intro p e s m args below meth c hc hr
  have hq : ∀ q : Sg, q = f_X5_put a0 p1 p2 σ → (fun σ' => σ' = f_X5_put a0 p1 p2 σ) q := fun q h => h
  refine r_iload_n (pc := 0) hc 1 dX5_put_0 rfl rfl ?_
  refine r_if_lt (pc := 1) (tgt := 14) hc dX5_put_1 (by decide) (fun c1 => ?_) (fun c1 => ?_)
  · have hok := hok.1 c1
    have hq := o_qp hq c1
    exact r_vret hc hr dX5_put_14 (hq _ rfl)
  · have hok := hok.2 c1
    have hq := o_qn hq c1
    refine r_iload_n (pc := 4) hc 1 dX5_put_4 rfl rfl ?_
    refine r_aload_n (pc := 5) hc 0 dX5_put_5 rfl rfl ?_
    refine r_alen (pc := 6) hc ha0.1 ha0.2 rfl dX5_put_6 ?_
    refine r_icmp_ge (pc := 7) (tgt := 14) hc dX5_put_7 (by decide) (fun c7 => ?_) (fun c7 => ?_)
    · have hok := hok.1 c7
      have hq := o_qp hq c7
      exact r_vret hc hr dX5_put_14 (hq _ rfl)
    · have hok := hok.2 c7
      have hq := o_qn hq c7
      refine r_aload_n (pc := 10) hc 0 dX5_put_10 rfl rfl ?_
      refine r_iload_n (pc := 11) hc 1 dX5_put_11 rfl rfl ?_
      refine r_iload_n (pc := 12) hc 2 dX5_put_12 rfl rfl ?_
      obtain ⟨hs1, hok⟩ := hok
      refine r_iast (pc := 13) (k := _) hc ha0.1 ha0.2 hs1 rfl dX5_put_13 ?_
      exact r_vret hc hr dX5_put_14 (hq _ rfl)
noncomputable def f_X5_cell (p0 : Int32) (p1 : Int32) (σ : Sg) : Int32 :=
  ((p0 * 8) + p1)
def ok_X5_cell (p0 : Int32) (p1 : Int32) (σ : Sg) : Prop :=
  True
set_option maxHeartbeats 4000000 in
set_option maxRecDepth 100000 in
theorem c_X5_cell (l : Launch) (G : Gt) {p0 : Int32} {p1 : Int32}  {σ : Sg} (hok : ok_X5_cell p0 p1 σ) : o_Ci l G yX5_cell cX5_cell 2 (some .int) 0 0 [.int p0, .int p1] σ (fun r σ' => r = f_X5_cell p0 p1 σ ∧ σ' = σ) := by
  refine o_Ci.of (by decide +kernel) (Nat.le_of_ble_eq_true rfl) ?_
  intro p e s m args below meth c hc hr
  have hq : ∀ q : Int32, q = f_X5_cell p0 p1 σ → (fun r σ' => r = f_X5_cell p0 p1 σ ∧ σ' = σ) q σ := fun q h => ⟨h, rfl⟩
  refine r_iload_n (pc := 0) hc 0 dX5_cell_0 rfl rfl ?_
  refine r_bipush (pc := 1) (v := 8) hc dX5_cell_1 (by decide) ?_
  refine r_imul (pc := 3) hc dX5_cell_3 ?_
  refine r_iload_n (pc := 4) hc 1 dX5_cell_4 rfl rfl ?_
  refine r_iadd (pc := 5) hc dX5_cell_5 ?_
  exact r_iret hc hr rfl dX5_cell_6 (hq _ rfl)
noncomputable def f_X5_isTrack (p0 : Int32) (σ : Sg) : Int32 :=
  o_ite ((f_X5_isOutside p0 0 2 σ) = 0) (
    1) (
    0)
def ok_X5_isTrack (p0 : Int32) (σ : Sg) : Prop :=
  (ok_X5_isOutside p0 0 2 σ) ∧ ((((f_X5_isOutside p0 0 2 σ) = 0) →
    True) ∧ (¬ ((f_X5_isOutside p0 0 2 σ) = 0) →
    True))
set_option maxHeartbeats 4000000 in
set_option maxRecDepth 100000 in
theorem c_X5_isTrack (l : Launch) (G : Gt) {p0 : Int32}  {σ : Sg} (hok : ok_X5_isTrack p0 σ) : o_Ci l G yX5_isTrack cX5_isTrack 1 (some .boolean) 1 22 [.int p0] σ (fun r σ' => r = f_X5_isTrack p0 σ ∧ σ' = σ) := by
  refine o_Ci.of (by decide +kernel) (Nat.le_of_ble_eq_true rfl) ?_
  intro p e s m args below meth c hc hr
  have hq : ∀ q : Int32, q = f_X5_isTrack p0 σ → (fun r σ' => r = f_X5_isTrack p0 σ ∧ σ' = σ) q σ := fun q h => ⟨h, rfl⟩
  refine r_iload_n (pc := 0) hc 0 dX5_isTrack_0 rfl rfl ?_
  refine r_iconst (pc := 1) (v := 0) hc dX5_isTrack_1 rfl ?_
  refine r_iconst (pc := 2) (v := 2) hc dX5_isTrack_2 rfl ?_
  obtain ⟨hs1, hok⟩ := hok
  refine r_callS_i (pc := 3) (as := [.int _, .int _, .int _]) hc (c_X5_isOutside l G hs1) mS_X5_isOutside kM_X5_44 ⟨Nat.le_of_ble_eq_true rfl, Nat.le_of_ble_eq_true rfl⟩ ⟨Nat.le_refl 0, Nat.le_refl 0⟩ rfl rfl (Nat.le_of_ble_eq_true rfl) dX5_isTrack_3 (fun r σ' h => ?_)
  obtain ⟨rfl, rfl⟩ := h
  refine r_if_ne (pc := 6) (tgt := 13) hc dX5_isTrack_6 (by decide) (fun c6 => ?_) (fun c6 => ?_)
  · have hok := hok.2 c6
    have hq := o_qn hq c6
    refine r_iconst (pc := 13) (v := 0) hc dX5_isTrack_13 rfl ?_
    exact r_iret hc hr rfl dX5_isTrack_14 (hq _ rfl)
  · have hok := hok.1 c6
    have hq := o_qp hq c6
    refine r_iconst (pc := 9) (v := 1) hc dX5_isTrack_9 rfl ?_
    refine r_goto (pc := 10) (tgt := 14) hc dX5_isTrack_10 (by decide) ?_
    exact r_iret hc hr rfl dX5_isTrack_14 (hq _ rfl)
noncomputable def f_X5_isCell (p0 : Int32) (p1 : Int32) (σ : Sg) : Int32 :=
  o_ite ((f_X5_isTrack p0 σ) = 0) (
    0) (
    o_ite ((f_X5_isOutside p1 0 7 σ) = 0) (
      1) (
      0))
def ok_X5_isCell (p0 : Int32) (p1 : Int32) (σ : Sg) : Prop :=
  (ok_X5_isTrack p0 σ) ∧ ((((f_X5_isTrack p0 σ) = 0) →
    True) ∧ (¬ ((f_X5_isTrack p0 σ) = 0) →
    (ok_X5_isOutside p1 0 7 σ) ∧ ((((f_X5_isOutside p1 0 7 σ) = 0) →
      True) ∧ (¬ ((f_X5_isOutside p1 0 7 σ) = 0) →
      True))))
set_option maxHeartbeats 4000000 in
set_option maxRecDepth 100000 in
theorem c_X5_isCell (l : Launch) (G : Gt) {p0 : Int32} {p1 : Int32}  {σ : Sg} (hok : ok_X5_isCell p0 p1 σ) : o_Ci l G yX5_isCell cX5_isCell 2 (some .boolean) 2 42 [.int p0, .int p1] σ (fun r σ' => r = f_X5_isCell p0 p1 σ ∧ σ' = σ) := by
  refine o_Ci.of (by decide +kernel) (Nat.le_of_ble_eq_true rfl) ?_
  intro p e s m args below meth c hc hr
  have hq : ∀ q : Int32, q = f_X5_isCell p0 p1 σ → (fun r σ' => r = f_X5_isCell p0 p1 σ ∧ σ' = σ) q σ := fun q h => ⟨h, rfl⟩
  refine r_iload_n (pc := 0) hc 0 dX5_isCell_0 rfl rfl ?_
  obtain ⟨hs1, hok⟩ := hok
  refine r_callS_i (pc := 1) (as := [.int _]) hc (c_X5_isTrack l G hs1) mS_X5_isTrack kM_X5_132 ⟨Nat.le_of_ble_eq_true rfl, Nat.le_of_ble_eq_true rfl⟩ ⟨Nat.le_refl 0, Nat.le_refl 0⟩ rfl rfl (Nat.le_of_ble_eq_true rfl) dX5_isCell_1 (fun r σ' h => ?_)
  obtain ⟨rfl, rfl⟩ := h
  refine r_if_eq (pc := 4) (tgt := 21) hc dX5_isCell_4 (by decide) (fun c4 => ?_) (fun c4 => ?_)
  · have hok := hok.1 c4
    have hq := o_qp hq c4
    refine r_iconst (pc := 21) (v := 0) hc dX5_isCell_21 rfl ?_
    exact r_iret hc hr rfl dX5_isCell_22 (hq _ rfl)
  · have hok := hok.2 c4
    have hq := o_qn hq c4
    refine r_iload_n (pc := 7) hc 1 dX5_isCell_7 rfl rfl ?_
    refine r_iconst (pc := 8) (v := 0) hc dX5_isCell_8 rfl ?_
    refine r_bipush (pc := 9) (v := 7) hc dX5_isCell_9 (by decide) ?_
    obtain ⟨hs2, hok⟩ := hok
    refine r_callS_i (pc := 11) (as := [.int _, .int _, .int _]) hc (c_X5_isOutside l G hs2) mS_X5_isOutside kM_X5_44 ⟨Nat.le_of_ble_eq_true rfl, Nat.le_of_ble_eq_true rfl⟩ ⟨Nat.le_refl 0, Nat.le_refl 0⟩ rfl rfl (Nat.le_of_ble_eq_true rfl) dX5_isCell_11 (fun r σ' h => ?_)
    obtain ⟨rfl, rfl⟩ := h
    refine r_if_ne (pc := 14) (tgt := 21) hc dX5_isCell_14 (by decide) (fun c14 => ?_) (fun c14 => ?_)
    · have hok := hok.2 c14
      have hq := o_qn hq c14
      refine r_iconst (pc := 21) (v := 0) hc dX5_isCell_21 rfl ?_
      exact r_iret hc hr rfl dX5_isCell_22 (hq _ rfl)
    · have hok := hok.1 c14
      have hq := o_qp hq c14
      refine r_iconst (pc := 17) (v := 1) hc dX5_isCell_17 rfl ?_
      refine r_goto (pc := 18) (tgt := 22) hc dX5_isCell_18 (by decide) ?_
      exact r_iret hc hr rfl dX5_isCell_22 (hq _ rfl)
noncomputable def f_X5_remainder (p0 : Int32) (p1 : Int32) (σ : Sg) : Int32 :=
  o_ite (0 < p1) (
    o_ite (0 ≤ (p0 - p0 / p1 * p1)) (
      (p0 - p0 / p1 * p1)) (
      ((p0 - p0 / p1 * p1) + p1))) (
    0)
def ok_X5_remainder (p0 : Int32) (p1 : Int32) (σ : Sg) : Prop :=
  ((0 < p1) →
    (¬ p1 = 0) ∧ (((0 ≤ (p0 - p0 / p1 * p1)) →
      True) ∧ (¬ (0 ≤ (p0 - p0 / p1 * p1)) →
      True))) ∧ (¬ (0 < p1) →
    True)
set_option maxHeartbeats 4000000 in
set_option maxRecDepth 100000 in
theorem c_X5_remainder (l : Launch) (G : Gt) {p0 : Int32} {p1 : Int32}  {σ : Sg} (hok : ok_X5_remainder p0 p1 σ) : o_Ci l G yX5_remainder cX5_remainder 3 (some .int) 0 0 [.int p0, .int p1] σ (fun r σ' => r = f_X5_remainder p0 p1 σ ∧ σ' = σ) := by
  refine o_Ci.of (by decide +kernel) (Nat.le_of_ble_eq_true rfl) ?_
  intro p e s m args below meth c hc hr
  have hq : ∀ q : Int32, q = f_X5_remainder p0 p1 σ → (fun r σ' => r = f_X5_remainder p0 p1 σ ∧ σ' = σ) q σ := fun q h => ⟨h, rfl⟩
  refine r_iload_n (pc := 0) hc 1 dX5_remainder_0 rfl rfl ?_
  refine r_if_gt (pc := 1) (tgt := 6) hc dX5_remainder_1 (by decide) (fun c1 => ?_) (fun c1 => ?_)
  · have hok := hok.1 c1
    have hq := o_qp hq c1
    refine r_iload_n (pc := 6) hc 0 dX5_remainder_6 rfl rfl ?_
    refine r_iload_n (pc := 7) hc 1 dX5_remainder_7 rfl rfl ?_
    obtain ⟨hs1, hok⟩ := hok
    refine r_irem (pc := 8) hc dX5_remainder_8 hs1 ?_
    refine r_istore_n (pc := 9) (lv' := [(2, _), (0, _), (1, _)]) hc dX5_remainder_9 rfl (by decide) rfl ?_
    refine r_iload_n (pc := 10) hc 0 dX5_remainder_10 rfl rfl ?_
    refine r_if_ge (pc := 11) (tgt := 20) hc dX5_remainder_11 (by decide) (fun c11 => ?_) (fun c11 => ?_)
    · have hok := hok.1 c11
      have hq := o_qp hq c11
      refine r_iload_n (pc := 20) hc 0 dX5_remainder_20 rfl rfl ?_
      exact r_iret hc hr rfl dX5_remainder_21 (hq _ rfl)
    · have hok := hok.2 c11
      have hq := o_qn hq c11
      refine r_iload_n (pc := 14) hc 0 dX5_remainder_14 rfl rfl ?_
      refine r_iload_n (pc := 15) hc 2 dX5_remainder_15 rfl rfl ?_
      refine r_iadd (pc := 16) hc dX5_remainder_16 ?_
      refine r_goto (pc := 17) (tgt := 21) hc dX5_remainder_17 (by decide) ?_
      exact r_iret hc hr rfl dX5_remainder_21 (hq _ rfl)
  · have hok := hok.2 c1
    have hq := o_qn hq c1
    refine r_iconst (pc := 4) (v := 0) hc dX5_remainder_4 rfl ?_
    exact r_iret hc hr rfl dX5_remainder_5 (hq _ rfl)
noncomputable def f_X5_sectorOf (p0 : Int32) (σ : Sg) : Int32 :=
  (p0 / 510)
def ok_X5_sectorOf (p0 : Int32) (σ : Sg) : Prop :=
  True
set_option maxHeartbeats 4000000 in
set_option maxRecDepth 100000 in
theorem c_X5_sectorOf (l : Launch) (G : Gt) {p0 : Int32}  {σ : Sg} (hok : ok_X5_sectorOf p0 σ) : o_Ci l G yX5_sectorOf cX5_sectorOf 1 (some .int) 0 0 [.int p0] σ (fun r σ' => r = f_X5_sectorOf p0 σ ∧ σ' = σ) := by
  refine o_Ci.of (by decide +kernel) (Nat.le_of_ble_eq_true rfl) ?_
  intro p e s m args below meth c hc hr
  have hq : ∀ q : Int32, q = f_X5_sectorOf p0 σ → (fun r σ' => r = f_X5_sectorOf p0 σ ∧ σ' = σ) q σ := fun q h => ⟨h, rfl⟩
  refine r_iload_n (pc := 0) hc 0 dX5_sectorOf_0 rfl rfl ?_
  refine r_sipush (pc := 1) (v := 510) hc dX5_sectorOf_1 (by decide) ?_
  refine r_idiv (pc := 4) hc dX5_sectorOf_4 (by decide) ?_
  exact r_iret hc hr rfl dX5_sectorOf_5 (hq _ rfl)
noncomputable def f_X5_distance (p0 : Int32) (p1 : Int32) (p2 : Int32) (σ : Sg) : Int32 :=
  (if (f_X5_remainder (p1 - p0) p2 σ) < (f_X5_remainder (p0 - p1) p2 σ) then (f_X5_remainder (p1 - p0) p2 σ) else (f_X5_remainder (p0 - p1) p2 σ))
def ok_X5_distance (p0 : Int32) (p1 : Int32) (p2 : Int32) (σ : Sg) : Prop :=
  (ok_X5_remainder (p0 - p1) p2 σ) ∧ ((ok_X5_remainder (p1 - p0) p2 σ) ∧ (True))
set_option maxHeartbeats 4000000 in
set_option maxRecDepth 100000 in
theorem c_X5_distance (l : Launch) (G : Gt) {p0 : Int32} {p1 : Int32} {p2 : Int32}  {σ : Sg} (hok : ok_X5_distance p0 p1 p2 σ) : o_Ci l G yX5_distance cX5_distance 3 (some .int) 1 22 [.int p0, .int p1, .int p2] σ (fun r σ' => r = f_X5_distance p0 p1 p2 σ ∧ σ' = σ) := by
  refine o_Ci.of (by decide +kernel) (Nat.le_of_ble_eq_true rfl) ?_
  intro p e s m args below meth c hc hr
  have hq : ∀ q : Int32, q = f_X5_distance p0 p1 p2 σ → (fun r σ' => r = f_X5_distance p0 p1 p2 σ ∧ σ' = σ) q σ := fun q h => ⟨h, rfl⟩
  refine r_iload_n (pc := 0) hc 0 dX5_distance_0 rfl rfl ?_
  refine r_iload_n (pc := 1) hc 1 dX5_distance_1 rfl rfl ?_
  refine r_isub (pc := 2) hc dX5_distance_2 ?_
  refine r_iload_n (pc := 3) hc 2 dX5_distance_3 rfl rfl ?_
  obtain ⟨hs1, hok⟩ := hok
  refine r_callS_i (pc := 4) (as := [.int _, .int _]) hc (c_X5_remainder l G hs1) mS_X5_remainder kM_X5_168 ⟨Nat.le_of_ble_eq_true rfl, Nat.le_of_ble_eq_true rfl⟩ ⟨Nat.le_refl 0, Nat.le_refl 0⟩ rfl rfl (Nat.le_of_ble_eq_true rfl) dX5_distance_4 (fun r σ' h => ?_)
  obtain ⟨rfl, rfl⟩ := h
  refine r_iload_n (pc := 7) hc 1 dX5_distance_7 rfl rfl ?_
  refine r_iload_n (pc := 8) hc 0 dX5_distance_8 rfl rfl ?_
  refine r_isub (pc := 9) hc dX5_distance_9 ?_
  refine r_iload_n (pc := 10) hc 2 dX5_distance_10 rfl rfl ?_
  obtain ⟨hs2, hok⟩ := hok
  refine r_callS_i (pc := 11) (as := [.int _, .int _]) hc (c_X5_remainder l G hs2) mS_X5_remainder kM_X5_168 ⟨Nat.le_of_ble_eq_true rfl, Nat.le_of_ble_eq_true rfl⟩ ⟨Nat.le_refl 0, Nat.le_refl 0⟩ rfl rfl (Nat.le_of_ble_eq_true rfl) dX5_distance_11 (fun r σ' h => ?_)
  obtain ⟨rfl, rfl⟩ := h
  refine r_min (pc := 14) hc kM_X5_239 (Nat.le_of_ble_eq_true rfl) (Nat.le_of_ble_eq_true rfl) ⟨Nat.le_refl 0, Nat.le_refl 0⟩ dX5_distance_14 ?_
  exact r_iret hc hr rfl dX5_distance_17 (hq _ rfl)
noncomputable def f_X5_deviation (p0 : Int32) (p1 : Int32) (p2 : Int32) (p3 : Int32) (σ : Sg) : Int32 :=
  (if (f_X5_distance p0 p1 (f_X5_at 41 0 σ) σ) < (if (f_X5_distance p0 p2 (f_X5_at 41 1 σ) σ) < (f_X5_distance p0 p3 (f_X5_at 41 2 σ) σ) then (f_X5_distance p0 p3 (f_X5_at 41 2 σ) σ) else (f_X5_distance p0 p2 (f_X5_at 41 1 σ) σ)) then (if (f_X5_distance p0 p2 (f_X5_at 41 1 σ) σ) < (f_X5_distance p0 p3 (f_X5_at 41 2 σ) σ) then (f_X5_distance p0 p3 (f_X5_at 41 2 σ) σ) else (f_X5_distance p0 p2 (f_X5_at 41 1 σ) σ)) else (f_X5_distance p0 p1 (f_X5_at 41 0 σ) σ))
def ok_X5_deviation (p0 : Int32) (p1 : Int32) (p2 : Int32) (p3 : Int32) (σ : Sg) : Prop :=
  (ok_X5_at 41 0 σ) ∧ ((ok_X5_distance p0 p1 (f_X5_at 41 0 σ) σ) ∧ ((ok_X5_at 41 1 σ) ∧ ((ok_X5_distance p0 p2 (f_X5_at 41 1 σ) σ) ∧ ((ok_X5_at 41 2 σ) ∧ ((ok_X5_distance p0 p3 (f_X5_at 41 2 σ) σ) ∧ (True))))))
set_option maxHeartbeats 4000000 in
set_option maxRecDepth 100000 in
theorem c_X5_deviation (l : Launch) (G : Gt) {p0 : Int32} {p1 : Int32} {p2 : Int32} {p3 : Int32}  {σ : Sg} (hok : ok_X5_deviation p0 p1 p2 p3 σ) : o_Ci l G yX5_deviation cX5_deviation 7 (some .int) 2 44 [.int p0, .int p1, .int p2, .int p3] σ (fun r σ' => r = f_X5_deviation p0 p1 p2 p3 σ ∧ σ' = σ) := by
  refine o_Ci.of (by decide +kernel) (Nat.le_of_ble_eq_true rfl) ?_
  intro p e s m args below meth c hc hr
  have hq : ∀ q : Int32, q = f_X5_deviation p0 p1 p2 p3 σ → (fun r σ' => r = f_X5_deviation p0 p1 p2 p3 σ ∧ σ' = σ) q σ := fun q h => ⟨h, rfl⟩
  refine r_iload_n (pc := 0) hc 0 dX5_deviation_0 rfl rfl ?_
  refine r_iload_n (pc := 1) hc 1 dX5_deviation_1 rfl rfl ?_
  refine r_gets (pc := 2) hc 41 (by decide) (by decide) rfl kF_X5_165 dX5_deviation_2 ?_
  refine r_iconst (pc := 5) (v := 0) hc dX5_deviation_5 rfl ?_
  obtain ⟨hs1, hok⟩ := hok
  refine r_callS_i (pc := 6) (as := [.ref (gAd G _), .int _]) hc (c_X5_at l G (Or.inr ⟨by decide, by decide⟩) hs1) mS_X5_at kM_X5_124 ⟨Nat.le_of_ble_eq_true rfl, Nat.le_of_ble_eq_true rfl⟩ ⟨Nat.le_refl 0, Nat.le_refl 0⟩ rfl rfl (Nat.le_of_ble_eq_true rfl) dX5_deviation_6 (fun r σ' h => ?_)
  obtain ⟨rfl, rfl⟩ := h
  obtain ⟨hs2, hok⟩ := hok
  refine r_callS_i (pc := 9) (as := [.int _, .int _, .int _]) hc (c_X5_distance l G hs2) mS_X5_distance kM_X5_214 ⟨Nat.le_of_ble_eq_true rfl, Nat.le_of_ble_eq_true rfl⟩ ⟨Nat.le_refl 0, Nat.le_refl 0⟩ rfl rfl (Nat.le_of_ble_eq_true rfl) dX5_deviation_9 (fun r σ' h => ?_)
  obtain ⟨rfl, rfl⟩ := h
  refine r_istore (pc := 12) (lv' := [(4, _), (0, _), (1, _), (2, _), (3, _)]) hc dX5_deviation_12 (by decide) rfl ?_
  refine r_iload_n (pc := 14) hc 1 dX5_deviation_14 rfl rfl ?_
  refine r_iload_n (pc := 15) hc 3 dX5_deviation_15 rfl rfl ?_
  refine r_gets (pc := 16) hc 41 (by decide) (by decide) rfl kF_X5_165 dX5_deviation_16 ?_
  refine r_iconst (pc := 19) (v := 1) hc dX5_deviation_19 rfl ?_
  obtain ⟨hs3, hok⟩ := hok
  refine r_callS_i (pc := 20) (as := [.ref (gAd G _), .int _]) hc (c_X5_at l G (Or.inr ⟨by decide, by decide⟩) hs3) mS_X5_at kM_X5_124 ⟨Nat.le_of_ble_eq_true rfl, Nat.le_of_ble_eq_true rfl⟩ ⟨Nat.le_refl 0, Nat.le_refl 0⟩ rfl rfl (Nat.le_of_ble_eq_true rfl) dX5_deviation_20 (fun r σ' h => ?_)
  obtain ⟨rfl, rfl⟩ := h
  obtain ⟨hs4, hok⟩ := hok
  refine r_callS_i (pc := 23) (as := [.int _, .int _, .int _]) hc (c_X5_distance l G hs4) mS_X5_distance kM_X5_214 ⟨Nat.le_of_ble_eq_true rfl, Nat.le_of_ble_eq_true rfl⟩ ⟨Nat.le_refl 0, Nat.le_refl 0⟩ rfl rfl (Nat.le_of_ble_eq_true rfl) dX5_deviation_23 (fun r σ' h => ?_)
  obtain ⟨rfl, rfl⟩ := h
  refine r_istore (pc := 26) (lv' := [(5, _), (4, _), (0, _), (1, _), (2, _), (3, _)]) hc dX5_deviation_26 (by decide) rfl ?_
  refine r_iload_n (pc := 28) hc 2 dX5_deviation_28 rfl rfl ?_
  refine r_iload_n (pc := 29) hc 5 dX5_deviation_29 rfl rfl ?_
  refine r_gets (pc := 30) hc 41 (by decide) (by decide) rfl kF_X5_165 dX5_deviation_30 ?_
  refine r_iconst (pc := 33) (v := 2) hc dX5_deviation_33 rfl ?_
  obtain ⟨hs5, hok⟩ := hok
  refine r_callS_i (pc := 34) (as := [.ref (gAd G _), .int _]) hc (c_X5_at l G (Or.inr ⟨by decide, by decide⟩) hs5) mS_X5_at kM_X5_124 ⟨Nat.le_of_ble_eq_true rfl, Nat.le_of_ble_eq_true rfl⟩ ⟨Nat.le_refl 0, Nat.le_refl 0⟩ rfl rfl (Nat.le_of_ble_eq_true rfl) dX5_deviation_34 (fun r σ' h => ?_)
  obtain ⟨rfl, rfl⟩ := h
  obtain ⟨hs6, hok⟩ := hok
  refine r_callS_i (pc := 37) (as := [.int _, .int _, .int _]) hc (c_X5_distance l G hs6) mS_X5_distance kM_X5_214 ⟨Nat.le_of_ble_eq_true rfl, Nat.le_of_ble_eq_true rfl⟩ ⟨Nat.le_refl 0, Nat.le_refl 0⟩ rfl rfl (Nat.le_of_ble_eq_true rfl) dX5_deviation_37 (fun r σ' h => ?_)
  obtain ⟨rfl, rfl⟩ := h
  refine r_istore (pc := 40) (lv' := [(6, _), (5, _), (4, _), (0, _), (1, _), (2, _), (3, _)]) hc dX5_deviation_40 (by decide) rfl ?_
  refine r_iload (pc := 42) hc 2 dX5_deviation_42 rfl ?_
  refine r_iload (pc := 44) hc 1 dX5_deviation_44 rfl ?_
  refine r_iload (pc := 46) hc 0 dX5_deviation_46 rfl ?_
  refine r_max (pc := 48) hc kM_X5_196 (Nat.le_of_ble_eq_true rfl) (Nat.le_of_ble_eq_true rfl) ⟨Nat.le_refl 0, Nat.le_refl 0⟩ dX5_deviation_48 ?_
  refine r_max (pc := 51) hc kM_X5_196 (Nat.le_of_ble_eq_true rfl) (Nat.le_of_ble_eq_true rfl) ⟨Nat.le_refl 0, Nat.le_refl 0⟩ dX5_deviation_51 ?_
  exact r_iret hc hr rfl dX5_deviation_54 (hq _ rfl)
noncomputable def f_X5_nearestAngle_51 (K : Int32 → Int32 → Int32 → Int32 → Int32 → Int32 → Sg → Int32) (x0 : Int32) (x1 : Int32) (x2 : Int32) (x3 : Int32) (x4 : Int32) (x5 : Int32) (x6 : Int32) (σ : Sg) : Int32 :=
  let v1 := (x5 + (if 1 < ((x6 - x4) + 1) then ((x6 - x4) + 1) else 1))
  K x0 x1 x2 x3 x4 v1 σ
def ok_X5_nearestAngle_51 (okK : Int32 → Int32 → Int32 → Int32 → Int32 → Int32 → Sg → Prop) (x0 : Int32) (x1 : Int32) (x2 : Int32) (x3 : Int32) (x4 : Int32) (x5 : Int32) (x6 : Int32) (σ : Sg) : Prop :=
  let v1 := (x5 + (if 1 < ((x6 - x4) + 1) then ((x6 - x4) + 1) else 1))
  okK x0 x1 x2 x3 x4 v1 σ
noncomputable def f_X5_nearestAngle_14  : Nat → Int32 → Int32 → Int32 → Int32 → Int32 → Int32 → Sg → Int32
  | 0 => fun _ _ _ _ _ _ σ => 0
  | n + 1 => fun x0 x1 x2 x3 x4 x5 σ =>
    o_ite (4080 ≤ x5) (
      x3) (
      o_ite (x4 ≤ 0) (
        x3) (
        o_ite (x4 ≤ (f_X5_deviation x5 x0 x1 x2 σ)) (
          f_X5_nearestAngle_51 (f_X5_nearestAngle_14 n) x0 x1 x2 x3 x4 x5 (f_X5_deviation x5 x0 x1 x2 σ) σ) (
          f_X5_nearestAngle_51 (f_X5_nearestAngle_14 n) x0 x1 x2 x5 (f_X5_deviation x5 x0 x1 x2 σ) x5 (f_X5_deviation x5 x0 x1 x2 σ) σ)))
def ok_X5_nearestAngle_14  : Nat → Int32 → Int32 → Int32 → Int32 → Int32 → Int32 → Sg → Prop
  | 0 => fun _ _ _ _ _ _ _ => False
  | n + 1 => fun x0 x1 x2 x3 x4 x5 σ =>
    ((4080 ≤ x5) →
      True) ∧ (¬ (4080 ≤ x5) →
      ((x4 ≤ 0) →
        True) ∧ (¬ (x4 ≤ 0) →
        (ok_X5_deviation x5 x0 x1 x2 σ) ∧ (((x4 ≤ (f_X5_deviation x5 x0 x1 x2 σ)) →
          ok_X5_nearestAngle_51 (ok_X5_nearestAngle_14 n) x0 x1 x2 x3 x4 x5 (f_X5_deviation x5 x0 x1 x2 σ) σ) ∧ (¬ (x4 ≤ (f_X5_deviation x5 x0 x1 x2 σ)) →
          ok_X5_nearestAngle_51 (ok_X5_nearestAngle_14 n) x0 x1 x2 x5 (f_X5_deviation x5 x0 x1 x2 σ) x5 (f_X5_deviation x5 x0 x1 x2 σ) σ))))
noncomputable def f_X5_nearestAngle (p0 : Int32) (p1 : Int32) (p2 : Int32) (σ : Sg) : Int32 :=
  f_X5_nearestAngle_14  oF p0 p1 p2 0 (f_X5_deviation 0 p0 p1 p2 σ) 1 σ
def ok_X5_nearestAngle (p0 : Int32) (p1 : Int32) (p2 : Int32) (σ : Sg) : Prop :=
  (ok_X5_deviation 0 p0 p1 p2 σ) ∧ (ok_X5_nearestAngle_14  oF p0 p1 p2 0 (f_X5_deviation 0 p0 p1 p2 σ) 1 σ)
set_option maxHeartbeats 4000000 in
set_option maxRecDepth 100000 in
theorem t_X5_nearestAngle_51 {p : Program} {l : Launch} {e : Env} {s : State} {m : MethodId} {args : Array Value} {below : List Frame} {meth : Method} {c : Code} {G : Gt} {post : Int32 → Sg → Prop} (hc : o_Cx p s m args meth c G cX5_nearestAngle yX5_nearestAngle.cls 7) (hr : meth.sig.returnType = (some .int)) {K : Int32 → Int32 → Int32 → Int32 → Int32 → Int32 → Sg → Int32} {okK : Int32 → Int32 → Int32 → Int32 → Int32 → Int32 → Sg → Prop} (hK : ∀ (z0 : Int32) (z1 : Int32) (z2 : Int32) (z3 : Int32) (z4 : Int32) (z5 : Int32) (zs : Sg), okK z0 z1 z2 z3 z4 z5 zs → (∀ q : Int32, q = K z0 z1 z2 z3 z4 z5 zs → post q zs) → o_V p l e { frames := 3, cells := 0, slots := 0, locals := 70 } s m args below meth c (MQ below (va_Qi post (fun σ' t => o_W G σ' t.heap) (o_A G)) args s 0 0 (o_A G)) G 0 0 7 zs 14 [(0, .int z0), (1, .int z1), (2, .int z2), (3, .int z3), (4, .int z4), (5, .int z5)] []) {x0 : Int32} {x1 : Int32} {x2 : Int32} {x3 : Int32} {x4 : Int32} {x5 : Int32} {x6 : Int32} {σ : Sg} (hok : ok_X5_nearestAngle_51 okK x0 x1 x2 x3 x4 x5 x6 σ) (hq : ∀ q : Int32, q = f_X5_nearestAngle_51 K x0 x1 x2 x3 x4 x5 x6 σ → post q σ) : o_V p l e { frames := 3, cells := 0, slots := 0, locals := 70 } s m args below meth c (MQ below (va_Qi post (fun σ' t => o_W G σ' t.heap) (o_A G)) args s 0 0 (o_A G)) G 0 0 7 σ 51 [(0, .int x0), (1, .int x1), (2, .int x2), (3, .int x3), (4, .int x4), (5, .int x5), (6, .int x6)] [] := by
  refine r_iload (pc := 51) hc 5 dX5_nearestAngle_51 rfl ?_
  refine r_iconst (pc := 53) (v := 1) hc dX5_nearestAngle_53 rfl ?_
  refine r_iload (pc := 54) hc 6 dX5_nearestAngle_54 rfl ?_
  refine r_iload (pc := 56) hc 4 dX5_nearestAngle_56 rfl ?_
  refine r_isub (pc := 58) hc dX5_nearestAngle_58 ?_
  refine r_iconst (pc := 59) (v := 1) hc dX5_nearestAngle_59 rfl ?_
  refine r_iadd (pc := 60) hc dX5_nearestAngle_60 ?_
  refine r_max (pc := 61) hc kM_X5_196 (Nat.le_of_ble_eq_true rfl) (Nat.le_of_ble_eq_true rfl) ⟨Nat.le_refl 0, Nat.le_refl 0⟩ dX5_nearestAngle_61 ?_
  refine r_iadd (pc := 64) hc dX5_nearestAngle_64 ?_
  refine r_istore (pc := 65) (lv' := [(5, _), (0, _), (1, _), (2, _), (3, _), (4, _), (6, _)]) hc dX5_nearestAngle_65 (by decide) rfl ?_
  refine r_goto (pc := 67) (tgt := 14) hc dX5_nearestAngle_67 (by decide) ?_
  exact o_V.sub (hK _ _ _ _ _ _ _ hok hq) [1, 2, 3, 4, 5, 0] rfl
set_option maxHeartbeats 4000000 in
set_option maxRecDepth 100000 in
theorem t_X5_nearestAngle_14 {p : Program} {l : Launch} {e : Env} {s : State} {m : MethodId} {args : Array Value} {below : List Frame} {meth : Method} {c : Code} {G : Gt} {post : Int32 → Sg → Prop}   (hc : o_Cx p s m args meth c G cX5_nearestAngle yX5_nearestAngle.cls 7) (hr : meth.sig.returnType = (some .int)) : ∀ (n : Nat) (x0 : Int32) (x1 : Int32) (x2 : Int32) (x3 : Int32) (x4 : Int32) (x5 : Int32) (σ : Sg) (hok : ok_X5_nearestAngle_14  n x0 x1 x2 x3 x4 x5 σ) (hq : ∀ q : Int32, q = f_X5_nearestAngle_14  n x0 x1 x2 x3 x4 x5 σ → post q σ), o_V p l e { frames := 3, cells := 0, slots := 0, locals := 70 } s m args below meth c (MQ below (va_Qi post (fun σ' t => o_W G σ' t.heap) (o_A G)) args s 0 0 (o_A G)) G 0 0 7 σ 14 [(0, .int x0), (1, .int x1), (2, .int x2), (3, .int x3), (4, .int x4), (5, .int x5)] [] := by
  intro n
  induction n with
  | zero =>
    intro x0 x1 x2 x3 x4 x5 σ hok hq
    exact hok.elim
  | succ n ih =>
    intro x0 x1 x2 x3 x4 x5 σ hok hq
    refine r_iload (pc := 14) hc 5 dX5_nearestAngle_14 rfl ?_
    refine r_sipush (pc := 16) (v := 4080) hc dX5_nearestAngle_16 (by decide) ?_
    refine r_icmp_ge (pc := 19) (tgt := 70) hc dX5_nearestAngle_19 (by decide) (fun c19 => ?_) (fun c19 => ?_)
    · have hok := hok.1 c19
      have hq := o_qp hq c19
      refine r_iload_n (pc := 70) hc 3 dX5_nearestAngle_70 rfl rfl ?_
      exact r_iret hc hr rfl dX5_nearestAngle_71 (hq _ rfl)
    · have hok := hok.2 c19
      have hq := o_qn hq c19
      refine r_iload (pc := 22) hc 4 dX5_nearestAngle_22 rfl ?_
      refine r_if_le (pc := 24) (tgt := 70) hc dX5_nearestAngle_24 (by decide) (fun c24 => ?_) (fun c24 => ?_)
      · have hok := hok.1 c24
        have hq := o_qp hq c24
        refine r_iload_n (pc := 70) hc 3 dX5_nearestAngle_70 rfl rfl ?_
        exact r_iret hc hr rfl dX5_nearestAngle_71 (hq _ rfl)
      · have hok := hok.2 c24
        have hq := o_qn hq c24
        refine r_iload (pc := 27) hc 5 dX5_nearestAngle_27 rfl ?_
        refine r_iload_n (pc := 29) hc 0 dX5_nearestAngle_29 rfl rfl ?_
        refine r_iload_n (pc := 30) hc 1 dX5_nearestAngle_30 rfl rfl ?_
        refine r_iload_n (pc := 31) hc 2 dX5_nearestAngle_31 rfl rfl ?_
        obtain ⟨hs1, hok⟩ := hok
        refine r_callS_i (pc := 32) (as := [.int _, .int _, .int _, .int _]) hc (c_X5_deviation l G hs1) mS_X5_deviation kM_X5_161 ⟨Nat.le_of_ble_eq_true rfl, Nat.le_of_ble_eq_true rfl⟩ ⟨Nat.le_refl 0, Nat.le_refl 0⟩ rfl rfl (Nat.le_of_ble_eq_true rfl) dX5_nearestAngle_32 (fun r σ' h => ?_)
        obtain ⟨rfl, rfl⟩ := h
        refine r_istore (pc := 35) (lv' := [(6, _), (0, _), (1, _), (2, _), (3, _), (4, _), (5, _)]) hc dX5_nearestAngle_35 (by decide) rfl ?_
        refine r_iload (pc := 37) hc 0 dX5_nearestAngle_37 rfl ?_
        refine r_iload (pc := 39) hc 5 dX5_nearestAngle_39 rfl ?_
        refine r_icmp_ge (pc := 41) (tgt := 51) hc dX5_nearestAngle_41 (by decide) (fun c41 => ?_) (fun c41 => ?_)
        · have hok := hok.1 c41
          have hq := o_qp hq c41
          exact o_V.sub (t_X5_nearestAngle_51 hc hr (K := f_X5_nearestAngle_14 n) (okK := ok_X5_nearestAngle_14 n) (fun z0 z1 z2 z3 z4 z5 zs h1 h2 => ih z0 z1 z2 z3 z4 z5 zs h1 h2) hok hq) [1, 2, 3, 4, 5, 6, 0] rfl
        · have hok := hok.2 c41
          have hq := o_qn hq c41
          refine r_iload (pc := 44) hc 6 dX5_nearestAngle_44 rfl ?_
          refine r_istore_n (pc := 46) (lv' := [(3, _), (6, _), (0, _), (1, _), (2, _), (4, _), (5, _)]) hc dX5_nearestAngle_46 rfl (by decide) rfl ?_
          refine r_iload (pc := 47) hc 1 dX5_nearestAngle_47 rfl ?_
          refine r_istore (pc := 49) (lv' := [(4, _), (3, _), (6, _), (0, _), (1, _), (2, _), (5, _)]) hc dX5_nearestAngle_49 (by decide) rfl ?_
          exact o_V.sub (t_X5_nearestAngle_51 hc hr (K := f_X5_nearestAngle_14 n) (okK := ok_X5_nearestAngle_14 n) (fun z0 z1 z2 z3 z4 z5 zs h1 h2 => ih z0 z1 z2 z3 z4 z5 zs h1 h2) hok hq) [3, 4, 5, 1, 0, 6, 2] rfl
set_option maxHeartbeats 4000000 in
set_option maxRecDepth 100000 in
theorem c_X5_nearestAngle (l : Launch) (G : Gt) {p0 : Int32} {p1 : Int32} {p2 : Int32}  {σ : Sg} (hok : ok_X5_nearestAngle p0 p1 p2 σ) : o_Ci l G yX5_nearestAngle cX5_nearestAngle 7 (some .int) 3 70 [.int p0, .int p1, .int p2] σ (fun r σ' => r = f_X5_nearestAngle p0 p1 p2 σ ∧ σ' = σ) := by
  refine o_Ci.of (by decide +kernel) (Nat.le_of_ble_eq_true rfl) ?_
  intro p e s m args below meth c hc hr
  have hq : ∀ q : Int32, q = f_X5_nearestAngle p0 p1 p2 σ → (fun r σ' => r = f_X5_nearestAngle p0 p1 p2 σ ∧ σ' = σ) q σ := fun q h => ⟨h, rfl⟩
  refine r_iconst (pc := 0) (v := 0) hc dX5_nearestAngle_0 rfl ?_
  refine r_istore_n (pc := 1) (lv' := [(3, _), (0, _), (1, _), (2, _)]) hc dX5_nearestAngle_1 rfl (by decide) rfl ?_
  refine r_iconst (pc := 2) (v := 0) hc dX5_nearestAngle_2 rfl ?_
  refine r_iload_n (pc := 3) hc 1 dX5_nearestAngle_3 rfl rfl ?_
  refine r_iload_n (pc := 4) hc 2 dX5_nearestAngle_4 rfl rfl ?_
  refine r_iload_n (pc := 5) hc 3 dX5_nearestAngle_5 rfl rfl ?_
  obtain ⟨hs1, hok⟩ := hok
  refine r_callS_i (pc := 6) (as := [.int _, .int _, .int _, .int _]) hc (c_X5_deviation l G hs1) mS_X5_deviation kM_X5_161 ⟨Nat.le_of_ble_eq_true rfl, Nat.le_of_ble_eq_true rfl⟩ ⟨Nat.le_refl 0, Nat.le_refl 0⟩ rfl rfl (Nat.le_of_ble_eq_true rfl) dX5_nearestAngle_6 (fun r σ' h => ?_)
  obtain ⟨rfl, rfl⟩ := h
  refine r_istore (pc := 9) (lv' := [(4, _), (3, _), (0, _), (1, _), (2, _)]) hc dX5_nearestAngle_9 (by decide) rfl ?_
  refine r_iconst (pc := 11) (v := 1) hc dX5_nearestAngle_11 rfl ?_
  refine r_istore (pc := 12) (lv' := [(5, _), (4, _), (3, _), (0, _), (1, _), (2, _)]) hc dX5_nearestAngle_12 (by decide) rfl ?_
  exact o_V.sub (t_X5_nearestAngle_14  hc hr oF _ _ _ _ _ _ _ hok hq) [3, 4, 5, 2, 1, 0] rfl
noncomputable def f_X5_copy_2 (a0 : Nat) (a1 : Nat) : Nat → Int32 → Sg → Sg
  | 0 => fun _ σ => σ
  | n + 1 => fun x2 σ =>
    o_ite ((Int32.ofNat (o_len a0)) ≤ x2) (
      σ) (
      o_ite ((Int32.ofNat (o_len a1)) ≤ x2) (
        σ) (
        let σ3 := pu σ a1 x2.toNatClampNeg (σ a0 x2.toNatClampNeg)
        f_X5_copy_2 a0 a1 n (x2 + 1) σ3))
def ok_X5_copy_2 (a0 : Nat) (a1 : Nat) : Nat → Int32 → Sg → Prop
  | 0 => fun _ _ => False
  | n + 1 => fun x2 σ =>
    (((Int32.ofNat (o_len a0)) ≤ x2) →
      True) ∧ (¬ ((Int32.ofNat (o_len a0)) ≤ x2) →
      (((Int32.ofNat (o_len a1)) ≤ x2) →
        True) ∧ (¬ ((Int32.ofNat (o_len a1)) ≤ x2) →
        (vp_in x2 (o_len a0)) ∧ ((vp_in x2 (o_len a1)) ∧ (let σ3 := pu σ a1 x2.toNatClampNeg (σ a0 x2.toNatClampNeg)
        ok_X5_copy_2 a0 a1 n (x2 + 1) σ3))))
noncomputable def f_X5_copy (a0 : Nat) (a1 : Nat) (σ : Sg) : Sg :=
  f_X5_copy_2 a0 a1 oF 0 σ
def ok_X5_copy (a0 : Nat) (a1 : Nat) (σ : Sg) : Prop :=
  ok_X5_copy_2 a0 a1 oF 0 σ
set_option maxHeartbeats 4000000 in
set_option maxRecDepth 100000 in
theorem t_X5_copy_2 {p : Program} {l : Launch} {e : Env} {s : State} {m : MethodId} {args : Array Value} {below : List Frame} {meth : Method} {c : Code} {G : Gt} {post : Sg → Prop} {a0 : Nat} {a1 : Nat} (ha0 : a0 < 41 ∧ o_kd a0 = 7) (ha1 : a1 < 41 ∧ o_kd a1 = 7) (hc : o_Cx p s m args meth c G cX5_copy yX5_copy.cls 3) (hr : meth.sig.returnType = none) : ∀ (n : Nat) (x2 : Int32) (σ : Sg) (hok : ok_X5_copy_2 a0 a1 n x2 σ) (hq : ∀ q : Sg, q = f_X5_copy_2 a0 a1 n x2 σ → post q), o_V p l e { frames := 0, cells := 0, slots := 0, locals := 0 } s m args below meth c (MQ below (va_Qv post (fun σ' t => o_W G σ' t.heap) (o_A G)) args s 0 0 (o_A G)) G 0 0 3 σ 2 [(0, .ref (gAd G a0)), (1, .ref (gAd G a1)), (2, .int x2)] [] := by
  intro n
  induction n with
  | zero =>
    intro x2 σ hok hq
    exact hok.elim
  | succ n ih =>
    intro x2 σ hok hq
    refine r_iload_n (pc := 2) hc 2 dX5_copy_2 rfl rfl ?_
    refine r_aload_n (pc := 3) hc 0 dX5_copy_3 rfl rfl ?_
    refine r_alen (pc := 4) hc ha0.1 ha0.2 rfl dX5_copy_4 ?_
    refine r_icmp_ge (pc := 5) (tgt := 26) hc dX5_copy_5 (by decide) (fun c5 => ?_) (fun c5 => ?_)
    · have hok := hok.1 c5
      have hq := o_qp hq c5
      exact r_vret hc hr dX5_copy_26 (hq _ rfl)
    · have hok := hok.2 c5
      have hq := o_qn hq c5
      refine r_iload_n (pc := 8) hc 2 dX5_copy_8 rfl rfl ?_
      refine r_aload_n (pc := 9) hc 1 dX5_copy_9 rfl rfl ?_
      refine r_alen (pc := 10) hc ha1.1 ha1.2 rfl dX5_copy_10 ?_
      refine r_icmp_ge (pc := 11) (tgt := 26) hc dX5_copy_11 (by decide) (fun c11 => ?_) (fun c11 => ?_)
      · have hok := hok.1 c11
        have hq := o_qp hq c11
        exact r_vret hc hr dX5_copy_26 (hq _ rfl)
      · have hok := hok.2 c11
        have hq := o_qn hq c11
        refine r_aload_n (pc := 14) hc 1 dX5_copy_14 rfl rfl ?_
        refine r_iload_n (pc := 15) hc 2 dX5_copy_15 rfl rfl ?_
        refine r_aload_n (pc := 16) hc 0 dX5_copy_16 rfl rfl ?_
        refine r_iload_n (pc := 17) hc 2 dX5_copy_17 rfl rfl ?_
        obtain ⟨hs1, hok⟩ := hok
        refine r_iald (pc := 18) (k := _) hc ha0.1 ha0.2 hs1 rfl dX5_copy_18 ?_
        obtain ⟨hs2, hok⟩ := hok
        refine r_iast (pc := 19) (k := _) hc ha1.1 ha1.2 hs2 rfl dX5_copy_19 ?_
        refine r_iinc (pc := 20) (q := 2) (v := _ + 1) (lv' := [(2, _), (0, _), (1, _)]) hc dX5_copy_20 rfl rfl (by decide) rfl ?_
        refine r_goto (pc := 23) (tgt := 2) hc dX5_copy_23 (by decide) ?_
        exact o_V.sub (ih _ _ hok hq) [1, 2, 0] rfl
set_option maxHeartbeats 4000000 in
set_option maxRecDepth 100000 in
theorem c_X5_copy (l : Launch) (G : Gt) {a0 : Nat} {a1 : Nat} (ha0 : a0 < 41 ∧ o_kd a0 = 7) (ha1 : a1 < 41 ∧ o_kd a1 = 7) {σ : Sg} (hok : ok_X5_copy a0 a1 σ) : o_Cv l G yX5_copy cX5_copy 3 0 0 [.ref (gAd G a0), .ref (gAd G a1)] σ (fun σ' => σ' = f_X5_copy a0 a1 σ) := by
  refine o_Cv.of (by decide +kernel) (Nat.le_of_ble_eq_true rfl) ?_
  intro p e s m args below meth c hc hr
  have hq : ∀ q : Sg, q = f_X5_copy a0 a1 σ → (fun σ' => σ' = f_X5_copy a0 a1 σ) q := fun q h => h
  refine r_iconst (pc := 0) (v := 0) hc dX5_copy_0 rfl ?_
  refine r_istore_n (pc := 1) (lv' := [(2, _), (0, _), (1, _)]) hc dX5_copy_1 rfl (by decide) rfl ?_
  exact o_V.sub (t_X5_copy_2 ha0 ha1 hc hr oF _ _ hok hq) [1, 2, 0] rfl
noncomputable def f_X5_isReading (p0 : Int32) (p1 : Int32) (σ : Sg) : Int32 :=
  o_ite ((f_X5_isOutside p1 0 ((f_X5_at 41 p0 σ) - 1) σ) = 0) (
    1) (
    0)
def ok_X5_isReading (p0 : Int32) (p1 : Int32) (σ : Sg) : Prop :=
  (ok_X5_at 41 p0 σ) ∧ ((ok_X5_isOutside p1 0 ((f_X5_at 41 p0 σ) - 1) σ) ∧ ((((f_X5_isOutside p1 0 ((f_X5_at 41 p0 σ) - 1) σ) = 0) →
    True) ∧ (¬ ((f_X5_isOutside p1 0 ((f_X5_at 41 p0 σ) - 1) σ) = 0) →
    True)))
set_option maxHeartbeats 4000000 in
set_option maxRecDepth 100000 in
theorem c_X5_isReading (l : Launch) (G : Gt) {p0 : Int32} {p1 : Int32}  {σ : Sg} (hok : ok_X5_isReading p0 p1 σ) : o_Ci l G yX5_isReading cX5_isReading 2 (some .boolean) 1 22 [.int p0, .int p1] σ (fun r σ' => r = f_X5_isReading p0 p1 σ ∧ σ' = σ) := by
  refine o_Ci.of (by decide +kernel) (Nat.le_of_ble_eq_true rfl) ?_
  intro p e s m args below meth c hc hr
  have hq : ∀ q : Int32, q = f_X5_isReading p0 p1 σ → (fun r σ' => r = f_X5_isReading p0 p1 σ ∧ σ' = σ) q σ := fun q h => ⟨h, rfl⟩
  refine r_iload_n (pc := 0) hc 1 dX5_isReading_0 rfl rfl ?_
  refine r_iconst (pc := 1) (v := 0) hc dX5_isReading_1 rfl ?_
  refine r_gets (pc := 2) hc 41 (by decide) (by decide) rfl kF_X5_165 dX5_isReading_2 ?_
  refine r_iload_n (pc := 5) hc 0 dX5_isReading_5 rfl rfl ?_
  obtain ⟨hs1, hok⟩ := hok
  refine r_callS_i (pc := 6) (as := [.ref (gAd G _), .int _]) hc (c_X5_at l G (Or.inr ⟨by decide, by decide⟩) hs1) mS_X5_at kM_X5_124 ⟨Nat.le_of_ble_eq_true rfl, Nat.le_of_ble_eq_true rfl⟩ ⟨Nat.le_refl 0, Nat.le_refl 0⟩ rfl rfl (Nat.le_of_ble_eq_true rfl) dX5_isReading_6 (fun r σ' h => ?_)
  obtain ⟨rfl, rfl⟩ := h
  refine r_iconst (pc := 9) (v := 1) hc dX5_isReading_9 rfl ?_
  refine r_isub (pc := 10) hc dX5_isReading_10 ?_
  obtain ⟨hs2, hok⟩ := hok
  refine r_callS_i (pc := 11) (as := [.int _, .int _, .int _]) hc (c_X5_isOutside l G hs2) mS_X5_isOutside kM_X5_44 ⟨Nat.le_of_ble_eq_true rfl, Nat.le_of_ble_eq_true rfl⟩ ⟨Nat.le_refl 0, Nat.le_refl 0⟩ rfl rfl (Nat.le_of_ble_eq_true rfl) dX5_isReading_11 (fun r σ' h => ?_)
  obtain ⟨rfl, rfl⟩ := h
  refine r_if_ne (pc := 14) (tgt := 21) hc dX5_isReading_14 (by decide) (fun c14 => ?_) (fun c14 => ?_)
  · have hok := hok.2 c14
    have hq := o_qn hq c14
    refine r_iconst (pc := 21) (v := 0) hc dX5_isReading_21 rfl ?_
    exact r_iret hc hr rfl dX5_isReading_22 (hq _ rfl)
  · have hok := hok.1 c14
    have hq := o_qp hq c14
    refine r_iconst (pc := 17) (v := 1) hc dX5_isReading_17 rfl ?_
    refine r_goto (pc := 18) (tgt := 22) hc dX5_isReading_18 (by decide) ?_
    exact r_iret hc hr rfl dX5_isReading_22 (hq _ rfl)
noncomputable def f_X5_toNumber (p0 : Int32) (σ : Sg) : Int32 :=
  o_ite (p0 = 0) (
    0) (
    1)
def ok_X5_toNumber (p0 : Int32) (σ : Sg) : Prop :=
  ((p0 = 0) →
    True) ∧ (¬ (p0 = 0) →
    True)
set_option maxHeartbeats 4000000 in
set_option maxRecDepth 100000 in
theorem c_X5_toNumber (l : Launch) (G : Gt) {p0 : Int32}  {σ : Sg} (hok : ok_X5_toNumber p0 σ) : o_Ci l G yX5_toNumber cX5_toNumber 1 (some .int) 0 0 [.int p0] σ (fun r σ' => r = f_X5_toNumber p0 σ ∧ σ' = σ) := by
  refine o_Ci.of (by decide +kernel) (Nat.le_of_ble_eq_true rfl) ?_
  intro p e s m args below meth c hc hr
  have hq : ∀ q : Int32, q = f_X5_toNumber p0 σ → (fun r σ' => r = f_X5_toNumber p0 σ ∧ σ' = σ) q σ := fun q h => ⟨h, rfl⟩
  refine r_iload_n (pc := 0) hc 0 dX5_toNumber_0 rfl rfl ?_
  refine r_if_eq (pc := 1) (tgt := 8) hc dX5_toNumber_1 (by decide) (fun c1 => ?_) (fun c1 => ?_)
  · have hok := hok.1 c1
    have hq := o_qp hq c1
    refine r_iconst (pc := 8) (v := 0) hc dX5_toNumber_8 rfl ?_
    exact r_iret hc hr rfl dX5_toNumber_9 (hq _ rfl)
  · have hok := hok.2 c1
    have hq := o_qn hq c1
    refine r_iconst (pc := 4) (v := 1) hc dX5_toNumber_4 rfl ?_
    refine r_goto (pc := 5) (tgt := 9) hc dX5_toNumber_5 (by decide) ?_
    exact r_iret hc hr rfl dX5_toNumber_9 (hq _ rfl)
end
