-- ===== PART A: goes FIRST, ahead of the names: the tables' words, and 'selects' of the private methods out of them =====
/-- a private method of a class that the tables say can be made, by its rows of tables_1 -/
def lw_okq (q : MethodName × Nat) : Prop := (q.1.cls ≠ "java/lang/invoke/MethodHandle" ∧ q.1.cls ≠ "java/lang/invoke/VarHandle") ∧ Cond.instantiable q.1.cls q.2 ∈ tables_1 ∧ Cond.privateMethod q.1 ∈ tables_1 ∧ Cond.instanceMethod q.1 ∈ tables_1
theorem lw_p0 : lw_okq (⟨"VernierEncoder$History", "keep", "(LVernierEncoder$State;)V"⟩, 3) := ⟨⟨by decide +kernel, by decide +kernel⟩, List.mem_of_getElem? (i := 74) (by decide +kernel), List.mem_of_getElem? (i := 199) (by decide +kernel), List.mem_of_getElem? (i := 200) (by decide +kernel)⟩
theorem lw_p1 : lw_okq (⟨"VernierEncoder$History", "slot", "(I)LVernierEncoder$State;"⟩, 3) := ⟨⟨by decide +kernel, by decide +kernel⟩, List.mem_of_getElem? (i := 74) (by decide +kernel), List.mem_of_getElem? (i := 206) (by decide +kernel), List.mem_of_getElem? (i := 207) (by decide +kernel)⟩
theorem lw_p2 : lw_okq (⟨"VernierEncoder$State", "copyFrom", "(LVernierEncoder$State;)V"⟩, 11) := ⟨⟨by decide +kernel, by decide +kernel⟩, List.mem_of_getElem? (i := 18) (by decide +kernel), List.mem_of_getElem? (i := 210) (by decide +kernel), List.mem_of_getElem? (i := 211) (by decide +kernel)⟩
theorem lw_p3 : lw_okq (⟨"VernierEncoder$State", "crossBound", "(I)V"⟩, 11) := ⟨⟨by decide +kernel, by decide +kernel⟩, List.mem_of_getElem? (i := 18) (by decide +kernel), List.mem_of_getElem? (i := 220) (by decide +kernel), List.mem_of_getElem? (i := 221) (by decide +kernel)⟩
theorem lw_p4 : lw_okq (⟨"VernierEncoder$State", "angle", "()I"⟩, 11) := ⟨⟨by decide +kernel, by decide +kernel⟩, List.mem_of_getElem? (i := 18) (by decide +kernel), List.mem_of_getElem? (i := 244) (by decide +kernel), List.mem_of_getElem? (i := 245) (by decide +kernel)⟩
theorem lw_p5 : lw_okq (⟨"VernierEncoder$State", "coarse", "()I"⟩, 11) := ⟨⟨by decide +kernel, by decide +kernel⟩, List.mem_of_getElem? (i := 18) (by decide +kernel), List.mem_of_getElem? (i := 248) (by decide +kernel), List.mem_of_getElem? (i := 249) (by decide +kernel)⟩
theorem lw_p6 : lw_okq (⟨"VernierEncoder$State", "correctionsInUse", "()I"⟩, 11) := ⟨⟨by decide +kernel, by decide +kernel⟩, List.mem_of_getElem? (i := 18) (by decide +kernel), List.mem_of_getElem? (i := 256) (by decide +kernel), List.mem_of_getElem? (i := 257) (by decide +kernel)⟩
theorem lw_p7 : lw_okq (⟨"VernierEncoder", "settingCount", "(I)I"⟩, 5) := ⟨⟨by decide +kernel, by decide +kernel⟩, List.mem_of_getElem? (i := 10) (by decide +kernel), List.mem_of_getElem? (i := 260) (by decide +kernel), List.mem_of_getElem? (i := 261) (by decide +kernel)⟩
theorem lw_p8 : lw_okq (⟨"VernierEncoder", "shownSetting", "(I)I"⟩, 5) := ⟨⟨by decide +kernel, by decide +kernel⟩, List.mem_of_getElem? (i := 10) (by decide +kernel), List.mem_of_getElem? (i := 264) (by decide +kernel), List.mem_of_getElem? (i := 265) (by decide +kernel)⟩
theorem lw_p9 : lw_okq (⟨"VernierEncoder$History", "restoreLatest", "(LVernierEncoder$State;)V"⟩, 3) := ⟨⟨by decide +kernel, by decide +kernel⟩, List.mem_of_getElem? (i := 74) (by decide +kernel), List.mem_of_getElem? (i := 273) (by decide +kernel), List.mem_of_getElem? (i := 274) (by decide +kernel)⟩
theorem lw_p10 : lw_okq (⟨"VernierEncoder$State", "readingAt", "(II)I"⟩, 11) := ⟨⟨by decide +kernel, by decide +kernel⟩, List.mem_of_getElem? (i := 18) (by decide +kernel), List.mem_of_getElem? (i := 309) (by decide +kernel), List.mem_of_getElem? (i := 310) (by decide +kernel)⟩
theorem lw_p11 : lw_okq (⟨"VernierEncoder$State", "excess", "(I)I"⟩, 11) := ⟨⟨by decide +kernel, by decide +kernel⟩, List.mem_of_getElem? (i := 18) (by decide +kernel), List.mem_of_getElem? (i := 359) (by decide +kernel), List.mem_of_getElem? (i := 360) (by decide +kernel)⟩
theorem lw_p12 : lw_okq (⟨"VernierEncoder$Finding", "search", "(LVernierEncoder$State;I)V"⟩, 4) := ⟨⟨by decide +kernel, by decide +kernel⟩, List.mem_of_getElem? (i := 94) (by decide +kernel), List.mem_of_getElem? (i := 369) (by decide +kernel), List.mem_of_getElem? (i := 370) (by decide +kernel)⟩
theorem lw_p13 : lw_okq (⟨"VernierEncoder$Finding", "searchCorrected", "(LVernierEncoder$State;II)V"⟩, 4) := ⟨⟨by decide +kernel, by decide +kernel⟩, List.mem_of_getElem? (i := 94) (by decide +kernel), List.mem_of_getElem? (i := 376) (by decide +kernel), List.mem_of_getElem? (i := 377) (by decide +kernel)⟩
theorem lw_p14 : lw_okq (⟨"VernierEncoder$State", "corrected", "(III)I"⟩, 11) := ⟨⟨by decide +kernel, by decide +kernel⟩, List.mem_of_getElem? (i := 18) (by decide +kernel), List.mem_of_getElem? (i := 380) (by decide +kernel), List.mem_of_getElem? (i := 381) (by decide +kernel)⟩
theorem lw_p15 : lw_okq (⟨"VernierEncoder$State", "isPoor", "(I)Z"⟩, 11) := ⟨⟨by decide +kernel, by decide +kernel⟩, List.mem_of_getElem? (i := 18) (by decide +kernel), List.mem_of_getElem? (i := 393) (by decide +kernel), List.mem_of_getElem? (i := 394) (by decide +kernel)⟩
def lw_privs_1 : List (MethodName × Nat) := [(⟨"VernierEncoder$History", "keep", "(LVernierEncoder$State;)V"⟩, 3), (⟨"VernierEncoder$History", "slot", "(I)LVernierEncoder$State;"⟩, 3), (⟨"VernierEncoder$State", "copyFrom", "(LVernierEncoder$State;)V"⟩, 11), (⟨"VernierEncoder$State", "crossBound", "(I)V"⟩, 11), (⟨"VernierEncoder$State", "angle", "()I"⟩, 11), (⟨"VernierEncoder$State", "coarse", "()I"⟩, 11), (⟨"VernierEncoder$State", "correctionsInUse", "()I"⟩, 11), (⟨"VernierEncoder", "settingCount", "(I)I"⟩, 5), (⟨"VernierEncoder", "shownSetting", "(I)I"⟩, 5), (⟨"VernierEncoder$History", "restoreLatest", "(LVernierEncoder$State;)V"⟩, 3), (⟨"VernierEncoder$State", "readingAt", "(II)I"⟩, 11), (⟨"VernierEncoder$State", "excess", "(I)I"⟩, 11), (⟨"VernierEncoder$Finding", "search", "(LVernierEncoder$State;I)V"⟩, 4), (⟨"VernierEncoder$Finding", "searchCorrected", "(LVernierEncoder$State;II)V"⟩, 4), (⟨"VernierEncoder$State", "corrected", "(III)I"⟩, 11), (⟨"VernierEncoder$State", "isPoor", "(I)Z"⟩, 11)]
theorem lw_r1 : ∀ q ∈ lw_privs_1, lw_okq q := List.forall_mem_cons.mpr ⟨lw_p0, List.forall_mem_cons.mpr ⟨lw_p1, List.forall_mem_cons.mpr ⟨lw_p2, List.forall_mem_cons.mpr ⟨lw_p3, List.forall_mem_cons.mpr ⟨lw_p4, List.forall_mem_cons.mpr ⟨lw_p5, List.forall_mem_cons.mpr ⟨lw_p6, List.forall_mem_cons.mpr ⟨lw_p7, List.forall_mem_cons.mpr ⟨lw_p8, List.forall_mem_cons.mpr ⟨lw_p9, List.forall_mem_cons.mpr ⟨lw_p10, List.forall_mem_cons.mpr ⟨lw_p11, List.forall_mem_cons.mpr ⟨lw_p12, List.forall_mem_cons.mpr ⟨lw_p13, List.forall_mem_cons.mpr ⟨lw_p14, List.forall_mem_cons.mpr ⟨lw_p15, fun _ h => absurd h List.not_mem_nil⟩⟩⟩⟩⟩⟩⟩⟩⟩⟩⟩⟩⟩⟩⟩⟩
theorem lw_p16 : lw_okq (⟨"VernierEncoder$Trial", "judge", "(LVernierEncoder$State;LVernierEncoder$Finding;)V"⟩, 4) := ⟨⟨by decide +kernel, by decide +kernel⟩, List.mem_of_getElem? (i := 119) (by decide +kernel), List.mem_of_getElem? (i := 402) (by decide +kernel), List.mem_of_getElem? (i := 403) (by decide +kernel)⟩
theorem lw_p17 : lw_okq (⟨"VernierEncoder$Trial", "firstRefusal", "(LVernierEncoder$State;LVernierEncoder$Finding;)I"⟩, 4) := ⟨⟨by decide +kernel, by decide +kernel⟩, List.mem_of_getElem? (i := 119) (by decide +kernel), List.mem_of_getElem? (i := 406) (by decide +kernel), List.mem_of_getElem? (i := 407) (by decide +kernel)⟩
theorem lw_p18 : lw_okq (⟨"VernierEncoder$Entries", "append", "(I)V"⟩, 7) := ⟨⟨by decide +kernel, by decide +kernel⟩, List.mem_of_getElem? (i := 142) (by decide +kernel), List.mem_of_getElem? (i := 433) (by decide +kernel), List.mem_of_getElem? (i := 434) (by decide +kernel)⟩
theorem lw_p19 : lw_okq (⟨"VernierEncoder$Entries", "scan", "()V"⟩, 7) := ⟨⟨by decide +kernel, by decide +kernel⟩, List.mem_of_getElem? (i := 142) (by decide +kernel), List.mem_of_getElem? (i := 446) (by decide +kernel), List.mem_of_getElem? (i := 447) (by decide +kernel)⟩
theorem lw_p20 : lw_okq (⟨"VernierEncoder$Entries", "entryFault", "(I)I"⟩, 7) := ⟨⟨by decide +kernel, by decide +kernel⟩, List.mem_of_getElem? (i := 142) (by decide +kernel), List.mem_of_getElem? (i := 450) (by decide +kernel), List.mem_of_getElem? (i := 451) (by decide +kernel)⟩
theorem lw_p21 : lw_okq (⟨"VernierEncoder$Entries", "entryLength", "(I)I"⟩, 7) := ⟨⟨by decide +kernel, by decide +kernel⟩, List.mem_of_getElem? (i := 142) (by decide +kernel), List.mem_of_getElem? (i := 454) (by decide +kernel), List.mem_of_getElem? (i := 455) (by decide +kernel)⟩
theorem lw_p22 : lw_okq (⟨"VernierEncoder$Entries", "characterAt", "(I)I"⟩, 7) := ⟨⟨by decide +kernel, by decide +kernel⟩, List.mem_of_getElem? (i := 142) (by decide +kernel), List.mem_of_getElem? (i := 458) (by decide +kernel), List.mem_of_getElem? (i := 459) (by decide +kernel)⟩
theorem lw_p23 : lw_okq (⟨"VernierEncoder$Entries", "isDigit", "(I)Z"⟩, 7) := ⟨⟨by decide +kernel, by decide +kernel⟩, List.mem_of_getElem? (i := 142) (by decide +kernel), List.mem_of_getElem? (i := 463) (by decide +kernel), List.mem_of_getElem? (i := 464) (by decide +kernel)⟩
theorem lw_p24 : lw_okq (⟨"VernierEncoder$Entries", "digitAt", "(I)I"⟩, 7) := ⟨⟨by decide +kernel, by decide +kernel⟩, List.mem_of_getElem? (i := 142) (by decide +kernel), List.mem_of_getElem? (i := 468) (by decide +kernel), List.mem_of_getElem? (i := 469) (by decide +kernel)⟩
theorem lw_p25 : lw_okq (⟨"VernierEncoder$Entries", "amount", "(I)I"⟩, 7) := ⟨⟨by decide +kernel, by decide +kernel⟩, List.mem_of_getElem? (i := 142) (by decide +kernel), List.mem_of_getElem? (i := 474) (by decide +kernel), List.mem_of_getElem? (i := 475) (by decide +kernel)⟩
theorem lw_p26 : lw_okq (⟨"VernierEncoder$Entries", "entryCell", "(I)I"⟩, 7) := ⟨⟨by decide +kernel, by decide +kernel⟩, List.mem_of_getElem? (i := 142) (by decide +kernel), List.mem_of_getElem? (i := 478) (by decide +kernel), List.mem_of_getElem? (i := 479) (by decide +kernel)⟩
theorem lw_p27 : lw_okq (⟨"VernierEncoder$Entries", "takeEntry", "(I)V"⟩, 7) := ⟨⟨by decide +kernel, by decide +kernel⟩, List.mem_of_getElem? (i := 142) (by decide +kernel), List.mem_of_getElem? (i := 483) (by decide +kernel), List.mem_of_getElem? (i := 484) (by decide +kernel)⟩
theorem lw_p28 : lw_okq (⟨"VernierEncoderModel", "saves", "()V"⟩, 18) := ⟨⟨by decide +kernel, by decide +kernel⟩, List.mem_of_getElem? (i := 493) (by decide +kernel), List.mem_of_getElem? (i := 566) (by decide +kernel), List.mem_of_getElem? (i := 567) (by decide +kernel)⟩
theorem lw_p29 : lw_okq (⟨"VernierEncoderModel", "crosses", "(I)V"⟩, 18) := ⟨⟨by decide +kernel, by decide +kernel⟩, List.mem_of_getElem? (i := 493) (by decide +kernel), List.mem_of_getElem? (i := 570) (by decide +kernel), List.mem_of_getElem? (i := 571) (by decide +kernel)⟩
theorem lw_p30 : lw_okq (⟨"VernierEncoderModel", "puts", "(II)I"⟩, 18) := ⟨⟨by decide +kernel, by decide +kernel⟩, List.mem_of_getElem? (i := 493) (by decide +kernel), List.mem_of_getElem? (i := 581) (by decide +kernel), List.mem_of_getElem? (i := 582) (by decide +kernel)⟩
theorem lw_p31 : lw_okq (⟨"VernierEncoderModel", "angle", "()I"⟩, 18) := ⟨⟨by decide +kernel, by decide +kernel⟩, List.mem_of_getElem? (i := 493) (by decide +kernel), List.mem_of_getElem? (i := 597) (by decide +kernel), List.mem_of_getElem? (i := 598) (by decide +kernel)⟩
def lw_privs_2 : List (MethodName × Nat) := [(⟨"VernierEncoder$Trial", "judge", "(LVernierEncoder$State;LVernierEncoder$Finding;)V"⟩, 4), (⟨"VernierEncoder$Trial", "firstRefusal", "(LVernierEncoder$State;LVernierEncoder$Finding;)I"⟩, 4), (⟨"VernierEncoder$Entries", "append", "(I)V"⟩, 7), (⟨"VernierEncoder$Entries", "scan", "()V"⟩, 7), (⟨"VernierEncoder$Entries", "entryFault", "(I)I"⟩, 7), (⟨"VernierEncoder$Entries", "entryLength", "(I)I"⟩, 7), (⟨"VernierEncoder$Entries", "characterAt", "(I)I"⟩, 7), (⟨"VernierEncoder$Entries", "isDigit", "(I)Z"⟩, 7), (⟨"VernierEncoder$Entries", "digitAt", "(I)I"⟩, 7), (⟨"VernierEncoder$Entries", "amount", "(I)I"⟩, 7), (⟨"VernierEncoder$Entries", "entryCell", "(I)I"⟩, 7), (⟨"VernierEncoder$Entries", "takeEntry", "(I)V"⟩, 7), (⟨"VernierEncoderModel", "saves", "()V"⟩, 18), (⟨"VernierEncoderModel", "crosses", "(I)V"⟩, 18), (⟨"VernierEncoderModel", "puts", "(II)I"⟩, 18), (⟨"VernierEncoderModel", "angle", "()I"⟩, 18)]
theorem lw_r2 : ∀ q ∈ lw_privs_2, lw_okq q := List.forall_mem_cons.mpr ⟨lw_p16, List.forall_mem_cons.mpr ⟨lw_p17, List.forall_mem_cons.mpr ⟨lw_p18, List.forall_mem_cons.mpr ⟨lw_p19, List.forall_mem_cons.mpr ⟨lw_p20, List.forall_mem_cons.mpr ⟨lw_p21, List.forall_mem_cons.mpr ⟨lw_p22, List.forall_mem_cons.mpr ⟨lw_p23, List.forall_mem_cons.mpr ⟨lw_p24, List.forall_mem_cons.mpr ⟨lw_p25, List.forall_mem_cons.mpr ⟨lw_p26, List.forall_mem_cons.mpr ⟨lw_p27, List.forall_mem_cons.mpr ⟨lw_p28, List.forall_mem_cons.mpr ⟨lw_p29, List.forall_mem_cons.mpr ⟨lw_p30, List.forall_mem_cons.mpr ⟨lw_p31, fun _ h => absurd h List.not_mem_nil⟩⟩⟩⟩⟩⟩⟩⟩⟩⟩⟩⟩⟩⟩⟩⟩
theorem lw_p32 : lw_okq (⟨"VernierEncoderModel", "coarse", "()I"⟩, 18) := ⟨⟨by decide +kernel, by decide +kernel⟩, List.mem_of_getElem? (i := 493) (by decide +kernel), List.mem_of_getElem? (i := 601) (by decide +kernel), List.mem_of_getElem? (i := 602) (by decide +kernel)⟩
theorem lw_p33 : lw_okq (⟨"VernierEncoderModel", "corrections", "()I"⟩, 18) := ⟨⟨by decide +kernel, by decide +kernel⟩, List.mem_of_getElem? (i := 493) (by decide +kernel), List.mem_of_getElem? (i := 605) (by decide +kernel), List.mem_of_getElem? (i := 606) (by decide +kernel)⟩
theorem lw_p34 : lw_okq (⟨"VernierEncoderModel", "readingAt", "(II)I"⟩, 18) := ⟨⟨by decide +kernel, by decide +kernel⟩, List.mem_of_getElem? (i := 493) (by decide +kernel), List.mem_of_getElem? (i := 634) (by decide +kernel), List.mem_of_getElem? (i := 635) (by decide +kernel)⟩
theorem lw_p35 : lw_okq (⟨"VernierEncoderModel", "finds", "(III)V"⟩, 18) := ⟨⟨by decide +kernel, by decide +kernel⟩, List.mem_of_getElem? (i := 493) (by decide +kernel), List.mem_of_getElem? (i := 645) (by decide +kernel), List.mem_of_getElem? (i := 646) (by decide +kernel)⟩
theorem lw_p36 : lw_okq (⟨"VernierEncoderModel", "tooHigh", "(I)I"⟩, 18) := ⟨⟨by decide +kernel, by decide +kernel⟩, List.mem_of_getElem? (i := 493) (by decide +kernel), List.mem_of_getElem? (i := 674) (by decide +kernel), List.mem_of_getElem? (i := 675) (by decide +kernel)⟩
theorem lw_p37 : lw_okq (⟨"VernierEncoderModel", "looks", "(I)V"⟩, 18) := ⟨⟨by decide +kernel, by decide +kernel⟩, List.mem_of_getElem? (i := 493) (by decide +kernel), List.mem_of_getElem? (i := 682) (by decide +kernel), List.mem_of_getElem? (i := 683) (by decide +kernel)⟩
theorem lw_p38 : lw_okq (⟨"VernierEncoderModel", "findsIn", "(I)V"⟩, 18) := ⟨⟨by decide +kernel, by decide +kernel⟩, List.mem_of_getElem? (i := 493) (by decide +kernel), List.mem_of_getElem? (i := 686) (by decide +kernel), List.mem_of_getElem? (i := 687) (by decide +kernel)⟩
theorem lw_p39 : lw_okq (⟨"VernierEncoderModel", "corrected", "(II)I"⟩, 18) := ⟨⟨by decide +kernel, by decide +kernel⟩, List.mem_of_getElem? (i := 493) (by decide +kernel), List.mem_of_getElem? (i := 690) (by decide +kernel), List.mem_of_getElem? (i := 691) (by decide +kernel)⟩
theorem lw_p40 : lw_okq (⟨"VernierEncoderModel", "why", "()I"⟩, 18) := ⟨⟨by decide +kernel, by decide +kernel⟩, List.mem_of_getElem? (i := 493) (by decide +kernel), List.mem_of_getElem? (i := 706) (by decide +kernel), List.mem_of_getElem? (i := 707) (by decide +kernel)⟩
theorem lw_p41 : lw_okq (⟨"VernierEncoderModel", "fitting", "()I"⟩, 18) := ⟨⟨by decide +kernel, by decide +kernel⟩, List.mem_of_getElem? (i := 493) (by decide +kernel), List.mem_of_getElem? (i := 710) (by decide +kernel), List.mem_of_getElem? (i := 711) (by decide +kernel)⟩
theorem lw_p42 : lw_okq (⟨"VernierEncoderModel", "isCoarseApart", "()Z"⟩, 18) := ⟨⟨by decide +kernel, by decide +kernel⟩, List.mem_of_getElem? (i := 493) (by decide +kernel), List.mem_of_getElem? (i := 714) (by decide +kernel), List.mem_of_getElem? (i := 715) (by decide +kernel)⟩
theorem lw_p43 : lw_okq (⟨"VernierEncoderModel", "placeFound", "()I"⟩, 18) := ⟨⟨by decide +kernel, by decide +kernel⟩, List.mem_of_getElem? (i := 493) (by decide +kernel), List.mem_of_getElem? (i := 721) (by decide +kernel), List.mem_of_getElem? (i := 722) (by decide +kernel)⟩
theorem lw_p44 : lw_okq (⟨"VernierEncoderModel", "reads", "()I"⟩, 18) := ⟨⟨by decide +kernel, by decide +kernel⟩, List.mem_of_getElem? (i := 493) (by decide +kernel), List.mem_of_getElem? (i := 751) (by decide +kernel), List.mem_of_getElem? (i := 752) (by decide +kernel)⟩
theorem lw_p45 : lw_okq (⟨"VernierEncoderModel", "entry", "()I"⟩, 18) := ⟨⟨by decide +kernel, by decide +kernel⟩, List.mem_of_getElem? (i := 493) (by decide +kernel), List.mem_of_getElem? (i := 755) (by decide +kernel), List.mem_of_getElem? (i := 756) (by decide +kernel)⟩
theorem lw_p46 : lw_okq (⟨"VernierEncoderModel", "letterAt", "(I)I"⟩, 18) := ⟨⟨by decide +kernel, by decide +kernel⟩, List.mem_of_getElem? (i := 493) (by decide +kernel), List.mem_of_getElem? (i := 759) (by decide +kernel), List.mem_of_getElem? (i := 760) (by decide +kernel)⟩
theorem lw_p47 : lw_okq (⟨"VernierEncoderModel", "isDigit", "(I)Z"⟩, 18) := ⟨⟨by decide +kernel, by decide +kernel⟩, List.mem_of_getElem? (i := 493) (by decide +kernel), List.mem_of_getElem? (i := 763) (by decide +kernel), List.mem_of_getElem? (i := 764) (by decide +kernel)⟩
def lw_privs_3 : List (MethodName × Nat) := [(⟨"VernierEncoderModel", "coarse", "()I"⟩, 18), (⟨"VernierEncoderModel", "corrections", "()I"⟩, 18), (⟨"VernierEncoderModel", "readingAt", "(II)I"⟩, 18), (⟨"VernierEncoderModel", "finds", "(III)V"⟩, 18), (⟨"VernierEncoderModel", "tooHigh", "(I)I"⟩, 18), (⟨"VernierEncoderModel", "looks", "(I)V"⟩, 18), (⟨"VernierEncoderModel", "findsIn", "(I)V"⟩, 18), (⟨"VernierEncoderModel", "corrected", "(II)I"⟩, 18), (⟨"VernierEncoderModel", "why", "()I"⟩, 18), (⟨"VernierEncoderModel", "fitting", "()I"⟩, 18), (⟨"VernierEncoderModel", "isCoarseApart", "()Z"⟩, 18), (⟨"VernierEncoderModel", "placeFound", "()I"⟩, 18), (⟨"VernierEncoderModel", "reads", "()I"⟩, 18), (⟨"VernierEncoderModel", "entry", "()I"⟩, 18), (⟨"VernierEncoderModel", "letterAt", "(I)I"⟩, 18), (⟨"VernierEncoderModel", "isDigit", "(I)Z"⟩, 18)]
theorem lw_r3 : ∀ q ∈ lw_privs_3, lw_okq q := List.forall_mem_cons.mpr ⟨lw_p32, List.forall_mem_cons.mpr ⟨lw_p33, List.forall_mem_cons.mpr ⟨lw_p34, List.forall_mem_cons.mpr ⟨lw_p35, List.forall_mem_cons.mpr ⟨lw_p36, List.forall_mem_cons.mpr ⟨lw_p37, List.forall_mem_cons.mpr ⟨lw_p38, List.forall_mem_cons.mpr ⟨lw_p39, List.forall_mem_cons.mpr ⟨lw_p40, List.forall_mem_cons.mpr ⟨lw_p41, List.forall_mem_cons.mpr ⟨lw_p42, List.forall_mem_cons.mpr ⟨lw_p43, List.forall_mem_cons.mpr ⟨lw_p44, List.forall_mem_cons.mpr ⟨lw_p45, List.forall_mem_cons.mpr ⟨lw_p46, List.forall_mem_cons.mpr ⟨lw_p47, fun _ h => absurd h List.not_mem_nil⟩⟩⟩⟩⟩⟩⟩⟩⟩⟩⟩⟩⟩⟩⟩⟩
def lw_privs : List (MethodName × Nat) := lw_privs_1 ++ (lw_privs_2 ++ (lw_privs_3))
def lw_tbl : List Cond := k2_sels lw_privs ++ tables_1
theorem lw_privs_ok : ∀ q ∈ lw_privs, lw_okq q := by
  show ∀ q ∈ lw_privs_1 ++ (lw_privs_2 ++ (lw_privs_3)), lw_okq q
  exact List.forall_mem_append.mpr ⟨lw_r1, List.forall_mem_append.mpr ⟨lw_r2, lw_r3⟩⟩

def RX0 : String := "VernierEncoder$Entries"
def TX0 : u_T := fun k => match k with
  | 0 => ("VernierEncoder$Entries", "characters", "[I", true)
  | 1 => ("VernierEncoder$Entries", "length", "I", false)
  | 2 => ("VernierEncoder$Entries", "table", "[I", true)
  | 3 => ("VernierEncoder$Entries", "named", "[I", true)
  | 4 => ("VernierEncoder$Entries", "scanned", "I", false)
  | 5 => ("VernierEncoder$Entries", "faultPosition", "I", false)
  | _ => ("VernierEncoder$Entries", "faultReason", "I", false)
def tyX0 : Nat → FieldType := fun k => match k with
  | 0 => .array .int
  | 1 => .int
  | 2 => .array .int
  | 3 => .array .int
  | 4 => .int
  | 5 => .int
  | _ => .int
theorem nmX0 : ∀ a, a < 7 → ∀ b, b < 7 → a ≠ b → (TX0 a).2.1 ≠ (TX0 b).2.1 := by decide +kernel
theorem tyX0_ok : ∀ k, k < 7 → parseFieldDescriptor (TX0 k).2.2.1 = some (tyX0 k) := by decide +kernel
abbrev cX0_init : ByteArray := prog_2_method_1_code
def yX0_init : MethodName := ⟨RX0, "<init>", "()V"⟩
abbrev cX0_append : ByteArray := prog_2_method_2_code
def yX0_append : MethodName := ⟨RX0, "append", "(I)V"⟩
abbrev cX0_scan : ByteArray := prog_2_method_3_code
def yX0_scan : MethodName := ⟨RX0, "scan", "()V"⟩
abbrev cX0_entryFault : ByteArray := prog_2_method_4_code
def yX0_entryFault : MethodName := ⟨RX0, "entryFault", "(I)I"⟩
abbrev cX0_takeEntry : ByteArray := prog_2_method_5_code
def yX0_takeEntry : MethodName := ⟨RX0, "takeEntry", "(I)V"⟩
abbrev cX0_entryLength : ByteArray := prog_2_method_6_code
def yX0_entryLength : MethodName := ⟨RX0, "entryLength", "(I)I"⟩
abbrev cX0_amount : ByteArray := prog_2_method_7_code
def yX0_amount : MethodName := ⟨RX0, "amount", "(I)I"⟩
abbrev cX0_entryCell : ByteArray := prog_2_method_8_code
def yX0_entryCell : MethodName := ⟨RX0, "entryCell", "(I)I"⟩
abbrev cX0_characterAt : ByteArray := prog_2_method_9_code
def yX0_characterAt : MethodName := ⟨RX0, "characterAt", "(I)I"⟩
abbrev cX0_isDigit : ByteArray := prog_2_method_10_code
def yX0_isDigit : MethodName := ⟨RX0, "isDigit", "(I)Z"⟩
abbrev cX0_digitAt : ByteArray := prog_2_method_11_code
def yX0_digitAt : MethodName := ⟨RX0, "digitAt", "(I)I"⟩
def RX1 : String := "VernierEncoder$Finding"
def TX1 : u_T := fun k => match k with
  | 0 => ("VernierEncoder$Finding", "first", "I", false)
  | 1 => ("VernierEncoder$Finding", "last", "I", false)
  | 2 => ("VernierEncoder$Finding", "lastDeviation", "I", false)
  | _ => ("VernierEncoder$Finding", "angles", "I", false)
def tyX1 : Nat → FieldType := fun k => match k with
  | 0 => .int
  | 1 => .int
  | 2 => .int
  | _ => .int
theorem nmX1 : ∀ a, a < 4 → ∀ b, b < 4 → a ≠ b → (TX1 a).2.1 ≠ (TX1 b).2.1 := by decide +kernel
theorem tyX1_ok : ∀ k, k < 4 → parseFieldDescriptor (TX1 k).2.2.1 = some (tyX1 k) := by decide +kernel
abbrev cX1_init : ByteArray := prog_3_method_1_code
def yX1_init : MethodName := ⟨RX1, "<init>", "()V"⟩
abbrev cX1_search : ByteArray := prog_3_method_2_code
def yX1_search : MethodName := ⟨RX1, "search", "(LVernierEncoder$State;I)V"⟩
abbrev cX1_searchCorrected : ByteArray := prog_3_method_3_code
def yX1_searchCorrected : MethodName := ⟨RX1, "searchCorrected", "(LVernierEncoder$State;II)V"⟩
def RX2 : String := "VernierEncoder$History"
def TX2 : u_T := fun k => match k with
  | 0 => ("VernierEncoder$History", "states", "[LVernierEncoder$State;", true)
  | 1 => ("VernierEncoder$History", "oldest", "I", false)
  | _ => ("VernierEncoder$History", "size", "I", false)
def tyX2 : Nat → FieldType := fun k => match k with
  | 0 => .array (.object "VernierEncoder$State")
  | 1 => .int
  | _ => .int
theorem nmX2 : ∀ a, a < 3 → ∀ b, b < 3 → a ≠ b → (TX2 a).2.1 ≠ (TX2 b).2.1 := by decide +kernel
theorem tyX2_ok : ∀ k, k < 3 → parseFieldDescriptor (TX2 k).2.2.1 = some (tyX2 k) := by decide +kernel
abbrev cX2_init : ByteArray := prog_4_method_1_code
def yX2_init : MethodName := ⟨RX2, "<init>", "()V"⟩
abbrev cX2_slot : ByteArray := prog_4_method_2_code
def yX2_slot : MethodName := ⟨RX2, "slot", "(I)LVernierEncoder$State;"⟩
abbrev cX2_keep : ByteArray := prog_4_method_3_code
def yX2_keep : MethodName := ⟨RX2, "keep", "(LVernierEncoder$State;)V"⟩
abbrev cX2_restoreLatest : ByteArray := prog_4_method_4_code
def yX2_restoreLatest : MethodName := ⟨RX2, "restoreLatest", "(LVernierEncoder$State;)V"⟩
def RX3 : String := "VernierEncoder$State"
def TX3 : u_T := fun k => match k with
  | 0 => ("VernierEncoder$State", "place", "I", false)
  | 1 => ("VernierEncoder$State", "counter", "I", false)
  | 2 => ("VernierEncoder$State", "powered", "Z", false)
  | 3 => ("VernierEncoder$State", "battery", "I", false)
  | 4 => ("VernierEncoder$State", "toMiss", "I", false)
  | 5 => ("VernierEncoder$State", "accepted", "I", false)
  | 6 => ("VernierEncoder$State", "apartInRow", "I", false)
  | 7 => ("VernierEncoder$State", "settings", "[I", true)
  | 8 => ("VernierEncoder$State", "errors", "[I", true)
  | 9 => ("VernierEncoder$State", "noises", "[I", true)
  | _ => ("VernierEncoder$State", "corrections", "[I", true)
def tyX3 : Nat → FieldType := fun k => match k with
  | 0 => .int
  | 1 => .int
  | 2 => .boolean
  | 3 => .int
  | 4 => .int
  | 5 => .int
  | 6 => .int
  | 7 => .array .int
  | 8 => .array .int
  | 9 => .array .int
  | _ => .array .int
theorem nmX3 : ∀ a, a < 11 → ∀ b, b < 11 → a ≠ b → (TX3 a).2.1 ≠ (TX3 b).2.1 := by decide +kernel
theorem tyX3_ok : ∀ k, k < 11 → parseFieldDescriptor (TX3 k).2.2.1 = some (tyX3 k) := by decide +kernel
abbrev cX3_init : ByteArray := prog_5_method_1_code
def yX3_init : MethodName := ⟨RX3, "<init>", "()V"⟩
abbrev cX3_copyFrom : ByteArray := prog_5_method_2_code
def yX3_copyFrom : MethodName := ⟨RX3, "copyFrom", "(LVernierEncoder$State;)V"⟩
abbrev cX3_angle : ByteArray := prog_5_method_3_code
def yX3_angle : MethodName := ⟨RX3, "angle", "()I"⟩
abbrev cX3_coarse : ByteArray := prog_5_method_4_code
def yX3_coarse : MethodName := ⟨RX3, "coarse", "()I"⟩
abbrev cX3_readingAt : ByteArray := prog_5_method_5_code
def yX3_readingAt : MethodName := ⟨RX3, "readingAt", "(II)I"⟩
abbrev cX3_excess : ByteArray := prog_5_method_6_code
def yX3_excess : MethodName := ⟨RX3, "excess", "(I)I"⟩
abbrev cX3_corrected : ByteArray := prog_5_method_7_code
def yX3_corrected : MethodName := ⟨RX3, "corrected", "(III)I"⟩
abbrev cX3_correctionsInUse : ByteArray := prog_5_method_8_code
def yX3_correctionsInUse : MethodName := ⟨RX3, "correctionsInUse", "()I"⟩
abbrev cX3_isPoor : ByteArray := prog_5_method_9_code
def yX3_isPoor : MethodName := ⟨RX3, "isPoor", "(I)Z"⟩
abbrev cX3_crossBound : ByteArray := prog_5_method_10_code
def yX3_crossBound : MethodName := ⟨RX3, "crossBound", "(I)V"⟩
def RX4 : String := "VernierEncoder$Trial"
def TX4 : u_T := fun k => match k with
  | 0 => ("VernierEncoder$Trial", "refusal", "I", false)
  | 1 => ("VernierEncoder$Trial", "counter", "I", false)
  | 2 => ("VernierEncoder$Trial", "apartInRow", "I", false)
  | _ => ("VernierEncoder$Trial", "place", "I", false)
def tyX4 : Nat → FieldType := fun k => match k with
  | 0 => .int
  | 1 => .int
  | 2 => .int
  | _ => .int
theorem nmX4 : ∀ a, a < 4 → ∀ b, b < 4 → a ≠ b → (TX4 a).2.1 ≠ (TX4 b).2.1 := by decide +kernel
theorem tyX4_ok : ∀ k, k < 4 → parseFieldDescriptor (TX4 k).2.2.1 = some (tyX4 k) := by decide +kernel
abbrev cX4_init : ByteArray := prog_6_method_1_code
def yX4_init : MethodName := ⟨RX4, "<init>", "()V"⟩
abbrev cX4_judge : ByteArray := prog_6_method_2_code
def yX4_judge : MethodName := ⟨RX4, "judge", "(LVernierEncoder$State;LVernierEncoder$Finding;)V"⟩
abbrev cX4_firstRefusal : ByteArray := prog_6_method_3_code
def yX4_firstRefusal : MethodName := ⟨RX4, "firstRefusal", "(LVernierEncoder$State;LVernierEncoder$Finding;)I"⟩
def RX5 : String := "VernierEncoder"
def TX5 : u_T := fun k => match k with
  | 0 => ("VernierEncoder", "now", "LVernierEncoder$State;", true)
  | 1 => ("VernierEncoder", "history", "LVernierEncoder$History;", true)
  | 2 => ("VernierEncoder", "finding", "LVernierEncoder$Finding;", true)
  | 3 => ("VernierEncoder", "trial", "LVernierEncoder$Trial;", true)
  | _ => ("VernierEncoder", "entries", "LVernierEncoder$Entries;", true)
def tyX5 : Nat → FieldType := fun k => match k with
  | 0 => .object "VernierEncoder$State"
  | 1 => .object "VernierEncoder$History"
  | 2 => .object "VernierEncoder$Finding"
  | 3 => .object "VernierEncoder$Trial"
  | _ => .object "VernierEncoder$Entries"
theorem nmX5 : ∀ a, a < 5 → ∀ b, b < 5 → a ≠ b → (TX5 a).2.1 ≠ (TX5 b).2.1 := by decide +kernel
theorem tyX5_ok : ∀ k, k < 5 → parseFieldDescriptor (TX5 k).2.2.1 = some (tyX5 k) := by decide +kernel
abbrev cX5_init : ByteArray := prog_1_method_1_code
def yX5_init : MethodName := ⟨RX5, "<init>", "()V"⟩
abbrev cX5_turn : ByteArray := prog_1_method_2_code
def yX5_turn : MethodName := ⟨RX5, "turn", "(I)I"⟩
abbrev cX5_power : ByteArray := prog_1_method_3_code
def yX5_power : MethodName := ⟨RX5, "power", "(I)I"⟩
abbrev cX5_brownout : ByteArray := prog_1_method_4_code
def yX5_brownout : MethodName := ⟨RX5, "brownout", "(I)I"⟩
abbrev cX5_charge : ByteArray := prog_1_method_5_code
def yX5_charge : MethodName := ⟨RX5, "charge", "(I)I"⟩
abbrev cX5_count : ByteArray := prog_1_method_6_code
def yX5_count : MethodName := ⟨RX5, "count", "(I)I"⟩
abbrev cX5_undo : ByteArray := prog_1_method_7_code
def yX5_undo : MethodName := ⟨RX5, "undo", "()I"⟩
abbrev cX5_disk : ByteArray := prog_1_method_8_code
def yX5_disk : MethodName := ⟨RX5, "disk", "(III)I"⟩
abbrev cX5_noise : ByteArray := prog_1_method_9_code
def yX5_noise : MethodName := ⟨RX5, "noise", "(II)I"⟩
abbrev cX5_set : ByteArray := prog_1_method_10_code
def yX5_set : MethodName := ⟨RX5, "set", "(II)I"⟩
abbrev cX5_reading : ByteArray := prog_1_method_11_code
def yX5_reading : MethodName := ⟨RX5, "reading", "(I)I"⟩
abbrev cX5_found : ByteArray := prog_1_method_12_code
def yX5_found : MethodName := ⟨RX5, "found", "(IIII)I"⟩
abbrev cX5_byTwo : ByteArray := prog_1_method_13_code
def yX5_byTwo : MethodName := ⟨RX5, "byTwo", "(IIII)I"⟩
abbrev cX5_correct : ByteArray := prog_1_method_14_code
def yX5_correct : MethodName := ⟨RX5, "correct", "(III)I"⟩
abbrev cX5_correction : ByteArray := prog_1_method_15_code
def yX5_correction : MethodName := ⟨RX5, "correction", "(II)I"⟩
abbrev cX5_learn : ByteArray := prog_1_method_16_code
def yX5_learn : MethodName := ⟨RX5, "learn", "()I"⟩
abbrev cX5_look : ByteArray := prog_1_method_17_code
def yX5_look : MethodName := ⟨RX5, "look", "(I)I"⟩
abbrev cX5_survey : ByteArray := prog_1_method_18_code
def yX5_survey : MethodName := ⟨RX5, "survey", "(II)I"⟩
abbrev cX5_poor : ByteArray := prog_1_method_19_code
def yX5_poor : MethodName := ⟨RX5, "poor", "()I"⟩
abbrev cX5_sample : ByteArray := prog_1_method_20_code
def yX5_sample : MethodName := ⟨RX5, "sample", "()I"⟩
abbrev cX5_reason : ByteArray := prog_1_method_21_code
def yX5_reason : MethodName := ⟨RX5, "reason", "()I"⟩
abbrev cX5_forget : ByteArray := prog_1_method_22_code
def yX5_forget : MethodName := ⟨RX5, "forget", "()I"⟩
abbrev cX5_apart : ByteArray := prog_1_method_23_code
def yX5_apart : MethodName := ⟨RX5, "apart", "()I"⟩
abbrev cX5_type : ByteArray := prog_1_method_24_code
def yX5_type : MethodName := ⟨RX5, "type", "(I)I"⟩
abbrev cX5_clearText : ByteArray := prog_1_method_25_code
def yX5_clearText : MethodName := ⟨RX5, "clearText", "()I"⟩
abbrev cX5_fault : ByteArray := prog_1_method_26_code
def yX5_fault : MethodName := ⟨RX5, "fault", "(I)I"⟩
abbrev cX5_load : ByteArray := prog_1_method_27_code
def yX5_load : MethodName := ⟨RX5, "load", "()I"⟩
abbrev cX5_settingCount : ByteArray := prog_1_method_28_code
def yX5_settingCount : MethodName := ⟨RX5, "settingCount", "(I)I"⟩
abbrev cX5_shownSetting : ByteArray := prog_1_method_29_code
def yX5_shownSetting : MethodName := ⟨RX5, "shownSetting", "(I)I"⟩
abbrev cX5_isOutside : ByteArray := prog_1_method_30_code
def yX5_isOutside : MethodName := ⟨RX5, "isOutside", "(III)Z"⟩
abbrev cX5_isTrack : ByteArray := prog_1_method_31_code
def yX5_isTrack : MethodName := ⟨RX5, "isTrack", "(I)Z"⟩
abbrev cX5_isCell : ByteArray := prog_1_method_32_code
def yX5_isCell : MethodName := ⟨RX5, "isCell", "(II)Z"⟩
abbrev cX5_isReading : ByteArray := prog_1_method_33_code
def yX5_isReading : MethodName := ⟨RX5, "isReading", "(II)Z"⟩
abbrev cX5_cell : ByteArray := prog_1_method_34_code
def yX5_cell : MethodName := ⟨RX5, "cell", "(II)I"⟩
abbrev cX5_sectorOf : ByteArray := prog_1_method_35_code
def yX5_sectorOf : MethodName := ⟨RX5, "sectorOf", "(I)I"⟩
abbrev cX5_toNumber : ByteArray := prog_1_method_36_code
def yX5_toNumber : MethodName := ⟨RX5, "toNumber", "(Z)I"⟩
abbrev cX5_at : ByteArray := prog_1_method_37_code
def yX5_at : MethodName := ⟨RX5, "at", "([II)I"⟩
abbrev cX5_put : ByteArray := prog_1_method_38_code
def yX5_put : MethodName := ⟨RX5, "put", "([III)V"⟩
abbrev cX5_copy : ByteArray := prog_1_method_39_code
def yX5_copy : MethodName := ⟨RX5, "copy", "([I[I)V"⟩
abbrev cX5_remainder : ByteArray := prog_1_method_40_code
def yX5_remainder : MethodName := ⟨RX5, "remainder", "(II)I"⟩
abbrev cX5_distance : ByteArray := prog_1_method_41_code
def yX5_distance : MethodName := ⟨RX5, "distance", "(III)I"⟩
abbrev cX5_deviation : ByteArray := prog_1_method_42_code
def yX5_deviation : MethodName := ⟨RX5, "deviation", "(IIII)I"⟩
abbrev cX5_nearestAngle : ByteArray := prog_1_method_43_code
def yX5_nearestAngle : MethodName := ⟨RX5, "nearestAngle", "(III)I"⟩
def RX6 : String := "VernierEncoderModel"
def TX6 : u_T := fun k => match k with
  | 0 => ("VernierEncoderModel", "now", "[I", true)
  | 1 => ("VernierEncoderModel", "past", "[I", true)
  | 2 => ("VernierEncoderModel", "saved", "I", false)
  | 3 => ("VernierEncoderModel", "text", "[I", true)
  | 4 => ("VernierEncoderModel", "length", "I", false)
  | 5 => ("VernierEncoderModel", "foundAngle", "I", false)
  | 6 => ("VernierEncoderModel", "foundOff", "I", false)
  | 7 => ("VernierEncoderModel", "looked", "[I", true)
  | 8 => ("VernierEncoderModel", "firstAngle", "I", false)
  | 9 => ("VernierEncoderModel", "angles", "I", false)
  | 10 => ("VernierEncoderModel", "at", "I", false)
  | 11 => ("VernierEncoderModel", "behind", "I", false)
  | 12 => ("VernierEncoderModel", "track", "I", false)
  | 13 => ("VernierEncoderModel", "sector", "I", false)
  | 14 => ("VernierEncoderModel", "number", "I", false)
  | 15 => ("VernierEncoderModel", "told", "[I", true)
  | 16 => ("VernierEncoderModel", "tells", "[I", true)
  | _ => ("VernierEncoderModel", "entries", "I", false)
def tyX6 : Nat → FieldType := fun k => match k with
  | 0 => .array .int
  | 1 => .array .int
  | 2 => .int
  | 3 => .array .int
  | 4 => .int
  | 5 => .int
  | 6 => .int
  | 7 => .array .int
  | 8 => .int
  | 9 => .int
  | 10 => .int
  | 11 => .int
  | 12 => .int
  | 13 => .int
  | 14 => .int
  | 15 => .array .int
  | 16 => .array .int
  | _ => .int
theorem nmX6 : ∀ a, a < 18 → ∀ b, b < 18 → a ≠ b → (TX6 a).2.1 ≠ (TX6 b).2.1 := by decide +kernel
theorem tyX6_ok : ∀ k, k < 18 → parseFieldDescriptor (TX6 k).2.2.1 = some (tyX6 k) := by decide +kernel
abbrev cX6_init : ByteArray := prog_8_method_1_code
def yX6_init : MethodName := ⟨RX6, "<init>", "()V"⟩
abbrev cX6_in : ByteArray := prog_8_method_2_code
def yX6_in : MethodName := ⟨RX6, "in", "(III)Z"⟩
abbrev cX6_rest : ByteArray := prog_8_method_3_code
def yX6_rest : MethodName := ⟨RX6, "rest", "(II)I"⟩
abbrev cX6_off : ByteArray := prog_8_method_4_code
def yX6_off : MethodName := ⟨RX6, "off", "(III)I"⟩
abbrev cX6_lengthOf : ByteArray := prog_8_method_5_code
def yX6_lengthOf : MethodName := ⟨RX6, "lengthOf", "(I)I"⟩
abbrev cX6_isTrack : ByteArray := prog_8_method_6_code
def yX6_isTrack : MethodName := ⟨RX6, "isTrack", "(I)Z"⟩
abbrev cX6_isCell : ByteArray := prog_8_method_7_code
def yX6_isCell : MethodName := ⟨RX6, "isCell", "(II)Z"⟩
abbrev cX6_saves : ByteArray := prog_8_method_8_code
def yX6_saves : MethodName := ⟨RX6, "saves", "()V"⟩
abbrev cX6_puts : ByteArray := prog_8_method_9_code
def yX6_puts : MethodName := ⟨RX6, "puts", "(II)I"⟩
abbrev cX6_undo : ByteArray := prog_8_method_10_code
def yX6_undo : MethodName := ⟨RX6, "undo", "()I"⟩
abbrev cX6_crosses : ByteArray := prog_8_method_11_code
def yX6_crosses : MethodName := ⟨RX6, "crosses", "(I)V"⟩
abbrev cX6_turn : ByteArray := prog_8_method_12_code
def yX6_turn : MethodName := ⟨RX6, "turn", "(I)I"⟩
abbrev cX6_power : ByteArray := prog_8_method_13_code
def yX6_power : MethodName := ⟨RX6, "power", "(I)I"⟩
abbrev cX6_brownout : ByteArray := prog_8_method_14_code
def yX6_brownout : MethodName := ⟨RX6, "brownout", "(I)I"⟩
abbrev cX6_charge : ByteArray := prog_8_method_15_code
def yX6_charge : MethodName := ⟨RX6, "charge", "(I)I"⟩
abbrev cX6_angle : ByteArray := prog_8_method_16_code
def yX6_angle : MethodName := ⟨RX6, "angle", "()I"⟩
abbrev cX6_coarse : ByteArray := prog_8_method_17_code
def yX6_coarse : MethodName := ⟨RX6, "coarse", "()I"⟩
abbrev cX6_corrections : ByteArray := prog_8_method_18_code
def yX6_corrections : MethodName := ⟨RX6, "corrections", "()I"⟩
abbrev cX6_count : ByteArray := prog_8_method_19_code
def yX6_count : MethodName := ⟨RX6, "count", "(I)I"⟩
abbrev cX6_disk : ByteArray := prog_8_method_20_code
def yX6_disk : MethodName := ⟨RX6, "disk", "(III)I"⟩
abbrev cX6_noise : ByteArray := prog_8_method_21_code
def yX6_noise : MethodName := ⟨RX6, "noise", "(II)I"⟩
abbrev cX6_isSetting : ByteArray := prog_8_method_22_code
def yX6_isSetting : MethodName := ⟨RX6, "isSetting", "(II)Z"⟩
abbrev cX6_set : ByteArray := prog_8_method_23_code
def yX6_set : MethodName := ⟨RX6, "set", "(II)I"⟩
abbrev cX6_readingAt : ByteArray := prog_8_method_24_code
def yX6_readingAt : MethodName := ⟨RX6, "readingAt", "(II)I"⟩
abbrev cX6_reading : ByteArray := prog_8_method_25_code
def yX6_reading : MethodName := ⟨RX6, "reading", "(I)I"⟩
abbrev cX6_nearer : ByteArray := prog_8_method_26_code
def yX6_nearer : MethodName := ⟨RX6, "nearer", "(II)I"⟩
abbrev cX6_finds : ByteArray := prog_8_method_27_code
def yX6_finds : MethodName := ⟨RX6, "finds", "(III)V"⟩
abbrev cX6_found : ByteArray := prog_8_method_28_code
def yX6_found : MethodName := ⟨RX6, "found", "(IIII)I"⟩
abbrev cX6_isReading : ByteArray := prog_8_method_29_code
def yX6_isReading : MethodName := ⟨RX6, "isReading", "(II)Z"⟩
abbrev cX6_byTwo : ByteArray := prog_8_method_30_code
def yX6_byTwo : MethodName := ⟨RX6, "byTwo", "(IIII)I"⟩
abbrev cX6_isCorrection : ByteArray := prog_8_method_31_code
def yX6_isCorrection : MethodName := ⟨RX6, "isCorrection", "(I)Z"⟩
abbrev cX6_correct : ByteArray := prog_8_method_32_code
def yX6_correct : MethodName := ⟨RX6, "correct", "(III)I"⟩
abbrev cX6_correction : ByteArray := prog_8_method_33_code
def yX6_correction : MethodName := ⟨RX6, "correction", "(II)I"⟩
abbrev cX6_tooHigh : ByteArray := prog_8_method_34_code
def yX6_tooHigh : MethodName := ⟨RX6, "tooHigh", "(I)I"⟩
abbrev cX6_learn : ByteArray := prog_8_method_35_code
def yX6_learn : MethodName := ⟨RX6, "learn", "()I"⟩
abbrev cX6_corrected : ByteArray := prog_8_method_36_code
def yX6_corrected : MethodName := ⟨RX6, "corrected", "(II)I"⟩
abbrev cX6_findsIn : ByteArray := prog_8_method_37_code
def yX6_findsIn : MethodName := ⟨RX6, "findsIn", "(I)V"⟩
abbrev cX6_looks : ByteArray := prog_8_method_38_code
def yX6_looks : MethodName := ⟨RX6, "looks", "(I)V"⟩
abbrev cX6_look : ByteArray := prog_8_method_39_code
def yX6_look : MethodName := ⟨RX6, "look", "(I)I"⟩
abbrev cX6_survey : ByteArray := prog_8_method_40_code
def yX6_survey : MethodName := ⟨RX6, "survey", "(II)I"⟩
abbrev cX6_poor : ByteArray := prog_8_method_41_code
def yX6_poor : MethodName := ⟨RX6, "poor", "()I"⟩
abbrev cX6_fitting : ByteArray := prog_8_method_42_code
def yX6_fitting : MethodName := ⟨RX6, "fitting", "()I"⟩
abbrev cX6_isCoarseApart : ByteArray := prog_8_method_43_code
def yX6_isCoarseApart : MethodName := ⟨RX6, "isCoarseApart", "()Z"⟩
abbrev cX6_placeFound : ByteArray := prog_8_method_44_code
def yX6_placeFound : MethodName := ⟨RX6, "placeFound", "()I"⟩
abbrev cX6_why : ByteArray := prog_8_method_45_code
def yX6_why : MethodName := ⟨RX6, "why", "()I"⟩
abbrev cX6_sample : ByteArray := prog_8_method_46_code
def yX6_sample : MethodName := ⟨RX6, "sample", "()I"⟩
abbrev cX6_reason : ByteArray := prog_8_method_47_code
def yX6_reason : MethodName := ⟨RX6, "reason", "()I"⟩
abbrev cX6_forget : ByteArray := prog_8_method_48_code
def yX6_forget : MethodName := ⟨RX6, "forget", "()I"⟩
abbrev cX6_apart : ByteArray := prog_8_method_49_code
def yX6_apart : MethodName := ⟨RX6, "apart", "()I"⟩
abbrev cX6_type : ByteArray := prog_8_method_50_code
def yX6_type : MethodName := ⟨RX6, "type", "(I)I"⟩
abbrev cX6_clearText : ByteArray := prog_8_method_51_code
def yX6_clearText : MethodName := ⟨RX6, "clearText", "()I"⟩
abbrev cX6_letterAt : ByteArray := prog_8_method_52_code
def yX6_letterAt : MethodName := ⟨RX6, "letterAt", "(I)I"⟩
abbrev cX6_isDigit : ByteArray := prog_8_method_53_code
def yX6_isDigit : MethodName := ⟨RX6, "isDigit", "(I)Z"⟩
abbrev cX6_entry : ByteArray := prog_8_method_54_code
def yX6_entry : MethodName := ⟨RX6, "entry", "()I"⟩
abbrev cX6_reads : ByteArray := prog_8_method_55_code
def yX6_reads : MethodName := ⟨RX6, "reads", "()I"⟩
abbrev cX6_fault : ByteArray := prog_8_method_56_code
def yX6_fault : MethodName := ⟨RX6, "fault", "(I)I"⟩
abbrev cX6_load : ByteArray := prog_8_method_57_code
def yX6_load : MethodName := ⟨RX6, "load", "()I"⟩
def RL : String := "VernierEncoderLaw"
abbrev cL_law : ByteArray := code
def yL_law : MethodName := ⟨RL, "law", "([I)Z"⟩
abbrev vwCl : List vw_C := [(RX0, TX0, 7), (RX1, TX1, 4), (RX2, TX2, 3), (RX3, TX3, 11), (RX4, TX4, 4), (RX5, TX5, 5), (RX6, TX6, 18)]
