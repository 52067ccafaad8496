/-- the words that every method of the two classes is given: the tables' words that keep -/
def WS : List Cond := lw_tbl.filter goodWord
def o_isN : Cond → Bool
  | .fieldLinkNest .. => true
  | .methodLinkNest .. => true
  | _ => false
/-- the nest mates' words -/
def o_N : List Cond := lw_tbl.filter o_isN
theorem o_gWS : GoodIn WS WS := fun w hw => ⟨hw, good_of_word (List.mem_filter.mp hw).2⟩
theorem o_gL : GoodIn lw_tbl WS := fun w hw => ⟨(List.mem_filter.mp hw).1, good_of_word (List.mem_filter.mp hw).2⟩
/-- what the tables say of a static method, of an instance method -/
def o_MS (y : MethodName) (bytes : ByteArray) (maxL : Nat) (ret : Option FieldType) (n : Nat) : Prop := Cond.code y bytes maxL ret ∈ WS ∧ Cond.static y ∈ WS ∧ Cond.initialized y.cls ∈ WS ∧ y.cls ≠ "java/lang/invoke/MethodHandle" ∧ y.cls ≠ "java/lang/invoke/VarHandle" ∧ (parseMethodDescriptor y.desc).map (fun d => d.parameters.length) = some n
def o_MV (C : String) (y : MethodName) (bytes : ByteArray) (maxL : Nat) (ret : Option FieldType) (n : Nat) : Prop := y.cls = C ∧ Cond.code y bytes maxL ret ∈ WS ∧ Cond.instanceMethod y ∈ WS ∧ Cond.selects C y y ∈ WS ∧ Cond.initialized C ∈ WS ∧ C ≠ "java/lang/invoke/MethodHandle" ∧ C ≠ "java/lang/invoke/VarHandle" ∧ (parseMethodDescriptor y.desc).map (fun d => d.parameters.length) = some n
theorem kIn_L : (Cond.initialized RL : Cond) ∈ WS := List.mem_filter.mpr ⟨List.mem_of_getElem? (i := 28) (by decide +kernel), by decide +kernel⟩
theorem kIn_X5 : (Cond.initialized RX5 : Cond) ∈ WS := List.mem_filter.mpr ⟨List.mem_of_getElem? (i := 29) (by decide +kernel), by decide +kernel⟩
theorem kIn_X3 : (Cond.initialized RX3 : Cond) ∈ WS := List.mem_filter.mpr ⟨List.mem_of_getElem? (i := 30) (by decide +kernel), by decide +kernel⟩
theorem kIn_X2 : (Cond.initialized RX2 : Cond) ∈ WS := List.mem_filter.mpr ⟨List.mem_of_getElem? (i := 31) (by decide +kernel), by decide +kernel⟩
theorem kIn_X1 : (Cond.initialized RX1 : Cond) ∈ WS := List.mem_filter.mpr ⟨List.mem_of_getElem? (i := 32) (by decide +kernel), by decide +kernel⟩
theorem kIn_X4 : (Cond.initialized RX4 : Cond) ∈ WS := List.mem_filter.mpr ⟨List.mem_of_getElem? (i := 33) (by decide +kernel), by decide +kernel⟩
theorem kIn_X0 : (Cond.initialized RX0 : Cond) ∈ WS := List.mem_filter.mpr ⟨List.mem_of_getElem? (i := 34) (by decide +kernel), by decide +kernel⟩
theorem kIn_Math : (Cond.initialized "java/lang/Math" : Cond) ∈ WS := List.mem_filter.mpr ⟨List.mem_of_getElem? (i := 35) (by decide +kernel), by decide +kernel⟩
theorem kL_L_20 : (Cond.classLink RL 20 RX5 : Cond) ∈ WS := List.mem_filter.mpr ⟨List.mem_of_getElem? (i := 36) (by decide +kernel), by decide +kernel⟩
theorem kT_X5 : (Cond.instantiable RX5 5 : Cond) ∈ WS := List.mem_filter.mpr ⟨List.mem_of_getElem? (i := 37) (by decide +kernel), by decide +kernel⟩
theorem kM_L_130 : (Cond.methodLink RL 130 yX5_init : Cond) ∈ WS := List.mem_filter.mpr ⟨List.mem_of_getElem? (i := 38) (by decide +kernel), by decide +kernel⟩
theorem kI_X5_init : (Cond.instanceMethod yX5_init : Cond) ∈ WS := List.mem_filter.mpr ⟨List.mem_of_getElem? (i := 39) (by decide +kernel), by decide +kernel⟩
theorem kC_X5_init : (Cond.code yX5_init cX5_init 1 none : Cond) ∈ WS := List.mem_filter.mpr ⟨List.mem_of_getElem? (i := 40) (by decide +kernel), by decide +kernel⟩
theorem kM_X5_3 : (Cond.methodLink RX5 3 Lib.objectInit : Cond) ∈ WS := List.mem_filter.mpr ⟨List.mem_of_getElem? (i := 41) (by decide +kernel), by decide +kernel⟩
theorem kI_Object_init : (Cond.instanceMethod Lib.objectInit : Cond) ∈ WS := List.mem_filter.mpr ⟨List.mem_of_getElem? (i := 42) (by decide +kernel), by decide +kernel⟩
theorem kC_Object_init : (Cond.code Lib.objectInit ⟨#[0xb1]⟩ 1 none : Cond) ∈ WS := List.mem_filter.mpr ⟨List.mem_of_getElem? (i := 43) (by decide +kernel), by decide +kernel⟩
theorem kL_X5_9 : (Cond.classLink RX5 9 RX3 : Cond) ∈ WS := List.mem_filter.mpr ⟨List.mem_of_getElem? (i := 44) (by decide +kernel), by decide +kernel⟩
theorem kT_X3 : (Cond.instantiable RX3 11 : Cond) ∈ WS := List.mem_filter.mpr ⟨List.mem_of_getElem? (i := 45) (by decide +kernel), by decide +kernel⟩
theorem kN_X5_11 : (Cond.methodLinkNest RX5 11 yX3_init RX5 : Cond) ∈ o_N := List.mem_filter.mpr ⟨List.mem_of_getElem? (i := 46) (by decide +kernel), by decide +kernel⟩
theorem kI_X3_init : (Cond.instanceMethod yX3_init : Cond) ∈ WS := List.mem_filter.mpr ⟨List.mem_of_getElem? (i := 47) (by decide +kernel), by decide +kernel⟩
theorem kC_X3_init : (Cond.code yX3_init cX3_init 1 none : Cond) ∈ WS := List.mem_filter.mpr ⟨List.mem_of_getElem? (i := 48) (by decide +kernel), by decide +kernel⟩
theorem kM_X3_3 : (Cond.methodLink RX3 3 Lib.objectInit : Cond) ∈ WS := List.mem_filter.mpr ⟨List.mem_of_getElem? (i := 49) (by decide +kernel), by decide +kernel⟩
theorem kF_X3_9 : (Cond.fieldLink RX3 9 RX3 "place" "I" : Cond) ∈ WS := List.mem_filter.mpr ⟨List.mem_of_getElem? (i := 50) (by decide +kernel), by decide +kernel⟩
theorem kN_X5_48 : (Cond.fieldLinkNest RX5 48 RX3 "place" "I" RX5 : Cond) ∈ o_N := List.mem_filter.mpr ⟨List.mem_of_getElem? (i := 51) (by decide +kernel), by decide +kernel⟩
theorem kF_X3_15 : (Cond.fieldLink RX3 15 RX3 "counter" "I" : Cond) ∈ WS := List.mem_filter.mpr ⟨List.mem_of_getElem? (i := 52) (by decide +kernel), by decide +kernel⟩
theorem kN_X4_24 : (Cond.fieldLinkNest RX4 24 RX3 "counter" "I" RX5 : Cond) ∈ o_N := List.mem_filter.mpr ⟨List.mem_of_getElem? (i := 53) (by decide +kernel), by decide +kernel⟩
theorem kN_X5_85 : (Cond.fieldLinkNest RX5 85 RX3 "counter" "I" RX5 : Cond) ∈ o_N := List.mem_filter.mpr ⟨List.mem_of_getElem? (i := 54) (by decide +kernel), by decide +kernel⟩
theorem kF_X3_18 : (Cond.fieldLink RX3 18 RX3 "powered" "Z" : Cond) ∈ WS := List.mem_filter.mpr ⟨List.mem_of_getElem? (i := 55) (by decide +kernel), by decide +kernel⟩
theorem kN_X5_67 : (Cond.fieldLinkNest RX5 67 RX3 "powered" "Z" RX5 : Cond) ∈ o_N := List.mem_filter.mpr ⟨List.mem_of_getElem? (i := 56) (by decide +kernel), by decide +kernel⟩
theorem kF_X3_22 : (Cond.fieldLink RX3 22 RX3 "battery" "I" : Cond) ∈ WS := List.mem_filter.mpr ⟨List.mem_of_getElem? (i := 57) (by decide +kernel), by decide +kernel⟩
theorem kN_X5_78 : (Cond.fieldLinkNest RX5 78 RX3 "battery" "I" RX5 : Cond) ∈ o_N := List.mem_filter.mpr ⟨List.mem_of_getElem? (i := 58) (by decide +kernel), by decide +kernel⟩
theorem kF_X3_25 : (Cond.fieldLink RX3 25 RX3 "toMiss" "I" : Cond) ∈ WS := List.mem_filter.mpr ⟨List.mem_of_getElem? (i := 59) (by decide +kernel), by decide +kernel⟩
theorem kN_X5_75 : (Cond.fieldLinkNest RX5 75 RX3 "toMiss" "I" RX5 : Cond) ∈ o_N := List.mem_filter.mpr ⟨List.mem_of_getElem? (i := 60) (by decide +kernel), by decide +kernel⟩
theorem kF_X3_28 : (Cond.fieldLink RX3 28 RX3 "accepted" "I" : Cond) ∈ WS := List.mem_filter.mpr ⟨List.mem_of_getElem? (i := 61) (by decide +kernel), by decide +kernel⟩
theorem kN_X4_60 : (Cond.fieldLinkNest RX4 60 RX3 "accepted" "I" RX5 : Cond) ∈ o_N := List.mem_filter.mpr ⟨List.mem_of_getElem? (i := 62) (by decide +kernel), by decide +kernel⟩
theorem kN_X5_88 : (Cond.fieldLinkNest RX5 88 RX3 "accepted" "I" RX5 : Cond) ∈ o_N := List.mem_filter.mpr ⟨List.mem_of_getElem? (i := 63) (by decide +kernel), by decide +kernel⟩
theorem kF_X3_31 : (Cond.fieldLink RX3 31 RX3 "apartInRow" "I" : Cond) ∈ WS := List.mem_filter.mpr ⟨List.mem_of_getElem? (i := 64) (by decide +kernel), by decide +kernel⟩
theorem kN_X4_27 : (Cond.fieldLinkNest RX4 27 RX3 "apartInRow" "I" RX5 : Cond) ∈ o_N := List.mem_filter.mpr ⟨List.mem_of_getElem? (i := 65) (by decide +kernel), by decide +kernel⟩
theorem kN_X5_91 : (Cond.fieldLinkNest RX5 91 RX3 "apartInRow" "I" RX5 : Cond) ∈ o_N := List.mem_filter.mpr ⟨List.mem_of_getElem? (i := 66) (by decide +kernel), by decide +kernel⟩
theorem kF_X3_34 : (Cond.fieldLink RX3 34 RX3 "settings" "[I" : Cond) ∈ WS := List.mem_filter.mpr ⟨List.mem_of_getElem? (i := 67) (by decide +kernel), by decide +kernel⟩
theorem kN_X4_37 : (Cond.fieldLinkNest RX4 37 RX3 "settings" "[I" RX5 : Cond) ∈ o_N := List.mem_filter.mpr ⟨List.mem_of_getElem? (i := 68) (by decide +kernel), by decide +kernel⟩
theorem kN_X5_148 : (Cond.fieldLinkNest RX5 148 RX3 "settings" "[I" RX5 : Cond) ∈ o_N := List.mem_filter.mpr ⟨List.mem_of_getElem? (i := 69) (by decide +kernel), by decide +kernel⟩
theorem kF_X3_38 : (Cond.fieldLink RX3 38 RX3 "errors" "[I" : Cond) ∈ WS := List.mem_filter.mpr ⟨List.mem_of_getElem? (i := 70) (by decide +kernel), by decide +kernel⟩
theorem kN_X5_116 : (Cond.fieldLinkNest RX5 116 RX3 "errors" "[I" RX5 : Cond) ∈ o_N := List.mem_filter.mpr ⟨List.mem_of_getElem? (i := 71) (by decide +kernel), by decide +kernel⟩
theorem kF_X3_41 : (Cond.fieldLink RX3 41 RX3 "noises" "[I" : Cond) ∈ WS := List.mem_filter.mpr ⟨List.mem_of_getElem? (i := 72) (by decide +kernel), by decide +kernel⟩
theorem kN_X5_136 : (Cond.fieldLinkNest RX5 136 RX3 "noises" "[I" RX5 : Cond) ∈ o_N := List.mem_filter.mpr ⟨List.mem_of_getElem? (i := 73) (by decide +kernel), by decide +kernel⟩
theorem kF_X3_44 : (Cond.fieldLink RX3 44 RX3 "corrections" "[I" : Cond) ∈ WS := List.mem_filter.mpr ⟨List.mem_of_getElem? (i := 74) (by decide +kernel), by decide +kernel⟩
theorem kN_X5_171 : (Cond.fieldLinkNest RX5 171 RX3 "corrections" "[I" RX5 : Cond) ∈ o_N := List.mem_filter.mpr ⟨List.mem_of_getElem? (i := 75) (by decide +kernel), by decide +kernel⟩
theorem kA_int : (Cond.arrayClass .int : Cond) ∈ WS := List.mem_filter.mpr ⟨List.mem_of_getElem? (i := 99) (by decide +kernel), by decide +kernel⟩
theorem kL_X5_16 : (Cond.classLink RX5 16 RX2 : Cond) ∈ WS := List.mem_filter.mpr ⟨List.mem_of_getElem? (i := 100) (by decide +kernel), by decide +kernel⟩
theorem kT_X2 : (Cond.instantiable RX2 3 : Cond) ∈ WS := List.mem_filter.mpr ⟨List.mem_of_getElem? (i := 101) (by decide +kernel), by decide +kernel⟩
theorem kN_X5_18 : (Cond.methodLinkNest RX5 18 yX2_init RX5 : Cond) ∈ o_N := List.mem_filter.mpr ⟨List.mem_of_getElem? (i := 102) (by decide +kernel), by decide +kernel⟩
theorem kI_X2_init : (Cond.instanceMethod yX2_init : Cond) ∈ WS := List.mem_filter.mpr ⟨List.mem_of_getElem? (i := 103) (by decide +kernel), by decide +kernel⟩
theorem kC_X2_init : (Cond.code yX2_init cX2_init 1 none : Cond) ∈ WS := List.mem_filter.mpr ⟨List.mem_of_getElem? (i := 104) (by decide +kernel), by decide +kernel⟩
theorem kM_X2_3 : (Cond.methodLink RX2 3 Lib.objectInit : Cond) ∈ WS := List.mem_filter.mpr ⟨List.mem_of_getElem? (i := 105) (by decide +kernel), by decide +kernel⟩
theorem kL_X2_9 : (Cond.classLink RX2 9 RX3 : Cond) ∈ WS := List.mem_filter.mpr ⟨List.mem_of_getElem? (i := 106) (by decide +kernel), by decide +kernel⟩
theorem kA_State : (Cond.arrayOver (.object RX3) : Cond) ∈ lw_tbl := List.mem_of_getElem? (i := 107) (by decide +kernel)
theorem kN_X2_11 : (Cond.methodLinkNest RX2 11 yX3_init RX5 : Cond) ∈ o_N := List.mem_filter.mpr ⟨List.mem_of_getElem? (i := 108) (by decide +kernel), by decide +kernel⟩
theorem kF_X2_12 : (Cond.fieldLink RX2 12 RX2 "states" "[LVernierEncoder$State;" : Cond) ∈ WS := List.mem_filter.mpr ⟨List.mem_of_getElem? (i := 109) (by decide +kernel), by decide +kernel⟩
theorem kF_X2_18 : (Cond.fieldLink RX2 18 RX2 "oldest" "I" : Cond) ∈ WS := List.mem_filter.mpr ⟨List.mem_of_getElem? (i := 110) (by decide +kernel), by decide +kernel⟩
theorem kF_X2_22 : (Cond.fieldLink RX2 22 RX2 "size" "I" : Cond) ∈ WS := List.mem_filter.mpr ⟨List.mem_of_getElem? (i := 111) (by decide +kernel), by decide +kernel⟩
theorem kN_X5_100 : (Cond.fieldLinkNest RX5 100 RX2 "size" "I" RX5 : Cond) ∈ o_N := List.mem_filter.mpr ⟨List.mem_of_getElem? (i := 112) (by decide +kernel), by decide +kernel⟩
theorem kL_X5_23 : (Cond.classLink RX5 23 RX1 : Cond) ∈ WS := List.mem_filter.mpr ⟨List.mem_of_getElem? (i := 120) (by decide +kernel), by decide +kernel⟩
theorem kT_X1 : (Cond.instantiable RX1 4 : Cond) ∈ WS := List.mem_filter.mpr ⟨List.mem_of_getElem? (i := 121) (by decide +kernel), by decide +kernel⟩
theorem kN_X5_25 : (Cond.methodLinkNest RX5 25 yX1_init RX5 : Cond) ∈ o_N := List.mem_filter.mpr ⟨List.mem_of_getElem? (i := 122) (by decide +kernel), by decide +kernel⟩
theorem kI_X1_init : (Cond.instanceMethod yX1_init : Cond) ∈ WS := List.mem_filter.mpr ⟨List.mem_of_getElem? (i := 123) (by decide +kernel), by decide +kernel⟩
theorem kC_X1_init : (Cond.code yX1_init cX1_init 1 none : Cond) ∈ WS := List.mem_filter.mpr ⟨List.mem_of_getElem? (i := 124) (by decide +kernel), by decide +kernel⟩
theorem kM_X1_1 : (Cond.methodLink RX1 1 Lib.objectInit : Cond) ∈ WS := List.mem_filter.mpr ⟨List.mem_of_getElem? (i := 125) (by decide +kernel), by decide +kernel⟩
theorem kF_X1_7 : (Cond.fieldLink RX1 7 RX1 "first" "I" : Cond) ∈ WS := List.mem_filter.mpr ⟨List.mem_of_getElem? (i := 126) (by decide +kernel), by decide +kernel⟩
theorem kN_X5_190 : (Cond.fieldLinkNest RX5 190 RX1 "first" "I" RX5 : Cond) ∈ o_N := List.mem_filter.mpr ⟨List.mem_of_getElem? (i := 127) (by decide +kernel), by decide +kernel⟩
theorem kF_X1_13 : (Cond.fieldLink RX1 13 RX1 "last" "I" : Cond) ∈ WS := List.mem_filter.mpr ⟨List.mem_of_getElem? (i := 128) (by decide +kernel), by decide +kernel⟩
theorem kN_X4_45 : (Cond.fieldLinkNest RX4 45 RX1 "last" "I" RX5 : Cond) ∈ o_N := List.mem_filter.mpr ⟨List.mem_of_getElem? (i := 129) (by decide +kernel), by decide +kernel⟩
theorem kN_X5_184 : (Cond.fieldLinkNest RX5 184 RX1 "last" "I" RX5 : Cond) ∈ o_N := List.mem_filter.mpr ⟨List.mem_of_getElem? (i := 130) (by decide +kernel), by decide +kernel⟩
theorem kF_X1_16 : (Cond.fieldLink RX1 16 RX1 "lastDeviation" "I" : Cond) ∈ WS := List.mem_filter.mpr ⟨List.mem_of_getElem? (i := 131) (by decide +kernel), by decide +kernel⟩
theorem kN_X4_32 : (Cond.fieldLinkNest RX4 32 RX1 "lastDeviation" "I" RX5 : Cond) ∈ o_N := List.mem_filter.mpr ⟨List.mem_of_getElem? (i := 132) (by decide +kernel), by decide +kernel⟩
theorem kN_X5_187 : (Cond.fieldLinkNest RX5 187 RX1 "lastDeviation" "I" RX5 : Cond) ∈ o_N := List.mem_filter.mpr ⟨List.mem_of_getElem? (i := 133) (by decide +kernel), by decide +kernel⟩
theorem kF_X1_19 : (Cond.fieldLink RX1 19 RX1 "angles" "I" : Cond) ∈ WS := List.mem_filter.mpr ⟨List.mem_of_getElem? (i := 134) (by decide +kernel), by decide +kernel⟩
theorem kN_X5_193 : (Cond.fieldLinkNest RX5 193 RX1 "angles" "I" RX5 : Cond) ∈ o_N := List.mem_filter.mpr ⟨List.mem_of_getElem? (i := 135) (by decide +kernel), by decide +kernel⟩
theorem kL_X5_30 : (Cond.classLink RX5 30 RX4 : Cond) ∈ WS := List.mem_filter.mpr ⟨List.mem_of_getElem? (i := 145) (by decide +kernel), by decide +kernel⟩
theorem kT_X4 : (Cond.instantiable RX4 4 : Cond) ∈ WS := List.mem_filter.mpr ⟨List.mem_of_getElem? (i := 146) (by decide +kernel), by decide +kernel⟩
theorem kN_X5_32 : (Cond.methodLinkNest RX5 32 yX4_init RX5 : Cond) ∈ o_N := List.mem_filter.mpr ⟨List.mem_of_getElem? (i := 147) (by decide +kernel), by decide +kernel⟩
theorem kI_X4_init : (Cond.instanceMethod yX4_init : Cond) ∈ WS := List.mem_filter.mpr ⟨List.mem_of_getElem? (i := 148) (by decide +kernel), by decide +kernel⟩
theorem kC_X4_init : (Cond.code yX4_init cX4_init 1 none : Cond) ∈ WS := List.mem_filter.mpr ⟨List.mem_of_getElem? (i := 149) (by decide +kernel), by decide +kernel⟩
theorem kM_X4_3 : (Cond.methodLink RX4 3 Lib.objectInit : Cond) ∈ WS := List.mem_filter.mpr ⟨List.mem_of_getElem? (i := 150) (by decide +kernel), by decide +kernel⟩
theorem kF_X4_9 : (Cond.fieldLink RX4 9 RX4 "refusal" "I" : Cond) ∈ WS := List.mem_filter.mpr ⟨List.mem_of_getElem? (i := 151) (by decide +kernel), by decide +kernel⟩
theorem kN_X5_208 : (Cond.fieldLinkNest RX5 208 RX4 "refusal" "I" RX5 : Cond) ∈ o_N := List.mem_filter.mpr ⟨List.mem_of_getElem? (i := 152) (by decide +kernel), by decide +kernel⟩
theorem kF_X4_15 : (Cond.fieldLink RX4 15 RX4 "counter" "I" : Cond) ∈ WS := List.mem_filter.mpr ⟨List.mem_of_getElem? (i := 153) (by decide +kernel), by decide +kernel⟩
theorem kN_X5_206 : (Cond.fieldLinkNest RX5 206 RX4 "counter" "I" RX5 : Cond) ∈ o_N := List.mem_filter.mpr ⟨List.mem_of_getElem? (i := 154) (by decide +kernel), by decide +kernel⟩
theorem kF_X4_18 : (Cond.fieldLink RX4 18 RX4 "apartInRow" "I" : Cond) ∈ WS := List.mem_filter.mpr ⟨List.mem_of_getElem? (i := 155) (by decide +kernel), by decide +kernel⟩
theorem kN_X5_207 : (Cond.fieldLinkNest RX5 207 RX4 "apartInRow" "I" RX5 : Cond) ∈ o_N := List.mem_filter.mpr ⟨List.mem_of_getElem? (i := 156) (by decide +kernel), by decide +kernel⟩
theorem kF_X4_21 : (Cond.fieldLink RX4 21 RX4 "place" "I" : Cond) ∈ WS := List.mem_filter.mpr ⟨List.mem_of_getElem? (i := 157) (by decide +kernel), by decide +kernel⟩
theorem kN_X5_212 : (Cond.fieldLinkNest RX5 212 RX4 "place" "I" RX5 : Cond) ∈ o_N := List.mem_filter.mpr ⟨List.mem_of_getElem? (i := 158) (by decide +kernel), by decide +kernel⟩
theorem kL_X5_37 : (Cond.classLink RX5 37 RX0 : Cond) ∈ WS := List.mem_filter.mpr ⟨List.mem_of_getElem? (i := 168) (by decide +kernel), by decide +kernel⟩
theorem kT_X0 : (Cond.instantiable RX0 7 : Cond) ∈ WS := List.mem_filter.mpr ⟨List.mem_of_getElem? (i := 169) (by decide +kernel), by decide +kernel⟩
theorem kN_X5_39 : (Cond.methodLinkNest RX5 39 yX0_init RX5 : Cond) ∈ o_N := List.mem_filter.mpr ⟨List.mem_of_getElem? (i := 170) (by decide +kernel), by decide +kernel⟩
theorem kI_X0_init : (Cond.instanceMethod yX0_init : Cond) ∈ WS := List.mem_filter.mpr ⟨List.mem_of_getElem? (i := 171) (by decide +kernel), by decide +kernel⟩
theorem kC_X0_init : (Cond.code yX0_init cX0_init 1 none : Cond) ∈ WS := List.mem_filter.mpr ⟨List.mem_of_getElem? (i := 172) (by decide +kernel), by decide +kernel⟩
theorem kM_X0_3 : (Cond.methodLink RX0 3 Lib.objectInit : Cond) ∈ WS := List.mem_filter.mpr ⟨List.mem_of_getElem? (i := 173) (by decide +kernel), by decide +kernel⟩
theorem kF_X0_9 : (Cond.fieldLink RX0 9 RX0 "characters" "[I" : Cond) ∈ WS := List.mem_filter.mpr ⟨List.mem_of_getElem? (i := 174) (by decide +kernel), by decide +kernel⟩
theorem kF_X0_15 : (Cond.fieldLink RX0 15 RX0 "length" "I" : Cond) ∈ WS := List.mem_filter.mpr ⟨List.mem_of_getElem? (i := 175) (by decide +kernel), by decide +kernel⟩
theorem kN_X5_103 : (Cond.fieldLinkNest RX5 103 RX0 "length" "I" RX5 : Cond) ∈ o_N := List.mem_filter.mpr ⟨List.mem_of_getElem? (i := 176) (by decide +kernel), by decide +kernel⟩
theorem kF_X0_19 : (Cond.fieldLink RX0 19 RX0 "table" "[I" : Cond) ∈ WS := List.mem_filter.mpr ⟨List.mem_of_getElem? (i := 177) (by decide +kernel), by decide +kernel⟩
theorem kF_X0_22 : (Cond.fieldLink RX0 22 RX0 "named" "[I" : Cond) ∈ WS := List.mem_filter.mpr ⟨List.mem_of_getElem? (i := 178) (by decide +kernel), by decide +kernel⟩
theorem kF_X0_25 : (Cond.fieldLink RX0 25 RX0 "scanned" "I" : Cond) ∈ WS := List.mem_filter.mpr ⟨List.mem_of_getElem? (i := 179) (by decide +kernel), by decide +kernel⟩
theorem kF_X0_28 : (Cond.fieldLink RX0 28 RX0 "faultPosition" "I" : Cond) ∈ WS := List.mem_filter.mpr ⟨List.mem_of_getElem? (i := 180) (by decide +kernel), by decide +kernel⟩
theorem kN_X5_226 : (Cond.fieldLinkNest RX5 226 RX0 "faultPosition" "I" RX5 : Cond) ∈ o_N := List.mem_filter.mpr ⟨List.mem_of_getElem? (i := 181) (by decide +kernel), by decide +kernel⟩
theorem kF_X0_31 : (Cond.fieldLink RX0 31 RX0 "faultReason" "I" : Cond) ∈ WS := List.mem_filter.mpr ⟨List.mem_of_getElem? (i := 182) (by decide +kernel), by decide +kernel⟩
theorem kN_X5_223 : (Cond.fieldLinkNest RX5 223 RX0 "faultReason" "I" RX5 : Cond) ∈ o_N := List.mem_filter.mpr ⟨List.mem_of_getElem? (i := 183) (by decide +kernel), by decide +kernel⟩
theorem kF_X5_12 : (Cond.fieldLink RX5 12 RX5 "now" "LVernierEncoder$State;" : Cond) ∈ WS := List.mem_filter.mpr ⟨List.mem_of_getElem? (i := 199) (by decide +kernel), by decide +kernel⟩
theorem kF_X5_19 : (Cond.fieldLink RX5 19 RX5 "history" "LVernierEncoder$History;" : Cond) ∈ WS := List.mem_filter.mpr ⟨List.mem_of_getElem? (i := 200) (by decide +kernel), by decide +kernel⟩
theorem kF_X5_26 : (Cond.fieldLink RX5 26 RX5 "finding" "LVernierEncoder$Finding;" : Cond) ∈ WS := List.mem_filter.mpr ⟨List.mem_of_getElem? (i := 201) (by decide +kernel), by decide +kernel⟩
theorem kF_X5_33 : (Cond.fieldLink RX5 33 RX5 "trial" "LVernierEncoder$Trial;" : Cond) ∈ WS := List.mem_filter.mpr ⟨List.mem_of_getElem? (i := 202) (by decide +kernel), by decide +kernel⟩
theorem kF_X5_40 : (Cond.fieldLink RX5 40 RX5 "entries" "LVernierEncoder$Entries;" : Cond) ∈ WS := List.mem_filter.mpr ⟨List.mem_of_getElem? (i := 203) (by decide +kernel), by decide +kernel⟩
theorem kM_L_131 : (Cond.methodLink RL 131 yX5_undo : Cond) ∈ WS := List.mem_filter.mpr ⟨List.mem_of_getElem? (i := 215) (by decide +kernel), by decide +kernel⟩
theorem kI_X5_undo : (Cond.instanceMethod yX5_undo : Cond) ∈ WS := List.mem_filter.mpr ⟨List.mem_of_getElem? (i := 216) (by decide +kernel), by decide +kernel⟩
theorem kV_X5_undo : (Cond.selects RX5 yX5_undo yX5_undo : Cond) ∈ WS := List.mem_filter.mpr ⟨List.mem_of_getElem? (i := 217) (by decide +kernel), by decide +kernel⟩
theorem kC_X5_undo : (Cond.code yX5_undo cX5_undo 1 (some .int) : Cond) ∈ WS := List.mem_filter.mpr ⟨List.mem_of_getElem? (i := 218) (by decide +kernel), by decide +kernel⟩
theorem kN_X5_109 : (Cond.methodLinkNest RX5 109 yX2_restoreLatest RX5 : Cond) ∈ o_N := List.mem_filter.mpr ⟨List.mem_of_getElem? (i := 219) (by decide +kernel), by decide +kernel⟩
theorem kI_X2_restoreLatest : (Cond.instanceMethod yX2_restoreLatest : Cond) ∈ WS := List.mem_filter.mpr ⟨List.mem_of_getElem? (i := 221) (by decide +kernel), by decide +kernel⟩
theorem kC_X2_restoreLatest : (Cond.code yX2_restoreLatest cX2_restoreLatest 3 none : Cond) ∈ WS := List.mem_filter.mpr ⟨List.mem_of_getElem? (i := 222) (by decide +kernel), by decide +kernel⟩
theorem kM_X2_29 : (Cond.methodLink RX2 29 yX2_slot : Cond) ∈ WS := List.mem_filter.mpr ⟨List.mem_of_getElem? (i := 223) (by decide +kernel), by decide +kernel⟩
theorem kI_X2_slot : (Cond.instanceMethod yX2_slot : Cond) ∈ WS := List.mem_filter.mpr ⟨List.mem_of_getElem? (i := 225) (by decide +kernel), by decide +kernel⟩
theorem kC_X2_slot : (Cond.code yX2_slot cX2_slot 3 (some (.object RX3)) : Cond) ∈ WS := List.mem_filter.mpr ⟨List.mem_of_getElem? (i := 226) (by decide +kernel), by decide +kernel⟩
theorem kN_X2_25 : (Cond.methodLinkNest RX2 25 yX5_remainder RX5 : Cond) ∈ o_N := List.mem_filter.mpr ⟨List.mem_of_getElem? (i := 227) (by decide +kernel), by decide +kernel⟩
theorem kS_X5_remainder : (Cond.static yX5_remainder : Cond) ∈ WS := List.mem_filter.mpr ⟨List.mem_of_getElem? (i := 228) (by decide +kernel), by decide +kernel⟩
theorem kC_X5_remainder : (Cond.code yX5_remainder cX5_remainder 3 (some .int) : Cond) ∈ WS := List.mem_filter.mpr ⟨List.mem_of_getElem? (i := 229) (by decide +kernel), by decide +kernel⟩
theorem kN_X2_33 : (Cond.methodLinkNest RX2 33 yX3_copyFrom RX5 : Cond) ∈ o_N := List.mem_filter.mpr ⟨List.mem_of_getElem? (i := 230) (by decide +kernel), by decide +kernel⟩
theorem kI_X3_copyFrom : (Cond.instanceMethod yX3_copyFrom : Cond) ∈ WS := List.mem_filter.mpr ⟨List.mem_of_getElem? (i := 232) (by decide +kernel), by decide +kernel⟩
theorem kC_X3_copyFrom : (Cond.code yX3_copyFrom cX3_copyFrom 2 none : Cond) ∈ WS := List.mem_filter.mpr ⟨List.mem_of_getElem? (i := 233) (by decide +kernel), by decide +kernel⟩
theorem kN_X3_47 : (Cond.methodLinkNest RX3 47 yX5_copy RX5 : Cond) ∈ o_N := List.mem_filter.mpr ⟨List.mem_of_getElem? (i := 234) (by decide +kernel), by decide +kernel⟩
theorem kS_X5_copy : (Cond.static yX5_copy : Cond) ∈ WS := List.mem_filter.mpr ⟨List.mem_of_getElem? (i := 235) (by decide +kernel), by decide +kernel⟩
theorem kC_X5_copy : (Cond.code yX5_copy cX5_copy 3 none : Cond) ∈ WS := List.mem_filter.mpr ⟨List.mem_of_getElem? (i := 236) (by decide +kernel), by decide +kernel⟩
theorem kM_L_57 : (Cond.methodLink RL 57 yX5_noise : Cond) ∈ WS := List.mem_filter.mpr ⟨List.mem_of_getElem? (i := 237) (by decide +kernel), by decide +kernel⟩
theorem kI_X5_noise : (Cond.instanceMethod yX5_noise : Cond) ∈ WS := List.mem_filter.mpr ⟨List.mem_of_getElem? (i := 238) (by decide +kernel), by decide +kernel⟩
theorem kV_X5_noise : (Cond.selects RX5 yX5_noise yX5_noise : Cond) ∈ WS := List.mem_filter.mpr ⟨List.mem_of_getElem? (i := 239) (by decide +kernel), by decide +kernel⟩
theorem kC_X5_noise : (Cond.code yX5_noise cX5_noise 4 (some .int) : Cond) ∈ WS := List.mem_filter.mpr ⟨List.mem_of_getElem? (i := 240) (by decide +kernel), by decide +kernel⟩
theorem kM_X5_132 : (Cond.methodLink RX5 132 yX5_isTrack : Cond) ∈ WS := List.mem_filter.mpr ⟨List.mem_of_getElem? (i := 241) (by decide +kernel), by decide +kernel⟩
theorem kS_X5_isTrack : (Cond.static yX5_isTrack : Cond) ∈ WS := List.mem_filter.mpr ⟨List.mem_of_getElem? (i := 242) (by decide +kernel), by decide +kernel⟩
theorem kC_X5_isTrack : (Cond.code yX5_isTrack cX5_isTrack 1 (some .boolean) : Cond) ∈ WS := List.mem_filter.mpr ⟨List.mem_of_getElem? (i := 243) (by decide +kernel), by decide +kernel⟩
theorem kM_X5_44 : (Cond.methodLink RX5 44 yX5_isOutside : Cond) ∈ WS := List.mem_filter.mpr ⟨List.mem_of_getElem? (i := 244) (by decide +kernel), by decide +kernel⟩
theorem kS_X5_isOutside : (Cond.static yX5_isOutside : Cond) ∈ WS := List.mem_filter.mpr ⟨List.mem_of_getElem? (i := 245) (by decide +kernel), by decide +kernel⟩
theorem kC_X5_isOutside : (Cond.code yX5_isOutside cX5_isOutside 3 (some .boolean) : Cond) ∈ WS := List.mem_filter.mpr ⟨List.mem_of_getElem? (i := 246) (by decide +kernel), by decide +kernel⟩
theorem kN_X5_53 : (Cond.methodLinkNest RX5 53 yX2_keep RX5 : Cond) ∈ o_N := List.mem_filter.mpr ⟨List.mem_of_getElem? (i := 247) (by decide +kernel), by decide +kernel⟩
theorem kI_X2_keep : (Cond.instanceMethod yX2_keep : Cond) ∈ WS := List.mem_filter.mpr ⟨List.mem_of_getElem? (i := 249) (by decide +kernel), by decide +kernel⟩
theorem kC_X2_keep : (Cond.code yX2_keep cX2_keep 3 none : Cond) ∈ WS := List.mem_filter.mpr ⟨List.mem_of_getElem? (i := 250) (by decide +kernel), by decide +kernel⟩
theorem kM_X5_124 : (Cond.methodLink RX5 124 yX5_at : Cond) ∈ WS := List.mem_filter.mpr ⟨List.mem_of_getElem? (i := 251) (by decide +kernel), by decide +kernel⟩
theorem kS_X5_at : (Cond.static yX5_at : Cond) ∈ WS := List.mem_filter.mpr ⟨List.mem_of_getElem? (i := 252) (by decide +kernel), by decide +kernel⟩
theorem kC_X5_at : (Cond.code yX5_at cX5_at 2 (some .int) : Cond) ∈ WS := List.mem_filter.mpr ⟨List.mem_of_getElem? (i := 253) (by decide +kernel), by decide +kernel⟩
theorem kM_X5_128 : (Cond.methodLink RX5 128 yX5_put : Cond) ∈ WS := List.mem_filter.mpr ⟨List.mem_of_getElem? (i := 254) (by decide +kernel), by decide +kernel⟩
theorem kS_X5_put : (Cond.static yX5_put : Cond) ∈ WS := List.mem_filter.mpr ⟨List.mem_of_getElem? (i := 255) (by decide +kernel), by decide +kernel⟩
theorem kC_X5_put : (Cond.code yX5_put cX5_put 3 none : Cond) ∈ WS := List.mem_filter.mpr ⟨List.mem_of_getElem? (i := 256) (by decide +kernel), by decide +kernel⟩
theorem kM_L_60 : (Cond.methodLink RL 60 yX5_set : Cond) ∈ WS := List.mem_filter.mpr ⟨List.mem_of_getElem? (i := 257) (by decide +kernel), by decide +kernel⟩
theorem kI_X5_set : (Cond.instanceMethod yX5_set : Cond) ∈ WS := List.mem_filter.mpr ⟨List.mem_of_getElem? (i := 258) (by decide +kernel), by decide +kernel⟩
theorem kV_X5_set : (Cond.selects RX5 yX5_set yX5_set : Cond) ∈ WS := List.mem_filter.mpr ⟨List.mem_of_getElem? (i := 259) (by decide +kernel), by decide +kernel⟩
theorem kC_X5_set : (Cond.code yX5_set cX5_set 4 (some .int) : Cond) ∈ WS := List.mem_filter.mpr ⟨List.mem_of_getElem? (i := 260) (by decide +kernel), by decide +kernel⟩
theorem kF_X5_139 : (Cond.fieldLink RX5 139 RX5 "LEAST_SETTINGS" "[I" : Cond) ∈ WS := List.mem_filter.mpr ⟨List.mem_of_getElem? (i := 261) (by decide +kernel), by decide +kernel⟩
theorem kZ_LEAST_SETTINGS : (Cond.laysStatic RX5 "LEAST_SETTINGS" "[I" : Cond) ∈ lw_tbl := List.mem_of_getElem? (i := 262) (by decide +kernel)
theorem kF_X5_142 : (Cond.fieldLink RX5 142 RX5 "GREATEST_SETTINGS" "[I" : Cond) ∈ WS := List.mem_filter.mpr ⟨List.mem_of_getElem? (i := 263) (by decide +kernel), by decide +kernel⟩
theorem kZ_GREATEST_SETTINGS : (Cond.laysStatic RX5 "GREATEST_SETTINGS" "[I" : Cond) ∈ lw_tbl := List.mem_of_getElem? (i := 264) (by decide +kernel)
theorem kM_X5_145 : (Cond.methodLink RX5 145 yX5_shownSetting : Cond) ∈ WS := List.mem_filter.mpr ⟨List.mem_of_getElem? (i := 265) (by decide +kernel), by decide +kernel⟩
theorem kI_X5_shownSetting : (Cond.instanceMethod yX5_shownSetting : Cond) ∈ WS := List.mem_filter.mpr ⟨List.mem_of_getElem? (i := 267) (by decide +kernel), by decide +kernel⟩
theorem kC_X5_shownSetting : (Cond.code yX5_shownSetting cX5_shownSetting 3 (some .int) : Cond) ∈ WS := List.mem_filter.mpr ⟨List.mem_of_getElem? (i := 268) (by decide +kernel), by decide +kernel⟩
theorem kM_L_63 : (Cond.methodLink RL 63 yX5_correct : Cond) ∈ WS := List.mem_filter.mpr ⟨List.mem_of_getElem? (i := 269) (by decide +kernel), by decide +kernel⟩
theorem kI_X5_correct : (Cond.instanceMethod yX5_correct : Cond) ∈ WS := List.mem_filter.mpr ⟨List.mem_of_getElem? (i := 270) (by decide +kernel), by decide +kernel⟩
theorem kV_X5_correct : (Cond.selects RX5 yX5_correct yX5_correct : Cond) ∈ WS := List.mem_filter.mpr ⟨List.mem_of_getElem? (i := 271) (by decide +kernel), by decide +kernel⟩
theorem kC_X5_correct : (Cond.code yX5_correct cX5_correct 5 (some .int) : Cond) ∈ WS := List.mem_filter.mpr ⟨List.mem_of_getElem? (i := 272) (by decide +kernel), by decide +kernel⟩
theorem kM_X5_112 : (Cond.methodLink RX5 112 yX5_isCell : Cond) ∈ WS := List.mem_filter.mpr ⟨List.mem_of_getElem? (i := 273) (by decide +kernel), by decide +kernel⟩
theorem kS_X5_isCell : (Cond.static yX5_isCell : Cond) ∈ WS := List.mem_filter.mpr ⟨List.mem_of_getElem? (i := 274) (by decide +kernel), by decide +kernel⟩
theorem kC_X5_isCell : (Cond.code yX5_isCell cX5_isCell 2 (some .boolean) : Cond) ∈ WS := List.mem_filter.mpr ⟨List.mem_of_getElem? (i := 275) (by decide +kernel), by decide +kernel⟩
theorem kM_X5_120 : (Cond.methodLink RX5 120 yX5_cell : Cond) ∈ WS := List.mem_filter.mpr ⟨List.mem_of_getElem? (i := 276) (by decide +kernel), by decide +kernel⟩
theorem kS_X5_cell : (Cond.static yX5_cell : Cond) ∈ WS := List.mem_filter.mpr ⟨List.mem_of_getElem? (i := 277) (by decide +kernel), by decide +kernel⟩
theorem kC_X5_cell : (Cond.code yX5_cell cX5_cell 2 (some .int) : Cond) ∈ WS := List.mem_filter.mpr ⟨List.mem_of_getElem? (i := 278) (by decide +kernel), by decide +kernel⟩
theorem kM_L_140 : (Cond.methodLink RL 140 yL_cell : Cond) ∈ WS := List.mem_filter.mpr ⟨List.mem_of_getElem? (i := 279) (by decide +kernel), by decide +kernel⟩
theorem kS_L_cell : (Cond.static yL_cell : Cond) ∈ WS := List.mem_filter.mpr ⟨List.mem_of_getElem? (i := 280) (by decide +kernel), by decide +kernel⟩
theorem kC_L_cell : (Cond.code yL_cell cL_cell 3 (some .int) : Cond) ∈ WS := List.mem_filter.mpr ⟨List.mem_of_getElem? (i := 281) (by decide +kernel), by decide +kernel⟩
theorem kK_L_7 : (Cond.constant RL 7 916318735 : Cond) ∈ WS := List.mem_filter.mpr ⟨List.mem_of_getElem? (i := 282) (by decide +kernel), by decide +kernel⟩
theorem kM_L_106 : (Cond.methodLink RL 106 yL_low : Cond) ∈ WS := List.mem_filter.mpr ⟨List.mem_of_getElem? (i := 283) (by decide +kernel), by decide +kernel⟩
theorem kS_L_low : (Cond.static yL_low : Cond) ∈ WS := List.mem_filter.mpr ⟨List.mem_of_getElem? (i := 284) (by decide +kernel), by decide +kernel⟩
theorem kC_L_low : (Cond.code yL_low cL_low 2 (some .int) : Cond) ∈ WS := List.mem_filter.mpr ⟨List.mem_of_getElem? (i := 285) (by decide +kernel), by decide +kernel⟩
theorem kK_L_8 : (Cond.constant RL 8 2147483647 : Cond) ∈ WS := List.mem_filter.mpr ⟨List.mem_of_getElem? (i := 286) (by decide +kernel), by decide +kernel⟩
theorem kM_L_37 : (Cond.methodLink RL 37 yL_sum : Cond) ∈ WS := List.mem_filter.mpr ⟨List.mem_of_getElem? (i := 287) (by decide +kernel), by decide +kernel⟩
theorem kS_L_sum : (Cond.static yL_sum : Cond) ∈ WS := List.mem_filter.mpr ⟨List.mem_of_getElem? (i := 288) (by decide +kernel), by decide +kernel⟩
theorem kC_L_sum : (Cond.code yL_sum cL_sum 4 (some .long) : Cond) ∈ WS := List.mem_filter.mpr ⟨List.mem_of_getElem? (i := 289) (by decide +kernel), by decide +kernel⟩
theorem kJ_L_15 : (Cond.constantLong RL 15 17 : Cond) ∈ WS := List.mem_filter.mpr ⟨List.mem_of_getElem? (i := 290) (by decide +kernel), by decide +kernel⟩
theorem kJ_L_17 : (Cond.constantLong RL 17 31 : Cond) ∈ WS := List.mem_filter.mpr ⟨List.mem_of_getElem? (i := 291) (by decide +kernel), by decide +kernel⟩
theorem kM_L_19 : (Cond.methodLink RL 19 yX5_count : Cond) ∈ WS := List.mem_filter.mpr ⟨List.mem_of_getElem? (i := 292) (by decide +kernel), by decide +kernel⟩
theorem kI_X5_count : (Cond.instanceMethod yX5_count : Cond) ∈ WS := List.mem_filter.mpr ⟨List.mem_of_getElem? (i := 293) (by decide +kernel), by decide +kernel⟩
theorem kV_X5_count : (Cond.selects RX5 yX5_count yX5_count : Cond) ∈ WS := List.mem_filter.mpr ⟨List.mem_of_getElem? (i := 294) (by decide +kernel), by decide +kernel⟩
theorem kC_X5_count : (Cond.code yX5_count cX5_count 2 (some .int) : Cond) ∈ WS := List.mem_filter.mpr ⟨List.mem_of_getElem? (i := 295) (by decide +kernel), by decide +kernel⟩
theorem kN_X5_81 : (Cond.methodLinkNest RX5 81 yX3_angle RX5 : Cond) ∈ o_N := List.mem_filter.mpr ⟨List.mem_of_getElem? (i := 296) (by decide +kernel), by decide +kernel⟩
theorem kI_X3_angle : (Cond.instanceMethod yX3_angle : Cond) ∈ WS := List.mem_filter.mpr ⟨List.mem_of_getElem? (i := 298) (by decide +kernel), by decide +kernel⟩
theorem kC_X3_angle : (Cond.code yX3_angle cX3_angle 1 (some .int) : Cond) ∈ WS := List.mem_filter.mpr ⟨List.mem_of_getElem? (i := 299) (by decide +kernel), by decide +kernel⟩
theorem kN_X3_51 : (Cond.methodLinkNest RX3 51 yX5_remainder RX5 : Cond) ∈ o_N := List.mem_filter.mpr ⟨List.mem_of_getElem? (i := 300) (by decide +kernel), by decide +kernel⟩
theorem kM_X5_71 : (Cond.methodLink RX5 71 yX5_toNumber : Cond) ∈ WS := List.mem_filter.mpr ⟨List.mem_of_getElem? (i := 301) (by decide +kernel), by decide +kernel⟩
theorem kS_X5_toNumber : (Cond.static yX5_toNumber : Cond) ∈ WS := List.mem_filter.mpr ⟨List.mem_of_getElem? (i := 302) (by decide +kernel), by decide +kernel⟩
theorem kC_X5_toNumber : (Cond.code yX5_toNumber cX5_toNumber 1 (some .int) : Cond) ∈ WS := List.mem_filter.mpr ⟨List.mem_of_getElem? (i := 303) (by decide +kernel), by decide +kernel⟩
theorem kN_X5_94 : (Cond.methodLinkNest RX5 94 yX3_coarse RX5 : Cond) ∈ o_N := List.mem_filter.mpr ⟨List.mem_of_getElem? (i := 304) (by decide +kernel), by decide +kernel⟩
theorem kI_X3_coarse : (Cond.instanceMethod yX3_coarse : Cond) ∈ WS := List.mem_filter.mpr ⟨List.mem_of_getElem? (i := 306) (by decide +kernel), by decide +kernel⟩
theorem kC_X3_coarse : (Cond.code yX3_coarse cX3_coarse 2 (some .int) : Cond) ∈ WS := List.mem_filter.mpr ⟨List.mem_of_getElem? (i := 307) (by decide +kernel), by decide +kernel⟩
theorem kM_X3_55 : (Cond.methodLink RX3 55 yX3_angle : Cond) ∈ WS := List.mem_filter.mpr ⟨List.mem_of_getElem? (i := 308) (by decide +kernel), by decide +kernel⟩
theorem kN_X3_59 : (Cond.methodLinkNest RX3 59 yX5_at RX5 : Cond) ∈ o_N := List.mem_filter.mpr ⟨List.mem_of_getElem? (i := 309) (by decide +kernel), by decide +kernel⟩
theorem kN_X5_97 : (Cond.methodLinkNest RX5 97 yX3_correctionsInUse RX5 : Cond) ∈ o_N := List.mem_filter.mpr ⟨List.mem_of_getElem? (i := 310) (by decide +kernel), by decide +kernel⟩
theorem kI_X3_correctionsInUse : (Cond.instanceMethod yX3_correctionsInUse : Cond) ∈ WS := List.mem_filter.mpr ⟨List.mem_of_getElem? (i := 312) (by decide +kernel), by decide +kernel⟩
theorem kC_X3_correctionsInUse : (Cond.code yX3_correctionsInUse cX3_correctionsInUse 3 (some .int) : Cond) ∈ WS := List.mem_filter.mpr ⟨List.mem_of_getElem? (i := 313) (by decide +kernel), by decide +kernel⟩
theorem kM_X5_106 : (Cond.methodLink RX5 106 yX5_settingCount : Cond) ∈ WS := List.mem_filter.mpr ⟨List.mem_of_getElem? (i := 314) (by decide +kernel), by decide +kernel⟩
theorem kI_X5_settingCount : (Cond.instanceMethod yX5_settingCount : Cond) ∈ WS := List.mem_filter.mpr ⟨List.mem_of_getElem? (i := 316) (by decide +kernel), by decide +kernel⟩
theorem kC_X5_settingCount : (Cond.code yX5_settingCount cX5_settingCount 2 (some .int) : Cond) ∈ WS := List.mem_filter.mpr ⟨List.mem_of_getElem? (i := 317) (by decide +kernel), by decide +kernel⟩
theorem kM_L_25 : (Cond.methodLink RL 25 yX5_correction : Cond) ∈ WS := List.mem_filter.mpr ⟨List.mem_of_getElem? (i := 318) (by decide +kernel), by decide +kernel⟩
theorem kI_X5_correction : (Cond.instanceMethod yX5_correction : Cond) ∈ WS := List.mem_filter.mpr ⟨List.mem_of_getElem? (i := 319) (by decide +kernel), by decide +kernel⟩
theorem kV_X5_correction : (Cond.selects RX5 yX5_correction yX5_correction : Cond) ∈ WS := List.mem_filter.mpr ⟨List.mem_of_getElem? (i := 320) (by decide +kernel), by decide +kernel⟩
theorem kC_X5_correction : (Cond.code yX5_correction cX5_correction 3 (some .int) : Cond) ∈ WS := List.mem_filter.mpr ⟨List.mem_of_getElem? (i := 321) (by decide +kernel), by decide +kernel⟩
theorem kJ_L_28 : (Cond.constantLong RL 28 4 : Cond) ∈ WS := List.mem_filter.mpr ⟨List.mem_of_getElem? (i := 322) (by decide +kernel), by decide +kernel⟩
theorem kM_L_30 : (Cond.methodLink RL 30 yX5_reading : Cond) ∈ WS := List.mem_filter.mpr ⟨List.mem_of_getElem? (i := 323) (by decide +kernel), by decide +kernel⟩
theorem kI_X5_reading : (Cond.instanceMethod yX5_reading : Cond) ∈ WS := List.mem_filter.mpr ⟨List.mem_of_getElem? (i := 324) (by decide +kernel), by decide +kernel⟩
theorem kV_X5_reading : (Cond.selects RX5 yX5_reading yX5_reading : Cond) ∈ WS := List.mem_filter.mpr ⟨List.mem_of_getElem? (i := 325) (by decide +kernel), by decide +kernel⟩
theorem kC_X5_reading : (Cond.code yX5_reading cX5_reading 2 (some .int) : Cond) ∈ WS := List.mem_filter.mpr ⟨List.mem_of_getElem? (i := 326) (by decide +kernel), by decide +kernel⟩
theorem kN_X5_151 : (Cond.methodLinkNest RX5 151 yX3_readingAt RX5 : Cond) ∈ o_N := List.mem_filter.mpr ⟨List.mem_of_getElem? (i := 327) (by decide +kernel), by decide +kernel⟩
theorem kI_X3_readingAt : (Cond.instanceMethod yX3_readingAt : Cond) ∈ WS := List.mem_filter.mpr ⟨List.mem_of_getElem? (i := 329) (by decide +kernel), by decide +kernel⟩
theorem kC_X3_readingAt : (Cond.code yX3_readingAt cX3_readingAt 4 (some .int) : Cond) ∈ WS := List.mem_filter.mpr ⟨List.mem_of_getElem? (i := 330) (by decide +kernel), by decide +kernel⟩
theorem kN_X3_63 : (Cond.methodLinkNest RX3 63 yX5_sectorOf RX5 : Cond) ∈ o_N := List.mem_filter.mpr ⟨List.mem_of_getElem? (i := 331) (by decide +kernel), by decide +kernel⟩
theorem kS_X5_sectorOf : (Cond.static yX5_sectorOf : Cond) ∈ WS := List.mem_filter.mpr ⟨List.mem_of_getElem? (i := 332) (by decide +kernel), by decide +kernel⟩
theorem kC_X5_sectorOf : (Cond.code yX5_sectorOf cX5_sectorOf 1 (some .int) : Cond) ∈ WS := List.mem_filter.mpr ⟨List.mem_of_getElem? (i := 333) (by decide +kernel), by decide +kernel⟩
theorem kN_X3_67 : (Cond.methodLinkNest RX3 67 yX5_cell RX5 : Cond) ∈ o_N := List.mem_filter.mpr ⟨List.mem_of_getElem? (i := 334) (by decide +kernel), by decide +kernel⟩
theorem kN_X3_70 : (Cond.fieldLinkNest RX3 70 RX5 "LENGTHS" "[I" RX5 : Cond) ∈ o_N := List.mem_filter.mpr ⟨List.mem_of_getElem? (i := 335) (by decide +kernel), by decide +kernel⟩
theorem kZ_LENGTHS : (Cond.laysStatic RX5 "LENGTHS" "[I" : Cond) ∈ lw_tbl := List.mem_of_getElem? (i := 336) (by decide +kernel)
theorem kM_L_33 : (Cond.methodLink RL 33 yX5_poor : Cond) ∈ WS := List.mem_filter.mpr ⟨List.mem_of_getElem? (i := 337) (by decide +kernel), by decide +kernel⟩
theorem kI_X5_poor : (Cond.instanceMethod yX5_poor : Cond) ∈ WS := List.mem_filter.mpr ⟨List.mem_of_getElem? (i := 338) (by decide +kernel), by decide +kernel⟩
theorem kV_X5_poor : (Cond.selects RX5 yX5_poor yX5_poor : Cond) ∈ WS := List.mem_filter.mpr ⟨List.mem_of_getElem? (i := 339) (by decide +kernel), by decide +kernel⟩
theorem kC_X5_poor : (Cond.code yX5_poor cX5_poor 3 (some .int) : Cond) ∈ WS := List.mem_filter.mpr ⟨List.mem_of_getElem? (i := 340) (by decide +kernel), by decide +kernel⟩
theorem kN_X5_199 : (Cond.methodLinkNest RX5 199 yX3_isPoor RX5 : Cond) ∈ o_N := List.mem_filter.mpr ⟨List.mem_of_getElem? (i := 341) (by decide +kernel), by decide +kernel⟩
theorem kI_X3_isPoor : (Cond.instanceMethod yX3_isPoor : Cond) ∈ WS := List.mem_filter.mpr ⟨List.mem_of_getElem? (i := 343) (by decide +kernel), by decide +kernel⟩
theorem kC_X3_isPoor : (Cond.code yX3_isPoor cX3_isPoor 5 (some .boolean) : Cond) ∈ WS := List.mem_filter.mpr ⟨List.mem_of_getElem? (i := 344) (by decide +kernel), by decide +kernel⟩
theorem kM_X3_76 : (Cond.methodLink RX3 76 Lib.Math.abs.name : Cond) ∈ WS := List.mem_filter.mpr ⟨List.mem_of_getElem? (i := 345) (by decide +kernel), by decide +kernel⟩
theorem kS_Math_abs : (Cond.static Lib.Math.abs.name : Cond) ∈ WS := List.mem_filter.mpr ⟨List.mem_of_getElem? (i := 346) (by decide +kernel), by decide +kernel⟩
theorem kC_Math_abs : (Cond.code Lib.Math.abs.name Lib.Math.abs.code 1 (some .int) : Cond) ∈ WS := List.mem_filter.mpr ⟨List.mem_of_getElem? (i := 347) (by decide +kernel), by decide +kernel⟩
theorem kM_L_134 : (Cond.methodLink RL 134 yL_refused : Cond) ∈ WS := List.mem_filter.mpr ⟨List.mem_of_getElem? (i := 348) (by decide +kernel), by decide +kernel⟩
theorem kS_L_refused : (Cond.static yL_refused : Cond) ∈ WS := List.mem_filter.mpr ⟨List.mem_of_getElem? (i := 349) (by decide +kernel), by decide +kernel⟩
theorem kC_L_refused : (Cond.code yL_refused cL_refused 5 (some .boolean) : Cond) ∈ WS := List.mem_filter.mpr ⟨List.mem_of_getElem? (i := 350) (by decide +kernel), by decide +kernel⟩
theorem kM_L_41 : (Cond.methodLink RL 41 yX5_turn : Cond) ∈ WS := List.mem_filter.mpr ⟨List.mem_of_getElem? (i := 351) (by decide +kernel), by decide +kernel⟩
theorem kI_X5_turn : (Cond.instanceMethod yX5_turn : Cond) ∈ WS := List.mem_filter.mpr ⟨List.mem_of_getElem? (i := 352) (by decide +kernel), by decide +kernel⟩
theorem kV_X5_turn : (Cond.selects RX5 yX5_turn yX5_turn : Cond) ∈ WS := List.mem_filter.mpr ⟨List.mem_of_getElem? (i := 353) (by decide +kernel), by decide +kernel⟩
theorem kC_X5_turn : (Cond.code yX5_turn cX5_turn 6 (some .int) : Cond) ∈ WS := List.mem_filter.mpr ⟨List.mem_of_getElem? (i := 354) (by decide +kernel), by decide +kernel⟩
theorem kK_X5_52 : (Cond.constant RX5 52 65279 : Cond) ∈ WS := List.mem_filter.mpr ⟨List.mem_of_getElem? (i := 355) (by decide +kernel), by decide +kernel⟩
theorem kM_X5_57 : (Cond.methodLink RX5 57 Lib.Math.abs.name : Cond) ∈ WS := List.mem_filter.mpr ⟨List.mem_of_getElem? (i := 356) (by decide +kernel), by decide +kernel⟩
theorem kN_X5_63 : (Cond.methodLinkNest RX5 63 yX3_crossBound RX5 : Cond) ∈ o_N := List.mem_filter.mpr ⟨List.mem_of_getElem? (i := 357) (by decide +kernel), by decide +kernel⟩
theorem kI_X3_crossBound : (Cond.instanceMethod yX3_crossBound : Cond) ∈ WS := List.mem_filter.mpr ⟨List.mem_of_getElem? (i := 359) (by decide +kernel), by decide +kernel⟩
theorem kC_X3_crossBound : (Cond.code yX3_crossBound cX3_crossBound 2 none : Cond) ∈ WS := List.mem_filter.mpr ⟨List.mem_of_getElem? (i := 360) (by decide +kernel), by decide +kernel⟩
theorem kM_L_44 : (Cond.methodLink RL 44 yX5_power : Cond) ∈ WS := List.mem_filter.mpr ⟨List.mem_of_getElem? (i := 361) (by decide +kernel), by decide +kernel⟩
theorem kI_X5_power : (Cond.instanceMethod yX5_power : Cond) ∈ WS := List.mem_filter.mpr ⟨List.mem_of_getElem? (i := 362) (by decide +kernel), by decide +kernel⟩
theorem kV_X5_power : (Cond.selects RX5 yX5_power yX5_power : Cond) ∈ WS := List.mem_filter.mpr ⟨List.mem_of_getElem? (i := 363) (by decide +kernel), by decide +kernel⟩
theorem kC_X5_power : (Cond.code yX5_power cX5_power 3 (some .int) : Cond) ∈ WS := List.mem_filter.mpr ⟨List.mem_of_getElem? (i := 364) (by decide +kernel), by decide +kernel⟩
theorem kM_L_47 : (Cond.methodLink RL 47 yX5_brownout : Cond) ∈ WS := List.mem_filter.mpr ⟨List.mem_of_getElem? (i := 365) (by decide +kernel), by decide +kernel⟩
theorem kI_X5_brownout : (Cond.instanceMethod yX5_brownout : Cond) ∈ WS := List.mem_filter.mpr ⟨List.mem_of_getElem? (i := 366) (by decide +kernel), by decide +kernel⟩
theorem kV_X5_brownout : (Cond.selects RX5 yX5_brownout yX5_brownout : Cond) ∈ WS := List.mem_filter.mpr ⟨List.mem_of_getElem? (i := 367) (by decide +kernel), by decide +kernel⟩
theorem kC_X5_brownout : (Cond.code yX5_brownout cX5_brownout 2 (some .int) : Cond) ∈ WS := List.mem_filter.mpr ⟨List.mem_of_getElem? (i := 368) (by decide +kernel), by decide +kernel⟩
theorem kM_L_50 : (Cond.methodLink RL 50 yX5_charge : Cond) ∈ WS := List.mem_filter.mpr ⟨List.mem_of_getElem? (i := 369) (by decide +kernel), by decide +kernel⟩
theorem kI_X5_charge : (Cond.instanceMethod yX5_charge : Cond) ∈ WS := List.mem_filter.mpr ⟨List.mem_of_getElem? (i := 370) (by decide +kernel), by decide +kernel⟩
theorem kV_X5_charge : (Cond.selects RX5 yX5_charge yX5_charge : Cond) ∈ WS := List.mem_filter.mpr ⟨List.mem_of_getElem? (i := 371) (by decide +kernel), by decide +kernel⟩
theorem kC_X5_charge : (Cond.code yX5_charge cX5_charge 3 (some .int) : Cond) ∈ WS := List.mem_filter.mpr ⟨List.mem_of_getElem? (i := 372) (by decide +kernel), by decide +kernel⟩
theorem kM_L_53 : (Cond.methodLink RL 53 yX5_disk : Cond) ∈ WS := List.mem_filter.mpr ⟨List.mem_of_getElem? (i := 373) (by decide +kernel), by decide +kernel⟩
theorem kI_X5_disk : (Cond.instanceMethod yX5_disk : Cond) ∈ WS := List.mem_filter.mpr ⟨List.mem_of_getElem? (i := 374) (by decide +kernel), by decide +kernel⟩
theorem kV_X5_disk : (Cond.selects RX5 yX5_disk yX5_disk : Cond) ∈ WS := List.mem_filter.mpr ⟨List.mem_of_getElem? (i := 375) (by decide +kernel), by decide +kernel⟩
theorem kC_X5_disk : (Cond.code yX5_disk cX5_disk 5 (some .int) : Cond) ∈ WS := List.mem_filter.mpr ⟨List.mem_of_getElem? (i := 376) (by decide +kernel), by decide +kernel⟩
theorem kM_L_66 : (Cond.methodLink RL 66 yX5_look : Cond) ∈ WS := List.mem_filter.mpr ⟨List.mem_of_getElem? (i := 377) (by decide +kernel), by decide +kernel⟩
theorem kI_X5_look : (Cond.instanceMethod yX5_look : Cond) ∈ WS := List.mem_filter.mpr ⟨List.mem_of_getElem? (i := 378) (by decide +kernel), by decide +kernel⟩
theorem kV_X5_look : (Cond.selects RX5 yX5_look yX5_look : Cond) ∈ WS := List.mem_filter.mpr ⟨List.mem_of_getElem? (i := 379) (by decide +kernel), by decide +kernel⟩
theorem kC_X5_look : (Cond.code yX5_look cX5_look 2 (some .int) : Cond) ∈ WS := List.mem_filter.mpr ⟨List.mem_of_getElem? (i := 380) (by decide +kernel), by decide +kernel⟩
theorem kN_X5_180 : (Cond.methodLinkNest RX5 180 yX1_search RX5 : Cond) ∈ o_N := List.mem_filter.mpr ⟨List.mem_of_getElem? (i := 381) (by decide +kernel), by decide +kernel⟩
theorem kI_X1_search : (Cond.instanceMethod yX1_search : Cond) ∈ WS := List.mem_filter.mpr ⟨List.mem_of_getElem? (i := 383) (by decide +kernel), by decide +kernel⟩
theorem kC_X1_search : (Cond.code yX1_search cX1_search 4 none : Cond) ∈ WS := List.mem_filter.mpr ⟨List.mem_of_getElem? (i := 384) (by decide +kernel), by decide +kernel⟩
theorem kN_X1_22 : (Cond.methodLinkNest RX1 22 yX3_readingAt RX5 : Cond) ∈ o_N := List.mem_filter.mpr ⟨List.mem_of_getElem? (i := 385) (by decide +kernel), by decide +kernel⟩
theorem kN_X1_28 : (Cond.methodLinkNest RX1 28 yX5_nearestAngle RX5 : Cond) ∈ o_N := List.mem_filter.mpr ⟨List.mem_of_getElem? (i := 386) (by decide +kernel), by decide +kernel⟩
theorem kS_X5_nearestAngle : (Cond.static yX5_nearestAngle : Cond) ∈ WS := List.mem_filter.mpr ⟨List.mem_of_getElem? (i := 387) (by decide +kernel), by decide +kernel⟩
theorem kC_X5_nearestAngle : (Cond.code yX5_nearestAngle cX5_nearestAngle 7 (some .int) : Cond) ∈ WS := List.mem_filter.mpr ⟨List.mem_of_getElem? (i := 388) (by decide +kernel), by decide +kernel⟩
theorem kM_X5_161 : (Cond.methodLink RX5 161 yX5_deviation : Cond) ∈ WS := List.mem_filter.mpr ⟨List.mem_of_getElem? (i := 389) (by decide +kernel), by decide +kernel⟩
theorem kS_X5_deviation : (Cond.static yX5_deviation : Cond) ∈ WS := List.mem_filter.mpr ⟨List.mem_of_getElem? (i := 390) (by decide +kernel), by decide +kernel⟩
theorem kC_X5_deviation : (Cond.code yX5_deviation cX5_deviation 7 (some .int) : Cond) ∈ WS := List.mem_filter.mpr ⟨List.mem_of_getElem? (i := 391) (by decide +kernel), by decide +kernel⟩
theorem kF_X5_165 : (Cond.fieldLink RX5 165 RX5 "LENGTHS" "[I" : Cond) ∈ WS := List.mem_filter.mpr ⟨List.mem_of_getElem? (i := 392) (by decide +kernel), by decide +kernel⟩
theorem kM_X5_214 : (Cond.methodLink RX5 214 yX5_distance : Cond) ∈ WS := List.mem_filter.mpr ⟨List.mem_of_getElem? (i := 393) (by decide +kernel), by decide +kernel⟩
theorem kS_X5_distance : (Cond.static yX5_distance : Cond) ∈ WS := List.mem_filter.mpr ⟨List.mem_of_getElem? (i := 394) (by decide +kernel), by decide +kernel⟩
theorem kC_X5_distance : (Cond.code yX5_distance cX5_distance 3 (some .int) : Cond) ∈ WS := List.mem_filter.mpr ⟨List.mem_of_getElem? (i := 395) (by decide +kernel), by decide +kernel⟩
theorem kM_X5_168 : (Cond.methodLink RX5 168 yX5_remainder : Cond) ∈ WS := List.mem_filter.mpr ⟨List.mem_of_getElem? (i := 396) (by decide +kernel), by decide +kernel⟩
theorem kM_X5_239 : (Cond.methodLink RX5 239 Lib.Math.min.name : Cond) ∈ WS := List.mem_filter.mpr ⟨List.mem_of_getElem? (i := 397) (by decide +kernel), by decide +kernel⟩
theorem kS_Math_min : (Cond.static Lib.Math.min.name : Cond) ∈ WS := List.mem_filter.mpr ⟨List.mem_of_getElem? (i := 398) (by decide +kernel), by decide +kernel⟩
theorem kC_Math_min : (Cond.code Lib.Math.min.name Lib.Math.min.code 2 (some .int) : Cond) ∈ WS := List.mem_filter.mpr ⟨List.mem_of_getElem? (i := 399) (by decide +kernel), by decide +kernel⟩
theorem kM_X5_196 : (Cond.methodLink RX5 196 Lib.Math.max.name : Cond) ∈ WS := List.mem_filter.mpr ⟨List.mem_of_getElem? (i := 400) (by decide +kernel), by decide +kernel⟩
theorem kS_Math_max : (Cond.static Lib.Math.max.name : Cond) ∈ WS := List.mem_filter.mpr ⟨List.mem_of_getElem? (i := 401) (by decide +kernel), by decide +kernel⟩
theorem kC_Math_max : (Cond.code Lib.Math.max.name Lib.Math.max.code 2 (some .int) : Cond) ∈ WS := List.mem_filter.mpr ⟨List.mem_of_getElem? (i := 402) (by decide +kernel), by decide +kernel⟩
theorem kN_X1_34 : (Cond.methodLinkNest RX1 34 yX5_sectorOf RX5 : Cond) ∈ o_N := List.mem_filter.mpr ⟨List.mem_of_getElem? (i := 403) (by decide +kernel), by decide +kernel⟩
theorem kM_X1_38 : (Cond.methodLink RX1 38 yX1_searchCorrected : Cond) ∈ WS := List.mem_filter.mpr ⟨List.mem_of_getElem? (i := 404) (by decide +kernel), by decide +kernel⟩
theorem kI_X1_searchCorrected : (Cond.instanceMethod yX1_searchCorrected : Cond) ∈ WS := List.mem_filter.mpr ⟨List.mem_of_getElem? (i := 406) (by decide +kernel), by decide +kernel⟩
theorem kC_X1_searchCorrected : (Cond.code yX1_searchCorrected cX1_searchCorrected 7 none : Cond) ∈ WS := List.mem_filter.mpr ⟨List.mem_of_getElem? (i := 407) (by decide +kernel), by decide +kernel⟩
theorem kN_X1_42 : (Cond.methodLinkNest RX1 42 yX3_corrected RX5 : Cond) ∈ o_N := List.mem_filter.mpr ⟨List.mem_of_getElem? (i := 408) (by decide +kernel), by decide +kernel⟩
theorem kI_X3_corrected : (Cond.instanceMethod yX3_corrected : Cond) ∈ WS := List.mem_filter.mpr ⟨List.mem_of_getElem? (i := 410) (by decide +kernel), by decide +kernel⟩
theorem kC_X3_corrected : (Cond.code yX3_corrected cX3_corrected 4 (some .int) : Cond) ∈ WS := List.mem_filter.mpr ⟨List.mem_of_getElem? (i := 411) (by decide +kernel), by decide +kernel⟩
theorem kN_X1_45 : (Cond.methodLinkNest RX1 45 yX5_deviation RX5 : Cond) ∈ o_N := List.mem_filter.mpr ⟨List.mem_of_getElem? (i := 412) (by decide +kernel), by decide +kernel⟩
theorem kM_L_69 : (Cond.methodLink RL 69 yX5_survey : Cond) ∈ WS := List.mem_filter.mpr ⟨List.mem_of_getElem? (i := 413) (by decide +kernel), by decide +kernel⟩
theorem kI_X5_survey : (Cond.instanceMethod yX5_survey : Cond) ∈ WS := List.mem_filter.mpr ⟨List.mem_of_getElem? (i := 414) (by decide +kernel), by decide +kernel⟩
theorem kV_X5_survey : (Cond.selects RX5 yX5_survey yX5_survey : Cond) ∈ WS := List.mem_filter.mpr ⟨List.mem_of_getElem? (i := 415) (by decide +kernel), by decide +kernel⟩
theorem kC_X5_survey : (Cond.code yX5_survey cX5_survey 7 (some .int) : Cond) ∈ WS := List.mem_filter.mpr ⟨List.mem_of_getElem? (i := 416) (by decide +kernel), by decide +kernel⟩
theorem kM_L_72 : (Cond.methodLink RL 72 yX5_found : Cond) ∈ WS := List.mem_filter.mpr ⟨List.mem_of_getElem? (i := 417) (by decide +kernel), by decide +kernel⟩
theorem kI_X5_found : (Cond.instanceMethod yX5_found : Cond) ∈ WS := List.mem_filter.mpr ⟨List.mem_of_getElem? (i := 418) (by decide +kernel), by decide +kernel⟩
theorem kV_X5_found : (Cond.selects RX5 yX5_found yX5_found : Cond) ∈ WS := List.mem_filter.mpr ⟨List.mem_of_getElem? (i := 419) (by decide +kernel), by decide +kernel⟩
theorem kC_X5_found : (Cond.code yX5_found cX5_found 6 (some .int) : Cond) ∈ WS := List.mem_filter.mpr ⟨List.mem_of_getElem? (i := 420) (by decide +kernel), by decide +kernel⟩
theorem kM_X5_154 : (Cond.methodLink RX5 154 yX5_isReading : Cond) ∈ WS := List.mem_filter.mpr ⟨List.mem_of_getElem? (i := 421) (by decide +kernel), by decide +kernel⟩
theorem kS_X5_isReading : (Cond.static yX5_isReading : Cond) ∈ WS := List.mem_filter.mpr ⟨List.mem_of_getElem? (i := 422) (by decide +kernel), by decide +kernel⟩
theorem kC_X5_isReading : (Cond.code yX5_isReading cX5_isReading 2 (some .boolean) : Cond) ∈ WS := List.mem_filter.mpr ⟨List.mem_of_getElem? (i := 423) (by decide +kernel), by decide +kernel⟩
theorem kM_X5_157 : (Cond.methodLink RX5 157 yX5_nearestAngle : Cond) ∈ WS := List.mem_filter.mpr ⟨List.mem_of_getElem? (i := 424) (by decide +kernel), by decide +kernel⟩
theorem kM_L_76 : (Cond.methodLink RL 76 yX5_byTwo : Cond) ∈ WS := List.mem_filter.mpr ⟨List.mem_of_getElem? (i := 425) (by decide +kernel), by decide +kernel⟩
theorem kI_X5_byTwo : (Cond.instanceMethod yX5_byTwo : Cond) ∈ WS := List.mem_filter.mpr ⟨List.mem_of_getElem? (i := 426) (by decide +kernel), by decide +kernel⟩
theorem kV_X5_byTwo : (Cond.selects RX5 yX5_byTwo yX5_byTwo : Cond) ∈ WS := List.mem_filter.mpr ⟨List.mem_of_getElem? (i := 427) (by decide +kernel), by decide +kernel⟩
theorem kC_X5_byTwo : (Cond.code yX5_byTwo cX5_byTwo 6 (some .int) : Cond) ∈ WS := List.mem_filter.mpr ⟨List.mem_of_getElem? (i := 428) (by decide +kernel), by decide +kernel⟩
theorem kM_L_79 : (Cond.methodLink RL 79 yX5_type : Cond) ∈ WS := List.mem_filter.mpr ⟨List.mem_of_getElem? (i := 429) (by decide +kernel), by decide +kernel⟩
theorem kI_X5_type : (Cond.instanceMethod yX5_type : Cond) ∈ WS := List.mem_filter.mpr ⟨List.mem_of_getElem? (i := 430) (by decide +kernel), by decide +kernel⟩
theorem kV_X5_type : (Cond.selects RX5 yX5_type yX5_type : Cond) ∈ WS := List.mem_filter.mpr ⟨List.mem_of_getElem? (i := 431) (by decide +kernel), by decide +kernel⟩
theorem kC_X5_type : (Cond.code yX5_type cX5_type 2 (some .int) : Cond) ∈ WS := List.mem_filter.mpr ⟨List.mem_of_getElem? (i := 432) (by decide +kernel), by decide +kernel⟩
theorem kN_X5_217 : (Cond.methodLinkNest RX5 217 yX0_append RX5 : Cond) ∈ o_N := List.mem_filter.mpr ⟨List.mem_of_getElem? (i := 433) (by decide +kernel), by decide +kernel⟩
theorem kI_X0_append : (Cond.instanceMethod yX0_append : Cond) ∈ WS := List.mem_filter.mpr ⟨List.mem_of_getElem? (i := 435) (by decide +kernel), by decide +kernel⟩
theorem kC_X0_append : (Cond.code yX0_append cX0_append 2 none : Cond) ∈ WS := List.mem_filter.mpr ⟨List.mem_of_getElem? (i := 436) (by decide +kernel), by decide +kernel⟩
theorem kN_X0_34 : (Cond.methodLinkNest RX0 34 yX5_put RX5 : Cond) ∈ o_N := List.mem_filter.mpr ⟨List.mem_of_getElem? (i := 437) (by decide +kernel), by decide +kernel⟩
theorem kM_L_82 : (Cond.methodLink RL 82 yX5_fault : Cond) ∈ WS := List.mem_filter.mpr ⟨List.mem_of_getElem? (i := 438) (by decide +kernel), by decide +kernel⟩
theorem kI_X5_fault : (Cond.instanceMethod yX5_fault : Cond) ∈ WS := List.mem_filter.mpr ⟨List.mem_of_getElem? (i := 439) (by decide +kernel), by decide +kernel⟩
theorem kV_X5_fault : (Cond.selects RX5 yX5_fault yX5_fault : Cond) ∈ WS := List.mem_filter.mpr ⟨List.mem_of_getElem? (i := 440) (by decide +kernel), by decide +kernel⟩
theorem kC_X5_fault : (Cond.code yX5_fault cX5_fault 2 (some .int) : Cond) ∈ WS := List.mem_filter.mpr ⟨List.mem_of_getElem? (i := 441) (by decide +kernel), by decide +kernel⟩
theorem kN_X5_220 : (Cond.methodLinkNest RX5 220 yX0_scan RX5 : Cond) ∈ o_N := List.mem_filter.mpr ⟨List.mem_of_getElem? (i := 442) (by decide +kernel), by decide +kernel⟩
theorem kI_X0_scan : (Cond.instanceMethod yX0_scan : Cond) ∈ WS := List.mem_filter.mpr ⟨List.mem_of_getElem? (i := 444) (by decide +kernel), by decide +kernel⟩
theorem kC_X0_scan : (Cond.code yX0_scan cX0_scan 2 none : Cond) ∈ WS := List.mem_filter.mpr ⟨List.mem_of_getElem? (i := 445) (by decide +kernel), by decide +kernel⟩
theorem kM_X0_38 : (Cond.methodLink RX0 38 yX0_entryFault : Cond) ∈ WS := List.mem_filter.mpr ⟨List.mem_of_getElem? (i := 446) (by decide +kernel), by decide +kernel⟩
theorem kI_X0_entryFault : (Cond.instanceMethod yX0_entryFault : Cond) ∈ WS := List.mem_filter.mpr ⟨List.mem_of_getElem? (i := 448) (by decide +kernel), by decide +kernel⟩
theorem kC_X0_entryFault : (Cond.code yX0_entryFault cX0_entryFault 2 (some .int) : Cond) ∈ WS := List.mem_filter.mpr ⟨List.mem_of_getElem? (i := 449) (by decide +kernel), by decide +kernel⟩
theorem kM_X0_46 : (Cond.methodLink RX0 46 yX0_entryLength : Cond) ∈ WS := List.mem_filter.mpr ⟨List.mem_of_getElem? (i := 450) (by decide +kernel), by decide +kernel⟩
theorem kI_X0_entryLength : (Cond.instanceMethod yX0_entryLength : Cond) ∈ WS := List.mem_filter.mpr ⟨List.mem_of_getElem? (i := 452) (by decide +kernel), by decide +kernel⟩
theorem kC_X0_entryLength : (Cond.code yX0_entryLength cX0_entryLength 4 (some .int) : Cond) ∈ WS := List.mem_filter.mpr ⟨List.mem_of_getElem? (i := 453) (by decide +kernel), by decide +kernel⟩
theorem kM_X0_76 : (Cond.methodLink RX0 76 yX0_characterAt : Cond) ∈ WS := List.mem_filter.mpr ⟨List.mem_of_getElem? (i := 454) (by decide +kernel), by decide +kernel⟩
theorem kI_X0_characterAt : (Cond.instanceMethod yX0_characterAt : Cond) ∈ WS := List.mem_filter.mpr ⟨List.mem_of_getElem? (i := 456) (by decide +kernel), by decide +kernel⟩
theorem kC_X0_characterAt : (Cond.code yX0_characterAt cX0_characterAt 2 (some .int) : Cond) ∈ WS := List.mem_filter.mpr ⟨List.mem_of_getElem? (i := 457) (by decide +kernel), by decide +kernel⟩
theorem kN_X0_72 : (Cond.methodLinkNest RX0 72 yX5_at RX5 : Cond) ∈ o_N := List.mem_filter.mpr ⟨List.mem_of_getElem? (i := 458) (by decide +kernel), by decide +kernel⟩
theorem kM_X0_79 : (Cond.methodLink RX0 79 yX0_isDigit : Cond) ∈ WS := List.mem_filter.mpr ⟨List.mem_of_getElem? (i := 459) (by decide +kernel), by decide +kernel⟩
theorem kI_X0_isDigit : (Cond.instanceMethod yX0_isDigit : Cond) ∈ WS := List.mem_filter.mpr ⟨List.mem_of_getElem? (i := 461) (by decide +kernel), by decide +kernel⟩
theorem kC_X0_isDigit : (Cond.code yX0_isDigit cX0_isDigit 2 (some .boolean) : Cond) ∈ WS := List.mem_filter.mpr ⟨List.mem_of_getElem? (i := 462) (by decide +kernel), by decide +kernel⟩
theorem kN_X0_85 : (Cond.methodLinkNest RX0 85 yX5_isOutside RX5 : Cond) ∈ o_N := List.mem_filter.mpr ⟨List.mem_of_getElem? (i := 463) (by decide +kernel), by decide +kernel⟩
theorem kM_X0_55 : (Cond.methodLink RX0 55 yX0_digitAt : Cond) ∈ WS := List.mem_filter.mpr ⟨List.mem_of_getElem? (i := 464) (by decide +kernel), by decide +kernel⟩
theorem kI_X0_digitAt : (Cond.instanceMethod yX0_digitAt : Cond) ∈ WS := List.mem_filter.mpr ⟨List.mem_of_getElem? (i := 466) (by decide +kernel), by decide +kernel⟩
theorem kC_X0_digitAt : (Cond.code yX0_digitAt cX0_digitAt 2 (some .int) : Cond) ∈ WS := List.mem_filter.mpr ⟨List.mem_of_getElem? (i := 467) (by decide +kernel), by decide +kernel⟩
theorem kN_X0_58 : (Cond.methodLinkNest RX0 58 yX5_isTrack RX5 : Cond) ∈ o_N := List.mem_filter.mpr ⟨List.mem_of_getElem? (i := 468) (by decide +kernel), by decide +kernel⟩
theorem kN_X0_62 : (Cond.methodLinkNest RX0 62 yX5_isCell RX5 : Cond) ∈ o_N := List.mem_filter.mpr ⟨List.mem_of_getElem? (i := 469) (by decide +kernel), by decide +kernel⟩
theorem kM_X0_66 : (Cond.methodLink RX0 66 yX0_amount : Cond) ∈ WS := List.mem_filter.mpr ⟨List.mem_of_getElem? (i := 470) (by decide +kernel), by decide +kernel⟩
theorem kI_X0_amount : (Cond.instanceMethod yX0_amount : Cond) ∈ WS := List.mem_filter.mpr ⟨List.mem_of_getElem? (i := 472) (by decide +kernel), by decide +kernel⟩
theorem kC_X0_amount : (Cond.code yX0_amount cX0_amount 3 (some .int) : Cond) ∈ WS := List.mem_filter.mpr ⟨List.mem_of_getElem? (i := 473) (by decide +kernel), by decide +kernel⟩
theorem kM_X0_69 : (Cond.methodLink RX0 69 yX0_entryCell : Cond) ∈ WS := List.mem_filter.mpr ⟨List.mem_of_getElem? (i := 474) (by decide +kernel), by decide +kernel⟩
theorem kI_X0_entryCell : (Cond.instanceMethod yX0_entryCell : Cond) ∈ WS := List.mem_filter.mpr ⟨List.mem_of_getElem? (i := 476) (by decide +kernel), by decide +kernel⟩
theorem kC_X0_entryCell : (Cond.code yX0_entryCell cX0_entryCell 2 (some .int) : Cond) ∈ WS := List.mem_filter.mpr ⟨List.mem_of_getElem? (i := 477) (by decide +kernel), by decide +kernel⟩
theorem kN_X0_82 : (Cond.methodLinkNest RX0 82 yX5_cell RX5 : Cond) ∈ o_N := List.mem_filter.mpr ⟨List.mem_of_getElem? (i := 478) (by decide +kernel), by decide +kernel⟩
theorem kM_X0_42 : (Cond.methodLink RX0 42 yX0_takeEntry : Cond) ∈ WS := List.mem_filter.mpr ⟨List.mem_of_getElem? (i := 479) (by decide +kernel), by decide +kernel⟩
theorem kI_X0_takeEntry : (Cond.instanceMethod yX0_takeEntry : Cond) ∈ WS := List.mem_filter.mpr ⟨List.mem_of_getElem? (i := 481) (by decide +kernel), by decide +kernel⟩
theorem kC_X0_takeEntry : (Cond.code yX0_takeEntry cX0_takeEntry 3 none : Cond) ∈ WS := List.mem_filter.mpr ⟨List.mem_of_getElem? (i := 482) (by decide +kernel), by decide +kernel⟩
theorem kM_X0_49 : (Cond.methodLink RX0 49 Lib.Math.max.name : Cond) ∈ WS := List.mem_filter.mpr ⟨List.mem_of_getElem? (i := 483) (by decide +kernel), by decide +kernel⟩
theorem kM_L_85 : (Cond.methodLink RL 85 yX5_sample : Cond) ∈ WS := List.mem_filter.mpr ⟨List.mem_of_getElem? (i := 484) (by decide +kernel), by decide +kernel⟩
theorem kI_X5_sample : (Cond.instanceMethod yX5_sample : Cond) ∈ WS := List.mem_filter.mpr ⟨List.mem_of_getElem? (i := 485) (by decide +kernel), by decide +kernel⟩
theorem kV_X5_sample : (Cond.selects RX5 yX5_sample yX5_sample : Cond) ∈ WS := List.mem_filter.mpr ⟨List.mem_of_getElem? (i := 486) (by decide +kernel), by decide +kernel⟩
theorem kC_X5_sample : (Cond.code yX5_sample cX5_sample 1 (some .int) : Cond) ∈ WS := List.mem_filter.mpr ⟨List.mem_of_getElem? (i := 487) (by decide +kernel), by decide +kernel⟩
theorem kN_X5_202 : (Cond.methodLinkNest RX5 202 yX4_judge RX5 : Cond) ∈ o_N := List.mem_filter.mpr ⟨List.mem_of_getElem? (i := 488) (by decide +kernel), by decide +kernel⟩
theorem kI_X4_judge : (Cond.instanceMethod yX4_judge : Cond) ∈ WS := List.mem_filter.mpr ⟨List.mem_of_getElem? (i := 490) (by decide +kernel), by decide +kernel⟩
theorem kC_X4_judge : (Cond.code yX4_judge cX4_judge 3 none : Cond) ∈ WS := List.mem_filter.mpr ⟨List.mem_of_getElem? (i := 491) (by decide +kernel), by decide +kernel⟩
theorem kM_X4_28 : (Cond.methodLink RX4 28 yX4_firstRefusal : Cond) ∈ WS := List.mem_filter.mpr ⟨List.mem_of_getElem? (i := 492) (by decide +kernel), by decide +kernel⟩
theorem kI_X4_firstRefusal : (Cond.instanceMethod yX4_firstRefusal : Cond) ∈ WS := List.mem_filter.mpr ⟨List.mem_of_getElem? (i := 494) (by decide +kernel), by decide +kernel⟩
theorem kC_X4_firstRefusal : (Cond.code yX4_firstRefusal cX4_firstRefusal 7 (some .int) : Cond) ∈ WS := List.mem_filter.mpr ⟨List.mem_of_getElem? (i := 495) (by decide +kernel), by decide +kernel⟩
theorem kN_X4_41 : (Cond.methodLinkNest RX4 41 yX5_at RX5 : Cond) ∈ o_N := List.mem_filter.mpr ⟨List.mem_of_getElem? (i := 496) (by decide +kernel), by decide +kernel⟩
theorem kN_X4_48 : (Cond.methodLinkNest RX4 48 yX5_remainder RX5 : Cond) ∈ o_N := List.mem_filter.mpr ⟨List.mem_of_getElem? (i := 497) (by decide +kernel), by decide +kernel⟩
theorem kN_X4_52 : (Cond.methodLinkNest RX4 52 yX3_coarse RX5 : Cond) ∈ o_N := List.mem_filter.mpr ⟨List.mem_of_getElem? (i := 498) (by decide +kernel), by decide +kernel⟩
theorem kN_X4_56 : (Cond.methodLinkNest RX4 56 yX5_distance RX5 : Cond) ∈ o_N := List.mem_filter.mpr ⟨List.mem_of_getElem? (i := 499) (by decide +kernel), by decide +kernel⟩
theorem kK_X4_63 : (Cond.constant RX4 63 65280 : Cond) ∈ WS := List.mem_filter.mpr ⟨List.mem_of_getElem? (i := 500) (by decide +kernel), by decide +kernel⟩
theorem kK_X5_211 : (Cond.constant RX5 211 100000 : Cond) ∈ WS := List.mem_filter.mpr ⟨List.mem_of_getElem? (i := 501) (by decide +kernel), by decide +kernel⟩
theorem kM_L_88 : (Cond.methodLink RL 88 yX5_reason : Cond) ∈ WS := List.mem_filter.mpr ⟨List.mem_of_getElem? (i := 502) (by decide +kernel), by decide +kernel⟩
theorem kI_X5_reason : (Cond.instanceMethod yX5_reason : Cond) ∈ WS := List.mem_filter.mpr ⟨List.mem_of_getElem? (i := 503) (by decide +kernel), by decide +kernel⟩
theorem kV_X5_reason : (Cond.selects RX5 yX5_reason yX5_reason : Cond) ∈ WS := List.mem_filter.mpr ⟨List.mem_of_getElem? (i := 504) (by decide +kernel), by decide +kernel⟩
theorem kC_X5_reason : (Cond.code yX5_reason cX5_reason 1 (some .int) : Cond) ∈ WS := List.mem_filter.mpr ⟨List.mem_of_getElem? (i := 505) (by decide +kernel), by decide +kernel⟩
theorem kM_L_137 : (Cond.methodLink RL 137 yL_fits : Cond) ∈ WS := List.mem_filter.mpr ⟨List.mem_of_getElem? (i := 506) (by decide +kernel), by decide +kernel⟩
theorem kS_L_fits : (Cond.static yL_fits : Cond) ∈ WS := List.mem_filter.mpr ⟨List.mem_of_getElem? (i := 507) (by decide +kernel), by decide +kernel⟩
theorem kC_L_fits : (Cond.code yL_fits cL_fits 11 (some .boolean) : Cond) ∈ WS := List.mem_filter.mpr ⟨List.mem_of_getElem? (i := 508) (by decide +kernel), by decide +kernel⟩
theorem kK_L_91 : (Cond.constant RL 91 65280 : Cond) ∈ WS := List.mem_filter.mpr ⟨List.mem_of_getElem? (i := 509) (by decide +kernel), by decide +kernel⟩
theorem kM_L_9 : (Cond.methodLink RL 9 yL_rest : Cond) ∈ WS := List.mem_filter.mpr ⟨List.mem_of_getElem? (i := 510) (by decide +kernel), by decide +kernel⟩
theorem kS_L_rest : (Cond.static yL_rest : Cond) ∈ WS := List.mem_filter.mpr ⟨List.mem_of_getElem? (i := 511) (by decide +kernel), by decide +kernel⟩
theorem kC_L_rest : (Cond.code yL_rest cL_rest 2 (some .int) : Cond) ∈ WS := List.mem_filter.mpr ⟨List.mem_of_getElem? (i := 512) (by decide +kernel), by decide +kernel⟩
theorem kM_L_92 : (Cond.methodLink RL 92 yX5_apart : Cond) ∈ WS := List.mem_filter.mpr ⟨List.mem_of_getElem? (i := 513) (by decide +kernel), by decide +kernel⟩
theorem kI_X5_apart : (Cond.instanceMethod yX5_apart : Cond) ∈ WS := List.mem_filter.mpr ⟨List.mem_of_getElem? (i := 514) (by decide +kernel), by decide +kernel⟩
theorem kV_X5_apart : (Cond.selects RX5 yX5_apart yX5_apart : Cond) ∈ WS := List.mem_filter.mpr ⟨List.mem_of_getElem? (i := 515) (by decide +kernel), by decide +kernel⟩
theorem kC_X5_apart : (Cond.code yX5_apart cX5_apart 1 (some .int) : Cond) ∈ WS := List.mem_filter.mpr ⟨List.mem_of_getElem? (i := 516) (by decide +kernel), by decide +kernel⟩
theorem kK_X5_213 : (Cond.constant RX5 213 65280 : Cond) ∈ WS := List.mem_filter.mpr ⟨List.mem_of_getElem? (i := 517) (by decide +kernel), by decide +kernel⟩
theorem kM_L_95 : (Cond.methodLink RL 95 yL_near : Cond) ∈ WS := List.mem_filter.mpr ⟨List.mem_of_getElem? (i := 518) (by decide +kernel), by decide +kernel⟩
theorem kS_L_near : (Cond.static yL_near : Cond) ∈ WS := List.mem_filter.mpr ⟨List.mem_of_getElem? (i := 519) (by decide +kernel), by decide +kernel⟩
theorem kC_L_near : (Cond.code yL_near cL_near 3 (some .int) : Cond) ∈ WS := List.mem_filter.mpr ⟨List.mem_of_getElem? (i := 520) (by decide +kernel), by decide +kernel⟩
theorem kM_L_98 : (Cond.methodLink RL 98 yL_period : Cond) ∈ WS := List.mem_filter.mpr ⟨List.mem_of_getElem? (i := 521) (by decide +kernel), by decide +kernel⟩
theorem kS_L_period : (Cond.static yL_period : Cond) ∈ WS := List.mem_filter.mpr ⟨List.mem_of_getElem? (i := 522) (by decide +kernel), by decide +kernel⟩
theorem kC_L_period : (Cond.code yL_period cL_period 1 (some .int) : Cond) ∈ WS := List.mem_filter.mpr ⟨List.mem_of_getElem? (i := 523) (by decide +kernel), by decide +kernel⟩
theorem kM_L_101 : (Cond.methodLink RL 101 yL_byTable : Cond) ∈ WS := List.mem_filter.mpr ⟨List.mem_of_getElem? (i := 524) (by decide +kernel), by decide +kernel⟩
theorem kS_L_byTable : (Cond.static yL_byTable : Cond) ∈ WS := List.mem_filter.mpr ⟨List.mem_of_getElem? (i := 525) (by decide +kernel), by decide +kernel⟩
theorem kC_L_byTable : (Cond.code yL_byTable cL_byTable 6 (some .int) : Cond) ∈ WS := List.mem_filter.mpr ⟨List.mem_of_getElem? (i := 526) (by decide +kernel), by decide +kernel⟩
theorem kM_L_144 : (Cond.methodLink RL 144 yL_acts : Cond) ∈ WS := List.mem_filter.mpr ⟨List.mem_of_getElem? (i := 527) (by decide +kernel), by decide +kernel⟩
theorem kS_L_acts : (Cond.static yL_acts : Cond) ∈ WS := List.mem_filter.mpr ⟨List.mem_of_getElem? (i := 528) (by decide +kernel), by decide +kernel⟩
theorem kC_L_acts : (Cond.code yL_acts cL_acts 6 (some .boolean) : Cond) ∈ WS := List.mem_filter.mpr ⟨List.mem_of_getElem? (i := 529) (by decide +kernel), by decide +kernel⟩
theorem kM_L_116 : (Cond.methodLink RL 116 yL_isTurned : Cond) ∈ WS := List.mem_filter.mpr ⟨List.mem_of_getElem? (i := 530) (by decide +kernel), by decide +kernel⟩
theorem kS_L_isTurned : (Cond.static yL_isTurned : Cond) ∈ WS := List.mem_filter.mpr ⟨List.mem_of_getElem? (i := 531) (by decide +kernel), by decide +kernel⟩
theorem kC_L_isTurned : (Cond.code yL_isTurned cL_isTurned 9 (some .boolean) : Cond) ∈ WS := List.mem_filter.mpr ⟨List.mem_of_getElem? (i := 532) (by decide +kernel), by decide +kernel⟩
theorem kK_L_109 : (Cond.constant RL 109 65279 : Cond) ∈ WS := List.mem_filter.mpr ⟨List.mem_of_getElem? (i := 533) (by decide +kernel), by decide +kernel⟩
theorem kM_L_110 : (Cond.methodLink RL 110 yL_least : Cond) ∈ WS := List.mem_filter.mpr ⟨List.mem_of_getElem? (i := 534) (by decide +kernel), by decide +kernel⟩
theorem kS_L_least : (Cond.static yL_least : Cond) ∈ WS := List.mem_filter.mpr ⟨List.mem_of_getElem? (i := 535) (by decide +kernel), by decide +kernel⟩
theorem kC_L_least : (Cond.code yL_least cL_least 2 (some .int) : Cond) ∈ WS := List.mem_filter.mpr ⟨List.mem_of_getElem? (i := 536) (by decide +kernel), by decide +kernel⟩
theorem kM_L_120 : (Cond.methodLink RL 120 yL_isLearned : Cond) ∈ WS := List.mem_filter.mpr ⟨List.mem_of_getElem? (i := 537) (by decide +kernel), by decide +kernel⟩
theorem kS_L_isLearned : (Cond.static yL_isLearned : Cond) ∈ WS := List.mem_filter.mpr ⟨List.mem_of_getElem? (i := 538) (by decide +kernel), by decide +kernel⟩
theorem kC_L_isLearned : (Cond.code yL_isLearned cL_isLearned 9 (some .boolean) : Cond) ∈ WS := List.mem_filter.mpr ⟨List.mem_of_getElem? (i := 539) (by decide +kernel), by decide +kernel⟩
theorem kM_L_113 : (Cond.methodLink RL 113 yX5_learn : Cond) ∈ WS := List.mem_filter.mpr ⟨List.mem_of_getElem? (i := 540) (by decide +kernel), by decide +kernel⟩
theorem kI_X5_learn : (Cond.instanceMethod yX5_learn : Cond) ∈ WS := List.mem_filter.mpr ⟨List.mem_of_getElem? (i := 541) (by decide +kernel), by decide +kernel⟩
theorem kV_X5_learn : (Cond.selects RX5 yX5_learn yX5_learn : Cond) ∈ WS := List.mem_filter.mpr ⟨List.mem_of_getElem? (i := 542) (by decide +kernel), by decide +kernel⟩
theorem kC_X5_learn : (Cond.code yX5_learn cX5_learn 5 (some .int) : Cond) ∈ WS := List.mem_filter.mpr ⟨List.mem_of_getElem? (i := 543) (by decide +kernel), by decide +kernel⟩
theorem kN_X5_174 : (Cond.methodLinkNest RX5 174 yX3_excess RX5 : Cond) ∈ o_N := List.mem_filter.mpr ⟨List.mem_of_getElem? (i := 544) (by decide +kernel), by decide +kernel⟩
theorem kI_X3_excess : (Cond.instanceMethod yX3_excess : Cond) ∈ WS := List.mem_filter.mpr ⟨List.mem_of_getElem? (i := 546) (by decide +kernel), by decide +kernel⟩
theorem kC_X3_excess : (Cond.code yX3_excess cX3_excess 4 (some .int) : Cond) ∈ WS := List.mem_filter.mpr ⟨List.mem_of_getElem? (i := 547) (by decide +kernel), by decide +kernel⟩
theorem kM_X3_73 : (Cond.methodLink RX3 73 yX3_readingAt : Cond) ∈ WS := List.mem_filter.mpr ⟨List.mem_of_getElem? (i := 548) (by decide +kernel), by decide +kernel⟩
theorem kM_X5_177 : (Cond.methodLink RX5 177 yX5_sectorOf : Cond) ∈ WS := List.mem_filter.mpr ⟨List.mem_of_getElem? (i := 549) (by decide +kernel), by decide +kernel⟩
theorem kM_L_124 : (Cond.methodLink RL 124 yX5_forget : Cond) ∈ WS := List.mem_filter.mpr ⟨List.mem_of_getElem? (i := 550) (by decide +kernel), by decide +kernel⟩
theorem kI_X5_forget : (Cond.instanceMethod yX5_forget : Cond) ∈ WS := List.mem_filter.mpr ⟨List.mem_of_getElem? (i := 551) (by decide +kernel), by decide +kernel⟩
theorem kV_X5_forget : (Cond.selects RX5 yX5_forget yX5_forget : Cond) ∈ WS := List.mem_filter.mpr ⟨List.mem_of_getElem? (i := 552) (by decide +kernel), by decide +kernel⟩
theorem kC_X5_forget : (Cond.code yX5_forget cX5_forget 2 (some .int) : Cond) ∈ WS := List.mem_filter.mpr ⟨List.mem_of_getElem? (i := 553) (by decide +kernel), by decide +kernel⟩
theorem kM_L_127 : (Cond.methodLink RL 127 yL_isSampled : Cond) ∈ WS := List.mem_filter.mpr ⟨List.mem_of_getElem? (i := 554) (by decide +kernel), by decide +kernel⟩
theorem kS_L_isSampled : (Cond.static yL_isSampled : Cond) ∈ WS := List.mem_filter.mpr ⟨List.mem_of_getElem? (i := 555) (by decide +kernel), by decide +kernel⟩
theorem kC_L_isSampled : (Cond.code yL_isSampled cL_isSampled 13 (some .boolean) : Cond) ∈ WS := List.mem_filter.mpr ⟨List.mem_of_getElem? (i := 556) (by decide +kernel), by decide +kernel⟩
theorem kK_L_105 : (Cond.constant RL 105 100000 : Cond) ∈ WS := List.mem_filter.mpr ⟨List.mem_of_getElem? (i := 557) (by decide +kernel), by decide +kernel⟩
theorem kV_X2_restoreLatest : (Cond.selects RX2 yX2_restoreLatest yX2_restoreLatest : Cond) ∈ WS := List.mem_filter.mpr ⟨List.mem_of_getElem? (i := 0) (by decide +kernel), by decide +kernel⟩
theorem kV_X2_slot : (Cond.selects RX2 yX2_slot yX2_slot : Cond) ∈ WS := List.mem_filter.mpr ⟨List.mem_of_getElem? (i := 1) (by decide +kernel), by decide +kernel⟩
theorem kV_X3_copyFrom : (Cond.selects RX3 yX3_copyFrom yX3_copyFrom : Cond) ∈ WS := List.mem_filter.mpr ⟨List.mem_of_getElem? (i := 2) (by decide +kernel), by decide +kernel⟩
theorem kV_X2_keep : (Cond.selects RX2 yX2_keep yX2_keep : Cond) ∈ WS := List.mem_filter.mpr ⟨List.mem_of_getElem? (i := 3) (by decide +kernel), by decide +kernel⟩
theorem kV_X5_shownSetting : (Cond.selects RX5 yX5_shownSetting yX5_shownSetting : Cond) ∈ WS := List.mem_filter.mpr ⟨List.mem_of_getElem? (i := 4) (by decide +kernel), by decide +kernel⟩
theorem kV_X3_angle : (Cond.selects RX3 yX3_angle yX3_angle : Cond) ∈ WS := List.mem_filter.mpr ⟨List.mem_of_getElem? (i := 5) (by decide +kernel), by decide +kernel⟩
theorem kV_X3_coarse : (Cond.selects RX3 yX3_coarse yX3_coarse : Cond) ∈ WS := List.mem_filter.mpr ⟨List.mem_of_getElem? (i := 6) (by decide +kernel), by decide +kernel⟩
theorem kV_X3_correctionsInUse : (Cond.selects RX3 yX3_correctionsInUse yX3_correctionsInUse : Cond) ∈ WS := List.mem_filter.mpr ⟨List.mem_of_getElem? (i := 7) (by decide +kernel), by decide +kernel⟩
theorem kV_X5_settingCount : (Cond.selects RX5 yX5_settingCount yX5_settingCount : Cond) ∈ WS := List.mem_filter.mpr ⟨List.mem_of_getElem? (i := 8) (by decide +kernel), by decide +kernel⟩
theorem kV_X3_readingAt : (Cond.selects RX3 yX3_readingAt yX3_readingAt : Cond) ∈ WS := List.mem_filter.mpr ⟨List.mem_of_getElem? (i := 9) (by decide +kernel), by decide +kernel⟩
theorem kV_X3_isPoor : (Cond.selects RX3 yX3_isPoor yX3_isPoor : Cond) ∈ WS := List.mem_filter.mpr ⟨List.mem_of_getElem? (i := 10) (by decide +kernel), by decide +kernel⟩
theorem kV_X3_crossBound : (Cond.selects RX3 yX3_crossBound yX3_crossBound : Cond) ∈ WS := List.mem_filter.mpr ⟨List.mem_of_getElem? (i := 11) (by decide +kernel), by decide +kernel⟩
theorem kV_X1_search : (Cond.selects RX1 yX1_search yX1_search : Cond) ∈ WS := List.mem_filter.mpr ⟨List.mem_of_getElem? (i := 12) (by decide +kernel), by decide +kernel⟩
theorem kV_X1_searchCorrected : (Cond.selects RX1 yX1_searchCorrected yX1_searchCorrected : Cond) ∈ WS := List.mem_filter.mpr ⟨List.mem_of_getElem? (i := 13) (by decide +kernel), by decide +kernel⟩
theorem kV_X3_corrected : (Cond.selects RX3 yX3_corrected yX3_corrected : Cond) ∈ WS := List.mem_filter.mpr ⟨List.mem_of_getElem? (i := 14) (by decide +kernel), by decide +kernel⟩
theorem kV_X0_append : (Cond.selects RX0 yX0_append yX0_append : Cond) ∈ WS := List.mem_filter.mpr ⟨List.mem_of_getElem? (i := 15) (by decide +kernel), by decide +kernel⟩
theorem kV_X0_scan : (Cond.selects RX0 yX0_scan yX0_scan : Cond) ∈ WS := List.mem_filter.mpr ⟨List.mem_of_getElem? (i := 16) (by decide +kernel), by decide +kernel⟩
theorem kV_X0_entryFault : (Cond.selects RX0 yX0_entryFault yX0_entryFault : Cond) ∈ WS := List.mem_filter.mpr ⟨List.mem_of_getElem? (i := 17) (by decide +kernel), by decide +kernel⟩
theorem kV_X0_entryLength : (Cond.selects RX0 yX0_entryLength yX0_entryLength : Cond) ∈ WS := List.mem_filter.mpr ⟨List.mem_of_getElem? (i := 18) (by decide +kernel), by decide +kernel⟩
theorem kV_X0_characterAt : (Cond.selects RX0 yX0_characterAt yX0_characterAt : Cond) ∈ WS := List.mem_filter.mpr ⟨List.mem_of_getElem? (i := 19) (by decide +kernel), by decide +kernel⟩
theorem kV_X0_isDigit : (Cond.selects RX0 yX0_isDigit yX0_isDigit : Cond) ∈ WS := List.mem_filter.mpr ⟨List.mem_of_getElem? (i := 20) (by decide +kernel), by decide +kernel⟩
theorem kV_X0_digitAt : (Cond.selects RX0 yX0_digitAt yX0_digitAt : Cond) ∈ WS := List.mem_filter.mpr ⟨List.mem_of_getElem? (i := 21) (by decide +kernel), by decide +kernel⟩
theorem kV_X0_amount : (Cond.selects RX0 yX0_amount yX0_amount : Cond) ∈ WS := List.mem_filter.mpr ⟨List.mem_of_getElem? (i := 22) (by decide +kernel), by decide +kernel⟩
theorem kV_X0_entryCell : (Cond.selects RX0 yX0_entryCell yX0_entryCell : Cond) ∈ WS := List.mem_filter.mpr ⟨List.mem_of_getElem? (i := 23) (by decide +kernel), by decide +kernel⟩
theorem kV_X0_takeEntry : (Cond.selects RX0 yX0_takeEntry yX0_takeEntry : Cond) ∈ WS := List.mem_filter.mpr ⟨List.mem_of_getElem? (i := 24) (by decide +kernel), by decide +kernel⟩
theorem kV_X4_judge : (Cond.selects RX4 yX4_judge yX4_judge : Cond) ∈ WS := List.mem_filter.mpr ⟨List.mem_of_getElem? (i := 25) (by decide +kernel), by decide +kernel⟩
theorem kV_X4_firstRefusal : (Cond.selects RX4 yX4_firstRefusal yX4_firstRefusal : Cond) ∈ WS := List.mem_filter.mpr ⟨List.mem_of_getElem? (i := 26) (by decide +kernel), by decide +kernel⟩
theorem kV_X3_excess : (Cond.selects RX3 yX3_excess yX3_excess : Cond) ∈ WS := List.mem_filter.mpr ⟨List.mem_of_getElem? (i := 27) (by decide +kernel), by decide +kernel⟩
theorem kW_X0 : ∀ w ∈ u_ws RX0 TX0 7, w ∈ WS := by decide +kernel
theorem kW_X1 : ∀ w ∈ u_ws RX1 TX1 4, w ∈ WS := by decide +kernel
theorem kW_X2 : ∀ w ∈ u_ws RX2 TX2 3, w ∈ WS := by decide +kernel
theorem kW_X3 : ∀ w ∈ u_ws RX3 TX3 11, w ∈ WS := by decide +kernel
theorem kW_X4 : ∀ w ∈ u_ws RX4 TX4 4, w ∈ WS := by decide +kernel
theorem kW_X5 : ∀ w ∈ u_ws RX5 TX5 5, w ∈ WS := by decide +kernel
