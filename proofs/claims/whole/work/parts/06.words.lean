theorem tw_0 : (Cond.selects "RiscHart" yHart_carryOutNext yHart_carryOutNext) ∈ lw_g := List.mem_filter.mpr ⟨List.mem_of_getElem? (i := 0) (by decide +kernel), rfl⟩
theorem tw_1 : (Cond.selects "RiscHart" yHart_trap yHart_trap) ∈ lw_g := List.mem_filter.mpr ⟨List.mem_of_getElem? (i := 1) (by decide +kernel), rfl⟩
theorem tw_2 : (Cond.selects "RiscHart" yHart_longFrom yHart_longFrom) ∈ lw_g := List.mem_filter.mpr ⟨List.mem_of_getElem? (i := 2) (by decide +kernel), rfl⟩
theorem tw_3 : (Cond.selects "RiscHart" yHart_carryOutLong yHart_carryOutLong) ∈ lw_g := List.mem_filter.mpr ⟨List.mem_of_getElem? (i := 3) (by decide +kernel), rfl⟩
theorem tw_4 : (Cond.selects "RiscHart" yHart_give yHart_give) ∈ lw_g := List.mem_filter.mpr ⟨List.mem_of_getElem? (i := 4) (by decide +kernel), rfl⟩
theorem tw_5 : (Cond.selects "RiscHart" yHart_linkAndJump yHart_linkAndJump) ∈ lw_g := List.mem_filter.mpr ⟨List.mem_of_getElem? (i := 5) (by decide +kernel), rfl⟩
theorem tw_6 : (Cond.selects "RiscHart" yHart_longJumpToRegister yHart_longJumpToRegister) ∈ lw_g := List.mem_filter.mpr ⟨List.mem_of_getElem? (i := 6) (by decide +kernel), rfl⟩
theorem tw_7 : (Cond.selects "RiscHart" yHart_longBranch yHart_longBranch) ∈ lw_g := List.mem_filter.mpr ⟨List.mem_of_getElem? (i := 7) (by decide +kernel), rfl⟩
theorem tw_8 : (Cond.selects "RiscHart" yHart_jumpIf yHart_jumpIf) ∈ lw_g := List.mem_filter.mpr ⟨List.mem_of_getElem? (i := 8) (by decide +kernel), rfl⟩
theorem tw_9 : (Cond.selects "RiscHart" yHart_longLoad yHart_longLoad) ∈ lw_g := List.mem_filter.mpr ⟨List.mem_of_getElem? (i := 9) (by decide +kernel), rfl⟩
theorem tw_10 : (Cond.selects "RiscHart" yHart_load yHart_load) ∈ lw_g := List.mem_filter.mpr ⟨List.mem_of_getElem? (i := 10) (by decide +kernel), rfl⟩
theorem tw_11 : (Cond.selects "RiscHart" yHart_longStore yHart_longStore) ∈ lw_g := List.mem_filter.mpr ⟨List.mem_of_getElem? (i := 11) (by decide +kernel), rfl⟩
theorem tw_12 : (Cond.selects "RiscHart" yHart_store yHart_store) ∈ lw_g := List.mem_filter.mpr ⟨List.mem_of_getElem? (i := 12) (by decide +kernel), rfl⟩
theorem tw_13 : (Cond.selects "RiscHart" yHart_longWithNumber yHart_longWithNumber) ∈ lw_g := List.mem_filter.mpr ⟨List.mem_of_getElem? (i := 13) (by decide +kernel), rfl⟩
theorem tw_14 : (Cond.selects "RiscHart" yHart_longWithRegisters yHart_longWithRegisters) ∈ lw_g := List.mem_filter.mpr ⟨List.mem_of_getElem? (i := 14) (by decide +kernel), rfl⟩
theorem tw_15 : (Cond.selects "RiscHart" yHart_longAtomic yHart_longAtomic) ∈ lw_g := List.mem_filter.mpr ⟨List.mem_of_getElem? (i := 15) (by decide +kernel), rfl⟩
theorem tw_16 : (Cond.selects "RiscHart" yHart_loadReserved yHart_loadReserved) ∈ lw_g := List.mem_filter.mpr ⟨List.mem_of_getElem? (i := 16) (by decide +kernel), rfl⟩
theorem tw_17 : (Cond.selects "RiscHart" yHart_storeConditional yHart_storeConditional) ∈ lw_g := List.mem_filter.mpr ⟨List.mem_of_getElem? (i := 17) (by decide +kernel), rfl⟩
theorem tw_18 : (Cond.selects "RiscHart" yHart_change yHart_change) ∈ lw_g := List.mem_filter.mpr ⟨List.mem_of_getElem? (i := 18) (by decide +kernel), rfl⟩
theorem tw_19 : (Cond.selects "RiscHart" yHart_longSystem yHart_longSystem) ∈ lw_g := List.mem_filter.mpr ⟨List.mem_of_getElem? (i := 19) (by decide +kernel), rfl⟩
theorem tw_20 : (Cond.selects "RiscHart" yHart_readCounter yHart_readCounter) ∈ lw_g := List.mem_filter.mpr ⟨List.mem_of_getElem? (i := 20) (by decide +kernel), rfl⟩
theorem tw_21 : (Cond.selects "RiscHart" yHart_carryOutShort yHart_carryOutShort) ∈ lw_g := List.mem_filter.mpr ⟨List.mem_of_getElem? (i := 21) (by decide +kernel), rfl⟩
theorem tw_22 : (Cond.selects "RiscHart" yHart_shortOfQ0 yHart_shortOfQ0) ∈ lw_g := List.mem_filter.mpr ⟨List.mem_of_getElem? (i := 22) (by decide +kernel), rfl⟩
theorem tw_23 : (Cond.selects "RiscHart" yHart_shortOfQ1 yHart_shortOfQ1) ∈ lw_g := List.mem_filter.mpr ⟨List.mem_of_getElem? (i := 23) (by decide +kernel), rfl⟩
theorem tw_24 : (Cond.selects "RiscHart" yHart_shortMoveStack yHart_shortMoveStack) ∈ lw_g := List.mem_filter.mpr ⟨List.mem_of_getElem? (i := 24) (by decide +kernel), rfl⟩
theorem tw_25 : (Cond.selects "RiscHart" yHart_shortUpperNumber yHart_shortUpperNumber) ∈ lw_g := List.mem_filter.mpr ⟨List.mem_of_getElem? (i := 25) (by decide +kernel), rfl⟩
theorem tw_26 : (Cond.selects "RiscHart" yHart_shortArithmetic yHart_shortArithmetic) ∈ lw_g := List.mem_filter.mpr ⟨List.mem_of_getElem? (i := 26) (by decide +kernel), rfl⟩
theorem tw_27 : (Cond.selects "RiscHart" yHart_shortOfQ2 yHart_shortOfQ2) ∈ lw_g := List.mem_filter.mpr ⟨List.mem_of_getElem? (i := 27) (by decide +kernel), rfl⟩
theorem tw_28 : (Cond.selects "RiscHart" yHart_shortJumpToRegister yHart_shortJumpToRegister) ∈ lw_g := List.mem_filter.mpr ⟨List.mem_of_getElem? (i := 28) (by decide +kernel), rfl⟩
theorem tw_29 : (Cond.selects "RiscHart" yHart_shortMoveOrAdd yHart_shortMoveOrAdd) ∈ lw_g := List.mem_filter.mpr ⟨List.mem_of_getElem? (i := 29) (by decide +kernel), rfl⟩
theorem tw_31 : (Cond.selects "RiscHartModel" yMod_write yMod_write) ∈ lw_g := List.mem_filter.mpr ⟨List.mem_of_getElem? (i := 31) (by decide +kernel), rfl⟩
theorem tw_32 : (Cond.selects "RiscHartModel" yMod_fetches yMod_fetches) ∈ lw_g := List.mem_filter.mpr ⟨List.mem_of_getElem? (i := 32) (by decide +kernel), rfl⟩
theorem tw_33 : (Cond.selects "RiscHartModel" yMod_may yMod_may) ∈ lw_g := List.mem_filter.mpr ⟨List.mem_of_getElem? (i := 33) (by decide +kernel), rfl⟩
theorem tw_34 : (Cond.selects "RiscHartModel" yMod_trap yMod_trap) ∈ lw_g := List.mem_filter.mpr ⟨List.mem_of_getElem? (i := 34) (by decide +kernel), rfl⟩
theorem tw_35 : (Cond.selects "RiscHartModel" yMod_half yMod_half) ∈ lw_g := List.mem_filter.mpr ⟨List.mem_of_getElem? (i := 35) (by decide +kernel), rfl⟩
theorem tw_36 : (Cond.selects "RiscHartModel" yMod_illegal yMod_illegal) ∈ lw_g := List.mem_filter.mpr ⟨List.mem_of_getElem? (i := 36) (by decide +kernel), rfl⟩
theorem tw_37 : (Cond.selects "RiscHartModel" yMod_carry yMod_carry) ∈ lw_g := List.mem_filter.mpr ⟨List.mem_of_getElem? (i := 37) (by decide +kernel), rfl⟩
theorem tw_38 : (Cond.selects "RiscHartModel" yMod_give yMod_give) ∈ lw_g := List.mem_filter.mpr ⟨List.mem_of_getElem? (i := 38) (by decide +kernel), rfl⟩
theorem tw_39 : (Cond.selects "RiscHartModel" yMod_decide yMod_decide) ∈ lw_g := List.mem_filter.mpr ⟨List.mem_of_getElem? (i := 39) (by decide +kernel), rfl⟩
theorem tw_40 : (Cond.selects "RiscHartModel" yMod_load yMod_load) ∈ lw_g := List.mem_filter.mpr ⟨List.mem_of_getElem? (i := 40) (by decide +kernel), rfl⟩
theorem tw_41 : (Cond.selects "RiscHartModel" yMod_put yMod_put) ∈ lw_g := List.mem_filter.mpr ⟨List.mem_of_getElem? (i := 41) (by decide +kernel), rfl⟩
theorem tw_42 : (Cond.selects "RiscHartModel" yMod_shifted yMod_shifted) ∈ lw_g := List.mem_filter.mpr ⟨List.mem_of_getElem? (i := 42) (by decide +kernel), rfl⟩
theorem tw_43 : (Cond.selects "RiscHartModel" yMod_atomic yMod_atomic) ∈ lw_g := List.mem_filter.mpr ⟨List.mem_of_getElem? (i := 43) (by decide +kernel), rfl⟩
theorem tw_44 : (Cond.selects "RiscHartModel" yMod_system yMod_system) ∈ lw_g := List.mem_filter.mpr ⟨List.mem_of_getElem? (i := 44) (by decide +kernel), rfl⟩
theorem tw_46 : (Cond.initialized "RiscHart") ∈ lw_g := List.mem_filter.mpr ⟨List.mem_of_getElem? (i := 46) (by decide +kernel), rfl⟩
theorem tw_47 : (Cond.initialized "RiscHart$Memory") ∈ lw_g := List.mem_filter.mpr ⟨List.mem_of_getElem? (i := 47) (by decide +kernel), rfl⟩
theorem tw_48 : (Cond.initialized "RiscHartModel") ∈ lw_g := List.mem_filter.mpr ⟨List.mem_of_getElem? (i := 48) (by decide +kernel), rfl⟩
theorem tw_54 : (Cond.initialized "RiscHart$LongForm") ∈ lw_g := List.mem_filter.mpr ⟨List.mem_of_getElem? (i := 54) (by decide +kernel), rfl⟩
theorem tw_55 : (Cond.initialized "RiscHart$Bits") ∈ lw_g := List.mem_filter.mpr ⟨List.mem_of_getElem? (i := 55) (by decide +kernel), rfl⟩
theorem tw_56 : (Cond.initialized "RiscHart$Arithmetic") ∈ lw_g := List.mem_filter.mpr ⟨List.mem_of_getElem? (i := 56) (by decide +kernel), rfl⟩
theorem tw_57 : (Cond.initialized "RiscHart$ShortForm") ∈ lw_g := List.mem_filter.mpr ⟨List.mem_of_getElem? (i := 57) (by decide +kernel), rfl⟩
theorem tw_72 : (Cond.fieldLink "RiscHart$Memory" 9 "RiscHart$Memory" "words" "[I") ∈ lw_g := List.mem_filter.mpr ⟨List.mem_of_getElem? (i := 72) (by decide +kernel), rfl⟩
theorem tw_73 : (Cond.fieldLink "RiscHart$Memory" 13 "RiscHart$Memory" "pageRights" "[I") ∈ lw_g := List.mem_filter.mpr ⟨List.mem_of_getElem? (i := 73) (by decide +kernel), rfl⟩
theorem tw_74 : (Cond.fieldLink "RiscHart$Memory" 16 "RiscHart$Memory" "reserved" "I") ∈ lw_g := List.mem_filter.mpr ⟨List.mem_of_getElem? (i := 74) (by decide +kernel), rfl⟩
theorem tw_83 : (Cond.fieldLink "RiscHart" 10 "RiscHart" "memory" "LRiscHart$Memory;") ∈ lw_g := List.mem_filter.mpr ⟨List.mem_of_getElem? (i := 83) (by decide +kernel), rfl⟩
theorem tw_84 : (Cond.fieldLink "RiscHart" 16 "RiscHart" "registers" "[I") ∈ lw_g := List.mem_filter.mpr ⟨List.mem_of_getElem? (i := 84) (by decide +kernel), rfl⟩
theorem tw_85 : (Cond.fieldLink "RiscHart" 60 "RiscHart" "place" "I") ∈ lw_g := List.mem_filter.mpr ⟨List.mem_of_getElem? (i := 85) (by decide +kernel), rfl⟩
theorem tw_86 : (Cond.fieldLink "RiscHart" 94 "RiscHart" "placeBehind" "I") ∈ lw_g := List.mem_filter.mpr ⟨List.mem_of_getElem? (i := 86) (by decide +kernel), rfl⟩
theorem tw_87 : (Cond.fieldLink "RiscHart" 74 "RiscHart" "cause" "I") ∈ lw_g := List.mem_filter.mpr ⟨List.mem_of_getElem? (i := 87) (by decide +kernel), rfl⟩
theorem tw_88 : (Cond.fieldLink "RiscHart" 77 "RiscHart" "value" "I") ∈ lw_g := List.mem_filter.mpr ⟨List.mem_of_getElem? (i := 88) (by decide +kernel), rfl⟩
theorem tw_89 : (Cond.fieldLink "RiscHart" 80 "RiscHart" "retired" "J") ∈ lw_g := List.mem_filter.mpr ⟨List.mem_of_getElem? (i := 89) (by decide +kernel), rfl⟩
theorem tw_90 : (Cond.fieldLink "RiscHart" 64 "RiscHart" "time" "J") ∈ lw_g := List.mem_filter.mpr ⟨List.mem_of_getElem? (i := 90) (by decide +kernel), rfl⟩
theorem tw_120 : (Cond.methodLink "RiscHart" 68 yHart_carryOutNext) ∈ lw_g := List.mem_filter.mpr ⟨List.mem_of_getElem? (i := 120) (by decide +kernel), rfl⟩
theorem tw_122 : (Cond.instanceMethod yHart_carryOutNext) ∈ lw_g := List.mem_filter.mpr ⟨List.mem_of_getElem? (i := 122) (by decide +kernel), rfl⟩
theorem tw_123 : (Cond.code yHart_carryOutNext prog_1_method_13_code 4 (some FieldType.int)) ∈ lw_g := List.mem_filter.mpr ⟨List.mem_of_getElem? (i := 123) (by decide +kernel), rfl⟩
theorem tw_124 : (Cond.methodLink "RiscHart" 88 yMem_mayCarryOut) ∈ lw_g := List.mem_filter.mpr ⟨List.mem_of_getElem? (i := 124) (by decide +kernel), rfl⟩
theorem tw_125 : (Cond.instanceMethod yMem_mayCarryOut) ∈ lw_g := List.mem_filter.mpr ⟨List.mem_of_getElem? (i := 125) (by decide +kernel), rfl⟩
theorem tw_126 : (Cond.selects "RiscHart$Memory" yMem_mayCarryOut yMem_mayCarryOut) ∈ lw_g := List.mem_filter.mpr ⟨List.mem_of_getElem? (i := 126) (by decide +kernel), rfl⟩
theorem tw_127 : (Cond.code yMem_mayCarryOut prog_5_method_5_code 2 (some FieldType.boolean)) ∈ lw_g := List.mem_filter.mpr ⟨List.mem_of_getElem? (i := 127) (by decide +kernel), rfl⟩
theorem tw_128 : (Cond.methodLink "RiscHart$Memory" 25 yMem_isMisaligned) ∈ lw_g := List.mem_filter.mpr ⟨List.mem_of_getElem? (i := 128) (by decide +kernel), rfl⟩
theorem tw_129 : (Cond.static yMem_isMisaligned) ∈ lw_g := List.mem_filter.mpr ⟨List.mem_of_getElem? (i := 129) (by decide +kernel), rfl⟩
theorem tw_130 : (Cond.code yMem_isMisaligned prog_5_method_3_code 2 (some FieldType.boolean)) ∈ lw_g := List.mem_filter.mpr ⟨List.mem_of_getElem? (i := 130) (by decide +kernel), rfl⟩
theorem tw_131 : (Cond.methodLink "RiscHart$Memory" 29 yMem_allows) ∈ lw_g := List.mem_filter.mpr ⟨List.mem_of_getElem? (i := 131) (by decide +kernel), rfl⟩
theorem tw_132 : (Cond.instanceMethod yMem_allows) ∈ lw_g := List.mem_filter.mpr ⟨List.mem_of_getElem? (i := 132) (by decide +kernel), rfl⟩
theorem tw_133 : (Cond.selects "RiscHart$Memory" yMem_allows yMem_allows) ∈ lw_g := List.mem_filter.mpr ⟨List.mem_of_getElem? (i := 133) (by decide +kernel), rfl⟩
theorem tw_134 : (Cond.code yMem_allows prog_5_method_4_code 3 (some FieldType.boolean)) ∈ lw_g := List.mem_filter.mpr ⟨List.mem_of_getElem? (i := 134) (by decide +kernel), rfl⟩
theorem tw_135 : (Cond.methodLink "RiscHart$Memory" 21 yMem_holds) ∈ lw_g := List.mem_filter.mpr ⟨List.mem_of_getElem? (i := 135) (by decide +kernel), rfl⟩
theorem tw_136 : (Cond.static yMem_holds) ∈ lw_g := List.mem_filter.mpr ⟨List.mem_of_getElem? (i := 136) (by decide +kernel), rfl⟩
theorem tw_137 : (Cond.code yMem_holds prog_5_method_2_code 1 (some FieldType.boolean)) ∈ lw_g := List.mem_filter.mpr ⟨List.mem_of_getElem? (i := 137) (by decide +kernel), rfl⟩
theorem tw_138 : (Cond.constant "RiscHart$Memory" 20 65535) ∈ lw_g := List.mem_filter.mpr ⟨List.mem_of_getElem? (i := 138) (by decide +kernel), rfl⟩
theorem tw_139 : (Cond.methodLink "RiscHart" 91 yHart_trap) ∈ lw_g := List.mem_filter.mpr ⟨List.mem_of_getElem? (i := 139) (by decide +kernel), rfl⟩
theorem tw_141 : (Cond.instanceMethod yHart_trap) ∈ lw_g := List.mem_filter.mpr ⟨List.mem_of_getElem? (i := 141) (by decide +kernel), rfl⟩
theorem tw_142 : (Cond.code yHart_trap prog_1_method_15_code 3 (some FieldType.int)) ∈ lw_g := List.mem_filter.mpr ⟨List.mem_of_getElem? (i := 142) (by decide +kernel), rfl⟩
theorem tw_143 : (Cond.methodLink "RiscHart" 41 yMem_read) ∈ lw_g := List.mem_filter.mpr ⟨List.mem_of_getElem? (i := 143) (by decide +kernel), rfl⟩
theorem tw_144 : (Cond.instanceMethod yMem_read) ∈ lw_g := List.mem_filter.mpr ⟨List.mem_of_getElem? (i := 144) (by decide +kernel), rfl⟩
theorem tw_145 : (Cond.selects "RiscHart$Memory" yMem_read yMem_read) ∈ lw_g := List.mem_filter.mpr ⟨List.mem_of_getElem? (i := 145) (by decide +kernel), rfl⟩
theorem tw_146 : (Cond.code yMem_read prog_5_method_9_code 5 (some FieldType.int)) ∈ lw_g := List.mem_filter.mpr ⟨List.mem_of_getElem? (i := 146) (by decide +kernel), rfl⟩
theorem tw_147 : (Cond.methodLink "RiscHart$Memory" 32 yMem_wordIndex) ∈ lw_g := List.mem_filter.mpr ⟨List.mem_of_getElem? (i := 147) (by decide +kernel), rfl⟩
theorem tw_148 : (Cond.static yMem_wordIndex) ∈ lw_g := List.mem_filter.mpr ⟨List.mem_of_getElem? (i := 148) (by decide +kernel), rfl⟩
theorem tw_149 : (Cond.code yMem_wordIndex prog_5_method_11_code 1 (some FieldType.int)) ∈ lw_g := List.mem_filter.mpr ⟨List.mem_of_getElem? (i := 149) (by decide +kernel), rfl⟩
theorem tw_150 : (Cond.methodLink "RiscHart$Memory" 36 yMem_shiftOf) ∈ lw_g := List.mem_filter.mpr ⟨List.mem_of_getElem? (i := 150) (by decide +kernel), rfl⟩
theorem tw_151 : (Cond.static yMem_shiftOf) ∈ lw_g := List.mem_filter.mpr ⟨List.mem_of_getElem? (i := 151) (by decide +kernel), rfl⟩
theorem tw_152 : (Cond.code yMem_shiftOf prog_5_method_12_code 1 (some FieldType.int)) ∈ lw_g := List.mem_filter.mpr ⟨List.mem_of_getElem? (i := 152) (by decide +kernel), rfl⟩
theorem tw_153 : (Cond.methodLink "RiscHart" 97 yHart_longFrom) ∈ lw_g := List.mem_filter.mpr ⟨List.mem_of_getElem? (i := 153) (by decide +kernel), rfl⟩
theorem tw_155 : (Cond.instanceMethod yHart_longFrom) ∈ lw_g := List.mem_filter.mpr ⟨List.mem_of_getElem? (i := 155) (by decide +kernel), rfl⟩
theorem tw_156 : (Cond.code yHart_longFrom prog_1_method_14_code 2 (some FieldType.int)) ∈ lw_g := List.mem_filter.mpr ⟨List.mem_of_getElem? (i := 156) (by decide +kernel), rfl⟩
theorem tw_157 : (Cond.methodLink "RiscHart" 101 yHart_carryOutLong) ∈ lw_g := List.mem_filter.mpr ⟨List.mem_of_getElem? (i := 157) (by decide +kernel), rfl⟩
theorem tw_159 : (Cond.instanceMethod yHart_carryOutLong) ∈ lw_g := List.mem_filter.mpr ⟨List.mem_of_getElem? (i := 159) (by decide +kernel), rfl⟩
theorem tw_160 : (Cond.code yHart_carryOutLong prog_1_method_21_code 3 (some FieldType.int)) ∈ lw_g := List.mem_filter.mpr ⟨List.mem_of_getElem? (i := 160) (by decide +kernel), rfl⟩
theorem tw_161 : (Cond.methodLink "RiscHart" 113 yLF_d) ∈ lw_g := List.mem_filter.mpr ⟨List.mem_of_getElem? (i := 161) (by decide +kernel), rfl⟩
theorem tw_162 : (Cond.static yLF_d) ∈ lw_g := List.mem_filter.mpr ⟨List.mem_of_getElem? (i := 162) (by decide +kernel), rfl⟩
theorem tw_163 : (Cond.code yLF_d prog_4_method_2_code 1 (some FieldType.int)) ∈ lw_g := List.mem_filter.mpr ⟨List.mem_of_getElem? (i := 163) (by decide +kernel), rfl⟩
theorem tw_164 : (Cond.methodLink "RiscHart$LongForm" 9 yBits_part) ∈ lw_g := List.mem_filter.mpr ⟨List.mem_of_getElem? (i := 164) (by decide +kernel), rfl⟩
theorem tw_165 : (Cond.static yBits_part) ∈ lw_g := List.mem_filter.mpr ⟨List.mem_of_getElem? (i := 165) (by decide +kernel), rfl⟩
theorem tw_166 : (Cond.code yBits_part prog_3_method_2_code 3 (some FieldType.int)) ∈ lw_g := List.mem_filter.mpr ⟨List.mem_of_getElem? (i := 166) (by decide +kernel), rfl⟩
theorem tw_167 : (Cond.methodLink "RiscHart" 118 yLF_upperNumber) ∈ lw_g := List.mem_filter.mpr ⟨List.mem_of_getElem? (i := 167) (by decide +kernel), rfl⟩
theorem tw_168 : (Cond.static yLF_upperNumber) ∈ lw_g := List.mem_filter.mpr ⟨List.mem_of_getElem? (i := 168) (by decide +kernel), rfl⟩
theorem tw_169 : (Cond.code yLF_upperNumber prog_4_method_10_code 1 (some FieldType.int)) ∈ lw_g := List.mem_filter.mpr ⟨List.mem_of_getElem? (i := 169) (by decide +kernel), rfl⟩
theorem tw_170 : (Cond.methodLink "RiscHart" 57 yHart_give) ∈ lw_g := List.mem_filter.mpr ⟨List.mem_of_getElem? (i := 170) (by decide +kernel), rfl⟩
theorem tw_172 : (Cond.instanceMethod yHart_give) ∈ lw_g := List.mem_filter.mpr ⟨List.mem_of_getElem? (i := 172) (by decide +kernel), rfl⟩
theorem tw_173 : (Cond.code yHart_give prog_1_method_16_code 3 (some FieldType.int)) ∈ lw_g := List.mem_filter.mpr ⟨List.mem_of_getElem? (i := 173) (by decide +kernel), rfl⟩
theorem tw_174 : (Cond.methodLink "RiscHart" 121 yLF_offsetJ) ∈ lw_g := List.mem_filter.mpr ⟨List.mem_of_getElem? (i := 174) (by decide +kernel), rfl⟩
theorem tw_175 : (Cond.static yLF_offsetJ) ∈ lw_g := List.mem_filter.mpr ⟨List.mem_of_getElem? (i := 175) (by decide +kernel), rfl⟩
theorem tw_176 : (Cond.code yLF_offsetJ prog_4_method_11_code 2 (some FieldType.int)) ∈ lw_g := List.mem_filter.mpr ⟨List.mem_of_getElem? (i := 176) (by decide +kernel), rfl⟩
theorem tw_177 : (Cond.methodLink "RiscHart$LongForm" 24 yBits_signed) ∈ lw_g := List.mem_filter.mpr ⟨List.mem_of_getElem? (i := 177) (by decide +kernel), rfl⟩
theorem tw_178 : (Cond.static yBits_signed) ∈ lw_g := List.mem_filter.mpr ⟨List.mem_of_getElem? (i := 178) (by decide +kernel), rfl⟩
theorem tw_179 : (Cond.code yBits_signed prog_3_method_3_code 2 (some FieldType.int)) ∈ lw_g := List.mem_filter.mpr ⟨List.mem_of_getElem? (i := 179) (by decide +kernel), rfl⟩
theorem tw_180 : (Cond.methodLink "RiscHart" 107 yHart_linkAndJump) ∈ lw_g := List.mem_filter.mpr ⟨List.mem_of_getElem? (i := 180) (by decide +kernel), rfl⟩
theorem tw_182 : (Cond.instanceMethod yHart_linkAndJump) ∈ lw_g := List.mem_filter.mpr ⟨List.mem_of_getElem? (i := 182) (by decide +kernel), rfl⟩
theorem tw_183 : (Cond.code yHart_linkAndJump prog_1_method_17_code 4 (some FieldType.int)) ∈ lw_g := List.mem_filter.mpr ⟨List.mem_of_getElem? (i := 183) (by decide +kernel), rfl⟩
theorem tw_184 : (Cond.methodLink "RiscHart" 124 yHart_longJumpToRegister) ∈ lw_g := List.mem_filter.mpr ⟨List.mem_of_getElem? (i := 184) (by decide +kernel), rfl⟩
theorem tw_186 : (Cond.instanceMethod yHart_longJumpToRegister) ∈ lw_g := List.mem_filter.mpr ⟨List.mem_of_getElem? (i := 186) (by decide +kernel), rfl⟩
theorem tw_187 : (Cond.code yHart_longJumpToRegister prog_1_method_22_code 2 (some FieldType.int)) ∈ lw_g := List.mem_filter.mpr ⟨List.mem_of_getElem? (i := 187) (by decide +kernel), rfl⟩
theorem tw_188 : (Cond.methodLink "RiscHart" 145 yLF_f) ∈ lw_g := List.mem_filter.mpr ⟨List.mem_of_getElem? (i := 188) (by decide +kernel), rfl⟩
theorem tw_189 : (Cond.static yLF_f) ∈ lw_g := List.mem_filter.mpr ⟨List.mem_of_getElem? (i := 189) (by decide +kernel), rfl⟩
theorem tw_190 : (Cond.code yLF_f prog_4_method_3_code 1 (some FieldType.int)) ∈ lw_g := List.mem_filter.mpr ⟨List.mem_of_getElem? (i := 190) (by decide +kernel), rfl⟩
theorem tw_191 : (Cond.methodLink "RiscHart" 151 yLF_a) ∈ lw_g := List.mem_filter.mpr ⟨List.mem_of_getElem? (i := 191) (by decide +kernel), rfl⟩
theorem tw_192 : (Cond.static yLF_a) ∈ lw_g := List.mem_filter.mpr ⟨List.mem_of_getElem? (i := 192) (by decide +kernel), rfl⟩
theorem tw_193 : (Cond.code yLF_a prog_4_method_4_code 1 (some FieldType.int)) ∈ lw_g := List.mem_filter.mpr ⟨List.mem_of_getElem? (i := 193) (by decide +kernel), rfl⟩
theorem tw_194 : (Cond.methodLink "RiscHart" 154 yLF_numberI) ∈ lw_g := List.mem_filter.mpr ⟨List.mem_of_getElem? (i := 194) (by decide +kernel), rfl⟩
theorem tw_195 : (Cond.static yLF_numberI) ∈ lw_g := List.mem_filter.mpr ⟨List.mem_of_getElem? (i := 195) (by decide +kernel), rfl⟩
theorem tw_196 : (Cond.code yLF_numberI prog_4_method_8_code 1 (some FieldType.int)) ∈ lw_g := List.mem_filter.mpr ⟨List.mem_of_getElem? (i := 196) (by decide +kernel), rfl⟩
theorem tw_197 : (Cond.methodLink "RiscHart" 127 yHart_longBranch) ∈ lw_g := List.mem_filter.mpr ⟨List.mem_of_getElem? (i := 197) (by decide +kernel), rfl⟩
theorem tw_199 : (Cond.instanceMethod yHart_longBranch) ∈ lw_g := List.mem_filter.mpr ⟨List.mem_of_getElem? (i := 199) (by decide +kernel), rfl⟩
theorem tw_200 : (Cond.code yHart_longBranch prog_1_method_23_code 5 (some FieldType.int)) ∈ lw_g := List.mem_filter.mpr ⟨List.mem_of_getElem? (i := 200) (by decide +kernel), rfl⟩
theorem tw_201 : (Cond.methodLink "RiscHart" 157 yLF_b) ∈ lw_g := List.mem_filter.mpr ⟨List.mem_of_getElem? (i := 201) (by decide +kernel), rfl⟩
theorem tw_202 : (Cond.static yLF_b) ∈ lw_g := List.mem_filter.mpr ⟨List.mem_of_getElem? (i := 202) (by decide +kernel), rfl⟩
theorem tw_203 : (Cond.code yLF_b prog_4_method_5_code 1 (some FieldType.int)) ∈ lw_g := List.mem_filter.mpr ⟨List.mem_of_getElem? (i := 203) (by decide +kernel), rfl⟩
theorem tw_204 : (Cond.methodLink "RiscHart" 160 yLF_offsetT) ∈ lw_g := List.mem_filter.mpr ⟨List.mem_of_getElem? (i := 204) (by decide +kernel), rfl⟩
theorem tw_205 : (Cond.static yLF_offsetT) ∈ lw_g := List.mem_filter.mpr ⟨List.mem_of_getElem? (i := 205) (by decide +kernel), rfl⟩
theorem tw_206 : (Cond.code yLF_offsetT prog_4_method_12_code 2 (some FieldType.int)) ∈ lw_g := List.mem_filter.mpr ⟨List.mem_of_getElem? (i := 206) (by decide +kernel), rfl⟩
theorem tw_207 : (Cond.methodLink "RiscHart" 163 yHart_jumpIf) ∈ lw_g := List.mem_filter.mpr ⟨List.mem_of_getElem? (i := 207) (by decide +kernel), rfl⟩
theorem tw_209 : (Cond.instanceMethod yHart_jumpIf) ∈ lw_g := List.mem_filter.mpr ⟨List.mem_of_getElem? (i := 209) (by decide +kernel), rfl⟩
theorem tw_210 : (Cond.code yHart_jumpIf prog_1_method_18_code 3 (some FieldType.int)) ∈ lw_g := List.mem_filter.mpr ⟨List.mem_of_getElem? (i := 210) (by decide +kernel), rfl⟩
theorem tw_211 : (Cond.methodLink "RiscHart" 167 yAr_isBelow) ∈ lw_g := List.mem_filter.mpr ⟨List.mem_of_getElem? (i := 211) (by decide +kernel), rfl⟩
theorem tw_212 : (Cond.static yAr_isBelow) ∈ lw_g := List.mem_filter.mpr ⟨List.mem_of_getElem? (i := 212) (by decide +kernel), rfl⟩
theorem tw_213 : (Cond.code yAr_isBelow prog_2_method_2_code 2 (some FieldType.boolean)) ∈ lw_g := List.mem_filter.mpr ⟨List.mem_of_getElem? (i := 213) (by decide +kernel), rfl⟩
theorem tw_214 : (Cond.constantLong "RiscHart$Arithmetic" 9 4294967295) ∈ lw_g := List.mem_filter.mpr ⟨List.mem_of_getElem? (i := 214) (by decide +kernel), rfl⟩
theorem tw_215 : (Cond.methodLink "RiscHart" 130 yHart_longLoad) ∈ lw_g := List.mem_filter.mpr ⟨List.mem_of_getElem? (i := 215) (by decide +kernel), rfl⟩
theorem tw_217 : (Cond.instanceMethod yHart_longLoad) ∈ lw_g := List.mem_filter.mpr ⟨List.mem_of_getElem? (i := 217) (by decide +kernel), rfl⟩
theorem tw_218 : (Cond.code yHart_longLoad prog_1_method_24_code 3 (some FieldType.int)) ∈ lw_g := List.mem_filter.mpr ⟨List.mem_of_getElem? (i := 218) (by decide +kernel), rfl⟩
theorem tw_219 : (Cond.methodLink "RiscHart" 172 yHart_load) ∈ lw_g := List.mem_filter.mpr ⟨List.mem_of_getElem? (i := 219) (by decide +kernel), rfl⟩
theorem tw_221 : (Cond.instanceMethod yHart_load) ∈ lw_g := List.mem_filter.mpr ⟨List.mem_of_getElem? (i := 221) (by decide +kernel), rfl⟩
theorem tw_222 : (Cond.code yHart_load prog_1_method_19_code 4 (some FieldType.int)) ∈ lw_g := List.mem_filter.mpr ⟨List.mem_of_getElem? (i := 222) (by decide +kernel), rfl⟩
theorem tw_223 : (Cond.methodLink "RiscHart" 35 yMem_isMisaligned) ∈ lw_g := List.mem_filter.mpr ⟨List.mem_of_getElem? (i := 223) (by decide +kernel), rfl⟩
theorem tw_224 : (Cond.methodLink "RiscHart" 110 yMem_allows) ∈ lw_g := List.mem_filter.mpr ⟨List.mem_of_getElem? (i := 224) (by decide +kernel), rfl⟩
theorem tw_225 : (Cond.methodLink "RiscHart" 133 yHart_longStore) ∈ lw_g := List.mem_filter.mpr ⟨List.mem_of_getElem? (i := 225) (by decide +kernel), rfl⟩
theorem tw_227 : (Cond.instanceMethod yHart_longStore) ∈ lw_g := List.mem_filter.mpr ⟨List.mem_of_getElem? (i := 227) (by decide +kernel), rfl⟩
theorem tw_228 : (Cond.code yHart_longStore prog_1_method_25_code 4 (some FieldType.int)) ∈ lw_g := List.mem_filter.mpr ⟨List.mem_of_getElem? (i := 228) (by decide +kernel), rfl⟩
theorem tw_229 : (Cond.methodLink "RiscHart" 176 yLF_numberS) ∈ lw_g := List.mem_filter.mpr ⟨List.mem_of_getElem? (i := 229) (by decide +kernel), rfl⟩
theorem tw_230 : (Cond.static yLF_numberS) ∈ lw_g := List.mem_filter.mpr ⟨List.mem_of_getElem? (i := 230) (by decide +kernel), rfl⟩
theorem tw_231 : (Cond.code yLF_numberS prog_4_method_9_code 1 (some FieldType.int)) ∈ lw_g := List.mem_filter.mpr ⟨List.mem_of_getElem? (i := 231) (by decide +kernel), rfl⟩
theorem tw_232 : (Cond.methodLink "RiscHart$LongForm" 15 yLF_g) ∈ lw_g := List.mem_filter.mpr ⟨List.mem_of_getElem? (i := 232) (by decide +kernel), rfl⟩
theorem tw_233 : (Cond.static yLF_g) ∈ lw_g := List.mem_filter.mpr ⟨List.mem_of_getElem? (i := 233) (by decide +kernel), rfl⟩
theorem tw_234 : (Cond.code yLF_g prog_4_method_6_code 1 (some FieldType.int)) ∈ lw_g := List.mem_filter.mpr ⟨List.mem_of_getElem? (i := 234) (by decide +kernel), rfl⟩
theorem tw_235 : (Cond.methodLink "RiscHart$LongForm" 21 yLF_d) ∈ lw_g := List.mem_filter.mpr ⟨List.mem_of_getElem? (i := 235) (by decide +kernel), rfl⟩
theorem tw_236 : (Cond.methodLink "RiscHart" 179 yHart_store) ∈ lw_g := List.mem_filter.mpr ⟨List.mem_of_getElem? (i := 236) (by decide +kernel), rfl⟩
theorem tw_238 : (Cond.instanceMethod yHart_store) ∈ lw_g := List.mem_filter.mpr ⟨List.mem_of_getElem? (i := 238) (by decide +kernel), rfl⟩
theorem tw_239 : (Cond.code yHart_store prog_1_method_20_code 4 (some FieldType.int)) ∈ lw_g := List.mem_filter.mpr ⟨List.mem_of_getElem? (i := 239) (by decide +kernel), rfl⟩
theorem tw_240 : (Cond.methodLink "RiscHart" 31 yMem_write) ∈ lw_g := List.mem_filter.mpr ⟨List.mem_of_getElem? (i := 240) (by decide +kernel), rfl⟩
theorem tw_241 : (Cond.instanceMethod yMem_write) ∈ lw_g := List.mem_filter.mpr ⟨List.mem_of_getElem? (i := 241) (by decide +kernel), rfl⟩
theorem tw_242 : (Cond.selects "RiscHart$Memory" yMem_write yMem_write) ∈ lw_g := List.mem_filter.mpr ⟨List.mem_of_getElem? (i := 242) (by decide +kernel), rfl⟩
theorem tw_243 : (Cond.code yMem_write prog_5_method_10_code 6 none) ∈ lw_g := List.mem_filter.mpr ⟨List.mem_of_getElem? (i := 243) (by decide +kernel), rfl⟩
theorem tw_244 : (Cond.methodLink "RiscHart$Memory" 39 yMem_maskOf) ∈ lw_g := List.mem_filter.mpr ⟨List.mem_of_getElem? (i := 244) (by decide +kernel), rfl⟩
theorem tw_245 : (Cond.static yMem_maskOf) ∈ lw_g := List.mem_filter.mpr ⟨List.mem_of_getElem? (i := 245) (by decide +kernel), rfl⟩
theorem tw_246 : (Cond.code yMem_maskOf prog_5_method_13_code 1 (some FieldType.int)) ∈ lw_g := List.mem_filter.mpr ⟨List.mem_of_getElem? (i := 246) (by decide +kernel), rfl⟩
theorem tw_247 : (Cond.methodLink "RiscHart" 136 yHart_longWithNumber) ∈ lw_g := List.mem_filter.mpr ⟨List.mem_of_getElem? (i := 247) (by decide +kernel), rfl⟩
theorem tw_249 : (Cond.instanceMethod yHart_longWithNumber) ∈ lw_g := List.mem_filter.mpr ⟨List.mem_of_getElem? (i := 249) (by decide +kernel), rfl⟩
theorem tw_250 : (Cond.code yHart_longWithNumber prog_1_method_26_code 6 (some FieldType.int)) ∈ lw_g := List.mem_filter.mpr ⟨List.mem_of_getElem? (i := 250) (by decide +kernel), rfl⟩
theorem tw_251 : (Cond.methodLink "RiscHart" 182 yLF_g) ∈ lw_g := List.mem_filter.mpr ⟨List.mem_of_getElem? (i := 251) (by decide +kernel), rfl⟩
theorem tw_252 : (Cond.methodLink "RiscHart" 185 yAr_plain) ∈ lw_g := List.mem_filter.mpr ⟨List.mem_of_getElem? (i := 252) (by decide +kernel), rfl⟩
theorem tw_253 : (Cond.static yAr_plain) ∈ lw_g := List.mem_filter.mpr ⟨List.mem_of_getElem? (i := 253) (by decide +kernel), rfl⟩
theorem tw_254 : (Cond.code yAr_plain prog_2_method_3_code 3 (some FieldType.int)) ∈ lw_g := List.mem_filter.mpr ⟨List.mem_of_getElem? (i := 254) (by decide +kernel), rfl⟩
theorem tw_255 : (Cond.methodLink "RiscHart$Arithmetic" 11 yAr_isBelow) ∈ lw_g := List.mem_filter.mpr ⟨List.mem_of_getElem? (i := 255) (by decide +kernel), rfl⟩
theorem tw_256 : (Cond.methodLink "RiscHart" 139 yHart_longWithRegisters) ∈ lw_g := List.mem_filter.mpr ⟨List.mem_of_getElem? (i := 256) (by decide +kernel), rfl⟩
theorem tw_258 : (Cond.instanceMethod yHart_longWithRegisters) ∈ lw_g := List.mem_filter.mpr ⟨List.mem_of_getElem? (i := 258) (by decide +kernel), rfl⟩
theorem tw_259 : (Cond.code yHart_longWithRegisters prog_1_method_27_code 6 (some FieldType.int)) ∈ lw_g := List.mem_filter.mpr ⟨List.mem_of_getElem? (i := 259) (by decide +kernel), rfl⟩
theorem tw_260 : (Cond.methodLink "RiscHart" 188 yAr_multipliedOrDivided) ∈ lw_g := List.mem_filter.mpr ⟨List.mem_of_getElem? (i := 260) (by decide +kernel), rfl⟩
theorem tw_261 : (Cond.static yAr_multipliedOrDivided) ∈ lw_g := List.mem_filter.mpr ⟨List.mem_of_getElem? (i := 261) (by decide +kernel), rfl⟩
theorem tw_262 : (Cond.code yAr_multipliedOrDivided prog_2_method_4_code 3 (some FieldType.int)) ∈ lw_g := List.mem_filter.mpr ⟨List.mem_of_getElem? (i := 262) (by decide +kernel), rfl⟩
theorem tw_263 : (Cond.methodLink "RiscHart$Arithmetic" 15 yAr_quotient) ∈ lw_g := List.mem_filter.mpr ⟨List.mem_of_getElem? (i := 263) (by decide +kernel), rfl⟩
theorem tw_264 : (Cond.static yAr_quotient) ∈ lw_g := List.mem_filter.mpr ⟨List.mem_of_getElem? (i := 264) (by decide +kernel), rfl⟩
theorem tw_265 : (Cond.code yAr_quotient prog_2_method_5_code 4 (some FieldType.long)) ∈ lw_g := List.mem_filter.mpr ⟨List.mem_of_getElem? (i := 265) (by decide +kernel), rfl⟩
theorem tw_266 : (Cond.constantLong "RiscHart$Arithmetic" 22 (-1)) ∈ lw_g := List.mem_filter.mpr ⟨List.mem_of_getElem? (i := 266) (by decide +kernel), rfl⟩
theorem tw_267 : (Cond.methodLink "RiscHart$Arithmetic" 19 yAr_remainder) ∈ lw_g := List.mem_filter.mpr ⟨List.mem_of_getElem? (i := 267) (by decide +kernel), rfl⟩
theorem tw_268 : (Cond.static yAr_remainder) ∈ lw_g := List.mem_filter.mpr ⟨List.mem_of_getElem? (i := 268) (by decide +kernel), rfl⟩
theorem tw_269 : (Cond.code yAr_remainder prog_2_method_6_code 4 (some FieldType.long)) ∈ lw_g := List.mem_filter.mpr ⟨List.mem_of_getElem? (i := 269) (by decide +kernel), rfl⟩
theorem tw_270 : (Cond.methodLink "RiscHart" 142 yHart_longAtomic) ∈ lw_g := List.mem_filter.mpr ⟨List.mem_of_getElem? (i := 270) (by decide +kernel), rfl⟩
theorem tw_272 : (Cond.instanceMethod yHart_longAtomic) ∈ lw_g := List.mem_filter.mpr ⟨List.mem_of_getElem? (i := 272) (by decide +kernel), rfl⟩
theorem tw_273 : (Cond.code yHart_longAtomic prog_1_method_28_code 6 (some FieldType.int)) ∈ lw_g := List.mem_filter.mpr ⟨List.mem_of_getElem? (i := 273) (by decide +kernel), rfl⟩
theorem tw_274 : (Cond.methodLink "RiscHart" 191 yLF_isAtomic) ∈ lw_g := List.mem_filter.mpr ⟨List.mem_of_getElem? (i := 274) (by decide +kernel), rfl⟩
theorem tw_275 : (Cond.static yLF_isAtomic) ∈ lw_g := List.mem_filter.mpr ⟨List.mem_of_getElem? (i := 275) (by decide +kernel), rfl⟩
theorem tw_276 : (Cond.code yLF_isAtomic prog_4_method_13_code 1 (some FieldType.boolean)) ∈ lw_g := List.mem_filter.mpr ⟨List.mem_of_getElem? (i := 276) (by decide +kernel), rfl⟩
theorem tw_277 : (Cond.methodLink "RiscHart$LongForm" 28 yLF_f) ∈ lw_g := List.mem_filter.mpr ⟨List.mem_of_getElem? (i := 277) (by decide +kernel), rfl⟩
theorem tw_278 : (Cond.methodLink "RiscHart$LongForm" 31 yLF_k) ∈ lw_g := List.mem_filter.mpr ⟨List.mem_of_getElem? (i := 278) (by decide +kernel), rfl⟩
theorem tw_279 : (Cond.static yLF_k) ∈ lw_g := List.mem_filter.mpr ⟨List.mem_of_getElem? (i := 279) (by decide +kernel), rfl⟩
theorem tw_280 : (Cond.code yLF_k prog_4_method_7_code 1 (some FieldType.int)) ∈ lw_g := List.mem_filter.mpr ⟨List.mem_of_getElem? (i := 280) (by decide +kernel), rfl⟩
theorem tw_281 : (Cond.methodLink "RiscHart$LongForm" 34 yLF_b) ∈ lw_g := List.mem_filter.mpr ⟨List.mem_of_getElem? (i := 281) (by decide +kernel), rfl⟩
theorem tw_282 : (Cond.methodLink "RiscHart" 194 yLF_k) ∈ lw_g := List.mem_filter.mpr ⟨List.mem_of_getElem? (i := 282) (by decide +kernel), rfl⟩
theorem tw_283 : (Cond.methodLink "RiscHart" 197 yHart_loadReserved) ∈ lw_g := List.mem_filter.mpr ⟨List.mem_of_getElem? (i := 283) (by decide +kernel), rfl⟩
theorem tw_285 : (Cond.instanceMethod yHart_loadReserved) ∈ lw_g := List.mem_filter.mpr ⟨List.mem_of_getElem? (i := 285) (by decide +kernel), rfl⟩
theorem tw_286 : (Cond.code yHart_loadReserved prog_1_method_29_code 3 (some FieldType.int)) ∈ lw_g := List.mem_filter.mpr ⟨List.mem_of_getElem? (i := 286) (by decide +kernel), rfl⟩
theorem tw_287 : (Cond.methodLink "RiscHart" 207 yMem_reserve) ∈ lw_g := List.mem_filter.mpr ⟨List.mem_of_getElem? (i := 287) (by decide +kernel), rfl⟩
theorem tw_288 : (Cond.instanceMethod yMem_reserve) ∈ lw_g := List.mem_filter.mpr ⟨List.mem_of_getElem? (i := 288) (by decide +kernel), rfl⟩
theorem tw_289 : (Cond.selects "RiscHart$Memory" yMem_reserve yMem_reserve) ∈ lw_g := List.mem_filter.mpr ⟨List.mem_of_getElem? (i := 289) (by decide +kernel), rfl⟩
theorem tw_290 : (Cond.code yMem_reserve prog_5_method_8_code 2 none) ∈ lw_g := List.mem_filter.mpr ⟨List.mem_of_getElem? (i := 290) (by decide +kernel), rfl⟩
theorem tw_291 : (Cond.methodLink "RiscHart" 200 yHart_storeConditional) ∈ lw_g := List.mem_filter.mpr ⟨List.mem_of_getElem? (i := 291) (by decide +kernel), rfl⟩
theorem tw_293 : (Cond.instanceMethod yHart_storeConditional) ∈ lw_g := List.mem_filter.mpr ⟨List.mem_of_getElem? (i := 293) (by decide +kernel), rfl⟩
theorem tw_294 : (Cond.code yHart_storeConditional prog_1_method_30_code 5 (some FieldType.int)) ∈ lw_g := List.mem_filter.mpr ⟨List.mem_of_getElem? (i := 294) (by decide +kernel), rfl⟩
theorem tw_295 : (Cond.methodLink "RiscHart" 83 yMem_reservedAddress) ∈ lw_g := List.mem_filter.mpr ⟨List.mem_of_getElem? (i := 295) (by decide +kernel), rfl⟩
theorem tw_296 : (Cond.instanceMethod yMem_reservedAddress) ∈ lw_g := List.mem_filter.mpr ⟨List.mem_of_getElem? (i := 296) (by decide +kernel), rfl⟩
theorem tw_297 : (Cond.selects "RiscHart$Memory" yMem_reservedAddress yMem_reservedAddress) ∈ lw_g := List.mem_filter.mpr ⟨List.mem_of_getElem? (i := 297) (by decide +kernel), rfl⟩
theorem tw_298 : (Cond.code yMem_reservedAddress prog_5_method_7_code 1 (some FieldType.int)) ∈ lw_g := List.mem_filter.mpr ⟨List.mem_of_getElem? (i := 298) (by decide +kernel), rfl⟩
theorem tw_299 : (Cond.methodLink "RiscHart" 203 yHart_change) ∈ lw_g := List.mem_filter.mpr ⟨List.mem_of_getElem? (i := 299) (by decide +kernel), rfl⟩
theorem tw_301 : (Cond.instanceMethod yHart_change) ∈ lw_g := List.mem_filter.mpr ⟨List.mem_of_getElem? (i := 301) (by decide +kernel), rfl⟩
theorem tw_302 : (Cond.code yHart_change prog_1_method_31_code 6 (some FieldType.int)) ∈ lw_g := List.mem_filter.mpr ⟨List.mem_of_getElem? (i := 302) (by decide +kernel), rfl⟩
theorem tw_303 : (Cond.methodLink "RiscHart" 211 yAr_changed) ∈ lw_g := List.mem_filter.mpr ⟨List.mem_of_getElem? (i := 303) (by decide +kernel), rfl⟩
theorem tw_304 : (Cond.static yAr_changed) ∈ lw_g := List.mem_filter.mpr ⟨List.mem_of_getElem? (i := 304) (by decide +kernel), rfl⟩
theorem tw_305 : (Cond.code yAr_changed prog_2_method_8_code 3 (some FieldType.int)) ∈ lw_g := List.mem_filter.mpr ⟨List.mem_of_getElem? (i := 305) (by decide +kernel), rfl⟩
theorem tw_306 : (Cond.methodLink "RiscHart" 148 yHart_longSystem) ∈ lw_g := List.mem_filter.mpr ⟨List.mem_of_getElem? (i := 306) (by decide +kernel), rfl⟩
theorem tw_308 : (Cond.instanceMethod yHart_longSystem) ∈ lw_g := List.mem_filter.mpr ⟨List.mem_of_getElem? (i := 308) (by decide +kernel), rfl⟩
theorem tw_309 : (Cond.code yHart_longSystem prog_1_method_32_code 3 (some FieldType.int)) ∈ lw_g := List.mem_filter.mpr ⟨List.mem_of_getElem? (i := 309) (by decide +kernel), rfl⟩
theorem tw_310 : (Cond.constant "RiscHart" 214 1048691) ∈ lw_g := List.mem_filter.mpr ⟨List.mem_of_getElem? (i := 310) (by decide +kernel), rfl⟩
theorem tw_311 : (Cond.methodLink "RiscHart" 215 yHart_readCounter) ∈ lw_g := List.mem_filter.mpr ⟨List.mem_of_getElem? (i := 311) (by decide +kernel), rfl⟩
theorem tw_313 : (Cond.instanceMethod yHart_readCounter) ∈ lw_g := List.mem_filter.mpr ⟨List.mem_of_getElem? (i := 313) (by decide +kernel), rfl⟩
theorem tw_314 : (Cond.code yHart_readCounter prog_1_method_33_code 3 (some FieldType.int)) ∈ lw_g := List.mem_filter.mpr ⟨List.mem_of_getElem? (i := 314) (by decide +kernel), rfl⟩
theorem tw_315 : (Cond.methodLink "RiscHart" 104 yHart_carryOutShort) ∈ lw_g := List.mem_filter.mpr ⟨List.mem_of_getElem? (i := 315) (by decide +kernel), rfl⟩
theorem tw_317 : (Cond.instanceMethod yHart_carryOutShort) ∈ lw_g := List.mem_filter.mpr ⟨List.mem_of_getElem? (i := 317) (by decide +kernel), rfl⟩
theorem tw_318 : (Cond.code yHart_carryOutShort prog_1_method_34_code 2 (some FieldType.int)) ∈ lw_g := List.mem_filter.mpr ⟨List.mem_of_getElem? (i := 318) (by decide +kernel), rfl⟩
theorem tw_319 : (Cond.methodLink "RiscHart" 218 yHart_shortOfQ0) ∈ lw_g := List.mem_filter.mpr ⟨List.mem_of_getElem? (i := 319) (by decide +kernel), rfl⟩
theorem tw_321 : (Cond.instanceMethod yHart_shortOfQ0) ∈ lw_g := List.mem_filter.mpr ⟨List.mem_of_getElem? (i := 321) (by decide +kernel), rfl⟩
theorem tw_322 : (Cond.code yHart_shortOfQ0 prog_1_method_35_code 5 (some FieldType.int)) ∈ lw_g := List.mem_filter.mpr ⟨List.mem_of_getElem? (i := 322) (by decide +kernel), rfl⟩
theorem tw_323 : (Cond.methodLink "RiscHart" 227 ySF_lowNear) ∈ lw_g := List.mem_filter.mpr ⟨List.mem_of_getElem? (i := 323) (by decide +kernel), rfl⟩
theorem tw_324 : (Cond.static ySF_lowNear) ∈ lw_g := List.mem_filter.mpr ⟨List.mem_of_getElem? (i := 324) (by decide +kernel), rfl⟩
theorem tw_325 : (Cond.code ySF_lowNear prog_6_method_6_code 1 (some FieldType.int)) ∈ lw_g := List.mem_filter.mpr ⟨List.mem_of_getElem? (i := 325) (by decide +kernel), rfl⟩
theorem tw_326 : (Cond.methodLink "RiscHart$ShortForm" 7 yBits_part) ∈ lw_g := List.mem_filter.mpr ⟨List.mem_of_getElem? (i := 326) (by decide +kernel), rfl⟩
theorem tw_327 : (Cond.methodLink "RiscHart" 232 ySF_highNear) ∈ lw_g := List.mem_filter.mpr ⟨List.mem_of_getElem? (i := 327) (by decide +kernel), rfl⟩
theorem tw_328 : (Cond.static ySF_highNear) ∈ lw_g := List.mem_filter.mpr ⟨List.mem_of_getElem? (i := 328) (by decide +kernel), rfl⟩
theorem tw_329 : (Cond.code ySF_highNear prog_6_method_7_code 1 (some FieldType.int)) ∈ lw_g := List.mem_filter.mpr ⟨List.mem_of_getElem? (i := 329) (by decide +kernel), rfl⟩
theorem tw_330 : (Cond.methodLink "RiscHart" 235 ySF_nearOffset) ∈ lw_g := List.mem_filter.mpr ⟨List.mem_of_getElem? (i := 330) (by decide +kernel), rfl⟩
theorem tw_331 : (Cond.static ySF_nearOffset) ∈ lw_g := List.mem_filter.mpr ⟨List.mem_of_getElem? (i := 331) (by decide +kernel), rfl⟩
theorem tw_332 : (Cond.code ySF_nearOffset prog_6_method_10_code 1 (some FieldType.int)) ∈ lw_g := List.mem_filter.mpr ⟨List.mem_of_getElem? (i := 332) (by decide +kernel), rfl⟩
theorem tw_333 : (Cond.methodLink "RiscHart" 238 ySF_f) ∈ lw_g := List.mem_filter.mpr ⟨List.mem_of_getElem? (i := 333) (by decide +kernel), rfl⟩
theorem tw_334 : (Cond.static ySF_f) ∈ lw_g := List.mem_filter.mpr ⟨List.mem_of_getElem? (i := 334) (by decide +kernel), rfl⟩
theorem tw_335 : (Cond.code ySF_f prog_6_method_2_code 1 (some FieldType.int)) ∈ lw_g := List.mem_filter.mpr ⟨List.mem_of_getElem? (i := 335) (by decide +kernel), rfl⟩
theorem tw_336 : (Cond.methodLink "RiscHart" 239 ySF_stackNumber) ∈ lw_g := List.mem_filter.mpr ⟨List.mem_of_getElem? (i := 336) (by decide +kernel), rfl⟩
theorem tw_337 : (Cond.static ySF_stackNumber) ∈ lw_g := List.mem_filter.mpr ⟨List.mem_of_getElem? (i := 337) (by decide +kernel), rfl⟩
theorem tw_338 : (Cond.code ySF_stackNumber prog_6_method_9_code 1 (some FieldType.int)) ∈ lw_g := List.mem_filter.mpr ⟨List.mem_of_getElem? (i := 338) (by decide +kernel), rfl⟩
theorem tw_339 : (Cond.methodLink "RiscHart" 221 yHart_shortOfQ1) ∈ lw_g := List.mem_filter.mpr ⟨List.mem_of_getElem? (i := 339) (by decide +kernel), rfl⟩
theorem tw_341 : (Cond.instanceMethod yHart_shortOfQ1) ∈ lw_g := List.mem_filter.mpr ⟨List.mem_of_getElem? (i := 341) (by decide +kernel), rfl⟩
theorem tw_342 : (Cond.code yHart_shortOfQ1 prog_1_method_36_code 4 (some FieldType.int)) ∈ lw_g := List.mem_filter.mpr ⟨List.mem_of_getElem? (i := 342) (by decide +kernel), rfl⟩
theorem tw_343 : (Cond.methodLink "RiscHart" 242 ySF_d) ∈ lw_g := List.mem_filter.mpr ⟨List.mem_of_getElem? (i := 343) (by decide +kernel), rfl⟩
theorem tw_344 : (Cond.static ySF_d) ∈ lw_g := List.mem_filter.mpr ⟨List.mem_of_getElem? (i := 344) (by decide +kernel), rfl⟩
theorem tw_345 : (Cond.code ySF_d prog_6_method_4_code 1 (some FieldType.int)) ∈ lw_g := List.mem_filter.mpr ⟨List.mem_of_getElem? (i := 345) (by decide +kernel), rfl⟩
theorem tw_346 : (Cond.methodLink "RiscHart" 243 ySF_number) ∈ lw_g := List.mem_filter.mpr ⟨List.mem_of_getElem? (i := 346) (by decide +kernel), rfl⟩
theorem tw_347 : (Cond.static ySF_number) ∈ lw_g := List.mem_filter.mpr ⟨List.mem_of_getElem? (i := 347) (by decide +kernel), rfl⟩
theorem tw_348 : (Cond.code ySF_number prog_6_method_8_code 1 (some FieldType.int)) ∈ lw_g := List.mem_filter.mpr ⟨List.mem_of_getElem? (i := 348) (by decide +kernel), rfl⟩
theorem tw_349 : (Cond.methodLink "RiscHart$ShortForm" 13 yBits_signed) ∈ lw_g := List.mem_filter.mpr ⟨List.mem_of_getElem? (i := 349) (by decide +kernel), rfl⟩
theorem tw_350 : (Cond.methodLink "RiscHart" 246 ySF_offsetJ) ∈ lw_g := List.mem_filter.mpr ⟨List.mem_of_getElem? (i := 350) (by decide +kernel), rfl⟩
theorem tw_351 : (Cond.static ySF_offsetJ) ∈ lw_g := List.mem_filter.mpr ⟨List.mem_of_getElem? (i := 351) (by decide +kernel), rfl⟩
theorem tw_352 : (Cond.code ySF_offsetJ prog_6_method_11_code 2 (some FieldType.int)) ∈ lw_g := List.mem_filter.mpr ⟨List.mem_of_getElem? (i := 352) (by decide +kernel), rfl⟩
theorem tw_353 : (Cond.methodLink "RiscHart" 247 yHart_shortMoveStack) ∈ lw_g := List.mem_filter.mpr ⟨List.mem_of_getElem? (i := 353) (by decide +kernel), rfl⟩
theorem tw_355 : (Cond.instanceMethod yHart_shortMoveStack) ∈ lw_g := List.mem_filter.mpr ⟨List.mem_of_getElem? (i := 355) (by decide +kernel), rfl⟩
theorem tw_356 : (Cond.code yHart_shortMoveStack prog_1_method_37_code 3 (some FieldType.int)) ∈ lw_g := List.mem_filter.mpr ⟨List.mem_of_getElem? (i := 356) (by decide +kernel), rfl⟩
theorem tw_357 : (Cond.methodLink "RiscHart" 257 ySF_stackMove) ∈ lw_g := List.mem_filter.mpr ⟨List.mem_of_getElem? (i := 357) (by decide +kernel), rfl⟩
theorem tw_358 : (Cond.static ySF_stackMove) ∈ lw_g := List.mem_filter.mpr ⟨List.mem_of_getElem? (i := 358) (by decide +kernel), rfl⟩
theorem tw_359 : (Cond.code ySF_stackMove prog_6_method_12_code 2 (some FieldType.int)) ∈ lw_g := List.mem_filter.mpr ⟨List.mem_of_getElem? (i := 359) (by decide +kernel), rfl⟩
theorem tw_360 : (Cond.methodLink "RiscHart" 250 yHart_shortUpperNumber) ∈ lw_g := List.mem_filter.mpr ⟨List.mem_of_getElem? (i := 360) (by decide +kernel), rfl⟩
theorem tw_362 : (Cond.instanceMethod yHart_shortUpperNumber) ∈ lw_g := List.mem_filter.mpr ⟨List.mem_of_getElem? (i := 362) (by decide +kernel), rfl⟩
theorem tw_363 : (Cond.code yHart_shortUpperNumber prog_1_method_38_code 3 (some FieldType.int)) ∈ lw_g := List.mem_filter.mpr ⟨List.mem_of_getElem? (i := 363) (by decide +kernel), rfl⟩
theorem tw_364 : (Cond.methodLink "RiscHart" 253 yHart_shortArithmetic) ∈ lw_g := List.mem_filter.mpr ⟨List.mem_of_getElem? (i := 364) (by decide +kernel), rfl⟩
theorem tw_366 : (Cond.instanceMethod yHart_shortArithmetic) ∈ lw_g := List.mem_filter.mpr ⟨List.mem_of_getElem? (i := 366) (by decide +kernel), rfl⟩
theorem tw_367 : (Cond.code yHart_shortArithmetic prog_1_method_39_code 6 (some FieldType.int)) ∈ lw_g := List.mem_filter.mpr ⟨List.mem_of_getElem? (i := 367) (by decide +kernel), rfl⟩
theorem tw_368 : (Cond.methodLink "RiscHart" 260 yBits_part) ∈ lw_g := List.mem_filter.mpr ⟨List.mem_of_getElem? (i := 368) (by decide +kernel), rfl⟩
theorem tw_369 : (Cond.methodLink "RiscHart" 265 ySF_bit12) ∈ lw_g := List.mem_filter.mpr ⟨List.mem_of_getElem? (i := 369) (by decide +kernel), rfl⟩
theorem tw_370 : (Cond.static ySF_bit12) ∈ lw_g := List.mem_filter.mpr ⟨List.mem_of_getElem? (i := 370) (by decide +kernel), rfl⟩
theorem tw_371 : (Cond.code ySF_bit12 prog_6_method_3_code 1 (some FieldType.boolean)) ∈ lw_g := List.mem_filter.mpr ⟨List.mem_of_getElem? (i := 371) (by decide +kernel), rfl⟩
theorem tw_372 : (Cond.methodLink "RiscHart" 268 ySF_b) ∈ lw_g := List.mem_filter.mpr ⟨List.mem_of_getElem? (i := 372) (by decide +kernel), rfl⟩
theorem tw_373 : (Cond.static ySF_b) ∈ lw_g := List.mem_filter.mpr ⟨List.mem_of_getElem? (i := 373) (by decide +kernel), rfl⟩
theorem tw_374 : (Cond.code ySF_b prog_6_method_5_code 1 (some FieldType.int)) ∈ lw_g := List.mem_filter.mpr ⟨List.mem_of_getElem? (i := 374) (by decide +kernel), rfl⟩
theorem tw_375 : (Cond.methodLink "RiscHart" 269 yAr_ofTwoNear) ∈ lw_g := List.mem_filter.mpr ⟨List.mem_of_getElem? (i := 375) (by decide +kernel), rfl⟩
theorem tw_376 : (Cond.static yAr_ofTwoNear) ∈ lw_g := List.mem_filter.mpr ⟨List.mem_of_getElem? (i := 376) (by decide +kernel), rfl⟩
theorem tw_377 : (Cond.code yAr_ofTwoNear prog_2_method_7_code 3 (some FieldType.int)) ∈ lw_g := List.mem_filter.mpr ⟨List.mem_of_getElem? (i := 377) (by decide +kernel), rfl⟩
theorem tw_378 : (Cond.methodLink "RiscHart" 256 ySF_offsetT) ∈ lw_g := List.mem_filter.mpr ⟨List.mem_of_getElem? (i := 378) (by decide +kernel), rfl⟩
theorem tw_379 : (Cond.static ySF_offsetT) ∈ lw_g := List.mem_filter.mpr ⟨List.mem_of_getElem? (i := 379) (by decide +kernel), rfl⟩
theorem tw_380 : (Cond.code ySF_offsetT prog_6_method_13_code 2 (some FieldType.int)) ∈ lw_g := List.mem_filter.mpr ⟨List.mem_of_getElem? (i := 380) (by decide +kernel), rfl⟩
theorem tw_381 : (Cond.methodLink "RiscHart" 224 yHart_shortOfQ2) ∈ lw_g := List.mem_filter.mpr ⟨List.mem_of_getElem? (i := 381) (by decide +kernel), rfl⟩
theorem tw_383 : (Cond.instanceMethod yHart_shortOfQ2) ∈ lw_g := List.mem_filter.mpr ⟨List.mem_of_getElem? (i := 383) (by decide +kernel), rfl⟩
theorem tw_384 : (Cond.code yHart_shortOfQ2 prog_1_method_40_code 4 (some FieldType.int)) ∈ lw_g := List.mem_filter.mpr ⟨List.mem_of_getElem? (i := 384) (by decide +kernel), rfl⟩
theorem tw_385 : (Cond.methodLink "RiscHart" 272 ySF_stackLoadOffset) ∈ lw_g := List.mem_filter.mpr ⟨List.mem_of_getElem? (i := 385) (by decide +kernel), rfl⟩
theorem tw_386 : (Cond.static ySF_stackLoadOffset) ∈ lw_g := List.mem_filter.mpr ⟨List.mem_of_getElem? (i := 386) (by decide +kernel), rfl⟩
theorem tw_387 : (Cond.code ySF_stackLoadOffset prog_6_method_14_code 1 (some FieldType.int)) ∈ lw_g := List.mem_filter.mpr ⟨List.mem_of_getElem? (i := 387) (by decide +kernel), rfl⟩
theorem tw_388 : (Cond.methodLink "RiscHart" 275 yHart_shortJumpToRegister) ∈ lw_g := List.mem_filter.mpr ⟨List.mem_of_getElem? (i := 388) (by decide +kernel), rfl⟩
theorem tw_390 : (Cond.instanceMethod yHart_shortJumpToRegister) ∈ lw_g := List.mem_filter.mpr ⟨List.mem_of_getElem? (i := 390) (by decide +kernel), rfl⟩
theorem tw_391 : (Cond.code yHart_shortJumpToRegister prog_1_method_41_code 4 (some FieldType.int)) ∈ lw_g := List.mem_filter.mpr ⟨List.mem_of_getElem? (i := 391) (by decide +kernel), rfl⟩
theorem tw_392 : (Cond.methodLink "RiscHart" 278 yHart_shortMoveOrAdd) ∈ lw_g := List.mem_filter.mpr ⟨List.mem_of_getElem? (i := 392) (by decide +kernel), rfl⟩
theorem tw_394 : (Cond.instanceMethod yHart_shortMoveOrAdd) ∈ lw_g := List.mem_filter.mpr ⟨List.mem_of_getElem? (i := 394) (by decide +kernel), rfl⟩
theorem tw_395 : (Cond.code yHart_shortMoveOrAdd prog_1_method_42_code 4 (some FieldType.int)) ∈ lw_g := List.mem_filter.mpr ⟨List.mem_of_getElem? (i := 395) (by decide +kernel), rfl⟩
theorem tw_396 : (Cond.methodLink "RiscHart" 281 ySF_stackStoreOffset) ∈ lw_g := List.mem_filter.mpr ⟨List.mem_of_getElem? (i := 396) (by decide +kernel), rfl⟩
theorem tw_397 : (Cond.static ySF_stackStoreOffset) ∈ lw_g := List.mem_filter.mpr ⟨List.mem_of_getElem? (i := 397) (by decide +kernel), rfl⟩
theorem tw_398 : (Cond.code ySF_stackStoreOffset prog_6_method_15_code 1 (some FieldType.int)) ∈ lw_g := List.mem_filter.mpr ⟨List.mem_of_getElem? (i := 398) (by decide +kernel), rfl⟩
theorem tw_557 : (Cond.fieldLink "RiscHartModel" 24 "RiscHartModel" "code" "I") ∈ lw_g := List.mem_filter.mpr ⟨List.mem_of_getElem? (i := 557) (by decide +kernel), rfl⟩
theorem tw_558 : (Cond.fieldLink "RiscHartModel" 8 "RiscHartModel" "bytes" "[I") ∈ lw_g := List.mem_filter.mpr ⟨List.mem_of_getElem? (i := 558) (by decide +kernel), rfl⟩
theorem tw_559 : (Cond.fieldLink "RiscHartModel" 14 "RiscHartModel" "open" "[I") ∈ lw_g := List.mem_filter.mpr ⟨List.mem_of_getElem? (i := 559) (by decide +kernel), rfl⟩
theorem tw_560 : (Cond.fieldLink "RiscHartModel" 17 "RiscHartModel" "x" "[I") ∈ lw_g := List.mem_filter.mpr ⟨List.mem_of_getElem? (i := 560) (by decide +kernel), rfl⟩
theorem tw_561 : (Cond.fieldLink "RiscHartModel" 37 "RiscHartModel" "place" "I") ∈ lw_g := List.mem_filter.mpr ⟨List.mem_of_getElem? (i := 561) (by decide +kernel), rfl⟩
theorem tw_562 : (Cond.fieldLink "RiscHartModel" 85 "RiscHartModel" "cause" "I") ∈ lw_g := List.mem_filter.mpr ⟨List.mem_of_getElem? (i := 562) (by decide +kernel), rfl⟩
theorem tw_563 : (Cond.fieldLink "RiscHartModel" 88 "RiscHartModel" "value" "I") ∈ lw_g := List.mem_filter.mpr ⟨List.mem_of_getElem? (i := 563) (by decide +kernel), rfl⟩
theorem tw_564 : (Cond.fieldLink "RiscHartModel" 20 "RiscHartModel" "reserved" "I") ∈ lw_g := List.mem_filter.mpr ⟨List.mem_of_getElem? (i := 564) (by decide +kernel), rfl⟩
theorem tw_565 : (Cond.fieldLink "RiscHartModel" 129 "RiscHartModel" "retired" "J") ∈ lw_g := List.mem_filter.mpr ⟨List.mem_of_getElem? (i := 565) (by decide +kernel), rfl⟩
theorem tw_566 : (Cond.fieldLink "RiscHartModel" 40 "RiscHartModel" "clock" "J") ∈ lw_g := List.mem_filter.mpr ⟨List.mem_of_getElem? (i := 566) (by decide +kernel), rfl⟩
theorem tw_567 : (Cond.fieldLink "RiscHartModel" 94 "RiscHartModel" "bits" "I") ∈ lw_g := List.mem_filter.mpr ⟨List.mem_of_getElem? (i := 567) (by decide +kernel), rfl⟩
theorem tw_568 : (Cond.fieldLink "RiscHartModel" 112 "RiscHartModel" "length" "I") ∈ lw_g := List.mem_filter.mpr ⟨List.mem_of_getElem? (i := 568) (by decide +kernel), rfl⟩
theorem tw_569 : (Cond.fieldLink "RiscHartModel" 115 "RiscHartModel" "next" "I") ∈ lw_g := List.mem_filter.mpr ⟨List.mem_of_getElem? (i := 569) (by decide +kernel), rfl⟩
theorem tw_570 : (Cond.fieldLink "RiscHartModel" 91 "RiscHartModel" "met" "I") ∈ lw_g := List.mem_filter.mpr ⟨List.mem_of_getElem? (i := 570) (by decide +kernel), rfl⟩
theorem tw_608 : (Cond.constant "RiscHartModel" 27 65535) ∈ lw_g := List.mem_filter.mpr ⟨List.mem_of_getElem? (i := 608) (by decide +kernel), rfl⟩
theorem tw_609 : (Cond.methodLink "RiscHartModel" 28 yMod_in) ∈ lw_g := List.mem_filter.mpr ⟨List.mem_of_getElem? (i := 609) (by decide +kernel), rfl⟩
theorem tw_610 : (Cond.static yMod_in) ∈ lw_g := List.mem_filter.mpr ⟨List.mem_of_getElem? (i := 610) (by decide +kernel), rfl⟩
theorem tw_611 : (Cond.code yMod_in prog_8_method_3_code 3 (some FieldType.boolean)) ∈ lw_g := List.mem_filter.mpr ⟨List.mem_of_getElem? (i := 611) (by decide +kernel), rfl⟩
theorem tw_612 : (Cond.methodLink "RiscHartModel" 32 yMod_write) ∈ lw_g := List.mem_filter.mpr ⟨List.mem_of_getElem? (i := 612) (by decide +kernel), rfl⟩
theorem tw_614 : (Cond.instanceMethod yMod_write) ∈ lw_g := List.mem_filter.mpr ⟨List.mem_of_getElem? (i := 614) (by decide +kernel), rfl⟩
theorem tw_615 : (Cond.code yMod_write prog_8_method_4_code 3 none) ∈ lw_g := List.mem_filter.mpr ⟨List.mem_of_getElem? (i := 615) (by decide +kernel), rfl⟩
theorem tw_620 : (Cond.constant "RiscHartModel" 36 65532) ∈ lw_g := List.mem_filter.mpr ⟨List.mem_of_getElem? (i := 620) (by decide +kernel), rfl⟩
theorem tw_649 : (Cond.methodLink "RiscHartModel" 104 yMod_fetches) ∈ lw_g := List.mem_filter.mpr ⟨List.mem_of_getElem? (i := 649) (by decide +kernel), rfl⟩
theorem tw_651 : (Cond.instanceMethod yMod_fetches) ∈ lw_g := List.mem_filter.mpr ⟨List.mem_of_getElem? (i := 651) (by decide +kernel), rfl⟩
theorem tw_652 : (Cond.code yMod_fetches prog_8_method_30_code 2 (some FieldType.boolean)) ∈ lw_g := List.mem_filter.mpr ⟨List.mem_of_getElem? (i := 652) (by decide +kernel), rfl⟩
theorem tw_653 : (Cond.methodLink "RiscHartModel" 100 yMod_may) ∈ lw_g := List.mem_filter.mpr ⟨List.mem_of_getElem? (i := 653) (by decide +kernel), rfl⟩
theorem tw_655 : (Cond.instanceMethod yMod_may) ∈ lw_g := List.mem_filter.mpr ⟨List.mem_of_getElem? (i := 655) (by decide +kernel), rfl⟩
theorem tw_656 : (Cond.code yMod_may prog_8_method_28_code 3 (some FieldType.boolean)) ∈ lw_g := List.mem_filter.mpr ⟨List.mem_of_getElem? (i := 656) (by decide +kernel), rfl⟩
theorem tw_657 : (Cond.methodLink "RiscHartModel" 97 yMod_trap) ∈ lw_g := List.mem_filter.mpr ⟨List.mem_of_getElem? (i := 657) (by decide +kernel), rfl⟩
theorem tw_659 : (Cond.instanceMethod yMod_trap) ∈ lw_g := List.mem_filter.mpr ⟨List.mem_of_getElem? (i := 659) (by decide +kernel), rfl⟩
theorem tw_660 : (Cond.code yMod_trap prog_8_method_26_code 3 (some FieldType.int)) ∈ lw_g := List.mem_filter.mpr ⟨List.mem_of_getElem? (i := 660) (by decide +kernel), rfl⟩
theorem tw_661 : (Cond.methodLink "RiscHartModel" 108 yMod_half) ∈ lw_g := List.mem_filter.mpr ⟨List.mem_of_getElem? (i := 661) (by decide +kernel), rfl⟩
theorem tw_663 : (Cond.instanceMethod yMod_half) ∈ lw_g := List.mem_filter.mpr ⟨List.mem_of_getElem? (i := 663) (by decide +kernel), rfl⟩
theorem tw_664 : (Cond.code yMod_half prog_8_method_29_code 2 (some FieldType.int)) ∈ lw_g := List.mem_filter.mpr ⟨List.mem_of_getElem? (i := 664) (by decide +kernel), rfl⟩
theorem tw_665 : (Cond.methodLink "RiscHartModel" 118 yMod_expand) ∈ lw_g := List.mem_filter.mpr ⟨List.mem_of_getElem? (i := 665) (by decide +kernel), rfl⟩
theorem tw_666 : (Cond.static yMod_expand) ∈ lw_g := List.mem_filter.mpr ⟨List.mem_of_getElem? (i := 666) (by decide +kernel), rfl⟩
theorem tw_667 : (Cond.code yMod_expand prog_8_method_21_code 3 (some FieldType.int)) ∈ lw_g := List.mem_filter.mpr ⟨List.mem_of_getElem? (i := 667) (by decide +kernel), rfl⟩
theorem tw_668 : (Cond.methodLink "RiscHartModel" 44 yMod_part) ∈ lw_g := List.mem_filter.mpr ⟨List.mem_of_getElem? (i := 668) (by decide +kernel), rfl⟩
theorem tw_669 : (Cond.static yMod_part) ∈ lw_g := List.mem_filter.mpr ⟨List.mem_of_getElem? (i := 669) (by decide +kernel), rfl⟩
theorem tw_670 : (Cond.code yMod_part prog_8_method_13_code 3 (some FieldType.int)) ∈ lw_g := List.mem_filter.mpr ⟨List.mem_of_getElem? (i := 670) (by decide +kernel), rfl⟩
theorem tw_671 : (Cond.methodLink "RiscHartModel" 52 yMod_zero) ∈ lw_g := List.mem_filter.mpr ⟨List.mem_of_getElem? (i := 671) (by decide +kernel), rfl⟩
theorem tw_672 : (Cond.static yMod_zero) ∈ lw_g := List.mem_filter.mpr ⟨List.mem_of_getElem? (i := 672) (by decide +kernel), rfl⟩
theorem tw_673 : (Cond.code yMod_zero prog_8_method_22_code 6 (some FieldType.int)) ∈ lw_g := List.mem_filter.mpr ⟨List.mem_of_getElem? (i := 673) (by decide +kernel), rfl⟩
theorem tw_674 : (Cond.methodLink "RiscHartModel" 48 yMod_bit) ∈ lw_g := List.mem_filter.mpr ⟨List.mem_of_getElem? (i := 674) (by decide +kernel), rfl⟩
theorem tw_675 : (Cond.static yMod_bit) ∈ lw_g := List.mem_filter.mpr ⟨List.mem_of_getElem? (i := 675) (by decide +kernel), rfl⟩
theorem tw_676 : (Cond.code yMod_bit prog_8_method_14_code 4 (some FieldType.int)) ∈ lw_g := List.mem_filter.mpr ⟨List.mem_of_getElem? (i := 676) (by decide +kernel), rfl⟩
theorem tw_677 : (Cond.methodLink "RiscHartModel" 62 yMod_immediate) ∈ lw_g := List.mem_filter.mpr ⟨List.mem_of_getElem? (i := 677) (by decide +kernel), rfl⟩
theorem tw_678 : (Cond.static yMod_immediate) ∈ lw_g := List.mem_filter.mpr ⟨List.mem_of_getElem? (i := 678) (by decide +kernel), rfl⟩
theorem tw_679 : (Cond.code yMod_immediate prog_8_method_16_code 5 (some FieldType.int)) ∈ lw_g := List.mem_filter.mpr ⟨List.mem_of_getElem? (i := 679) (by decide +kernel), rfl⟩
theorem tw_680 : (Cond.methodLink "RiscHartModel" 66 yMod_store) ∈ lw_g := List.mem_filter.mpr ⟨List.mem_of_getElem? (i := 680) (by decide +kernel), rfl⟩
theorem tw_681 : (Cond.static yMod_store) ∈ lw_g := List.mem_filter.mpr ⟨List.mem_of_getElem? (i := 681) (by decide +kernel), rfl⟩
theorem tw_682 : (Cond.code yMod_store prog_8_method_18_code 3 (some FieldType.int)) ∈ lw_g := List.mem_filter.mpr ⟨List.mem_of_getElem? (i := 682) (by decide +kernel), rfl⟩
theorem tw_683 : (Cond.methodLink "RiscHartModel" 56 yMod_one) ∈ lw_g := List.mem_filter.mpr ⟨List.mem_of_getElem? (i := 683) (by decide +kernel), rfl⟩
theorem tw_684 : (Cond.static yMod_one) ∈ lw_g := List.mem_filter.mpr ⟨List.mem_of_getElem? (i := 684) (by decide +kernel), rfl⟩
theorem tw_685 : (Cond.code yMod_one prog_8_method_23_code 7 (some FieldType.int)) ∈ lw_g := List.mem_filter.mpr ⟨List.mem_of_getElem? (i := 685) (by decide +kernel), rfl⟩
theorem tw_686 : (Cond.methodLink "RiscHartModel" 69 yMod_signed) ∈ lw_g := List.mem_filter.mpr ⟨List.mem_of_getElem? (i := 686) (by decide +kernel), rfl⟩
theorem tw_687 : (Cond.static yMod_signed) ∈ lw_g := List.mem_filter.mpr ⟨List.mem_of_getElem? (i := 687) (by decide +kernel), rfl⟩
theorem tw_688 : (Cond.code yMod_signed prog_8_method_15_code 2 (some FieldType.int)) ∈ lw_g := List.mem_filter.mpr ⟨List.mem_of_getElem? (i := 688) (by decide +kernel), rfl⟩
theorem tw_689 : (Cond.methodLink "RiscHartModel" 72 yMod_link) ∈ lw_g := List.mem_filter.mpr ⟨List.mem_of_getElem? (i := 689) (by decide +kernel), rfl⟩
theorem tw_690 : (Cond.static yMod_link) ∈ lw_g := List.mem_filter.mpr ⟨List.mem_of_getElem? (i := 690) (by decide +kernel), rfl⟩
theorem tw_691 : (Cond.code yMod_link prog_8_method_19_code 2 (some FieldType.int)) ∈ lw_g := List.mem_filter.mpr ⟨List.mem_of_getElem? (i := 691) (by decide +kernel), rfl⟩
theorem tw_692 : (Cond.methodLink "RiscHartModel" 75 yMod_four) ∈ lw_g := List.mem_filter.mpr ⟨List.mem_of_getElem? (i := 692) (by decide +kernel), rfl⟩
theorem tw_693 : (Cond.static yMod_four) ∈ lw_g := List.mem_filter.mpr ⟨List.mem_of_getElem? (i := 693) (by decide +kernel), rfl⟩
theorem tw_694 : (Cond.code yMod_four prog_8_method_24_code 6 (some FieldType.int)) ∈ lw_g := List.mem_filter.mpr ⟨List.mem_of_getElem? (i := 694) (by decide +kernel), rfl⟩
theorem tw_695 : (Cond.methodLink "RiscHartModel" 81 yMod_registers) ∈ lw_g := List.mem_filter.mpr ⟨List.mem_of_getElem? (i := 695) (by decide +kernel), rfl⟩
theorem tw_696 : (Cond.static yMod_registers) ∈ lw_g := List.mem_filter.mpr ⟨List.mem_of_getElem? (i := 696) (by decide +kernel), rfl⟩
theorem tw_697 : (Cond.code yMod_registers prog_8_method_17_code 5 (some FieldType.int)) ∈ lw_g := List.mem_filter.mpr ⟨List.mem_of_getElem? (i := 697) (by decide +kernel), rfl⟩
theorem tw_698 : (Cond.methodLink "RiscHartModel" 78 yMod_branch) ∈ lw_g := List.mem_filter.mpr ⟨List.mem_of_getElem? (i := 698) (by decide +kernel), rfl⟩
theorem tw_699 : (Cond.static yMod_branch) ∈ lw_g := List.mem_filter.mpr ⟨List.mem_of_getElem? (i := 699) (by decide +kernel), rfl⟩
theorem tw_700 : (Cond.code yMod_branch prog_8_method_20_code 3 (some FieldType.int)) ∈ lw_g := List.mem_filter.mpr ⟨List.mem_of_getElem? (i := 700) (by decide +kernel), rfl⟩
theorem tw_701 : (Cond.methodLink "RiscHartModel" 59 yMod_two) ∈ lw_g := List.mem_filter.mpr ⟨List.mem_of_getElem? (i := 701) (by decide +kernel), rfl⟩
theorem tw_702 : (Cond.static yMod_two) ∈ lw_g := List.mem_filter.mpr ⟨List.mem_of_getElem? (i := 702) (by decide +kernel), rfl⟩
theorem tw_703 : (Cond.code yMod_two prog_8_method_25_code 7 (some FieldType.int)) ∈ lw_g := List.mem_filter.mpr ⟨List.mem_of_getElem? (i := 703) (by decide +kernel), rfl⟩
theorem tw_704 : (Cond.constant "RiscHartModel" 84 1048691) ∈ lw_g := List.mem_filter.mpr ⟨List.mem_of_getElem? (i := 704) (by decide +kernel), rfl⟩
theorem tw_705 : (Cond.methodLink "RiscHartModel" 121 yMod_illegal) ∈ lw_g := List.mem_filter.mpr ⟨List.mem_of_getElem? (i := 705) (by decide +kernel), rfl⟩
theorem tw_707 : (Cond.instanceMethod yMod_illegal) ∈ lw_g := List.mem_filter.mpr ⟨List.mem_of_getElem? (i := 707) (by decide +kernel), rfl⟩
theorem tw_708 : (Cond.code yMod_illegal prog_8_method_27_code 1 (some FieldType.int)) ∈ lw_g := List.mem_filter.mpr ⟨List.mem_of_getElem? (i := 708) (by decide +kernel), rfl⟩
theorem tw_709 : (Cond.methodLink "RiscHartModel" 125 yMod_carry) ∈ lw_g := List.mem_filter.mpr ⟨List.mem_of_getElem? (i := 709) (by decide +kernel), rfl⟩
theorem tw_711 : (Cond.instanceMethod yMod_carry) ∈ lw_g := List.mem_filter.mpr ⟨List.mem_of_getElem? (i := 711) (by decide +kernel), rfl⟩
theorem tw_712 : (Cond.code yMod_carry prog_8_method_33_code 8 none) ∈ lw_g := List.mem_filter.mpr ⟨List.mem_of_getElem? (i := 712) (by decide +kernel), rfl⟩
theorem tw_713 : (Cond.methodLink "RiscHartModel" 132 yMod_give) ∈ lw_g := List.mem_filter.mpr ⟨List.mem_of_getElem? (i := 713) (by decide +kernel), rfl⟩
theorem tw_715 : (Cond.instanceMethod yMod_give) ∈ lw_g := List.mem_filter.mpr ⟨List.mem_of_getElem? (i := 715) (by decide +kernel), rfl⟩
theorem tw_716 : (Cond.code yMod_give prog_8_method_32_code 3 none) ∈ lw_g := List.mem_filter.mpr ⟨List.mem_of_getElem? (i := 716) (by decide +kernel), rfl⟩
theorem tw_717 : (Cond.methodLink "RiscHartModel" 135 yMod_decide) ∈ lw_g := List.mem_filter.mpr ⟨List.mem_of_getElem? (i := 717) (by decide +kernel), rfl⟩
theorem tw_719 : (Cond.instanceMethod yMod_decide) ∈ lw_g := List.mem_filter.mpr ⟨List.mem_of_getElem? (i := 719) (by decide +kernel), rfl⟩
theorem tw_720 : (Cond.code yMod_decide prog_8_method_34_code 10 none) ∈ lw_g := List.mem_filter.mpr ⟨List.mem_of_getElem? (i := 720) (by decide +kernel), rfl⟩
theorem tw_721 : (Cond.constantLong "RiscHartModel" 161 4294967295) ∈ lw_g := List.mem_filter.mpr ⟨List.mem_of_getElem? (i := 721) (by decide +kernel), rfl⟩
theorem tw_722 : (Cond.methodLink "RiscHartModel" 139 yMod_load) ∈ lw_g := List.mem_filter.mpr ⟨List.mem_of_getElem? (i := 722) (by decide +kernel), rfl⟩
theorem tw_724 : (Cond.instanceMethod yMod_load) ∈ lw_g := List.mem_filter.mpr ⟨List.mem_of_getElem? (i := 724) (by decide +kernel), rfl⟩
theorem tw_725 : (Cond.code yMod_load prog_8_method_38_code 6 (some FieldType.int)) ∈ lw_g := List.mem_filter.mpr ⟨List.mem_of_getElem? (i := 725) (by decide +kernel), rfl⟩
theorem tw_726 : (Cond.methodLink "RiscHartModel" 142 yMod_put) ∈ lw_g := List.mem_filter.mpr ⟨List.mem_of_getElem? (i := 726) (by decide +kernel), rfl⟩
theorem tw_728 : (Cond.instanceMethod yMod_put) ∈ lw_g := List.mem_filter.mpr ⟨List.mem_of_getElem? (i := 728) (by decide +kernel), rfl⟩
theorem tw_729 : (Cond.code yMod_put prog_8_method_39_code 6 none) ∈ lw_g := List.mem_filter.mpr ⟨List.mem_of_getElem? (i := 729) (by decide +kernel), rfl⟩
theorem tw_730 : (Cond.methodLink "RiscHartModel" 146 yMod_shifted) ∈ lw_g := List.mem_filter.mpr ⟨List.mem_of_getElem? (i := 730) (by decide +kernel), rfl⟩
theorem tw_732 : (Cond.instanceMethod yMod_shifted) ∈ lw_g := List.mem_filter.mpr ⟨List.mem_of_getElem? (i := 732) (by decide +kernel), rfl⟩
theorem tw_733 : (Cond.code yMod_shifted prog_8_method_36_code 5 (some FieldType.int)) ∈ lw_g := List.mem_filter.mpr ⟨List.mem_of_getElem? (i := 733) (by decide +kernel), rfl⟩
theorem tw_734 : (Cond.methodLink "RiscHartModel" 149 yMod_reckoned) ∈ lw_g := List.mem_filter.mpr ⟨List.mem_of_getElem? (i := 734) (by decide +kernel), rfl⟩
theorem tw_735 : (Cond.static yMod_reckoned) ∈ lw_g := List.mem_filter.mpr ⟨List.mem_of_getElem? (i := 735) (by decide +kernel), rfl⟩
theorem tw_736 : (Cond.code yMod_reckoned prog_8_method_35_code 3 (some FieldType.int)) ∈ lw_g := List.mem_filter.mpr ⟨List.mem_of_getElem? (i := 736) (by decide +kernel), rfl⟩
theorem tw_737 : (Cond.methodLink "RiscHartModel" 152 yMod_multiplied) ∈ lw_g := List.mem_filter.mpr ⟨List.mem_of_getElem? (i := 737) (by decide +kernel), rfl⟩
theorem tw_738 : (Cond.static yMod_multiplied) ∈ lw_g := List.mem_filter.mpr ⟨List.mem_of_getElem? (i := 738) (by decide +kernel), rfl⟩
theorem tw_739 : (Cond.code yMod_multiplied prog_8_method_37_code 7 (some FieldType.int)) ∈ lw_g := List.mem_filter.mpr ⟨List.mem_of_getElem? (i := 739) (by decide +kernel), rfl⟩
theorem tw_740 : (Cond.methodLink "RiscHartModel" 155 yMod_atomic) ∈ lw_g := List.mem_filter.mpr ⟨List.mem_of_getElem? (i := 740) (by decide +kernel), rfl⟩
theorem tw_742 : (Cond.instanceMethod yMod_atomic) ∈ lw_g := List.mem_filter.mpr ⟨List.mem_of_getElem? (i := 742) (by decide +kernel), rfl⟩
theorem tw_743 : (Cond.code yMod_atomic prog_8_method_40_code 9 (some FieldType.int)) ∈ lw_g := List.mem_filter.mpr ⟨List.mem_of_getElem? (i := 743) (by decide +kernel), rfl⟩
theorem tw_744 : (Cond.methodLink "RiscHartModel" 163 yMod_changed) ∈ lw_g := List.mem_filter.mpr ⟨List.mem_of_getElem? (i := 744) (by decide +kernel), rfl⟩
theorem tw_745 : (Cond.static yMod_changed) ∈ lw_g := List.mem_filter.mpr ⟨List.mem_of_getElem? (i := 745) (by decide +kernel), rfl⟩
theorem tw_746 : (Cond.code yMod_changed prog_8_method_41_code 4 (some FieldType.int)) ∈ lw_g := List.mem_filter.mpr ⟨List.mem_of_getElem? (i := 746) (by decide +kernel), rfl⟩
theorem tw_747 : (Cond.methodLink "RiscHartModel" 158 yMod_system) ∈ lw_g := List.mem_filter.mpr ⟨List.mem_of_getElem? (i := 747) (by decide +kernel), rfl⟩
theorem tw_749 : (Cond.instanceMethod yMod_system) ∈ lw_g := List.mem_filter.mpr ⟨List.mem_of_getElem? (i := 749) (by decide +kernel), rfl⟩
theorem tw_750 : (Cond.code yMod_system prog_8_method_42_code 7 (some FieldType.int)) ∈ lw_g := List.mem_filter.mpr ⟨List.mem_of_getElem? (i := 750) (by decide +kernel), rfl⟩
