-- ===== PART A: goes FIRST, ahead of the names: the tables' words, and 'selects' of the private methods out of them =====
/-- a private method of a class that the tables say can be made, by its rows of tables_1 -/
def lw_okq (q : MethodName × Nat) : Prop := (q.1.cls ≠ "java/lang/invoke/MethodHandle" ∧ q.1.cls ≠ "java/lang/invoke/VarHandle") ∧ Cond.instantiable q.1.cls q.2 ∈ tables_1 ∧ Cond.privateMethod q.1 ∈ tables_1 ∧ Cond.instanceMethod q.1 ∈ tables_1
theorem lw_p0 : lw_okq (⟨"RiscHart", "carryOutNext", "()I"⟩, 8) := ⟨⟨by decide +kernel, by decide +kernel⟩, List.mem_of_getElem? (i := 14) (by decide +kernel), List.mem_of_getElem? (i := 76) (by decide +kernel), List.mem_of_getElem? (i := 77) (by decide +kernel)⟩
theorem lw_p1 : lw_okq (⟨"RiscHart", "trap", "(II)I"⟩, 8) := ⟨⟨by decide +kernel, by decide +kernel⟩, List.mem_of_getElem? (i := 14) (by decide +kernel), List.mem_of_getElem? (i := 95) (by decide +kernel), List.mem_of_getElem? (i := 96) (by decide +kernel)⟩
theorem lw_p2 : lw_okq (⟨"RiscHart", "longFrom", "(I)I"⟩, 8) := ⟨⟨by decide +kernel, by decide +kernel⟩, List.mem_of_getElem? (i := 14) (by decide +kernel), List.mem_of_getElem? (i := 109) (by decide +kernel), List.mem_of_getElem? (i := 110) (by decide +kernel)⟩
theorem lw_p3 : lw_okq (⟨"RiscHart", "carryOutLong", "(I)I"⟩, 8) := ⟨⟨by decide +kernel, by decide +kernel⟩, List.mem_of_getElem? (i := 14) (by decide +kernel), List.mem_of_getElem? (i := 113) (by decide +kernel), List.mem_of_getElem? (i := 114) (by decide +kernel)⟩
theorem lw_p4 : lw_okq (⟨"RiscHart", "give", "(II)I"⟩, 8) := ⟨⟨by decide +kernel, by decide +kernel⟩, List.mem_of_getElem? (i := 14) (by decide +kernel), List.mem_of_getElem? (i := 126) (by decide +kernel), List.mem_of_getElem? (i := 127) (by decide +kernel)⟩
theorem lw_p5 : lw_okq (⟨"RiscHart", "linkAndJump", "(II)I"⟩, 8) := ⟨⟨by decide +kernel, by decide +kernel⟩, List.mem_of_getElem? (i := 14) (by decide +kernel), List.mem_of_getElem? (i := 136) (by decide +kernel), List.mem_of_getElem? (i := 137) (by decide +kernel)⟩
theorem lw_p6 : lw_okq (⟨"RiscHart", "longJumpToRegister", "(I)I"⟩, 8) := ⟨⟨by decide +kernel, by decide +kernel⟩, List.mem_of_getElem? (i := 14) (by decide +kernel), List.mem_of_getElem? (i := 140) (by decide +kernel), List.mem_of_getElem? (i := 141) (by decide +kernel)⟩
theorem lw_p7 : lw_okq (⟨"RiscHart", "longBranch", "(I)I"⟩, 8) := ⟨⟨by decide +kernel, by decide +kernel⟩, List.mem_of_getElem? (i := 14) (by decide +kernel), List.mem_of_getElem? (i := 153) (by decide +kernel), List.mem_of_getElem? (i := 154) (by decide +kernel)⟩
theorem lw_p8 : lw_okq (⟨"RiscHart", "jumpIf", "(ZI)I"⟩, 8) := ⟨⟨by decide +kernel, by decide +kernel⟩, List.mem_of_getElem? (i := 14) (by decide +kernel), List.mem_of_getElem? (i := 163) (by decide +kernel), List.mem_of_getElem? (i := 164) (by decide +kernel)⟩
theorem lw_p9 : lw_okq (⟨"RiscHart", "longLoad", "(I)I"⟩, 8) := ⟨⟨by decide +kernel, by decide +kernel⟩, List.mem_of_getElem? (i := 14) (by decide +kernel), List.mem_of_getElem? (i := 171) (by decide +kernel), List.mem_of_getElem? (i := 172) (by decide +kernel)⟩
theorem lw_p10 : lw_okq (⟨"RiscHart", "load", "(III)I"⟩, 8) := ⟨⟨by decide +kernel, by decide +kernel⟩, List.mem_of_getElem? (i := 14) (by decide +kernel), List.mem_of_getElem? (i := 175) (by decide +kernel), List.mem_of_getElem? (i := 176) (by decide +kernel)⟩
theorem lw_p11 : lw_okq (⟨"RiscHart", "longStore", "(I)I"⟩, 8) := ⟨⟨by decide +kernel, by decide +kernel⟩, List.mem_of_getElem? (i := 14) (by decide +kernel), List.mem_of_getElem? (i := 181) (by decide +kernel), List.mem_of_getElem? (i := 182) (by decide +kernel)⟩
theorem lw_p12 : lw_okq (⟨"RiscHart", "store", "(III)I"⟩, 8) := ⟨⟨by decide +kernel, by decide +kernel⟩, List.mem_of_getElem? (i := 14) (by decide +kernel), List.mem_of_getElem? (i := 192) (by decide +kernel), List.mem_of_getElem? (i := 193) (by decide +kernel)⟩
theorem lw_p13 : lw_okq (⟨"RiscHart", "longWithNumber", "(I)I"⟩, 8) := ⟨⟨by decide +kernel, by decide +kernel⟩, List.mem_of_getElem? (i := 14) (by decide +kernel), List.mem_of_getElem? (i := 203) (by decide +kernel), List.mem_of_getElem? (i := 204) (by decide +kernel)⟩
theorem lw_p14 : lw_okq (⟨"RiscHart", "longWithRegisters", "(I)I"⟩, 8) := ⟨⟨by decide +kernel, by decide +kernel⟩, List.mem_of_getElem? (i := 14) (by decide +kernel), List.mem_of_getElem? (i := 212) (by decide +kernel), List.mem_of_getElem? (i := 213) (by decide +kernel)⟩
theorem lw_p15 : lw_okq (⟨"RiscHart", "longAtomic", "(I)I"⟩, 8) := ⟨⟨by decide +kernel, by decide +kernel⟩, List.mem_of_getElem? (i := 14) (by decide +kernel), List.mem_of_getElem? (i := 226) (by decide +kernel), List.mem_of_getElem? (i := 227) (by decide +kernel)⟩
def lw_privs_1 : List (MethodName × Nat) := [(⟨"RiscHart", "carryOutNext", "()I"⟩, 8), (⟨"RiscHart", "trap", "(II)I"⟩, 8), (⟨"RiscHart", "longFrom", "(I)I"⟩, 8), (⟨"RiscHart", "carryOutLong", "(I)I"⟩, 8), (⟨"RiscHart", "give", "(II)I"⟩, 8), (⟨"RiscHart", "linkAndJump", "(II)I"⟩, 8), (⟨"RiscHart", "longJumpToRegister", "(I)I"⟩, 8), (⟨"RiscHart", "longBranch", "(I)I"⟩, 8), (⟨"RiscHart", "jumpIf", "(ZI)I"⟩, 8), (⟨"RiscHart", "longLoad", "(I)I"⟩, 8), (⟨"RiscHart", "load", "(III)I"⟩, 8), (⟨"RiscHart", "longStore", "(I)I"⟩, 8), (⟨"RiscHart", "store", "(III)I"⟩, 8), (⟨"RiscHart", "longWithNumber", "(I)I"⟩, 8), (⟨"RiscHart", "longWithRegisters", "(I)I"⟩, 8), (⟨"RiscHart", "longAtomic", "(I)I"⟩, 8)]
theorem lw_r1 : ∀ q ∈ lw_privs_1, lw_okq q := List.forall_mem_cons.mpr ⟨lw_p0, List.forall_mem_cons.mpr ⟨lw_p1, List.forall_mem_cons.mpr ⟨lw_p2, List.forall_mem_cons.mpr ⟨lw_p3, List.forall_mem_cons.mpr ⟨lw_p4, List.forall_mem_cons.mpr ⟨lw_p5, List.forall_mem_cons.mpr ⟨lw_p6, List.forall_mem_cons.mpr ⟨lw_p7, List.forall_mem_cons.mpr ⟨lw_p8, List.forall_mem_cons.mpr ⟨lw_p9, List.forall_mem_cons.mpr ⟨lw_p10, List.forall_mem_cons.mpr ⟨lw_p11, List.forall_mem_cons.mpr ⟨lw_p12, List.forall_mem_cons.mpr ⟨lw_p13, List.forall_mem_cons.mpr ⟨lw_p14, List.forall_mem_cons.mpr ⟨lw_p15, fun _ h => absurd h List.not_mem_nil⟩⟩⟩⟩⟩⟩⟩⟩⟩⟩⟩⟩⟩⟩⟩⟩
theorem lw_p16 : lw_okq (⟨"RiscHart", "loadReserved", "(II)I"⟩, 8) := ⟨⟨by decide +kernel, by decide +kernel⟩, List.mem_of_getElem? (i := 14) (by decide +kernel), List.mem_of_getElem? (i := 239) (by decide +kernel), List.mem_of_getElem? (i := 240) (by decide +kernel)⟩
theorem lw_p17 : lw_okq (⟨"RiscHart", "storeConditional", "(III)I"⟩, 8) := ⟨⟨by decide +kernel, by decide +kernel⟩, List.mem_of_getElem? (i := 14) (by decide +kernel), List.mem_of_getElem? (i := 247) (by decide +kernel), List.mem_of_getElem? (i := 248) (by decide +kernel)⟩
theorem lw_p18 : lw_okq (⟨"RiscHart", "change", "(IIII)I"⟩, 8) := ⟨⟨by decide +kernel, by decide +kernel⟩, List.mem_of_getElem? (i := 14) (by decide +kernel), List.mem_of_getElem? (i := 255) (by decide +kernel), List.mem_of_getElem? (i := 256) (by decide +kernel)⟩
theorem lw_p19 : lw_okq (⟨"RiscHart", "longSystem", "(I)I"⟩, 8) := ⟨⟨by decide +kernel, by decide +kernel⟩, List.mem_of_getElem? (i := 14) (by decide +kernel), List.mem_of_getElem? (i := 262) (by decide +kernel), List.mem_of_getElem? (i := 263) (by decide +kernel)⟩
theorem lw_p20 : lw_okq (⟨"RiscHart", "readCounter", "(I)I"⟩, 8) := ⟨⟨by decide +kernel, by decide +kernel⟩, List.mem_of_getElem? (i := 14) (by decide +kernel), List.mem_of_getElem? (i := 267) (by decide +kernel), List.mem_of_getElem? (i := 268) (by decide +kernel)⟩
theorem lw_p21 : lw_okq (⟨"RiscHart", "carryOutShort", "(I)I"⟩, 8) := ⟨⟨by decide +kernel, by decide +kernel⟩, List.mem_of_getElem? (i := 14) (by decide +kernel), List.mem_of_getElem? (i := 271) (by decide +kernel), List.mem_of_getElem? (i := 272) (by decide +kernel)⟩
theorem lw_p22 : lw_okq (⟨"RiscHart", "shortOfQ0", "(I)I"⟩, 8) := ⟨⟨by decide +kernel, by decide +kernel⟩, List.mem_of_getElem? (i := 14) (by decide +kernel), List.mem_of_getElem? (i := 275) (by decide +kernel), List.mem_of_getElem? (i := 276) (by decide +kernel)⟩
theorem lw_p23 : lw_okq (⟨"RiscHart", "shortOfQ1", "(I)I"⟩, 8) := ⟨⟨by decide +kernel, by decide +kernel⟩, List.mem_of_getElem? (i := 14) (by decide +kernel), List.mem_of_getElem? (i := 295) (by decide +kernel), List.mem_of_getElem? (i := 296) (by decide +kernel)⟩
theorem lw_p24 : lw_okq (⟨"RiscHart", "shortMoveStack", "(I)I"⟩, 8) := ⟨⟨by decide +kernel, by decide +kernel⟩, List.mem_of_getElem? (i := 14) (by decide +kernel), List.mem_of_getElem? (i := 309) (by decide +kernel), List.mem_of_getElem? (i := 310) (by decide +kernel)⟩
theorem lw_p25 : lw_okq (⟨"RiscHart", "shortUpperNumber", "(I)I"⟩, 8) := ⟨⟨by decide +kernel, by decide +kernel⟩, List.mem_of_getElem? (i := 14) (by decide +kernel), List.mem_of_getElem? (i := 316) (by decide +kernel), List.mem_of_getElem? (i := 317) (by decide +kernel)⟩
theorem lw_p26 : lw_okq (⟨"RiscHart", "shortArithmetic", "(I)I"⟩, 8) := ⟨⟨by decide +kernel, by decide +kernel⟩, List.mem_of_getElem? (i := 14) (by decide +kernel), List.mem_of_getElem? (i := 320) (by decide +kernel), List.mem_of_getElem? (i := 321) (by decide +kernel)⟩
theorem lw_p27 : lw_okq (⟨"RiscHart", "shortOfQ2", "(I)I"⟩, 8) := ⟨⟨by decide +kernel, by decide +kernel⟩, List.mem_of_getElem? (i := 14) (by decide +kernel), List.mem_of_getElem? (i := 337) (by decide +kernel), List.mem_of_getElem? (i := 338) (by decide +kernel)⟩
theorem lw_p28 : lw_okq (⟨"RiscHart", "shortJumpToRegister", "(I)I"⟩, 8) := ⟨⟨by decide +kernel, by decide +kernel⟩, List.mem_of_getElem? (i := 14) (by decide +kernel), List.mem_of_getElem? (i := 344) (by decide +kernel), List.mem_of_getElem? (i := 345) (by decide +kernel)⟩
theorem lw_p29 : lw_okq (⟨"RiscHart", "shortMoveOrAdd", "(I)I"⟩, 8) := ⟨⟨by decide +kernel, by decide +kernel⟩, List.mem_of_getElem? (i := 14) (by decide +kernel), List.mem_of_getElem? (i := 348) (by decide +kernel), List.mem_of_getElem? (i := 349) (by decide +kernel)⟩
theorem lw_p30 : lw_okq (⟨"java/lang/Throwable", "fillInStackTrace", "(I)Ljava/lang/Throwable;"⟩, 6) := ⟨⟨by decide +kernel, by decide +kernel⟩, List.mem_of_getElem? (i := 401) (by decide +kernel), List.mem_of_getElem? (i := 399) (by decide +kernel), List.mem_of_getElem? (i := 400) (by decide +kernel)⟩
theorem lw_p31 : lw_okq (⟨"RiscHartModel", "write", "(II)V"⟩, 14) := ⟨⟨by decide +kernel, by decide +kernel⟩, List.mem_of_getElem? (i := 506) (by decide +kernel), List.mem_of_getElem? (i := 568) (by decide +kernel), List.mem_of_getElem? (i := 569) (by decide +kernel)⟩
def lw_privs_2 : List (MethodName × Nat) := [(⟨"RiscHart", "loadReserved", "(II)I"⟩, 8), (⟨"RiscHart", "storeConditional", "(III)I"⟩, 8), (⟨"RiscHart", "change", "(IIII)I"⟩, 8), (⟨"RiscHart", "longSystem", "(I)I"⟩, 8), (⟨"RiscHart", "readCounter", "(I)I"⟩, 8), (⟨"RiscHart", "carryOutShort", "(I)I"⟩, 8), (⟨"RiscHart", "shortOfQ0", "(I)I"⟩, 8), (⟨"RiscHart", "shortOfQ1", "(I)I"⟩, 8), (⟨"RiscHart", "shortMoveStack", "(I)I"⟩, 8), (⟨"RiscHart", "shortUpperNumber", "(I)I"⟩, 8), (⟨"RiscHart", "shortArithmetic", "(I)I"⟩, 8), (⟨"RiscHart", "shortOfQ2", "(I)I"⟩, 8), (⟨"RiscHart", "shortJumpToRegister", "(I)I"⟩, 8), (⟨"RiscHart", "shortMoveOrAdd", "(I)I"⟩, 8), (⟨"java/lang/Throwable", "fillInStackTrace", "(I)Ljava/lang/Throwable;"⟩, 6), (⟨"RiscHartModel", "write", "(II)V"⟩, 14)]
theorem lw_r2 : ∀ q ∈ lw_privs_2, lw_okq q := List.forall_mem_cons.mpr ⟨lw_p16, List.forall_mem_cons.mpr ⟨lw_p17, List.forall_mem_cons.mpr ⟨lw_p18, List.forall_mem_cons.mpr ⟨lw_p19, List.forall_mem_cons.mpr ⟨lw_p20, List.forall_mem_cons.mpr ⟨lw_p21, List.forall_mem_cons.mpr ⟨lw_p22, List.forall_mem_cons.mpr ⟨lw_p23, List.forall_mem_cons.mpr ⟨lw_p24, List.forall_mem_cons.mpr ⟨lw_p25, List.forall_mem_cons.mpr ⟨lw_p26, List.forall_mem_cons.mpr ⟨lw_p27, List.forall_mem_cons.mpr ⟨lw_p28, List.forall_mem_cons.mpr ⟨lw_p29, List.forall_mem_cons.mpr ⟨lw_p30, List.forall_mem_cons.mpr ⟨lw_p31, fun _ h => absurd h List.not_mem_nil⟩⟩⟩⟩⟩⟩⟩⟩⟩⟩⟩⟩⟩⟩⟩⟩
theorem lw_p32 : lw_okq (⟨"RiscHartModel", "fetches", "(I)Z"⟩, 14) := ⟨⟨by decide +kernel, by decide +kernel⟩, List.mem_of_getElem? (i := 506) (by decide +kernel), List.mem_of_getElem? (i := 605) (by decide +kernel), List.mem_of_getElem? (i := 606) (by decide +kernel)⟩
theorem lw_p33 : lw_okq (⟨"RiscHartModel", "may", "(II)Z"⟩, 14) := ⟨⟨by decide +kernel, by decide +kernel⟩, List.mem_of_getElem? (i := 506) (by decide +kernel), List.mem_of_getElem? (i := 609) (by decide +kernel), List.mem_of_getElem? (i := 610) (by decide +kernel)⟩
theorem lw_p34 : lw_okq (⟨"RiscHartModel", "trap", "(II)I"⟩, 14) := ⟨⟨by decide +kernel, by decide +kernel⟩, List.mem_of_getElem? (i := 506) (by decide +kernel), List.mem_of_getElem? (i := 613) (by decide +kernel), List.mem_of_getElem? (i := 614) (by decide +kernel)⟩
theorem lw_p35 : lw_okq (⟨"RiscHartModel", "half", "(I)I"⟩, 14) := ⟨⟨by decide +kernel, by decide +kernel⟩, List.mem_of_getElem? (i := 506) (by decide +kernel), List.mem_of_getElem? (i := 617) (by decide +kernel), List.mem_of_getElem? (i := 618) (by decide +kernel)⟩
theorem lw_p36 : lw_okq (⟨"RiscHartModel", "illegal", "()I"⟩, 14) := ⟨⟨by decide +kernel, by decide +kernel⟩, List.mem_of_getElem? (i := 506) (by decide +kernel), List.mem_of_getElem? (i := 661) (by decide +kernel), List.mem_of_getElem? (i := 662) (by decide +kernel)⟩
theorem lw_p37 : lw_okq (⟨"RiscHartModel", "carry", "(I)V"⟩, 14) := ⟨⟨by decide +kernel, by decide +kernel⟩, List.mem_of_getElem? (i := 506) (by decide +kernel), List.mem_of_getElem? (i := 665) (by decide +kernel), List.mem_of_getElem? (i := 666) (by decide +kernel)⟩
theorem lw_p38 : lw_okq (⟨"RiscHartModel", "give", "(II)V"⟩, 14) := ⟨⟨by decide +kernel, by decide +kernel⟩, List.mem_of_getElem? (i := 506) (by decide +kernel), List.mem_of_getElem? (i := 669) (by decide +kernel), List.mem_of_getElem? (i := 670) (by decide +kernel)⟩
theorem lw_p39 : lw_okq (⟨"RiscHartModel", "decide", "(IIII)V"⟩, 14) := ⟨⟨by decide +kernel, by decide +kernel⟩, List.mem_of_getElem? (i := 506) (by decide +kernel), List.mem_of_getElem? (i := 673) (by decide +kernel), List.mem_of_getElem? (i := 674) (by decide +kernel)⟩
theorem lw_p40 : lw_okq (⟨"RiscHartModel", "load", "(II)I"⟩, 14) := ⟨⟨by decide +kernel, by decide +kernel⟩, List.mem_of_getElem? (i := 506) (by decide +kernel), List.mem_of_getElem? (i := 678) (by decide +kernel), List.mem_of_getElem? (i := 679) (by decide +kernel)⟩
theorem lw_p41 : lw_okq (⟨"RiscHartModel", "put", "(III)V"⟩, 14) := ⟨⟨by decide +kernel, by decide +kernel⟩, List.mem_of_getElem? (i := 506) (by decide +kernel), List.mem_of_getElem? (i := 682) (by decide +kernel), List.mem_of_getElem? (i := 683) (by decide +kernel)⟩
theorem lw_p42 : lw_okq (⟨"RiscHartModel", "shifted", "(IIII)I"⟩, 14) := ⟨⟨by decide +kernel, by decide +kernel⟩, List.mem_of_getElem? (i := 506) (by decide +kernel), List.mem_of_getElem? (i := 686) (by decide +kernel), List.mem_of_getElem? (i := 687) (by decide +kernel)⟩
theorem lw_p43 : lw_okq (⟨"RiscHartModel", "atomic", "(IIIII)I"⟩, 14) := ⟨⟨by decide +kernel, by decide +kernel⟩, List.mem_of_getElem? (i := 506) (by decide +kernel), List.mem_of_getElem? (i := 696) (by decide +kernel), List.mem_of_getElem? (i := 697) (by decide +kernel)⟩
theorem lw_p44 : lw_okq (⟨"RiscHartModel", "system", "(II)I"⟩, 14) := ⟨⟨by decide +kernel, by decide +kernel⟩, List.mem_of_getElem? (i := 506) (by decide +kernel), List.mem_of_getElem? (i := 703) (by decide +kernel), List.mem_of_getElem? (i := 704) (by decide +kernel)⟩
def lw_privs_3 : List (MethodName × Nat) := [(⟨"RiscHartModel", "fetches", "(I)Z"⟩, 14), (⟨"RiscHartModel", "may", "(II)Z"⟩, 14), (⟨"RiscHartModel", "trap", "(II)I"⟩, 14), (⟨"RiscHartModel", "half", "(I)I"⟩, 14), (⟨"RiscHartModel", "illegal", "()I"⟩, 14), (⟨"RiscHartModel", "carry", "(I)V"⟩, 14), (⟨"RiscHartModel", "give", "(II)V"⟩, 14), (⟨"RiscHartModel", "decide", "(IIII)V"⟩, 14), (⟨"RiscHartModel", "load", "(II)I"⟩, 14), (⟨"RiscHartModel", "put", "(III)V"⟩, 14), (⟨"RiscHartModel", "shifted", "(IIII)I"⟩, 14), (⟨"RiscHartModel", "atomic", "(IIIII)I"⟩, 14), (⟨"RiscHartModel", "system", "(II)I"⟩, 14)]
theorem lw_r3 : ∀ q ∈ lw_privs_3, lw_okq q := List.forall_mem_cons.mpr ⟨lw_p32, List.forall_mem_cons.mpr ⟨lw_p33, List.forall_mem_cons.mpr ⟨lw_p34, List.forall_mem_cons.mpr ⟨lw_p35, List.forall_mem_cons.mpr ⟨lw_p36, List.forall_mem_cons.mpr ⟨lw_p37, List.forall_mem_cons.mpr ⟨lw_p38, List.forall_mem_cons.mpr ⟨lw_p39, List.forall_mem_cons.mpr ⟨lw_p40, List.forall_mem_cons.mpr ⟨lw_p41, List.forall_mem_cons.mpr ⟨lw_p42, List.forall_mem_cons.mpr ⟨lw_p43, List.forall_mem_cons.mpr ⟨lw_p44, fun _ h => absurd h List.not_mem_nil⟩⟩⟩⟩⟩⟩⟩⟩⟩⟩⟩⟩⟩
def lw_privs : List (MethodName × Nat) := lw_privs_1 ++ (lw_privs_2 ++ (lw_privs_3))
def lw_tbl : List Cond := k2_sels lw_privs ++ tables_1
theorem lw_privs_ok : ∀ q ∈ lw_privs, lw_okq q := by
  show ∀ q ∈ lw_privs_1 ++ (lw_privs_2 ++ (lw_privs_3)), lw_okq q
  exact List.forall_mem_append.mpr ⟨lw_r1, List.forall_mem_append.mpr ⟨lw_r2, lw_r3⟩⟩
/-! names: classes, fields in the order of the slots, codes and names of methods -/
def RHart : String := "RiscHart"
def RMem : String := "RiscHart$Memory"
def RBits : String := "RiscHart$Bits"
def RLF : String := "RiscHart$LongForm"
def RSF : String := "RiscHart$ShortForm"
def RAr : String := "RiscHart$Arithmetic"
def RMod : String := "RiscHartModel"
def RLaw : String := "RiscHartLaw"
def RObj : String := "java/lang/Object"
def THart : u_T := fun k => match k with
  | 0 => ("RiscHart", "memory", "LRiscHart$Memory;", true)
  | 1 => ("RiscHart", "registers", "[I", true)
  | 2 => ("RiscHart", "place", "I", false)
  | 3 => ("RiscHart", "placeBehind", "I", false)
  | 4 => ("RiscHart", "cause", "I", false)
  | 5 => ("RiscHart", "value", "I", false)
  | 6 => ("RiscHart", "retired", "J", false)
  | _ => ("RiscHart", "time", "J", false)
def tyHart : Nat → FieldType := fun k => match k with
  | 0 => .object "RiscHart$Memory"
  | 1 => .array .int
  | 2 => .int
  | 3 => .int
  | 4 => .int
  | 5 => .int
  | 6 => .long
  | _ => .long
theorem nmHart : ∀ a, a < 8 → ∀ b, b < 8 → a ≠ b → (THart a).2.1 ≠ (THart b).2.1 := by decide +kernel
theorem tyHart_ok : ∀ k, k < 8 → parseFieldDescriptor (THart k).2.2.1 = some (tyHart k) := by decide +kernel
def TMem : u_T := fun k => match k with
  | 0 => ("RiscHart$Memory", "words", "[I", true)
  | 1 => ("RiscHart$Memory", "pageRights", "[I", true)
  | _ => ("RiscHart$Memory", "reserved", "I", false)
def tyMem : Nat → FieldType := fun k => match k with
  | 0 => .array .int
  | 1 => .array .int
  | _ => .int
theorem nmMem : ∀ a, a < 3 → ∀ b, b < 3 → a ≠ b → (TMem a).2.1 ≠ (TMem b).2.1 := by decide +kernel
theorem tyMem_ok : ∀ k, k < 3 → parseFieldDescriptor (TMem k).2.2.1 = some (tyMem k) := by decide +kernel
def TMod : u_T := fun k => match k with
  | 0 => ("RiscHartModel", "code", "I", false)
  | 1 => ("RiscHartModel", "bytes", "[I", true)
  | 2 => ("RiscHartModel", "open", "[I", true)
  | 3 => ("RiscHartModel", "x", "[I", true)
  | 4 => ("RiscHartModel", "place", "I", false)
  | 5 => ("RiscHartModel", "cause", "I", false)
  | 6 => ("RiscHartModel", "value", "I", false)
  | 7 => ("RiscHartModel", "reserved", "I", false)
  | 8 => ("RiscHartModel", "retired", "J", false)
  | 9 => ("RiscHartModel", "clock", "J", false)
  | 10 => ("RiscHartModel", "bits", "I", false)
  | 11 => ("RiscHartModel", "length", "I", false)
  | 12 => ("RiscHartModel", "next", "I", false)
  | _ => ("RiscHartModel", "met", "I", false)
def tyMod : Nat → FieldType := fun k => match k with
  | 0 => .int
  | 1 => .array .int
  | 2 => .array .int
  | 3 => .array .int
  | 4 => .int
  | 5 => .int
  | 6 => .int
  | 7 => .int
  | 8 => .long
  | 9 => .long
  | 10 => .int
  | 11 => .int
  | 12 => .int
  | _ => .int
theorem nmMod : ∀ a, a < 14 → ∀ b, b < 14 → a ≠ b → (TMod a).2.1 ≠ (TMod b).2.1 := by decide +kernel
theorem tyMod_ok : ∀ k, k < 14 → parseFieldDescriptor (TMod k).2.2.1 = some (tyMod k) := by decide +kernel
abbrev hcl : List vw_C := [(RHart, THart, 8), (RMem, TMem, 3), (RMod, TMod, 14)]
abbrev cHart_init : ByteArray := prog_1_method_1_code
def yHart_init : MethodName := ⟨"RiscHart", "<init>", "()V"⟩
abbrev cHart_poke : ByteArray := prog_1_method_2_code
def yHart_poke : MethodName := ⟨"RiscHart", "poke", "(II)V"⟩
abbrev cHart_plant : ByteArray := prog_1_method_3_code
def yHart_plant : MethodName := ⟨"RiscHart", "plant", "(II)V"⟩
abbrev cHart_peek : ByteArray := prog_1_method_4_code
def yHart_peek : MethodName := ⟨"RiscHart", "peek", "(I)I"⟩
abbrev cHart_rights : ByteArray := prog_1_method_5_code
def yHart_rights : MethodName := ⟨"RiscHart", "rights", "(II)I"⟩
abbrev cHart_set : ByteArray := prog_1_method_6_code
def yHart_set : MethodName := ⟨"RiscHart", "set", "(II)Z"⟩
abbrev cHart_register : ByteArray := prog_1_method_7_code
def yHart_register : MethodName := ⟨"RiscHart", "register", "(I)I"⟩
abbrev cHart_jump : ByteArray := prog_1_method_8_code
def yHart_jump : MethodName := ⟨"RiscHart", "jump", "(I)V"⟩
abbrev cHart_clock : ByteArray := prog_1_method_9_code
def yHart_clock : MethodName := ⟨"RiscHart", "clock", "(J)V"⟩
abbrev cHart_step : ByteArray := prog_1_method_10_code
def yHart_step : MethodName := ⟨"RiscHart", "step", "()I"⟩
abbrev cHart_run : ByteArray := prog_1_method_11_code
def yHart_run : MethodName := ⟨"RiscHart", "run", "(I)I"⟩
abbrev cHart_count : ByteArray := prog_1_method_12_code
def yHart_count : MethodName := ⟨"RiscHart", "count", "(I)J"⟩
abbrev cHart_carryOutNext : ByteArray := prog_1_method_13_code
def yHart_carryOutNext : MethodName := ⟨"RiscHart", "carryOutNext", "()I"⟩
abbrev cHart_longFrom : ByteArray := prog_1_method_14_code
def yHart_longFrom : MethodName := ⟨"RiscHart", "longFrom", "(I)I"⟩
abbrev cHart_trap : ByteArray := prog_1_method_15_code
def yHart_trap : MethodName := ⟨"RiscHart", "trap", "(II)I"⟩
abbrev cHart_give : ByteArray := prog_1_method_16_code
def yHart_give : MethodName := ⟨"RiscHart", "give", "(II)I"⟩
abbrev cHart_linkAndJump : ByteArray := prog_1_method_17_code
def yHart_linkAndJump : MethodName := ⟨"RiscHart", "linkAndJump", "(II)I"⟩
abbrev cHart_jumpIf : ByteArray := prog_1_method_18_code
def yHart_jumpIf : MethodName := ⟨"RiscHart", "jumpIf", "(ZI)I"⟩
abbrev cHart_load : ByteArray := prog_1_method_19_code
def yHart_load : MethodName := ⟨"RiscHart", "load", "(III)I"⟩
abbrev cHart_store : ByteArray := prog_1_method_20_code
def yHart_store : MethodName := ⟨"RiscHart", "store", "(III)I"⟩
abbrev cHart_carryOutLong : ByteArray := prog_1_method_21_code
def yHart_carryOutLong : MethodName := ⟨"RiscHart", "carryOutLong", "(I)I"⟩
abbrev cHart_longJumpToRegister : ByteArray := prog_1_method_22_code
def yHart_longJumpToRegister : MethodName := ⟨"RiscHart", "longJumpToRegister", "(I)I"⟩
abbrev cHart_longBranch : ByteArray := prog_1_method_23_code
def yHart_longBranch : MethodName := ⟨"RiscHart", "longBranch", "(I)I"⟩
abbrev cHart_longLoad : ByteArray := prog_1_method_24_code
def yHart_longLoad : MethodName := ⟨"RiscHart", "longLoad", "(I)I"⟩
abbrev cHart_longStore : ByteArray := prog_1_method_25_code
def yHart_longStore : MethodName := ⟨"RiscHart", "longStore", "(I)I"⟩
abbrev cHart_longWithNumber : ByteArray := prog_1_method_26_code
def yHart_longWithNumber : MethodName := ⟨"RiscHart", "longWithNumber", "(I)I"⟩
abbrev cHart_longWithRegisters : ByteArray := prog_1_method_27_code
def yHart_longWithRegisters : MethodName := ⟨"RiscHart", "longWithRegisters", "(I)I"⟩
abbrev cHart_longAtomic : ByteArray := prog_1_method_28_code
def yHart_longAtomic : MethodName := ⟨"RiscHart", "longAtomic", "(I)I"⟩
abbrev cHart_loadReserved : ByteArray := prog_1_method_29_code
def yHart_loadReserved : MethodName := ⟨"RiscHart", "loadReserved", "(II)I"⟩
abbrev cHart_storeConditional : ByteArray := prog_1_method_30_code
def yHart_storeConditional : MethodName := ⟨"RiscHart", "storeConditional", "(III)I"⟩
abbrev cHart_change : ByteArray := prog_1_method_31_code
def yHart_change : MethodName := ⟨"RiscHart", "change", "(IIII)I"⟩
abbrev cHart_longSystem : ByteArray := prog_1_method_32_code
def yHart_longSystem : MethodName := ⟨"RiscHart", "longSystem", "(I)I"⟩
abbrev cHart_readCounter : ByteArray := prog_1_method_33_code
def yHart_readCounter : MethodName := ⟨"RiscHart", "readCounter", "(I)I"⟩
abbrev cHart_carryOutShort : ByteArray := prog_1_method_34_code
def yHart_carryOutShort : MethodName := ⟨"RiscHart", "carryOutShort", "(I)I"⟩
abbrev cHart_shortOfQ0 : ByteArray := prog_1_method_35_code
def yHart_shortOfQ0 : MethodName := ⟨"RiscHart", "shortOfQ0", "(I)I"⟩
abbrev cHart_shortOfQ1 : ByteArray := prog_1_method_36_code
def yHart_shortOfQ1 : MethodName := ⟨"RiscHart", "shortOfQ1", "(I)I"⟩
abbrev cHart_shortMoveStack : ByteArray := prog_1_method_37_code
def yHart_shortMoveStack : MethodName := ⟨"RiscHart", "shortMoveStack", "(I)I"⟩
abbrev cHart_shortUpperNumber : ByteArray := prog_1_method_38_code
def yHart_shortUpperNumber : MethodName := ⟨"RiscHart", "shortUpperNumber", "(I)I"⟩
abbrev cHart_shortArithmetic : ByteArray := prog_1_method_39_code
def yHart_shortArithmetic : MethodName := ⟨"RiscHart", "shortArithmetic", "(I)I"⟩
abbrev cHart_shortOfQ2 : ByteArray := prog_1_method_40_code
def yHart_shortOfQ2 : MethodName := ⟨"RiscHart", "shortOfQ2", "(I)I"⟩
abbrev cHart_shortJumpToRegister : ByteArray := prog_1_method_41_code
def yHart_shortJumpToRegister : MethodName := ⟨"RiscHart", "shortJumpToRegister", "(I)I"⟩
abbrev cHart_shortMoveOrAdd : ByteArray := prog_1_method_42_code
def yHart_shortMoveOrAdd : MethodName := ⟨"RiscHart", "shortMoveOrAdd", "(I)I"⟩
abbrev cMod_init : ByteArray := prog_8_method_1_code
def yMod_init : MethodName := ⟨"RiscHartModel", "<init>", "()V"⟩
abbrev cMod_thrown : ByteArray := prog_8_method_2_code
def yMod_thrown : MethodName := ⟨"RiscHartModel", "thrown", "()I"⟩
abbrev cMod_in : ByteArray := prog_8_method_3_code
def yMod_in : MethodName := ⟨"RiscHartModel", "in", "(III)Z"⟩
abbrev cMod_write : ByteArray := prog_8_method_4_code
def yMod_write : MethodName := ⟨"RiscHartModel", "write", "(II)V"⟩
abbrev cMod_poke : ByteArray := prog_8_method_5_code
def yMod_poke : MethodName := ⟨"RiscHartModel", "poke", "(II)V"⟩
abbrev cMod_plant : ByteArray := prog_8_method_6_code
def yMod_plant : MethodName := ⟨"RiscHartModel", "plant", "(II)V"⟩
abbrev cMod_peek : ByteArray := prog_8_method_7_code
def yMod_peek : MethodName := ⟨"RiscHartModel", "peek", "(I)I"⟩
abbrev cMod_rights : ByteArray := prog_8_method_8_code
def yMod_rights : MethodName := ⟨"RiscHartModel", "rights", "(II)I"⟩
abbrev cMod_set : ByteArray := prog_8_method_9_code
def yMod_set : MethodName := ⟨"RiscHartModel", "set", "(II)Z"⟩
abbrev cMod_register : ByteArray := prog_8_method_10_code
def yMod_register : MethodName := ⟨"RiscHartModel", "register", "(I)I"⟩
abbrev cMod_jump : ByteArray := prog_8_method_11_code
def yMod_jump : MethodName := ⟨"RiscHartModel", "jump", "(I)V"⟩
abbrev cMod_clock : ByteArray := prog_8_method_12_code
def yMod_clock : MethodName := ⟨"RiscHartModel", "clock", "(J)V"⟩
abbrev cMod_part : ByteArray := prog_8_method_13_code
def yMod_part : MethodName := ⟨"RiscHartModel", "part", "(III)I"⟩
abbrev cMod_bit : ByteArray := prog_8_method_14_code
def yMod_bit : MethodName := ⟨"RiscHartModel", "bit", "(IIII)I"⟩
abbrev cMod_signed : ByteArray := prog_8_method_15_code
def yMod_signed : MethodName := ⟨"RiscHartModel", "signed", "(II)I"⟩
abbrev cMod_immediate : ByteArray := prog_8_method_16_code
def yMod_immediate : MethodName := ⟨"RiscHartModel", "immediate", "(IIIII)I"⟩
abbrev cMod_registers : ByteArray := prog_8_method_17_code
def yMod_registers : MethodName := ⟨"RiscHartModel", "registers", "(IIIII)I"⟩
abbrev cMod_store : ByteArray := prog_8_method_18_code
def yMod_store : MethodName := ⟨"RiscHartModel", "store", "(III)I"⟩
abbrev cMod_link : ByteArray := prog_8_method_19_code
def yMod_link : MethodName := ⟨"RiscHartModel", "link", "(II)I"⟩
abbrev cMod_branch : ByteArray := prog_8_method_20_code
def yMod_branch : MethodName := ⟨"RiscHartModel", "branch", "(III)I"⟩
abbrev cMod_expand : ByteArray := prog_8_method_21_code
def yMod_expand : MethodName := ⟨"RiscHartModel", "expand", "(I)I"⟩
abbrev cMod_zero : ByteArray := prog_8_method_22_code
def yMod_zero : MethodName := ⟨"RiscHartModel", "zero", "(II)I"⟩
abbrev cMod_one : ByteArray := prog_8_method_23_code
def yMod_one : MethodName := ⟨"RiscHartModel", "one", "(II)I"⟩
abbrev cMod_four : ByteArray := prog_8_method_24_code
def yMod_four : MethodName := ⟨"RiscHartModel", "four", "(II)I"⟩
abbrev cMod_two : ByteArray := prog_8_method_25_code
def yMod_two : MethodName := ⟨"RiscHartModel", "two", "(II)I"⟩
abbrev cMod_trap : ByteArray := prog_8_method_26_code
def yMod_trap : MethodName := ⟨"RiscHartModel", "trap", "(II)I"⟩
abbrev cMod_illegal : ByteArray := prog_8_method_27_code
def yMod_illegal : MethodName := ⟨"RiscHartModel", "illegal", "()I"⟩
abbrev cMod_may : ByteArray := prog_8_method_28_code
def yMod_may : MethodName := ⟨"RiscHartModel", "may", "(II)Z"⟩
abbrev cMod_half : ByteArray := prog_8_method_29_code
def yMod_half : MethodName := ⟨"RiscHartModel", "half", "(I)I"⟩
abbrev cMod_fetches : ByteArray := prog_8_method_30_code
def yMod_fetches : MethodName := ⟨"RiscHartModel", "fetches", "(I)Z"⟩
abbrev cMod_step : ByteArray := prog_8_method_31_code
def yMod_step : MethodName := ⟨"RiscHartModel", "step", "()I"⟩
abbrev cMod_give : ByteArray := prog_8_method_32_code
def yMod_give : MethodName := ⟨"RiscHartModel", "give", "(II)V"⟩
abbrev cMod_carry : ByteArray := prog_8_method_33_code
def yMod_carry : MethodName := ⟨"RiscHartModel", "carry", "(I)V"⟩
abbrev cMod_decide : ByteArray := prog_8_method_34_code
def yMod_decide : MethodName := ⟨"RiscHartModel", "decide", "(IIII)V"⟩
abbrev cMod_reckoned : ByteArray := prog_8_method_35_code
def yMod_reckoned : MethodName := ⟨"RiscHartModel", "reckoned", "(III)I"⟩
abbrev cMod_shifted : ByteArray := prog_8_method_36_code
def yMod_shifted : MethodName := ⟨"RiscHartModel", "shifted", "(IIII)I"⟩
abbrev cMod_multiplied : ByteArray := prog_8_method_37_code
def yMod_multiplied : MethodName := ⟨"RiscHartModel", "multiplied", "(III)I"⟩
abbrev cMod_load : ByteArray := prog_8_method_38_code
def yMod_load : MethodName := ⟨"RiscHartModel", "load", "(II)I"⟩
abbrev cMod_put : ByteArray := prog_8_method_39_code
def yMod_put : MethodName := ⟨"RiscHartModel", "put", "(III)V"⟩
abbrev cMod_atomic : ByteArray := prog_8_method_40_code
def yMod_atomic : MethodName := ⟨"RiscHartModel", "atomic", "(IIIII)I"⟩
abbrev cMod_changed : ByteArray := prog_8_method_41_code
def yMod_changed : MethodName := ⟨"RiscHartModel", "changed", "(III)I"⟩
abbrev cMod_system : ByteArray := prog_8_method_42_code
def yMod_system : MethodName := ⟨"RiscHartModel", "system", "(II)I"⟩
abbrev cMod_run : ByteArray := prog_8_method_43_code
def yMod_run : MethodName := ⟨"RiscHartModel", "run", "(I)I"⟩
abbrev cMod_count : ByteArray := prog_8_method_44_code
def yMod_count : MethodName := ⟨"RiscHartModel", "count", "(I)J"⟩
abbrev cAr_isBelow : ByteArray := prog_2_method_2_code
def yAr_isBelow : MethodName := ⟨"RiscHart$Arithmetic", "isBelow", "(II)Z"⟩
abbrev cAr_plain : ByteArray := prog_2_method_3_code
def yAr_plain : MethodName := ⟨"RiscHart$Arithmetic", "plain", "(III)I"⟩
abbrev cAr_multipliedOrDivided : ByteArray := prog_2_method_4_code
def yAr_multipliedOrDivided : MethodName := ⟨"RiscHart$Arithmetic", "multipliedOrDivided", "(III)I"⟩
abbrev cAr_quotient : ByteArray := prog_2_method_5_code
def yAr_quotient : MethodName := ⟨"RiscHart$Arithmetic", "quotient", "(JJ)J"⟩
abbrev cAr_remainder : ByteArray := prog_2_method_6_code
def yAr_remainder : MethodName := ⟨"RiscHart$Arithmetic", "remainder", "(JJ)J"⟩
abbrev cAr_ofTwoNear : ByteArray := prog_2_method_7_code
def yAr_ofTwoNear : MethodName := ⟨"RiscHart$Arithmetic", "ofTwoNear", "(III)I"⟩
abbrev cAr_changed : ByteArray := prog_2_method_8_code
def yAr_changed : MethodName := ⟨"RiscHart$Arithmetic", "changed", "(III)I"⟩
abbrev cBits_part : ByteArray := prog_3_method_2_code
def yBits_part : MethodName := ⟨"RiscHart$Bits", "part", "(III)I"⟩
abbrev cBits_signed : ByteArray := prog_3_method_3_code
def yBits_signed : MethodName := ⟨"RiscHart$Bits", "signed", "(II)I"⟩
abbrev cLF_d : ByteArray := prog_4_method_2_code
def yLF_d : MethodName := ⟨"RiscHart$LongForm", "d", "(I)I"⟩
abbrev cLF_f : ByteArray := prog_4_method_3_code
def yLF_f : MethodName := ⟨"RiscHart$LongForm", "f", "(I)I"⟩
abbrev cLF_a : ByteArray := prog_4_method_4_code
def yLF_a : MethodName := ⟨"RiscHart$LongForm", "a", "(I)I"⟩
abbrev cLF_b : ByteArray := prog_4_method_5_code
def yLF_b : MethodName := ⟨"RiscHart$LongForm", "b", "(I)I"⟩
abbrev cLF_g : ByteArray := prog_4_method_6_code
def yLF_g : MethodName := ⟨"RiscHart$LongForm", "g", "(I)I"⟩
abbrev cLF_k : ByteArray := prog_4_method_7_code
def yLF_k : MethodName := ⟨"RiscHart$LongForm", "k", "(I)I"⟩
abbrev cLF_numberI : ByteArray := prog_4_method_8_code
def yLF_numberI : MethodName := ⟨"RiscHart$LongForm", "numberI", "(I)I"⟩
abbrev cLF_numberS : ByteArray := prog_4_method_9_code
def yLF_numberS : MethodName := ⟨"RiscHart$LongForm", "numberS", "(I)I"⟩
abbrev cLF_upperNumber : ByteArray := prog_4_method_10_code
def yLF_upperNumber : MethodName := ⟨"RiscHart$LongForm", "upperNumber", "(I)I"⟩
abbrev cLF_offsetJ : ByteArray := prog_4_method_11_code
def yLF_offsetJ : MethodName := ⟨"RiscHart$LongForm", "offsetJ", "(I)I"⟩
abbrev cLF_offsetT : ByteArray := prog_4_method_12_code
def yLF_offsetT : MethodName := ⟨"RiscHart$LongForm", "offsetT", "(I)I"⟩
abbrev cLF_isAtomic : ByteArray := prog_4_method_13_code
def yLF_isAtomic : MethodName := ⟨"RiscHart$LongForm", "isAtomic", "(I)Z"⟩
abbrev cMem_init : ByteArray := prog_5_method_1_code
def yMem_init : MethodName := ⟨"RiscHart$Memory", "<init>", "()V"⟩
abbrev cMem_holds : ByteArray := prog_5_method_2_code
def yMem_holds : MethodName := ⟨"RiscHart$Memory", "holds", "(I)Z"⟩
abbrev cMem_isMisaligned : ByteArray := prog_5_method_3_code
def yMem_isMisaligned : MethodName := ⟨"RiscHart$Memory", "isMisaligned", "(II)Z"⟩
abbrev cMem_allows : ByteArray := prog_5_method_4_code
def yMem_allows : MethodName := ⟨"RiscHart$Memory", "allows", "(II)Z"⟩
abbrev cMem_mayCarryOut : ByteArray := prog_5_method_5_code
def yMem_mayCarryOut : MethodName := ⟨"RiscHart$Memory", "mayCarryOut", "(I)Z"⟩
abbrev cMem_exchangeRights : ByteArray := prog_5_method_6_code
def yMem_exchangeRights : MethodName := ⟨"RiscHart$Memory", "exchangeRights", "(II)I"⟩
abbrev cMem_reservedAddress : ByteArray := prog_5_method_7_code
def yMem_reservedAddress : MethodName := ⟨"RiscHart$Memory", "reservedAddress", "()I"⟩
abbrev cMem_reserve : ByteArray := prog_5_method_8_code
def yMem_reserve : MethodName := ⟨"RiscHart$Memory", "reserve", "(I)V"⟩
abbrev cMem_read : ByteArray := prog_5_method_9_code
def yMem_read : MethodName := ⟨"RiscHart$Memory", "read", "(II)I"⟩
abbrev cMem_write : ByteArray := prog_5_method_10_code
def yMem_write : MethodName := ⟨"RiscHart$Memory", "write", "(III)V"⟩
abbrev cMem_wordIndex : ByteArray := prog_5_method_11_code
def yMem_wordIndex : MethodName := ⟨"RiscHart$Memory", "wordIndex", "(I)I"⟩
abbrev cMem_shiftOf : ByteArray := prog_5_method_12_code
def yMem_shiftOf : MethodName := ⟨"RiscHart$Memory", "shiftOf", "(I)I"⟩
abbrev cMem_maskOf : ByteArray := prog_5_method_13_code
def yMem_maskOf : MethodName := ⟨"RiscHart$Memory", "maskOf", "(I)I"⟩
abbrev cSF_f : ByteArray := prog_6_method_2_code
def ySF_f : MethodName := ⟨"RiscHart$ShortForm", "f", "(I)I"⟩
abbrev cSF_bit12 : ByteArray := prog_6_method_3_code
def ySF_bit12 : MethodName := ⟨"RiscHart$ShortForm", "bit12", "(I)Z"⟩
abbrev cSF_d : ByteArray := prog_6_method_4_code
def ySF_d : MethodName := ⟨"RiscHart$ShortForm", "d", "(I)I"⟩
abbrev cSF_b : ByteArray := prog_6_method_5_code
def ySF_b : MethodName := ⟨"RiscHart$ShortForm", "b", "(I)I"⟩
abbrev cSF_lowNear : ByteArray := prog_6_method_6_code
def ySF_lowNear : MethodName := ⟨"RiscHart$ShortForm", "lowNear", "(I)I"⟩
abbrev cSF_highNear : ByteArray := prog_6_method_7_code
def ySF_highNear : MethodName := ⟨"RiscHart$ShortForm", "highNear", "(I)I"⟩
abbrev cSF_number : ByteArray := prog_6_method_8_code
def ySF_number : MethodName := ⟨"RiscHart$ShortForm", "number", "(I)I"⟩
abbrev cSF_stackNumber : ByteArray := prog_6_method_9_code
def ySF_stackNumber : MethodName := ⟨"RiscHart$ShortForm", "stackNumber", "(I)I"⟩
abbrev cSF_nearOffset : ByteArray := prog_6_method_10_code
def ySF_nearOffset : MethodName := ⟨"RiscHart$ShortForm", "nearOffset", "(I)I"⟩
abbrev cSF_offsetJ : ByteArray := prog_6_method_11_code
def ySF_offsetJ : MethodName := ⟨"RiscHart$ShortForm", "offsetJ", "(I)I"⟩
abbrev cSF_stackMove : ByteArray := prog_6_method_12_code
def ySF_stackMove : MethodName := ⟨"RiscHart$ShortForm", "stackMove", "(I)I"⟩
abbrev cSF_offsetT : ByteArray := prog_6_method_13_code
def ySF_offsetT : MethodName := ⟨"RiscHart$ShortForm", "offsetT", "(I)I"⟩
abbrev cSF_stackLoadOffset : ByteArray := prog_6_method_14_code
def ySF_stackLoadOffset : MethodName := ⟨"RiscHart$ShortForm", "stackLoadOffset", "(I)I"⟩
abbrev cSF_stackStoreOffset : ByteArray := prog_6_method_15_code
def ySF_stackStoreOffset : MethodName := ⟨"RiscHart$ShortForm", "stackStoreOffset", "(I)I"⟩
abbrev cLaw_poke : ByteArray := method_3_code
def yLaw_poke : MethodName := ⟨"RiscHartLaw", "poke", "(LRiscHart;II)I"⟩
abbrev cLaw_plant : ByteArray := method_4_code
def yLaw_plant : MethodName := ⟨"RiscHartLaw", "plant", "(LRiscHart;II)I"⟩
abbrev cLaw_peek : ByteArray := method_5_code
def yLaw_peek : MethodName := ⟨"RiscHartLaw", "peek", "(LRiscHart;I[J)I"⟩
abbrev cLaw_rights : ByteArray := method_6_code
def yLaw_rights : MethodName := ⟨"RiscHartLaw", "rights", "(LRiscHart;II[J)I"⟩
abbrev cLaw_set : ByteArray := method_7_code
def yLaw_set : MethodName := ⟨"RiscHartLaw", "set", "(LRiscHart;II[J)I"⟩
abbrev cLaw_register : ByteArray := method_8_code
def yLaw_register : MethodName := ⟨"RiscHartLaw", "register", "(LRiscHart;I[J)I"⟩
abbrev cLaw_run : ByteArray := method_9_code
def yLaw_run : MethodName := ⟨"RiscHartLaw", "run", "(LRiscHart;I[J)I"⟩
abbrev cLaw_count : ByteArray := method_10_code
def yLaw_count : MethodName := ⟨"RiscHartLaw", "count", "(LRiscHart;I[J)I"⟩
/-- the words that every call keeps -/
def lw_g : List Cond := lw_tbl.filter goodWord
set_option maxRecDepth 100000 in
theorem inHart : ∀ w ∈ u_ws RHart THart 8, w ∈ lw_g := by decide +kernel
set_option maxRecDepth 100000 in
theorem inMem : ∀ w ∈ u_ws RMem TMem 3, w ∈ lw_g := by decide +kernel
set_option maxRecDepth 100000 in
theorem inMod : ∀ w ∈ u_ws RMod TMod 14, w ∈ lw_g := by decide +kernel
