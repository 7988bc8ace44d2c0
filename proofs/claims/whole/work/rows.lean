section
-- ===== PART A: goes FIRST, ahead of the names: the tables' words, and 'selects' of the private methods out of them =====
/-- a private method of a class that the tables say can be made, by its rows of tables_1 -/
def lw_okq (q : MethodName × Nat) : Prop := (q.1.cls ≠ "java/lang/invoke/MethodHandle" ∧ q.1.cls ≠ "java/lang/invoke/VarHandle") ∧ Cond.instantiable q.1.cls q.2 ∈ tables_1 ∧ Cond.privateMethod q.1 ∈ tables_1 ∧ Cond.instanceMethod q.1 ∈ tables_1
theorem lw_p0 : lw_okq (⟨"RiscHart", "carryOutNext", "()I"⟩, 8) := ⟨⟨by decide +kernel, by decide +kernel⟩, List.mem_of_getElem? (i := 14) (by decide +kernel), List.mem_of_getElem? (i := 76) (by decide +kernel), List.mem_of_getElem? (i := 77) (by decide +kernel)⟩
theorem lw_p1 : lw_okq (⟨"RiscHart", "trap", "(II)I"⟩, 8) := ⟨⟨by decide +kernel, by decide +kernel⟩, List.mem_of_getElem? (i := 14) (by decide +kernel), List.mem_of_getElem? (i := 95) (by decide +kernel), List.mem_of_getElem? (i := 96) (by decide +kernel)⟩
theorem lw_p2 : lw_okq (⟨"RiscHart", "longFrom", "(I)I"⟩, 8) := ⟨⟨by decide +kernel, by decide +kernel⟩, List.mem_of_getElem? (i := 14) (by decide +kernel), List.mem_of_getElem? (i := 109) (by decide +kernel), List.mem_of_getElem? (i := 110) (by decide +kernel)⟩
theorem lw_p3 : lw_okq (⟨"RiscHart", "carryOutLong", "(I)I"⟩, 8) := ⟨⟨by decide +kernel, by decide +kernel⟩, List.mem_of_getElem? (i := 14) (by decide +kernel), List.mem_of_getElem? (i := 113) (by decide +kernel), List.mem_of_getElem? (i := 114) (by decide +kernel)⟩
theorem lw_p4 : lw_okq (⟨"RiscHart", "give", "(II)I"⟩, 8) := ⟨⟨by decide +kernel, by decide +kernel⟩, List.mem_of_getElem? (i := 14) (by decide +kernel), List.mem_of_getElem? (i := 126) (by decide +kernel), List.mem_of_getElem? (i := 127) (by decide +kernel)⟩
theorem lw_p5 : lw_okq (⟨"RiscHart", "linkAndJump", "(II)I"⟩, 8) := ⟨⟨by decide +kernel, by decide +kernel⟩, List.mem_of_getElem? (i := 14) (by decide +kernel), List.mem_of_getElem? (i := 136) (by decide +kernel), List.mem_of_getElem? (i := 137) (by decide +kernel)⟩
theorem lw_p6 : lw_okq (⟨"RiscHart", "longJumpToRegister", "(I)I"⟩, 8) := ⟨⟨by decide +kernel, by decide +kernel⟩, List.mem_of_getElem? (i := 14) (by decide +kernel), List.mem_of_getElem? (i := 140) (by decide +kernel), List.mem_of_getElem? (i := 141) (by decide +kernel)⟩
theorem lw_p7 : lw_okq (⟨"RiscHart", "longBranch", "(I)I"⟩, 8) := ⟨⟨by decide +kernel, by decide +kernel⟩, List.mem_of_getElem? (i := 14) (by decide +kernel), List.mem_of_getElem? (i := 153) (by decide +kernel), List.mem_of_getElem? (i := 154) (by decide +kernel)⟩
theorem lw_p8 : lw_okq (⟨"RiscHart", "jumpIf", "(ZI)I"⟩, 8) := ⟨⟨by decide +kernel, by decide +kernel⟩, List.mem_of_getElem? (i := 14) (by decide +kernel), List.mem_of_getElem? (i := 163) (by decide +kernel), List.mem_of_getElem? (i := 164) (by decide +kernel)⟩
theorem lw_p9 : lw_okq (⟨"RiscHart", "longLoad", "(I)I"⟩, 8) := ⟨⟨by decide +kernel, by decide +kernel⟩, List.mem_of_getElem? (i := 14) (by decide +kernel), List.mem_of_getElem? (i := 171) (by decide +kernel), List.mem_of_getElem? (i := 172) (by decide +kernel)⟩
theorem lw_p10 : lw_okq (⟨"RiscHart", "load", "(III)I"⟩, 8) := ⟨⟨by decide +kernel, by decide +kernel⟩, List.mem_of_getElem? (i := 14) (by decide +kernel), List.mem_of_getElem? (i := 175) (by decide +kernel), List.mem_of_getElem? (i := 176) (by decide +kernel)⟩
theorem lw_p11 : lw_okq (⟨"RiscHart", "longStore", "(I)I"⟩, 8) := ⟨⟨by decide +kernel, by decide +kernel⟩, List.mem_of_getElem? (i := 14) (by decide +kernel), List.mem_of_getElem? (i := 181) (by decide +kernel), List.mem_of_getElem? (i := 182) (by decide +kernel)⟩
theorem lw_p12 : lw_okq (⟨"RiscHart", "store", "(III)I"⟩, 8) := ⟨⟨by decide +kernel, by decide +kernel⟩, List.mem_of_getElem? (i := 14) (by decide +kernel), List.mem_of_getElem? (i := 192) (by decide +kernel), List.mem_of_getElem? (i := 193) (by decide +kernel)⟩
theorem lw_p13 : lw_okq (⟨"RiscHart", "longWithNumber", "(I)I"⟩, 8) := ⟨⟨by decide +kernel, by decide +kernel⟩, List.mem_of_getElem? (i := 14) (by decide +kernel), List.mem_of_getElem? (i := 203) (by decide +kernel), List.mem_of_getElem? (i := 204) (by decide +kernel)⟩
theorem lw_p14 : lw_okq (⟨"RiscHart", "longWithRegisters", "(I)I"⟩, 8) := ⟨⟨by decide +kernel, by decide +kernel⟩, List.mem_of_getElem? (i := 14) (by decide +kernel), List.mem_of_getElem? (i := 212) (by decide +kernel), List.mem_of_getElem? (i := 213) (by decide +kernel)⟩
theorem lw_p15 : lw_okq (⟨"RiscHart", "longAtomic", "(I)I"⟩, 8) := ⟨⟨by decide +kernel, by decide +kernel⟩, List.mem_of_getElem? (i := 14) (by decide +kernel), List.mem_of_getElem? (i := 226) (by decide +kernel), List.mem_of_getElem? (i := 227) (by decide +kernel)⟩
def lw_privs_1 : List (MethodName × Nat) := [(⟨"RiscHart", "carryOutNext", "()I"⟩, 8), (⟨"RiscHart", "trap", "(II)I"⟩, 8), (⟨"RiscHart", "longFrom", "(I)I"⟩, 8), (⟨"RiscHart", "carryOutLong", "(I)I"⟩, 8), (⟨"RiscHart", "give", "(II)I"⟩, 8), (⟨"RiscHart", "linkAndJump", "(II)I"⟩, 8), (⟨"RiscHart", "longJumpToRegister", "(I)I"⟩, 8), (⟨"RiscHart", "longBranch", "(I)I"⟩, 8), (⟨"RiscHart", "jumpIf", "(ZI)I"⟩, 8), (⟨"RiscHart", "longLoad", "(I)I"⟩, 8), (⟨"RiscHart", "load", "(III)I"⟩, 8), (⟨"RiscHart", "longStore", "(I)I"⟩, 8), (⟨"RiscHart", "store", "(III)I"⟩, 8), (⟨"RiscHart", "longWithNumber", "(I)I"⟩, 8), (⟨"RiscHart", "longWithRegisters", "(I)I"⟩, 8), (⟨"RiscHart", "longAtomic", "(I)I"⟩, 8)]
theorem lw_r1 : ∀ q ∈ lw_privs_1, lw_okq q := List.forall_mem_cons.mpr ⟨lw_p0, List.forall_mem_cons.mpr ⟨lw_p1, List.forall_mem_cons.mpr ⟨lw_p2, List.forall_mem_cons.mpr ⟨lw_p3, List.forall_mem_cons.mpr ⟨lw_p4, List.forall_mem_cons.mpr ⟨lw_p5, List.forall_mem_cons.mpr ⟨lw_p6, List.forall_mem_cons.mpr ⟨lw_p7, List.forall_mem_cons.mpr ⟨lw_p8, List.forall_mem_cons.mpr ⟨lw_p9, List.forall_mem_cons.mpr ⟨lw_p10, List.forall_mem_cons.mpr ⟨lw_p11, List.forall_mem_cons.mpr ⟨lw_p12, List.forall_mem_cons.mpr ⟨lw_p13, List.forall_mem_cons.mpr ⟨lw_p14, List.forall_mem_cons.mpr ⟨lw_p15, fun _ h => absurd h List.not_mem_nil⟩⟩⟩⟩⟩⟩⟩⟩⟩⟩⟩⟩⟩⟩⟩⟩
theorem lw_p16 : lw_okq (⟨"RiscHart", "loadReserved", "(II)I"⟩, 8) := ⟨⟨by decide +kernel, by decide +kernel⟩, List.mem_of_getElem? (i := 14) (by decide +kernel), List.mem_of_getElem? (i := 239) (by decide +kernel), List.mem_of_getElem? (i := 240) (by decide +kernel)⟩
theorem lw_p17 : lw_okq (⟨"RiscHart", "storeConditional", "(III)I"⟩, 8) := ⟨⟨by decide +kernel, by decide +kernel⟩, List.mem_of_getElem? (i := 14) (by decide +kernel), List.mem_of_getElem? (i := 247) (by decide +kernel), List.mem_of_getElem? (i := 248) (by decide +kernel)⟩
theorem lw_p18 : lw_okq (⟨"RiscHart", "change", "(IIII)I"⟩, 8) := ⟨⟨by decide +kernel, by decide +kernel⟩, List.mem_of_getElem? (i := 14) (by decide +kernel), List.mem_of_getElem? (i := 255) (by decide +kernel), List.mem_of_getElem? (i := 256) (by decide +kernel)⟩
theorem lw_p19 : lw_okq (⟨"RiscHart", "longSystem", "(I)I"⟩, 8) := ⟨⟨by decide +kernel, by decide +kernel⟩, List.mem_of_getElem? (i := 14) (by decide +kernel), List.mem_of_getElem? (i := 262) (by decide +kernel), List.mem_of_getElem? (i := 263) (by decide +kernel)⟩
theorem lw_p20 : lw_okq (⟨"RiscHart", "readCounter", "(I)I"⟩, 8) := ⟨⟨by decide +kernel, by decide +kernel⟩, List.mem_of_getElem? (i := 14) (by decide +kernel), List.mem_of_getElem? (i := 267) (by decide +kernel), List.mem_of_getElem? (i := 268) (by decide +kernel)⟩
theorem lw_p21 : lw_okq (⟨"RiscHart", "carryOutShort", "(I)I"⟩, 8) := ⟨⟨by decide +kernel, by decide +kernel⟩, List.mem_of_getElem? (i := 14) (by decide +kernel), List.mem_of_getElem? (i := 271) (by decide +kernel), List.mem_of_getElem? (i := 272) (by decide +kernel)⟩
theorem lw_p22 : lw_okq (⟨"RiscHart", "shortOfQ0", "(I)I"⟩, 8) := ⟨⟨by decide +kernel, by decide +kernel⟩, List.mem_of_getElem? (i := 14) (by decide +kernel), List.mem_of_getElem? (i := 275) (by decide +kernel), List.mem_of_getElem? (i := 276) (by decide +kernel)⟩
theorem lw_p23 : lw_okq (⟨"RiscHart", "shortOfQ1", "(I)I"⟩, 8) := ⟨⟨by decide +kernel, by decide +kernel⟩, List.mem_of_getElem? (i := 14) (by decide +kernel), List.mem_of_getElem? (i := 295) (by decide +kernel), List.mem_of_getElem? (i := 296) (by decide +kernel)⟩
theorem lw_p24 : lw_okq (⟨"RiscHart", "shortMoveStack", "(I)I"⟩, 8) := ⟨⟨by decide +kernel, by decide +kernel⟩, List.mem_of_getElem? (i := 14) (by decide +kernel), List.mem_of_getElem? (i := 309) (by decide +kernel), List.mem_of_getElem? (i := 310) (by decide +kernel)⟩
theorem lw_p25 : lw_okq (⟨"RiscHart", "shortUpperNumber", "(I)I"⟩, 8) := ⟨⟨by decide +kernel, by decide +kernel⟩, List.mem_of_getElem? (i := 14) (by decide +kernel), List.mem_of_getElem? (i := 316) (by decide +kernel), List.mem_of_getElem? (i := 317) (by decide +kernel)⟩
theorem lw_p26 : lw_okq (⟨"RiscHart", "shortArithmetic", "(I)I"⟩, 8) := ⟨⟨by decide +kernel, by decide +kernel⟩, List.mem_of_getElem? (i := 14) (by decide +kernel), List.mem_of_getElem? (i := 320) (by decide +kernel), List.mem_of_getElem? (i := 321) (by decide +kernel)⟩
theorem lw_p27 : lw_okq (⟨"RiscHart", "shortOfQ2", "(I)I"⟩, 8) := ⟨⟨by decide +kernel, by decide +kernel⟩, List.mem_of_getElem? (i := 14) (by decide +kernel), List.mem_of_getElem? (i := 337) (by decide +kernel), List.mem_of_getElem? (i := 338) (by decide +kernel)⟩
theorem lw_p28 : lw_okq (⟨"RiscHart", "shortJumpToRegister", "(I)I"⟩, 8) := ⟨⟨by decide +kernel, by decide +kernel⟩, List.mem_of_getElem? (i := 14) (by decide +kernel), List.mem_of_getElem? (i := 344) (by decide +kernel), List.mem_of_getElem? (i := 345) (by decide +kernel)⟩
theorem lw_p29 : lw_okq (⟨"RiscHart", "shortMoveOrAdd", "(I)I"⟩, 8) := ⟨⟨by decide +kernel, by decide +kernel⟩, List.mem_of_getElem? (i := 14) (by decide +kernel), List.mem_of_getElem? (i := 348) (by decide +kernel), List.mem_of_getElem? (i := 349) (by decide +kernel)⟩
theorem lw_p30 : lw_okq (⟨"java/lang/Throwable", "fillInStackTrace", "(I)Ljava/lang/Throwable;"⟩, 6) := ⟨⟨by decide +kernel, by decide +kernel⟩, List.mem_of_getElem? (i := 401) (by decide +kernel), List.mem_of_getElem? (i := 399) (by decide +kernel), List.mem_of_getElem? (i := 400) (by decide +kernel)⟩
theorem lw_p31 : lw_okq (⟨"RiscHartModel", "write", "(II)V"⟩, 14) := ⟨⟨by decide +kernel, by decide +kernel⟩, List.mem_of_getElem? (i := 506) (by decide +kernel), List.mem_of_getElem? (i := 568) (by decide +kernel), List.mem_of_getElem? (i := 569) (by decide +kernel)⟩
def lw_privs_2 : List (MethodName × Nat) := [(⟨"RiscHart", "loadReserved", "(II)I"⟩, 8), (⟨"RiscHart", "storeConditional", "(III)I"⟩, 8), (⟨"RiscHart", "change", "(IIII)I"⟩, 8), (⟨"RiscHart", "longSystem", "(I)I"⟩, 8), (⟨"RiscHart", "readCounter", "(I)I"⟩, 8), (⟨"RiscHart", "carryOutShort", "(I)I"⟩, 8), (⟨"RiscHart", "shortOfQ0", "(I)I"⟩, 8), (⟨"RiscHart", "shortOfQ1", "(I)I"⟩, 8), (⟨"RiscHart", "shortMoveStack", "(I)I"⟩, 8), (⟨"RiscHart", "shortUpperNumber", "(I)I"⟩, 8), (⟨"RiscHart", "shortArithmetic", "(I)I"⟩, 8), (⟨"RiscHart", "shortOfQ2", "(I)I"⟩, 8), (⟨"RiscHart", "shortJumpToRegister", "(I)I"⟩, 8), (⟨"RiscHart", "shortMoveOrAdd", "(I)I"⟩, 8), (⟨"java/lang/Throwable", "fillInStackTrace", "(I)Ljava/lang/Throwable;"⟩, 6), (⟨"RiscHartModel", "write", "(II)V"⟩, 14)]
theorem lw_r2 : ∀ q ∈ lw_privs_2, lw_okq q := List.forall_mem_cons.mpr ⟨lw_p16, List.forall_mem_cons.mpr ⟨lw_p17, List.forall_mem_cons.mpr ⟨lw_p18, List.forall_mem_cons.mpr ⟨lw_p19, List.forall_mem_cons.mpr ⟨lw_p20, List.forall_mem_cons.mpr ⟨lw_p21, List.forall_mem_cons.mpr ⟨lw_p22, List.forall_mem_cons.mpr ⟨lw_p23, List.forall_mem_cons.mpr ⟨lw_p24, List.forall_mem_cons.mpr ⟨lw_p25, List.forall_mem_cons.mpr ⟨lw_p26, List.forall_mem_cons.mpr ⟨lw_p27, List.forall_mem_cons.mpr ⟨lw_p28, List.forall_mem_cons.mpr ⟨lw_p29, List.forall_mem_cons.mpr ⟨lw_p30, List.forall_mem_cons.mpr ⟨lw_p31, fun _ h => absurd h List.not_mem_nil⟩⟩⟩⟩⟩⟩⟩⟩⟩⟩⟩⟩⟩⟩⟩⟩
theorem lw_p32 : lw_okq (⟨"RiscHartModel", "fetches", "(I)Z"⟩, 14) := ⟨⟨by decide +kernel, by decide +kernel⟩, List.mem_of_getElem? (i := 506) (by decide +kernel), List.mem_of_getElem? (i := 605) (by decide +kernel), List.mem_of_getElem? (i := 606) (by decide +kernel)⟩
theorem lw_p33 : lw_okq (⟨"RiscHartModel", "may", "(II)Z"⟩, 14) := ⟨⟨by decide +kernel, by decide +kernel⟩, List.mem_of_getElem? (i := 506) (by decide +kernel), List.mem_of_getElem? (i := 609) (by decide +kernel), List.mem_of_getElem? (i := 610) (by decide +kernel)⟩
theorem lw_p34 : lw_okq (⟨"RiscHartModel", "trap", "(II)I"⟩, 14) := ⟨⟨by decide +kernel, by decide +kernel⟩, List.mem_of_getElem? (i := 506) (by decide +kernel), List.mem_of_getElem? (i := 613) (by decide +kernel), List.mem_of_getElem? (i := 614) (by decide +kernel)⟩
theorem lw_p35 : lw_okq (⟨"RiscHartModel", "half", "(I)I"⟩, 14) := ⟨⟨by decide +kernel, by decide +kernel⟩, List.mem_of_getElem? (i := 506) (by decide +kernel), List.mem_of_getElem? (i := 617) (by decide +kernel), List.mem_of_getElem? (i := 618) (by decide +kernel)⟩
theorem lw_p36 : lw_okq (⟨"RiscHartModel", "illegal", "()I"⟩, 14) := ⟨⟨by decide +kernel, by decide +kernel⟩, List.mem_of_getElem? (i := 506) (by decide +kernel), List.mem_of_getElem? (i := 661) (by decide +kernel), List.mem_of_getElem? (i := 662) (by decide +kernel)⟩
theorem lw_p37 : lw_okq (⟨"RiscHartModel", "carry", "(I)V"⟩, 14) := ⟨⟨by decide +kernel, by decide +kernel⟩, List.mem_of_getElem? (i := 506) (by decide +kernel), List.mem_of_getElem? (i := 665) (by decide +kernel), List.mem_of_getElem? (i := 666) (by decide +kernel)⟩
theorem lw_p38 : lw_okq (⟨"RiscHartModel", "give", "(II)V"⟩, 14) := ⟨⟨by decide +kernel, by decide +kernel⟩, List.mem_of_getElem? (i := 506) (by decide +kernel), List.mem_of_getElem? (i := 669) (by decide +kernel), List.mem_of_getElem? (i := 670) (by decide +kernel)⟩
theorem lw_p39 : lw_okq (⟨"RiscHartModel", "decide", "(IIII)V"⟩, 14) := ⟨⟨by decide +kernel, by decide +kernel⟩, List.mem_of_getElem? (i := 506) (by decide +kernel), List.mem_of_getElem? (i := 673) (by decide +kernel), List.mem_of_getElem? (i := 674) (by decide +kernel)⟩
theorem lw_p40 : lw_okq (⟨"RiscHartModel", "load", "(II)I"⟩, 14) := ⟨⟨by decide +kernel, by decide +kernel⟩, List.mem_of_getElem? (i := 506) (by decide +kernel), List.mem_of_getElem? (i := 678) (by decide +kernel), List.mem_of_getElem? (i := 679) (by decide +kernel)⟩
theorem lw_p41 : lw_okq (⟨"RiscHartModel", "put", "(III)V"⟩, 14) := ⟨⟨by decide +kernel, by decide +kernel⟩, List.mem_of_getElem? (i := 506) (by decide +kernel), List.mem_of_getElem? (i := 682) (by decide +kernel), List.mem_of_getElem? (i := 683) (by decide +kernel)⟩
theorem lw_p42 : lw_okq (⟨"RiscHartModel", "shifted", "(IIII)I"⟩, 14) := ⟨⟨by decide +kernel, by decide +kernel⟩, List.mem_of_getElem? (i := 506) (by decide +kernel), List.mem_of_getElem? (i := 686) (by decide +kernel), List.mem_of_getElem? (i := 687) (by decide +kernel)⟩
theorem lw_p43 : lw_okq (⟨"RiscHartModel", "atomic", "(IIIII)I"⟩, 14) := ⟨⟨by decide +kernel, by decide +kernel⟩, List.mem_of_getElem? (i := 506) (by decide +kernel), List.mem_of_getElem? (i := 696) (by decide +kernel), List.mem_of_getElem? (i := 697) (by decide +kernel)⟩
theorem lw_p44 : lw_okq (⟨"RiscHartModel", "system", "(II)I"⟩, 14) := ⟨⟨by decide +kernel, by decide +kernel⟩, List.mem_of_getElem? (i := 506) (by decide +kernel), List.mem_of_getElem? (i := 703) (by decide +kernel), List.mem_of_getElem? (i := 704) (by decide +kernel)⟩
def lw_privs_3 : List (MethodName × Nat) := [(⟨"RiscHartModel", "fetches", "(I)Z"⟩, 14), (⟨"RiscHartModel", "may", "(II)Z"⟩, 14), (⟨"RiscHartModel", "trap", "(II)I"⟩, 14), (⟨"RiscHartModel", "half", "(I)I"⟩, 14), (⟨"RiscHartModel", "illegal", "()I"⟩, 14), (⟨"RiscHartModel", "carry", "(I)V"⟩, 14), (⟨"RiscHartModel", "give", "(II)V"⟩, 14), (⟨"RiscHartModel", "decide", "(IIII)V"⟩, 14), (⟨"RiscHartModel", "load", "(II)I"⟩, 14), (⟨"RiscHartModel", "put", "(III)V"⟩, 14), (⟨"RiscHartModel", "shifted", "(IIII)I"⟩, 14), (⟨"RiscHartModel", "atomic", "(IIIII)I"⟩, 14), (⟨"RiscHartModel", "system", "(II)I"⟩, 14)]
theorem lw_r3 : ∀ q ∈ lw_privs_3, lw_okq q := List.forall_mem_cons.mpr ⟨lw_p32, List.forall_mem_cons.mpr ⟨lw_p33, List.forall_mem_cons.mpr ⟨lw_p34, List.forall_mem_cons.mpr ⟨lw_p35, List.forall_mem_cons.mpr ⟨lw_p36, List.forall_mem_cons.mpr ⟨lw_p37, List.forall_mem_cons.mpr ⟨lw_p38, List.forall_mem_cons.mpr ⟨lw_p39, List.forall_mem_cons.mpr ⟨lw_p40, List.forall_mem_cons.mpr ⟨lw_p41, List.forall_mem_cons.mpr ⟨lw_p42, List.forall_mem_cons.mpr ⟨lw_p43, List.forall_mem_cons.mpr ⟨lw_p44, fun _ h => absurd h List.not_mem_nil⟩⟩⟩⟩⟩⟩⟩⟩⟩⟩⟩⟩⟩
def lw_privs : List (MethodName × Nat) := lw_privs_1 ++ (lw_privs_2 ++ (lw_privs_3))
def lw_tbl : List Cond := k2_sels lw_privs ++ tables_1
theorem lw_privs_ok : ∀ q ∈ lw_privs, lw_okq q := by
  show ∀ q ∈ lw_privs_1 ++ (lw_privs_2 ++ (lw_privs_3)), lw_okq q
  exact List.forall_mem_append.mpr ⟨lw_r1, List.forall_mem_append.mpr ⟨lw_r2, lw_r3⟩⟩
/-! names: classes, fields in the order of the slots, codes and names of methods -/
def RHart : String := "RiscHart"
def RMem : String := "RiscHart$Memory"
def RBits : String := "RiscHart$Bits"
def RLF : String := "RiscHart$LongForm"
def RSF : String := "RiscHart$ShortForm"
def RAr : String := "RiscHart$Arithmetic"
def RMod : String := "RiscHartModel"
def RLaw : String := "RiscHartLaw"
def RObj : String := "java/lang/Object"
def THart : u_T := fun k => match k with
  | 0 => ("RiscHart", "memory", "LRiscHart$Memory;", true)
  | 1 => ("RiscHart", "registers", "[I", true)
  | 2 => ("RiscHart", "place", "I", false)
  | 3 => ("RiscHart", "placeBehind", "I", false)
  | 4 => ("RiscHart", "cause", "I", false)
  | 5 => ("RiscHart", "value", "I", false)
  | 6 => ("RiscHart", "retired", "J", false)
  | _ => ("RiscHart", "time", "J", false)
def tyHart : Nat → FieldType := fun k => match k with
  | 0 => .object "RiscHart$Memory"
  | 1 => .array .int
  | 2 => .int
  | 3 => .int
  | 4 => .int
  | 5 => .int
  | 6 => .long
  | _ => .long
theorem nmHart : ∀ a, a < 8 → ∀ b, b < 8 → a ≠ b → (THart a).2.1 ≠ (THart b).2.1 := by decide +kernel
theorem tyHart_ok : ∀ k, k < 8 → parseFieldDescriptor (THart k).2.2.1 = some (tyHart k) := by decide +kernel
def TMem : u_T := fun k => match k with
  | 0 => ("RiscHart$Memory", "words", "[I", true)
  | 1 => ("RiscHart$Memory", "pageRights", "[I", true)
  | _ => ("RiscHart$Memory", "reserved", "I", false)
def tyMem : Nat → FieldType := fun k => match k with
  | 0 => .array .int
  | 1 => .array .int
  | _ => .int
theorem nmMem : ∀ a, a < 3 → ∀ b, b < 3 → a ≠ b → (TMem a).2.1 ≠ (TMem b).2.1 := by decide +kernel
theorem tyMem_ok : ∀ k, k < 3 → parseFieldDescriptor (TMem k).2.2.1 = some (tyMem k) := by decide +kernel
def TMod : u_T := fun k => match k with
  | 0 => ("RiscHartModel", "code", "I", false)
  | 1 => ("RiscHartModel", "bytes", "[I", true)
  | 2 => ("RiscHartModel", "open", "[I", true)
  | 3 => ("RiscHartModel", "x", "[I", true)
  | 4 => ("RiscHartModel", "place", "I", false)
  | 5 => ("RiscHartModel", "cause", "I", false)
  | 6 => ("RiscHartModel", "value", "I", false)
  | 7 => ("RiscHartModel", "reserved", "I", false)
  | 8 => ("RiscHartModel", "retired", "J", false)
  | 9 => ("RiscHartModel", "clock", "J", false)
  | 10 => ("RiscHartModel", "bits", "I", false)
  | 11 => ("RiscHartModel", "length", "I", false)
  | 12 => ("RiscHartModel", "next", "I", false)
  | _ => ("RiscHartModel", "met", "I", false)
def tyMod : Nat → FieldType := fun k => match k with
  | 0 => .int
  | 1 => .array .int
  | 2 => .array .int
  | 3 => .array .int
  | 4 => .int
  | 5 => .int
  | 6 => .int
  | 7 => .int
  | 8 => .long
  | 9 => .long
  | 10 => .int
  | 11 => .int
  | 12 => .int
  | _ => .int
theorem nmMod : ∀ a, a < 14 → ∀ b, b < 14 → a ≠ b → (TMod a).2.1 ≠ (TMod b).2.1 := by decide +kernel
theorem tyMod_ok : ∀ k, k < 14 → parseFieldDescriptor (TMod k).2.2.1 = some (tyMod k) := by decide +kernel
abbrev hcl : List vw_C := [(RHart, THart, 8), (RMem, TMem, 3), (RMod, TMod, 14)]
abbrev cHart_init : ByteArray := prog_1_method_1_code
def yHart_init : MethodName := ⟨"RiscHart", "<init>", "()V"⟩
abbrev cHart_poke : ByteArray := prog_1_method_2_code
def yHart_poke : MethodName := ⟨"RiscHart", "poke", "(II)V"⟩
abbrev cHart_plant : ByteArray := prog_1_method_3_code
def yHart_plant : MethodName := ⟨"RiscHart", "plant", "(II)V"⟩
abbrev cHart_peek : ByteArray := prog_1_method_4_code
def yHart_peek : MethodName := ⟨"RiscHart", "peek", "(I)I"⟩
abbrev cHart_rights : ByteArray := prog_1_method_5_code
def yHart_rights : MethodName := ⟨"RiscHart", "rights", "(II)I"⟩
abbrev cHart_set : ByteArray := prog_1_method_6_code
def yHart_set : MethodName := ⟨"RiscHart", "set", "(II)Z"⟩
abbrev cHart_register : ByteArray := prog_1_method_7_code
def yHart_register : MethodName := ⟨"RiscHart", "register", "(I)I"⟩
abbrev cHart_jump : ByteArray := prog_1_method_8_code
def yHart_jump : MethodName := ⟨"RiscHart", "jump", "(I)V"⟩
abbrev cHart_clock : ByteArray := prog_1_method_9_code
def yHart_clock : MethodName := ⟨"RiscHart", "clock", "(J)V"⟩
abbrev cHart_step : ByteArray := prog_1_method_10_code
def yHart_step : MethodName := ⟨"RiscHart", "step", "()I"⟩
abbrev cHart_run : ByteArray := prog_1_method_11_code
def yHart_run : MethodName := ⟨"RiscHart", "run", "(I)I"⟩
abbrev cHart_count : ByteArray := prog_1_method_12_code
def yHart_count : MethodName := ⟨"RiscHart", "count", "(I)J"⟩
abbrev cHart_carryOutNext : ByteArray := prog_1_method_13_code
def yHart_carryOutNext : MethodName := ⟨"RiscHart", "carryOutNext", "()I"⟩
abbrev cHart_longFrom : ByteArray := prog_1_method_14_code
def yHart_longFrom : MethodName := ⟨"RiscHart", "longFrom", "(I)I"⟩
abbrev cHart_trap : ByteArray := prog_1_method_15_code
def yHart_trap : MethodName := ⟨"RiscHart", "trap", "(II)I"⟩
abbrev cHart_give : ByteArray := prog_1_method_16_code
def yHart_give : MethodName := ⟨"RiscHart", "give", "(II)I"⟩
abbrev cHart_linkAndJump : ByteArray := prog_1_method_17_code
def yHart_linkAndJump : MethodName := ⟨"RiscHart", "linkAndJump", "(II)I"⟩
abbrev cHart_jumpIf : ByteArray := prog_1_method_18_code
def yHart_jumpIf : MethodName := ⟨"RiscHart", "jumpIf", "(ZI)I"⟩
abbrev cHart_load : ByteArray := prog_1_method_19_code
def yHart_load : MethodName := ⟨"RiscHart", "load", "(III)I"⟩
abbrev cHart_store : ByteArray := prog_1_method_20_code
def yHart_store : MethodName := ⟨"RiscHart", "store", "(III)I"⟩
abbrev cHart_carryOutLong : ByteArray := prog_1_method_21_code
def yHart_carryOutLong : MethodName := ⟨"RiscHart", "carryOutLong", "(I)I"⟩
abbrev cHart_longJumpToRegister : ByteArray := prog_1_method_22_code
def yHart_longJumpToRegister : MethodName := ⟨"RiscHart", "longJumpToRegister", "(I)I"⟩
abbrev cHart_longBranch : ByteArray := prog_1_method_23_code
def yHart_longBranch : MethodName := ⟨"RiscHart", "longBranch", "(I)I"⟩
abbrev cHart_longLoad : ByteArray := prog_1_method_24_code
def yHart_longLoad : MethodName := ⟨"RiscHart", "longLoad", "(I)I"⟩
abbrev cHart_longStore : ByteArray := prog_1_method_25_code
def yHart_longStore : MethodName := ⟨"RiscHart", "longStore", "(I)I"⟩
abbrev cHart_longWithNumber : ByteArray := prog_1_method_26_code
def yHart_longWithNumber : MethodName := ⟨"RiscHart", "longWithNumber", "(I)I"⟩
abbrev cHart_longWithRegisters : ByteArray := prog_1_method_27_code
def yHart_longWithRegisters : MethodName := ⟨"RiscHart", "longWithRegisters", "(I)I"⟩
abbrev cHart_longAtomic : ByteArray := prog_1_method_28_code
def yHart_longAtomic : MethodName := ⟨"RiscHart", "longAtomic", "(I)I"⟩
abbrev cHart_loadReserved : ByteArray := prog_1_method_29_code
def yHart_loadReserved : MethodName := ⟨"RiscHart", "loadReserved", "(II)I"⟩
abbrev cHart_storeConditional : ByteArray := prog_1_method_30_code
def yHart_storeConditional : MethodName := ⟨"RiscHart", "storeConditional", "(III)I"⟩
abbrev cHart_change : ByteArray := prog_1_method_31_code
def yHart_change : MethodName := ⟨"RiscHart", "change", "(IIII)I"⟩
abbrev cHart_longSystem : ByteArray := prog_1_method_32_code
def yHart_longSystem : MethodName := ⟨"RiscHart", "longSystem", "(I)I"⟩
abbrev cHart_readCounter : ByteArray := prog_1_method_33_code
def yHart_readCounter : MethodName := ⟨"RiscHart", "readCounter", "(I)I"⟩
abbrev cHart_carryOutShort : ByteArray := prog_1_method_34_code
def yHart_carryOutShort : MethodName := ⟨"RiscHart", "carryOutShort", "(I)I"⟩
abbrev cHart_shortOfQ0 : ByteArray := prog_1_method_35_code
def yHart_shortOfQ0 : MethodName := ⟨"RiscHart", "shortOfQ0", "(I)I"⟩
abbrev cHart_shortOfQ1 : ByteArray := prog_1_method_36_code
def yHart_shortOfQ1 : MethodName := ⟨"RiscHart", "shortOfQ1", "(I)I"⟩
abbrev cHart_shortMoveStack : ByteArray := prog_1_method_37_code
def yHart_shortMoveStack : MethodName := ⟨"RiscHart", "shortMoveStack", "(I)I"⟩
abbrev cHart_shortUpperNumber : ByteArray := prog_1_method_38_code
def yHart_shortUpperNumber : MethodName := ⟨"RiscHart", "shortUpperNumber", "(I)I"⟩
abbrev cHart_shortArithmetic : ByteArray := prog_1_method_39_code
def yHart_shortArithmetic : MethodName := ⟨"RiscHart", "shortArithmetic", "(I)I"⟩
abbrev cHart_shortOfQ2 : ByteArray := prog_1_method_40_code
def yHart_shortOfQ2 : MethodName := ⟨"RiscHart", "shortOfQ2", "(I)I"⟩
abbrev cHart_shortJumpToRegister : ByteArray := prog_1_method_41_code
def yHart_shortJumpToRegister : MethodName := ⟨"RiscHart", "shortJumpToRegister", "(I)I"⟩
abbrev cHart_shortMoveOrAdd : ByteArray := prog_1_method_42_code
def yHart_shortMoveOrAdd : MethodName := ⟨"RiscHart", "shortMoveOrAdd", "(I)I"⟩
abbrev cMod_init : ByteArray := prog_8_method_1_code
def yMod_init : MethodName := ⟨"RiscHartModel", "<init>", "()V"⟩
abbrev cMod_thrown : ByteArray := prog_8_method_2_code
def yMod_thrown : MethodName := ⟨"RiscHartModel", "thrown", "()I"⟩
abbrev cMod_in : ByteArray := prog_8_method_3_code
def yMod_in : MethodName := ⟨"RiscHartModel", "in", "(III)Z"⟩
abbrev cMod_write : ByteArray := prog_8_method_4_code
def yMod_write : MethodName := ⟨"RiscHartModel", "write", "(II)V"⟩
abbrev cMod_poke : ByteArray := prog_8_method_5_code
def yMod_poke : MethodName := ⟨"RiscHartModel", "poke", "(II)V"⟩
abbrev cMod_plant : ByteArray := prog_8_method_6_code
def yMod_plant : MethodName := ⟨"RiscHartModel", "plant", "(II)V"⟩
abbrev cMod_peek : ByteArray := prog_8_method_7_code
def yMod_peek : MethodName := ⟨"RiscHartModel", "peek", "(I)I"⟩
abbrev cMod_rights : ByteArray := prog_8_method_8_code
def yMod_rights : MethodName := ⟨"RiscHartModel", "rights", "(II)I"⟩
abbrev cMod_set : ByteArray := prog_8_method_9_code
def yMod_set : MethodName := ⟨"RiscHartModel", "set", "(II)Z"⟩
abbrev cMod_register : ByteArray := prog_8_method_10_code
def yMod_register : MethodName := ⟨"RiscHartModel", "register", "(I)I"⟩
abbrev cMod_jump : ByteArray := prog_8_method_11_code
def yMod_jump : MethodName := ⟨"RiscHartModel", "jump", "(I)V"⟩
abbrev cMod_clock : ByteArray := prog_8_method_12_code
def yMod_clock : MethodName := ⟨"RiscHartModel", "clock", "(J)V"⟩
abbrev cMod_part : ByteArray := prog_8_method_13_code
def yMod_part : MethodName := ⟨"RiscHartModel", "part", "(III)I"⟩
abbrev cMod_bit : ByteArray := prog_8_method_14_code
def yMod_bit : MethodName := ⟨"RiscHartModel", "bit", "(IIII)I"⟩
abbrev cMod_signed : ByteArray := prog_8_method_15_code
def yMod_signed : MethodName := ⟨"RiscHartModel", "signed", "(II)I"⟩
abbrev cMod_immediate : ByteArray := prog_8_method_16_code
def yMod_immediate : MethodName := ⟨"RiscHartModel", "immediate", "(IIIII)I"⟩
abbrev cMod_registers : ByteArray := prog_8_method_17_code
def yMod_registers : MethodName := ⟨"RiscHartModel", "registers", "(IIIII)I"⟩
abbrev cMod_store : ByteArray := prog_8_method_18_code
def yMod_store : MethodName := ⟨"RiscHartModel", "store", "(III)I"⟩
abbrev cMod_link : ByteArray := prog_8_method_19_code
def yMod_link : MethodName := ⟨"RiscHartModel", "link", "(II)I"⟩
abbrev cMod_branch : ByteArray := prog_8_method_20_code
def yMod_branch : MethodName := ⟨"RiscHartModel", "branch", "(III)I"⟩
abbrev cMod_expand : ByteArray := prog_8_method_21_code
def yMod_expand : MethodName := ⟨"RiscHartModel", "expand", "(I)I"⟩
abbrev cMod_zero : ByteArray := prog_8_method_22_code
def yMod_zero : MethodName := ⟨"RiscHartModel", "zero", "(II)I"⟩
abbrev cMod_one : ByteArray := prog_8_method_23_code
def yMod_one : MethodName := ⟨"RiscHartModel", "one", "(II)I"⟩
abbrev cMod_four : ByteArray := prog_8_method_24_code
def yMod_four : MethodName := ⟨"RiscHartModel", "four", "(II)I"⟩
abbrev cMod_two : ByteArray := prog_8_method_25_code
def yMod_two : MethodName := ⟨"RiscHartModel", "two", "(II)I"⟩
abbrev cMod_trap : ByteArray := prog_8_method_26_code
def yMod_trap : MethodName := ⟨"RiscHartModel", "trap", "(II)I"⟩
abbrev cMod_illegal : ByteArray := prog_8_method_27_code
def yMod_illegal : MethodName := ⟨"RiscHartModel", "illegal", "()I"⟩
abbrev cMod_may : ByteArray := prog_8_method_28_code
def yMod_may : MethodName := ⟨"RiscHartModel", "may", "(II)Z"⟩
abbrev cMod_half : ByteArray := prog_8_method_29_code
def yMod_half : MethodName := ⟨"RiscHartModel", "half", "(I)I"⟩
abbrev cMod_fetches : ByteArray := prog_8_method_30_code
def yMod_fetches : MethodName := ⟨"RiscHartModel", "fetches", "(I)Z"⟩
abbrev cMod_step : ByteArray := prog_8_method_31_code
def yMod_step : MethodName := ⟨"RiscHartModel", "step", "()I"⟩
abbrev cMod_give : ByteArray := prog_8_method_32_code
def yMod_give : MethodName := ⟨"RiscHartModel", "give", "(II)V"⟩
abbrev cMod_carry : ByteArray := prog_8_method_33_code
def yMod_carry : MethodName := ⟨"RiscHartModel", "carry", "(I)V"⟩
abbrev cMod_decide : ByteArray := prog_8_method_34_code
def yMod_decide : MethodName := ⟨"RiscHartModel", "decide", "(IIII)V"⟩
abbrev cMod_reckoned : ByteArray := prog_8_method_35_code
def yMod_reckoned : MethodName := ⟨"RiscHartModel", "reckoned", "(III)I"⟩
abbrev cMod_shifted : ByteArray := prog_8_method_36_code
def yMod_shifted : MethodName := ⟨"RiscHartModel", "shifted", "(IIII)I"⟩
abbrev cMod_multiplied : ByteArray := prog_8_method_37_code
def yMod_multiplied : MethodName := ⟨"RiscHartModel", "multiplied", "(III)I"⟩
abbrev cMod_load : ByteArray := prog_8_method_38_code
def yMod_load : MethodName := ⟨"RiscHartModel", "load", "(II)I"⟩
abbrev cMod_put : ByteArray := prog_8_method_39_code
def yMod_put : MethodName := ⟨"RiscHartModel", "put", "(III)V"⟩
abbrev cMod_atomic : ByteArray := prog_8_method_40_code
def yMod_atomic : MethodName := ⟨"RiscHartModel", "atomic", "(IIIII)I"⟩
abbrev cMod_changed : ByteArray := prog_8_method_41_code
def yMod_changed : MethodName := ⟨"RiscHartModel", "changed", "(III)I"⟩
abbrev cMod_system : ByteArray := prog_8_method_42_code
def yMod_system : MethodName := ⟨"RiscHartModel", "system", "(II)I"⟩
abbrev cMod_run : ByteArray := prog_8_method_43_code
def yMod_run : MethodName := ⟨"RiscHartModel", "run", "(I)I"⟩
abbrev cMod_count : ByteArray := prog_8_method_44_code
def yMod_count : MethodName := ⟨"RiscHartModel", "count", "(I)J"⟩
abbrev cAr_isBelow : ByteArray := prog_2_method_2_code
def yAr_isBelow : MethodName := ⟨"RiscHart$Arithmetic", "isBelow", "(II)Z"⟩
abbrev cAr_plain : ByteArray := prog_2_method_3_code
def yAr_plain : MethodName := ⟨"RiscHart$Arithmetic", "plain", "(III)I"⟩
abbrev cAr_multipliedOrDivided : ByteArray := prog_2_method_4_code
def yAr_multipliedOrDivided : MethodName := ⟨"RiscHart$Arithmetic", "multipliedOrDivided", "(III)I"⟩
abbrev cAr_quotient : ByteArray := prog_2_method_5_code
def yAr_quotient : MethodName := ⟨"RiscHart$Arithmetic", "quotient", "(JJ)J"⟩
abbrev cAr_remainder : ByteArray := prog_2_method_6_code
def yAr_remainder : MethodName := ⟨"RiscHart$Arithmetic", "remainder", "(JJ)J"⟩
abbrev cAr_ofTwoNear : ByteArray := prog_2_method_7_code
def yAr_ofTwoNear : MethodName := ⟨"RiscHart$Arithmetic", "ofTwoNear", "(III)I"⟩
abbrev cAr_changed : ByteArray := prog_2_method_8_code
def yAr_changed : MethodName := ⟨"RiscHart$Arithmetic", "changed", "(III)I"⟩
abbrev cBits_part : ByteArray := prog_3_method_2_code
def yBits_part : MethodName := ⟨"RiscHart$Bits", "part", "(III)I"⟩
abbrev cBits_signed : ByteArray := prog_3_method_3_code
def yBits_signed : MethodName := ⟨"RiscHart$Bits", "signed", "(II)I"⟩
abbrev cLF_d : ByteArray := prog_4_method_2_code
def yLF_d : MethodName := ⟨"RiscHart$LongForm", "d", "(I)I"⟩
abbrev cLF_f : ByteArray := prog_4_method_3_code
def yLF_f : MethodName := ⟨"RiscHart$LongForm", "f", "(I)I"⟩
abbrev cLF_a : ByteArray := prog_4_method_4_code
def yLF_a : MethodName := ⟨"RiscHart$LongForm", "a", "(I)I"⟩
abbrev cLF_b : ByteArray := prog_4_method_5_code
def yLF_b : MethodName := ⟨"RiscHart$LongForm", "b", "(I)I"⟩
abbrev cLF_g : ByteArray := prog_4_method_6_code
def yLF_g : MethodName := ⟨"RiscHart$LongForm", "g", "(I)I"⟩
abbrev cLF_k : ByteArray := prog_4_method_7_code
def yLF_k : MethodName := ⟨"RiscHart$LongForm", "k", "(I)I"⟩
abbrev cLF_numberI : ByteArray := prog_4_method_8_code
def yLF_numberI : MethodName := ⟨"RiscHart$LongForm", "numberI", "(I)I"⟩
abbrev cLF_numberS : ByteArray := prog_4_method_9_code
def yLF_numberS : MethodName := ⟨"RiscHart$LongForm", "numberS", "(I)I"⟩
abbrev cLF_upperNumber : ByteArray := prog_4_method_10_code
def yLF_upperNumber : MethodName := ⟨"RiscHart$LongForm", "upperNumber", "(I)I"⟩
abbrev cLF_offsetJ : ByteArray := prog_4_method_11_code
def yLF_offsetJ : MethodName := ⟨"RiscHart$LongForm", "offsetJ", "(I)I"⟩
abbrev cLF_offsetT : ByteArray := prog_4_method_12_code
def yLF_offsetT : MethodName := ⟨"RiscHart$LongForm", "offsetT", "(I)I"⟩
abbrev cLF_isAtomic : ByteArray := prog_4_method_13_code
def yLF_isAtomic : MethodName := ⟨"RiscHart$LongForm", "isAtomic", "(I)Z"⟩
abbrev cMem_init : ByteArray := prog_5_method_1_code
def yMem_init : MethodName := ⟨"RiscHart$Memory", "<init>", "()V"⟩
abbrev cMem_holds : ByteArray := prog_5_method_2_code
def yMem_holds : MethodName := ⟨"RiscHart$Memory", "holds", "(I)Z"⟩
abbrev cMem_isMisaligned : ByteArray := prog_5_method_3_code
def yMem_isMisaligned : MethodName := ⟨"RiscHart$Memory", "isMisaligned", "(II)Z"⟩
abbrev cMem_allows : ByteArray := prog_5_method_4_code
def yMem_allows : MethodName := ⟨"RiscHart$Memory", "allows", "(II)Z"⟩
abbrev cMem_mayCarryOut : ByteArray := prog_5_method_5_code
def yMem_mayCarryOut : MethodName := ⟨"RiscHart$Memory", "mayCarryOut", "(I)Z"⟩
abbrev cMem_exchangeRights : ByteArray := prog_5_method_6_code
def yMem_exchangeRights : MethodName := ⟨"RiscHart$Memory", "exchangeRights", "(II)I"⟩
abbrev cMem_reservedAddress : ByteArray := prog_5_method_7_code
def yMem_reservedAddress : MethodName := ⟨"RiscHart$Memory", "reservedAddress", "()I"⟩
abbrev cMem_reserve : ByteArray := prog_5_method_8_code
def yMem_reserve : MethodName := ⟨"RiscHart$Memory", "reserve", "(I)V"⟩
abbrev cMem_read : ByteArray := prog_5_method_9_code
def yMem_read : MethodName := ⟨"RiscHart$Memory", "read", "(II)I"⟩
abbrev cMem_write : ByteArray := prog_5_method_10_code
def yMem_write : MethodName := ⟨"RiscHart$Memory", "write", "(III)V"⟩
abbrev cMem_wordIndex : ByteArray := prog_5_method_11_code
def yMem_wordIndex : MethodName := ⟨"RiscHart$Memory", "wordIndex", "(I)I"⟩
abbrev cMem_shiftOf : ByteArray := prog_5_method_12_code
def yMem_shiftOf : MethodName := ⟨"RiscHart$Memory", "shiftOf", "(I)I"⟩
abbrev cMem_maskOf : ByteArray := prog_5_method_13_code
def yMem_maskOf : MethodName := ⟨"RiscHart$Memory", "maskOf", "(I)I"⟩
abbrev cSF_f : ByteArray := prog_6_method_2_code
def ySF_f : MethodName := ⟨"RiscHart$ShortForm", "f", "(I)I"⟩
abbrev cSF_bit12 : ByteArray := prog_6_method_3_code
def ySF_bit12 : MethodName := ⟨"RiscHart$ShortForm", "bit12", "(I)Z"⟩
abbrev cSF_d : ByteArray := prog_6_method_4_code
def ySF_d : MethodName := ⟨"RiscHart$ShortForm", "d", "(I)I"⟩
abbrev cSF_b : ByteArray := prog_6_method_5_code
def ySF_b : MethodName := ⟨"RiscHart$ShortForm", "b", "(I)I"⟩
abbrev cSF_lowNear : ByteArray := prog_6_method_6_code
def ySF_lowNear : MethodName := ⟨"RiscHart$ShortForm", "lowNear", "(I)I"⟩
abbrev cSF_highNear : ByteArray := prog_6_method_7_code
def ySF_highNear : MethodName := ⟨"RiscHart$ShortForm", "highNear", "(I)I"⟩
abbrev cSF_number : ByteArray := prog_6_method_8_code
def ySF_number : MethodName := ⟨"RiscHart$ShortForm", "number", "(I)I"⟩
abbrev cSF_stackNumber : ByteArray := prog_6_method_9_code
def ySF_stackNumber : MethodName := ⟨"RiscHart$ShortForm", "stackNumber", "(I)I"⟩
abbrev cSF_nearOffset : ByteArray := prog_6_method_10_code
def ySF_nearOffset : MethodName := ⟨"RiscHart$ShortForm", "nearOffset", "(I)I"⟩
abbrev cSF_offsetJ : ByteArray := prog_6_method_11_code
def ySF_offsetJ : MethodName := ⟨"RiscHart$ShortForm", "offsetJ", "(I)I"⟩
abbrev cSF_stackMove : ByteArray := prog_6_method_12_code
def ySF_stackMove : MethodName := ⟨"RiscHart$ShortForm", "stackMove", "(I)I"⟩
abbrev cSF_offsetT : ByteArray := prog_6_method_13_code
def ySF_offsetT : MethodName := ⟨"RiscHart$ShortForm", "offsetT", "(I)I"⟩
abbrev cSF_stackLoadOffset : ByteArray := prog_6_method_14_code
def ySF_stackLoadOffset : MethodName := ⟨"RiscHart$ShortForm", "stackLoadOffset", "(I)I"⟩
abbrev cSF_stackStoreOffset : ByteArray := prog_6_method_15_code
def ySF_stackStoreOffset : MethodName := ⟨"RiscHart$ShortForm", "stackStoreOffset", "(I)I"⟩
abbrev cLaw_poke : ByteArray := method_3_code
def yLaw_poke : MethodName := ⟨"RiscHartLaw", "poke", "(LRiscHart;II)I"⟩
abbrev cLaw_plant : ByteArray := method_4_code
def yLaw_plant : MethodName := ⟨"RiscHartLaw", "plant", "(LRiscHart;II)I"⟩
abbrev cLaw_peek : ByteArray := method_5_code
def yLaw_peek : MethodName := ⟨"RiscHartLaw", "peek", "(LRiscHart;I[J)I"⟩
abbrev cLaw_rights : ByteArray := method_6_code
def yLaw_rights : MethodName := ⟨"RiscHartLaw", "rights", "(LRiscHart;II[J)I"⟩
abbrev cLaw_set : ByteArray := method_7_code
def yLaw_set : MethodName := ⟨"RiscHartLaw", "set", "(LRiscHart;II[J)I"⟩
abbrev cLaw_register : ByteArray := method_8_code
def yLaw_register : MethodName := ⟨"RiscHartLaw", "register", "(LRiscHart;I[J)I"⟩
abbrev cLaw_run : ByteArray := method_9_code
def yLaw_run : MethodName := ⟨"RiscHartLaw", "run", "(LRiscHart;I[J)I"⟩
abbrev cLaw_count : ByteArray := method_10_code
def yLaw_count : MethodName := ⟨"RiscHartLaw", "count", "(LRiscHart;I[J)I"⟩
/-- the words that every call keeps -/
def lw_g : List Cond := lw_tbl.filter goodWord
set_option maxRecDepth 100000 in
theorem inHart : ∀ w ∈ u_ws RHart THart 8, w ∈ lw_g := by decide +kernel
set_option maxRecDepth 100000 in
theorem inMem : ∀ w ∈ u_ws RMem TMem 3, w ∈ lw_g := by decide +kernel
set_option maxRecDepth 100000 in
theorem inMod : ∀ w ∈ u_ws RMod TMod 14, w ∈ lw_g := by decide +kernel
end
section
theorem hdHart_init : yHart_init.cls = RHart ∧ yHart_init.cls ≠ "java/lang/invoke/MethodHandle" ∧ yHart_init.cls ≠ "java/lang/invoke/VarHandle" ∧ (parseMethodDescriptor yHart_init.desc).map (fun d => d.parameters.length) = some 0 := by decide +kernel
theorem hdHart_poke : yHart_poke.cls = RHart ∧ yHart_poke.cls ≠ "java/lang/invoke/MethodHandle" ∧ yHart_poke.cls ≠ "java/lang/invoke/VarHandle" ∧ (parseMethodDescriptor yHart_poke.desc).map (fun d => d.parameters.length) = some 2 := by decide +kernel
theorem hdHart_plant : yHart_plant.cls = RHart ∧ yHart_plant.cls ≠ "java/lang/invoke/MethodHandle" ∧ yHart_plant.cls ≠ "java/lang/invoke/VarHandle" ∧ (parseMethodDescriptor yHart_plant.desc).map (fun d => d.parameters.length) = some 2 := by decide +kernel
theorem hdHart_peek : yHart_peek.cls = RHart ∧ yHart_peek.cls ≠ "java/lang/invoke/MethodHandle" ∧ yHart_peek.cls ≠ "java/lang/invoke/VarHandle" ∧ (parseMethodDescriptor yHart_peek.desc).map (fun d => d.parameters.length) = some 1 := by decide +kernel
theorem hdHart_rights : yHart_rights.cls = RHart ∧ yHart_rights.cls ≠ "java/lang/invoke/MethodHandle" ∧ yHart_rights.cls ≠ "java/lang/invoke/VarHandle" ∧ (parseMethodDescriptor yHart_rights.desc).map (fun d => d.parameters.length) = some 2 := by decide +kernel
theorem hdHart_set : yHart_set.cls = RHart ∧ yHart_set.cls ≠ "java/lang/invoke/MethodHandle" ∧ yHart_set.cls ≠ "java/lang/invoke/VarHandle" ∧ (parseMethodDescriptor yHart_set.desc).map (fun d => d.parameters.length) = some 2 := by decide +kernel
theorem hdHart_register : yHart_register.cls = RHart ∧ yHart_register.cls ≠ "java/lang/invoke/MethodHandle" ∧ yHart_register.cls ≠ "java/lang/invoke/VarHandle" ∧ (parseMethodDescriptor yHart_register.desc).map (fun d => d.parameters.length) = some 1 := by decide +kernel
theorem hdHart_jump : yHart_jump.cls = RHart ∧ yHart_jump.cls ≠ "java/lang/invoke/MethodHandle" ∧ yHart_jump.cls ≠ "java/lang/invoke/VarHandle" ∧ (parseMethodDescriptor yHart_jump.desc).map (fun d => d.parameters.length) = some 1 := by decide +kernel
theorem hdHart_clock : yHart_clock.cls = RHart ∧ yHart_clock.cls ≠ "java/lang/invoke/MethodHandle" ∧ yHart_clock.cls ≠ "java/lang/invoke/VarHandle" ∧ (parseMethodDescriptor yHart_clock.desc).map (fun d => d.parameters.length) = some 1 := by decide +kernel
theorem hdHart_step : yHart_step.cls = RHart ∧ yHart_step.cls ≠ "java/lang/invoke/MethodHandle" ∧ yHart_step.cls ≠ "java/lang/invoke/VarHandle" ∧ (parseMethodDescriptor yHart_step.desc).map (fun d => d.parameters.length) = some 0 := by decide +kernel
theorem hdHart_run : yHart_run.cls = RHart ∧ yHart_run.cls ≠ "java/lang/invoke/MethodHandle" ∧ yHart_run.cls ≠ "java/lang/invoke/VarHandle" ∧ (parseMethodDescriptor yHart_run.desc).map (fun d => d.parameters.length) = some 1 := by decide +kernel
theorem hdHart_count : yHart_count.cls = RHart ∧ yHart_count.cls ≠ "java/lang/invoke/MethodHandle" ∧ yHart_count.cls ≠ "java/lang/invoke/VarHandle" ∧ (parseMethodDescriptor yHart_count.desc).map (fun d => d.parameters.length) = some 1 := by decide +kernel
theorem hdHart_carryOutNext : yHart_carryOutNext.cls = RHart ∧ yHart_carryOutNext.cls ≠ "java/lang/invoke/MethodHandle" ∧ yHart_carryOutNext.cls ≠ "java/lang/invoke/VarHandle" ∧ (parseMethodDescriptor yHart_carryOutNext.desc).map (fun d => d.parameters.length) = some 0 := by decide +kernel
theorem hdHart_longFrom : yHart_longFrom.cls = RHart ∧ yHart_longFrom.cls ≠ "java/lang/invoke/MethodHandle" ∧ yHart_longFrom.cls ≠ "java/lang/invoke/VarHandle" ∧ (parseMethodDescriptor yHart_longFrom.desc).map (fun d => d.parameters.length) = some 1 := by decide +kernel
theorem hdHart_trap : yHart_trap.cls = RHart ∧ yHart_trap.cls ≠ "java/lang/invoke/MethodHandle" ∧ yHart_trap.cls ≠ "java/lang/invoke/VarHandle" ∧ (parseMethodDescriptor yHart_trap.desc).map (fun d => d.parameters.length) = some 2 := by decide +kernel
theorem hdHart_give : yHart_give.cls = RHart ∧ yHart_give.cls ≠ "java/lang/invoke/MethodHandle" ∧ yHart_give.cls ≠ "java/lang/invoke/VarHandle" ∧ (parseMethodDescriptor yHart_give.desc).map (fun d => d.parameters.length) = some 2 := by decide +kernel
theorem hdHart_linkAndJump : yHart_linkAndJump.cls = RHart ∧ yHart_linkAndJump.cls ≠ "java/lang/invoke/MethodHandle" ∧ yHart_linkAndJump.cls ≠ "java/lang/invoke/VarHandle" ∧ (parseMethodDescriptor yHart_linkAndJump.desc).map (fun d => d.parameters.length) = some 2 := by decide +kernel
theorem hdHart_jumpIf : yHart_jumpIf.cls = RHart ∧ yHart_jumpIf.cls ≠ "java/lang/invoke/MethodHandle" ∧ yHart_jumpIf.cls ≠ "java/lang/invoke/VarHandle" ∧ (parseMethodDescriptor yHart_jumpIf.desc).map (fun d => d.parameters.length) = some 2 := by decide +kernel
theorem hdHart_load : yHart_load.cls = RHart ∧ yHart_load.cls ≠ "java/lang/invoke/MethodHandle" ∧ yHart_load.cls ≠ "java/lang/invoke/VarHandle" ∧ (parseMethodDescriptor yHart_load.desc).map (fun d => d.parameters.length) = some 3 := by decide +kernel
theorem hdHart_store : yHart_store.cls = RHart ∧ yHart_store.cls ≠ "java/lang/invoke/MethodHandle" ∧ yHart_store.cls ≠ "java/lang/invoke/VarHandle" ∧ (parseMethodDescriptor yHart_store.desc).map (fun d => d.parameters.length) = some 3 := by decide +kernel
theorem hdHart_carryOutLong : yHart_carryOutLong.cls = RHart ∧ yHart_carryOutLong.cls ≠ "java/lang/invoke/MethodHandle" ∧ yHart_carryOutLong.cls ≠ "java/lang/invoke/VarHandle" ∧ (parseMethodDescriptor yHart_carryOutLong.desc).map (fun d => d.parameters.length) = some 1 := by decide +kernel
theorem hdHart_longJumpToRegister : yHart_longJumpToRegister.cls = RHart ∧ yHart_longJumpToRegister.cls ≠ "java/lang/invoke/MethodHandle" ∧ yHart_longJumpToRegister.cls ≠ "java/lang/invoke/VarHandle" ∧ (parseMethodDescriptor yHart_longJumpToRegister.desc).map (fun d => d.parameters.length) = some 1 := by decide +kernel
theorem hdHart_longBranch : yHart_longBranch.cls = RHart ∧ yHart_longBranch.cls ≠ "java/lang/invoke/MethodHandle" ∧ yHart_longBranch.cls ≠ "java/lang/invoke/VarHandle" ∧ (parseMethodDescriptor yHart_longBranch.desc).map (fun d => d.parameters.length) = some 1 := by decide +kernel
theorem hdHart_longLoad : yHart_longLoad.cls = RHart ∧ yHart_longLoad.cls ≠ "java/lang/invoke/MethodHandle" ∧ yHart_longLoad.cls ≠ "java/lang/invoke/VarHandle" ∧ (parseMethodDescriptor yHart_longLoad.desc).map (fun d => d.parameters.length) = some 1 := by decide +kernel
theorem hdHart_longStore : yHart_longStore.cls = RHart ∧ yHart_longStore.cls ≠ "java/lang/invoke/MethodHandle" ∧ yHart_longStore.cls ≠ "java/lang/invoke/VarHandle" ∧ (parseMethodDescriptor yHart_longStore.desc).map (fun d => d.parameters.length) = some 1 := by decide +kernel
theorem hdHart_longWithNumber : yHart_longWithNumber.cls = RHart ∧ yHart_longWithNumber.cls ≠ "java/lang/invoke/MethodHandle" ∧ yHart_longWithNumber.cls ≠ "java/lang/invoke/VarHandle" ∧ (parseMethodDescriptor yHart_longWithNumber.desc).map (fun d => d.parameters.length) = some 1 := by decide +kernel
theorem hdHart_longWithRegisters : yHart_longWithRegisters.cls = RHart ∧ yHart_longWithRegisters.cls ≠ "java/lang/invoke/MethodHandle" ∧ yHart_longWithRegisters.cls ≠ "java/lang/invoke/VarHandle" ∧ (parseMethodDescriptor yHart_longWithRegisters.desc).map (fun d => d.parameters.length) = some 1 := by decide +kernel
theorem hdHart_longAtomic : yHart_longAtomic.cls = RHart ∧ yHart_longAtomic.cls ≠ "java/lang/invoke/MethodHandle" ∧ yHart_longAtomic.cls ≠ "java/lang/invoke/VarHandle" ∧ (parseMethodDescriptor yHart_longAtomic.desc).map (fun d => d.parameters.length) = some 1 := by decide +kernel
theorem hdHart_loadReserved : yHart_loadReserved.cls = RHart ∧ yHart_loadReserved.cls ≠ "java/lang/invoke/MethodHandle" ∧ yHart_loadReserved.cls ≠ "java/lang/invoke/VarHandle" ∧ (parseMethodDescriptor yHart_loadReserved.desc).map (fun d => d.parameters.length) = some 2 := by decide +kernel
theorem hdHart_storeConditional : yHart_storeConditional.cls = RHart ∧ yHart_storeConditional.cls ≠ "java/lang/invoke/MethodHandle" ∧ yHart_storeConditional.cls ≠ "java/lang/invoke/VarHandle" ∧ (parseMethodDescriptor yHart_storeConditional.desc).map (fun d => d.parameters.length) = some 3 := by decide +kernel
theorem hdHart_change : yHart_change.cls = RHart ∧ yHart_change.cls ≠ "java/lang/invoke/MethodHandle" ∧ yHart_change.cls ≠ "java/lang/invoke/VarHandle" ∧ (parseMethodDescriptor yHart_change.desc).map (fun d => d.parameters.length) = some 4 := by decide +kernel
theorem hdHart_longSystem : yHart_longSystem.cls = RHart ∧ yHart_longSystem.cls ≠ "java/lang/invoke/MethodHandle" ∧ yHart_longSystem.cls ≠ "java/lang/invoke/VarHandle" ∧ (parseMethodDescriptor yHart_longSystem.desc).map (fun d => d.parameters.length) = some 1 := by decide +kernel
theorem hdHart_readCounter : yHart_readCounter.cls = RHart ∧ yHart_readCounter.cls ≠ "java/lang/invoke/MethodHandle" ∧ yHart_readCounter.cls ≠ "java/lang/invoke/VarHandle" ∧ (parseMethodDescriptor yHart_readCounter.desc).map (fun d => d.parameters.length) = some 1 := by decide +kernel
theorem hdHart_carryOutShort : yHart_carryOutShort.cls = RHart ∧ yHart_carryOutShort.cls ≠ "java/lang/invoke/MethodHandle" ∧ yHart_carryOutShort.cls ≠ "java/lang/invoke/VarHandle" ∧ (parseMethodDescriptor yHart_carryOutShort.desc).map (fun d => d.parameters.length) = some 1 := by decide +kernel
theorem hdHart_shortOfQ0 : yHart_shortOfQ0.cls = RHart ∧ yHart_shortOfQ0.cls ≠ "java/lang/invoke/MethodHandle" ∧ yHart_shortOfQ0.cls ≠ "java/lang/invoke/VarHandle" ∧ (parseMethodDescriptor yHart_shortOfQ0.desc).map (fun d => d.parameters.length) = some 1 := by decide +kernel
theorem hdHart_shortOfQ1 : yHart_shortOfQ1.cls = RHart ∧ yHart_shortOfQ1.cls ≠ "java/lang/invoke/MethodHandle" ∧ yHart_shortOfQ1.cls ≠ "java/lang/invoke/VarHandle" ∧ (parseMethodDescriptor yHart_shortOfQ1.desc).map (fun d => d.parameters.length) = some 1 := by decide +kernel
theorem hdHart_shortMoveStack : yHart_shortMoveStack.cls = RHart ∧ yHart_shortMoveStack.cls ≠ "java/lang/invoke/MethodHandle" ∧ yHart_shortMoveStack.cls ≠ "java/lang/invoke/VarHandle" ∧ (parseMethodDescriptor yHart_shortMoveStack.desc).map (fun d => d.parameters.length) = some 1 := by decide +kernel
theorem hdHart_shortUpperNumber : yHart_shortUpperNumber.cls = RHart ∧ yHart_shortUpperNumber.cls ≠ "java/lang/invoke/MethodHandle" ∧ yHart_shortUpperNumber.cls ≠ "java/lang/invoke/VarHandle" ∧ (parseMethodDescriptor yHart_shortUpperNumber.desc).map (fun d => d.parameters.length) = some 1 := by decide +kernel
theorem hdHart_shortArithmetic : yHart_shortArithmetic.cls = RHart ∧ yHart_shortArithmetic.cls ≠ "java/lang/invoke/MethodHandle" ∧ yHart_shortArithmetic.cls ≠ "java/lang/invoke/VarHandle" ∧ (parseMethodDescriptor yHart_shortArithmetic.desc).map (fun d => d.parameters.length) = some 1 := by decide +kernel
theorem hdHart_shortOfQ2 : yHart_shortOfQ2.cls = RHart ∧ yHart_shortOfQ2.cls ≠ "java/lang/invoke/MethodHandle" ∧ yHart_shortOfQ2.cls ≠ "java/lang/invoke/VarHandle" ∧ (parseMethodDescriptor yHart_shortOfQ2.desc).map (fun d => d.parameters.length) = some 1 := by decide +kernel
theorem hdHart_shortJumpToRegister : yHart_shortJumpToRegister.cls = RHart ∧ yHart_shortJumpToRegister.cls ≠ "java/lang/invoke/MethodHandle" ∧ yHart_shortJumpToRegister.cls ≠ "java/lang/invoke/VarHandle" ∧ (parseMethodDescriptor yHart_shortJumpToRegister.desc).map (fun d => d.parameters.length) = some 1 := by decide +kernel
theorem hdHart_shortMoveOrAdd : yHart_shortMoveOrAdd.cls = RHart ∧ yHart_shortMoveOrAdd.cls ≠ "java/lang/invoke/MethodHandle" ∧ yHart_shortMoveOrAdd.cls ≠ "java/lang/invoke/VarHandle" ∧ (parseMethodDescriptor yHart_shortMoveOrAdd.desc).map (fun d => d.parameters.length) = some 1 := by decide +kernel
theorem hdMod_init : yMod_init.cls = RMod ∧ yMod_init.cls ≠ "java/lang/invoke/MethodHandle" ∧ yMod_init.cls ≠ "java/lang/invoke/VarHandle" ∧ (parseMethodDescriptor yMod_init.desc).map (fun d => d.parameters.length) = some 0 := by decide +kernel
theorem hdMod_thrown : yMod_thrown.cls = RMod ∧ yMod_thrown.cls ≠ "java/lang/invoke/MethodHandle" ∧ yMod_thrown.cls ≠ "java/lang/invoke/VarHandle" ∧ (parseMethodDescriptor yMod_thrown.desc).map (fun d => d.parameters.length) = some 0 := by decide +kernel
theorem hdMod_in : yMod_in.cls = RMod ∧ yMod_in.cls ≠ "java/lang/invoke/MethodHandle" ∧ yMod_in.cls ≠ "java/lang/invoke/VarHandle" ∧ (parseMethodDescriptor yMod_in.desc).map (fun d => d.parameters.length) = some 3 := by decide +kernel
theorem hdMod_write : yMod_write.cls = RMod ∧ yMod_write.cls ≠ "java/lang/invoke/MethodHandle" ∧ yMod_write.cls ≠ "java/lang/invoke/VarHandle" ∧ (parseMethodDescriptor yMod_write.desc).map (fun d => d.parameters.length) = some 2 := by decide +kernel
theorem hdMod_poke : yMod_poke.cls = RMod ∧ yMod_poke.cls ≠ "java/lang/invoke/MethodHandle" ∧ yMod_poke.cls ≠ "java/lang/invoke/VarHandle" ∧ (parseMethodDescriptor yMod_poke.desc).map (fun d => d.parameters.length) = some 2 := by decide +kernel
theorem hdMod_plant : yMod_plant.cls = RMod ∧ yMod_plant.cls ≠ "java/lang/invoke/MethodHandle" ∧ yMod_plant.cls ≠ "java/lang/invoke/VarHandle" ∧ (parseMethodDescriptor yMod_plant.desc).map (fun d => d.parameters.length) = some 2 := by decide +kernel
theorem hdMod_peek : yMod_peek.cls = RMod ∧ yMod_peek.cls ≠ "java/lang/invoke/MethodHandle" ∧ yMod_peek.cls ≠ "java/lang/invoke/VarHandle" ∧ (parseMethodDescriptor yMod_peek.desc).map (fun d => d.parameters.length) = some 1 := by decide +kernel
theorem hdMod_rights : yMod_rights.cls = RMod ∧ yMod_rights.cls ≠ "java/lang/invoke/MethodHandle" ∧ yMod_rights.cls ≠ "java/lang/invoke/VarHandle" ∧ (parseMethodDescriptor yMod_rights.desc).map (fun d => d.parameters.length) = some 2 := by decide +kernel
theorem hdMod_set : yMod_set.cls = RMod ∧ yMod_set.cls ≠ "java/lang/invoke/MethodHandle" ∧ yMod_set.cls ≠ "java/lang/invoke/VarHandle" ∧ (parseMethodDescriptor yMod_set.desc).map (fun d => d.parameters.length) = some 2 := by decide +kernel
theorem hdMod_register : yMod_register.cls = RMod ∧ yMod_register.cls ≠ "java/lang/invoke/MethodHandle" ∧ yMod_register.cls ≠ "java/lang/invoke/VarHandle" ∧ (parseMethodDescriptor yMod_register.desc).map (fun d => d.parameters.length) = some 1 := by decide +kernel
theorem hdMod_jump : yMod_jump.cls = RMod ∧ yMod_jump.cls ≠ "java/lang/invoke/MethodHandle" ∧ yMod_jump.cls ≠ "java/lang/invoke/VarHandle" ∧ (parseMethodDescriptor yMod_jump.desc).map (fun d => d.parameters.length) = some 1 := by decide +kernel
theorem hdMod_clock : yMod_clock.cls = RMod ∧ yMod_clock.cls ≠ "java/lang/invoke/MethodHandle" ∧ yMod_clock.cls ≠ "java/lang/invoke/VarHandle" ∧ (parseMethodDescriptor yMod_clock.desc).map (fun d => d.parameters.length) = some 1 := by decide +kernel
theorem hdMod_part : yMod_part.cls = RMod ∧ yMod_part.cls ≠ "java/lang/invoke/MethodHandle" ∧ yMod_part.cls ≠ "java/lang/invoke/VarHandle" ∧ (parseMethodDescriptor yMod_part.desc).map (fun d => d.parameters.length) = some 3 := by decide +kernel
theorem hdMod_bit : yMod_bit.cls = RMod ∧ yMod_bit.cls ≠ "java/lang/invoke/MethodHandle" ∧ yMod_bit.cls ≠ "java/lang/invoke/VarHandle" ∧ (parseMethodDescriptor yMod_bit.desc).map (fun d => d.parameters.length) = some 4 := by decide +kernel
theorem hdMod_signed : yMod_signed.cls = RMod ∧ yMod_signed.cls ≠ "java/lang/invoke/MethodHandle" ∧ yMod_signed.cls ≠ "java/lang/invoke/VarHandle" ∧ (parseMethodDescriptor yMod_signed.desc).map (fun d => d.parameters.length) = some 2 := by decide +kernel
theorem hdMod_immediate : yMod_immediate.cls = RMod ∧ yMod_immediate.cls ≠ "java/lang/invoke/MethodHandle" ∧ yMod_immediate.cls ≠ "java/lang/invoke/VarHandle" ∧ (parseMethodDescriptor yMod_immediate.desc).map (fun d => d.parameters.length) = some 5 := by decide +kernel
theorem hdMod_registers : yMod_registers.cls = RMod ∧ yMod_registers.cls ≠ "java/lang/invoke/MethodHandle" ∧ yMod_registers.cls ≠ "java/lang/invoke/VarHandle" ∧ (parseMethodDescriptor yMod_registers.desc).map (fun d => d.parameters.length) = some 5 := by decide +kernel
theorem hdMod_store : yMod_store.cls = RMod ∧ yMod_store.cls ≠ "java/lang/invoke/MethodHandle" ∧ yMod_store.cls ≠ "java/lang/invoke/VarHandle" ∧ (parseMethodDescriptor yMod_store.desc).map (fun d => d.parameters.length) = some 3 := by decide +kernel
theorem hdMod_link : yMod_link.cls = RMod ∧ yMod_link.cls ≠ "java/lang/invoke/MethodHandle" ∧ yMod_link.cls ≠ "java/lang/invoke/VarHandle" ∧ (parseMethodDescriptor yMod_link.desc).map (fun d => d.parameters.length) = some 2 := by decide +kernel
theorem hdMod_branch : yMod_branch.cls = RMod ∧ yMod_branch.cls ≠ "java/lang/invoke/MethodHandle" ∧ yMod_branch.cls ≠ "java/lang/invoke/VarHandle" ∧ (parseMethodDescriptor yMod_branch.desc).map (fun d => d.parameters.length) = some 3 := by decide +kernel
theorem hdMod_expand : yMod_expand.cls = RMod ∧ yMod_expand.cls ≠ "java/lang/invoke/MethodHandle" ∧ yMod_expand.cls ≠ "java/lang/invoke/VarHandle" ∧ (parseMethodDescriptor yMod_expand.desc).map (fun d => d.parameters.length) = some 1 := by decide +kernel
theorem hdMod_zero : yMod_zero.cls = RMod ∧ yMod_zero.cls ≠ "java/lang/invoke/MethodHandle" ∧ yMod_zero.cls ≠ "java/lang/invoke/VarHandle" ∧ (parseMethodDescriptor yMod_zero.desc).map (fun d => d.parameters.length) = some 2 := by decide +kernel
theorem hdMod_one : yMod_one.cls = RMod ∧ yMod_one.cls ≠ "java/lang/invoke/MethodHandle" ∧ yMod_one.cls ≠ "java/lang/invoke/VarHandle" ∧ (parseMethodDescriptor yMod_one.desc).map (fun d => d.parameters.length) = some 2 := by decide +kernel
theorem hdMod_four : yMod_four.cls = RMod ∧ yMod_four.cls ≠ "java/lang/invoke/MethodHandle" ∧ yMod_four.cls ≠ "java/lang/invoke/VarHandle" ∧ (parseMethodDescriptor yMod_four.desc).map (fun d => d.parameters.length) = some 2 := by decide +kernel
theorem hdMod_two : yMod_two.cls = RMod ∧ yMod_two.cls ≠ "java/lang/invoke/MethodHandle" ∧ yMod_two.cls ≠ "java/lang/invoke/VarHandle" ∧ (parseMethodDescriptor yMod_two.desc).map (fun d => d.parameters.length) = some 2 := by decide +kernel
theorem hdMod_trap : yMod_trap.cls = RMod ∧ yMod_trap.cls ≠ "java/lang/invoke/MethodHandle" ∧ yMod_trap.cls ≠ "java/lang/invoke/VarHandle" ∧ (parseMethodDescriptor yMod_trap.desc).map (fun d => d.parameters.length) = some 2 := by decide +kernel
theorem hdMod_illegal : yMod_illegal.cls = RMod ∧ yMod_illegal.cls ≠ "java/lang/invoke/MethodHandle" ∧ yMod_illegal.cls ≠ "java/lang/invoke/VarHandle" ∧ (parseMethodDescriptor yMod_illegal.desc).map (fun d => d.parameters.length) = some 0 := by decide +kernel
theorem hdMod_may : yMod_may.cls = RMod ∧ yMod_may.cls ≠ "java/lang/invoke/MethodHandle" ∧ yMod_may.cls ≠ "java/lang/invoke/VarHandle" ∧ (parseMethodDescriptor yMod_may.desc).map (fun d => d.parameters.length) = some 2 := by decide +kernel
theorem hdMod_half : yMod_half.cls = RMod ∧ yMod_half.cls ≠ "java/lang/invoke/MethodHandle" ∧ yMod_half.cls ≠ "java/lang/invoke/VarHandle" ∧ (parseMethodDescriptor yMod_half.desc).map (fun d => d.parameters.length) = some 1 := by decide +kernel
theorem hdMod_fetches : yMod_fetches.cls = RMod ∧ yMod_fetches.cls ≠ "java/lang/invoke/MethodHandle" ∧ yMod_fetches.cls ≠ "java/lang/invoke/VarHandle" ∧ (parseMethodDescriptor yMod_fetches.desc).map (fun d => d.parameters.length) = some 1 := by decide +kernel
theorem hdMod_step : yMod_step.cls = RMod ∧ yMod_step.cls ≠ "java/lang/invoke/MethodHandle" ∧ yMod_step.cls ≠ "java/lang/invoke/VarHandle" ∧ (parseMethodDescriptor yMod_step.desc).map (fun d => d.parameters.length) = some 0 := by decide +kernel
theorem hdMod_give : yMod_give.cls = RMod ∧ yMod_give.cls ≠ "java/lang/invoke/MethodHandle" ∧ yMod_give.cls ≠ "java/lang/invoke/VarHandle" ∧ (parseMethodDescriptor yMod_give.desc).map (fun d => d.parameters.length) = some 2 := by decide +kernel
theorem hdMod_carry : yMod_carry.cls = RMod ∧ yMod_carry.cls ≠ "java/lang/invoke/MethodHandle" ∧ yMod_carry.cls ≠ "java/lang/invoke/VarHandle" ∧ (parseMethodDescriptor yMod_carry.desc).map (fun d => d.parameters.length) = some 1 := by decide +kernel
theorem hdMod_decide : yMod_decide.cls = RMod ∧ yMod_decide.cls ≠ "java/lang/invoke/MethodHandle" ∧ yMod_decide.cls ≠ "java/lang/invoke/VarHandle" ∧ (parseMethodDescriptor yMod_decide.desc).map (fun d => d.parameters.length) = some 4 := by decide +kernel
theorem hdMod_reckoned : yMod_reckoned.cls = RMod ∧ yMod_reckoned.cls ≠ "java/lang/invoke/MethodHandle" ∧ yMod_reckoned.cls ≠ "java/lang/invoke/VarHandle" ∧ (parseMethodDescriptor yMod_reckoned.desc).map (fun d => d.parameters.length) = some 3 := by decide +kernel
theorem hdMod_shifted : yMod_shifted.cls = RMod ∧ yMod_shifted.cls ≠ "java/lang/invoke/MethodHandle" ∧ yMod_shifted.cls ≠ "java/lang/invoke/VarHandle" ∧ (parseMethodDescriptor yMod_shifted.desc).map (fun d => d.parameters.length) = some 4 := by decide +kernel
theorem hdMod_multiplied : yMod_multiplied.cls = RMod ∧ yMod_multiplied.cls ≠ "java/lang/invoke/MethodHandle" ∧ yMod_multiplied.cls ≠ "java/lang/invoke/VarHandle" ∧ (parseMethodDescriptor yMod_multiplied.desc).map (fun d => d.parameters.length) = some 3 := by decide +kernel
theorem hdMod_load : yMod_load.cls = RMod ∧ yMod_load.cls ≠ "java/lang/invoke/MethodHandle" ∧ yMod_load.cls ≠ "java/lang/invoke/VarHandle" ∧ (parseMethodDescriptor yMod_load.desc).map (fun d => d.parameters.length) = some 2 := by decide +kernel
theorem hdMod_put : yMod_put.cls = RMod ∧ yMod_put.cls ≠ "java/lang/invoke/MethodHandle" ∧ yMod_put.cls ≠ "java/lang/invoke/VarHandle" ∧ (parseMethodDescriptor yMod_put.desc).map (fun d => d.parameters.length) = some 3 := by decide +kernel
theorem hdMod_atomic : yMod_atomic.cls = RMod ∧ yMod_atomic.cls ≠ "java/lang/invoke/MethodHandle" ∧ yMod_atomic.cls ≠ "java/lang/invoke/VarHandle" ∧ (parseMethodDescriptor yMod_atomic.desc).map (fun d => d.parameters.length) = some 5 := by decide +kernel
theorem hdMod_changed : yMod_changed.cls = RMod ∧ yMod_changed.cls ≠ "java/lang/invoke/MethodHandle" ∧ yMod_changed.cls ≠ "java/lang/invoke/VarHandle" ∧ (parseMethodDescriptor yMod_changed.desc).map (fun d => d.parameters.length) = some 3 := by decide +kernel
theorem hdMod_system : yMod_system.cls = RMod ∧ yMod_system.cls ≠ "java/lang/invoke/MethodHandle" ∧ yMod_system.cls ≠ "java/lang/invoke/VarHandle" ∧ (parseMethodDescriptor yMod_system.desc).map (fun d => d.parameters.length) = some 2 := by decide +kernel
theorem hdMod_run : yMod_run.cls = RMod ∧ yMod_run.cls ≠ "java/lang/invoke/MethodHandle" ∧ yMod_run.cls ≠ "java/lang/invoke/VarHandle" ∧ (parseMethodDescriptor yMod_run.desc).map (fun d => d.parameters.length) = some 1 := by decide +kernel
theorem hdMod_count : yMod_count.cls = RMod ∧ yMod_count.cls ≠ "java/lang/invoke/MethodHandle" ∧ yMod_count.cls ≠ "java/lang/invoke/VarHandle" ∧ (parseMethodDescriptor yMod_count.desc).map (fun d => d.parameters.length) = some 1 := by decide +kernel
theorem hdAr_isBelow : yAr_isBelow.cls = RAr ∧ yAr_isBelow.cls ≠ "java/lang/invoke/MethodHandle" ∧ yAr_isBelow.cls ≠ "java/lang/invoke/VarHandle" ∧ (parseMethodDescriptor yAr_isBelow.desc).map (fun d => d.parameters.length) = some 2 := by decide +kernel
theorem hdAr_plain : yAr_plain.cls = RAr ∧ yAr_plain.cls ≠ "java/lang/invoke/MethodHandle" ∧ yAr_plain.cls ≠ "java/lang/invoke/VarHandle" ∧ (parseMethodDescriptor yAr_plain.desc).map (fun d => d.parameters.length) = some 3 := by decide +kernel
theorem hdAr_multipliedOrDivided : yAr_multipliedOrDivided.cls = RAr ∧ yAr_multipliedOrDivided.cls ≠ "java/lang/invoke/MethodHandle" ∧ yAr_multipliedOrDivided.cls ≠ "java/lang/invoke/VarHandle" ∧ (parseMethodDescriptor yAr_multipliedOrDivided.desc).map (fun d => d.parameters.length) = some 3 := by decide +kernel
theorem hdAr_quotient : yAr_quotient.cls = RAr ∧ yAr_quotient.cls ≠ "java/lang/invoke/MethodHandle" ∧ yAr_quotient.cls ≠ "java/lang/invoke/VarHandle" ∧ (parseMethodDescriptor yAr_quotient.desc).map (fun d => d.parameters.length) = some 2 := by decide +kernel
theorem hdAr_remainder : yAr_remainder.cls = RAr ∧ yAr_remainder.cls ≠ "java/lang/invoke/MethodHandle" ∧ yAr_remainder.cls ≠ "java/lang/invoke/VarHandle" ∧ (parseMethodDescriptor yAr_remainder.desc).map (fun d => d.parameters.length) = some 2 := by decide +kernel
theorem hdAr_ofTwoNear : yAr_ofTwoNear.cls = RAr ∧ yAr_ofTwoNear.cls ≠ "java/lang/invoke/MethodHandle" ∧ yAr_ofTwoNear.cls ≠ "java/lang/invoke/VarHandle" ∧ (parseMethodDescriptor yAr_ofTwoNear.desc).map (fun d => d.parameters.length) = some 3 := by decide +kernel
theorem hdAr_changed : yAr_changed.cls = RAr ∧ yAr_changed.cls ≠ "java/lang/invoke/MethodHandle" ∧ yAr_changed.cls ≠ "java/lang/invoke/VarHandle" ∧ (parseMethodDescriptor yAr_changed.desc).map (fun d => d.parameters.length) = some 3 := by decide +kernel
theorem hdBits_part : yBits_part.cls = RBits ∧ yBits_part.cls ≠ "java/lang/invoke/MethodHandle" ∧ yBits_part.cls ≠ "java/lang/invoke/VarHandle" ∧ (parseMethodDescriptor yBits_part.desc).map (fun d => d.parameters.length) = some 3 := by decide +kernel
theorem hdBits_signed : yBits_signed.cls = RBits ∧ yBits_signed.cls ≠ "java/lang/invoke/MethodHandle" ∧ yBits_signed.cls ≠ "java/lang/invoke/VarHandle" ∧ (parseMethodDescriptor yBits_signed.desc).map (fun d => d.parameters.length) = some 2 := by decide +kernel
theorem hdLF_d : yLF_d.cls = RLF ∧ yLF_d.cls ≠ "java/lang/invoke/MethodHandle" ∧ yLF_d.cls ≠ "java/lang/invoke/VarHandle" ∧ (parseMethodDescriptor yLF_d.desc).map (fun d => d.parameters.length) = some 1 := by decide +kernel
theorem hdLF_f : yLF_f.cls = RLF ∧ yLF_f.cls ≠ "java/lang/invoke/MethodHandle" ∧ yLF_f.cls ≠ "java/lang/invoke/VarHandle" ∧ (parseMethodDescriptor yLF_f.desc).map (fun d => d.parameters.length) = some 1 := by decide +kernel
theorem hdLF_a : yLF_a.cls = RLF ∧ yLF_a.cls ≠ "java/lang/invoke/MethodHandle" ∧ yLF_a.cls ≠ "java/lang/invoke/VarHandle" ∧ (parseMethodDescriptor yLF_a.desc).map (fun d => d.parameters.length) = some 1 := by decide +kernel
theorem hdLF_b : yLF_b.cls = RLF ∧ yLF_b.cls ≠ "java/lang/invoke/MethodHandle" ∧ yLF_b.cls ≠ "java/lang/invoke/VarHandle" ∧ (parseMethodDescriptor yLF_b.desc).map (fun d => d.parameters.length) = some 1 := by decide +kernel
theorem hdLF_g : yLF_g.cls = RLF ∧ yLF_g.cls ≠ "java/lang/invoke/MethodHandle" ∧ yLF_g.cls ≠ "java/lang/invoke/VarHandle" ∧ (parseMethodDescriptor yLF_g.desc).map (fun d => d.parameters.length) = some 1 := by decide +kernel
theorem hdLF_k : yLF_k.cls = RLF ∧ yLF_k.cls ≠ "java/lang/invoke/MethodHandle" ∧ yLF_k.cls ≠ "java/lang/invoke/VarHandle" ∧ (parseMethodDescriptor yLF_k.desc).map (fun d => d.parameters.length) = some 1 := by decide +kernel
theorem hdLF_numberI : yLF_numberI.cls = RLF ∧ yLF_numberI.cls ≠ "java/lang/invoke/MethodHandle" ∧ yLF_numberI.cls ≠ "java/lang/invoke/VarHandle" ∧ (parseMethodDescriptor yLF_numberI.desc).map (fun d => d.parameters.length) = some 1 := by decide +kernel
theorem hdLF_numberS : yLF_numberS.cls = RLF ∧ yLF_numberS.cls ≠ "java/lang/invoke/MethodHandle" ∧ yLF_numberS.cls ≠ "java/lang/invoke/VarHandle" ∧ (parseMethodDescriptor yLF_numberS.desc).map (fun d => d.parameters.length) = some 1 := by decide +kernel
theorem hdLF_upperNumber : yLF_upperNumber.cls = RLF ∧ yLF_upperNumber.cls ≠ "java/lang/invoke/MethodHandle" ∧ yLF_upperNumber.cls ≠ "java/lang/invoke/VarHandle" ∧ (parseMethodDescriptor yLF_upperNumber.desc).map (fun d => d.parameters.length) = some 1 := by decide +kernel
theorem hdLF_offsetJ : yLF_offsetJ.cls = RLF ∧ yLF_offsetJ.cls ≠ "java/lang/invoke/MethodHandle" ∧ yLF_offsetJ.cls ≠ "java/lang/invoke/VarHandle" ∧ (parseMethodDescriptor yLF_offsetJ.desc).map (fun d => d.parameters.length) = some 1 := by decide +kernel
theorem hdLF_offsetT : yLF_offsetT.cls = RLF ∧ yLF_offsetT.cls ≠ "java/lang/invoke/MethodHandle" ∧ yLF_offsetT.cls ≠ "java/lang/invoke/VarHandle" ∧ (parseMethodDescriptor yLF_offsetT.desc).map (fun d => d.parameters.length) = some 1 := by decide +kernel
theorem hdLF_isAtomic : yLF_isAtomic.cls = RLF ∧ yLF_isAtomic.cls ≠ "java/lang/invoke/MethodHandle" ∧ yLF_isAtomic.cls ≠ "java/lang/invoke/VarHandle" ∧ (parseMethodDescriptor yLF_isAtomic.desc).map (fun d => d.parameters.length) = some 1 := by decide +kernel
theorem hdMem_init : yMem_init.cls = RMem ∧ yMem_init.cls ≠ "java/lang/invoke/MethodHandle" ∧ yMem_init.cls ≠ "java/lang/invoke/VarHandle" ∧ (parseMethodDescriptor yMem_init.desc).map (fun d => d.parameters.length) = some 0 := by decide +kernel
theorem hdMem_holds : yMem_holds.cls = RMem ∧ yMem_holds.cls ≠ "java/lang/invoke/MethodHandle" ∧ yMem_holds.cls ≠ "java/lang/invoke/VarHandle" ∧ (parseMethodDescriptor yMem_holds.desc).map (fun d => d.parameters.length) = some 1 := by decide +kernel
theorem hdMem_isMisaligned : yMem_isMisaligned.cls = RMem ∧ yMem_isMisaligned.cls ≠ "java/lang/invoke/MethodHandle" ∧ yMem_isMisaligned.cls ≠ "java/lang/invoke/VarHandle" ∧ (parseMethodDescriptor yMem_isMisaligned.desc).map (fun d => d.parameters.length) = some 2 := by decide +kernel
theorem hdMem_allows : yMem_allows.cls = RMem ∧ yMem_allows.cls ≠ "java/lang/invoke/MethodHandle" ∧ yMem_allows.cls ≠ "java/lang/invoke/VarHandle" ∧ (parseMethodDescriptor yMem_allows.desc).map (fun d => d.parameters.length) = some 2 := by decide +kernel
theorem hdMem_mayCarryOut : yMem_mayCarryOut.cls = RMem ∧ yMem_mayCarryOut.cls ≠ "java/lang/invoke/MethodHandle" ∧ yMem_mayCarryOut.cls ≠ "java/lang/invoke/VarHandle" ∧ (parseMethodDescriptor yMem_mayCarryOut.desc).map (fun d => d.parameters.length) = some 1 := by decide +kernel
theorem hdMem_exchangeRights : yMem_exchangeRights.cls = RMem ∧ yMem_exchangeRights.cls ≠ "java/lang/invoke/MethodHandle" ∧ yMem_exchangeRights.cls ≠ "java/lang/invoke/VarHandle" ∧ (parseMethodDescriptor yMem_exchangeRights.desc).map (fun d => d.parameters.length) = some 2 := by decide +kernel
theorem hdMem_reservedAddress : yMem_reservedAddress.cls = RMem ∧ yMem_reservedAddress.cls ≠ "java/lang/invoke/MethodHandle" ∧ yMem_reservedAddress.cls ≠ "java/lang/invoke/VarHandle" ∧ (parseMethodDescriptor yMem_reservedAddress.desc).map (fun d => d.parameters.length) = some 0 := by decide +kernel
theorem hdMem_reserve : yMem_reserve.cls = RMem ∧ yMem_reserve.cls ≠ "java/lang/invoke/MethodHandle" ∧ yMem_reserve.cls ≠ "java/lang/invoke/VarHandle" ∧ (parseMethodDescriptor yMem_reserve.desc).map (fun d => d.parameters.length) = some 1 := by decide +kernel
theorem hdMem_read : yMem_read.cls = RMem ∧ yMem_read.cls ≠ "java/lang/invoke/MethodHandle" ∧ yMem_read.cls ≠ "java/lang/invoke/VarHandle" ∧ (parseMethodDescriptor yMem_read.desc).map (fun d => d.parameters.length) = some 2 := by decide +kernel
theorem hdMem_write : yMem_write.cls = RMem ∧ yMem_write.cls ≠ "java/lang/invoke/MethodHandle" ∧ yMem_write.cls ≠ "java/lang/invoke/VarHandle" ∧ (parseMethodDescriptor yMem_write.desc).map (fun d => d.parameters.length) = some 3 := by decide +kernel
theorem hdMem_wordIndex : yMem_wordIndex.cls = RMem ∧ yMem_wordIndex.cls ≠ "java/lang/invoke/MethodHandle" ∧ yMem_wordIndex.cls ≠ "java/lang/invoke/VarHandle" ∧ (parseMethodDescriptor yMem_wordIndex.desc).map (fun d => d.parameters.length) = some 1 := by decide +kernel
theorem hdMem_shiftOf : yMem_shiftOf.cls = RMem ∧ yMem_shiftOf.cls ≠ "java/lang/invoke/MethodHandle" ∧ yMem_shiftOf.cls ≠ "java/lang/invoke/VarHandle" ∧ (parseMethodDescriptor yMem_shiftOf.desc).map (fun d => d.parameters.length) = some 1 := by decide +kernel
theorem hdMem_maskOf : yMem_maskOf.cls = RMem ∧ yMem_maskOf.cls ≠ "java/lang/invoke/MethodHandle" ∧ yMem_maskOf.cls ≠ "java/lang/invoke/VarHandle" ∧ (parseMethodDescriptor yMem_maskOf.desc).map (fun d => d.parameters.length) = some 1 := by decide +kernel
theorem hdSF_f : ySF_f.cls = RSF ∧ ySF_f.cls ≠ "java/lang/invoke/MethodHandle" ∧ ySF_f.cls ≠ "java/lang/invoke/VarHandle" ∧ (parseMethodDescriptor ySF_f.desc).map (fun d => d.parameters.length) = some 1 := by decide +kernel
theorem hdSF_bit12 : ySF_bit12.cls = RSF ∧ ySF_bit12.cls ≠ "java/lang/invoke/MethodHandle" ∧ ySF_bit12.cls ≠ "java/lang/invoke/VarHandle" ∧ (parseMethodDescriptor ySF_bit12.desc).map (fun d => d.parameters.length) = some 1 := by decide +kernel
theorem hdSF_d : ySF_d.cls = RSF ∧ ySF_d.cls ≠ "java/lang/invoke/MethodHandle" ∧ ySF_d.cls ≠ "java/lang/invoke/VarHandle" ∧ (parseMethodDescriptor ySF_d.desc).map (fun d => d.parameters.length) = some 1 := by decide +kernel
theorem hdSF_b : ySF_b.cls = RSF ∧ ySF_b.cls ≠ "java/lang/invoke/MethodHandle" ∧ ySF_b.cls ≠ "java/lang/invoke/VarHandle" ∧ (parseMethodDescriptor ySF_b.desc).map (fun d => d.parameters.length) = some 1 := by decide +kernel
theorem hdSF_lowNear : ySF_lowNear.cls = RSF ∧ ySF_lowNear.cls ≠ "java/lang/invoke/MethodHandle" ∧ ySF_lowNear.cls ≠ "java/lang/invoke/VarHandle" ∧ (parseMethodDescriptor ySF_lowNear.desc).map (fun d => d.parameters.length) = some 1 := by decide +kernel
theorem hdSF_highNear : ySF_highNear.cls = RSF ∧ ySF_highNear.cls ≠ "java/lang/invoke/MethodHandle" ∧ ySF_highNear.cls ≠ "java/lang/invoke/VarHandle" ∧ (parseMethodDescriptor ySF_highNear.desc).map (fun d => d.parameters.length) = some 1 := by decide +kernel
theorem hdSF_number : ySF_number.cls = RSF ∧ ySF_number.cls ≠ "java/lang/invoke/MethodHandle" ∧ ySF_number.cls ≠ "java/lang/invoke/VarHandle" ∧ (parseMethodDescriptor ySF_number.desc).map (fun d => d.parameters.length) = some 1 := by decide +kernel
theorem hdSF_stackNumber : ySF_stackNumber.cls = RSF ∧ ySF_stackNumber.cls ≠ "java/lang/invoke/MethodHandle" ∧ ySF_stackNumber.cls ≠ "java/lang/invoke/VarHandle" ∧ (parseMethodDescriptor ySF_stackNumber.desc).map (fun d => d.parameters.length) = some 1 := by decide +kernel
theorem hdSF_nearOffset : ySF_nearOffset.cls = RSF ∧ ySF_nearOffset.cls ≠ "java/lang/invoke/MethodHandle" ∧ ySF_nearOffset.cls ≠ "java/lang/invoke/VarHandle" ∧ (parseMethodDescriptor ySF_nearOffset.desc).map (fun d => d.parameters.length) = some 1 := by decide +kernel
theorem hdSF_offsetJ : ySF_offsetJ.cls = RSF ∧ ySF_offsetJ.cls ≠ "java/lang/invoke/MethodHandle" ∧ ySF_offsetJ.cls ≠ "java/lang/invoke/VarHandle" ∧ (parseMethodDescriptor ySF_offsetJ.desc).map (fun d => d.parameters.length) = some 1 := by decide +kernel
theorem hdSF_stackMove : ySF_stackMove.cls = RSF ∧ ySF_stackMove.cls ≠ "java/lang/invoke/MethodHandle" ∧ ySF_stackMove.cls ≠ "java/lang/invoke/VarHandle" ∧ (parseMethodDescriptor ySF_stackMove.desc).map (fun d => d.parameters.length) = some 1 := by decide +kernel
theorem hdSF_offsetT : ySF_offsetT.cls = RSF ∧ ySF_offsetT.cls ≠ "java/lang/invoke/MethodHandle" ∧ ySF_offsetT.cls ≠ "java/lang/invoke/VarHandle" ∧ (parseMethodDescriptor ySF_offsetT.desc).map (fun d => d.parameters.length) = some 1 := by decide +kernel
theorem hdSF_stackLoadOffset : ySF_stackLoadOffset.cls = RSF ∧ ySF_stackLoadOffset.cls ≠ "java/lang/invoke/MethodHandle" ∧ ySF_stackLoadOffset.cls ≠ "java/lang/invoke/VarHandle" ∧ (parseMethodDescriptor ySF_stackLoadOffset.desc).map (fun d => d.parameters.length) = some 1 := by decide +kernel
theorem hdSF_stackStoreOffset : ySF_stackStoreOffset.cls = RSF ∧ ySF_stackStoreOffset.cls ≠ "java/lang/invoke/MethodHandle" ∧ ySF_stackStoreOffset.cls ≠ "java/lang/invoke/VarHandle" ∧ (parseMethodDescriptor ySF_stackStoreOffset.desc).map (fun d => d.parameters.length) = some 1 := by decide +kernel
theorem hdLaw_poke : yLaw_poke.cls = RLaw ∧ yLaw_poke.cls ≠ "java/lang/invoke/MethodHandle" ∧ yLaw_poke.cls ≠ "java/lang/invoke/VarHandle" ∧ (parseMethodDescriptor yLaw_poke.desc).map (fun d => d.parameters.length) = some 3 := by decide +kernel
theorem hdLaw_plant : yLaw_plant.cls = RLaw ∧ yLaw_plant.cls ≠ "java/lang/invoke/MethodHandle" ∧ yLaw_plant.cls ≠ "java/lang/invoke/VarHandle" ∧ (parseMethodDescriptor yLaw_plant.desc).map (fun d => d.parameters.length) = some 3 := by decide +kernel
theorem hdLaw_peek : yLaw_peek.cls = RLaw ∧ yLaw_peek.cls ≠ "java/lang/invoke/MethodHandle" ∧ yLaw_peek.cls ≠ "java/lang/invoke/VarHandle" ∧ (parseMethodDescriptor yLaw_peek.desc).map (fun d => d.parameters.length) = some 3 := by decide +kernel
theorem hdLaw_rights : yLaw_rights.cls = RLaw ∧ yLaw_rights.cls ≠ "java/lang/invoke/MethodHandle" ∧ yLaw_rights.cls ≠ "java/lang/invoke/VarHandle" ∧ (parseMethodDescriptor yLaw_rights.desc).map (fun d => d.parameters.length) = some 4 := by decide +kernel
theorem hdLaw_set : yLaw_set.cls = RLaw ∧ yLaw_set.cls ≠ "java/lang/invoke/MethodHandle" ∧ yLaw_set.cls ≠ "java/lang/invoke/VarHandle" ∧ (parseMethodDescriptor yLaw_set.desc).map (fun d => d.parameters.length) = some 4 := by decide +kernel
theorem hdLaw_register : yLaw_register.cls = RLaw ∧ yLaw_register.cls ≠ "java/lang/invoke/MethodHandle" ∧ yLaw_register.cls ≠ "java/lang/invoke/VarHandle" ∧ (parseMethodDescriptor yLaw_register.desc).map (fun d => d.parameters.length) = some 3 := by decide +kernel
theorem hdLaw_run : yLaw_run.cls = RLaw ∧ yLaw_run.cls ≠ "java/lang/invoke/MethodHandle" ∧ yLaw_run.cls ≠ "java/lang/invoke/VarHandle" ∧ (parseMethodDescriptor yLaw_run.desc).map (fun d => d.parameters.length) = some 3 := by decide +kernel
theorem hdLaw_count : yLaw_count.cls = RLaw ∧ yLaw_count.cls ≠ "java/lang/invoke/MethodHandle" ∧ yLaw_count.cls ≠ "java/lang/invoke/VarHandle" ∧ (parseMethodDescriptor yLaw_count.desc).map (fun d => d.parameters.length) = some 3 := by decide +kernel
/-! rows of ours between the kit's and the methods': calls that change nothing, calls that change one world -/
abbrev wq (y : MethodName) (c : ByteArray) (n : Nat) (r : Option FieldType) : List Cond := Cond.code y c n r :: lw_g
theorem mk_gS {own : String} {idx : Nat} {y : MethodName} {cx cy : Cond} (h1 : Cond.methodLink own idx y ∈ lw_g) (h2 : Cond.static y ∈ lw_g) (h3 : Cond.initialized y.cls ∈ lw_g) (h4 : cy ∈ lw_g) : GoodIn (cx :: lw_g) (va_wsS own idx y (cy :: lw_g)) := by
  intro w hw
  have key : w ∈ lw_g := by
    simp only [va_wsS, List.cons_append, List.nil_append, List.mem_cons] at hw
    rcases hw with rfl | rfl | rfl | rfl | hw <;> assumption
  exact ⟨List.mem_cons_of_mem _ key, good_of_word (List.mem_filter.mp key).2⟩
theorem mk_gV {own C : String} {idx : Nat} {y : MethodName} {cx cy : Cond} (h1 : Cond.methodLink own idx y ∈ lw_g) (h2 : Cond.instanceMethod y ∈ lw_g) (h3 : Cond.selects C y y ∈ lw_g) (h4 : Cond.initialized C ∈ lw_g) (h5 : cy ∈ lw_g) : GoodIn (cx :: lw_g) (wsV own idx C y (cy :: lw_g)) := by
  intro w hw
  have key : w ∈ lw_g := by
    simp only [wsV, List.cons_append, List.nil_append, List.mem_cons] at hw
    rcases hw with rfl | rfl | rfl | rfl | rfl | hw <;> assumption
  exact ⟨List.mem_cons_of_mem _ key, good_of_word (List.mem_filter.mp key).2⟩
def ja_ushr (x y : Int32) : Int32 := (x.toUInt32 >>> (y.toUInt32 &&& Int32.toUInt32 31)).toInt32
def ja_lushr (x : Int64) (y : Int32) : Int64 := (x.toUInt64 >>> (y.toInt64.toUInt64 &&& Int64.toUInt64 63)).toInt64
def ja_lshl (x : Int64) (y : Int32) : Int64 := x <<< (y.toInt64 &&& 63)
def ja_lshr (x : Int64) (y : Int32) : Int64 := x >>> (y.toInt64 &&& 63)
def mk_P (G : Heap) (av : List Value) : Array Value → State → Prop := va_Pc av (fun U => U.heap = G)
def mk_PK (D : va_G) (cl : List vw_C) (tys : List (ClassId × FieldType)) (G : Heap) (av : List Value) : Array Value → State → Prop := va_Pc av (fun U => U.heap = G ∧ va_K D cl tys U)
def mk_Qi (G : Heap) (v : Int32) : Array Value → State → Outcome → State → Prop := va_Qi (fun r (_ : Unit) => r = v) (fun _ t => t.heap = G) (fun _ => False)
def mk_Ql (G : Heap) (v : Int64) : Array Value → State → Outcome → State → Prop := va_Ql (fun r (_ : Unit) => r = v) (fun _ t => t.heap = G) (fun _ => False)
def mk_Wi {S : Type} (B : S → Heap → Prop) (A : Nat → Prop) (v : Int32 × S) : Array Value → State → Outcome → State → Prop := va_Qi (fun r u => (r, u) = v) (fun u t => B u t.heap) A
def mk_Wl {S : Type} (B : S → Heap → Prop) (A : Nat → Prop) (v : Int64 × S) : Array Value → State → Outcome → State → Prop := va_Ql (fun r u => (r, u) = v) (fun u t => B u t.heap) A
def mk_Wv {S : Type} (B : S → Heap → Prop) (A : Nat → Prop) (v : S) : Array Value → State → Outcome → State → Prop := va_Qv (fun u => u = v) (fun u t => B u t.heap) A
theorem mk_blind {G : Heap} {av : List Value} : FrameBlind (mk_P G av) := fun _ _ _ _ q => q
theorem mk_blindK {D : va_G} {cl : List vw_C} {tys : List (ClassId × FieldType)} {G : Heap} {av : List Value} : FrameBlind (mk_PK D cl tys G av) := fun a U g mk q => ⟨q.1, q.2.1, va_K.moved (u := U) (U := U.calling g mk a) (Vm.Alike.refl U.vm) q.2.2⟩
theorem mk_preS {s : State} {H : Heap} {As : List Value} : PreS s H (mk_P H As) As := ⟨mk_blind, fun _ hU _ => ⟨rfl, hU⟩⟩
theorem mk_preSK {s : State} {H : Heap} {D : va_G} {cl : List vw_C} {tys : List (ClassId × FieldType)} {As : List Value} (hK : va_K D cl tys s) : PreS s H (mk_PK D cl tys H As) As := ⟨mk_blindK, fun _ hU hW => ⟨rfl, hU, va_K.moved hW.alike hK⟩⟩
theorem mk_preVK {s : State} {H : Heap} {D : va_G} {cl : List vw_C} {tys : List (ClassId × FieldType)} {As : List Value} {C : String} {b : Addr} (hK : va_K D cl tys s) (hr : ∃ cellB : Cell, H[b]? = some cellB ∧ cellB.vm.isStatics = false ∧ s.vm.findClass C = some cellB.cls) : PreV s H C b (mk_PK D cl tys H (.ref b :: As)) As := ⟨mk_blindK, hr, fun _ hU hW => ⟨rfl, hU, va_K.moved hW.alike hK⟩⟩
theorem mk_F {A : Nat → Prop} {s t : State} (ht : t.heap = s.heap) : va_F A s t := ⟨Nat.le_of_eq (by rw [ht]), fun q _ _ => by rw [ht]⟩
section MK
variable {p : Program} {l : Launch} {e : Env} {R : Room} {s : State} {m : MethodId} {args : Array Value} {below : List Frame} {meth : Method} {c : Code} {H : Heap} {locs : List Loc} {cells slots : Nat} {Q : State → Prop}
variable {pc : Nat} {ls : Array Slot} {rest st0 : List Value} {a : Array Value}
theorem mk_callR {v : Int32} (hr : va_Run p l e R s m args below meth c H locs cells slots 0 0 (F0 m pc ls st0) rest (mk_Qi H v a) (fun _ => False)) (kk : W p l e R s m args below meth c H locs cells slots Q (F0 m (pc + 3) ls (.int v :: rest))) : W p l e R s m args below meth c H locs cells slots Q (F0 m pc ls st0) := by
  intro T hT X
  obtain ⟨v', st₀, t, T', L, h0, X', hL, e1, e2, ⟨⟨r, u, hv, hp, hb⟩, hF⟩, st⟩ := hr T hT X
  cases hv
  have hL0 : L = [] := by
    cases L with
    | nil => rfl
    | cons q _ => exact (hL q List.mem_cons_self).elim
  subst hL0
  rw [List.append_nil] at X'
  subst hp
  obtain ⟨t2, a1, b1⟩ := kk T' (e1.trans hb) X'
  exact ⟨t2, st t2 a1, b1⟩
theorem mk_callRl {v : Int64} (hr : va_Run p l e R s m args below meth c H locs cells slots 0 0 (F0 m pc ls st0) rest (mk_Ql H v a) (fun _ => False)) (kk : W p l e R s m args below meth c H locs cells slots Q (F0 m (pc + 3) ls (.long v :: rest))) : W p l e R s m args below meth c H locs cells slots Q (F0 m pc ls st0) := by
  intro T hT X
  obtain ⟨v', st₀, t, T', L, h0, X', hL, e1, e2, ⟨⟨r, u, hv, hp, hb⟩, hF⟩, st⟩ := hr T hT X
  cases hv
  have hL0 : L = [] := by
    cases L with
    | nil => rfl
    | cons q _ => exact (hL q List.mem_cons_self).elim
  subst hL0
  rw [List.append_nil] at X'
  subst hp
  obtain ⟨t2, a1, b1⟩ := kk T' (e1.trans hb) X'
  exact ⟨t2, st t2 a1, b1⟩
theorem mk_callW {S : Type} {B : S → Heap → Prop} {A : Nat → Prop} {H0 : Heap} {v : Int32 × S} (hr : va_Run p l e R s m args below meth c H locs cells slots 0 0 (F0 m pc ls st0) rest (mk_Wi B A v a) A) (hS : va_S A H0 H locs)
    (kk : ∀ (H1 : Heap) (locs1 : List Loc), B v.2 H1 → va_S A H0 H1 locs1 → W p l e R s m args below meth c H1 locs1 cells slots Q (F0 m (pc + 3) ls (.int v.1 :: rest))) : W p l e R s m args below meth c H locs cells slots Q (F0 m pc ls st0) := by
  refine va_calli (post := fun r u => (r, u) = v) (B := fun u t => B u t.heap) hr hS (fun _ _ h => h) (fun _ h => h) (fun r u t H1 locs1 ht _ hw hB _ _ hS1 => ?_)
  have h1 : v = (r, u) := hw.symm
  subst h1
  rw [ht] at hB
  exact kk H1 locs1 hB hS1
theorem mk_callWl {S : Type} {B : S → Heap → Prop} {A : Nat → Prop} {H0 : Heap} {v : Int64 × S} (hr : va_Run p l e R s m args below meth c H locs cells slots 0 0 (F0 m pc ls st0) rest (mk_Wl B A v a) A) (hS : va_S A H0 H locs)
    (kk : ∀ (H1 : Heap) (locs1 : List Loc), B v.2 H1 → va_S A H0 H1 locs1 → W p l e R s m args below meth c H1 locs1 cells slots Q (F0 m (pc + 3) ls (.long v.1 :: rest))) : W p l e R s m args below meth c H locs cells slots Q (F0 m pc ls st0) := by
  refine va_calll (post := fun r u => (r, u) = v) (B := fun u t => B u t.heap) hr hS (fun _ _ h => h) (fun _ h => h) (fun r u t H1 locs1 ht _ hw hB _ _ hS1 => ?_)
  have h1 : v = (r, u) := hw.symm
  subst h1
  rw [ht] at hB
  exact kk H1 locs1 hB hS1
theorem mk_callWv {S : Type} {B : S → Heap → Prop} {A : Nat → Prop} {H0 : Heap} {v : S} (hr : va_Run p l e R s m args below meth c H locs cells slots 0 0 (F0 m pc ls st0) rest (mk_Wv B A v a) A) (hS : va_S A H0 H locs)
    (kk : ∀ (H1 : Heap) (locs1 : List Loc), B v H1 → va_S A H0 H1 locs1 → W p l e R s m args below meth c H1 locs1 cells slots Q (F0 m (pc + 3) ls rest)) : W p l e R s m args below meth c H locs cells slots Q (F0 m pc ls st0) := by
  refine va_callv (post := fun u => u = v) (B := fun u t => B u t.heap) hr hS (fun _ _ h => h) (fun _ h => h) (fun u t H1 locs1 ht _ hw hB _ _ hS1 => ?_)
  subst hw
  rw [ht] at hB
  exact kk H1 locs1 hB hS1
end MK
end
section
theorem dAr_isBelow_0 : decode cAr_isBelow 0 = .ok (.iload_n 0, 1) := by decide +kernel
theorem dAr_isBelow_1 : decode cAr_isBelow 1 = .ok (.i2l, 1) := by decide +kernel
theorem dAr_isBelow_2 : decode cAr_isBelow 2 = .ok (.ldc2_w 9, 3) := by decide +kernel
theorem dAr_isBelow_5 : decode cAr_isBelow 5 = .ok (.land, 1) := by decide +kernel
theorem dAr_isBelow_6 : decode cAr_isBelow 6 = .ok (.iload_n 1, 1) := by decide +kernel
theorem dAr_isBelow_7 : decode cAr_isBelow 7 = .ok (.i2l, 1) := by decide +kernel
theorem dAr_isBelow_8 : decode cAr_isBelow 8 = .ok (.ldc2_w 9, 3) := by decide +kernel
theorem dAr_isBelow_11 : decode cAr_isBelow 11 = .ok (.land, 1) := by decide +kernel
theorem dAr_isBelow_12 : decode cAr_isBelow 12 = .ok (.lcmp, 1) := by decide +kernel
theorem dAr_isBelow_13 : decode cAr_isBelow 13 = .ok (.ifCond .ge 7, 3) := by decide +kernel
theorem dAr_isBelow_16 : decode cAr_isBelow 16 = .ok (.iconst 1, 1) := by decide +kernel
theorem dAr_isBelow_17 : decode cAr_isBelow 17 = .ok (.goto 4, 3) := by decide +kernel
theorem dAr_isBelow_20 : decode cAr_isBelow 20 = .ok (.iconst 0, 1) := by decide +kernel
theorem dAr_isBelow_21 : decode cAr_isBelow 21 = .ok (.ireturn, 1) := by decide +kernel
theorem dAr_plain_0 : decode cAr_plain 0 = .ok (.iload_n 0, 1) := by decide +kernel
theorem dAr_plain_1 : decode cAr_plain 1 = .ok (.tableswitch 94 0 6 #[43, 47, 54, 65, 79, 83, 90], 43) := by decide +kernel
theorem dAr_plain_44 : decode cAr_plain 44 = .ok (.iload_n 1, 1) := by decide +kernel
theorem dAr_plain_45 : decode cAr_plain 45 = .ok (.iload_n 2, 1) := by decide +kernel
theorem dAr_plain_46 : decode cAr_plain 46 = .ok (.iadd, 1) := by decide +kernel
theorem dAr_plain_47 : decode cAr_plain 47 = .ok (.ireturn, 1) := by decide +kernel
theorem dAr_plain_48 : decode cAr_plain 48 = .ok (.iload_n 1, 1) := by decide +kernel
theorem dAr_plain_49 : decode cAr_plain 49 = .ok (.iload_n 2, 1) := by decide +kernel
theorem dAr_plain_50 : decode cAr_plain 50 = .ok (.bipush 31, 2) := by decide +kernel
theorem dAr_plain_52 : decode cAr_plain 52 = .ok (.iand, 1) := by decide +kernel
theorem dAr_plain_53 : decode cAr_plain 53 = .ok (.ishl, 1) := by decide +kernel
theorem dAr_plain_54 : decode cAr_plain 54 = .ok (.ireturn, 1) := by decide +kernel
theorem dAr_plain_55 : decode cAr_plain 55 = .ok (.iload_n 1, 1) := by decide +kernel
theorem dAr_plain_56 : decode cAr_plain 56 = .ok (.iload_n 2, 1) := by decide +kernel
theorem dAr_plain_57 : decode cAr_plain 57 = .ok (.if_icmp .ge 7, 3) := by decide +kernel
theorem dAr_plain_60 : decode cAr_plain 60 = .ok (.iconst 1, 1) := by decide +kernel
theorem dAr_plain_61 : decode cAr_plain 61 = .ok (.goto 4, 3) := by decide +kernel
theorem dAr_plain_64 : decode cAr_plain 64 = .ok (.iconst 0, 1) := by decide +kernel
theorem dAr_plain_65 : decode cAr_plain 65 = .ok (.ireturn, 1) := by decide +kernel
theorem dAr_plain_66 : decode cAr_plain 66 = .ok (.iload_n 1, 1) := by decide +kernel
theorem dAr_plain_67 : decode cAr_plain 67 = .ok (.iload_n 2, 1) := by decide +kernel
theorem dAr_plain_68 : decode cAr_plain 68 = .ok (.invokestatic 11, 3) := by decide +kernel
theorem dAr_plain_71 : decode cAr_plain 71 = .ok (.ifCond .eq 7, 3) := by decide +kernel
theorem dAr_plain_74 : decode cAr_plain 74 = .ok (.iconst 1, 1) := by decide +kernel
theorem dAr_plain_75 : decode cAr_plain 75 = .ok (.goto 4, 3) := by decide +kernel
theorem dAr_plain_78 : decode cAr_plain 78 = .ok (.iconst 0, 1) := by decide +kernel
theorem dAr_plain_79 : decode cAr_plain 79 = .ok (.ireturn, 1) := by decide +kernel
theorem dAr_plain_80 : decode cAr_plain 80 = .ok (.iload_n 1, 1) := by decide +kernel
theorem dAr_plain_81 : decode cAr_plain 81 = .ok (.iload_n 2, 1) := by decide +kernel
theorem dAr_plain_82 : decode cAr_plain 82 = .ok (.ixor, 1) := by decide +kernel
theorem dAr_plain_83 : decode cAr_plain 83 = .ok (.ireturn, 1) := by decide +kernel
theorem dAr_plain_84 : decode cAr_plain 84 = .ok (.iload_n 1, 1) := by decide +kernel
theorem dAr_plain_85 : decode cAr_plain 85 = .ok (.iload_n 2, 1) := by decide +kernel
theorem dAr_plain_86 : decode cAr_plain 86 = .ok (.bipush 31, 2) := by decide +kernel
theorem dAr_plain_88 : decode cAr_plain 88 = .ok (.iand, 1) := by decide +kernel
theorem dAr_plain_89 : decode cAr_plain 89 = .ok (.iushr, 1) := by decide +kernel
theorem dAr_plain_90 : decode cAr_plain 90 = .ok (.ireturn, 1) := by decide +kernel
theorem dAr_plain_91 : decode cAr_plain 91 = .ok (.iload_n 1, 1) := by decide +kernel
theorem dAr_plain_92 : decode cAr_plain 92 = .ok (.iload_n 2, 1) := by decide +kernel
theorem dAr_plain_93 : decode cAr_plain 93 = .ok (.ior, 1) := by decide +kernel
theorem dAr_plain_94 : decode cAr_plain 94 = .ok (.ireturn, 1) := by decide +kernel
theorem dAr_plain_95 : decode cAr_plain 95 = .ok (.iload_n 1, 1) := by decide +kernel
theorem dAr_plain_96 : decode cAr_plain 96 = .ok (.iload_n 2, 1) := by decide +kernel
theorem dAr_plain_97 : decode cAr_plain 97 = .ok (.iand, 1) := by decide +kernel
theorem dAr_plain_98 : decode cAr_plain 98 = .ok (.ireturn, 1) := by decide +kernel
theorem dAr_multipliedOrDivided_0 : decode cAr_multipliedOrDivided 0 = .ok (.iload_n 0, 1) := by decide +kernel
theorem dAr_multipliedOrDivided_1 : decode cAr_multipliedOrDivided 1 = .ok (.tableswitch 124 0 6 #[43, 47, 57, 71, 89, 98, 115], 43) := by decide +kernel
theorem dAr_multipliedOrDivided_44 : decode cAr_multipliedOrDivided 44 = .ok (.iload_n 1, 1) := by decide +kernel
theorem dAr_multipliedOrDivided_45 : decode cAr_multipliedOrDivided 45 = .ok (.iload_n 2, 1) := by decide +kernel
theorem dAr_multipliedOrDivided_46 : decode cAr_multipliedOrDivided 46 = .ok (.imul, 1) := by decide +kernel
theorem dAr_multipliedOrDivided_47 : decode cAr_multipliedOrDivided 47 = .ok (.ireturn, 1) := by decide +kernel
theorem dAr_multipliedOrDivided_48 : decode cAr_multipliedOrDivided 48 = .ok (.iload_n 1, 1) := by decide +kernel
theorem dAr_multipliedOrDivided_49 : decode cAr_multipliedOrDivided 49 = .ok (.i2l, 1) := by decide +kernel
theorem dAr_multipliedOrDivided_50 : decode cAr_multipliedOrDivided 50 = .ok (.iload_n 2, 1) := by decide +kernel
theorem dAr_multipliedOrDivided_51 : decode cAr_multipliedOrDivided 51 = .ok (.i2l, 1) := by decide +kernel
theorem dAr_multipliedOrDivided_52 : decode cAr_multipliedOrDivided 52 = .ok (.lmul, 1) := by decide +kernel
theorem dAr_multipliedOrDivided_53 : decode cAr_multipliedOrDivided 53 = .ok (.bipush 32, 2) := by decide +kernel
theorem dAr_multipliedOrDivided_55 : decode cAr_multipliedOrDivided 55 = .ok (.lushr, 1) := by decide +kernel
theorem dAr_multipliedOrDivided_56 : decode cAr_multipliedOrDivided 56 = .ok (.l2i, 1) := by decide +kernel
theorem dAr_multipliedOrDivided_57 : decode cAr_multipliedOrDivided 57 = .ok (.ireturn, 1) := by decide +kernel
theorem dAr_multipliedOrDivided_58 : decode cAr_multipliedOrDivided 58 = .ok (.iload_n 1, 1) := by decide +kernel
theorem dAr_multipliedOrDivided_59 : decode cAr_multipliedOrDivided 59 = .ok (.i2l, 1) := by decide +kernel
theorem dAr_multipliedOrDivided_60 : decode cAr_multipliedOrDivided 60 = .ok (.iload_n 2, 1) := by decide +kernel
theorem dAr_multipliedOrDivided_61 : decode cAr_multipliedOrDivided 61 = .ok (.i2l, 1) := by decide +kernel
theorem dAr_multipliedOrDivided_62 : decode cAr_multipliedOrDivided 62 = .ok (.ldc2_w 9, 3) := by decide +kernel
theorem dAr_multipliedOrDivided_65 : decode cAr_multipliedOrDivided 65 = .ok (.land, 1) := by decide +kernel
theorem dAr_multipliedOrDivided_66 : decode cAr_multipliedOrDivided 66 = .ok (.lmul, 1) := by decide +kernel
theorem dAr_multipliedOrDivided_67 : decode cAr_multipliedOrDivided 67 = .ok (.bipush 32, 2) := by decide +kernel
theorem dAr_multipliedOrDivided_69 : decode cAr_multipliedOrDivided 69 = .ok (.lushr, 1) := by decide +kernel
theorem dAr_multipliedOrDivided_70 : decode cAr_multipliedOrDivided 70 = .ok (.l2i, 1) := by decide +kernel
theorem dAr_multipliedOrDivided_71 : decode cAr_multipliedOrDivided 71 = .ok (.ireturn, 1) := by decide +kernel
theorem dAr_multipliedOrDivided_72 : decode cAr_multipliedOrDivided 72 = .ok (.iload_n 1, 1) := by decide +kernel
theorem dAr_multipliedOrDivided_73 : decode cAr_multipliedOrDivided 73 = .ok (.i2l, 1) := by decide +kernel
theorem dAr_multipliedOrDivided_74 : decode cAr_multipliedOrDivided 74 = .ok (.ldc2_w 9, 3) := by decide +kernel
theorem dAr_multipliedOrDivided_77 : decode cAr_multipliedOrDivided 77 = .ok (.land, 1) := by decide +kernel
theorem dAr_multipliedOrDivided_78 : decode cAr_multipliedOrDivided 78 = .ok (.iload_n 2, 1) := by decide +kernel
theorem dAr_multipliedOrDivided_79 : decode cAr_multipliedOrDivided 79 = .ok (.i2l, 1) := by decide +kernel
theorem dAr_multipliedOrDivided_80 : decode cAr_multipliedOrDivided 80 = .ok (.ldc2_w 9, 3) := by decide +kernel
theorem dAr_multipliedOrDivided_83 : decode cAr_multipliedOrDivided 83 = .ok (.land, 1) := by decide +kernel
theorem dAr_multipliedOrDivided_84 : decode cAr_multipliedOrDivided 84 = .ok (.lmul, 1) := by decide +kernel
theorem dAr_multipliedOrDivided_85 : decode cAr_multipliedOrDivided 85 = .ok (.bipush 32, 2) := by decide +kernel
theorem dAr_multipliedOrDivided_87 : decode cAr_multipliedOrDivided 87 = .ok (.lushr, 1) := by decide +kernel
theorem dAr_multipliedOrDivided_88 : decode cAr_multipliedOrDivided 88 = .ok (.l2i, 1) := by decide +kernel
theorem dAr_multipliedOrDivided_89 : decode cAr_multipliedOrDivided 89 = .ok (.ireturn, 1) := by decide +kernel
theorem dAr_multipliedOrDivided_90 : decode cAr_multipliedOrDivided 90 = .ok (.iload_n 1, 1) := by decide +kernel
theorem dAr_multipliedOrDivided_91 : decode cAr_multipliedOrDivided 91 = .ok (.i2l, 1) := by decide +kernel
theorem dAr_multipliedOrDivided_92 : decode cAr_multipliedOrDivided 92 = .ok (.iload_n 2, 1) := by decide +kernel
theorem dAr_multipliedOrDivided_93 : decode cAr_multipliedOrDivided 93 = .ok (.i2l, 1) := by decide +kernel
theorem dAr_multipliedOrDivided_94 : decode cAr_multipliedOrDivided 94 = .ok (.invokestatic 15, 3) := by decide +kernel
theorem dAr_multipliedOrDivided_97 : decode cAr_multipliedOrDivided 97 = .ok (.l2i, 1) := by decide +kernel
theorem dAr_multipliedOrDivided_98 : decode cAr_multipliedOrDivided 98 = .ok (.ireturn, 1) := by decide +kernel
theorem dAr_multipliedOrDivided_99 : decode cAr_multipliedOrDivided 99 = .ok (.iload_n 1, 1) := by decide +kernel
theorem dAr_multipliedOrDivided_100 : decode cAr_multipliedOrDivided 100 = .ok (.i2l, 1) := by decide +kernel
theorem dAr_multipliedOrDivided_101 : decode cAr_multipliedOrDivided 101 = .ok (.ldc2_w 9, 3) := by decide +kernel
theorem dAr_multipliedOrDivided_104 : decode cAr_multipliedOrDivided 104 = .ok (.land, 1) := by decide +kernel
theorem dAr_multipliedOrDivided_105 : decode cAr_multipliedOrDivided 105 = .ok (.iload_n 2, 1) := by decide +kernel
theorem dAr_multipliedOrDivided_106 : decode cAr_multipliedOrDivided 106 = .ok (.i2l, 1) := by decide +kernel
theorem dAr_multipliedOrDivided_107 : decode cAr_multipliedOrDivided 107 = .ok (.ldc2_w 9, 3) := by decide +kernel
theorem dAr_multipliedOrDivided_110 : decode cAr_multipliedOrDivided 110 = .ok (.land, 1) := by decide +kernel
theorem dAr_multipliedOrDivided_111 : decode cAr_multipliedOrDivided 111 = .ok (.invokestatic 15, 3) := by decide +kernel
theorem dAr_multipliedOrDivided_114 : decode cAr_multipliedOrDivided 114 = .ok (.l2i, 1) := by decide +kernel
theorem dAr_multipliedOrDivided_115 : decode cAr_multipliedOrDivided 115 = .ok (.ireturn, 1) := by decide +kernel
theorem dAr_multipliedOrDivided_116 : decode cAr_multipliedOrDivided 116 = .ok (.iload_n 1, 1) := by decide +kernel
theorem dAr_multipliedOrDivided_117 : decode cAr_multipliedOrDivided 117 = .ok (.i2l, 1) := by decide +kernel
theorem dAr_multipliedOrDivided_118 : decode cAr_multipliedOrDivided 118 = .ok (.iload_n 2, 1) := by decide +kernel
theorem dAr_multipliedOrDivided_119 : decode cAr_multipliedOrDivided 119 = .ok (.i2l, 1) := by decide +kernel
theorem dAr_multipliedOrDivided_120 : decode cAr_multipliedOrDivided 120 = .ok (.invokestatic 19, 3) := by decide +kernel
theorem dAr_multipliedOrDivided_123 : decode cAr_multipliedOrDivided 123 = .ok (.l2i, 1) := by decide +kernel
theorem dAr_multipliedOrDivided_124 : decode cAr_multipliedOrDivided 124 = .ok (.ireturn, 1) := by decide +kernel
theorem dAr_multipliedOrDivided_125 : decode cAr_multipliedOrDivided 125 = .ok (.iload_n 1, 1) := by decide +kernel
theorem dAr_multipliedOrDivided_126 : decode cAr_multipliedOrDivided 126 = .ok (.i2l, 1) := by decide +kernel
theorem dAr_multipliedOrDivided_127 : decode cAr_multipliedOrDivided 127 = .ok (.ldc2_w 9, 3) := by decide +kernel
theorem dAr_multipliedOrDivided_130 : decode cAr_multipliedOrDivided 130 = .ok (.land, 1) := by decide +kernel
theorem dAr_multipliedOrDivided_131 : decode cAr_multipliedOrDivided 131 = .ok (.iload_n 2, 1) := by decide +kernel
theorem dAr_multipliedOrDivided_132 : decode cAr_multipliedOrDivided 132 = .ok (.i2l, 1) := by decide +kernel
theorem dAr_multipliedOrDivided_133 : decode cAr_multipliedOrDivided 133 = .ok (.ldc2_w 9, 3) := by decide +kernel
theorem dAr_multipliedOrDivided_136 : decode cAr_multipliedOrDivided 136 = .ok (.land, 1) := by decide +kernel
theorem dAr_multipliedOrDivided_137 : decode cAr_multipliedOrDivided 137 = .ok (.invokestatic 19, 3) := by decide +kernel
theorem dAr_multipliedOrDivided_140 : decode cAr_multipliedOrDivided 140 = .ok (.l2i, 1) := by decide +kernel
theorem dAr_multipliedOrDivided_141 : decode cAr_multipliedOrDivided 141 = .ok (.ireturn, 1) := by decide +kernel
theorem dAr_quotient_0 : decode cAr_quotient 0 = .ok (.lload_n 2, 1) := by decide +kernel
theorem dAr_quotient_1 : decode cAr_quotient 1 = .ok (.lconst 0, 1) := by decide +kernel
theorem dAr_quotient_2 : decode cAr_quotient 2 = .ok (.lcmp, 1) := by decide +kernel
theorem dAr_quotient_3 : decode cAr_quotient 3 = .ok (.ifCond .ne 9, 3) := by decide +kernel
theorem dAr_quotient_6 : decode cAr_quotient 6 = .ok (.ldc2_w 22, 3) := by decide +kernel
theorem dAr_quotient_9 : decode cAr_quotient 9 = .ok (.goto 6, 3) := by decide +kernel
theorem dAr_quotient_12 : decode cAr_quotient 12 = .ok (.lload_n 0, 1) := by decide +kernel
theorem dAr_quotient_13 : decode cAr_quotient 13 = .ok (.lload_n 2, 1) := by decide +kernel
theorem dAr_quotient_14 : decode cAr_quotient 14 = .ok (.ldiv, 1) := by decide +kernel
theorem dAr_quotient_15 : decode cAr_quotient 15 = .ok (.lreturn, 1) := by decide +kernel
theorem dAr_remainder_0 : decode cAr_remainder 0 = .ok (.lload_n 2, 1) := by decide +kernel
theorem dAr_remainder_1 : decode cAr_remainder 1 = .ok (.lconst 0, 1) := by decide +kernel
theorem dAr_remainder_2 : decode cAr_remainder 2 = .ok (.lcmp, 1) := by decide +kernel
theorem dAr_remainder_3 : decode cAr_remainder 3 = .ok (.ifCond .ne 7, 3) := by decide +kernel
theorem dAr_remainder_6 : decode cAr_remainder 6 = .ok (.lload_n 0, 1) := by decide +kernel
theorem dAr_remainder_7 : decode cAr_remainder 7 = .ok (.goto 6, 3) := by decide +kernel
theorem dAr_remainder_10 : decode cAr_remainder 10 = .ok (.lload_n 0, 1) := by decide +kernel
theorem dAr_remainder_11 : decode cAr_remainder 11 = .ok (.lload_n 2, 1) := by decide +kernel
theorem dAr_remainder_12 : decode cAr_remainder 12 = .ok (.lrem, 1) := by decide +kernel
theorem dAr_remainder_13 : decode cAr_remainder 13 = .ok (.lreturn, 1) := by decide +kernel
theorem dAr_ofTwoNear_0 : decode cAr_ofTwoNear 0 = .ok (.iload_n 0, 1) := by decide +kernel
theorem dAr_ofTwoNear_1 : decode cAr_ofTwoNear 1 = .ok (.tableswitch 39 0 2 #[27, 31, 35], 27) := by decide +kernel
theorem dAr_ofTwoNear_28 : decode cAr_ofTwoNear 28 = .ok (.iload_n 1, 1) := by decide +kernel
theorem dAr_ofTwoNear_29 : decode cAr_ofTwoNear 29 = .ok (.iload_n 2, 1) := by decide +kernel
theorem dAr_ofTwoNear_30 : decode cAr_ofTwoNear 30 = .ok (.isub, 1) := by decide +kernel
theorem dAr_ofTwoNear_31 : decode cAr_ofTwoNear 31 = .ok (.ireturn, 1) := by decide +kernel
theorem dAr_ofTwoNear_32 : decode cAr_ofTwoNear 32 = .ok (.iload_n 1, 1) := by decide +kernel
theorem dAr_ofTwoNear_33 : decode cAr_ofTwoNear 33 = .ok (.iload_n 2, 1) := by decide +kernel
theorem dAr_ofTwoNear_34 : decode cAr_ofTwoNear 34 = .ok (.ixor, 1) := by decide +kernel
theorem dAr_ofTwoNear_35 : decode cAr_ofTwoNear 35 = .ok (.ireturn, 1) := by decide +kernel
theorem dAr_ofTwoNear_36 : decode cAr_ofTwoNear 36 = .ok (.iload_n 1, 1) := by decide +kernel
theorem dAr_ofTwoNear_37 : decode cAr_ofTwoNear 37 = .ok (.iload_n 2, 1) := by decide +kernel
theorem dAr_ofTwoNear_38 : decode cAr_ofTwoNear 38 = .ok (.ior, 1) := by decide +kernel
theorem dAr_ofTwoNear_39 : decode cAr_ofTwoNear 39 = .ok (.ireturn, 1) := by decide +kernel
theorem dAr_ofTwoNear_40 : decode cAr_ofTwoNear 40 = .ok (.iload_n 1, 1) := by decide +kernel
theorem dAr_ofTwoNear_41 : decode cAr_ofTwoNear 41 = .ok (.iload_n 2, 1) := by decide +kernel
theorem dAr_ofTwoNear_42 : decode cAr_ofTwoNear 42 = .ok (.iand, 1) := by decide +kernel
theorem dAr_ofTwoNear_43 : decode cAr_ofTwoNear 43 = .ok (.ireturn, 1) := by decide +kernel
theorem dAr_changed_0 : decode cAr_changed 0 = .ok (.iload_n 0, 1) := by decide +kernel
theorem dAr_changed_1 : decode cAr_changed 1 = .ok (.tableswitch 169 0 24 #[115, 119, 169, 169, 121, 169, 169, 169, 125, 169, 169, 169, 129, 169, 169, 169, 133, 169, 169, 169, 144, 169, 169, 169, 155], 115) := by decide +kernel
theorem dAr_changed_116 : decode cAr_changed 116 = .ok (.iload_n 1, 1) := by decide +kernel
theorem dAr_changed_117 : decode cAr_changed 117 = .ok (.iload_n 2, 1) := by decide +kernel
theorem dAr_changed_118 : decode cAr_changed 118 = .ok (.iadd, 1) := by decide +kernel
theorem dAr_changed_119 : decode cAr_changed 119 = .ok (.ireturn, 1) := by decide +kernel
theorem dAr_changed_120 : decode cAr_changed 120 = .ok (.iload_n 2, 1) := by decide +kernel
theorem dAr_changed_121 : decode cAr_changed 121 = .ok (.ireturn, 1) := by decide +kernel
theorem dAr_changed_122 : decode cAr_changed 122 = .ok (.iload_n 1, 1) := by decide +kernel
theorem dAr_changed_123 : decode cAr_changed 123 = .ok (.iload_n 2, 1) := by decide +kernel
theorem dAr_changed_124 : decode cAr_changed 124 = .ok (.ixor, 1) := by decide +kernel
theorem dAr_changed_125 : decode cAr_changed 125 = .ok (.ireturn, 1) := by decide +kernel
theorem dAr_changed_126 : decode cAr_changed 126 = .ok (.iload_n 1, 1) := by decide +kernel
theorem dAr_changed_127 : decode cAr_changed 127 = .ok (.iload_n 2, 1) := by decide +kernel
theorem dAr_changed_128 : decode cAr_changed 128 = .ok (.ior, 1) := by decide +kernel
theorem dAr_changed_129 : decode cAr_changed 129 = .ok (.ireturn, 1) := by decide +kernel
theorem dAr_changed_130 : decode cAr_changed 130 = .ok (.iload_n 1, 1) := by decide +kernel
theorem dAr_changed_131 : decode cAr_changed 131 = .ok (.iload_n 2, 1) := by decide +kernel
theorem dAr_changed_132 : decode cAr_changed 132 = .ok (.iand, 1) := by decide +kernel
theorem dAr_changed_133 : decode cAr_changed 133 = .ok (.ireturn, 1) := by decide +kernel
theorem dAr_changed_134 : decode cAr_changed 134 = .ok (.iload_n 1, 1) := by decide +kernel
theorem dAr_changed_135 : decode cAr_changed 135 = .ok (.iload_n 2, 1) := by decide +kernel
theorem dAr_changed_136 : decode cAr_changed 136 = .ok (.if_icmp .ge 7, 3) := by decide +kernel
theorem dAr_changed_139 : decode cAr_changed 139 = .ok (.iload_n 1, 1) := by decide +kernel
theorem dAr_changed_140 : decode cAr_changed 140 = .ok (.goto 4, 3) := by decide +kernel
theorem dAr_changed_143 : decode cAr_changed 143 = .ok (.iload_n 2, 1) := by decide +kernel
theorem dAr_changed_144 : decode cAr_changed 144 = .ok (.ireturn, 1) := by decide +kernel
theorem dAr_changed_145 : decode cAr_changed 145 = .ok (.iload_n 1, 1) := by decide +kernel
theorem dAr_changed_146 : decode cAr_changed 146 = .ok (.iload_n 2, 1) := by decide +kernel
theorem dAr_changed_147 : decode cAr_changed 147 = .ok (.if_icmp .ge 7, 3) := by decide +kernel
theorem dAr_changed_150 : decode cAr_changed 150 = .ok (.iload_n 2, 1) := by decide +kernel
theorem dAr_changed_151 : decode cAr_changed 151 = .ok (.goto 4, 3) := by decide +kernel
theorem dAr_changed_154 : decode cAr_changed 154 = .ok (.iload_n 1, 1) := by decide +kernel
theorem dAr_changed_155 : decode cAr_changed 155 = .ok (.ireturn, 1) := by decide +kernel
theorem dAr_changed_156 : decode cAr_changed 156 = .ok (.iload_n 1, 1) := by decide +kernel
theorem dAr_changed_157 : decode cAr_changed 157 = .ok (.iload_n 2, 1) := by decide +kernel
theorem dAr_changed_158 : decode cAr_changed 158 = .ok (.invokestatic 11, 3) := by decide +kernel
theorem dAr_changed_161 : decode cAr_changed 161 = .ok (.ifCond .eq 7, 3) := by decide +kernel
theorem dAr_changed_164 : decode cAr_changed 164 = .ok (.iload_n 1, 1) := by decide +kernel
theorem dAr_changed_165 : decode cAr_changed 165 = .ok (.goto 4, 3) := by decide +kernel
theorem dAr_changed_168 : decode cAr_changed 168 = .ok (.iload_n 2, 1) := by decide +kernel
theorem dAr_changed_169 : decode cAr_changed 169 = .ok (.ireturn, 1) := by decide +kernel
theorem dAr_changed_170 : decode cAr_changed 170 = .ok (.iload_n 1, 1) := by decide +kernel
theorem dAr_changed_171 : decode cAr_changed 171 = .ok (.iload_n 2, 1) := by decide +kernel
theorem dAr_changed_172 : decode cAr_changed 172 = .ok (.invokestatic 11, 3) := by decide +kernel
theorem dAr_changed_175 : decode cAr_changed 175 = .ok (.ifCond .eq 7, 3) := by decide +kernel
theorem dAr_changed_178 : decode cAr_changed 178 = .ok (.iload_n 2, 1) := by decide +kernel
theorem dAr_changed_179 : decode cAr_changed 179 = .ok (.goto 4, 3) := by decide +kernel
theorem dAr_changed_182 : decode cAr_changed 182 = .ok (.iload_n 1, 1) := by decide +kernel
theorem dAr_changed_183 : decode cAr_changed 183 = .ok (.ireturn, 1) := by decide +kernel
theorem dBits_part_0 : decode cBits_part 0 = .ok (.iload_n 0, 1) := by decide +kernel
theorem dBits_part_1 : decode cBits_part 1 = .ok (.iload_n 1, 1) := by decide +kernel
theorem dBits_part_2 : decode cBits_part 2 = .ok (.iushr, 1) := by decide +kernel
theorem dBits_part_3 : decode cBits_part 3 = .ok (.iconst 1, 1) := by decide +kernel
theorem dBits_part_4 : decode cBits_part 4 = .ok (.iload_n 2, 1) := by decide +kernel
theorem dBits_part_5 : decode cBits_part 5 = .ok (.ishl, 1) := by decide +kernel
theorem dBits_part_6 : decode cBits_part 6 = .ok (.iconst 1, 1) := by decide +kernel
theorem dBits_part_7 : decode cBits_part 7 = .ok (.isub, 1) := by decide +kernel
theorem dBits_part_8 : decode cBits_part 8 = .ok (.iand, 1) := by decide +kernel
theorem dBits_part_9 : decode cBits_part 9 = .ok (.ireturn, 1) := by decide +kernel
theorem dBits_signed_0 : decode cBits_signed 0 = .ok (.iload_n 0, 1) := by decide +kernel
theorem dBits_signed_1 : decode cBits_signed 1 = .ok (.bipush 32, 2) := by decide +kernel
theorem dBits_signed_3 : decode cBits_signed 3 = .ok (.iload_n 1, 1) := by decide +kernel
theorem dBits_signed_4 : decode cBits_signed 4 = .ok (.isub, 1) := by decide +kernel
theorem dBits_signed_5 : decode cBits_signed 5 = .ok (.ishl, 1) := by decide +kernel
theorem dBits_signed_6 : decode cBits_signed 6 = .ok (.bipush 32, 2) := by decide +kernel
theorem dBits_signed_8 : decode cBits_signed 8 = .ok (.iload_n 1, 1) := by decide +kernel
theorem dBits_signed_9 : decode cBits_signed 9 = .ok (.isub, 1) := by decide +kernel
theorem dBits_signed_10 : decode cBits_signed 10 = .ok (.ishr, 1) := by decide +kernel
theorem dBits_signed_11 : decode cBits_signed 11 = .ok (.ireturn, 1) := by decide +kernel
theorem dLF_d_0 : decode cLF_d 0 = .ok (.iload_n 0, 1) := by decide +kernel
theorem dLF_d_1 : decode cLF_d 1 = .ok (.bipush 7, 2) := by decide +kernel
theorem dLF_d_3 : decode cLF_d 3 = .ok (.iconst 5, 1) := by decide +kernel
theorem dLF_d_4 : decode cLF_d 4 = .ok (.invokestatic 9, 3) := by decide +kernel
theorem dLF_d_7 : decode cLF_d 7 = .ok (.ireturn, 1) := by decide +kernel
theorem dLF_f_0 : decode cLF_f 0 = .ok (.iload_n 0, 1) := by decide +kernel
theorem dLF_f_1 : decode cLF_f 1 = .ok (.bipush 12, 2) := by decide +kernel
theorem dLF_f_3 : decode cLF_f 3 = .ok (.iconst 3, 1) := by decide +kernel
theorem dLF_f_4 : decode cLF_f 4 = .ok (.invokestatic 9, 3) := by decide +kernel
theorem dLF_f_7 : decode cLF_f 7 = .ok (.ireturn, 1) := by decide +kernel
theorem dLF_a_0 : decode cLF_a 0 = .ok (.iload_n 0, 1) := by decide +kernel
theorem dLF_a_1 : decode cLF_a 1 = .ok (.bipush 15, 2) := by decide +kernel
theorem dLF_a_3 : decode cLF_a 3 = .ok (.iconst 5, 1) := by decide +kernel
theorem dLF_a_4 : decode cLF_a 4 = .ok (.invokestatic 9, 3) := by decide +kernel
theorem dLF_a_7 : decode cLF_a 7 = .ok (.ireturn, 1) := by decide +kernel
theorem dLF_b_0 : decode cLF_b 0 = .ok (.iload_n 0, 1) := by decide +kernel
theorem dLF_b_1 : decode cLF_b 1 = .ok (.bipush 20, 2) := by decide +kernel
theorem dLF_b_3 : decode cLF_b 3 = .ok (.iconst 5, 1) := by decide +kernel
theorem dLF_b_4 : decode cLF_b 4 = .ok (.invokestatic 9, 3) := by decide +kernel
theorem dLF_b_7 : decode cLF_b 7 = .ok (.ireturn, 1) := by decide +kernel
theorem dLF_g_0 : decode cLF_g 0 = .ok (.iload_n 0, 1) := by decide +kernel
theorem dLF_g_1 : decode cLF_g 1 = .ok (.bipush 25, 2) := by decide +kernel
theorem dLF_g_3 : decode cLF_g 3 = .ok (.bipush 7, 2) := by decide +kernel
theorem dLF_g_5 : decode cLF_g 5 = .ok (.invokestatic 9, 3) := by decide +kernel
theorem dLF_g_8 : decode cLF_g 8 = .ok (.ireturn, 1) := by decide +kernel
theorem dLF_k_0 : decode cLF_k 0 = .ok (.iload_n 0, 1) := by decide +kernel
theorem dLF_k_1 : decode cLF_k 1 = .ok (.bipush 27, 2) := by decide +kernel
theorem dLF_k_3 : decode cLF_k 3 = .ok (.iconst 5, 1) := by decide +kernel
theorem dLF_k_4 : decode cLF_k 4 = .ok (.invokestatic 9, 3) := by decide +kernel
theorem dLF_k_7 : decode cLF_k 7 = .ok (.ireturn, 1) := by decide +kernel
theorem dLF_numberI_0 : decode cLF_numberI 0 = .ok (.iload_n 0, 1) := by decide +kernel
theorem dLF_numberI_1 : decode cLF_numberI 1 = .ok (.bipush 20, 2) := by decide +kernel
theorem dLF_numberI_3 : decode cLF_numberI 3 = .ok (.ishr, 1) := by decide +kernel
theorem dLF_numberI_4 : decode cLF_numberI 4 = .ok (.ireturn, 1) := by decide +kernel
theorem dLF_numberS_0 : decode cLF_numberS 0 = .ok (.iload_n 0, 1) := by decide +kernel
theorem dLF_numberS_1 : decode cLF_numberS 1 = .ok (.invokestatic 15, 3) := by decide +kernel
theorem dLF_numberS_4 : decode cLF_numberS 4 = .ok (.iconst 5, 1) := by decide +kernel
theorem dLF_numberS_5 : decode cLF_numberS 5 = .ok (.ishl, 1) := by decide +kernel
theorem dLF_numberS_6 : decode cLF_numberS 6 = .ok (.iload_n 0, 1) := by decide +kernel
theorem dLF_numberS_7 : decode cLF_numberS 7 = .ok (.invokestatic 21, 3) := by decide +kernel
theorem dLF_numberS_10 : decode cLF_numberS 10 = .ok (.ior, 1) := by decide +kernel
theorem dLF_numberS_11 : decode cLF_numberS 11 = .ok (.bipush 12, 2) := by decide +kernel
theorem dLF_numberS_13 : decode cLF_numberS 13 = .ok (.invokestatic 24, 3) := by decide +kernel
theorem dLF_numberS_16 : decode cLF_numberS 16 = .ok (.ireturn, 1) := by decide +kernel
theorem dLF_upperNumber_0 : decode cLF_upperNumber 0 = .ok (.iload_n 0, 1) := by decide +kernel
theorem dLF_upperNumber_1 : decode cLF_upperNumber 1 = .ok (.sipush (-4096), 3) := by decide +kernel
theorem dLF_upperNumber_4 : decode cLF_upperNumber 4 = .ok (.iand, 1) := by decide +kernel
theorem dLF_upperNumber_5 : decode cLF_upperNumber 5 = .ok (.ireturn, 1) := by decide +kernel
theorem dLF_offsetJ_0 : decode cLF_offsetJ 0 = .ok (.iload_n 0, 1) := by decide +kernel
theorem dLF_offsetJ_1 : decode cLF_offsetJ 1 = .ok (.bipush 31, 2) := by decide +kernel
theorem dLF_offsetJ_3 : decode cLF_offsetJ 3 = .ok (.iconst 1, 1) := by decide +kernel
theorem dLF_offsetJ_4 : decode cLF_offsetJ 4 = .ok (.invokestatic 9, 3) := by decide +kernel
theorem dLF_offsetJ_7 : decode cLF_offsetJ 7 = .ok (.bipush 20, 2) := by decide +kernel
theorem dLF_offsetJ_9 : decode cLF_offsetJ 9 = .ok (.ishl, 1) := by decide +kernel
theorem dLF_offsetJ_10 : decode cLF_offsetJ 10 = .ok (.iload_n 0, 1) := by decide +kernel
theorem dLF_offsetJ_11 : decode cLF_offsetJ 11 = .ok (.bipush 12, 2) := by decide +kernel
theorem dLF_offsetJ_13 : decode cLF_offsetJ 13 = .ok (.bipush 8, 2) := by decide +kernel
theorem dLF_offsetJ_15 : decode cLF_offsetJ 15 = .ok (.invokestatic 9, 3) := by decide +kernel
theorem dLF_offsetJ_18 : decode cLF_offsetJ 18 = .ok (.bipush 12, 2) := by decide +kernel
theorem dLF_offsetJ_20 : decode cLF_offsetJ 20 = .ok (.ishl, 1) := by decide +kernel
theorem dLF_offsetJ_21 : decode cLF_offsetJ 21 = .ok (.ior, 1) := by decide +kernel
theorem dLF_offsetJ_22 : decode cLF_offsetJ 22 = .ok (.iload_n 0, 1) := by decide +kernel
theorem dLF_offsetJ_23 : decode cLF_offsetJ 23 = .ok (.bipush 20, 2) := by decide +kernel
theorem dLF_offsetJ_25 : decode cLF_offsetJ 25 = .ok (.iconst 1, 1) := by decide +kernel
theorem dLF_offsetJ_26 : decode cLF_offsetJ 26 = .ok (.invokestatic 9, 3) := by decide +kernel
theorem dLF_offsetJ_29 : decode cLF_offsetJ 29 = .ok (.bipush 11, 2) := by decide +kernel
theorem dLF_offsetJ_31 : decode cLF_offsetJ 31 = .ok (.ishl, 1) := by decide +kernel
theorem dLF_offsetJ_32 : decode cLF_offsetJ 32 = .ok (.ior, 1) := by decide +kernel
theorem dLF_offsetJ_33 : decode cLF_offsetJ 33 = .ok (.iload_n 0, 1) := by decide +kernel
theorem dLF_offsetJ_34 : decode cLF_offsetJ 34 = .ok (.bipush 21, 2) := by decide +kernel
theorem dLF_offsetJ_36 : decode cLF_offsetJ 36 = .ok (.bipush 10, 2) := by decide +kernel
theorem dLF_offsetJ_38 : decode cLF_offsetJ 38 = .ok (.invokestatic 9, 3) := by decide +kernel
theorem dLF_offsetJ_41 : decode cLF_offsetJ 41 = .ok (.iconst 1, 1) := by decide +kernel
theorem dLF_offsetJ_42 : decode cLF_offsetJ 42 = .ok (.ishl, 1) := by decide +kernel
theorem dLF_offsetJ_43 : decode cLF_offsetJ 43 = .ok (.ior, 1) := by decide +kernel
theorem dLF_offsetJ_44 : decode cLF_offsetJ 44 = .ok (.istore_n 1, 1) := by decide +kernel
theorem dLF_offsetJ_45 : decode cLF_offsetJ 45 = .ok (.iload_n 1, 1) := by decide +kernel
theorem dLF_offsetJ_46 : decode cLF_offsetJ 46 = .ok (.bipush 21, 2) := by decide +kernel
theorem dLF_offsetJ_48 : decode cLF_offsetJ 48 = .ok (.invokestatic 24, 3) := by decide +kernel
theorem dLF_offsetJ_51 : decode cLF_offsetJ 51 = .ok (.ireturn, 1) := by decide +kernel
theorem dLF_offsetT_0 : decode cLF_offsetT 0 = .ok (.iload_n 0, 1) := by decide +kernel
theorem dLF_offsetT_1 : decode cLF_offsetT 1 = .ok (.bipush 31, 2) := by decide +kernel
theorem dLF_offsetT_3 : decode cLF_offsetT 3 = .ok (.iconst 1, 1) := by decide +kernel
theorem dLF_offsetT_4 : decode cLF_offsetT 4 = .ok (.invokestatic 9, 3) := by decide +kernel
theorem dLF_offsetT_7 : decode cLF_offsetT 7 = .ok (.bipush 12, 2) := by decide +kernel
theorem dLF_offsetT_9 : decode cLF_offsetT 9 = .ok (.ishl, 1) := by decide +kernel
theorem dLF_offsetT_10 : decode cLF_offsetT 10 = .ok (.iload_n 0, 1) := by decide +kernel
theorem dLF_offsetT_11 : decode cLF_offsetT 11 = .ok (.bipush 7, 2) := by decide +kernel
theorem dLF_offsetT_13 : decode cLF_offsetT 13 = .ok (.iconst 1, 1) := by decide +kernel
theorem dLF_offsetT_14 : decode cLF_offsetT 14 = .ok (.invokestatic 9, 3) := by decide +kernel
theorem dLF_offsetT_17 : decode cLF_offsetT 17 = .ok (.bipush 11, 2) := by decide +kernel
theorem dLF_offsetT_19 : decode cLF_offsetT 19 = .ok (.ishl, 1) := by decide +kernel
theorem dLF_offsetT_20 : decode cLF_offsetT 20 = .ok (.ior, 1) := by decide +kernel
theorem dLF_offsetT_21 : decode cLF_offsetT 21 = .ok (.iload_n 0, 1) := by decide +kernel
theorem dLF_offsetT_22 : decode cLF_offsetT 22 = .ok (.bipush 25, 2) := by decide +kernel
theorem dLF_offsetT_24 : decode cLF_offsetT 24 = .ok (.bipush 6, 2) := by decide +kernel
theorem dLF_offsetT_26 : decode cLF_offsetT 26 = .ok (.invokestatic 9, 3) := by decide +kernel
theorem dLF_offsetT_29 : decode cLF_offsetT 29 = .ok (.iconst 5, 1) := by decide +kernel
theorem dLF_offsetT_30 : decode cLF_offsetT 30 = .ok (.ishl, 1) := by decide +kernel
theorem dLF_offsetT_31 : decode cLF_offsetT 31 = .ok (.ior, 1) := by decide +kernel
theorem dLF_offsetT_32 : decode cLF_offsetT 32 = .ok (.iload_n 0, 1) := by decide +kernel
theorem dLF_offsetT_33 : decode cLF_offsetT 33 = .ok (.bipush 8, 2) := by decide +kernel
theorem dLF_offsetT_35 : decode cLF_offsetT 35 = .ok (.iconst 4, 1) := by decide +kernel
theorem dLF_offsetT_36 : decode cLF_offsetT 36 = .ok (.invokestatic 9, 3) := by decide +kernel
theorem dLF_offsetT_39 : decode cLF_offsetT 39 = .ok (.iconst 1, 1) := by decide +kernel
theorem dLF_offsetT_40 : decode cLF_offsetT 40 = .ok (.ishl, 1) := by decide +kernel
theorem dLF_offsetT_41 : decode cLF_offsetT 41 = .ok (.ior, 1) := by decide +kernel
theorem dLF_offsetT_42 : decode cLF_offsetT 42 = .ok (.istore_n 1, 1) := by decide +kernel
theorem dLF_offsetT_43 : decode cLF_offsetT 43 = .ok (.iload_n 1, 1) := by decide +kernel
theorem dLF_offsetT_44 : decode cLF_offsetT 44 = .ok (.bipush 13, 2) := by decide +kernel
theorem dLF_offsetT_46 : decode cLF_offsetT 46 = .ok (.invokestatic 24, 3) := by decide +kernel
theorem dLF_offsetT_49 : decode cLF_offsetT 49 = .ok (.ireturn, 1) := by decide +kernel
theorem dLF_isAtomic_0 : decode cLF_isAtomic 0 = .ok (.iload_n 0, 1) := by decide +kernel
theorem dLF_isAtomic_1 : decode cLF_isAtomic 1 = .ok (.invokestatic 28, 3) := by decide +kernel
theorem dLF_isAtomic_4 : decode cLF_isAtomic 4 = .ok (.iconst 2, 1) := by decide +kernel
theorem dLF_isAtomic_5 : decode cLF_isAtomic 5 = .ok (.if_icmp .eq 5, 3) := by decide +kernel
theorem dLF_isAtomic_8 : decode cLF_isAtomic 8 = .ok (.iconst 0, 1) := by decide +kernel
theorem dLF_isAtomic_9 : decode cLF_isAtomic 9 = .ok (.ireturn, 1) := by decide +kernel
theorem dLF_isAtomic_10 : decode cLF_isAtomic 10 = .ok (.iload_n 0, 1) := by decide +kernel
theorem dLF_isAtomic_11 : decode cLF_isAtomic 11 = .ok (.invokestatic 31, 3) := by decide +kernel
theorem dLF_isAtomic_14 : decode cLF_isAtomic 14 = .ok (.tableswitch 145 0 28 #[143, 143, 130, 143, 143, 145, 145, 145, 143, 145, 145, 145, 143, 145, 145, 145, 143, 145, 145, 145, 143, 145, 145, 145, 143, 145, 145, 145, 143], 130) := by decide +kernel
theorem dLF_isAtomic_144 : decode cLF_isAtomic 144 = .ok (.iload_n 0, 1) := by decide +kernel
theorem dLF_isAtomic_145 : decode cLF_isAtomic 145 = .ok (.invokestatic 34, 3) := by decide +kernel
theorem dLF_isAtomic_148 : decode cLF_isAtomic 148 = .ok (.ifCond .ne 7, 3) := by decide +kernel
theorem dLF_isAtomic_151 : decode cLF_isAtomic 151 = .ok (.iconst 1, 1) := by decide +kernel
theorem dLF_isAtomic_152 : decode cLF_isAtomic 152 = .ok (.goto 4, 3) := by decide +kernel
theorem dLF_isAtomic_155 : decode cLF_isAtomic 155 = .ok (.iconst 0, 1) := by decide +kernel
theorem dLF_isAtomic_156 : decode cLF_isAtomic 156 = .ok (.ireturn, 1) := by decide +kernel
theorem dLF_isAtomic_157 : decode cLF_isAtomic 157 = .ok (.iconst 1, 1) := by decide +kernel
theorem dLF_isAtomic_158 : decode cLF_isAtomic 158 = .ok (.ireturn, 1) := by decide +kernel
theorem dLF_isAtomic_159 : decode cLF_isAtomic 159 = .ok (.iconst 0, 1) := by decide +kernel
theorem dLF_isAtomic_160 : decode cLF_isAtomic 160 = .ok (.ireturn, 1) := by decide +kernel
theorem dMem_init_0 : decode cMem_init 0 = .ok (.aload_n 0, 1) := by decide +kernel
theorem dMem_init_1 : decode cMem_init 1 = .ok (.invokespecial 1, 3) := by decide +kernel
theorem dMem_init_4 : decode cMem_init 4 = .ok (.aload_n 0, 1) := by decide +kernel
theorem dMem_init_5 : decode cMem_init 5 = .ok (.sipush 16384, 3) := by decide +kernel
theorem dMem_init_8 : decode cMem_init 8 = .ok (.newarray .int, 2) := by decide +kernel
theorem dMem_init_10 : decode cMem_init 10 = .ok (.putfield 9, 3) := by decide +kernel
theorem dMem_init_13 : decode cMem_init 13 = .ok (.aload_n 0, 1) := by decide +kernel
theorem dMem_init_14 : decode cMem_init 14 = .ok (.bipush 64, 2) := by decide +kernel
theorem dMem_init_16 : decode cMem_init 16 = .ok (.newarray .int, 2) := by decide +kernel
theorem dMem_init_18 : decode cMem_init 18 = .ok (.putfield 13, 3) := by decide +kernel
theorem dMem_init_21 : decode cMem_init 21 = .ok (.iconst 0, 1) := by decide +kernel
theorem dMem_init_22 : decode cMem_init 22 = .ok (.istore_n 1, 1) := by decide +kernel
theorem dMem_init_23 : decode cMem_init 23 = .ok (.iload_n 1, 1) := by decide +kernel
theorem dMem_init_24 : decode cMem_init 24 = .ok (.bipush 64, 2) := by decide +kernel
theorem dMem_init_26 : decode cMem_init 26 = .ok (.if_icmp .ge 17, 3) := by decide +kernel
theorem dMem_init_29 : decode cMem_init 29 = .ok (.aload_n 0, 1) := by decide +kernel
theorem dMem_init_30 : decode cMem_init 30 = .ok (.getfield 13, 3) := by decide +kernel
theorem dMem_init_33 : decode cMem_init 33 = .ok (.iload_n 1, 1) := by decide +kernel
theorem dMem_init_34 : decode cMem_init 34 = .ok (.bipush 7, 2) := by decide +kernel
theorem dMem_init_36 : decode cMem_init 36 = .ok (.iastore, 1) := by decide +kernel
theorem dMem_init_37 : decode cMem_init 37 = .ok (.iinc 1 1, 3) := by decide +kernel
theorem dMem_init_40 : decode cMem_init 40 = .ok (.goto (-17), 3) := by decide +kernel
theorem dMem_init_43 : decode cMem_init 43 = .ok (.aload_n 0, 1) := by decide +kernel
theorem dMem_init_44 : decode cMem_init 44 = .ok (.iconst (-1), 1) := by decide +kernel
theorem dMem_init_45 : decode cMem_init 45 = .ok (.putfield 16, 3) := by decide +kernel
theorem dMem_init_48 : decode cMem_init 48 = .ok (.return_, 1) := by decide +kernel
theorem dMem_holds_0 : decode cMem_holds 0 = .ok (.iload_n 0, 1) := by decide +kernel
theorem dMem_holds_1 : decode cMem_holds 1 = .ok (.ifCond .lt 13, 3) := by decide +kernel
theorem dMem_holds_4 : decode cMem_holds 4 = .ok (.iload_n 0, 1) := by decide +kernel
theorem dMem_holds_5 : decode cMem_holds 5 = .ok (.ldc 20, 2) := by decide +kernel
theorem dMem_holds_7 : decode cMem_holds 7 = .ok (.if_icmp .gt 7, 3) := by decide +kernel
theorem dMem_holds_10 : decode cMem_holds 10 = .ok (.iconst 1, 1) := by decide +kernel
theorem dMem_holds_11 : decode cMem_holds 11 = .ok (.goto 4, 3) := by decide +kernel
theorem dMem_holds_14 : decode cMem_holds 14 = .ok (.iconst 0, 1) := by decide +kernel
theorem dMem_holds_15 : decode cMem_holds 15 = .ok (.ireturn, 1) := by decide +kernel
theorem dMem_isMisaligned_0 : decode cMem_isMisaligned 0 = .ok (.iload_n 1, 1) := by decide +kernel
theorem dMem_isMisaligned_1 : decode cMem_isMisaligned 1 = .ok (.iconst 1, 1) := by decide +kernel
theorem dMem_isMisaligned_2 : decode cMem_isMisaligned 2 = .ok (.iload_n 0, 1) := by decide +kernel
theorem dMem_isMisaligned_3 : decode cMem_isMisaligned 3 = .ok (.iconst 3, 1) := by decide +kernel
theorem dMem_isMisaligned_4 : decode cMem_isMisaligned 4 = .ok (.iand, 1) := by decide +kernel
theorem dMem_isMisaligned_5 : decode cMem_isMisaligned 5 = .ok (.ishl, 1) := by decide +kernel
theorem dMem_isMisaligned_6 : decode cMem_isMisaligned 6 = .ok (.iconst 1, 1) := by decide +kernel
theorem dMem_isMisaligned_7 : decode cMem_isMisaligned 7 = .ok (.isub, 1) := by decide +kernel
theorem dMem_isMisaligned_8 : decode cMem_isMisaligned 8 = .ok (.iand, 1) := by decide +kernel
theorem dMem_isMisaligned_9 : decode cMem_isMisaligned 9 = .ok (.ifCond .eq 7, 3) := by decide +kernel
theorem dMem_isMisaligned_12 : decode cMem_isMisaligned 12 = .ok (.iconst 1, 1) := by decide +kernel
theorem dMem_isMisaligned_13 : decode cMem_isMisaligned 13 = .ok (.goto 4, 3) := by decide +kernel
theorem dMem_isMisaligned_16 : decode cMem_isMisaligned 16 = .ok (.iconst 0, 1) := by decide +kernel
theorem dMem_isMisaligned_17 : decode cMem_isMisaligned 17 = .ok (.ireturn, 1) := by decide +kernel
theorem dMem_allows_0 : decode cMem_allows 0 = .ok (.iload_n 2, 1) := by decide +kernel
theorem dMem_allows_1 : decode cMem_allows 1 = .ok (.invokestatic 21, 3) := by decide +kernel
theorem dMem_allows_4 : decode cMem_allows 4 = .ok (.ifCond .eq 21, 3) := by decide +kernel
theorem dMem_allows_7 : decode cMem_allows 7 = .ok (.aload_n 0, 1) := by decide +kernel
theorem dMem_allows_8 : decode cMem_allows 8 = .ok (.getfield 13, 3) := by decide +kernel
theorem dMem_allows_11 : decode cMem_allows 11 = .ok (.iload_n 2, 1) := by decide +kernel
theorem dMem_allows_12 : decode cMem_allows 12 = .ok (.bipush 10, 2) := by decide +kernel
theorem dMem_allows_14 : decode cMem_allows 14 = .ok (.iushr, 1) := by decide +kernel
theorem dMem_allows_15 : decode cMem_allows 15 = .ok (.iaload, 1) := by decide +kernel
theorem dMem_allows_16 : decode cMem_allows 16 = .ok (.iload_n 1, 1) := by decide +kernel
theorem dMem_allows_17 : decode cMem_allows 17 = .ok (.iand, 1) := by decide +kernel
theorem dMem_allows_18 : decode cMem_allows 18 = .ok (.ifCond .eq 7, 3) := by decide +kernel
theorem dMem_allows_21 : decode cMem_allows 21 = .ok (.iconst 1, 1) := by decide +kernel
theorem dMem_allows_22 : decode cMem_allows 22 = .ok (.goto 4, 3) := by decide +kernel
theorem dMem_allows_25 : decode cMem_allows 25 = .ok (.iconst 0, 1) := by decide +kernel
theorem dMem_allows_26 : decode cMem_allows 26 = .ok (.ireturn, 1) := by decide +kernel
theorem dMem_mayCarryOut_0 : decode cMem_mayCarryOut 0 = .ok (.iconst 1, 1) := by decide +kernel
theorem dMem_mayCarryOut_1 : decode cMem_mayCarryOut 1 = .ok (.iload_n 1, 1) := by decide +kernel
theorem dMem_mayCarryOut_2 : decode cMem_mayCarryOut 2 = .ok (.invokestatic 25, 3) := by decide +kernel
theorem dMem_mayCarryOut_5 : decode cMem_mayCarryOut 5 = .ok (.ifCond .ne 16, 3) := by decide +kernel
theorem dMem_mayCarryOut_8 : decode cMem_mayCarryOut 8 = .ok (.aload_n 0, 1) := by decide +kernel
theorem dMem_mayCarryOut_9 : decode cMem_mayCarryOut 9 = .ok (.iconst 4, 1) := by decide +kernel
theorem dMem_mayCarryOut_10 : decode cMem_mayCarryOut 10 = .ok (.iload_n 1, 1) := by decide +kernel
theorem dMem_mayCarryOut_11 : decode cMem_mayCarryOut 11 = .ok (.invokevirtual 29, 3) := by decide +kernel
theorem dMem_mayCarryOut_14 : decode cMem_mayCarryOut 14 = .ok (.ifCond .eq 7, 3) := by decide +kernel
theorem dMem_mayCarryOut_17 : decode cMem_mayCarryOut 17 = .ok (.iconst 1, 1) := by decide +kernel
theorem dMem_mayCarryOut_18 : decode cMem_mayCarryOut 18 = .ok (.goto 4, 3) := by decide +kernel
theorem dMem_mayCarryOut_21 : decode cMem_mayCarryOut 21 = .ok (.iconst 0, 1) := by decide +kernel
theorem dMem_mayCarryOut_22 : decode cMem_mayCarryOut 22 = .ok (.ireturn, 1) := by decide +kernel
theorem dMem_exchangeRights_0 : decode cMem_exchangeRights 0 = .ok (.aload_n 0, 1) := by decide +kernel
theorem dMem_exchangeRights_1 : decode cMem_exchangeRights 1 = .ok (.getfield 13, 3) := by decide +kernel
theorem dMem_exchangeRights_4 : decode cMem_exchangeRights 4 = .ok (.iload_n 1, 1) := by decide +kernel
theorem dMem_exchangeRights_5 : decode cMem_exchangeRights 5 = .ok (.iaload, 1) := by decide +kernel
theorem dMem_exchangeRights_6 : decode cMem_exchangeRights 6 = .ok (.istore_n 3, 1) := by decide +kernel
theorem dMem_exchangeRights_7 : decode cMem_exchangeRights 7 = .ok (.aload_n 0, 1) := by decide +kernel
theorem dMem_exchangeRights_8 : decode cMem_exchangeRights 8 = .ok (.getfield 13, 3) := by decide +kernel
theorem dMem_exchangeRights_11 : decode cMem_exchangeRights 11 = .ok (.iload_n 1, 1) := by decide +kernel
theorem dMem_exchangeRights_12 : decode cMem_exchangeRights 12 = .ok (.iload_n 2, 1) := by decide +kernel
theorem dMem_exchangeRights_13 : decode cMem_exchangeRights 13 = .ok (.iastore, 1) := by decide +kernel
theorem dMem_exchangeRights_14 : decode cMem_exchangeRights 14 = .ok (.iload_n 3, 1) := by decide +kernel
theorem dMem_exchangeRights_15 : decode cMem_exchangeRights 15 = .ok (.ireturn, 1) := by decide +kernel
theorem dMem_reservedAddress_0 : decode cMem_reservedAddress 0 = .ok (.aload_n 0, 1) := by decide +kernel
theorem dMem_reservedAddress_1 : decode cMem_reservedAddress 1 = .ok (.getfield 16, 3) := by decide +kernel
theorem dMem_reservedAddress_4 : decode cMem_reservedAddress 4 = .ok (.ireturn, 1) := by decide +kernel
theorem dMem_reserve_0 : decode cMem_reserve 0 = .ok (.aload_n 0, 1) := by decide +kernel
theorem dMem_reserve_1 : decode cMem_reserve 1 = .ok (.iload_n 1, 1) := by decide +kernel
theorem dMem_reserve_2 : decode cMem_reserve 2 = .ok (.putfield 16, 3) := by decide +kernel
theorem dMem_reserve_5 : decode cMem_reserve 5 = .ok (.return_, 1) := by decide +kernel
theorem dMem_read_0 : decode cMem_read 0 = .ok (.aload_n 0, 1) := by decide +kernel
theorem dMem_read_1 : decode cMem_read 1 = .ok (.getfield 9, 3) := by decide +kernel
theorem dMem_read_4 : decode cMem_read 4 = .ok (.iload_n 2, 1) := by decide +kernel
theorem dMem_read_5 : decode cMem_read 5 = .ok (.invokestatic 32, 3) := by decide +kernel
theorem dMem_read_8 : decode cMem_read 8 = .ok (.iaload, 1) := by decide +kernel
theorem dMem_read_9 : decode cMem_read 9 = .ok (.istore_n 3, 1) := by decide +kernel
theorem dMem_read_10 : decode cMem_read 10 = .ok (.iload_n 3, 1) := by decide +kernel
theorem dMem_read_11 : decode cMem_read 11 = .ok (.iload_n 2, 1) := by decide +kernel
theorem dMem_read_12 : decode cMem_read 12 = .ok (.invokestatic 36, 3) := by decide +kernel
theorem dMem_read_15 : decode cMem_read 15 = .ok (.iushr, 1) := by decide +kernel
theorem dMem_read_16 : decode cMem_read 16 = .ok (.istore 4, 2) := by decide +kernel
theorem dMem_read_18 : decode cMem_read 18 = .ok (.iload_n 1, 1) := by decide +kernel
theorem dMem_read_19 : decode cMem_read 19 = .ok (.tableswitch 58 0 5 #[37, 41, 58, 58, 45, 52], 37) := by decide +kernel
theorem dMem_read_56 : decode cMem_read 56 = .ok (.iload 4, 2) := by decide +kernel
theorem dMem_read_58 : decode cMem_read 58 = .ok (.i2b, 1) := by decide +kernel
theorem dMem_read_59 : decode cMem_read 59 = .ok (.ireturn, 1) := by decide +kernel
theorem dMem_read_60 : decode cMem_read 60 = .ok (.iload 4, 2) := by decide +kernel
theorem dMem_read_62 : decode cMem_read 62 = .ok (.i2s, 1) := by decide +kernel
theorem dMem_read_63 : decode cMem_read 63 = .ok (.ireturn, 1) := by decide +kernel
theorem dMem_read_64 : decode cMem_read 64 = .ok (.iload 4, 2) := by decide +kernel
theorem dMem_read_66 : decode cMem_read 66 = .ok (.sipush 255, 3) := by decide +kernel
theorem dMem_read_69 : decode cMem_read 69 = .ok (.iand, 1) := by decide +kernel
theorem dMem_read_70 : decode cMem_read 70 = .ok (.ireturn, 1) := by decide +kernel
theorem dMem_read_71 : decode cMem_read 71 = .ok (.iload 4, 2) := by decide +kernel
theorem dMem_read_73 : decode cMem_read 73 = .ok (.ldc 20, 2) := by decide +kernel
theorem dMem_read_75 : decode cMem_read 75 = .ok (.iand, 1) := by decide +kernel
theorem dMem_read_76 : decode cMem_read 76 = .ok (.ireturn, 1) := by decide +kernel
theorem dMem_read_77 : decode cMem_read 77 = .ok (.iload_n 3, 1) := by decide +kernel
theorem dMem_read_78 : decode cMem_read 78 = .ok (.ireturn, 1) := by decide +kernel
theorem dMem_write_0 : decode cMem_write 0 = .ok (.iload_n 2, 1) := by decide +kernel
theorem dMem_write_1 : decode cMem_write 1 = .ok (.invokestatic 32, 3) := by decide +kernel
theorem dMem_write_4 : decode cMem_write 4 = .ok (.istore 4, 2) := by decide +kernel
theorem dMem_write_6 : decode cMem_write 6 = .ok (.iload_n 1, 1) := by decide +kernel
theorem dMem_write_7 : decode cMem_write 7 = .ok (.invokestatic 39, 3) := by decide +kernel
theorem dMem_write_10 : decode cMem_write 10 = .ok (.iload_n 2, 1) := by decide +kernel
theorem dMem_write_11 : decode cMem_write 11 = .ok (.invokestatic 36, 3) := by decide +kernel
theorem dMem_write_14 : decode cMem_write 14 = .ok (.ishl, 1) := by decide +kernel
theorem dMem_write_15 : decode cMem_write 15 = .ok (.istore 5, 2) := by decide +kernel
theorem dMem_write_17 : decode cMem_write 17 = .ok (.aload_n 0, 1) := by decide +kernel
theorem dMem_write_18 : decode cMem_write 18 = .ok (.getfield 9, 3) := by decide +kernel
theorem dMem_write_21 : decode cMem_write 21 = .ok (.iload 4, 2) := by decide +kernel
theorem dMem_write_23 : decode cMem_write 23 = .ok (.aload_n 0, 1) := by decide +kernel
theorem dMem_write_24 : decode cMem_write 24 = .ok (.getfield 9, 3) := by decide +kernel
theorem dMem_write_27 : decode cMem_write 27 = .ok (.iload 4, 2) := by decide +kernel
theorem dMem_write_29 : decode cMem_write 29 = .ok (.iaload, 1) := by decide +kernel
theorem dMem_write_30 : decode cMem_write 30 = .ok (.iload 5, 2) := by decide +kernel
theorem dMem_write_32 : decode cMem_write 32 = .ok (.iconst (-1), 1) := by decide +kernel
theorem dMem_write_33 : decode cMem_write 33 = .ok (.ixor, 1) := by decide +kernel
theorem dMem_write_34 : decode cMem_write 34 = .ok (.iand, 1) := by decide +kernel
theorem dMem_write_35 : decode cMem_write 35 = .ok (.iload_n 3, 1) := by decide +kernel
theorem dMem_write_36 : decode cMem_write 36 = .ok (.iload_n 2, 1) := by decide +kernel
theorem dMem_write_37 : decode cMem_write 37 = .ok (.invokestatic 36, 3) := by decide +kernel
theorem dMem_write_40 : decode cMem_write 40 = .ok (.ishl, 1) := by decide +kernel
theorem dMem_write_41 : decode cMem_write 41 = .ok (.iload 5, 2) := by decide +kernel
theorem dMem_write_43 : decode cMem_write 43 = .ok (.iand, 1) := by decide +kernel
theorem dMem_write_44 : decode cMem_write 44 = .ok (.ior, 1) := by decide +kernel
theorem dMem_write_45 : decode cMem_write 45 = .ok (.iastore, 1) := by decide +kernel
theorem dMem_write_46 : decode cMem_write 46 = .ok (.aload_n 0, 1) := by decide +kernel
theorem dMem_write_47 : decode cMem_write 47 = .ok (.getfield 16, 3) := by decide +kernel
theorem dMem_write_50 : decode cMem_write 50 = .ok (.iload_n 2, 1) := by decide +kernel
theorem dMem_write_51 : decode cMem_write 51 = .ok (.bipush (-4), 2) := by decide +kernel
theorem dMem_write_53 : decode cMem_write 53 = .ok (.iand, 1) := by decide +kernel
theorem dMem_write_54 : decode cMem_write 54 = .ok (.if_icmp .ne 8, 3) := by decide +kernel
theorem dMem_write_57 : decode cMem_write 57 = .ok (.aload_n 0, 1) := by decide +kernel
theorem dMem_write_58 : decode cMem_write 58 = .ok (.iconst (-1), 1) := by decide +kernel
theorem dMem_write_59 : decode cMem_write 59 = .ok (.putfield 16, 3) := by decide +kernel
theorem dMem_write_62 : decode cMem_write 62 = .ok (.return_, 1) := by decide +kernel
theorem dMem_wordIndex_0 : decode cMem_wordIndex 0 = .ok (.iload_n 0, 1) := by decide +kernel
theorem dMem_wordIndex_1 : decode cMem_wordIndex 1 = .ok (.ldc 20, 2) := by decide +kernel
theorem dMem_wordIndex_3 : decode cMem_wordIndex 3 = .ok (.iand, 1) := by decide +kernel
theorem dMem_wordIndex_4 : decode cMem_wordIndex 4 = .ok (.iconst 2, 1) := by decide +kernel
theorem dMem_wordIndex_5 : decode cMem_wordIndex 5 = .ok (.iushr, 1) := by decide +kernel
theorem dMem_wordIndex_6 : decode cMem_wordIndex 6 = .ok (.ireturn, 1) := by decide +kernel
theorem dMem_shiftOf_0 : decode cMem_shiftOf 0 = .ok (.iload_n 0, 1) := by decide +kernel
theorem dMem_shiftOf_1 : decode cMem_shiftOf 1 = .ok (.iconst 3, 1) := by decide +kernel
theorem dMem_shiftOf_2 : decode cMem_shiftOf 2 = .ok (.iand, 1) := by decide +kernel
theorem dMem_shiftOf_3 : decode cMem_shiftOf 3 = .ok (.iconst 3, 1) := by decide +kernel
theorem dMem_shiftOf_4 : decode cMem_shiftOf 4 = .ok (.ishl, 1) := by decide +kernel
theorem dMem_shiftOf_5 : decode cMem_shiftOf 5 = .ok (.ireturn, 1) := by decide +kernel
theorem dMem_maskOf_0 : decode cMem_maskOf 0 = .ok (.iload_n 0, 1) := by decide +kernel
theorem dMem_maskOf_1 : decode cMem_maskOf 1 = .ok (.lookupswitch 34 #[(0, 27), (1, 31)], 27) := by decide +kernel
theorem dMem_maskOf_28 : decode cMem_maskOf 28 = .ok (.sipush 255, 3) := by decide +kernel
theorem dMem_maskOf_31 : decode cMem_maskOf 31 = .ok (.ireturn, 1) := by decide +kernel
theorem dMem_maskOf_32 : decode cMem_maskOf 32 = .ok (.ldc 20, 2) := by decide +kernel
theorem dMem_maskOf_34 : decode cMem_maskOf 34 = .ok (.ireturn, 1) := by decide +kernel
theorem dMem_maskOf_35 : decode cMem_maskOf 35 = .ok (.iconst (-1), 1) := by decide +kernel
theorem dMem_maskOf_36 : decode cMem_maskOf 36 = .ok (.ireturn, 1) := by decide +kernel
theorem dSF_f_0 : decode cSF_f 0 = .ok (.iload_n 0, 1) := by decide +kernel
theorem dSF_f_1 : decode cSF_f 1 = .ok (.bipush 13, 2) := by decide +kernel
theorem dSF_f_3 : decode cSF_f 3 = .ok (.iconst 3, 1) := by decide +kernel
theorem dSF_f_4 : decode cSF_f 4 = .ok (.invokestatic 7, 3) := by decide +kernel
theorem dSF_f_7 : decode cSF_f 7 = .ok (.ireturn, 1) := by decide +kernel
theorem dSF_bit12_0 : decode cSF_bit12 0 = .ok (.iload_n 0, 1) := by decide +kernel
theorem dSF_bit12_1 : decode cSF_bit12 1 = .ok (.bipush 12, 2) := by decide +kernel
theorem dSF_bit12_3 : decode cSF_bit12 3 = .ok (.iconst 1, 1) := by decide +kernel
theorem dSF_bit12_4 : decode cSF_bit12 4 = .ok (.invokestatic 7, 3) := by decide +kernel
theorem dSF_bit12_7 : decode cSF_bit12 7 = .ok (.ifCond .eq 7, 3) := by decide +kernel
theorem dSF_bit12_10 : decode cSF_bit12 10 = .ok (.iconst 1, 1) := by decide +kernel
theorem dSF_bit12_11 : decode cSF_bit12 11 = .ok (.goto 4, 3) := by decide +kernel
theorem dSF_bit12_14 : decode cSF_bit12 14 = .ok (.iconst 0, 1) := by decide +kernel
theorem dSF_bit12_15 : decode cSF_bit12 15 = .ok (.ireturn, 1) := by decide +kernel
theorem dSF_d_0 : decode cSF_d 0 = .ok (.iload_n 0, 1) := by decide +kernel
theorem dSF_d_1 : decode cSF_d 1 = .ok (.bipush 7, 2) := by decide +kernel
theorem dSF_d_3 : decode cSF_d 3 = .ok (.iconst 5, 1) := by decide +kernel
theorem dSF_d_4 : decode cSF_d 4 = .ok (.invokestatic 7, 3) := by decide +kernel
theorem dSF_d_7 : decode cSF_d 7 = .ok (.ireturn, 1) := by decide +kernel
theorem dSF_b_0 : decode cSF_b 0 = .ok (.iload_n 0, 1) := by decide +kernel
theorem dSF_b_1 : decode cSF_b 1 = .ok (.iconst 2, 1) := by decide +kernel
theorem dSF_b_2 : decode cSF_b 2 = .ok (.iconst 5, 1) := by decide +kernel
theorem dSF_b_3 : decode cSF_b 3 = .ok (.invokestatic 7, 3) := by decide +kernel
theorem dSF_b_6 : decode cSF_b 6 = .ok (.ireturn, 1) := by decide +kernel
theorem dSF_lowNear_0 : decode cSF_lowNear 0 = .ok (.bipush 8, 2) := by decide +kernel
theorem dSF_lowNear_2 : decode cSF_lowNear 2 = .ok (.iload_n 0, 1) := by decide +kernel
theorem dSF_lowNear_3 : decode cSF_lowNear 3 = .ok (.iconst 2, 1) := by decide +kernel
theorem dSF_lowNear_4 : decode cSF_lowNear 4 = .ok (.iconst 3, 1) := by decide +kernel
theorem dSF_lowNear_5 : decode cSF_lowNear 5 = .ok (.invokestatic 7, 3) := by decide +kernel
theorem dSF_lowNear_8 : decode cSF_lowNear 8 = .ok (.iadd, 1) := by decide +kernel
theorem dSF_lowNear_9 : decode cSF_lowNear 9 = .ok (.ireturn, 1) := by decide +kernel
theorem dSF_highNear_0 : decode cSF_highNear 0 = .ok (.bipush 8, 2) := by decide +kernel
theorem dSF_highNear_2 : decode cSF_highNear 2 = .ok (.iload_n 0, 1) := by decide +kernel
theorem dSF_highNear_3 : decode cSF_highNear 3 = .ok (.bipush 7, 2) := by decide +kernel
theorem dSF_highNear_5 : decode cSF_highNear 5 = .ok (.iconst 3, 1) := by decide +kernel
theorem dSF_highNear_6 : decode cSF_highNear 6 = .ok (.invokestatic 7, 3) := by decide +kernel
theorem dSF_highNear_9 : decode cSF_highNear 9 = .ok (.iadd, 1) := by decide +kernel
theorem dSF_highNear_10 : decode cSF_highNear 10 = .ok (.ireturn, 1) := by decide +kernel
theorem dSF_number_0 : decode cSF_number 0 = .ok (.iload_n 0, 1) := by decide +kernel
theorem dSF_number_1 : decode cSF_number 1 = .ok (.bipush 12, 2) := by decide +kernel
theorem dSF_number_3 : decode cSF_number 3 = .ok (.iconst 1, 1) := by decide +kernel
theorem dSF_number_4 : decode cSF_number 4 = .ok (.invokestatic 7, 3) := by decide +kernel
theorem dSF_number_7 : decode cSF_number 7 = .ok (.iconst 5, 1) := by decide +kernel
theorem dSF_number_8 : decode cSF_number 8 = .ok (.ishl, 1) := by decide +kernel
theorem dSF_number_9 : decode cSF_number 9 = .ok (.iload_n 0, 1) := by decide +kernel
theorem dSF_number_10 : decode cSF_number 10 = .ok (.iconst 2, 1) := by decide +kernel
theorem dSF_number_11 : decode cSF_number 11 = .ok (.iconst 5, 1) := by decide +kernel
theorem dSF_number_12 : decode cSF_number 12 = .ok (.invokestatic 7, 3) := by decide +kernel
theorem dSF_number_15 : decode cSF_number 15 = .ok (.ior, 1) := by decide +kernel
theorem dSF_number_16 : decode cSF_number 16 = .ok (.bipush 6, 2) := by decide +kernel
theorem dSF_number_18 : decode cSF_number 18 = .ok (.invokestatic 13, 3) := by decide +kernel
theorem dSF_number_21 : decode cSF_number 21 = .ok (.ireturn, 1) := by decide +kernel
theorem dSF_stackNumber_0 : decode cSF_stackNumber 0 = .ok (.iload_n 0, 1) := by decide +kernel
theorem dSF_stackNumber_1 : decode cSF_stackNumber 1 = .ok (.bipush 11, 2) := by decide +kernel
theorem dSF_stackNumber_3 : decode cSF_stackNumber 3 = .ok (.iconst 2, 1) := by decide +kernel
theorem dSF_stackNumber_4 : decode cSF_stackNumber 4 = .ok (.invokestatic 7, 3) := by decide +kernel
theorem dSF_stackNumber_7 : decode cSF_stackNumber 7 = .ok (.iconst 4, 1) := by decide +kernel
theorem dSF_stackNumber_8 : decode cSF_stackNumber 8 = .ok (.ishl, 1) := by decide +kernel
theorem dSF_stackNumber_9 : decode cSF_stackNumber 9 = .ok (.iload_n 0, 1) := by decide +kernel
theorem dSF_stackNumber_10 : decode cSF_stackNumber 10 = .ok (.bipush 7, 2) := by decide +kernel
theorem dSF_stackNumber_12 : decode cSF_stackNumber 12 = .ok (.iconst 4, 1) := by decide +kernel
theorem dSF_stackNumber_13 : decode cSF_stackNumber 13 = .ok (.invokestatic 7, 3) := by decide +kernel
theorem dSF_stackNumber_16 : decode cSF_stackNumber 16 = .ok (.bipush 6, 2) := by decide +kernel
theorem dSF_stackNumber_18 : decode cSF_stackNumber 18 = .ok (.ishl, 1) := by decide +kernel
theorem dSF_stackNumber_19 : decode cSF_stackNumber 19 = .ok (.ior, 1) := by decide +kernel
theorem dSF_stackNumber_20 : decode cSF_stackNumber 20 = .ok (.iload_n 0, 1) := by decide +kernel
theorem dSF_stackNumber_21 : decode cSF_stackNumber 21 = .ok (.bipush 6, 2) := by decide +kernel
theorem dSF_stackNumber_23 : decode cSF_stackNumber 23 = .ok (.iconst 1, 1) := by decide +kernel
theorem dSF_stackNumber_24 : decode cSF_stackNumber 24 = .ok (.invokestatic 7, 3) := by decide +kernel
theorem dSF_stackNumber_27 : decode cSF_stackNumber 27 = .ok (.iconst 2, 1) := by decide +kernel
theorem dSF_stackNumber_28 : decode cSF_stackNumber 28 = .ok (.ishl, 1) := by decide +kernel
theorem dSF_stackNumber_29 : decode cSF_stackNumber 29 = .ok (.ior, 1) := by decide +kernel
theorem dSF_stackNumber_30 : decode cSF_stackNumber 30 = .ok (.iload_n 0, 1) := by decide +kernel
theorem dSF_stackNumber_31 : decode cSF_stackNumber 31 = .ok (.iconst 5, 1) := by decide +kernel
theorem dSF_stackNumber_32 : decode cSF_stackNumber 32 = .ok (.iconst 1, 1) := by decide +kernel
theorem dSF_stackNumber_33 : decode cSF_stackNumber 33 = .ok (.invokestatic 7, 3) := by decide +kernel
theorem dSF_stackNumber_36 : decode cSF_stackNumber 36 = .ok (.iconst 3, 1) := by decide +kernel
theorem dSF_stackNumber_37 : decode cSF_stackNumber 37 = .ok (.ishl, 1) := by decide +kernel
theorem dSF_stackNumber_38 : decode cSF_stackNumber 38 = .ok (.ior, 1) := by decide +kernel
theorem dSF_stackNumber_39 : decode cSF_stackNumber 39 = .ok (.ireturn, 1) := by decide +kernel
theorem dSF_nearOffset_0 : decode cSF_nearOffset 0 = .ok (.iload_n 0, 1) := by decide +kernel
theorem dSF_nearOffset_1 : decode cSF_nearOffset 1 = .ok (.bipush 10, 2) := by decide +kernel
theorem dSF_nearOffset_3 : decode cSF_nearOffset 3 = .ok (.iconst 3, 1) := by decide +kernel
theorem dSF_nearOffset_4 : decode cSF_nearOffset 4 = .ok (.invokestatic 7, 3) := by decide +kernel
theorem dSF_nearOffset_7 : decode cSF_nearOffset 7 = .ok (.iconst 3, 1) := by decide +kernel
theorem dSF_nearOffset_8 : decode cSF_nearOffset 8 = .ok (.ishl, 1) := by decide +kernel
theorem dSF_nearOffset_9 : decode cSF_nearOffset 9 = .ok (.iload_n 0, 1) := by decide +kernel
theorem dSF_nearOffset_10 : decode cSF_nearOffset 10 = .ok (.bipush 6, 2) := by decide +kernel
theorem dSF_nearOffset_12 : decode cSF_nearOffset 12 = .ok (.iconst 1, 1) := by decide +kernel
theorem dSF_nearOffset_13 : decode cSF_nearOffset 13 = .ok (.invokestatic 7, 3) := by decide +kernel
theorem dSF_nearOffset_16 : decode cSF_nearOffset 16 = .ok (.iconst 2, 1) := by decide +kernel
theorem dSF_nearOffset_17 : decode cSF_nearOffset 17 = .ok (.ishl, 1) := by decide +kernel
theorem dSF_nearOffset_18 : decode cSF_nearOffset 18 = .ok (.ior, 1) := by decide +kernel
theorem dSF_nearOffset_19 : decode cSF_nearOffset 19 = .ok (.iload_n 0, 1) := by decide +kernel
theorem dSF_nearOffset_20 : decode cSF_nearOffset 20 = .ok (.iconst 5, 1) := by decide +kernel
theorem dSF_nearOffset_21 : decode cSF_nearOffset 21 = .ok (.iconst 1, 1) := by decide +kernel
theorem dSF_nearOffset_22 : decode cSF_nearOffset 22 = .ok (.invokestatic 7, 3) := by decide +kernel
theorem dSF_nearOffset_25 : decode cSF_nearOffset 25 = .ok (.bipush 6, 2) := by decide +kernel
theorem dSF_nearOffset_27 : decode cSF_nearOffset 27 = .ok (.ishl, 1) := by decide +kernel
theorem dSF_nearOffset_28 : decode cSF_nearOffset 28 = .ok (.ior, 1) := by decide +kernel
theorem dSF_nearOffset_29 : decode cSF_nearOffset 29 = .ok (.ireturn, 1) := by decide +kernel
theorem dSF_offsetJ_0 : decode cSF_offsetJ 0 = .ok (.iload_n 0, 1) := by decide +kernel
theorem dSF_offsetJ_1 : decode cSF_offsetJ 1 = .ok (.bipush 12, 2) := by decide +kernel
theorem dSF_offsetJ_3 : decode cSF_offsetJ 3 = .ok (.iconst 1, 1) := by decide +kernel
theorem dSF_offsetJ_4 : decode cSF_offsetJ 4 = .ok (.invokestatic 7, 3) := by decide +kernel
theorem dSF_offsetJ_7 : decode cSF_offsetJ 7 = .ok (.bipush 11, 2) := by decide +kernel
theorem dSF_offsetJ_9 : decode cSF_offsetJ 9 = .ok (.ishl, 1) := by decide +kernel
theorem dSF_offsetJ_10 : decode cSF_offsetJ 10 = .ok (.iload_n 0, 1) := by decide +kernel
theorem dSF_offsetJ_11 : decode cSF_offsetJ 11 = .ok (.bipush 11, 2) := by decide +kernel
theorem dSF_offsetJ_13 : decode cSF_offsetJ 13 = .ok (.iconst 1, 1) := by decide +kernel
theorem dSF_offsetJ_14 : decode cSF_offsetJ 14 = .ok (.invokestatic 7, 3) := by decide +kernel
theorem dSF_offsetJ_17 : decode cSF_offsetJ 17 = .ok (.iconst 4, 1) := by decide +kernel
theorem dSF_offsetJ_18 : decode cSF_offsetJ 18 = .ok (.ishl, 1) := by decide +kernel
theorem dSF_offsetJ_19 : decode cSF_offsetJ 19 = .ok (.ior, 1) := by decide +kernel
theorem dSF_offsetJ_20 : decode cSF_offsetJ 20 = .ok (.iload_n 0, 1) := by decide +kernel
theorem dSF_offsetJ_21 : decode cSF_offsetJ 21 = .ok (.bipush 9, 2) := by decide +kernel
theorem dSF_offsetJ_23 : decode cSF_offsetJ 23 = .ok (.iconst 2, 1) := by decide +kernel
theorem dSF_offsetJ_24 : decode cSF_offsetJ 24 = .ok (.invokestatic 7, 3) := by decide +kernel
theorem dSF_offsetJ_27 : decode cSF_offsetJ 27 = .ok (.bipush 8, 2) := by decide +kernel
theorem dSF_offsetJ_29 : decode cSF_offsetJ 29 = .ok (.ishl, 1) := by decide +kernel
theorem dSF_offsetJ_30 : decode cSF_offsetJ 30 = .ok (.ior, 1) := by decide +kernel
theorem dSF_offsetJ_31 : decode cSF_offsetJ 31 = .ok (.iload_n 0, 1) := by decide +kernel
theorem dSF_offsetJ_32 : decode cSF_offsetJ 32 = .ok (.bipush 8, 2) := by decide +kernel
theorem dSF_offsetJ_34 : decode cSF_offsetJ 34 = .ok (.iconst 1, 1) := by decide +kernel
theorem dSF_offsetJ_35 : decode cSF_offsetJ 35 = .ok (.invokestatic 7, 3) := by decide +kernel
theorem dSF_offsetJ_38 : decode cSF_offsetJ 38 = .ok (.bipush 10, 2) := by decide +kernel
theorem dSF_offsetJ_40 : decode cSF_offsetJ 40 = .ok (.ishl, 1) := by decide +kernel
theorem dSF_offsetJ_41 : decode cSF_offsetJ 41 = .ok (.ior, 1) := by decide +kernel
theorem dSF_offsetJ_42 : decode cSF_offsetJ 42 = .ok (.iload_n 0, 1) := by decide +kernel
theorem dSF_offsetJ_43 : decode cSF_offsetJ 43 = .ok (.bipush 7, 2) := by decide +kernel
theorem dSF_offsetJ_45 : decode cSF_offsetJ 45 = .ok (.iconst 1, 1) := by decide +kernel
theorem dSF_offsetJ_46 : decode cSF_offsetJ 46 = .ok (.invokestatic 7, 3) := by decide +kernel
theorem dSF_offsetJ_49 : decode cSF_offsetJ 49 = .ok (.bipush 6, 2) := by decide +kernel
theorem dSF_offsetJ_51 : decode cSF_offsetJ 51 = .ok (.ishl, 1) := by decide +kernel
theorem dSF_offsetJ_52 : decode cSF_offsetJ 52 = .ok (.ior, 1) := by decide +kernel
theorem dSF_offsetJ_53 : decode cSF_offsetJ 53 = .ok (.iload_n 0, 1) := by decide +kernel
theorem dSF_offsetJ_54 : decode cSF_offsetJ 54 = .ok (.bipush 6, 2) := by decide +kernel
theorem dSF_offsetJ_56 : decode cSF_offsetJ 56 = .ok (.iconst 1, 1) := by decide +kernel
theorem dSF_offsetJ_57 : decode cSF_offsetJ 57 = .ok (.invokestatic 7, 3) := by decide +kernel
theorem dSF_offsetJ_60 : decode cSF_offsetJ 60 = .ok (.bipush 7, 2) := by decide +kernel
theorem dSF_offsetJ_62 : decode cSF_offsetJ 62 = .ok (.ishl, 1) := by decide +kernel
theorem dSF_offsetJ_63 : decode cSF_offsetJ 63 = .ok (.ior, 1) := by decide +kernel
theorem dSF_offsetJ_64 : decode cSF_offsetJ 64 = .ok (.iload_n 0, 1) := by decide +kernel
theorem dSF_offsetJ_65 : decode cSF_offsetJ 65 = .ok (.iconst 3, 1) := by decide +kernel
theorem dSF_offsetJ_66 : decode cSF_offsetJ 66 = .ok (.iconst 3, 1) := by decide +kernel
theorem dSF_offsetJ_67 : decode cSF_offsetJ 67 = .ok (.invokestatic 7, 3) := by decide +kernel
theorem dSF_offsetJ_70 : decode cSF_offsetJ 70 = .ok (.iconst 1, 1) := by decide +kernel
theorem dSF_offsetJ_71 : decode cSF_offsetJ 71 = .ok (.ishl, 1) := by decide +kernel
theorem dSF_offsetJ_72 : decode cSF_offsetJ 72 = .ok (.ior, 1) := by decide +kernel
theorem dSF_offsetJ_73 : decode cSF_offsetJ 73 = .ok (.iload_n 0, 1) := by decide +kernel
theorem dSF_offsetJ_74 : decode cSF_offsetJ 74 = .ok (.iconst 2, 1) := by decide +kernel
theorem dSF_offsetJ_75 : decode cSF_offsetJ 75 = .ok (.iconst 1, 1) := by decide +kernel
theorem dSF_offsetJ_76 : decode cSF_offsetJ 76 = .ok (.invokestatic 7, 3) := by decide +kernel
theorem dSF_offsetJ_79 : decode cSF_offsetJ 79 = .ok (.iconst 5, 1) := by decide +kernel
theorem dSF_offsetJ_80 : decode cSF_offsetJ 80 = .ok (.ishl, 1) := by decide +kernel
theorem dSF_offsetJ_81 : decode cSF_offsetJ 81 = .ok (.ior, 1) := by decide +kernel
theorem dSF_offsetJ_82 : decode cSF_offsetJ 82 = .ok (.istore_n 1, 1) := by decide +kernel
theorem dSF_offsetJ_83 : decode cSF_offsetJ 83 = .ok (.iload_n 1, 1) := by decide +kernel
theorem dSF_offsetJ_84 : decode cSF_offsetJ 84 = .ok (.bipush 12, 2) := by decide +kernel
theorem dSF_offsetJ_86 : decode cSF_offsetJ 86 = .ok (.invokestatic 13, 3) := by decide +kernel
theorem dSF_offsetJ_89 : decode cSF_offsetJ 89 = .ok (.ireturn, 1) := by decide +kernel
theorem dSF_stackMove_0 : decode cSF_stackMove 0 = .ok (.iload_n 0, 1) := by decide +kernel
theorem dSF_stackMove_1 : decode cSF_stackMove 1 = .ok (.bipush 12, 2) := by decide +kernel
theorem dSF_stackMove_3 : decode cSF_stackMove 3 = .ok (.iconst 1, 1) := by decide +kernel
theorem dSF_stackMove_4 : decode cSF_stackMove 4 = .ok (.invokestatic 7, 3) := by decide +kernel
theorem dSF_stackMove_7 : decode cSF_stackMove 7 = .ok (.bipush 9, 2) := by decide +kernel
theorem dSF_stackMove_9 : decode cSF_stackMove 9 = .ok (.ishl, 1) := by decide +kernel
theorem dSF_stackMove_10 : decode cSF_stackMove 10 = .ok (.iload_n 0, 1) := by decide +kernel
theorem dSF_stackMove_11 : decode cSF_stackMove 11 = .ok (.bipush 6, 2) := by decide +kernel
theorem dSF_stackMove_13 : decode cSF_stackMove 13 = .ok (.iconst 1, 1) := by decide +kernel
theorem dSF_stackMove_14 : decode cSF_stackMove 14 = .ok (.invokestatic 7, 3) := by decide +kernel
theorem dSF_stackMove_17 : decode cSF_stackMove 17 = .ok (.iconst 4, 1) := by decide +kernel
theorem dSF_stackMove_18 : decode cSF_stackMove 18 = .ok (.ishl, 1) := by decide +kernel
theorem dSF_stackMove_19 : decode cSF_stackMove 19 = .ok (.ior, 1) := by decide +kernel
theorem dSF_stackMove_20 : decode cSF_stackMove 20 = .ok (.iload_n 0, 1) := by decide +kernel
theorem dSF_stackMove_21 : decode cSF_stackMove 21 = .ok (.iconst 5, 1) := by decide +kernel
theorem dSF_stackMove_22 : decode cSF_stackMove 22 = .ok (.iconst 1, 1) := by decide +kernel
theorem dSF_stackMove_23 : decode cSF_stackMove 23 = .ok (.invokestatic 7, 3) := by decide +kernel
theorem dSF_stackMove_26 : decode cSF_stackMove 26 = .ok (.bipush 6, 2) := by decide +kernel
theorem dSF_stackMove_28 : decode cSF_stackMove 28 = .ok (.ishl, 1) := by decide +kernel
theorem dSF_stackMove_29 : decode cSF_stackMove 29 = .ok (.ior, 1) := by decide +kernel
theorem dSF_stackMove_30 : decode cSF_stackMove 30 = .ok (.iload_n 0, 1) := by decide +kernel
theorem dSF_stackMove_31 : decode cSF_stackMove 31 = .ok (.iconst 3, 1) := by decide +kernel
theorem dSF_stackMove_32 : decode cSF_stackMove 32 = .ok (.iconst 2, 1) := by decide +kernel
theorem dSF_stackMove_33 : decode cSF_stackMove 33 = .ok (.invokestatic 7, 3) := by decide +kernel
theorem dSF_stackMove_36 : decode cSF_stackMove 36 = .ok (.bipush 7, 2) := by decide +kernel
theorem dSF_stackMove_38 : decode cSF_stackMove 38 = .ok (.ishl, 1) := by decide +kernel
theorem dSF_stackMove_39 : decode cSF_stackMove 39 = .ok (.ior, 1) := by decide +kernel
theorem dSF_stackMove_40 : decode cSF_stackMove 40 = .ok (.iload_n 0, 1) := by decide +kernel
theorem dSF_stackMove_41 : decode cSF_stackMove 41 = .ok (.iconst 2, 1) := by decide +kernel
theorem dSF_stackMove_42 : decode cSF_stackMove 42 = .ok (.iconst 1, 1) := by decide +kernel
theorem dSF_stackMove_43 : decode cSF_stackMove 43 = .ok (.invokestatic 7, 3) := by decide +kernel
theorem dSF_stackMove_46 : decode cSF_stackMove 46 = .ok (.iconst 5, 1) := by decide +kernel
theorem dSF_stackMove_47 : decode cSF_stackMove 47 = .ok (.ishl, 1) := by decide +kernel
theorem dSF_stackMove_48 : decode cSF_stackMove 48 = .ok (.ior, 1) := by decide +kernel
theorem dSF_stackMove_49 : decode cSF_stackMove 49 = .ok (.istore_n 1, 1) := by decide +kernel
theorem dSF_stackMove_50 : decode cSF_stackMove 50 = .ok (.iload_n 1, 1) := by decide +kernel
theorem dSF_stackMove_51 : decode cSF_stackMove 51 = .ok (.bipush 10, 2) := by decide +kernel
theorem dSF_stackMove_53 : decode cSF_stackMove 53 = .ok (.invokestatic 13, 3) := by decide +kernel
theorem dSF_stackMove_56 : decode cSF_stackMove 56 = .ok (.ireturn, 1) := by decide +kernel
theorem dSF_offsetT_0 : decode cSF_offsetT 0 = .ok (.iload_n 0, 1) := by decide +kernel
theorem dSF_offsetT_1 : decode cSF_offsetT 1 = .ok (.bipush 12, 2) := by decide +kernel
theorem dSF_offsetT_3 : decode cSF_offsetT 3 = .ok (.iconst 1, 1) := by decide +kernel
theorem dSF_offsetT_4 : decode cSF_offsetT 4 = .ok (.invokestatic 7, 3) := by decide +kernel
theorem dSF_offsetT_7 : decode cSF_offsetT 7 = .ok (.bipush 8, 2) := by decide +kernel
theorem dSF_offsetT_9 : decode cSF_offsetT 9 = .ok (.ishl, 1) := by decide +kernel
theorem dSF_offsetT_10 : decode cSF_offsetT 10 = .ok (.iload_n 0, 1) := by decide +kernel
theorem dSF_offsetT_11 : decode cSF_offsetT 11 = .ok (.bipush 10, 2) := by decide +kernel
theorem dSF_offsetT_13 : decode cSF_offsetT 13 = .ok (.iconst 2, 1) := by decide +kernel
theorem dSF_offsetT_14 : decode cSF_offsetT 14 = .ok (.invokestatic 7, 3) := by decide +kernel
theorem dSF_offsetT_17 : decode cSF_offsetT 17 = .ok (.iconst 3, 1) := by decide +kernel
theorem dSF_offsetT_18 : decode cSF_offsetT 18 = .ok (.ishl, 1) := by decide +kernel
theorem dSF_offsetT_19 : decode cSF_offsetT 19 = .ok (.ior, 1) := by decide +kernel
theorem dSF_offsetT_20 : decode cSF_offsetT 20 = .ok (.iload_n 0, 1) := by decide +kernel
theorem dSF_offsetT_21 : decode cSF_offsetT 21 = .ok (.iconst 5, 1) := by decide +kernel
theorem dSF_offsetT_22 : decode cSF_offsetT 22 = .ok (.iconst 2, 1) := by decide +kernel
theorem dSF_offsetT_23 : decode cSF_offsetT 23 = .ok (.invokestatic 7, 3) := by decide +kernel
theorem dSF_offsetT_26 : decode cSF_offsetT 26 = .ok (.bipush 6, 2) := by decide +kernel
theorem dSF_offsetT_28 : decode cSF_offsetT 28 = .ok (.ishl, 1) := by decide +kernel
theorem dSF_offsetT_29 : decode cSF_offsetT 29 = .ok (.ior, 1) := by decide +kernel
theorem dSF_offsetT_30 : decode cSF_offsetT 30 = .ok (.iload_n 0, 1) := by decide +kernel
theorem dSF_offsetT_31 : decode cSF_offsetT 31 = .ok (.iconst 3, 1) := by decide +kernel
theorem dSF_offsetT_32 : decode cSF_offsetT 32 = .ok (.iconst 2, 1) := by decide +kernel
theorem dSF_offsetT_33 : decode cSF_offsetT 33 = .ok (.invokestatic 7, 3) := by decide +kernel
theorem dSF_offsetT_36 : decode cSF_offsetT 36 = .ok (.iconst 1, 1) := by decide +kernel
theorem dSF_offsetT_37 : decode cSF_offsetT 37 = .ok (.ishl, 1) := by decide +kernel
theorem dSF_offsetT_38 : decode cSF_offsetT 38 = .ok (.ior, 1) := by decide +kernel
theorem dSF_offsetT_39 : decode cSF_offsetT 39 = .ok (.iload_n 0, 1) := by decide +kernel
theorem dSF_offsetT_40 : decode cSF_offsetT 40 = .ok (.iconst 2, 1) := by decide +kernel
theorem dSF_offsetT_41 : decode cSF_offsetT 41 = .ok (.iconst 1, 1) := by decide +kernel
theorem dSF_offsetT_42 : decode cSF_offsetT 42 = .ok (.invokestatic 7, 3) := by decide +kernel
theorem dSF_offsetT_45 : decode cSF_offsetT 45 = .ok (.iconst 5, 1) := by decide +kernel
theorem dSF_offsetT_46 : decode cSF_offsetT 46 = .ok (.ishl, 1) := by decide +kernel
theorem dSF_offsetT_47 : decode cSF_offsetT 47 = .ok (.ior, 1) := by decide +kernel
theorem dSF_offsetT_48 : decode cSF_offsetT 48 = .ok (.istore_n 1, 1) := by decide +kernel
theorem dSF_offsetT_49 : decode cSF_offsetT 49 = .ok (.iload_n 1, 1) := by decide +kernel
theorem dSF_offsetT_50 : decode cSF_offsetT 50 = .ok (.bipush 9, 2) := by decide +kernel
theorem dSF_offsetT_52 : decode cSF_offsetT 52 = .ok (.invokestatic 13, 3) := by decide +kernel
theorem dSF_offsetT_55 : decode cSF_offsetT 55 = .ok (.ireturn, 1) := by decide +kernel
theorem dSF_stackLoadOffset_0 : decode cSF_stackLoadOffset 0 = .ok (.iload_n 0, 1) := by decide +kernel
theorem dSF_stackLoadOffset_1 : decode cSF_stackLoadOffset 1 = .ok (.bipush 12, 2) := by decide +kernel
theorem dSF_stackLoadOffset_3 : decode cSF_stackLoadOffset 3 = .ok (.iconst 1, 1) := by decide +kernel
theorem dSF_stackLoadOffset_4 : decode cSF_stackLoadOffset 4 = .ok (.invokestatic 7, 3) := by decide +kernel
theorem dSF_stackLoadOffset_7 : decode cSF_stackLoadOffset 7 = .ok (.iconst 5, 1) := by decide +kernel
theorem dSF_stackLoadOffset_8 : decode cSF_stackLoadOffset 8 = .ok (.ishl, 1) := by decide +kernel
theorem dSF_stackLoadOffset_9 : decode cSF_stackLoadOffset 9 = .ok (.iload_n 0, 1) := by decide +kernel
theorem dSF_stackLoadOffset_10 : decode cSF_stackLoadOffset 10 = .ok (.iconst 4, 1) := by decide +kernel
theorem dSF_stackLoadOffset_11 : decode cSF_stackLoadOffset 11 = .ok (.iconst 3, 1) := by decide +kernel
theorem dSF_stackLoadOffset_12 : decode cSF_stackLoadOffset 12 = .ok (.invokestatic 7, 3) := by decide +kernel
theorem dSF_stackLoadOffset_15 : decode cSF_stackLoadOffset 15 = .ok (.iconst 2, 1) := by decide +kernel
theorem dSF_stackLoadOffset_16 : decode cSF_stackLoadOffset 16 = .ok (.ishl, 1) := by decide +kernel
theorem dSF_stackLoadOffset_17 : decode cSF_stackLoadOffset 17 = .ok (.ior, 1) := by decide +kernel
theorem dSF_stackLoadOffset_18 : decode cSF_stackLoadOffset 18 = .ok (.iload_n 0, 1) := by decide +kernel
theorem dSF_stackLoadOffset_19 : decode cSF_stackLoadOffset 19 = .ok (.iconst 2, 1) := by decide +kernel
theorem dSF_stackLoadOffset_20 : decode cSF_stackLoadOffset 20 = .ok (.iconst 2, 1) := by decide +kernel
theorem dSF_stackLoadOffset_21 : decode cSF_stackLoadOffset 21 = .ok (.invokestatic 7, 3) := by decide +kernel
theorem dSF_stackLoadOffset_24 : decode cSF_stackLoadOffset 24 = .ok (.bipush 6, 2) := by decide +kernel
theorem dSF_stackLoadOffset_26 : decode cSF_stackLoadOffset 26 = .ok (.ishl, 1) := by decide +kernel
theorem dSF_stackLoadOffset_27 : decode cSF_stackLoadOffset 27 = .ok (.ior, 1) := by decide +kernel
theorem dSF_stackLoadOffset_28 : decode cSF_stackLoadOffset 28 = .ok (.ireturn, 1) := by decide +kernel
theorem dSF_stackStoreOffset_0 : decode cSF_stackStoreOffset 0 = .ok (.iload_n 0, 1) := by decide +kernel
theorem dSF_stackStoreOffset_1 : decode cSF_stackStoreOffset 1 = .ok (.bipush 9, 2) := by decide +kernel
theorem dSF_stackStoreOffset_3 : decode cSF_stackStoreOffset 3 = .ok (.iconst 4, 1) := by decide +kernel
theorem dSF_stackStoreOffset_4 : decode cSF_stackStoreOffset 4 = .ok (.invokestatic 7, 3) := by decide +kernel
theorem dSF_stackStoreOffset_7 : decode cSF_stackStoreOffset 7 = .ok (.iconst 2, 1) := by decide +kernel
theorem dSF_stackStoreOffset_8 : decode cSF_stackStoreOffset 8 = .ok (.ishl, 1) := by decide +kernel
theorem dSF_stackStoreOffset_9 : decode cSF_stackStoreOffset 9 = .ok (.iload_n 0, 1) := by decide +kernel
theorem dSF_stackStoreOffset_10 : decode cSF_stackStoreOffset 10 = .ok (.bipush 7, 2) := by decide +kernel
theorem dSF_stackStoreOffset_12 : decode cSF_stackStoreOffset 12 = .ok (.iconst 2, 1) := by decide +kernel
theorem dSF_stackStoreOffset_13 : decode cSF_stackStoreOffset 13 = .ok (.invokestatic 7, 3) := by decide +kernel
theorem dSF_stackStoreOffset_16 : decode cSF_stackStoreOffset 16 = .ok (.bipush 6, 2) := by decide +kernel
theorem dSF_stackStoreOffset_18 : decode cSF_stackStoreOffset 18 = .ok (.ishl, 1) := by decide +kernel
theorem dSF_stackStoreOffset_19 : decode cSF_stackStoreOffset 19 = .ok (.ior, 1) := by decide +kernel
theorem dSF_stackStoreOffset_20 : decode cSF_stackStoreOffset 20 = .ok (.ireturn, 1) := by decide +kernel
end
section
theorem dHart_init_0 : decode cHart_init 0 = .ok (.aload_n 0, 1) := by decide +kernel
theorem dHart_init_1 : decode cHart_init 1 = .ok (.invokespecial 1, 3) := by decide +kernel
theorem dHart_init_4 : decode cHart_init 4 = .ok (.aload_n 0, 1) := by decide +kernel
theorem dHart_init_5 : decode cHart_init 5 = .ok (.new 7, 3) := by decide +kernel
theorem dHart_init_8 : decode cHart_init 8 = .ok (.dup, 1) := by decide +kernel
theorem dHart_init_9 : decode cHart_init 9 = .ok (.invokespecial 9, 3) := by decide +kernel
theorem dHart_init_12 : decode cHart_init 12 = .ok (.putfield 10, 3) := by decide +kernel
theorem dHart_init_15 : decode cHart_init 15 = .ok (.aload_n 0, 1) := by decide +kernel
theorem dHart_init_16 : decode cHart_init 16 = .ok (.bipush 32, 2) := by decide +kernel
theorem dHart_init_18 : decode cHart_init 18 = .ok (.newarray .int, 2) := by decide +kernel
theorem dHart_init_20 : decode cHart_init 20 = .ok (.putfield 16, 3) := by decide +kernel
theorem dHart_init_23 : decode cHart_init 23 = .ok (.return_, 1) := by decide +kernel
theorem dHart_poke_0 : decode cHart_poke 0 = .ok (.iload_n 1, 1) := by decide +kernel
theorem dHart_poke_1 : decode cHart_poke 1 = .ok (.invokestatic 20, 3) := by decide +kernel
theorem dHart_poke_4 : decode cHart_poke 4 = .ok (.ifCond .ne 13, 3) := by decide +kernel
theorem dHart_poke_7 : decode cHart_poke 7 = .ok (.new 24, 3) := by decide +kernel
theorem dHart_poke_10 : decode cHart_poke 10 = .ok (.dup, 1) := by decide +kernel
theorem dHart_poke_11 : decode cHart_poke 11 = .ok (.ldc 26, 2) := by decide +kernel
theorem dHart_poke_13 : decode cHart_poke 13 = .ok (.invokespecial 28, 3) := by decide +kernel
theorem dHart_poke_16 : decode cHart_poke 16 = .ok (.athrow, 1) := by decide +kernel
theorem dHart_poke_17 : decode cHart_poke 17 = .ok (.aload_n 0, 1) := by decide +kernel
theorem dHart_poke_18 : decode cHart_poke 18 = .ok (.getfield 10, 3) := by decide +kernel
theorem dHart_poke_21 : decode cHart_poke 21 = .ok (.iconst 0, 1) := by decide +kernel
theorem dHart_poke_22 : decode cHart_poke 22 = .ok (.iload_n 1, 1) := by decide +kernel
theorem dHart_poke_23 : decode cHart_poke 23 = .ok (.iload_n 2, 1) := by decide +kernel
theorem dHart_poke_24 : decode cHart_poke 24 = .ok (.invokevirtual 31, 3) := by decide +kernel
theorem dHart_poke_27 : decode cHart_poke 27 = .ok (.return_, 1) := by decide +kernel
theorem dHart_plant_0 : decode cHart_plant 0 = .ok (.iload_n 1, 1) := by decide +kernel
theorem dHart_plant_1 : decode cHart_plant 1 = .ok (.invokestatic 20, 3) := by decide +kernel
theorem dHart_plant_4 : decode cHart_plant 4 = .ok (.ifCond .eq 11, 3) := by decide +kernel
theorem dHart_plant_7 : decode cHart_plant 7 = .ok (.iconst 2, 1) := by decide +kernel
theorem dHart_plant_8 : decode cHart_plant 8 = .ok (.iload_n 1, 1) := by decide +kernel
theorem dHart_plant_9 : decode cHart_plant 9 = .ok (.invokestatic 35, 3) := by decide +kernel
theorem dHart_plant_12 : decode cHart_plant 12 = .ok (.ifCond .eq 13, 3) := by decide +kernel
theorem dHart_plant_15 : decode cHart_plant 15 = .ok (.new 24, 3) := by decide +kernel
theorem dHart_plant_18 : decode cHart_plant 18 = .ok (.dup, 1) := by decide +kernel
theorem dHart_plant_19 : decode cHart_plant 19 = .ok (.ldc 39, 2) := by decide +kernel
theorem dHart_plant_21 : decode cHart_plant 21 = .ok (.invokespecial 28, 3) := by decide +kernel
theorem dHart_plant_24 : decode cHart_plant 24 = .ok (.athrow, 1) := by decide +kernel
theorem dHart_plant_25 : decode cHart_plant 25 = .ok (.aload_n 0, 1) := by decide +kernel
theorem dHart_plant_26 : decode cHart_plant 26 = .ok (.getfield 10, 3) := by decide +kernel
theorem dHart_plant_29 : decode cHart_plant 29 = .ok (.iconst 2, 1) := by decide +kernel
theorem dHart_plant_30 : decode cHart_plant 30 = .ok (.iload_n 1, 1) := by decide +kernel
theorem dHart_plant_31 : decode cHart_plant 31 = .ok (.iload_n 2, 1) := by decide +kernel
theorem dHart_plant_32 : decode cHart_plant 32 = .ok (.invokevirtual 31, 3) := by decide +kernel
theorem dHart_plant_35 : decode cHart_plant 35 = .ok (.return_, 1) := by decide +kernel
theorem dHart_peek_0 : decode cHart_peek 0 = .ok (.iload_n 1, 1) := by decide +kernel
theorem dHart_peek_1 : decode cHart_peek 1 = .ok (.invokestatic 20, 3) := by decide +kernel
theorem dHart_peek_4 : decode cHart_peek 4 = .ok (.ifCond .ne 13, 3) := by decide +kernel
theorem dHart_peek_7 : decode cHart_peek 7 = .ok (.new 24, 3) := by decide +kernel
theorem dHart_peek_10 : decode cHart_peek 10 = .ok (.dup, 1) := by decide +kernel
theorem dHart_peek_11 : decode cHart_peek 11 = .ok (.ldc 26, 2) := by decide +kernel
theorem dHart_peek_13 : decode cHart_peek 13 = .ok (.invokespecial 28, 3) := by decide +kernel
theorem dHart_peek_16 : decode cHart_peek 16 = .ok (.athrow, 1) := by decide +kernel
theorem dHart_peek_17 : decode cHart_peek 17 = .ok (.aload_n 0, 1) := by decide +kernel
theorem dHart_peek_18 : decode cHart_peek 18 = .ok (.getfield 10, 3) := by decide +kernel
theorem dHart_peek_21 : decode cHart_peek 21 = .ok (.iconst 4, 1) := by decide +kernel
theorem dHart_peek_22 : decode cHart_peek 22 = .ok (.iload_n 1, 1) := by decide +kernel
theorem dHart_peek_23 : decode cHart_peek 23 = .ok (.invokevirtual 41, 3) := by decide +kernel
theorem dHart_peek_26 : decode cHart_peek 26 = .ok (.ireturn, 1) := by decide +kernel
theorem dHart_rights_0 : decode cHart_rights 0 = .ok (.iload_n 1, 1) := by decide +kernel
theorem dHart_rights_1 : decode cHart_rights 1 = .ok (.ifCond .lt 9, 3) := by decide +kernel
theorem dHart_rights_4 : decode cHart_rights 4 = .ok (.iload_n 1, 1) := by decide +kernel
theorem dHart_rights_5 : decode cHart_rights 5 = .ok (.bipush 64, 2) := by decide +kernel
theorem dHart_rights_7 : decode cHart_rights 7 = .ok (.if_icmp .lt 13, 3) := by decide +kernel
theorem dHart_rights_10 : decode cHart_rights 10 = .ok (.new 45, 3) := by decide +kernel
theorem dHart_rights_13 : decode cHart_rights 13 = .ok (.dup, 1) := by decide +kernel
theorem dHart_rights_14 : decode cHart_rights 14 = .ok (.ldc 47, 2) := by decide +kernel
theorem dHart_rights_16 : decode cHart_rights 16 = .ok (.invokespecial 49, 3) := by decide +kernel
theorem dHart_rights_19 : decode cHart_rights 19 = .ok (.athrow, 1) := by decide +kernel
theorem dHart_rights_20 : decode cHart_rights 20 = .ok (.iload_n 2, 1) := by decide +kernel
theorem dHart_rights_21 : decode cHart_rights 21 = .ok (.ifCond .lt 9, 3) := by decide +kernel
theorem dHart_rights_24 : decode cHart_rights 24 = .ok (.iload_n 2, 1) := by decide +kernel
theorem dHart_rights_25 : decode cHart_rights 25 = .ok (.bipush 7, 2) := by decide +kernel
theorem dHart_rights_27 : decode cHart_rights 27 = .ok (.if_icmp .le 13, 3) := by decide +kernel
theorem dHart_rights_30 : decode cHart_rights 30 = .ok (.new 45, 3) := by decide +kernel
theorem dHart_rights_33 : decode cHart_rights 33 = .ok (.dup, 1) := by decide +kernel
theorem dHart_rights_34 : decode cHart_rights 34 = .ok (.ldc 50, 2) := by decide +kernel
theorem dHart_rights_36 : decode cHart_rights 36 = .ok (.invokespecial 49, 3) := by decide +kernel
theorem dHart_rights_39 : decode cHart_rights 39 = .ok (.athrow, 1) := by decide +kernel
theorem dHart_rights_40 : decode cHart_rights 40 = .ok (.aload_n 0, 1) := by decide +kernel
theorem dHart_rights_41 : decode cHart_rights 41 = .ok (.getfield 10, 3) := by decide +kernel
theorem dHart_rights_44 : decode cHart_rights 44 = .ok (.iload_n 1, 1) := by decide +kernel
theorem dHart_rights_45 : decode cHart_rights 45 = .ok (.iload_n 2, 1) := by decide +kernel
theorem dHart_rights_46 : decode cHart_rights 46 = .ok (.invokevirtual 52, 3) := by decide +kernel
theorem dHart_rights_49 : decode cHart_rights 49 = .ok (.ireturn, 1) := by decide +kernel
theorem dHart_set_0 : decode cHart_set 0 = .ok (.iload_n 1, 1) := by decide +kernel
theorem dHart_set_1 : decode cHart_set 1 = .ok (.ifCond .lt 9, 3) := by decide +kernel
theorem dHart_set_4 : decode cHart_set 4 = .ok (.iload_n 1, 1) := by decide +kernel
theorem dHart_set_5 : decode cHart_set 5 = .ok (.bipush 32, 2) := by decide +kernel
theorem dHart_set_7 : decode cHart_set 7 = .ok (.if_icmp .lt 13, 3) := by decide +kernel
theorem dHart_set_10 : decode cHart_set 10 = .ok (.new 24, 3) := by decide +kernel
theorem dHart_set_13 : decode cHart_set 13 = .ok (.dup, 1) := by decide +kernel
theorem dHart_set_14 : decode cHart_set 14 = .ok (.ldc 55, 2) := by decide +kernel
theorem dHart_set_16 : decode cHart_set 16 = .ok (.invokespecial 28, 3) := by decide +kernel
theorem dHart_set_19 : decode cHart_set 19 = .ok (.athrow, 1) := by decide +kernel
theorem dHart_set_20 : decode cHart_set 20 = .ok (.aload_n 0, 1) := by decide +kernel
theorem dHart_set_21 : decode cHart_set 21 = .ok (.iload_n 1, 1) := by decide +kernel
theorem dHart_set_22 : decode cHart_set 22 = .ok (.iload_n 2, 1) := by decide +kernel
theorem dHart_set_23 : decode cHart_set 23 = .ok (.invokevirtual 57, 3) := by decide +kernel
theorem dHart_set_26 : decode cHart_set 26 = .ok (.pop, 1) := by decide +kernel
theorem dHart_set_27 : decode cHart_set 27 = .ok (.iload_n 1, 1) := by decide +kernel
theorem dHart_set_28 : decode cHart_set 28 = .ok (.ifCond .eq 7, 3) := by decide +kernel
theorem dHart_set_31 : decode cHart_set 31 = .ok (.iconst 1, 1) := by decide +kernel
theorem dHart_set_32 : decode cHart_set 32 = .ok (.goto 4, 3) := by decide +kernel
theorem dHart_set_35 : decode cHart_set 35 = .ok (.iconst 0, 1) := by decide +kernel
theorem dHart_set_36 : decode cHart_set 36 = .ok (.ireturn, 1) := by decide +kernel
theorem dHart_register_0 : decode cHart_register 0 = .ok (.iload_n 1, 1) := by decide +kernel
theorem dHart_register_1 : decode cHart_register 1 = .ok (.ifCond .lt 9, 3) := by decide +kernel
theorem dHart_register_4 : decode cHart_register 4 = .ok (.iload_n 1, 1) := by decide +kernel
theorem dHart_register_5 : decode cHart_register 5 = .ok (.bipush 32, 2) := by decide +kernel
theorem dHart_register_7 : decode cHart_register 7 = .ok (.if_icmp .lt 13, 3) := by decide +kernel
theorem dHart_register_10 : decode cHart_register 10 = .ok (.new 24, 3) := by decide +kernel
theorem dHart_register_13 : decode cHart_register 13 = .ok (.dup, 1) := by decide +kernel
theorem dHart_register_14 : decode cHart_register 14 = .ok (.ldc 55, 2) := by decide +kernel
theorem dHart_register_16 : decode cHart_register 16 = .ok (.invokespecial 28, 3) := by decide +kernel
theorem dHart_register_19 : decode cHart_register 19 = .ok (.athrow, 1) := by decide +kernel
theorem dHart_register_20 : decode cHart_register 20 = .ok (.aload_n 0, 1) := by decide +kernel
theorem dHart_register_21 : decode cHart_register 21 = .ok (.getfield 16, 3) := by decide +kernel
theorem dHart_register_24 : decode cHart_register 24 = .ok (.iload_n 1, 1) := by decide +kernel
theorem dHart_register_25 : decode cHart_register 25 = .ok (.iaload, 1) := by decide +kernel
theorem dHart_register_26 : decode cHart_register 26 = .ok (.ireturn, 1) := by decide +kernel
theorem dHart_jump_0 : decode cHart_jump 0 = .ok (.aload_n 0, 1) := by decide +kernel
theorem dHart_jump_1 : decode cHart_jump 1 = .ok (.iload_n 1, 1) := by decide +kernel
theorem dHart_jump_2 : decode cHart_jump 2 = .ok (.putfield 60, 3) := by decide +kernel
theorem dHart_jump_5 : decode cHart_jump 5 = .ok (.return_, 1) := by decide +kernel
theorem dHart_clock_0 : decode cHart_clock 0 = .ok (.aload_n 0, 1) := by decide +kernel
theorem dHart_clock_1 : decode cHart_clock 1 = .ok (.lload_n 1, 1) := by decide +kernel
theorem dHart_clock_2 : decode cHart_clock 2 = .ok (.putfield 64, 3) := by decide +kernel
theorem dHart_clock_5 : decode cHart_clock 5 = .ok (.return_, 1) := by decide +kernel
theorem dHart_step_0 : decode cHart_step 0 = .ok (.aload_n 0, 1) := by decide +kernel
theorem dHart_step_1 : decode cHart_step 1 = .ok (.invokevirtual 68, 3) := by decide +kernel
theorem dHart_step_4 : decode cHart_step 4 = .ok (.ireturn, 1) := by decide +kernel
theorem dHart_run_0 : decode cHart_run 0 = .ok (.iload_n 1, 1) := by decide +kernel
theorem dHart_run_1 : decode cHart_run 1 = .ok (.ifCond .lt 10, 3) := by decide +kernel
theorem dHart_run_4 : decode cHart_run 4 = .ok (.iload_n 1, 1) := by decide +kernel
theorem dHart_run_5 : decode cHart_run 5 = .ok (.sipush 2000, 3) := by decide +kernel
theorem dHart_run_8 : decode cHart_run 8 = .ok (.if_icmp .le 13, 3) := by decide +kernel
theorem dHart_run_11 : decode cHart_run 11 = .ok (.new 45, 3) := by decide +kernel
theorem dHart_run_14 : decode cHart_run 14 = .ok (.dup, 1) := by decide +kernel
theorem dHart_run_15 : decode cHart_run 15 = .ok (.ldc 72, 2) := by decide +kernel
theorem dHart_run_17 : decode cHart_run 17 = .ok (.invokespecial 49, 3) := by decide +kernel
theorem dHart_run_20 : decode cHart_run 20 = .ok (.athrow, 1) := by decide +kernel
theorem dHart_run_21 : decode cHart_run 21 = .ok (.iconst 0, 1) := by decide +kernel
theorem dHart_run_22 : decode cHart_run 22 = .ok (.istore_n 2, 1) := by decide +kernel
theorem dHart_run_23 : decode cHart_run 23 = .ok (.iload_n 2, 1) := by decide +kernel
theorem dHart_run_24 : decode cHart_run 24 = .ok (.iload_n 1, 1) := by decide +kernel
theorem dHart_run_25 : decode cHart_run 25 = .ok (.if_icmp .ge 18, 3) := by decide +kernel
theorem dHart_run_28 : decode cHart_run 28 = .ok (.aload_n 0, 1) := by decide +kernel
theorem dHart_run_29 : decode cHart_run 29 = .ok (.invokevirtual 68, 3) := by decide +kernel
theorem dHart_run_32 : decode cHart_run 32 = .ok (.ifCond .eq 5, 3) := by decide +kernel
theorem dHart_run_35 : decode cHart_run 35 = .ok (.iload_n 2, 1) := by decide +kernel
theorem dHart_run_36 : decode cHart_run 36 = .ok (.ireturn, 1) := by decide +kernel
theorem dHart_run_37 : decode cHart_run 37 = .ok (.iinc 2 1, 3) := by decide +kernel
theorem dHart_run_40 : decode cHart_run 40 = .ok (.goto (-17), 3) := by decide +kernel
theorem dHart_run_43 : decode cHart_run 43 = .ok (.iload_n 1, 1) := by decide +kernel
theorem dHart_run_44 : decode cHart_run 44 = .ok (.ireturn, 1) := by decide +kernel
theorem dHart_count_0 : decode cHart_count 0 = .ok (.iload_n 1, 1) := by decide +kernel
theorem dHart_count_1 : decode cHart_count 1 = .ok (.tableswitch 67 0 4 #[35, 41, 47, 53, 58], 35) := by decide +kernel
theorem dHart_count_36 : decode cHart_count 36 = .ok (.aload_n 0, 1) := by decide +kernel
theorem dHart_count_37 : decode cHart_count 37 = .ok (.getfield 60, 3) := by decide +kernel
theorem dHart_count_40 : decode cHart_count 40 = .ok (.i2l, 1) := by decide +kernel
theorem dHart_count_41 : decode cHart_count 41 = .ok (.lreturn, 1) := by decide +kernel
theorem dHart_count_42 : decode cHart_count 42 = .ok (.aload_n 0, 1) := by decide +kernel
theorem dHart_count_43 : decode cHart_count 43 = .ok (.getfield 74, 3) := by decide +kernel
theorem dHart_count_46 : decode cHart_count 46 = .ok (.i2l, 1) := by decide +kernel
theorem dHart_count_47 : decode cHart_count 47 = .ok (.lreturn, 1) := by decide +kernel
theorem dHart_count_48 : decode cHart_count 48 = .ok (.aload_n 0, 1) := by decide +kernel
theorem dHart_count_49 : decode cHart_count 49 = .ok (.getfield 77, 3) := by decide +kernel
theorem dHart_count_52 : decode cHart_count 52 = .ok (.i2l, 1) := by decide +kernel
theorem dHart_count_53 : decode cHart_count 53 = .ok (.lreturn, 1) := by decide +kernel
theorem dHart_count_54 : decode cHart_count 54 = .ok (.aload_n 0, 1) := by decide +kernel
theorem dHart_count_55 : decode cHart_count 55 = .ok (.getfield 80, 3) := by decide +kernel
theorem dHart_count_58 : decode cHart_count 58 = .ok (.lreturn, 1) := by decide +kernel
theorem dHart_count_59 : decode cHart_count 59 = .ok (.aload_n 0, 1) := by decide +kernel
theorem dHart_count_60 : decode cHart_count 60 = .ok (.getfield 10, 3) := by decide +kernel
theorem dHart_count_63 : decode cHart_count 63 = .ok (.invokevirtual 83, 3) := by decide +kernel
theorem dHart_count_66 : decode cHart_count 66 = .ok (.i2l, 1) := by decide +kernel
theorem dHart_count_67 : decode cHart_count 67 = .ok (.lreturn, 1) := by decide +kernel
theorem dHart_count_68 : decode cHart_count 68 = .ok (.new 45, 3) := by decide +kernel
theorem dHart_count_71 : decode cHart_count 71 = .ok (.dup, 1) := by decide +kernel
theorem dHart_count_72 : decode cHart_count 72 = .ok (.ldc 86, 2) := by decide +kernel
theorem dHart_count_74 : decode cHart_count 74 = .ok (.invokespecial 49, 3) := by decide +kernel
theorem dHart_count_77 : decode cHart_count 77 = .ok (.athrow, 1) := by decide +kernel
theorem dHart_carryOutNext_0 : decode cHart_carryOutNext 0 = .ok (.aload_n 0, 1) := by decide +kernel
theorem dHart_carryOutNext_1 : decode cHart_carryOutNext 1 = .ok (.getfield 10, 3) := by decide +kernel
theorem dHart_carryOutNext_4 : decode cHart_carryOutNext 4 = .ok (.aload_n 0, 1) := by decide +kernel
theorem dHart_carryOutNext_5 : decode cHart_carryOutNext 5 = .ok (.getfield 60, 3) := by decide +kernel
theorem dHart_carryOutNext_8 : decode cHart_carryOutNext 8 = .ok (.invokevirtual 88, 3) := by decide +kernel
theorem dHart_carryOutNext_11 : decode cHart_carryOutNext 11 = .ok (.ifCond .ne 13, 3) := by decide +kernel
theorem dHart_carryOutNext_14 : decode cHart_carryOutNext 14 = .ok (.aload_n 0, 1) := by decide +kernel
theorem dHart_carryOutNext_15 : decode cHart_carryOutNext 15 = .ok (.iconst 1, 1) := by decide +kernel
theorem dHart_carryOutNext_16 : decode cHart_carryOutNext 16 = .ok (.aload_n 0, 1) := by decide +kernel
theorem dHart_carryOutNext_17 : decode cHart_carryOutNext 17 = .ok (.getfield 60, 3) := by decide +kernel
theorem dHart_carryOutNext_20 : decode cHart_carryOutNext 20 = .ok (.invokevirtual 91, 3) := by decide +kernel
theorem dHart_carryOutNext_23 : decode cHart_carryOutNext 23 = .ok (.ireturn, 1) := by decide +kernel
theorem dHart_carryOutNext_24 : decode cHart_carryOutNext 24 = .ok (.aload_n 0, 1) := by decide +kernel
theorem dHart_carryOutNext_25 : decode cHart_carryOutNext 25 = .ok (.getfield 10, 3) := by decide +kernel
theorem dHart_carryOutNext_28 : decode cHart_carryOutNext 28 = .ok (.iconst 5, 1) := by decide +kernel
theorem dHart_carryOutNext_29 : decode cHart_carryOutNext 29 = .ok (.aload_n 0, 1) := by decide +kernel
theorem dHart_carryOutNext_30 : decode cHart_carryOutNext 30 = .ok (.getfield 60, 3) := by decide +kernel
theorem dHart_carryOutNext_33 : decode cHart_carryOutNext 33 = .ok (.invokevirtual 41, 3) := by decide +kernel
theorem dHart_carryOutNext_36 : decode cHart_carryOutNext 36 = .ok (.istore_n 1, 1) := by decide +kernel
theorem dHart_carryOutNext_37 : decode cHart_carryOutNext 37 = .ok (.iload_n 1, 1) := by decide +kernel
theorem dHart_carryOutNext_38 : decode cHart_carryOutNext 38 = .ok (.iconst 3, 1) := by decide +kernel
theorem dHart_carryOutNext_39 : decode cHart_carryOutNext 39 = .ok (.iand, 1) := by decide +kernel
theorem dHart_carryOutNext_40 : decode cHart_carryOutNext 40 = .ok (.iconst 3, 1) := by decide +kernel
theorem dHart_carryOutNext_41 : decode cHart_carryOutNext 41 = .ok (.if_icmp .ne 7, 3) := by decide +kernel
theorem dHart_carryOutNext_44 : decode cHart_carryOutNext 44 = .ok (.iconst 1, 1) := by decide +kernel
theorem dHart_carryOutNext_45 : decode cHart_carryOutNext 45 = .ok (.goto 4, 3) := by decide +kernel
theorem dHart_carryOutNext_48 : decode cHart_carryOutNext 48 = .ok (.iconst 0, 1) := by decide +kernel
theorem dHart_carryOutNext_49 : decode cHart_carryOutNext 49 = .ok (.istore_n 2, 1) := by decide +kernel
theorem dHart_carryOutNext_50 : decode cHart_carryOutNext 50 = .ok (.iload_n 2, 1) := by decide +kernel
theorem dHart_carryOutNext_51 : decode cHart_carryOutNext 51 = .ok (.ifCond .eq 29, 3) := by decide +kernel
theorem dHart_carryOutNext_54 : decode cHart_carryOutNext 54 = .ok (.aload_n 0, 1) := by decide +kernel
theorem dHart_carryOutNext_55 : decode cHart_carryOutNext 55 = .ok (.getfield 10, 3) := by decide +kernel
theorem dHart_carryOutNext_58 : decode cHart_carryOutNext 58 = .ok (.aload_n 0, 1) := by decide +kernel
theorem dHart_carryOutNext_59 : decode cHart_carryOutNext 59 = .ok (.getfield 60, 3) := by decide +kernel
theorem dHart_carryOutNext_62 : decode cHart_carryOutNext 62 = .ok (.iconst 2, 1) := by decide +kernel
theorem dHart_carryOutNext_63 : decode cHart_carryOutNext 63 = .ok (.iadd, 1) := by decide +kernel
theorem dHart_carryOutNext_64 : decode cHart_carryOutNext 64 = .ok (.invokevirtual 88, 3) := by decide +kernel
theorem dHart_carryOutNext_67 : decode cHart_carryOutNext 67 = .ok (.ifCond .ne 13, 3) := by decide +kernel
theorem dHart_carryOutNext_70 : decode cHart_carryOutNext 70 = .ok (.aload_n 0, 1) := by decide +kernel
theorem dHart_carryOutNext_71 : decode cHart_carryOutNext 71 = .ok (.iconst 1, 1) := by decide +kernel
theorem dHart_carryOutNext_72 : decode cHart_carryOutNext 72 = .ok (.aload_n 0, 1) := by decide +kernel
theorem dHart_carryOutNext_73 : decode cHart_carryOutNext 73 = .ok (.getfield 60, 3) := by decide +kernel
theorem dHart_carryOutNext_76 : decode cHart_carryOutNext 76 = .ok (.invokevirtual 91, 3) := by decide +kernel
theorem dHart_carryOutNext_79 : decode cHart_carryOutNext 79 = .ok (.ireturn, 1) := by decide +kernel
theorem dHart_carryOutNext_80 : decode cHart_carryOutNext 80 = .ok (.aload_n 0, 1) := by decide +kernel
theorem dHart_carryOutNext_81 : decode cHart_carryOutNext 81 = .ok (.aload_n 0, 1) := by decide +kernel
theorem dHart_carryOutNext_82 : decode cHart_carryOutNext 82 = .ok (.getfield 60, 3) := by decide +kernel
theorem dHart_carryOutNext_85 : decode cHart_carryOutNext 85 = .ok (.iload_n 2, 1) := by decide +kernel
theorem dHart_carryOutNext_86 : decode cHart_carryOutNext 86 = .ok (.ifCond .eq 7, 3) := by decide +kernel
theorem dHart_carryOutNext_89 : decode cHart_carryOutNext 89 = .ok (.iconst 4, 1) := by decide +kernel
theorem dHart_carryOutNext_90 : decode cHart_carryOutNext 90 = .ok (.goto 4, 3) := by decide +kernel
theorem dHart_carryOutNext_93 : decode cHart_carryOutNext 93 = .ok (.iconst 2, 1) := by decide +kernel
theorem dHart_carryOutNext_94 : decode cHart_carryOutNext 94 = .ok (.iadd, 1) := by decide +kernel
theorem dHart_carryOutNext_95 : decode cHart_carryOutNext 95 = .ok (.putfield 94, 3) := by decide +kernel
theorem dHart_carryOutNext_98 : decode cHart_carryOutNext 98 = .ok (.iload_n 2, 1) := by decide +kernel
theorem dHart_carryOutNext_99 : decode cHart_carryOutNext 99 = .ok (.ifCond .eq 15, 3) := by decide +kernel
theorem dHart_carryOutNext_102 : decode cHart_carryOutNext 102 = .ok (.aload_n 0, 1) := by decide +kernel
theorem dHart_carryOutNext_103 : decode cHart_carryOutNext 103 = .ok (.aload_n 0, 1) := by decide +kernel
theorem dHart_carryOutNext_104 : decode cHart_carryOutNext 104 = .ok (.iload_n 1, 1) := by decide +kernel
theorem dHart_carryOutNext_105 : decode cHart_carryOutNext 105 = .ok (.invokevirtual 97, 3) := by decide +kernel
theorem dHart_carryOutNext_108 : decode cHart_carryOutNext 108 = .ok (.invokevirtual 101, 3) := by decide +kernel
theorem dHart_carryOutNext_111 : decode cHart_carryOutNext 111 = .ok (.goto 8, 3) := by decide +kernel
theorem dHart_carryOutNext_114 : decode cHart_carryOutNext 114 = .ok (.aload_n 0, 1) := by decide +kernel
theorem dHart_carryOutNext_115 : decode cHart_carryOutNext 115 = .ok (.iload_n 1, 1) := by decide +kernel
theorem dHart_carryOutNext_116 : decode cHart_carryOutNext 116 = .ok (.invokevirtual 104, 3) := by decide +kernel
theorem dHart_carryOutNext_119 : decode cHart_carryOutNext 119 = .ok (.istore_n 3, 1) := by decide +kernel
theorem dHart_carryOutNext_120 : decode cHart_carryOutNext 120 = .ok (.iload_n 3, 1) := by decide +kernel
theorem dHart_carryOutNext_121 : decode cHart_carryOutNext 121 = .ok (.ifCond .ne 21, 3) := by decide +kernel
theorem dHart_carryOutNext_124 : decode cHart_carryOutNext 124 = .ok (.aload_n 0, 1) := by decide +kernel
theorem dHart_carryOutNext_125 : decode cHart_carryOutNext 125 = .ok (.dup, 1) := by decide +kernel
theorem dHart_carryOutNext_126 : decode cHart_carryOutNext 126 = .ok (.getfield 80, 3) := by decide +kernel
theorem dHart_carryOutNext_129 : decode cHart_carryOutNext 129 = .ok (.lconst 1, 1) := by decide +kernel
theorem dHart_carryOutNext_130 : decode cHart_carryOutNext 130 = .ok (.ladd, 1) := by decide +kernel
theorem dHart_carryOutNext_131 : decode cHart_carryOutNext 131 = .ok (.putfield 80, 3) := by decide +kernel
theorem dHart_carryOutNext_134 : decode cHart_carryOutNext 134 = .ok (.aload_n 0, 1) := by decide +kernel
theorem dHart_carryOutNext_135 : decode cHart_carryOutNext 135 = .ok (.aload_n 0, 1) := by decide +kernel
theorem dHart_carryOutNext_136 : decode cHart_carryOutNext 136 = .ok (.getfield 94, 3) := by decide +kernel
theorem dHart_carryOutNext_139 : decode cHart_carryOutNext 139 = .ok (.putfield 60, 3) := by decide +kernel
theorem dHart_carryOutNext_142 : decode cHart_carryOutNext 142 = .ok (.iload_n 3, 1) := by decide +kernel
theorem dHart_carryOutNext_143 : decode cHart_carryOutNext 143 = .ok (.ireturn, 1) := by decide +kernel
theorem dHart_longFrom_0 : decode cHart_longFrom 0 = .ok (.aload_n 0, 1) := by decide +kernel
theorem dHart_longFrom_1 : decode cHart_longFrom 1 = .ok (.getfield 10, 3) := by decide +kernel
theorem dHart_longFrom_4 : decode cHart_longFrom 4 = .ok (.iconst 5, 1) := by decide +kernel
theorem dHart_longFrom_5 : decode cHart_longFrom 5 = .ok (.aload_n 0, 1) := by decide +kernel
theorem dHart_longFrom_6 : decode cHart_longFrom 6 = .ok (.getfield 60, 3) := by decide +kernel
theorem dHart_longFrom_9 : decode cHart_longFrom 9 = .ok (.iconst 2, 1) := by decide +kernel
theorem dHart_longFrom_10 : decode cHart_longFrom 10 = .ok (.iadd, 1) := by decide +kernel
theorem dHart_longFrom_11 : decode cHart_longFrom 11 = .ok (.invokevirtual 41, 3) := by decide +kernel
theorem dHart_longFrom_14 : decode cHart_longFrom 14 = .ok (.bipush 16, 2) := by decide +kernel
theorem dHart_longFrom_16 : decode cHart_longFrom 16 = .ok (.ishl, 1) := by decide +kernel
theorem dHart_longFrom_17 : decode cHart_longFrom 17 = .ok (.iload_n 1, 1) := by decide +kernel
theorem dHart_longFrom_18 : decode cHart_longFrom 18 = .ok (.ior, 1) := by decide +kernel
theorem dHart_longFrom_19 : decode cHart_longFrom 19 = .ok (.ireturn, 1) := by decide +kernel
theorem dHart_trap_0 : decode cHart_trap 0 = .ok (.aload_n 0, 1) := by decide +kernel
theorem dHart_trap_1 : decode cHart_trap 1 = .ok (.iload_n 1, 1) := by decide +kernel
theorem dHart_trap_2 : decode cHart_trap 2 = .ok (.putfield 74, 3) := by decide +kernel
theorem dHart_trap_5 : decode cHart_trap 5 = .ok (.aload_n 0, 1) := by decide +kernel
theorem dHart_trap_6 : decode cHart_trap 6 = .ok (.iload_n 2, 1) := by decide +kernel
theorem dHart_trap_7 : decode cHart_trap 7 = .ok (.putfield 77, 3) := by decide +kernel
theorem dHart_trap_10 : decode cHart_trap 10 = .ok (.iload_n 1, 1) := by decide +kernel
theorem dHart_trap_11 : decode cHart_trap 11 = .ok (.ireturn, 1) := by decide +kernel
theorem dHart_give_0 : decode cHart_give 0 = .ok (.iload_n 1, 1) := by decide +kernel
theorem dHart_give_1 : decode cHart_give 1 = .ok (.ifCond .eq 10, 3) := by decide +kernel
theorem dHart_give_4 : decode cHart_give 4 = .ok (.aload_n 0, 1) := by decide +kernel
theorem dHart_give_5 : decode cHart_give 5 = .ok (.getfield 16, 3) := by decide +kernel
theorem dHart_give_8 : decode cHart_give 8 = .ok (.iload_n 1, 1) := by decide +kernel
theorem dHart_give_9 : decode cHart_give 9 = .ok (.iload_n 2, 1) := by decide +kernel
theorem dHart_give_10 : decode cHart_give 10 = .ok (.iastore, 1) := by decide +kernel
theorem dHart_give_11 : decode cHart_give 11 = .ok (.iconst 0, 1) := by decide +kernel
theorem dHart_give_12 : decode cHart_give 12 = .ok (.ireturn, 1) := by decide +kernel
theorem dHart_linkAndJump_0 : decode cHart_linkAndJump 0 = .ok (.aload_n 0, 1) := by decide +kernel
theorem dHart_linkAndJump_1 : decode cHart_linkAndJump 1 = .ok (.getfield 94, 3) := by decide +kernel
theorem dHart_linkAndJump_4 : decode cHart_linkAndJump 4 = .ok (.istore_n 3, 1) := by decide +kernel
theorem dHart_linkAndJump_5 : decode cHart_linkAndJump 5 = .ok (.aload_n 0, 1) := by decide +kernel
theorem dHart_linkAndJump_6 : decode cHart_linkAndJump 6 = .ok (.iload_n 2, 1) := by decide +kernel
theorem dHart_linkAndJump_7 : decode cHart_linkAndJump 7 = .ok (.bipush (-2), 2) := by decide +kernel
theorem dHart_linkAndJump_9 : decode cHart_linkAndJump 9 = .ok (.iand, 1) := by decide +kernel
theorem dHart_linkAndJump_10 : decode cHart_linkAndJump 10 = .ok (.putfield 94, 3) := by decide +kernel
theorem dHart_linkAndJump_13 : decode cHart_linkAndJump 13 = .ok (.aload_n 0, 1) := by decide +kernel
theorem dHart_linkAndJump_14 : decode cHart_linkAndJump 14 = .ok (.iload_n 1, 1) := by decide +kernel
theorem dHart_linkAndJump_15 : decode cHart_linkAndJump 15 = .ok (.iload_n 3, 1) := by decide +kernel
theorem dHart_linkAndJump_16 : decode cHart_linkAndJump 16 = .ok (.invokevirtual 57, 3) := by decide +kernel
theorem dHart_linkAndJump_19 : decode cHart_linkAndJump 19 = .ok (.ireturn, 1) := by decide +kernel
theorem dHart_jumpIf_0 : decode cHart_jumpIf 0 = .ok (.iload_n 1, 1) := by decide +kernel
theorem dHart_jumpIf_1 : decode cHart_jumpIf 1 = .ok (.ifCond .eq 12, 3) := by decide +kernel
theorem dHart_jumpIf_4 : decode cHart_jumpIf 4 = .ok (.aload_n 0, 1) := by decide +kernel
theorem dHart_jumpIf_5 : decode cHart_jumpIf 5 = .ok (.iconst 0, 1) := by decide +kernel
theorem dHart_jumpIf_6 : decode cHart_jumpIf 6 = .ok (.iload_n 2, 1) := by decide +kernel
theorem dHart_jumpIf_7 : decode cHart_jumpIf 7 = .ok (.invokevirtual 107, 3) := by decide +kernel
theorem dHart_jumpIf_10 : decode cHart_jumpIf 10 = .ok (.goto 4, 3) := by decide +kernel
theorem dHart_jumpIf_13 : decode cHart_jumpIf 13 = .ok (.iconst 0, 1) := by decide +kernel
theorem dHart_jumpIf_14 : decode cHart_jumpIf 14 = .ok (.ireturn, 1) := by decide +kernel
theorem dHart_load_0 : decode cHart_load 0 = .ok (.iload_n 1, 1) := by decide +kernel
theorem dHart_load_1 : decode cHart_load 1 = .ok (.iload_n 3, 1) := by decide +kernel
theorem dHart_load_2 : decode cHart_load 2 = .ok (.invokestatic 35, 3) := by decide +kernel
theorem dHart_load_5 : decode cHart_load 5 = .ok (.ifCond .eq 10, 3) := by decide +kernel
theorem dHart_load_8 : decode cHart_load 8 = .ok (.aload_n 0, 1) := by decide +kernel
theorem dHart_load_9 : decode cHart_load 9 = .ok (.iconst 5, 1) := by decide +kernel
theorem dHart_load_10 : decode cHart_load 10 = .ok (.iload_n 3, 1) := by decide +kernel
theorem dHart_load_11 : decode cHart_load 11 = .ok (.invokevirtual 91, 3) := by decide +kernel
theorem dHart_load_14 : decode cHart_load 14 = .ok (.ireturn, 1) := by decide +kernel
theorem dHart_load_15 : decode cHart_load 15 = .ok (.aload_n 0, 1) := by decide +kernel
theorem dHart_load_16 : decode cHart_load 16 = .ok (.getfield 10, 3) := by decide +kernel
theorem dHart_load_19 : decode cHart_load 19 = .ok (.iconst 1, 1) := by decide +kernel
theorem dHart_load_20 : decode cHart_load 20 = .ok (.iload_n 3, 1) := by decide +kernel
theorem dHart_load_21 : decode cHart_load 21 = .ok (.invokevirtual 110, 3) := by decide +kernel
theorem dHart_load_24 : decode cHart_load 24 = .ok (.ifCond .ne 11, 3) := by decide +kernel
theorem dHart_load_27 : decode cHart_load 27 = .ok (.aload_n 0, 1) := by decide +kernel
theorem dHart_load_28 : decode cHart_load 28 = .ok (.bipush 6, 2) := by decide +kernel
theorem dHart_load_30 : decode cHart_load 30 = .ok (.iload_n 3, 1) := by decide +kernel
theorem dHart_load_31 : decode cHart_load 31 = .ok (.invokevirtual 91, 3) := by decide +kernel
theorem dHart_load_34 : decode cHart_load 34 = .ok (.ireturn, 1) := by decide +kernel
theorem dHart_load_35 : decode cHart_load 35 = .ok (.aload_n 0, 1) := by decide +kernel
theorem dHart_load_36 : decode cHart_load 36 = .ok (.iload_n 2, 1) := by decide +kernel
theorem dHart_load_37 : decode cHart_load 37 = .ok (.aload_n 0, 1) := by decide +kernel
theorem dHart_load_38 : decode cHart_load 38 = .ok (.getfield 10, 3) := by decide +kernel
theorem dHart_load_41 : decode cHart_load 41 = .ok (.iload_n 1, 1) := by decide +kernel
theorem dHart_load_42 : decode cHart_load 42 = .ok (.iload_n 3, 1) := by decide +kernel
theorem dHart_load_43 : decode cHart_load 43 = .ok (.invokevirtual 41, 3) := by decide +kernel
theorem dHart_load_46 : decode cHart_load 46 = .ok (.invokevirtual 57, 3) := by decide +kernel
theorem dHart_load_49 : decode cHart_load 49 = .ok (.ireturn, 1) := by decide +kernel
theorem dHart_store_0 : decode cHart_store 0 = .ok (.iload_n 1, 1) := by decide +kernel
theorem dHart_store_1 : decode cHart_store 1 = .ok (.iload_n 2, 1) := by decide +kernel
theorem dHart_store_2 : decode cHart_store 2 = .ok (.invokestatic 35, 3) := by decide +kernel
theorem dHart_store_5 : decode cHart_store 5 = .ok (.ifCond .eq 10, 3) := by decide +kernel
theorem dHart_store_8 : decode cHart_store 8 = .ok (.aload_n 0, 1) := by decide +kernel
theorem dHart_store_9 : decode cHart_store 9 = .ok (.iconst 5, 1) := by decide +kernel
theorem dHart_store_10 : decode cHart_store 10 = .ok (.iload_n 2, 1) := by decide +kernel
theorem dHart_store_11 : decode cHart_store 11 = .ok (.invokevirtual 91, 3) := by decide +kernel
theorem dHart_store_14 : decode cHart_store 14 = .ok (.ireturn, 1) := by decide +kernel
theorem dHart_store_15 : decode cHart_store 15 = .ok (.aload_n 0, 1) := by decide +kernel
theorem dHart_store_16 : decode cHart_store 16 = .ok (.getfield 10, 3) := by decide +kernel
theorem dHart_store_19 : decode cHart_store 19 = .ok (.iconst 2, 1) := by decide +kernel
theorem dHart_store_20 : decode cHart_store 20 = .ok (.iload_n 2, 1) := by decide +kernel
theorem dHart_store_21 : decode cHart_store 21 = .ok (.invokevirtual 110, 3) := by decide +kernel
theorem dHart_store_24 : decode cHart_store 24 = .ok (.ifCond .ne 11, 3) := by decide +kernel
theorem dHart_store_27 : decode cHart_store 27 = .ok (.aload_n 0, 1) := by decide +kernel
theorem dHart_store_28 : decode cHart_store 28 = .ok (.bipush 7, 2) := by decide +kernel
theorem dHart_store_30 : decode cHart_store 30 = .ok (.iload_n 2, 1) := by decide +kernel
theorem dHart_store_31 : decode cHart_store 31 = .ok (.invokevirtual 91, 3) := by decide +kernel
theorem dHart_store_34 : decode cHart_store 34 = .ok (.ireturn, 1) := by decide +kernel
theorem dHart_store_35 : decode cHart_store 35 = .ok (.aload_n 0, 1) := by decide +kernel
theorem dHart_store_36 : decode cHart_store 36 = .ok (.getfield 10, 3) := by decide +kernel
theorem dHart_store_39 : decode cHart_store 39 = .ok (.iload_n 1, 1) := by decide +kernel
theorem dHart_store_40 : decode cHart_store 40 = .ok (.iload_n 2, 1) := by decide +kernel
theorem dHart_store_41 : decode cHart_store 41 = .ok (.iload_n 3, 1) := by decide +kernel
theorem dHart_store_42 : decode cHart_store 42 = .ok (.invokevirtual 31, 3) := by decide +kernel
theorem dHart_store_45 : decode cHart_store 45 = .ok (.iconst 0, 1) := by decide +kernel
theorem dHart_store_46 : decode cHart_store 46 = .ok (.ireturn, 1) := by decide +kernel
theorem dHart_carryOutLong_0 : decode cHart_carryOutLong 0 = .ok (.iload_n 1, 1) := by decide +kernel
theorem dHart_carryOutLong_1 : decode cHart_carryOutLong 1 = .ok (.invokestatic 113, 3) := by decide +kernel
theorem dHart_carryOutLong_4 : decode cHart_carryOutLong 4 = .ok (.istore_n 2, 1) := by decide +kernel
theorem dHart_carryOutLong_5 : decode cHart_carryOutLong 5 = .ok (.iload_n 1, 1) := by decide +kernel
theorem dHart_carryOutLong_6 : decode cHart_carryOutLong 6 = .ok (.bipush 127, 2) := by decide +kernel
theorem dHart_carryOutLong_8 : decode cHart_carryOutLong 8 = .ok (.iand, 1) := by decide +kernel
theorem dHart_carryOutLong_9 : decode cHart_carryOutLong 9 = .ok (.lookupswitch 214 #[(3, 159), (15, 189), (19, 171), (23, 117), (35, 165), (47, 183), (51, 177), (55, 107), (99, 153), (103, 147), (111, 132), (115, 208)], 107) := by decide +kernel
theorem dHart_carryOutLong_116 : decode cHart_carryOutLong 116 = .ok (.aload_n 0, 1) := by decide +kernel
theorem dHart_carryOutLong_117 : decode cHart_carryOutLong 117 = .ok (.iload_n 2, 1) := by decide +kernel
theorem dHart_carryOutLong_118 : decode cHart_carryOutLong 118 = .ok (.iload_n 1, 1) := by decide +kernel
theorem dHart_carryOutLong_119 : decode cHart_carryOutLong 119 = .ok (.invokestatic 118, 3) := by decide +kernel
theorem dHart_carryOutLong_122 : decode cHart_carryOutLong 122 = .ok (.invokevirtual 57, 3) := by decide +kernel
theorem dHart_carryOutLong_125 : decode cHart_carryOutLong 125 = .ok (.ireturn, 1) := by decide +kernel
theorem dHart_carryOutLong_126 : decode cHart_carryOutLong 126 = .ok (.aload_n 0, 1) := by decide +kernel
theorem dHart_carryOutLong_127 : decode cHart_carryOutLong 127 = .ok (.iload_n 2, 1) := by decide +kernel
theorem dHart_carryOutLong_128 : decode cHart_carryOutLong 128 = .ok (.aload_n 0, 1) := by decide +kernel
theorem dHart_carryOutLong_129 : decode cHart_carryOutLong 129 = .ok (.getfield 60, 3) := by decide +kernel
theorem dHart_carryOutLong_132 : decode cHart_carryOutLong 132 = .ok (.iload_n 1, 1) := by decide +kernel
theorem dHart_carryOutLong_133 : decode cHart_carryOutLong 133 = .ok (.invokestatic 118, 3) := by decide +kernel
theorem dHart_carryOutLong_136 : decode cHart_carryOutLong 136 = .ok (.iadd, 1) := by decide +kernel
theorem dHart_carryOutLong_137 : decode cHart_carryOutLong 137 = .ok (.invokevirtual 57, 3) := by decide +kernel
theorem dHart_carryOutLong_140 : decode cHart_carryOutLong 140 = .ok (.ireturn, 1) := by decide +kernel
theorem dHart_carryOutLong_141 : decode cHart_carryOutLong 141 = .ok (.aload_n 0, 1) := by decide +kernel
theorem dHart_carryOutLong_142 : decode cHart_carryOutLong 142 = .ok (.iload_n 2, 1) := by decide +kernel
theorem dHart_carryOutLong_143 : decode cHart_carryOutLong 143 = .ok (.aload_n 0, 1) := by decide +kernel
theorem dHart_carryOutLong_144 : decode cHart_carryOutLong 144 = .ok (.getfield 60, 3) := by decide +kernel
theorem dHart_carryOutLong_147 : decode cHart_carryOutLong 147 = .ok (.iload_n 1, 1) := by decide +kernel
theorem dHart_carryOutLong_148 : decode cHart_carryOutLong 148 = .ok (.invokestatic 121, 3) := by decide +kernel
theorem dHart_carryOutLong_151 : decode cHart_carryOutLong 151 = .ok (.iadd, 1) := by decide +kernel
theorem dHart_carryOutLong_152 : decode cHart_carryOutLong 152 = .ok (.invokevirtual 107, 3) := by decide +kernel
theorem dHart_carryOutLong_155 : decode cHart_carryOutLong 155 = .ok (.ireturn, 1) := by decide +kernel
theorem dHart_carryOutLong_156 : decode cHart_carryOutLong 156 = .ok (.aload_n 0, 1) := by decide +kernel
theorem dHart_carryOutLong_157 : decode cHart_carryOutLong 157 = .ok (.iload_n 1, 1) := by decide +kernel
theorem dHart_carryOutLong_158 : decode cHart_carryOutLong 158 = .ok (.invokevirtual 124, 3) := by decide +kernel
theorem dHart_carryOutLong_161 : decode cHart_carryOutLong 161 = .ok (.ireturn, 1) := by decide +kernel
theorem dHart_carryOutLong_162 : decode cHart_carryOutLong 162 = .ok (.aload_n 0, 1) := by decide +kernel
theorem dHart_carryOutLong_163 : decode cHart_carryOutLong 163 = .ok (.iload_n 1, 1) := by decide +kernel
theorem dHart_carryOutLong_164 : decode cHart_carryOutLong 164 = .ok (.invokevirtual 127, 3) := by decide +kernel
theorem dHart_carryOutLong_167 : decode cHart_carryOutLong 167 = .ok (.ireturn, 1) := by decide +kernel
theorem dHart_carryOutLong_168 : decode cHart_carryOutLong 168 = .ok (.aload_n 0, 1) := by decide +kernel
theorem dHart_carryOutLong_169 : decode cHart_carryOutLong 169 = .ok (.iload_n 1, 1) := by decide +kernel
theorem dHart_carryOutLong_170 : decode cHart_carryOutLong 170 = .ok (.invokevirtual 130, 3) := by decide +kernel
theorem dHart_carryOutLong_173 : decode cHart_carryOutLong 173 = .ok (.ireturn, 1) := by decide +kernel
theorem dHart_carryOutLong_174 : decode cHart_carryOutLong 174 = .ok (.aload_n 0, 1) := by decide +kernel
theorem dHart_carryOutLong_175 : decode cHart_carryOutLong 175 = .ok (.iload_n 1, 1) := by decide +kernel
theorem dHart_carryOutLong_176 : decode cHart_carryOutLong 176 = .ok (.invokevirtual 133, 3) := by decide +kernel
theorem dHart_carryOutLong_179 : decode cHart_carryOutLong 179 = .ok (.ireturn, 1) := by decide +kernel
theorem dHart_carryOutLong_180 : decode cHart_carryOutLong 180 = .ok (.aload_n 0, 1) := by decide +kernel
theorem dHart_carryOutLong_181 : decode cHart_carryOutLong 181 = .ok (.iload_n 1, 1) := by decide +kernel
theorem dHart_carryOutLong_182 : decode cHart_carryOutLong 182 = .ok (.invokevirtual 136, 3) := by decide +kernel
theorem dHart_carryOutLong_185 : decode cHart_carryOutLong 185 = .ok (.ireturn, 1) := by decide +kernel
theorem dHart_carryOutLong_186 : decode cHart_carryOutLong 186 = .ok (.aload_n 0, 1) := by decide +kernel
theorem dHart_carryOutLong_187 : decode cHart_carryOutLong 187 = .ok (.iload_n 1, 1) := by decide +kernel
theorem dHart_carryOutLong_188 : decode cHart_carryOutLong 188 = .ok (.invokevirtual 139, 3) := by decide +kernel
theorem dHart_carryOutLong_191 : decode cHart_carryOutLong 191 = .ok (.ireturn, 1) := by decide +kernel
theorem dHart_carryOutLong_192 : decode cHart_carryOutLong 192 = .ok (.aload_n 0, 1) := by decide +kernel
theorem dHart_carryOutLong_193 : decode cHart_carryOutLong 193 = .ok (.iload_n 1, 1) := by decide +kernel
theorem dHart_carryOutLong_194 : decode cHart_carryOutLong 194 = .ok (.invokevirtual 142, 3) := by decide +kernel
theorem dHart_carryOutLong_197 : decode cHart_carryOutLong 197 = .ok (.ireturn, 1) := by decide +kernel
theorem dHart_carryOutLong_198 : decode cHart_carryOutLong 198 = .ok (.iload_n 1, 1) := by decide +kernel
theorem dHart_carryOutLong_199 : decode cHart_carryOutLong 199 = .ok (.invokestatic 145, 3) := by decide +kernel
theorem dHart_carryOutLong_202 : decode cHart_carryOutLong 202 = .ok (.iconst 1, 1) := by decide +kernel
theorem dHart_carryOutLong_203 : decode cHart_carryOutLong 203 = .ok (.if_icmp .gt 7, 3) := by decide +kernel
theorem dHart_carryOutLong_206 : decode cHart_carryOutLong 206 = .ok (.iconst 0, 1) := by decide +kernel
theorem dHart_carryOutLong_207 : decode cHart_carryOutLong 207 = .ok (.goto 9, 3) := by decide +kernel
theorem dHart_carryOutLong_210 : decode cHart_carryOutLong 210 = .ok (.aload_n 0, 1) := by decide +kernel
theorem dHart_carryOutLong_211 : decode cHart_carryOutLong 211 = .ok (.iconst 2, 1) := by decide +kernel
theorem dHart_carryOutLong_212 : decode cHart_carryOutLong 212 = .ok (.iload_n 1, 1) := by decide +kernel
theorem dHart_carryOutLong_213 : decode cHart_carryOutLong 213 = .ok (.invokevirtual 91, 3) := by decide +kernel
theorem dHart_carryOutLong_216 : decode cHart_carryOutLong 216 = .ok (.ireturn, 1) := by decide +kernel
theorem dHart_carryOutLong_217 : decode cHart_carryOutLong 217 = .ok (.aload_n 0, 1) := by decide +kernel
theorem dHart_carryOutLong_218 : decode cHart_carryOutLong 218 = .ok (.iload_n 1, 1) := by decide +kernel
theorem dHart_carryOutLong_219 : decode cHart_carryOutLong 219 = .ok (.invokevirtual 148, 3) := by decide +kernel
theorem dHart_carryOutLong_222 : decode cHart_carryOutLong 222 = .ok (.ireturn, 1) := by decide +kernel
theorem dHart_carryOutLong_223 : decode cHart_carryOutLong 223 = .ok (.aload_n 0, 1) := by decide +kernel
theorem dHart_carryOutLong_224 : decode cHart_carryOutLong 224 = .ok (.iconst 2, 1) := by decide +kernel
theorem dHart_carryOutLong_225 : decode cHart_carryOutLong 225 = .ok (.iload_n 1, 1) := by decide +kernel
theorem dHart_carryOutLong_226 : decode cHart_carryOutLong 226 = .ok (.invokevirtual 91, 3) := by decide +kernel
theorem dHart_carryOutLong_229 : decode cHart_carryOutLong 229 = .ok (.ireturn, 1) := by decide +kernel
end
section
theorem dHart_longJumpToRegister_0 : decode cHart_longJumpToRegister 0 = .ok (.iload_n 1, 1) := by decide +kernel
theorem dHart_longJumpToRegister_1 : decode cHart_longJumpToRegister 1 = .ok (.invokestatic 145, 3) := by decide +kernel
theorem dHart_longJumpToRegister_4 : decode cHart_longJumpToRegister 4 = .ok (.ifCond .eq 10, 3) := by decide +kernel
theorem dHart_longJumpToRegister_7 : decode cHart_longJumpToRegister 7 = .ok (.aload_n 0, 1) := by decide +kernel
theorem dHart_longJumpToRegister_8 : decode cHart_longJumpToRegister 8 = .ok (.iconst 2, 1) := by decide +kernel
theorem dHart_longJumpToRegister_9 : decode cHart_longJumpToRegister 9 = .ok (.iload_n 1, 1) := by decide +kernel
theorem dHart_longJumpToRegister_10 : decode cHart_longJumpToRegister 10 = .ok (.invokevirtual 91, 3) := by decide +kernel
theorem dHart_longJumpToRegister_13 : decode cHart_longJumpToRegister 13 = .ok (.ireturn, 1) := by decide +kernel
theorem dHart_longJumpToRegister_14 : decode cHart_longJumpToRegister 14 = .ok (.aload_n 0, 1) := by decide +kernel
theorem dHart_longJumpToRegister_15 : decode cHart_longJumpToRegister 15 = .ok (.iload_n 1, 1) := by decide +kernel
theorem dHart_longJumpToRegister_16 : decode cHart_longJumpToRegister 16 = .ok (.invokestatic 113, 3) := by decide +kernel
theorem dHart_longJumpToRegister_19 : decode cHart_longJumpToRegister 19 = .ok (.aload_n 0, 1) := by decide +kernel
theorem dHart_longJumpToRegister_20 : decode cHart_longJumpToRegister 20 = .ok (.getfield 16, 3) := by decide +kernel
theorem dHart_longJumpToRegister_23 : decode cHart_longJumpToRegister 23 = .ok (.iload_n 1, 1) := by decide +kernel
theorem dHart_longJumpToRegister_24 : decode cHart_longJumpToRegister 24 = .ok (.invokestatic 151, 3) := by decide +kernel
theorem dHart_longJumpToRegister_27 : decode cHart_longJumpToRegister 27 = .ok (.iaload, 1) := by decide +kernel
theorem dHart_longJumpToRegister_28 : decode cHart_longJumpToRegister 28 = .ok (.iload_n 1, 1) := by decide +kernel
theorem dHart_longJumpToRegister_29 : decode cHart_longJumpToRegister 29 = .ok (.invokestatic 154, 3) := by decide +kernel
theorem dHart_longJumpToRegister_32 : decode cHart_longJumpToRegister 32 = .ok (.iadd, 1) := by decide +kernel
theorem dHart_longJumpToRegister_33 : decode cHart_longJumpToRegister 33 = .ok (.invokevirtual 107, 3) := by decide +kernel
theorem dHart_longJumpToRegister_36 : decode cHart_longJumpToRegister 36 = .ok (.ireturn, 1) := by decide +kernel
theorem dHart_longBranch_0 : decode cHart_longBranch 0 = .ok (.aload_n 0, 1) := by decide +kernel
theorem dHart_longBranch_1 : decode cHart_longBranch 1 = .ok (.getfield 16, 3) := by decide +kernel
theorem dHart_longBranch_4 : decode cHart_longBranch 4 = .ok (.iload_n 1, 1) := by decide +kernel
theorem dHart_longBranch_5 : decode cHart_longBranch 5 = .ok (.invokestatic 151, 3) := by decide +kernel
theorem dHart_longBranch_8 : decode cHart_longBranch 8 = .ok (.iaload, 1) := by decide +kernel
theorem dHart_longBranch_9 : decode cHart_longBranch 9 = .ok (.istore_n 2, 1) := by decide +kernel
theorem dHart_longBranch_10 : decode cHart_longBranch 10 = .ok (.aload_n 0, 1) := by decide +kernel
theorem dHart_longBranch_11 : decode cHart_longBranch 11 = .ok (.getfield 16, 3) := by decide +kernel
theorem dHart_longBranch_14 : decode cHart_longBranch 14 = .ok (.iload_n 1, 1) := by decide +kernel
theorem dHart_longBranch_15 : decode cHart_longBranch 15 = .ok (.invokestatic 157, 3) := by decide +kernel
theorem dHart_longBranch_18 : decode cHart_longBranch 18 = .ok (.iaload, 1) := by decide +kernel
theorem dHart_longBranch_19 : decode cHart_longBranch 19 = .ok (.istore_n 3, 1) := by decide +kernel
theorem dHart_longBranch_20 : decode cHart_longBranch 20 = .ok (.aload_n 0, 1) := by decide +kernel
theorem dHart_longBranch_21 : decode cHart_longBranch 21 = .ok (.getfield 60, 3) := by decide +kernel
theorem dHart_longBranch_24 : decode cHart_longBranch 24 = .ok (.iload_n 1, 1) := by decide +kernel
theorem dHart_longBranch_25 : decode cHart_longBranch 25 = .ok (.invokestatic 160, 3) := by decide +kernel
theorem dHart_longBranch_28 : decode cHart_longBranch 28 = .ok (.iadd, 1) := by decide +kernel
theorem dHart_longBranch_29 : decode cHart_longBranch 29 = .ok (.istore 4, 2) := by decide +kernel
theorem dHart_longBranch_31 : decode cHart_longBranch 31 = .ok (.iload_n 1, 1) := by decide +kernel
theorem dHart_longBranch_32 : decode cHart_longBranch 32 = .ok (.invokestatic 145, 3) := by decide +kernel
theorem dHart_longBranch_35 : decode cHart_longBranch 35 = .ok (.tableswitch 145 0 7 #[45, 62, 145, 145, 79, 96, 113, 125], 45) := by decide +kernel
theorem dHart_longBranch_80 : decode cHart_longBranch 80 = .ok (.aload_n 0, 1) := by decide +kernel
theorem dHart_longBranch_81 : decode cHart_longBranch 81 = .ok (.iload_n 2, 1) := by decide +kernel
theorem dHart_longBranch_82 : decode cHart_longBranch 82 = .ok (.iload_n 3, 1) := by decide +kernel
theorem dHart_longBranch_83 : decode cHart_longBranch 83 = .ok (.if_icmp .ne 7, 3) := by decide +kernel
theorem dHart_longBranch_86 : decode cHart_longBranch 86 = .ok (.iconst 1, 1) := by decide +kernel
theorem dHart_longBranch_87 : decode cHart_longBranch 87 = .ok (.goto 4, 3) := by decide +kernel
theorem dHart_longBranch_90 : decode cHart_longBranch 90 = .ok (.iconst 0, 1) := by decide +kernel
theorem dHart_longBranch_91 : decode cHart_longBranch 91 = .ok (.iload 4, 2) := by decide +kernel
theorem dHart_longBranch_93 : decode cHart_longBranch 93 = .ok (.invokevirtual 163, 3) := by decide +kernel
theorem dHart_longBranch_96 : decode cHart_longBranch 96 = .ok (.ireturn, 1) := by decide +kernel
theorem dHart_longBranch_97 : decode cHart_longBranch 97 = .ok (.aload_n 0, 1) := by decide +kernel
theorem dHart_longBranch_98 : decode cHart_longBranch 98 = .ok (.iload_n 2, 1) := by decide +kernel
theorem dHart_longBranch_99 : decode cHart_longBranch 99 = .ok (.iload_n 3, 1) := by decide +kernel
theorem dHart_longBranch_100 : decode cHart_longBranch 100 = .ok (.if_icmp .eq 7, 3) := by decide +kernel
theorem dHart_longBranch_103 : decode cHart_longBranch 103 = .ok (.iconst 1, 1) := by decide +kernel
theorem dHart_longBranch_104 : decode cHart_longBranch 104 = .ok (.goto 4, 3) := by decide +kernel
theorem dHart_longBranch_107 : decode cHart_longBranch 107 = .ok (.iconst 0, 1) := by decide +kernel
theorem dHart_longBranch_108 : decode cHart_longBranch 108 = .ok (.iload 4, 2) := by decide +kernel
theorem dHart_longBranch_110 : decode cHart_longBranch 110 = .ok (.invokevirtual 163, 3) := by decide +kernel
theorem dHart_longBranch_113 : decode cHart_longBranch 113 = .ok (.ireturn, 1) := by decide +kernel
theorem dHart_longBranch_114 : decode cHart_longBranch 114 = .ok (.aload_n 0, 1) := by decide +kernel
theorem dHart_longBranch_115 : decode cHart_longBranch 115 = .ok (.iload_n 2, 1) := by decide +kernel
theorem dHart_longBranch_116 : decode cHart_longBranch 116 = .ok (.iload_n 3, 1) := by decide +kernel
theorem dHart_longBranch_117 : decode cHart_longBranch 117 = .ok (.if_icmp .ge 7, 3) := by decide +kernel
theorem dHart_longBranch_120 : decode cHart_longBranch 120 = .ok (.iconst 1, 1) := by decide +kernel
theorem dHart_longBranch_121 : decode cHart_longBranch 121 = .ok (.goto 4, 3) := by decide +kernel
theorem dHart_longBranch_124 : decode cHart_longBranch 124 = .ok (.iconst 0, 1) := by decide +kernel
theorem dHart_longBranch_125 : decode cHart_longBranch 125 = .ok (.iload 4, 2) := by decide +kernel
theorem dHart_longBranch_127 : decode cHart_longBranch 127 = .ok (.invokevirtual 163, 3) := by decide +kernel
theorem dHart_longBranch_130 : decode cHart_longBranch 130 = .ok (.ireturn, 1) := by decide +kernel
theorem dHart_longBranch_131 : decode cHart_longBranch 131 = .ok (.aload_n 0, 1) := by decide +kernel
theorem dHart_longBranch_132 : decode cHart_longBranch 132 = .ok (.iload_n 2, 1) := by decide +kernel
theorem dHart_longBranch_133 : decode cHart_longBranch 133 = .ok (.iload_n 3, 1) := by decide +kernel
theorem dHart_longBranch_134 : decode cHart_longBranch 134 = .ok (.if_icmp .lt 7, 3) := by decide +kernel
theorem dHart_longBranch_137 : decode cHart_longBranch 137 = .ok (.iconst 1, 1) := by decide +kernel
theorem dHart_longBranch_138 : decode cHart_longBranch 138 = .ok (.goto 4, 3) := by decide +kernel
theorem dHart_longBranch_141 : decode cHart_longBranch 141 = .ok (.iconst 0, 1) := by decide +kernel
theorem dHart_longBranch_142 : decode cHart_longBranch 142 = .ok (.iload 4, 2) := by decide +kernel
theorem dHart_longBranch_144 : decode cHart_longBranch 144 = .ok (.invokevirtual 163, 3) := by decide +kernel
theorem dHart_longBranch_147 : decode cHart_longBranch 147 = .ok (.ireturn, 1) := by decide +kernel
theorem dHart_longBranch_148 : decode cHart_longBranch 148 = .ok (.aload_n 0, 1) := by decide +kernel
theorem dHart_longBranch_149 : decode cHart_longBranch 149 = .ok (.iload_n 2, 1) := by decide +kernel
theorem dHart_longBranch_150 : decode cHart_longBranch 150 = .ok (.iload_n 3, 1) := by decide +kernel
theorem dHart_longBranch_151 : decode cHart_longBranch 151 = .ok (.invokestatic 167, 3) := by decide +kernel
theorem dHart_longBranch_154 : decode cHart_longBranch 154 = .ok (.iload 4, 2) := by decide +kernel
theorem dHart_longBranch_156 : decode cHart_longBranch 156 = .ok (.invokevirtual 163, 3) := by decide +kernel
theorem dHart_longBranch_159 : decode cHart_longBranch 159 = .ok (.ireturn, 1) := by decide +kernel
theorem dHart_longBranch_160 : decode cHart_longBranch 160 = .ok (.aload_n 0, 1) := by decide +kernel
theorem dHart_longBranch_161 : decode cHart_longBranch 161 = .ok (.iload_n 2, 1) := by decide +kernel
theorem dHart_longBranch_162 : decode cHart_longBranch 162 = .ok (.iload_n 3, 1) := by decide +kernel
theorem dHart_longBranch_163 : decode cHart_longBranch 163 = .ok (.invokestatic 167, 3) := by decide +kernel
theorem dHart_longBranch_166 : decode cHart_longBranch 166 = .ok (.ifCond .ne 7, 3) := by decide +kernel
theorem dHart_longBranch_169 : decode cHart_longBranch 169 = .ok (.iconst 1, 1) := by decide +kernel
theorem dHart_longBranch_170 : decode cHart_longBranch 170 = .ok (.goto 4, 3) := by decide +kernel
theorem dHart_longBranch_173 : decode cHart_longBranch 173 = .ok (.iconst 0, 1) := by decide +kernel
theorem dHart_longBranch_174 : decode cHart_longBranch 174 = .ok (.iload 4, 2) := by decide +kernel
theorem dHart_longBranch_176 : decode cHart_longBranch 176 = .ok (.invokevirtual 163, 3) := by decide +kernel
theorem dHart_longBranch_179 : decode cHart_longBranch 179 = .ok (.ireturn, 1) := by decide +kernel
theorem dHart_longBranch_180 : decode cHart_longBranch 180 = .ok (.aload_n 0, 1) := by decide +kernel
theorem dHart_longBranch_181 : decode cHart_longBranch 181 = .ok (.iconst 2, 1) := by decide +kernel
theorem dHart_longBranch_182 : decode cHart_longBranch 182 = .ok (.iload_n 1, 1) := by decide +kernel
theorem dHart_longBranch_183 : decode cHart_longBranch 183 = .ok (.invokevirtual 91, 3) := by decide +kernel
theorem dHart_longBranch_186 : decode cHart_longBranch 186 = .ok (.ireturn, 1) := by decide +kernel
theorem dHart_longLoad_0 : decode cHart_longLoad 0 = .ok (.iload_n 1, 1) := by decide +kernel
theorem dHart_longLoad_1 : decode cHart_longLoad 1 = .ok (.invokestatic 145, 3) := by decide +kernel
theorem dHart_longLoad_4 : decode cHart_longLoad 4 = .ok (.istore_n 2, 1) := by decide +kernel
theorem dHart_longLoad_5 : decode cHart_longLoad 5 = .ok (.iload_n 2, 1) := by decide +kernel
theorem dHart_longLoad_6 : decode cHart_longLoad 6 = .ok (.iconst 3, 1) := by decide +kernel
theorem dHart_longLoad_7 : decode cHart_longLoad 7 = .ok (.if_icmp .eq 8, 3) := by decide +kernel
theorem dHart_longLoad_10 : decode cHart_longLoad 10 = .ok (.iload_n 2, 1) := by decide +kernel
theorem dHart_longLoad_11 : decode cHart_longLoad 11 = .ok (.iconst 5, 1) := by decide +kernel
theorem dHart_longLoad_12 : decode cHart_longLoad 12 = .ok (.if_icmp .le 10, 3) := by decide +kernel
theorem dHart_longLoad_15 : decode cHart_longLoad 15 = .ok (.aload_n 0, 1) := by decide +kernel
theorem dHart_longLoad_16 : decode cHart_longLoad 16 = .ok (.iconst 2, 1) := by decide +kernel
theorem dHart_longLoad_17 : decode cHart_longLoad 17 = .ok (.iload_n 1, 1) := by decide +kernel
theorem dHart_longLoad_18 : decode cHart_longLoad 18 = .ok (.invokevirtual 91, 3) := by decide +kernel
theorem dHart_longLoad_21 : decode cHart_longLoad 21 = .ok (.ireturn, 1) := by decide +kernel
theorem dHart_longLoad_22 : decode cHart_longLoad 22 = .ok (.aload_n 0, 1) := by decide +kernel
theorem dHart_longLoad_23 : decode cHart_longLoad 23 = .ok (.iload_n 2, 1) := by decide +kernel
theorem dHart_longLoad_24 : decode cHart_longLoad 24 = .ok (.iload_n 1, 1) := by decide +kernel
theorem dHart_longLoad_25 : decode cHart_longLoad 25 = .ok (.invokestatic 113, 3) := by decide +kernel
theorem dHart_longLoad_28 : decode cHart_longLoad 28 = .ok (.aload_n 0, 1) := by decide +kernel
theorem dHart_longLoad_29 : decode cHart_longLoad 29 = .ok (.getfield 16, 3) := by decide +kernel
theorem dHart_longLoad_32 : decode cHart_longLoad 32 = .ok (.iload_n 1, 1) := by decide +kernel
theorem dHart_longLoad_33 : decode cHart_longLoad 33 = .ok (.invokestatic 151, 3) := by decide +kernel
theorem dHart_longLoad_36 : decode cHart_longLoad 36 = .ok (.iaload, 1) := by decide +kernel
theorem dHart_longLoad_37 : decode cHart_longLoad 37 = .ok (.iload_n 1, 1) := by decide +kernel
theorem dHart_longLoad_38 : decode cHart_longLoad 38 = .ok (.invokestatic 154, 3) := by decide +kernel
theorem dHart_longLoad_41 : decode cHart_longLoad 41 = .ok (.iadd, 1) := by decide +kernel
theorem dHart_longLoad_42 : decode cHart_longLoad 42 = .ok (.invokevirtual 172, 3) := by decide +kernel
theorem dHart_longLoad_45 : decode cHart_longLoad 45 = .ok (.ireturn, 1) := by decide +kernel
theorem dHart_longStore_0 : decode cHart_longStore 0 = .ok (.iload_n 1, 1) := by decide +kernel
theorem dHart_longStore_1 : decode cHart_longStore 1 = .ok (.invokestatic 145, 3) := by decide +kernel
theorem dHart_longStore_4 : decode cHart_longStore 4 = .ok (.istore_n 2, 1) := by decide +kernel
theorem dHart_longStore_5 : decode cHart_longStore 5 = .ok (.iload_n 2, 1) := by decide +kernel
theorem dHart_longStore_6 : decode cHart_longStore 6 = .ok (.iconst 2, 1) := by decide +kernel
theorem dHart_longStore_7 : decode cHart_longStore 7 = .ok (.if_icmp .le 10, 3) := by decide +kernel
theorem dHart_longStore_10 : decode cHart_longStore 10 = .ok (.aload_n 0, 1) := by decide +kernel
theorem dHart_longStore_11 : decode cHart_longStore 11 = .ok (.iconst 2, 1) := by decide +kernel
theorem dHart_longStore_12 : decode cHart_longStore 12 = .ok (.iload_n 1, 1) := by decide +kernel
theorem dHart_longStore_13 : decode cHart_longStore 13 = .ok (.invokevirtual 91, 3) := by decide +kernel
theorem dHart_longStore_16 : decode cHart_longStore 16 = .ok (.ireturn, 1) := by decide +kernel
theorem dHart_longStore_17 : decode cHart_longStore 17 = .ok (.aload_n 0, 1) := by decide +kernel
theorem dHart_longStore_18 : decode cHart_longStore 18 = .ok (.getfield 16, 3) := by decide +kernel
theorem dHart_longStore_21 : decode cHart_longStore 21 = .ok (.iload_n 1, 1) := by decide +kernel
theorem dHart_longStore_22 : decode cHart_longStore 22 = .ok (.invokestatic 151, 3) := by decide +kernel
theorem dHart_longStore_25 : decode cHart_longStore 25 = .ok (.iaload, 1) := by decide +kernel
theorem dHart_longStore_26 : decode cHart_longStore 26 = .ok (.iload_n 1, 1) := by decide +kernel
theorem dHart_longStore_27 : decode cHart_longStore 27 = .ok (.invokestatic 176, 3) := by decide +kernel
theorem dHart_longStore_30 : decode cHart_longStore 30 = .ok (.iadd, 1) := by decide +kernel
theorem dHart_longStore_31 : decode cHart_longStore 31 = .ok (.istore_n 3, 1) := by decide +kernel
theorem dHart_longStore_32 : decode cHart_longStore 32 = .ok (.aload_n 0, 1) := by decide +kernel
theorem dHart_longStore_33 : decode cHart_longStore 33 = .ok (.iload_n 2, 1) := by decide +kernel
theorem dHart_longStore_34 : decode cHart_longStore 34 = .ok (.iload_n 3, 1) := by decide +kernel
theorem dHart_longStore_35 : decode cHart_longStore 35 = .ok (.aload_n 0, 1) := by decide +kernel
theorem dHart_longStore_36 : decode cHart_longStore 36 = .ok (.getfield 16, 3) := by decide +kernel
theorem dHart_longStore_39 : decode cHart_longStore 39 = .ok (.iload_n 1, 1) := by decide +kernel
theorem dHart_longStore_40 : decode cHart_longStore 40 = .ok (.invokestatic 157, 3) := by decide +kernel
theorem dHart_longStore_43 : decode cHart_longStore 43 = .ok (.iaload, 1) := by decide +kernel
theorem dHart_longStore_44 : decode cHart_longStore 44 = .ok (.invokevirtual 179, 3) := by decide +kernel
theorem dHart_longStore_47 : decode cHart_longStore 47 = .ok (.ireturn, 1) := by decide +kernel
theorem dHart_longWithNumber_0 : decode cHart_longWithNumber 0 = .ok (.iload_n 1, 1) := by decide +kernel
theorem dHart_longWithNumber_1 : decode cHart_longWithNumber 1 = .ok (.invokestatic 113, 3) := by decide +kernel
theorem dHart_longWithNumber_4 : decode cHart_longWithNumber 4 = .ok (.istore_n 2, 1) := by decide +kernel
theorem dHart_longWithNumber_5 : decode cHart_longWithNumber 5 = .ok (.iload_n 1, 1) := by decide +kernel
theorem dHart_longWithNumber_6 : decode cHart_longWithNumber 6 = .ok (.invokestatic 145, 3) := by decide +kernel
theorem dHart_longWithNumber_9 : decode cHart_longWithNumber 9 = .ok (.istore_n 3, 1) := by decide +kernel
theorem dHart_longWithNumber_10 : decode cHart_longWithNumber 10 = .ok (.iload_n 1, 1) := by decide +kernel
theorem dHart_longWithNumber_11 : decode cHart_longWithNumber 11 = .ok (.invokestatic 182, 3) := by decide +kernel
theorem dHart_longWithNumber_14 : decode cHart_longWithNumber 14 = .ok (.istore 4, 2) := by decide +kernel
theorem dHart_longWithNumber_16 : decode cHart_longWithNumber 16 = .ok (.aload_n 0, 1) := by decide +kernel
theorem dHart_longWithNumber_17 : decode cHart_longWithNumber 17 = .ok (.getfield 16, 3) := by decide +kernel
theorem dHart_longWithNumber_20 : decode cHart_longWithNumber 20 = .ok (.iload_n 1, 1) := by decide +kernel
theorem dHart_longWithNumber_21 : decode cHart_longWithNumber 21 = .ok (.invokestatic 151, 3) := by decide +kernel
theorem dHart_longWithNumber_24 : decode cHart_longWithNumber 24 = .ok (.iaload, 1) := by decide +kernel
theorem dHart_longWithNumber_25 : decode cHart_longWithNumber 25 = .ok (.istore 5, 2) := by decide +kernel
theorem dHart_longWithNumber_27 : decode cHart_longWithNumber 27 = .ok (.iload_n 3, 1) := by decide +kernel
theorem dHart_longWithNumber_28 : decode cHart_longWithNumber 28 = .ok (.iconst 5, 1) := by decide +kernel
theorem dHart_longWithNumber_29 : decode cHart_longWithNumber 29 = .ok (.if_icmp .ne 23, 3) := by decide +kernel
theorem dHart_longWithNumber_32 : decode cHart_longWithNumber 32 = .ok (.iload 4, 2) := by decide +kernel
theorem dHart_longWithNumber_34 : decode cHart_longWithNumber 34 = .ok (.bipush 32, 2) := by decide +kernel
theorem dHart_longWithNumber_36 : decode cHart_longWithNumber 36 = .ok (.if_icmp .ne 16, 3) := by decide +kernel
theorem dHart_longWithNumber_39 : decode cHart_longWithNumber 39 = .ok (.aload_n 0, 1) := by decide +kernel
theorem dHart_longWithNumber_40 : decode cHart_longWithNumber 40 = .ok (.iload_n 2, 1) := by decide +kernel
theorem dHart_longWithNumber_41 : decode cHart_longWithNumber 41 = .ok (.iload 5, 2) := by decide +kernel
theorem dHart_longWithNumber_43 : decode cHart_longWithNumber 43 = .ok (.iload_n 1, 1) := by decide +kernel
theorem dHart_longWithNumber_44 : decode cHart_longWithNumber 44 = .ok (.invokestatic 157, 3) := by decide +kernel
theorem dHart_longWithNumber_47 : decode cHart_longWithNumber 47 = .ok (.ishr, 1) := by decide +kernel
theorem dHart_longWithNumber_48 : decode cHart_longWithNumber 48 = .ok (.invokevirtual 57, 3) := by decide +kernel
theorem dHart_longWithNumber_51 : decode cHart_longWithNumber 51 = .ok (.ireturn, 1) := by decide +kernel
theorem dHart_longWithNumber_52 : decode cHart_longWithNumber 52 = .ok (.iload_n 3, 1) := by decide +kernel
theorem dHart_longWithNumber_53 : decode cHart_longWithNumber 53 = .ok (.iconst 1, 1) := by decide +kernel
theorem dHart_longWithNumber_54 : decode cHart_longWithNumber 54 = .ok (.if_icmp .eq 8, 3) := by decide +kernel
theorem dHart_longWithNumber_57 : decode cHart_longWithNumber 57 = .ok (.iload_n 3, 1) := by decide +kernel
theorem dHart_longWithNumber_58 : decode cHart_longWithNumber 58 = .ok (.iconst 5, 1) := by decide +kernel
theorem dHart_longWithNumber_59 : decode cHart_longWithNumber 59 = .ok (.if_icmp .ne 15, 3) := by decide +kernel
theorem dHart_longWithNumber_62 : decode cHart_longWithNumber 62 = .ok (.iload 4, 2) := by decide +kernel
theorem dHart_longWithNumber_64 : decode cHart_longWithNumber 64 = .ok (.ifCond .eq 10, 3) := by decide +kernel
theorem dHart_longWithNumber_67 : decode cHart_longWithNumber 67 = .ok (.aload_n 0, 1) := by decide +kernel
theorem dHart_longWithNumber_68 : decode cHart_longWithNumber 68 = .ok (.iconst 2, 1) := by decide +kernel
theorem dHart_longWithNumber_69 : decode cHart_longWithNumber 69 = .ok (.iload_n 1, 1) := by decide +kernel
theorem dHart_longWithNumber_70 : decode cHart_longWithNumber 70 = .ok (.invokevirtual 91, 3) := by decide +kernel
theorem dHart_longWithNumber_73 : decode cHart_longWithNumber 73 = .ok (.ireturn, 1) := by decide +kernel
theorem dHart_longWithNumber_74 : decode cHart_longWithNumber 74 = .ok (.aload_n 0, 1) := by decide +kernel
theorem dHart_longWithNumber_75 : decode cHart_longWithNumber 75 = .ok (.iload_n 2, 1) := by decide +kernel
theorem dHart_longWithNumber_76 : decode cHart_longWithNumber 76 = .ok (.iload_n 3, 1) := by decide +kernel
theorem dHart_longWithNumber_77 : decode cHart_longWithNumber 77 = .ok (.iload 5, 2) := by decide +kernel
theorem dHart_longWithNumber_79 : decode cHart_longWithNumber 79 = .ok (.iload_n 1, 1) := by decide +kernel
theorem dHart_longWithNumber_80 : decode cHart_longWithNumber 80 = .ok (.invokestatic 154, 3) := by decide +kernel
theorem dHart_longWithNumber_83 : decode cHart_longWithNumber 83 = .ok (.invokestatic 185, 3) := by decide +kernel
theorem dHart_longWithNumber_86 : decode cHart_longWithNumber 86 = .ok (.invokevirtual 57, 3) := by decide +kernel
theorem dHart_longWithNumber_89 : decode cHart_longWithNumber 89 = .ok (.ireturn, 1) := by decide +kernel
theorem dHart_longWithRegisters_0 : decode cHart_longWithRegisters 0 = .ok (.iload_n 1, 1) := by decide +kernel
theorem dHart_longWithRegisters_1 : decode cHart_longWithRegisters 1 = .ok (.invokestatic 113, 3) := by decide +kernel
theorem dHart_longWithRegisters_4 : decode cHart_longWithRegisters 4 = .ok (.istore_n 2, 1) := by decide +kernel
theorem dHart_longWithRegisters_5 : decode cHart_longWithRegisters 5 = .ok (.iload_n 1, 1) := by decide +kernel
theorem dHart_longWithRegisters_6 : decode cHart_longWithRegisters 6 = .ok (.invokestatic 145, 3) := by decide +kernel
theorem dHart_longWithRegisters_9 : decode cHart_longWithRegisters 9 = .ok (.istore_n 3, 1) := by decide +kernel
theorem dHart_longWithRegisters_10 : decode cHart_longWithRegisters 10 = .ok (.aload_n 0, 1) := by decide +kernel
theorem dHart_longWithRegisters_11 : decode cHart_longWithRegisters 11 = .ok (.getfield 16, 3) := by decide +kernel
theorem dHart_longWithRegisters_14 : decode cHart_longWithRegisters 14 = .ok (.iload_n 1, 1) := by decide +kernel
theorem dHart_longWithRegisters_15 : decode cHart_longWithRegisters 15 = .ok (.invokestatic 151, 3) := by decide +kernel
theorem dHart_longWithRegisters_18 : decode cHart_longWithRegisters 18 = .ok (.iaload, 1) := by decide +kernel
theorem dHart_longWithRegisters_19 : decode cHart_longWithRegisters 19 = .ok (.istore 4, 2) := by decide +kernel
theorem dHart_longWithRegisters_21 : decode cHart_longWithRegisters 21 = .ok (.aload_n 0, 1) := by decide +kernel
theorem dHart_longWithRegisters_22 : decode cHart_longWithRegisters 22 = .ok (.getfield 16, 3) := by decide +kernel
theorem dHart_longWithRegisters_25 : decode cHart_longWithRegisters 25 = .ok (.iload_n 1, 1) := by decide +kernel
theorem dHart_longWithRegisters_26 : decode cHart_longWithRegisters 26 = .ok (.invokestatic 157, 3) := by decide +kernel
theorem dHart_longWithRegisters_29 : decode cHart_longWithRegisters 29 = .ok (.iaload, 1) := by decide +kernel
theorem dHart_longWithRegisters_30 : decode cHart_longWithRegisters 30 = .ok (.istore 5, 2) := by decide +kernel
theorem dHart_longWithRegisters_32 : decode cHart_longWithRegisters 32 = .ok (.iload_n 1, 1) := by decide +kernel
theorem dHart_longWithRegisters_33 : decode cHart_longWithRegisters 33 = .ok (.invokestatic 182, 3) := by decide +kernel
theorem dHart_longWithRegisters_36 : decode cHart_longWithRegisters 36 = .ok (.lookupswitch 107 #[(0, 36), (1, 50), (32, 64)], 36) := by decide +kernel
theorem dHart_longWithRegisters_72 : decode cHart_longWithRegisters 72 = .ok (.aload_n 0, 1) := by decide +kernel
theorem dHart_longWithRegisters_73 : decode cHart_longWithRegisters 73 = .ok (.iload_n 2, 1) := by decide +kernel
theorem dHart_longWithRegisters_74 : decode cHart_longWithRegisters 74 = .ok (.iload_n 3, 1) := by decide +kernel
theorem dHart_longWithRegisters_75 : decode cHart_longWithRegisters 75 = .ok (.iload 4, 2) := by decide +kernel
theorem dHart_longWithRegisters_77 : decode cHart_longWithRegisters 77 = .ok (.iload 5, 2) := by decide +kernel
theorem dHart_longWithRegisters_79 : decode cHart_longWithRegisters 79 = .ok (.invokestatic 185, 3) := by decide +kernel
theorem dHart_longWithRegisters_82 : decode cHart_longWithRegisters 82 = .ok (.invokevirtual 57, 3) := by decide +kernel
theorem dHart_longWithRegisters_85 : decode cHart_longWithRegisters 85 = .ok (.ireturn, 1) := by decide +kernel
theorem dHart_longWithRegisters_86 : decode cHart_longWithRegisters 86 = .ok (.aload_n 0, 1) := by decide +kernel
theorem dHart_longWithRegisters_87 : decode cHart_longWithRegisters 87 = .ok (.iload_n 2, 1) := by decide +kernel
theorem dHart_longWithRegisters_88 : decode cHart_longWithRegisters 88 = .ok (.iload_n 3, 1) := by decide +kernel
theorem dHart_longWithRegisters_89 : decode cHart_longWithRegisters 89 = .ok (.iload 4, 2) := by decide +kernel
theorem dHart_longWithRegisters_91 : decode cHart_longWithRegisters 91 = .ok (.iload 5, 2) := by decide +kernel
theorem dHart_longWithRegisters_93 : decode cHart_longWithRegisters 93 = .ok (.invokestatic 188, 3) := by decide +kernel
theorem dHart_longWithRegisters_96 : decode cHart_longWithRegisters 96 = .ok (.invokevirtual 57, 3) := by decide +kernel
theorem dHart_longWithRegisters_99 : decode cHart_longWithRegisters 99 = .ok (.ireturn, 1) := by decide +kernel
theorem dHart_longWithRegisters_100 : decode cHart_longWithRegisters 100 = .ok (.iload_n 3, 1) := by decide +kernel
theorem dHart_longWithRegisters_101 : decode cHart_longWithRegisters 101 = .ok (.ifCond .ne 14, 3) := by decide +kernel
theorem dHart_longWithRegisters_104 : decode cHart_longWithRegisters 104 = .ok (.aload_n 0, 1) := by decide +kernel
theorem dHart_longWithRegisters_105 : decode cHart_longWithRegisters 105 = .ok (.iload_n 2, 1) := by decide +kernel
theorem dHart_longWithRegisters_106 : decode cHart_longWithRegisters 106 = .ok (.iload 4, 2) := by decide +kernel
theorem dHart_longWithRegisters_108 : decode cHart_longWithRegisters 108 = .ok (.iload 5, 2) := by decide +kernel
theorem dHart_longWithRegisters_110 : decode cHart_longWithRegisters 110 = .ok (.isub, 1) := by decide +kernel
theorem dHart_longWithRegisters_111 : decode cHart_longWithRegisters 111 = .ok (.invokevirtual 57, 3) := by decide +kernel
theorem dHart_longWithRegisters_114 : decode cHart_longWithRegisters 114 = .ok (.ireturn, 1) := by decide +kernel
theorem dHart_longWithRegisters_115 : decode cHart_longWithRegisters 115 = .ok (.iload_n 3, 1) := by decide +kernel
theorem dHart_longWithRegisters_116 : decode cHart_longWithRegisters 116 = .ok (.iconst 5, 1) := by decide +kernel
theorem dHart_longWithRegisters_117 : decode cHart_longWithRegisters 117 = .ok (.if_icmp .ne 19, 3) := by decide +kernel
theorem dHart_longWithRegisters_120 : decode cHart_longWithRegisters 120 = .ok (.aload_n 0, 1) := by decide +kernel
theorem dHart_longWithRegisters_121 : decode cHart_longWithRegisters 121 = .ok (.iload_n 2, 1) := by decide +kernel
theorem dHart_longWithRegisters_122 : decode cHart_longWithRegisters 122 = .ok (.iload 4, 2) := by decide +kernel
theorem dHart_longWithRegisters_124 : decode cHart_longWithRegisters 124 = .ok (.iload 5, 2) := by decide +kernel
theorem dHart_longWithRegisters_126 : decode cHart_longWithRegisters 126 = .ok (.bipush 31, 2) := by decide +kernel
theorem dHart_longWithRegisters_128 : decode cHart_longWithRegisters 128 = .ok (.iand, 1) := by decide +kernel
theorem dHart_longWithRegisters_129 : decode cHart_longWithRegisters 129 = .ok (.ishr, 1) := by decide +kernel
theorem dHart_longWithRegisters_130 : decode cHart_longWithRegisters 130 = .ok (.invokevirtual 57, 3) := by decide +kernel
theorem dHart_longWithRegisters_133 : decode cHart_longWithRegisters 133 = .ok (.goto 9, 3) := by decide +kernel
theorem dHart_longWithRegisters_136 : decode cHart_longWithRegisters 136 = .ok (.aload_n 0, 1) := by decide +kernel
theorem dHart_longWithRegisters_137 : decode cHart_longWithRegisters 137 = .ok (.iconst 2, 1) := by decide +kernel
theorem dHart_longWithRegisters_138 : decode cHart_longWithRegisters 138 = .ok (.iload_n 1, 1) := by decide +kernel
theorem dHart_longWithRegisters_139 : decode cHart_longWithRegisters 139 = .ok (.invokevirtual 91, 3) := by decide +kernel
theorem dHart_longWithRegisters_142 : decode cHart_longWithRegisters 142 = .ok (.ireturn, 1) := by decide +kernel
theorem dHart_longWithRegisters_143 : decode cHart_longWithRegisters 143 = .ok (.aload_n 0, 1) := by decide +kernel
theorem dHart_longWithRegisters_144 : decode cHart_longWithRegisters 144 = .ok (.iconst 2, 1) := by decide +kernel
theorem dHart_longWithRegisters_145 : decode cHart_longWithRegisters 145 = .ok (.iload_n 1, 1) := by decide +kernel
theorem dHart_longWithRegisters_146 : decode cHart_longWithRegisters 146 = .ok (.invokevirtual 91, 3) := by decide +kernel
theorem dHart_longWithRegisters_149 : decode cHart_longWithRegisters 149 = .ok (.ireturn, 1) := by decide +kernel
theorem dHart_longAtomic_0 : decode cHart_longAtomic 0 = .ok (.iload_n 1, 1) := by decide +kernel
theorem dHart_longAtomic_1 : decode cHart_longAtomic 1 = .ok (.invokestatic 191, 3) := by decide +kernel
theorem dHart_longAtomic_4 : decode cHart_longAtomic 4 = .ok (.ifCond .ne 10, 3) := by decide +kernel
theorem dHart_longAtomic_7 : decode cHart_longAtomic 7 = .ok (.aload_n 0, 1) := by decide +kernel
theorem dHart_longAtomic_8 : decode cHart_longAtomic 8 = .ok (.iconst 2, 1) := by decide +kernel
theorem dHart_longAtomic_9 : decode cHart_longAtomic 9 = .ok (.iload_n 1, 1) := by decide +kernel
theorem dHart_longAtomic_10 : decode cHart_longAtomic 10 = .ok (.invokevirtual 91, 3) := by decide +kernel
theorem dHart_longAtomic_13 : decode cHart_longAtomic 13 = .ok (.ireturn, 1) := by decide +kernel
theorem dHart_longAtomic_14 : decode cHart_longAtomic 14 = .ok (.iload_n 1, 1) := by decide +kernel
theorem dHart_longAtomic_15 : decode cHart_longAtomic 15 = .ok (.invokestatic 194, 3) := by decide +kernel
theorem dHart_longAtomic_18 : decode cHart_longAtomic 18 = .ok (.istore_n 2, 1) := by decide +kernel
theorem dHart_longAtomic_19 : decode cHart_longAtomic 19 = .ok (.aload_n 0, 1) := by decide +kernel
theorem dHart_longAtomic_20 : decode cHart_longAtomic 20 = .ok (.getfield 16, 3) := by decide +kernel
theorem dHart_longAtomic_23 : decode cHart_longAtomic 23 = .ok (.iload_n 1, 1) := by decide +kernel
theorem dHart_longAtomic_24 : decode cHart_longAtomic 24 = .ok (.invokestatic 151, 3) := by decide +kernel
theorem dHart_longAtomic_27 : decode cHart_longAtomic 27 = .ok (.iaload, 1) := by decide +kernel
theorem dHart_longAtomic_28 : decode cHart_longAtomic 28 = .ok (.istore_n 3, 1) := by decide +kernel
theorem dHart_longAtomic_29 : decode cHart_longAtomic 29 = .ok (.iconst 2, 1) := by decide +kernel
theorem dHart_longAtomic_30 : decode cHart_longAtomic 30 = .ok (.iload_n 3, 1) := by decide +kernel
theorem dHart_longAtomic_31 : decode cHart_longAtomic 31 = .ok (.invokestatic 35, 3) := by decide +kernel
theorem dHart_longAtomic_34 : decode cHart_longAtomic 34 = .ok (.ifCond .eq 10, 3) := by decide +kernel
theorem dHart_longAtomic_37 : decode cHart_longAtomic 37 = .ok (.aload_n 0, 1) := by decide +kernel
theorem dHart_longAtomic_38 : decode cHart_longAtomic 38 = .ok (.iconst 5, 1) := by decide +kernel
theorem dHart_longAtomic_39 : decode cHart_longAtomic 39 = .ok (.iload_n 3, 1) := by decide +kernel
theorem dHart_longAtomic_40 : decode cHart_longAtomic 40 = .ok (.invokevirtual 91, 3) := by decide +kernel
theorem dHart_longAtomic_43 : decode cHart_longAtomic 43 = .ok (.ireturn, 1) := by decide +kernel
theorem dHart_longAtomic_44 : decode cHart_longAtomic 44 = .ok (.iload_n 2, 1) := by decide +kernel
theorem dHart_longAtomic_45 : decode cHart_longAtomic 45 = .ok (.iconst 2, 1) := by decide +kernel
theorem dHart_longAtomic_46 : decode cHart_longAtomic 46 = .ok (.if_icmp .eq 23, 3) := by decide +kernel
theorem dHart_longAtomic_49 : decode cHart_longAtomic 49 = .ok (.aload_n 0, 1) := by decide +kernel
theorem dHart_longAtomic_50 : decode cHart_longAtomic 50 = .ok (.getfield 10, 3) := by decide +kernel
theorem dHart_longAtomic_53 : decode cHart_longAtomic 53 = .ok (.iconst 2, 1) := by decide +kernel
theorem dHart_longAtomic_54 : decode cHart_longAtomic 54 = .ok (.iload_n 3, 1) := by decide +kernel
theorem dHart_longAtomic_55 : decode cHart_longAtomic 55 = .ok (.invokevirtual 110, 3) := by decide +kernel
theorem dHart_longAtomic_58 : decode cHart_longAtomic 58 = .ok (.ifCond .ne 11, 3) := by decide +kernel
theorem dHart_longAtomic_61 : decode cHart_longAtomic 61 = .ok (.aload_n 0, 1) := by decide +kernel
theorem dHart_longAtomic_62 : decode cHart_longAtomic 62 = .ok (.bipush 7, 2) := by decide +kernel
theorem dHart_longAtomic_64 : decode cHart_longAtomic 64 = .ok (.iload_n 3, 1) := by decide +kernel
theorem dHart_longAtomic_65 : decode cHart_longAtomic 65 = .ok (.invokevirtual 91, 3) := by decide +kernel
theorem dHart_longAtomic_68 : decode cHart_longAtomic 68 = .ok (.ireturn, 1) := by decide +kernel
theorem dHart_longAtomic_69 : decode cHart_longAtomic 69 = .ok (.aload_n 0, 1) := by decide +kernel
theorem dHart_longAtomic_70 : decode cHart_longAtomic 70 = .ok (.getfield 10, 3) := by decide +kernel
theorem dHart_longAtomic_73 : decode cHart_longAtomic 73 = .ok (.iconst 1, 1) := by decide +kernel
theorem dHart_longAtomic_74 : decode cHart_longAtomic 74 = .ok (.iload_n 3, 1) := by decide +kernel
theorem dHart_longAtomic_75 : decode cHart_longAtomic 75 = .ok (.invokevirtual 110, 3) := by decide +kernel
theorem dHart_longAtomic_78 : decode cHart_longAtomic 78 = .ok (.ifCond .ne 11, 3) := by decide +kernel
theorem dHart_longAtomic_81 : decode cHart_longAtomic 81 = .ok (.aload_n 0, 1) := by decide +kernel
theorem dHart_longAtomic_82 : decode cHart_longAtomic 82 = .ok (.bipush 6, 2) := by decide +kernel
theorem dHart_longAtomic_84 : decode cHart_longAtomic 84 = .ok (.iload_n 3, 1) := by decide +kernel
theorem dHart_longAtomic_85 : decode cHart_longAtomic 85 = .ok (.invokevirtual 91, 3) := by decide +kernel
theorem dHart_longAtomic_88 : decode cHart_longAtomic 88 = .ok (.ireturn, 1) := by decide +kernel
theorem dHart_longAtomic_89 : decode cHart_longAtomic 89 = .ok (.iload_n 1, 1) := by decide +kernel
theorem dHart_longAtomic_90 : decode cHart_longAtomic 90 = .ok (.invokestatic 113, 3) := by decide +kernel
theorem dHart_longAtomic_93 : decode cHart_longAtomic 93 = .ok (.istore 4, 2) := by decide +kernel
theorem dHart_longAtomic_95 : decode cHart_longAtomic 95 = .ok (.aload_n 0, 1) := by decide +kernel
theorem dHart_longAtomic_96 : decode cHart_longAtomic 96 = .ok (.getfield 16, 3) := by decide +kernel
theorem dHart_longAtomic_99 : decode cHart_longAtomic 99 = .ok (.iload_n 1, 1) := by decide +kernel
theorem dHart_longAtomic_100 : decode cHart_longAtomic 100 = .ok (.invokestatic 157, 3) := by decide +kernel
theorem dHart_longAtomic_103 : decode cHart_longAtomic 103 = .ok (.iaload, 1) := by decide +kernel
theorem dHart_longAtomic_104 : decode cHart_longAtomic 104 = .ok (.istore 5, 2) := by decide +kernel
theorem dHart_longAtomic_106 : decode cHart_longAtomic 106 = .ok (.iload_n 2, 1) := by decide +kernel
theorem dHart_longAtomic_107 : decode cHart_longAtomic 107 = .ok (.lookupswitch 43 #[(2, 25), (3, 33)], 25) := by decide +kernel
theorem dHart_longAtomic_132 : decode cHart_longAtomic 132 = .ok (.aload_n 0, 1) := by decide +kernel
theorem dHart_longAtomic_133 : decode cHart_longAtomic 133 = .ok (.iload 4, 2) := by decide +kernel
theorem dHart_longAtomic_135 : decode cHart_longAtomic 135 = .ok (.iload_n 3, 1) := by decide +kernel
theorem dHart_longAtomic_136 : decode cHart_longAtomic 136 = .ok (.invokevirtual 197, 3) := by decide +kernel
theorem dHart_longAtomic_139 : decode cHart_longAtomic 139 = .ok (.ireturn, 1) := by decide +kernel
theorem dHart_longAtomic_140 : decode cHart_longAtomic 140 = .ok (.aload_n 0, 1) := by decide +kernel
theorem dHart_longAtomic_141 : decode cHart_longAtomic 141 = .ok (.iload 4, 2) := by decide +kernel
theorem dHart_longAtomic_143 : decode cHart_longAtomic 143 = .ok (.iload_n 3, 1) := by decide +kernel
theorem dHart_longAtomic_144 : decode cHart_longAtomic 144 = .ok (.iload 5, 2) := by decide +kernel
theorem dHart_longAtomic_146 : decode cHart_longAtomic 146 = .ok (.invokevirtual 200, 3) := by decide +kernel
theorem dHart_longAtomic_149 : decode cHart_longAtomic 149 = .ok (.ireturn, 1) := by decide +kernel
theorem dHart_longAtomic_150 : decode cHart_longAtomic 150 = .ok (.aload_n 0, 1) := by decide +kernel
theorem dHart_longAtomic_151 : decode cHart_longAtomic 151 = .ok (.iload_n 2, 1) := by decide +kernel
theorem dHart_longAtomic_152 : decode cHart_longAtomic 152 = .ok (.iload 4, 2) := by decide +kernel
theorem dHart_longAtomic_154 : decode cHart_longAtomic 154 = .ok (.iload_n 3, 1) := by decide +kernel
theorem dHart_longAtomic_155 : decode cHart_longAtomic 155 = .ok (.iload 5, 2) := by decide +kernel
theorem dHart_longAtomic_157 : decode cHart_longAtomic 157 = .ok (.invokevirtual 203, 3) := by decide +kernel
theorem dHart_longAtomic_160 : decode cHart_longAtomic 160 = .ok (.ireturn, 1) := by decide +kernel
theorem dHart_loadReserved_0 : decode cHart_loadReserved 0 = .ok (.aload_n 0, 1) := by decide +kernel
theorem dHart_loadReserved_1 : decode cHart_loadReserved 1 = .ok (.getfield 10, 3) := by decide +kernel
theorem dHart_loadReserved_4 : decode cHart_loadReserved 4 = .ok (.iload_n 2, 1) := by decide +kernel
theorem dHart_loadReserved_5 : decode cHart_loadReserved 5 = .ok (.invokevirtual 207, 3) := by decide +kernel
theorem dHart_loadReserved_8 : decode cHart_loadReserved 8 = .ok (.aload_n 0, 1) := by decide +kernel
theorem dHart_loadReserved_9 : decode cHart_loadReserved 9 = .ok (.iload_n 1, 1) := by decide +kernel
theorem dHart_loadReserved_10 : decode cHart_loadReserved 10 = .ok (.aload_n 0, 1) := by decide +kernel
theorem dHart_loadReserved_11 : decode cHart_loadReserved 11 = .ok (.getfield 10, 3) := by decide +kernel
theorem dHart_loadReserved_14 : decode cHart_loadReserved 14 = .ok (.iconst 2, 1) := by decide +kernel
theorem dHart_loadReserved_15 : decode cHart_loadReserved 15 = .ok (.iload_n 2, 1) := by decide +kernel
theorem dHart_loadReserved_16 : decode cHart_loadReserved 16 = .ok (.invokevirtual 41, 3) := by decide +kernel
theorem dHart_loadReserved_19 : decode cHart_loadReserved 19 = .ok (.invokevirtual 57, 3) := by decide +kernel
theorem dHart_loadReserved_22 : decode cHart_loadReserved 22 = .ok (.ireturn, 1) := by decide +kernel
theorem dHart_storeConditional_0 : decode cHart_storeConditional 0 = .ok (.aload_n 0, 1) := by decide +kernel
theorem dHart_storeConditional_1 : decode cHart_storeConditional 1 = .ok (.getfield 10, 3) := by decide +kernel
theorem dHart_storeConditional_4 : decode cHart_storeConditional 4 = .ok (.invokevirtual 83, 3) := by decide +kernel
theorem dHart_storeConditional_7 : decode cHart_storeConditional 7 = .ok (.iload_n 2, 1) := by decide +kernel
theorem dHart_storeConditional_8 : decode cHart_storeConditional 8 = .ok (.if_icmp .ne 7, 3) := by decide +kernel
theorem dHart_storeConditional_11 : decode cHart_storeConditional 11 = .ok (.iconst 1, 1) := by decide +kernel
theorem dHart_storeConditional_12 : decode cHart_storeConditional 12 = .ok (.goto 4, 3) := by decide +kernel
theorem dHart_storeConditional_15 : decode cHart_storeConditional 15 = .ok (.iconst 0, 1) := by decide +kernel
theorem dHart_storeConditional_16 : decode cHart_storeConditional 16 = .ok (.istore 4, 2) := by decide +kernel
theorem dHart_storeConditional_18 : decode cHart_storeConditional 18 = .ok (.iload 4, 2) := by decide +kernel
theorem dHart_storeConditional_20 : decode cHart_storeConditional 20 = .ok (.ifCond .eq 13, 3) := by decide +kernel
theorem dHart_storeConditional_23 : decode cHart_storeConditional 23 = .ok (.aload_n 0, 1) := by decide +kernel
theorem dHart_storeConditional_24 : decode cHart_storeConditional 24 = .ok (.getfield 10, 3) := by decide +kernel
theorem dHart_storeConditional_27 : decode cHart_storeConditional 27 = .ok (.iconst 2, 1) := by decide +kernel
theorem dHart_storeConditional_28 : decode cHart_storeConditional 28 = .ok (.iload_n 2, 1) := by decide +kernel
theorem dHart_storeConditional_29 : decode cHart_storeConditional 29 = .ok (.iload_n 3, 1) := by decide +kernel
theorem dHart_storeConditional_30 : decode cHart_storeConditional 30 = .ok (.invokevirtual 31, 3) := by decide +kernel
theorem dHart_storeConditional_33 : decode cHart_storeConditional 33 = .ok (.aload_n 0, 1) := by decide +kernel
theorem dHart_storeConditional_34 : decode cHart_storeConditional 34 = .ok (.getfield 10, 3) := by decide +kernel
theorem dHart_storeConditional_37 : decode cHart_storeConditional 37 = .ok (.iconst (-1), 1) := by decide +kernel
theorem dHart_storeConditional_38 : decode cHart_storeConditional 38 = .ok (.invokevirtual 207, 3) := by decide +kernel
theorem dHart_storeConditional_41 : decode cHart_storeConditional 41 = .ok (.aload_n 0, 1) := by decide +kernel
theorem dHart_storeConditional_42 : decode cHart_storeConditional 42 = .ok (.iload_n 1, 1) := by decide +kernel
theorem dHart_storeConditional_43 : decode cHart_storeConditional 43 = .ok (.iload 4, 2) := by decide +kernel
theorem dHart_storeConditional_45 : decode cHart_storeConditional 45 = .ok (.ifCond .eq 7, 3) := by decide +kernel
theorem dHart_storeConditional_48 : decode cHart_storeConditional 48 = .ok (.iconst 0, 1) := by decide +kernel
theorem dHart_storeConditional_49 : decode cHart_storeConditional 49 = .ok (.goto 4, 3) := by decide +kernel
theorem dHart_storeConditional_52 : decode cHart_storeConditional 52 = .ok (.iconst 1, 1) := by decide +kernel
theorem dHart_storeConditional_53 : decode cHart_storeConditional 53 = .ok (.invokevirtual 57, 3) := by decide +kernel
theorem dHart_storeConditional_56 : decode cHart_storeConditional 56 = .ok (.ireturn, 1) := by decide +kernel
theorem dHart_change_0 : decode cHart_change 0 = .ok (.aload_n 0, 1) := by decide +kernel
theorem dHart_change_1 : decode cHart_change 1 = .ok (.getfield 10, 3) := by decide +kernel
theorem dHart_change_4 : decode cHart_change 4 = .ok (.iconst 2, 1) := by decide +kernel
theorem dHart_change_5 : decode cHart_change 5 = .ok (.iload_n 3, 1) := by decide +kernel
theorem dHart_change_6 : decode cHart_change 6 = .ok (.invokevirtual 41, 3) := by decide +kernel
theorem dHart_change_9 : decode cHart_change 9 = .ok (.istore 5, 2) := by decide +kernel
theorem dHart_change_11 : decode cHart_change 11 = .ok (.aload_n 0, 1) := by decide +kernel
theorem dHart_change_12 : decode cHart_change 12 = .ok (.getfield 10, 3) := by decide +kernel
theorem dHart_change_15 : decode cHart_change 15 = .ok (.iconst 2, 1) := by decide +kernel
theorem dHart_change_16 : decode cHart_change 16 = .ok (.iload_n 3, 1) := by decide +kernel
theorem dHart_change_17 : decode cHart_change 17 = .ok (.iload_n 1, 1) := by decide +kernel
theorem dHart_change_18 : decode cHart_change 18 = .ok (.iload 5, 2) := by decide +kernel
theorem dHart_change_20 : decode cHart_change 20 = .ok (.iload 4, 2) := by decide +kernel
theorem dHart_change_22 : decode cHart_change 22 = .ok (.invokestatic 211, 3) := by decide +kernel
theorem dHart_change_25 : decode cHart_change 25 = .ok (.invokevirtual 31, 3) := by decide +kernel
theorem dHart_change_28 : decode cHart_change 28 = .ok (.aload_n 0, 1) := by decide +kernel
theorem dHart_change_29 : decode cHart_change 29 = .ok (.iload_n 2, 1) := by decide +kernel
theorem dHart_change_30 : decode cHart_change 30 = .ok (.iload 5, 2) := by decide +kernel
theorem dHart_change_32 : decode cHart_change 32 = .ok (.invokevirtual 57, 3) := by decide +kernel
theorem dHart_change_35 : decode cHart_change 35 = .ok (.ireturn, 1) := by decide +kernel
theorem dHart_longSystem_0 : decode cHart_longSystem 0 = .ok (.iload_n 1, 1) := by decide +kernel
theorem dHart_longSystem_1 : decode cHart_longSystem 1 = .ok (.bipush 115, 2) := by decide +kernel
theorem dHart_longSystem_3 : decode cHart_longSystem 3 = .ok (.if_icmp .ne 10, 3) := by decide +kernel
theorem dHart_longSystem_6 : decode cHart_longSystem 6 = .ok (.aload_n 0, 1) := by decide +kernel
theorem dHart_longSystem_7 : decode cHart_longSystem 7 = .ok (.iconst 3, 1) := by decide +kernel
theorem dHart_longSystem_8 : decode cHart_longSystem 8 = .ok (.iconst 0, 1) := by decide +kernel
theorem dHart_longSystem_9 : decode cHart_longSystem 9 = .ok (.invokevirtual 91, 3) := by decide +kernel
theorem dHart_longSystem_12 : decode cHart_longSystem 12 = .ok (.ireturn, 1) := by decide +kernel
theorem dHart_longSystem_13 : decode cHart_longSystem 13 = .ok (.iload_n 1, 1) := by decide +kernel
theorem dHart_longSystem_14 : decode cHart_longSystem 14 = .ok (.ldc 214, 2) := by decide +kernel
theorem dHart_longSystem_16 : decode cHart_longSystem 16 = .ok (.if_icmp .ne 10, 3) := by decide +kernel
theorem dHart_longSystem_19 : decode cHart_longSystem 19 = .ok (.aload_n 0, 1) := by decide +kernel
theorem dHart_longSystem_20 : decode cHart_longSystem 20 = .ok (.iconst 4, 1) := by decide +kernel
theorem dHart_longSystem_21 : decode cHart_longSystem 21 = .ok (.iconst 0, 1) := by decide +kernel
theorem dHart_longSystem_22 : decode cHart_longSystem 22 = .ok (.invokevirtual 91, 3) := by decide +kernel
theorem dHart_longSystem_25 : decode cHart_longSystem 25 = .ok (.ireturn, 1) := by decide +kernel
theorem dHart_longSystem_26 : decode cHart_longSystem 26 = .ok (.iload_n 1, 1) := by decide +kernel
theorem dHart_longSystem_27 : decode cHart_longSystem 27 = .ok (.invokestatic 145, 3) := by decide +kernel
theorem dHart_longSystem_30 : decode cHart_longSystem 30 = .ok (.iconst 2, 1) := by decide +kernel
theorem dHart_longSystem_31 : decode cHart_longSystem 31 = .ok (.iand, 1) := by decide +kernel
theorem dHart_longSystem_32 : decode cHart_longSystem 32 = .ok (.ifCond .eq 14, 3) := by decide +kernel
theorem dHart_longSystem_35 : decode cHart_longSystem 35 = .ok (.iload_n 1, 1) := by decide +kernel
theorem dHart_longSystem_36 : decode cHart_longSystem 36 = .ok (.invokestatic 151, 3) := by decide +kernel
theorem dHart_longSystem_39 : decode cHart_longSystem 39 = .ok (.ifCond .ne 7, 3) := by decide +kernel
theorem dHart_longSystem_42 : decode cHart_longSystem 42 = .ok (.iconst 1, 1) := by decide +kernel
theorem dHart_longSystem_43 : decode cHart_longSystem 43 = .ok (.goto 4, 3) := by decide +kernel
theorem dHart_longSystem_46 : decode cHart_longSystem 46 = .ok (.iconst 0, 1) := by decide +kernel
theorem dHart_longSystem_47 : decode cHart_longSystem 47 = .ok (.istore_n 2, 1) := by decide +kernel
theorem dHart_longSystem_48 : decode cHart_longSystem 48 = .ok (.iload_n 2, 1) := by decide +kernel
theorem dHart_longSystem_49 : decode cHart_longSystem 49 = .ok (.ifCond .eq 11, 3) := by decide +kernel
theorem dHart_longSystem_52 : decode cHart_longSystem 52 = .ok (.aload_n 0, 1) := by decide +kernel
theorem dHart_longSystem_53 : decode cHart_longSystem 53 = .ok (.iload_n 1, 1) := by decide +kernel
theorem dHart_longSystem_54 : decode cHart_longSystem 54 = .ok (.invokevirtual 215, 3) := by decide +kernel
theorem dHart_longSystem_57 : decode cHart_longSystem 57 = .ok (.goto 9, 3) := by decide +kernel
theorem dHart_longSystem_60 : decode cHart_longSystem 60 = .ok (.aload_n 0, 1) := by decide +kernel
theorem dHart_longSystem_61 : decode cHart_longSystem 61 = .ok (.iconst 2, 1) := by decide +kernel
theorem dHart_longSystem_62 : decode cHart_longSystem 62 = .ok (.iload_n 1, 1) := by decide +kernel
theorem dHart_longSystem_63 : decode cHart_longSystem 63 = .ok (.invokevirtual 91, 3) := by decide +kernel
theorem dHart_longSystem_66 : decode cHart_longSystem 66 = .ok (.ireturn, 1) := by decide +kernel
theorem dHart_readCounter_0 : decode cHart_readCounter 0 = .ok (.iload_n 1, 1) := by decide +kernel
theorem dHart_readCounter_1 : decode cHart_readCounter 1 = .ok (.invokestatic 113, 3) := by decide +kernel
theorem dHart_readCounter_4 : decode cHart_readCounter 4 = .ok (.istore_n 2, 1) := by decide +kernel
theorem dHart_readCounter_5 : decode cHart_readCounter 5 = .ok (.iload_n 1, 1) := by decide +kernel
theorem dHart_readCounter_6 : decode cHart_readCounter 6 = .ok (.bipush 20, 2) := by decide +kernel
theorem dHart_readCounter_8 : decode cHart_readCounter 8 = .ok (.iushr, 1) := by decide +kernel
theorem dHart_readCounter_9 : decode cHart_readCounter 9 = .ok (.lookupswitch 109 #[(3072, 59), (3073, 84), (3074, 59), (3200, 70), (3201, 95), (3202, 70)], 59) := by decide +kernel
theorem dHart_readCounter_68 : decode cHart_readCounter 68 = .ok (.aload_n 0, 1) := by decide +kernel
theorem dHart_readCounter_69 : decode cHart_readCounter 69 = .ok (.iload_n 2, 1) := by decide +kernel
theorem dHart_readCounter_70 : decode cHart_readCounter 70 = .ok (.aload_n 0, 1) := by decide +kernel
theorem dHart_readCounter_71 : decode cHart_readCounter 71 = .ok (.getfield 80, 3) := by decide +kernel
theorem dHart_readCounter_74 : decode cHart_readCounter 74 = .ok (.l2i, 1) := by decide +kernel
theorem dHart_readCounter_75 : decode cHart_readCounter 75 = .ok (.invokevirtual 57, 3) := by decide +kernel
theorem dHart_readCounter_78 : decode cHart_readCounter 78 = .ok (.ireturn, 1) := by decide +kernel
theorem dHart_readCounter_79 : decode cHart_readCounter 79 = .ok (.aload_n 0, 1) := by decide +kernel
theorem dHart_readCounter_80 : decode cHart_readCounter 80 = .ok (.iload_n 2, 1) := by decide +kernel
theorem dHart_readCounter_81 : decode cHart_readCounter 81 = .ok (.aload_n 0, 1) := by decide +kernel
theorem dHart_readCounter_82 : decode cHart_readCounter 82 = .ok (.getfield 80, 3) := by decide +kernel
theorem dHart_readCounter_85 : decode cHart_readCounter 85 = .ok (.bipush 32, 2) := by decide +kernel
theorem dHart_readCounter_87 : decode cHart_readCounter 87 = .ok (.lushr, 1) := by decide +kernel
theorem dHart_readCounter_88 : decode cHart_readCounter 88 = .ok (.l2i, 1) := by decide +kernel
theorem dHart_readCounter_89 : decode cHart_readCounter 89 = .ok (.invokevirtual 57, 3) := by decide +kernel
theorem dHart_readCounter_92 : decode cHart_readCounter 92 = .ok (.ireturn, 1) := by decide +kernel
theorem dHart_readCounter_93 : decode cHart_readCounter 93 = .ok (.aload_n 0, 1) := by decide +kernel
theorem dHart_readCounter_94 : decode cHart_readCounter 94 = .ok (.iload_n 2, 1) := by decide +kernel
theorem dHart_readCounter_95 : decode cHart_readCounter 95 = .ok (.aload_n 0, 1) := by decide +kernel
theorem dHart_readCounter_96 : decode cHart_readCounter 96 = .ok (.getfield 64, 3) := by decide +kernel
theorem dHart_readCounter_99 : decode cHart_readCounter 99 = .ok (.l2i, 1) := by decide +kernel
theorem dHart_readCounter_100 : decode cHart_readCounter 100 = .ok (.invokevirtual 57, 3) := by decide +kernel
theorem dHart_readCounter_103 : decode cHart_readCounter 103 = .ok (.ireturn, 1) := by decide +kernel
theorem dHart_readCounter_104 : decode cHart_readCounter 104 = .ok (.aload_n 0, 1) := by decide +kernel
theorem dHart_readCounter_105 : decode cHart_readCounter 105 = .ok (.iload_n 2, 1) := by decide +kernel
theorem dHart_readCounter_106 : decode cHart_readCounter 106 = .ok (.aload_n 0, 1) := by decide +kernel
theorem dHart_readCounter_107 : decode cHart_readCounter 107 = .ok (.getfield 64, 3) := by decide +kernel
theorem dHart_readCounter_110 : decode cHart_readCounter 110 = .ok (.bipush 32, 2) := by decide +kernel
theorem dHart_readCounter_112 : decode cHart_readCounter 112 = .ok (.lushr, 1) := by decide +kernel
theorem dHart_readCounter_113 : decode cHart_readCounter 113 = .ok (.l2i, 1) := by decide +kernel
theorem dHart_readCounter_114 : decode cHart_readCounter 114 = .ok (.invokevirtual 57, 3) := by decide +kernel
theorem dHart_readCounter_117 : decode cHart_readCounter 117 = .ok (.ireturn, 1) := by decide +kernel
theorem dHart_readCounter_118 : decode cHart_readCounter 118 = .ok (.aload_n 0, 1) := by decide +kernel
theorem dHart_readCounter_119 : decode cHart_readCounter 119 = .ok (.iconst 2, 1) := by decide +kernel
theorem dHart_readCounter_120 : decode cHart_readCounter 120 = .ok (.iload_n 1, 1) := by decide +kernel
theorem dHart_readCounter_121 : decode cHart_readCounter 121 = .ok (.invokevirtual 91, 3) := by decide +kernel
theorem dHart_readCounter_124 : decode cHart_readCounter 124 = .ok (.ireturn, 1) := by decide +kernel
theorem dHart_carryOutShort_0 : decode cHart_carryOutShort 0 = .ok (.iload_n 1, 1) := by decide +kernel
theorem dHart_carryOutShort_1 : decode cHart_carryOutShort 1 = .ok (.iconst 3, 1) := by decide +kernel
theorem dHart_carryOutShort_2 : decode cHart_carryOutShort 2 = .ok (.iand, 1) := by decide +kernel
theorem dHart_carryOutShort_3 : decode cHart_carryOutShort 3 = .ok (.lookupswitch 37 #[(0, 25), (1, 31)], 25) := by decide +kernel
theorem dHart_carryOutShort_28 : decode cHart_carryOutShort 28 = .ok (.aload_n 0, 1) := by decide +kernel
theorem dHart_carryOutShort_29 : decode cHart_carryOutShort 29 = .ok (.iload_n 1, 1) := by decide +kernel
theorem dHart_carryOutShort_30 : decode cHart_carryOutShort 30 = .ok (.invokevirtual 218, 3) := by decide +kernel
theorem dHart_carryOutShort_33 : decode cHart_carryOutShort 33 = .ok (.ireturn, 1) := by decide +kernel
theorem dHart_carryOutShort_34 : decode cHart_carryOutShort 34 = .ok (.aload_n 0, 1) := by decide +kernel
theorem dHart_carryOutShort_35 : decode cHart_carryOutShort 35 = .ok (.iload_n 1, 1) := by decide +kernel
theorem dHart_carryOutShort_36 : decode cHart_carryOutShort 36 = .ok (.invokevirtual 221, 3) := by decide +kernel
theorem dHart_carryOutShort_39 : decode cHart_carryOutShort 39 = .ok (.ireturn, 1) := by decide +kernel
theorem dHart_carryOutShort_40 : decode cHart_carryOutShort 40 = .ok (.aload_n 0, 1) := by decide +kernel
theorem dHart_carryOutShort_41 : decode cHart_carryOutShort 41 = .ok (.iload_n 1, 1) := by decide +kernel
theorem dHart_carryOutShort_42 : decode cHart_carryOutShort 42 = .ok (.invokevirtual 224, 3) := by decide +kernel
theorem dHart_carryOutShort_45 : decode cHart_carryOutShort 45 = .ok (.ireturn, 1) := by decide +kernel
theorem dHart_shortOfQ0_0 : decode cHart_shortOfQ0 0 = .ok (.iload_n 1, 1) := by decide +kernel
theorem dHart_shortOfQ0_1 : decode cHart_shortOfQ0 1 = .ok (.invokestatic 227, 3) := by decide +kernel
theorem dHart_shortOfQ0_4 : decode cHart_shortOfQ0 4 = .ok (.istore_n 2, 1) := by decide +kernel
theorem dHart_shortOfQ0_5 : decode cHart_shortOfQ0 5 = .ok (.aload_n 0, 1) := by decide +kernel
theorem dHart_shortOfQ0_6 : decode cHart_shortOfQ0 6 = .ok (.getfield 16, 3) := by decide +kernel
theorem dHart_shortOfQ0_9 : decode cHart_shortOfQ0 9 = .ok (.iload_n 1, 1) := by decide +kernel
theorem dHart_shortOfQ0_10 : decode cHart_shortOfQ0 10 = .ok (.invokestatic 232, 3) := by decide +kernel
theorem dHart_shortOfQ0_13 : decode cHart_shortOfQ0 13 = .ok (.iaload, 1) := by decide +kernel
theorem dHart_shortOfQ0_14 : decode cHart_shortOfQ0 14 = .ok (.iload_n 1, 1) := by decide +kernel
theorem dHart_shortOfQ0_15 : decode cHart_shortOfQ0 15 = .ok (.invokestatic 235, 3) := by decide +kernel
theorem dHart_shortOfQ0_18 : decode cHart_shortOfQ0 18 = .ok (.iadd, 1) := by decide +kernel
theorem dHart_shortOfQ0_19 : decode cHart_shortOfQ0 19 = .ok (.istore_n 3, 1) := by decide +kernel
theorem dHart_shortOfQ0_20 : decode cHart_shortOfQ0 20 = .ok (.iload_n 1, 1) := by decide +kernel
theorem dHart_shortOfQ0_21 : decode cHart_shortOfQ0 21 = .ok (.invokestatic 238, 3) := by decide +kernel
theorem dHart_shortOfQ0_24 : decode cHart_shortOfQ0 24 = .ok (.lookupswitch 92 #[(0, 36), (2, 71), (6, 79)], 36) := by decide +kernel
theorem dHart_shortOfQ0_60 : decode cHart_shortOfQ0 60 = .ok (.iload_n 1, 1) := by decide +kernel
theorem dHart_shortOfQ0_61 : decode cHart_shortOfQ0 61 = .ok (.invokestatic 239, 3) := by decide +kernel
theorem dHart_shortOfQ0_64 : decode cHart_shortOfQ0 64 = .ok (.istore 4, 2) := by decide +kernel
theorem dHart_shortOfQ0_66 : decode cHart_shortOfQ0 66 = .ok (.iload 4, 2) := by decide +kernel
theorem dHart_shortOfQ0_68 : decode cHart_shortOfQ0 68 = .ok (.ifCond .ne 12, 3) := by decide +kernel
theorem dHart_shortOfQ0_71 : decode cHart_shortOfQ0 71 = .ok (.aload_n 0, 1) := by decide +kernel
theorem dHart_shortOfQ0_72 : decode cHart_shortOfQ0 72 = .ok (.iconst 2, 1) := by decide +kernel
theorem dHart_shortOfQ0_73 : decode cHart_shortOfQ0 73 = .ok (.iload_n 1, 1) := by decide +kernel
theorem dHart_shortOfQ0_74 : decode cHart_shortOfQ0 74 = .ok (.invokevirtual 91, 3) := by decide +kernel
theorem dHart_shortOfQ0_77 : decode cHart_shortOfQ0 77 = .ok (.goto 17, 3) := by decide +kernel
theorem dHart_shortOfQ0_80 : decode cHart_shortOfQ0 80 = .ok (.aload_n 0, 1) := by decide +kernel
theorem dHart_shortOfQ0_81 : decode cHart_shortOfQ0 81 = .ok (.iload_n 2, 1) := by decide +kernel
theorem dHart_shortOfQ0_82 : decode cHart_shortOfQ0 82 = .ok (.aload_n 0, 1) := by decide +kernel
theorem dHart_shortOfQ0_83 : decode cHart_shortOfQ0 83 = .ok (.getfield 16, 3) := by decide +kernel
theorem dHart_shortOfQ0_86 : decode cHart_shortOfQ0 86 = .ok (.iconst 2, 1) := by decide +kernel
theorem dHart_shortOfQ0_87 : decode cHart_shortOfQ0 87 = .ok (.iaload, 1) := by decide +kernel
theorem dHart_shortOfQ0_88 : decode cHart_shortOfQ0 88 = .ok (.iload 4, 2) := by decide +kernel
theorem dHart_shortOfQ0_90 : decode cHart_shortOfQ0 90 = .ok (.iadd, 1) := by decide +kernel
theorem dHart_shortOfQ0_91 : decode cHart_shortOfQ0 91 = .ok (.invokevirtual 57, 3) := by decide +kernel
theorem dHart_shortOfQ0_94 : decode cHart_shortOfQ0 94 = .ok (.ireturn, 1) := by decide +kernel
theorem dHart_shortOfQ0_95 : decode cHart_shortOfQ0 95 = .ok (.aload_n 0, 1) := by decide +kernel
theorem dHart_shortOfQ0_96 : decode cHart_shortOfQ0 96 = .ok (.iconst 2, 1) := by decide +kernel
theorem dHart_shortOfQ0_97 : decode cHart_shortOfQ0 97 = .ok (.iload_n 2, 1) := by decide +kernel
theorem dHart_shortOfQ0_98 : decode cHart_shortOfQ0 98 = .ok (.iload_n 3, 1) := by decide +kernel
theorem dHart_shortOfQ0_99 : decode cHart_shortOfQ0 99 = .ok (.invokevirtual 172, 3) := by decide +kernel
theorem dHart_shortOfQ0_102 : decode cHart_shortOfQ0 102 = .ok (.ireturn, 1) := by decide +kernel
theorem dHart_shortOfQ0_103 : decode cHart_shortOfQ0 103 = .ok (.aload_n 0, 1) := by decide +kernel
theorem dHart_shortOfQ0_104 : decode cHart_shortOfQ0 104 = .ok (.iconst 2, 1) := by decide +kernel
theorem dHart_shortOfQ0_105 : decode cHart_shortOfQ0 105 = .ok (.iload_n 3, 1) := by decide +kernel
theorem dHart_shortOfQ0_106 : decode cHart_shortOfQ0 106 = .ok (.aload_n 0, 1) := by decide +kernel
theorem dHart_shortOfQ0_107 : decode cHart_shortOfQ0 107 = .ok (.getfield 16, 3) := by decide +kernel
theorem dHart_shortOfQ0_110 : decode cHart_shortOfQ0 110 = .ok (.iload_n 2, 1) := by decide +kernel
theorem dHart_shortOfQ0_111 : decode cHart_shortOfQ0 111 = .ok (.iaload, 1) := by decide +kernel
theorem dHart_shortOfQ0_112 : decode cHart_shortOfQ0 112 = .ok (.invokevirtual 179, 3) := by decide +kernel
theorem dHart_shortOfQ0_115 : decode cHart_shortOfQ0 115 = .ok (.ireturn, 1) := by decide +kernel
theorem dHart_shortOfQ0_116 : decode cHart_shortOfQ0 116 = .ok (.aload_n 0, 1) := by decide +kernel
theorem dHart_shortOfQ0_117 : decode cHart_shortOfQ0 117 = .ok (.iconst 2, 1) := by decide +kernel
theorem dHart_shortOfQ0_118 : decode cHart_shortOfQ0 118 = .ok (.iload_n 1, 1) := by decide +kernel
theorem dHart_shortOfQ0_119 : decode cHart_shortOfQ0 119 = .ok (.invokevirtual 91, 3) := by decide +kernel
theorem dHart_shortOfQ0_122 : decode cHart_shortOfQ0 122 = .ok (.ireturn, 1) := by decide +kernel
theorem dHart_shortOfQ1_0 : decode cHart_shortOfQ1 0 = .ok (.iload_n 1, 1) := by decide +kernel
theorem dHart_shortOfQ1_1 : decode cHart_shortOfQ1 1 = .ok (.invokestatic 242, 3) := by decide +kernel
theorem dHart_shortOfQ1_4 : decode cHart_shortOfQ1 4 = .ok (.istore_n 2, 1) := by decide +kernel
theorem dHart_shortOfQ1_5 : decode cHart_shortOfQ1 5 = .ok (.iload_n 1, 1) := by decide +kernel
theorem dHart_shortOfQ1_6 : decode cHart_shortOfQ1 6 = .ok (.invokestatic 243, 3) := by decide +kernel
theorem dHart_shortOfQ1_9 : decode cHart_shortOfQ1 9 = .ok (.istore_n 3, 1) := by decide +kernel
theorem dHart_shortOfQ1_10 : decode cHart_shortOfQ1 10 = .ok (.iload_n 1, 1) := by decide +kernel
theorem dHart_shortOfQ1_11 : decode cHart_shortOfQ1 11 = .ok (.invokestatic 238, 3) := by decide +kernel
theorem dHart_shortOfQ1_14 : decode cHart_shortOfQ1 14 = .ok (.tableswitch 149 0 6 #[42, 56, 71, 78, 97, 103, 118], 42) := by decide +kernel
theorem dHart_shortOfQ1_56 : decode cHart_shortOfQ1 56 = .ok (.aload_n 0, 1) := by decide +kernel
theorem dHart_shortOfQ1_57 : decode cHart_shortOfQ1 57 = .ok (.iload_n 2, 1) := by decide +kernel
theorem dHart_shortOfQ1_58 : decode cHart_shortOfQ1 58 = .ok (.aload_n 0, 1) := by decide +kernel
theorem dHart_shortOfQ1_59 : decode cHart_shortOfQ1 59 = .ok (.getfield 16, 3) := by decide +kernel
theorem dHart_shortOfQ1_62 : decode cHart_shortOfQ1 62 = .ok (.iload_n 2, 1) := by decide +kernel
theorem dHart_shortOfQ1_63 : decode cHart_shortOfQ1 63 = .ok (.iaload, 1) := by decide +kernel
theorem dHart_shortOfQ1_64 : decode cHart_shortOfQ1 64 = .ok (.iload_n 3, 1) := by decide +kernel
theorem dHart_shortOfQ1_65 : decode cHart_shortOfQ1 65 = .ok (.iadd, 1) := by decide +kernel
theorem dHart_shortOfQ1_66 : decode cHart_shortOfQ1 66 = .ok (.invokevirtual 57, 3) := by decide +kernel
theorem dHart_shortOfQ1_69 : decode cHart_shortOfQ1 69 = .ok (.ireturn, 1) := by decide +kernel
theorem dHart_shortOfQ1_70 : decode cHart_shortOfQ1 70 = .ok (.aload_n 0, 1) := by decide +kernel
theorem dHart_shortOfQ1_71 : decode cHart_shortOfQ1 71 = .ok (.iconst 1, 1) := by decide +kernel
theorem dHart_shortOfQ1_72 : decode cHart_shortOfQ1 72 = .ok (.aload_n 0, 1) := by decide +kernel
theorem dHart_shortOfQ1_73 : decode cHart_shortOfQ1 73 = .ok (.getfield 60, 3) := by decide +kernel
theorem dHart_shortOfQ1_76 : decode cHart_shortOfQ1 76 = .ok (.iload_n 1, 1) := by decide +kernel
theorem dHart_shortOfQ1_77 : decode cHart_shortOfQ1 77 = .ok (.invokestatic 246, 3) := by decide +kernel
theorem dHart_shortOfQ1_80 : decode cHart_shortOfQ1 80 = .ok (.iadd, 1) := by decide +kernel
theorem dHart_shortOfQ1_81 : decode cHart_shortOfQ1 81 = .ok (.invokevirtual 107, 3) := by decide +kernel
theorem dHart_shortOfQ1_84 : decode cHart_shortOfQ1 84 = .ok (.ireturn, 1) := by decide +kernel
theorem dHart_shortOfQ1_85 : decode cHart_shortOfQ1 85 = .ok (.aload_n 0, 1) := by decide +kernel
theorem dHart_shortOfQ1_86 : decode cHart_shortOfQ1 86 = .ok (.iload_n 2, 1) := by decide +kernel
theorem dHart_shortOfQ1_87 : decode cHart_shortOfQ1 87 = .ok (.iload_n 3, 1) := by decide +kernel
theorem dHart_shortOfQ1_88 : decode cHart_shortOfQ1 88 = .ok (.invokevirtual 57, 3) := by decide +kernel
theorem dHart_shortOfQ1_91 : decode cHart_shortOfQ1 91 = .ok (.ireturn, 1) := by decide +kernel
theorem dHart_shortOfQ1_92 : decode cHart_shortOfQ1 92 = .ok (.iload_n 2, 1) := by decide +kernel
theorem dHart_shortOfQ1_93 : decode cHart_shortOfQ1 93 = .ok (.iconst 2, 1) := by decide +kernel
theorem dHart_shortOfQ1_94 : decode cHart_shortOfQ1 94 = .ok (.if_icmp .ne 11, 3) := by decide +kernel
theorem dHart_shortOfQ1_97 : decode cHart_shortOfQ1 97 = .ok (.aload_n 0, 1) := by decide +kernel
theorem dHart_shortOfQ1_98 : decode cHart_shortOfQ1 98 = .ok (.iload_n 1, 1) := by decide +kernel
theorem dHart_shortOfQ1_99 : decode cHart_shortOfQ1 99 = .ok (.invokevirtual 247, 3) := by decide +kernel
theorem dHart_shortOfQ1_102 : decode cHart_shortOfQ1 102 = .ok (.goto 8, 3) := by decide +kernel
theorem dHart_shortOfQ1_105 : decode cHart_shortOfQ1 105 = .ok (.aload_n 0, 1) := by decide +kernel
theorem dHart_shortOfQ1_106 : decode cHart_shortOfQ1 106 = .ok (.iload_n 1, 1) := by decide +kernel
theorem dHart_shortOfQ1_107 : decode cHart_shortOfQ1 107 = .ok (.invokevirtual 250, 3) := by decide +kernel
theorem dHart_shortOfQ1_110 : decode cHart_shortOfQ1 110 = .ok (.ireturn, 1) := by decide +kernel
theorem dHart_shortOfQ1_111 : decode cHart_shortOfQ1 111 = .ok (.aload_n 0, 1) := by decide +kernel
theorem dHart_shortOfQ1_112 : decode cHart_shortOfQ1 112 = .ok (.iload_n 1, 1) := by decide +kernel
theorem dHart_shortOfQ1_113 : decode cHart_shortOfQ1 113 = .ok (.invokevirtual 253, 3) := by decide +kernel
theorem dHart_shortOfQ1_116 : decode cHart_shortOfQ1 116 = .ok (.ireturn, 1) := by decide +kernel
theorem dHart_shortOfQ1_117 : decode cHart_shortOfQ1 117 = .ok (.aload_n 0, 1) := by decide +kernel
theorem dHart_shortOfQ1_118 : decode cHart_shortOfQ1 118 = .ok (.iconst 0, 1) := by decide +kernel
theorem dHart_shortOfQ1_119 : decode cHart_shortOfQ1 119 = .ok (.aload_n 0, 1) := by decide +kernel
theorem dHart_shortOfQ1_120 : decode cHart_shortOfQ1 120 = .ok (.getfield 60, 3) := by decide +kernel
theorem dHart_shortOfQ1_123 : decode cHart_shortOfQ1 123 = .ok (.iload_n 1, 1) := by decide +kernel
theorem dHart_shortOfQ1_124 : decode cHart_shortOfQ1 124 = .ok (.invokestatic 246, 3) := by decide +kernel
theorem dHart_shortOfQ1_127 : decode cHart_shortOfQ1 127 = .ok (.iadd, 1) := by decide +kernel
theorem dHart_shortOfQ1_128 : decode cHart_shortOfQ1 128 = .ok (.invokevirtual 107, 3) := by decide +kernel
theorem dHart_shortOfQ1_131 : decode cHart_shortOfQ1 131 = .ok (.ireturn, 1) := by decide +kernel
theorem dHart_shortOfQ1_132 : decode cHart_shortOfQ1 132 = .ok (.aload_n 0, 1) := by decide +kernel
theorem dHart_shortOfQ1_133 : decode cHart_shortOfQ1 133 = .ok (.aload_n 0, 1) := by decide +kernel
theorem dHart_shortOfQ1_134 : decode cHart_shortOfQ1 134 = .ok (.getfield 16, 3) := by decide +kernel
theorem dHart_shortOfQ1_137 : decode cHart_shortOfQ1 137 = .ok (.iload_n 1, 1) := by decide +kernel
theorem dHart_shortOfQ1_138 : decode cHart_shortOfQ1 138 = .ok (.invokestatic 232, 3) := by decide +kernel
theorem dHart_shortOfQ1_141 : decode cHart_shortOfQ1 141 = .ok (.iaload, 1) := by decide +kernel
theorem dHart_shortOfQ1_142 : decode cHart_shortOfQ1 142 = .ok (.ifCond .ne 7, 3) := by decide +kernel
theorem dHart_shortOfQ1_145 : decode cHart_shortOfQ1 145 = .ok (.iconst 1, 1) := by decide +kernel
theorem dHart_shortOfQ1_146 : decode cHart_shortOfQ1 146 = .ok (.goto 4, 3) := by decide +kernel
theorem dHart_shortOfQ1_149 : decode cHart_shortOfQ1 149 = .ok (.iconst 0, 1) := by decide +kernel
theorem dHart_shortOfQ1_150 : decode cHart_shortOfQ1 150 = .ok (.aload_n 0, 1) := by decide +kernel
theorem dHart_shortOfQ1_151 : decode cHart_shortOfQ1 151 = .ok (.getfield 60, 3) := by decide +kernel
theorem dHart_shortOfQ1_154 : decode cHart_shortOfQ1 154 = .ok (.iload_n 1, 1) := by decide +kernel
theorem dHart_shortOfQ1_155 : decode cHart_shortOfQ1 155 = .ok (.invokestatic 256, 3) := by decide +kernel
theorem dHart_shortOfQ1_158 : decode cHart_shortOfQ1 158 = .ok (.iadd, 1) := by decide +kernel
theorem dHart_shortOfQ1_159 : decode cHart_shortOfQ1 159 = .ok (.invokevirtual 163, 3) := by decide +kernel
theorem dHart_shortOfQ1_162 : decode cHart_shortOfQ1 162 = .ok (.ireturn, 1) := by decide +kernel
theorem dHart_shortOfQ1_163 : decode cHart_shortOfQ1 163 = .ok (.aload_n 0, 1) := by decide +kernel
theorem dHart_shortOfQ1_164 : decode cHart_shortOfQ1 164 = .ok (.aload_n 0, 1) := by decide +kernel
theorem dHart_shortOfQ1_165 : decode cHart_shortOfQ1 165 = .ok (.getfield 16, 3) := by decide +kernel
theorem dHart_shortOfQ1_168 : decode cHart_shortOfQ1 168 = .ok (.iload_n 1, 1) := by decide +kernel
theorem dHart_shortOfQ1_169 : decode cHart_shortOfQ1 169 = .ok (.invokestatic 232, 3) := by decide +kernel
theorem dHart_shortOfQ1_172 : decode cHart_shortOfQ1 172 = .ok (.iaload, 1) := by decide +kernel
theorem dHart_shortOfQ1_173 : decode cHart_shortOfQ1 173 = .ok (.ifCond .eq 7, 3) := by decide +kernel
theorem dHart_shortOfQ1_176 : decode cHart_shortOfQ1 176 = .ok (.iconst 1, 1) := by decide +kernel
theorem dHart_shortOfQ1_177 : decode cHart_shortOfQ1 177 = .ok (.goto 4, 3) := by decide +kernel
theorem dHart_shortOfQ1_180 : decode cHart_shortOfQ1 180 = .ok (.iconst 0, 1) := by decide +kernel
theorem dHart_shortOfQ1_181 : decode cHart_shortOfQ1 181 = .ok (.aload_n 0, 1) := by decide +kernel
theorem dHart_shortOfQ1_182 : decode cHart_shortOfQ1 182 = .ok (.getfield 60, 3) := by decide +kernel
theorem dHart_shortOfQ1_185 : decode cHart_shortOfQ1 185 = .ok (.iload_n 1, 1) := by decide +kernel
theorem dHart_shortOfQ1_186 : decode cHart_shortOfQ1 186 = .ok (.invokestatic 256, 3) := by decide +kernel
theorem dHart_shortOfQ1_189 : decode cHart_shortOfQ1 189 = .ok (.iadd, 1) := by decide +kernel
theorem dHart_shortOfQ1_190 : decode cHart_shortOfQ1 190 = .ok (.invokevirtual 163, 3) := by decide +kernel
theorem dHart_shortOfQ1_193 : decode cHart_shortOfQ1 193 = .ok (.ireturn, 1) := by decide +kernel
theorem dHart_shortMoveStack_0 : decode cHart_shortMoveStack 0 = .ok (.iload_n 1, 1) := by decide +kernel
theorem dHart_shortMoveStack_1 : decode cHart_shortMoveStack 1 = .ok (.invokestatic 257, 3) := by decide +kernel
theorem dHart_shortMoveStack_4 : decode cHart_shortMoveStack 4 = .ok (.istore_n 2, 1) := by decide +kernel
theorem dHart_shortMoveStack_5 : decode cHart_shortMoveStack 5 = .ok (.iload_n 2, 1) := by decide +kernel
theorem dHart_shortMoveStack_6 : decode cHart_shortMoveStack 6 = .ok (.ifCond .ne 12, 3) := by decide +kernel
theorem dHart_shortMoveStack_9 : decode cHart_shortMoveStack 9 = .ok (.aload_n 0, 1) := by decide +kernel
theorem dHart_shortMoveStack_10 : decode cHart_shortMoveStack 10 = .ok (.iconst 2, 1) := by decide +kernel
theorem dHart_shortMoveStack_11 : decode cHart_shortMoveStack 11 = .ok (.iload_n 1, 1) := by decide +kernel
theorem dHart_shortMoveStack_12 : decode cHart_shortMoveStack 12 = .ok (.invokevirtual 91, 3) := by decide +kernel
theorem dHart_shortMoveStack_15 : decode cHart_shortMoveStack 15 = .ok (.goto 16, 3) := by decide +kernel
theorem dHart_shortMoveStack_18 : decode cHart_shortMoveStack 18 = .ok (.aload_n 0, 1) := by decide +kernel
theorem dHart_shortMoveStack_19 : decode cHart_shortMoveStack 19 = .ok (.iconst 2, 1) := by decide +kernel
theorem dHart_shortMoveStack_20 : decode cHart_shortMoveStack 20 = .ok (.aload_n 0, 1) := by decide +kernel
theorem dHart_shortMoveStack_21 : decode cHart_shortMoveStack 21 = .ok (.getfield 16, 3) := by decide +kernel
theorem dHart_shortMoveStack_24 : decode cHart_shortMoveStack 24 = .ok (.iconst 2, 1) := by decide +kernel
theorem dHart_shortMoveStack_25 : decode cHart_shortMoveStack 25 = .ok (.iaload, 1) := by decide +kernel
theorem dHart_shortMoveStack_26 : decode cHart_shortMoveStack 26 = .ok (.iload_n 2, 1) := by decide +kernel
theorem dHart_shortMoveStack_27 : decode cHart_shortMoveStack 27 = .ok (.iadd, 1) := by decide +kernel
theorem dHart_shortMoveStack_28 : decode cHart_shortMoveStack 28 = .ok (.invokevirtual 57, 3) := by decide +kernel
theorem dHart_shortMoveStack_31 : decode cHart_shortMoveStack 31 = .ok (.ireturn, 1) := by decide +kernel
theorem dHart_shortUpperNumber_0 : decode cHart_shortUpperNumber 0 = .ok (.iload_n 1, 1) := by decide +kernel
theorem dHart_shortUpperNumber_1 : decode cHart_shortUpperNumber 1 = .ok (.invokestatic 243, 3) := by decide +kernel
theorem dHart_shortUpperNumber_4 : decode cHart_shortUpperNumber 4 = .ok (.istore_n 2, 1) := by decide +kernel
theorem dHart_shortUpperNumber_5 : decode cHart_shortUpperNumber 5 = .ok (.iload_n 2, 1) := by decide +kernel
theorem dHart_shortUpperNumber_6 : decode cHart_shortUpperNumber 6 = .ok (.ifCond .ne 12, 3) := by decide +kernel
theorem dHart_shortUpperNumber_9 : decode cHart_shortUpperNumber 9 = .ok (.aload_n 0, 1) := by decide +kernel
theorem dHart_shortUpperNumber_10 : decode cHart_shortUpperNumber 10 = .ok (.iconst 2, 1) := by decide +kernel
theorem dHart_shortUpperNumber_11 : decode cHart_shortUpperNumber 11 = .ok (.iload_n 1, 1) := by decide +kernel
theorem dHart_shortUpperNumber_12 : decode cHart_shortUpperNumber 12 = .ok (.invokevirtual 91, 3) := by decide +kernel
theorem dHart_shortUpperNumber_15 : decode cHart_shortUpperNumber 15 = .ok (.goto 15, 3) := by decide +kernel
theorem dHart_shortUpperNumber_18 : decode cHart_shortUpperNumber 18 = .ok (.aload_n 0, 1) := by decide +kernel
theorem dHart_shortUpperNumber_19 : decode cHart_shortUpperNumber 19 = .ok (.iload_n 1, 1) := by decide +kernel
theorem dHart_shortUpperNumber_20 : decode cHart_shortUpperNumber 20 = .ok (.invokestatic 242, 3) := by decide +kernel
theorem dHart_shortUpperNumber_23 : decode cHart_shortUpperNumber 23 = .ok (.iload_n 2, 1) := by decide +kernel
theorem dHart_shortUpperNumber_24 : decode cHart_shortUpperNumber 24 = .ok (.bipush 12, 2) := by decide +kernel
theorem dHart_shortUpperNumber_26 : decode cHart_shortUpperNumber 26 = .ok (.ishl, 1) := by decide +kernel
theorem dHart_shortUpperNumber_27 : decode cHart_shortUpperNumber 27 = .ok (.invokevirtual 57, 3) := by decide +kernel
theorem dHart_shortUpperNumber_30 : decode cHart_shortUpperNumber 30 = .ok (.ireturn, 1) := by decide +kernel
theorem dHart_shortArithmetic_0 : decode cHart_shortArithmetic 0 = .ok (.iload_n 1, 1) := by decide +kernel
theorem dHart_shortArithmetic_1 : decode cHart_shortArithmetic 1 = .ok (.invokestatic 232, 3) := by decide +kernel
theorem dHart_shortArithmetic_4 : decode cHart_shortArithmetic 4 = .ok (.istore_n 2, 1) := by decide +kernel
theorem dHart_shortArithmetic_5 : decode cHart_shortArithmetic 5 = .ok (.aload_n 0, 1) := by decide +kernel
theorem dHart_shortArithmetic_6 : decode cHart_shortArithmetic 6 = .ok (.getfield 16, 3) := by decide +kernel
theorem dHart_shortArithmetic_9 : decode cHart_shortArithmetic 9 = .ok (.iload_n 2, 1) := by decide +kernel
theorem dHart_shortArithmetic_10 : decode cHart_shortArithmetic 10 = .ok (.iaload, 1) := by decide +kernel
theorem dHart_shortArithmetic_11 : decode cHart_shortArithmetic 11 = .ok (.istore_n 3, 1) := by decide +kernel
theorem dHart_shortArithmetic_12 : decode cHart_shortArithmetic 12 = .ok (.iload_n 1, 1) := by decide +kernel
theorem dHart_shortArithmetic_13 : decode cHart_shortArithmetic 13 = .ok (.bipush 10, 2) := by decide +kernel
theorem dHart_shortArithmetic_15 : decode cHart_shortArithmetic 15 = .ok (.iconst 2, 1) := by decide +kernel
theorem dHart_shortArithmetic_16 : decode cHart_shortArithmetic 16 = .ok (.invokestatic 260, 3) := by decide +kernel
theorem dHart_shortArithmetic_19 : decode cHart_shortArithmetic 19 = .ok (.istore 4, 2) := by decide +kernel
theorem dHart_shortArithmetic_21 : decode cHart_shortArithmetic 21 = .ok (.iload 4, 2) := by decide +kernel
theorem dHart_shortArithmetic_23 : decode cHart_shortArithmetic 23 = .ok (.iconst 2, 1) := by decide +kernel
theorem dHart_shortArithmetic_24 : decode cHart_shortArithmetic 24 = .ok (.if_icmp .ne 15, 3) := by decide +kernel
theorem dHart_shortArithmetic_27 : decode cHart_shortArithmetic 27 = .ok (.aload_n 0, 1) := by decide +kernel
theorem dHart_shortArithmetic_28 : decode cHart_shortArithmetic 28 = .ok (.iload_n 2, 1) := by decide +kernel
theorem dHart_shortArithmetic_29 : decode cHart_shortArithmetic 29 = .ok (.iload_n 3, 1) := by decide +kernel
theorem dHart_shortArithmetic_30 : decode cHart_shortArithmetic 30 = .ok (.iload_n 1, 1) := by decide +kernel
theorem dHart_shortArithmetic_31 : decode cHart_shortArithmetic 31 = .ok (.invokestatic 243, 3) := by decide +kernel
theorem dHart_shortArithmetic_34 : decode cHart_shortArithmetic 34 = .ok (.iand, 1) := by decide +kernel
theorem dHart_shortArithmetic_35 : decode cHart_shortArithmetic 35 = .ok (.invokevirtual 57, 3) := by decide +kernel
theorem dHart_shortArithmetic_38 : decode cHart_shortArithmetic 38 = .ok (.ireturn, 1) := by decide +kernel
theorem dHart_shortArithmetic_39 : decode cHart_shortArithmetic 39 = .ok (.iload_n 1, 1) := by decide +kernel
theorem dHart_shortArithmetic_40 : decode cHart_shortArithmetic 40 = .ok (.invokestatic 265, 3) := by decide +kernel
theorem dHart_shortArithmetic_43 : decode cHart_shortArithmetic 43 = .ok (.ifCond .eq 10, 3) := by decide +kernel
theorem dHart_shortArithmetic_46 : decode cHart_shortArithmetic 46 = .ok (.aload_n 0, 1) := by decide +kernel
theorem dHart_shortArithmetic_47 : decode cHart_shortArithmetic 47 = .ok (.iconst 2, 1) := by decide +kernel
theorem dHart_shortArithmetic_48 : decode cHart_shortArithmetic 48 = .ok (.iload_n 1, 1) := by decide +kernel
theorem dHart_shortArithmetic_49 : decode cHart_shortArithmetic 49 = .ok (.invokevirtual 91, 3) := by decide +kernel
theorem dHart_shortArithmetic_52 : decode cHart_shortArithmetic 52 = .ok (.ireturn, 1) := by decide +kernel
theorem dHart_shortArithmetic_53 : decode cHart_shortArithmetic 53 = .ok (.aload_n 0, 1) := by decide +kernel
theorem dHart_shortArithmetic_54 : decode cHart_shortArithmetic 54 = .ok (.getfield 16, 3) := by decide +kernel
theorem dHart_shortArithmetic_57 : decode cHart_shortArithmetic 57 = .ok (.iload_n 1, 1) := by decide +kernel
theorem dHart_shortArithmetic_58 : decode cHart_shortArithmetic 58 = .ok (.invokestatic 227, 3) := by decide +kernel
theorem dHart_shortArithmetic_61 : decode cHart_shortArithmetic 61 = .ok (.iaload, 1) := by decide +kernel
theorem dHart_shortArithmetic_62 : decode cHart_shortArithmetic 62 = .ok (.istore 5, 2) := by decide +kernel
theorem dHart_shortArithmetic_64 : decode cHart_shortArithmetic 64 = .ok (.iload 4, 2) := by decide +kernel
theorem dHart_shortArithmetic_66 : decode cHart_shortArithmetic 66 = .ok (.lookupswitch 50 #[(0, 26), (1, 38)], 26) := by decide +kernel
theorem dHart_shortArithmetic_92 : decode cHart_shortArithmetic 92 = .ok (.aload_n 0, 1) := by decide +kernel
theorem dHart_shortArithmetic_93 : decode cHart_shortArithmetic 93 = .ok (.iload_n 2, 1) := by decide +kernel
theorem dHart_shortArithmetic_94 : decode cHart_shortArithmetic 94 = .ok (.iload_n 3, 1) := by decide +kernel
theorem dHart_shortArithmetic_95 : decode cHart_shortArithmetic 95 = .ok (.iload_n 1, 1) := by decide +kernel
theorem dHart_shortArithmetic_96 : decode cHart_shortArithmetic 96 = .ok (.invokestatic 268, 3) := by decide +kernel
theorem dHart_shortArithmetic_99 : decode cHart_shortArithmetic 99 = .ok (.iushr, 1) := by decide +kernel
theorem dHart_shortArithmetic_100 : decode cHart_shortArithmetic 100 = .ok (.invokevirtual 57, 3) := by decide +kernel
theorem dHart_shortArithmetic_103 : decode cHart_shortArithmetic 103 = .ok (.ireturn, 1) := by decide +kernel
theorem dHart_shortArithmetic_104 : decode cHart_shortArithmetic 104 = .ok (.aload_n 0, 1) := by decide +kernel
theorem dHart_shortArithmetic_105 : decode cHart_shortArithmetic 105 = .ok (.iload_n 2, 1) := by decide +kernel
theorem dHart_shortArithmetic_106 : decode cHart_shortArithmetic 106 = .ok (.iload_n 3, 1) := by decide +kernel
theorem dHart_shortArithmetic_107 : decode cHart_shortArithmetic 107 = .ok (.iload_n 1, 1) := by decide +kernel
theorem dHart_shortArithmetic_108 : decode cHart_shortArithmetic 108 = .ok (.invokestatic 268, 3) := by decide +kernel
theorem dHart_shortArithmetic_111 : decode cHart_shortArithmetic 111 = .ok (.ishr, 1) := by decide +kernel
theorem dHart_shortArithmetic_112 : decode cHart_shortArithmetic 112 = .ok (.invokevirtual 57, 3) := by decide +kernel
theorem dHart_shortArithmetic_115 : decode cHart_shortArithmetic 115 = .ok (.ireturn, 1) := by decide +kernel
theorem dHart_shortArithmetic_116 : decode cHart_shortArithmetic 116 = .ok (.aload_n 0, 1) := by decide +kernel
theorem dHart_shortArithmetic_117 : decode cHart_shortArithmetic 117 = .ok (.iload_n 2, 1) := by decide +kernel
theorem dHart_shortArithmetic_118 : decode cHart_shortArithmetic 118 = .ok (.iload_n 1, 1) := by decide +kernel
theorem dHart_shortArithmetic_119 : decode cHart_shortArithmetic 119 = .ok (.iconst 5, 1) := by decide +kernel
theorem dHart_shortArithmetic_120 : decode cHart_shortArithmetic 120 = .ok (.iconst 2, 1) := by decide +kernel
theorem dHart_shortArithmetic_121 : decode cHart_shortArithmetic 121 = .ok (.invokestatic 260, 3) := by decide +kernel
theorem dHart_shortArithmetic_124 : decode cHart_shortArithmetic 124 = .ok (.iload_n 3, 1) := by decide +kernel
theorem dHart_shortArithmetic_125 : decode cHart_shortArithmetic 125 = .ok (.iload 5, 2) := by decide +kernel
theorem dHart_shortArithmetic_127 : decode cHart_shortArithmetic 127 = .ok (.invokestatic 269, 3) := by decide +kernel
theorem dHart_shortArithmetic_130 : decode cHart_shortArithmetic 130 = .ok (.invokevirtual 57, 3) := by decide +kernel
theorem dHart_shortArithmetic_133 : decode cHart_shortArithmetic 133 = .ok (.ireturn, 1) := by decide +kernel
theorem dHart_shortOfQ2_0 : decode cHart_shortOfQ2 0 = .ok (.iload_n 1, 1) := by decide +kernel
theorem dHart_shortOfQ2_1 : decode cHart_shortOfQ2 1 = .ok (.invokestatic 242, 3) := by decide +kernel
theorem dHart_shortOfQ2_4 : decode cHart_shortOfQ2 4 = .ok (.istore_n 2, 1) := by decide +kernel
theorem dHart_shortOfQ2_5 : decode cHart_shortOfQ2 5 = .ok (.aload_n 0, 1) := by decide +kernel
theorem dHart_shortOfQ2_6 : decode cHart_shortOfQ2 6 = .ok (.getfield 16, 3) := by decide +kernel
theorem dHart_shortOfQ2_9 : decode cHart_shortOfQ2 9 = .ok (.iconst 2, 1) := by decide +kernel
theorem dHart_shortOfQ2_10 : decode cHart_shortOfQ2 10 = .ok (.iaload, 1) := by decide +kernel
theorem dHart_shortOfQ2_11 : decode cHart_shortOfQ2 11 = .ok (.istore_n 3, 1) := by decide +kernel
theorem dHart_shortOfQ2_12 : decode cHart_shortOfQ2 12 = .ok (.iload_n 1, 1) := by decide +kernel
theorem dHart_shortOfQ2_13 : decode cHart_shortOfQ2 13 = .ok (.invokestatic 238, 3) := by decide +kernel
theorem dHart_shortOfQ2_16 : decode cHart_shortOfQ2 16 = .ok (.tableswitch 145 0 6 #[44, 145, 77, 145, 103, 145, 124], 44) := by decide +kernel
theorem dHart_shortOfQ2_60 : decode cHart_shortOfQ2 60 = .ok (.iload_n 1, 1) := by decide +kernel
theorem dHart_shortOfQ2_61 : decode cHart_shortOfQ2 61 = .ok (.invokestatic 265, 3) := by decide +kernel
theorem dHart_shortOfQ2_64 : decode cHart_shortOfQ2 64 = .ok (.ifCond .eq 12, 3) := by decide +kernel
theorem dHart_shortOfQ2_67 : decode cHart_shortOfQ2 67 = .ok (.aload_n 0, 1) := by decide +kernel
theorem dHart_shortOfQ2_68 : decode cHart_shortOfQ2 68 = .ok (.iconst 2, 1) := by decide +kernel
theorem dHart_shortOfQ2_69 : decode cHart_shortOfQ2 69 = .ok (.iload_n 1, 1) := by decide +kernel
theorem dHart_shortOfQ2_70 : decode cHart_shortOfQ2 70 = .ok (.invokevirtual 91, 3) := by decide +kernel
theorem dHart_shortOfQ2_73 : decode cHart_shortOfQ2 73 = .ok (.goto 19, 3) := by decide +kernel
theorem dHart_shortOfQ2_76 : decode cHart_shortOfQ2 76 = .ok (.aload_n 0, 1) := by decide +kernel
theorem dHart_shortOfQ2_77 : decode cHart_shortOfQ2 77 = .ok (.iload_n 2, 1) := by decide +kernel
theorem dHart_shortOfQ2_78 : decode cHart_shortOfQ2 78 = .ok (.aload_n 0, 1) := by decide +kernel
theorem dHart_shortOfQ2_79 : decode cHart_shortOfQ2 79 = .ok (.getfield 16, 3) := by decide +kernel
theorem dHart_shortOfQ2_82 : decode cHart_shortOfQ2 82 = .ok (.iload_n 2, 1) := by decide +kernel
theorem dHart_shortOfQ2_83 : decode cHart_shortOfQ2 83 = .ok (.iaload, 1) := by decide +kernel
theorem dHart_shortOfQ2_84 : decode cHart_shortOfQ2 84 = .ok (.iload_n 1, 1) := by decide +kernel
theorem dHart_shortOfQ2_85 : decode cHart_shortOfQ2 85 = .ok (.invokestatic 268, 3) := by decide +kernel
theorem dHart_shortOfQ2_88 : decode cHart_shortOfQ2 88 = .ok (.ishl, 1) := by decide +kernel
theorem dHart_shortOfQ2_89 : decode cHart_shortOfQ2 89 = .ok (.invokevirtual 57, 3) := by decide +kernel
theorem dHart_shortOfQ2_92 : decode cHart_shortOfQ2 92 = .ok (.ireturn, 1) := by decide +kernel
theorem dHart_shortOfQ2_93 : decode cHart_shortOfQ2 93 = .ok (.iload_n 2, 1) := by decide +kernel
theorem dHart_shortOfQ2_94 : decode cHart_shortOfQ2 94 = .ok (.ifCond .ne 12, 3) := by decide +kernel
theorem dHart_shortOfQ2_97 : decode cHart_shortOfQ2 97 = .ok (.aload_n 0, 1) := by decide +kernel
theorem dHart_shortOfQ2_98 : decode cHart_shortOfQ2 98 = .ok (.iconst 2, 1) := by decide +kernel
theorem dHart_shortOfQ2_99 : decode cHart_shortOfQ2 99 = .ok (.iload_n 1, 1) := by decide +kernel
theorem dHart_shortOfQ2_100 : decode cHart_shortOfQ2 100 = .ok (.invokevirtual 91, 3) := by decide +kernel
theorem dHart_shortOfQ2_103 : decode cHart_shortOfQ2 103 = .ok (.goto 15, 3) := by decide +kernel
theorem dHart_shortOfQ2_106 : decode cHart_shortOfQ2 106 = .ok (.aload_n 0, 1) := by decide +kernel
theorem dHart_shortOfQ2_107 : decode cHart_shortOfQ2 107 = .ok (.iconst 2, 1) := by decide +kernel
theorem dHart_shortOfQ2_108 : decode cHart_shortOfQ2 108 = .ok (.iload_n 2, 1) := by decide +kernel
theorem dHart_shortOfQ2_109 : decode cHart_shortOfQ2 109 = .ok (.iload_n 3, 1) := by decide +kernel
theorem dHart_shortOfQ2_110 : decode cHart_shortOfQ2 110 = .ok (.iload_n 1, 1) := by decide +kernel
theorem dHart_shortOfQ2_111 : decode cHart_shortOfQ2 111 = .ok (.invokestatic 272, 3) := by decide +kernel
theorem dHart_shortOfQ2_114 : decode cHart_shortOfQ2 114 = .ok (.iadd, 1) := by decide +kernel
theorem dHart_shortOfQ2_115 : decode cHart_shortOfQ2 115 = .ok (.invokevirtual 172, 3) := by decide +kernel
theorem dHart_shortOfQ2_118 : decode cHart_shortOfQ2 118 = .ok (.ireturn, 1) := by decide +kernel
theorem dHart_shortOfQ2_119 : decode cHart_shortOfQ2 119 = .ok (.iload_n 1, 1) := by decide +kernel
theorem dHart_shortOfQ2_120 : decode cHart_shortOfQ2 120 = .ok (.invokestatic 268, 3) := by decide +kernel
theorem dHart_shortOfQ2_123 : decode cHart_shortOfQ2 123 = .ok (.ifCond .ne 11, 3) := by decide +kernel
theorem dHart_shortOfQ2_126 : decode cHart_shortOfQ2 126 = .ok (.aload_n 0, 1) := by decide +kernel
theorem dHart_shortOfQ2_127 : decode cHart_shortOfQ2 127 = .ok (.iload_n 1, 1) := by decide +kernel
theorem dHart_shortOfQ2_128 : decode cHart_shortOfQ2 128 = .ok (.invokevirtual 275, 3) := by decide +kernel
theorem dHart_shortOfQ2_131 : decode cHart_shortOfQ2 131 = .ok (.goto 8, 3) := by decide +kernel
theorem dHart_shortOfQ2_134 : decode cHart_shortOfQ2 134 = .ok (.aload_n 0, 1) := by decide +kernel
theorem dHart_shortOfQ2_135 : decode cHart_shortOfQ2 135 = .ok (.iload_n 1, 1) := by decide +kernel
theorem dHart_shortOfQ2_136 : decode cHart_shortOfQ2 136 = .ok (.invokevirtual 278, 3) := by decide +kernel
theorem dHart_shortOfQ2_139 : decode cHart_shortOfQ2 139 = .ok (.ireturn, 1) := by decide +kernel
theorem dHart_shortOfQ2_140 : decode cHart_shortOfQ2 140 = .ok (.aload_n 0, 1) := by decide +kernel
theorem dHart_shortOfQ2_141 : decode cHart_shortOfQ2 141 = .ok (.iconst 2, 1) := by decide +kernel
theorem dHart_shortOfQ2_142 : decode cHart_shortOfQ2 142 = .ok (.iload_n 3, 1) := by decide +kernel
theorem dHart_shortOfQ2_143 : decode cHart_shortOfQ2 143 = .ok (.iload_n 1, 1) := by decide +kernel
theorem dHart_shortOfQ2_144 : decode cHart_shortOfQ2 144 = .ok (.invokestatic 281, 3) := by decide +kernel
theorem dHart_shortOfQ2_147 : decode cHart_shortOfQ2 147 = .ok (.iadd, 1) := by decide +kernel
theorem dHart_shortOfQ2_148 : decode cHart_shortOfQ2 148 = .ok (.aload_n 0, 1) := by decide +kernel
theorem dHart_shortOfQ2_149 : decode cHart_shortOfQ2 149 = .ok (.getfield 16, 3) := by decide +kernel
theorem dHart_shortOfQ2_152 : decode cHart_shortOfQ2 152 = .ok (.iload_n 1, 1) := by decide +kernel
theorem dHart_shortOfQ2_153 : decode cHart_shortOfQ2 153 = .ok (.invokestatic 268, 3) := by decide +kernel
theorem dHart_shortOfQ2_156 : decode cHart_shortOfQ2 156 = .ok (.iaload, 1) := by decide +kernel
theorem dHart_shortOfQ2_157 : decode cHart_shortOfQ2 157 = .ok (.invokevirtual 179, 3) := by decide +kernel
theorem dHart_shortOfQ2_160 : decode cHart_shortOfQ2 160 = .ok (.ireturn, 1) := by decide +kernel
theorem dHart_shortOfQ2_161 : decode cHart_shortOfQ2 161 = .ok (.aload_n 0, 1) := by decide +kernel
theorem dHart_shortOfQ2_162 : decode cHart_shortOfQ2 162 = .ok (.iconst 2, 1) := by decide +kernel
theorem dHart_shortOfQ2_163 : decode cHart_shortOfQ2 163 = .ok (.iload_n 1, 1) := by decide +kernel
theorem dHart_shortOfQ2_164 : decode cHart_shortOfQ2 164 = .ok (.invokevirtual 91, 3) := by decide +kernel
theorem dHart_shortOfQ2_167 : decode cHart_shortOfQ2 167 = .ok (.ireturn, 1) := by decide +kernel
theorem dHart_shortJumpToRegister_0 : decode cHart_shortJumpToRegister 0 = .ok (.iload_n 1, 1) := by decide +kernel
theorem dHart_shortJumpToRegister_1 : decode cHart_shortJumpToRegister 1 = .ok (.invokestatic 242, 3) := by decide +kernel
theorem dHart_shortJumpToRegister_4 : decode cHart_shortJumpToRegister 4 = .ok (.istore_n 2, 1) := by decide +kernel
theorem dHart_shortJumpToRegister_5 : decode cHart_shortJumpToRegister 5 = .ok (.iload_n 1, 1) := by decide +kernel
theorem dHart_shortJumpToRegister_6 : decode cHart_shortJumpToRegister 6 = .ok (.invokestatic 265, 3) := by decide +kernel
theorem dHart_shortJumpToRegister_9 : decode cHart_shortJumpToRegister 9 = .ok (.istore_n 3, 1) := by decide +kernel
theorem dHart_shortJumpToRegister_10 : decode cHart_shortJumpToRegister 10 = .ok (.iload_n 2, 1) := by decide +kernel
theorem dHart_shortJumpToRegister_11 : decode cHart_shortJumpToRegister 11 = .ok (.ifCond .ne 23, 3) := by decide +kernel
theorem dHart_shortJumpToRegister_14 : decode cHart_shortJumpToRegister 14 = .ok (.iload_n 3, 1) := by decide +kernel
theorem dHart_shortJumpToRegister_15 : decode cHart_shortJumpToRegister 15 = .ok (.ifCond .eq 12, 3) := by decide +kernel
theorem dHart_shortJumpToRegister_18 : decode cHart_shortJumpToRegister 18 = .ok (.aload_n 0, 1) := by decide +kernel
theorem dHart_shortJumpToRegister_19 : decode cHart_shortJumpToRegister 19 = .ok (.iconst 4, 1) := by decide +kernel
theorem dHart_shortJumpToRegister_20 : decode cHart_shortJumpToRegister 20 = .ok (.iconst 0, 1) := by decide +kernel
theorem dHart_shortJumpToRegister_21 : decode cHart_shortJumpToRegister 21 = .ok (.invokevirtual 91, 3) := by decide +kernel
theorem dHart_shortJumpToRegister_24 : decode cHart_shortJumpToRegister 24 = .ok (.goto 9, 3) := by decide +kernel
theorem dHart_shortJumpToRegister_27 : decode cHart_shortJumpToRegister 27 = .ok (.aload_n 0, 1) := by decide +kernel
theorem dHart_shortJumpToRegister_28 : decode cHart_shortJumpToRegister 28 = .ok (.iconst 2, 1) := by decide +kernel
theorem dHart_shortJumpToRegister_29 : decode cHart_shortJumpToRegister 29 = .ok (.iload_n 1, 1) := by decide +kernel
theorem dHart_shortJumpToRegister_30 : decode cHart_shortJumpToRegister 30 = .ok (.invokevirtual 91, 3) := by decide +kernel
theorem dHart_shortJumpToRegister_33 : decode cHart_shortJumpToRegister 33 = .ok (.ireturn, 1) := by decide +kernel
theorem dHart_shortJumpToRegister_34 : decode cHart_shortJumpToRegister 34 = .ok (.aload_n 0, 1) := by decide +kernel
theorem dHart_shortJumpToRegister_35 : decode cHart_shortJumpToRegister 35 = .ok (.iload_n 3, 1) := by decide +kernel
theorem dHart_shortJumpToRegister_36 : decode cHart_shortJumpToRegister 36 = .ok (.ifCond .eq 7, 3) := by decide +kernel
theorem dHart_shortJumpToRegister_39 : decode cHart_shortJumpToRegister 39 = .ok (.iconst 1, 1) := by decide +kernel
theorem dHart_shortJumpToRegister_40 : decode cHart_shortJumpToRegister 40 = .ok (.goto 4, 3) := by decide +kernel
theorem dHart_shortJumpToRegister_43 : decode cHart_shortJumpToRegister 43 = .ok (.iconst 0, 1) := by decide +kernel
theorem dHart_shortJumpToRegister_44 : decode cHart_shortJumpToRegister 44 = .ok (.aload_n 0, 1) := by decide +kernel
theorem dHart_shortJumpToRegister_45 : decode cHart_shortJumpToRegister 45 = .ok (.getfield 16, 3) := by decide +kernel
theorem dHart_shortJumpToRegister_48 : decode cHart_shortJumpToRegister 48 = .ok (.iload_n 2, 1) := by decide +kernel
theorem dHart_shortJumpToRegister_49 : decode cHart_shortJumpToRegister 49 = .ok (.iaload, 1) := by decide +kernel
theorem dHart_shortJumpToRegister_50 : decode cHart_shortJumpToRegister 50 = .ok (.invokevirtual 107, 3) := by decide +kernel
theorem dHart_shortJumpToRegister_53 : decode cHart_shortJumpToRegister 53 = .ok (.ireturn, 1) := by decide +kernel
theorem dHart_shortMoveOrAdd_0 : decode cHart_shortMoveOrAdd 0 = .ok (.iload_n 1, 1) := by decide +kernel
theorem dHart_shortMoveOrAdd_1 : decode cHart_shortMoveOrAdd 1 = .ok (.invokestatic 242, 3) := by decide +kernel
theorem dHart_shortMoveOrAdd_4 : decode cHart_shortMoveOrAdd 4 = .ok (.istore_n 2, 1) := by decide +kernel
theorem dHart_shortMoveOrAdd_5 : decode cHart_shortMoveOrAdd 5 = .ok (.aload_n 0, 1) := by decide +kernel
theorem dHart_shortMoveOrAdd_6 : decode cHart_shortMoveOrAdd 6 = .ok (.getfield 16, 3) := by decide +kernel
theorem dHart_shortMoveOrAdd_9 : decode cHart_shortMoveOrAdd 9 = .ok (.iload_n 1, 1) := by decide +kernel
theorem dHart_shortMoveOrAdd_10 : decode cHart_shortMoveOrAdd 10 = .ok (.invokestatic 268, 3) := by decide +kernel
theorem dHart_shortMoveOrAdd_13 : decode cHart_shortMoveOrAdd 13 = .ok (.iaload, 1) := by decide +kernel
theorem dHart_shortMoveOrAdd_14 : decode cHart_shortMoveOrAdd 14 = .ok (.istore_n 3, 1) := by decide +kernel
theorem dHart_shortMoveOrAdd_15 : decode cHart_shortMoveOrAdd 15 = .ok (.aload_n 0, 1) := by decide +kernel
theorem dHart_shortMoveOrAdd_16 : decode cHart_shortMoveOrAdd 16 = .ok (.iload_n 2, 1) := by decide +kernel
theorem dHart_shortMoveOrAdd_17 : decode cHart_shortMoveOrAdd 17 = .ok (.iload_n 1, 1) := by decide +kernel
theorem dHart_shortMoveOrAdd_18 : decode cHart_shortMoveOrAdd 18 = .ok (.invokestatic 265, 3) := by decide +kernel
theorem dHart_shortMoveOrAdd_21 : decode cHart_shortMoveOrAdd 21 = .ok (.ifCond .eq 14, 3) := by decide +kernel
theorem dHart_shortMoveOrAdd_24 : decode cHart_shortMoveOrAdd 24 = .ok (.aload_n 0, 1) := by decide +kernel
theorem dHart_shortMoveOrAdd_25 : decode cHart_shortMoveOrAdd 25 = .ok (.getfield 16, 3) := by decide +kernel
theorem dHart_shortMoveOrAdd_28 : decode cHart_shortMoveOrAdd 28 = .ok (.iload_n 2, 1) := by decide +kernel
theorem dHart_shortMoveOrAdd_29 : decode cHart_shortMoveOrAdd 29 = .ok (.iaload, 1) := by decide +kernel
theorem dHart_shortMoveOrAdd_30 : decode cHart_shortMoveOrAdd 30 = .ok (.iload_n 3, 1) := by decide +kernel
theorem dHart_shortMoveOrAdd_31 : decode cHart_shortMoveOrAdd 31 = .ok (.iadd, 1) := by decide +kernel
theorem dHart_shortMoveOrAdd_32 : decode cHart_shortMoveOrAdd 32 = .ok (.goto 4, 3) := by decide +kernel
theorem dHart_shortMoveOrAdd_35 : decode cHart_shortMoveOrAdd 35 = .ok (.iload_n 3, 1) := by decide +kernel
theorem dHart_shortMoveOrAdd_36 : decode cHart_shortMoveOrAdd 36 = .ok (.invokevirtual 57, 3) := by decide +kernel
theorem dHart_shortMoveOrAdd_39 : decode cHart_shortMoveOrAdd 39 = .ok (.ireturn, 1) := by decide +kernel
end
section
theorem tw_0 : (Cond.selects "RiscHart" yHart_carryOutNext yHart_carryOutNext) ∈ lw_g := List.mem_filter.mpr ⟨List.mem_of_getElem? (i := 0) (by decide +kernel), rfl⟩
theorem tw_1 : (Cond.selects "RiscHart" yHart_trap yHart_trap) ∈ lw_g := List.mem_filter.mpr ⟨List.mem_of_getElem? (i := 1) (by decide +kernel), rfl⟩
theorem tw_2 : (Cond.selects "RiscHart" yHart_longFrom yHart_longFrom) ∈ lw_g := List.mem_filter.mpr ⟨List.mem_of_getElem? (i := 2) (by decide +kernel), rfl⟩
theorem tw_3 : (Cond.selects "RiscHart" yHart_carryOutLong yHart_carryOutLong) ∈ lw_g := List.mem_filter.mpr ⟨List.mem_of_getElem? (i := 3) (by decide +kernel), rfl⟩
theorem tw_4 : (Cond.selects "RiscHart" yHart_give yHart_give) ∈ lw_g := List.mem_filter.mpr ⟨List.mem_of_getElem? (i := 4) (by decide +kernel), rfl⟩
theorem tw_5 : (Cond.selects "RiscHart" yHart_linkAndJump yHart_linkAndJump) ∈ lw_g := List.mem_filter.mpr ⟨List.mem_of_getElem? (i := 5) (by decide +kernel), rfl⟩
theorem tw_6 : (Cond.selects "RiscHart" yHart_longJumpToRegister yHart_longJumpToRegister) ∈ lw_g := List.mem_filter.mpr ⟨List.mem_of_getElem? (i := 6) (by decide +kernel), rfl⟩
theorem tw_7 : (Cond.selects "RiscHart" yHart_longBranch yHart_longBranch) ∈ lw_g := List.mem_filter.mpr ⟨List.mem_of_getElem? (i := 7) (by decide +kernel), rfl⟩
theorem tw_8 : (Cond.selects "RiscHart" yHart_jumpIf yHart_jumpIf) ∈ lw_g := List.mem_filter.mpr ⟨List.mem_of_getElem? (i := 8) (by decide +kernel), rfl⟩
theorem tw_9 : (Cond.selects "RiscHart" yHart_longLoad yHart_longLoad) ∈ lw_g := List.mem_filter.mpr ⟨List.mem_of_getElem? (i := 9) (by decide +kernel), rfl⟩
theorem tw_10 : (Cond.selects "RiscHart" yHart_load yHart_load) ∈ lw_g := List.mem_filter.mpr ⟨List.mem_of_getElem? (i := 10) (by decide +kernel), rfl⟩
theorem tw_11 : (Cond.selects "RiscHart" yHart_longStore yHart_longStore) ∈ lw_g := List.mem_filter.mpr ⟨List.mem_of_getElem? (i := 11) (by decide +kernel), rfl⟩
theorem tw_12 : (Cond.selects "RiscHart" yHart_store yHart_store) ∈ lw_g := List.mem_filter.mpr ⟨List.mem_of_getElem? (i := 12) (by decide +kernel), rfl⟩
theorem tw_13 : (Cond.selects "RiscHart" yHart_longWithNumber yHart_longWithNumber) ∈ lw_g := List.mem_filter.mpr ⟨List.mem_of_getElem? (i := 13) (by decide +kernel), rfl⟩
theorem tw_14 : (Cond.selects "RiscHart" yHart_longWithRegisters yHart_longWithRegisters) ∈ lw_g := List.mem_filter.mpr ⟨List.mem_of_getElem? (i := 14) (by decide +kernel), rfl⟩
theorem tw_15 : (Cond.selects "RiscHart" yHart_longAtomic yHart_longAtomic) ∈ lw_g := List.mem_filter.mpr ⟨List.mem_of_getElem? (i := 15) (by decide +kernel), rfl⟩
theorem tw_16 : (Cond.selects "RiscHart" yHart_loadReserved yHart_loadReserved) ∈ lw_g := List.mem_filter.mpr ⟨List.mem_of_getElem? (i := 16) (by decide +kernel), rfl⟩
theorem tw_17 : (Cond.selects "RiscHart" yHart_storeConditional yHart_storeConditional) ∈ lw_g := List.mem_filter.mpr ⟨List.mem_of_getElem? (i := 17) (by decide +kernel), rfl⟩
theorem tw_18 : (Cond.selects "RiscHart" yHart_change yHart_change) ∈ lw_g := List.mem_filter.mpr ⟨List.mem_of_getElem? (i := 18) (by decide +kernel), rfl⟩
theorem tw_19 : (Cond.selects "RiscHart" yHart_longSystem yHart_longSystem) ∈ lw_g := List.mem_filter.mpr ⟨List.mem_of_getElem? (i := 19) (by decide +kernel), rfl⟩
theorem tw_20 : (Cond.selects "RiscHart" yHart_readCounter yHart_readCounter) ∈ lw_g := List.mem_filter.mpr ⟨List.mem_of_getElem? (i := 20) (by decide +kernel), rfl⟩
theorem tw_21 : (Cond.selects "RiscHart" yHart_carryOutShort yHart_carryOutShort) ∈ lw_g := List.mem_filter.mpr ⟨List.mem_of_getElem? (i := 21) (by decide +kernel), rfl⟩
theorem tw_22 : (Cond.selects "RiscHart" yHart_shortOfQ0 yHart_shortOfQ0) ∈ lw_g := List.mem_filter.mpr ⟨List.mem_of_getElem? (i := 22) (by decide +kernel), rfl⟩
theorem tw_23 : (Cond.selects "RiscHart" yHart_shortOfQ1 yHart_shortOfQ1) ∈ lw_g := List.mem_filter.mpr ⟨List.mem_of_getElem? (i := 23) (by decide +kernel), rfl⟩
theorem tw_24 : (Cond.selects "RiscHart" yHart_shortMoveStack yHart_shortMoveStack) ∈ lw_g := List.mem_filter.mpr ⟨List.mem_of_getElem? (i := 24) (by decide +kernel), rfl⟩
theorem tw_25 : (Cond.selects "RiscHart" yHart_shortUpperNumber yHart_shortUpperNumber) ∈ lw_g := List.mem_filter.mpr ⟨List.mem_of_getElem? (i := 25) (by decide +kernel), rfl⟩
theorem tw_26 : (Cond.selects "RiscHart" yHart_shortArithmetic yHart_shortArithmetic) ∈ lw_g := List.mem_filter.mpr ⟨List.mem_of_getElem? (i := 26) (by decide +kernel), rfl⟩
theorem tw_27 : (Cond.selects "RiscHart" yHart_shortOfQ2 yHart_shortOfQ2) ∈ lw_g := List.mem_filter.mpr ⟨List.mem_of_getElem? (i := 27) (by decide +kernel), rfl⟩
theorem tw_28 : (Cond.selects "RiscHart" yHart_shortJumpToRegister yHart_shortJumpToRegister) ∈ lw_g := List.mem_filter.mpr ⟨List.mem_of_getElem? (i := 28) (by decide +kernel), rfl⟩
theorem tw_29 : (Cond.selects "RiscHart" yHart_shortMoveOrAdd yHart_shortMoveOrAdd) ∈ lw_g := List.mem_filter.mpr ⟨List.mem_of_getElem? (i := 29) (by decide +kernel), rfl⟩
theorem tw_46 : (Cond.initialized "RiscHart") ∈ lw_g := List.mem_filter.mpr ⟨List.mem_of_getElem? (i := 46) (by decide +kernel), rfl⟩
theorem tw_47 : (Cond.initialized "RiscHart$Memory") ∈ lw_g := List.mem_filter.mpr ⟨List.mem_of_getElem? (i := 47) (by decide +kernel), rfl⟩
theorem tw_54 : (Cond.initialized "RiscHart$LongForm") ∈ lw_g := List.mem_filter.mpr ⟨List.mem_of_getElem? (i := 54) (by decide +kernel), rfl⟩
theorem tw_55 : (Cond.initialized "RiscHart$Bits") ∈ lw_g := List.mem_filter.mpr ⟨List.mem_of_getElem? (i := 55) (by decide +kernel), rfl⟩
theorem tw_56 : (Cond.initialized "RiscHart$Arithmetic") ∈ lw_g := List.mem_filter.mpr ⟨List.mem_of_getElem? (i := 56) (by decide +kernel), rfl⟩
theorem tw_57 : (Cond.initialized "RiscHart$ShortForm") ∈ lw_g := List.mem_filter.mpr ⟨List.mem_of_getElem? (i := 57) (by decide +kernel), rfl⟩
theorem tw_72 : (Cond.fieldLink "RiscHart$Memory" 9 "RiscHart$Memory" "words" "[I") ∈ lw_g := List.mem_filter.mpr ⟨List.mem_of_getElem? (i := 72) (by decide +kernel), rfl⟩
theorem tw_73 : (Cond.fieldLink "RiscHart$Memory" 13 "RiscHart$Memory" "pageRights" "[I") ∈ lw_g := List.mem_filter.mpr ⟨List.mem_of_getElem? (i := 73) (by decide +kernel), rfl⟩
theorem tw_74 : (Cond.fieldLink "RiscHart$Memory" 16 "RiscHart$Memory" "reserved" "I") ∈ lw_g := List.mem_filter.mpr ⟨List.mem_of_getElem? (i := 74) (by decide +kernel), rfl⟩
theorem tw_83 : (Cond.fieldLink "RiscHart" 10 "RiscHart" "memory" "LRiscHart$Memory;") ∈ lw_g := List.mem_filter.mpr ⟨List.mem_of_getElem? (i := 83) (by decide +kernel), rfl⟩
theorem tw_84 : (Cond.fieldLink "RiscHart" 16 "RiscHart" "registers" "[I") ∈ lw_g := List.mem_filter.mpr ⟨List.mem_of_getElem? (i := 84) (by decide +kernel), rfl⟩
theorem tw_85 : (Cond.fieldLink "RiscHart" 60 "RiscHart" "place" "I") ∈ lw_g := List.mem_filter.mpr ⟨List.mem_of_getElem? (i := 85) (by decide +kernel), rfl⟩
theorem tw_86 : (Cond.fieldLink "RiscHart" 94 "RiscHart" "placeBehind" "I") ∈ lw_g := List.mem_filter.mpr ⟨List.mem_of_getElem? (i := 86) (by decide +kernel), rfl⟩
theorem tw_87 : (Cond.fieldLink "RiscHart" 74 "RiscHart" "cause" "I") ∈ lw_g := List.mem_filter.mpr ⟨List.mem_of_getElem? (i := 87) (by decide +kernel), rfl⟩
theorem tw_88 : (Cond.fieldLink "RiscHart" 77 "RiscHart" "value" "I") ∈ lw_g := List.mem_filter.mpr ⟨List.mem_of_getElem? (i := 88) (by decide +kernel), rfl⟩
theorem tw_89 : (Cond.fieldLink "RiscHart" 80 "RiscHart" "retired" "J") ∈ lw_g := List.mem_filter.mpr ⟨List.mem_of_getElem? (i := 89) (by decide +kernel), rfl⟩
theorem tw_90 : (Cond.fieldLink "RiscHart" 64 "RiscHart" "time" "J") ∈ lw_g := List.mem_filter.mpr ⟨List.mem_of_getElem? (i := 90) (by decide +kernel), rfl⟩
theorem tw_120 : (Cond.methodLink "RiscHart" 68 yHart_carryOutNext) ∈ lw_g := List.mem_filter.mpr ⟨List.mem_of_getElem? (i := 120) (by decide +kernel), rfl⟩
theorem tw_122 : (Cond.instanceMethod yHart_carryOutNext) ∈ lw_g := List.mem_filter.mpr ⟨List.mem_of_getElem? (i := 122) (by decide +kernel), rfl⟩
theorem tw_123 : (Cond.code yHart_carryOutNext prog_1_method_13_code 4 (some FieldType.int)) ∈ lw_g := List.mem_filter.mpr ⟨List.mem_of_getElem? (i := 123) (by decide +kernel), rfl⟩
theorem tw_124 : (Cond.methodLink "RiscHart" 88 yMem_mayCarryOut) ∈ lw_g := List.mem_filter.mpr ⟨List.mem_of_getElem? (i := 124) (by decide +kernel), rfl⟩
theorem tw_125 : (Cond.instanceMethod yMem_mayCarryOut) ∈ lw_g := List.mem_filter.mpr ⟨List.mem_of_getElem? (i := 125) (by decide +kernel), rfl⟩
theorem tw_126 : (Cond.selects "RiscHart$Memory" yMem_mayCarryOut yMem_mayCarryOut) ∈ lw_g := List.mem_filter.mpr ⟨List.mem_of_getElem? (i := 126) (by decide +kernel), rfl⟩
theorem tw_127 : (Cond.code yMem_mayCarryOut prog_5_method_5_code 2 (some FieldType.boolean)) ∈ lw_g := List.mem_filter.mpr ⟨List.mem_of_getElem? (i := 127) (by decide +kernel), rfl⟩
theorem tw_128 : (Cond.methodLink "RiscHart$Memory" 25 yMem_isMisaligned) ∈ lw_g := List.mem_filter.mpr ⟨List.mem_of_getElem? (i := 128) (by decide +kernel), rfl⟩
theorem tw_129 : (Cond.static yMem_isMisaligned) ∈ lw_g := List.mem_filter.mpr ⟨List.mem_of_getElem? (i := 129) (by decide +kernel), rfl⟩
theorem tw_130 : (Cond.code yMem_isMisaligned prog_5_method_3_code 2 (some FieldType.boolean)) ∈ lw_g := List.mem_filter.mpr ⟨List.mem_of_getElem? (i := 130) (by decide +kernel), rfl⟩
theorem tw_131 : (Cond.methodLink "RiscHart$Memory" 29 yMem_allows) ∈ lw_g := List.mem_filter.mpr ⟨List.mem_of_getElem? (i := 131) (by decide +kernel), rfl⟩
theorem tw_132 : (Cond.instanceMethod yMem_allows) ∈ lw_g := List.mem_filter.mpr ⟨List.mem_of_getElem? (i := 132) (by decide +kernel), rfl⟩
theorem tw_133 : (Cond.selects "RiscHart$Memory" yMem_allows yMem_allows) ∈ lw_g := List.mem_filter.mpr ⟨List.mem_of_getElem? (i := 133) (by decide +kernel), rfl⟩
theorem tw_134 : (Cond.code yMem_allows prog_5_method_4_code 3 (some FieldType.boolean)) ∈ lw_g := List.mem_filter.mpr ⟨List.mem_of_getElem? (i := 134) (by decide +kernel), rfl⟩
theorem tw_135 : (Cond.methodLink "RiscHart$Memory" 21 yMem_holds) ∈ lw_g := List.mem_filter.mpr ⟨List.mem_of_getElem? (i := 135) (by decide +kernel), rfl⟩
theorem tw_136 : (Cond.static yMem_holds) ∈ lw_g := List.mem_filter.mpr ⟨List.mem_of_getElem? (i := 136) (by decide +kernel), rfl⟩
theorem tw_137 : (Cond.code yMem_holds prog_5_method_2_code 1 (some FieldType.boolean)) ∈ lw_g := List.mem_filter.mpr ⟨List.mem_of_getElem? (i := 137) (by decide +kernel), rfl⟩
theorem tw_138 : (Cond.constant "RiscHart$Memory" 20 65535) ∈ lw_g := List.mem_filter.mpr ⟨List.mem_of_getElem? (i := 138) (by decide +kernel), rfl⟩
theorem tw_139 : (Cond.methodLink "RiscHart" 91 yHart_trap) ∈ lw_g := List.mem_filter.mpr ⟨List.mem_of_getElem? (i := 139) (by decide +kernel), rfl⟩
theorem tw_141 : (Cond.instanceMethod yHart_trap) ∈ lw_g := List.mem_filter.mpr ⟨List.mem_of_getElem? (i := 141) (by decide +kernel), rfl⟩
theorem tw_142 : (Cond.code yHart_trap prog_1_method_15_code 3 (some FieldType.int)) ∈ lw_g := List.mem_filter.mpr ⟨List.mem_of_getElem? (i := 142) (by decide +kernel), rfl⟩
theorem tw_143 : (Cond.methodLink "RiscHart" 41 yMem_read) ∈ lw_g := List.mem_filter.mpr ⟨List.mem_of_getElem? (i := 143) (by decide +kernel), rfl⟩
theorem tw_144 : (Cond.instanceMethod yMem_read) ∈ lw_g := List.mem_filter.mpr ⟨List.mem_of_getElem? (i := 144) (by decide +kernel), rfl⟩
theorem tw_145 : (Cond.selects "RiscHart$Memory" yMem_read yMem_read) ∈ lw_g := List.mem_filter.mpr ⟨List.mem_of_getElem? (i := 145) (by decide +kernel), rfl⟩
theorem tw_146 : (Cond.code yMem_read prog_5_method_9_code 5 (some FieldType.int)) ∈ lw_g := List.mem_filter.mpr ⟨List.mem_of_getElem? (i := 146) (by decide +kernel), rfl⟩
theorem tw_147 : (Cond.methodLink "RiscHart$Memory" 32 yMem_wordIndex) ∈ lw_g := List.mem_filter.mpr ⟨List.mem_of_getElem? (i := 147) (by decide +kernel), rfl⟩
theorem tw_148 : (Cond.static yMem_wordIndex) ∈ lw_g := List.mem_filter.mpr ⟨List.mem_of_getElem? (i := 148) (by decide +kernel), rfl⟩
theorem tw_149 : (Cond.code yMem_wordIndex prog_5_method_11_code 1 (some FieldType.int)) ∈ lw_g := List.mem_filter.mpr ⟨List.mem_of_getElem? (i := 149) (by decide +kernel), rfl⟩
theorem tw_150 : (Cond.methodLink "RiscHart$Memory" 36 yMem_shiftOf) ∈ lw_g := List.mem_filter.mpr ⟨List.mem_of_getElem? (i := 150) (by decide +kernel), rfl⟩
theorem tw_151 : (Cond.static yMem_shiftOf) ∈ lw_g := List.mem_filter.mpr ⟨List.mem_of_getElem? (i := 151) (by decide +kernel), rfl⟩
theorem tw_152 : (Cond.code yMem_shiftOf prog_5_method_12_code 1 (some FieldType.int)) ∈ lw_g := List.mem_filter.mpr ⟨List.mem_of_getElem? (i := 152) (by decide +kernel), rfl⟩
theorem tw_153 : (Cond.methodLink "RiscHart" 97 yHart_longFrom) ∈ lw_g := List.mem_filter.mpr ⟨List.mem_of_getElem? (i := 153) (by decide +kernel), rfl⟩
theorem tw_155 : (Cond.instanceMethod yHart_longFrom) ∈ lw_g := List.mem_filter.mpr ⟨List.mem_of_getElem? (i := 155) (by decide +kernel), rfl⟩
theorem tw_156 : (Cond.code yHart_longFrom prog_1_method_14_code 2 (some FieldType.int)) ∈ lw_g := List.mem_filter.mpr ⟨List.mem_of_getElem? (i := 156) (by decide +kernel), rfl⟩
theorem tw_157 : (Cond.methodLink "RiscHart" 101 yHart_carryOutLong) ∈ lw_g := List.mem_filter.mpr ⟨List.mem_of_getElem? (i := 157) (by decide +kernel), rfl⟩
theorem tw_159 : (Cond.instanceMethod yHart_carryOutLong) ∈ lw_g := List.mem_filter.mpr ⟨List.mem_of_getElem? (i := 159) (by decide +kernel), rfl⟩
theorem tw_160 : (Cond.code yHart_carryOutLong prog_1_method_21_code 3 (some FieldType.int)) ∈ lw_g := List.mem_filter.mpr ⟨List.mem_of_getElem? (i := 160) (by decide +kernel), rfl⟩
theorem tw_161 : (Cond.methodLink "RiscHart" 113 yLF_d) ∈ lw_g := List.mem_filter.mpr ⟨List.mem_of_getElem? (i := 161) (by decide +kernel), rfl⟩
theorem tw_162 : (Cond.static yLF_d) ∈ lw_g := List.mem_filter.mpr ⟨List.mem_of_getElem? (i := 162) (by decide +kernel), rfl⟩
theorem tw_163 : (Cond.code yLF_d prog_4_method_2_code 1 (some FieldType.int)) ∈ lw_g := List.mem_filter.mpr ⟨List.mem_of_getElem? (i := 163) (by decide +kernel), rfl⟩
theorem tw_164 : (Cond.methodLink "RiscHart$LongForm" 9 yBits_part) ∈ lw_g := List.mem_filter.mpr ⟨List.mem_of_getElem? (i := 164) (by decide +kernel), rfl⟩
theorem tw_165 : (Cond.static yBits_part) ∈ lw_g := List.mem_filter.mpr ⟨List.mem_of_getElem? (i := 165) (by decide +kernel), rfl⟩
theorem tw_166 : (Cond.code yBits_part prog_3_method_2_code 3 (some FieldType.int)) ∈ lw_g := List.mem_filter.mpr ⟨List.mem_of_getElem? (i := 166) (by decide +kernel), rfl⟩
theorem tw_167 : (Cond.methodLink "RiscHart" 118 yLF_upperNumber) ∈ lw_g := List.mem_filter.mpr ⟨List.mem_of_getElem? (i := 167) (by decide +kernel), rfl⟩
theorem tw_168 : (Cond.static yLF_upperNumber) ∈ lw_g := List.mem_filter.mpr ⟨List.mem_of_getElem? (i := 168) (by decide +kernel), rfl⟩
theorem tw_169 : (Cond.code yLF_upperNumber prog_4_method_10_code 1 (some FieldType.int)) ∈ lw_g := List.mem_filter.mpr ⟨List.mem_of_getElem? (i := 169) (by decide +kernel), rfl⟩
theorem tw_170 : (Cond.methodLink "RiscHart" 57 yHart_give) ∈ lw_g := List.mem_filter.mpr ⟨List.mem_of_getElem? (i := 170) (by decide +kernel), rfl⟩
theorem tw_172 : (Cond.instanceMethod yHart_give) ∈ lw_g := List.mem_filter.mpr ⟨List.mem_of_getElem? (i := 172) (by decide +kernel), rfl⟩
theorem tw_173 : (Cond.code yHart_give prog_1_method_16_code 3 (some FieldType.int)) ∈ lw_g := List.mem_filter.mpr ⟨List.mem_of_getElem? (i := 173) (by decide +kernel), rfl⟩
theorem tw_174 : (Cond.methodLink "RiscHart" 121 yLF_offsetJ) ∈ lw_g := List.mem_filter.mpr ⟨List.mem_of_getElem? (i := 174) (by decide +kernel), rfl⟩
theorem tw_175 : (Cond.static yLF_offsetJ) ∈ lw_g := List.mem_filter.mpr ⟨List.mem_of_getElem? (i := 175) (by decide +kernel), rfl⟩
theorem tw_176 : (Cond.code yLF_offsetJ prog_4_method_11_code 2 (some FieldType.int)) ∈ lw_g := List.mem_filter.mpr ⟨List.mem_of_getElem? (i := 176) (by decide +kernel), rfl⟩
theorem tw_177 : (Cond.methodLink "RiscHart$LongForm" 24 yBits_signed) ∈ lw_g := List.mem_filter.mpr ⟨List.mem_of_getElem? (i := 177) (by decide +kernel), rfl⟩
theorem tw_178 : (Cond.static yBits_signed) ∈ lw_g := List.mem_filter.mpr ⟨List.mem_of_getElem? (i := 178) (by decide +kernel), rfl⟩
theorem tw_179 : (Cond.code yBits_signed prog_3_method_3_code 2 (some FieldType.int)) ∈ lw_g := List.mem_filter.mpr ⟨List.mem_of_getElem? (i := 179) (by decide +kernel), rfl⟩
theorem tw_180 : (Cond.methodLink "RiscHart" 107 yHart_linkAndJump) ∈ lw_g := List.mem_filter.mpr ⟨List.mem_of_getElem? (i := 180) (by decide +kernel), rfl⟩
theorem tw_182 : (Cond.instanceMethod yHart_linkAndJump) ∈ lw_g := List.mem_filter.mpr ⟨List.mem_of_getElem? (i := 182) (by decide +kernel), rfl⟩
theorem tw_183 : (Cond.code yHart_linkAndJump prog_1_method_17_code 4 (some FieldType.int)) ∈ lw_g := List.mem_filter.mpr ⟨List.mem_of_getElem? (i := 183) (by decide +kernel), rfl⟩
theorem tw_184 : (Cond.methodLink "RiscHart" 124 yHart_longJumpToRegister) ∈ lw_g := List.mem_filter.mpr ⟨List.mem_of_getElem? (i := 184) (by decide +kernel), rfl⟩
theorem tw_186 : (Cond.instanceMethod yHart_longJumpToRegister) ∈ lw_g := List.mem_filter.mpr ⟨List.mem_of_getElem? (i := 186) (by decide +kernel), rfl⟩
theorem tw_187 : (Cond.code yHart_longJumpToRegister prog_1_method_22_code 2 (some FieldType.int)) ∈ lw_g := List.mem_filter.mpr ⟨List.mem_of_getElem? (i := 187) (by decide +kernel), rfl⟩
theorem tw_188 : (Cond.methodLink "RiscHart" 145 yLF_f) ∈ lw_g := List.mem_filter.mpr ⟨List.mem_of_getElem? (i := 188) (by decide +kernel), rfl⟩
theorem tw_189 : (Cond.static yLF_f) ∈ lw_g := List.mem_filter.mpr ⟨List.mem_of_getElem? (i := 189) (by decide +kernel), rfl⟩
theorem tw_190 : (Cond.code yLF_f prog_4_method_3_code 1 (some FieldType.int)) ∈ lw_g := List.mem_filter.mpr ⟨List.mem_of_getElem? (i := 190) (by decide +kernel), rfl⟩
theorem tw_191 : (Cond.methodLink "RiscHart" 151 yLF_a) ∈ lw_g := List.mem_filter.mpr ⟨List.mem_of_getElem? (i := 191) (by decide +kernel), rfl⟩
theorem tw_192 : (Cond.static yLF_a) ∈ lw_g := List.mem_filter.mpr ⟨List.mem_of_getElem? (i := 192) (by decide +kernel), rfl⟩
theorem tw_193 : (Cond.code yLF_a prog_4_method_4_code 1 (some FieldType.int)) ∈ lw_g := List.mem_filter.mpr ⟨List.mem_of_getElem? (i := 193) (by decide +kernel), rfl⟩
theorem tw_194 : (Cond.methodLink "RiscHart" 154 yLF_numberI) ∈ lw_g := List.mem_filter.mpr ⟨List.mem_of_getElem? (i := 194) (by decide +kernel), rfl⟩
theorem tw_195 : (Cond.static yLF_numberI) ∈ lw_g := List.mem_filter.mpr ⟨List.mem_of_getElem? (i := 195) (by decide +kernel), rfl⟩
theorem tw_196 : (Cond.code yLF_numberI prog_4_method_8_code 1 (some FieldType.int)) ∈ lw_g := List.mem_filter.mpr ⟨List.mem_of_getElem? (i := 196) (by decide +kernel), rfl⟩
theorem tw_197 : (Cond.methodLink "RiscHart" 127 yHart_longBranch) ∈ lw_g := List.mem_filter.mpr ⟨List.mem_of_getElem? (i := 197) (by decide +kernel), rfl⟩
theorem tw_199 : (Cond.instanceMethod yHart_longBranch) ∈ lw_g := List.mem_filter.mpr ⟨List.mem_of_getElem? (i := 199) (by decide +kernel), rfl⟩
theorem tw_200 : (Cond.code yHart_longBranch prog_1_method_23_code 5 (some FieldType.int)) ∈ lw_g := List.mem_filter.mpr ⟨List.mem_of_getElem? (i := 200) (by decide +kernel), rfl⟩
theorem tw_201 : (Cond.methodLink "RiscHart" 157 yLF_b) ∈ lw_g := List.mem_filter.mpr ⟨List.mem_of_getElem? (i := 201) (by decide +kernel), rfl⟩
theorem tw_202 : (Cond.static yLF_b) ∈ lw_g := List.mem_filter.mpr ⟨List.mem_of_getElem? (i := 202) (by decide +kernel), rfl⟩
theorem tw_203 : (Cond.code yLF_b prog_4_method_5_code 1 (some FieldType.int)) ∈ lw_g := List.mem_filter.mpr ⟨List.mem_of_getElem? (i := 203) (by decide +kernel), rfl⟩
theorem tw_204 : (Cond.methodLink "RiscHart" 160 yLF_offsetT) ∈ lw_g := List.mem_filter.mpr ⟨List.mem_of_getElem? (i := 204) (by decide +kernel), rfl⟩
theorem tw_205 : (Cond.static yLF_offsetT) ∈ lw_g := List.mem_filter.mpr ⟨List.mem_of_getElem? (i := 205) (by decide +kernel), rfl⟩
theorem tw_206 : (Cond.code yLF_offsetT prog_4_method_12_code 2 (some FieldType.int)) ∈ lw_g := List.mem_filter.mpr ⟨List.mem_of_getElem? (i := 206) (by decide +kernel), rfl⟩
theorem tw_207 : (Cond.methodLink "RiscHart" 163 yHart_jumpIf) ∈ lw_g := List.mem_filter.mpr ⟨List.mem_of_getElem? (i := 207) (by decide +kernel), rfl⟩
theorem tw_209 : (Cond.instanceMethod yHart_jumpIf) ∈ lw_g := List.mem_filter.mpr ⟨List.mem_of_getElem? (i := 209) (by decide +kernel), rfl⟩
theorem tw_210 : (Cond.code yHart_jumpIf prog_1_method_18_code 3 (some FieldType.int)) ∈ lw_g := List.mem_filter.mpr ⟨List.mem_of_getElem? (i := 210) (by decide +kernel), rfl⟩
theorem tw_211 : (Cond.methodLink "RiscHart" 167 yAr_isBelow) ∈ lw_g := List.mem_filter.mpr ⟨List.mem_of_getElem? (i := 211) (by decide +kernel), rfl⟩
theorem tw_212 : (Cond.static yAr_isBelow) ∈ lw_g := List.mem_filter.mpr ⟨List.mem_of_getElem? (i := 212) (by decide +kernel), rfl⟩
theorem tw_213 : (Cond.code yAr_isBelow prog_2_method_2_code 2 (some FieldType.boolean)) ∈ lw_g := List.mem_filter.mpr ⟨List.mem_of_getElem? (i := 213) (by decide +kernel), rfl⟩
theorem tw_214 : (Cond.constantLong "RiscHart$Arithmetic" 9 4294967295) ∈ lw_g := List.mem_filter.mpr ⟨List.mem_of_getElem? (i := 214) (by decide +kernel), rfl⟩
theorem tw_215 : (Cond.methodLink "RiscHart" 130 yHart_longLoad) ∈ lw_g := List.mem_filter.mpr ⟨List.mem_of_getElem? (i := 215) (by decide +kernel), rfl⟩
theorem tw_217 : (Cond.instanceMethod yHart_longLoad) ∈ lw_g := List.mem_filter.mpr ⟨List.mem_of_getElem? (i := 217) (by decide +kernel), rfl⟩
theorem tw_218 : (Cond.code yHart_longLoad prog_1_method_24_code 3 (some FieldType.int)) ∈ lw_g := List.mem_filter.mpr ⟨List.mem_of_getElem? (i := 218) (by decide +kernel), rfl⟩
theorem tw_219 : (Cond.methodLink "RiscHart" 172 yHart_load) ∈ lw_g := List.mem_filter.mpr ⟨List.mem_of_getElem? (i := 219) (by decide +kernel), rfl⟩
theorem tw_221 : (Cond.instanceMethod yHart_load) ∈ lw_g := List.mem_filter.mpr ⟨List.mem_of_getElem? (i := 221) (by decide +kernel), rfl⟩
theorem tw_222 : (Cond.code yHart_load prog_1_method_19_code 4 (some FieldType.int)) ∈ lw_g := List.mem_filter.mpr ⟨List.mem_of_getElem? (i := 222) (by decide +kernel), rfl⟩
theorem tw_223 : (Cond.methodLink "RiscHart" 35 yMem_isMisaligned) ∈ lw_g := List.mem_filter.mpr ⟨List.mem_of_getElem? (i := 223) (by decide +kernel), rfl⟩
theorem tw_224 : (Cond.methodLink "RiscHart" 110 yMem_allows) ∈ lw_g := List.mem_filter.mpr ⟨List.mem_of_getElem? (i := 224) (by decide +kernel), rfl⟩
theorem tw_225 : (Cond.methodLink "RiscHart" 133 yHart_longStore) ∈ lw_g := List.mem_filter.mpr ⟨List.mem_of_getElem? (i := 225) (by decide +kernel), rfl⟩
theorem tw_227 : (Cond.instanceMethod yHart_longStore) ∈ lw_g := List.mem_filter.mpr ⟨List.mem_of_getElem? (i := 227) (by decide +kernel), rfl⟩
theorem tw_228 : (Cond.code yHart_longStore prog_1_method_25_code 4 (some FieldType.int)) ∈ lw_g := List.mem_filter.mpr ⟨List.mem_of_getElem? (i := 228) (by decide +kernel), rfl⟩
theorem tw_229 : (Cond.methodLink "RiscHart" 176 yLF_numberS) ∈ lw_g := List.mem_filter.mpr ⟨List.mem_of_getElem? (i := 229) (by decide +kernel), rfl⟩
theorem tw_230 : (Cond.static yLF_numberS) ∈ lw_g := List.mem_filter.mpr ⟨List.mem_of_getElem? (i := 230) (by decide +kernel), rfl⟩
theorem tw_231 : (Cond.code yLF_numberS prog_4_method_9_code 1 (some FieldType.int)) ∈ lw_g := List.mem_filter.mpr ⟨List.mem_of_getElem? (i := 231) (by decide +kernel), rfl⟩
theorem tw_232 : (Cond.methodLink "RiscHart$LongForm" 15 yLF_g) ∈ lw_g := List.mem_filter.mpr ⟨List.mem_of_getElem? (i := 232) (by decide +kernel), rfl⟩
theorem tw_233 : (Cond.static yLF_g) ∈ lw_g := List.mem_filter.mpr ⟨List.mem_of_getElem? (i := 233) (by decide +kernel), rfl⟩
theorem tw_234 : (Cond.code yLF_g prog_4_method_6_code 1 (some FieldType.int)) ∈ lw_g := List.mem_filter.mpr ⟨List.mem_of_getElem? (i := 234) (by decide +kernel), rfl⟩
theorem tw_235 : (Cond.methodLink "RiscHart$LongForm" 21 yLF_d) ∈ lw_g := List.mem_filter.mpr ⟨List.mem_of_getElem? (i := 235) (by decide +kernel), rfl⟩
theorem tw_236 : (Cond.methodLink "RiscHart" 179 yHart_store) ∈ lw_g := List.mem_filter.mpr ⟨List.mem_of_getElem? (i := 236) (by decide +kernel), rfl⟩
theorem tw_238 : (Cond.instanceMethod yHart_store) ∈ lw_g := List.mem_filter.mpr ⟨List.mem_of_getElem? (i := 238) (by decide +kernel), rfl⟩
theorem tw_239 : (Cond.code yHart_store prog_1_method_20_code 4 (some FieldType.int)) ∈ lw_g := List.mem_filter.mpr ⟨List.mem_of_getElem? (i := 239) (by decide +kernel), rfl⟩
theorem tw_240 : (Cond.methodLink "RiscHart" 31 yMem_write) ∈ lw_g := List.mem_filter.mpr ⟨List.mem_of_getElem? (i := 240) (by decide +kernel), rfl⟩
theorem tw_241 : (Cond.instanceMethod yMem_write) ∈ lw_g := List.mem_filter.mpr ⟨List.mem_of_getElem? (i := 241) (by decide +kernel), rfl⟩
theorem tw_242 : (Cond.selects "RiscHart$Memory" yMem_write yMem_write) ∈ lw_g := List.mem_filter.mpr ⟨List.mem_of_getElem? (i := 242) (by decide +kernel), rfl⟩
theorem tw_243 : (Cond.code yMem_write prog_5_method_10_code 6 none) ∈ lw_g := List.mem_filter.mpr ⟨List.mem_of_getElem? (i := 243) (by decide +kernel), rfl⟩
theorem tw_244 : (Cond.methodLink "RiscHart$Memory" 39 yMem_maskOf) ∈ lw_g := List.mem_filter.mpr ⟨List.mem_of_getElem? (i := 244) (by decide +kernel), rfl⟩
theorem tw_245 : (Cond.static yMem_maskOf) ∈ lw_g := List.mem_filter.mpr ⟨List.mem_of_getElem? (i := 245) (by decide +kernel), rfl⟩
theorem tw_246 : (Cond.code yMem_maskOf prog_5_method_13_code 1 (some FieldType.int)) ∈ lw_g := List.mem_filter.mpr ⟨List.mem_of_getElem? (i := 246) (by decide +kernel), rfl⟩
theorem tw_247 : (Cond.methodLink "RiscHart" 136 yHart_longWithNumber) ∈ lw_g := List.mem_filter.mpr ⟨List.mem_of_getElem? (i := 247) (by decide +kernel), rfl⟩
theorem tw_249 : (Cond.instanceMethod yHart_longWithNumber) ∈ lw_g := List.mem_filter.mpr ⟨List.mem_of_getElem? (i := 249) (by decide +kernel), rfl⟩
theorem tw_250 : (Cond.code yHart_longWithNumber prog_1_method_26_code 6 (some FieldType.int)) ∈ lw_g := List.mem_filter.mpr ⟨List.mem_of_getElem? (i := 250) (by decide +kernel), rfl⟩
theorem tw_251 : (Cond.methodLink "RiscHart" 182 yLF_g) ∈ lw_g := List.mem_filter.mpr ⟨List.mem_of_getElem? (i := 251) (by decide +kernel), rfl⟩
theorem tw_252 : (Cond.methodLink "RiscHart" 185 yAr_plain) ∈ lw_g := List.mem_filter.mpr ⟨List.mem_of_getElem? (i := 252) (by decide +kernel), rfl⟩
theorem tw_253 : (Cond.static yAr_plain) ∈ lw_g := List.mem_filter.mpr ⟨List.mem_of_getElem? (i := 253) (by decide +kernel), rfl⟩
theorem tw_254 : (Cond.code yAr_plain prog_2_method_3_code 3 (some FieldType.int)) ∈ lw_g := List.mem_filter.mpr ⟨List.mem_of_getElem? (i := 254) (by decide +kernel), rfl⟩
theorem tw_255 : (Cond.methodLink "RiscHart$Arithmetic" 11 yAr_isBelow) ∈ lw_g := List.mem_filter.mpr ⟨List.mem_of_getElem? (i := 255) (by decide +kernel), rfl⟩
theorem tw_256 : (Cond.methodLink "RiscHart" 139 yHart_longWithRegisters) ∈ lw_g := List.mem_filter.mpr ⟨List.mem_of_getElem? (i := 256) (by decide +kernel), rfl⟩
theorem tw_258 : (Cond.instanceMethod yHart_longWithRegisters) ∈ lw_g := List.mem_filter.mpr ⟨List.mem_of_getElem? (i := 258) (by decide +kernel), rfl⟩
theorem tw_259 : (Cond.code yHart_longWithRegisters prog_1_method_27_code 6 (some FieldType.int)) ∈ lw_g := List.mem_filter.mpr ⟨List.mem_of_getElem? (i := 259) (by decide +kernel), rfl⟩
theorem tw_260 : (Cond.methodLink "RiscHart" 188 yAr_multipliedOrDivided) ∈ lw_g := List.mem_filter.mpr ⟨List.mem_of_getElem? (i := 260) (by decide +kernel), rfl⟩
theorem tw_261 : (Cond.static yAr_multipliedOrDivided) ∈ lw_g := List.mem_filter.mpr ⟨List.mem_of_getElem? (i := 261) (by decide +kernel), rfl⟩
theorem tw_262 : (Cond.code yAr_multipliedOrDivided prog_2_method_4_code 3 (some FieldType.int)) ∈ lw_g := List.mem_filter.mpr ⟨List.mem_of_getElem? (i := 262) (by decide +kernel), rfl⟩
theorem tw_263 : (Cond.methodLink "RiscHart$Arithmetic" 15 yAr_quotient) ∈ lw_g := List.mem_filter.mpr ⟨List.mem_of_getElem? (i := 263) (by decide +kernel), rfl⟩
theorem tw_264 : (Cond.static yAr_quotient) ∈ lw_g := List.mem_filter.mpr ⟨List.mem_of_getElem? (i := 264) (by decide +kernel), rfl⟩
theorem tw_265 : (Cond.code yAr_quotient prog_2_method_5_code 4 (some FieldType.long)) ∈ lw_g := List.mem_filter.mpr ⟨List.mem_of_getElem? (i := 265) (by decide +kernel), rfl⟩
theorem tw_266 : (Cond.constantLong "RiscHart$Arithmetic" 22 (-1)) ∈ lw_g := List.mem_filter.mpr ⟨List.mem_of_getElem? (i := 266) (by decide +kernel), rfl⟩
theorem tw_267 : (Cond.methodLink "RiscHart$Arithmetic" 19 yAr_remainder) ∈ lw_g := List.mem_filter.mpr ⟨List.mem_of_getElem? (i := 267) (by decide +kernel), rfl⟩
theorem tw_268 : (Cond.static yAr_remainder) ∈ lw_g := List.mem_filter.mpr ⟨List.mem_of_getElem? (i := 268) (by decide +kernel), rfl⟩
theorem tw_269 : (Cond.code yAr_remainder prog_2_method_6_code 4 (some FieldType.long)) ∈ lw_g := List.mem_filter.mpr ⟨List.mem_of_getElem? (i := 269) (by decide +kernel), rfl⟩
theorem tw_270 : (Cond.methodLink "RiscHart" 142 yHart_longAtomic) ∈ lw_g := List.mem_filter.mpr ⟨List.mem_of_getElem? (i := 270) (by decide +kernel), rfl⟩
theorem tw_272 : (Cond.instanceMethod yHart_longAtomic) ∈ lw_g := List.mem_filter.mpr ⟨List.mem_of_getElem? (i := 272) (by decide +kernel), rfl⟩
theorem tw_273 : (Cond.code yHart_longAtomic prog_1_method_28_code 6 (some FieldType.int)) ∈ lw_g := List.mem_filter.mpr ⟨List.mem_of_getElem? (i := 273) (by decide +kernel), rfl⟩
theorem tw_274 : (Cond.methodLink "RiscHart" 191 yLF_isAtomic) ∈ lw_g := List.mem_filter.mpr ⟨List.mem_of_getElem? (i := 274) (by decide +kernel), rfl⟩
theorem tw_275 : (Cond.static yLF_isAtomic) ∈ lw_g := List.mem_filter.mpr ⟨List.mem_of_getElem? (i := 275) (by decide +kernel), rfl⟩
theorem tw_276 : (Cond.code yLF_isAtomic prog_4_method_13_code 1 (some FieldType.boolean)) ∈ lw_g := List.mem_filter.mpr ⟨List.mem_of_getElem? (i := 276) (by decide +kernel), rfl⟩
theorem tw_277 : (Cond.methodLink "RiscHart$LongForm" 28 yLF_f) ∈ lw_g := List.mem_filter.mpr ⟨List.mem_of_getElem? (i := 277) (by decide +kernel), rfl⟩
theorem tw_278 : (Cond.methodLink "RiscHart$LongForm" 31 yLF_k) ∈ lw_g := List.mem_filter.mpr ⟨List.mem_of_getElem? (i := 278) (by decide +kernel), rfl⟩
theorem tw_279 : (Cond.static yLF_k) ∈ lw_g := List.mem_filter.mpr ⟨List.mem_of_getElem? (i := 279) (by decide +kernel), rfl⟩
theorem tw_280 : (Cond.code yLF_k prog_4_method_7_code 1 (some FieldType.int)) ∈ lw_g := List.mem_filter.mpr ⟨List.mem_of_getElem? (i := 280) (by decide +kernel), rfl⟩
theorem tw_281 : (Cond.methodLink "RiscHart$LongForm" 34 yLF_b) ∈ lw_g := List.mem_filter.mpr ⟨List.mem_of_getElem? (i := 281) (by decide +kernel), rfl⟩
theorem tw_282 : (Cond.methodLink "RiscHart" 194 yLF_k) ∈ lw_g := List.mem_filter.mpr ⟨List.mem_of_getElem? (i := 282) (by decide +kernel), rfl⟩
theorem tw_283 : (Cond.methodLink "RiscHart" 197 yHart_loadReserved) ∈ lw_g := List.mem_filter.mpr ⟨List.mem_of_getElem? (i := 283) (by decide +kernel), rfl⟩
theorem tw_285 : (Cond.instanceMethod yHart_loadReserved) ∈ lw_g := List.mem_filter.mpr ⟨List.mem_of_getElem? (i := 285) (by decide +kernel), rfl⟩
theorem tw_286 : (Cond.code yHart_loadReserved prog_1_method_29_code 3 (some FieldType.int)) ∈ lw_g := List.mem_filter.mpr ⟨List.mem_of_getElem? (i := 286) (by decide +kernel), rfl⟩
theorem tw_287 : (Cond.methodLink "RiscHart" 207 yMem_reserve) ∈ lw_g := List.mem_filter.mpr ⟨List.mem_of_getElem? (i := 287) (by decide +kernel), rfl⟩
theorem tw_288 : (Cond.instanceMethod yMem_reserve) ∈ lw_g := List.mem_filter.mpr ⟨List.mem_of_getElem? (i := 288) (by decide +kernel), rfl⟩
theorem tw_289 : (Cond.selects "RiscHart$Memory" yMem_reserve yMem_reserve) ∈ lw_g := List.mem_filter.mpr ⟨List.mem_of_getElem? (i := 289) (by decide +kernel), rfl⟩
theorem tw_290 : (Cond.code yMem_reserve prog_5_method_8_code 2 none) ∈ lw_g := List.mem_filter.mpr ⟨List.mem_of_getElem? (i := 290) (by decide +kernel), rfl⟩
theorem tw_291 : (Cond.methodLink "RiscHart" 200 yHart_storeConditional) ∈ lw_g := List.mem_filter.mpr ⟨List.mem_of_getElem? (i := 291) (by decide +kernel), rfl⟩
theorem tw_293 : (Cond.instanceMethod yHart_storeConditional) ∈ lw_g := List.mem_filter.mpr ⟨List.mem_of_getElem? (i := 293) (by decide +kernel), rfl⟩
theorem tw_294 : (Cond.code yHart_storeConditional prog_1_method_30_code 5 (some FieldType.int)) ∈ lw_g := List.mem_filter.mpr ⟨List.mem_of_getElem? (i := 294) (by decide +kernel), rfl⟩
theorem tw_295 : (Cond.methodLink "RiscHart" 83 yMem_reservedAddress) ∈ lw_g := List.mem_filter.mpr ⟨List.mem_of_getElem? (i := 295) (by decide +kernel), rfl⟩
theorem tw_296 : (Cond.instanceMethod yMem_reservedAddress) ∈ lw_g := List.mem_filter.mpr ⟨List.mem_of_getElem? (i := 296) (by decide +kernel), rfl⟩
theorem tw_297 : (Cond.selects "RiscHart$Memory" yMem_reservedAddress yMem_reservedAddress) ∈ lw_g := List.mem_filter.mpr ⟨List.mem_of_getElem? (i := 297) (by decide +kernel), rfl⟩
theorem tw_298 : (Cond.code yMem_reservedAddress prog_5_method_7_code 1 (some FieldType.int)) ∈ lw_g := List.mem_filter.mpr ⟨List.mem_of_getElem? (i := 298) (by decide +kernel), rfl⟩
theorem tw_299 : (Cond.methodLink "RiscHart" 203 yHart_change) ∈ lw_g := List.mem_filter.mpr ⟨List.mem_of_getElem? (i := 299) (by decide +kernel), rfl⟩
theorem tw_301 : (Cond.instanceMethod yHart_change) ∈ lw_g := List.mem_filter.mpr ⟨List.mem_of_getElem? (i := 301) (by decide +kernel), rfl⟩
theorem tw_302 : (Cond.code yHart_change prog_1_method_31_code 6 (some FieldType.int)) ∈ lw_g := List.mem_filter.mpr ⟨List.mem_of_getElem? (i := 302) (by decide +kernel), rfl⟩
theorem tw_303 : (Cond.methodLink "RiscHart" 211 yAr_changed) ∈ lw_g := List.mem_filter.mpr ⟨List.mem_of_getElem? (i := 303) (by decide +kernel), rfl⟩
theorem tw_304 : (Cond.static yAr_changed) ∈ lw_g := List.mem_filter.mpr ⟨List.mem_of_getElem? (i := 304) (by decide +kernel), rfl⟩
theorem tw_305 : (Cond.code yAr_changed prog_2_method_8_code 3 (some FieldType.int)) ∈ lw_g := List.mem_filter.mpr ⟨List.mem_of_getElem? (i := 305) (by decide +kernel), rfl⟩
theorem tw_306 : (Cond.methodLink "RiscHart" 148 yHart_longSystem) ∈ lw_g := List.mem_filter.mpr ⟨List.mem_of_getElem? (i := 306) (by decide +kernel), rfl⟩
theorem tw_308 : (Cond.instanceMethod yHart_longSystem) ∈ lw_g := List.mem_filter.mpr ⟨List.mem_of_getElem? (i := 308) (by decide +kernel), rfl⟩
theorem tw_309 : (Cond.code yHart_longSystem prog_1_method_32_code 3 (some FieldType.int)) ∈ lw_g := List.mem_filter.mpr ⟨List.mem_of_getElem? (i := 309) (by decide +kernel), rfl⟩
theorem tw_310 : (Cond.constant "RiscHart" 214 1048691) ∈ lw_g := List.mem_filter.mpr ⟨List.mem_of_getElem? (i := 310) (by decide +kernel), rfl⟩
theorem tw_311 : (Cond.methodLink "RiscHart" 215 yHart_readCounter) ∈ lw_g := List.mem_filter.mpr ⟨List.mem_of_getElem? (i := 311) (by decide +kernel), rfl⟩
theorem tw_313 : (Cond.instanceMethod yHart_readCounter) ∈ lw_g := List.mem_filter.mpr ⟨List.mem_of_getElem? (i := 313) (by decide +kernel), rfl⟩
theorem tw_314 : (Cond.code yHart_readCounter prog_1_method_33_code 3 (some FieldType.int)) ∈ lw_g := List.mem_filter.mpr ⟨List.mem_of_getElem? (i := 314) (by decide +kernel), rfl⟩
theorem tw_315 : (Cond.methodLink "RiscHart" 104 yHart_carryOutShort) ∈ lw_g := List.mem_filter.mpr ⟨List.mem_of_getElem? (i := 315) (by decide +kernel), rfl⟩
theorem tw_317 : (Cond.instanceMethod yHart_carryOutShort) ∈ lw_g := List.mem_filter.mpr ⟨List.mem_of_getElem? (i := 317) (by decide +kernel), rfl⟩
theorem tw_318 : (Cond.code yHart_carryOutShort prog_1_method_34_code 2 (some FieldType.int)) ∈ lw_g := List.mem_filter.mpr ⟨List.mem_of_getElem? (i := 318) (by decide +kernel), rfl⟩
theorem tw_319 : (Cond.methodLink "RiscHart" 218 yHart_shortOfQ0) ∈ lw_g := List.mem_filter.mpr ⟨List.mem_of_getElem? (i := 319) (by decide +kernel), rfl⟩
theorem tw_321 : (Cond.instanceMethod yHart_shortOfQ0) ∈ lw_g := List.mem_filter.mpr ⟨List.mem_of_getElem? (i := 321) (by decide +kernel), rfl⟩
theorem tw_322 : (Cond.code yHart_shortOfQ0 prog_1_method_35_code 5 (some FieldType.int)) ∈ lw_g := List.mem_filter.mpr ⟨List.mem_of_getElem? (i := 322) (by decide +kernel), rfl⟩
theorem tw_323 : (Cond.methodLink "RiscHart" 227 ySF_lowNear) ∈ lw_g := List.mem_filter.mpr ⟨List.mem_of_getElem? (i := 323) (by decide +kernel), rfl⟩
theorem tw_324 : (Cond.static ySF_lowNear) ∈ lw_g := List.mem_filter.mpr ⟨List.mem_of_getElem? (i := 324) (by decide +kernel), rfl⟩
theorem tw_325 : (Cond.code ySF_lowNear prog_6_method_6_code 1 (some FieldType.int)) ∈ lw_g := List.mem_filter.mpr ⟨List.mem_of_getElem? (i := 325) (by decide +kernel), rfl⟩
theorem tw_326 : (Cond.methodLink "RiscHart$ShortForm" 7 yBits_part) ∈ lw_g := List.mem_filter.mpr ⟨List.mem_of_getElem? (i := 326) (by decide +kernel), rfl⟩
theorem tw_327 : (Cond.methodLink "RiscHart" 232 ySF_highNear) ∈ lw_g := List.mem_filter.mpr ⟨List.mem_of_getElem? (i := 327) (by decide +kernel), rfl⟩
theorem tw_328 : (Cond.static ySF_highNear) ∈ lw_g := List.mem_filter.mpr ⟨List.mem_of_getElem? (i := 328) (by decide +kernel), rfl⟩
theorem tw_329 : (Cond.code ySF_highNear prog_6_method_7_code 1 (some FieldType.int)) ∈ lw_g := List.mem_filter.mpr ⟨List.mem_of_getElem? (i := 329) (by decide +kernel), rfl⟩
theorem tw_330 : (Cond.methodLink "RiscHart" 235 ySF_nearOffset) ∈ lw_g := List.mem_filter.mpr ⟨List.mem_of_getElem? (i := 330) (by decide +kernel), rfl⟩
theorem tw_331 : (Cond.static ySF_nearOffset) ∈ lw_g := List.mem_filter.mpr ⟨List.mem_of_getElem? (i := 331) (by decide +kernel), rfl⟩
theorem tw_332 : (Cond.code ySF_nearOffset prog_6_method_10_code 1 (some FieldType.int)) ∈ lw_g := List.mem_filter.mpr ⟨List.mem_of_getElem? (i := 332) (by decide +kernel), rfl⟩
theorem tw_333 : (Cond.methodLink "RiscHart" 238 ySF_f) ∈ lw_g := List.mem_filter.mpr ⟨List.mem_of_getElem? (i := 333) (by decide +kernel), rfl⟩
theorem tw_334 : (Cond.static ySF_f) ∈ lw_g := List.mem_filter.mpr ⟨List.mem_of_getElem? (i := 334) (by decide +kernel), rfl⟩
theorem tw_335 : (Cond.code ySF_f prog_6_method_2_code 1 (some FieldType.int)) ∈ lw_g := List.mem_filter.mpr ⟨List.mem_of_getElem? (i := 335) (by decide +kernel), rfl⟩
theorem tw_336 : (Cond.methodLink "RiscHart" 239 ySF_stackNumber) ∈ lw_g := List.mem_filter.mpr ⟨List.mem_of_getElem? (i := 336) (by decide +kernel), rfl⟩
theorem tw_337 : (Cond.static ySF_stackNumber) ∈ lw_g := List.mem_filter.mpr ⟨List.mem_of_getElem? (i := 337) (by decide +kernel), rfl⟩
theorem tw_338 : (Cond.code ySF_stackNumber prog_6_method_9_code 1 (some FieldType.int)) ∈ lw_g := List.mem_filter.mpr ⟨List.mem_of_getElem? (i := 338) (by decide +kernel), rfl⟩
theorem tw_339 : (Cond.methodLink "RiscHart" 221 yHart_shortOfQ1) ∈ lw_g := List.mem_filter.mpr ⟨List.mem_of_getElem? (i := 339) (by decide +kernel), rfl⟩
theorem tw_341 : (Cond.instanceMethod yHart_shortOfQ1) ∈ lw_g := List.mem_filter.mpr ⟨List.mem_of_getElem? (i := 341) (by decide +kernel), rfl⟩
theorem tw_342 : (Cond.code yHart_shortOfQ1 prog_1_method_36_code 4 (some FieldType.int)) ∈ lw_g := List.mem_filter.mpr ⟨List.mem_of_getElem? (i := 342) (by decide +kernel), rfl⟩
theorem tw_343 : (Cond.methodLink "RiscHart" 242 ySF_d) ∈ lw_g := List.mem_filter.mpr ⟨List.mem_of_getElem? (i := 343) (by decide +kernel), rfl⟩
theorem tw_344 : (Cond.static ySF_d) ∈ lw_g := List.mem_filter.mpr ⟨List.mem_of_getElem? (i := 344) (by decide +kernel), rfl⟩
theorem tw_345 : (Cond.code ySF_d prog_6_method_4_code 1 (some FieldType.int)) ∈ lw_g := List.mem_filter.mpr ⟨List.mem_of_getElem? (i := 345) (by decide +kernel), rfl⟩
theorem tw_346 : (Cond.methodLink "RiscHart" 243 ySF_number) ∈ lw_g := List.mem_filter.mpr ⟨List.mem_of_getElem? (i := 346) (by decide +kernel), rfl⟩
theorem tw_347 : (Cond.static ySF_number) ∈ lw_g := List.mem_filter.mpr ⟨List.mem_of_getElem? (i := 347) (by decide +kernel), rfl⟩
theorem tw_348 : (Cond.code ySF_number prog_6_method_8_code 1 (some FieldType.int)) ∈ lw_g := List.mem_filter.mpr ⟨List.mem_of_getElem? (i := 348) (by decide +kernel), rfl⟩
theorem tw_349 : (Cond.methodLink "RiscHart$ShortForm" 13 yBits_signed) ∈ lw_g := List.mem_filter.mpr ⟨List.mem_of_getElem? (i := 349) (by decide +kernel), rfl⟩
theorem tw_350 : (Cond.methodLink "RiscHart" 246 ySF_offsetJ) ∈ lw_g := List.mem_filter.mpr ⟨List.mem_of_getElem? (i := 350) (by decide +kernel), rfl⟩
theorem tw_351 : (Cond.static ySF_offsetJ) ∈ lw_g := List.mem_filter.mpr ⟨List.mem_of_getElem? (i := 351) (by decide +kernel), rfl⟩
theorem tw_352 : (Cond.code ySF_offsetJ prog_6_method_11_code 2 (some FieldType.int)) ∈ lw_g := List.mem_filter.mpr ⟨List.mem_of_getElem? (i := 352) (by decide +kernel), rfl⟩
theorem tw_353 : (Cond.methodLink "RiscHart" 247 yHart_shortMoveStack) ∈ lw_g := List.mem_filter.mpr ⟨List.mem_of_getElem? (i := 353) (by decide +kernel), rfl⟩
theorem tw_355 : (Cond.instanceMethod yHart_shortMoveStack) ∈ lw_g := List.mem_filter.mpr ⟨List.mem_of_getElem? (i := 355) (by decide +kernel), rfl⟩
theorem tw_356 : (Cond.code yHart_shortMoveStack prog_1_method_37_code 3 (some FieldType.int)) ∈ lw_g := List.mem_filter.mpr ⟨List.mem_of_getElem? (i := 356) (by decide +kernel), rfl⟩
theorem tw_357 : (Cond.methodLink "RiscHart" 257 ySF_stackMove) ∈ lw_g := List.mem_filter.mpr ⟨List.mem_of_getElem? (i := 357) (by decide +kernel), rfl⟩
theorem tw_358 : (Cond.static ySF_stackMove) ∈ lw_g := List.mem_filter.mpr ⟨List.mem_of_getElem? (i := 358) (by decide +kernel), rfl⟩
theorem tw_359 : (Cond.code ySF_stackMove prog_6_method_12_code 2 (some FieldType.int)) ∈ lw_g := List.mem_filter.mpr ⟨List.mem_of_getElem? (i := 359) (by decide +kernel), rfl⟩
theorem tw_360 : (Cond.methodLink "RiscHart" 250 yHart_shortUpperNumber) ∈ lw_g := List.mem_filter.mpr ⟨List.mem_of_getElem? (i := 360) (by decide +kernel), rfl⟩
theorem tw_362 : (Cond.instanceMethod yHart_shortUpperNumber) ∈ lw_g := List.mem_filter.mpr ⟨List.mem_of_getElem? (i := 362) (by decide +kernel), rfl⟩
theorem tw_363 : (Cond.code yHart_shortUpperNumber prog_1_method_38_code 3 (some FieldType.int)) ∈ lw_g := List.mem_filter.mpr ⟨List.mem_of_getElem? (i := 363) (by decide +kernel), rfl⟩
theorem tw_364 : (Cond.methodLink "RiscHart" 253 yHart_shortArithmetic) ∈ lw_g := List.mem_filter.mpr ⟨List.mem_of_getElem? (i := 364) (by decide +kernel), rfl⟩
theorem tw_366 : (Cond.instanceMethod yHart_shortArithmetic) ∈ lw_g := List.mem_filter.mpr ⟨List.mem_of_getElem? (i := 366) (by decide +kernel), rfl⟩
theorem tw_367 : (Cond.code yHart_shortArithmetic prog_1_method_39_code 6 (some FieldType.int)) ∈ lw_g := List.mem_filter.mpr ⟨List.mem_of_getElem? (i := 367) (by decide +kernel), rfl⟩
theorem tw_368 : (Cond.methodLink "RiscHart" 260 yBits_part) ∈ lw_g := List.mem_filter.mpr ⟨List.mem_of_getElem? (i := 368) (by decide +kernel), rfl⟩
theorem tw_369 : (Cond.methodLink "RiscHart" 265 ySF_bit12) ∈ lw_g := List.mem_filter.mpr ⟨List.mem_of_getElem? (i := 369) (by decide +kernel), rfl⟩
theorem tw_370 : (Cond.static ySF_bit12) ∈ lw_g := List.mem_filter.mpr ⟨List.mem_of_getElem? (i := 370) (by decide +kernel), rfl⟩
theorem tw_371 : (Cond.code ySF_bit12 prog_6_method_3_code 1 (some FieldType.boolean)) ∈ lw_g := List.mem_filter.mpr ⟨List.mem_of_getElem? (i := 371) (by decide +kernel), rfl⟩
theorem tw_372 : (Cond.methodLink "RiscHart" 268 ySF_b) ∈ lw_g := List.mem_filter.mpr ⟨List.mem_of_getElem? (i := 372) (by decide +kernel), rfl⟩
theorem tw_373 : (Cond.static ySF_b) ∈ lw_g := List.mem_filter.mpr ⟨List.mem_of_getElem? (i := 373) (by decide +kernel), rfl⟩
theorem tw_374 : (Cond.code ySF_b prog_6_method_5_code 1 (some FieldType.int)) ∈ lw_g := List.mem_filter.mpr ⟨List.mem_of_getElem? (i := 374) (by decide +kernel), rfl⟩
theorem tw_375 : (Cond.methodLink "RiscHart" 269 yAr_ofTwoNear) ∈ lw_g := List.mem_filter.mpr ⟨List.mem_of_getElem? (i := 375) (by decide +kernel), rfl⟩
theorem tw_376 : (Cond.static yAr_ofTwoNear) ∈ lw_g := List.mem_filter.mpr ⟨List.mem_of_getElem? (i := 376) (by decide +kernel), rfl⟩
theorem tw_377 : (Cond.code yAr_ofTwoNear prog_2_method_7_code 3 (some FieldType.int)) ∈ lw_g := List.mem_filter.mpr ⟨List.mem_of_getElem? (i := 377) (by decide +kernel), rfl⟩
theorem tw_378 : (Cond.methodLink "RiscHart" 256 ySF_offsetT) ∈ lw_g := List.mem_filter.mpr ⟨List.mem_of_getElem? (i := 378) (by decide +kernel), rfl⟩
theorem tw_379 : (Cond.static ySF_offsetT) ∈ lw_g := List.mem_filter.mpr ⟨List.mem_of_getElem? (i := 379) (by decide +kernel), rfl⟩
theorem tw_380 : (Cond.code ySF_offsetT prog_6_method_13_code 2 (some FieldType.int)) ∈ lw_g := List.mem_filter.mpr ⟨List.mem_of_getElem? (i := 380) (by decide +kernel), rfl⟩
theorem tw_381 : (Cond.methodLink "RiscHart" 224 yHart_shortOfQ2) ∈ lw_g := List.mem_filter.mpr ⟨List.mem_of_getElem? (i := 381) (by decide +kernel), rfl⟩
theorem tw_383 : (Cond.instanceMethod yHart_shortOfQ2) ∈ lw_g := List.mem_filter.mpr ⟨List.mem_of_getElem? (i := 383) (by decide +kernel), rfl⟩
theorem tw_384 : (Cond.code yHart_shortOfQ2 prog_1_method_40_code 4 (some FieldType.int)) ∈ lw_g := List.mem_filter.mpr ⟨List.mem_of_getElem? (i := 384) (by decide +kernel), rfl⟩
theorem tw_385 : (Cond.methodLink "RiscHart" 272 ySF_stackLoadOffset) ∈ lw_g := List.mem_filter.mpr ⟨List.mem_of_getElem? (i := 385) (by decide +kernel), rfl⟩
theorem tw_386 : (Cond.static ySF_stackLoadOffset) ∈ lw_g := List.mem_filter.mpr ⟨List.mem_of_getElem? (i := 386) (by decide +kernel), rfl⟩
theorem tw_387 : (Cond.code ySF_stackLoadOffset prog_6_method_14_code 1 (some FieldType.int)) ∈ lw_g := List.mem_filter.mpr ⟨List.mem_of_getElem? (i := 387) (by decide +kernel), rfl⟩
theorem tw_388 : (Cond.methodLink "RiscHart" 275 yHart_shortJumpToRegister) ∈ lw_g := List.mem_filter.mpr ⟨List.mem_of_getElem? (i := 388) (by decide +kernel), rfl⟩
theorem tw_390 : (Cond.instanceMethod yHart_shortJumpToRegister) ∈ lw_g := List.mem_filter.mpr ⟨List.mem_of_getElem? (i := 390) (by decide +kernel), rfl⟩
theorem tw_391 : (Cond.code yHart_shortJumpToRegister prog_1_method_41_code 4 (some FieldType.int)) ∈ lw_g := List.mem_filter.mpr ⟨List.mem_of_getElem? (i := 391) (by decide +kernel), rfl⟩
theorem tw_392 : (Cond.methodLink "RiscHart" 278 yHart_shortMoveOrAdd) ∈ lw_g := List.mem_filter.mpr ⟨List.mem_of_getElem? (i := 392) (by decide +kernel), rfl⟩
theorem tw_394 : (Cond.instanceMethod yHart_shortMoveOrAdd) ∈ lw_g := List.mem_filter.mpr ⟨List.mem_of_getElem? (i := 394) (by decide +kernel), rfl⟩
theorem tw_395 : (Cond.code yHart_shortMoveOrAdd prog_1_method_42_code 4 (some FieldType.int)) ∈ lw_g := List.mem_filter.mpr ⟨List.mem_of_getElem? (i := 395) (by decide +kernel), rfl⟩
theorem tw_396 : (Cond.methodLink "RiscHart" 281 ySF_stackStoreOffset) ∈ lw_g := List.mem_filter.mpr ⟨List.mem_of_getElem? (i := 396) (by decide +kernel), rfl⟩
theorem tw_397 : (Cond.static ySF_stackStoreOffset) ∈ lw_g := List.mem_filter.mpr ⟨List.mem_of_getElem? (i := 397) (by decide +kernel), rfl⟩
theorem tw_398 : (Cond.code ySF_stackStoreOffset prog_6_method_15_code 1 (some FieldType.int)) ∈ lw_g := List.mem_filter.mpr ⟨List.mem_of_getElem? (i := 398) (by decide +kernel), rfl⟩
end
section
/-- what a hart holds -/
abbrev HS : Type := (Nat → Int32) × (Nat → Int32) × (Nat → Int32) × Int32 × Int32 × Int32 × Int32 × Int32 × Int64 × Int64
def hs_regs (z : HS) : Nat → Int32 := z.1
def hs_words (z : HS) : Nat → Int32 := z.2.1
def hs_rights (z : HS) : Nat → Int32 := z.2.2.1
def hs_reserved (z : HS) : Int32 := z.2.2.2.1
def hs_place (z : HS) : Int32 := z.2.2.2.2.1
def hs_behind (z : HS) : Int32 := z.2.2.2.2.2.1
def hs_cause (z : HS) : Int32 := z.2.2.2.2.2.2.1
def hs_value (z : HS) : Int32 := z.2.2.2.2.2.2.2.1
def hs_retired (z : HS) : Int64 := z.2.2.2.2.2.2.2.2.1
def hs_time (z : HS) : Int64 := z.2.2.2.2.2.2.2.2.2
def hs_set_reserved (z : HS) (v : Int32) : HS := (z.1, z.2.1, z.2.2.1, v, z.2.2.2.2.1, z.2.2.2.2.2.1, z.2.2.2.2.2.2.1, z.2.2.2.2.2.2.2.1, z.2.2.2.2.2.2.2.2.1, z.2.2.2.2.2.2.2.2.2)
def hs_set_place (z : HS) (v : Int32) : HS := (z.1, z.2.1, z.2.2.1, z.2.2.2.1, v, z.2.2.2.2.2.1, z.2.2.2.2.2.2.1, z.2.2.2.2.2.2.2.1, z.2.2.2.2.2.2.2.2.1, z.2.2.2.2.2.2.2.2.2)
def hs_set_behind (z : HS) (v : Int32) : HS := (z.1, z.2.1, z.2.2.1, z.2.2.2.1, z.2.2.2.2.1, v, z.2.2.2.2.2.2.1, z.2.2.2.2.2.2.2.1, z.2.2.2.2.2.2.2.2.1, z.2.2.2.2.2.2.2.2.2)
def hs_set_cause (z : HS) (v : Int32) : HS := (z.1, z.2.1, z.2.2.1, z.2.2.2.1, z.2.2.2.2.1, z.2.2.2.2.2.1, v, z.2.2.2.2.2.2.2.1, z.2.2.2.2.2.2.2.2.1, z.2.2.2.2.2.2.2.2.2)
def hs_set_value (z : HS) (v : Int32) : HS := (z.1, z.2.1, z.2.2.1, z.2.2.2.1, z.2.2.2.2.1, z.2.2.2.2.2.1, z.2.2.2.2.2.2.1, v, z.2.2.2.2.2.2.2.2.1, z.2.2.2.2.2.2.2.2.2)
def hs_set_retired (z : HS) (v : Int64) : HS := (z.1, z.2.1, z.2.2.1, z.2.2.2.1, z.2.2.2.2.1, z.2.2.2.2.2.1, z.2.2.2.2.2.2.1, z.2.2.2.2.2.2.2.1, v, z.2.2.2.2.2.2.2.2.2)
def hs_set_time (z : HS) (v : Int64) : HS := (z.1, z.2.1, z.2.2.1, z.2.2.2.1, z.2.2.2.2.1, z.2.2.2.2.2.1, z.2.2.2.2.2.2.1, z.2.2.2.2.2.2.2.1, z.2.2.2.2.2.2.2.2.1, v)
def hs_set_reg (z : HS) (i v : Int32) : HS := ((upd z.1 i.toNatClampNeg v), z.2.1, z.2.2.1, z.2.2.2.1, z.2.2.2.2.1, z.2.2.2.2.2.1, z.2.2.2.2.2.2.1, z.2.2.2.2.2.2.2.1, z.2.2.2.2.2.2.2.2.1, z.2.2.2.2.2.2.2.2.2)
def hs_set_word (z : HS) (i v : Int32) : HS := (z.1, (upd z.2.1 i.toNatClampNeg v), z.2.2.1, z.2.2.2.1, z.2.2.2.2.1, z.2.2.2.2.2.1, z.2.2.2.2.2.2.1, z.2.2.2.2.2.2.2.1, z.2.2.2.2.2.2.2.2.1, z.2.2.2.2.2.2.2.2.2)
def hs_set_right (z : HS) (i v : Int32) : HS := (z.1, z.2.1, (upd z.2.2.1 i.toNatClampNeg v), z.2.2.2.1, z.2.2.2.2.1, z.2.2.2.2.2.1, z.2.2.2.2.2.2.1, z.2.2.2.2.2.2.2.1, z.2.2.2.2.2.2.2.2.1, z.2.2.2.2.2.2.2.2.2)
abbrev hs_W (cR cW cP : ClassId) (h0 h1 h2 h3 h4 : Nat) (z : HS) : va_W := [(h0, .inr (0, [.ref h1, .ref h2, .int (hs_place z), .int (hs_behind z), .int (hs_cause z), .int (hs_value z), .long (hs_retired z), .long (hs_time z)])), (h1, .inr (1, [.ref h3, .ref h4, .int (hs_reserved z)])), (h2, .inl (cR, 32, .inl (hs_regs z))), (h3, .inl (cW, 16384, .inl (hs_words z))), (h4, .inl (cP, 64, .inl (hs_rights z)))]
def hf_Memory_holds (a1 : Int32) : Int32 :=
  if a1 < 0 then
    0
  else
    if 65535 < a1 then
      0
    else
      1
def hf_Memory_wordIndex (a1 : Int32) : Int32 :=
  (ja_ushr (a1 &&& 65535) 2)
def hf_Memory_maskOf (a1 : Int32) : Int32 :=
  if a1 = 0 then
    255
  else
    if a1 = 1 then
      65535
    else
      (-1)
def hf_Memory_shiftOf (a1 : Int32) : Int32 :=
  ((a1 &&& 3) <<< (3 &&& 31))
def hf_Memory_write (st : HS) (a1 : Int32) (a2 : Int32) (a3 : Int32) : HS :=
  if (hs_reserved (hs_set_word st (hf_Memory_wordIndex a2) (((hs_words st ((hf_Memory_wordIndex a2)).toNatClampNeg) &&& (((hf_Memory_maskOf a1) <<< ((hf_Memory_shiftOf a2) &&& 31)) ^^^ (-1))) ||| ((a3 <<< ((hf_Memory_shiftOf a2) &&& 31)) &&& ((hf_Memory_maskOf a1) <<< ((hf_Memory_shiftOf a2) &&& 31)))))) = (a2 &&& (-4)) then
    (hs_set_reserved (hs_set_word st (hf_Memory_wordIndex a2) (((hs_words st ((hf_Memory_wordIndex a2)).toNatClampNeg) &&& (((hf_Memory_maskOf a1) <<< ((hf_Memory_shiftOf a2) &&& 31)) ^^^ (-1))) ||| ((a3 <<< ((hf_Memory_shiftOf a2) &&& 31)) &&& ((hf_Memory_maskOf a1) <<< ((hf_Memory_shiftOf a2) &&& 31))))) (-1))
  else
    (hs_set_word st (hf_Memory_wordIndex a2) (((hs_words st ((hf_Memory_wordIndex a2)).toNatClampNeg) &&& (((hf_Memory_maskOf a1) <<< ((hf_Memory_shiftOf a2) &&& 31)) ^^^ (-1))) ||| ((a3 <<< ((hf_Memory_shiftOf a2) &&& 31)) &&& ((hf_Memory_maskOf a1) <<< ((hf_Memory_shiftOf a2) &&& 31)))))
def hf_Memory_isMisaligned (a1 : Int32) (a2 : Int32) : Int32 :=
  if (a2 &&& (((1 : Int32) <<< ((a1 &&& 3) &&& 31)) - 1)) = 0 then
    0
  else
    1
def hf_Memory_read (st : HS) (a1 : Int32) (a2 : Int32) : Int32 :=
  if a1 = 0 then
    (ja_ushr (hs_words st ((hf_Memory_wordIndex a2)).toNatClampNeg) (hf_Memory_shiftOf a2)).toInt8.toInt32
  else
    if a1 = 1 then
      (ja_ushr (hs_words st ((hf_Memory_wordIndex a2)).toNatClampNeg) (hf_Memory_shiftOf a2)).toInt16.toInt32
    else
      if a1 = 2 then
        (hs_words st ((hf_Memory_wordIndex a2)).toNatClampNeg)
      else
        if a1 = 3 then
          (hs_words st ((hf_Memory_wordIndex a2)).toNatClampNeg)
        else
          if a1 = 4 then
            ((ja_ushr (hs_words st ((hf_Memory_wordIndex a2)).toNatClampNeg) (hf_Memory_shiftOf a2)) &&& 255)
          else
            if a1 = 5 then
              ((ja_ushr (hs_words st ((hf_Memory_wordIndex a2)).toNatClampNeg) (hf_Memory_shiftOf a2)) &&& 65535)
            else
              (hs_words st ((hf_Memory_wordIndex a2)).toNatClampNeg)
def hf_Memory_exchangeRights (st : HS) (a1 : Int32) (a2 : Int32) : Int32 × HS :=
  ((hs_rights st (a1).toNatClampNeg), (hs_set_right st a1 a2))
def hf_RiscHart_give (st : HS) (a1 : Int32) (a2 : Int32) : Int32 × HS :=
  if a1 = 0 then
    (0, st)
  else
    (0, (hs_set_reg st a1 a2))
def hf_RiscHart_jump (st : HS) (a1 : Int32) : HS :=
  (hs_set_place st a1)
def hf_RiscHart_clock (st : HS) (a1 : Int64) : HS :=
  (hs_set_time st a1)
def hf_Memory_allows (st : HS) (a1 : Int32) (a2 : Int32) : Int32 :=
  if (hf_Memory_holds a2) = 0 then
    0
  else
    if ((hs_rights st ((ja_ushr a2 10)).toNatClampNeg) &&& a1) = 0 then
      0
    else
      1
def hf_Memory_mayCarryOut (st : HS) (a1 : Int32) : Int32 :=
  if (hf_Memory_isMisaligned 1 a1) = 0 then
    if (hf_Memory_allows st 4 a1) = 0 then
      0
    else
      1
  else
    0
def hf_RiscHart_trap (st : HS) (a1 : Int32) (a2 : Int32) : Int32 × HS :=
  (a1, (hs_set_value (hs_set_cause st a1) a2))
def hf_RiscHart_longFrom (st : HS) (a1 : Int32) : Int32 :=
  (((hf_Memory_read st 5 ((hs_place st) + 2)) <<< (16 &&& 31)) ||| a1)
def hf_Bits_part (a1 : Int32) (a2 : Int32) (a3 : Int32) : Int32 :=
  ((ja_ushr a1 a2) &&& (((1 : Int32) <<< (a3 &&& 31)) - 1))
def hf_LongForm_d (a1 : Int32) : Int32 :=
  (hf_Bits_part a1 7 5)
def hf_LongForm_upperNumber (a1 : Int32) : Int32 :=
  (a1 &&& (-4096))
def hf_Bits_signed (a1 : Int32) (a2 : Int32) : Int32 :=
  ((a1 <<< ((32 - a2) &&& 31)) >>> ((32 - a2) &&& 31))
def hf_LongForm_offsetJ (a1 : Int32) : Int32 :=
  (hf_Bits_signed (((((hf_Bits_part a1 31 1) <<< (20 &&& 31)) ||| ((hf_Bits_part a1 12 8) <<< (12 &&& 31))) ||| ((hf_Bits_part a1 20 1) <<< (11 &&& 31))) ||| ((hf_Bits_part a1 21 10) <<< (1 &&& 31))) 21)
def hf_RiscHart_linkAndJump (st : HS) (a1 : Int32) (a2 : Int32) : Int32 × HS :=
  (hf_RiscHart_give (hs_set_behind st (a2 &&& (-2))) a1 (hs_behind st))
def hf_LongForm_f (a1 : Int32) : Int32 :=
  (hf_Bits_part a1 12 3)
def hf_LongForm_a (a1 : Int32) : Int32 :=
  (hf_Bits_part a1 15 5)
def hf_LongForm_numberI (a1 : Int32) : Int32 :=
  (a1 >>> (20 &&& 31))
def hf_RiscHart_longJumpToRegister (st : HS) (a1 : Int32) : Int32 × HS :=
  if (hf_LongForm_f a1) = 0 then
    (hf_RiscHart_linkAndJump st (hf_LongForm_d a1) ((hs_regs st ((hf_LongForm_a a1)).toNatClampNeg) + (hf_LongForm_numberI a1)))
  else
    (hf_RiscHart_trap st 2 a1)
def hf_LongForm_b (a1 : Int32) : Int32 :=
  (hf_Bits_part a1 20 5)
def hf_LongForm_offsetT (a1 : Int32) : Int32 :=
  (hf_Bits_signed (((((hf_Bits_part a1 31 1) <<< (12 &&& 31)) ||| ((hf_Bits_part a1 7 1) <<< (11 &&& 31))) ||| ((hf_Bits_part a1 25 6) <<< (5 &&& 31))) ||| ((hf_Bits_part a1 8 4) <<< (1 &&& 31))) 13)
def hf_RiscHart_jumpIf (st : HS) (a1 : Int32) (a2 : Int32) : Int32 × HS :=
  if a1 = 0 then
    (0, st)
  else
    (hf_RiscHart_linkAndJump st 0 a2)
def hf_Arithmetic_isBelow (a1 : Int32) (a2 : Int32) : Int32 :=
  if 0 ≤ (lg_cmp (a1.toInt64 &&& 4294967295) (a2.toInt64 &&& 4294967295)) then
    0
  else
    1
def hf_RiscHart_longBranch (st : HS) (a1 : Int32) : Int32 × HS :=
  if (hf_LongForm_f a1) = 0 then
    if (hs_regs st ((hf_LongForm_a a1)).toNatClampNeg) = (hs_regs st ((hf_LongForm_b a1)).toNatClampNeg) then
      (hf_RiscHart_jumpIf st 1 ((hs_place st) + (hf_LongForm_offsetT a1)))
    else
      (hf_RiscHart_jumpIf st 0 ((hs_place st) + (hf_LongForm_offsetT a1)))
  else
    if (hf_LongForm_f a1) = 1 then
      if (hs_regs st ((hf_LongForm_a a1)).toNatClampNeg) = (hs_regs st ((hf_LongForm_b a1)).toNatClampNeg) then
        (hf_RiscHart_jumpIf st 0 ((hs_place st) + (hf_LongForm_offsetT a1)))
      else
        (hf_RiscHart_jumpIf st 1 ((hs_place st) + (hf_LongForm_offsetT a1)))
    else
      if (hf_LongForm_f a1) = 2 then
        (hf_RiscHart_trap st 2 a1)
      else
        if (hf_LongForm_f a1) = 3 then
          (hf_RiscHart_trap st 2 a1)
        else
          if (hf_LongForm_f a1) = 4 then
            if (hs_regs st ((hf_LongForm_b a1)).toNatClampNeg) ≤ (hs_regs st ((hf_LongForm_a a1)).toNatClampNeg) then
              (hf_RiscHart_jumpIf st 0 ((hs_place st) + (hf_LongForm_offsetT a1)))
            else
              (hf_RiscHart_jumpIf st 1 ((hs_place st) + (hf_LongForm_offsetT a1)))
          else
            if (hf_LongForm_f a1) = 5 then
              if (hs_regs st ((hf_LongForm_a a1)).toNatClampNeg) < (hs_regs st ((hf_LongForm_b a1)).toNatClampNeg) then
                (hf_RiscHart_jumpIf st 0 ((hs_place st) + (hf_LongForm_offsetT a1)))
              else
                (hf_RiscHart_jumpIf st 1 ((hs_place st) + (hf_LongForm_offsetT a1)))
            else
              if (hf_LongForm_f a1) = 6 then
                (hf_RiscHart_jumpIf st (hf_Arithmetic_isBelow (hs_regs st ((hf_LongForm_a a1)).toNatClampNeg) (hs_regs st ((hf_LongForm_b a1)).toNatClampNeg)) ((hs_place st) + (hf_LongForm_offsetT a1)))
              else
                if (hf_LongForm_f a1) = 7 then
                  if (hf_Arithmetic_isBelow (hs_regs st ((hf_LongForm_a a1)).toNatClampNeg) (hs_regs st ((hf_LongForm_b a1)).toNatClampNeg)) = 0 then
                    (hf_RiscHart_jumpIf st 1 ((hs_place st) + (hf_LongForm_offsetT a1)))
                  else
                    (hf_RiscHart_jumpIf st 0 ((hs_place st) + (hf_LongForm_offsetT a1)))
                else
                  (hf_RiscHart_trap st 2 a1)
def hf_RiscHart_load (st : HS) (a1 : Int32) (a2 : Int32) (a3 : Int32) : Int32 × HS :=
  if (hf_Memory_isMisaligned a1 a3) = 0 then
    if (hf_Memory_allows st 1 a3) = 0 then
      (hf_RiscHart_trap st 6 a3)
    else
      (hf_RiscHart_give st a2 (hf_Memory_read st a1 a3))
  else
    (hf_RiscHart_trap st 5 a3)
def hf_RiscHart_longLoad (st : HS) (a1 : Int32) : Int32 × HS :=
  if (hf_LongForm_f a1) = 3 then
    (hf_RiscHart_trap st 2 a1)
  else
    if (hf_LongForm_f a1) ≤ 5 then
      (hf_RiscHart_load st (hf_LongForm_f a1) (hf_LongForm_d a1) ((hs_regs st ((hf_LongForm_a a1)).toNatClampNeg) + (hf_LongForm_numberI a1)))
    else
      (hf_RiscHart_trap st 2 a1)
def hf_LongForm_g (a1 : Int32) : Int32 :=
  (hf_Bits_part a1 25 7)
def hf_LongForm_numberS (a1 : Int32) : Int32 :=
  (hf_Bits_signed (((hf_LongForm_g a1) <<< (5 &&& 31)) ||| (hf_LongForm_d a1)) 12)
def hf_RiscHart_store (st : HS) (a1 : Int32) (a2 : Int32) (a3 : Int32) : Int32 × HS :=
  if (hf_Memory_isMisaligned a1 a2) = 0 then
    if (hf_Memory_allows st 2 a2) = 0 then
      (hf_RiscHart_trap st 7 a2)
    else
      (0, (hf_Memory_write st a1 a2 a3))
  else
    (hf_RiscHart_trap st 5 a2)
def hf_RiscHart_longStore (st : HS) (a1 : Int32) : Int32 × HS :=
  if (hf_LongForm_f a1) ≤ 2 then
    (hf_RiscHart_store st (hf_LongForm_f a1) ((hs_regs st ((hf_LongForm_a a1)).toNatClampNeg) + (hf_LongForm_numberS a1)) (hs_regs st ((hf_LongForm_b a1)).toNatClampNeg))
  else
    (hf_RiscHart_trap st 2 a1)
def hf_Arithmetic_plain (a1 : Int32) (a2 : Int32) (a3 : Int32) : Int32 :=
  if a1 = 0 then
    (a2 + a3)
  else
    if a1 = 1 then
      (a2 <<< ((a3 &&& 31) &&& 31))
    else
      if a1 = 2 then
        if a3 ≤ a2 then
          0
        else
          1
      else
        if a1 = 3 then
          if (hf_Arithmetic_isBelow a2 a3) = 0 then
            0
          else
            1
        else
          if a1 = 4 then
            (a2 ^^^ a3)
          else
            if a1 = 5 then
              (ja_ushr a2 (a3 &&& 31))
            else
              if a1 = 6 then
                (a2 ||| a3)
              else
                (a2 &&& a3)
def hf_RiscHart_longWithNumber (st : HS) (a1 : Int32) : Int32 × HS :=
  if (hf_LongForm_f a1) = 5 then
    if (hf_LongForm_g a1) = 32 then
      (hf_RiscHart_give st (hf_LongForm_d a1) ((hs_regs st ((hf_LongForm_a a1)).toNatClampNeg) >>> ((hf_LongForm_b a1) &&& 31)))
    else
      if (hf_LongForm_f a1) = 1 then
        if (hf_LongForm_g a1) = 0 then
          (hf_RiscHart_give st (hf_LongForm_d a1) (hf_Arithmetic_plain (hf_LongForm_f a1) (hs_regs st ((hf_LongForm_a a1)).toNatClampNeg) (hf_LongForm_numberI a1)))
        else
          (hf_RiscHart_trap st 2 a1)
      else
        if (hf_LongForm_f a1) = 5 then
          if (hf_LongForm_g a1) = 0 then
            (hf_RiscHart_give st (hf_LongForm_d a1) (hf_Arithmetic_plain (hf_LongForm_f a1) (hs_regs st ((hf_LongForm_a a1)).toNatClampNeg) (hf_LongForm_numberI a1)))
          else
            (hf_RiscHart_trap st 2 a1)
        else
          (hf_RiscHart_give st (hf_LongForm_d a1) (hf_Arithmetic_plain (hf_LongForm_f a1) (hs_regs st ((hf_LongForm_a a1)).toNatClampNeg) (hf_LongForm_numberI a1)))
  else
    if (hf_LongForm_f a1) = 1 then
      if (hf_LongForm_g a1) = 0 then
        (hf_RiscHart_give st (hf_LongForm_d a1) (hf_Arithmetic_plain (hf_LongForm_f a1) (hs_regs st ((hf_LongForm_a a1)).toNatClampNeg) (hf_LongForm_numberI a1)))
      else
        (hf_RiscHart_trap st 2 a1)
    else
      if (hf_LongForm_f a1) = 5 then
        if (hf_LongForm_g a1) = 0 then
          (hf_RiscHart_give st (hf_LongForm_d a1) (hf_Arithmetic_plain (hf_LongForm_f a1) (hs_regs st ((hf_LongForm_a a1)).toNatClampNeg) (hf_LongForm_numberI a1)))
        else
          (hf_RiscHart_trap st 2 a1)
      else
        (hf_RiscHart_give st (hf_LongForm_d a1) (hf_Arithmetic_plain (hf_LongForm_f a1) (hs_regs st ((hf_LongForm_a a1)).toNatClampNeg) (hf_LongForm_numberI a1)))
def hf_Arithmetic_quotient (a1 : Int64) (a2 : Int64) : Int64 :=
  if (lg_cmp a2 0) = 0 then
    (-1)
  else
    (a1 / a2)
def hf_Arithmetic_remainder (a1 : Int64) (a2 : Int64) : Int64 :=
  if (lg_cmp a2 0) = 0 then
    a1
  else
    (a1 - a1 / a2 * a2)
def hf_Arithmetic_multipliedOrDivided (a1 : Int32) (a2 : Int32) (a3 : Int32) : Int32 :=
  if a1 = 0 then
    (a2 * a3)
  else
    if a1 = 1 then
      (ja_lushr (a2.toInt64 * a3.toInt64) 32).toInt32
    else
      if a1 = 2 then
        (ja_lushr (a2.toInt64 * (a3.toInt64 &&& 4294967295)) 32).toInt32
      else
        if a1 = 3 then
          (ja_lushr ((a2.toInt64 &&& 4294967295) * (a3.toInt64 &&& 4294967295)) 32).toInt32
        else
          if a1 = 4 then
            (hf_Arithmetic_quotient a2.toInt64 a3.toInt64).toInt32
          else
            if a1 = 5 then
              (hf_Arithmetic_quotient (a2.toInt64 &&& 4294967295) (a3.toInt64 &&& 4294967295)).toInt32
            else
              if a1 = 6 then
                (hf_Arithmetic_remainder a2.toInt64 a3.toInt64).toInt32
              else
                (hf_Arithmetic_remainder (a2.toInt64 &&& 4294967295) (a3.toInt64 &&& 4294967295)).toInt32
def hf_RiscHart_longWithRegisters (st : HS) (a1 : Int32) : Int32 × HS :=
  if (hf_LongForm_g a1) = 0 then
    (hf_RiscHart_give st (hf_LongForm_d a1) (hf_Arithmetic_plain (hf_LongForm_f a1) (hs_regs st ((hf_LongForm_a a1)).toNatClampNeg) (hs_regs st ((hf_LongForm_b a1)).toNatClampNeg)))
  else
    if (hf_LongForm_g a1) = 1 then
      (hf_RiscHart_give st (hf_LongForm_d a1) (hf_Arithmetic_multipliedOrDivided (hf_LongForm_f a1) (hs_regs st ((hf_LongForm_a a1)).toNatClampNeg) (hs_regs st ((hf_LongForm_b a1)).toNatClampNeg)))
    else
      if (hf_LongForm_g a1) = 32 then
        if (hf_LongForm_f a1) = 0 then
          (hf_RiscHart_give st (hf_LongForm_d a1) ((hs_regs st ((hf_LongForm_a a1)).toNatClampNeg) - (hs_regs st ((hf_LongForm_b a1)).toNatClampNeg)))
        else
          if (hf_LongForm_f a1) = 5 then
            (hf_RiscHart_give st (hf_LongForm_d a1) ((hs_regs st ((hf_LongForm_a a1)).toNatClampNeg) >>> (((hs_regs st ((hf_LongForm_b a1)).toNatClampNeg) &&& 31) &&& 31)))
          else
            (hf_RiscHart_trap st 2 a1)
      else
        (hf_RiscHart_trap st 2 a1)
def hf_LongForm_k (a1 : Int32) : Int32 :=
  (hf_Bits_part a1 27 5)
def hf_LongForm_isAtomic (a1 : Int32) : Int32 :=
  if (hf_LongForm_f a1) = 2 then
    if (hf_LongForm_k a1) = 0 then
      1
    else
      if (hf_LongForm_k a1) = 1 then
        1
      else
        if (hf_LongForm_k a1) = 2 then
          if (hf_LongForm_b a1) = 0 then
            1
          else
            0
        else
          if (hf_LongForm_k a1) = 3 then
            1
          else
            if (hf_LongForm_k a1) = 4 then
              1
            else
              if (hf_LongForm_k a1) = 5 then
                0
              else
                if (hf_LongForm_k a1) = 6 then
                  0
                else
                  if (hf_LongForm_k a1) = 7 then
                    0
                  else
                    if (hf_LongForm_k a1) = 8 then
                      1
                    else
                      if (hf_LongForm_k a1) = 9 then
                        0
                      else
                        if (hf_LongForm_k a1) = 10 then
                          0
                        else
                          if (hf_LongForm_k a1) = 11 then
                            0
                          else
                            if (hf_LongForm_k a1) = 12 then
                              1
                            else
                              if (hf_LongForm_k a1) = 13 then
                                0
                              else
                                if (hf_LongForm_k a1) = 14 then
                                  0
                                else
                                  if (hf_LongForm_k a1) = 15 then
                                    0
                                  else
                                    if (hf_LongForm_k a1) = 16 then
                                      1
                                    else
                                      if (hf_LongForm_k a1) = 17 then
                                        0
                                      else
                                        if (hf_LongForm_k a1) = 18 then
                                          0
                                        else
                                          if (hf_LongForm_k a1) = 19 then
                                            0
                                          else
                                            if (hf_LongForm_k a1) = 20 then
                                              1
                                            else
                                              if (hf_LongForm_k a1) = 21 then
                                                0
                                              else
                                                if (hf_LongForm_k a1) = 22 then
                                                  0
                                                else
                                                  if (hf_LongForm_k a1) = 23 then
                                                    0
                                                  else
                                                    if (hf_LongForm_k a1) = 24 then
                                                      1
                                                    else
                                                      if (hf_LongForm_k a1) = 25 then
                                                        0
                                                      else
                                                        if (hf_LongForm_k a1) = 26 then
                                                          0
                                                        else
                                                          if (hf_LongForm_k a1) = 27 then
                                                            0
                                                          else
                                                            if (hf_LongForm_k a1) = 28 then
                                                              1
                                                            else
                                                              0
  else
    0
def hf_Memory_reserve (st : HS) (a1 : Int32) : HS :=
  (hs_set_reserved st a1)
def hf_RiscHart_loadReserved (st : HS) (a1 : Int32) (a2 : Int32) : Int32 × HS :=
  (hf_RiscHart_give (hf_Memory_reserve st a2) a1 (hf_Memory_read (hf_Memory_reserve st a2) 2 a2))
def hf_Memory_reservedAddress (st : HS)  : Int32 :=
  (hs_reserved st)
def hf_RiscHart_storeConditional (st : HS) (a1 : Int32) (a2 : Int32) (a3 : Int32) : Int32 × HS :=
  if (hf_Memory_reservedAddress st) = a2 then
    (hf_RiscHart_give (hf_Memory_reserve (hf_Memory_write st 2 a2 a3) (-1)) a1 0)
  else
    (hf_RiscHart_give (hf_Memory_reserve st (-1)) a1 1)
def hf_Arithmetic_changed (a1 : Int32) (a2 : Int32) (a3 : Int32) : Int32 :=
  if a1 = 0 then
    (a2 + a3)
  else
    if a1 = 1 then
      a3
    else
      if a1 = 2 then
        if (hf_Arithmetic_isBelow a2 a3) = 0 then
          a2
        else
          a3
      else
        if a1 = 3 then
          if (hf_Arithmetic_isBelow a2 a3) = 0 then
            a2
          else
            a3
        else
          if a1 = 4 then
            (a2 ^^^ a3)
          else
            if a1 = 5 then
              if (hf_Arithmetic_isBelow a2 a3) = 0 then
                a2
              else
                a3
            else
              if a1 = 6 then
                if (hf_Arithmetic_isBelow a2 a3) = 0 then
                  a2
                else
                  a3
              else
                if a1 = 7 then
                  if (hf_Arithmetic_isBelow a2 a3) = 0 then
                    a2
                  else
                    a3
                else
                  if a1 = 8 then
                    (a2 ||| a3)
                  else
                    if a1 = 9 then
                      if (hf_Arithmetic_isBelow a2 a3) = 0 then
                        a2
                      else
                        a3
                    else
                      if a1 = 10 then
                        if (hf_Arithmetic_isBelow a2 a3) = 0 then
                          a2
                        else
                          a3
                      else
                        if a1 = 11 then
                          if (hf_Arithmetic_isBelow a2 a3) = 0 then
                            a2
                          else
                            a3
                        else
                          if a1 = 12 then
                            (a2 &&& a3)
                          else
                            if a1 = 13 then
                              if (hf_Arithmetic_isBelow a2 a3) = 0 then
                                a2
                              else
                                a3
                            else
                              if a1 = 14 then
                                if (hf_Arithmetic_isBelow a2 a3) = 0 then
                                  a2
                                else
                                  a3
                              else
                                if a1 = 15 then
                                  if (hf_Arithmetic_isBelow a2 a3) = 0 then
                                    a2
                                  else
                                    a3
                                else
                                  if a1 = 16 then
                                    if a3 ≤ a2 then
                                      a3
                                    else
                                      a2
                                  else
                                    if a1 = 17 then
                                      if (hf_Arithmetic_isBelow a2 a3) = 0 then
                                        a2
                                      else
                                        a3
                                    else
                                      if a1 = 18 then
                                        if (hf_Arithmetic_isBelow a2 a3) = 0 then
                                          a2
                                        else
                                          a3
                                      else
                                        if a1 = 19 then
                                          if (hf_Arithmetic_isBelow a2 a3) = 0 then
                                            a2
                                          else
                                            a3
                                        else
                                          if a1 = 20 then
                                            if a3 ≤ a2 then
                                              a2
                                            else
                                              a3
                                          else
                                            if a1 = 21 then
                                              if (hf_Arithmetic_isBelow a2 a3) = 0 then
                                                a2
                                              else
                                                a3
                                            else
                                              if a1 = 22 then
                                                if (hf_Arithmetic_isBelow a2 a3) = 0 then
                                                  a2
                                                else
                                                  a3
                                              else
                                                if a1 = 23 then
                                                  if (hf_Arithmetic_isBelow a2 a3) = 0 then
                                                    a2
                                                  else
                                                    a3
                                                else
                                                  if a1 = 24 then
                                                    if (hf_Arithmetic_isBelow a2 a3) = 0 then
                                                      a3
                                                    else
                                                      a2
                                                  else
                                                    if (hf_Arithmetic_isBelow a2 a3) = 0 then
                                                      a2
                                                    else
                                                      a3
def hf_RiscHart_change (st : HS) (a1 : Int32) (a2 : Int32) (a3 : Int32) (a4 : Int32) : Int32 × HS :=
  (hf_RiscHart_give (hf_Memory_write st 2 a3 (hf_Arithmetic_changed a1 (hf_Memory_read st 2 a3) a4)) a2 (hf_Memory_read st 2 a3))
def hf_RiscHart_longAtomic (st : HS) (a1 : Int32) : Int32 × HS :=
  if (hf_LongForm_isAtomic a1) = 0 then
    (hf_RiscHart_trap st 2 a1)
  else
    if (hf_Memory_isMisaligned 2 (hs_regs st ((hf_LongForm_a a1)).toNatClampNeg)) = 0 then
      if (hf_LongForm_k a1) = 2 then
        if (hf_Memory_allows st 1 (hs_regs st ((hf_LongForm_a a1)).toNatClampNeg)) = 0 then
          (hf_RiscHart_trap st 6 (hs_regs st ((hf_LongForm_a a1)).toNatClampNeg))
        else
          if (hf_LongForm_k a1) = 2 then
            (hf_RiscHart_loadReserved st (hf_LongForm_d a1) (hs_regs st ((hf_LongForm_a a1)).toNatClampNeg))
          else
            if (hf_LongForm_k a1) = 3 then
              (hf_RiscHart_storeConditional st (hf_LongForm_d a1) (hs_regs st ((hf_LongForm_a a1)).toNatClampNeg) (hs_regs st ((hf_LongForm_b a1)).toNatClampNeg))
            else
              (hf_RiscHart_change st (hf_LongForm_k a1) (hf_LongForm_d a1) (hs_regs st ((hf_LongForm_a a1)).toNatClampNeg) (hs_regs st ((hf_LongForm_b a1)).toNatClampNeg))
      else
        if (hf_Memory_allows st 2 (hs_regs st ((hf_LongForm_a a1)).toNatClampNeg)) = 0 then
          (hf_RiscHart_trap st 7 (hs_regs st ((hf_LongForm_a a1)).toNatClampNeg))
        else
          if (hf_Memory_allows st 1 (hs_regs st ((hf_LongForm_a a1)).toNatClampNeg)) = 0 then
            (hf_RiscHart_trap st 6 (hs_regs st ((hf_LongForm_a a1)).toNatClampNeg))
          else
            if (hf_LongForm_k a1) = 2 then
              (hf_RiscHart_loadReserved st (hf_LongForm_d a1) (hs_regs st ((hf_LongForm_a a1)).toNatClampNeg))
            else
              if (hf_LongForm_k a1) = 3 then
                (hf_RiscHart_storeConditional st (hf_LongForm_d a1) (hs_regs st ((hf_LongForm_a a1)).toNatClampNeg) (hs_regs st ((hf_LongForm_b a1)).toNatClampNeg))
              else
                (hf_RiscHart_change st (hf_LongForm_k a1) (hf_LongForm_d a1) (hs_regs st ((hf_LongForm_a a1)).toNatClampNeg) (hs_regs st ((hf_LongForm_b a1)).toNatClampNeg))
    else
      (hf_RiscHart_trap st 5 (hs_regs st ((hf_LongForm_a a1)).toNatClampNeg))
def hf_RiscHart_readCounter (st : HS) (a1 : Int32) : Int32 × HS :=
  if (ja_ushr a1 20) = 3072 then
    (hf_RiscHart_give st (hf_LongForm_d a1) ((hs_retired st).toInt32))
  else
    if (ja_ushr a1 20) = 3073 then
      (hf_RiscHart_give st (hf_LongForm_d a1) ((hs_time st).toInt32))
    else
      if (ja_ushr a1 20) = 3074 then
        (hf_RiscHart_give st (hf_LongForm_d a1) ((hs_retired st).toInt32))
      else
        if (ja_ushr a1 20) = 3200 then
          (hf_RiscHart_give st (hf_LongForm_d a1) ((ja_lushr (hs_retired st) 32).toInt32))
        else
          if (ja_ushr a1 20) = 3201 then
            (hf_RiscHart_give st (hf_LongForm_d a1) ((ja_lushr (hs_time st) 32).toInt32))
          else
            if (ja_ushr a1 20) = 3202 then
              (hf_RiscHart_give st (hf_LongForm_d a1) ((ja_lushr (hs_retired st) 32).toInt32))
            else
              (hf_RiscHart_trap st 2 a1)
def hf_RiscHart_longSystem (st : HS) (a1 : Int32) : Int32 × HS :=
  if a1 = 115 then
    (hf_RiscHart_trap st 3 0)
  else
    if a1 = 1048691 then
      (hf_RiscHart_trap st 4 0)
    else
      if ((hf_LongForm_f a1) &&& 2) = 0 then
        (hf_RiscHart_trap st 2 a1)
      else
        if (hf_LongForm_a a1) = 0 then
          (hf_RiscHart_readCounter st a1)
        else
          (hf_RiscHart_trap st 2 a1)
def hf_RiscHart_carryOutLong (st : HS) (a1 : Int32) : Int32 × HS :=
  if (a1 &&& 127) = 3 then
    (hf_RiscHart_longLoad st a1)
  else
    if (a1 &&& 127) = 15 then
      if 1 < (hf_LongForm_f a1) then
        (hf_RiscHart_trap st 2 a1)
      else
        (0, st)
    else
      if (a1 &&& 127) = 19 then
        (hf_RiscHart_longWithNumber st a1)
      else
        if (a1 &&& 127) = 23 then
          (hf_RiscHart_give st (hf_LongForm_d a1) ((hs_place st) + (hf_LongForm_upperNumber a1)))
        else
          if (a1 &&& 127) = 35 then
            (hf_RiscHart_longStore st a1)
          else
            if (a1 &&& 127) = 47 then
              (hf_RiscHart_longAtomic st a1)
            else
              if (a1 &&& 127) = 51 then
                (hf_RiscHart_longWithRegisters st a1)
              else
                if (a1 &&& 127) = 55 then
                  (hf_RiscHart_give st (hf_LongForm_d a1) (hf_LongForm_upperNumber a1))
                else
                  if (a1 &&& 127) = 99 then
                    (hf_RiscHart_longBranch st a1)
                  else
                    if (a1 &&& 127) = 103 then
                      (hf_RiscHart_longJumpToRegister st a1)
                    else
                      if (a1 &&& 127) = 111 then
                        (hf_RiscHart_linkAndJump st (hf_LongForm_d a1) ((hs_place st) + (hf_LongForm_offsetJ a1)))
                      else
                        if (a1 &&& 127) = 115 then
                          (hf_RiscHart_longSystem st a1)
                        else
                          (hf_RiscHart_trap st 2 a1)
def hf_ShortForm_lowNear (a1 : Int32) : Int32 :=
  (8 + (hf_Bits_part a1 2 3))
def hf_ShortForm_highNear (a1 : Int32) : Int32 :=
  (8 + (hf_Bits_part a1 7 3))
def hf_ShortForm_nearOffset (a1 : Int32) : Int32 :=
  ((((hf_Bits_part a1 10 3) <<< (3 &&& 31)) ||| ((hf_Bits_part a1 6 1) <<< (2 &&& 31))) ||| ((hf_Bits_part a1 5 1) <<< (6 &&& 31)))
def hf_ShortForm_f (a1 : Int32) : Int32 :=
  (hf_Bits_part a1 13 3)
def hf_ShortForm_stackNumber (a1 : Int32) : Int32 :=
  (((((hf_Bits_part a1 11 2) <<< (4 &&& 31)) ||| ((hf_Bits_part a1 7 4) <<< (6 &&& 31))) ||| ((hf_Bits_part a1 6 1) <<< (2 &&& 31))) ||| ((hf_Bits_part a1 5 1) <<< (3 &&& 31)))
def hf_RiscHart_shortOfQ0 (st : HS) (a1 : Int32) : Int32 × HS :=
  if (hf_ShortForm_f a1) = 0 then
    if (hf_ShortForm_stackNumber a1) = 0 then
      (hf_RiscHart_trap st 2 a1)
    else
      (hf_RiscHart_give st (hf_ShortForm_lowNear a1) ((hs_regs st (2 : Int32).toNatClampNeg) + (hf_ShortForm_stackNumber a1)))
  else
    if (hf_ShortForm_f a1) = 2 then
      (hf_RiscHart_load st 2 (hf_ShortForm_lowNear a1) ((hs_regs st ((hf_ShortForm_highNear a1)).toNatClampNeg) + (hf_ShortForm_nearOffset a1)))
    else
      if (hf_ShortForm_f a1) = 6 then
        (hf_RiscHart_store st 2 ((hs_regs st ((hf_ShortForm_highNear a1)).toNatClampNeg) + (hf_ShortForm_nearOffset a1)) (hs_regs st ((hf_ShortForm_lowNear a1)).toNatClampNeg))
      else
        (hf_RiscHart_trap st 2 a1)
def hf_ShortForm_d (a1 : Int32) : Int32 :=
  (hf_Bits_part a1 7 5)
def hf_ShortForm_number (a1 : Int32) : Int32 :=
  (hf_Bits_signed (((hf_Bits_part a1 12 1) <<< (5 &&& 31)) ||| (hf_Bits_part a1 2 5)) 6)
def hf_ShortForm_offsetJ (a1 : Int32) : Int32 :=
  (hf_Bits_signed (((((((((hf_Bits_part a1 12 1) <<< (11 &&& 31)) ||| ((hf_Bits_part a1 11 1) <<< (4 &&& 31))) ||| ((hf_Bits_part a1 9 2) <<< (8 &&& 31))) ||| ((hf_Bits_part a1 8 1) <<< (10 &&& 31))) ||| ((hf_Bits_part a1 7 1) <<< (6 &&& 31))) ||| ((hf_Bits_part a1 6 1) <<< (7 &&& 31))) ||| ((hf_Bits_part a1 3 3) <<< (1 &&& 31))) ||| ((hf_Bits_part a1 2 1) <<< (5 &&& 31))) 12)
def hf_ShortForm_stackMove (a1 : Int32) : Int32 :=
  (hf_Bits_signed ((((((hf_Bits_part a1 12 1) <<< (9 &&& 31)) ||| ((hf_Bits_part a1 6 1) <<< (4 &&& 31))) ||| ((hf_Bits_part a1 5 1) <<< (6 &&& 31))) ||| ((hf_Bits_part a1 3 2) <<< (7 &&& 31))) ||| ((hf_Bits_part a1 2 1) <<< (5 &&& 31))) 10)
def hf_RiscHart_shortMoveStack (st : HS) (a1 : Int32) : Int32 × HS :=
  if (hf_ShortForm_stackMove a1) = 0 then
    (hf_RiscHart_trap st 2 a1)
  else
    (hf_RiscHart_give st 2 ((hs_regs st (2 : Int32).toNatClampNeg) + (hf_ShortForm_stackMove a1)))
def hf_RiscHart_shortUpperNumber (st : HS) (a1 : Int32) : Int32 × HS :=
  if (hf_ShortForm_number a1) = 0 then
    (hf_RiscHart_trap st 2 a1)
  else
    (hf_RiscHart_give st (hf_ShortForm_d a1) ((hf_ShortForm_number a1) <<< (12 &&& 31)))
def hf_ShortForm_bit12 (a1 : Int32) : Int32 :=
  if (hf_Bits_part a1 12 1) = 0 then
    0
  else
    1
def hf_ShortForm_b (a1 : Int32) : Int32 :=
  (hf_Bits_part a1 2 5)
def hf_Arithmetic_ofTwoNear (a1 : Int32) (a2 : Int32) (a3 : Int32) : Int32 :=
  if a1 = 0 then
    (a2 - a3)
  else
    if a1 = 1 then
      (a2 ^^^ a3)
    else
      if a1 = 2 then
        (a2 ||| a3)
      else
        (a2 &&& a3)
def hf_RiscHart_shortArithmetic (st : HS) (a1 : Int32) : Int32 × HS :=
  if (hf_Bits_part a1 10 2) = 2 then
    (hf_RiscHart_give st (hf_ShortForm_highNear a1) ((hs_regs st ((hf_ShortForm_highNear a1)).toNatClampNeg) &&& (hf_ShortForm_number a1)))
  else
    if (hf_ShortForm_bit12 a1) = 0 then
      if (hf_Bits_part a1 10 2) = 0 then
        (hf_RiscHart_give st (hf_ShortForm_highNear a1) (ja_ushr (hs_regs st ((hf_ShortForm_highNear a1)).toNatClampNeg) (hf_ShortForm_b a1)))
      else
        if (hf_Bits_part a1 10 2) = 1 then
          (hf_RiscHart_give st (hf_ShortForm_highNear a1) ((hs_regs st ((hf_ShortForm_highNear a1)).toNatClampNeg) >>> ((hf_ShortForm_b a1) &&& 31)))
        else
          (hf_RiscHart_give st (hf_ShortForm_highNear a1) (hf_Arithmetic_ofTwoNear (hf_Bits_part a1 5 2) (hs_regs st ((hf_ShortForm_highNear a1)).toNatClampNeg) (hs_regs st ((hf_ShortForm_lowNear a1)).toNatClampNeg)))
    else
      (hf_RiscHart_trap st 2 a1)
def hf_ShortForm_offsetT (a1 : Int32) : Int32 :=
  (hf_Bits_signed ((((((hf_Bits_part a1 12 1) <<< (8 &&& 31)) ||| ((hf_Bits_part a1 10 2) <<< (3 &&& 31))) ||| ((hf_Bits_part a1 5 2) <<< (6 &&& 31))) ||| ((hf_Bits_part a1 3 2) <<< (1 &&& 31))) ||| ((hf_Bits_part a1 2 1) <<< (5 &&& 31))) 9)
def hf_RiscHart_shortOfQ1 (st : HS) (a1 : Int32) : Int32 × HS :=
  if (hf_ShortForm_f a1) = 0 then
    (hf_RiscHart_give st (hf_ShortForm_d a1) ((hs_regs st ((hf_ShortForm_d a1)).toNatClampNeg) + (hf_ShortForm_number a1)))
  else
    if (hf_ShortForm_f a1) = 1 then
      (hf_RiscHart_linkAndJump st 1 ((hs_place st) + (hf_ShortForm_offsetJ a1)))
    else
      if (hf_ShortForm_f a1) = 2 then
        (hf_RiscHart_give st (hf_ShortForm_d a1) (hf_ShortForm_number a1))
      else
        if (hf_ShortForm_f a1) = 3 then
          if (hf_ShortForm_d a1) = 2 then
            (hf_RiscHart_shortMoveStack st a1)
          else
            (hf_RiscHart_shortUpperNumber st a1)
        else
          if (hf_ShortForm_f a1) = 4 then
            (hf_RiscHart_shortArithmetic st a1)
          else
            if (hf_ShortForm_f a1) = 5 then
              (hf_RiscHart_linkAndJump st 0 ((hs_place st) + (hf_ShortForm_offsetJ a1)))
            else
              if (hf_ShortForm_f a1) = 6 then
                if (hs_regs st ((hf_ShortForm_highNear a1)).toNatClampNeg) = 0 then
                  (hf_RiscHart_jumpIf st 1 ((hs_place st) + (hf_ShortForm_offsetT a1)))
                else
                  (hf_RiscHart_jumpIf st 0 ((hs_place st) + (hf_ShortForm_offsetT a1)))
              else
                if (hs_regs st ((hf_ShortForm_highNear a1)).toNatClampNeg) = 0 then
                  (hf_RiscHart_jumpIf st 0 ((hs_place st) + (hf_ShortForm_offsetT a1)))
                else
                  (hf_RiscHart_jumpIf st 1 ((hs_place st) + (hf_ShortForm_offsetT a1)))
def hf_ShortForm_stackLoadOffset (a1 : Int32) : Int32 :=
  ((((hf_Bits_part a1 12 1) <<< (5 &&& 31)) ||| ((hf_Bits_part a1 4 3) <<< (2 &&& 31))) ||| ((hf_Bits_part a1 2 2) <<< (6 &&& 31)))
def hf_RiscHart_shortJumpToRegister (st : HS) (a1 : Int32) : Int32 × HS :=
  if (hf_ShortForm_d a1) = 0 then
    if (hf_ShortForm_bit12 a1) = 0 then
      (hf_RiscHart_trap st 2 a1)
    else
      (hf_RiscHart_trap st 4 0)
  else
    if (hf_ShortForm_bit12 a1) = 0 then
      (hf_RiscHart_linkAndJump st 0 (hs_regs st ((hf_ShortForm_d a1)).toNatClampNeg))
    else
      (hf_RiscHart_linkAndJump st 1 (hs_regs st ((hf_ShortForm_d a1)).toNatClampNeg))
def hf_RiscHart_shortMoveOrAdd (st : HS) (a1 : Int32) : Int32 × HS :=
  if (hf_ShortForm_bit12 a1) = 0 then
    (hf_RiscHart_give st (hf_ShortForm_d a1) (hs_regs st ((hf_ShortForm_b a1)).toNatClampNeg))
  else
    (hf_RiscHart_give st (hf_ShortForm_d a1) ((hs_regs st ((hf_ShortForm_d a1)).toNatClampNeg) + (hs_regs st ((hf_ShortForm_b a1)).toNatClampNeg)))
def hf_ShortForm_stackStoreOffset (a1 : Int32) : Int32 :=
  (((hf_Bits_part a1 9 4) <<< (2 &&& 31)) ||| ((hf_Bits_part a1 7 2) <<< (6 &&& 31)))
def hf_RiscHart_shortOfQ2 (st : HS) (a1 : Int32) : Int32 × HS :=
  if (hf_ShortForm_f a1) = 0 then
    if (hf_ShortForm_bit12 a1) = 0 then
      (hf_RiscHart_give st (hf_ShortForm_d a1) ((hs_regs st ((hf_ShortForm_d a1)).toNatClampNeg) <<< ((hf_ShortForm_b a1) &&& 31)))
    else
      (hf_RiscHart_trap st 2 a1)
  else
    if (hf_ShortForm_f a1) = 1 then
      (hf_RiscHart_trap st 2 a1)
    else
      if (hf_ShortForm_f a1) = 2 then
        if (hf_ShortForm_d a1) = 0 then
          (hf_RiscHart_trap st 2 a1)
        else
          (hf_RiscHart_load st 2 (hf_ShortForm_d a1) ((hs_regs st (2 : Int32).toNatClampNeg) + (hf_ShortForm_stackLoadOffset a1)))
      else
        if (hf_ShortForm_f a1) = 3 then
          (hf_RiscHart_trap st 2 a1)
        else
          if (hf_ShortForm_f a1) = 4 then
            if (hf_ShortForm_b a1) = 0 then
              (hf_RiscHart_shortJumpToRegister st a1)
            else
              (hf_RiscHart_shortMoveOrAdd st a1)
          else
            if (hf_ShortForm_f a1) = 5 then
              (hf_RiscHart_trap st 2 a1)
            else
              if (hf_ShortForm_f a1) = 6 then
                (hf_RiscHart_store st 2 ((hs_regs st (2 : Int32).toNatClampNeg) + (hf_ShortForm_stackStoreOffset a1)) (hs_regs st ((hf_ShortForm_b a1)).toNatClampNeg))
              else
                (hf_RiscHart_trap st 2 a1)
def hf_RiscHart_carryOutShort (st : HS) (a1 : Int32) : Int32 × HS :=
  if (a1 &&& 3) = 0 then
    (hf_RiscHart_shortOfQ0 st a1)
  else
    if (a1 &&& 3) = 1 then
      (hf_RiscHart_shortOfQ1 st a1)
    else
      (hf_RiscHart_shortOfQ2 st a1)
def hf_RiscHart_carryOutNext (st : HS)  : Int32 × HS :=
  if (hf_Memory_mayCarryOut st (hs_place st)) = 0 then
    (hf_RiscHart_trap st 1 (hs_place st))
  else
    if ((hf_Memory_read st 5 (hs_place st)) &&& 3) = 3 then
      if (hf_Memory_mayCarryOut st ((hs_place st) + 2)) = 0 then
        (hf_RiscHart_trap st 1 (hs_place st))
      else
        if (hf_RiscHart_carryOutLong (hs_set_behind st ((hs_place st) + 4)) (hf_RiscHart_longFrom (hs_set_behind st ((hs_place st) + 4)) (hf_Memory_read st 5 (hs_place st)))).1 = 0 then
          ((hf_RiscHart_carryOutLong (hs_set_behind st ((hs_place st) + 4)) (hf_RiscHart_longFrom (hs_set_behind st ((hs_place st) + 4)) (hf_Memory_read st 5 (hs_place st)))).1, (hs_set_place (hs_set_retired ((hf_RiscHart_carryOutLong (hs_set_behind st ((hs_place st) + 4)) (hf_RiscHart_longFrom (hs_set_behind st ((hs_place st) + 4)) (hf_Memory_read st 5 (hs_place st)))).2) ((hs_retired ((hf_RiscHart_carryOutLong (hs_set_behind st ((hs_place st) + 4)) (hf_RiscHart_longFrom (hs_set_behind st ((hs_place st) + 4)) (hf_Memory_read st 5 (hs_place st)))).2)) + 1)) (hs_behind (hs_set_retired ((hf_RiscHart_carryOutLong (hs_set_behind st ((hs_place st) + 4)) (hf_RiscHart_longFrom (hs_set_behind st ((hs_place st) + 4)) (hf_Memory_read st 5 (hs_place st)))).2) ((hs_retired ((hf_RiscHart_carryOutLong (hs_set_behind st ((hs_place st) + 4)) (hf_RiscHart_longFrom (hs_set_behind st ((hs_place st) + 4)) (hf_Memory_read st 5 (hs_place st)))).2)) + 1)))))
        else
          (hf_RiscHart_carryOutLong (hs_set_behind st ((hs_place st) + 4)) (hf_RiscHart_longFrom (hs_set_behind st ((hs_place st) + 4)) (hf_Memory_read st 5 (hs_place st))))
    else
      if (hf_RiscHart_carryOutShort (hs_set_behind st ((hs_place st) + 2)) (hf_Memory_read st 5 (hs_place st))).1 = 0 then
        ((hf_RiscHart_carryOutShort (hs_set_behind st ((hs_place st) + 2)) (hf_Memory_read st 5 (hs_place st))).1, (hs_set_place (hs_set_retired ((hf_RiscHart_carryOutShort (hs_set_behind st ((hs_place st) + 2)) (hf_Memory_read st 5 (hs_place st))).2) ((hs_retired ((hf_RiscHart_carryOutShort (hs_set_behind st ((hs_place st) + 2)) (hf_Memory_read st 5 (hs_place st))).2)) + 1)) (hs_behind (hs_set_retired ((hf_RiscHart_carryOutShort (hs_set_behind st ((hs_place st) + 2)) (hf_Memory_read st 5 (hs_place st))).2) ((hs_retired ((hf_RiscHart_carryOutShort (hs_set_behind st ((hs_place st) + 2)) (hf_Memory_read st 5 (hs_place st))).2)) + 1)))))
      else
        (hf_RiscHart_carryOutShort (hs_set_behind st ((hs_place st) + 2)) (hf_Memory_read st 5 (hs_place st)))
def hf_RiscHart_step (st : HS)  : Int32 × HS :=
  (hf_RiscHart_carryOutNext st)
/-! indices that stay inside -/
theorem in_k {x : Int32} {n : Nat} (h : ¬ (x < 0 ∨ n ≤ x.toNatClampNeg)) : vp_in x n := h
theorem lg_ne0 {x : Int64} (h : ¬ lg_cmp x 0 = 0) : ¬ x = 0 := fun q => h (by rw [q]; decide)
theorem in_LongForm_d (w : Int32) : vp_in (hf_LongForm_d w) 32 := pk_andIn (ja_ushr w 7) 5 (by decide) (by decide)
theorem in_LongForm_a (w : Int32) : vp_in (hf_LongForm_a w) 32 := pk_andIn (ja_ushr w 15) 5 (by decide) (by decide)
theorem in_LongForm_b (w : Int32) : vp_in (hf_LongForm_b w) 32 := pk_andIn (ja_ushr w 20) 5 (by decide) (by decide)
theorem in_ShortForm_d (w : Int32) : vp_in (hf_ShortForm_d w) 32 := pk_andIn (ja_ushr w 7) 5 (by decide) (by decide)
theorem in_ShortForm_b (w : Int32) : vp_in (hf_ShortForm_b w) 32 := pk_andIn (ja_ushr w 2) 5 (by decide) (by decide)
theorem in_near (x : Int32) : vp_in (8 + (x &&& 7)) 32 := by
  obtain ⟨j, hj, e⟩ := pk_andE x (m := 7) 3 (by decide)
  rw [e, show (8 : Int32) = nI 8 from rfl, nI_add]
  exact vp_in_nI (by omega) (by omega)
theorem in_ShortForm_lowNear (w : Int32) : vp_in (hf_ShortForm_lowNear w) 32 := in_near (ja_ushr w 2)
theorem in_ShortForm_highNear (w : Int32) : vp_in (hf_ShortForm_highNear w) 32 := in_near (ja_ushr w 7)
theorem in_Memory_wordIndex (a : Int32) : vp_in (hf_Memory_wordIndex a) 16384 := by
  obtain ⟨j, hj, e⟩ := pk_andE a (m := 65535) 16 (by decide)
  show vp_in (ja_ushr (a &&& 65535) 2) 16384
  rw [e]
  unfold ja_ushr
  rw [pk_ushrN (by omega) 2 2 (by decide)]
  exact vp_in_nI (by omega) (by omega)
theorem ja_holds {a : Int32} (h : ¬ hf_Memory_holds a = 0) : ∃ j : Nat, j ≤ 65535 ∧ a = nI j := by
  unfold hf_Memory_holds at h
  by_cases h1 : a < 0
  · exact absurd (if_pos h1) h
  · rw [if_neg h1] at h
    by_cases h2 : 65535 < a
    · exact absurd (if_pos h2) h
    · exact nI_of2 (M := 65535) (n := 65535) (by decide) h1 (by
        rw [Int32.le_iff_toInt_le]
        rw [Int32.lt_iff_toInt_lt] at h2
        omega)
theorem in_page {a : Int32} (h : ¬ hf_Memory_holds a = 0) : vp_in (ja_ushr a 10) 64 := by
  obtain ⟨j, hj, e⟩ := ja_holds h
  rw [e]
  unfold ja_ushr
  rw [pk_ushrN (by omega) 10 10 (by decide)]
  exact vp_in_nI (by omega) (by omega)
end
section
set_option maxHeartbeats 4000000 in
set_option maxRecDepth 100000 in
theorem hc_Memory_holds (l : Launch) (G : Heap) (a1 : Int32)  : Met l yMem_holds (wq yMem_holds cMem_holds 1 (some .boolean)) ({ frames := 0, cells := 0, slots := 0, locals := 0 }) (mk_P G [.int a1]) (mk_Qi G (hf_Memory_holds a1)) 0 0 (fun _ => False) := by
  refine Met.ofW (cc := cMem_holds) (maxL := 1) (ret := (some .boolean)) (by decide) rfl ?_
  intro p e s m args below meth c s₁ B hml hv
  obtain ⟨rfl, hG⟩ := hv
  subst hG
  have hx := B.exec
  have hb := B.bytes
  have hr := B.returns
  have hts := atoms_spec (ws := (wq yMem_holds cMem_holds 1 (some .boolean))) B.pre
  have hown : s.vm.findClass RMem = some m.cls := findClass_of_methodNamed B.named
  have hlocks := B.notSynchronized
  have hg : ∀ w ∈ lw_g, w.before _ s = true := fun w h => hts w (List.mem_cons_of_mem _ h)
  have hl := lv_entry ([.int a1]) (n := 1) (Nat.le_of_ble_eq_true rfl)
  rw [lg_entry_eq]
  generalize (lg_sl ([.int a1]) ++ List.replicate (1 - (lg_sl ([.int a1])).length) Slot.unset).toArray = ls at hl ⊢
  have hl : lv_has ls 1 [(0, .int a1)] := hl
  refine lv_iload_n hx hb dMem_holds_0 rfl (lv_at hl 0 rfl) ?_
  refine lv_if_lt (tgt := 14) hx hb dMem_holds_1 (by decide) (fun c_1 => ?_) (fun c_1 => ?_)
  · refine lv_iconst (v := 0) hx hb dMem_holds_14 (by decide) ?_
    exact W.zret hx hb hr rfl (fun t ht hW => ⟨⟨_, (), rfl, (by unfold hf_Memory_holds; rw [if_pos c_1]), ht⟩, mk_F ht⟩) (fun q h => nomatch h) dMem_holds_15
  · refine lv_iload_n hx hb dMem_holds_4 rfl (lv_at hl 0 rfl) ?_
    refine lv_ldc (v := 65535) hx hb hown (hg _ tw_138) dMem_holds_5 ?_
    refine lv_icmp_gt (tgt := 14) hx hb dMem_holds_7 (by decide) (fun c_2 => ?_) (fun c_2 => ?_)
    · refine lv_iconst (v := 0) hx hb dMem_holds_14 (by decide) ?_
      exact W.zret hx hb hr rfl (fun t ht hW => ⟨⟨_, (), rfl, (by unfold hf_Memory_holds; rw [if_neg c_1, if_pos c_2]), ht⟩, mk_F ht⟩) (fun q h => nomatch h) dMem_holds_15
    · refine lv_iconst (v := 1) hx hb dMem_holds_10 (by decide) ?_
      refine lv_goto (tgt := 15) hx hb dMem_holds_11 (by decide) ?_
      exact W.zret hx hb hr rfl (fun t ht hW => ⟨⟨_, (), rfl, (by unfold hf_Memory_holds; rw [if_neg c_1, if_neg c_2]), ht⟩, mk_F ht⟩) (fun q h => nomatch h) dMem_holds_15
set_option maxHeartbeats 4000000 in
set_option maxRecDepth 100000 in
theorem hc_Memory_wordIndex (l : Launch) (G : Heap) (a1 : Int32)  : Met l yMem_wordIndex (wq yMem_wordIndex cMem_wordIndex 1 (some .int)) ({ frames := 0, cells := 0, slots := 0, locals := 0 }) (mk_P G [.int a1]) (mk_Qi G (hf_Memory_wordIndex a1)) 0 0 (fun _ => False) := by
  refine Met.ofW (cc := cMem_wordIndex) (maxL := 1) (ret := (some .int)) (by decide) rfl ?_
  intro p e s m args below meth c s₁ B hml hv
  obtain ⟨rfl, hG⟩ := hv
  subst hG
  have hx := B.exec
  have hb := B.bytes
  have hr := B.returns
  have hts := atoms_spec (ws := (wq yMem_wordIndex cMem_wordIndex 1 (some .int))) B.pre
  have hown : s.vm.findClass RMem = some m.cls := findClass_of_methodNamed B.named
  have hlocks := B.notSynchronized
  have hg : ∀ w ∈ lw_g, w.before _ s = true := fun w h => hts w (List.mem_cons_of_mem _ h)
  have hl := lv_entry ([.int a1]) (n := 1) (Nat.le_of_ble_eq_true rfl)
  rw [lg_entry_eq]
  generalize (lg_sl ([.int a1]) ++ List.replicate (1 - (lg_sl ([.int a1])).length) Slot.unset).toArray = ls at hl ⊢
  have hl : lv_has ls 1 [(0, .int a1)] := hl
  refine lv_iload_n hx hb dMem_wordIndex_0 rfl (lv_at hl 0 rfl) ?_
  refine lv_ldc (v := 65535) hx hb hown (hg _ tw_138) dMem_wordIndex_1 ?_
  refine lv_iand hx hb dMem_wordIndex_3 ?_
  refine lv_iconst (v := 2) hx hb dMem_wordIndex_4 (by decide) ?_
  refine lv_iushr (v := (ja_ushr (a1 &&& 65535) 2)) hx hb dMem_wordIndex_5 rfl ?_
  exact W.iret hx hb hr (fun t ht hW => ⟨⟨_, (), rfl, rfl, ht⟩, mk_F ht⟩) (fun q h => nomatch h) dMem_wordIndex_6
set_option maxHeartbeats 4000000 in
set_option maxRecDepth 100000 in
theorem hc_Memory_maskOf (l : Launch) (G : Heap) (a1 : Int32)  : Met l yMem_maskOf (wq yMem_maskOf cMem_maskOf 1 (some .int)) ({ frames := 0, cells := 0, slots := 0, locals := 0 }) (mk_P G [.int a1]) (mk_Qi G (hf_Memory_maskOf a1)) 0 0 (fun _ => False) := by
  refine Met.ofW (cc := cMem_maskOf) (maxL := 1) (ret := (some .int)) (by decide) rfl ?_
  intro p e s m args below meth c s₁ B hml hv
  obtain ⟨rfl, hG⟩ := hv
  subst hG
  have hx := B.exec
  have hb := B.bytes
  have hr := B.returns
  have hts := atoms_spec (ws := (wq yMem_maskOf cMem_maskOf 1 (some .int))) B.pre
  have hown : s.vm.findClass RMem = some m.cls := findClass_of_methodNamed B.named
  have hlocks := B.notSynchronized
  have hg : ∀ w ∈ lw_g, w.before _ s = true := fun w h => hts w (List.mem_cons_of_mem _ h)
  have hl := lv_entry ([.int a1]) (n := 1) (Nat.le_of_ble_eq_true rfl)
  rw [lg_entry_eq]
  generalize (lg_sl ([.int a1]) ++ List.replicate (1 - (lg_sl ([.int a1])).length) Slot.unset).toArray = ls at hl ⊢
  have hl : lv_has ls 1 [(0, .int a1)] := hl
  refine lv_iload_n hx hb dMem_maskOf_0 rfl (lv_at hl 0 rfl) ?_
  by_cases c_1 : a1 = 0
  · refine lv_lookup (off := 27) (tgt := 28) hx hb dMem_maskOf_1 (by decide) (by rw [c_1]; decide) (by decide) ?_
    refine lv_sipush (v := 255) hx hb dMem_maskOf_28 (by decide) ?_
    exact W.iret hx hb hr (fun t ht hW => ⟨⟨_, (), rfl, (by unfold hf_Memory_maskOf; rw [if_pos c_1]), ht⟩, mk_F ht⟩) (fun q h => nomatch h) dMem_maskOf_31
  by_cases c_2 : a1 = 1
  · refine lv_lookup (off := 31) (tgt := 32) hx hb dMem_maskOf_1 (by decide) (by rw [c_2]; decide) (by decide) ?_
    refine lv_ldc (v := 65535) hx hb hown (hg _ tw_138) dMem_maskOf_32 ?_
    exact W.iret hx hb hr (fun t ht hW => ⟨⟨_, (), rfl, (by unfold hf_Memory_maskOf; rw [if_neg c_1, if_pos c_2]), ht⟩, mk_F ht⟩) (fun q h => nomatch h) dMem_maskOf_34
  refine lv_lookup (off := 34) (tgt := 35) hx hb dMem_maskOf_1 (by decide) ((lv_osw (a := 0) c_1 rfl).trans ((lv_osw (a := 1) c_2 rfl).trans (rfl))) (by decide) ?_
  refine lv_iconst (v := (-1)) hx hb dMem_maskOf_35 (by decide) ?_
  exact W.iret hx hb hr (fun t ht hW => ⟨⟨_, (), rfl, (by unfold hf_Memory_maskOf; rw [if_neg c_1, if_neg c_2]), ht⟩, mk_F ht⟩) (fun q h => nomatch h) dMem_maskOf_36
set_option maxHeartbeats 4000000 in
set_option maxRecDepth 100000 in
theorem hc_Memory_shiftOf (l : Launch) (G : Heap) (a1 : Int32)  : Met l yMem_shiftOf (wq yMem_shiftOf cMem_shiftOf 1 (some .int)) ({ frames := 0, cells := 0, slots := 0, locals := 0 }) (mk_P G [.int a1]) (mk_Qi G (hf_Memory_shiftOf a1)) 0 0 (fun _ => False) := by
  refine Met.ofW (cc := cMem_shiftOf) (maxL := 1) (ret := (some .int)) (by decide) rfl ?_
  intro p e s m args below meth c s₁ B hml hv
  obtain ⟨rfl, hG⟩ := hv
  subst hG
  have hx := B.exec
  have hb := B.bytes
  have hr := B.returns
  have hts := atoms_spec (ws := (wq yMem_shiftOf cMem_shiftOf 1 (some .int))) B.pre
  have hown : s.vm.findClass RMem = some m.cls := findClass_of_methodNamed B.named
  have hlocks := B.notSynchronized
  have hg : ∀ w ∈ lw_g, w.before _ s = true := fun w h => hts w (List.mem_cons_of_mem _ h)
  have hl := lv_entry ([.int a1]) (n := 1) (Nat.le_of_ble_eq_true rfl)
  rw [lg_entry_eq]
  generalize (lg_sl ([.int a1]) ++ List.replicate (1 - (lg_sl ([.int a1])).length) Slot.unset).toArray = ls at hl ⊢
  have hl : lv_has ls 1 [(0, .int a1)] := hl
  refine lv_iload_n hx hb dMem_shiftOf_0 rfl (lv_at hl 0 rfl) ?_
  refine lv_iconst (v := 3) hx hb dMem_shiftOf_1 (by decide) ?_
  refine lv_iand hx hb dMem_shiftOf_2 ?_
  refine lv_iconst (v := 3) hx hb dMem_shiftOf_3 (by decide) ?_
  refine lv_ishl hx hb dMem_shiftOf_4 ?_
  exact W.iret hx hb hr (fun t ht hW => ⟨⟨_, (), rfl, rfl, ht⟩, mk_F ht⟩) (fun q h => nomatch h) dMem_shiftOf_5
set_option maxHeartbeats 4000000 in
set_option maxRecDepth 100000 in
theorem hc_Memory_isMisaligned (l : Launch) (G : Heap) (a1 : Int32) (a2 : Int32)  : Met l yMem_isMisaligned (wq yMem_isMisaligned cMem_isMisaligned 2 (some .boolean)) ({ frames := 0, cells := 0, slots := 0, locals := 0 }) (mk_P G [.int a1, .int a2]) (mk_Qi G (hf_Memory_isMisaligned a1 a2)) 0 0 (fun _ => False) := by
  refine Met.ofW (cc := cMem_isMisaligned) (maxL := 2) (ret := (some .boolean)) (by decide) rfl ?_
  intro p e s m args below meth c s₁ B hml hv
  obtain ⟨rfl, hG⟩ := hv
  subst hG
  have hx := B.exec
  have hb := B.bytes
  have hr := B.returns
  have hts := atoms_spec (ws := (wq yMem_isMisaligned cMem_isMisaligned 2 (some .boolean))) B.pre
  have hown : s.vm.findClass RMem = some m.cls := findClass_of_methodNamed B.named
  have hlocks := B.notSynchronized
  have hg : ∀ w ∈ lw_g, w.before _ s = true := fun w h => hts w (List.mem_cons_of_mem _ h)
  have hl := lv_entry ([.int a1, .int a2]) (n := 2) (Nat.le_of_ble_eq_true rfl)
  rw [lg_entry_eq]
  generalize (lg_sl ([.int a1, .int a2]) ++ List.replicate (2 - (lg_sl ([.int a1, .int a2])).length) Slot.unset).toArray = ls at hl ⊢
  have hl : lv_has ls 2 [(0, .int a1), (1, .int a2)] := hl
  refine lv_iload_n hx hb dMem_isMisaligned_0 rfl (lv_at hl 1 rfl) ?_
  refine lv_iconst (v := 1) hx hb dMem_isMisaligned_1 (by decide) ?_
  refine lv_iload_n hx hb dMem_isMisaligned_2 rfl (lv_at hl 0 rfl) ?_
  refine lv_iconst (v := 3) hx hb dMem_isMisaligned_3 (by decide) ?_
  refine lv_iand hx hb dMem_isMisaligned_4 ?_
  refine lv_ishl hx hb dMem_isMisaligned_5 ?_
  refine lv_iconst (v := 1) hx hb dMem_isMisaligned_6 (by decide) ?_
  refine lv_isub hx hb dMem_isMisaligned_7 ?_
  refine lv_iand hx hb dMem_isMisaligned_8 ?_
  refine lv_if_eq (tgt := 16) hx hb dMem_isMisaligned_9 (by decide) (fun c_1 => ?_) (fun c_1 => ?_)
  · refine lv_iconst (v := 0) hx hb dMem_isMisaligned_16 (by decide) ?_
    exact W.zret hx hb hr rfl (fun t ht hW => ⟨⟨_, (), rfl, (by unfold hf_Memory_isMisaligned; rw [if_pos c_1]), ht⟩, mk_F ht⟩) (fun q h => nomatch h) dMem_isMisaligned_17
  · refine lv_iconst (v := 1) hx hb dMem_isMisaligned_12 (by decide) ?_
    refine lv_goto (tgt := 17) hx hb dMem_isMisaligned_13 (by decide) ?_
    exact W.zret hx hb hr rfl (fun t ht hW => ⟨⟨_, (), rfl, (by unfold hf_Memory_isMisaligned; rw [if_neg c_1]), ht⟩, mk_F ht⟩) (fun q h => nomatch h) dMem_isMisaligned_17
set_option maxHeartbeats 4000000 in
set_option maxRecDepth 100000 in
theorem hc_Bits_part (l : Launch) (G : Heap) (a1 : Int32) (a2 : Int32) (a3 : Int32)  : Met l yBits_part (wq yBits_part cBits_part 3 (some .int)) ({ frames := 0, cells := 0, slots := 0, locals := 0 }) (mk_P G [.int a1, .int a2, .int a3]) (mk_Qi G (hf_Bits_part a1 a2 a3)) 0 0 (fun _ => False) := by
  refine Met.ofW (cc := cBits_part) (maxL := 3) (ret := (some .int)) (by decide) rfl ?_
  intro p e s m args below meth c s₁ B hml hv
  obtain ⟨rfl, hG⟩ := hv
  subst hG
  have hx := B.exec
  have hb := B.bytes
  have hr := B.returns
  have hts := atoms_spec (ws := (wq yBits_part cBits_part 3 (some .int))) B.pre
  have hown : s.vm.findClass RBits = some m.cls := findClass_of_methodNamed B.named
  have hlocks := B.notSynchronized
  have hg : ∀ w ∈ lw_g, w.before _ s = true := fun w h => hts w (List.mem_cons_of_mem _ h)
  have hl := lv_entry ([.int a1, .int a2, .int a3]) (n := 3) (Nat.le_of_ble_eq_true rfl)
  rw [lg_entry_eq]
  generalize (lg_sl ([.int a1, .int a2, .int a3]) ++ List.replicate (3 - (lg_sl ([.int a1, .int a2, .int a3])).length) Slot.unset).toArray = ls at hl ⊢
  have hl : lv_has ls 3 [(0, .int a1), (1, .int a2), (2, .int a3)] := hl
  refine lv_iload_n hx hb dBits_part_0 rfl (lv_at hl 0 rfl) ?_
  refine lv_iload_n hx hb dBits_part_1 rfl (lv_at hl 1 rfl) ?_
  refine lv_iushr (v := (ja_ushr a1 a2)) hx hb dBits_part_2 rfl ?_
  refine lv_iconst (v := 1) hx hb dBits_part_3 (by decide) ?_
  refine lv_iload_n hx hb dBits_part_4 rfl (lv_at hl 2 rfl) ?_
  refine lv_ishl hx hb dBits_part_5 ?_
  refine lv_iconst (v := 1) hx hb dBits_part_6 (by decide) ?_
  refine lv_isub hx hb dBits_part_7 ?_
  refine lv_iand hx hb dBits_part_8 ?_
  exact W.iret hx hb hr (fun t ht hW => ⟨⟨_, (), rfl, rfl, ht⟩, mk_F ht⟩) (fun q h => nomatch h) dBits_part_9
set_option maxHeartbeats 4000000 in
set_option maxRecDepth 100000 in
theorem hc_LongForm_d (l : Launch) (G : Heap) (a1 : Int32)  : Met l yLF_d (wq yLF_d cLF_d 1 (some .int)) ({ frames := 1, cells := 0, slots := 0, locals := 22 }) (mk_P G [.int a1]) (mk_Qi G (hf_LongForm_d a1)) 0 0 (fun _ => False) := by
  refine Met.ofW (cc := cLF_d) (maxL := 1) (ret := (some .int)) (by decide) rfl ?_
  intro p e s m args below meth c s₁ B hml hv
  obtain ⟨rfl, hG⟩ := hv
  subst hG
  have hx := B.exec
  have hb := B.bytes
  have hr := B.returns
  have hts := atoms_spec (ws := (wq yLF_d cLF_d 1 (some .int))) B.pre
  have hown : s.vm.findClass RLF = some m.cls := findClass_of_methodNamed B.named
  have hlocks := B.notSynchronized
  have hg : ∀ w ∈ lw_g, w.before _ s = true := fun w h => hts w (List.mem_cons_of_mem _ h)
  have hl := lv_entry ([.int a1]) (n := 1) (Nat.le_of_ble_eq_true rfl)
  rw [lg_entry_eq]
  generalize (lg_sl ([.int a1]) ++ List.replicate (1 - (lg_sl ([.int a1])).length) Slot.unset).toArray = ls at hl ⊢
  have hl : lv_has ls 1 [(0, .int a1)] := hl
  refine lv_iload_n hx hb dLF_d_0 rfl (lv_at hl 0 rfl) ?_
  refine lv_bipush (v := 7) hx hb dLF_d_1 (by decide) ?_
  refine lv_iconst (v := 5) hx hb dLF_d_3 (by decide) ?_
  refine mk_callR (va_runS (As := [.int a1, .int 7, .int 5]) (rest := []) ⟨hx, hb, hml, hown, hts⟩ (hc_Bits_part l s.heap a1 7 5) (va_cwS 3 hts (mk_gS tw_164 tw_165 tw_55 tw_166) rfl rfl rfl hdBits_part.2 ⟨Nat.le_of_ble_eq_true rfl, Nat.le_of_ble_eq_true rfl⟩) mk_preS rfl rfl hl.1 rfl (lv_room (Nat.le_of_ble_eq_true rfl)) dLF_d_4 ⟨Nat.zero_le _, Nat.zero_le _⟩) ?_
  exact W.iret hx hb hr (fun t ht hW => ⟨⟨_, (), rfl, rfl, ht⟩, mk_F ht⟩) (fun q h => nomatch h) dLF_d_7
set_option maxHeartbeats 4000000 in
set_option maxRecDepth 100000 in
theorem hc_LongForm_upperNumber (l : Launch) (G : Heap) (a1 : Int32)  : Met l yLF_upperNumber (wq yLF_upperNumber cLF_upperNumber 1 (some .int)) ({ frames := 0, cells := 0, slots := 0, locals := 0 }) (mk_P G [.int a1]) (mk_Qi G (hf_LongForm_upperNumber a1)) 0 0 (fun _ => False) := by
  refine Met.ofW (cc := cLF_upperNumber) (maxL := 1) (ret := (some .int)) (by decide) rfl ?_
  intro p e s m args below meth c s₁ B hml hv
  obtain ⟨rfl, hG⟩ := hv
  subst hG
  have hx := B.exec
  have hb := B.bytes
  have hr := B.returns
  have hts := atoms_spec (ws := (wq yLF_upperNumber cLF_upperNumber 1 (some .int))) B.pre
  have hown : s.vm.findClass RLF = some m.cls := findClass_of_methodNamed B.named
  have hlocks := B.notSynchronized
  have hg : ∀ w ∈ lw_g, w.before _ s = true := fun w h => hts w (List.mem_cons_of_mem _ h)
  have hl := lv_entry ([.int a1]) (n := 1) (Nat.le_of_ble_eq_true rfl)
  rw [lg_entry_eq]
  generalize (lg_sl ([.int a1]) ++ List.replicate (1 - (lg_sl ([.int a1])).length) Slot.unset).toArray = ls at hl ⊢
  have hl : lv_has ls 1 [(0, .int a1)] := hl
  refine lv_iload_n hx hb dLF_upperNumber_0 rfl (lv_at hl 0 rfl) ?_
  refine lv_sipush (v := (-4096)) hx hb dLF_upperNumber_1 (by decide) ?_
  refine lv_iand hx hb dLF_upperNumber_4 ?_
  exact W.iret hx hb hr (fun t ht hW => ⟨⟨_, (), rfl, rfl, ht⟩, mk_F ht⟩) (fun q h => nomatch h) dLF_upperNumber_5
set_option maxHeartbeats 4000000 in
set_option maxRecDepth 100000 in
theorem hc_Bits_signed (l : Launch) (G : Heap) (a1 : Int32) (a2 : Int32)  : Met l yBits_signed (wq yBits_signed cBits_signed 2 (some .int)) ({ frames := 0, cells := 0, slots := 0, locals := 0 }) (mk_P G [.int a1, .int a2]) (mk_Qi G (hf_Bits_signed a1 a2)) 0 0 (fun _ => False) := by
  refine Met.ofW (cc := cBits_signed) (maxL := 2) (ret := (some .int)) (by decide) rfl ?_
  intro p e s m args below meth c s₁ B hml hv
  obtain ⟨rfl, hG⟩ := hv
  subst hG
  have hx := B.exec
  have hb := B.bytes
  have hr := B.returns
  have hts := atoms_spec (ws := (wq yBits_signed cBits_signed 2 (some .int))) B.pre
  have hown : s.vm.findClass RBits = some m.cls := findClass_of_methodNamed B.named
  have hlocks := B.notSynchronized
  have hg : ∀ w ∈ lw_g, w.before _ s = true := fun w h => hts w (List.mem_cons_of_mem _ h)
  have hl := lv_entry ([.int a1, .int a2]) (n := 2) (Nat.le_of_ble_eq_true rfl)
  rw [lg_entry_eq]
  generalize (lg_sl ([.int a1, .int a2]) ++ List.replicate (2 - (lg_sl ([.int a1, .int a2])).length) Slot.unset).toArray = ls at hl ⊢
  have hl : lv_has ls 2 [(0, .int a1), (1, .int a2)] := hl
  refine lv_iload_n hx hb dBits_signed_0 rfl (lv_at hl 0 rfl) ?_
  refine lv_bipush (v := 32) hx hb dBits_signed_1 (by decide) ?_
  refine lv_iload_n hx hb dBits_signed_3 rfl (lv_at hl 1 rfl) ?_
  refine lv_isub hx hb dBits_signed_4 ?_
  refine lv_ishl hx hb dBits_signed_5 ?_
  refine lv_bipush (v := 32) hx hb dBits_signed_6 (by decide) ?_
  refine lv_iload_n hx hb dBits_signed_8 rfl (lv_at hl 1 rfl) ?_
  refine lv_isub hx hb dBits_signed_9 ?_
  refine lv_ishr hx hb dBits_signed_10 ?_
  exact W.iret hx hb hr (fun t ht hW => ⟨⟨_, (), rfl, rfl, ht⟩, mk_F ht⟩) (fun q h => nomatch h) dBits_signed_11
set_option maxHeartbeats 4000000 in
set_option maxRecDepth 100000 in
theorem hc_LongForm_offsetJ (l : Launch) (G : Heap) (a1 : Int32)  : Met l yLF_offsetJ (wq yLF_offsetJ cLF_offsetJ 2 (some .int)) ({ frames := 1, cells := 0, slots := 0, locals := 22 }) (mk_P G [.int a1]) (mk_Qi G (hf_LongForm_offsetJ a1)) 0 0 (fun _ => False) := by
  refine Met.ofW (cc := cLF_offsetJ) (maxL := 2) (ret := (some .int)) (by decide) rfl ?_
  intro p e s m args below meth c s₁ B hml hv
  obtain ⟨rfl, hG⟩ := hv
  subst hG
  have hx := B.exec
  have hb := B.bytes
  have hr := B.returns
  have hts := atoms_spec (ws := (wq yLF_offsetJ cLF_offsetJ 2 (some .int))) B.pre
  have hown : s.vm.findClass RLF = some m.cls := findClass_of_methodNamed B.named
  have hlocks := B.notSynchronized
  have hg : ∀ w ∈ lw_g, w.before _ s = true := fun w h => hts w (List.mem_cons_of_mem _ h)
  have hl := lv_entry ([.int a1]) (n := 2) (Nat.le_of_ble_eq_true rfl)
  rw [lg_entry_eq]
  generalize (lg_sl ([.int a1]) ++ List.replicate (2 - (lg_sl ([.int a1])).length) Slot.unset).toArray = ls at hl ⊢
  have hl : lv_has ls 2 [(0, .int a1)] := hl
  refine lv_iload_n hx hb dLF_offsetJ_0 rfl (lv_at hl 0 rfl) ?_
  refine lv_bipush (v := 31) hx hb dLF_offsetJ_1 (by decide) ?_
  refine lv_iconst (v := 1) hx hb dLF_offsetJ_3 (by decide) ?_
  refine mk_callR (va_runS (As := [.int a1, .int 31, .int 1]) (rest := []) ⟨hx, hb, hml, hown, hts⟩ (hc_Bits_part l s.heap a1 31 1) (va_cwS 3 hts (mk_gS tw_164 tw_165 tw_55 tw_166) rfl rfl rfl hdBits_part.2 ⟨Nat.le_of_ble_eq_true rfl, Nat.le_of_ble_eq_true rfl⟩) mk_preS rfl rfl hl.1 rfl (lv_room (Nat.le_of_ble_eq_true rfl)) dLF_offsetJ_4 ⟨Nat.zero_le _, Nat.zero_le _⟩) ?_
  refine lv_bipush (v := 20) hx hb dLF_offsetJ_7 (by decide) ?_
  refine lv_ishl hx hb dLF_offsetJ_9 ?_
  refine lv_iload_n hx hb dLF_offsetJ_10 rfl (lv_at hl 0 rfl) ?_
  refine lv_bipush (v := 12) hx hb dLF_offsetJ_11 (by decide) ?_
  refine lv_bipush (v := 8) hx hb dLF_offsetJ_13 (by decide) ?_
  refine mk_callR (va_runS (As := [.int a1, .int 12, .int 8]) (rest := [.int ((hf_Bits_part a1 31 1) <<< (20 &&& 31))]) ⟨hx, hb, hml, hown, hts⟩ (hc_Bits_part l s.heap a1 12 8) (va_cwS 3 hts (mk_gS tw_164 tw_165 tw_55 tw_166) rfl rfl rfl hdBits_part.2 ⟨Nat.le_of_ble_eq_true rfl, Nat.le_of_ble_eq_true rfl⟩) mk_preS rfl rfl hl.1 rfl (lv_room (Nat.le_of_ble_eq_true rfl)) dLF_offsetJ_15 ⟨Nat.zero_le _, Nat.zero_le _⟩) ?_
  refine lv_bipush (v := 12) hx hb dLF_offsetJ_18 (by decide) ?_
  refine lv_ishl hx hb dLF_offsetJ_20 ?_
  refine lv_ior hx hb dLF_offsetJ_21 ?_
  refine lv_iload_n hx hb dLF_offsetJ_22 rfl (lv_at hl 0 rfl) ?_
  refine lv_bipush (v := 20) hx hb dLF_offsetJ_23 (by decide) ?_
  refine lv_iconst (v := 1) hx hb dLF_offsetJ_25 (by decide) ?_
  refine mk_callR (va_runS (As := [.int a1, .int 20, .int 1]) (rest := [.int (((hf_Bits_part a1 31 1) <<< (20 &&& 31)) ||| ((hf_Bits_part a1 12 8) <<< (12 &&& 31)))]) ⟨hx, hb, hml, hown, hts⟩ (hc_Bits_part l s.heap a1 20 1) (va_cwS 3 hts (mk_gS tw_164 tw_165 tw_55 tw_166) rfl rfl rfl hdBits_part.2 ⟨Nat.le_of_ble_eq_true rfl, Nat.le_of_ble_eq_true rfl⟩) mk_preS rfl rfl hl.1 rfl (lv_room (Nat.le_of_ble_eq_true rfl)) dLF_offsetJ_26 ⟨Nat.zero_le _, Nat.zero_le _⟩) ?_
  refine lv_bipush (v := 11) hx hb dLF_offsetJ_29 (by decide) ?_
  refine lv_ishl hx hb dLF_offsetJ_31 ?_
  refine lv_ior hx hb dLF_offsetJ_32 ?_
  refine lv_iload_n hx hb dLF_offsetJ_33 rfl (lv_at hl 0 rfl) ?_
  refine lv_bipush (v := 21) hx hb dLF_offsetJ_34 (by decide) ?_
  refine lv_bipush (v := 10) hx hb dLF_offsetJ_36 (by decide) ?_
  refine mk_callR (va_runS (As := [.int a1, .int 21, .int 10]) (rest := [.int ((((hf_Bits_part a1 31 1) <<< (20 &&& 31)) ||| ((hf_Bits_part a1 12 8) <<< (12 &&& 31))) ||| ((hf_Bits_part a1 20 1) <<< (11 &&& 31)))]) ⟨hx, hb, hml, hown, hts⟩ (hc_Bits_part l s.heap a1 21 10) (va_cwS 3 hts (mk_gS tw_164 tw_165 tw_55 tw_166) rfl rfl rfl hdBits_part.2 ⟨Nat.le_of_ble_eq_true rfl, Nat.le_of_ble_eq_true rfl⟩) mk_preS rfl rfl hl.1 rfl (lv_room (Nat.le_of_ble_eq_true rfl)) dLF_offsetJ_38 ⟨Nat.zero_le _, Nat.zero_le _⟩) ?_
  refine lv_iconst (v := 1) hx hb dLF_offsetJ_41 (by decide) ?_
  refine lv_ishl hx hb dLF_offsetJ_42 ?_
  refine lv_ior hx hb dLF_offsetJ_43 ?_
  refine lv_istore_n (lv' := [(1, .int (((((hf_Bits_part a1 31 1) <<< (20 &&& 31)) ||| ((hf_Bits_part a1 12 8) <<< (12 &&& 31))) ||| ((hf_Bits_part a1 20 1) <<< (11 &&& 31))) ||| ((hf_Bits_part a1 21 10) <<< (1 &&& 31)))), (0, .int a1)]) hx hb dLF_offsetJ_44 rfl hl (by decide) rfl (fun ls hl => ?_)
  refine lv_iload_n hx hb dLF_offsetJ_45 rfl (lv_at hl 0 rfl) ?_
  refine lv_bipush (v := 21) hx hb dLF_offsetJ_46 (by decide) ?_
  refine mk_callR (va_runS (As := [.int (((((hf_Bits_part a1 31 1) <<< (20 &&& 31)) ||| ((hf_Bits_part a1 12 8) <<< (12 &&& 31))) ||| ((hf_Bits_part a1 20 1) <<< (11 &&& 31))) ||| ((hf_Bits_part a1 21 10) <<< (1 &&& 31))), .int 21]) (rest := []) ⟨hx, hb, hml, hown, hts⟩ (hc_Bits_signed l s.heap (((((hf_Bits_part a1 31 1) <<< (20 &&& 31)) ||| ((hf_Bits_part a1 12 8) <<< (12 &&& 31))) ||| ((hf_Bits_part a1 20 1) <<< (11 &&& 31))) ||| ((hf_Bits_part a1 21 10) <<< (1 &&& 31))) 21) (va_cwS 2 hts (mk_gS tw_177 tw_178 tw_55 tw_179) rfl rfl rfl hdBits_signed.2 ⟨Nat.le_of_ble_eq_true rfl, Nat.le_of_ble_eq_true rfl⟩) mk_preS rfl rfl hl.1 rfl (lv_room (Nat.le_of_ble_eq_true rfl)) dLF_offsetJ_48 ⟨Nat.zero_le _, Nat.zero_le _⟩) ?_
  exact W.iret hx hb hr (fun t ht hW => ⟨⟨_, (), rfl, rfl, ht⟩, mk_F ht⟩) (fun q h => nomatch h) dLF_offsetJ_51
set_option maxHeartbeats 4000000 in
set_option maxRecDepth 100000 in
theorem hc_LongForm_f (l : Launch) (G : Heap) (a1 : Int32)  : Met l yLF_f (wq yLF_f cLF_f 1 (some .int)) ({ frames := 1, cells := 0, slots := 0, locals := 22 }) (mk_P G [.int a1]) (mk_Qi G (hf_LongForm_f a1)) 0 0 (fun _ => False) := by
  refine Met.ofW (cc := cLF_f) (maxL := 1) (ret := (some .int)) (by decide) rfl ?_
  intro p e s m args below meth c s₁ B hml hv
  obtain ⟨rfl, hG⟩ := hv
  subst hG
  have hx := B.exec
  have hb := B.bytes
  have hr := B.returns
  have hts := atoms_spec (ws := (wq yLF_f cLF_f 1 (some .int))) B.pre
  have hown : s.vm.findClass RLF = some m.cls := findClass_of_methodNamed B.named
  have hlocks := B.notSynchronized
  have hg : ∀ w ∈ lw_g, w.before _ s = true := fun w h => hts w (List.mem_cons_of_mem _ h)
  have hl := lv_entry ([.int a1]) (n := 1) (Nat.le_of_ble_eq_true rfl)
  rw [lg_entry_eq]
  generalize (lg_sl ([.int a1]) ++ List.replicate (1 - (lg_sl ([.int a1])).length) Slot.unset).toArray = ls at hl ⊢
  have hl : lv_has ls 1 [(0, .int a1)] := hl
  refine lv_iload_n hx hb dLF_f_0 rfl (lv_at hl 0 rfl) ?_
  refine lv_bipush (v := 12) hx hb dLF_f_1 (by decide) ?_
  refine lv_iconst (v := 3) hx hb dLF_f_3 (by decide) ?_
  refine mk_callR (va_runS (As := [.int a1, .int 12, .int 3]) (rest := []) ⟨hx, hb, hml, hown, hts⟩ (hc_Bits_part l s.heap a1 12 3) (va_cwS 3 hts (mk_gS tw_164 tw_165 tw_55 tw_166) rfl rfl rfl hdBits_part.2 ⟨Nat.le_of_ble_eq_true rfl, Nat.le_of_ble_eq_true rfl⟩) mk_preS rfl rfl hl.1 rfl (lv_room (Nat.le_of_ble_eq_true rfl)) dLF_f_4 ⟨Nat.zero_le _, Nat.zero_le _⟩) ?_
  exact W.iret hx hb hr (fun t ht hW => ⟨⟨_, (), rfl, rfl, ht⟩, mk_F ht⟩) (fun q h => nomatch h) dLF_f_7
set_option maxHeartbeats 4000000 in
set_option maxRecDepth 100000 in
theorem hc_LongForm_a (l : Launch) (G : Heap) (a1 : Int32)  : Met l yLF_a (wq yLF_a cLF_a 1 (some .int)) ({ frames := 1, cells := 0, slots := 0, locals := 22 }) (mk_P G [.int a1]) (mk_Qi G (hf_LongForm_a a1)) 0 0 (fun _ => False) := by
  refine Met.ofW (cc := cLF_a) (maxL := 1) (ret := (some .int)) (by decide) rfl ?_
  intro p e s m args below meth c s₁ B hml hv
  obtain ⟨rfl, hG⟩ := hv
  subst hG
  have hx := B.exec
  have hb := B.bytes
  have hr := B.returns
  have hts := atoms_spec (ws := (wq yLF_a cLF_a 1 (some .int))) B.pre
  have hown : s.vm.findClass RLF = some m.cls := findClass_of_methodNamed B.named
  have hlocks := B.notSynchronized
  have hg : ∀ w ∈ lw_g, w.before _ s = true := fun w h => hts w (List.mem_cons_of_mem _ h)
  have hl := lv_entry ([.int a1]) (n := 1) (Nat.le_of_ble_eq_true rfl)
  rw [lg_entry_eq]
  generalize (lg_sl ([.int a1]) ++ List.replicate (1 - (lg_sl ([.int a1])).length) Slot.unset).toArray = ls at hl ⊢
  have hl : lv_has ls 1 [(0, .int a1)] := hl
  refine lv_iload_n hx hb dLF_a_0 rfl (lv_at hl 0 rfl) ?_
  refine lv_bipush (v := 15) hx hb dLF_a_1 (by decide) ?_
  refine lv_iconst (v := 5) hx hb dLF_a_3 (by decide) ?_
  refine mk_callR (va_runS (As := [.int a1, .int 15, .int 5]) (rest := []) ⟨hx, hb, hml, hown, hts⟩ (hc_Bits_part l s.heap a1 15 5) (va_cwS 3 hts (mk_gS tw_164 tw_165 tw_55 tw_166) rfl rfl rfl hdBits_part.2 ⟨Nat.le_of_ble_eq_true rfl, Nat.le_of_ble_eq_true rfl⟩) mk_preS rfl rfl hl.1 rfl (lv_room (Nat.le_of_ble_eq_true rfl)) dLF_a_4 ⟨Nat.zero_le _, Nat.zero_le _⟩) ?_
  exact W.iret hx hb hr (fun t ht hW => ⟨⟨_, (), rfl, rfl, ht⟩, mk_F ht⟩) (fun q h => nomatch h) dLF_a_7
set_option maxHeartbeats 4000000 in
set_option maxRecDepth 100000 in
theorem hc_LongForm_numberI (l : Launch) (G : Heap) (a1 : Int32)  : Met l yLF_numberI (wq yLF_numberI cLF_numberI 1 (some .int)) ({ frames := 0, cells := 0, slots := 0, locals := 0 }) (mk_P G [.int a1]) (mk_Qi G (hf_LongForm_numberI a1)) 0 0 (fun _ => False) := by
  refine Met.ofW (cc := cLF_numberI) (maxL := 1) (ret := (some .int)) (by decide) rfl ?_
  intro p e s m args below meth c s₁ B hml hv
  obtain ⟨rfl, hG⟩ := hv
  subst hG
  have hx := B.exec
  have hb := B.bytes
  have hr := B.returns
  have hts := atoms_spec (ws := (wq yLF_numberI cLF_numberI 1 (some .int))) B.pre
  have hown : s.vm.findClass RLF = some m.cls := findClass_of_methodNamed B.named
  have hlocks := B.notSynchronized
  have hg : ∀ w ∈ lw_g, w.before _ s = true := fun w h => hts w (List.mem_cons_of_mem _ h)
  have hl := lv_entry ([.int a1]) (n := 1) (Nat.le_of_ble_eq_true rfl)
  rw [lg_entry_eq]
  generalize (lg_sl ([.int a1]) ++ List.replicate (1 - (lg_sl ([.int a1])).length) Slot.unset).toArray = ls at hl ⊢
  have hl : lv_has ls 1 [(0, .int a1)] := hl
  refine lv_iload_n hx hb dLF_numberI_0 rfl (lv_at hl 0 rfl) ?_
  refine lv_bipush (v := 20) hx hb dLF_numberI_1 (by decide) ?_
  refine lv_ishr hx hb dLF_numberI_3 ?_
  exact W.iret hx hb hr (fun t ht hW => ⟨⟨_, (), rfl, rfl, ht⟩, mk_F ht⟩) (fun q h => nomatch h) dLF_numberI_4
set_option maxHeartbeats 4000000 in
set_option maxRecDepth 100000 in
theorem hc_LongForm_b (l : Launch) (G : Heap) (a1 : Int32)  : Met l yLF_b (wq yLF_b cLF_b 1 (some .int)) ({ frames := 1, cells := 0, slots := 0, locals := 22 }) (mk_P G [.int a1]) (mk_Qi G (hf_LongForm_b a1)) 0 0 (fun _ => False) := by
  refine Met.ofW (cc := cLF_b) (maxL := 1) (ret := (some .int)) (by decide) rfl ?_
  intro p e s m args below meth c s₁ B hml hv
  obtain ⟨rfl, hG⟩ := hv
  subst hG
  have hx := B.exec
  have hb := B.bytes
  have hr := B.returns
  have hts := atoms_spec (ws := (wq yLF_b cLF_b 1 (some .int))) B.pre
  have hown : s.vm.findClass RLF = some m.cls := findClass_of_methodNamed B.named
  have hlocks := B.notSynchronized
  have hg : ∀ w ∈ lw_g, w.before _ s = true := fun w h => hts w (List.mem_cons_of_mem _ h)
  have hl := lv_entry ([.int a1]) (n := 1) (Nat.le_of_ble_eq_true rfl)
  rw [lg_entry_eq]
  generalize (lg_sl ([.int a1]) ++ List.replicate (1 - (lg_sl ([.int a1])).length) Slot.unset).toArray = ls at hl ⊢
  have hl : lv_has ls 1 [(0, .int a1)] := hl
  refine lv_iload_n hx hb dLF_b_0 rfl (lv_at hl 0 rfl) ?_
  refine lv_bipush (v := 20) hx hb dLF_b_1 (by decide) ?_
  refine lv_iconst (v := 5) hx hb dLF_b_3 (by decide) ?_
  refine mk_callR (va_runS (As := [.int a1, .int 20, .int 5]) (rest := []) ⟨hx, hb, hml, hown, hts⟩ (hc_Bits_part l s.heap a1 20 5) (va_cwS 3 hts (mk_gS tw_164 tw_165 tw_55 tw_166) rfl rfl rfl hdBits_part.2 ⟨Nat.le_of_ble_eq_true rfl, Nat.le_of_ble_eq_true rfl⟩) mk_preS rfl rfl hl.1 rfl (lv_room (Nat.le_of_ble_eq_true rfl)) dLF_b_4 ⟨Nat.zero_le _, Nat.zero_le _⟩) ?_
  exact W.iret hx hb hr (fun t ht hW => ⟨⟨_, (), rfl, rfl, ht⟩, mk_F ht⟩) (fun q h => nomatch h) dLF_b_7
set_option maxHeartbeats 4000000 in
set_option maxRecDepth 100000 in
theorem hc_LongForm_offsetT (l : Launch) (G : Heap) (a1 : Int32)  : Met l yLF_offsetT (wq yLF_offsetT cLF_offsetT 2 (some .int)) ({ frames := 1, cells := 0, slots := 0, locals := 22 }) (mk_P G [.int a1]) (mk_Qi G (hf_LongForm_offsetT a1)) 0 0 (fun _ => False) := by
  refine Met.ofW (cc := cLF_offsetT) (maxL := 2) (ret := (some .int)) (by decide) rfl ?_
  intro p e s m args below meth c s₁ B hml hv
  obtain ⟨rfl, hG⟩ := hv
  subst hG
  have hx := B.exec
  have hb := B.bytes
  have hr := B.returns
  have hts := atoms_spec (ws := (wq yLF_offsetT cLF_offsetT 2 (some .int))) B.pre
  have hown : s.vm.findClass RLF = some m.cls := findClass_of_methodNamed B.named
  have hlocks := B.notSynchronized
  have hg : ∀ w ∈ lw_g, w.before _ s = true := fun w h => hts w (List.mem_cons_of_mem _ h)
  have hl := lv_entry ([.int a1]) (n := 2) (Nat.le_of_ble_eq_true rfl)
  rw [lg_entry_eq]
  generalize (lg_sl ([.int a1]) ++ List.replicate (2 - (lg_sl ([.int a1])).length) Slot.unset).toArray = ls at hl ⊢
  have hl : lv_has ls 2 [(0, .int a1)] := hl
  refine lv_iload_n hx hb dLF_offsetT_0 rfl (lv_at hl 0 rfl) ?_
  refine lv_bipush (v := 31) hx hb dLF_offsetT_1 (by decide) ?_
  refine lv_iconst (v := 1) hx hb dLF_offsetT_3 (by decide) ?_
  refine mk_callR (va_runS (As := [.int a1, .int 31, .int 1]) (rest := []) ⟨hx, hb, hml, hown, hts⟩ (hc_Bits_part l s.heap a1 31 1) (va_cwS 3 hts (mk_gS tw_164 tw_165 tw_55 tw_166) rfl rfl rfl hdBits_part.2 ⟨Nat.le_of_ble_eq_true rfl, Nat.le_of_ble_eq_true rfl⟩) mk_preS rfl rfl hl.1 rfl (lv_room (Nat.le_of_ble_eq_true rfl)) dLF_offsetT_4 ⟨Nat.zero_le _, Nat.zero_le _⟩) ?_
  refine lv_bipush (v := 12) hx hb dLF_offsetT_7 (by decide) ?_
  refine lv_ishl hx hb dLF_offsetT_9 ?_
  refine lv_iload_n hx hb dLF_offsetT_10 rfl (lv_at hl 0 rfl) ?_
  refine lv_bipush (v := 7) hx hb dLF_offsetT_11 (by decide) ?_
  refine lv_iconst (v := 1) hx hb dLF_offsetT_13 (by decide) ?_
  refine mk_callR (va_runS (As := [.int a1, .int 7, .int 1]) (rest := [.int ((hf_Bits_part a1 31 1) <<< (12 &&& 31))]) ⟨hx, hb, hml, hown, hts⟩ (hc_Bits_part l s.heap a1 7 1) (va_cwS 3 hts (mk_gS tw_164 tw_165 tw_55 tw_166) rfl rfl rfl hdBits_part.2 ⟨Nat.le_of_ble_eq_true rfl, Nat.le_of_ble_eq_true rfl⟩) mk_preS rfl rfl hl.1 rfl (lv_room (Nat.le_of_ble_eq_true rfl)) dLF_offsetT_14 ⟨Nat.zero_le _, Nat.zero_le _⟩) ?_
  refine lv_bipush (v := 11) hx hb dLF_offsetT_17 (by decide) ?_
  refine lv_ishl hx hb dLF_offsetT_19 ?_
  refine lv_ior hx hb dLF_offsetT_20 ?_
  refine lv_iload_n hx hb dLF_offsetT_21 rfl (lv_at hl 0 rfl) ?_
  refine lv_bipush (v := 25) hx hb dLF_offsetT_22 (by decide) ?_
  refine lv_bipush (v := 6) hx hb dLF_offsetT_24 (by decide) ?_
  refine mk_callR (va_runS (As := [.int a1, .int 25, .int 6]) (rest := [.int (((hf_Bits_part a1 31 1) <<< (12 &&& 31)) ||| ((hf_Bits_part a1 7 1) <<< (11 &&& 31)))]) ⟨hx, hb, hml, hown, hts⟩ (hc_Bits_part l s.heap a1 25 6) (va_cwS 3 hts (mk_gS tw_164 tw_165 tw_55 tw_166) rfl rfl rfl hdBits_part.2 ⟨Nat.le_of_ble_eq_true rfl, Nat.le_of_ble_eq_true rfl⟩) mk_preS rfl rfl hl.1 rfl (lv_room (Nat.le_of_ble_eq_true rfl)) dLF_offsetT_26 ⟨Nat.zero_le _, Nat.zero_le _⟩) ?_
  refine lv_iconst (v := 5) hx hb dLF_offsetT_29 (by decide) ?_
  refine lv_ishl hx hb dLF_offsetT_30 ?_
  refine lv_ior hx hb dLF_offsetT_31 ?_
  refine lv_iload_n hx hb dLF_offsetT_32 rfl (lv_at hl 0 rfl) ?_
  refine lv_bipush (v := 8) hx hb dLF_offsetT_33 (by decide) ?_
  refine lv_iconst (v := 4) hx hb dLF_offsetT_35 (by decide) ?_
  refine mk_callR (va_runS (As := [.int a1, .int 8, .int 4]) (rest := [.int ((((hf_Bits_part a1 31 1) <<< (12 &&& 31)) ||| ((hf_Bits_part a1 7 1) <<< (11 &&& 31))) ||| ((hf_Bits_part a1 25 6) <<< (5 &&& 31)))]) ⟨hx, hb, hml, hown, hts⟩ (hc_Bits_part l s.heap a1 8 4) (va_cwS 3 hts (mk_gS tw_164 tw_165 tw_55 tw_166) rfl rfl rfl hdBits_part.2 ⟨Nat.le_of_ble_eq_true rfl, Nat.le_of_ble_eq_true rfl⟩) mk_preS rfl rfl hl.1 rfl (lv_room (Nat.le_of_ble_eq_true rfl)) dLF_offsetT_36 ⟨Nat.zero_le _, Nat.zero_le _⟩) ?_
  refine lv_iconst (v := 1) hx hb dLF_offsetT_39 (by decide) ?_
  refine lv_ishl hx hb dLF_offsetT_40 ?_
  refine lv_ior hx hb dLF_offsetT_41 ?_
  refine lv_istore_n (lv' := [(1, .int (((((hf_Bits_part a1 31 1) <<< (12 &&& 31)) ||| ((hf_Bits_part a1 7 1) <<< (11 &&& 31))) ||| ((hf_Bits_part a1 25 6) <<< (5 &&& 31))) ||| ((hf_Bits_part a1 8 4) <<< (1 &&& 31)))), (0, .int a1)]) hx hb dLF_offsetT_42 rfl hl (by decide) rfl (fun ls hl => ?_)
  refine lv_iload_n hx hb dLF_offsetT_43 rfl (lv_at hl 0 rfl) ?_
  refine lv_bipush (v := 13) hx hb dLF_offsetT_44 (by decide) ?_
  refine mk_callR (va_runS (As := [.int (((((hf_Bits_part a1 31 1) <<< (12 &&& 31)) ||| ((hf_Bits_part a1 7 1) <<< (11 &&& 31))) ||| ((hf_Bits_part a1 25 6) <<< (5 &&& 31))) ||| ((hf_Bits_part a1 8 4) <<< (1 &&& 31))), .int 13]) (rest := []) ⟨hx, hb, hml, hown, hts⟩ (hc_Bits_signed l s.heap (((((hf_Bits_part a1 31 1) <<< (12 &&& 31)) ||| ((hf_Bits_part a1 7 1) <<< (11 &&& 31))) ||| ((hf_Bits_part a1 25 6) <<< (5 &&& 31))) ||| ((hf_Bits_part a1 8 4) <<< (1 &&& 31))) 13) (va_cwS 2 hts (mk_gS tw_177 tw_178 tw_55 tw_179) rfl rfl rfl hdBits_signed.2 ⟨Nat.le_of_ble_eq_true rfl, Nat.le_of_ble_eq_true rfl⟩) mk_preS rfl rfl hl.1 rfl (lv_room (Nat.le_of_ble_eq_true rfl)) dLF_offsetT_46 ⟨Nat.zero_le _, Nat.zero_le _⟩) ?_
  exact W.iret hx hb hr (fun t ht hW => ⟨⟨_, (), rfl, rfl, ht⟩, mk_F ht⟩) (fun q h => nomatch h) dLF_offsetT_49
set_option maxHeartbeats 4000000 in
set_option maxRecDepth 100000 in
theorem hc_Arithmetic_isBelow (l : Launch) (G : Heap) (a1 : Int32) (a2 : Int32)  : Met l yAr_isBelow (wq yAr_isBelow cAr_isBelow 2 (some .boolean)) ({ frames := 0, cells := 0, slots := 0, locals := 0 }) (mk_P G [.int a1, .int a2]) (mk_Qi G (hf_Arithmetic_isBelow a1 a2)) 0 0 (fun _ => False) := by
  refine Met.ofW (cc := cAr_isBelow) (maxL := 2) (ret := (some .boolean)) (by decide) rfl ?_
  intro p e s m args below meth c s₁ B hml hv
  obtain ⟨rfl, hG⟩ := hv
  subst hG
  have hx := B.exec
  have hb := B.bytes
  have hr := B.returns
  have hts := atoms_spec (ws := (wq yAr_isBelow cAr_isBelow 2 (some .boolean))) B.pre
  have hown : s.vm.findClass RAr = some m.cls := findClass_of_methodNamed B.named
  have hlocks := B.notSynchronized
  have hg : ∀ w ∈ lw_g, w.before _ s = true := fun w h => hts w (List.mem_cons_of_mem _ h)
  have hl := lv_entry ([.int a1, .int a2]) (n := 2) (Nat.le_of_ble_eq_true rfl)
  rw [lg_entry_eq]
  generalize (lg_sl ([.int a1, .int a2]) ++ List.replicate (2 - (lg_sl ([.int a1, .int a2])).length) Slot.unset).toArray = ls at hl ⊢
  have hl : lv_has ls 2 [(0, .int a1), (1, .int a2)] := hl
  refine lv_iload_n hx hb dAr_isBelow_0 rfl (lv_at hl 0 rfl) ?_
  refine lv_i2l (v := a1.toInt64) hx hb dAr_isBelow_1 rfl ?_
  refine lv_ldc2 (v := 4294967295) hx hb hown (hg _ tw_214) dAr_isBelow_2 ?_
  refine lv_land hx hb dAr_isBelow_5 ?_
  refine lv_iload_n hx hb dAr_isBelow_6 rfl (lv_at hl 1 rfl) ?_
  refine lv_i2l (v := a2.toInt64) hx hb dAr_isBelow_7 rfl ?_
  refine lv_ldc2 (v := 4294967295) hx hb hown (hg _ tw_214) dAr_isBelow_8 ?_
  refine lv_land hx hb dAr_isBelow_11 ?_
  refine W.lcmp hx hb dAr_isBelow_12 ?_
  refine lv_if_ge (tgt := 20) hx hb dAr_isBelow_13 (by decide) (fun c_1 => ?_) (fun c_1 => ?_)
  · refine lv_iconst (v := 0) hx hb dAr_isBelow_20 (by decide) ?_
    exact W.zret hx hb hr rfl (fun t ht hW => ⟨⟨_, (), rfl, (by unfold hf_Arithmetic_isBelow; rw [if_pos c_1]), ht⟩, mk_F ht⟩) (fun q h => nomatch h) dAr_isBelow_21
  · refine lv_iconst (v := 1) hx hb dAr_isBelow_16 (by decide) ?_
    refine lv_goto (tgt := 21) hx hb dAr_isBelow_17 (by decide) ?_
    exact W.zret hx hb hr rfl (fun t ht hW => ⟨⟨_, (), rfl, (by unfold hf_Arithmetic_isBelow; rw [if_neg c_1]), ht⟩, mk_F ht⟩) (fun q h => nomatch h) dAr_isBelow_21
set_option maxHeartbeats 4000000 in
set_option maxRecDepth 100000 in
theorem hc_LongForm_g (l : Launch) (G : Heap) (a1 : Int32)  : Met l yLF_g (wq yLF_g cLF_g 1 (some .int)) ({ frames := 1, cells := 0, slots := 0, locals := 22 }) (mk_P G [.int a1]) (mk_Qi G (hf_LongForm_g a1)) 0 0 (fun _ => False) := by
  refine Met.ofW (cc := cLF_g) (maxL := 1) (ret := (some .int)) (by decide) rfl ?_
  intro p e s m args below meth c s₁ B hml hv
  obtain ⟨rfl, hG⟩ := hv
  subst hG
  have hx := B.exec
  have hb := B.bytes
  have hr := B.returns
  have hts := atoms_spec (ws := (wq yLF_g cLF_g 1 (some .int))) B.pre
  have hown : s.vm.findClass RLF = some m.cls := findClass_of_methodNamed B.named
  have hlocks := B.notSynchronized
  have hg : ∀ w ∈ lw_g, w.before _ s = true := fun w h => hts w (List.mem_cons_of_mem _ h)
  have hl := lv_entry ([.int a1]) (n := 1) (Nat.le_of_ble_eq_true rfl)
  rw [lg_entry_eq]
  generalize (lg_sl ([.int a1]) ++ List.replicate (1 - (lg_sl ([.int a1])).length) Slot.unset).toArray = ls at hl ⊢
  have hl : lv_has ls 1 [(0, .int a1)] := hl
  refine lv_iload_n hx hb dLF_g_0 rfl (lv_at hl 0 rfl) ?_
  refine lv_bipush (v := 25) hx hb dLF_g_1 (by decide) ?_
  refine lv_bipush (v := 7) hx hb dLF_g_3 (by decide) ?_
  refine mk_callR (va_runS (As := [.int a1, .int 25, .int 7]) (rest := []) ⟨hx, hb, hml, hown, hts⟩ (hc_Bits_part l s.heap a1 25 7) (va_cwS 3 hts (mk_gS tw_164 tw_165 tw_55 tw_166) rfl rfl rfl hdBits_part.2 ⟨Nat.le_of_ble_eq_true rfl, Nat.le_of_ble_eq_true rfl⟩) mk_preS rfl rfl hl.1 rfl (lv_room (Nat.le_of_ble_eq_true rfl)) dLF_g_5 ⟨Nat.zero_le _, Nat.zero_le _⟩) ?_
  exact W.iret hx hb hr (fun t ht hW => ⟨⟨_, (), rfl, rfl, ht⟩, mk_F ht⟩) (fun q h => nomatch h) dLF_g_8
set_option maxHeartbeats 4000000 in
set_option maxRecDepth 100000 in
theorem hc_LongForm_numberS (l : Launch) (G : Heap) (a1 : Int32)  : Met l yLF_numberS (wq yLF_numberS cLF_numberS 1 (some .int)) ({ frames := 2, cells := 0, slots := 0, locals := 42 }) (mk_P G [.int a1]) (mk_Qi G (hf_LongForm_numberS a1)) 0 0 (fun _ => False) := by
  refine Met.ofW (cc := cLF_numberS) (maxL := 1) (ret := (some .int)) (by decide) rfl ?_
  intro p e s m args below meth c s₁ B hml hv
  obtain ⟨rfl, hG⟩ := hv
  subst hG
  have hx := B.exec
  have hb := B.bytes
  have hr := B.returns
  have hts := atoms_spec (ws := (wq yLF_numberS cLF_numberS 1 (some .int))) B.pre
  have hown : s.vm.findClass RLF = some m.cls := findClass_of_methodNamed B.named
  have hlocks := B.notSynchronized
  have hg : ∀ w ∈ lw_g, w.before _ s = true := fun w h => hts w (List.mem_cons_of_mem _ h)
  have hl := lv_entry ([.int a1]) (n := 1) (Nat.le_of_ble_eq_true rfl)
  rw [lg_entry_eq]
  generalize (lg_sl ([.int a1]) ++ List.replicate (1 - (lg_sl ([.int a1])).length) Slot.unset).toArray = ls at hl ⊢
  have hl : lv_has ls 1 [(0, .int a1)] := hl
  refine lv_iload_n hx hb dLF_numberS_0 rfl (lv_at hl 0 rfl) ?_
  refine mk_callR (va_runS (As := [.int a1]) (rest := []) ⟨hx, hb, hml, hown, hts⟩ (hc_LongForm_g l s.heap a1) (va_cwS 1 hts (mk_gS tw_232 tw_233 tw_54 tw_234) rfl rfl rfl hdLF_g.2 ⟨Nat.le_of_ble_eq_true rfl, Nat.le_of_ble_eq_true rfl⟩) mk_preS rfl rfl hl.1 rfl (lv_room (Nat.le_of_ble_eq_true rfl)) dLF_numberS_1 ⟨Nat.zero_le _, Nat.zero_le _⟩) ?_
  refine lv_iconst (v := 5) hx hb dLF_numberS_4 (by decide) ?_
  refine lv_ishl hx hb dLF_numberS_5 ?_
  refine lv_iload_n hx hb dLF_numberS_6 rfl (lv_at hl 0 rfl) ?_
  refine mk_callR (va_runS (As := [.int a1]) (rest := [.int ((hf_LongForm_g a1) <<< (5 &&& 31))]) ⟨hx, hb, hml, hown, hts⟩ (hc_LongForm_d l s.heap a1) (va_cwS 1 hts (mk_gS tw_235 tw_162 tw_54 tw_163) rfl rfl rfl hdLF_d.2 ⟨Nat.le_of_ble_eq_true rfl, Nat.le_of_ble_eq_true rfl⟩) mk_preS rfl rfl hl.1 rfl (lv_room (Nat.le_of_ble_eq_true rfl)) dLF_numberS_7 ⟨Nat.zero_le _, Nat.zero_le _⟩) ?_
  refine lv_ior hx hb dLF_numberS_10 ?_
  refine lv_bipush (v := 12) hx hb dLF_numberS_11 (by decide) ?_
  refine mk_callR (va_runS (As := [.int (((hf_LongForm_g a1) <<< (5 &&& 31)) ||| (hf_LongForm_d a1)), .int 12]) (rest := []) ⟨hx, hb, hml, hown, hts⟩ (hc_Bits_signed l s.heap (((hf_LongForm_g a1) <<< (5 &&& 31)) ||| (hf_LongForm_d a1)) 12) (va_cwS 2 hts (mk_gS tw_177 tw_178 tw_55 tw_179) rfl rfl rfl hdBits_signed.2 ⟨Nat.le_of_ble_eq_true rfl, Nat.le_of_ble_eq_true rfl⟩) mk_preS rfl rfl hl.1 rfl (lv_room (Nat.le_of_ble_eq_true rfl)) dLF_numberS_13 ⟨Nat.zero_le _, Nat.zero_le _⟩) ?_
  exact W.iret hx hb hr (fun t ht hW => ⟨⟨_, (), rfl, rfl, ht⟩, mk_F ht⟩) (fun q h => nomatch h) dLF_numberS_16
set_option maxHeartbeats 4000000 in
set_option maxRecDepth 100000 in
theorem hc_Arithmetic_plain (l : Launch) (G : Heap) (a1 : Int32) (a2 : Int32) (a3 : Int32)  : Met l yAr_plain (wq yAr_plain cAr_plain 3 (some .int)) ({ frames := 1, cells := 0, slots := 0, locals := 21 }) (mk_P G [.int a1, .int a2, .int a3]) (mk_Qi G (hf_Arithmetic_plain a1 a2 a3)) 0 0 (fun _ => False) := by
  refine Met.ofW (cc := cAr_plain) (maxL := 3) (ret := (some .int)) (by decide) rfl ?_
  intro p e s m args below meth c s₁ B hml hv
  obtain ⟨rfl, hG⟩ := hv
  subst hG
  have hx := B.exec
  have hb := B.bytes
  have hr := B.returns
  have hts := atoms_spec (ws := (wq yAr_plain cAr_plain 3 (some .int))) B.pre
  have hown : s.vm.findClass RAr = some m.cls := findClass_of_methodNamed B.named
  have hlocks := B.notSynchronized
  have hg : ∀ w ∈ lw_g, w.before _ s = true := fun w h => hts w (List.mem_cons_of_mem _ h)
  have hl := lv_entry ([.int a1, .int a2, .int a3]) (n := 3) (Nat.le_of_ble_eq_true rfl)
  rw [lg_entry_eq]
  generalize (lg_sl ([.int a1, .int a2, .int a3]) ++ List.replicate (3 - (lg_sl ([.int a1, .int a2, .int a3])).length) Slot.unset).toArray = ls at hl ⊢
  have hl : lv_has ls 3 [(0, .int a1), (1, .int a2), (2, .int a3)] := hl
  refine lv_iload_n hx hb dAr_plain_0 rfl (lv_at hl 0 rfl) ?_
  by_cases c_1 : a1 = 0
  · refine lv_tableIn (tgt := 44) hx hb dAr_plain_1 (by rw [c_1]; decide) (by rw [c_1]; decide) (by rw [c_1]; rfl) (by decide) ?_
    refine lv_iload_n hx hb dAr_plain_44 rfl (lv_at hl 1 rfl) ?_
    refine lv_iload_n hx hb dAr_plain_45 rfl (lv_at hl 2 rfl) ?_
    refine lv_iadd hx hb dAr_plain_46 ?_
    exact W.iret hx hb hr (fun t ht hW => ⟨⟨_, (), rfl, (by unfold hf_Arithmetic_plain; rw [if_pos c_1]), ht⟩, mk_F ht⟩) (fun q h => nomatch h) dAr_plain_47
  by_cases c_2 : a1 = 1
  · refine lv_tableIn (tgt := 48) hx hb dAr_plain_1 (by rw [c_2]; decide) (by rw [c_2]; decide) (by rw [c_2]; rfl) (by decide) ?_
    refine lv_iload_n hx hb dAr_plain_48 rfl (lv_at hl 1 rfl) ?_
    refine lv_iload_n hx hb dAr_plain_49 rfl (lv_at hl 2 rfl) ?_
    refine lv_bipush (v := 31) hx hb dAr_plain_50 (by decide) ?_
    refine lv_iand hx hb dAr_plain_52 ?_
    refine lv_ishl hx hb dAr_plain_53 ?_
    exact W.iret hx hb hr (fun t ht hW => ⟨⟨_, (), rfl, (by unfold hf_Arithmetic_plain; rw [if_neg c_1, if_pos c_2]), ht⟩, mk_F ht⟩) (fun q h => nomatch h) dAr_plain_54
  by_cases c_3 : a1 = 2
  · refine lv_tableIn (tgt := 55) hx hb dAr_plain_1 (by rw [c_3]; decide) (by rw [c_3]; decide) (by rw [c_3]; rfl) (by decide) ?_
    refine lv_iload_n hx hb dAr_plain_55 rfl (lv_at hl 1 rfl) ?_
    refine lv_iload_n hx hb dAr_plain_56 rfl (lv_at hl 2 rfl) ?_
    refine lv_icmp_ge (tgt := 64) hx hb dAr_plain_57 (by decide) (fun c_4 => ?_) (fun c_4 => ?_)
    · refine lv_iconst (v := 0) hx hb dAr_plain_64 (by decide) ?_
      exact W.iret hx hb hr (fun t ht hW => ⟨⟨_, (), rfl, (by unfold hf_Arithmetic_plain; rw [if_neg c_1, if_neg c_2, if_pos c_3, if_pos c_4]), ht⟩, mk_F ht⟩) (fun q h => nomatch h) dAr_plain_65
    · refine lv_iconst (v := 1) hx hb dAr_plain_60 (by decide) ?_
      refine lv_goto (tgt := 65) hx hb dAr_plain_61 (by decide) ?_
      exact W.iret hx hb hr (fun t ht hW => ⟨⟨_, (), rfl, (by unfold hf_Arithmetic_plain; rw [if_neg c_1, if_neg c_2, if_pos c_3, if_neg c_4]), ht⟩, mk_F ht⟩) (fun q h => nomatch h) dAr_plain_65
  by_cases c_5 : a1 = 3
  · refine lv_tableIn (tgt := 66) hx hb dAr_plain_1 (by rw [c_5]; decide) (by rw [c_5]; decide) (by rw [c_5]; rfl) (by decide) ?_
    refine lv_iload_n hx hb dAr_plain_66 rfl (lv_at hl 1 rfl) ?_
    refine lv_iload_n hx hb dAr_plain_67 rfl (lv_at hl 2 rfl) ?_
    refine mk_callR (va_runS (As := [.int a2, .int a3]) (rest := []) ⟨hx, hb, hml, hown, hts⟩ (hc_Arithmetic_isBelow l s.heap a2 a3) (va_cwS 2 hts (mk_gS tw_255 tw_212 tw_56 tw_213) rfl rfl rfl hdAr_isBelow.2 ⟨Nat.le_of_ble_eq_true rfl, Nat.le_of_ble_eq_true rfl⟩) mk_preS rfl rfl hl.1 rfl (lv_room (Nat.le_of_ble_eq_true rfl)) dAr_plain_68 ⟨Nat.zero_le _, Nat.zero_le _⟩) ?_
    refine lv_if_eq (tgt := 78) hx hb dAr_plain_71 (by decide) (fun c_6 => ?_) (fun c_6 => ?_)
    · refine lv_iconst (v := 0) hx hb dAr_plain_78 (by decide) ?_
      exact W.iret hx hb hr (fun t ht hW => ⟨⟨_, (), rfl, (by unfold hf_Arithmetic_plain; rw [if_neg c_1, if_neg c_2, if_neg c_3, if_pos c_5, if_pos c_6]), ht⟩, mk_F ht⟩) (fun q h => nomatch h) dAr_plain_79
    · refine lv_iconst (v := 1) hx hb dAr_plain_74 (by decide) ?_
      refine lv_goto (tgt := 79) hx hb dAr_plain_75 (by decide) ?_
      exact W.iret hx hb hr (fun t ht hW => ⟨⟨_, (), rfl, (by unfold hf_Arithmetic_plain; rw [if_neg c_1, if_neg c_2, if_neg c_3, if_pos c_5, if_neg c_6]), ht⟩, mk_F ht⟩) (fun q h => nomatch h) dAr_plain_79
  by_cases c_7 : a1 = 4
  · refine lv_tableIn (tgt := 80) hx hb dAr_plain_1 (by rw [c_7]; decide) (by rw [c_7]; decide) (by rw [c_7]; rfl) (by decide) ?_
    refine lv_iload_n hx hb dAr_plain_80 rfl (lv_at hl 1 rfl) ?_
    refine lv_iload_n hx hb dAr_plain_81 rfl (lv_at hl 2 rfl) ?_
    refine lv_ixor hx hb dAr_plain_82 ?_
    exact W.iret hx hb hr (fun t ht hW => ⟨⟨_, (), rfl, (by unfold hf_Arithmetic_plain; rw [if_neg c_1, if_neg c_2, if_neg c_3, if_neg c_5, if_pos c_7]), ht⟩, mk_F ht⟩) (fun q h => nomatch h) dAr_plain_83
  by_cases c_8 : a1 = 5
  · refine lv_tableIn (tgt := 84) hx hb dAr_plain_1 (by rw [c_8]; decide) (by rw [c_8]; decide) (by rw [c_8]; rfl) (by decide) ?_
    refine lv_iload_n hx hb dAr_plain_84 rfl (lv_at hl 1 rfl) ?_
    refine lv_iload_n hx hb dAr_plain_85 rfl (lv_at hl 2 rfl) ?_
    refine lv_bipush (v := 31) hx hb dAr_plain_86 (by decide) ?_
    refine lv_iand hx hb dAr_plain_88 ?_
    refine lv_iushr (v := (ja_ushr a2 (a3 &&& 31))) hx hb dAr_plain_89 rfl ?_
    exact W.iret hx hb hr (fun t ht hW => ⟨⟨_, (), rfl, (by unfold hf_Arithmetic_plain; rw [if_neg c_1, if_neg c_2, if_neg c_3, if_neg c_5, if_neg c_7, if_pos c_8]), ht⟩, mk_F ht⟩) (fun q h => nomatch h) dAr_plain_90
  by_cases c_9 : a1 = 6
  · refine lv_tableIn (tgt := 91) hx hb dAr_plain_1 (by rw [c_9]; decide) (by rw [c_9]; decide) (by rw [c_9]; rfl) (by decide) ?_
    refine lv_iload_n hx hb dAr_plain_91 rfl (lv_at hl 1 rfl) ?_
    refine lv_iload_n hx hb dAr_plain_92 rfl (lv_at hl 2 rfl) ?_
    refine lv_ior hx hb dAr_plain_93 ?_
    exact W.iret hx hb hr (fun t ht hW => ⟨⟨_, (), rfl, (by unfold hf_Arithmetic_plain; rw [if_neg c_1, if_neg c_2, if_neg c_3, if_neg c_5, if_neg c_7, if_neg c_8, if_pos c_9]), ht⟩, mk_F ht⟩) (fun q h => nomatch h) dAr_plain_94
  refine lv_tableOut (tgt := 95) hx hb dAr_plain_1 (by have q_1 := lv_neT (a := 0) c_1 rfl; have q_2 := lv_neT (a := 1) c_2 rfl; have q_3 := lv_neT (a := 2) c_3 rfl; have q_5 := lv_neT (a := 3) c_5 rfl; have q_7 := lv_neT (a := 4) c_7 rfl; have q_8 := lv_neT (a := 5) c_8 rfl; have q_9 := lv_neT (a := 6) c_9 rfl; omega) (by decide) ?_
  refine lv_iload_n hx hb dAr_plain_95 rfl (lv_at hl 1 rfl) ?_
  refine lv_iload_n hx hb dAr_plain_96 rfl (lv_at hl 2 rfl) ?_
  refine lv_iand hx hb dAr_plain_97 ?_
  exact W.iret hx hb hr (fun t ht hW => ⟨⟨_, (), rfl, (by unfold hf_Arithmetic_plain; rw [if_neg c_1, if_neg c_2, if_neg c_3, if_neg c_5, if_neg c_7, if_neg c_8, if_neg c_9]), ht⟩, mk_F ht⟩) (fun q h => nomatch h) dAr_plain_98
set_option maxHeartbeats 4000000 in
set_option maxRecDepth 100000 in
theorem hc_Arithmetic_quotient (l : Launch) (G : Heap) (a1 : Int64) (a2 : Int64)  : Met l yAr_quotient (wq yAr_quotient cAr_quotient 4 (some .long)) ({ frames := 0, cells := 0, slots := 0, locals := 0 }) (mk_P G [.long a1, .long a2]) (mk_Ql G (hf_Arithmetic_quotient a1 a2)) 0 0 (fun _ => False) := by
  refine Met.ofW (cc := cAr_quotient) (maxL := 4) (ret := (some .long)) (by decide) rfl ?_
  intro p e s m args below meth c s₁ B hml hv
  obtain ⟨rfl, hG⟩ := hv
  subst hG
  have hx := B.exec
  have hb := B.bytes
  have hr := B.returns
  have hts := atoms_spec (ws := (wq yAr_quotient cAr_quotient 4 (some .long))) B.pre
  have hown : s.vm.findClass RAr = some m.cls := findClass_of_methodNamed B.named
  have hlocks := B.notSynchronized
  have hg : ∀ w ∈ lw_g, w.before _ s = true := fun w h => hts w (List.mem_cons_of_mem _ h)
  have hl := lv_entry ([.long a1, .long a2]) (n := 4) (Nat.le_of_ble_eq_true rfl)
  rw [lg_entry_eq]
  generalize (lg_sl ([.long a1, .long a2]) ++ List.replicate (4 - (lg_sl ([.long a1, .long a2])).length) Slot.unset).toArray = ls at hl ⊢
  have hl : lv_has ls 4 [(0, .long a1), (2, .long a2)] := hl
  refine lv_lload_n hx hb dAr_quotient_0 rfl (lv_at hl 1 rfl) ?_
  refine lv_lconst (v := 0) hx hb dAr_quotient_1 (by decide) ?_
  refine W.lcmp hx hb dAr_quotient_2 ?_
  refine lv_if_ne (tgt := 12) hx hb dAr_quotient_3 (by decide) (fun c_1 => ?_) (fun c_1 => ?_)
  · refine lv_lload_n hx hb dAr_quotient_12 rfl (lv_at hl 0 rfl) ?_
    refine lv_lload_n hx hb dAr_quotient_13 rfl (lv_at hl 1 rfl) ?_
    refine lv_ldiv hx hb dAr_quotient_14 (lg_ne0 c_1) ?_
    exact W.lret hx hb hr (fun t ht hW => ⟨⟨_, (), rfl, (by unfold hf_Arithmetic_quotient; rw [if_neg c_1]), ht⟩, mk_F ht⟩) (fun q h => nomatch h) dAr_quotient_15
  · refine lv_ldc2 (v := (-1)) hx hb hown (hg _ tw_266) dAr_quotient_6 ?_
    refine lv_goto (tgt := 15) hx hb dAr_quotient_9 (by decide) ?_
    exact W.lret hx hb hr (fun t ht hW => ⟨⟨_, (), rfl, (by unfold hf_Arithmetic_quotient; rw [if_pos c_1]), ht⟩, mk_F ht⟩) (fun q h => nomatch h) dAr_quotient_15
set_option maxHeartbeats 4000000 in
set_option maxRecDepth 100000 in
theorem hc_Arithmetic_remainder (l : Launch) (G : Heap) (a1 : Int64) (a2 : Int64)  : Met l yAr_remainder (wq yAr_remainder cAr_remainder 4 (some .long)) ({ frames := 0, cells := 0, slots := 0, locals := 0 }) (mk_P G [.long a1, .long a2]) (mk_Ql G (hf_Arithmetic_remainder a1 a2)) 0 0 (fun _ => False) := by
  refine Met.ofW (cc := cAr_remainder) (maxL := 4) (ret := (some .long)) (by decide) rfl ?_
  intro p e s m args below meth c s₁ B hml hv
  obtain ⟨rfl, hG⟩ := hv
  subst hG
  have hx := B.exec
  have hb := B.bytes
  have hr := B.returns
  have hts := atoms_spec (ws := (wq yAr_remainder cAr_remainder 4 (some .long))) B.pre
  have hown : s.vm.findClass RAr = some m.cls := findClass_of_methodNamed B.named
  have hlocks := B.notSynchronized
  have hg : ∀ w ∈ lw_g, w.before _ s = true := fun w h => hts w (List.mem_cons_of_mem _ h)
  have hl := lv_entry ([.long a1, .long a2]) (n := 4) (Nat.le_of_ble_eq_true rfl)
  rw [lg_entry_eq]
  generalize (lg_sl ([.long a1, .long a2]) ++ List.replicate (4 - (lg_sl ([.long a1, .long a2])).length) Slot.unset).toArray = ls at hl ⊢
  have hl : lv_has ls 4 [(0, .long a1), (2, .long a2)] := hl
  refine lv_lload_n hx hb dAr_remainder_0 rfl (lv_at hl 1 rfl) ?_
  refine lv_lconst (v := 0) hx hb dAr_remainder_1 (by decide) ?_
  refine W.lcmp hx hb dAr_remainder_2 ?_
  refine lv_if_ne (tgt := 10) hx hb dAr_remainder_3 (by decide) (fun c_1 => ?_) (fun c_1 => ?_)
  · refine lv_lload_n hx hb dAr_remainder_10 rfl (lv_at hl 0 rfl) ?_
    refine lv_lload_n hx hb dAr_remainder_11 rfl (lv_at hl 1 rfl) ?_
    refine lv_lrem hx hb dAr_remainder_12 (lg_ne0 c_1) ?_
    exact W.lret hx hb hr (fun t ht hW => ⟨⟨_, (), rfl, (by unfold hf_Arithmetic_remainder; rw [if_neg c_1]), ht⟩, mk_F ht⟩) (fun q h => nomatch h) dAr_remainder_13
  · refine lv_lload_n hx hb dAr_remainder_6 rfl (lv_at hl 0 rfl) ?_
    refine lv_goto (tgt := 13) hx hb dAr_remainder_7 (by decide) ?_
    exact W.lret hx hb hr (fun t ht hW => ⟨⟨_, (), rfl, (by unfold hf_Arithmetic_remainder; rw [if_pos c_1]), ht⟩, mk_F ht⟩) (fun q h => nomatch h) dAr_remainder_13
set_option maxHeartbeats 4000000 in
set_option maxRecDepth 100000 in
theorem hc_Arithmetic_multipliedOrDivided (l : Launch) (G : Heap) (a1 : Int32) (a2 : Int32) (a3 : Int32)  : Met l yAr_multipliedOrDivided (wq yAr_multipliedOrDivided cAr_multipliedOrDivided 3 (some .int)) ({ frames := 1, cells := 0, slots := 0, locals := 23 }) (mk_P G [.int a1, .int a2, .int a3]) (mk_Qi G (hf_Arithmetic_multipliedOrDivided a1 a2 a3)) 0 0 (fun _ => False) := by
  refine Met.ofW (cc := cAr_multipliedOrDivided) (maxL := 3) (ret := (some .int)) (by decide) rfl ?_
  intro p e s m args below meth c s₁ B hml hv
  obtain ⟨rfl, hG⟩ := hv
  subst hG
  have hx := B.exec
  have hb := B.bytes
  have hr := B.returns
  have hts := atoms_spec (ws := (wq yAr_multipliedOrDivided cAr_multipliedOrDivided 3 (some .int))) B.pre
  have hown : s.vm.findClass RAr = some m.cls := findClass_of_methodNamed B.named
  have hlocks := B.notSynchronized
  have hg : ∀ w ∈ lw_g, w.before _ s = true := fun w h => hts w (List.mem_cons_of_mem _ h)
  have hl := lv_entry ([.int a1, .int a2, .int a3]) (n := 3) (Nat.le_of_ble_eq_true rfl)
  rw [lg_entry_eq]
  generalize (lg_sl ([.int a1, .int a2, .int a3]) ++ List.replicate (3 - (lg_sl ([.int a1, .int a2, .int a3])).length) Slot.unset).toArray = ls at hl ⊢
  have hl : lv_has ls 3 [(0, .int a1), (1, .int a2), (2, .int a3)] := hl
  refine lv_iload_n hx hb dAr_multipliedOrDivided_0 rfl (lv_at hl 0 rfl) ?_
  by_cases c_1 : a1 = 0
  · refine lv_tableIn (tgt := 44) hx hb dAr_multipliedOrDivided_1 (by rw [c_1]; decide) (by rw [c_1]; decide) (by rw [c_1]; rfl) (by decide) ?_
    refine lv_iload_n hx hb dAr_multipliedOrDivided_44 rfl (lv_at hl 1 rfl) ?_
    refine lv_iload_n hx hb dAr_multipliedOrDivided_45 rfl (lv_at hl 2 rfl) ?_
    refine lv_imul hx hb dAr_multipliedOrDivided_46 ?_
    exact W.iret hx hb hr (fun t ht hW => ⟨⟨_, (), rfl, (by unfold hf_Arithmetic_multipliedOrDivided; rw [if_pos c_1]), ht⟩, mk_F ht⟩) (fun q h => nomatch h) dAr_multipliedOrDivided_47
  by_cases c_2 : a1 = 1
  · refine lv_tableIn (tgt := 48) hx hb dAr_multipliedOrDivided_1 (by rw [c_2]; decide) (by rw [c_2]; decide) (by rw [c_2]; rfl) (by decide) ?_
    refine lv_iload_n hx hb dAr_multipliedOrDivided_48 rfl (lv_at hl 1 rfl) ?_
    refine lv_i2l (v := a2.toInt64) hx hb dAr_multipliedOrDivided_49 rfl ?_
    refine lv_iload_n hx hb dAr_multipliedOrDivided_50 rfl (lv_at hl 2 rfl) ?_
    refine lv_i2l (v := a3.toInt64) hx hb dAr_multipliedOrDivided_51 rfl ?_
    refine lv_lmul hx hb dAr_multipliedOrDivided_52 ?_
    refine lv_bipush (v := 32) hx hb dAr_multipliedOrDivided_53 (by decide) ?_
    refine lv_lushr (v := (ja_lushr (a2.toInt64 * a3.toInt64) 32)) hx hb dAr_multipliedOrDivided_55 rfl ?_
    refine lv_l2i (v := (ja_lushr (a2.toInt64 * a3.toInt64) 32).toInt32) hx hb dAr_multipliedOrDivided_56 rfl ?_
    exact W.iret hx hb hr (fun t ht hW => ⟨⟨_, (), rfl, (by unfold hf_Arithmetic_multipliedOrDivided; rw [if_neg c_1, if_pos c_2]), ht⟩, mk_F ht⟩) (fun q h => nomatch h) dAr_multipliedOrDivided_57
  by_cases c_3 : a1 = 2
  · refine lv_tableIn (tgt := 58) hx hb dAr_multipliedOrDivided_1 (by rw [c_3]; decide) (by rw [c_3]; decide) (by rw [c_3]; rfl) (by decide) ?_
    refine lv_iload_n hx hb dAr_multipliedOrDivided_58 rfl (lv_at hl 1 rfl) ?_
    refine lv_i2l (v := a2.toInt64) hx hb dAr_multipliedOrDivided_59 rfl ?_
    refine lv_iload_n hx hb dAr_multipliedOrDivided_60 rfl (lv_at hl 2 rfl) ?_
    refine lv_i2l (v := a3.toInt64) hx hb dAr_multipliedOrDivided_61 rfl ?_
    refine lv_ldc2 (v := 4294967295) hx hb hown (hg _ tw_214) dAr_multipliedOrDivided_62 ?_
    refine lv_land hx hb dAr_multipliedOrDivided_65 ?_
    refine lv_lmul hx hb dAr_multipliedOrDivided_66 ?_
    refine lv_bipush (v := 32) hx hb dAr_multipliedOrDivided_67 (by decide) ?_
    refine lv_lushr (v := (ja_lushr (a2.toInt64 * (a3.toInt64 &&& 4294967295)) 32)) hx hb dAr_multipliedOrDivided_69 rfl ?_
    refine lv_l2i (v := (ja_lushr (a2.toInt64 * (a3.toInt64 &&& 4294967295)) 32).toInt32) hx hb dAr_multipliedOrDivided_70 rfl ?_
    exact W.iret hx hb hr (fun t ht hW => ⟨⟨_, (), rfl, (by unfold hf_Arithmetic_multipliedOrDivided; rw [if_neg c_1, if_neg c_2, if_pos c_3]), ht⟩, mk_F ht⟩) (fun q h => nomatch h) dAr_multipliedOrDivided_71
  by_cases c_4 : a1 = 3
  · refine lv_tableIn (tgt := 72) hx hb dAr_multipliedOrDivided_1 (by rw [c_4]; decide) (by rw [c_4]; decide) (by rw [c_4]; rfl) (by decide) ?_
    refine lv_iload_n hx hb dAr_multipliedOrDivided_72 rfl (lv_at hl 1 rfl) ?_
    refine lv_i2l (v := a2.toInt64) hx hb dAr_multipliedOrDivided_73 rfl ?_
    refine lv_ldc2 (v := 4294967295) hx hb hown (hg _ tw_214) dAr_multipliedOrDivided_74 ?_
    refine lv_land hx hb dAr_multipliedOrDivided_77 ?_
    refine lv_iload_n hx hb dAr_multipliedOrDivided_78 rfl (lv_at hl 2 rfl) ?_
    refine lv_i2l (v := a3.toInt64) hx hb dAr_multipliedOrDivided_79 rfl ?_
    refine lv_ldc2 (v := 4294967295) hx hb hown (hg _ tw_214) dAr_multipliedOrDivided_80 ?_
    refine lv_land hx hb dAr_multipliedOrDivided_83 ?_
    refine lv_lmul hx hb dAr_multipliedOrDivided_84 ?_
    refine lv_bipush (v := 32) hx hb dAr_multipliedOrDivided_85 (by decide) ?_
    refine lv_lushr (v := (ja_lushr ((a2.toInt64 &&& 4294967295) * (a3.toInt64 &&& 4294967295)) 32)) hx hb dAr_multipliedOrDivided_87 rfl ?_
    refine lv_l2i (v := (ja_lushr ((a2.toInt64 &&& 4294967295) * (a3.toInt64 &&& 4294967295)) 32).toInt32) hx hb dAr_multipliedOrDivided_88 rfl ?_
    exact W.iret hx hb hr (fun t ht hW => ⟨⟨_, (), rfl, (by unfold hf_Arithmetic_multipliedOrDivided; rw [if_neg c_1, if_neg c_2, if_neg c_3, if_pos c_4]), ht⟩, mk_F ht⟩) (fun q h => nomatch h) dAr_multipliedOrDivided_89
  by_cases c_5 : a1 = 4
  · refine lv_tableIn (tgt := 90) hx hb dAr_multipliedOrDivided_1 (by rw [c_5]; decide) (by rw [c_5]; decide) (by rw [c_5]; rfl) (by decide) ?_
    refine lv_iload_n hx hb dAr_multipliedOrDivided_90 rfl (lv_at hl 1 rfl) ?_
    refine lv_i2l (v := a2.toInt64) hx hb dAr_multipliedOrDivided_91 rfl ?_
    refine lv_iload_n hx hb dAr_multipliedOrDivided_92 rfl (lv_at hl 2 rfl) ?_
    refine lv_i2l (v := a3.toInt64) hx hb dAr_multipliedOrDivided_93 rfl ?_
    refine mk_callRl (va_runS (As := [.long a2.toInt64, .long a3.toInt64]) (rest := []) ⟨hx, hb, hml, hown, hts⟩ (hc_Arithmetic_quotient l s.heap a2.toInt64 a3.toInt64) (va_cwS 2 hts (mk_gS tw_263 tw_264 tw_56 tw_265) rfl rfl rfl hdAr_quotient.2 ⟨Nat.le_of_ble_eq_true rfl, Nat.le_of_ble_eq_true rfl⟩) mk_preS rfl rfl hl.1 rfl (lv_room (Nat.le_of_ble_eq_true rfl)) dAr_multipliedOrDivided_94 ⟨Nat.zero_le _, Nat.zero_le _⟩) ?_
    refine lv_l2i (v := (hf_Arithmetic_quotient a2.toInt64 a3.toInt64).toInt32) hx hb dAr_multipliedOrDivided_97 rfl ?_
    exact W.iret hx hb hr (fun t ht hW => ⟨⟨_, (), rfl, (by unfold hf_Arithmetic_multipliedOrDivided; rw [if_neg c_1, if_neg c_2, if_neg c_3, if_neg c_4, if_pos c_5]), ht⟩, mk_F ht⟩) (fun q h => nomatch h) dAr_multipliedOrDivided_98
  by_cases c_6 : a1 = 5
  · refine lv_tableIn (tgt := 99) hx hb dAr_multipliedOrDivided_1 (by rw [c_6]; decide) (by rw [c_6]; decide) (by rw [c_6]; rfl) (by decide) ?_
    refine lv_iload_n hx hb dAr_multipliedOrDivided_99 rfl (lv_at hl 1 rfl) ?_
    refine lv_i2l (v := a2.toInt64) hx hb dAr_multipliedOrDivided_100 rfl ?_
    refine lv_ldc2 (v := 4294967295) hx hb hown (hg _ tw_214) dAr_multipliedOrDivided_101 ?_
    refine lv_land hx hb dAr_multipliedOrDivided_104 ?_
    refine lv_iload_n hx hb dAr_multipliedOrDivided_105 rfl (lv_at hl 2 rfl) ?_
    refine lv_i2l (v := a3.toInt64) hx hb dAr_multipliedOrDivided_106 rfl ?_
    refine lv_ldc2 (v := 4294967295) hx hb hown (hg _ tw_214) dAr_multipliedOrDivided_107 ?_
    refine lv_land hx hb dAr_multipliedOrDivided_110 ?_
    refine mk_callRl (va_runS (As := [.long (a2.toInt64 &&& 4294967295), .long (a3.toInt64 &&& 4294967295)]) (rest := []) ⟨hx, hb, hml, hown, hts⟩ (hc_Arithmetic_quotient l s.heap (a2.toInt64 &&& 4294967295) (a3.toInt64 &&& 4294967295)) (va_cwS 2 hts (mk_gS tw_263 tw_264 tw_56 tw_265) rfl rfl rfl hdAr_quotient.2 ⟨Nat.le_of_ble_eq_true rfl, Nat.le_of_ble_eq_true rfl⟩) mk_preS rfl rfl hl.1 rfl (lv_room (Nat.le_of_ble_eq_true rfl)) dAr_multipliedOrDivided_111 ⟨Nat.zero_le _, Nat.zero_le _⟩) ?_
    refine lv_l2i (v := (hf_Arithmetic_quotient (a2.toInt64 &&& 4294967295) (a3.toInt64 &&& 4294967295)).toInt32) hx hb dAr_multipliedOrDivided_114 rfl ?_
    exact W.iret hx hb hr (fun t ht hW => ⟨⟨_, (), rfl, (by unfold hf_Arithmetic_multipliedOrDivided; rw [if_neg c_1, if_neg c_2, if_neg c_3, if_neg c_4, if_neg c_5, if_pos c_6]), ht⟩, mk_F ht⟩) (fun q h => nomatch h) dAr_multipliedOrDivided_115
  by_cases c_7 : a1 = 6
  · refine lv_tableIn (tgt := 116) hx hb dAr_multipliedOrDivided_1 (by rw [c_7]; decide) (by rw [c_7]; decide) (by rw [c_7]; rfl) (by decide) ?_
    refine lv_iload_n hx hb dAr_multipliedOrDivided_116 rfl (lv_at hl 1 rfl) ?_
    refine lv_i2l (v := a2.toInt64) hx hb dAr_multipliedOrDivided_117 rfl ?_
    refine lv_iload_n hx hb dAr_multipliedOrDivided_118 rfl (lv_at hl 2 rfl) ?_
    refine lv_i2l (v := a3.toInt64) hx hb dAr_multipliedOrDivided_119 rfl ?_
    refine mk_callRl (va_runS (As := [.long a2.toInt64, .long a3.toInt64]) (rest := []) ⟨hx, hb, hml, hown, hts⟩ (hc_Arithmetic_remainder l s.heap a2.toInt64 a3.toInt64) (va_cwS 2 hts (mk_gS tw_267 tw_268 tw_56 tw_269) rfl rfl rfl hdAr_remainder.2 ⟨Nat.le_of_ble_eq_true rfl, Nat.le_of_ble_eq_true rfl⟩) mk_preS rfl rfl hl.1 rfl (lv_room (Nat.le_of_ble_eq_true rfl)) dAr_multipliedOrDivided_120 ⟨Nat.zero_le _, Nat.zero_le _⟩) ?_
    refine lv_l2i (v := (hf_Arithmetic_remainder a2.toInt64 a3.toInt64).toInt32) hx hb dAr_multipliedOrDivided_123 rfl ?_
    exact W.iret hx hb hr (fun t ht hW => ⟨⟨_, (), rfl, (by unfold hf_Arithmetic_multipliedOrDivided; rw [if_neg c_1, if_neg c_2, if_neg c_3, if_neg c_4, if_neg c_5, if_neg c_6, if_pos c_7]), ht⟩, mk_F ht⟩) (fun q h => nomatch h) dAr_multipliedOrDivided_124
  refine lv_tableOut (tgt := 125) hx hb dAr_multipliedOrDivided_1 (by have q_1 := lv_neT (a := 0) c_1 rfl; have q_2 := lv_neT (a := 1) c_2 rfl; have q_3 := lv_neT (a := 2) c_3 rfl; have q_4 := lv_neT (a := 3) c_4 rfl; have q_5 := lv_neT (a := 4) c_5 rfl; have q_6 := lv_neT (a := 5) c_6 rfl; have q_7 := lv_neT (a := 6) c_7 rfl; omega) (by decide) ?_
  refine lv_iload_n hx hb dAr_multipliedOrDivided_125 rfl (lv_at hl 1 rfl) ?_
  refine lv_i2l (v := a2.toInt64) hx hb dAr_multipliedOrDivided_126 rfl ?_
  refine lv_ldc2 (v := 4294967295) hx hb hown (hg _ tw_214) dAr_multipliedOrDivided_127 ?_
  refine lv_land hx hb dAr_multipliedOrDivided_130 ?_
  refine lv_iload_n hx hb dAr_multipliedOrDivided_131 rfl (lv_at hl 2 rfl) ?_
  refine lv_i2l (v := a3.toInt64) hx hb dAr_multipliedOrDivided_132 rfl ?_
  refine lv_ldc2 (v := 4294967295) hx hb hown (hg _ tw_214) dAr_multipliedOrDivided_133 ?_
  refine lv_land hx hb dAr_multipliedOrDivided_136 ?_
  refine mk_callRl (va_runS (As := [.long (a2.toInt64 &&& 4294967295), .long (a3.toInt64 &&& 4294967295)]) (rest := []) ⟨hx, hb, hml, hown, hts⟩ (hc_Arithmetic_remainder l s.heap (a2.toInt64 &&& 4294967295) (a3.toInt64 &&& 4294967295)) (va_cwS 2 hts (mk_gS tw_267 tw_268 tw_56 tw_269) rfl rfl rfl hdAr_remainder.2 ⟨Nat.le_of_ble_eq_true rfl, Nat.le_of_ble_eq_true rfl⟩) mk_preS rfl rfl hl.1 rfl (lv_room (Nat.le_of_ble_eq_true rfl)) dAr_multipliedOrDivided_137 ⟨Nat.zero_le _, Nat.zero_le _⟩) ?_
  refine lv_l2i (v := (hf_Arithmetic_remainder (a2.toInt64 &&& 4294967295) (a3.toInt64 &&& 4294967295)).toInt32) hx hb dAr_multipliedOrDivided_140 rfl ?_
  exact W.iret hx hb hr (fun t ht hW => ⟨⟨_, (), rfl, (by unfold hf_Arithmetic_multipliedOrDivided; rw [if_neg c_1, if_neg c_2, if_neg c_3, if_neg c_4, if_neg c_5, if_neg c_6, if_neg c_7]), ht⟩, mk_F ht⟩) (fun q h => nomatch h) dAr_multipliedOrDivided_141
set_option maxHeartbeats 4000000 in
set_option maxRecDepth 100000 in
theorem hc_LongForm_k (l : Launch) (G : Heap) (a1 : Int32)  : Met l yLF_k (wq yLF_k cLF_k 1 (some .int)) ({ frames := 1, cells := 0, slots := 0, locals := 22 }) (mk_P G [.int a1]) (mk_Qi G (hf_LongForm_k a1)) 0 0 (fun _ => False) := by
  refine Met.ofW (cc := cLF_k) (maxL := 1) (ret := (some .int)) (by decide) rfl ?_
  intro p e s m args below meth c s₁ B hml hv
  obtain ⟨rfl, hG⟩ := hv
  subst hG
  have hx := B.exec
  have hb := B.bytes
  have hr := B.returns
  have hts := atoms_spec (ws := (wq yLF_k cLF_k 1 (some .int))) B.pre
  have hown : s.vm.findClass RLF = some m.cls := findClass_of_methodNamed B.named
  have hlocks := B.notSynchronized
  have hg : ∀ w ∈ lw_g, w.before _ s = true := fun w h => hts w (List.mem_cons_of_mem _ h)
  have hl := lv_entry ([.int a1]) (n := 1) (Nat.le_of_ble_eq_true rfl)
  rw [lg_entry_eq]
  generalize (lg_sl ([.int a1]) ++ List.replicate (1 - (lg_sl ([.int a1])).length) Slot.unset).toArray = ls at hl ⊢
  have hl : lv_has ls 1 [(0, .int a1)] := hl
  refine lv_iload_n hx hb dLF_k_0 rfl (lv_at hl 0 rfl) ?_
  refine lv_bipush (v := 27) hx hb dLF_k_1 (by decide) ?_
  refine lv_iconst (v := 5) hx hb dLF_k_3 (by decide) ?_
  refine mk_callR (va_runS (As := [.int a1, .int 27, .int 5]) (rest := []) ⟨hx, hb, hml, hown, hts⟩ (hc_Bits_part l s.heap a1 27 5) (va_cwS 3 hts (mk_gS tw_164 tw_165 tw_55 tw_166) rfl rfl rfl hdBits_part.2 ⟨Nat.le_of_ble_eq_true rfl, Nat.le_of_ble_eq_true rfl⟩) mk_preS rfl rfl hl.1 rfl (lv_room (Nat.le_of_ble_eq_true rfl)) dLF_k_4 ⟨Nat.zero_le _, Nat.zero_le _⟩) ?_
  exact W.iret hx hb hr (fun t ht hW => ⟨⟨_, (), rfl, rfl, ht⟩, mk_F ht⟩) (fun q h => nomatch h) dLF_k_7
set_option maxHeartbeats 4000000 in
set_option maxRecDepth 100000 in
theorem hc_LongForm_isAtomic (l : Launch) (G : Heap) (a1 : Int32)  : Met l yLF_isAtomic (wq yLF_isAtomic cLF_isAtomic 1 (some .boolean)) ({ frames := 2, cells := 0, slots := 0, locals := 42 }) (mk_P G [.int a1]) (mk_Qi G (hf_LongForm_isAtomic a1)) 0 0 (fun _ => False) := by
  refine Met.ofW (cc := cLF_isAtomic) (maxL := 1) (ret := (some .boolean)) (by decide) rfl ?_
  intro p e s m args below meth c s₁ B hml hv
  obtain ⟨rfl, hG⟩ := hv
  subst hG
  have hx := B.exec
  have hb := B.bytes
  have hr := B.returns
  have hts := atoms_spec (ws := (wq yLF_isAtomic cLF_isAtomic 1 (some .boolean))) B.pre
  have hown : s.vm.findClass RLF = some m.cls := findClass_of_methodNamed B.named
  have hlocks := B.notSynchronized
  have hg : ∀ w ∈ lw_g, w.before _ s = true := fun w h => hts w (List.mem_cons_of_mem _ h)
  have hl := lv_entry ([.int a1]) (n := 1) (Nat.le_of_ble_eq_true rfl)
  rw [lg_entry_eq]
  generalize (lg_sl ([.int a1]) ++ List.replicate (1 - (lg_sl ([.int a1])).length) Slot.unset).toArray = ls at hl ⊢
  have hl : lv_has ls 1 [(0, .int a1)] := hl
  refine lv_iload_n hx hb dLF_isAtomic_0 rfl (lv_at hl 0 rfl) ?_
  refine mk_callR (va_runS (As := [.int a1]) (rest := []) ⟨hx, hb, hml, hown, hts⟩ (hc_LongForm_f l s.heap a1) (va_cwS 1 hts (mk_gS tw_277 tw_189 tw_54 tw_190) rfl rfl rfl hdLF_f.2 ⟨Nat.le_of_ble_eq_true rfl, Nat.le_of_ble_eq_true rfl⟩) mk_preS rfl rfl hl.1 rfl (lv_room (Nat.le_of_ble_eq_true rfl)) dLF_isAtomic_1 ⟨Nat.zero_le _, Nat.zero_le _⟩) ?_
  refine lv_iconst (v := 2) hx hb dLF_isAtomic_4 (by decide) ?_
  refine lv_icmp_eq (tgt := 10) hx hb dLF_isAtomic_5 (by decide) (fun c_1 => ?_) (fun c_1 => ?_)
  · refine lv_iload_n hx hb dLF_isAtomic_10 rfl (lv_at hl 0 rfl) ?_
    refine mk_callR (va_runS (As := [.int a1]) (rest := []) ⟨hx, hb, hml, hown, hts⟩ (hc_LongForm_k l s.heap a1) (va_cwS 1 hts (mk_gS tw_278 tw_279 tw_54 tw_280) rfl rfl rfl hdLF_k.2 ⟨Nat.le_of_ble_eq_true rfl, Nat.le_of_ble_eq_true rfl⟩) mk_preS rfl rfl hl.1 rfl (lv_room (Nat.le_of_ble_eq_true rfl)) dLF_isAtomic_11 ⟨Nat.zero_le _, Nat.zero_le _⟩) ?_
    by_cases c_2 : (hf_LongForm_k a1) = 0
    · refine lv_tableIn (tgt := 157) hx hb dLF_isAtomic_14 (by rw [c_2]; decide) (by rw [c_2]; decide) (by rw [c_2]; rfl) (by decide) ?_
      refine lv_iconst (v := 1) hx hb dLF_isAtomic_157 (by decide) ?_
      exact W.zret hx hb hr rfl (fun t ht hW => ⟨⟨_, (), rfl, (by unfold hf_LongForm_isAtomic; rw [if_pos c_1, if_pos c_2]), ht⟩, mk_F ht⟩) (fun q h => nomatch h) dLF_isAtomic_158
    by_cases c_3 : (hf_LongForm_k a1) = 1
    · refine lv_tableIn (tgt := 157) hx hb dLF_isAtomic_14 (by rw [c_3]; decide) (by rw [c_3]; decide) (by rw [c_3]; rfl) (by decide) ?_
      refine lv_iconst (v := 1) hx hb dLF_isAtomic_157 (by decide) ?_
      exact W.zret hx hb hr rfl (fun t ht hW => ⟨⟨_, (), rfl, (by unfold hf_LongForm_isAtomic; rw [if_pos c_1, if_neg c_2, if_pos c_3]), ht⟩, mk_F ht⟩) (fun q h => nomatch h) dLF_isAtomic_158
    by_cases c_4 : (hf_LongForm_k a1) = 2
    · refine lv_tableIn (tgt := 144) hx hb dLF_isAtomic_14 (by rw [c_4]; decide) (by rw [c_4]; decide) (by rw [c_4]; rfl) (by decide) ?_
      refine lv_iload_n hx hb dLF_isAtomic_144 rfl (lv_at hl 0 rfl) ?_
      refine mk_callR (va_runS (As := [.int a1]) (rest := []) ⟨hx, hb, hml, hown, hts⟩ (hc_LongForm_b l s.heap a1) (va_cwS 1 hts (mk_gS tw_281 tw_202 tw_54 tw_203) rfl rfl rfl hdLF_b.2 ⟨Nat.le_of_ble_eq_true rfl, Nat.le_of_ble_eq_true rfl⟩) mk_preS rfl rfl hl.1 rfl (lv_room (Nat.le_of_ble_eq_true rfl)) dLF_isAtomic_145 ⟨Nat.zero_le _, Nat.zero_le _⟩) ?_
      refine lv_if_ne (tgt := 155) hx hb dLF_isAtomic_148 (by decide) (fun c_5 => ?_) (fun c_5 => ?_)
      · refine lv_iconst (v := 0) hx hb dLF_isAtomic_155 (by decide) ?_
        exact W.zret hx hb hr rfl (fun t ht hW => ⟨⟨_, (), rfl, (by unfold hf_LongForm_isAtomic; rw [if_pos c_1, if_neg c_2, if_neg c_3, if_pos c_4, if_neg c_5]), ht⟩, mk_F ht⟩) (fun q h => nomatch h) dLF_isAtomic_156
      · refine lv_iconst (v := 1) hx hb dLF_isAtomic_151 (by decide) ?_
        refine lv_goto (tgt := 156) hx hb dLF_isAtomic_152 (by decide) ?_
        exact W.zret hx hb hr rfl (fun t ht hW => ⟨⟨_, (), rfl, (by unfold hf_LongForm_isAtomic; rw [if_pos c_1, if_neg c_2, if_neg c_3, if_pos c_4, if_pos c_5]), ht⟩, mk_F ht⟩) (fun q h => nomatch h) dLF_isAtomic_156
    by_cases c_6 : (hf_LongForm_k a1) = 3
    · refine lv_tableIn (tgt := 157) hx hb dLF_isAtomic_14 (by rw [c_6]; decide) (by rw [c_6]; decide) (by rw [c_6]; rfl) (by decide) ?_
      refine lv_iconst (v := 1) hx hb dLF_isAtomic_157 (by decide) ?_
      exact W.zret hx hb hr rfl (fun t ht hW => ⟨⟨_, (), rfl, (by unfold hf_LongForm_isAtomic; rw [if_pos c_1, if_neg c_2, if_neg c_3, if_neg c_4, if_pos c_6]), ht⟩, mk_F ht⟩) (fun q h => nomatch h) dLF_isAtomic_158
    by_cases c_7 : (hf_LongForm_k a1) = 4
    · refine lv_tableIn (tgt := 157) hx hb dLF_isAtomic_14 (by rw [c_7]; decide) (by rw [c_7]; decide) (by rw [c_7]; rfl) (by decide) ?_
      refine lv_iconst (v := 1) hx hb dLF_isAtomic_157 (by decide) ?_
      exact W.zret hx hb hr rfl (fun t ht hW => ⟨⟨_, (), rfl, (by unfold hf_LongForm_isAtomic; rw [if_pos c_1, if_neg c_2, if_neg c_3, if_neg c_4, if_neg c_6, if_pos c_7]), ht⟩, mk_F ht⟩) (fun q h => nomatch h) dLF_isAtomic_158
    by_cases c_8 : (hf_LongForm_k a1) = 5
    · refine lv_tableIn (tgt := 159) hx hb dLF_isAtomic_14 (by rw [c_8]; decide) (by rw [c_8]; decide) (by rw [c_8]; rfl) (by decide) ?_
      refine lv_iconst (v := 0) hx hb dLF_isAtomic_159 (by decide) ?_
      exact W.zret hx hb hr rfl (fun t ht hW => ⟨⟨_, (), rfl, (by unfold hf_LongForm_isAtomic; rw [if_pos c_1, if_neg c_2, if_neg c_3, if_neg c_4, if_neg c_6, if_neg c_7, if_pos c_8]), ht⟩, mk_F ht⟩) (fun q h => nomatch h) dLF_isAtomic_160
    by_cases c_9 : (hf_LongForm_k a1) = 6
    · refine lv_tableIn (tgt := 159) hx hb dLF_isAtomic_14 (by rw [c_9]; decide) (by rw [c_9]; decide) (by rw [c_9]; rfl) (by decide) ?_
      refine lv_iconst (v := 0) hx hb dLF_isAtomic_159 (by decide) ?_
      exact W.zret hx hb hr rfl (fun t ht hW => ⟨⟨_, (), rfl, (by unfold hf_LongForm_isAtomic; rw [if_pos c_1, if_neg c_2, if_neg c_3, if_neg c_4, if_neg c_6, if_neg c_7, if_neg c_8, if_pos c_9]), ht⟩, mk_F ht⟩) (fun q h => nomatch h) dLF_isAtomic_160
    by_cases c_10 : (hf_LongForm_k a1) = 7
    · refine lv_tableIn (tgt := 159) hx hb dLF_isAtomic_14 (by rw [c_10]; decide) (by rw [c_10]; decide) (by rw [c_10]; rfl) (by decide) ?_
      refine lv_iconst (v := 0) hx hb dLF_isAtomic_159 (by decide) ?_
      exact W.zret hx hb hr rfl (fun t ht hW => ⟨⟨_, (), rfl, (by unfold hf_LongForm_isAtomic; rw [if_pos c_1, if_neg c_2, if_neg c_3, if_neg c_4, if_neg c_6, if_neg c_7, if_neg c_8, if_neg c_9, if_pos c_10]), ht⟩, mk_F ht⟩) (fun q h => nomatch h) dLF_isAtomic_160
    by_cases c_11 : (hf_LongForm_k a1) = 8
    · refine lv_tableIn (tgt := 157) hx hb dLF_isAtomic_14 (by rw [c_11]; decide) (by rw [c_11]; decide) (by rw [c_11]; rfl) (by decide) ?_
      refine lv_iconst (v := 1) hx hb dLF_isAtomic_157 (by decide) ?_
      exact W.zret hx hb hr rfl (fun t ht hW => ⟨⟨_, (), rfl, (by unfold hf_LongForm_isAtomic; rw [if_pos c_1, if_neg c_2, if_neg c_3, if_neg c_4, if_neg c_6, if_neg c_7, if_neg c_8, if_neg c_9, if_neg c_10, if_pos c_11]), ht⟩, mk_F ht⟩) (fun q h => nomatch h) dLF_isAtomic_158
    by_cases c_12 : (hf_LongForm_k a1) = 9
    · refine lv_tableIn (tgt := 159) hx hb dLF_isAtomic_14 (by rw [c_12]; decide) (by rw [c_12]; decide) (by rw [c_12]; rfl) (by decide) ?_
      refine lv_iconst (v := 0) hx hb dLF_isAtomic_159 (by decide) ?_
      exact W.zret hx hb hr rfl (fun t ht hW => ⟨⟨_, (), rfl, (by unfold hf_LongForm_isAtomic; rw [if_pos c_1, if_neg c_2, if_neg c_3, if_neg c_4, if_neg c_6, if_neg c_7, if_neg c_8, if_neg c_9, if_neg c_10, if_neg c_11, if_pos c_12]), ht⟩, mk_F ht⟩) (fun q h => nomatch h) dLF_isAtomic_160
    by_cases c_13 : (hf_LongForm_k a1) = 10
    · refine lv_tableIn (tgt := 159) hx hb dLF_isAtomic_14 (by rw [c_13]; decide) (by rw [c_13]; decide) (by rw [c_13]; rfl) (by decide) ?_
      refine lv_iconst (v := 0) hx hb dLF_isAtomic_159 (by decide) ?_
      exact W.zret hx hb hr rfl (fun t ht hW => ⟨⟨_, (), rfl, (by unfold hf_LongForm_isAtomic; rw [if_pos c_1, if_neg c_2, if_neg c_3, if_neg c_4, if_neg c_6, if_neg c_7, if_neg c_8, if_neg c_9, if_neg c_10, if_neg c_11, if_neg c_12, if_pos c_13]), ht⟩, mk_F ht⟩) (fun q h => nomatch h) dLF_isAtomic_160
    by_cases c_14 : (hf_LongForm_k a1) = 11
    · refine lv_tableIn (tgt := 159) hx hb dLF_isAtomic_14 (by rw [c_14]; decide) (by rw [c_14]; decide) (by rw [c_14]; rfl) (by decide) ?_
      refine lv_iconst (v := 0) hx hb dLF_isAtomic_159 (by decide) ?_
      exact W.zret hx hb hr rfl (fun t ht hW => ⟨⟨_, (), rfl, (by unfold hf_LongForm_isAtomic; rw [if_pos c_1, if_neg c_2, if_neg c_3, if_neg c_4, if_neg c_6, if_neg c_7, if_neg c_8, if_neg c_9, if_neg c_10, if_neg c_11, if_neg c_12, if_neg c_13, if_pos c_14]), ht⟩, mk_F ht⟩) (fun q h => nomatch h) dLF_isAtomic_160
    by_cases c_15 : (hf_LongForm_k a1) = 12
    · refine lv_tableIn (tgt := 157) hx hb dLF_isAtomic_14 (by rw [c_15]; decide) (by rw [c_15]; decide) (by rw [c_15]; rfl) (by decide) ?_
      refine lv_iconst (v := 1) hx hb dLF_isAtomic_157 (by decide) ?_
      exact W.zret hx hb hr rfl (fun t ht hW => ⟨⟨_, (), rfl, (by unfold hf_LongForm_isAtomic; rw [if_pos c_1, if_neg c_2, if_neg c_3, if_neg c_4, if_neg c_6, if_neg c_7, if_neg c_8, if_neg c_9, if_neg c_10, if_neg c_11, if_neg c_12, if_neg c_13, if_neg c_14, if_pos c_15]), ht⟩, mk_F ht⟩) (fun q h => nomatch h) dLF_isAtomic_158
    by_cases c_16 : (hf_LongForm_k a1) = 13
    · refine lv_tableIn (tgt := 159) hx hb dLF_isAtomic_14 (by rw [c_16]; decide) (by rw [c_16]; decide) (by rw [c_16]; rfl) (by decide) ?_
      refine lv_iconst (v := 0) hx hb dLF_isAtomic_159 (by decide) ?_
      exact W.zret hx hb hr rfl (fun t ht hW => ⟨⟨_, (), rfl, (by unfold hf_LongForm_isAtomic; rw [if_pos c_1, if_neg c_2, if_neg c_3, if_neg c_4, if_neg c_6, if_neg c_7, if_neg c_8, if_neg c_9, if_neg c_10, if_neg c_11, if_neg c_12, if_neg c_13, if_neg c_14, if_neg c_15, if_pos c_16]), ht⟩, mk_F ht⟩) (fun q h => nomatch h) dLF_isAtomic_160
    by_cases c_17 : (hf_LongForm_k a1) = 14
    · refine lv_tableIn (tgt := 159) hx hb dLF_isAtomic_14 (by rw [c_17]; decide) (by rw [c_17]; decide) (by rw [c_17]; rfl) (by decide) ?_
      refine lv_iconst (v := 0) hx hb dLF_isAtomic_159 (by decide) ?_
      exact W.zret hx hb hr rfl (fun t ht hW => ⟨⟨_, (), rfl, (by unfold hf_LongForm_isAtomic; rw [if_pos c_1, if_neg c_2, if_neg c_3, if_neg c_4, if_neg c_6, if_neg c_7, if_neg c_8, if_neg c_9, if_neg c_10, if_neg c_11, if_neg c_12, if_neg c_13, if_neg c_14, if_neg c_15, if_neg c_16, if_pos c_17]), ht⟩, mk_F ht⟩) (fun q h => nomatch h) dLF_isAtomic_160
    by_cases c_18 : (hf_LongForm_k a1) = 15
    · refine lv_tableIn (tgt := 159) hx hb dLF_isAtomic_14 (by rw [c_18]; decide) (by rw [c_18]; decide) (by rw [c_18]; rfl) (by decide) ?_
      refine lv_iconst (v := 0) hx hb dLF_isAtomic_159 (by decide) ?_
      exact W.zret hx hb hr rfl (fun t ht hW => ⟨⟨_, (), rfl, (by unfold hf_LongForm_isAtomic; rw [if_pos c_1, if_neg c_2, if_neg c_3, if_neg c_4, if_neg c_6, if_neg c_7, if_neg c_8, if_neg c_9, if_neg c_10, if_neg c_11, if_neg c_12, if_neg c_13, if_neg c_14, if_neg c_15, if_neg c_16, if_neg c_17, if_pos c_18]), ht⟩, mk_F ht⟩) (fun q h => nomatch h) dLF_isAtomic_160
    by_cases c_19 : (hf_LongForm_k a1) = 16
    · refine lv_tableIn (tgt := 157) hx hb dLF_isAtomic_14 (by rw [c_19]; decide) (by rw [c_19]; decide) (by rw [c_19]; rfl) (by decide) ?_
      refine lv_iconst (v := 1) hx hb dLF_isAtomic_157 (by decide) ?_
      exact W.zret hx hb hr rfl (fun t ht hW => ⟨⟨_, (), rfl, (by unfold hf_LongForm_isAtomic; rw [if_pos c_1, if_neg c_2, if_neg c_3, if_neg c_4, if_neg c_6, if_neg c_7, if_neg c_8, if_neg c_9, if_neg c_10, if_neg c_11, if_neg c_12, if_neg c_13, if_neg c_14, if_neg c_15, if_neg c_16, if_neg c_17, if_neg c_18, if_pos c_19]), ht⟩, mk_F ht⟩) (fun q h => nomatch h) dLF_isAtomic_158
    by_cases c_20 : (hf_LongForm_k a1) = 17
    · refine lv_tableIn (tgt := 159) hx hb dLF_isAtomic_14 (by rw [c_20]; decide) (by rw [c_20]; decide) (by rw [c_20]; rfl) (by decide) ?_
      refine lv_iconst (v := 0) hx hb dLF_isAtomic_159 (by decide) ?_
      exact W.zret hx hb hr rfl (fun t ht hW => ⟨⟨_, (), rfl, (by unfold hf_LongForm_isAtomic; rw [if_pos c_1, if_neg c_2, if_neg c_3, if_neg c_4, if_neg c_6, if_neg c_7, if_neg c_8, if_neg c_9, if_neg c_10, if_neg c_11, if_neg c_12, if_neg c_13, if_neg c_14, if_neg c_15, if_neg c_16, if_neg c_17, if_neg c_18, if_neg c_19, if_pos c_20]), ht⟩, mk_F ht⟩) (fun q h => nomatch h) dLF_isAtomic_160
    by_cases c_21 : (hf_LongForm_k a1) = 18
    · refine lv_tableIn (tgt := 159) hx hb dLF_isAtomic_14 (by rw [c_21]; decide) (by rw [c_21]; decide) (by rw [c_21]; rfl) (by decide) ?_
      refine lv_iconst (v := 0) hx hb dLF_isAtomic_159 (by decide) ?_
      exact W.zret hx hb hr rfl (fun t ht hW => ⟨⟨_, (), rfl, (by unfold hf_LongForm_isAtomic; rw [if_pos c_1, if_neg c_2, if_neg c_3, if_neg c_4, if_neg c_6, if_neg c_7, if_neg c_8, if_neg c_9, if_neg c_10, if_neg c_11, if_neg c_12, if_neg c_13, if_neg c_14, if_neg c_15, if_neg c_16, if_neg c_17, if_neg c_18, if_neg c_19, if_neg c_20, if_pos c_21]), ht⟩, mk_F ht⟩) (fun q h => nomatch h) dLF_isAtomic_160
    by_cases c_22 : (hf_LongForm_k a1) = 19
    · refine lv_tableIn (tgt := 159) hx hb dLF_isAtomic_14 (by rw [c_22]; decide) (by rw [c_22]; decide) (by rw [c_22]; rfl) (by decide) ?_
      refine lv_iconst (v := 0) hx hb dLF_isAtomic_159 (by decide) ?_
      exact W.zret hx hb hr rfl (fun t ht hW => ⟨⟨_, (), rfl, (by unfold hf_LongForm_isAtomic; rw [if_pos c_1, if_neg c_2, if_neg c_3, if_neg c_4, if_neg c_6, if_neg c_7, if_neg c_8, if_neg c_9, if_neg c_10, if_neg c_11, if_neg c_12, if_neg c_13, if_neg c_14, if_neg c_15, if_neg c_16, if_neg c_17, if_neg c_18, if_neg c_19, if_neg c_20, if_neg c_21, if_pos c_22]), ht⟩, mk_F ht⟩) (fun q h => nomatch h) dLF_isAtomic_160
    by_cases c_23 : (hf_LongForm_k a1) = 20
    · refine lv_tableIn (tgt := 157) hx hb dLF_isAtomic_14 (by rw [c_23]; decide) (by rw [c_23]; decide) (by rw [c_23]; rfl) (by decide) ?_
      refine lv_iconst (v := 1) hx hb dLF_isAtomic_157 (by decide) ?_
      exact W.zret hx hb hr rfl (fun t ht hW => ⟨⟨_, (), rfl, (by unfold hf_LongForm_isAtomic; rw [if_pos c_1, if_neg c_2, if_neg c_3, if_neg c_4, if_neg c_6, if_neg c_7, if_neg c_8, if_neg c_9, if_neg c_10, if_neg c_11, if_neg c_12, if_neg c_13, if_neg c_14, if_neg c_15, if_neg c_16, if_neg c_17, if_neg c_18, if_neg c_19, if_neg c_20, if_neg c_21, if_neg c_22, if_pos c_23]), ht⟩, mk_F ht⟩) (fun q h => nomatch h) dLF_isAtomic_158
    by_cases c_24 : (hf_LongForm_k a1) = 21
    · refine lv_tableIn (tgt := 159) hx hb dLF_isAtomic_14 (by rw [c_24]; decide) (by rw [c_24]; decide) (by rw [c_24]; rfl) (by decide) ?_
      refine lv_iconst (v := 0) hx hb dLF_isAtomic_159 (by decide) ?_
      exact W.zret hx hb hr rfl (fun t ht hW => ⟨⟨_, (), rfl, (by unfold hf_LongForm_isAtomic; rw [if_pos c_1, if_neg c_2, if_neg c_3, if_neg c_4, if_neg c_6, if_neg c_7, if_neg c_8, if_neg c_9, if_neg c_10, if_neg c_11, if_neg c_12, if_neg c_13, if_neg c_14, if_neg c_15, if_neg c_16, if_neg c_17, if_neg c_18, if_neg c_19, if_neg c_20, if_neg c_21, if_neg c_22, if_neg c_23, if_pos c_24]), ht⟩, mk_F ht⟩) (fun q h => nomatch h) dLF_isAtomic_160
    by_cases c_25 : (hf_LongForm_k a1) = 22
    · refine lv_tableIn (tgt := 159) hx hb dLF_isAtomic_14 (by rw [c_25]; decide) (by rw [c_25]; decide) (by rw [c_25]; rfl) (by decide) ?_
      refine lv_iconst (v := 0) hx hb dLF_isAtomic_159 (by decide) ?_
      exact W.zret hx hb hr rfl (fun t ht hW => ⟨⟨_, (), rfl, (by unfold hf_LongForm_isAtomic; rw [if_pos c_1, if_neg c_2, if_neg c_3, if_neg c_4, if_neg c_6, if_neg c_7, if_neg c_8, if_neg c_9, if_neg c_10, if_neg c_11, if_neg c_12, if_neg c_13, if_neg c_14, if_neg c_15, if_neg c_16, if_neg c_17, if_neg c_18, if_neg c_19, if_neg c_20, if_neg c_21, if_neg c_22, if_neg c_23, if_neg c_24, if_pos c_25]), ht⟩, mk_F ht⟩) (fun q h => nomatch h) dLF_isAtomic_160
    by_cases c_26 : (hf_LongForm_k a1) = 23
    · refine lv_tableIn (tgt := 159) hx hb dLF_isAtomic_14 (by rw [c_26]; decide) (by rw [c_26]; decide) (by rw [c_26]; rfl) (by decide) ?_
      refine lv_iconst (v := 0) hx hb dLF_isAtomic_159 (by decide) ?_
      exact W.zret hx hb hr rfl (fun t ht hW => ⟨⟨_, (), rfl, (by unfold hf_LongForm_isAtomic; rw [if_pos c_1, if_neg c_2, if_neg c_3, if_neg c_4, if_neg c_6, if_neg c_7, if_neg c_8, if_neg c_9, if_neg c_10, if_neg c_11, if_neg c_12, if_neg c_13, if_neg c_14, if_neg c_15, if_neg c_16, if_neg c_17, if_neg c_18, if_neg c_19, if_neg c_20, if_neg c_21, if_neg c_22, if_neg c_23, if_neg c_24, if_neg c_25, if_pos c_26]), ht⟩, mk_F ht⟩) (fun q h => nomatch h) dLF_isAtomic_160
    by_cases c_27 : (hf_LongForm_k a1) = 24
    · refine lv_tableIn (tgt := 157) hx hb dLF_isAtomic_14 (by rw [c_27]; decide) (by rw [c_27]; decide) (by rw [c_27]; rfl) (by decide) ?_
      refine lv_iconst (v := 1) hx hb dLF_isAtomic_157 (by decide) ?_
      exact W.zret hx hb hr rfl (fun t ht hW => ⟨⟨_, (), rfl, (by unfold hf_LongForm_isAtomic; rw [if_pos c_1, if_neg c_2, if_neg c_3, if_neg c_4, if_neg c_6, if_neg c_7, if_neg c_8, if_neg c_9, if_neg c_10, if_neg c_11, if_neg c_12, if_neg c_13, if_neg c_14, if_neg c_15, if_neg c_16, if_neg c_17, if_neg c_18, if_neg c_19, if_neg c_20, if_neg c_21, if_neg c_22, if_neg c_23, if_neg c_24, if_neg c_25, if_neg c_26, if_pos c_27]), ht⟩, mk_F ht⟩) (fun q h => nomatch h) dLF_isAtomic_158
    by_cases c_28 : (hf_LongForm_k a1) = 25
    · refine lv_tableIn (tgt := 159) hx hb dLF_isAtomic_14 (by rw [c_28]; decide) (by rw [c_28]; decide) (by rw [c_28]; rfl) (by decide) ?_
      refine lv_iconst (v := 0) hx hb dLF_isAtomic_159 (by decide) ?_
      exact W.zret hx hb hr rfl (fun t ht hW => ⟨⟨_, (), rfl, (by unfold hf_LongForm_isAtomic; rw [if_pos c_1, if_neg c_2, if_neg c_3, if_neg c_4, if_neg c_6, if_neg c_7, if_neg c_8, if_neg c_9, if_neg c_10, if_neg c_11, if_neg c_12, if_neg c_13, if_neg c_14, if_neg c_15, if_neg c_16, if_neg c_17, if_neg c_18, if_neg c_19, if_neg c_20, if_neg c_21, if_neg c_22, if_neg c_23, if_neg c_24, if_neg c_25, if_neg c_26, if_neg c_27, if_pos c_28]), ht⟩, mk_F ht⟩) (fun q h => nomatch h) dLF_isAtomic_160
    by_cases c_29 : (hf_LongForm_k a1) = 26
    · refine lv_tableIn (tgt := 159) hx hb dLF_isAtomic_14 (by rw [c_29]; decide) (by rw [c_29]; decide) (by rw [c_29]; rfl) (by decide) ?_
      refine lv_iconst (v := 0) hx hb dLF_isAtomic_159 (by decide) ?_
      exact W.zret hx hb hr rfl (fun t ht hW => ⟨⟨_, (), rfl, (by unfold hf_LongForm_isAtomic; rw [if_pos c_1, if_neg c_2, if_neg c_3, if_neg c_4, if_neg c_6, if_neg c_7, if_neg c_8, if_neg c_9, if_neg c_10, if_neg c_11, if_neg c_12, if_neg c_13, if_neg c_14, if_neg c_15, if_neg c_16, if_neg c_17, if_neg c_18, if_neg c_19, if_neg c_20, if_neg c_21, if_neg c_22, if_neg c_23, if_neg c_24, if_neg c_25, if_neg c_26, if_neg c_27, if_neg c_28, if_pos c_29]), ht⟩, mk_F ht⟩) (fun q h => nomatch h) dLF_isAtomic_160
    by_cases c_30 : (hf_LongForm_k a1) = 27
    · refine lv_tableIn (tgt := 159) hx hb dLF_isAtomic_14 (by rw [c_30]; decide) (by rw [c_30]; decide) (by rw [c_30]; rfl) (by decide) ?_
      refine lv_iconst (v := 0) hx hb dLF_isAtomic_159 (by decide) ?_
      exact W.zret hx hb hr rfl (fun t ht hW => ⟨⟨_, (), rfl, (by unfold hf_LongForm_isAtomic; rw [if_pos c_1, if_neg c_2, if_neg c_3, if_neg c_4, if_neg c_6, if_neg c_7, if_neg c_8, if_neg c_9, if_neg c_10, if_neg c_11, if_neg c_12, if_neg c_13, if_neg c_14, if_neg c_15, if_neg c_16, if_neg c_17, if_neg c_18, if_neg c_19, if_neg c_20, if_neg c_21, if_neg c_22, if_neg c_23, if_neg c_24, if_neg c_25, if_neg c_26, if_neg c_27, if_neg c_28, if_neg c_29, if_pos c_30]), ht⟩, mk_F ht⟩) (fun q h => nomatch h) dLF_isAtomic_160
    by_cases c_31 : (hf_LongForm_k a1) = 28
    · refine lv_tableIn (tgt := 157) hx hb dLF_isAtomic_14 (by rw [c_31]; decide) (by rw [c_31]; decide) (by rw [c_31]; rfl) (by decide) ?_
      refine lv_iconst (v := 1) hx hb dLF_isAtomic_157 (by decide) ?_
      exact W.zret hx hb hr rfl (fun t ht hW => ⟨⟨_, (), rfl, (by unfold hf_LongForm_isAtomic; rw [if_pos c_1, if_neg c_2, if_neg c_3, if_neg c_4, if_neg c_6, if_neg c_7, if_neg c_8, if_neg c_9, if_neg c_10, if_neg c_11, if_neg c_12, if_neg c_13, if_neg c_14, if_neg c_15, if_neg c_16, if_neg c_17, if_neg c_18, if_neg c_19, if_neg c_20, if_neg c_21, if_neg c_22, if_neg c_23, if_neg c_24, if_neg c_25, if_neg c_26, if_neg c_27, if_neg c_28, if_neg c_29, if_neg c_30, if_pos c_31]), ht⟩, mk_F ht⟩) (fun q h => nomatch h) dLF_isAtomic_158
    refine lv_tableOut (tgt := 159) hx hb dLF_isAtomic_14 (by have q_2 := lv_neT (a := 0) c_2 rfl; have q_3 := lv_neT (a := 1) c_3 rfl; have q_4 := lv_neT (a := 2) c_4 rfl; have q_6 := lv_neT (a := 3) c_6 rfl; have q_7 := lv_neT (a := 4) c_7 rfl; have q_8 := lv_neT (a := 5) c_8 rfl; have q_9 := lv_neT (a := 6) c_9 rfl; have q_10 := lv_neT (a := 7) c_10 rfl; have q_11 := lv_neT (a := 8) c_11 rfl; have q_12 := lv_neT (a := 9) c_12 rfl; have q_13 := lv_neT (a := 10) c_13 rfl; have q_14 := lv_neT (a := 11) c_14 rfl; have q_15 := lv_neT (a := 12) c_15 rfl; have q_16 := lv_neT (a := 13) c_16 rfl; have q_17 := lv_neT (a := 14) c_17 rfl; have q_18 := lv_neT (a := 15) c_18 rfl; have q_19 := lv_neT (a := 16) c_19 rfl; have q_20 := lv_neT (a := 17) c_20 rfl; have q_21 := lv_neT (a := 18) c_21 rfl; have q_22 := lv_neT (a := 19) c_22 rfl; have q_23 := lv_neT (a := 20) c_23 rfl; have q_24 := lv_neT (a := 21) c_24 rfl; have q_25 := lv_neT (a := 22) c_25 rfl; have q_26 := lv_neT (a := 23) c_26 rfl; have q_27 := lv_neT (a := 24) c_27 rfl; have q_28 := lv_neT (a := 25) c_28 rfl; have q_29 := lv_neT (a := 26) c_29 rfl; have q_30 := lv_neT (a := 27) c_30 rfl; have q_31 := lv_neT (a := 28) c_31 rfl; omega) (by decide) ?_
    refine lv_iconst (v := 0) hx hb dLF_isAtomic_159 (by decide) ?_
    exact W.zret hx hb hr rfl (fun t ht hW => ⟨⟨_, (), rfl, (by unfold hf_LongForm_isAtomic; rw [if_pos c_1, if_neg c_2, if_neg c_3, if_neg c_4, if_neg c_6, if_neg c_7, if_neg c_8, if_neg c_9, if_neg c_10, if_neg c_11, if_neg c_12, if_neg c_13, if_neg c_14, if_neg c_15, if_neg c_16, if_neg c_17, if_neg c_18, if_neg c_19, if_neg c_20, if_neg c_21, if_neg c_22, if_neg c_23, if_neg c_24, if_neg c_25, if_neg c_26, if_neg c_27, if_neg c_28, if_neg c_29, if_neg c_30, if_neg c_31]), ht⟩, mk_F ht⟩) (fun q h => nomatch h) dLF_isAtomic_160
  · refine lv_iconst (v := 0) hx hb dLF_isAtomic_8 (by decide) ?_
    exact W.zret hx hb hr rfl (fun t ht hW => ⟨⟨_, (), rfl, (by unfold hf_LongForm_isAtomic; rw [if_neg c_1]), ht⟩, mk_F ht⟩) (fun q h => nomatch h) dLF_isAtomic_9
set_option maxHeartbeats 4000000 in
set_option maxRecDepth 100000 in
theorem hc_Arithmetic_changed (l : Launch) (G : Heap) (a1 : Int32) (a2 : Int32) (a3 : Int32)  : Met l yAr_changed (wq yAr_changed cAr_changed 3 (some .int)) ({ frames := 1, cells := 0, slots := 0, locals := 21 }) (mk_P G [.int a1, .int a2, .int a3]) (mk_Qi G (hf_Arithmetic_changed a1 a2 a3)) 0 0 (fun _ => False) := by
  refine Met.ofW (cc := cAr_changed) (maxL := 3) (ret := (some .int)) (by decide) rfl ?_
  intro p e s m args below meth c s₁ B hml hv
  obtain ⟨rfl, hG⟩ := hv
  subst hG
  have hx := B.exec
  have hb := B.bytes
  have hr := B.returns
  have hts := atoms_spec (ws := (wq yAr_changed cAr_changed 3 (some .int))) B.pre
  have hown : s.vm.findClass RAr = some m.cls := findClass_of_methodNamed B.named
  have hlocks := B.notSynchronized
  have hg : ∀ w ∈ lw_g, w.before _ s = true := fun w h => hts w (List.mem_cons_of_mem _ h)
  have hl := lv_entry ([.int a1, .int a2, .int a3]) (n := 3) (Nat.le_of_ble_eq_true rfl)
  rw [lg_entry_eq]
  generalize (lg_sl ([.int a1, .int a2, .int a3]) ++ List.replicate (3 - (lg_sl ([.int a1, .int a2, .int a3])).length) Slot.unset).toArray = ls at hl ⊢
  have hl : lv_has ls 3 [(0, .int a1), (1, .int a2), (2, .int a3)] := hl
  refine lv_iload_n hx hb dAr_changed_0 rfl (lv_at hl 0 rfl) ?_
  by_cases c_1 : a1 = 0
  · refine lv_tableIn (tgt := 116) hx hb dAr_changed_1 (by rw [c_1]; decide) (by rw [c_1]; decide) (by rw [c_1]; rfl) (by decide) ?_
    refine lv_iload_n hx hb dAr_changed_116 rfl (lv_at hl 1 rfl) ?_
    refine lv_iload_n hx hb dAr_changed_117 rfl (lv_at hl 2 rfl) ?_
    refine lv_iadd hx hb dAr_changed_118 ?_
    exact W.iret hx hb hr (fun t ht hW => ⟨⟨_, (), rfl, (by unfold hf_Arithmetic_changed; rw [if_pos c_1]), ht⟩, mk_F ht⟩) (fun q h => nomatch h) dAr_changed_119
  by_cases c_2 : a1 = 1
  · refine lv_tableIn (tgt := 120) hx hb dAr_changed_1 (by rw [c_2]; decide) (by rw [c_2]; decide) (by rw [c_2]; rfl) (by decide) ?_
    refine lv_iload_n hx hb dAr_changed_120 rfl (lv_at hl 2 rfl) ?_
    exact W.iret hx hb hr (fun t ht hW => ⟨⟨_, (), rfl, (by unfold hf_Arithmetic_changed; rw [if_neg c_1, if_pos c_2]), ht⟩, mk_F ht⟩) (fun q h => nomatch h) dAr_changed_121
  by_cases c_3 : a1 = 2
  · refine lv_tableIn (tgt := 170) hx hb dAr_changed_1 (by rw [c_3]; decide) (by rw [c_3]; decide) (by rw [c_3]; rfl) (by decide) ?_
    refine lv_iload_n hx hb dAr_changed_170 rfl (lv_at hl 1 rfl) ?_
    refine lv_iload_n hx hb dAr_changed_171 rfl (lv_at hl 2 rfl) ?_
    refine mk_callR (va_runS (As := [.int a2, .int a3]) (rest := []) ⟨hx, hb, hml, hown, hts⟩ (hc_Arithmetic_isBelow l s.heap a2 a3) (va_cwS 2 hts (mk_gS tw_255 tw_212 tw_56 tw_213) rfl rfl rfl hdAr_isBelow.2 ⟨Nat.le_of_ble_eq_true rfl, Nat.le_of_ble_eq_true rfl⟩) mk_preS rfl rfl hl.1 rfl (lv_room (Nat.le_of_ble_eq_true rfl)) dAr_changed_172 ⟨Nat.zero_le _, Nat.zero_le _⟩) ?_
    refine lv_if_eq (tgt := 182) hx hb dAr_changed_175 (by decide) (fun c_4 => ?_) (fun c_4 => ?_)
    · refine lv_iload_n hx hb dAr_changed_182 rfl (lv_at hl 1 rfl) ?_
      exact W.iret hx hb hr (fun t ht hW => ⟨⟨_, (), rfl, (by unfold hf_Arithmetic_changed; rw [if_neg c_1, if_neg c_2, if_pos c_3, if_pos c_4]), ht⟩, mk_F ht⟩) (fun q h => nomatch h) dAr_changed_183
    · refine lv_iload_n hx hb dAr_changed_178 rfl (lv_at hl 2 rfl) ?_
      refine lv_goto (tgt := 183) hx hb dAr_changed_179 (by decide) ?_
      exact W.iret hx hb hr (fun t ht hW => ⟨⟨_, (), rfl, (by unfold hf_Arithmetic_changed; rw [if_neg c_1, if_neg c_2, if_pos c_3, if_neg c_4]), ht⟩, mk_F ht⟩) (fun q h => nomatch h) dAr_changed_183
  by_cases c_5 : a1 = 3
  · refine lv_tableIn (tgt := 170) hx hb dAr_changed_1 (by rw [c_5]; decide) (by rw [c_5]; decide) (by rw [c_5]; rfl) (by decide) ?_
    refine lv_iload_n hx hb dAr_changed_170 rfl (lv_at hl 1 rfl) ?_
    refine lv_iload_n hx hb dAr_changed_171 rfl (lv_at hl 2 rfl) ?_
    refine mk_callR (va_runS (As := [.int a2, .int a3]) (rest := []) ⟨hx, hb, hml, hown, hts⟩ (hc_Arithmetic_isBelow l s.heap a2 a3) (va_cwS 2 hts (mk_gS tw_255 tw_212 tw_56 tw_213) rfl rfl rfl hdAr_isBelow.2 ⟨Nat.le_of_ble_eq_true rfl, Nat.le_of_ble_eq_true rfl⟩) mk_preS rfl rfl hl.1 rfl (lv_room (Nat.le_of_ble_eq_true rfl)) dAr_changed_172 ⟨Nat.zero_le _, Nat.zero_le _⟩) ?_
    refine lv_if_eq (tgt := 182) hx hb dAr_changed_175 (by decide) (fun c_6 => ?_) (fun c_6 => ?_)
    · refine lv_iload_n hx hb dAr_changed_182 rfl (lv_at hl 1 rfl) ?_
      exact W.iret hx hb hr (fun t ht hW => ⟨⟨_, (), rfl, (by unfold hf_Arithmetic_changed; rw [if_neg c_1, if_neg c_2, if_neg c_3, if_pos c_5, if_pos c_6]), ht⟩, mk_F ht⟩) (fun q h => nomatch h) dAr_changed_183
    · refine lv_iload_n hx hb dAr_changed_178 rfl (lv_at hl 2 rfl) ?_
      refine lv_goto (tgt := 183) hx hb dAr_changed_179 (by decide) ?_
      exact W.iret hx hb hr (fun t ht hW => ⟨⟨_, (), rfl, (by unfold hf_Arithmetic_changed; rw [if_neg c_1, if_neg c_2, if_neg c_3, if_pos c_5, if_neg c_6]), ht⟩, mk_F ht⟩) (fun q h => nomatch h) dAr_changed_183
  by_cases c_7 : a1 = 4
  · refine lv_tableIn (tgt := 122) hx hb dAr_changed_1 (by rw [c_7]; decide) (by rw [c_7]; decide) (by rw [c_7]; rfl) (by decide) ?_
    refine lv_iload_n hx hb dAr_changed_122 rfl (lv_at hl 1 rfl) ?_
    refine lv_iload_n hx hb dAr_changed_123 rfl (lv_at hl 2 rfl) ?_
    refine lv_ixor hx hb dAr_changed_124 ?_
    exact W.iret hx hb hr (fun t ht hW => ⟨⟨_, (), rfl, (by unfold hf_Arithmetic_changed; rw [if_neg c_1, if_neg c_2, if_neg c_3, if_neg c_5, if_pos c_7]), ht⟩, mk_F ht⟩) (fun q h => nomatch h) dAr_changed_125
  by_cases c_8 : a1 = 5
  · refine lv_tableIn (tgt := 170) hx hb dAr_changed_1 (by rw [c_8]; decide) (by rw [c_8]; decide) (by rw [c_8]; rfl) (by decide) ?_
    refine lv_iload_n hx hb dAr_changed_170 rfl (lv_at hl 1 rfl) ?_
    refine lv_iload_n hx hb dAr_changed_171 rfl (lv_at hl 2 rfl) ?_
    refine mk_callR (va_runS (As := [.int a2, .int a3]) (rest := []) ⟨hx, hb, hml, hown, hts⟩ (hc_Arithmetic_isBelow l s.heap a2 a3) (va_cwS 2 hts (mk_gS tw_255 tw_212 tw_56 tw_213) rfl rfl rfl hdAr_isBelow.2 ⟨Nat.le_of_ble_eq_true rfl, Nat.le_of_ble_eq_true rfl⟩) mk_preS rfl rfl hl.1 rfl (lv_room (Nat.le_of_ble_eq_true rfl)) dAr_changed_172 ⟨Nat.zero_le _, Nat.zero_le _⟩) ?_
    refine lv_if_eq (tgt := 182) hx hb dAr_changed_175 (by decide) (fun c_9 => ?_) (fun c_9 => ?_)
    · refine lv_iload_n hx hb dAr_changed_182 rfl (lv_at hl 1 rfl) ?_
      exact W.iret hx hb hr (fun t ht hW => ⟨⟨_, (), rfl, (by unfold hf_Arithmetic_changed; rw [if_neg c_1, if_neg c_2, if_neg c_3, if_neg c_5, if_neg c_7, if_pos c_8, if_pos c_9]), ht⟩, mk_F ht⟩) (fun q h => nomatch h) dAr_changed_183
    · refine lv_iload_n hx hb dAr_changed_178 rfl (lv_at hl 2 rfl) ?_
      refine lv_goto (tgt := 183) hx hb dAr_changed_179 (by decide) ?_
      exact W.iret hx hb hr (fun t ht hW => ⟨⟨_, (), rfl, (by unfold hf_Arithmetic_changed; rw [if_neg c_1, if_neg c_2, if_neg c_3, if_neg c_5, if_neg c_7, if_pos c_8, if_neg c_9]), ht⟩, mk_F ht⟩) (fun q h => nomatch h) dAr_changed_183
  by_cases c_10 : a1 = 6
  · refine lv_tableIn (tgt := 170) hx hb dAr_changed_1 (by rw [c_10]; decide) (by rw [c_10]; decide) (by rw [c_10]; rfl) (by decide) ?_
    refine lv_iload_n hx hb dAr_changed_170 rfl (lv_at hl 1 rfl) ?_
    refine lv_iload_n hx hb dAr_changed_171 rfl (lv_at hl 2 rfl) ?_
    refine mk_callR (va_runS (As := [.int a2, .int a3]) (rest := []) ⟨hx, hb, hml, hown, hts⟩ (hc_Arithmetic_isBelow l s.heap a2 a3) (va_cwS 2 hts (mk_gS tw_255 tw_212 tw_56 tw_213) rfl rfl rfl hdAr_isBelow.2 ⟨Nat.le_of_ble_eq_true rfl, Nat.le_of_ble_eq_true rfl⟩) mk_preS rfl rfl hl.1 rfl (lv_room (Nat.le_of_ble_eq_true rfl)) dAr_changed_172 ⟨Nat.zero_le _, Nat.zero_le _⟩) ?_
    refine lv_if_eq (tgt := 182) hx hb dAr_changed_175 (by decide) (fun c_11 => ?_) (fun c_11 => ?_)
    · refine lv_iload_n hx hb dAr_changed_182 rfl (lv_at hl 1 rfl) ?_
      exact W.iret hx hb hr (fun t ht hW => ⟨⟨_, (), rfl, (by unfold hf_Arithmetic_changed; rw [if_neg c_1, if_neg c_2, if_neg c_3, if_neg c_5, if_neg c_7, if_neg c_8, if_pos c_10, if_pos c_11]), ht⟩, mk_F ht⟩) (fun q h => nomatch h) dAr_changed_183
    · refine lv_iload_n hx hb dAr_changed_178 rfl (lv_at hl 2 rfl) ?_
      refine lv_goto (tgt := 183) hx hb dAr_changed_179 (by decide) ?_
      exact W.iret hx hb hr (fun t ht hW => ⟨⟨_, (), rfl, (by unfold hf_Arithmetic_changed; rw [if_neg c_1, if_neg c_2, if_neg c_3, if_neg c_5, if_neg c_7, if_neg c_8, if_pos c_10, if_neg c_11]), ht⟩, mk_F ht⟩) (fun q h => nomatch h) dAr_changed_183
  by_cases c_12 : a1 = 7
  · refine lv_tableIn (tgt := 170) hx hb dAr_changed_1 (by rw [c_12]; decide) (by rw [c_12]; decide) (by rw [c_12]; rfl) (by decide) ?_
    refine lv_iload_n hx hb dAr_changed_170 rfl (lv_at hl 1 rfl) ?_
    refine lv_iload_n hx hb dAr_changed_171 rfl (lv_at hl 2 rfl) ?_
    refine mk_callR (va_runS (As := [.int a2, .int a3]) (rest := []) ⟨hx, hb, hml, hown, hts⟩ (hc_Arithmetic_isBelow l s.heap a2 a3) (va_cwS 2 hts (mk_gS tw_255 tw_212 tw_56 tw_213) rfl rfl rfl hdAr_isBelow.2 ⟨Nat.le_of_ble_eq_true rfl, Nat.le_of_ble_eq_true rfl⟩) mk_preS rfl rfl hl.1 rfl (lv_room (Nat.le_of_ble_eq_true rfl)) dAr_changed_172 ⟨Nat.zero_le _, Nat.zero_le _⟩) ?_
    refine lv_if_eq (tgt := 182) hx hb dAr_changed_175 (by decide) (fun c_13 => ?_) (fun c_13 => ?_)
    · refine lv_iload_n hx hb dAr_changed_182 rfl (lv_at hl 1 rfl) ?_
      exact W.iret hx hb hr (fun t ht hW => ⟨⟨_, (), rfl, (by unfold hf_Arithmetic_changed; rw [if_neg c_1, if_neg c_2, if_neg c_3, if_neg c_5, if_neg c_7, if_neg c_8, if_neg c_10, if_pos c_12, if_pos c_13]), ht⟩, mk_F ht⟩) (fun q h => nomatch h) dAr_changed_183
    · refine lv_iload_n hx hb dAr_changed_178 rfl (lv_at hl 2 rfl) ?_
      refine lv_goto (tgt := 183) hx hb dAr_changed_179 (by decide) ?_
      exact W.iret hx hb hr (fun t ht hW => ⟨⟨_, (), rfl, (by unfold hf_Arithmetic_changed; rw [if_neg c_1, if_neg c_2, if_neg c_3, if_neg c_5, if_neg c_7, if_neg c_8, if_neg c_10, if_pos c_12, if_neg c_13]), ht⟩, mk_F ht⟩) (fun q h => nomatch h) dAr_changed_183
  by_cases c_14 : a1 = 8
  · refine lv_tableIn (tgt := 126) hx hb dAr_changed_1 (by rw [c_14]; decide) (by rw [c_14]; decide) (by rw [c_14]; rfl) (by decide) ?_
    refine lv_iload_n hx hb dAr_changed_126 rfl (lv_at hl 1 rfl) ?_
    refine lv_iload_n hx hb dAr_changed_127 rfl (lv_at hl 2 rfl) ?_
    refine lv_ior hx hb dAr_changed_128 ?_
    exact W.iret hx hb hr (fun t ht hW => ⟨⟨_, (), rfl, (by unfold hf_Arithmetic_changed; rw [if_neg c_1, if_neg c_2, if_neg c_3, if_neg c_5, if_neg c_7, if_neg c_8, if_neg c_10, if_neg c_12, if_pos c_14]), ht⟩, mk_F ht⟩) (fun q h => nomatch h) dAr_changed_129
  by_cases c_15 : a1 = 9
  · refine lv_tableIn (tgt := 170) hx hb dAr_changed_1 (by rw [c_15]; decide) (by rw [c_15]; decide) (by rw [c_15]; rfl) (by decide) ?_
    refine lv_iload_n hx hb dAr_changed_170 rfl (lv_at hl 1 rfl) ?_
    refine lv_iload_n hx hb dAr_changed_171 rfl (lv_at hl 2 rfl) ?_
    refine mk_callR (va_runS (As := [.int a2, .int a3]) (rest := []) ⟨hx, hb, hml, hown, hts⟩ (hc_Arithmetic_isBelow l s.heap a2 a3) (va_cwS 2 hts (mk_gS tw_255 tw_212 tw_56 tw_213) rfl rfl rfl hdAr_isBelow.2 ⟨Nat.le_of_ble_eq_true rfl, Nat.le_of_ble_eq_true rfl⟩) mk_preS rfl rfl hl.1 rfl (lv_room (Nat.le_of_ble_eq_true rfl)) dAr_changed_172 ⟨Nat.zero_le _, Nat.zero_le _⟩) ?_
    refine lv_if_eq (tgt := 182) hx hb dAr_changed_175 (by decide) (fun c_16 => ?_) (fun c_16 => ?_)
    · refine lv_iload_n hx hb dAr_changed_182 rfl (lv_at hl 1 rfl) ?_
      exact W.iret hx hb hr (fun t ht hW => ⟨⟨_, (), rfl, (by unfold hf_Arithmetic_changed; rw [if_neg c_1, if_neg c_2, if_neg c_3, if_neg c_5, if_neg c_7, if_neg c_8, if_neg c_10, if_neg c_12, if_neg c_14, if_pos c_15, if_pos c_16]), ht⟩, mk_F ht⟩) (fun q h => nomatch h) dAr_changed_183
    · refine lv_iload_n hx hb dAr_changed_178 rfl (lv_at hl 2 rfl) ?_
      refine lv_goto (tgt := 183) hx hb dAr_changed_179 (by decide) ?_
      exact W.iret hx hb hr (fun t ht hW => ⟨⟨_, (), rfl, (by unfold hf_Arithmetic_changed; rw [if_neg c_1, if_neg c_2, if_neg c_3, if_neg c_5, if_neg c_7, if_neg c_8, if_neg c_10, if_neg c_12, if_neg c_14, if_pos c_15, if_neg c_16]), ht⟩, mk_F ht⟩) (fun q h => nomatch h) dAr_changed_183
  by_cases c_17 : a1 = 10
  · refine lv_tableIn (tgt := 170) hx hb dAr_changed_1 (by rw [c_17]; decide) (by rw [c_17]; decide) (by rw [c_17]; rfl) (by decide) ?_
    refine lv_iload_n hx hb dAr_changed_170 rfl (lv_at hl 1 rfl) ?_
    refine lv_iload_n hx hb dAr_changed_171 rfl (lv_at hl 2 rfl) ?_
    refine mk_callR (va_runS (As := [.int a2, .int a3]) (rest := []) ⟨hx, hb, hml, hown, hts⟩ (hc_Arithmetic_isBelow l s.heap a2 a3) (va_cwS 2 hts (mk_gS tw_255 tw_212 tw_56 tw_213) rfl rfl rfl hdAr_isBelow.2 ⟨Nat.le_of_ble_eq_true rfl, Nat.le_of_ble_eq_true rfl⟩) mk_preS rfl rfl hl.1 rfl (lv_room (Nat.le_of_ble_eq_true rfl)) dAr_changed_172 ⟨Nat.zero_le _, Nat.zero_le _⟩) ?_
    refine lv_if_eq (tgt := 182) hx hb dAr_changed_175 (by decide) (fun c_18 => ?_) (fun c_18 => ?_)
    · refine lv_iload_n hx hb dAr_changed_182 rfl (lv_at hl 1 rfl) ?_
      exact W.iret hx hb hr (fun t ht hW => ⟨⟨_, (), rfl, (by unfold hf_Arithmetic_changed; rw [if_neg c_1, if_neg c_2, if_neg c_3, if_neg c_5, if_neg c_7, if_neg c_8, if_neg c_10, if_neg c_12, if_neg c_14, if_neg c_15, if_pos c_17, if_pos c_18]), ht⟩, mk_F ht⟩) (fun q h => nomatch h) dAr_changed_183
    · refine lv_iload_n hx hb dAr_changed_178 rfl (lv_at hl 2 rfl) ?_
      refine lv_goto (tgt := 183) hx hb dAr_changed_179 (by decide) ?_
      exact W.iret hx hb hr (fun t ht hW => ⟨⟨_, (), rfl, (by unfold hf_Arithmetic_changed; rw [if_neg c_1, if_neg c_2, if_neg c_3, if_neg c_5, if_neg c_7, if_neg c_8, if_neg c_10, if_neg c_12, if_neg c_14, if_neg c_15, if_pos c_17, if_neg c_18]), ht⟩, mk_F ht⟩) (fun q h => nomatch h) dAr_changed_183
  by_cases c_19 : a1 = 11
  · refine lv_tableIn (tgt := 170) hx hb dAr_changed_1 (by rw [c_19]; decide) (by rw [c_19]; decide) (by rw [c_19]; rfl) (by decide) ?_
    refine lv_iload_n hx hb dAr_changed_170 rfl (lv_at hl 1 rfl) ?_
    refine lv_iload_n hx hb dAr_changed_171 rfl (lv_at hl 2 rfl) ?_
    refine mk_callR (va_runS (As := [.int a2, .int a3]) (rest := []) ⟨hx, hb, hml, hown, hts⟩ (hc_Arithmetic_isBelow l s.heap a2 a3) (va_cwS 2 hts (mk_gS tw_255 tw_212 tw_56 tw_213) rfl rfl rfl hdAr_isBelow.2 ⟨Nat.le_of_ble_eq_true rfl, Nat.le_of_ble_eq_true rfl⟩) mk_preS rfl rfl hl.1 rfl (lv_room (Nat.le_of_ble_eq_true rfl)) dAr_changed_172 ⟨Nat.zero_le _, Nat.zero_le _⟩) ?_
    refine lv_if_eq (tgt := 182) hx hb dAr_changed_175 (by decide) (fun c_20 => ?_) (fun c_20 => ?_)
    · refine lv_iload_n hx hb dAr_changed_182 rfl (lv_at hl 1 rfl) ?_
      exact W.iret hx hb hr (fun t ht hW => ⟨⟨_, (), rfl, (by unfold hf_Arithmetic_changed; rw [if_neg c_1, if_neg c_2, if_neg c_3, if_neg c_5, if_neg c_7, if_neg c_8, if_neg c_10, if_neg c_12, if_neg c_14, if_neg c_15, if_neg c_17, if_pos c_19, if_pos c_20]), ht⟩, mk_F ht⟩) (fun q h => nomatch h) dAr_changed_183
    · refine lv_iload_n hx hb dAr_changed_178 rfl (lv_at hl 2 rfl) ?_
      refine lv_goto (tgt := 183) hx hb dAr_changed_179 (by decide) ?_
      exact W.iret hx hb hr (fun t ht hW => ⟨⟨_, (), rfl, (by unfold hf_Arithmetic_changed; rw [if_neg c_1, if_neg c_2, if_neg c_3, if_neg c_5, if_neg c_7, if_neg c_8, if_neg c_10, if_neg c_12, if_neg c_14, if_neg c_15, if_neg c_17, if_pos c_19, if_neg c_20]), ht⟩, mk_F ht⟩) (fun q h => nomatch h) dAr_changed_183
  by_cases c_21 : a1 = 12
  · refine lv_tableIn (tgt := 130) hx hb dAr_changed_1 (by rw [c_21]; decide) (by rw [c_21]; decide) (by rw [c_21]; rfl) (by decide) ?_
    refine lv_iload_n hx hb dAr_changed_130 rfl (lv_at hl 1 rfl) ?_
    refine lv_iload_n hx hb dAr_changed_131 rfl (lv_at hl 2 rfl) ?_
    refine lv_iand hx hb dAr_changed_132 ?_
    exact W.iret hx hb hr (fun t ht hW => ⟨⟨_, (), rfl, (by unfold hf_Arithmetic_changed; rw [if_neg c_1, if_neg c_2, if_neg c_3, if_neg c_5, if_neg c_7, if_neg c_8, if_neg c_10, if_neg c_12, if_neg c_14, if_neg c_15, if_neg c_17, if_neg c_19, if_pos c_21]), ht⟩, mk_F ht⟩) (fun q h => nomatch h) dAr_changed_133
  by_cases c_22 : a1 = 13
  · refine lv_tableIn (tgt := 170) hx hb dAr_changed_1 (by rw [c_22]; decide) (by rw [c_22]; decide) (by rw [c_22]; rfl) (by decide) ?_
    refine lv_iload_n hx hb dAr_changed_170 rfl (lv_at hl 1 rfl) ?_
    refine lv_iload_n hx hb dAr_changed_171 rfl (lv_at hl 2 rfl) ?_
    refine mk_callR (va_runS (As := [.int a2, .int a3]) (rest := []) ⟨hx, hb, hml, hown, hts⟩ (hc_Arithmetic_isBelow l s.heap a2 a3) (va_cwS 2 hts (mk_gS tw_255 tw_212 tw_56 tw_213) rfl rfl rfl hdAr_isBelow.2 ⟨Nat.le_of_ble_eq_true rfl, Nat.le_of_ble_eq_true rfl⟩) mk_preS rfl rfl hl.1 rfl (lv_room (Nat.le_of_ble_eq_true rfl)) dAr_changed_172 ⟨Nat.zero_le _, Nat.zero_le _⟩) ?_
    refine lv_if_eq (tgt := 182) hx hb dAr_changed_175 (by decide) (fun c_23 => ?_) (fun c_23 => ?_)
    · refine lv_iload_n hx hb dAr_changed_182 rfl (lv_at hl 1 rfl) ?_
      exact W.iret hx hb hr (fun t ht hW => ⟨⟨_, (), rfl, (by unfold hf_Arithmetic_changed; rw [if_neg c_1, if_neg c_2, if_neg c_3, if_neg c_5, if_neg c_7, if_neg c_8, if_neg c_10, if_neg c_12, if_neg c_14, if_neg c_15, if_neg c_17, if_neg c_19, if_neg c_21, if_pos c_22, if_pos c_23]), ht⟩, mk_F ht⟩) (fun q h => nomatch h) dAr_changed_183
    · refine lv_iload_n hx hb dAr_changed_178 rfl (lv_at hl 2 rfl) ?_
      refine lv_goto (tgt := 183) hx hb dAr_changed_179 (by decide) ?_
      exact W.iret hx hb hr (fun t ht hW => ⟨⟨_, (), rfl, (by unfold hf_Arithmetic_changed; rw [if_neg c_1, if_neg c_2, if_neg c_3, if_neg c_5, if_neg c_7, if_neg c_8, if_neg c_10, if_neg c_12, if_neg c_14, if_neg c_15, if_neg c_17, if_neg c_19, if_neg c_21, if_pos c_22, if_neg c_23]), ht⟩, mk_F ht⟩) (fun q h => nomatch h) dAr_changed_183
  by_cases c_24 : a1 = 14
  · refine lv_tableIn (tgt := 170) hx hb dAr_changed_1 (by rw [c_24]; decide) (by rw [c_24]; decide) (by rw [c_24]; rfl) (by decide) ?_
    refine lv_iload_n hx hb dAr_changed_170 rfl (lv_at hl 1 rfl) ?_
    refine lv_iload_n hx hb dAr_changed_171 rfl (lv_at hl 2 rfl) ?_
    refine mk_callR (va_runS (As := [.int a2, .int a3]) (rest := []) ⟨hx, hb, hml, hown, hts⟩ (hc_Arithmetic_isBelow l s.heap a2 a3) (va_cwS 2 hts (mk_gS tw_255 tw_212 tw_56 tw_213) rfl rfl rfl hdAr_isBelow.2 ⟨Nat.le_of_ble_eq_true rfl, Nat.le_of_ble_eq_true rfl⟩) mk_preS rfl rfl hl.1 rfl (lv_room (Nat.le_of_ble_eq_true rfl)) dAr_changed_172 ⟨Nat.zero_le _, Nat.zero_le _⟩) ?_
    refine lv_if_eq (tgt := 182) hx hb dAr_changed_175 (by decide) (fun c_25 => ?_) (fun c_25 => ?_)
    · refine lv_iload_n hx hb dAr_changed_182 rfl (lv_at hl 1 rfl) ?_
      exact W.iret hx hb hr (fun t ht hW => ⟨⟨_, (), rfl, (by unfold hf_Arithmetic_changed; rw [if_neg c_1, if_neg c_2, if_neg c_3, if_neg c_5, if_neg c_7, if_neg c_8, if_neg c_10, if_neg c_12, if_neg c_14, if_neg c_15, if_neg c_17, if_neg c_19, if_neg c_21, if_neg c_22, if_pos c_24, if_pos c_25]), ht⟩, mk_F ht⟩) (fun q h => nomatch h) dAr_changed_183
    · refine lv_iload_n hx hb dAr_changed_178 rfl (lv_at hl 2 rfl) ?_
      refine lv_goto (tgt := 183) hx hb dAr_changed_179 (by decide) ?_
      exact W.iret hx hb hr (fun t ht hW => ⟨⟨_, (), rfl, (by unfold hf_Arithmetic_changed; rw [if_neg c_1, if_neg c_2, if_neg c_3, if_neg c_5, if_neg c_7, if_neg c_8, if_neg c_10, if_neg c_12, if_neg c_14, if_neg c_15, if_neg c_17, if_neg c_19, if_neg c_21, if_neg c_22, if_pos c_24, if_neg c_25]), ht⟩, mk_F ht⟩) (fun q h => nomatch h) dAr_changed_183
  by_cases c_26 : a1 = 15
  · refine lv_tableIn (tgt := 170) hx hb dAr_changed_1 (by rw [c_26]; decide) (by rw [c_26]; decide) (by rw [c_26]; rfl) (by decide) ?_
    refine lv_iload_n hx hb dAr_changed_170 rfl (lv_at hl 1 rfl) ?_
    refine lv_iload_n hx hb dAr_changed_171 rfl (lv_at hl 2 rfl) ?_
    refine mk_callR (va_runS (As := [.int a2, .int a3]) (rest := []) ⟨hx, hb, hml, hown, hts⟩ (hc_Arithmetic_isBelow l s.heap a2 a3) (va_cwS 2 hts (mk_gS tw_255 tw_212 tw_56 tw_213) rfl rfl rfl hdAr_isBelow.2 ⟨Nat.le_of_ble_eq_true rfl, Nat.le_of_ble_eq_true rfl⟩) mk_preS rfl rfl hl.1 rfl (lv_room (Nat.le_of_ble_eq_true rfl)) dAr_changed_172 ⟨Nat.zero_le _, Nat.zero_le _⟩) ?_
    refine lv_if_eq (tgt := 182) hx hb dAr_changed_175 (by decide) (fun c_27 => ?_) (fun c_27 => ?_)
    · refine lv_iload_n hx hb dAr_changed_182 rfl (lv_at hl 1 rfl) ?_
      exact W.iret hx hb hr (fun t ht hW => ⟨⟨_, (), rfl, (by unfold hf_Arithmetic_changed; rw [if_neg c_1, if_neg c_2, if_neg c_3, if_neg c_5, if_neg c_7, if_neg c_8, if_neg c_10, if_neg c_12, if_neg c_14, if_neg c_15, if_neg c_17, if_neg c_19, if_neg c_21, if_neg c_22, if_neg c_24, if_pos c_26, if_pos c_27]), ht⟩, mk_F ht⟩) (fun q h => nomatch h) dAr_changed_183
    · refine lv_iload_n hx hb dAr_changed_178 rfl (lv_at hl 2 rfl) ?_
      refine lv_goto (tgt := 183) hx hb dAr_changed_179 (by decide) ?_
      exact W.iret hx hb hr (fun t ht hW => ⟨⟨_, (), rfl, (by unfold hf_Arithmetic_changed; rw [if_neg c_1, if_neg c_2, if_neg c_3, if_neg c_5, if_neg c_7, if_neg c_8, if_neg c_10, if_neg c_12, if_neg c_14, if_neg c_15, if_neg c_17, if_neg c_19, if_neg c_21, if_neg c_22, if_neg c_24, if_pos c_26, if_neg c_27]), ht⟩, mk_F ht⟩) (fun q h => nomatch h) dAr_changed_183
  by_cases c_28 : a1 = 16
  · refine lv_tableIn (tgt := 134) hx hb dAr_changed_1 (by rw [c_28]; decide) (by rw [c_28]; decide) (by rw [c_28]; rfl) (by decide) ?_
    refine lv_iload_n hx hb dAr_changed_134 rfl (lv_at hl 1 rfl) ?_
    refine lv_iload_n hx hb dAr_changed_135 rfl (lv_at hl 2 rfl) ?_
    refine lv_icmp_ge (tgt := 143) hx hb dAr_changed_136 (by decide) (fun c_29 => ?_) (fun c_29 => ?_)
    · refine lv_iload_n hx hb dAr_changed_143 rfl (lv_at hl 2 rfl) ?_
      exact W.iret hx hb hr (fun t ht hW => ⟨⟨_, (), rfl, (by unfold hf_Arithmetic_changed; rw [if_neg c_1, if_neg c_2, if_neg c_3, if_neg c_5, if_neg c_7, if_neg c_8, if_neg c_10, if_neg c_12, if_neg c_14, if_neg c_15, if_neg c_17, if_neg c_19, if_neg c_21, if_neg c_22, if_neg c_24, if_neg c_26, if_pos c_28, if_pos c_29]), ht⟩, mk_F ht⟩) (fun q h => nomatch h) dAr_changed_144
    · refine lv_iload_n hx hb dAr_changed_139 rfl (lv_at hl 1 rfl) ?_
      refine lv_goto (tgt := 144) hx hb dAr_changed_140 (by decide) ?_
      exact W.iret hx hb hr (fun t ht hW => ⟨⟨_, (), rfl, (by unfold hf_Arithmetic_changed; rw [if_neg c_1, if_neg c_2, if_neg c_3, if_neg c_5, if_neg c_7, if_neg c_8, if_neg c_10, if_neg c_12, if_neg c_14, if_neg c_15, if_neg c_17, if_neg c_19, if_neg c_21, if_neg c_22, if_neg c_24, if_neg c_26, if_pos c_28, if_neg c_29]), ht⟩, mk_F ht⟩) (fun q h => nomatch h) dAr_changed_144
  by_cases c_30 : a1 = 17
  · refine lv_tableIn (tgt := 170) hx hb dAr_changed_1 (by rw [c_30]; decide) (by rw [c_30]; decide) (by rw [c_30]; rfl) (by decide) ?_
    refine lv_iload_n hx hb dAr_changed_170 rfl (lv_at hl 1 rfl) ?_
    refine lv_iload_n hx hb dAr_changed_171 rfl (lv_at hl 2 rfl) ?_
    refine mk_callR (va_runS (As := [.int a2, .int a3]) (rest := []) ⟨hx, hb, hml, hown, hts⟩ (hc_Arithmetic_isBelow l s.heap a2 a3) (va_cwS 2 hts (mk_gS tw_255 tw_212 tw_56 tw_213) rfl rfl rfl hdAr_isBelow.2 ⟨Nat.le_of_ble_eq_true rfl, Nat.le_of_ble_eq_true rfl⟩) mk_preS rfl rfl hl.1 rfl (lv_room (Nat.le_of_ble_eq_true rfl)) dAr_changed_172 ⟨Nat.zero_le _, Nat.zero_le _⟩) ?_
    refine lv_if_eq (tgt := 182) hx hb dAr_changed_175 (by decide) (fun c_31 => ?_) (fun c_31 => ?_)
    · refine lv_iload_n hx hb dAr_changed_182 rfl (lv_at hl 1 rfl) ?_
      exact W.iret hx hb hr (fun t ht hW => ⟨⟨_, (), rfl, (by unfold hf_Arithmetic_changed; rw [if_neg c_1, if_neg c_2, if_neg c_3, if_neg c_5, if_neg c_7, if_neg c_8, if_neg c_10, if_neg c_12, if_neg c_14, if_neg c_15, if_neg c_17, if_neg c_19, if_neg c_21, if_neg c_22, if_neg c_24, if_neg c_26, if_neg c_28, if_pos c_30, if_pos c_31]), ht⟩, mk_F ht⟩) (fun q h => nomatch h) dAr_changed_183
    · refine lv_iload_n hx hb dAr_changed_178 rfl (lv_at hl 2 rfl) ?_
      refine lv_goto (tgt := 183) hx hb dAr_changed_179 (by decide) ?_
      exact W.iret hx hb hr (fun t ht hW => ⟨⟨_, (), rfl, (by unfold hf_Arithmetic_changed; rw [if_neg c_1, if_neg c_2, if_neg c_3, if_neg c_5, if_neg c_7, if_neg c_8, if_neg c_10, if_neg c_12, if_neg c_14, if_neg c_15, if_neg c_17, if_neg c_19, if_neg c_21, if_neg c_22, if_neg c_24, if_neg c_26, if_neg c_28, if_pos c_30, if_neg c_31]), ht⟩, mk_F ht⟩) (fun q h => nomatch h) dAr_changed_183
  by_cases c_32 : a1 = 18
  · refine lv_tableIn (tgt := 170) hx hb dAr_changed_1 (by rw [c_32]; decide) (by rw [c_32]; decide) (by rw [c_32]; rfl) (by decide) ?_
    refine lv_iload_n hx hb dAr_changed_170 rfl (lv_at hl 1 rfl) ?_
    refine lv_iload_n hx hb dAr_changed_171 rfl (lv_at hl 2 rfl) ?_
    refine mk_callR (va_runS (As := [.int a2, .int a3]) (rest := []) ⟨hx, hb, hml, hown, hts⟩ (hc_Arithmetic_isBelow l s.heap a2 a3) (va_cwS 2 hts (mk_gS tw_255 tw_212 tw_56 tw_213) rfl rfl rfl hdAr_isBelow.2 ⟨Nat.le_of_ble_eq_true rfl, Nat.le_of_ble_eq_true rfl⟩) mk_preS rfl rfl hl.1 rfl (lv_room (Nat.le_of_ble_eq_true rfl)) dAr_changed_172 ⟨Nat.zero_le _, Nat.zero_le _⟩) ?_
    refine lv_if_eq (tgt := 182) hx hb dAr_changed_175 (by decide) (fun c_33 => ?_) (fun c_33 => ?_)
    · refine lv_iload_n hx hb dAr_changed_182 rfl (lv_at hl 1 rfl) ?_
      exact W.iret hx hb hr (fun t ht hW => ⟨⟨_, (), rfl, (by unfold hf_Arithmetic_changed; rw [if_neg c_1, if_neg c_2, if_neg c_3, if_neg c_5, if_neg c_7, if_neg c_8, if_neg c_10, if_neg c_12, if_neg c_14, if_neg c_15, if_neg c_17, if_neg c_19, if_neg c_21, if_neg c_22, if_neg c_24, if_neg c_26, if_neg c_28, if_neg c_30, if_pos c_32, if_pos c_33]), ht⟩, mk_F ht⟩) (fun q h => nomatch h) dAr_changed_183
    · refine lv_iload_n hx hb dAr_changed_178 rfl (lv_at hl 2 rfl) ?_
      refine lv_goto (tgt := 183) hx hb dAr_changed_179 (by decide) ?_
      exact W.iret hx hb hr (fun t ht hW => ⟨⟨_, (), rfl, (by unfold hf_Arithmetic_changed; rw [if_neg c_1, if_neg c_2, if_neg c_3, if_neg c_5, if_neg c_7, if_neg c_8, if_neg c_10, if_neg c_12, if_neg c_14, if_neg c_15, if_neg c_17, if_neg c_19, if_neg c_21, if_neg c_22, if_neg c_24, if_neg c_26, if_neg c_28, if_neg c_30, if_pos c_32, if_neg c_33]), ht⟩, mk_F ht⟩) (fun q h => nomatch h) dAr_changed_183
  by_cases c_34 : a1 = 19
  · refine lv_tableIn (tgt := 170) hx hb dAr_changed_1 (by rw [c_34]; decide) (by rw [c_34]; decide) (by rw [c_34]; rfl) (by decide) ?_
    refine lv_iload_n hx hb dAr_changed_170 rfl (lv_at hl 1 rfl) ?_
    refine lv_iload_n hx hb dAr_changed_171 rfl (lv_at hl 2 rfl) ?_
    refine mk_callR (va_runS (As := [.int a2, .int a3]) (rest := []) ⟨hx, hb, hml, hown, hts⟩ (hc_Arithmetic_isBelow l s.heap a2 a3) (va_cwS 2 hts (mk_gS tw_255 tw_212 tw_56 tw_213) rfl rfl rfl hdAr_isBelow.2 ⟨Nat.le_of_ble_eq_true rfl, Nat.le_of_ble_eq_true rfl⟩) mk_preS rfl rfl hl.1 rfl (lv_room (Nat.le_of_ble_eq_true rfl)) dAr_changed_172 ⟨Nat.zero_le _, Nat.zero_le _⟩) ?_
    refine lv_if_eq (tgt := 182) hx hb dAr_changed_175 (by decide) (fun c_35 => ?_) (fun c_35 => ?_)
    · refine lv_iload_n hx hb dAr_changed_182 rfl (lv_at hl 1 rfl) ?_
      exact W.iret hx hb hr (fun t ht hW => ⟨⟨_, (), rfl, (by unfold hf_Arithmetic_changed; rw [if_neg c_1, if_neg c_2, if_neg c_3, if_neg c_5, if_neg c_7, if_neg c_8, if_neg c_10, if_neg c_12, if_neg c_14, if_neg c_15, if_neg c_17, if_neg c_19, if_neg c_21, if_neg c_22, if_neg c_24, if_neg c_26, if_neg c_28, if_neg c_30, if_neg c_32, if_pos c_34, if_pos c_35]), ht⟩, mk_F ht⟩) (fun q h => nomatch h) dAr_changed_183
    · refine lv_iload_n hx hb dAr_changed_178 rfl (lv_at hl 2 rfl) ?_
      refine lv_goto (tgt := 183) hx hb dAr_changed_179 (by decide) ?_
      exact W.iret hx hb hr (fun t ht hW => ⟨⟨_, (), rfl, (by unfold hf_Arithmetic_changed; rw [if_neg c_1, if_neg c_2, if_neg c_3, if_neg c_5, if_neg c_7, if_neg c_8, if_neg c_10, if_neg c_12, if_neg c_14, if_neg c_15, if_neg c_17, if_neg c_19, if_neg c_21, if_neg c_22, if_neg c_24, if_neg c_26, if_neg c_28, if_neg c_30, if_neg c_32, if_pos c_34, if_neg c_35]), ht⟩, mk_F ht⟩) (fun q h => nomatch h) dAr_changed_183
  by_cases c_36 : a1 = 20
  · refine lv_tableIn (tgt := 145) hx hb dAr_changed_1 (by rw [c_36]; decide) (by rw [c_36]; decide) (by rw [c_36]; rfl) (by decide) ?_
    refine lv_iload_n hx hb dAr_changed_145 rfl (lv_at hl 1 rfl) ?_
    refine lv_iload_n hx hb dAr_changed_146 rfl (lv_at hl 2 rfl) ?_
    refine lv_icmp_ge (tgt := 154) hx hb dAr_changed_147 (by decide) (fun c_37 => ?_) (fun c_37 => ?_)
    · refine lv_iload_n hx hb dAr_changed_154 rfl (lv_at hl 1 rfl) ?_
      exact W.iret hx hb hr (fun t ht hW => ⟨⟨_, (), rfl, (by unfold hf_Arithmetic_changed; rw [if_neg c_1, if_neg c_2, if_neg c_3, if_neg c_5, if_neg c_7, if_neg c_8, if_neg c_10, if_neg c_12, if_neg c_14, if_neg c_15, if_neg c_17, if_neg c_19, if_neg c_21, if_neg c_22, if_neg c_24, if_neg c_26, if_neg c_28, if_neg c_30, if_neg c_32, if_neg c_34, if_pos c_36, if_pos c_37]), ht⟩, mk_F ht⟩) (fun q h => nomatch h) dAr_changed_155
    · refine lv_iload_n hx hb dAr_changed_150 rfl (lv_at hl 2 rfl) ?_
      refine lv_goto (tgt := 155) hx hb dAr_changed_151 (by decide) ?_
      exact W.iret hx hb hr (fun t ht hW => ⟨⟨_, (), rfl, (by unfold hf_Arithmetic_changed; rw [if_neg c_1, if_neg c_2, if_neg c_3, if_neg c_5, if_neg c_7, if_neg c_8, if_neg c_10, if_neg c_12, if_neg c_14, if_neg c_15, if_neg c_17, if_neg c_19, if_neg c_21, if_neg c_22, if_neg c_24, if_neg c_26, if_neg c_28, if_neg c_30, if_neg c_32, if_neg c_34, if_pos c_36, if_neg c_37]), ht⟩, mk_F ht⟩) (fun q h => nomatch h) dAr_changed_155
  by_cases c_38 : a1 = 21
  · refine lv_tableIn (tgt := 170) hx hb dAr_changed_1 (by rw [c_38]; decide) (by rw [c_38]; decide) (by rw [c_38]; rfl) (by decide) ?_
    refine lv_iload_n hx hb dAr_changed_170 rfl (lv_at hl 1 rfl) ?_
    refine lv_iload_n hx hb dAr_changed_171 rfl (lv_at hl 2 rfl) ?_
    refine mk_callR (va_runS (As := [.int a2, .int a3]) (rest := []) ⟨hx, hb, hml, hown, hts⟩ (hc_Arithmetic_isBelow l s.heap a2 a3) (va_cwS 2 hts (mk_gS tw_255 tw_212 tw_56 tw_213) rfl rfl rfl hdAr_isBelow.2 ⟨Nat.le_of_ble_eq_true rfl, Nat.le_of_ble_eq_true rfl⟩) mk_preS rfl rfl hl.1 rfl (lv_room (Nat.le_of_ble_eq_true rfl)) dAr_changed_172 ⟨Nat.zero_le _, Nat.zero_le _⟩) ?_
    refine lv_if_eq (tgt := 182) hx hb dAr_changed_175 (by decide) (fun c_39 => ?_) (fun c_39 => ?_)
    · refine lv_iload_n hx hb dAr_changed_182 rfl (lv_at hl 1 rfl) ?_
      exact W.iret hx hb hr (fun t ht hW => ⟨⟨_, (), rfl, (by unfold hf_Arithmetic_changed; rw [if_neg c_1, if_neg c_2, if_neg c_3, if_neg c_5, if_neg c_7, if_neg c_8, if_neg c_10, if_neg c_12, if_neg c_14, if_neg c_15, if_neg c_17, if_neg c_19, if_neg c_21, if_neg c_22, if_neg c_24, if_neg c_26, if_neg c_28, if_neg c_30, if_neg c_32, if_neg c_34, if_neg c_36, if_pos c_38, if_pos c_39]), ht⟩, mk_F ht⟩) (fun q h => nomatch h) dAr_changed_183
    · refine lv_iload_n hx hb dAr_changed_178 rfl (lv_at hl 2 rfl) ?_
      refine lv_goto (tgt := 183) hx hb dAr_changed_179 (by decide) ?_
      exact W.iret hx hb hr (fun t ht hW => ⟨⟨_, (), rfl, (by unfold hf_Arithmetic_changed; rw [if_neg c_1, if_neg c_2, if_neg c_3, if_neg c_5, if_neg c_7, if_neg c_8, if_neg c_10, if_neg c_12, if_neg c_14, if_neg c_15, if_neg c_17, if_neg c_19, if_neg c_21, if_neg c_22, if_neg c_24, if_neg c_26, if_neg c_28, if_neg c_30, if_neg c_32, if_neg c_34, if_neg c_36, if_pos c_38, if_neg c_39]), ht⟩, mk_F ht⟩) (fun q h => nomatch h) dAr_changed_183
  by_cases c_40 : a1 = 22
  · refine lv_tableIn (tgt := 170) hx hb dAr_changed_1 (by rw [c_40]; decide) (by rw [c_40]; decide) (by rw [c_40]; rfl) (by decide) ?_
    refine lv_iload_n hx hb dAr_changed_170 rfl (lv_at hl 1 rfl) ?_
    refine lv_iload_n hx hb dAr_changed_171 rfl (lv_at hl 2 rfl) ?_
    refine mk_callR (va_runS (As := [.int a2, .int a3]) (rest := []) ⟨hx, hb, hml, hown, hts⟩ (hc_Arithmetic_isBelow l s.heap a2 a3) (va_cwS 2 hts (mk_gS tw_255 tw_212 tw_56 tw_213) rfl rfl rfl hdAr_isBelow.2 ⟨Nat.le_of_ble_eq_true rfl, Nat.le_of_ble_eq_true rfl⟩) mk_preS rfl rfl hl.1 rfl (lv_room (Nat.le_of_ble_eq_true rfl)) dAr_changed_172 ⟨Nat.zero_le _, Nat.zero_le _⟩) ?_
    refine lv_if_eq (tgt := 182) hx hb dAr_changed_175 (by decide) (fun c_41 => ?_) (fun c_41 => ?_)
    · refine lv_iload_n hx hb dAr_changed_182 rfl (lv_at hl 1 rfl) ?_
      exact W.iret hx hb hr (fun t ht hW => ⟨⟨_, (), rfl, (by unfold hf_Arithmetic_changed; rw [if_neg c_1, if_neg c_2, if_neg c_3, if_neg c_5, if_neg c_7, if_neg c_8, if_neg c_10, if_neg c_12, if_neg c_14, if_neg c_15, if_neg c_17, if_neg c_19, if_neg c_21, if_neg c_22, if_neg c_24, if_neg c_26, if_neg c_28, if_neg c_30, if_neg c_32, if_neg c_34, if_neg c_36, if_neg c_38, if_pos c_40, if_pos c_41]), ht⟩, mk_F ht⟩) (fun q h => nomatch h) dAr_changed_183
    · refine lv_iload_n hx hb dAr_changed_178 rfl (lv_at hl 2 rfl) ?_
      refine lv_goto (tgt := 183) hx hb dAr_changed_179 (by decide) ?_
      exact W.iret hx hb hr (fun t ht hW => ⟨⟨_, (), rfl, (by unfold hf_Arithmetic_changed; rw [if_neg c_1, if_neg c_2, if_neg c_3, if_neg c_5, if_neg c_7, if_neg c_8, if_neg c_10, if_neg c_12, if_neg c_14, if_neg c_15, if_neg c_17, if_neg c_19, if_neg c_21, if_neg c_22, if_neg c_24, if_neg c_26, if_neg c_28, if_neg c_30, if_neg c_32, if_neg c_34, if_neg c_36, if_neg c_38, if_pos c_40, if_neg c_41]), ht⟩, mk_F ht⟩) (fun q h => nomatch h) dAr_changed_183
  by_cases c_42 : a1 = 23
  · refine lv_tableIn (tgt := 170) hx hb dAr_changed_1 (by rw [c_42]; decide) (by rw [c_42]; decide) (by rw [c_42]; rfl) (by decide) ?_
    refine lv_iload_n hx hb dAr_changed_170 rfl (lv_at hl 1 rfl) ?_
    refine lv_iload_n hx hb dAr_changed_171 rfl (lv_at hl 2 rfl) ?_
    refine mk_callR (va_runS (As := [.int a2, .int a3]) (rest := []) ⟨hx, hb, hml, hown, hts⟩ (hc_Arithmetic_isBelow l s.heap a2 a3) (va_cwS 2 hts (mk_gS tw_255 tw_212 tw_56 tw_213) rfl rfl rfl hdAr_isBelow.2 ⟨Nat.le_of_ble_eq_true rfl, Nat.le_of_ble_eq_true rfl⟩) mk_preS rfl rfl hl.1 rfl (lv_room (Nat.le_of_ble_eq_true rfl)) dAr_changed_172 ⟨Nat.zero_le _, Nat.zero_le _⟩) ?_
    refine lv_if_eq (tgt := 182) hx hb dAr_changed_175 (by decide) (fun c_43 => ?_) (fun c_43 => ?_)
    · refine lv_iload_n hx hb dAr_changed_182 rfl (lv_at hl 1 rfl) ?_
      exact W.iret hx hb hr (fun t ht hW => ⟨⟨_, (), rfl, (by unfold hf_Arithmetic_changed; rw [if_neg c_1, if_neg c_2, if_neg c_3, if_neg c_5, if_neg c_7, if_neg c_8, if_neg c_10, if_neg c_12, if_neg c_14, if_neg c_15, if_neg c_17, if_neg c_19, if_neg c_21, if_neg c_22, if_neg c_24, if_neg c_26, if_neg c_28, if_neg c_30, if_neg c_32, if_neg c_34, if_neg c_36, if_neg c_38, if_neg c_40, if_pos c_42, if_pos c_43]), ht⟩, mk_F ht⟩) (fun q h => nomatch h) dAr_changed_183
    · refine lv_iload_n hx hb dAr_changed_178 rfl (lv_at hl 2 rfl) ?_
      refine lv_goto (tgt := 183) hx hb dAr_changed_179 (by decide) ?_
      exact W.iret hx hb hr (fun t ht hW => ⟨⟨_, (), rfl, (by unfold hf_Arithmetic_changed; rw [if_neg c_1, if_neg c_2, if_neg c_3, if_neg c_5, if_neg c_7, if_neg c_8, if_neg c_10, if_neg c_12, if_neg c_14, if_neg c_15, if_neg c_17, if_neg c_19, if_neg c_21, if_neg c_22, if_neg c_24, if_neg c_26, if_neg c_28, if_neg c_30, if_neg c_32, if_neg c_34, if_neg c_36, if_neg c_38, if_neg c_40, if_pos c_42, if_neg c_43]), ht⟩, mk_F ht⟩) (fun q h => nomatch h) dAr_changed_183
  by_cases c_44 : a1 = 24
  · refine lv_tableIn (tgt := 156) hx hb dAr_changed_1 (by rw [c_44]; decide) (by rw [c_44]; decide) (by rw [c_44]; rfl) (by decide) ?_
    refine lv_iload_n hx hb dAr_changed_156 rfl (lv_at hl 1 rfl) ?_
    refine lv_iload_n hx hb dAr_changed_157 rfl (lv_at hl 2 rfl) ?_
    refine mk_callR (va_runS (As := [.int a2, .int a3]) (rest := []) ⟨hx, hb, hml, hown, hts⟩ (hc_Arithmetic_isBelow l s.heap a2 a3) (va_cwS 2 hts (mk_gS tw_255 tw_212 tw_56 tw_213) rfl rfl rfl hdAr_isBelow.2 ⟨Nat.le_of_ble_eq_true rfl, Nat.le_of_ble_eq_true rfl⟩) mk_preS rfl rfl hl.1 rfl (lv_room (Nat.le_of_ble_eq_true rfl)) dAr_changed_158 ⟨Nat.zero_le _, Nat.zero_le _⟩) ?_
    refine lv_if_eq (tgt := 168) hx hb dAr_changed_161 (by decide) (fun c_45 => ?_) (fun c_45 => ?_)
    · refine lv_iload_n hx hb dAr_changed_168 rfl (lv_at hl 2 rfl) ?_
      exact W.iret hx hb hr (fun t ht hW => ⟨⟨_, (), rfl, (by unfold hf_Arithmetic_changed; rw [if_neg c_1, if_neg c_2, if_neg c_3, if_neg c_5, if_neg c_7, if_neg c_8, if_neg c_10, if_neg c_12, if_neg c_14, if_neg c_15, if_neg c_17, if_neg c_19, if_neg c_21, if_neg c_22, if_neg c_24, if_neg c_26, if_neg c_28, if_neg c_30, if_neg c_32, if_neg c_34, if_neg c_36, if_neg c_38, if_neg c_40, if_neg c_42, if_pos c_44, if_pos c_45]), ht⟩, mk_F ht⟩) (fun q h => nomatch h) dAr_changed_169
    · refine lv_iload_n hx hb dAr_changed_164 rfl (lv_at hl 1 rfl) ?_
      refine lv_goto (tgt := 169) hx hb dAr_changed_165 (by decide) ?_
      exact W.iret hx hb hr (fun t ht hW => ⟨⟨_, (), rfl, (by unfold hf_Arithmetic_changed; rw [if_neg c_1, if_neg c_2, if_neg c_3, if_neg c_5, if_neg c_7, if_neg c_8, if_neg c_10, if_neg c_12, if_neg c_14, if_neg c_15, if_neg c_17, if_neg c_19, if_neg c_21, if_neg c_22, if_neg c_24, if_neg c_26, if_neg c_28, if_neg c_30, if_neg c_32, if_neg c_34, if_neg c_36, if_neg c_38, if_neg c_40, if_neg c_42, if_pos c_44, if_neg c_45]), ht⟩, mk_F ht⟩) (fun q h => nomatch h) dAr_changed_169
  refine lv_tableOut (tgt := 170) hx hb dAr_changed_1 (by have q_1 := lv_neT (a := 0) c_1 rfl; have q_2 := lv_neT (a := 1) c_2 rfl; have q_3 := lv_neT (a := 2) c_3 rfl; have q_5 := lv_neT (a := 3) c_5 rfl; have q_7 := lv_neT (a := 4) c_7 rfl; have q_8 := lv_neT (a := 5) c_8 rfl; have q_10 := lv_neT (a := 6) c_10 rfl; have q_12 := lv_neT (a := 7) c_12 rfl; have q_14 := lv_neT (a := 8) c_14 rfl; have q_15 := lv_neT (a := 9) c_15 rfl; have q_17 := lv_neT (a := 10) c_17 rfl; have q_19 := lv_neT (a := 11) c_19 rfl; have q_21 := lv_neT (a := 12) c_21 rfl; have q_22 := lv_neT (a := 13) c_22 rfl; have q_24 := lv_neT (a := 14) c_24 rfl; have q_26 := lv_neT (a := 15) c_26 rfl; have q_28 := lv_neT (a := 16) c_28 rfl; have q_30 := lv_neT (a := 17) c_30 rfl; have q_32 := lv_neT (a := 18) c_32 rfl; have q_34 := lv_neT (a := 19) c_34 rfl; have q_36 := lv_neT (a := 20) c_36 rfl; have q_38 := lv_neT (a := 21) c_38 rfl; have q_40 := lv_neT (a := 22) c_40 rfl; have q_42 := lv_neT (a := 23) c_42 rfl; have q_44 := lv_neT (a := 24) c_44 rfl; omega) (by decide) ?_
  refine lv_iload_n hx hb dAr_changed_170 rfl (lv_at hl 1 rfl) ?_
  refine lv_iload_n hx hb dAr_changed_171 rfl (lv_at hl 2 rfl) ?_
  refine mk_callR (va_runS (As := [.int a2, .int a3]) (rest := []) ⟨hx, hb, hml, hown, hts⟩ (hc_Arithmetic_isBelow l s.heap a2 a3) (va_cwS 2 hts (mk_gS tw_255 tw_212 tw_56 tw_213) rfl rfl rfl hdAr_isBelow.2 ⟨Nat.le_of_ble_eq_true rfl, Nat.le_of_ble_eq_true rfl⟩) mk_preS rfl rfl hl.1 rfl (lv_room (Nat.le_of_ble_eq_true rfl)) dAr_changed_172 ⟨Nat.zero_le _, Nat.zero_le _⟩) ?_
  refine lv_if_eq (tgt := 182) hx hb dAr_changed_175 (by decide) (fun c_46 => ?_) (fun c_46 => ?_)
  · refine lv_iload_n hx hb dAr_changed_182 rfl (lv_at hl 1 rfl) ?_
    exact W.iret hx hb hr (fun t ht hW => ⟨⟨_, (), rfl, (by unfold hf_Arithmetic_changed; rw [if_neg c_1, if_neg c_2, if_neg c_3, if_neg c_5, if_neg c_7, if_neg c_8, if_neg c_10, if_neg c_12, if_neg c_14, if_neg c_15, if_neg c_17, if_neg c_19, if_neg c_21, if_neg c_22, if_neg c_24, if_neg c_26, if_neg c_28, if_neg c_30, if_neg c_32, if_neg c_34, if_neg c_36, if_neg c_38, if_neg c_40, if_neg c_42, if_neg c_44, if_pos c_46]), ht⟩, mk_F ht⟩) (fun q h => nomatch h) dAr_changed_183
  · refine lv_iload_n hx hb dAr_changed_178 rfl (lv_at hl 2 rfl) ?_
    refine lv_goto (tgt := 183) hx hb dAr_changed_179 (by decide) ?_
    exact W.iret hx hb hr (fun t ht hW => ⟨⟨_, (), rfl, (by unfold hf_Arithmetic_changed; rw [if_neg c_1, if_neg c_2, if_neg c_3, if_neg c_5, if_neg c_7, if_neg c_8, if_neg c_10, if_neg c_12, if_neg c_14, if_neg c_15, if_neg c_17, if_neg c_19, if_neg c_21, if_neg c_22, if_neg c_24, if_neg c_26, if_neg c_28, if_neg c_30, if_neg c_32, if_neg c_34, if_neg c_36, if_neg c_38, if_neg c_40, if_neg c_42, if_neg c_44, if_neg c_46]), ht⟩, mk_F ht⟩) (fun q h => nomatch h) dAr_changed_183
set_option maxHeartbeats 4000000 in
set_option maxRecDepth 100000 in
theorem hc_ShortForm_lowNear (l : Launch) (G : Heap) (a1 : Int32)  : Met l ySF_lowNear (wq ySF_lowNear cSF_lowNear 1 (some .int)) ({ frames := 1, cells := 0, slots := 0, locals := 22 }) (mk_P G [.int a1]) (mk_Qi G (hf_ShortForm_lowNear a1)) 0 0 (fun _ => False) := by
  refine Met.ofW (cc := cSF_lowNear) (maxL := 1) (ret := (some .int)) (by decide) rfl ?_
  intro p e s m args below meth c s₁ B hml hv
  obtain ⟨rfl, hG⟩ := hv
  subst hG
  have hx := B.exec
  have hb := B.bytes
  have hr := B.returns
  have hts := atoms_spec (ws := (wq ySF_lowNear cSF_lowNear 1 (some .int))) B.pre
  have hown : s.vm.findClass RSF = some m.cls := findClass_of_methodNamed B.named
  have hlocks := B.notSynchronized
  have hg : ∀ w ∈ lw_g, w.before _ s = true := fun w h => hts w (List.mem_cons_of_mem _ h)
  have hl := lv_entry ([.int a1]) (n := 1) (Nat.le_of_ble_eq_true rfl)
  rw [lg_entry_eq]
  generalize (lg_sl ([.int a1]) ++ List.replicate (1 - (lg_sl ([.int a1])).length) Slot.unset).toArray = ls at hl ⊢
  have hl : lv_has ls 1 [(0, .int a1)] := hl
  refine lv_bipush (v := 8) hx hb dSF_lowNear_0 (by decide) ?_
  refine lv_iload_n hx hb dSF_lowNear_2 rfl (lv_at hl 0 rfl) ?_
  refine lv_iconst (v := 2) hx hb dSF_lowNear_3 (by decide) ?_
  refine lv_iconst (v := 3) hx hb dSF_lowNear_4 (by decide) ?_
  refine mk_callR (va_runS (As := [.int a1, .int 2, .int 3]) (rest := [.int 8]) ⟨hx, hb, hml, hown, hts⟩ (hc_Bits_part l s.heap a1 2 3) (va_cwS 3 hts (mk_gS tw_326 tw_165 tw_55 tw_166) rfl rfl rfl hdBits_part.2 ⟨Nat.le_of_ble_eq_true rfl, Nat.le_of_ble_eq_true rfl⟩) mk_preS rfl rfl hl.1 rfl (lv_room (Nat.le_of_ble_eq_true rfl)) dSF_lowNear_5 ⟨Nat.zero_le _, Nat.zero_le _⟩) ?_
  refine lv_iadd hx hb dSF_lowNear_8 ?_
  exact W.iret hx hb hr (fun t ht hW => ⟨⟨_, (), rfl, rfl, ht⟩, mk_F ht⟩) (fun q h => nomatch h) dSF_lowNear_9
set_option maxHeartbeats 4000000 in
set_option maxRecDepth 100000 in
theorem hc_ShortForm_highNear (l : Launch) (G : Heap) (a1 : Int32)  : Met l ySF_highNear (wq ySF_highNear cSF_highNear 1 (some .int)) ({ frames := 1, cells := 0, slots := 0, locals := 22 }) (mk_P G [.int a1]) (mk_Qi G (hf_ShortForm_highNear a1)) 0 0 (fun _ => False) := by
  refine Met.ofW (cc := cSF_highNear) (maxL := 1) (ret := (some .int)) (by decide) rfl ?_
  intro p e s m args below meth c s₁ B hml hv
  obtain ⟨rfl, hG⟩ := hv
  subst hG
  have hx := B.exec
  have hb := B.bytes
  have hr := B.returns
  have hts := atoms_spec (ws := (wq ySF_highNear cSF_highNear 1 (some .int))) B.pre
  have hown : s.vm.findClass RSF = some m.cls := findClass_of_methodNamed B.named
  have hlocks := B.notSynchronized
  have hg : ∀ w ∈ lw_g, w.before _ s = true := fun w h => hts w (List.mem_cons_of_mem _ h)
  have hl := lv_entry ([.int a1]) (n := 1) (Nat.le_of_ble_eq_true rfl)
  rw [lg_entry_eq]
  generalize (lg_sl ([.int a1]) ++ List.replicate (1 - (lg_sl ([.int a1])).length) Slot.unset).toArray = ls at hl ⊢
  have hl : lv_has ls 1 [(0, .int a1)] := hl
  refine lv_bipush (v := 8) hx hb dSF_highNear_0 (by decide) ?_
  refine lv_iload_n hx hb dSF_highNear_2 rfl (lv_at hl 0 rfl) ?_
  refine lv_bipush (v := 7) hx hb dSF_highNear_3 (by decide) ?_
  refine lv_iconst (v := 3) hx hb dSF_highNear_5 (by decide) ?_
  refine mk_callR (va_runS (As := [.int a1, .int 7, .int 3]) (rest := [.int 8]) ⟨hx, hb, hml, hown, hts⟩ (hc_Bits_part l s.heap a1 7 3) (va_cwS 3 hts (mk_gS tw_326 tw_165 tw_55 tw_166) rfl rfl rfl hdBits_part.2 ⟨Nat.le_of_ble_eq_true rfl, Nat.le_of_ble_eq_true rfl⟩) mk_preS rfl rfl hl.1 rfl (lv_room (Nat.le_of_ble_eq_true rfl)) dSF_highNear_6 ⟨Nat.zero_le _, Nat.zero_le _⟩) ?_
  refine lv_iadd hx hb dSF_highNear_9 ?_
  exact W.iret hx hb hr (fun t ht hW => ⟨⟨_, (), rfl, rfl, ht⟩, mk_F ht⟩) (fun q h => nomatch h) dSF_highNear_10
set_option maxHeartbeats 4000000 in
set_option maxRecDepth 100000 in
theorem hc_ShortForm_nearOffset (l : Launch) (G : Heap) (a1 : Int32)  : Met l ySF_nearOffset (wq ySF_nearOffset cSF_nearOffset 1 (some .int)) ({ frames := 1, cells := 0, slots := 0, locals := 22 }) (mk_P G [.int a1]) (mk_Qi G (hf_ShortForm_nearOffset a1)) 0 0 (fun _ => False) := by
  refine Met.ofW (cc := cSF_nearOffset) (maxL := 1) (ret := (some .int)) (by decide) rfl ?_
  intro p e s m args below meth c s₁ B hml hv
  obtain ⟨rfl, hG⟩ := hv
  subst hG
  have hx := B.exec
  have hb := B.bytes
  have hr := B.returns
  have hts := atoms_spec (ws := (wq ySF_nearOffset cSF_nearOffset 1 (some .int))) B.pre
  have hown : s.vm.findClass RSF = some m.cls := findClass_of_methodNamed B.named
  have hlocks := B.notSynchronized
  have hg : ∀ w ∈ lw_g, w.before _ s = true := fun w h => hts w (List.mem_cons_of_mem _ h)
  have hl := lv_entry ([.int a1]) (n := 1) (Nat.le_of_ble_eq_true rfl)
  rw [lg_entry_eq]
  generalize (lg_sl ([.int a1]) ++ List.replicate (1 - (lg_sl ([.int a1])).length) Slot.unset).toArray = ls at hl ⊢
  have hl : lv_has ls 1 [(0, .int a1)] := hl
  refine lv_iload_n hx hb dSF_nearOffset_0 rfl (lv_at hl 0 rfl) ?_
  refine lv_bipush (v := 10) hx hb dSF_nearOffset_1 (by decide) ?_
  refine lv_iconst (v := 3) hx hb dSF_nearOffset_3 (by decide) ?_
  refine mk_callR (va_runS (As := [.int a1, .int 10, .int 3]) (rest := []) ⟨hx, hb, hml, hown, hts⟩ (hc_Bits_part l s.heap a1 10 3) (va_cwS 3 hts (mk_gS tw_326 tw_165 tw_55 tw_166) rfl rfl rfl hdBits_part.2 ⟨Nat.le_of_ble_eq_true rfl, Nat.le_of_ble_eq_true rfl⟩) mk_preS rfl rfl hl.1 rfl (lv_room (Nat.le_of_ble_eq_true rfl)) dSF_nearOffset_4 ⟨Nat.zero_le _, Nat.zero_le _⟩) ?_
  refine lv_iconst (v := 3) hx hb dSF_nearOffset_7 (by decide) ?_
  refine lv_ishl hx hb dSF_nearOffset_8 ?_
  refine lv_iload_n hx hb dSF_nearOffset_9 rfl (lv_at hl 0 rfl) ?_
  refine lv_bipush (v := 6) hx hb dSF_nearOffset_10 (by decide) ?_
  refine lv_iconst (v := 1) hx hb dSF_nearOffset_12 (by decide) ?_
  refine mk_callR (va_runS (As := [.int a1, .int 6, .int 1]) (rest := [.int ((hf_Bits_part a1 10 3) <<< (3 &&& 31))]) ⟨hx, hb, hml, hown, hts⟩ (hc_Bits_part l s.heap a1 6 1) (va_cwS 3 hts (mk_gS tw_326 tw_165 tw_55 tw_166) rfl rfl rfl hdBits_part.2 ⟨Nat.le_of_ble_eq_true rfl, Nat.le_of_ble_eq_true rfl⟩) mk_preS rfl rfl hl.1 rfl (lv_room (Nat.le_of_ble_eq_true rfl)) dSF_nearOffset_13 ⟨Nat.zero_le _, Nat.zero_le _⟩) ?_
  refine lv_iconst (v := 2) hx hb dSF_nearOffset_16 (by decide) ?_
  refine lv_ishl hx hb dSF_nearOffset_17 ?_
  refine lv_ior hx hb dSF_nearOffset_18 ?_
  refine lv_iload_n hx hb dSF_nearOffset_19 rfl (lv_at hl 0 rfl) ?_
  refine lv_iconst (v := 5) hx hb dSF_nearOffset_20 (by decide) ?_
  refine lv_iconst (v := 1) hx hb dSF_nearOffset_21 (by decide) ?_
  refine mk_callR (va_runS (As := [.int a1, .int 5, .int 1]) (rest := [.int (((hf_Bits_part a1 10 3) <<< (3 &&& 31)) ||| ((hf_Bits_part a1 6 1) <<< (2 &&& 31)))]) ⟨hx, hb, hml, hown, hts⟩ (hc_Bits_part l s.heap a1 5 1) (va_cwS 3 hts (mk_gS tw_326 tw_165 tw_55 tw_166) rfl rfl rfl hdBits_part.2 ⟨Nat.le_of_ble_eq_true rfl, Nat.le_of_ble_eq_true rfl⟩) mk_preS rfl rfl hl.1 rfl (lv_room (Nat.le_of_ble_eq_true rfl)) dSF_nearOffset_22 ⟨Nat.zero_le _, Nat.zero_le _⟩) ?_
  refine lv_bipush (v := 6) hx hb dSF_nearOffset_25 (by decide) ?_
  refine lv_ishl hx hb dSF_nearOffset_27 ?_
  refine lv_ior hx hb dSF_nearOffset_28 ?_
  exact W.iret hx hb hr (fun t ht hW => ⟨⟨_, (), rfl, rfl, ht⟩, mk_F ht⟩) (fun q h => nomatch h) dSF_nearOffset_29
set_option maxHeartbeats 4000000 in
set_option maxRecDepth 100000 in
theorem hc_ShortForm_f (l : Launch) (G : Heap) (a1 : Int32)  : Met l ySF_f (wq ySF_f cSF_f 1 (some .int)) ({ frames := 1, cells := 0, slots := 0, locals := 22 }) (mk_P G [.int a1]) (mk_Qi G (hf_ShortForm_f a1)) 0 0 (fun _ => False) := by
  refine Met.ofW (cc := cSF_f) (maxL := 1) (ret := (some .int)) (by decide) rfl ?_
  intro p e s m args below meth c s₁ B hml hv
  obtain ⟨rfl, hG⟩ := hv
  subst hG
  have hx := B.exec
  have hb := B.bytes
  have hr := B.returns
  have hts := atoms_spec (ws := (wq ySF_f cSF_f 1 (some .int))) B.pre
  have hown : s.vm.findClass RSF = some m.cls := findClass_of_methodNamed B.named
  have hlocks := B.notSynchronized
  have hg : ∀ w ∈ lw_g, w.before _ s = true := fun w h => hts w (List.mem_cons_of_mem _ h)
  have hl := lv_entry ([.int a1]) (n := 1) (Nat.le_of_ble_eq_true rfl)
  rw [lg_entry_eq]
  generalize (lg_sl ([.int a1]) ++ List.replicate (1 - (lg_sl ([.int a1])).length) Slot.unset).toArray = ls at hl ⊢
  have hl : lv_has ls 1 [(0, .int a1)] := hl
  refine lv_iload_n hx hb dSF_f_0 rfl (lv_at hl 0 rfl) ?_
  refine lv_bipush (v := 13) hx hb dSF_f_1 (by decide) ?_
  refine lv_iconst (v := 3) hx hb dSF_f_3 (by decide) ?_
  refine mk_callR (va_runS (As := [.int a1, .int 13, .int 3]) (rest := []) ⟨hx, hb, hml, hown, hts⟩ (hc_Bits_part l s.heap a1 13 3) (va_cwS 3 hts (mk_gS tw_326 tw_165 tw_55 tw_166) rfl rfl rfl hdBits_part.2 ⟨Nat.le_of_ble_eq_true rfl, Nat.le_of_ble_eq_true rfl⟩) mk_preS rfl rfl hl.1 rfl (lv_room (Nat.le_of_ble_eq_true rfl)) dSF_f_4 ⟨Nat.zero_le _, Nat.zero_le _⟩) ?_
  exact W.iret hx hb hr (fun t ht hW => ⟨⟨_, (), rfl, rfl, ht⟩, mk_F ht⟩) (fun q h => nomatch h) dSF_f_7
set_option maxHeartbeats 4000000 in
set_option maxRecDepth 100000 in
theorem hc_ShortForm_stackNumber (l : Launch) (G : Heap) (a1 : Int32)  : Met l ySF_stackNumber (wq ySF_stackNumber cSF_stackNumber 1 (some .int)) ({ frames := 1, cells := 0, slots := 0, locals := 22 }) (mk_P G [.int a1]) (mk_Qi G (hf_ShortForm_stackNumber a1)) 0 0 (fun _ => False) := by
  refine Met.ofW (cc := cSF_stackNumber) (maxL := 1) (ret := (some .int)) (by decide) rfl ?_
  intro p e s m args below meth c s₁ B hml hv
  obtain ⟨rfl, hG⟩ := hv
  subst hG
  have hx := B.exec
  have hb := B.bytes
  have hr := B.returns
  have hts := atoms_spec (ws := (wq ySF_stackNumber cSF_stackNumber 1 (some .int))) B.pre
  have hown : s.vm.findClass RSF = some m.cls := findClass_of_methodNamed B.named
  have hlocks := B.notSynchronized
  have hg : ∀ w ∈ lw_g, w.before _ s = true := fun w h => hts w (List.mem_cons_of_mem _ h)
  have hl := lv_entry ([.int a1]) (n := 1) (Nat.le_of_ble_eq_true rfl)
  rw [lg_entry_eq]
  generalize (lg_sl ([.int a1]) ++ List.replicate (1 - (lg_sl ([.int a1])).length) Slot.unset).toArray = ls at hl ⊢
  have hl : lv_has ls 1 [(0, .int a1)] := hl
  refine lv_iload_n hx hb dSF_stackNumber_0 rfl (lv_at hl 0 rfl) ?_
  refine lv_bipush (v := 11) hx hb dSF_stackNumber_1 (by decide) ?_
  refine lv_iconst (v := 2) hx hb dSF_stackNumber_3 (by decide) ?_
  refine mk_callR (va_runS (As := [.int a1, .int 11, .int 2]) (rest := []) ⟨hx, hb, hml, hown, hts⟩ (hc_Bits_part l s.heap a1 11 2) (va_cwS 3 hts (mk_gS tw_326 tw_165 tw_55 tw_166) rfl rfl rfl hdBits_part.2 ⟨Nat.le_of_ble_eq_true rfl, Nat.le_of_ble_eq_true rfl⟩) mk_preS rfl rfl hl.1 rfl (lv_room (Nat.le_of_ble_eq_true rfl)) dSF_stackNumber_4 ⟨Nat.zero_le _, Nat.zero_le _⟩) ?_
  refine lv_iconst (v := 4) hx hb dSF_stackNumber_7 (by decide) ?_
  refine lv_ishl hx hb dSF_stackNumber_8 ?_
  refine lv_iload_n hx hb dSF_stackNumber_9 rfl (lv_at hl 0 rfl) ?_
  refine lv_bipush (v := 7) hx hb dSF_stackNumber_10 (by decide) ?_
  refine lv_iconst (v := 4) hx hb dSF_stackNumber_12 (by decide) ?_
  refine mk_callR (va_runS (As := [.int a1, .int 7, .int 4]) (rest := [.int ((hf_Bits_part a1 11 2) <<< (4 &&& 31))]) ⟨hx, hb, hml, hown, hts⟩ (hc_Bits_part l s.heap a1 7 4) (va_cwS 3 hts (mk_gS tw_326 tw_165 tw_55 tw_166) rfl rfl rfl hdBits_part.2 ⟨Nat.le_of_ble_eq_true rfl, Nat.le_of_ble_eq_true rfl⟩) mk_preS rfl rfl hl.1 rfl (lv_room (Nat.le_of_ble_eq_true rfl)) dSF_stackNumber_13 ⟨Nat.zero_le _, Nat.zero_le _⟩) ?_
  refine lv_bipush (v := 6) hx hb dSF_stackNumber_16 (by decide) ?_
  refine lv_ishl hx hb dSF_stackNumber_18 ?_
  refine lv_ior hx hb dSF_stackNumber_19 ?_
  refine lv_iload_n hx hb dSF_stackNumber_20 rfl (lv_at hl 0 rfl) ?_
  refine lv_bipush (v := 6) hx hb dSF_stackNumber_21 (by decide) ?_
  refine lv_iconst (v := 1) hx hb dSF_stackNumber_23 (by decide) ?_
  refine mk_callR (va_runS (As := [.int a1, .int 6, .int 1]) (rest := [.int (((hf_Bits_part a1 11 2) <<< (4 &&& 31)) ||| ((hf_Bits_part a1 7 4) <<< (6 &&& 31)))]) ⟨hx, hb, hml, hown, hts⟩ (hc_Bits_part l s.heap a1 6 1) (va_cwS 3 hts (mk_gS tw_326 tw_165 tw_55 tw_166) rfl rfl rfl hdBits_part.2 ⟨Nat.le_of_ble_eq_true rfl, Nat.le_of_ble_eq_true rfl⟩) mk_preS rfl rfl hl.1 rfl (lv_room (Nat.le_of_ble_eq_true rfl)) dSF_stackNumber_24 ⟨Nat.zero_le _, Nat.zero_le _⟩) ?_
  refine lv_iconst (v := 2) hx hb dSF_stackNumber_27 (by decide) ?_
  refine lv_ishl hx hb dSF_stackNumber_28 ?_
  refine lv_ior hx hb dSF_stackNumber_29 ?_
  refine lv_iload_n hx hb dSF_stackNumber_30 rfl (lv_at hl 0 rfl) ?_
  refine lv_iconst (v := 5) hx hb dSF_stackNumber_31 (by decide) ?_
  refine lv_iconst (v := 1) hx hb dSF_stackNumber_32 (by decide) ?_
  refine mk_callR (va_runS (As := [.int a1, .int 5, .int 1]) (rest := [.int ((((hf_Bits_part a1 11 2) <<< (4 &&& 31)) ||| ((hf_Bits_part a1 7 4) <<< (6 &&& 31))) ||| ((hf_Bits_part a1 6 1) <<< (2 &&& 31)))]) ⟨hx, hb, hml, hown, hts⟩ (hc_Bits_part l s.heap a1 5 1) (va_cwS 3 hts (mk_gS tw_326 tw_165 tw_55 tw_166) rfl rfl rfl hdBits_part.2 ⟨Nat.le_of_ble_eq_true rfl, Nat.le_of_ble_eq_true rfl⟩) mk_preS rfl rfl hl.1 rfl (lv_room (Nat.le_of_ble_eq_true rfl)) dSF_stackNumber_33 ⟨Nat.zero_le _, Nat.zero_le _⟩) ?_
  refine lv_iconst (v := 3) hx hb dSF_stackNumber_36 (by decide) ?_
  refine lv_ishl hx hb dSF_stackNumber_37 ?_
  refine lv_ior hx hb dSF_stackNumber_38 ?_
  exact W.iret hx hb hr (fun t ht hW => ⟨⟨_, (), rfl, rfl, ht⟩, mk_F ht⟩) (fun q h => nomatch h) dSF_stackNumber_39
set_option maxHeartbeats 4000000 in
set_option maxRecDepth 100000 in
theorem hc_ShortForm_d (l : Launch) (G : Heap) (a1 : Int32)  : Met l ySF_d (wq ySF_d cSF_d 1 (some .int)) ({ frames := 1, cells := 0, slots := 0, locals := 22 }) (mk_P G [.int a1]) (mk_Qi G (hf_ShortForm_d a1)) 0 0 (fun _ => False) := by
  refine Met.ofW (cc := cSF_d) (maxL := 1) (ret := (some .int)) (by decide) rfl ?_
  intro p e s m args below meth c s₁ B hml hv
  obtain ⟨rfl, hG⟩ := hv
  subst hG
  have hx := B.exec
  have hb := B.bytes
  have hr := B.returns
  have hts := atoms_spec (ws := (wq ySF_d cSF_d 1 (some .int))) B.pre
  have hown : s.vm.findClass RSF = some m.cls := findClass_of_methodNamed B.named
  have hlocks := B.notSynchronized
  have hg : ∀ w ∈ lw_g, w.before _ s = true := fun w h => hts w (List.mem_cons_of_mem _ h)
  have hl := lv_entry ([.int a1]) (n := 1) (Nat.le_of_ble_eq_true rfl)
  rw [lg_entry_eq]
  generalize (lg_sl ([.int a1]) ++ List.replicate (1 - (lg_sl ([.int a1])).length) Slot.unset).toArray = ls at hl ⊢
  have hl : lv_has ls 1 [(0, .int a1)] := hl
  refine lv_iload_n hx hb dSF_d_0 rfl (lv_at hl 0 rfl) ?_
  refine lv_bipush (v := 7) hx hb dSF_d_1 (by decide) ?_
  refine lv_iconst (v := 5) hx hb dSF_d_3 (by decide) ?_
  refine mk_callR (va_runS (As := [.int a1, .int 7, .int 5]) (rest := []) ⟨hx, hb, hml, hown, hts⟩ (hc_Bits_part l s.heap a1 7 5) (va_cwS 3 hts (mk_gS tw_326 tw_165 tw_55 tw_166) rfl rfl rfl hdBits_part.2 ⟨Nat.le_of_ble_eq_true rfl, Nat.le_of_ble_eq_true rfl⟩) mk_preS rfl rfl hl.1 rfl (lv_room (Nat.le_of_ble_eq_true rfl)) dSF_d_4 ⟨Nat.zero_le _, Nat.zero_le _⟩) ?_
  exact W.iret hx hb hr (fun t ht hW => ⟨⟨_, (), rfl, rfl, ht⟩, mk_F ht⟩) (fun q h => nomatch h) dSF_d_7
set_option maxHeartbeats 4000000 in
set_option maxRecDepth 100000 in
theorem hc_ShortForm_number (l : Launch) (G : Heap) (a1 : Int32)  : Met l ySF_number (wq ySF_number cSF_number 1 (some .int)) ({ frames := 1, cells := 0, slots := 0, locals := 22 }) (mk_P G [.int a1]) (mk_Qi G (hf_ShortForm_number a1)) 0 0 (fun _ => False) := by
  refine Met.ofW (cc := cSF_number) (maxL := 1) (ret := (some .int)) (by decide) rfl ?_
  intro p e s m args below meth c s₁ B hml hv
  obtain ⟨rfl, hG⟩ := hv
  subst hG
  have hx := B.exec
  have hb := B.bytes
  have hr := B.returns
  have hts := atoms_spec (ws := (wq ySF_number cSF_number 1 (some .int))) B.pre
  have hown : s.vm.findClass RSF = some m.cls := findClass_of_methodNamed B.named
  have hlocks := B.notSynchronized
  have hg : ∀ w ∈ lw_g, w.before _ s = true := fun w h => hts w (List.mem_cons_of_mem _ h)
  have hl := lv_entry ([.int a1]) (n := 1) (Nat.le_of_ble_eq_true rfl)
  rw [lg_entry_eq]
  generalize (lg_sl ([.int a1]) ++ List.replicate (1 - (lg_sl ([.int a1])).length) Slot.unset).toArray = ls at hl ⊢
  have hl : lv_has ls 1 [(0, .int a1)] := hl
  refine lv_iload_n hx hb dSF_number_0 rfl (lv_at hl 0 rfl) ?_
  refine lv_bipush (v := 12) hx hb dSF_number_1 (by decide) ?_
  refine lv_iconst (v := 1) hx hb dSF_number_3 (by decide) ?_
  refine mk_callR (va_runS (As := [.int a1, .int 12, .int 1]) (rest := []) ⟨hx, hb, hml, hown, hts⟩ (hc_Bits_part l s.heap a1 12 1) (va_cwS 3 hts (mk_gS tw_326 tw_165 tw_55 tw_166) rfl rfl rfl hdBits_part.2 ⟨Nat.le_of_ble_eq_true rfl, Nat.le_of_ble_eq_true rfl⟩) mk_preS rfl rfl hl.1 rfl (lv_room (Nat.le_of_ble_eq_true rfl)) dSF_number_4 ⟨Nat.zero_le _, Nat.zero_le _⟩) ?_
  refine lv_iconst (v := 5) hx hb dSF_number_7 (by decide) ?_
  refine lv_ishl hx hb dSF_number_8 ?_
  refine lv_iload_n hx hb dSF_number_9 rfl (lv_at hl 0 rfl) ?_
  refine lv_iconst (v := 2) hx hb dSF_number_10 (by decide) ?_
  refine lv_iconst (v := 5) hx hb dSF_number_11 (by decide) ?_
  refine mk_callR (va_runS (As := [.int a1, .int 2, .int 5]) (rest := [.int ((hf_Bits_part a1 12 1) <<< (5 &&& 31))]) ⟨hx, hb, hml, hown, hts⟩ (hc_Bits_part l s.heap a1 2 5) (va_cwS 3 hts (mk_gS tw_326 tw_165 tw_55 tw_166) rfl rfl rfl hdBits_part.2 ⟨Nat.le_of_ble_eq_true rfl, Nat.le_of_ble_eq_true rfl⟩) mk_preS rfl rfl hl.1 rfl (lv_room (Nat.le_of_ble_eq_true rfl)) dSF_number_12 ⟨Nat.zero_le _, Nat.zero_le _⟩) ?_
  refine lv_ior hx hb dSF_number_15 ?_
  refine lv_bipush (v := 6) hx hb dSF_number_16 (by decide) ?_
  refine mk_callR (va_runS (As := [.int (((hf_Bits_part a1 12 1) <<< (5 &&& 31)) ||| (hf_Bits_part a1 2 5)), .int 6]) (rest := []) ⟨hx, hb, hml, hown, hts⟩ (hc_Bits_signed l s.heap (((hf_Bits_part a1 12 1) <<< (5 &&& 31)) ||| (hf_Bits_part a1 2 5)) 6) (va_cwS 2 hts (mk_gS tw_349 tw_178 tw_55 tw_179) rfl rfl rfl hdBits_signed.2 ⟨Nat.le_of_ble_eq_true rfl, Nat.le_of_ble_eq_true rfl⟩) mk_preS rfl rfl hl.1 rfl (lv_room (Nat.le_of_ble_eq_true rfl)) dSF_number_18 ⟨Nat.zero_le _, Nat.zero_le _⟩) ?_
  exact W.iret hx hb hr (fun t ht hW => ⟨⟨_, (), rfl, rfl, ht⟩, mk_F ht⟩) (fun q h => nomatch h) dSF_number_21
set_option maxHeartbeats 4000000 in
set_option maxRecDepth 100000 in
theorem hc_ShortForm_offsetJ (l : Launch) (G : Heap) (a1 : Int32)  : Met l ySF_offsetJ (wq ySF_offsetJ cSF_offsetJ 2 (some .int)) ({ frames := 1, cells := 0, slots := 0, locals := 22 }) (mk_P G [.int a1]) (mk_Qi G (hf_ShortForm_offsetJ a1)) 0 0 (fun _ => False) := by
  refine Met.ofW (cc := cSF_offsetJ) (maxL := 2) (ret := (some .int)) (by decide) rfl ?_
  intro p e s m args below meth c s₁ B hml hv
  obtain ⟨rfl, hG⟩ := hv
  subst hG
  have hx := B.exec
  have hb := B.bytes
  have hr := B.returns
  have hts := atoms_spec (ws := (wq ySF_offsetJ cSF_offsetJ 2 (some .int))) B.pre
  have hown : s.vm.findClass RSF = some m.cls := findClass_of_methodNamed B.named
  have hlocks := B.notSynchronized
  have hg : ∀ w ∈ lw_g, w.before _ s = true := fun w h => hts w (List.mem_cons_of_mem _ h)
  have hl := lv_entry ([.int a1]) (n := 2) (Nat.le_of_ble_eq_true rfl)
  rw [lg_entry_eq]
  generalize (lg_sl ([.int a1]) ++ List.replicate (2 - (lg_sl ([.int a1])).length) Slot.unset).toArray = ls at hl ⊢
  have hl : lv_has ls 2 [(0, .int a1)] := hl
  refine lv_iload_n hx hb dSF_offsetJ_0 rfl (lv_at hl 0 rfl) ?_
  refine lv_bipush (v := 12) hx hb dSF_offsetJ_1 (by decide) ?_
  refine lv_iconst (v := 1) hx hb dSF_offsetJ_3 (by decide) ?_
  refine mk_callR (va_runS (As := [.int a1, .int 12, .int 1]) (rest := []) ⟨hx, hb, hml, hown, hts⟩ (hc_Bits_part l s.heap a1 12 1) (va_cwS 3 hts (mk_gS tw_326 tw_165 tw_55 tw_166) rfl rfl rfl hdBits_part.2 ⟨Nat.le_of_ble_eq_true rfl, Nat.le_of_ble_eq_true rfl⟩) mk_preS rfl rfl hl.1 rfl (lv_room (Nat.le_of_ble_eq_true rfl)) dSF_offsetJ_4 ⟨Nat.zero_le _, Nat.zero_le _⟩) ?_
  refine lv_bipush (v := 11) hx hb dSF_offsetJ_7 (by decide) ?_
  refine lv_ishl hx hb dSF_offsetJ_9 ?_
  refine lv_iload_n hx hb dSF_offsetJ_10 rfl (lv_at hl 0 rfl) ?_
  refine lv_bipush (v := 11) hx hb dSF_offsetJ_11 (by decide) ?_
  refine lv_iconst (v := 1) hx hb dSF_offsetJ_13 (by decide) ?_
  refine mk_callR (va_runS (As := [.int a1, .int 11, .int 1]) (rest := [.int ((hf_Bits_part a1 12 1) <<< (11 &&& 31))]) ⟨hx, hb, hml, hown, hts⟩ (hc_Bits_part l s.heap a1 11 1) (va_cwS 3 hts (mk_gS tw_326 tw_165 tw_55 tw_166) rfl rfl rfl hdBits_part.2 ⟨Nat.le_of_ble_eq_true rfl, Nat.le_of_ble_eq_true rfl⟩) mk_preS rfl rfl hl.1 rfl (lv_room (Nat.le_of_ble_eq_true rfl)) dSF_offsetJ_14 ⟨Nat.zero_le _, Nat.zero_le _⟩) ?_
  refine lv_iconst (v := 4) hx hb dSF_offsetJ_17 (by decide) ?_
  refine lv_ishl hx hb dSF_offsetJ_18 ?_
  refine lv_ior hx hb dSF_offsetJ_19 ?_
  refine lv_iload_n hx hb dSF_offsetJ_20 rfl (lv_at hl 0 rfl) ?_
  refine lv_bipush (v := 9) hx hb dSF_offsetJ_21 (by decide) ?_
  refine lv_iconst (v := 2) hx hb dSF_offsetJ_23 (by decide) ?_
  refine mk_callR (va_runS (As := [.int a1, .int 9, .int 2]) (rest := [.int (((hf_Bits_part a1 12 1) <<< (11 &&& 31)) ||| ((hf_Bits_part a1 11 1) <<< (4 &&& 31)))]) ⟨hx, hb, hml, hown, hts⟩ (hc_Bits_part l s.heap a1 9 2) (va_cwS 3 hts (mk_gS tw_326 tw_165 tw_55 tw_166) rfl rfl rfl hdBits_part.2 ⟨Nat.le_of_ble_eq_true rfl, Nat.le_of_ble_eq_true rfl⟩) mk_preS rfl rfl hl.1 rfl (lv_room (Nat.le_of_ble_eq_true rfl)) dSF_offsetJ_24 ⟨Nat.zero_le _, Nat.zero_le _⟩) ?_
  refine lv_bipush (v := 8) hx hb dSF_offsetJ_27 (by decide) ?_
  refine lv_ishl hx hb dSF_offsetJ_29 ?_
  refine lv_ior hx hb dSF_offsetJ_30 ?_
  refine lv_iload_n hx hb dSF_offsetJ_31 rfl (lv_at hl 0 rfl) ?_
  refine lv_bipush (v := 8) hx hb dSF_offsetJ_32 (by decide) ?_
  refine lv_iconst (v := 1) hx hb dSF_offsetJ_34 (by decide) ?_
  refine mk_callR (va_runS (As := [.int a1, .int 8, .int 1]) (rest := [.int ((((hf_Bits_part a1 12 1) <<< (11 &&& 31)) ||| ((hf_Bits_part a1 11 1) <<< (4 &&& 31))) ||| ((hf_Bits_part a1 9 2) <<< (8 &&& 31)))]) ⟨hx, hb, hml, hown, hts⟩ (hc_Bits_part l s.heap a1 8 1) (va_cwS 3 hts (mk_gS tw_326 tw_165 tw_55 tw_166) rfl rfl rfl hdBits_part.2 ⟨Nat.le_of_ble_eq_true rfl, Nat.le_of_ble_eq_true rfl⟩) mk_preS rfl rfl hl.1 rfl (lv_room (Nat.le_of_ble_eq_true rfl)) dSF_offsetJ_35 ⟨Nat.zero_le _, Nat.zero_le _⟩) ?_
  refine lv_bipush (v := 10) hx hb dSF_offsetJ_38 (by decide) ?_
  refine lv_ishl hx hb dSF_offsetJ_40 ?_
  refine lv_ior hx hb dSF_offsetJ_41 ?_
  refine lv_iload_n hx hb dSF_offsetJ_42 rfl (lv_at hl 0 rfl) ?_
  refine lv_bipush (v := 7) hx hb dSF_offsetJ_43 (by decide) ?_
  refine lv_iconst (v := 1) hx hb dSF_offsetJ_45 (by decide) ?_
  refine mk_callR (va_runS (As := [.int a1, .int 7, .int 1]) (rest := [.int (((((hf_Bits_part a1 12 1) <<< (11 &&& 31)) ||| ((hf_Bits_part a1 11 1) <<< (4 &&& 31))) ||| ((hf_Bits_part a1 9 2) <<< (8 &&& 31))) ||| ((hf_Bits_part a1 8 1) <<< (10 &&& 31)))]) ⟨hx, hb, hml, hown, hts⟩ (hc_Bits_part l s.heap a1 7 1) (va_cwS 3 hts (mk_gS tw_326 tw_165 tw_55 tw_166) rfl rfl rfl hdBits_part.2 ⟨Nat.le_of_ble_eq_true rfl, Nat.le_of_ble_eq_true rfl⟩) mk_preS rfl rfl hl.1 rfl (lv_room (Nat.le_of_ble_eq_true rfl)) dSF_offsetJ_46 ⟨Nat.zero_le _, Nat.zero_le _⟩) ?_
  refine lv_bipush (v := 6) hx hb dSF_offsetJ_49 (by decide) ?_
  refine lv_ishl hx hb dSF_offsetJ_51 ?_
  refine lv_ior hx hb dSF_offsetJ_52 ?_
  refine lv_iload_n hx hb dSF_offsetJ_53 rfl (lv_at hl 0 rfl) ?_
  refine lv_bipush (v := 6) hx hb dSF_offsetJ_54 (by decide) ?_
  refine lv_iconst (v := 1) hx hb dSF_offsetJ_56 (by decide) ?_
  refine mk_callR (va_runS (As := [.int a1, .int 6, .int 1]) (rest := [.int ((((((hf_Bits_part a1 12 1) <<< (11 &&& 31)) ||| ((hf_Bits_part a1 11 1) <<< (4 &&& 31))) ||| ((hf_Bits_part a1 9 2) <<< (8 &&& 31))) ||| ((hf_Bits_part a1 8 1) <<< (10 &&& 31))) ||| ((hf_Bits_part a1 7 1) <<< (6 &&& 31)))]) ⟨hx, hb, hml, hown, hts⟩ (hc_Bits_part l s.heap a1 6 1) (va_cwS 3 hts (mk_gS tw_326 tw_165 tw_55 tw_166) rfl rfl rfl hdBits_part.2 ⟨Nat.le_of_ble_eq_true rfl, Nat.le_of_ble_eq_true rfl⟩) mk_preS rfl rfl hl.1 rfl (lv_room (Nat.le_of_ble_eq_true rfl)) dSF_offsetJ_57 ⟨Nat.zero_le _, Nat.zero_le _⟩) ?_
  refine lv_bipush (v := 7) hx hb dSF_offsetJ_60 (by decide) ?_
  refine lv_ishl hx hb dSF_offsetJ_62 ?_
  refine lv_ior hx hb dSF_offsetJ_63 ?_
  refine lv_iload_n hx hb dSF_offsetJ_64 rfl (lv_at hl 0 rfl) ?_
  refine lv_iconst (v := 3) hx hb dSF_offsetJ_65 (by decide) ?_
  refine lv_iconst (v := 3) hx hb dSF_offsetJ_66 (by decide) ?_
  refine mk_callR (va_runS (As := [.int a1, .int 3, .int 3]) (rest := [.int (((((((hf_Bits_part a1 12 1) <<< (11 &&& 31)) ||| ((hf_Bits_part a1 11 1) <<< (4 &&& 31))) ||| ((hf_Bits_part a1 9 2) <<< (8 &&& 31))) ||| ((hf_Bits_part a1 8 1) <<< (10 &&& 31))) ||| ((hf_Bits_part a1 7 1) <<< (6 &&& 31))) ||| ((hf_Bits_part a1 6 1) <<< (7 &&& 31)))]) ⟨hx, hb, hml, hown, hts⟩ (hc_Bits_part l s.heap a1 3 3) (va_cwS 3 hts (mk_gS tw_326 tw_165 tw_55 tw_166) rfl rfl rfl hdBits_part.2 ⟨Nat.le_of_ble_eq_true rfl, Nat.le_of_ble_eq_true rfl⟩) mk_preS rfl rfl hl.1 rfl (lv_room (Nat.le_of_ble_eq_true rfl)) dSF_offsetJ_67 ⟨Nat.zero_le _, Nat.zero_le _⟩) ?_
  refine lv_iconst (v := 1) hx hb dSF_offsetJ_70 (by decide) ?_
  refine lv_ishl hx hb dSF_offsetJ_71 ?_
  refine lv_ior hx hb dSF_offsetJ_72 ?_
  refine lv_iload_n hx hb dSF_offsetJ_73 rfl (lv_at hl 0 rfl) ?_
  refine lv_iconst (v := 2) hx hb dSF_offsetJ_74 (by decide) ?_
  refine lv_iconst (v := 1) hx hb dSF_offsetJ_75 (by decide) ?_
  refine mk_callR (va_runS (As := [.int a1, .int 2, .int 1]) (rest := [.int ((((((((hf_Bits_part a1 12 1) <<< (11 &&& 31)) ||| ((hf_Bits_part a1 11 1) <<< (4 &&& 31))) ||| ((hf_Bits_part a1 9 2) <<< (8 &&& 31))) ||| ((hf_Bits_part a1 8 1) <<< (10 &&& 31))) ||| ((hf_Bits_part a1 7 1) <<< (6 &&& 31))) ||| ((hf_Bits_part a1 6 1) <<< (7 &&& 31))) ||| ((hf_Bits_part a1 3 3) <<< (1 &&& 31)))]) ⟨hx, hb, hml, hown, hts⟩ (hc_Bits_part l s.heap a1 2 1) (va_cwS 3 hts (mk_gS tw_326 tw_165 tw_55 tw_166) rfl rfl rfl hdBits_part.2 ⟨Nat.le_of_ble_eq_true rfl, Nat.le_of_ble_eq_true rfl⟩) mk_preS rfl rfl hl.1 rfl (lv_room (Nat.le_of_ble_eq_true rfl)) dSF_offsetJ_76 ⟨Nat.zero_le _, Nat.zero_le _⟩) ?_
  refine lv_iconst (v := 5) hx hb dSF_offsetJ_79 (by decide) ?_
  refine lv_ishl hx hb dSF_offsetJ_80 ?_
  refine lv_ior hx hb dSF_offsetJ_81 ?_
  refine lv_istore_n (lv' := [(1, .int (((((((((hf_Bits_part a1 12 1) <<< (11 &&& 31)) ||| ((hf_Bits_part a1 11 1) <<< (4 &&& 31))) ||| ((hf_Bits_part a1 9 2) <<< (8 &&& 31))) ||| ((hf_Bits_part a1 8 1) <<< (10 &&& 31))) ||| ((hf_Bits_part a1 7 1) <<< (6 &&& 31))) ||| ((hf_Bits_part a1 6 1) <<< (7 &&& 31))) ||| ((hf_Bits_part a1 3 3) <<< (1 &&& 31))) ||| ((hf_Bits_part a1 2 1) <<< (5 &&& 31)))), (0, .int a1)]) hx hb dSF_offsetJ_82 rfl hl (by decide) rfl (fun ls hl => ?_)
  refine lv_iload_n hx hb dSF_offsetJ_83 rfl (lv_at hl 0 rfl) ?_
  refine lv_bipush (v := 12) hx hb dSF_offsetJ_84 (by decide) ?_
  refine mk_callR (va_runS (As := [.int (((((((((hf_Bits_part a1 12 1) <<< (11 &&& 31)) ||| ((hf_Bits_part a1 11 1) <<< (4 &&& 31))) ||| ((hf_Bits_part a1 9 2) <<< (8 &&& 31))) ||| ((hf_Bits_part a1 8 1) <<< (10 &&& 31))) ||| ((hf_Bits_part a1 7 1) <<< (6 &&& 31))) ||| ((hf_Bits_part a1 6 1) <<< (7 &&& 31))) ||| ((hf_Bits_part a1 3 3) <<< (1 &&& 31))) ||| ((hf_Bits_part a1 2 1) <<< (5 &&& 31))), .int 12]) (rest := []) ⟨hx, hb, hml, hown, hts⟩ (hc_Bits_signed l s.heap (((((((((hf_Bits_part a1 12 1) <<< (11 &&& 31)) ||| ((hf_Bits_part a1 11 1) <<< (4 &&& 31))) ||| ((hf_Bits_part a1 9 2) <<< (8 &&& 31))) ||| ((hf_Bits_part a1 8 1) <<< (10 &&& 31))) ||| ((hf_Bits_part a1 7 1) <<< (6 &&& 31))) ||| ((hf_Bits_part a1 6 1) <<< (7 &&& 31))) ||| ((hf_Bits_part a1 3 3) <<< (1 &&& 31))) ||| ((hf_Bits_part a1 2 1) <<< (5 &&& 31))) 12) (va_cwS 2 hts (mk_gS tw_349 tw_178 tw_55 tw_179) rfl rfl rfl hdBits_signed.2 ⟨Nat.le_of_ble_eq_true rfl, Nat.le_of_ble_eq_true rfl⟩) mk_preS rfl rfl hl.1 rfl (lv_room (Nat.le_of_ble_eq_true rfl)) dSF_offsetJ_86 ⟨Nat.zero_le _, Nat.zero_le _⟩) ?_
  exact W.iret hx hb hr (fun t ht hW => ⟨⟨_, (), rfl, rfl, ht⟩, mk_F ht⟩) (fun q h => nomatch h) dSF_offsetJ_89
set_option maxHeartbeats 4000000 in
set_option maxRecDepth 100000 in
theorem hc_ShortForm_stackMove (l : Launch) (G : Heap) (a1 : Int32)  : Met l ySF_stackMove (wq ySF_stackMove cSF_stackMove 2 (some .int)) ({ frames := 1, cells := 0, slots := 0, locals := 22 }) (mk_P G [.int a1]) (mk_Qi G (hf_ShortForm_stackMove a1)) 0 0 (fun _ => False) := by
  refine Met.ofW (cc := cSF_stackMove) (maxL := 2) (ret := (some .int)) (by decide) rfl ?_
  intro p e s m args below meth c s₁ B hml hv
  obtain ⟨rfl, hG⟩ := hv
  subst hG
  have hx := B.exec
  have hb := B.bytes
  have hr := B.returns
  have hts := atoms_spec (ws := (wq ySF_stackMove cSF_stackMove 2 (some .int))) B.pre
  have hown : s.vm.findClass RSF = some m.cls := findClass_of_methodNamed B.named
  have hlocks := B.notSynchronized
  have hg : ∀ w ∈ lw_g, w.before _ s = true := fun w h => hts w (List.mem_cons_of_mem _ h)
  have hl := lv_entry ([.int a1]) (n := 2) (Nat.le_of_ble_eq_true rfl)
  rw [lg_entry_eq]
  generalize (lg_sl ([.int a1]) ++ List.replicate (2 - (lg_sl ([.int a1])).length) Slot.unset).toArray = ls at hl ⊢
  have hl : lv_has ls 2 [(0, .int a1)] := hl
  refine lv_iload_n hx hb dSF_stackMove_0 rfl (lv_at hl 0 rfl) ?_
  refine lv_bipush (v := 12) hx hb dSF_stackMove_1 (by decide) ?_
  refine lv_iconst (v := 1) hx hb dSF_stackMove_3 (by decide) ?_
  refine mk_callR (va_runS (As := [.int a1, .int 12, .int 1]) (rest := []) ⟨hx, hb, hml, hown, hts⟩ (hc_Bits_part l s.heap a1 12 1) (va_cwS 3 hts (mk_gS tw_326 tw_165 tw_55 tw_166) rfl rfl rfl hdBits_part.2 ⟨Nat.le_of_ble_eq_true rfl, Nat.le_of_ble_eq_true rfl⟩) mk_preS rfl rfl hl.1 rfl (lv_room (Nat.le_of_ble_eq_true rfl)) dSF_stackMove_4 ⟨Nat.zero_le _, Nat.zero_le _⟩) ?_
  refine lv_bipush (v := 9) hx hb dSF_stackMove_7 (by decide) ?_
  refine lv_ishl hx hb dSF_stackMove_9 ?_
  refine lv_iload_n hx hb dSF_stackMove_10 rfl (lv_at hl 0 rfl) ?_
  refine lv_bipush (v := 6) hx hb dSF_stackMove_11 (by decide) ?_
  refine lv_iconst (v := 1) hx hb dSF_stackMove_13 (by decide) ?_
  refine mk_callR (va_runS (As := [.int a1, .int 6, .int 1]) (rest := [.int ((hf_Bits_part a1 12 1) <<< (9 &&& 31))]) ⟨hx, hb, hml, hown, hts⟩ (hc_Bits_part l s.heap a1 6 1) (va_cwS 3 hts (mk_gS tw_326 tw_165 tw_55 tw_166) rfl rfl rfl hdBits_part.2 ⟨Nat.le_of_ble_eq_true rfl, Nat.le_of_ble_eq_true rfl⟩) mk_preS rfl rfl hl.1 rfl (lv_room (Nat.le_of_ble_eq_true rfl)) dSF_stackMove_14 ⟨Nat.zero_le _, Nat.zero_le _⟩) ?_
  refine lv_iconst (v := 4) hx hb dSF_stackMove_17 (by decide) ?_
  refine lv_ishl hx hb dSF_stackMove_18 ?_
  refine lv_ior hx hb dSF_stackMove_19 ?_
  refine lv_iload_n hx hb dSF_stackMove_20 rfl (lv_at hl 0 rfl) ?_
  refine lv_iconst (v := 5) hx hb dSF_stackMove_21 (by decide) ?_
  refine lv_iconst (v := 1) hx hb dSF_stackMove_22 (by decide) ?_
  refine mk_callR (va_runS (As := [.int a1, .int 5, .int 1]) (rest := [.int (((hf_Bits_part a1 12 1) <<< (9 &&& 31)) ||| ((hf_Bits_part a1 6 1) <<< (4 &&& 31)))]) ⟨hx, hb, hml, hown, hts⟩ (hc_Bits_part l s.heap a1 5 1) (va_cwS 3 hts (mk_gS tw_326 tw_165 tw_55 tw_166) rfl rfl rfl hdBits_part.2 ⟨Nat.le_of_ble_eq_true rfl, Nat.le_of_ble_eq_true rfl⟩) mk_preS rfl rfl hl.1 rfl (lv_room (Nat.le_of_ble_eq_true rfl)) dSF_stackMove_23 ⟨Nat.zero_le _, Nat.zero_le _⟩) ?_
  refine lv_bipush (v := 6) hx hb dSF_stackMove_26 (by decide) ?_
  refine lv_ishl hx hb dSF_stackMove_28 ?_
  refine lv_ior hx hb dSF_stackMove_29 ?_
  refine lv_iload_n hx hb dSF_stackMove_30 rfl (lv_at hl 0 rfl) ?_
  refine lv_iconst (v := 3) hx hb dSF_stackMove_31 (by decide) ?_
  refine lv_iconst (v := 2) hx hb dSF_stackMove_32 (by decide) ?_
  refine mk_callR (va_runS (As := [.int a1, .int 3, .int 2]) (rest := [.int ((((hf_Bits_part a1 12 1) <<< (9 &&& 31)) ||| ((hf_Bits_part a1 6 1) <<< (4 &&& 31))) ||| ((hf_Bits_part a1 5 1) <<< (6 &&& 31)))]) ⟨hx, hb, hml, hown, hts⟩ (hc_Bits_part l s.heap a1 3 2) (va_cwS 3 hts (mk_gS tw_326 tw_165 tw_55 tw_166) rfl rfl rfl hdBits_part.2 ⟨Nat.le_of_ble_eq_true rfl, Nat.le_of_ble_eq_true rfl⟩) mk_preS rfl rfl hl.1 rfl (lv_room (Nat.le_of_ble_eq_true rfl)) dSF_stackMove_33 ⟨Nat.zero_le _, Nat.zero_le _⟩) ?_
  refine lv_bipush (v := 7) hx hb dSF_stackMove_36 (by decide) ?_
  refine lv_ishl hx hb dSF_stackMove_38 ?_
  refine lv_ior hx hb dSF_stackMove_39 ?_
  refine lv_iload_n hx hb dSF_stackMove_40 rfl (lv_at hl 0 rfl) ?_
  refine lv_iconst (v := 2) hx hb dSF_stackMove_41 (by decide) ?_
  refine lv_iconst (v := 1) hx hb dSF_stackMove_42 (by decide) ?_
  refine mk_callR (va_runS (As := [.int a1, .int 2, .int 1]) (rest := [.int (((((hf_Bits_part a1 12 1) <<< (9 &&& 31)) ||| ((hf_Bits_part a1 6 1) <<< (4 &&& 31))) ||| ((hf_Bits_part a1 5 1) <<< (6 &&& 31))) ||| ((hf_Bits_part a1 3 2) <<< (7 &&& 31)))]) ⟨hx, hb, hml, hown, hts⟩ (hc_Bits_part l s.heap a1 2 1) (va_cwS 3 hts (mk_gS tw_326 tw_165 tw_55 tw_166) rfl rfl rfl hdBits_part.2 ⟨Nat.le_of_ble_eq_true rfl, Nat.le_of_ble_eq_true rfl⟩) mk_preS rfl rfl hl.1 rfl (lv_room (Nat.le_of_ble_eq_true rfl)) dSF_stackMove_43 ⟨Nat.zero_le _, Nat.zero_le _⟩) ?_
  refine lv_iconst (v := 5) hx hb dSF_stackMove_46 (by decide) ?_
  refine lv_ishl hx hb dSF_stackMove_47 ?_
  refine lv_ior hx hb dSF_stackMove_48 ?_
  refine lv_istore_n (lv' := [(1, .int ((((((hf_Bits_part a1 12 1) <<< (9 &&& 31)) ||| ((hf_Bits_part a1 6 1) <<< (4 &&& 31))) ||| ((hf_Bits_part a1 5 1) <<< (6 &&& 31))) ||| ((hf_Bits_part a1 3 2) <<< (7 &&& 31))) ||| ((hf_Bits_part a1 2 1) <<< (5 &&& 31)))), (0, .int a1)]) hx hb dSF_stackMove_49 rfl hl (by decide) rfl (fun ls hl => ?_)
  refine lv_iload_n hx hb dSF_stackMove_50 rfl (lv_at hl 0 rfl) ?_
  refine lv_bipush (v := 10) hx hb dSF_stackMove_51 (by decide) ?_
  refine mk_callR (va_runS (As := [.int ((((((hf_Bits_part a1 12 1) <<< (9 &&& 31)) ||| ((hf_Bits_part a1 6 1) <<< (4 &&& 31))) ||| ((hf_Bits_part a1 5 1) <<< (6 &&& 31))) ||| ((hf_Bits_part a1 3 2) <<< (7 &&& 31))) ||| ((hf_Bits_part a1 2 1) <<< (5 &&& 31))), .int 10]) (rest := []) ⟨hx, hb, hml, hown, hts⟩ (hc_Bits_signed l s.heap ((((((hf_Bits_part a1 12 1) <<< (9 &&& 31)) ||| ((hf_Bits_part a1 6 1) <<< (4 &&& 31))) ||| ((hf_Bits_part a1 5 1) <<< (6 &&& 31))) ||| ((hf_Bits_part a1 3 2) <<< (7 &&& 31))) ||| ((hf_Bits_part a1 2 1) <<< (5 &&& 31))) 10) (va_cwS 2 hts (mk_gS tw_349 tw_178 tw_55 tw_179) rfl rfl rfl hdBits_signed.2 ⟨Nat.le_of_ble_eq_true rfl, Nat.le_of_ble_eq_true rfl⟩) mk_preS rfl rfl hl.1 rfl (lv_room (Nat.le_of_ble_eq_true rfl)) dSF_stackMove_53 ⟨Nat.zero_le _, Nat.zero_le _⟩) ?_
  exact W.iret hx hb hr (fun t ht hW => ⟨⟨_, (), rfl, rfl, ht⟩, mk_F ht⟩) (fun q h => nomatch h) dSF_stackMove_56
set_option maxHeartbeats 4000000 in
set_option maxRecDepth 100000 in
theorem hc_ShortForm_bit12 (l : Launch) (G : Heap) (a1 : Int32)  : Met l ySF_bit12 (wq ySF_bit12 cSF_bit12 1 (some .boolean)) ({ frames := 1, cells := 0, slots := 0, locals := 22 }) (mk_P G [.int a1]) (mk_Qi G (hf_ShortForm_bit12 a1)) 0 0 (fun _ => False) := by
  refine Met.ofW (cc := cSF_bit12) (maxL := 1) (ret := (some .boolean)) (by decide) rfl ?_
  intro p e s m args below meth c s₁ B hml hv
  obtain ⟨rfl, hG⟩ := hv
  subst hG
  have hx := B.exec
  have hb := B.bytes
  have hr := B.returns
  have hts := atoms_spec (ws := (wq ySF_bit12 cSF_bit12 1 (some .boolean))) B.pre
  have hown : s.vm.findClass RSF = some m.cls := findClass_of_methodNamed B.named
  have hlocks := B.notSynchronized
  have hg : ∀ w ∈ lw_g, w.before _ s = true := fun w h => hts w (List.mem_cons_of_mem _ h)
  have hl := lv_entry ([.int a1]) (n := 1) (Nat.le_of_ble_eq_true rfl)
  rw [lg_entry_eq]
  generalize (lg_sl ([.int a1]) ++ List.replicate (1 - (lg_sl ([.int a1])).length) Slot.unset).toArray = ls at hl ⊢
  have hl : lv_has ls 1 [(0, .int a1)] := hl
  refine lv_iload_n hx hb dSF_bit12_0 rfl (lv_at hl 0 rfl) ?_
  refine lv_bipush (v := 12) hx hb dSF_bit12_1 (by decide) ?_
  refine lv_iconst (v := 1) hx hb dSF_bit12_3 (by decide) ?_
  refine mk_callR (va_runS (As := [.int a1, .int 12, .int 1]) (rest := []) ⟨hx, hb, hml, hown, hts⟩ (hc_Bits_part l s.heap a1 12 1) (va_cwS 3 hts (mk_gS tw_326 tw_165 tw_55 tw_166) rfl rfl rfl hdBits_part.2 ⟨Nat.le_of_ble_eq_true rfl, Nat.le_of_ble_eq_true rfl⟩) mk_preS rfl rfl hl.1 rfl (lv_room (Nat.le_of_ble_eq_true rfl)) dSF_bit12_4 ⟨Nat.zero_le _, Nat.zero_le _⟩) ?_
  refine lv_if_eq (tgt := 14) hx hb dSF_bit12_7 (by decide) (fun c_1 => ?_) (fun c_1 => ?_)
  · refine lv_iconst (v := 0) hx hb dSF_bit12_14 (by decide) ?_
    exact W.zret hx hb hr rfl (fun t ht hW => ⟨⟨_, (), rfl, (by unfold hf_ShortForm_bit12; rw [if_pos c_1]), ht⟩, mk_F ht⟩) (fun q h => nomatch h) dSF_bit12_15
  · refine lv_iconst (v := 1) hx hb dSF_bit12_10 (by decide) ?_
    refine lv_goto (tgt := 15) hx hb dSF_bit12_11 (by decide) ?_
    exact W.zret hx hb hr rfl (fun t ht hW => ⟨⟨_, (), rfl, (by unfold hf_ShortForm_bit12; rw [if_neg c_1]), ht⟩, mk_F ht⟩) (fun q h => nomatch h) dSF_bit12_15
set_option maxHeartbeats 4000000 in
set_option maxRecDepth 100000 in
theorem hc_ShortForm_b (l : Launch) (G : Heap) (a1 : Int32)  : Met l ySF_b (wq ySF_b cSF_b 1 (some .int)) ({ frames := 1, cells := 0, slots := 0, locals := 22 }) (mk_P G [.int a1]) (mk_Qi G (hf_ShortForm_b a1)) 0 0 (fun _ => False) := by
  refine Met.ofW (cc := cSF_b) (maxL := 1) (ret := (some .int)) (by decide) rfl ?_
  intro p e s m args below meth c s₁ B hml hv
  obtain ⟨rfl, hG⟩ := hv
  subst hG
  have hx := B.exec
  have hb := B.bytes
  have hr := B.returns
  have hts := atoms_spec (ws := (wq ySF_b cSF_b 1 (some .int))) B.pre
  have hown : s.vm.findClass RSF = some m.cls := findClass_of_methodNamed B.named
  have hlocks := B.notSynchronized
  have hg : ∀ w ∈ lw_g, w.before _ s = true := fun w h => hts w (List.mem_cons_of_mem _ h)
  have hl := lv_entry ([.int a1]) (n := 1) (Nat.le_of_ble_eq_true rfl)
  rw [lg_entry_eq]
  generalize (lg_sl ([.int a1]) ++ List.replicate (1 - (lg_sl ([.int a1])).length) Slot.unset).toArray = ls at hl ⊢
  have hl : lv_has ls 1 [(0, .int a1)] := hl
  refine lv_iload_n hx hb dSF_b_0 rfl (lv_at hl 0 rfl) ?_
  refine lv_iconst (v := 2) hx hb dSF_b_1 (by decide) ?_
  refine lv_iconst (v := 5) hx hb dSF_b_2 (by decide) ?_
  refine mk_callR (va_runS (As := [.int a1, .int 2, .int 5]) (rest := []) ⟨hx, hb, hml, hown, hts⟩ (hc_Bits_part l s.heap a1 2 5) (va_cwS 3 hts (mk_gS tw_326 tw_165 tw_55 tw_166) rfl rfl rfl hdBits_part.2 ⟨Nat.le_of_ble_eq_true rfl, Nat.le_of_ble_eq_true rfl⟩) mk_preS rfl rfl hl.1 rfl (lv_room (Nat.le_of_ble_eq_true rfl)) dSF_b_3 ⟨Nat.zero_le _, Nat.zero_le _⟩) ?_
  exact W.iret hx hb hr (fun t ht hW => ⟨⟨_, (), rfl, rfl, ht⟩, mk_F ht⟩) (fun q h => nomatch h) dSF_b_6
set_option maxHeartbeats 4000000 in
set_option maxRecDepth 100000 in
theorem hc_Arithmetic_ofTwoNear (l : Launch) (G : Heap) (a1 : Int32) (a2 : Int32) (a3 : Int32)  : Met l yAr_ofTwoNear (wq yAr_ofTwoNear cAr_ofTwoNear 3 (some .int)) ({ frames := 0, cells := 0, slots := 0, locals := 0 }) (mk_P G [.int a1, .int a2, .int a3]) (mk_Qi G (hf_Arithmetic_ofTwoNear a1 a2 a3)) 0 0 (fun _ => False) := by
  refine Met.ofW (cc := cAr_ofTwoNear) (maxL := 3) (ret := (some .int)) (by decide) rfl ?_
  intro p e s m args below meth c s₁ B hml hv
  obtain ⟨rfl, hG⟩ := hv
  subst hG
  have hx := B.exec
  have hb := B.bytes
  have hr := B.returns
  have hts := atoms_spec (ws := (wq yAr_ofTwoNear cAr_ofTwoNear 3 (some .int))) B.pre
  have hown : s.vm.findClass RAr = some m.cls := findClass_of_methodNamed B.named
  have hlocks := B.notSynchronized
  have hg : ∀ w ∈ lw_g, w.before _ s = true := fun w h => hts w (List.mem_cons_of_mem _ h)
  have hl := lv_entry ([.int a1, .int a2, .int a3]) (n := 3) (Nat.le_of_ble_eq_true rfl)
  rw [lg_entry_eq]
  generalize (lg_sl ([.int a1, .int a2, .int a3]) ++ List.replicate (3 - (lg_sl ([.int a1, .int a2, .int a3])).length) Slot.unset).toArray = ls at hl ⊢
  have hl : lv_has ls 3 [(0, .int a1), (1, .int a2), (2, .int a3)] := hl
  refine lv_iload_n hx hb dAr_ofTwoNear_0 rfl (lv_at hl 0 rfl) ?_
  by_cases c_1 : a1 = 0
  · refine lv_tableIn (tgt := 28) hx hb dAr_ofTwoNear_1 (by rw [c_1]; decide) (by rw [c_1]; decide) (by rw [c_1]; rfl) (by decide) ?_
    refine lv_iload_n hx hb dAr_ofTwoNear_28 rfl (lv_at hl 1 rfl) ?_
    refine lv_iload_n hx hb dAr_ofTwoNear_29 rfl (lv_at hl 2 rfl) ?_
    refine lv_isub hx hb dAr_ofTwoNear_30 ?_
    exact W.iret hx hb hr (fun t ht hW => ⟨⟨_, (), rfl, (by unfold hf_Arithmetic_ofTwoNear; rw [if_pos c_1]), ht⟩, mk_F ht⟩) (fun q h => nomatch h) dAr_ofTwoNear_31
  by_cases c_2 : a1 = 1
  · refine lv_tableIn (tgt := 32) hx hb dAr_ofTwoNear_1 (by rw [c_2]; decide) (by rw [c_2]; decide) (by rw [c_2]; rfl) (by decide) ?_
    refine lv_iload_n hx hb dAr_ofTwoNear_32 rfl (lv_at hl 1 rfl) ?_
    refine lv_iload_n hx hb dAr_ofTwoNear_33 rfl (lv_at hl 2 rfl) ?_
    refine lv_ixor hx hb dAr_ofTwoNear_34 ?_
    exact W.iret hx hb hr (fun t ht hW => ⟨⟨_, (), rfl, (by unfold hf_Arithmetic_ofTwoNear; rw [if_neg c_1, if_pos c_2]), ht⟩, mk_F ht⟩) (fun q h => nomatch h) dAr_ofTwoNear_35
  by_cases c_3 : a1 = 2
  · refine lv_tableIn (tgt := 36) hx hb dAr_ofTwoNear_1 (by rw [c_3]; decide) (by rw [c_3]; decide) (by rw [c_3]; rfl) (by decide) ?_
    refine lv_iload_n hx hb dAr_ofTwoNear_36 rfl (lv_at hl 1 rfl) ?_
    refine lv_iload_n hx hb dAr_ofTwoNear_37 rfl (lv_at hl 2 rfl) ?_
    refine lv_ior hx hb dAr_ofTwoNear_38 ?_
    exact W.iret hx hb hr (fun t ht hW => ⟨⟨_, (), rfl, (by unfold hf_Arithmetic_ofTwoNear; rw [if_neg c_1, if_neg c_2, if_pos c_3]), ht⟩, mk_F ht⟩) (fun q h => nomatch h) dAr_ofTwoNear_39
  refine lv_tableOut (tgt := 40) hx hb dAr_ofTwoNear_1 (by have q_1 := lv_neT (a := 0) c_1 rfl; have q_2 := lv_neT (a := 1) c_2 rfl; have q_3 := lv_neT (a := 2) c_3 rfl; omega) (by decide) ?_
  refine lv_iload_n hx hb dAr_ofTwoNear_40 rfl (lv_at hl 1 rfl) ?_
  refine lv_iload_n hx hb dAr_ofTwoNear_41 rfl (lv_at hl 2 rfl) ?_
  refine lv_iand hx hb dAr_ofTwoNear_42 ?_
  exact W.iret hx hb hr (fun t ht hW => ⟨⟨_, (), rfl, (by unfold hf_Arithmetic_ofTwoNear; rw [if_neg c_1, if_neg c_2, if_neg c_3]), ht⟩, mk_F ht⟩) (fun q h => nomatch h) dAr_ofTwoNear_43
set_option maxHeartbeats 4000000 in
set_option maxRecDepth 100000 in
theorem hc_ShortForm_offsetT (l : Launch) (G : Heap) (a1 : Int32)  : Met l ySF_offsetT (wq ySF_offsetT cSF_offsetT 2 (some .int)) ({ frames := 1, cells := 0, slots := 0, locals := 22 }) (mk_P G [.int a1]) (mk_Qi G (hf_ShortForm_offsetT a1)) 0 0 (fun _ => False) := by
  refine Met.ofW (cc := cSF_offsetT) (maxL := 2) (ret := (some .int)) (by decide) rfl ?_
  intro p e s m args below meth c s₁ B hml hv
  obtain ⟨rfl, hG⟩ := hv
  subst hG
  have hx := B.exec
  have hb := B.bytes
  have hr := B.returns
  have hts := atoms_spec (ws := (wq ySF_offsetT cSF_offsetT 2 (some .int))) B.pre
  have hown : s.vm.findClass RSF = some m.cls := findClass_of_methodNamed B.named
  have hlocks := B.notSynchronized
  have hg : ∀ w ∈ lw_g, w.before _ s = true := fun w h => hts w (List.mem_cons_of_mem _ h)
  have hl := lv_entry ([.int a1]) (n := 2) (Nat.le_of_ble_eq_true rfl)
  rw [lg_entry_eq]
  generalize (lg_sl ([.int a1]) ++ List.replicate (2 - (lg_sl ([.int a1])).length) Slot.unset).toArray = ls at hl ⊢
  have hl : lv_has ls 2 [(0, .int a1)] := hl
  refine lv_iload_n hx hb dSF_offsetT_0 rfl (lv_at hl 0 rfl) ?_
  refine lv_bipush (v := 12) hx hb dSF_offsetT_1 (by decide) ?_
  refine lv_iconst (v := 1) hx hb dSF_offsetT_3 (by decide) ?_
  refine mk_callR (va_runS (As := [.int a1, .int 12, .int 1]) (rest := []) ⟨hx, hb, hml, hown, hts⟩ (hc_Bits_part l s.heap a1 12 1) (va_cwS 3 hts (mk_gS tw_326 tw_165 tw_55 tw_166) rfl rfl rfl hdBits_part.2 ⟨Nat.le_of_ble_eq_true rfl, Nat.le_of_ble_eq_true rfl⟩) mk_preS rfl rfl hl.1 rfl (lv_room (Nat.le_of_ble_eq_true rfl)) dSF_offsetT_4 ⟨Nat.zero_le _, Nat.zero_le _⟩) ?_
  refine lv_bipush (v := 8) hx hb dSF_offsetT_7 (by decide) ?_
  refine lv_ishl hx hb dSF_offsetT_9 ?_
  refine lv_iload_n hx hb dSF_offsetT_10 rfl (lv_at hl 0 rfl) ?_
  refine lv_bipush (v := 10) hx hb dSF_offsetT_11 (by decide) ?_
  refine lv_iconst (v := 2) hx hb dSF_offsetT_13 (by decide) ?_
  refine mk_callR (va_runS (As := [.int a1, .int 10, .int 2]) (rest := [.int ((hf_Bits_part a1 12 1) <<< (8 &&& 31))]) ⟨hx, hb, hml, hown, hts⟩ (hc_Bits_part l s.heap a1 10 2) (va_cwS 3 hts (mk_gS tw_326 tw_165 tw_55 tw_166) rfl rfl rfl hdBits_part.2 ⟨Nat.le_of_ble_eq_true rfl, Nat.le_of_ble_eq_true rfl⟩) mk_preS rfl rfl hl.1 rfl (lv_room (Nat.le_of_ble_eq_true rfl)) dSF_offsetT_14 ⟨Nat.zero_le _, Nat.zero_le _⟩) ?_
  refine lv_iconst (v := 3) hx hb dSF_offsetT_17 (by decide) ?_
  refine lv_ishl hx hb dSF_offsetT_18 ?_
  refine lv_ior hx hb dSF_offsetT_19 ?_
  refine lv_iload_n hx hb dSF_offsetT_20 rfl (lv_at hl 0 rfl) ?_
  refine lv_iconst (v := 5) hx hb dSF_offsetT_21 (by decide) ?_
  refine lv_iconst (v := 2) hx hb dSF_offsetT_22 (by decide) ?_
  refine mk_callR (va_runS (As := [.int a1, .int 5, .int 2]) (rest := [.int (((hf_Bits_part a1 12 1) <<< (8 &&& 31)) ||| ((hf_Bits_part a1 10 2) <<< (3 &&& 31)))]) ⟨hx, hb, hml, hown, hts⟩ (hc_Bits_part l s.heap a1 5 2) (va_cwS 3 hts (mk_gS tw_326 tw_165 tw_55 tw_166) rfl rfl rfl hdBits_part.2 ⟨Nat.le_of_ble_eq_true rfl, Nat.le_of_ble_eq_true rfl⟩) mk_preS rfl rfl hl.1 rfl (lv_room (Nat.le_of_ble_eq_true rfl)) dSF_offsetT_23 ⟨Nat.zero_le _, Nat.zero_le _⟩) ?_
  refine lv_bipush (v := 6) hx hb dSF_offsetT_26 (by decide) ?_
  refine lv_ishl hx hb dSF_offsetT_28 ?_
  refine lv_ior hx hb dSF_offsetT_29 ?_
  refine lv_iload_n hx hb dSF_offsetT_30 rfl (lv_at hl 0 rfl) ?_
  refine lv_iconst (v := 3) hx hb dSF_offsetT_31 (by decide) ?_
  refine lv_iconst (v := 2) hx hb dSF_offsetT_32 (by decide) ?_
  refine mk_callR (va_runS (As := [.int a1, .int 3, .int 2]) (rest := [.int ((((hf_Bits_part a1 12 1) <<< (8 &&& 31)) ||| ((hf_Bits_part a1 10 2) <<< (3 &&& 31))) ||| ((hf_Bits_part a1 5 2) <<< (6 &&& 31)))]) ⟨hx, hb, hml, hown, hts⟩ (hc_Bits_part l s.heap a1 3 2) (va_cwS 3 hts (mk_gS tw_326 tw_165 tw_55 tw_166) rfl rfl rfl hdBits_part.2 ⟨Nat.le_of_ble_eq_true rfl, Nat.le_of_ble_eq_true rfl⟩) mk_preS rfl rfl hl.1 rfl (lv_room (Nat.le_of_ble_eq_true rfl)) dSF_offsetT_33 ⟨Nat.zero_le _, Nat.zero_le _⟩) ?_
  refine lv_iconst (v := 1) hx hb dSF_offsetT_36 (by decide) ?_
  refine lv_ishl hx hb dSF_offsetT_37 ?_
  refine lv_ior hx hb dSF_offsetT_38 ?_
  refine lv_iload_n hx hb dSF_offsetT_39 rfl (lv_at hl 0 rfl) ?_
  refine lv_iconst (v := 2) hx hb dSF_offsetT_40 (by decide) ?_
  refine lv_iconst (v := 1) hx hb dSF_offsetT_41 (by decide) ?_
  refine mk_callR (va_runS (As := [.int a1, .int 2, .int 1]) (rest := [.int (((((hf_Bits_part a1 12 1) <<< (8 &&& 31)) ||| ((hf_Bits_part a1 10 2) <<< (3 &&& 31))) ||| ((hf_Bits_part a1 5 2) <<< (6 &&& 31))) ||| ((hf_Bits_part a1 3 2) <<< (1 &&& 31)))]) ⟨hx, hb, hml, hown, hts⟩ (hc_Bits_part l s.heap a1 2 1) (va_cwS 3 hts (mk_gS tw_326 tw_165 tw_55 tw_166) rfl rfl rfl hdBits_part.2 ⟨Nat.le_of_ble_eq_true rfl, Nat.le_of_ble_eq_true rfl⟩) mk_preS rfl rfl hl.1 rfl (lv_room (Nat.le_of_ble_eq_true rfl)) dSF_offsetT_42 ⟨Nat.zero_le _, Nat.zero_le _⟩) ?_
  refine lv_iconst (v := 5) hx hb dSF_offsetT_45 (by decide) ?_
  refine lv_ishl hx hb dSF_offsetT_46 ?_
  refine lv_ior hx hb dSF_offsetT_47 ?_
  refine lv_istore_n (lv' := [(1, .int ((((((hf_Bits_part a1 12 1) <<< (8 &&& 31)) ||| ((hf_Bits_part a1 10 2) <<< (3 &&& 31))) ||| ((hf_Bits_part a1 5 2) <<< (6 &&& 31))) ||| ((hf_Bits_part a1 3 2) <<< (1 &&& 31))) ||| ((hf_Bits_part a1 2 1) <<< (5 &&& 31)))), (0, .int a1)]) hx hb dSF_offsetT_48 rfl hl (by decide) rfl (fun ls hl => ?_)
  refine lv_iload_n hx hb dSF_offsetT_49 rfl (lv_at hl 0 rfl) ?_
  refine lv_bipush (v := 9) hx hb dSF_offsetT_50 (by decide) ?_
  refine mk_callR (va_runS (As := [.int ((((((hf_Bits_part a1 12 1) <<< (8 &&& 31)) ||| ((hf_Bits_part a1 10 2) <<< (3 &&& 31))) ||| ((hf_Bits_part a1 5 2) <<< (6 &&& 31))) ||| ((hf_Bits_part a1 3 2) <<< (1 &&& 31))) ||| ((hf_Bits_part a1 2 1) <<< (5 &&& 31))), .int 9]) (rest := []) ⟨hx, hb, hml, hown, hts⟩ (hc_Bits_signed l s.heap ((((((hf_Bits_part a1 12 1) <<< (8 &&& 31)) ||| ((hf_Bits_part a1 10 2) <<< (3 &&& 31))) ||| ((hf_Bits_part a1 5 2) <<< (6 &&& 31))) ||| ((hf_Bits_part a1 3 2) <<< (1 &&& 31))) ||| ((hf_Bits_part a1 2 1) <<< (5 &&& 31))) 9) (va_cwS 2 hts (mk_gS tw_349 tw_178 tw_55 tw_179) rfl rfl rfl hdBits_signed.2 ⟨Nat.le_of_ble_eq_true rfl, Nat.le_of_ble_eq_true rfl⟩) mk_preS rfl rfl hl.1 rfl (lv_room (Nat.le_of_ble_eq_true rfl)) dSF_offsetT_52 ⟨Nat.zero_le _, Nat.zero_le _⟩) ?_
  exact W.iret hx hb hr (fun t ht hW => ⟨⟨_, (), rfl, rfl, ht⟩, mk_F ht⟩) (fun q h => nomatch h) dSF_offsetT_55
set_option maxHeartbeats 4000000 in
set_option maxRecDepth 100000 in
theorem hc_ShortForm_stackLoadOffset (l : Launch) (G : Heap) (a1 : Int32)  : Met l ySF_stackLoadOffset (wq ySF_stackLoadOffset cSF_stackLoadOffset 1 (some .int)) ({ frames := 1, cells := 0, slots := 0, locals := 22 }) (mk_P G [.int a1]) (mk_Qi G (hf_ShortForm_stackLoadOffset a1)) 0 0 (fun _ => False) := by
  refine Met.ofW (cc := cSF_stackLoadOffset) (maxL := 1) (ret := (some .int)) (by decide) rfl ?_
  intro p e s m args below meth c s₁ B hml hv
  obtain ⟨rfl, hG⟩ := hv
  subst hG
  have hx := B.exec
  have hb := B.bytes
  have hr := B.returns
  have hts := atoms_spec (ws := (wq ySF_stackLoadOffset cSF_stackLoadOffset 1 (some .int))) B.pre
  have hown : s.vm.findClass RSF = some m.cls := findClass_of_methodNamed B.named
  have hlocks := B.notSynchronized
  have hg : ∀ w ∈ lw_g, w.before _ s = true := fun w h => hts w (List.mem_cons_of_mem _ h)
  have hl := lv_entry ([.int a1]) (n := 1) (Nat.le_of_ble_eq_true rfl)
  rw [lg_entry_eq]
  generalize (lg_sl ([.int a1]) ++ List.replicate (1 - (lg_sl ([.int a1])).length) Slot.unset).toArray = ls at hl ⊢
  have hl : lv_has ls 1 [(0, .int a1)] := hl
  refine lv_iload_n hx hb dSF_stackLoadOffset_0 rfl (lv_at hl 0 rfl) ?_
  refine lv_bipush (v := 12) hx hb dSF_stackLoadOffset_1 (by decide) ?_
  refine lv_iconst (v := 1) hx hb dSF_stackLoadOffset_3 (by decide) ?_
  refine mk_callR (va_runS (As := [.int a1, .int 12, .int 1]) (rest := []) ⟨hx, hb, hml, hown, hts⟩ (hc_Bits_part l s.heap a1 12 1) (va_cwS 3 hts (mk_gS tw_326 tw_165 tw_55 tw_166) rfl rfl rfl hdBits_part.2 ⟨Nat.le_of_ble_eq_true rfl, Nat.le_of_ble_eq_true rfl⟩) mk_preS rfl rfl hl.1 rfl (lv_room (Nat.le_of_ble_eq_true rfl)) dSF_stackLoadOffset_4 ⟨Nat.zero_le _, Nat.zero_le _⟩) ?_
  refine lv_iconst (v := 5) hx hb dSF_stackLoadOffset_7 (by decide) ?_
  refine lv_ishl hx hb dSF_stackLoadOffset_8 ?_
  refine lv_iload_n hx hb dSF_stackLoadOffset_9 rfl (lv_at hl 0 rfl) ?_
  refine lv_iconst (v := 4) hx hb dSF_stackLoadOffset_10 (by decide) ?_
  refine lv_iconst (v := 3) hx hb dSF_stackLoadOffset_11 (by decide) ?_
  refine mk_callR (va_runS (As := [.int a1, .int 4, .int 3]) (rest := [.int ((hf_Bits_part a1 12 1) <<< (5 &&& 31))]) ⟨hx, hb, hml, hown, hts⟩ (hc_Bits_part l s.heap a1 4 3) (va_cwS 3 hts (mk_gS tw_326 tw_165 tw_55 tw_166) rfl rfl rfl hdBits_part.2 ⟨Nat.le_of_ble_eq_true rfl, Nat.le_of_ble_eq_true rfl⟩) mk_preS rfl rfl hl.1 rfl (lv_room (Nat.le_of_ble_eq_true rfl)) dSF_stackLoadOffset_12 ⟨Nat.zero_le _, Nat.zero_le _⟩) ?_
  refine lv_iconst (v := 2) hx hb dSF_stackLoadOffset_15 (by decide) ?_
  refine lv_ishl hx hb dSF_stackLoadOffset_16 ?_
  refine lv_ior hx hb dSF_stackLoadOffset_17 ?_
  refine lv_iload_n hx hb dSF_stackLoadOffset_18 rfl (lv_at hl 0 rfl) ?_
  refine lv_iconst (v := 2) hx hb dSF_stackLoadOffset_19 (by decide) ?_
  refine lv_iconst (v := 2) hx hb dSF_stackLoadOffset_20 (by decide) ?_
  refine mk_callR (va_runS (As := [.int a1, .int 2, .int 2]) (rest := [.int (((hf_Bits_part a1 12 1) <<< (5 &&& 31)) ||| ((hf_Bits_part a1 4 3) <<< (2 &&& 31)))]) ⟨hx, hb, hml, hown, hts⟩ (hc_Bits_part l s.heap a1 2 2) (va_cwS 3 hts (mk_gS tw_326 tw_165 tw_55 tw_166) rfl rfl rfl hdBits_part.2 ⟨Nat.le_of_ble_eq_true rfl, Nat.le_of_ble_eq_true rfl⟩) mk_preS rfl rfl hl.1 rfl (lv_room (Nat.le_of_ble_eq_true rfl)) dSF_stackLoadOffset_21 ⟨Nat.zero_le _, Nat.zero_le _⟩) ?_
  refine lv_bipush (v := 6) hx hb dSF_stackLoadOffset_24 (by decide) ?_
  refine lv_ishl hx hb dSF_stackLoadOffset_26 ?_
  refine lv_ior hx hb dSF_stackLoadOffset_27 ?_
  exact W.iret hx hb hr (fun t ht hW => ⟨⟨_, (), rfl, rfl, ht⟩, mk_F ht⟩) (fun q h => nomatch h) dSF_stackLoadOffset_28
set_option maxHeartbeats 4000000 in
set_option maxRecDepth 100000 in
theorem hc_ShortForm_stackStoreOffset (l : Launch) (G : Heap) (a1 : Int32)  : Met l ySF_stackStoreOffset (wq ySF_stackStoreOffset cSF_stackStoreOffset 1 (some .int)) ({ frames := 1, cells := 0, slots := 0, locals := 22 }) (mk_P G [.int a1]) (mk_Qi G (hf_ShortForm_stackStoreOffset a1)) 0 0 (fun _ => False) := by
  refine Met.ofW (cc := cSF_stackStoreOffset) (maxL := 1) (ret := (some .int)) (by decide) rfl ?_
  intro p e s m args below meth c s₁ B hml hv
  obtain ⟨rfl, hG⟩ := hv
  subst hG
  have hx := B.exec
  have hb := B.bytes
  have hr := B.returns
  have hts := atoms_spec (ws := (wq ySF_stackStoreOffset cSF_stackStoreOffset 1 (some .int))) B.pre
  have hown : s.vm.findClass RSF = some m.cls := findClass_of_methodNamed B.named
  have hlocks := B.notSynchronized
  have hg : ∀ w ∈ lw_g, w.before _ s = true := fun w h => hts w (List.mem_cons_of_mem _ h)
  have hl := lv_entry ([.int a1]) (n := 1) (Nat.le_of_ble_eq_true rfl)
  rw [lg_entry_eq]
  generalize (lg_sl ([.int a1]) ++ List.replicate (1 - (lg_sl ([.int a1])).length) Slot.unset).toArray = ls at hl ⊢
  have hl : lv_has ls 1 [(0, .int a1)] := hl
  refine lv_iload_n hx hb dSF_stackStoreOffset_0 rfl (lv_at hl 0 rfl) ?_
  refine lv_bipush (v := 9) hx hb dSF_stackStoreOffset_1 (by decide) ?_
  refine lv_iconst (v := 4) hx hb dSF_stackStoreOffset_3 (by decide) ?_
  refine mk_callR (va_runS (As := [.int a1, .int 9, .int 4]) (rest := []) ⟨hx, hb, hml, hown, hts⟩ (hc_Bits_part l s.heap a1 9 4) (va_cwS 3 hts (mk_gS tw_326 tw_165 tw_55 tw_166) rfl rfl rfl hdBits_part.2 ⟨Nat.le_of_ble_eq_true rfl, Nat.le_of_ble_eq_true rfl⟩) mk_preS rfl rfl hl.1 rfl (lv_room (Nat.le_of_ble_eq_true rfl)) dSF_stackStoreOffset_4 ⟨Nat.zero_le _, Nat.zero_le _⟩) ?_
  refine lv_iconst (v := 2) hx hb dSF_stackStoreOffset_7 (by decide) ?_
  refine lv_ishl hx hb dSF_stackStoreOffset_8 ?_
  refine lv_iload_n hx hb dSF_stackStoreOffset_9 rfl (lv_at hl 0 rfl) ?_
  refine lv_bipush (v := 7) hx hb dSF_stackStoreOffset_10 (by decide) ?_
  refine lv_iconst (v := 2) hx hb dSF_stackStoreOffset_12 (by decide) ?_
  refine mk_callR (va_runS (As := [.int a1, .int 7, .int 2]) (rest := [.int ((hf_Bits_part a1 9 4) <<< (2 &&& 31))]) ⟨hx, hb, hml, hown, hts⟩ (hc_Bits_part l s.heap a1 7 2) (va_cwS 3 hts (mk_gS tw_326 tw_165 tw_55 tw_166) rfl rfl rfl hdBits_part.2 ⟨Nat.le_of_ble_eq_true rfl, Nat.le_of_ble_eq_true rfl⟩) mk_preS rfl rfl hl.1 rfl (lv_room (Nat.le_of_ble_eq_true rfl)) dSF_stackStoreOffset_13 ⟨Nat.zero_le _, Nat.zero_le _⟩) ?_
  refine lv_bipush (v := 6) hx hb dSF_stackStoreOffset_16 (by decide) ?_
  refine lv_ishl hx hb dSF_stackStoreOffset_18 ?_
  refine lv_ior hx hb dSF_stackStoreOffset_19 ?_
  exact W.iret hx hb hr (fun t ht hW => ⟨⟨_, (), rfl, rfl, ht⟩, mk_F ht⟩) (fun q h => nomatch h) dSF_stackStoreOffset_20
end
section
set_option maxHeartbeats 4000000 in
set_option maxRecDepth 100000 in
theorem hc_Memory_write (l : Launch) {D : va_G} {cR cW cP : ClassId} {h0 h1 h2 h3 h4 : Nat} {A : Nat → Prop} {st : HS} {G : Heap} (hP : va_P D hcl (hs_W cR cW cP h0 h1 h2 h3 h4 st) G) (hD : ∀ z, va_D A (hs_W cR cW cP h0 h1 h2 h3 h4 z)) (a1 : Int32) (a2 : Int32) (a3 : Int32)  : Met l yMem_write (wq yMem_write cMem_write 6 none) ({ frames := 1, cells := 0, slots := 0, locals := 20 }) (mk_PK D hcl [(cR, .int), (cW, .int), (cP, .int)] G [.ref h1, .int a1, .int a2, .int a3]) (mk_Wv (fun u t => va_P D hcl (hs_W cR cW cP h0 h1 h2 h3 h4 u) t) A (hf_Memory_write st a1 a2 a3)) 0 0 A := by
  refine Met.ofW (cc := cMem_write) (maxL := 6) (ret := none) (by decide) rfl ?_
  intro p e s m args below meth c s₁ B hml hv
  obtain ⟨rfl, hG, hK⟩ := hv
  subst hG
  have hx := B.exec
  have hb := B.bytes
  have hr := B.returns
  have hts := atoms_spec (ws := (wq yMem_write cMem_write 6 none)) B.pre
  have hown : s.vm.findClass RMem = some m.cls := findClass_of_methodNamed B.named
  have hlocks := B.notSynchronized
  have hg : ∀ w ∈ lw_g, w.before _ s = true := fun w h => hts w (List.mem_cons_of_mem _ h)
  have hS : va_S A s.heap s.heap [] := va_S.rf
  have hl := lv_entry ([.ref h1, .int a1, .int a2, .int a3]) (n := 6) (Nat.le_of_ble_eq_true rfl)
  rw [lg_entry_eq]
  generalize (lg_sl ([.ref h1, .int a1, .int a2, .int a3]) ++ List.replicate (6 - (lg_sl ([.ref h1, .int a1, .int a2, .int a3])).length) Slot.unset).toArray = ls at hl ⊢
  have hl : lv_has ls 6 [(0, .ref h1), (1, .int a1), (2, .int a2), (3, .int a3)] := hl
  refine lv_iload_n hx hb dMem_write_0 rfl (lv_at hl 2 rfl) ?_
  refine mk_callR (va_runS (As := [.int a2]) (rest := []) ⟨hx, hb, hml, hown, hts⟩ (hc_Memory_wordIndex l _ a2) (va_cwS 1 hts (mk_gS tw_147 tw_148 tw_47 tw_149) rfl rfl rfl hdMem_wordIndex.2 ⟨Nat.le_of_ble_eq_true rfl, Nat.le_of_ble_eq_true rfl⟩) mk_preS rfl rfl hl.1 rfl (lv_room (Nat.le_of_ble_eq_true rfl)) dMem_write_1 ⟨Nat.zero_le _, Nat.zero_le _⟩) ?_
  refine lv_istore (lv' := [(4, .int (hf_Memory_wordIndex a2)), (0, .ref h1), (1, .int a1), (2, .int a2), (3, .int a3)]) hx hb dMem_write_4 hl (by decide) rfl (fun ls hl => ?_)
  refine lv_iload_n hx hb dMem_write_6 rfl (lv_at hl 2 rfl) ?_
  refine mk_callR (va_runS (As := [.int a1]) (rest := []) ⟨hx, hb, hml, hown, hts⟩ (hc_Memory_maskOf l _ a1) (va_cwS 1 hts (mk_gS tw_244 tw_245 tw_47 tw_246) rfl rfl rfl hdMem_maskOf.2 ⟨Nat.le_of_ble_eq_true rfl, Nat.le_of_ble_eq_true rfl⟩) mk_preS rfl rfl hl.1 rfl (lv_room (Nat.le_of_ble_eq_true rfl)) dMem_write_7 ⟨Nat.zero_le _, Nat.zero_le _⟩) ?_
  refine lv_iload_n hx hb dMem_write_10 rfl (lv_at hl 3 rfl) ?_
  refine mk_callR (va_runS (As := [.int a2]) (rest := [.int (hf_Memory_maskOf a1)]) ⟨hx, hb, hml, hown, hts⟩ (hc_Memory_shiftOf l _ a2) (va_cwS 1 hts (mk_gS tw_150 tw_151 tw_47 tw_152) rfl rfl rfl hdMem_shiftOf.2 ⟨Nat.le_of_ble_eq_true rfl, Nat.le_of_ble_eq_true rfl⟩) mk_preS rfl rfl hl.1 rfl (lv_room (Nat.le_of_ble_eq_true rfl)) dMem_write_11 ⟨Nat.zero_le _, Nat.zero_le _⟩) ?_
  refine lv_ishl hx hb dMem_write_14 ?_
  refine lv_istore (lv' := [(5, .int ((hf_Memory_maskOf a1) <<< ((hf_Memory_shiftOf a2) &&& 31))), (4, .int (hf_Memory_wordIndex a2)), (0, .ref h1), (1, .int a1), (2, .int a2), (3, .int a3)]) hx hb dMem_write_15 hl (by decide) rfl (fun ls hl => ?_)
  refine lv_aload_n hx hb dMem_write_17 rfl (lv_at hl 2 rfl) ?_
  refine va_get (D := D) (ci := 1) (v := .ref h3) (C := RMem) (T := TMem) (N := 3) hx hb hg inMem hown hK hP 1 rfl rfl 0 (by decide) (hg _ tw_72) (fun _ h9 => h9) rfl dMem_write_18 ?_
  refine lv_iload hx hb dMem_write_21 (lv_at hl 1 rfl) ?_
  refine lv_aload_n hx hb dMem_write_23 rfl (lv_at hl 2 rfl) ?_
  refine va_get (D := D) (ci := 1) (v := .ref h3) (C := RMem) (T := TMem) (N := 3) hx hb hg inMem hown hK hP 1 rfl rfl 0 (by decide) (hg _ tw_72) (fun _ h9 => h9) rfl dMem_write_24 ?_
  refine lv_iload hx hb dMem_write_27 (lv_at hl 1 rfl) ?_
  refine va_iald (D := D) hx hb hK hP 3 1 rfl rfl (in_Memory_wordIndex _) dMem_write_29 ?_
  refine lv_iload hx hb dMem_write_30 (lv_at hl 0 rfl) ?_
  refine lv_iconst (v := (-1)) hx hb dMem_write_32 (by decide) ?_
  refine lv_ixor hx hb dMem_write_33 ?_
  refine lv_iand hx hb dMem_write_34 ?_
  refine lv_iload_n hx hb dMem_write_35 rfl (lv_at hl 5 rfl) ?_
  refine lv_iload_n hx hb dMem_write_36 rfl (lv_at hl 4 rfl) ?_
  refine mk_callR (va_runS (As := [.int a2]) (rest := [.int a3, .int ((hs_words st ((hf_Memory_wordIndex a2)).toNatClampNeg) &&& (((hf_Memory_maskOf a1) <<< ((hf_Memory_shiftOf a2) &&& 31)) ^^^ (-1))), .int (hf_Memory_wordIndex a2), .ref h3]) ⟨hx, hb, hml, hown, hts⟩ (hc_Memory_shiftOf l _ a2) (va_cwS 1 hts (mk_gS tw_150 tw_151 tw_47 tw_152) rfl rfl rfl hdMem_shiftOf.2 ⟨Nat.le_of_ble_eq_true rfl, Nat.le_of_ble_eq_true rfl⟩) mk_preS rfl rfl hl.1 rfl (lv_room (Nat.le_of_ble_eq_true rfl)) dMem_write_37 ⟨Nat.zero_le _, Nat.zero_le _⟩) ?_
  refine lv_ishl hx hb dMem_write_40 ?_
  refine lv_iload hx hb dMem_write_41 (lv_at hl 0 rfl) ?_
  refine lv_iand hx hb dMem_write_43 ?_
  refine lv_ior hx hb dMem_write_44 ?_
  refine va_iast (D := D) hx hb hK hP (hD _) hS 3 1 rfl rfl (in_Memory_wordIndex _) dMem_write_45 (fun H locs hP _ hS => ?_)
  have hP : va_P D hcl (hs_W cR cW cP h0 h1 h2 h3 h4 (hs_set_word st (hf_Memory_wordIndex a2) (((hs_words st ((hf_Memory_wordIndex a2)).toNatClampNeg) &&& (((hf_Memory_maskOf a1) <<< ((hf_Memory_shiftOf a2) &&& 31)) ^^^ (-1))) ||| ((a3 <<< ((hf_Memory_shiftOf a2) &&& 31)) &&& ((hf_Memory_maskOf a1) <<< ((hf_Memory_shiftOf a2) &&& 31)))))) H := hP
  refine lv_aload_n hx hb dMem_write_46 rfl (lv_at hl 2 rfl) ?_
  refine va_get (D := D) (ci := 1) (v := .int (hs_reserved (hs_set_word st (hf_Memory_wordIndex a2) (((hs_words st ((hf_Memory_wordIndex a2)).toNatClampNeg) &&& (((hf_Memory_maskOf a1) <<< ((hf_Memory_shiftOf a2) &&& 31)) ^^^ (-1))) ||| ((a3 <<< ((hf_Memory_shiftOf a2) &&& 31)) &&& ((hf_Memory_maskOf a1) <<< ((hf_Memory_shiftOf a2) &&& 31))))))) (C := RMem) (T := TMem) (N := 3) hx hb hg inMem hown hK hP 1 rfl rfl 2 (by decide) (hg _ tw_74) (fun _ h9 => h9) rfl dMem_write_47 ?_
  refine lv_iload_n hx hb dMem_write_50 rfl (lv_at hl 4 rfl) ?_
  refine lv_bipush (v := (-4)) hx hb dMem_write_51 (by decide) ?_
  refine lv_iand hx hb dMem_write_53 ?_
  refine lv_icmp_ne (tgt := 62) hx hb dMem_write_54 (by decide) (fun c_1 => ?_) (fun c_1 => ?_)
  · exact W.vret hx hb hr (fun t ht hW => ⟨⟨(hs_set_word st (hf_Memory_wordIndex a2) (((hs_words st ((hf_Memory_wordIndex a2)).toNatClampNeg) &&& (((hf_Memory_maskOf a1) <<< ((hf_Memory_shiftOf a2) &&& 31)) ^^^ (-1))) ||| ((a3 <<< ((hf_Memory_shiftOf a2) &&& 31)) &&& ((hf_Memory_maskOf a1) <<< ((hf_Memory_shiftOf a2) &&& 31))))), rfl, (by unfold hf_Memory_write; rw [if_neg c_1]), by show va_P D hcl _ t.heap; rw [ht]; exact hP⟩, hS.F ht⟩) hS.2.2 dMem_write_62
  · refine lv_aload_n hx hb dMem_write_57 rfl (lv_at hl 2 rfl) ?_
    refine lv_iconst (v := (-1)) hx hb dMem_write_58 (by decide) ?_
    refine va_put (D := D) (ci := 1) (v := .int (-1)) (ty := .int) (C := RMem) (T := TMem) (N := 3) hx hb hg inMem tyMem tyMem_ok nmMem hown hK hP (hD _) hS 1 rfl rfl 2 (by decide) (hg _ tw_74) (fun _ h9 => h9) rfl (by decide +kernel) rfl rfl (Nat.le_of_ble_eq_true rfl) dMem_write_59 (fun H locs hP _ hS => ?_)
    have hP : va_P D hcl (hs_W cR cW cP h0 h1 h2 h3 h4 (hs_set_reserved (hs_set_word st (hf_Memory_wordIndex a2) (((hs_words st ((hf_Memory_wordIndex a2)).toNatClampNeg) &&& (((hf_Memory_maskOf a1) <<< ((hf_Memory_shiftOf a2) &&& 31)) ^^^ (-1))) ||| ((a3 <<< ((hf_Memory_shiftOf a2) &&& 31)) &&& ((hf_Memory_maskOf a1) <<< ((hf_Memory_shiftOf a2) &&& 31))))) (-1))) H := hP
    exact W.vret hx hb hr (fun t ht hW => ⟨⟨(hs_set_reserved (hs_set_word st (hf_Memory_wordIndex a2) (((hs_words st ((hf_Memory_wordIndex a2)).toNatClampNeg) &&& (((hf_Memory_maskOf a1) <<< ((hf_Memory_shiftOf a2) &&& 31)) ^^^ (-1))) ||| ((a3 <<< ((hf_Memory_shiftOf a2) &&& 31)) &&& ((hf_Memory_maskOf a1) <<< ((hf_Memory_shiftOf a2) &&& 31))))) (-1)), rfl, (by unfold hf_Memory_write; rw [if_pos c_1]), by show va_P D hcl _ t.heap; rw [ht]; exact hP⟩, hS.F ht⟩) hS.2.2 dMem_write_62
set_option maxHeartbeats 4000000 in
set_option maxRecDepth 100000 in
theorem hc_Memory_read (l : Launch) {D : va_G} {cR cW cP : ClassId} {h0 h1 h2 h3 h4 : Nat} {st : HS} {G : Heap} (hP : va_P D hcl (hs_W cR cW cP h0 h1 h2 h3 h4 st) G) (a1 : Int32) (a2 : Int32)  : Met l yMem_read (wq yMem_read cMem_read 5 (some .int)) ({ frames := 1, cells := 0, slots := 0, locals := 20 }) (mk_PK D hcl [(cR, .int), (cW, .int), (cP, .int)] G [.ref h1, .int a1, .int a2]) (mk_Qi G (hf_Memory_read st a1 a2)) 0 0 (fun _ => False) := by
  refine Met.ofW (cc := cMem_read) (maxL := 5) (ret := (some .int)) (by decide) rfl ?_
  intro p e s m args below meth c s₁ B hml hv
  obtain ⟨rfl, hG, hK⟩ := hv
  subst hG
  have hx := B.exec
  have hb := B.bytes
  have hr := B.returns
  have hts := atoms_spec (ws := (wq yMem_read cMem_read 5 (some .int))) B.pre
  have hown : s.vm.findClass RMem = some m.cls := findClass_of_methodNamed B.named
  have hlocks := B.notSynchronized
  have hg : ∀ w ∈ lw_g, w.before _ s = true := fun w h => hts w (List.mem_cons_of_mem _ h)
  have hl := lv_entry ([.ref h1, .int a1, .int a2]) (n := 5) (Nat.le_of_ble_eq_true rfl)
  rw [lg_entry_eq]
  generalize (lg_sl ([.ref h1, .int a1, .int a2]) ++ List.replicate (5 - (lg_sl ([.ref h1, .int a1, .int a2])).length) Slot.unset).toArray = ls at hl ⊢
  have hl : lv_has ls 5 [(0, .ref h1), (1, .int a1), (2, .int a2)] := hl
  refine lv_aload_n hx hb dMem_read_0 rfl (lv_at hl 0 rfl) ?_
  refine va_get (D := D) (ci := 1) (v := .ref h3) (C := RMem) (T := TMem) (N := 3) hx hb hg inMem hown hK hP 1 rfl rfl 0 (by decide) (hg _ tw_72) (fun _ h9 => h9) rfl dMem_read_1 ?_
  refine lv_iload_n hx hb dMem_read_4 rfl (lv_at hl 2 rfl) ?_
  refine mk_callR (va_runS (As := [.int a2]) (rest := [.ref h3]) ⟨hx, hb, hml, hown, hts⟩ (hc_Memory_wordIndex l s.heap a2) (va_cwS 1 hts (mk_gS tw_147 tw_148 tw_47 tw_149) rfl rfl rfl hdMem_wordIndex.2 ⟨Nat.le_of_ble_eq_true rfl, Nat.le_of_ble_eq_true rfl⟩) mk_preS rfl rfl hl.1 rfl (lv_room (Nat.le_of_ble_eq_true rfl)) dMem_read_5 ⟨Nat.zero_le _, Nat.zero_le _⟩) ?_
  refine va_iald (D := D) hx hb hK hP 3 1 rfl rfl (in_Memory_wordIndex _) dMem_read_8 ?_
  refine lv_istore_n (lv' := [(3, .int (hs_words st ((hf_Memory_wordIndex a2)).toNatClampNeg)), (0, .ref h1), (1, .int a1), (2, .int a2)]) hx hb dMem_read_9 rfl hl (by decide) rfl (fun ls hl => ?_)
  refine lv_iload_n hx hb dMem_read_10 rfl (lv_at hl 0 rfl) ?_
  refine lv_iload_n hx hb dMem_read_11 rfl (lv_at hl 3 rfl) ?_
  refine mk_callR (va_runS (As := [.int a2]) (rest := [.int (hs_words st ((hf_Memory_wordIndex a2)).toNatClampNeg)]) ⟨hx, hb, hml, hown, hts⟩ (hc_Memory_shiftOf l s.heap a2) (va_cwS 1 hts (mk_gS tw_150 tw_151 tw_47 tw_152) rfl rfl rfl hdMem_shiftOf.2 ⟨Nat.le_of_ble_eq_true rfl, Nat.le_of_ble_eq_true rfl⟩) mk_preS rfl rfl hl.1 rfl (lv_room (Nat.le_of_ble_eq_true rfl)) dMem_read_12 ⟨Nat.zero_le _, Nat.zero_le _⟩) ?_
  refine lv_iushr (v := (ja_ushr (hs_words st ((hf_Memory_wordIndex a2)).toNatClampNeg) (hf_Memory_shiftOf a2))) hx hb dMem_read_15 rfl ?_
  refine lv_istore (lv' := [(4, .int (ja_ushr (hs_words st ((hf_Memory_wordIndex a2)).toNatClampNeg) (hf_Memory_shiftOf a2))), (3, .int (hs_words st ((hf_Memory_wordIndex a2)).toNatClampNeg)), (0, .ref h1), (1, .int a1), (2, .int a2)]) hx hb dMem_read_16 hl (by decide) rfl (fun ls hl => ?_)
  refine lv_iload_n hx hb dMem_read_18 rfl (lv_at hl 3 rfl) ?_
  by_cases c_1 : a1 = 0
  · refine lv_tableIn (tgt := 56) hx hb dMem_read_19 (by rw [c_1]; decide) (by rw [c_1]; decide) (by rw [c_1]; rfl) (by decide) ?_
    refine lv_iload hx hb dMem_read_56 (lv_at hl 0 rfl) ?_
    refine lv_i2b (v := (ja_ushr (hs_words st ((hf_Memory_wordIndex a2)).toNatClampNeg) (hf_Memory_shiftOf a2)).toInt8.toInt32) hx hb dMem_read_58 rfl ?_
    exact W.iret hx hb hr (fun t ht hW => ⟨⟨_, (), rfl, (by unfold hf_Memory_read; rw [if_pos c_1]), ht⟩, mk_F ht⟩) (fun q h => nomatch h) dMem_read_59
  by_cases c_2 : a1 = 1
  · refine lv_tableIn (tgt := 60) hx hb dMem_read_19 (by rw [c_2]; decide) (by rw [c_2]; decide) (by rw [c_2]; rfl) (by decide) ?_
    refine lv_iload hx hb dMem_read_60 (lv_at hl 0 rfl) ?_
    refine lv_i2s (v := (ja_ushr (hs_words st ((hf_Memory_wordIndex a2)).toNatClampNeg) (hf_Memory_shiftOf a2)).toInt16.toInt32) hx hb dMem_read_62 rfl ?_
    exact W.iret hx hb hr (fun t ht hW => ⟨⟨_, (), rfl, (by unfold hf_Memory_read; rw [if_neg c_1, if_pos c_2]), ht⟩, mk_F ht⟩) (fun q h => nomatch h) dMem_read_63
  by_cases c_3 : a1 = 2
  · refine lv_tableIn (tgt := 77) hx hb dMem_read_19 (by rw [c_3]; decide) (by rw [c_3]; decide) (by rw [c_3]; rfl) (by decide) ?_
    refine lv_iload_n hx hb dMem_read_77 rfl (lv_at hl 1 rfl) ?_
    exact W.iret hx hb hr (fun t ht hW => ⟨⟨_, (), rfl, (by unfold hf_Memory_read; rw [if_neg c_1, if_neg c_2, if_pos c_3]), ht⟩, mk_F ht⟩) (fun q h => nomatch h) dMem_read_78
  by_cases c_4 : a1 = 3
  · refine lv_tableIn (tgt := 77) hx hb dMem_read_19 (by rw [c_4]; decide) (by rw [c_4]; decide) (by rw [c_4]; rfl) (by decide) ?_
    refine lv_iload_n hx hb dMem_read_77 rfl (lv_at hl 1 rfl) ?_
    exact W.iret hx hb hr (fun t ht hW => ⟨⟨_, (), rfl, (by unfold hf_Memory_read; rw [if_neg c_1, if_neg c_2, if_neg c_3, if_pos c_4]), ht⟩, mk_F ht⟩) (fun q h => nomatch h) dMem_read_78
  by_cases c_5 : a1 = 4
  · refine lv_tableIn (tgt := 64) hx hb dMem_read_19 (by rw [c_5]; decide) (by rw [c_5]; decide) (by rw [c_5]; rfl) (by decide) ?_
    refine lv_iload hx hb dMem_read_64 (lv_at hl 0 rfl) ?_
    refine lv_sipush (v := 255) hx hb dMem_read_66 (by decide) ?_
    refine lv_iand hx hb dMem_read_69 ?_
    exact W.iret hx hb hr (fun t ht hW => ⟨⟨_, (), rfl, (by unfold hf_Memory_read; rw [if_neg c_1, if_neg c_2, if_neg c_3, if_neg c_4, if_pos c_5]), ht⟩, mk_F ht⟩) (fun q h => nomatch h) dMem_read_70
  by_cases c_6 : a1 = 5
  · refine lv_tableIn (tgt := 71) hx hb dMem_read_19 (by rw [c_6]; decide) (by rw [c_6]; decide) (by rw [c_6]; rfl) (by decide) ?_
    refine lv_iload hx hb dMem_read_71 (lv_at hl 0 rfl) ?_
    refine lv_ldc (v := 65535) hx hb hown (hg _ tw_138) dMem_read_73 ?_
    refine lv_iand hx hb dMem_read_75 ?_
    exact W.iret hx hb hr (fun t ht hW => ⟨⟨_, (), rfl, (by unfold hf_Memory_read; rw [if_neg c_1, if_neg c_2, if_neg c_3, if_neg c_4, if_neg c_5, if_pos c_6]), ht⟩, mk_F ht⟩) (fun q h => nomatch h) dMem_read_76
  refine lv_tableOut (tgt := 77) hx hb dMem_read_19 (by have q_1 := lv_neT (a := 0) c_1 rfl; have q_2 := lv_neT (a := 1) c_2 rfl; have q_3 := lv_neT (a := 2) c_3 rfl; have q_4 := lv_neT (a := 3) c_4 rfl; have q_5 := lv_neT (a := 4) c_5 rfl; have q_6 := lv_neT (a := 5) c_6 rfl; omega) (by decide) ?_
  refine lv_iload_n hx hb dMem_read_77 rfl (lv_at hl 1 rfl) ?_
  exact W.iret hx hb hr (fun t ht hW => ⟨⟨_, (), rfl, (by unfold hf_Memory_read; rw [if_neg c_1, if_neg c_2, if_neg c_3, if_neg c_4, if_neg c_5, if_neg c_6]), ht⟩, mk_F ht⟩) (fun q h => nomatch h) dMem_read_78
set_option maxHeartbeats 4000000 in
set_option maxRecDepth 100000 in
theorem hc_Memory_exchangeRights (l : Launch) {D : va_G} {cR cW cP : ClassId} {h0 h1 h2 h3 h4 : Nat} {A : Nat → Prop} {st : HS} {G : Heap} (hP : va_P D hcl (hs_W cR cW cP h0 h1 h2 h3 h4 st) G) (hD : ∀ z, va_D A (hs_W cR cW cP h0 h1 h2 h3 h4 z)) (a1 : Int32) (a2 : Int32) (hq1 : vp_in a1 64) : Met l yMem_exchangeRights (wq yMem_exchangeRights cMem_exchangeRights 4 (some .int)) ({ frames := 0, cells := 0, slots := 0, locals := 0 }) (mk_PK D hcl [(cR, .int), (cW, .int), (cP, .int)] G [.ref h1, .int a1, .int a2]) (mk_Wi (fun u t => va_P D hcl (hs_W cR cW cP h0 h1 h2 h3 h4 u) t) A (hf_Memory_exchangeRights st a1 a2)) 0 0 A := by
  refine Met.ofW (cc := cMem_exchangeRights) (maxL := 4) (ret := (some .int)) (by decide) rfl ?_
  intro p e s m args below meth c s₁ B hml hv
  obtain ⟨rfl, hG, hK⟩ := hv
  subst hG
  have hx := B.exec
  have hb := B.bytes
  have hr := B.returns
  have hts := atoms_spec (ws := (wq yMem_exchangeRights cMem_exchangeRights 4 (some .int))) B.pre
  have hown : s.vm.findClass RMem = some m.cls := findClass_of_methodNamed B.named
  have hlocks := B.notSynchronized
  have hg : ∀ w ∈ lw_g, w.before _ s = true := fun w h => hts w (List.mem_cons_of_mem _ h)
  have hS : va_S A s.heap s.heap [] := va_S.rf
  have hl := lv_entry ([.ref h1, .int a1, .int a2]) (n := 4) (Nat.le_of_ble_eq_true rfl)
  rw [lg_entry_eq]
  generalize (lg_sl ([.ref h1, .int a1, .int a2]) ++ List.replicate (4 - (lg_sl ([.ref h1, .int a1, .int a2])).length) Slot.unset).toArray = ls at hl ⊢
  have hl : lv_has ls 4 [(0, .ref h1), (1, .int a1), (2, .int a2)] := hl
  refine lv_aload_n hx hb dMem_exchangeRights_0 rfl (lv_at hl 0 rfl) ?_
  refine va_get (D := D) (ci := 1) (v := .ref h4) (C := RMem) (T := TMem) (N := 3) hx hb hg inMem hown hK hP 1 rfl rfl 1 (by decide) (hg _ tw_73) (fun _ h9 => h9) rfl dMem_exchangeRights_1 ?_
  refine lv_iload_n hx hb dMem_exchangeRights_4 rfl (lv_at hl 1 rfl) ?_
  refine va_iald (D := D) hx hb hK hP 4 2 rfl rfl hq1 dMem_exchangeRights_5 ?_
  refine lv_istore_n (lv' := [(3, .int (hs_rights st (a1).toNatClampNeg)), (0, .ref h1), (1, .int a1), (2, .int a2)]) hx hb dMem_exchangeRights_6 rfl hl (by decide) rfl (fun ls hl => ?_)
  refine lv_aload_n hx hb dMem_exchangeRights_7 rfl (lv_at hl 1 rfl) ?_
  refine va_get (D := D) (ci := 1) (v := .ref h4) (C := RMem) (T := TMem) (N := 3) hx hb hg inMem hown hK hP 1 rfl rfl 1 (by decide) (hg _ tw_73) (fun _ h9 => h9) rfl dMem_exchangeRights_8 ?_
  refine lv_iload_n hx hb dMem_exchangeRights_11 rfl (lv_at hl 2 rfl) ?_
  refine lv_iload_n hx hb dMem_exchangeRights_12 rfl (lv_at hl 3 rfl) ?_
  refine va_iast (D := D) hx hb hK hP (hD _) hS 4 2 rfl rfl hq1 dMem_exchangeRights_13 (fun H locs hP _ hS => ?_)
  have hP : va_P D hcl (hs_W cR cW cP h0 h1 h2 h3 h4 (hs_set_right st a1 a2)) H := hP
  refine lv_iload_n hx hb dMem_exchangeRights_14 rfl (lv_at hl 0 rfl) ?_
  exact W.iret hx hb hr (fun t ht hW => ⟨⟨_, (hs_set_right st a1 a2), rfl, rfl, by show va_P D hcl _ t.heap; rw [ht]; exact hP⟩, hS.F ht⟩) hS.2.2 dMem_exchangeRights_15
set_option maxHeartbeats 4000000 in
set_option maxRecDepth 100000 in
theorem hc_RiscHart_give (l : Launch) {D : va_G} {cR cW cP : ClassId} {h0 h1 h2 h3 h4 : Nat} {A : Nat → Prop} {st : HS} {G : Heap} (hP : va_P D hcl (hs_W cR cW cP h0 h1 h2 h3 h4 st) G) (hD : ∀ z, va_D A (hs_W cR cW cP h0 h1 h2 h3 h4 z)) (a1 : Int32) (a2 : Int32) (hq1 : vp_in a1 32) : Met l yHart_give (wq yHart_give cHart_give 3 (some .int)) ({ frames := 0, cells := 0, slots := 0, locals := 0 }) (mk_PK D hcl [(cR, .int), (cW, .int), (cP, .int)] G [.ref h0, .int a1, .int a2]) (mk_Wi (fun u t => va_P D hcl (hs_W cR cW cP h0 h1 h2 h3 h4 u) t) A (hf_RiscHart_give st a1 a2)) 0 0 A := by
  refine Met.ofW (cc := cHart_give) (maxL := 3) (ret := (some .int)) (by decide) rfl ?_
  intro p e s m args below meth c s₁ B hml hv
  obtain ⟨rfl, hG, hK⟩ := hv
  subst hG
  have hx := B.exec
  have hb := B.bytes
  have hr := B.returns
  have hts := atoms_spec (ws := (wq yHart_give cHart_give 3 (some .int))) B.pre
  have hown : s.vm.findClass RHart = some m.cls := findClass_of_methodNamed B.named
  have hlocks := B.notSynchronized
  have hg : ∀ w ∈ lw_g, w.before _ s = true := fun w h => hts w (List.mem_cons_of_mem _ h)
  have hS : va_S A s.heap s.heap [] := va_S.rf
  have hl := lv_entry ([.ref h0, .int a1, .int a2]) (n := 3) (Nat.le_of_ble_eq_true rfl)
  rw [lg_entry_eq]
  generalize (lg_sl ([.ref h0, .int a1, .int a2]) ++ List.replicate (3 - (lg_sl ([.ref h0, .int a1, .int a2])).length) Slot.unset).toArray = ls at hl ⊢
  have hl : lv_has ls 3 [(0, .ref h0), (1, .int a1), (2, .int a2)] := hl
  refine lv_iload_n hx hb dHart_give_0 rfl (lv_at hl 1 rfl) ?_
  refine lv_if_eq (tgt := 11) hx hb dHart_give_1 (by decide) (fun c_1 => ?_) (fun c_1 => ?_)
  · refine lv_iconst (v := 0) hx hb dHart_give_11 (by decide) ?_
    exact W.iret hx hb hr (fun t ht hW => ⟨⟨_, st, rfl, (by unfold hf_RiscHart_give; rw [if_pos c_1]), by show va_P D hcl _ t.heap; rw [ht]; exact hP⟩, hS.F ht⟩) hS.2.2 dHart_give_12
  · refine lv_aload_n hx hb dHart_give_4 rfl (lv_at hl 0 rfl) ?_
    refine va_get (D := D) (ci := 0) (v := .ref h2) (C := RHart) (T := THart) (N := 8) hx hb hg inHart hown hK hP 0 rfl rfl 1 (by decide) (hg _ tw_84) (fun _ h9 => h9) rfl dHart_give_5 ?_
    refine lv_iload_n hx hb dHart_give_8 rfl (lv_at hl 1 rfl) ?_
    refine lv_iload_n hx hb dHart_give_9 rfl (lv_at hl 2 rfl) ?_
    refine va_iast (D := D) hx hb hK hP (hD _) hS 2 0 rfl rfl hq1 dHart_give_10 (fun H locs hP _ hS => ?_)
    have hP : va_P D hcl (hs_W cR cW cP h0 h1 h2 h3 h4 (hs_set_reg st a1 a2)) H := hP
    refine lv_iconst (v := 0) hx hb dHart_give_11 (by decide) ?_
    exact W.iret hx hb hr (fun t ht hW => ⟨⟨_, (hs_set_reg st a1 a2), rfl, (by unfold hf_RiscHart_give; rw [if_neg c_1]), by show va_P D hcl _ t.heap; rw [ht]; exact hP⟩, hS.F ht⟩) hS.2.2 dHart_give_12
set_option maxHeartbeats 4000000 in
set_option maxRecDepth 100000 in
theorem hc_RiscHart_jump (l : Launch) {D : va_G} {cR cW cP : ClassId} {h0 h1 h2 h3 h4 : Nat} {A : Nat → Prop} {st : HS} {G : Heap} (hP : va_P D hcl (hs_W cR cW cP h0 h1 h2 h3 h4 st) G) (hD : ∀ z, va_D A (hs_W cR cW cP h0 h1 h2 h3 h4 z)) (a1 : Int32)  : Met l yHart_jump (wq yHart_jump cHart_jump 2 none) ({ frames := 0, cells := 0, slots := 0, locals := 0 }) (mk_PK D hcl [(cR, .int), (cW, .int), (cP, .int)] G [.ref h0, .int a1]) (mk_Wv (fun u t => va_P D hcl (hs_W cR cW cP h0 h1 h2 h3 h4 u) t) A (hf_RiscHart_jump st a1)) 0 0 A := by
  refine Met.ofW (cc := cHart_jump) (maxL := 2) (ret := none) (by decide) rfl ?_
  intro p e s m args below meth c s₁ B hml hv
  obtain ⟨rfl, hG, hK⟩ := hv
  subst hG
  have hx := B.exec
  have hb := B.bytes
  have hr := B.returns
  have hts := atoms_spec (ws := (wq yHart_jump cHart_jump 2 none)) B.pre
  have hown : s.vm.findClass RHart = some m.cls := findClass_of_methodNamed B.named
  have hlocks := B.notSynchronized
  have hg : ∀ w ∈ lw_g, w.before _ s = true := fun w h => hts w (List.mem_cons_of_mem _ h)
  have hS : va_S A s.heap s.heap [] := va_S.rf
  have hl := lv_entry ([.ref h0, .int a1]) (n := 2) (Nat.le_of_ble_eq_true rfl)
  rw [lg_entry_eq]
  generalize (lg_sl ([.ref h0, .int a1]) ++ List.replicate (2 - (lg_sl ([.ref h0, .int a1])).length) Slot.unset).toArray = ls at hl ⊢
  have hl : lv_has ls 2 [(0, .ref h0), (1, .int a1)] := hl
  refine lv_aload_n hx hb dHart_jump_0 rfl (lv_at hl 0 rfl) ?_
  refine lv_iload_n hx hb dHart_jump_1 rfl (lv_at hl 1 rfl) ?_
  refine va_put (D := D) (ci := 0) (v := .int a1) (ty := .int) (C := RHart) (T := THart) (N := 8) hx hb hg inHart tyHart tyHart_ok nmHart hown hK hP (hD _) hS 0 rfl rfl 2 (by decide) (hg _ tw_85) (fun _ h9 => h9) rfl (by decide +kernel) rfl rfl (Nat.le_of_ble_eq_true rfl) dHart_jump_2 (fun H locs hP _ hS => ?_)
  have hP : va_P D hcl (hs_W cR cW cP h0 h1 h2 h3 h4 (hs_set_place st a1)) H := hP
  exact W.vret hx hb hr (fun t ht hW => ⟨⟨(hs_set_place st a1), rfl, rfl, by show va_P D hcl _ t.heap; rw [ht]; exact hP⟩, hS.F ht⟩) hS.2.2 dHart_jump_5
set_option maxHeartbeats 4000000 in
set_option maxRecDepth 100000 in
theorem hc_RiscHart_clock (l : Launch) {D : va_G} {cR cW cP : ClassId} {h0 h1 h2 h3 h4 : Nat} {A : Nat → Prop} {st : HS} {G : Heap} (hP : va_P D hcl (hs_W cR cW cP h0 h1 h2 h3 h4 st) G) (hD : ∀ z, va_D A (hs_W cR cW cP h0 h1 h2 h3 h4 z)) (a1 : Int64)  : Met l yHart_clock (wq yHart_clock cHart_clock 3 none) ({ frames := 0, cells := 0, slots := 0, locals := 0 }) (mk_PK D hcl [(cR, .int), (cW, .int), (cP, .int)] G [.ref h0, .long a1]) (mk_Wv (fun u t => va_P D hcl (hs_W cR cW cP h0 h1 h2 h3 h4 u) t) A (hf_RiscHart_clock st a1)) 0 0 A := by
  refine Met.ofW (cc := cHart_clock) (maxL := 3) (ret := none) (by decide) rfl ?_
  intro p e s m args below meth c s₁ B hml hv
  obtain ⟨rfl, hG, hK⟩ := hv
  subst hG
  have hx := B.exec
  have hb := B.bytes
  have hr := B.returns
  have hts := atoms_spec (ws := (wq yHart_clock cHart_clock 3 none)) B.pre
  have hown : s.vm.findClass RHart = some m.cls := findClass_of_methodNamed B.named
  have hlocks := B.notSynchronized
  have hg : ∀ w ∈ lw_g, w.before _ s = true := fun w h => hts w (List.mem_cons_of_mem _ h)
  have hS : va_S A s.heap s.heap [] := va_S.rf
  have hl := lv_entry ([.ref h0, .long a1]) (n := 3) (Nat.le_of_ble_eq_true rfl)
  rw [lg_entry_eq]
  generalize (lg_sl ([.ref h0, .long a1]) ++ List.replicate (3 - (lg_sl ([.ref h0, .long a1])).length) Slot.unset).toArray = ls at hl ⊢
  have hl : lv_has ls 3 [(0, .ref h0), (1, .long a1)] := hl
  refine lv_aload_n hx hb dHart_clock_0 rfl (lv_at hl 0 rfl) ?_
  refine lv_lload_n hx hb dHart_clock_1 rfl (lv_at hl 1 rfl) ?_
  refine va_put (D := D) (ci := 0) (v := .long a1) (ty := .long) (C := RHart) (T := THart) (N := 8) hx hb hg inHart tyHart tyHart_ok nmHart hown hK hP (hD _) hS 0 rfl rfl 7 (by decide) (hg _ tw_90) (fun _ h9 => h9) rfl (by decide +kernel) rfl rfl (Nat.le_of_ble_eq_true rfl) dHart_clock_2 (fun H locs hP _ hS => ?_)
  have hP : va_P D hcl (hs_W cR cW cP h0 h1 h2 h3 h4 (hs_set_time st a1)) H := hP
  exact W.vret hx hb hr (fun t ht hW => ⟨⟨(hs_set_time st a1), rfl, rfl, by show va_P D hcl _ t.heap; rw [ht]; exact hP⟩, hS.F ht⟩) hS.2.2 dHart_clock_5
set_option maxHeartbeats 4000000 in
set_option maxRecDepth 100000 in
theorem hc_Memory_allows (l : Launch) {D : va_G} {cR cW cP : ClassId} {h0 h1 h2 h3 h4 : Nat} {st : HS} {G : Heap} (hP : va_P D hcl (hs_W cR cW cP h0 h1 h2 h3 h4 st) G) (a1 : Int32) (a2 : Int32)  : Met l yMem_allows (wq yMem_allows cMem_allows 3 (some .boolean)) ({ frames := 1, cells := 0, slots := 0, locals := 20 }) (mk_PK D hcl [(cR, .int), (cW, .int), (cP, .int)] G [.ref h1, .int a1, .int a2]) (mk_Qi G (hf_Memory_allows st a1 a2)) 0 0 (fun _ => False) := by
  refine Met.ofW (cc := cMem_allows) (maxL := 3) (ret := (some .boolean)) (by decide) rfl ?_
  intro p e s m args below meth c s₁ B hml hv
  obtain ⟨rfl, hG, hK⟩ := hv
  subst hG
  have hx := B.exec
  have hb := B.bytes
  have hr := B.returns
  have hts := atoms_spec (ws := (wq yMem_allows cMem_allows 3 (some .boolean))) B.pre
  have hown : s.vm.findClass RMem = some m.cls := findClass_of_methodNamed B.named
  have hlocks := B.notSynchronized
  have hg : ∀ w ∈ lw_g, w.before _ s = true := fun w h => hts w (List.mem_cons_of_mem _ h)
  have hl := lv_entry ([.ref h1, .int a1, .int a2]) (n := 3) (Nat.le_of_ble_eq_true rfl)
  rw [lg_entry_eq]
  generalize (lg_sl ([.ref h1, .int a1, .int a2]) ++ List.replicate (3 - (lg_sl ([.ref h1, .int a1, .int a2])).length) Slot.unset).toArray = ls at hl ⊢
  have hl : lv_has ls 3 [(0, .ref h1), (1, .int a1), (2, .int a2)] := hl
  refine lv_iload_n hx hb dMem_allows_0 rfl (lv_at hl 2 rfl) ?_
  refine mk_callR (va_runS (As := [.int a2]) (rest := []) ⟨hx, hb, hml, hown, hts⟩ (hc_Memory_holds l s.heap a2) (va_cwS 1 hts (mk_gS tw_135 tw_136 tw_47 tw_137) rfl rfl rfl hdMem_holds.2 ⟨Nat.le_of_ble_eq_true rfl, Nat.le_of_ble_eq_true rfl⟩) mk_preS rfl rfl hl.1 rfl (lv_room (Nat.le_of_ble_eq_true rfl)) dMem_allows_1 ⟨Nat.zero_le _, Nat.zero_le _⟩) ?_
  refine lv_if_eq (tgt := 25) hx hb dMem_allows_4 (by decide) (fun c_1 => ?_) (fun c_1 => ?_)
  · refine lv_iconst (v := 0) hx hb dMem_allows_25 (by decide) ?_
    exact W.zret hx hb hr rfl (fun t ht hW => ⟨⟨_, (), rfl, (by unfold hf_Memory_allows; rw [if_pos c_1]), ht⟩, mk_F ht⟩) (fun q h => nomatch h) dMem_allows_26
  · refine lv_aload_n hx hb dMem_allows_7 rfl (lv_at hl 0 rfl) ?_
    refine va_get (D := D) (ci := 1) (v := .ref h4) (C := RMem) (T := TMem) (N := 3) hx hb hg inMem hown hK hP 1 rfl rfl 1 (by decide) (hg _ tw_73) (fun _ h9 => h9) rfl dMem_allows_8 ?_
    refine lv_iload_n hx hb dMem_allows_11 rfl (lv_at hl 2 rfl) ?_
    refine lv_bipush (v := 10) hx hb dMem_allows_12 (by decide) ?_
    refine lv_iushr (v := (ja_ushr a2 10)) hx hb dMem_allows_14 rfl ?_
    refine va_iald (D := D) hx hb hK hP 4 2 rfl rfl (in_page c_1) dMem_allows_15 ?_
    refine lv_iload_n hx hb dMem_allows_16 rfl (lv_at hl 1 rfl) ?_
    refine lv_iand hx hb dMem_allows_17 ?_
    refine lv_if_eq (tgt := 25) hx hb dMem_allows_18 (by decide) (fun c_2 => ?_) (fun c_2 => ?_)
    · refine lv_iconst (v := 0) hx hb dMem_allows_25 (by decide) ?_
      exact W.zret hx hb hr rfl (fun t ht hW => ⟨⟨_, (), rfl, (by unfold hf_Memory_allows; rw [if_neg c_1, if_pos c_2]), ht⟩, mk_F ht⟩) (fun q h => nomatch h) dMem_allows_26
    · refine lv_iconst (v := 1) hx hb dMem_allows_21 (by decide) ?_
      refine lv_goto (tgt := 26) hx hb dMem_allows_22 (by decide) ?_
      exact W.zret hx hb hr rfl (fun t ht hW => ⟨⟨_, (), rfl, (by unfold hf_Memory_allows; rw [if_neg c_1, if_neg c_2]), ht⟩, mk_F ht⟩) (fun q h => nomatch h) dMem_allows_26
set_option maxHeartbeats 4000000 in
set_option maxRecDepth 100000 in
theorem hc_Memory_mayCarryOut (l : Launch) {D : va_G} {cR cW cP : ClassId} {h0 h1 h2 h3 h4 : Nat} {st : HS} {G : Heap} (hP : va_P D hcl (hs_W cR cW cP h0 h1 h2 h3 h4 st) G) (a1 : Int32)  : Met l yMem_mayCarryOut (wq yMem_mayCarryOut cMem_mayCarryOut 2 (some .boolean)) ({ frames := 2, cells := 0, slots := 0, locals := 42 }) (mk_PK D hcl [(cR, .int), (cW, .int), (cP, .int)] G [.ref h1, .int a1]) (mk_Qi G (hf_Memory_mayCarryOut st a1)) 0 0 (fun _ => False) := by
  refine Met.ofW (cc := cMem_mayCarryOut) (maxL := 2) (ret := (some .boolean)) (by decide) rfl ?_
  intro p e s m args below meth c s₁ B hml hv
  obtain ⟨rfl, hG, hK⟩ := hv
  subst hG
  have hx := B.exec
  have hb := B.bytes
  have hr := B.returns
  have hts := atoms_spec (ws := (wq yMem_mayCarryOut cMem_mayCarryOut 2 (some .boolean))) B.pre
  have hown : s.vm.findClass RMem = some m.cls := findClass_of_methodNamed B.named
  have hlocks := B.notSynchronized
  have hg : ∀ w ∈ lw_g, w.before _ s = true := fun w h => hts w (List.mem_cons_of_mem _ h)
  have hl := lv_entry ([.ref h1, .int a1]) (n := 2) (Nat.le_of_ble_eq_true rfl)
  rw [lg_entry_eq]
  generalize (lg_sl ([.ref h1, .int a1]) ++ List.replicate (2 - (lg_sl ([.ref h1, .int a1])).length) Slot.unset).toArray = ls at hl ⊢
  have hl : lv_has ls 2 [(0, .ref h1), (1, .int a1)] := hl
  refine lv_iconst (v := 1) hx hb dMem_mayCarryOut_0 (by decide) ?_
  refine lv_iload_n hx hb dMem_mayCarryOut_1 rfl (lv_at hl 1 rfl) ?_
  refine mk_callR (va_runS (As := [.int 1, .int a1]) (rest := []) ⟨hx, hb, hml, hown, hts⟩ (hc_Memory_isMisaligned l s.heap 1 a1) (va_cwS 2 hts (mk_gS tw_128 tw_129 tw_47 tw_130) rfl rfl rfl hdMem_isMisaligned.2 ⟨Nat.le_of_ble_eq_true rfl, Nat.le_of_ble_eq_true rfl⟩) mk_preS rfl rfl hl.1 rfl (lv_room (Nat.le_of_ble_eq_true rfl)) dMem_mayCarryOut_2 ⟨Nat.zero_le _, Nat.zero_le _⟩) ?_
  refine lv_if_ne (tgt := 21) hx hb dMem_mayCarryOut_5 (by decide) (fun c_1 => ?_) (fun c_1 => ?_)
  · refine lv_iconst (v := 0) hx hb dMem_mayCarryOut_21 (by decide) ?_
    exact W.zret hx hb hr rfl (fun t ht hW => ⟨⟨_, (), rfl, (by unfold hf_Memory_mayCarryOut; rw [if_neg c_1]), ht⟩, mk_F ht⟩) (fun q h => nomatch h) dMem_mayCarryOut_22
  · refine lv_aload_n hx hb dMem_mayCarryOut_8 rfl (lv_at hl 0 rfl) ?_
    refine lv_iconst (v := 4) hx hb dMem_mayCarryOut_9 (by decide) ?_
    refine lv_iload_n hx hb dMem_mayCarryOut_10 rfl (lv_at hl 1 rfl) ?_
    refine mk_callR (va_runV (As := [.int 4, .int a1]) (rest := []) ⟨hx, hb, hml, hown, hts⟩ (hc_Memory_allows l hP 4 a1) (cwV 2 hts (mk_gV tw_131 tw_132 tw_133 tw_47 tw_134) rfl rfl rfl hdMem_allows ⟨Nat.le_of_ble_eq_true rfl, Nat.le_of_ble_eq_true rfl⟩) (mk_preVK hK (va_recv hK hP (ci := 1) (q0 := 1) rfl rfl)) rfl rfl hl.1 rfl (lv_room (Nat.le_of_ble_eq_true rfl)) dMem_mayCarryOut_11 ⟨Nat.zero_le _, Nat.zero_le _⟩) ?_
    refine lv_if_eq (tgt := 21) hx hb dMem_mayCarryOut_14 (by decide) (fun c_2 => ?_) (fun c_2 => ?_)
    · refine lv_iconst (v := 0) hx hb dMem_mayCarryOut_21 (by decide) ?_
      exact W.zret hx hb hr rfl (fun t ht hW => ⟨⟨_, (), rfl, (by unfold hf_Memory_mayCarryOut; rw [if_pos c_1, if_pos c_2]), ht⟩, mk_F ht⟩) (fun q h => nomatch h) dMem_mayCarryOut_22
    · refine lv_iconst (v := 1) hx hb dMem_mayCarryOut_17 (by decide) ?_
      refine lv_goto (tgt := 22) hx hb dMem_mayCarryOut_18 (by decide) ?_
      exact W.zret hx hb hr rfl (fun t ht hW => ⟨⟨_, (), rfl, (by unfold hf_Memory_mayCarryOut; rw [if_pos c_1, if_neg c_2]), ht⟩, mk_F ht⟩) (fun q h => nomatch h) dMem_mayCarryOut_22
set_option maxHeartbeats 4000000 in
set_option maxRecDepth 100000 in
theorem hc_RiscHart_trap (l : Launch) {D : va_G} {cR cW cP : ClassId} {h0 h1 h2 h3 h4 : Nat} {A : Nat → Prop} {st : HS} {G : Heap} (hP : va_P D hcl (hs_W cR cW cP h0 h1 h2 h3 h4 st) G) (hD : ∀ z, va_D A (hs_W cR cW cP h0 h1 h2 h3 h4 z)) (a1 : Int32) (a2 : Int32)  : Met l yHart_trap (wq yHart_trap cHart_trap 3 (some .int)) ({ frames := 0, cells := 0, slots := 0, locals := 0 }) (mk_PK D hcl [(cR, .int), (cW, .int), (cP, .int)] G [.ref h0, .int a1, .int a2]) (mk_Wi (fun u t => va_P D hcl (hs_W cR cW cP h0 h1 h2 h3 h4 u) t) A (hf_RiscHart_trap st a1 a2)) 0 0 A := by
  refine Met.ofW (cc := cHart_trap) (maxL := 3) (ret := (some .int)) (by decide) rfl ?_
  intro p e s m args below meth c s₁ B hml hv
  obtain ⟨rfl, hG, hK⟩ := hv
  subst hG
  have hx := B.exec
  have hb := B.bytes
  have hr := B.returns
  have hts := atoms_spec (ws := (wq yHart_trap cHart_trap 3 (some .int))) B.pre
  have hown : s.vm.findClass RHart = some m.cls := findClass_of_methodNamed B.named
  have hlocks := B.notSynchronized
  have hg : ∀ w ∈ lw_g, w.before _ s = true := fun w h => hts w (List.mem_cons_of_mem _ h)
  have hS : va_S A s.heap s.heap [] := va_S.rf
  have hl := lv_entry ([.ref h0, .int a1, .int a2]) (n := 3) (Nat.le_of_ble_eq_true rfl)
  rw [lg_entry_eq]
  generalize (lg_sl ([.ref h0, .int a1, .int a2]) ++ List.replicate (3 - (lg_sl ([.ref h0, .int a1, .int a2])).length) Slot.unset).toArray = ls at hl ⊢
  have hl : lv_has ls 3 [(0, .ref h0), (1, .int a1), (2, .int a2)] := hl
  refine lv_aload_n hx hb dHart_trap_0 rfl (lv_at hl 0 rfl) ?_
  refine lv_iload_n hx hb dHart_trap_1 rfl (lv_at hl 1 rfl) ?_
  refine va_put (D := D) (ci := 0) (v := .int a1) (ty := .int) (C := RHart) (T := THart) (N := 8) hx hb hg inHart tyHart tyHart_ok nmHart hown hK hP (hD _) hS 0 rfl rfl 4 (by decide) (hg _ tw_87) (fun _ h9 => h9) rfl (by decide +kernel) rfl rfl (Nat.le_of_ble_eq_true rfl) dHart_trap_2 (fun H locs hP _ hS => ?_)
  have hP : va_P D hcl (hs_W cR cW cP h0 h1 h2 h3 h4 (hs_set_cause st a1)) H := hP
  refine lv_aload_n hx hb dHart_trap_5 rfl (lv_at hl 0 rfl) ?_
  refine lv_iload_n hx hb dHart_trap_6 rfl (lv_at hl 2 rfl) ?_
  refine va_put (D := D) (ci := 0) (v := .int a2) (ty := .int) (C := RHart) (T := THart) (N := 8) hx hb hg inHart tyHart tyHart_ok nmHart hown hK hP (hD _) hS 0 rfl rfl 5 (by decide) (hg _ tw_88) (fun _ h9 => h9) rfl (by decide +kernel) rfl rfl (Nat.le_of_ble_eq_true rfl) dHart_trap_7 (fun H locs hP _ hS => ?_)
  have hP : va_P D hcl (hs_W cR cW cP h0 h1 h2 h3 h4 (hs_set_value (hs_set_cause st a1) a2)) H := hP
  refine lv_iload_n hx hb dHart_trap_10 rfl (lv_at hl 1 rfl) ?_
  exact W.iret hx hb hr (fun t ht hW => ⟨⟨_, (hs_set_value (hs_set_cause st a1) a2), rfl, rfl, by show va_P D hcl _ t.heap; rw [ht]; exact hP⟩, hS.F ht⟩) hS.2.2 dHart_trap_11
set_option maxHeartbeats 4000000 in
set_option maxRecDepth 100000 in
theorem hc_RiscHart_longFrom (l : Launch) {D : va_G} {cR cW cP : ClassId} {h0 h1 h2 h3 h4 : Nat} {st : HS} {G : Heap} (hP : va_P D hcl (hs_W cR cW cP h0 h1 h2 h3 h4 st) G) (a1 : Int32)  : Met l yHart_longFrom (wq yHart_longFrom cHart_longFrom 2 (some .int)) ({ frames := 2, cells := 0, slots := 0, locals := 44 }) (mk_PK D hcl [(cR, .int), (cW, .int), (cP, .int)] G [.ref h0, .int a1]) (mk_Qi G (hf_RiscHart_longFrom st a1)) 0 0 (fun _ => False) := by
  refine Met.ofW (cc := cHart_longFrom) (maxL := 2) (ret := (some .int)) (by decide) rfl ?_
  intro p e s m args below meth c s₁ B hml hv
  obtain ⟨rfl, hG, hK⟩ := hv
  subst hG
  have hx := B.exec
  have hb := B.bytes
  have hr := B.returns
  have hts := atoms_spec (ws := (wq yHart_longFrom cHart_longFrom 2 (some .int))) B.pre
  have hown : s.vm.findClass RHart = some m.cls := findClass_of_methodNamed B.named
  have hlocks := B.notSynchronized
  have hg : ∀ w ∈ lw_g, w.before _ s = true := fun w h => hts w (List.mem_cons_of_mem _ h)
  have hl := lv_entry ([.ref h0, .int a1]) (n := 2) (Nat.le_of_ble_eq_true rfl)
  rw [lg_entry_eq]
  generalize (lg_sl ([.ref h0, .int a1]) ++ List.replicate (2 - (lg_sl ([.ref h0, .int a1])).length) Slot.unset).toArray = ls at hl ⊢
  have hl : lv_has ls 2 [(0, .ref h0), (1, .int a1)] := hl
  refine lv_aload_n hx hb dHart_longFrom_0 rfl (lv_at hl 0 rfl) ?_
  refine va_get (D := D) (ci := 0) (v := .ref h1) (C := RHart) (T := THart) (N := 8) hx hb hg inHart hown hK hP 0 rfl rfl 0 (by decide) (hg _ tw_83) (fun _ h9 => h9) rfl dHart_longFrom_1 ?_
  refine lv_iconst (v := 5) hx hb dHart_longFrom_4 (by decide) ?_
  refine lv_aload_n hx hb dHart_longFrom_5 rfl (lv_at hl 0 rfl) ?_
  refine va_get (D := D) (ci := 0) (v := .int (hs_place st)) (C := RHart) (T := THart) (N := 8) hx hb hg inHart hown hK hP 0 rfl rfl 2 (by decide) (hg _ tw_85) (fun _ h9 => h9) rfl dHart_longFrom_6 ?_
  refine lv_iconst (v := 2) hx hb dHart_longFrom_9 (by decide) ?_
  refine lv_iadd hx hb dHart_longFrom_10 ?_
  refine mk_callR (va_runV (As := [.int 5, .int ((hs_place st) + 2)]) (rest := []) ⟨hx, hb, hml, hown, hts⟩ (hc_Memory_read l hP 5 ((hs_place st) + 2)) (cwV 2 hts (mk_gV tw_143 tw_144 tw_145 tw_47 tw_146) rfl rfl rfl hdMem_read ⟨Nat.le_of_ble_eq_true rfl, Nat.le_of_ble_eq_true rfl⟩) (mk_preVK hK (va_recv hK hP (ci := 1) (q0 := 1) rfl rfl)) rfl rfl hl.1 rfl (lv_room (Nat.le_of_ble_eq_true rfl)) dHart_longFrom_11 ⟨Nat.zero_le _, Nat.zero_le _⟩) ?_
  refine lv_bipush (v := 16) hx hb dHart_longFrom_14 (by decide) ?_
  refine lv_ishl hx hb dHart_longFrom_16 ?_
  refine lv_iload_n hx hb dHart_longFrom_17 rfl (lv_at hl 1 rfl) ?_
  refine lv_ior hx hb dHart_longFrom_18 ?_
  exact W.iret hx hb hr (fun t ht hW => ⟨⟨_, (), rfl, rfl, ht⟩, mk_F ht⟩) (fun q h => nomatch h) dHart_longFrom_19
set_option maxHeartbeats 4000000 in
set_option maxRecDepth 100000 in
theorem hc_RiscHart_linkAndJump (l : Launch) {D : va_G} {cR cW cP : ClassId} {h0 h1 h2 h3 h4 : Nat} {A : Nat → Prop} {st : HS} {G : Heap} (hP : va_P D hcl (hs_W cR cW cP h0 h1 h2 h3 h4 st) G) (hD : ∀ z, va_D A (hs_W cR cW cP h0 h1 h2 h3 h4 z)) (a1 : Int32) (a2 : Int32) (hq1 : vp_in a1 32) : Met l yHart_linkAndJump (wq yHart_linkAndJump cHart_linkAndJump 4 (some .int)) ({ frames := 1, cells := 0, slots := 0, locals := 22 }) (mk_PK D hcl [(cR, .int), (cW, .int), (cP, .int)] G [.ref h0, .int a1, .int a2]) (mk_Wi (fun u t => va_P D hcl (hs_W cR cW cP h0 h1 h2 h3 h4 u) t) A (hf_RiscHart_linkAndJump st a1 a2)) 0 0 A := by
  refine Met.ofW (cc := cHart_linkAndJump) (maxL := 4) (ret := (some .int)) (by decide) rfl ?_
  intro p e s m args below meth c s₁ B hml hv
  obtain ⟨rfl, hG, hK⟩ := hv
  subst hG
  have hx := B.exec
  have hb := B.bytes
  have hr := B.returns
  have hts := atoms_spec (ws := (wq yHart_linkAndJump cHart_linkAndJump 4 (some .int))) B.pre
  have hown : s.vm.findClass RHart = some m.cls := findClass_of_methodNamed B.named
  have hlocks := B.notSynchronized
  have hg : ∀ w ∈ lw_g, w.before _ s = true := fun w h => hts w (List.mem_cons_of_mem _ h)
  have hS : va_S A s.heap s.heap [] := va_S.rf
  have hl := lv_entry ([.ref h0, .int a1, .int a2]) (n := 4) (Nat.le_of_ble_eq_true rfl)
  rw [lg_entry_eq]
  generalize (lg_sl ([.ref h0, .int a1, .int a2]) ++ List.replicate (4 - (lg_sl ([.ref h0, .int a1, .int a2])).length) Slot.unset).toArray = ls at hl ⊢
  have hl : lv_has ls 4 [(0, .ref h0), (1, .int a1), (2, .int a2)] := hl
  refine lv_aload_n hx hb dHart_linkAndJump_0 rfl (lv_at hl 0 rfl) ?_
  refine va_get (D := D) (ci := 0) (v := .int (hs_behind st)) (C := RHart) (T := THart) (N := 8) hx hb hg inHart hown hK hP 0 rfl rfl 3 (by decide) (hg _ tw_86) (fun _ h9 => h9) rfl dHart_linkAndJump_1 ?_
  refine lv_istore_n (lv' := [(3, .int (hs_behind st)), (0, .ref h0), (1, .int a1), (2, .int a2)]) hx hb dHart_linkAndJump_4 rfl hl (by decide) rfl (fun ls hl => ?_)
  refine lv_aload_n hx hb dHart_linkAndJump_5 rfl (lv_at hl 1 rfl) ?_
  refine lv_iload_n hx hb dHart_linkAndJump_6 rfl (lv_at hl 3 rfl) ?_
  refine lv_bipush (v := (-2)) hx hb dHart_linkAndJump_7 (by decide) ?_
  refine lv_iand hx hb dHart_linkAndJump_9 ?_
  refine va_put (D := D) (ci := 0) (v := .int (a2 &&& (-2))) (ty := .int) (C := RHart) (T := THart) (N := 8) hx hb hg inHart tyHart tyHart_ok nmHart hown hK hP (hD _) hS 0 rfl rfl 3 (by decide) (hg _ tw_86) (fun _ h9 => h9) rfl (by decide +kernel) rfl rfl (Nat.le_of_ble_eq_true rfl) dHart_linkAndJump_10 (fun H locs hP _ hS => ?_)
  have hP : va_P D hcl (hs_W cR cW cP h0 h1 h2 h3 h4 (hs_set_behind st (a2 &&& (-2)))) H := hP
  refine lv_aload_n hx hb dHart_linkAndJump_13 rfl (lv_at hl 1 rfl) ?_
  refine lv_iload_n hx hb dHart_linkAndJump_14 rfl (lv_at hl 2 rfl) ?_
  refine lv_iload_n hx hb dHart_linkAndJump_15 rfl (lv_at hl 0 rfl) ?_
  refine mk_callW (va_runV (As := [.int a1, .int (hs_behind st)]) (rest := []) ⟨hx, hb, hml, hown, hts⟩ (hc_RiscHart_give l hP hD a1 (hs_behind st) hq1) (cwV 2 hts (mk_gV tw_170 tw_172 tw_4 tw_46 tw_173) rfl rfl rfl hdHart_give ⟨Nat.le_of_ble_eq_true rfl, Nat.le_of_ble_eq_true rfl⟩) (mk_preVK hK (va_recv hK hP (ci := 0) (q0 := 0) rfl rfl)) rfl rfl hl.1 rfl (lv_room (Nat.le_of_ble_eq_true rfl)) dHart_linkAndJump_16 ⟨Nat.zero_le _, Nat.zero_le _⟩) hS (fun H locs hP hS => ?_)
  exact W.iret hx hb hr (fun t ht hW => ⟨⟨_, (hf_RiscHart_give (hs_set_behind st (a2 &&& (-2))) a1 (hs_behind st)).2, rfl, rfl, by show va_P D hcl _ t.heap; rw [ht]; exact hP⟩, hS.F ht⟩) hS.2.2 dHart_linkAndJump_19
set_option maxHeartbeats 4000000 in
set_option maxRecDepth 100000 in
theorem hc_RiscHart_longJumpToRegister (l : Launch) {D : va_G} {cR cW cP : ClassId} {h0 h1 h2 h3 h4 : Nat} {A : Nat → Prop} {st : HS} {G : Heap} (hP : va_P D hcl (hs_W cR cW cP h0 h1 h2 h3 h4 st) G) (hD : ∀ z, va_D A (hs_W cR cW cP h0 h1 h2 h3 h4 z)) (a1 : Int32)  : Met l yHart_longJumpToRegister (wq yHart_longJumpToRegister cHart_longJumpToRegister 2 (some .int)) ({ frames := 2, cells := 0, slots := 0, locals := 45 }) (mk_PK D hcl [(cR, .int), (cW, .int), (cP, .int)] G [.ref h0, .int a1]) (mk_Wi (fun u t => va_P D hcl (hs_W cR cW cP h0 h1 h2 h3 h4 u) t) A (hf_RiscHart_longJumpToRegister st a1)) 0 0 A := by
  refine Met.ofW (cc := cHart_longJumpToRegister) (maxL := 2) (ret := (some .int)) (by decide) rfl ?_
  intro p e s m args below meth c s₁ B hml hv
  obtain ⟨rfl, hG, hK⟩ := hv
  subst hG
  have hx := B.exec
  have hb := B.bytes
  have hr := B.returns
  have hts := atoms_spec (ws := (wq yHart_longJumpToRegister cHart_longJumpToRegister 2 (some .int))) B.pre
  have hown : s.vm.findClass RHart = some m.cls := findClass_of_methodNamed B.named
  have hlocks := B.notSynchronized
  have hg : ∀ w ∈ lw_g, w.before _ s = true := fun w h => hts w (List.mem_cons_of_mem _ h)
  have hS : va_S A s.heap s.heap [] := va_S.rf
  have hl := lv_entry ([.ref h0, .int a1]) (n := 2) (Nat.le_of_ble_eq_true rfl)
  rw [lg_entry_eq]
  generalize (lg_sl ([.ref h0, .int a1]) ++ List.replicate (2 - (lg_sl ([.ref h0, .int a1])).length) Slot.unset).toArray = ls at hl ⊢
  have hl : lv_has ls 2 [(0, .ref h0), (1, .int a1)] := hl
  refine lv_iload_n hx hb dHart_longJumpToRegister_0 rfl (lv_at hl 1 rfl) ?_
  refine mk_callR (va_runS (As := [.int a1]) (rest := []) ⟨hx, hb, hml, hown, hts⟩ (hc_LongForm_f l _ a1) (va_cwS 1 hts (mk_gS tw_188 tw_189 tw_54 tw_190) rfl rfl rfl hdLF_f.2 ⟨Nat.le_of_ble_eq_true rfl, Nat.le_of_ble_eq_true rfl⟩) mk_preS rfl rfl hl.1 rfl (lv_room (Nat.le_of_ble_eq_true rfl)) dHart_longJumpToRegister_1 ⟨Nat.zero_le _, Nat.zero_le _⟩) ?_
  refine lv_if_eq (tgt := 14) hx hb dHart_longJumpToRegister_4 (by decide) (fun c_1 => ?_) (fun c_1 => ?_)
  · refine lv_aload_n hx hb dHart_longJumpToRegister_14 rfl (lv_at hl 0 rfl) ?_
    refine lv_iload_n hx hb dHart_longJumpToRegister_15 rfl (lv_at hl 1 rfl) ?_
    refine mk_callR (va_runS (As := [.int a1]) (rest := [.ref h0]) ⟨hx, hb, hml, hown, hts⟩ (hc_LongForm_d l _ a1) (va_cwS 1 hts (mk_gS tw_161 tw_162 tw_54 tw_163) rfl rfl rfl hdLF_d.2 ⟨Nat.le_of_ble_eq_true rfl, Nat.le_of_ble_eq_true rfl⟩) mk_preS rfl rfl hl.1 rfl (lv_room (Nat.le_of_ble_eq_true rfl)) dHart_longJumpToRegister_16 ⟨Nat.zero_le _, Nat.zero_le _⟩) ?_
    refine lv_aload_n hx hb dHart_longJumpToRegister_19 rfl (lv_at hl 0 rfl) ?_
    refine va_get (D := D) (ci := 0) (v := .ref h2) (C := RHart) (T := THart) (N := 8) hx hb hg inHart hown hK hP 0 rfl rfl 1 (by decide) (hg _ tw_84) (fun _ h9 => h9) rfl dHart_longJumpToRegister_20 ?_
    refine lv_iload_n hx hb dHart_longJumpToRegister_23 rfl (lv_at hl 1 rfl) ?_
    refine mk_callR (va_runS (As := [.int a1]) (rest := [.ref h2, .int (hf_LongForm_d a1), .ref h0]) ⟨hx, hb, hml, hown, hts⟩ (hc_LongForm_a l _ a1) (va_cwS 1 hts (mk_gS tw_191 tw_192 tw_54 tw_193) rfl rfl rfl hdLF_a.2 ⟨Nat.le_of_ble_eq_true rfl, Nat.le_of_ble_eq_true rfl⟩) mk_preS rfl rfl hl.1 rfl (lv_room (Nat.le_of_ble_eq_true rfl)) dHart_longJumpToRegister_24 ⟨Nat.zero_le _, Nat.zero_le _⟩) ?_
    refine va_iald (D := D) hx hb hK hP 2 0 rfl rfl (in_LongForm_a _) dHart_longJumpToRegister_27 ?_
    refine lv_iload_n hx hb dHart_longJumpToRegister_28 rfl (lv_at hl 1 rfl) ?_
    refine mk_callR (va_runS (As := [.int a1]) (rest := [.int (hs_regs st ((hf_LongForm_a a1)).toNatClampNeg), .int (hf_LongForm_d a1), .ref h0]) ⟨hx, hb, hml, hown, hts⟩ (hc_LongForm_numberI l _ a1) (va_cwS 1 hts (mk_gS tw_194 tw_195 tw_54 tw_196) rfl rfl rfl hdLF_numberI.2 ⟨Nat.le_of_ble_eq_true rfl, Nat.le_of_ble_eq_true rfl⟩) mk_preS rfl rfl hl.1 rfl (lv_room (Nat.le_of_ble_eq_true rfl)) dHart_longJumpToRegister_29 ⟨Nat.zero_le _, Nat.zero_le _⟩) ?_
    refine lv_iadd hx hb dHart_longJumpToRegister_32 ?_
    refine mk_callW (va_runV (As := [.int (hf_LongForm_d a1), .int ((hs_regs st ((hf_LongForm_a a1)).toNatClampNeg) + (hf_LongForm_numberI a1))]) (rest := []) ⟨hx, hb, hml, hown, hts⟩ (hc_RiscHart_linkAndJump l hP hD (hf_LongForm_d a1) ((hs_regs st ((hf_LongForm_a a1)).toNatClampNeg) + (hf_LongForm_numberI a1)) (in_LongForm_d _)) (cwV 2 hts (mk_gV tw_180 tw_182 tw_5 tw_46 tw_183) rfl rfl rfl hdHart_linkAndJump ⟨Nat.le_of_ble_eq_true rfl, Nat.le_of_ble_eq_true rfl⟩) (mk_preVK hK (va_recv hK hP (ci := 0) (q0 := 0) rfl rfl)) rfl rfl hl.1 rfl (lv_room (Nat.le_of_ble_eq_true rfl)) dHart_longJumpToRegister_33 ⟨Nat.zero_le _, Nat.zero_le _⟩) hS (fun H locs hP hS => ?_)
    exact W.iret hx hb hr (fun t ht hW => ⟨⟨_, (hf_RiscHart_linkAndJump st (hf_LongForm_d a1) ((hs_regs st ((hf_LongForm_a a1)).toNatClampNeg) + (hf_LongForm_numberI a1))).2, rfl, (by unfold hf_RiscHart_longJumpToRegister; rw [if_pos c_1]), by show va_P D hcl _ t.heap; rw [ht]; exact hP⟩, hS.F ht⟩) hS.2.2 dHart_longJumpToRegister_36
  · refine lv_aload_n hx hb dHart_longJumpToRegister_7 rfl (lv_at hl 0 rfl) ?_
    refine lv_iconst (v := 2) hx hb dHart_longJumpToRegister_8 (by decide) ?_
    refine lv_iload_n hx hb dHart_longJumpToRegister_9 rfl (lv_at hl 1 rfl) ?_
    refine mk_callW (va_runV (As := [.int 2, .int a1]) (rest := []) ⟨hx, hb, hml, hown, hts⟩ (hc_RiscHart_trap l hP hD 2 a1) (cwV 2 hts (mk_gV tw_139 tw_141 tw_1 tw_46 tw_142) rfl rfl rfl hdHart_trap ⟨Nat.le_of_ble_eq_true rfl, Nat.le_of_ble_eq_true rfl⟩) (mk_preVK hK (va_recv hK hP (ci := 0) (q0 := 0) rfl rfl)) rfl rfl hl.1 rfl (lv_room (Nat.le_of_ble_eq_true rfl)) dHart_longJumpToRegister_10 ⟨Nat.zero_le _, Nat.zero_le _⟩) hS (fun H locs hP hS => ?_)
    exact W.iret hx hb hr (fun t ht hW => ⟨⟨_, (hf_RiscHart_trap st 2 a1).2, rfl, (by unfold hf_RiscHart_longJumpToRegister; rw [if_neg c_1]), by show va_P D hcl _ t.heap; rw [ht]; exact hP⟩, hS.F ht⟩) hS.2.2 dHart_longJumpToRegister_13
set_option maxHeartbeats 4000000 in
set_option maxRecDepth 100000 in
theorem hc_RiscHart_jumpIf (l : Launch) {D : va_G} {cR cW cP : ClassId} {h0 h1 h2 h3 h4 : Nat} {A : Nat → Prop} {st : HS} {G : Heap} (hP : va_P D hcl (hs_W cR cW cP h0 h1 h2 h3 h4 st) G) (hD : ∀ z, va_D A (hs_W cR cW cP h0 h1 h2 h3 h4 z)) (a1 : Int32) (a2 : Int32)  : Met l yHart_jumpIf (wq yHart_jumpIf cHart_jumpIf 3 (some .int)) ({ frames := 2, cells := 0, slots := 0, locals := 45 }) (mk_PK D hcl [(cR, .int), (cW, .int), (cP, .int)] G [.ref h0, .int a1, .int a2]) (mk_Wi (fun u t => va_P D hcl (hs_W cR cW cP h0 h1 h2 h3 h4 u) t) A (hf_RiscHart_jumpIf st a1 a2)) 0 0 A := by
  refine Met.ofW (cc := cHart_jumpIf) (maxL := 3) (ret := (some .int)) (by decide) rfl ?_
  intro p e s m args below meth c s₁ B hml hv
  obtain ⟨rfl, hG, hK⟩ := hv
  subst hG
  have hx := B.exec
  have hb := B.bytes
  have hr := B.returns
  have hts := atoms_spec (ws := (wq yHart_jumpIf cHart_jumpIf 3 (some .int))) B.pre
  have hown : s.vm.findClass RHart = some m.cls := findClass_of_methodNamed B.named
  have hlocks := B.notSynchronized
  have hg : ∀ w ∈ lw_g, w.before _ s = true := fun w h => hts w (List.mem_cons_of_mem _ h)
  have hS : va_S A s.heap s.heap [] := va_S.rf
  have hl := lv_entry ([.ref h0, .int a1, .int a2]) (n := 3) (Nat.le_of_ble_eq_true rfl)
  rw [lg_entry_eq]
  generalize (lg_sl ([.ref h0, .int a1, .int a2]) ++ List.replicate (3 - (lg_sl ([.ref h0, .int a1, .int a2])).length) Slot.unset).toArray = ls at hl ⊢
  have hl : lv_has ls 3 [(0, .ref h0), (1, .int a1), (2, .int a2)] := hl
  refine lv_iload_n hx hb dHart_jumpIf_0 rfl (lv_at hl 1 rfl) ?_
  refine lv_if_eq (tgt := 13) hx hb dHart_jumpIf_1 (by decide) (fun c_1 => ?_) (fun c_1 => ?_)
  · refine lv_iconst (v := 0) hx hb dHart_jumpIf_13 (by decide) ?_
    exact W.iret hx hb hr (fun t ht hW => ⟨⟨_, st, rfl, (by unfold hf_RiscHart_jumpIf; rw [if_pos c_1]), by show va_P D hcl _ t.heap; rw [ht]; exact hP⟩, hS.F ht⟩) hS.2.2 dHart_jumpIf_14
  · refine lv_aload_n hx hb dHart_jumpIf_4 rfl (lv_at hl 0 rfl) ?_
    refine lv_iconst (v := 0) hx hb dHart_jumpIf_5 (by decide) ?_
    refine lv_iload_n hx hb dHart_jumpIf_6 rfl (lv_at hl 2 rfl) ?_
    refine mk_callW (va_runV (As := [.int 0, .int a2]) (rest := []) ⟨hx, hb, hml, hown, hts⟩ (hc_RiscHart_linkAndJump l hP hD 0 a2 (in_k (by decide))) (cwV 2 hts (mk_gV tw_180 tw_182 tw_5 tw_46 tw_183) rfl rfl rfl hdHart_linkAndJump ⟨Nat.le_of_ble_eq_true rfl, Nat.le_of_ble_eq_true rfl⟩) (mk_preVK hK (va_recv hK hP (ci := 0) (q0 := 0) rfl rfl)) rfl rfl hl.1 rfl (lv_room (Nat.le_of_ble_eq_true rfl)) dHart_jumpIf_7 ⟨Nat.zero_le _, Nat.zero_le _⟩) hS (fun H locs hP hS => ?_)
    refine lv_goto (tgt := 14) hx hb dHart_jumpIf_10 (by decide) ?_
    exact W.iret hx hb hr (fun t ht hW => ⟨⟨_, (hf_RiscHart_linkAndJump st 0 a2).2, rfl, (by unfold hf_RiscHart_jumpIf; rw [if_neg c_1]), by show va_P D hcl _ t.heap; rw [ht]; exact hP⟩, hS.F ht⟩) hS.2.2 dHart_jumpIf_14
set_option maxHeartbeats 4000000 in
set_option maxRecDepth 100000 in
theorem hc_RiscHart_longBranch (l : Launch) {D : va_G} {cR cW cP : ClassId} {h0 h1 h2 h3 h4 : Nat} {A : Nat → Prop} {st : HS} {G : Heap} (hP : va_P D hcl (hs_W cR cW cP h0 h1 h2 h3 h4 st) G) (hD : ∀ z, va_D A (hs_W cR cW cP h0 h1 h2 h3 h4 z)) (a1 : Int32)  : Met l yHart_longBranch (wq yHart_longBranch cHart_longBranch 5 (some .int)) ({ frames := 3, cells := 0, slots := 0, locals := 67 }) (mk_PK D hcl [(cR, .int), (cW, .int), (cP, .int)] G [.ref h0, .int a1]) (mk_Wi (fun u t => va_P D hcl (hs_W cR cW cP h0 h1 h2 h3 h4 u) t) A (hf_RiscHart_longBranch st a1)) 0 0 A := by
  refine Met.ofW (cc := cHart_longBranch) (maxL := 5) (ret := (some .int)) (by decide) rfl ?_
  intro p e s m args below meth c s₁ B hml hv
  obtain ⟨rfl, hG, hK⟩ := hv
  subst hG
  have hx := B.exec
  have hb := B.bytes
  have hr := B.returns
  have hts := atoms_spec (ws := (wq yHart_longBranch cHart_longBranch 5 (some .int))) B.pre
  have hown : s.vm.findClass RHart = some m.cls := findClass_of_methodNamed B.named
  have hlocks := B.notSynchronized
  have hg : ∀ w ∈ lw_g, w.before _ s = true := fun w h => hts w (List.mem_cons_of_mem _ h)
  have hS : va_S A s.heap s.heap [] := va_S.rf
  have hl := lv_entry ([.ref h0, .int a1]) (n := 5) (Nat.le_of_ble_eq_true rfl)
  rw [lg_entry_eq]
  generalize (lg_sl ([.ref h0, .int a1]) ++ List.replicate (5 - (lg_sl ([.ref h0, .int a1])).length) Slot.unset).toArray = ls at hl ⊢
  have hl : lv_has ls 5 [(0, .ref h0), (1, .int a1)] := hl
  refine lv_aload_n hx hb dHart_longBranch_0 rfl (lv_at hl 0 rfl) ?_
  refine va_get (D := D) (ci := 0) (v := .ref h2) (C := RHart) (T := THart) (N := 8) hx hb hg inHart hown hK hP 0 rfl rfl 1 (by decide) (hg _ tw_84) (fun _ h9 => h9) rfl dHart_longBranch_1 ?_
  refine lv_iload_n hx hb dHart_longBranch_4 rfl (lv_at hl 1 rfl) ?_
  refine mk_callR (va_runS (As := [.int a1]) (rest := [.ref h2]) ⟨hx, hb, hml, hown, hts⟩ (hc_LongForm_a l _ a1) (va_cwS 1 hts (mk_gS tw_191 tw_192 tw_54 tw_193) rfl rfl rfl hdLF_a.2 ⟨Nat.le_of_ble_eq_true rfl, Nat.le_of_ble_eq_true rfl⟩) mk_preS rfl rfl hl.1 rfl (lv_room (Nat.le_of_ble_eq_true rfl)) dHart_longBranch_5 ⟨Nat.zero_le _, Nat.zero_le _⟩) ?_
  refine va_iald (D := D) hx hb hK hP 2 0 rfl rfl (in_LongForm_a _) dHart_longBranch_8 ?_
  refine lv_istore_n (lv' := [(2, .int (hs_regs st ((hf_LongForm_a a1)).toNatClampNeg)), (0, .ref h0), (1, .int a1)]) hx hb dHart_longBranch_9 rfl hl (by decide) rfl (fun ls hl => ?_)
  refine lv_aload_n hx hb dHart_longBranch_10 rfl (lv_at hl 1 rfl) ?_
  refine va_get (D := D) (ci := 0) (v := .ref h2) (C := RHart) (T := THart) (N := 8) hx hb hg inHart hown hK hP 0 rfl rfl 1 (by decide) (hg _ tw_84) (fun _ h9 => h9) rfl dHart_longBranch_11 ?_
  refine lv_iload_n hx hb dHart_longBranch_14 rfl (lv_at hl 2 rfl) ?_
  refine mk_callR (va_runS (As := [.int a1]) (rest := [.ref h2]) ⟨hx, hb, hml, hown, hts⟩ (hc_LongForm_b l _ a1) (va_cwS 1 hts (mk_gS tw_201 tw_202 tw_54 tw_203) rfl rfl rfl hdLF_b.2 ⟨Nat.le_of_ble_eq_true rfl, Nat.le_of_ble_eq_true rfl⟩) mk_preS rfl rfl hl.1 rfl (lv_room (Nat.le_of_ble_eq_true rfl)) dHart_longBranch_15 ⟨Nat.zero_le _, Nat.zero_le _⟩) ?_
  refine va_iald (D := D) hx hb hK hP 2 0 rfl rfl (in_LongForm_b _) dHart_longBranch_18 ?_
  refine lv_istore_n (lv' := [(3, .int (hs_regs st ((hf_LongForm_b a1)).toNatClampNeg)), (2, .int (hs_regs st ((hf_LongForm_a a1)).toNatClampNeg)), (0, .ref h0), (1, .int a1)]) hx hb dHart_longBranch_19 rfl hl (by decide) rfl (fun ls hl => ?_)
  refine lv_aload_n hx hb dHart_longBranch_20 rfl (lv_at hl 2 rfl) ?_
  refine va_get (D := D) (ci := 0) (v := .int (hs_place st)) (C := RHart) (T := THart) (N := 8) hx hb hg inHart hown hK hP 0 rfl rfl 2 (by decide) (hg _ tw_85) (fun _ h9 => h9) rfl dHart_longBranch_21 ?_
  refine lv_iload_n hx hb dHart_longBranch_24 rfl (lv_at hl 3 rfl) ?_
  refine mk_callR (va_runS (As := [.int a1]) (rest := [.int (hs_place st)]) ⟨hx, hb, hml, hown, hts⟩ (hc_LongForm_offsetT l _ a1) (va_cwS 1 hts (mk_gS tw_204 tw_205 tw_54 tw_206) rfl rfl rfl hdLF_offsetT.2 ⟨Nat.le_of_ble_eq_true rfl, Nat.le_of_ble_eq_true rfl⟩) mk_preS rfl rfl hl.1 rfl (lv_room (Nat.le_of_ble_eq_true rfl)) dHart_longBranch_25 ⟨Nat.zero_le _, Nat.zero_le _⟩) ?_
  refine lv_iadd hx hb dHart_longBranch_28 ?_
  refine lv_istore (lv' := [(4, .int ((hs_place st) + (hf_LongForm_offsetT a1))), (3, .int (hs_regs st ((hf_LongForm_b a1)).toNatClampNeg)), (2, .int (hs_regs st ((hf_LongForm_a a1)).toNatClampNeg)), (0, .ref h0), (1, .int a1)]) hx hb dHart_longBranch_29 hl (by decide) rfl (fun ls hl => ?_)
  refine lv_iload_n hx hb dHart_longBranch_31 rfl (lv_at hl 4 rfl) ?_
  refine mk_callR (va_runS (As := [.int a1]) (rest := []) ⟨hx, hb, hml, hown, hts⟩ (hc_LongForm_f l _ a1) (va_cwS 1 hts (mk_gS tw_188 tw_189 tw_54 tw_190) rfl rfl rfl hdLF_f.2 ⟨Nat.le_of_ble_eq_true rfl, Nat.le_of_ble_eq_true rfl⟩) mk_preS rfl rfl hl.1 rfl (lv_room (Nat.le_of_ble_eq_true rfl)) dHart_longBranch_32 ⟨Nat.zero_le _, Nat.zero_le _⟩) ?_
  by_cases c_1 : (hf_LongForm_f a1) = 0
  · refine lv_tableIn (tgt := 80) hx hb dHart_longBranch_35 (by rw [c_1]; decide) (by rw [c_1]; decide) (by rw [c_1]; rfl) (by decide) ?_
    refine lv_aload_n hx hb dHart_longBranch_80 rfl (lv_at hl 3 rfl) ?_
    refine lv_iload_n hx hb dHart_longBranch_81 rfl (lv_at hl 2 rfl) ?_
    refine lv_iload_n hx hb dHart_longBranch_82 rfl (lv_at hl 1 rfl) ?_
    refine lv_icmp_ne (tgt := 90) hx hb dHart_longBranch_83 (by decide) (fun c_2 => ?_) (fun c_2 => ?_)
    · refine lv_iconst (v := 0) hx hb dHart_longBranch_90 (by decide) ?_
      refine lv_iload hx hb dHart_longBranch_91 (lv_at hl 0 rfl) ?_
      refine mk_callW (va_runV (As := [.int 0, .int ((hs_place st) + (hf_LongForm_offsetT a1))]) (rest := []) ⟨hx, hb, hml, hown, hts⟩ (hc_RiscHart_jumpIf l hP hD 0 ((hs_place st) + (hf_LongForm_offsetT a1))) (cwV 2 hts (mk_gV tw_207 tw_209 tw_8 tw_46 tw_210) rfl rfl rfl hdHart_jumpIf ⟨Nat.le_of_ble_eq_true rfl, Nat.le_of_ble_eq_true rfl⟩) (mk_preVK hK (va_recv hK hP (ci := 0) (q0 := 0) rfl rfl)) rfl rfl hl.1 rfl (lv_room (Nat.le_of_ble_eq_true rfl)) dHart_longBranch_93 ⟨Nat.zero_le _, Nat.zero_le _⟩) hS (fun H locs hP hS => ?_)
      exact W.iret hx hb hr (fun t ht hW => ⟨⟨_, (hf_RiscHart_jumpIf st 0 ((hs_place st) + (hf_LongForm_offsetT a1))).2, rfl, (by unfold hf_RiscHart_longBranch; rw [if_pos c_1, if_neg c_2]), by show va_P D hcl _ t.heap; rw [ht]; exact hP⟩, hS.F ht⟩) hS.2.2 dHart_longBranch_96
    · refine lv_iconst (v := 1) hx hb dHart_longBranch_86 (by decide) ?_
      refine lv_goto (tgt := 91) hx hb dHart_longBranch_87 (by decide) ?_
      refine lv_iload hx hb dHart_longBranch_91 (lv_at hl 0 rfl) ?_
      refine mk_callW (va_runV (As := [.int 1, .int ((hs_place st) + (hf_LongForm_offsetT a1))]) (rest := []) ⟨hx, hb, hml, hown, hts⟩ (hc_RiscHart_jumpIf l hP hD 1 ((hs_place st) + (hf_LongForm_offsetT a1))) (cwV 2 hts (mk_gV tw_207 tw_209 tw_8 tw_46 tw_210) rfl rfl rfl hdHart_jumpIf ⟨Nat.le_of_ble_eq_true rfl, Nat.le_of_ble_eq_true rfl⟩) (mk_preVK hK (va_recv hK hP (ci := 0) (q0 := 0) rfl rfl)) rfl rfl hl.1 rfl (lv_room (Nat.le_of_ble_eq_true rfl)) dHart_longBranch_93 ⟨Nat.zero_le _, Nat.zero_le _⟩) hS (fun H locs hP hS => ?_)
      exact W.iret hx hb hr (fun t ht hW => ⟨⟨_, (hf_RiscHart_jumpIf st 1 ((hs_place st) + (hf_LongForm_offsetT a1))).2, rfl, (by unfold hf_RiscHart_longBranch; rw [if_pos c_1, if_pos c_2]), by show va_P D hcl _ t.heap; rw [ht]; exact hP⟩, hS.F ht⟩) hS.2.2 dHart_longBranch_96
  by_cases c_3 : (hf_LongForm_f a1) = 1
  · refine lv_tableIn (tgt := 97) hx hb dHart_longBranch_35 (by rw [c_3]; decide) (by rw [c_3]; decide) (by rw [c_3]; rfl) (by decide) ?_
    refine lv_aload_n hx hb dHart_longBranch_97 rfl (lv_at hl 3 rfl) ?_
    refine lv_iload_n hx hb dHart_longBranch_98 rfl (lv_at hl 2 rfl) ?_
    refine lv_iload_n hx hb dHart_longBranch_99 rfl (lv_at hl 1 rfl) ?_
    refine lv_icmp_eq (tgt := 107) hx hb dHart_longBranch_100 (by decide) (fun c_4 => ?_) (fun c_4 => ?_)
    · refine lv_iconst (v := 0) hx hb dHart_longBranch_107 (by decide) ?_
      refine lv_iload hx hb dHart_longBranch_108 (lv_at hl 0 rfl) ?_
      refine mk_callW (va_runV (As := [.int 0, .int ((hs_place st) + (hf_LongForm_offsetT a1))]) (rest := []) ⟨hx, hb, hml, hown, hts⟩ (hc_RiscHart_jumpIf l hP hD 0 ((hs_place st) + (hf_LongForm_offsetT a1))) (cwV 2 hts (mk_gV tw_207 tw_209 tw_8 tw_46 tw_210) rfl rfl rfl hdHart_jumpIf ⟨Nat.le_of_ble_eq_true rfl, Nat.le_of_ble_eq_true rfl⟩) (mk_preVK hK (va_recv hK hP (ci := 0) (q0 := 0) rfl rfl)) rfl rfl hl.1 rfl (lv_room (Nat.le_of_ble_eq_true rfl)) dHart_longBranch_110 ⟨Nat.zero_le _, Nat.zero_le _⟩) hS (fun H locs hP hS => ?_)
      exact W.iret hx hb hr (fun t ht hW => ⟨⟨_, (hf_RiscHart_jumpIf st 0 ((hs_place st) + (hf_LongForm_offsetT a1))).2, rfl, (by unfold hf_RiscHart_longBranch; rw [if_neg c_1, if_pos c_3, if_pos c_4]), by show va_P D hcl _ t.heap; rw [ht]; exact hP⟩, hS.F ht⟩) hS.2.2 dHart_longBranch_113
    · refine lv_iconst (v := 1) hx hb dHart_longBranch_103 (by decide) ?_
      refine lv_goto (tgt := 108) hx hb dHart_longBranch_104 (by decide) ?_
      refine lv_iload hx hb dHart_longBranch_108 (lv_at hl 0 rfl) ?_
      refine mk_callW (va_runV (As := [.int 1, .int ((hs_place st) + (hf_LongForm_offsetT a1))]) (rest := []) ⟨hx, hb, hml, hown, hts⟩ (hc_RiscHart_jumpIf l hP hD 1 ((hs_place st) + (hf_LongForm_offsetT a1))) (cwV 2 hts (mk_gV tw_207 tw_209 tw_8 tw_46 tw_210) rfl rfl rfl hdHart_jumpIf ⟨Nat.le_of_ble_eq_true rfl, Nat.le_of_ble_eq_true rfl⟩) (mk_preVK hK (va_recv hK hP (ci := 0) (q0 := 0) rfl rfl)) rfl rfl hl.1 rfl (lv_room (Nat.le_of_ble_eq_true rfl)) dHart_longBranch_110 ⟨Nat.zero_le _, Nat.zero_le _⟩) hS (fun H locs hP hS => ?_)
      exact W.iret hx hb hr (fun t ht hW => ⟨⟨_, (hf_RiscHart_jumpIf st 1 ((hs_place st) + (hf_LongForm_offsetT a1))).2, rfl, (by unfold hf_RiscHart_longBranch; rw [if_neg c_1, if_pos c_3, if_neg c_4]), by show va_P D hcl _ t.heap; rw [ht]; exact hP⟩, hS.F ht⟩) hS.2.2 dHart_longBranch_113
  by_cases c_5 : (hf_LongForm_f a1) = 2
  · refine lv_tableIn (tgt := 180) hx hb dHart_longBranch_35 (by rw [c_5]; decide) (by rw [c_5]; decide) (by rw [c_5]; rfl) (by decide) ?_
    refine lv_aload_n hx hb dHart_longBranch_180 rfl (lv_at hl 3 rfl) ?_
    refine lv_iconst (v := 2) hx hb dHart_longBranch_181 (by decide) ?_
    refine lv_iload_n hx hb dHart_longBranch_182 rfl (lv_at hl 4 rfl) ?_
    refine mk_callW (va_runV (As := [.int 2, .int a1]) (rest := []) ⟨hx, hb, hml, hown, hts⟩ (hc_RiscHart_trap l hP hD 2 a1) (cwV 2 hts (mk_gV tw_139 tw_141 tw_1 tw_46 tw_142) rfl rfl rfl hdHart_trap ⟨Nat.le_of_ble_eq_true rfl, Nat.le_of_ble_eq_true rfl⟩) (mk_preVK hK (va_recv hK hP (ci := 0) (q0 := 0) rfl rfl)) rfl rfl hl.1 rfl (lv_room (Nat.le_of_ble_eq_true rfl)) dHart_longBranch_183 ⟨Nat.zero_le _, Nat.zero_le _⟩) hS (fun H locs hP hS => ?_)
    exact W.iret hx hb hr (fun t ht hW => ⟨⟨_, (hf_RiscHart_trap st 2 a1).2, rfl, (by unfold hf_RiscHart_longBranch; rw [if_neg c_1, if_neg c_3, if_pos c_5]), by show va_P D hcl _ t.heap; rw [ht]; exact hP⟩, hS.F ht⟩) hS.2.2 dHart_longBranch_186
  by_cases c_6 : (hf_LongForm_f a1) = 3
  · refine lv_tableIn (tgt := 180) hx hb dHart_longBranch_35 (by rw [c_6]; decide) (by rw [c_6]; decide) (by rw [c_6]; rfl) (by decide) ?_
    refine lv_aload_n hx hb dHart_longBranch_180 rfl (lv_at hl 3 rfl) ?_
    refine lv_iconst (v := 2) hx hb dHart_longBranch_181 (by decide) ?_
    refine lv_iload_n hx hb dHart_longBranch_182 rfl (lv_at hl 4 rfl) ?_
    refine mk_callW (va_runV (As := [.int 2, .int a1]) (rest := []) ⟨hx, hb, hml, hown, hts⟩ (hc_RiscHart_trap l hP hD 2 a1) (cwV 2 hts (mk_gV tw_139 tw_141 tw_1 tw_46 tw_142) rfl rfl rfl hdHart_trap ⟨Nat.le_of_ble_eq_true rfl, Nat.le_of_ble_eq_true rfl⟩) (mk_preVK hK (va_recv hK hP (ci := 0) (q0 := 0) rfl rfl)) rfl rfl hl.1 rfl (lv_room (Nat.le_of_ble_eq_true rfl)) dHart_longBranch_183 ⟨Nat.zero_le _, Nat.zero_le _⟩) hS (fun H locs hP hS => ?_)
    exact W.iret hx hb hr (fun t ht hW => ⟨⟨_, (hf_RiscHart_trap st 2 a1).2, rfl, (by unfold hf_RiscHart_longBranch; rw [if_neg c_1, if_neg c_3, if_neg c_5, if_pos c_6]), by show va_P D hcl _ t.heap; rw [ht]; exact hP⟩, hS.F ht⟩) hS.2.2 dHart_longBranch_186
  by_cases c_7 : (hf_LongForm_f a1) = 4
  · refine lv_tableIn (tgt := 114) hx hb dHart_longBranch_35 (by rw [c_7]; decide) (by rw [c_7]; decide) (by rw [c_7]; rfl) (by decide) ?_
    refine lv_aload_n hx hb dHart_longBranch_114 rfl (lv_at hl 3 rfl) ?_
    refine lv_iload_n hx hb dHart_longBranch_115 rfl (lv_at hl 2 rfl) ?_
    refine lv_iload_n hx hb dHart_longBranch_116 rfl (lv_at hl 1 rfl) ?_
    refine lv_icmp_ge (tgt := 124) hx hb dHart_longBranch_117 (by decide) (fun c_8 => ?_) (fun c_8 => ?_)
    · refine lv_iconst (v := 0) hx hb dHart_longBranch_124 (by decide) ?_
      refine lv_iload hx hb dHart_longBranch_125 (lv_at hl 0 rfl) ?_
      refine mk_callW (va_runV (As := [.int 0, .int ((hs_place st) + (hf_LongForm_offsetT a1))]) (rest := []) ⟨hx, hb, hml, hown, hts⟩ (hc_RiscHart_jumpIf l hP hD 0 ((hs_place st) + (hf_LongForm_offsetT a1))) (cwV 2 hts (mk_gV tw_207 tw_209 tw_8 tw_46 tw_210) rfl rfl rfl hdHart_jumpIf ⟨Nat.le_of_ble_eq_true rfl, Nat.le_of_ble_eq_true rfl⟩) (mk_preVK hK (va_recv hK hP (ci := 0) (q0 := 0) rfl rfl)) rfl rfl hl.1 rfl (lv_room (Nat.le_of_ble_eq_true rfl)) dHart_longBranch_127 ⟨Nat.zero_le _, Nat.zero_le _⟩) hS (fun H locs hP hS => ?_)
      exact W.iret hx hb hr (fun t ht hW => ⟨⟨_, (hf_RiscHart_jumpIf st 0 ((hs_place st) + (hf_LongForm_offsetT a1))).2, rfl, (by unfold hf_RiscHart_longBranch; rw [if_neg c_1, if_neg c_3, if_neg c_5, if_neg c_6, if_pos c_7, if_pos c_8]), by show va_P D hcl _ t.heap; rw [ht]; exact hP⟩, hS.F ht⟩) hS.2.2 dHart_longBranch_130
    · refine lv_iconst (v := 1) hx hb dHart_longBranch_120 (by decide) ?_
      refine lv_goto (tgt := 125) hx hb dHart_longBranch_121 (by decide) ?_
      refine lv_iload hx hb dHart_longBranch_125 (lv_at hl 0 rfl) ?_
      refine mk_callW (va_runV (As := [.int 1, .int ((hs_place st) + (hf_LongForm_offsetT a1))]) (rest := []) ⟨hx, hb, hml, hown, hts⟩ (hc_RiscHart_jumpIf l hP hD 1 ((hs_place st) + (hf_LongForm_offsetT a1))) (cwV 2 hts (mk_gV tw_207 tw_209 tw_8 tw_46 tw_210) rfl rfl rfl hdHart_jumpIf ⟨Nat.le_of_ble_eq_true rfl, Nat.le_of_ble_eq_true rfl⟩) (mk_preVK hK (va_recv hK hP (ci := 0) (q0 := 0) rfl rfl)) rfl rfl hl.1 rfl (lv_room (Nat.le_of_ble_eq_true rfl)) dHart_longBranch_127 ⟨Nat.zero_le _, Nat.zero_le _⟩) hS (fun H locs hP hS => ?_)
      exact W.iret hx hb hr (fun t ht hW => ⟨⟨_, (hf_RiscHart_jumpIf st 1 ((hs_place st) + (hf_LongForm_offsetT a1))).2, rfl, (by unfold hf_RiscHart_longBranch; rw [if_neg c_1, if_neg c_3, if_neg c_5, if_neg c_6, if_pos c_7, if_neg c_8]), by show va_P D hcl _ t.heap; rw [ht]; exact hP⟩, hS.F ht⟩) hS.2.2 dHart_longBranch_130
  by_cases c_9 : (hf_LongForm_f a1) = 5
  · refine lv_tableIn (tgt := 131) hx hb dHart_longBranch_35 (by rw [c_9]; decide) (by rw [c_9]; decide) (by rw [c_9]; rfl) (by decide) ?_
    refine lv_aload_n hx hb dHart_longBranch_131 rfl (lv_at hl 3 rfl) ?_
    refine lv_iload_n hx hb dHart_longBranch_132 rfl (lv_at hl 2 rfl) ?_
    refine lv_iload_n hx hb dHart_longBranch_133 rfl (lv_at hl 1 rfl) ?_
    refine lv_icmp_lt (tgt := 141) hx hb dHart_longBranch_134 (by decide) (fun c_10 => ?_) (fun c_10 => ?_)
    · refine lv_iconst (v := 0) hx hb dHart_longBranch_141 (by decide) ?_
      refine lv_iload hx hb dHart_longBranch_142 (lv_at hl 0 rfl) ?_
      refine mk_callW (va_runV (As := [.int 0, .int ((hs_place st) + (hf_LongForm_offsetT a1))]) (rest := []) ⟨hx, hb, hml, hown, hts⟩ (hc_RiscHart_jumpIf l hP hD 0 ((hs_place st) + (hf_LongForm_offsetT a1))) (cwV 2 hts (mk_gV tw_207 tw_209 tw_8 tw_46 tw_210) rfl rfl rfl hdHart_jumpIf ⟨Nat.le_of_ble_eq_true rfl, Nat.le_of_ble_eq_true rfl⟩) (mk_preVK hK (va_recv hK hP (ci := 0) (q0 := 0) rfl rfl)) rfl rfl hl.1 rfl (lv_room (Nat.le_of_ble_eq_true rfl)) dHart_longBranch_144 ⟨Nat.zero_le _, Nat.zero_le _⟩) hS (fun H locs hP hS => ?_)
      exact W.iret hx hb hr (fun t ht hW => ⟨⟨_, (hf_RiscHart_jumpIf st 0 ((hs_place st) + (hf_LongForm_offsetT a1))).2, rfl, (by unfold hf_RiscHart_longBranch; rw [if_neg c_1, if_neg c_3, if_neg c_5, if_neg c_6, if_neg c_7, if_pos c_9, if_pos c_10]), by show va_P D hcl _ t.heap; rw [ht]; exact hP⟩, hS.F ht⟩) hS.2.2 dHart_longBranch_147
    · refine lv_iconst (v := 1) hx hb dHart_longBranch_137 (by decide) ?_
      refine lv_goto (tgt := 142) hx hb dHart_longBranch_138 (by decide) ?_
      refine lv_iload hx hb dHart_longBranch_142 (lv_at hl 0 rfl) ?_
      refine mk_callW (va_runV (As := [.int 1, .int ((hs_place st) + (hf_LongForm_offsetT a1))]) (rest := []) ⟨hx, hb, hml, hown, hts⟩ (hc_RiscHart_jumpIf l hP hD 1 ((hs_place st) + (hf_LongForm_offsetT a1))) (cwV 2 hts (mk_gV tw_207 tw_209 tw_8 tw_46 tw_210) rfl rfl rfl hdHart_jumpIf ⟨Nat.le_of_ble_eq_true rfl, Nat.le_of_ble_eq_true rfl⟩) (mk_preVK hK (va_recv hK hP (ci := 0) (q0 := 0) rfl rfl)) rfl rfl hl.1 rfl (lv_room (Nat.le_of_ble_eq_true rfl)) dHart_longBranch_144 ⟨Nat.zero_le _, Nat.zero_le _⟩) hS (fun H locs hP hS => ?_)
      exact W.iret hx hb hr (fun t ht hW => ⟨⟨_, (hf_RiscHart_jumpIf st 1 ((hs_place st) + (hf_LongForm_offsetT a1))).2, rfl, (by unfold hf_RiscHart_longBranch; rw [if_neg c_1, if_neg c_3, if_neg c_5, if_neg c_6, if_neg c_7, if_pos c_9, if_neg c_10]), by show va_P D hcl _ t.heap; rw [ht]; exact hP⟩, hS.F ht⟩) hS.2.2 dHart_longBranch_147
  by_cases c_11 : (hf_LongForm_f a1) = 6
  · refine lv_tableIn (tgt := 148) hx hb dHart_longBranch_35 (by rw [c_11]; decide) (by rw [c_11]; decide) (by rw [c_11]; rfl) (by decide) ?_
    refine lv_aload_n hx hb dHart_longBranch_148 rfl (lv_at hl 3 rfl) ?_
    refine lv_iload_n hx hb dHart_longBranch_149 rfl (lv_at hl 2 rfl) ?_
    refine lv_iload_n hx hb dHart_longBranch_150 rfl (lv_at hl 1 rfl) ?_
    refine mk_callR (va_runS (As := [.int (hs_regs st ((hf_LongForm_a a1)).toNatClampNeg), .int (hs_regs st ((hf_LongForm_b a1)).toNatClampNeg)]) (rest := [.ref h0]) ⟨hx, hb, hml, hown, hts⟩ (hc_Arithmetic_isBelow l _ (hs_regs st ((hf_LongForm_a a1)).toNatClampNeg) (hs_regs st ((hf_LongForm_b a1)).toNatClampNeg)) (va_cwS 2 hts (mk_gS tw_211 tw_212 tw_56 tw_213) rfl rfl rfl hdAr_isBelow.2 ⟨Nat.le_of_ble_eq_true rfl, Nat.le_of_ble_eq_true rfl⟩) mk_preS rfl rfl hl.1 rfl (lv_room (Nat.le_of_ble_eq_true rfl)) dHart_longBranch_151 ⟨Nat.zero_le _, Nat.zero_le _⟩) ?_
    refine lv_iload hx hb dHart_longBranch_154 (lv_at hl 0 rfl) ?_
    refine mk_callW (va_runV (As := [.int (hf_Arithmetic_isBelow (hs_regs st ((hf_LongForm_a a1)).toNatClampNeg) (hs_regs st ((hf_LongForm_b a1)).toNatClampNeg)), .int ((hs_place st) + (hf_LongForm_offsetT a1))]) (rest := []) ⟨hx, hb, hml, hown, hts⟩ (hc_RiscHart_jumpIf l hP hD (hf_Arithmetic_isBelow (hs_regs st ((hf_LongForm_a a1)).toNatClampNeg) (hs_regs st ((hf_LongForm_b a1)).toNatClampNeg)) ((hs_place st) + (hf_LongForm_offsetT a1))) (cwV 2 hts (mk_gV tw_207 tw_209 tw_8 tw_46 tw_210) rfl rfl rfl hdHart_jumpIf ⟨Nat.le_of_ble_eq_true rfl, Nat.le_of_ble_eq_true rfl⟩) (mk_preVK hK (va_recv hK hP (ci := 0) (q0 := 0) rfl rfl)) rfl rfl hl.1 rfl (lv_room (Nat.le_of_ble_eq_true rfl)) dHart_longBranch_156 ⟨Nat.zero_le _, Nat.zero_le _⟩) hS (fun H locs hP hS => ?_)
    exact W.iret hx hb hr (fun t ht hW => ⟨⟨_, (hf_RiscHart_jumpIf st (hf_Arithmetic_isBelow (hs_regs st ((hf_LongForm_a a1)).toNatClampNeg) (hs_regs st ((hf_LongForm_b a1)).toNatClampNeg)) ((hs_place st) + (hf_LongForm_offsetT a1))).2, rfl, (by unfold hf_RiscHart_longBranch; rw [if_neg c_1, if_neg c_3, if_neg c_5, if_neg c_6, if_neg c_7, if_neg c_9, if_pos c_11]), by show va_P D hcl _ t.heap; rw [ht]; exact hP⟩, hS.F ht⟩) hS.2.2 dHart_longBranch_159
  by_cases c_12 : (hf_LongForm_f a1) = 7
  · refine lv_tableIn (tgt := 160) hx hb dHart_longBranch_35 (by rw [c_12]; decide) (by rw [c_12]; decide) (by rw [c_12]; rfl) (by decide) ?_
    refine lv_aload_n hx hb dHart_longBranch_160 rfl (lv_at hl 3 rfl) ?_
    refine lv_iload_n hx hb dHart_longBranch_161 rfl (lv_at hl 2 rfl) ?_
    refine lv_iload_n hx hb dHart_longBranch_162 rfl (lv_at hl 1 rfl) ?_
    refine mk_callR (va_runS (As := [.int (hs_regs st ((hf_LongForm_a a1)).toNatClampNeg), .int (hs_regs st ((hf_LongForm_b a1)).toNatClampNeg)]) (rest := [.ref h0]) ⟨hx, hb, hml, hown, hts⟩ (hc_Arithmetic_isBelow l _ (hs_regs st ((hf_LongForm_a a1)).toNatClampNeg) (hs_regs st ((hf_LongForm_b a1)).toNatClampNeg)) (va_cwS 2 hts (mk_gS tw_211 tw_212 tw_56 tw_213) rfl rfl rfl hdAr_isBelow.2 ⟨Nat.le_of_ble_eq_true rfl, Nat.le_of_ble_eq_true rfl⟩) mk_preS rfl rfl hl.1 rfl (lv_room (Nat.le_of_ble_eq_true rfl)) dHart_longBranch_163 ⟨Nat.zero_le _, Nat.zero_le _⟩) ?_
    refine lv_if_ne (tgt := 173) hx hb dHart_longBranch_166 (by decide) (fun c_13 => ?_) (fun c_13 => ?_)
    · refine lv_iconst (v := 0) hx hb dHart_longBranch_173 (by decide) ?_
      refine lv_iload hx hb dHart_longBranch_174 (lv_at hl 0 rfl) ?_
      refine mk_callW (va_runV (As := [.int 0, .int ((hs_place st) + (hf_LongForm_offsetT a1))]) (rest := []) ⟨hx, hb, hml, hown, hts⟩ (hc_RiscHart_jumpIf l hP hD 0 ((hs_place st) + (hf_LongForm_offsetT a1))) (cwV 2 hts (mk_gV tw_207 tw_209 tw_8 tw_46 tw_210) rfl rfl rfl hdHart_jumpIf ⟨Nat.le_of_ble_eq_true rfl, Nat.le_of_ble_eq_true rfl⟩) (mk_preVK hK (va_recv hK hP (ci := 0) (q0 := 0) rfl rfl)) rfl rfl hl.1 rfl (lv_room (Nat.le_of_ble_eq_true rfl)) dHart_longBranch_176 ⟨Nat.zero_le _, Nat.zero_le _⟩) hS (fun H locs hP hS => ?_)
      exact W.iret hx hb hr (fun t ht hW => ⟨⟨_, (hf_RiscHart_jumpIf st 0 ((hs_place st) + (hf_LongForm_offsetT a1))).2, rfl, (by unfold hf_RiscHart_longBranch; rw [if_neg c_1, if_neg c_3, if_neg c_5, if_neg c_6, if_neg c_7, if_neg c_9, if_neg c_11, if_pos c_12, if_neg c_13]), by show va_P D hcl _ t.heap; rw [ht]; exact hP⟩, hS.F ht⟩) hS.2.2 dHart_longBranch_179
    · refine lv_iconst (v := 1) hx hb dHart_longBranch_169 (by decide) ?_
      refine lv_goto (tgt := 174) hx hb dHart_longBranch_170 (by decide) ?_
      refine lv_iload hx hb dHart_longBranch_174 (lv_at hl 0 rfl) ?_
      refine mk_callW (va_runV (As := [.int 1, .int ((hs_place st) + (hf_LongForm_offsetT a1))]) (rest := []) ⟨hx, hb, hml, hown, hts⟩ (hc_RiscHart_jumpIf l hP hD 1 ((hs_place st) + (hf_LongForm_offsetT a1))) (cwV 2 hts (mk_gV tw_207 tw_209 tw_8 tw_46 tw_210) rfl rfl rfl hdHart_jumpIf ⟨Nat.le_of_ble_eq_true rfl, Nat.le_of_ble_eq_true rfl⟩) (mk_preVK hK (va_recv hK hP (ci := 0) (q0 := 0) rfl rfl)) rfl rfl hl.1 rfl (lv_room (Nat.le_of_ble_eq_true rfl)) dHart_longBranch_176 ⟨Nat.zero_le _, Nat.zero_le _⟩) hS (fun H locs hP hS => ?_)
      exact W.iret hx hb hr (fun t ht hW => ⟨⟨_, (hf_RiscHart_jumpIf st 1 ((hs_place st) + (hf_LongForm_offsetT a1))).2, rfl, (by unfold hf_RiscHart_longBranch; rw [if_neg c_1, if_neg c_3, if_neg c_5, if_neg c_6, if_neg c_7, if_neg c_9, if_neg c_11, if_pos c_12, if_pos c_13]), by show va_P D hcl _ t.heap; rw [ht]; exact hP⟩, hS.F ht⟩) hS.2.2 dHart_longBranch_179
  refine lv_tableOut (tgt := 180) hx hb dHart_longBranch_35 (by have q_1 := lv_neT (a := 0) c_1 rfl; have q_3 := lv_neT (a := 1) c_3 rfl; have q_5 := lv_neT (a := 2) c_5 rfl; have q_6 := lv_neT (a := 3) c_6 rfl; have q_7 := lv_neT (a := 4) c_7 rfl; have q_9 := lv_neT (a := 5) c_9 rfl; have q_11 := lv_neT (a := 6) c_11 rfl; have q_12 := lv_neT (a := 7) c_12 rfl; omega) (by decide) ?_
  refine lv_aload_n hx hb dHart_longBranch_180 rfl (lv_at hl 3 rfl) ?_
  refine lv_iconst (v := 2) hx hb dHart_longBranch_181 (by decide) ?_
  refine lv_iload_n hx hb dHart_longBranch_182 rfl (lv_at hl 4 rfl) ?_
  refine mk_callW (va_runV (As := [.int 2, .int a1]) (rest := []) ⟨hx, hb, hml, hown, hts⟩ (hc_RiscHart_trap l hP hD 2 a1) (cwV 2 hts (mk_gV tw_139 tw_141 tw_1 tw_46 tw_142) rfl rfl rfl hdHart_trap ⟨Nat.le_of_ble_eq_true rfl, Nat.le_of_ble_eq_true rfl⟩) (mk_preVK hK (va_recv hK hP (ci := 0) (q0 := 0) rfl rfl)) rfl rfl hl.1 rfl (lv_room (Nat.le_of_ble_eq_true rfl)) dHart_longBranch_183 ⟨Nat.zero_le _, Nat.zero_le _⟩) hS (fun H locs hP hS => ?_)
  exact W.iret hx hb hr (fun t ht hW => ⟨⟨_, (hf_RiscHart_trap st 2 a1).2, rfl, (by unfold hf_RiscHart_longBranch; rw [if_neg c_1, if_neg c_3, if_neg c_5, if_neg c_6, if_neg c_7, if_neg c_9, if_neg c_11, if_neg c_12]), by show va_P D hcl _ t.heap; rw [ht]; exact hP⟩, hS.F ht⟩) hS.2.2 dHart_longBranch_186
set_option maxHeartbeats 4000000 in
set_option maxRecDepth 100000 in
theorem hc_RiscHart_load (l : Launch) {D : va_G} {cR cW cP : ClassId} {h0 h1 h2 h3 h4 : Nat} {A : Nat → Prop} {st : HS} {G : Heap} (hP : va_P D hcl (hs_W cR cW cP h0 h1 h2 h3 h4 st) G) (hD : ∀ z, va_D A (hs_W cR cW cP h0 h1 h2 h3 h4 z)) (a1 : Int32) (a2 : Int32) (a3 : Int32) (hq2 : vp_in a2 32) : Met l yHart_load (wq yHart_load cHart_load 4 (some .int)) ({ frames := 2, cells := 0, slots := 0, locals := 44 }) (mk_PK D hcl [(cR, .int), (cW, .int), (cP, .int)] G [.ref h0, .int a1, .int a2, .int a3]) (mk_Wi (fun u t => va_P D hcl (hs_W cR cW cP h0 h1 h2 h3 h4 u) t) A (hf_RiscHart_load st a1 a2 a3)) 0 0 A := by
  refine Met.ofW (cc := cHart_load) (maxL := 4) (ret := (some .int)) (by decide) rfl ?_
  intro p e s m args below meth c s₁ B hml hv
  obtain ⟨rfl, hG, hK⟩ := hv
  subst hG
  have hx := B.exec
  have hb := B.bytes
  have hr := B.returns
  have hts := atoms_spec (ws := (wq yHart_load cHart_load 4 (some .int))) B.pre
  have hown : s.vm.findClass RHart = some m.cls := findClass_of_methodNamed B.named
  have hlocks := B.notSynchronized
  have hg : ∀ w ∈ lw_g, w.before _ s = true := fun w h => hts w (List.mem_cons_of_mem _ h)
  have hS : va_S A s.heap s.heap [] := va_S.rf
  have hl := lv_entry ([.ref h0, .int a1, .int a2, .int a3]) (n := 4) (Nat.le_of_ble_eq_true rfl)
  rw [lg_entry_eq]
  generalize (lg_sl ([.ref h0, .int a1, .int a2, .int a3]) ++ List.replicate (4 - (lg_sl ([.ref h0, .int a1, .int a2, .int a3])).length) Slot.unset).toArray = ls at hl ⊢
  have hl : lv_has ls 4 [(0, .ref h0), (1, .int a1), (2, .int a2), (3, .int a3)] := hl
  refine lv_iload_n hx hb dHart_load_0 rfl (lv_at hl 1 rfl) ?_
  refine lv_iload_n hx hb dHart_load_1 rfl (lv_at hl 3 rfl) ?_
  refine mk_callR (va_runS (As := [.int a1, .int a3]) (rest := []) ⟨hx, hb, hml, hown, hts⟩ (hc_Memory_isMisaligned l _ a1 a3) (va_cwS 2 hts (mk_gS tw_223 tw_129 tw_47 tw_130) rfl rfl rfl hdMem_isMisaligned.2 ⟨Nat.le_of_ble_eq_true rfl, Nat.le_of_ble_eq_true rfl⟩) mk_preS rfl rfl hl.1 rfl (lv_room (Nat.le_of_ble_eq_true rfl)) dHart_load_2 ⟨Nat.zero_le _, Nat.zero_le _⟩) ?_
  refine lv_if_eq (tgt := 15) hx hb dHart_load_5 (by decide) (fun c_1 => ?_) (fun c_1 => ?_)
  · refine lv_aload_n hx hb dHart_load_15 rfl (lv_at hl 0 rfl) ?_
    refine va_get (D := D) (ci := 0) (v := .ref h1) (C := RHart) (T := THart) (N := 8) hx hb hg inHart hown hK hP 0 rfl rfl 0 (by decide) (hg _ tw_83) (fun _ h9 => h9) rfl dHart_load_16 ?_
    refine lv_iconst (v := 1) hx hb dHart_load_19 (by decide) ?_
    refine lv_iload_n hx hb dHart_load_20 rfl (lv_at hl 3 rfl) ?_
    refine mk_callR (va_runV (As := [.int 1, .int a3]) (rest := []) ⟨hx, hb, hml, hown, hts⟩ (hc_Memory_allows l hP 1 a3) (cwV 2 hts (mk_gV tw_224 tw_132 tw_133 tw_47 tw_134) rfl rfl rfl hdMem_allows ⟨Nat.le_of_ble_eq_true rfl, Nat.le_of_ble_eq_true rfl⟩) (mk_preVK hK (va_recv hK hP (ci := 1) (q0 := 1) rfl rfl)) rfl rfl hl.1 rfl (lv_room (Nat.le_of_ble_eq_true rfl)) dHart_load_21 ⟨Nat.zero_le _, Nat.zero_le _⟩) ?_
    refine lv_if_ne (tgt := 35) hx hb dHart_load_24 (by decide) (fun c_2 => ?_) (fun c_2 => ?_)
    · refine lv_aload_n hx hb dHart_load_35 rfl (lv_at hl 0 rfl) ?_
      refine lv_iload_n hx hb dHart_load_36 rfl (lv_at hl 2 rfl) ?_
      refine lv_aload_n hx hb dHart_load_37 rfl (lv_at hl 0 rfl) ?_
      refine va_get (D := D) (ci := 0) (v := .ref h1) (C := RHart) (T := THart) (N := 8) hx hb hg inHart hown hK hP 0 rfl rfl 0 (by decide) (hg _ tw_83) (fun _ h9 => h9) rfl dHart_load_38 ?_
      refine lv_iload_n hx hb dHart_load_41 rfl (lv_at hl 1 rfl) ?_
      refine lv_iload_n hx hb dHart_load_42 rfl (lv_at hl 3 rfl) ?_
      refine mk_callR (va_runV (As := [.int a1, .int a3]) (rest := [.int a2, .ref h0]) ⟨hx, hb, hml, hown, hts⟩ (hc_Memory_read l hP a1 a3) (cwV 2 hts (mk_gV tw_143 tw_144 tw_145 tw_47 tw_146) rfl rfl rfl hdMem_read ⟨Nat.le_of_ble_eq_true rfl, Nat.le_of_ble_eq_true rfl⟩) (mk_preVK hK (va_recv hK hP (ci := 1) (q0 := 1) rfl rfl)) rfl rfl hl.1 rfl (lv_room (Nat.le_of_ble_eq_true rfl)) dHart_load_43 ⟨Nat.zero_le _, Nat.zero_le _⟩) ?_
      refine mk_callW (va_runV (As := [.int a2, .int (hf_Memory_read st a1 a3)]) (rest := []) ⟨hx, hb, hml, hown, hts⟩ (hc_RiscHart_give l hP hD a2 (hf_Memory_read st a1 a3) hq2) (cwV 2 hts (mk_gV tw_170 tw_172 tw_4 tw_46 tw_173) rfl rfl rfl hdHart_give ⟨Nat.le_of_ble_eq_true rfl, Nat.le_of_ble_eq_true rfl⟩) (mk_preVK hK (va_recv hK hP (ci := 0) (q0 := 0) rfl rfl)) rfl rfl hl.1 rfl (lv_room (Nat.le_of_ble_eq_true rfl)) dHart_load_46 ⟨Nat.zero_le _, Nat.zero_le _⟩) hS (fun H locs hP hS => ?_)
      exact W.iret hx hb hr (fun t ht hW => ⟨⟨_, (hf_RiscHart_give st a2 (hf_Memory_read st a1 a3)).2, rfl, (by unfold hf_RiscHart_load; rw [if_pos c_1, if_neg c_2]), by show va_P D hcl _ t.heap; rw [ht]; exact hP⟩, hS.F ht⟩) hS.2.2 dHart_load_49
    · refine lv_aload_n hx hb dHart_load_27 rfl (lv_at hl 0 rfl) ?_
      refine lv_bipush (v := 6) hx hb dHart_load_28 (by decide) ?_
      refine lv_iload_n hx hb dHart_load_30 rfl (lv_at hl 3 rfl) ?_
      refine mk_callW (va_runV (As := [.int 6, .int a3]) (rest := []) ⟨hx, hb, hml, hown, hts⟩ (hc_RiscHart_trap l hP hD 6 a3) (cwV 2 hts (mk_gV tw_139 tw_141 tw_1 tw_46 tw_142) rfl rfl rfl hdHart_trap ⟨Nat.le_of_ble_eq_true rfl, Nat.le_of_ble_eq_true rfl⟩) (mk_preVK hK (va_recv hK hP (ci := 0) (q0 := 0) rfl rfl)) rfl rfl hl.1 rfl (lv_room (Nat.le_of_ble_eq_true rfl)) dHart_load_31 ⟨Nat.zero_le _, Nat.zero_le _⟩) hS (fun H locs hP hS => ?_)
      exact W.iret hx hb hr (fun t ht hW => ⟨⟨_, (hf_RiscHart_trap st 6 a3).2, rfl, (by unfold hf_RiscHart_load; rw [if_pos c_1, if_pos c_2]), by show va_P D hcl _ t.heap; rw [ht]; exact hP⟩, hS.F ht⟩) hS.2.2 dHart_load_34
  · refine lv_aload_n hx hb dHart_load_8 rfl (lv_at hl 0 rfl) ?_
    refine lv_iconst (v := 5) hx hb dHart_load_9 (by decide) ?_
    refine lv_iload_n hx hb dHart_load_10 rfl (lv_at hl 3 rfl) ?_
    refine mk_callW (va_runV (As := [.int 5, .int a3]) (rest := []) ⟨hx, hb, hml, hown, hts⟩ (hc_RiscHart_trap l hP hD 5 a3) (cwV 2 hts (mk_gV tw_139 tw_141 tw_1 tw_46 tw_142) rfl rfl rfl hdHart_trap ⟨Nat.le_of_ble_eq_true rfl, Nat.le_of_ble_eq_true rfl⟩) (mk_preVK hK (va_recv hK hP (ci := 0) (q0 := 0) rfl rfl)) rfl rfl hl.1 rfl (lv_room (Nat.le_of_ble_eq_true rfl)) dHart_load_11 ⟨Nat.zero_le _, Nat.zero_le _⟩) hS (fun H locs hP hS => ?_)
    exact W.iret hx hb hr (fun t ht hW => ⟨⟨_, (hf_RiscHart_trap st 5 a3).2, rfl, (by unfold hf_RiscHart_load; rw [if_neg c_1]), by show va_P D hcl _ t.heap; rw [ht]; exact hP⟩, hS.F ht⟩) hS.2.2 dHart_load_14
set_option maxHeartbeats 4000000 in
set_option maxRecDepth 100000 in
theorem hc_RiscHart_longLoad (l : Launch) {D : va_G} {cR cW cP : ClassId} {h0 h1 h2 h3 h4 : Nat} {A : Nat → Prop} {st : HS} {G : Heap} (hP : va_P D hcl (hs_W cR cW cP h0 h1 h2 h3 h4 st) G) (hD : ∀ z, va_D A (hs_W cR cW cP h0 h1 h2 h3 h4 z)) (a1 : Int32)  : Met l yHart_longLoad (wq yHart_longLoad cHart_longLoad 3 (some .int)) ({ frames := 3, cells := 0, slots := 0, locals := 67 }) (mk_PK D hcl [(cR, .int), (cW, .int), (cP, .int)] G [.ref h0, .int a1]) (mk_Wi (fun u t => va_P D hcl (hs_W cR cW cP h0 h1 h2 h3 h4 u) t) A (hf_RiscHart_longLoad st a1)) 0 0 A := by
  refine Met.ofW (cc := cHart_longLoad) (maxL := 3) (ret := (some .int)) (by decide) rfl ?_
  intro p e s m args below meth c s₁ B hml hv
  obtain ⟨rfl, hG, hK⟩ := hv
  subst hG
  have hx := B.exec
  have hb := B.bytes
  have hr := B.returns
  have hts := atoms_spec (ws := (wq yHart_longLoad cHart_longLoad 3 (some .int))) B.pre
  have hown : s.vm.findClass RHart = some m.cls := findClass_of_methodNamed B.named
  have hlocks := B.notSynchronized
  have hg : ∀ w ∈ lw_g, w.before _ s = true := fun w h => hts w (List.mem_cons_of_mem _ h)
  have hS : va_S A s.heap s.heap [] := va_S.rf
  have hl := lv_entry ([.ref h0, .int a1]) (n := 3) (Nat.le_of_ble_eq_true rfl)
  rw [lg_entry_eq]
  generalize (lg_sl ([.ref h0, .int a1]) ++ List.replicate (3 - (lg_sl ([.ref h0, .int a1])).length) Slot.unset).toArray = ls at hl ⊢
  have hl : lv_has ls 3 [(0, .ref h0), (1, .int a1)] := hl
  refine lv_iload_n hx hb dHart_longLoad_0 rfl (lv_at hl 1 rfl) ?_
  refine mk_callR (va_runS (As := [.int a1]) (rest := []) ⟨hx, hb, hml, hown, hts⟩ (hc_LongForm_f l _ a1) (va_cwS 1 hts (mk_gS tw_188 tw_189 tw_54 tw_190) rfl rfl rfl hdLF_f.2 ⟨Nat.le_of_ble_eq_true rfl, Nat.le_of_ble_eq_true rfl⟩) mk_preS rfl rfl hl.1 rfl (lv_room (Nat.le_of_ble_eq_true rfl)) dHart_longLoad_1 ⟨Nat.zero_le _, Nat.zero_le _⟩) ?_
  refine lv_istore_n (lv' := [(2, .int (hf_LongForm_f a1)), (0, .ref h0), (1, .int a1)]) hx hb dHart_longLoad_4 rfl hl (by decide) rfl (fun ls hl => ?_)
  refine lv_iload_n hx hb dHart_longLoad_5 rfl (lv_at hl 0 rfl) ?_
  refine lv_iconst (v := 3) hx hb dHart_longLoad_6 (by decide) ?_
  refine lv_icmp_eq (tgt := 15) hx hb dHart_longLoad_7 (by decide) (fun c_1 => ?_) (fun c_1 => ?_)
  · refine lv_aload_n hx hb dHart_longLoad_15 rfl (lv_at hl 1 rfl) ?_
    refine lv_iconst (v := 2) hx hb dHart_longLoad_16 (by decide) ?_
    refine lv_iload_n hx hb dHart_longLoad_17 rfl (lv_at hl 2 rfl) ?_
    refine mk_callW (va_runV (As := [.int 2, .int a1]) (rest := []) ⟨hx, hb, hml, hown, hts⟩ (hc_RiscHart_trap l hP hD 2 a1) (cwV 2 hts (mk_gV tw_139 tw_141 tw_1 tw_46 tw_142) rfl rfl rfl hdHart_trap ⟨Nat.le_of_ble_eq_true rfl, Nat.le_of_ble_eq_true rfl⟩) (mk_preVK hK (va_recv hK hP (ci := 0) (q0 := 0) rfl rfl)) rfl rfl hl.1 rfl (lv_room (Nat.le_of_ble_eq_true rfl)) dHart_longLoad_18 ⟨Nat.zero_le _, Nat.zero_le _⟩) hS (fun H locs hP hS => ?_)
    exact W.iret hx hb hr (fun t ht hW => ⟨⟨_, (hf_RiscHart_trap st 2 a1).2, rfl, (by unfold hf_RiscHart_longLoad; rw [if_pos c_1]), by show va_P D hcl _ t.heap; rw [ht]; exact hP⟩, hS.F ht⟩) hS.2.2 dHart_longLoad_21
  · refine lv_iload_n hx hb dHart_longLoad_10 rfl (lv_at hl 0 rfl) ?_
    refine lv_iconst (v := 5) hx hb dHart_longLoad_11 (by decide) ?_
    refine lv_icmp_le (tgt := 22) hx hb dHart_longLoad_12 (by decide) (fun c_2 => ?_) (fun c_2 => ?_)
    · refine lv_aload_n hx hb dHart_longLoad_22 rfl (lv_at hl 1 rfl) ?_
      refine lv_iload_n hx hb dHart_longLoad_23 rfl (lv_at hl 0 rfl) ?_
      refine lv_iload_n hx hb dHart_longLoad_24 rfl (lv_at hl 2 rfl) ?_
      refine mk_callR (va_runS (As := [.int a1]) (rest := [.int (hf_LongForm_f a1), .ref h0]) ⟨hx, hb, hml, hown, hts⟩ (hc_LongForm_d l _ a1) (va_cwS 1 hts (mk_gS tw_161 tw_162 tw_54 tw_163) rfl rfl rfl hdLF_d.2 ⟨Nat.le_of_ble_eq_true rfl, Nat.le_of_ble_eq_true rfl⟩) mk_preS rfl rfl hl.1 rfl (lv_room (Nat.le_of_ble_eq_true rfl)) dHart_longLoad_25 ⟨Nat.zero_le _, Nat.zero_le _⟩) ?_
      refine lv_aload_n hx hb dHart_longLoad_28 rfl (lv_at hl 1 rfl) ?_
      refine va_get (D := D) (ci := 0) (v := .ref h2) (C := RHart) (T := THart) (N := 8) hx hb hg inHart hown hK hP 0 rfl rfl 1 (by decide) (hg _ tw_84) (fun _ h9 => h9) rfl dHart_longLoad_29 ?_
      refine lv_iload_n hx hb dHart_longLoad_32 rfl (lv_at hl 2 rfl) ?_
      refine mk_callR (va_runS (As := [.int a1]) (rest := [.ref h2, .int (hf_LongForm_d a1), .int (hf_LongForm_f a1), .ref h0]) ⟨hx, hb, hml, hown, hts⟩ (hc_LongForm_a l _ a1) (va_cwS 1 hts (mk_gS tw_191 tw_192 tw_54 tw_193) rfl rfl rfl hdLF_a.2 ⟨Nat.le_of_ble_eq_true rfl, Nat.le_of_ble_eq_true rfl⟩) mk_preS rfl rfl hl.1 rfl (lv_room (Nat.le_of_ble_eq_true rfl)) dHart_longLoad_33 ⟨Nat.zero_le _, Nat.zero_le _⟩) ?_
      refine va_iald (D := D) hx hb hK hP 2 0 rfl rfl (in_LongForm_a _) dHart_longLoad_36 ?_
      refine lv_iload_n hx hb dHart_longLoad_37 rfl (lv_at hl 2 rfl) ?_
      refine mk_callR (va_runS (As := [.int a1]) (rest := [.int (hs_regs st ((hf_LongForm_a a1)).toNatClampNeg), .int (hf_LongForm_d a1), .int (hf_LongForm_f a1), .ref h0]) ⟨hx, hb, hml, hown, hts⟩ (hc_LongForm_numberI l _ a1) (va_cwS 1 hts (mk_gS tw_194 tw_195 tw_54 tw_196) rfl rfl rfl hdLF_numberI.2 ⟨Nat.le_of_ble_eq_true rfl, Nat.le_of_ble_eq_true rfl⟩) mk_preS rfl rfl hl.1 rfl (lv_room (Nat.le_of_ble_eq_true rfl)) dHart_longLoad_38 ⟨Nat.zero_le _, Nat.zero_le _⟩) ?_
      refine lv_iadd hx hb dHart_longLoad_41 ?_
      refine mk_callW (va_runV (As := [.int (hf_LongForm_f a1), .int (hf_LongForm_d a1), .int ((hs_regs st ((hf_LongForm_a a1)).toNatClampNeg) + (hf_LongForm_numberI a1))]) (rest := []) ⟨hx, hb, hml, hown, hts⟩ (hc_RiscHart_load l hP hD (hf_LongForm_f a1) (hf_LongForm_d a1) ((hs_regs st ((hf_LongForm_a a1)).toNatClampNeg) + (hf_LongForm_numberI a1)) (in_LongForm_d _)) (cwV 3 hts (mk_gV tw_219 tw_221 tw_10 tw_46 tw_222) rfl rfl rfl hdHart_load ⟨Nat.le_of_ble_eq_true rfl, Nat.le_of_ble_eq_true rfl⟩) (mk_preVK hK (va_recv hK hP (ci := 0) (q0 := 0) rfl rfl)) rfl rfl hl.1 rfl (lv_room (Nat.le_of_ble_eq_true rfl)) dHart_longLoad_42 ⟨Nat.zero_le _, Nat.zero_le _⟩) hS (fun H locs hP hS => ?_)
      exact W.iret hx hb hr (fun t ht hW => ⟨⟨_, (hf_RiscHart_load st (hf_LongForm_f a1) (hf_LongForm_d a1) ((hs_regs st ((hf_LongForm_a a1)).toNatClampNeg) + (hf_LongForm_numberI a1))).2, rfl, (by unfold hf_RiscHart_longLoad; rw [if_neg c_1, if_pos c_2]), by show va_P D hcl _ t.heap; rw [ht]; exact hP⟩, hS.F ht⟩) hS.2.2 dHart_longLoad_45
    · refine lv_aload_n hx hb dHart_longLoad_15 rfl (lv_at hl 1 rfl) ?_
      refine lv_iconst (v := 2) hx hb dHart_longLoad_16 (by decide) ?_
      refine lv_iload_n hx hb dHart_longLoad_17 rfl (lv_at hl 2 rfl) ?_
      refine mk_callW (va_runV (As := [.int 2, .int a1]) (rest := []) ⟨hx, hb, hml, hown, hts⟩ (hc_RiscHart_trap l hP hD 2 a1) (cwV 2 hts (mk_gV tw_139 tw_141 tw_1 tw_46 tw_142) rfl rfl rfl hdHart_trap ⟨Nat.le_of_ble_eq_true rfl, Nat.le_of_ble_eq_true rfl⟩) (mk_preVK hK (va_recv hK hP (ci := 0) (q0 := 0) rfl rfl)) rfl rfl hl.1 rfl (lv_room (Nat.le_of_ble_eq_true rfl)) dHart_longLoad_18 ⟨Nat.zero_le _, Nat.zero_le _⟩) hS (fun H locs hP hS => ?_)
      exact W.iret hx hb hr (fun t ht hW => ⟨⟨_, (hf_RiscHart_trap st 2 a1).2, rfl, (by unfold hf_RiscHart_longLoad; rw [if_neg c_1, if_neg c_2]), by show va_P D hcl _ t.heap; rw [ht]; exact hP⟩, hS.F ht⟩) hS.2.2 dHart_longLoad_21
set_option maxHeartbeats 4000000 in
set_option maxRecDepth 100000 in
theorem hc_RiscHart_store (l : Launch) {D : va_G} {cR cW cP : ClassId} {h0 h1 h2 h3 h4 : Nat} {A : Nat → Prop} {st : HS} {G : Heap} (hP : va_P D hcl (hs_W cR cW cP h0 h1 h2 h3 h4 st) G) (hD : ∀ z, va_D A (hs_W cR cW cP h0 h1 h2 h3 h4 z)) (a1 : Int32) (a2 : Int32) (a3 : Int32)  : Met l yHart_store (wq yHart_store cHart_store 4 (some .int)) ({ frames := 2, cells := 0, slots := 0, locals := 45 }) (mk_PK D hcl [(cR, .int), (cW, .int), (cP, .int)] G [.ref h0, .int a1, .int a2, .int a3]) (mk_Wi (fun u t => va_P D hcl (hs_W cR cW cP h0 h1 h2 h3 h4 u) t) A (hf_RiscHart_store st a1 a2 a3)) 0 0 A := by
  refine Met.ofW (cc := cHart_store) (maxL := 4) (ret := (some .int)) (by decide) rfl ?_
  intro p e s m args below meth c s₁ B hml hv
  obtain ⟨rfl, hG, hK⟩ := hv
  subst hG
  have hx := B.exec
  have hb := B.bytes
  have hr := B.returns
  have hts := atoms_spec (ws := (wq yHart_store cHart_store 4 (some .int))) B.pre
  have hown : s.vm.findClass RHart = some m.cls := findClass_of_methodNamed B.named
  have hlocks := B.notSynchronized
  have hg : ∀ w ∈ lw_g, w.before _ s = true := fun w h => hts w (List.mem_cons_of_mem _ h)
  have hS : va_S A s.heap s.heap [] := va_S.rf
  have hl := lv_entry ([.ref h0, .int a1, .int a2, .int a3]) (n := 4) (Nat.le_of_ble_eq_true rfl)
  rw [lg_entry_eq]
  generalize (lg_sl ([.ref h0, .int a1, .int a2, .int a3]) ++ List.replicate (4 - (lg_sl ([.ref h0, .int a1, .int a2, .int a3])).length) Slot.unset).toArray = ls at hl ⊢
  have hl : lv_has ls 4 [(0, .ref h0), (1, .int a1), (2, .int a2), (3, .int a3)] := hl
  refine lv_iload_n hx hb dHart_store_0 rfl (lv_at hl 1 rfl) ?_
  refine lv_iload_n hx hb dHart_store_1 rfl (lv_at hl 2 rfl) ?_
  refine mk_callR (va_runS (As := [.int a1, .int a2]) (rest := []) ⟨hx, hb, hml, hown, hts⟩ (hc_Memory_isMisaligned l _ a1 a2) (va_cwS 2 hts (mk_gS tw_223 tw_129 tw_47 tw_130) rfl rfl rfl hdMem_isMisaligned.2 ⟨Nat.le_of_ble_eq_true rfl, Nat.le_of_ble_eq_true rfl⟩) mk_preS rfl rfl hl.1 rfl (lv_room (Nat.le_of_ble_eq_true rfl)) dHart_store_2 ⟨Nat.zero_le _, Nat.zero_le _⟩) ?_
  refine lv_if_eq (tgt := 15) hx hb dHart_store_5 (by decide) (fun c_1 => ?_) (fun c_1 => ?_)
  · refine lv_aload_n hx hb dHart_store_15 rfl (lv_at hl 0 rfl) ?_
    refine va_get (D := D) (ci := 0) (v := .ref h1) (C := RHart) (T := THart) (N := 8) hx hb hg inHart hown hK hP 0 rfl rfl 0 (by decide) (hg _ tw_83) (fun _ h9 => h9) rfl dHart_store_16 ?_
    refine lv_iconst (v := 2) hx hb dHart_store_19 (by decide) ?_
    refine lv_iload_n hx hb dHart_store_20 rfl (lv_at hl 2 rfl) ?_
    refine mk_callR (va_runV (As := [.int 2, .int a2]) (rest := []) ⟨hx, hb, hml, hown, hts⟩ (hc_Memory_allows l hP 2 a2) (cwV 2 hts (mk_gV tw_224 tw_132 tw_133 tw_47 tw_134) rfl rfl rfl hdMem_allows ⟨Nat.le_of_ble_eq_true rfl, Nat.le_of_ble_eq_true rfl⟩) (mk_preVK hK (va_recv hK hP (ci := 1) (q0 := 1) rfl rfl)) rfl rfl hl.1 rfl (lv_room (Nat.le_of_ble_eq_true rfl)) dHart_store_21 ⟨Nat.zero_le _, Nat.zero_le _⟩) ?_
    refine lv_if_ne (tgt := 35) hx hb dHart_store_24 (by decide) (fun c_2 => ?_) (fun c_2 => ?_)
    · refine lv_aload_n hx hb dHart_store_35 rfl (lv_at hl 0 rfl) ?_
      refine va_get (D := D) (ci := 0) (v := .ref h1) (C := RHart) (T := THart) (N := 8) hx hb hg inHart hown hK hP 0 rfl rfl 0 (by decide) (hg _ tw_83) (fun _ h9 => h9) rfl dHart_store_36 ?_
      refine lv_iload_n hx hb dHart_store_39 rfl (lv_at hl 1 rfl) ?_
      refine lv_iload_n hx hb dHart_store_40 rfl (lv_at hl 2 rfl) ?_
      refine lv_iload_n hx hb dHart_store_41 rfl (lv_at hl 3 rfl) ?_
      refine mk_callWv (va_runV (As := [.int a1, .int a2, .int a3]) (rest := []) ⟨hx, hb, hml, hown, hts⟩ (hc_Memory_write l hP hD a1 a2 a3) (cwV 3 hts (mk_gV tw_240 tw_241 tw_242 tw_47 tw_243) rfl rfl rfl hdMem_write ⟨Nat.le_of_ble_eq_true rfl, Nat.le_of_ble_eq_true rfl⟩) (mk_preVK hK (va_recv hK hP (ci := 1) (q0 := 1) rfl rfl)) rfl rfl hl.1 rfl (lv_room (Nat.le_of_ble_eq_true rfl)) dHart_store_42 ⟨Nat.zero_le _, Nat.zero_le _⟩) hS (fun H locs hP hS => ?_)
      refine lv_iconst (v := 0) hx hb dHart_store_45 (by decide) ?_
      exact W.iret hx hb hr (fun t ht hW => ⟨⟨_, (hf_Memory_write st a1 a2 a3), rfl, (by unfold hf_RiscHart_store; rw [if_pos c_1, if_neg c_2]), by show va_P D hcl _ t.heap; rw [ht]; exact hP⟩, hS.F ht⟩) hS.2.2 dHart_store_46
    · refine lv_aload_n hx hb dHart_store_27 rfl (lv_at hl 0 rfl) ?_
      refine lv_bipush (v := 7) hx hb dHart_store_28 (by decide) ?_
      refine lv_iload_n hx hb dHart_store_30 rfl (lv_at hl 2 rfl) ?_
      refine mk_callW (va_runV (As := [.int 7, .int a2]) (rest := []) ⟨hx, hb, hml, hown, hts⟩ (hc_RiscHart_trap l hP hD 7 a2) (cwV 2 hts (mk_gV tw_139 tw_141 tw_1 tw_46 tw_142) rfl rfl rfl hdHart_trap ⟨Nat.le_of_ble_eq_true rfl, Nat.le_of_ble_eq_true rfl⟩) (mk_preVK hK (va_recv hK hP (ci := 0) (q0 := 0) rfl rfl)) rfl rfl hl.1 rfl (lv_room (Nat.le_of_ble_eq_true rfl)) dHart_store_31 ⟨Nat.zero_le _, Nat.zero_le _⟩) hS (fun H locs hP hS => ?_)
      exact W.iret hx hb hr (fun t ht hW => ⟨⟨_, (hf_RiscHart_trap st 7 a2).2, rfl, (by unfold hf_RiscHart_store; rw [if_pos c_1, if_pos c_2]), by show va_P D hcl _ t.heap; rw [ht]; exact hP⟩, hS.F ht⟩) hS.2.2 dHart_store_34
  · refine lv_aload_n hx hb dHart_store_8 rfl (lv_at hl 0 rfl) ?_
    refine lv_iconst (v := 5) hx hb dHart_store_9 (by decide) ?_
    refine lv_iload_n hx hb dHart_store_10 rfl (lv_at hl 2 rfl) ?_
    refine mk_callW (va_runV (As := [.int 5, .int a2]) (rest := []) ⟨hx, hb, hml, hown, hts⟩ (hc_RiscHart_trap l hP hD 5 a2) (cwV 2 hts (mk_gV tw_139 tw_141 tw_1 tw_46 tw_142) rfl rfl rfl hdHart_trap ⟨Nat.le_of_ble_eq_true rfl, Nat.le_of_ble_eq_true rfl⟩) (mk_preVK hK (va_recv hK hP (ci := 0) (q0 := 0) rfl rfl)) rfl rfl hl.1 rfl (lv_room (Nat.le_of_ble_eq_true rfl)) dHart_store_11 ⟨Nat.zero_le _, Nat.zero_le _⟩) hS (fun H locs hP hS => ?_)
    exact W.iret hx hb hr (fun t ht hW => ⟨⟨_, (hf_RiscHart_trap st 5 a2).2, rfl, (by unfold hf_RiscHart_store; rw [if_neg c_1]), by show va_P D hcl _ t.heap; rw [ht]; exact hP⟩, hS.F ht⟩) hS.2.2 dHart_store_14
end
section
set_option maxHeartbeats 4000000 in
set_option maxRecDepth 100000 in
theorem hc_RiscHart_longStore (l : Launch) {D : va_G} {cR cW cP : ClassId} {h0 h1 h2 h3 h4 : Nat} {A : Nat → Prop} {st : HS} {G : Heap} (hP : va_P D hcl (hs_W cR cW cP h0 h1 h2 h3 h4 st) G) (hD : ∀ z, va_D A (hs_W cR cW cP h0 h1 h2 h3 h4 z)) (a1 : Int32)  : Met l yHart_longStore (wq yHart_longStore cHart_longStore 4 (some .int)) ({ frames := 3, cells := 0, slots := 0, locals := 68 }) (mk_PK D hcl [(cR, .int), (cW, .int), (cP, .int)] G [.ref h0, .int a1]) (mk_Wi (fun u t => va_P D hcl (hs_W cR cW cP h0 h1 h2 h3 h4 u) t) A (hf_RiscHart_longStore st a1)) 0 0 A := by
  refine Met.ofW (cc := cHart_longStore) (maxL := 4) (ret := (some .int)) (by decide) rfl ?_
  intro p e s m args below meth c s₁ B hml hv
  obtain ⟨rfl, hG, hK⟩ := hv
  subst hG
  have hx := B.exec
  have hb := B.bytes
  have hr := B.returns
  have hts := atoms_spec (ws := (wq yHart_longStore cHart_longStore 4 (some .int))) B.pre
  have hown : s.vm.findClass RHart = some m.cls := findClass_of_methodNamed B.named
  have hlocks := B.notSynchronized
  have hg : ∀ w ∈ lw_g, w.before _ s = true := fun w h => hts w (List.mem_cons_of_mem _ h)
  have hS : va_S A s.heap s.heap [] := va_S.rf
  have hl := lv_entry ([.ref h0, .int a1]) (n := 4) (Nat.le_of_ble_eq_true rfl)
  rw [lg_entry_eq]
  generalize (lg_sl ([.ref h0, .int a1]) ++ List.replicate (4 - (lg_sl ([.ref h0, .int a1])).length) Slot.unset).toArray = ls at hl ⊢
  have hl : lv_has ls 4 [(0, .ref h0), (1, .int a1)] := hl
  refine lv_iload_n hx hb dHart_longStore_0 rfl (lv_at hl 1 rfl) ?_
  refine mk_callR (va_runS (As := [.int a1]) (rest := []) ⟨hx, hb, hml, hown, hts⟩ (hc_LongForm_f l _ a1) (va_cwS 1 hts (mk_gS tw_188 tw_189 tw_54 tw_190) rfl rfl rfl hdLF_f.2 ⟨Nat.le_of_ble_eq_true rfl, Nat.le_of_ble_eq_true rfl⟩) mk_preS rfl rfl hl.1 rfl (lv_room (Nat.le_of_ble_eq_true rfl)) dHart_longStore_1 ⟨Nat.zero_le _, Nat.zero_le _⟩) ?_
  refine lv_istore_n (lv' := [(2, .int (hf_LongForm_f a1)), (0, .ref h0), (1, .int a1)]) hx hb dHart_longStore_4 rfl hl (by decide) rfl (fun ls hl => ?_)
  refine lv_iload_n hx hb dHart_longStore_5 rfl (lv_at hl 0 rfl) ?_
  refine lv_iconst (v := 2) hx hb dHart_longStore_6 (by decide) ?_
  refine lv_icmp_le (tgt := 17) hx hb dHart_longStore_7 (by decide) (fun c_1 => ?_) (fun c_1 => ?_)
  · refine lv_aload_n hx hb dHart_longStore_17 rfl (lv_at hl 1 rfl) ?_
    refine va_get (D := D) (ci := 0) (v := .ref h2) (C := RHart) (T := THart) (N := 8) hx hb hg inHart hown hK hP 0 rfl rfl 1 (by decide) (hg _ tw_84) (fun _ h9 => h9) rfl dHart_longStore_18 ?_
    refine lv_iload_n hx hb dHart_longStore_21 rfl (lv_at hl 2 rfl) ?_
    refine mk_callR (va_runS (As := [.int a1]) (rest := [.ref h2]) ⟨hx, hb, hml, hown, hts⟩ (hc_LongForm_a l _ a1) (va_cwS 1 hts (mk_gS tw_191 tw_192 tw_54 tw_193) rfl rfl rfl hdLF_a.2 ⟨Nat.le_of_ble_eq_true rfl, Nat.le_of_ble_eq_true rfl⟩) mk_preS rfl rfl hl.1 rfl (lv_room (Nat.le_of_ble_eq_true rfl)) dHart_longStore_22 ⟨Nat.zero_le _, Nat.zero_le _⟩) ?_
    refine va_iald (D := D) hx hb hK hP 2 0 rfl rfl (in_LongForm_a _) dHart_longStore_25 ?_
    refine lv_iload_n hx hb dHart_longStore_26 rfl (lv_at hl 2 rfl) ?_
    refine mk_callR (va_runS (As := [.int a1]) (rest := [.int (hs_regs st ((hf_LongForm_a a1)).toNatClampNeg)]) ⟨hx, hb, hml, hown, hts⟩ (hc_LongForm_numberS l _ a1) (va_cwS 1 hts (mk_gS tw_229 tw_230 tw_54 tw_231) rfl rfl rfl hdLF_numberS.2 ⟨Nat.le_of_ble_eq_true rfl, Nat.le_of_ble_eq_true rfl⟩) mk_preS rfl rfl hl.1 rfl (lv_room (Nat.le_of_ble_eq_true rfl)) dHart_longStore_27 ⟨Nat.zero_le _, Nat.zero_le _⟩) ?_
    refine lv_iadd hx hb dHart_longStore_30 ?_
    refine lv_istore_n (lv' := [(3, .int ((hs_regs st ((hf_LongForm_a a1)).toNatClampNeg) + (hf_LongForm_numberS a1))), (2, .int (hf_LongForm_f a1)), (0, .ref h0), (1, .int a1)]) hx hb dHart_longStore_31 rfl hl (by decide) rfl (fun ls hl => ?_)
    refine lv_aload_n hx hb dHart_longStore_32 rfl (lv_at hl 2 rfl) ?_
    refine lv_iload_n hx hb dHart_longStore_33 rfl (lv_at hl 1 rfl) ?_
    refine lv_iload_n hx hb dHart_longStore_34 rfl (lv_at hl 0 rfl) ?_
    refine lv_aload_n hx hb dHart_longStore_35 rfl (lv_at hl 2 rfl) ?_
    refine va_get (D := D) (ci := 0) (v := .ref h2) (C := RHart) (T := THart) (N := 8) hx hb hg inHart hown hK hP 0 rfl rfl 1 (by decide) (hg _ tw_84) (fun _ h9 => h9) rfl dHart_longStore_36 ?_
    refine lv_iload_n hx hb dHart_longStore_39 rfl (lv_at hl 3 rfl) ?_
    refine mk_callR (va_runS (As := [.int a1]) (rest := [.ref h2, .int ((hs_regs st ((hf_LongForm_a a1)).toNatClampNeg) + (hf_LongForm_numberS a1)), .int (hf_LongForm_f a1), .ref h0]) ⟨hx, hb, hml, hown, hts⟩ (hc_LongForm_b l _ a1) (va_cwS 1 hts (mk_gS tw_201 tw_202 tw_54 tw_203) rfl rfl rfl hdLF_b.2 ⟨Nat.le_of_ble_eq_true rfl, Nat.le_of_ble_eq_true rfl⟩) mk_preS rfl rfl hl.1 rfl (lv_room (Nat.le_of_ble_eq_true rfl)) dHart_longStore_40 ⟨Nat.zero_le _, Nat.zero_le _⟩) ?_
    refine va_iald (D := D) hx hb hK hP 2 0 rfl rfl (in_LongForm_b _) dHart_longStore_43 ?_
    refine mk_callW (va_runV (As := [.int (hf_LongForm_f a1), .int ((hs_regs st ((hf_LongForm_a a1)).toNatClampNeg) + (hf_LongForm_numberS a1)), .int (hs_regs st ((hf_LongForm_b a1)).toNatClampNeg)]) (rest := []) ⟨hx, hb, hml, hown, hts⟩ (hc_RiscHart_store l hP hD (hf_LongForm_f a1) ((hs_regs st ((hf_LongForm_a a1)).toNatClampNeg) + (hf_LongForm_numberS a1)) (hs_regs st ((hf_LongForm_b a1)).toNatClampNeg)) (cwV 3 hts (mk_gV tw_236 tw_238 tw_12 tw_46 tw_239) rfl rfl rfl hdHart_store ⟨Nat.le_of_ble_eq_true rfl, Nat.le_of_ble_eq_true rfl⟩) (mk_preVK hK (va_recv hK hP (ci := 0) (q0 := 0) rfl rfl)) rfl rfl hl.1 rfl (lv_room (Nat.le_of_ble_eq_true rfl)) dHart_longStore_44 ⟨Nat.zero_le _, Nat.zero_le _⟩) hS (fun H locs hP hS => ?_)
    exact W.iret hx hb hr (fun t ht hW => ⟨⟨_, (hf_RiscHart_store st (hf_LongForm_f a1) ((hs_regs st ((hf_LongForm_a a1)).toNatClampNeg) + (hf_LongForm_numberS a1)) (hs_regs st ((hf_LongForm_b a1)).toNatClampNeg)).2, rfl, (by unfold hf_RiscHart_longStore; rw [if_pos c_1]), by show va_P D hcl _ t.heap; rw [ht]; exact hP⟩, hS.F ht⟩) hS.2.2 dHart_longStore_47
  · refine lv_aload_n hx hb dHart_longStore_10 rfl (lv_at hl 1 rfl) ?_
    refine lv_iconst (v := 2) hx hb dHart_longStore_11 (by decide) ?_
    refine lv_iload_n hx hb dHart_longStore_12 rfl (lv_at hl 2 rfl) ?_
    refine mk_callW (va_runV (As := [.int 2, .int a1]) (rest := []) ⟨hx, hb, hml, hown, hts⟩ (hc_RiscHart_trap l hP hD 2 a1) (cwV 2 hts (mk_gV tw_139 tw_141 tw_1 tw_46 tw_142) rfl rfl rfl hdHart_trap ⟨Nat.le_of_ble_eq_true rfl, Nat.le_of_ble_eq_true rfl⟩) (mk_preVK hK (va_recv hK hP (ci := 0) (q0 := 0) rfl rfl)) rfl rfl hl.1 rfl (lv_room (Nat.le_of_ble_eq_true rfl)) dHart_longStore_13 ⟨Nat.zero_le _, Nat.zero_le _⟩) hS (fun H locs hP hS => ?_)
    exact W.iret hx hb hr (fun t ht hW => ⟨⟨_, (hf_RiscHart_trap st 2 a1).2, rfl, (by unfold hf_RiscHart_longStore; rw [if_neg c_1]), by show va_P D hcl _ t.heap; rw [ht]; exact hP⟩, hS.F ht⟩) hS.2.2 dHart_longStore_16
set_option maxHeartbeats 4000000 in
set_option maxRecDepth 100000 in
theorem hc_RiscHart_longWithNumber (l : Launch) {D : va_G} {cR cW cP : ClassId} {h0 h1 h2 h3 h4 : Nat} {A : Nat → Prop} {st : HS} {G : Heap} (hP : va_P D hcl (hs_W cR cW cP h0 h1 h2 h3 h4 st) G) (hD : ∀ z, va_D A (hs_W cR cW cP h0 h1 h2 h3 h4 z)) (a1 : Int32)  : Met l yHart_longWithNumber (wq yHart_longWithNumber cHart_longWithNumber 6 (some .int)) ({ frames := 2, cells := 0, slots := 0, locals := 43 }) (mk_PK D hcl [(cR, .int), (cW, .int), (cP, .int)] G [.ref h0, .int a1]) (mk_Wi (fun u t => va_P D hcl (hs_W cR cW cP h0 h1 h2 h3 h4 u) t) A (hf_RiscHart_longWithNumber st a1)) 0 0 A := by
  refine Met.ofW (cc := cHart_longWithNumber) (maxL := 6) (ret := (some .int)) (by decide) rfl ?_
  intro p e s m args below meth c s₁ B hml hv
  obtain ⟨rfl, hG, hK⟩ := hv
  subst hG
  have hx := B.exec
  have hb := B.bytes
  have hr := B.returns
  have hts := atoms_spec (ws := (wq yHart_longWithNumber cHart_longWithNumber 6 (some .int))) B.pre
  have hown : s.vm.findClass RHart = some m.cls := findClass_of_methodNamed B.named
  have hlocks := B.notSynchronized
  have hg : ∀ w ∈ lw_g, w.before _ s = true := fun w h => hts w (List.mem_cons_of_mem _ h)
  have hS : va_S A s.heap s.heap [] := va_S.rf
  have hl := lv_entry ([.ref h0, .int a1]) (n := 6) (Nat.le_of_ble_eq_true rfl)
  rw [lg_entry_eq]
  generalize (lg_sl ([.ref h0, .int a1]) ++ List.replicate (6 - (lg_sl ([.ref h0, .int a1])).length) Slot.unset).toArray = ls at hl ⊢
  have hl : lv_has ls 6 [(0, .ref h0), (1, .int a1)] := hl
  refine lv_iload_n hx hb dHart_longWithNumber_0 rfl (lv_at hl 1 rfl) ?_
  refine mk_callR (va_runS (As := [.int a1]) (rest := []) ⟨hx, hb, hml, hown, hts⟩ (hc_LongForm_d l _ a1) (va_cwS 1 hts (mk_gS tw_161 tw_162 tw_54 tw_163) rfl rfl rfl hdLF_d.2 ⟨Nat.le_of_ble_eq_true rfl, Nat.le_of_ble_eq_true rfl⟩) mk_preS rfl rfl hl.1 rfl (lv_room (Nat.le_of_ble_eq_true rfl)) dHart_longWithNumber_1 ⟨Nat.zero_le _, Nat.zero_le _⟩) ?_
  refine lv_istore_n (lv' := [(2, .int (hf_LongForm_d a1)), (0, .ref h0), (1, .int a1)]) hx hb dHart_longWithNumber_4 rfl hl (by decide) rfl (fun ls hl => ?_)
  refine lv_iload_n hx hb dHart_longWithNumber_5 rfl (lv_at hl 2 rfl) ?_
  refine mk_callR (va_runS (As := [.int a1]) (rest := []) ⟨hx, hb, hml, hown, hts⟩ (hc_LongForm_f l _ a1) (va_cwS 1 hts (mk_gS tw_188 tw_189 tw_54 tw_190) rfl rfl rfl hdLF_f.2 ⟨Nat.le_of_ble_eq_true rfl, Nat.le_of_ble_eq_true rfl⟩) mk_preS rfl rfl hl.1 rfl (lv_room (Nat.le_of_ble_eq_true rfl)) dHart_longWithNumber_6 ⟨Nat.zero_le _, Nat.zero_le _⟩) ?_
  refine lv_istore_n (lv' := [(3, .int (hf_LongForm_f a1)), (2, .int (hf_LongForm_d a1)), (0, .ref h0), (1, .int a1)]) hx hb dHart_longWithNumber_9 rfl hl (by decide) rfl (fun ls hl => ?_)
  refine lv_iload_n hx hb dHart_longWithNumber_10 rfl (lv_at hl 3 rfl) ?_
  refine mk_callR (va_runS (As := [.int a1]) (rest := []) ⟨hx, hb, hml, hown, hts⟩ (hc_LongForm_g l _ a1) (va_cwS 1 hts (mk_gS tw_251 tw_233 tw_54 tw_234) rfl rfl rfl hdLF_g.2 ⟨Nat.le_of_ble_eq_true rfl, Nat.le_of_ble_eq_true rfl⟩) mk_preS rfl rfl hl.1 rfl (lv_room (Nat.le_of_ble_eq_true rfl)) dHart_longWithNumber_11 ⟨Nat.zero_le _, Nat.zero_le _⟩) ?_
  refine lv_istore (lv' := [(4, .int (hf_LongForm_g a1)), (3, .int (hf_LongForm_f a1)), (2, .int (hf_LongForm_d a1)), (0, .ref h0), (1, .int a1)]) hx hb dHart_longWithNumber_14 hl (by decide) rfl (fun ls hl => ?_)
  refine lv_aload_n hx hb dHart_longWithNumber_16 rfl (lv_at hl 3 rfl) ?_
  refine va_get (D := D) (ci := 0) (v := .ref h2) (C := RHart) (T := THart) (N := 8) hx hb hg inHart hown hK hP 0 rfl rfl 1 (by decide) (hg _ tw_84) (fun _ h9 => h9) rfl dHart_longWithNumber_17 ?_
  refine lv_iload_n hx hb dHart_longWithNumber_20 rfl (lv_at hl 4 rfl) ?_
  refine mk_callR (va_runS (As := [.int a1]) (rest := [.ref h2]) ⟨hx, hb, hml, hown, hts⟩ (hc_LongForm_a l _ a1) (va_cwS 1 hts (mk_gS tw_191 tw_192 tw_54 tw_193) rfl rfl rfl hdLF_a.2 ⟨Nat.le_of_ble_eq_true rfl, Nat.le_of_ble_eq_true rfl⟩) mk_preS rfl rfl hl.1 rfl (lv_room (Nat.le_of_ble_eq_true rfl)) dHart_longWithNumber_21 ⟨Nat.zero_le _, Nat.zero_le _⟩) ?_
  refine va_iald (D := D) hx hb hK hP 2 0 rfl rfl (in_LongForm_a _) dHart_longWithNumber_24 ?_
  refine lv_istore (lv' := [(5, .int (hs_regs st ((hf_LongForm_a a1)).toNatClampNeg)), (4, .int (hf_LongForm_g a1)), (3, .int (hf_LongForm_f a1)), (2, .int (hf_LongForm_d a1)), (0, .ref h0), (1, .int a1)]) hx hb dHart_longWithNumber_25 hl (by decide) rfl (fun ls hl => ?_)
  refine lv_iload_n hx hb dHart_longWithNumber_27 rfl (lv_at hl 2 rfl) ?_
  refine lv_iconst (v := 5) hx hb dHart_longWithNumber_28 (by decide) ?_
  refine lv_icmp_ne (tgt := 52) hx hb dHart_longWithNumber_29 (by decide) (fun c_1 => ?_) (fun c_1 => ?_)
  · refine lv_iload_n hx hb dHart_longWithNumber_52 rfl (lv_at hl 2 rfl) ?_
    refine lv_iconst (v := 1) hx hb dHart_longWithNumber_53 (by decide) ?_
    refine lv_icmp_eq (tgt := 62) hx hb dHart_longWithNumber_54 (by decide) (fun c_2 => ?_) (fun c_2 => ?_)
    · refine lv_iload hx hb dHart_longWithNumber_62 (lv_at hl 1 rfl) ?_
      refine lv_if_eq (tgt := 74) hx hb dHart_longWithNumber_64 (by decide) (fun c_3 => ?_) (fun c_3 => ?_)
      · refine lv_aload_n hx hb dHart_longWithNumber_74 rfl (lv_at hl 4 rfl) ?_
        refine lv_iload_n hx hb dHart_longWithNumber_75 rfl (lv_at hl 3 rfl) ?_
        refine lv_iload_n hx hb dHart_longWithNumber_76 rfl (lv_at hl 2 rfl) ?_
        refine lv_iload hx hb dHart_longWithNumber_77 (lv_at hl 0 rfl) ?_
        refine lv_iload_n hx hb dHart_longWithNumber_79 rfl (lv_at hl 5 rfl) ?_
        refine mk_callR (va_runS (As := [.int a1]) (rest := [.int (hs_regs st ((hf_LongForm_a a1)).toNatClampNeg), .int (hf_LongForm_f a1), .int (hf_LongForm_d a1), .ref h0]) ⟨hx, hb, hml, hown, hts⟩ (hc_LongForm_numberI l _ a1) (va_cwS 1 hts (mk_gS tw_194 tw_195 tw_54 tw_196) rfl rfl rfl hdLF_numberI.2 ⟨Nat.le_of_ble_eq_true rfl, Nat.le_of_ble_eq_true rfl⟩) mk_preS rfl rfl hl.1 rfl (lv_room (Nat.le_of_ble_eq_true rfl)) dHart_longWithNumber_80 ⟨Nat.zero_le _, Nat.zero_le _⟩) ?_
        refine mk_callR (va_runS (As := [.int (hf_LongForm_f a1), .int (hs_regs st ((hf_LongForm_a a1)).toNatClampNeg), .int (hf_LongForm_numberI a1)]) (rest := [.int (hf_LongForm_d a1), .ref h0]) ⟨hx, hb, hml, hown, hts⟩ (hc_Arithmetic_plain l _ (hf_LongForm_f a1) (hs_regs st ((hf_LongForm_a a1)).toNatClampNeg) (hf_LongForm_numberI a1)) (va_cwS 3 hts (mk_gS tw_252 tw_253 tw_56 tw_254) rfl rfl rfl hdAr_plain.2 ⟨Nat.le_of_ble_eq_true rfl, Nat.le_of_ble_eq_true rfl⟩) mk_preS rfl rfl hl.1 rfl (lv_room (Nat.le_of_ble_eq_true rfl)) dHart_longWithNumber_83 ⟨Nat.zero_le _, Nat.zero_le _⟩) ?_
        refine mk_callW (va_runV (As := [.int (hf_LongForm_d a1), .int (hf_Arithmetic_plain (hf_LongForm_f a1) (hs_regs st ((hf_LongForm_a a1)).toNatClampNeg) (hf_LongForm_numberI a1))]) (rest := []) ⟨hx, hb, hml, hown, hts⟩ (hc_RiscHart_give l hP hD (hf_LongForm_d a1) (hf_Arithmetic_plain (hf_LongForm_f a1) (hs_regs st ((hf_LongForm_a a1)).toNatClampNeg) (hf_LongForm_numberI a1)) (in_LongForm_d _)) (cwV 2 hts (mk_gV tw_170 tw_172 tw_4 tw_46 tw_173) rfl rfl rfl hdHart_give ⟨Nat.le_of_ble_eq_true rfl, Nat.le_of_ble_eq_true rfl⟩) (mk_preVK hK (va_recv hK hP (ci := 0) (q0 := 0) rfl rfl)) rfl rfl hl.1 rfl (lv_room (Nat.le_of_ble_eq_true rfl)) dHart_longWithNumber_86 ⟨Nat.zero_le _, Nat.zero_le _⟩) hS (fun H locs hP hS => ?_)
        exact W.iret hx hb hr (fun t ht hW => ⟨⟨_, (hf_RiscHart_give st (hf_LongForm_d a1) (hf_Arithmetic_plain (hf_LongForm_f a1) (hs_regs st ((hf_LongForm_a a1)).toNatClampNeg) (hf_LongForm_numberI a1))).2, rfl, (by unfold hf_RiscHart_longWithNumber; rw [if_neg c_1, if_pos c_2, if_pos c_3]), by show va_P D hcl _ t.heap; rw [ht]; exact hP⟩, hS.F ht⟩) hS.2.2 dHart_longWithNumber_89
      · refine lv_aload_n hx hb dHart_longWithNumber_67 rfl (lv_at hl 4 rfl) ?_
        refine lv_iconst (v := 2) hx hb dHart_longWithNumber_68 (by decide) ?_
        refine lv_iload_n hx hb dHart_longWithNumber_69 rfl (lv_at hl 5 rfl) ?_
        refine mk_callW (va_runV (As := [.int 2, .int a1]) (rest := []) ⟨hx, hb, hml, hown, hts⟩ (hc_RiscHart_trap l hP hD 2 a1) (cwV 2 hts (mk_gV tw_139 tw_141 tw_1 tw_46 tw_142) rfl rfl rfl hdHart_trap ⟨Nat.le_of_ble_eq_true rfl, Nat.le_of_ble_eq_true rfl⟩) (mk_preVK hK (va_recv hK hP (ci := 0) (q0 := 0) rfl rfl)) rfl rfl hl.1 rfl (lv_room (Nat.le_of_ble_eq_true rfl)) dHart_longWithNumber_70 ⟨Nat.zero_le _, Nat.zero_le _⟩) hS (fun H locs hP hS => ?_)
        exact W.iret hx hb hr (fun t ht hW => ⟨⟨_, (hf_RiscHart_trap st 2 a1).2, rfl, (by unfold hf_RiscHart_longWithNumber; rw [if_neg c_1, if_pos c_2, if_neg c_3]), by show va_P D hcl _ t.heap; rw [ht]; exact hP⟩, hS.F ht⟩) hS.2.2 dHart_longWithNumber_73
    · refine lv_iload_n hx hb dHart_longWithNumber_57 rfl (lv_at hl 2 rfl) ?_
      refine lv_iconst (v := 5) hx hb dHart_longWithNumber_58 (by decide) ?_
      refine lv_icmp_ne (tgt := 74) hx hb dHart_longWithNumber_59 (by decide) (fun c_4 => ?_) (fun c_4 => ?_)
      · refine lv_aload_n hx hb dHart_longWithNumber_74 rfl (lv_at hl 4 rfl) ?_
        refine lv_iload_n hx hb dHart_longWithNumber_75 rfl (lv_at hl 3 rfl) ?_
        refine lv_iload_n hx hb dHart_longWithNumber_76 rfl (lv_at hl 2 rfl) ?_
        refine lv_iload hx hb dHart_longWithNumber_77 (lv_at hl 0 rfl) ?_
        refine lv_iload_n hx hb dHart_longWithNumber_79 rfl (lv_at hl 5 rfl) ?_
        refine mk_callR (va_runS (As := [.int a1]) (rest := [.int (hs_regs st ((hf_LongForm_a a1)).toNatClampNeg), .int (hf_LongForm_f a1), .int (hf_LongForm_d a1), .ref h0]) ⟨hx, hb, hml, hown, hts⟩ (hc_LongForm_numberI l _ a1) (va_cwS 1 hts (mk_gS tw_194 tw_195 tw_54 tw_196) rfl rfl rfl hdLF_numberI.2 ⟨Nat.le_of_ble_eq_true rfl, Nat.le_of_ble_eq_true rfl⟩) mk_preS rfl rfl hl.1 rfl (lv_room (Nat.le_of_ble_eq_true rfl)) dHart_longWithNumber_80 ⟨Nat.zero_le _, Nat.zero_le _⟩) ?_
        refine mk_callR (va_runS (As := [.int (hf_LongForm_f a1), .int (hs_regs st ((hf_LongForm_a a1)).toNatClampNeg), .int (hf_LongForm_numberI a1)]) (rest := [.int (hf_LongForm_d a1), .ref h0]) ⟨hx, hb, hml, hown, hts⟩ (hc_Arithmetic_plain l _ (hf_LongForm_f a1) (hs_regs st ((hf_LongForm_a a1)).toNatClampNeg) (hf_LongForm_numberI a1)) (va_cwS 3 hts (mk_gS tw_252 tw_253 tw_56 tw_254) rfl rfl rfl hdAr_plain.2 ⟨Nat.le_of_ble_eq_true rfl, Nat.le_of_ble_eq_true rfl⟩) mk_preS rfl rfl hl.1 rfl (lv_room (Nat.le_of_ble_eq_true rfl)) dHart_longWithNumber_83 ⟨Nat.zero_le _, Nat.zero_le _⟩) ?_
        refine mk_callW (va_runV (As := [.int (hf_LongForm_d a1), .int (hf_Arithmetic_plain (hf_LongForm_f a1) (hs_regs st ((hf_LongForm_a a1)).toNatClampNeg) (hf_LongForm_numberI a1))]) (rest := []) ⟨hx, hb, hml, hown, hts⟩ (hc_RiscHart_give l hP hD (hf_LongForm_d a1) (hf_Arithmetic_plain (hf_LongForm_f a1) (hs_regs st ((hf_LongForm_a a1)).toNatClampNeg) (hf_LongForm_numberI a1)) (in_LongForm_d _)) (cwV 2 hts (mk_gV tw_170 tw_172 tw_4 tw_46 tw_173) rfl rfl rfl hdHart_give ⟨Nat.le_of_ble_eq_true rfl, Nat.le_of_ble_eq_true rfl⟩) (mk_preVK hK (va_recv hK hP (ci := 0) (q0 := 0) rfl rfl)) rfl rfl hl.1 rfl (lv_room (Nat.le_of_ble_eq_true rfl)) dHart_longWithNumber_86 ⟨Nat.zero_le _, Nat.zero_le _⟩) hS (fun H locs hP hS => ?_)
        exact W.iret hx hb hr (fun t ht hW => ⟨⟨_, (hf_RiscHart_give st (hf_LongForm_d a1) (hf_Arithmetic_plain (hf_LongForm_f a1) (hs_regs st ((hf_LongForm_a a1)).toNatClampNeg) (hf_LongForm_numberI a1))).2, rfl, (by unfold hf_RiscHart_longWithNumber; rw [if_neg c_1, if_neg c_2, if_neg c_4]), by show va_P D hcl _ t.heap; rw [ht]; exact hP⟩, hS.F ht⟩) hS.2.2 dHart_longWithNumber_89
      · refine lv_iload hx hb dHart_longWithNumber_62 (lv_at hl 1 rfl) ?_
        refine lv_if_eq (tgt := 74) hx hb dHart_longWithNumber_64 (by decide) (fun c_5 => ?_) (fun c_5 => ?_)
        · refine lv_aload_n hx hb dHart_longWithNumber_74 rfl (lv_at hl 4 rfl) ?_
          refine lv_iload_n hx hb dHart_longWithNumber_75 rfl (lv_at hl 3 rfl) ?_
          refine lv_iload_n hx hb dHart_longWithNumber_76 rfl (lv_at hl 2 rfl) ?_
          refine lv_iload hx hb dHart_longWithNumber_77 (lv_at hl 0 rfl) ?_
          refine lv_iload_n hx hb dHart_longWithNumber_79 rfl (lv_at hl 5 rfl) ?_
          refine mk_callR (va_runS (As := [.int a1]) (rest := [.int (hs_regs st ((hf_LongForm_a a1)).toNatClampNeg), .int (hf_LongForm_f a1), .int (hf_LongForm_d a1), .ref h0]) ⟨hx, hb, hml, hown, hts⟩ (hc_LongForm_numberI l _ a1) (va_cwS 1 hts (mk_gS tw_194 tw_195 tw_54 tw_196) rfl rfl rfl hdLF_numberI.2 ⟨Nat.le_of_ble_eq_true rfl, Nat.le_of_ble_eq_true rfl⟩) mk_preS rfl rfl hl.1 rfl (lv_room (Nat.le_of_ble_eq_true rfl)) dHart_longWithNumber_80 ⟨Nat.zero_le _, Nat.zero_le _⟩) ?_
          refine mk_callR (va_runS (As := [.int (hf_LongForm_f a1), .int (hs_regs st ((hf_LongForm_a a1)).toNatClampNeg), .int (hf_LongForm_numberI a1)]) (rest := [.int (hf_LongForm_d a1), .ref h0]) ⟨hx, hb, hml, hown, hts⟩ (hc_Arithmetic_plain l _ (hf_LongForm_f a1) (hs_regs st ((hf_LongForm_a a1)).toNatClampNeg) (hf_LongForm_numberI a1)) (va_cwS 3 hts (mk_gS tw_252 tw_253 tw_56 tw_254) rfl rfl rfl hdAr_plain.2 ⟨Nat.le_of_ble_eq_true rfl, Nat.le_of_ble_eq_true rfl⟩) mk_preS rfl rfl hl.1 rfl (lv_room (Nat.le_of_ble_eq_true rfl)) dHart_longWithNumber_83 ⟨Nat.zero_le _, Nat.zero_le _⟩) ?_
          refine mk_callW (va_runV (As := [.int (hf_LongForm_d a1), .int (hf_Arithmetic_plain (hf_LongForm_f a1) (hs_regs st ((hf_LongForm_a a1)).toNatClampNeg) (hf_LongForm_numberI a1))]) (rest := []) ⟨hx, hb, hml, hown, hts⟩ (hc_RiscHart_give l hP hD (hf_LongForm_d a1) (hf_Arithmetic_plain (hf_LongForm_f a1) (hs_regs st ((hf_LongForm_a a1)).toNatClampNeg) (hf_LongForm_numberI a1)) (in_LongForm_d _)) (cwV 2 hts (mk_gV tw_170 tw_172 tw_4 tw_46 tw_173) rfl rfl rfl hdHart_give ⟨Nat.le_of_ble_eq_true rfl, Nat.le_of_ble_eq_true rfl⟩) (mk_preVK hK (va_recv hK hP (ci := 0) (q0 := 0) rfl rfl)) rfl rfl hl.1 rfl (lv_room (Nat.le_of_ble_eq_true rfl)) dHart_longWithNumber_86 ⟨Nat.zero_le _, Nat.zero_le _⟩) hS (fun H locs hP hS => ?_)
          exact W.iret hx hb hr (fun t ht hW => ⟨⟨_, (hf_RiscHart_give st (hf_LongForm_d a1) (hf_Arithmetic_plain (hf_LongForm_f a1) (hs_regs st ((hf_LongForm_a a1)).toNatClampNeg) (hf_LongForm_numberI a1))).2, rfl, (by unfold hf_RiscHart_longWithNumber; rw [if_neg c_1, if_neg c_2, if_pos c_4, if_pos c_5]), by show va_P D hcl _ t.heap; rw [ht]; exact hP⟩, hS.F ht⟩) hS.2.2 dHart_longWithNumber_89
        · refine lv_aload_n hx hb dHart_longWithNumber_67 rfl (lv_at hl 4 rfl) ?_
          refine lv_iconst (v := 2) hx hb dHart_longWithNumber_68 (by decide) ?_
          refine lv_iload_n hx hb dHart_longWithNumber_69 rfl (lv_at hl 5 rfl) ?_
          refine mk_callW (va_runV (As := [.int 2, .int a1]) (rest := []) ⟨hx, hb, hml, hown, hts⟩ (hc_RiscHart_trap l hP hD 2 a1) (cwV 2 hts (mk_gV tw_139 tw_141 tw_1 tw_46 tw_142) rfl rfl rfl hdHart_trap ⟨Nat.le_of_ble_eq_true rfl, Nat.le_of_ble_eq_true rfl⟩) (mk_preVK hK (va_recv hK hP (ci := 0) (q0 := 0) rfl rfl)) rfl rfl hl.1 rfl (lv_room (Nat.le_of_ble_eq_true rfl)) dHart_longWithNumber_70 ⟨Nat.zero_le _, Nat.zero_le _⟩) hS (fun H locs hP hS => ?_)
          exact W.iret hx hb hr (fun t ht hW => ⟨⟨_, (hf_RiscHart_trap st 2 a1).2, rfl, (by unfold hf_RiscHart_longWithNumber; rw [if_neg c_1, if_neg c_2, if_pos c_4, if_neg c_5]), by show va_P D hcl _ t.heap; rw [ht]; exact hP⟩, hS.F ht⟩) hS.2.2 dHart_longWithNumber_73
  · refine lv_iload hx hb dHart_longWithNumber_32 (lv_at hl 1 rfl) ?_
    refine lv_bipush (v := 32) hx hb dHart_longWithNumber_34 (by decide) ?_
    refine lv_icmp_ne (tgt := 52) hx hb dHart_longWithNumber_36 (by decide) (fun c_6 => ?_) (fun c_6 => ?_)
    · refine lv_iload_n hx hb dHart_longWithNumber_52 rfl (lv_at hl 2 rfl) ?_
      refine lv_iconst (v := 1) hx hb dHart_longWithNumber_53 (by decide) ?_
      refine lv_icmp_eq (tgt := 62) hx hb dHart_longWithNumber_54 (by decide) (fun c_7 => ?_) (fun c_7 => ?_)
      · refine lv_iload hx hb dHart_longWithNumber_62 (lv_at hl 1 rfl) ?_
        refine lv_if_eq (tgt := 74) hx hb dHart_longWithNumber_64 (by decide) (fun c_8 => ?_) (fun c_8 => ?_)
        · refine lv_aload_n hx hb dHart_longWithNumber_74 rfl (lv_at hl 4 rfl) ?_
          refine lv_iload_n hx hb dHart_longWithNumber_75 rfl (lv_at hl 3 rfl) ?_
          refine lv_iload_n hx hb dHart_longWithNumber_76 rfl (lv_at hl 2 rfl) ?_
          refine lv_iload hx hb dHart_longWithNumber_77 (lv_at hl 0 rfl) ?_
          refine lv_iload_n hx hb dHart_longWithNumber_79 rfl (lv_at hl 5 rfl) ?_
          refine mk_callR (va_runS (As := [.int a1]) (rest := [.int (hs_regs st ((hf_LongForm_a a1)).toNatClampNeg), .int (hf_LongForm_f a1), .int (hf_LongForm_d a1), .ref h0]) ⟨hx, hb, hml, hown, hts⟩ (hc_LongForm_numberI l _ a1) (va_cwS 1 hts (mk_gS tw_194 tw_195 tw_54 tw_196) rfl rfl rfl hdLF_numberI.2 ⟨Nat.le_of_ble_eq_true rfl, Nat.le_of_ble_eq_true rfl⟩) mk_preS rfl rfl hl.1 rfl (lv_room (Nat.le_of_ble_eq_true rfl)) dHart_longWithNumber_80 ⟨Nat.zero_le _, Nat.zero_le _⟩) ?_
          refine mk_callR (va_runS (As := [.int (hf_LongForm_f a1), .int (hs_regs st ((hf_LongForm_a a1)).toNatClampNeg), .int (hf_LongForm_numberI a1)]) (rest := [.int (hf_LongForm_d a1), .ref h0]) ⟨hx, hb, hml, hown, hts⟩ (hc_Arithmetic_plain l _ (hf_LongForm_f a1) (hs_regs st ((hf_LongForm_a a1)).toNatClampNeg) (hf_LongForm_numberI a1)) (va_cwS 3 hts (mk_gS tw_252 tw_253 tw_56 tw_254) rfl rfl rfl hdAr_plain.2 ⟨Nat.le_of_ble_eq_true rfl, Nat.le_of_ble_eq_true rfl⟩) mk_preS rfl rfl hl.1 rfl (lv_room (Nat.le_of_ble_eq_true rfl)) dHart_longWithNumber_83 ⟨Nat.zero_le _, Nat.zero_le _⟩) ?_
          refine mk_callW (va_runV (As := [.int (hf_LongForm_d a1), .int (hf_Arithmetic_plain (hf_LongForm_f a1) (hs_regs st ((hf_LongForm_a a1)).toNatClampNeg) (hf_LongForm_numberI a1))]) (rest := []) ⟨hx, hb, hml, hown, hts⟩ (hc_RiscHart_give l hP hD (hf_LongForm_d a1) (hf_Arithmetic_plain (hf_LongForm_f a1) (hs_regs st ((hf_LongForm_a a1)).toNatClampNeg) (hf_LongForm_numberI a1)) (in_LongForm_d _)) (cwV 2 hts (mk_gV tw_170 tw_172 tw_4 tw_46 tw_173) rfl rfl rfl hdHart_give ⟨Nat.le_of_ble_eq_true rfl, Nat.le_of_ble_eq_true rfl⟩) (mk_preVK hK (va_recv hK hP (ci := 0) (q0 := 0) rfl rfl)) rfl rfl hl.1 rfl (lv_room (Nat.le_of_ble_eq_true rfl)) dHart_longWithNumber_86 ⟨Nat.zero_le _, Nat.zero_le _⟩) hS (fun H locs hP hS => ?_)
          exact W.iret hx hb hr (fun t ht hW => ⟨⟨_, (hf_RiscHart_give st (hf_LongForm_d a1) (hf_Arithmetic_plain (hf_LongForm_f a1) (hs_regs st ((hf_LongForm_a a1)).toNatClampNeg) (hf_LongForm_numberI a1))).2, rfl, (by unfold hf_RiscHart_longWithNumber; rw [if_pos c_1, if_neg c_6, if_pos c_7, if_pos c_8]), by show va_P D hcl _ t.heap; rw [ht]; exact hP⟩, hS.F ht⟩) hS.2.2 dHart_longWithNumber_89
        · refine lv_aload_n hx hb dHart_longWithNumber_67 rfl (lv_at hl 4 rfl) ?_
          refine lv_iconst (v := 2) hx hb dHart_longWithNumber_68 (by decide) ?_
          refine lv_iload_n hx hb dHart_longWithNumber_69 rfl (lv_at hl 5 rfl) ?_
          refine mk_callW (va_runV (As := [.int 2, .int a1]) (rest := []) ⟨hx, hb, hml, hown, hts⟩ (hc_RiscHart_trap l hP hD 2 a1) (cwV 2 hts (mk_gV tw_139 tw_141 tw_1 tw_46 tw_142) rfl rfl rfl hdHart_trap ⟨Nat.le_of_ble_eq_true rfl, Nat.le_of_ble_eq_true rfl⟩) (mk_preVK hK (va_recv hK hP (ci := 0) (q0 := 0) rfl rfl)) rfl rfl hl.1 rfl (lv_room (Nat.le_of_ble_eq_true rfl)) dHart_longWithNumber_70 ⟨Nat.zero_le _, Nat.zero_le _⟩) hS (fun H locs hP hS => ?_)
          exact W.iret hx hb hr (fun t ht hW => ⟨⟨_, (hf_RiscHart_trap st 2 a1).2, rfl, (by unfold hf_RiscHart_longWithNumber; rw [if_pos c_1, if_neg c_6, if_pos c_7, if_neg c_8]), by show va_P D hcl _ t.heap; rw [ht]; exact hP⟩, hS.F ht⟩) hS.2.2 dHart_longWithNumber_73
      · refine lv_iload_n hx hb dHart_longWithNumber_57 rfl (lv_at hl 2 rfl) ?_
        refine lv_iconst (v := 5) hx hb dHart_longWithNumber_58 (by decide) ?_
        refine lv_icmp_ne (tgt := 74) hx hb dHart_longWithNumber_59 (by decide) (fun c_9 => ?_) (fun c_9 => ?_)
        · refine lv_aload_n hx hb dHart_longWithNumber_74 rfl (lv_at hl 4 rfl) ?_
          refine lv_iload_n hx hb dHart_longWithNumber_75 rfl (lv_at hl 3 rfl) ?_
          refine lv_iload_n hx hb dHart_longWithNumber_76 rfl (lv_at hl 2 rfl) ?_
          refine lv_iload hx hb dHart_longWithNumber_77 (lv_at hl 0 rfl) ?_
          refine lv_iload_n hx hb dHart_longWithNumber_79 rfl (lv_at hl 5 rfl) ?_
          refine mk_callR (va_runS (As := [.int a1]) (rest := [.int (hs_regs st ((hf_LongForm_a a1)).toNatClampNeg), .int (hf_LongForm_f a1), .int (hf_LongForm_d a1), .ref h0]) ⟨hx, hb, hml, hown, hts⟩ (hc_LongForm_numberI l _ a1) (va_cwS 1 hts (mk_gS tw_194 tw_195 tw_54 tw_196) rfl rfl rfl hdLF_numberI.2 ⟨Nat.le_of_ble_eq_true rfl, Nat.le_of_ble_eq_true rfl⟩) mk_preS rfl rfl hl.1 rfl (lv_room (Nat.le_of_ble_eq_true rfl)) dHart_longWithNumber_80 ⟨Nat.zero_le _, Nat.zero_le _⟩) ?_
          refine mk_callR (va_runS (As := [.int (hf_LongForm_f a1), .int (hs_regs st ((hf_LongForm_a a1)).toNatClampNeg), .int (hf_LongForm_numberI a1)]) (rest := [.int (hf_LongForm_d a1), .ref h0]) ⟨hx, hb, hml, hown, hts⟩ (hc_Arithmetic_plain l _ (hf_LongForm_f a1) (hs_regs st ((hf_LongForm_a a1)).toNatClampNeg) (hf_LongForm_numberI a1)) (va_cwS 3 hts (mk_gS tw_252 tw_253 tw_56 tw_254) rfl rfl rfl hdAr_plain.2 ⟨Nat.le_of_ble_eq_true rfl, Nat.le_of_ble_eq_true rfl⟩) mk_preS rfl rfl hl.1 rfl (lv_room (Nat.le_of_ble_eq_true rfl)) dHart_longWithNumber_83 ⟨Nat.zero_le _, Nat.zero_le _⟩) ?_
          refine mk_callW (va_runV (As := [.int (hf_LongForm_d a1), .int (hf_Arithmetic_plain (hf_LongForm_f a1) (hs_regs st ((hf_LongForm_a a1)).toNatClampNeg) (hf_LongForm_numberI a1))]) (rest := []) ⟨hx, hb, hml, hown, hts⟩ (hc_RiscHart_give l hP hD (hf_LongForm_d a1) (hf_Arithmetic_plain (hf_LongForm_f a1) (hs_regs st ((hf_LongForm_a a1)).toNatClampNeg) (hf_LongForm_numberI a1)) (in_LongForm_d _)) (cwV 2 hts (mk_gV tw_170 tw_172 tw_4 tw_46 tw_173) rfl rfl rfl hdHart_give ⟨Nat.le_of_ble_eq_true rfl, Nat.le_of_ble_eq_true rfl⟩) (mk_preVK hK (va_recv hK hP (ci := 0) (q0 := 0) rfl rfl)) rfl rfl hl.1 rfl (lv_room (Nat.le_of_ble_eq_true rfl)) dHart_longWithNumber_86 ⟨Nat.zero_le _, Nat.zero_le _⟩) hS (fun H locs hP hS => ?_)
          exact W.iret hx hb hr (fun t ht hW => ⟨⟨_, (hf_RiscHart_give st (hf_LongForm_d a1) (hf_Arithmetic_plain (hf_LongForm_f a1) (hs_regs st ((hf_LongForm_a a1)).toNatClampNeg) (hf_LongForm_numberI a1))).2, rfl, (by unfold hf_RiscHart_longWithNumber; rw [if_pos c_1, if_neg c_6, if_neg c_7, if_neg c_9]), by show va_P D hcl _ t.heap; rw [ht]; exact hP⟩, hS.F ht⟩) hS.2.2 dHart_longWithNumber_89
        · refine lv_iload hx hb dHart_longWithNumber_62 (lv_at hl 1 rfl) ?_
          refine lv_if_eq (tgt := 74) hx hb dHart_longWithNumber_64 (by decide) (fun c_10 => ?_) (fun c_10 => ?_)
          · refine lv_aload_n hx hb dHart_longWithNumber_74 rfl (lv_at hl 4 rfl) ?_
            refine lv_iload_n hx hb dHart_longWithNumber_75 rfl (lv_at hl 3 rfl) ?_
            refine lv_iload_n hx hb dHart_longWithNumber_76 rfl (lv_at hl 2 rfl) ?_
            refine lv_iload hx hb dHart_longWithNumber_77 (lv_at hl 0 rfl) ?_
            refine lv_iload_n hx hb dHart_longWithNumber_79 rfl (lv_at hl 5 rfl) ?_
            refine mk_callR (va_runS (As := [.int a1]) (rest := [.int (hs_regs st ((hf_LongForm_a a1)).toNatClampNeg), .int (hf_LongForm_f a1), .int (hf_LongForm_d a1), .ref h0]) ⟨hx, hb, hml, hown, hts⟩ (hc_LongForm_numberI l _ a1) (va_cwS 1 hts (mk_gS tw_194 tw_195 tw_54 tw_196) rfl rfl rfl hdLF_numberI.2 ⟨Nat.le_of_ble_eq_true rfl, Nat.le_of_ble_eq_true rfl⟩) mk_preS rfl rfl hl.1 rfl (lv_room (Nat.le_of_ble_eq_true rfl)) dHart_longWithNumber_80 ⟨Nat.zero_le _, Nat.zero_le _⟩) ?_
            refine mk_callR (va_runS (As := [.int (hf_LongForm_f a1), .int (hs_regs st ((hf_LongForm_a a1)).toNatClampNeg), .int (hf_LongForm_numberI a1)]) (rest := [.int (hf_LongForm_d a1), .ref h0]) ⟨hx, hb, hml, hown, hts⟩ (hc_Arithmetic_plain l _ (hf_LongForm_f a1) (hs_regs st ((hf_LongForm_a a1)).toNatClampNeg) (hf_LongForm_numberI a1)) (va_cwS 3 hts (mk_gS tw_252 tw_253 tw_56 tw_254) rfl rfl rfl hdAr_plain.2 ⟨Nat.le_of_ble_eq_true rfl, Nat.le_of_ble_eq_true rfl⟩) mk_preS rfl rfl hl.1 rfl (lv_room (Nat.le_of_ble_eq_true rfl)) dHart_longWithNumber_83 ⟨Nat.zero_le _, Nat.zero_le _⟩) ?_
            refine mk_callW (va_runV (As := [.int (hf_LongForm_d a1), .int (hf_Arithmetic_plain (hf_LongForm_f a1) (hs_regs st ((hf_LongForm_a a1)).toNatClampNeg) (hf_LongForm_numberI a1))]) (rest := []) ⟨hx, hb, hml, hown, hts⟩ (hc_RiscHart_give l hP hD (hf_LongForm_d a1) (hf_Arithmetic_plain (hf_LongForm_f a1) (hs_regs st ((hf_LongForm_a a1)).toNatClampNeg) (hf_LongForm_numberI a1)) (in_LongForm_d _)) (cwV 2 hts (mk_gV tw_170 tw_172 tw_4 tw_46 tw_173) rfl rfl rfl hdHart_give ⟨Nat.le_of_ble_eq_true rfl, Nat.le_of_ble_eq_true rfl⟩) (mk_preVK hK (va_recv hK hP (ci := 0) (q0 := 0) rfl rfl)) rfl rfl hl.1 rfl (lv_room (Nat.le_of_ble_eq_true rfl)) dHart_longWithNumber_86 ⟨Nat.zero_le _, Nat.zero_le _⟩) hS (fun H locs hP hS => ?_)
            exact W.iret hx hb hr (fun t ht hW => ⟨⟨_, (hf_RiscHart_give st (hf_LongForm_d a1) (hf_Arithmetic_plain (hf_LongForm_f a1) (hs_regs st ((hf_LongForm_a a1)).toNatClampNeg) (hf_LongForm_numberI a1))).2, rfl, (by unfold hf_RiscHart_longWithNumber; rw [if_pos c_1, if_neg c_6, if_neg c_7, if_pos c_9, if_pos c_10]), by show va_P D hcl _ t.heap; rw [ht]; exact hP⟩, hS.F ht⟩) hS.2.2 dHart_longWithNumber_89
          · refine lv_aload_n hx hb dHart_longWithNumber_67 rfl (lv_at hl 4 rfl) ?_
            refine lv_iconst (v := 2) hx hb dHart_longWithNumber_68 (by decide) ?_
            refine lv_iload_n hx hb dHart_longWithNumber_69 rfl (lv_at hl 5 rfl) ?_
            refine mk_callW (va_runV (As := [.int 2, .int a1]) (rest := []) ⟨hx, hb, hml, hown, hts⟩ (hc_RiscHart_trap l hP hD 2 a1) (cwV 2 hts (mk_gV tw_139 tw_141 tw_1 tw_46 tw_142) rfl rfl rfl hdHart_trap ⟨Nat.le_of_ble_eq_true rfl, Nat.le_of_ble_eq_true rfl⟩) (mk_preVK hK (va_recv hK hP (ci := 0) (q0 := 0) rfl rfl)) rfl rfl hl.1 rfl (lv_room (Nat.le_of_ble_eq_true rfl)) dHart_longWithNumber_70 ⟨Nat.zero_le _, Nat.zero_le _⟩) hS (fun H locs hP hS => ?_)
            exact W.iret hx hb hr (fun t ht hW => ⟨⟨_, (hf_RiscHart_trap st 2 a1).2, rfl, (by unfold hf_RiscHart_longWithNumber; rw [if_pos c_1, if_neg c_6, if_neg c_7, if_pos c_9, if_neg c_10]), by show va_P D hcl _ t.heap; rw [ht]; exact hP⟩, hS.F ht⟩) hS.2.2 dHart_longWithNumber_73
    · refine lv_aload_n hx hb dHart_longWithNumber_39 rfl (lv_at hl 4 rfl) ?_
      refine lv_iload_n hx hb dHart_longWithNumber_40 rfl (lv_at hl 3 rfl) ?_
      refine lv_iload hx hb dHart_longWithNumber_41 (lv_at hl 0 rfl) ?_
      refine lv_iload_n hx hb dHart_longWithNumber_43 rfl (lv_at hl 5 rfl) ?_
      refine mk_callR (va_runS (As := [.int a1]) (rest := [.int (hs_regs st ((hf_LongForm_a a1)).toNatClampNeg), .int (hf_LongForm_d a1), .ref h0]) ⟨hx, hb, hml, hown, hts⟩ (hc_LongForm_b l _ a1) (va_cwS 1 hts (mk_gS tw_201 tw_202 tw_54 tw_203) rfl rfl rfl hdLF_b.2 ⟨Nat.le_of_ble_eq_true rfl, Nat.le_of_ble_eq_true rfl⟩) mk_preS rfl rfl hl.1 rfl (lv_room (Nat.le_of_ble_eq_true rfl)) dHart_longWithNumber_44 ⟨Nat.zero_le _, Nat.zero_le _⟩) ?_
      refine lv_ishr hx hb dHart_longWithNumber_47 ?_
      refine mk_callW (va_runV (As := [.int (hf_LongForm_d a1), .int ((hs_regs st ((hf_LongForm_a a1)).toNatClampNeg) >>> ((hf_LongForm_b a1) &&& 31))]) (rest := []) ⟨hx, hb, hml, hown, hts⟩ (hc_RiscHart_give l hP hD (hf_LongForm_d a1) ((hs_regs st ((hf_LongForm_a a1)).toNatClampNeg) >>> ((hf_LongForm_b a1) &&& 31)) (in_LongForm_d _)) (cwV 2 hts (mk_gV tw_170 tw_172 tw_4 tw_46 tw_173) rfl rfl rfl hdHart_give ⟨Nat.le_of_ble_eq_true rfl, Nat.le_of_ble_eq_true rfl⟩) (mk_preVK hK (va_recv hK hP (ci := 0) (q0 := 0) rfl rfl)) rfl rfl hl.1 rfl (lv_room (Nat.le_of_ble_eq_true rfl)) dHart_longWithNumber_48 ⟨Nat.zero_le _, Nat.zero_le _⟩) hS (fun H locs hP hS => ?_)
      exact W.iret hx hb hr (fun t ht hW => ⟨⟨_, (hf_RiscHart_give st (hf_LongForm_d a1) ((hs_regs st ((hf_LongForm_a a1)).toNatClampNeg) >>> ((hf_LongForm_b a1) &&& 31))).2, rfl, (by unfold hf_RiscHart_longWithNumber; rw [if_pos c_1, if_pos c_6]), by show va_P D hcl _ t.heap; rw [ht]; exact hP⟩, hS.F ht⟩) hS.2.2 dHart_longWithNumber_51
set_option maxHeartbeats 4000000 in
set_option maxRecDepth 100000 in
theorem hc_RiscHart_longWithRegisters (l : Launch) {D : va_G} {cR cW cP : ClassId} {h0 h1 h2 h3 h4 : Nat} {A : Nat → Prop} {st : HS} {G : Heap} (hP : va_P D hcl (hs_W cR cW cP h0 h1 h2 h3 h4 st) G) (hD : ∀ z, va_D A (hs_W cR cW cP h0 h1 h2 h3 h4 z)) (a1 : Int32)  : Met l yHart_longWithRegisters (wq yHart_longWithRegisters cHart_longWithRegisters 6 (some .int)) ({ frames := 2, cells := 0, slots := 0, locals := 45 }) (mk_PK D hcl [(cR, .int), (cW, .int), (cP, .int)] G [.ref h0, .int a1]) (mk_Wi (fun u t => va_P D hcl (hs_W cR cW cP h0 h1 h2 h3 h4 u) t) A (hf_RiscHart_longWithRegisters st a1)) 0 0 A := by
  refine Met.ofW (cc := cHart_longWithRegisters) (maxL := 6) (ret := (some .int)) (by decide) rfl ?_
  intro p e s m args below meth c s₁ B hml hv
  obtain ⟨rfl, hG, hK⟩ := hv
  subst hG
  have hx := B.exec
  have hb := B.bytes
  have hr := B.returns
  have hts := atoms_spec (ws := (wq yHart_longWithRegisters cHart_longWithRegisters 6 (some .int))) B.pre
  have hown : s.vm.findClass RHart = some m.cls := findClass_of_methodNamed B.named
  have hlocks := B.notSynchronized
  have hg : ∀ w ∈ lw_g, w.before _ s = true := fun w h => hts w (List.mem_cons_of_mem _ h)
  have hS : va_S A s.heap s.heap [] := va_S.rf
  have hl := lv_entry ([.ref h0, .int a1]) (n := 6) (Nat.le_of_ble_eq_true rfl)
  rw [lg_entry_eq]
  generalize (lg_sl ([.ref h0, .int a1]) ++ List.replicate (6 - (lg_sl ([.ref h0, .int a1])).length) Slot.unset).toArray = ls at hl ⊢
  have hl : lv_has ls 6 [(0, .ref h0), (1, .int a1)] := hl
  refine lv_iload_n hx hb dHart_longWithRegisters_0 rfl (lv_at hl 1 rfl) ?_
  refine mk_callR (va_runS (As := [.int a1]) (rest := []) ⟨hx, hb, hml, hown, hts⟩ (hc_LongForm_d l _ a1) (va_cwS 1 hts (mk_gS tw_161 tw_162 tw_54 tw_163) rfl rfl rfl hdLF_d.2 ⟨Nat.le_of_ble_eq_true rfl, Nat.le_of_ble_eq_true rfl⟩) mk_preS rfl rfl hl.1 rfl (lv_room (Nat.le_of_ble_eq_true rfl)) dHart_longWithRegisters_1 ⟨Nat.zero_le _, Nat.zero_le _⟩) ?_
  refine lv_istore_n (lv' := [(2, .int (hf_LongForm_d a1)), (0, .ref h0), (1, .int a1)]) hx hb dHart_longWithRegisters_4 rfl hl (by decide) rfl (fun ls hl => ?_)
  refine lv_iload_n hx hb dHart_longWithRegisters_5 rfl (lv_at hl 2 rfl) ?_
  refine mk_callR (va_runS (As := [.int a1]) (rest := []) ⟨hx, hb, hml, hown, hts⟩ (hc_LongForm_f l _ a1) (va_cwS 1 hts (mk_gS tw_188 tw_189 tw_54 tw_190) rfl rfl rfl hdLF_f.2 ⟨Nat.le_of_ble_eq_true rfl, Nat.le_of_ble_eq_true rfl⟩) mk_preS rfl rfl hl.1 rfl (lv_room (Nat.le_of_ble_eq_true rfl)) dHart_longWithRegisters_6 ⟨Nat.zero_le _, Nat.zero_le _⟩) ?_
  refine lv_istore_n (lv' := [(3, .int (hf_LongForm_f a1)), (2, .int (hf_LongForm_d a1)), (0, .ref h0), (1, .int a1)]) hx hb dHart_longWithRegisters_9 rfl hl (by decide) rfl (fun ls hl => ?_)
  refine lv_aload_n hx hb dHart_longWithRegisters_10 rfl (lv_at hl 2 rfl) ?_
  refine va_get (D := D) (ci := 0) (v := .ref h2) (C := RHart) (T := THart) (N := 8) hx hb hg inHart hown hK hP 0 rfl rfl 1 (by decide) (hg _ tw_84) (fun _ h9 => h9) rfl dHart_longWithRegisters_11 ?_
  refine lv_iload_n hx hb dHart_longWithRegisters_14 rfl (lv_at hl 3 rfl) ?_
  refine mk_callR (va_runS (As := [.int a1]) (rest := [.ref h2]) ⟨hx, hb, hml, hown, hts⟩ (hc_LongForm_a l _ a1) (va_cwS 1 hts (mk_gS tw_191 tw_192 tw_54 tw_193) rfl rfl rfl hdLF_a.2 ⟨Nat.le_of_ble_eq_true rfl, Nat.le_of_ble_eq_true rfl⟩) mk_preS rfl rfl hl.1 rfl (lv_room (Nat.le_of_ble_eq_true rfl)) dHart_longWithRegisters_15 ⟨Nat.zero_le _, Nat.zero_le _⟩) ?_
  refine va_iald (D := D) hx hb hK hP 2 0 rfl rfl (in_LongForm_a _) dHart_longWithRegisters_18 ?_
  refine lv_istore (lv' := [(4, .int (hs_regs st ((hf_LongForm_a a1)).toNatClampNeg)), (3, .int (hf_LongForm_f a1)), (2, .int (hf_LongForm_d a1)), (0, .ref h0), (1, .int a1)]) hx hb dHart_longWithRegisters_19 hl (by decide) rfl (fun ls hl => ?_)
  refine lv_aload_n hx hb dHart_longWithRegisters_21 rfl (lv_at hl 3 rfl) ?_
  refine va_get (D := D) (ci := 0) (v := .ref h2) (C := RHart) (T := THart) (N := 8) hx hb hg inHart hown hK hP 0 rfl rfl 1 (by decide) (hg _ tw_84) (fun _ h9 => h9) rfl dHart_longWithRegisters_22 ?_
  refine lv_iload_n hx hb dHart_longWithRegisters_25 rfl (lv_at hl 4 rfl) ?_
  refine mk_callR (va_runS (As := [.int a1]) (rest := [.ref h2]) ⟨hx, hb, hml, hown, hts⟩ (hc_LongForm_b l _ a1) (va_cwS 1 hts (mk_gS tw_201 tw_202 tw_54 tw_203) rfl rfl rfl hdLF_b.2 ⟨Nat.le_of_ble_eq_true rfl, Nat.le_of_ble_eq_true rfl⟩) mk_preS rfl rfl hl.1 rfl (lv_room (Nat.le_of_ble_eq_true rfl)) dHart_longWithRegisters_26 ⟨Nat.zero_le _, Nat.zero_le _⟩) ?_
  refine va_iald (D := D) hx hb hK hP 2 0 rfl rfl (in_LongForm_b _) dHart_longWithRegisters_29 ?_
  refine lv_istore (lv' := [(5, .int (hs_regs st ((hf_LongForm_b a1)).toNatClampNeg)), (4, .int (hs_regs st ((hf_LongForm_a a1)).toNatClampNeg)), (3, .int (hf_LongForm_f a1)), (2, .int (hf_LongForm_d a1)), (0, .ref h0), (1, .int a1)]) hx hb dHart_longWithRegisters_30 hl (by decide) rfl (fun ls hl => ?_)
  refine lv_iload_n hx hb dHart_longWithRegisters_32 rfl (lv_at hl 5 rfl) ?_
  refine mk_callR (va_runS (As := [.int a1]) (rest := []) ⟨hx, hb, hml, hown, hts⟩ (hc_LongForm_g l _ a1) (va_cwS 1 hts (mk_gS tw_251 tw_233 tw_54 tw_234) rfl rfl rfl hdLF_g.2 ⟨Nat.le_of_ble_eq_true rfl, Nat.le_of_ble_eq_true rfl⟩) mk_preS rfl rfl hl.1 rfl (lv_room (Nat.le_of_ble_eq_true rfl)) dHart_longWithRegisters_33 ⟨Nat.zero_le _, Nat.zero_le _⟩) ?_
  by_cases c_1 : (hf_LongForm_g a1) = 0
  · refine lv_lookup (off := 36) (tgt := 72) hx hb dHart_longWithRegisters_36 (by decide) (by rw [c_1]; decide) (by decide) ?_
    refine lv_aload_n hx hb dHart_longWithRegisters_72 rfl (lv_at hl 4 rfl) ?_
    refine lv_iload_n hx hb dHart_longWithRegisters_73 rfl (lv_at hl 3 rfl) ?_
    refine lv_iload_n hx hb dHart_longWithRegisters_74 rfl (lv_at hl 2 rfl) ?_
    refine lv_iload hx hb dHart_longWithRegisters_75 (lv_at hl 1 rfl) ?_
    refine lv_iload hx hb dHart_longWithRegisters_77 (lv_at hl 0 rfl) ?_
    refine mk_callR (va_runS (As := [.int (hf_LongForm_f a1), .int (hs_regs st ((hf_LongForm_a a1)).toNatClampNeg), .int (hs_regs st ((hf_LongForm_b a1)).toNatClampNeg)]) (rest := [.int (hf_LongForm_d a1), .ref h0]) ⟨hx, hb, hml, hown, hts⟩ (hc_Arithmetic_plain l _ (hf_LongForm_f a1) (hs_regs st ((hf_LongForm_a a1)).toNatClampNeg) (hs_regs st ((hf_LongForm_b a1)).toNatClampNeg)) (va_cwS 3 hts (mk_gS tw_252 tw_253 tw_56 tw_254) rfl rfl rfl hdAr_plain.2 ⟨Nat.le_of_ble_eq_true rfl, Nat.le_of_ble_eq_true rfl⟩) mk_preS rfl rfl hl.1 rfl (lv_room (Nat.le_of_ble_eq_true rfl)) dHart_longWithRegisters_79 ⟨Nat.zero_le _, Nat.zero_le _⟩) ?_
    refine mk_callW (va_runV (As := [.int (hf_LongForm_d a1), .int (hf_Arithmetic_plain (hf_LongForm_f a1) (hs_regs st ((hf_LongForm_a a1)).toNatClampNeg) (hs_regs st ((hf_LongForm_b a1)).toNatClampNeg))]) (rest := []) ⟨hx, hb, hml, hown, hts⟩ (hc_RiscHart_give l hP hD (hf_LongForm_d a1) (hf_Arithmetic_plain (hf_LongForm_f a1) (hs_regs st ((hf_LongForm_a a1)).toNatClampNeg) (hs_regs st ((hf_LongForm_b a1)).toNatClampNeg)) (in_LongForm_d _)) (cwV 2 hts (mk_gV tw_170 tw_172 tw_4 tw_46 tw_173) rfl rfl rfl hdHart_give ⟨Nat.le_of_ble_eq_true rfl, Nat.le_of_ble_eq_true rfl⟩) (mk_preVK hK (va_recv hK hP (ci := 0) (q0 := 0) rfl rfl)) rfl rfl hl.1 rfl (lv_room (Nat.le_of_ble_eq_true rfl)) dHart_longWithRegisters_82 ⟨Nat.zero_le _, Nat.zero_le _⟩) hS (fun H locs hP hS => ?_)
    exact W.iret hx hb hr (fun t ht hW => ⟨⟨_, (hf_RiscHart_give st (hf_LongForm_d a1) (hf_Arithmetic_plain (hf_LongForm_f a1) (hs_regs st ((hf_LongForm_a a1)).toNatClampNeg) (hs_regs st ((hf_LongForm_b a1)).toNatClampNeg))).2, rfl, (by unfold hf_RiscHart_longWithRegisters; rw [if_pos c_1]), by show va_P D hcl _ t.heap; rw [ht]; exact hP⟩, hS.F ht⟩) hS.2.2 dHart_longWithRegisters_85
  by_cases c_2 : (hf_LongForm_g a1) = 1
  · refine lv_lookup (off := 50) (tgt := 86) hx hb dHart_longWithRegisters_36 (by decide) (by rw [c_2]; decide) (by decide) ?_
    refine lv_aload_n hx hb dHart_longWithRegisters_86 rfl (lv_at hl 4 rfl) ?_
    refine lv_iload_n hx hb dHart_longWithRegisters_87 rfl (lv_at hl 3 rfl) ?_
    refine lv_iload_n hx hb dHart_longWithRegisters_88 rfl (lv_at hl 2 rfl) ?_
    refine lv_iload hx hb dHart_longWithRegisters_89 (lv_at hl 1 rfl) ?_
    refine lv_iload hx hb dHart_longWithRegisters_91 (lv_at hl 0 rfl) ?_
    refine mk_callR (va_runS (As := [.int (hf_LongForm_f a1), .int (hs_regs st ((hf_LongForm_a a1)).toNatClampNeg), .int (hs_regs st ((hf_LongForm_b a1)).toNatClampNeg)]) (rest := [.int (hf_LongForm_d a1), .ref h0]) ⟨hx, hb, hml, hown, hts⟩ (hc_Arithmetic_multipliedOrDivided l _ (hf_LongForm_f a1) (hs_regs st ((hf_LongForm_a a1)).toNatClampNeg) (hs_regs st ((hf_LongForm_b a1)).toNatClampNeg)) (va_cwS 3 hts (mk_gS tw_260 tw_261 tw_56 tw_262) rfl rfl rfl hdAr_multipliedOrDivided.2 ⟨Nat.le_of_ble_eq_true rfl, Nat.le_of_ble_eq_true rfl⟩) mk_preS rfl rfl hl.1 rfl (lv_room (Nat.le_of_ble_eq_true rfl)) dHart_longWithRegisters_93 ⟨Nat.zero_le _, Nat.zero_le _⟩) ?_
    refine mk_callW (va_runV (As := [.int (hf_LongForm_d a1), .int (hf_Arithmetic_multipliedOrDivided (hf_LongForm_f a1) (hs_regs st ((hf_LongForm_a a1)).toNatClampNeg) (hs_regs st ((hf_LongForm_b a1)).toNatClampNeg))]) (rest := []) ⟨hx, hb, hml, hown, hts⟩ (hc_RiscHart_give l hP hD (hf_LongForm_d a1) (hf_Arithmetic_multipliedOrDivided (hf_LongForm_f a1) (hs_regs st ((hf_LongForm_a a1)).toNatClampNeg) (hs_regs st ((hf_LongForm_b a1)).toNatClampNeg)) (in_LongForm_d _)) (cwV 2 hts (mk_gV tw_170 tw_172 tw_4 tw_46 tw_173) rfl rfl rfl hdHart_give ⟨Nat.le_of_ble_eq_true rfl, Nat.le_of_ble_eq_true rfl⟩) (mk_preVK hK (va_recv hK hP (ci := 0) (q0 := 0) rfl rfl)) rfl rfl hl.1 rfl (lv_room (Nat.le_of_ble_eq_true rfl)) dHart_longWithRegisters_96 ⟨Nat.zero_le _, Nat.zero_le _⟩) hS (fun H locs hP hS => ?_)
    exact W.iret hx hb hr (fun t ht hW => ⟨⟨_, (hf_RiscHart_give st (hf_LongForm_d a1) (hf_Arithmetic_multipliedOrDivided (hf_LongForm_f a1) (hs_regs st ((hf_LongForm_a a1)).toNatClampNeg) (hs_regs st ((hf_LongForm_b a1)).toNatClampNeg))).2, rfl, (by unfold hf_RiscHart_longWithRegisters; rw [if_neg c_1, if_pos c_2]), by show va_P D hcl _ t.heap; rw [ht]; exact hP⟩, hS.F ht⟩) hS.2.2 dHart_longWithRegisters_99
  by_cases c_3 : (hf_LongForm_g a1) = 32
  · refine lv_lookup (off := 64) (tgt := 100) hx hb dHart_longWithRegisters_36 (by decide) (by rw [c_3]; decide) (by decide) ?_
    refine lv_iload_n hx hb dHart_longWithRegisters_100 rfl (lv_at hl 2 rfl) ?_
    refine lv_if_ne (tgt := 115) hx hb dHart_longWithRegisters_101 (by decide) (fun c_4 => ?_) (fun c_4 => ?_)
    · refine lv_iload_n hx hb dHart_longWithRegisters_115 rfl (lv_at hl 2 rfl) ?_
      refine lv_iconst (v := 5) hx hb dHart_longWithRegisters_116 (by decide) ?_
      refine lv_icmp_ne (tgt := 136) hx hb dHart_longWithRegisters_117 (by decide) (fun c_5 => ?_) (fun c_5 => ?_)
      · refine lv_aload_n hx hb dHart_longWithRegisters_136 rfl (lv_at hl 4 rfl) ?_
        refine lv_iconst (v := 2) hx hb dHart_longWithRegisters_137 (by decide) ?_
        refine lv_iload_n hx hb dHart_longWithRegisters_138 rfl (lv_at hl 5 rfl) ?_
        refine mk_callW (va_runV (As := [.int 2, .int a1]) (rest := []) ⟨hx, hb, hml, hown, hts⟩ (hc_RiscHart_trap l hP hD 2 a1) (cwV 2 hts (mk_gV tw_139 tw_141 tw_1 tw_46 tw_142) rfl rfl rfl hdHart_trap ⟨Nat.le_of_ble_eq_true rfl, Nat.le_of_ble_eq_true rfl⟩) (mk_preVK hK (va_recv hK hP (ci := 0) (q0 := 0) rfl rfl)) rfl rfl hl.1 rfl (lv_room (Nat.le_of_ble_eq_true rfl)) dHart_longWithRegisters_139 ⟨Nat.zero_le _, Nat.zero_le _⟩) hS (fun H locs hP hS => ?_)
        exact W.iret hx hb hr (fun t ht hW => ⟨⟨_, (hf_RiscHart_trap st 2 a1).2, rfl, (by unfold hf_RiscHart_longWithRegisters; rw [if_neg c_1, if_neg c_2, if_pos c_3, if_neg c_4, if_neg c_5]), by show va_P D hcl _ t.heap; rw [ht]; exact hP⟩, hS.F ht⟩) hS.2.2 dHart_longWithRegisters_142
      · refine lv_aload_n hx hb dHart_longWithRegisters_120 rfl (lv_at hl 4 rfl) ?_
        refine lv_iload_n hx hb dHart_longWithRegisters_121 rfl (lv_at hl 3 rfl) ?_
        refine lv_iload hx hb dHart_longWithRegisters_122 (lv_at hl 1 rfl) ?_
        refine lv_iload hx hb dHart_longWithRegisters_124 (lv_at hl 0 rfl) ?_
        refine lv_bipush (v := 31) hx hb dHart_longWithRegisters_126 (by decide) ?_
        refine lv_iand hx hb dHart_longWithRegisters_128 ?_
        refine lv_ishr hx hb dHart_longWithRegisters_129 ?_
        refine mk_callW (va_runV (As := [.int (hf_LongForm_d a1), .int ((hs_regs st ((hf_LongForm_a a1)).toNatClampNeg) >>> (((hs_regs st ((hf_LongForm_b a1)).toNatClampNeg) &&& 31) &&& 31))]) (rest := []) ⟨hx, hb, hml, hown, hts⟩ (hc_RiscHart_give l hP hD (hf_LongForm_d a1) ((hs_regs st ((hf_LongForm_a a1)).toNatClampNeg) >>> (((hs_regs st ((hf_LongForm_b a1)).toNatClampNeg) &&& 31) &&& 31)) (in_LongForm_d _)) (cwV 2 hts (mk_gV tw_170 tw_172 tw_4 tw_46 tw_173) rfl rfl rfl hdHart_give ⟨Nat.le_of_ble_eq_true rfl, Nat.le_of_ble_eq_true rfl⟩) (mk_preVK hK (va_recv hK hP (ci := 0) (q0 := 0) rfl rfl)) rfl rfl hl.1 rfl (lv_room (Nat.le_of_ble_eq_true rfl)) dHart_longWithRegisters_130 ⟨Nat.zero_le _, Nat.zero_le _⟩) hS (fun H locs hP hS => ?_)
        refine lv_goto (tgt := 142) hx hb dHart_longWithRegisters_133 (by decide) ?_
        exact W.iret hx hb hr (fun t ht hW => ⟨⟨_, (hf_RiscHart_give st (hf_LongForm_d a1) ((hs_regs st ((hf_LongForm_a a1)).toNatClampNeg) >>> (((hs_regs st ((hf_LongForm_b a1)).toNatClampNeg) &&& 31) &&& 31))).2, rfl, (by unfold hf_RiscHart_longWithRegisters; rw [if_neg c_1, if_neg c_2, if_pos c_3, if_neg c_4, if_pos c_5]), by show va_P D hcl _ t.heap; rw [ht]; exact hP⟩, hS.F ht⟩) hS.2.2 dHart_longWithRegisters_142
    · refine lv_aload_n hx hb dHart_longWithRegisters_104 rfl (lv_at hl 4 rfl) ?_
      refine lv_iload_n hx hb dHart_longWithRegisters_105 rfl (lv_at hl 3 rfl) ?_
      refine lv_iload hx hb dHart_longWithRegisters_106 (lv_at hl 1 rfl) ?_
      refine lv_iload hx hb dHart_longWithRegisters_108 (lv_at hl 0 rfl) ?_
      refine lv_isub hx hb dHart_longWithRegisters_110 ?_
      refine mk_callW (va_runV (As := [.int (hf_LongForm_d a1), .int ((hs_regs st ((hf_LongForm_a a1)).toNatClampNeg) - (hs_regs st ((hf_LongForm_b a1)).toNatClampNeg))]) (rest := []) ⟨hx, hb, hml, hown, hts⟩ (hc_RiscHart_give l hP hD (hf_LongForm_d a1) ((hs_regs st ((hf_LongForm_a a1)).toNatClampNeg) - (hs_regs st ((hf_LongForm_b a1)).toNatClampNeg)) (in_LongForm_d _)) (cwV 2 hts (mk_gV tw_170 tw_172 tw_4 tw_46 tw_173) rfl rfl rfl hdHart_give ⟨Nat.le_of_ble_eq_true rfl, Nat.le_of_ble_eq_true rfl⟩) (mk_preVK hK (va_recv hK hP (ci := 0) (q0 := 0) rfl rfl)) rfl rfl hl.1 rfl (lv_room (Nat.le_of_ble_eq_true rfl)) dHart_longWithRegisters_111 ⟨Nat.zero_le _, Nat.zero_le _⟩) hS (fun H locs hP hS => ?_)
      exact W.iret hx hb hr (fun t ht hW => ⟨⟨_, (hf_RiscHart_give st (hf_LongForm_d a1) ((hs_regs st ((hf_LongForm_a a1)).toNatClampNeg) - (hs_regs st ((hf_LongForm_b a1)).toNatClampNeg))).2, rfl, (by unfold hf_RiscHart_longWithRegisters; rw [if_neg c_1, if_neg c_2, if_pos c_3, if_pos c_4]), by show va_P D hcl _ t.heap; rw [ht]; exact hP⟩, hS.F ht⟩) hS.2.2 dHart_longWithRegisters_114
  refine lv_lookup (off := 107) (tgt := 143) hx hb dHart_longWithRegisters_36 (by decide) ((lv_osw (a := 0) c_1 rfl).trans ((lv_osw (a := 1) c_2 rfl).trans ((lv_osw (a := 32) c_3 rfl).trans (rfl)))) (by decide) ?_
  refine lv_aload_n hx hb dHart_longWithRegisters_143 rfl (lv_at hl 4 rfl) ?_
  refine lv_iconst (v := 2) hx hb dHart_longWithRegisters_144 (by decide) ?_
  refine lv_iload_n hx hb dHart_longWithRegisters_145 rfl (lv_at hl 5 rfl) ?_
  refine mk_callW (va_runV (As := [.int 2, .int a1]) (rest := []) ⟨hx, hb, hml, hown, hts⟩ (hc_RiscHart_trap l hP hD 2 a1) (cwV 2 hts (mk_gV tw_139 tw_141 tw_1 tw_46 tw_142) rfl rfl rfl hdHart_trap ⟨Nat.le_of_ble_eq_true rfl, Nat.le_of_ble_eq_true rfl⟩) (mk_preVK hK (va_recv hK hP (ci := 0) (q0 := 0) rfl rfl)) rfl rfl hl.1 rfl (lv_room (Nat.le_of_ble_eq_true rfl)) dHart_longWithRegisters_146 ⟨Nat.zero_le _, Nat.zero_le _⟩) hS (fun H locs hP hS => ?_)
  exact W.iret hx hb hr (fun t ht hW => ⟨⟨_, (hf_RiscHart_trap st 2 a1).2, rfl, (by unfold hf_RiscHart_longWithRegisters; rw [if_neg c_1, if_neg c_2, if_neg c_3]), by show va_P D hcl _ t.heap; rw [ht]; exact hP⟩, hS.F ht⟩) hS.2.2 dHart_longWithRegisters_149
set_option maxHeartbeats 4000000 in
set_option maxRecDepth 100000 in
theorem hc_Memory_reserve (l : Launch) {D : va_G} {cR cW cP : ClassId} {h0 h1 h2 h3 h4 : Nat} {A : Nat → Prop} {st : HS} {G : Heap} (hP : va_P D hcl (hs_W cR cW cP h0 h1 h2 h3 h4 st) G) (hD : ∀ z, va_D A (hs_W cR cW cP h0 h1 h2 h3 h4 z)) (a1 : Int32)  : Met l yMem_reserve (wq yMem_reserve cMem_reserve 2 none) ({ frames := 0, cells := 0, slots := 0, locals := 0 }) (mk_PK D hcl [(cR, .int), (cW, .int), (cP, .int)] G [.ref h1, .int a1]) (mk_Wv (fun u t => va_P D hcl (hs_W cR cW cP h0 h1 h2 h3 h4 u) t) A (hf_Memory_reserve st a1)) 0 0 A := by
  refine Met.ofW (cc := cMem_reserve) (maxL := 2) (ret := none) (by decide) rfl ?_
  intro p e s m args below meth c s₁ B hml hv
  obtain ⟨rfl, hG, hK⟩ := hv
  subst hG
  have hx := B.exec
  have hb := B.bytes
  have hr := B.returns
  have hts := atoms_spec (ws := (wq yMem_reserve cMem_reserve 2 none)) B.pre
  have hown : s.vm.findClass RMem = some m.cls := findClass_of_methodNamed B.named
  have hlocks := B.notSynchronized
  have hg : ∀ w ∈ lw_g, w.before _ s = true := fun w h => hts w (List.mem_cons_of_mem _ h)
  have hS : va_S A s.heap s.heap [] := va_S.rf
  have hl := lv_entry ([.ref h1, .int a1]) (n := 2) (Nat.le_of_ble_eq_true rfl)
  rw [lg_entry_eq]
  generalize (lg_sl ([.ref h1, .int a1]) ++ List.replicate (2 - (lg_sl ([.ref h1, .int a1])).length) Slot.unset).toArray = ls at hl ⊢
  have hl : lv_has ls 2 [(0, .ref h1), (1, .int a1)] := hl
  refine lv_aload_n hx hb dMem_reserve_0 rfl (lv_at hl 0 rfl) ?_
  refine lv_iload_n hx hb dMem_reserve_1 rfl (lv_at hl 1 rfl) ?_
  refine va_put (D := D) (ci := 1) (v := .int a1) (ty := .int) (C := RMem) (T := TMem) (N := 3) hx hb hg inMem tyMem tyMem_ok nmMem hown hK hP (hD _) hS 1 rfl rfl 2 (by decide) (hg _ tw_74) (fun _ h9 => h9) rfl (by decide +kernel) rfl rfl (Nat.le_of_ble_eq_true rfl) dMem_reserve_2 (fun H locs hP _ hS => ?_)
  have hP : va_P D hcl (hs_W cR cW cP h0 h1 h2 h3 h4 (hs_set_reserved st a1)) H := hP
  exact W.vret hx hb hr (fun t ht hW => ⟨⟨(hs_set_reserved st a1), rfl, rfl, by show va_P D hcl _ t.heap; rw [ht]; exact hP⟩, hS.F ht⟩) hS.2.2 dMem_reserve_5
set_option maxHeartbeats 4000000 in
set_option maxRecDepth 100000 in
theorem hc_RiscHart_loadReserved (l : Launch) {D : va_G} {cR cW cP : ClassId} {h0 h1 h2 h3 h4 : Nat} {A : Nat → Prop} {st : HS} {G : Heap} (hP : va_P D hcl (hs_W cR cW cP h0 h1 h2 h3 h4 st) G) (hD : ∀ z, va_D A (hs_W cR cW cP h0 h1 h2 h3 h4 z)) (a1 : Int32) (a2 : Int32) (hq1 : vp_in a1 32) : Met l yHart_loadReserved (wq yHart_loadReserved cHart_loadReserved 3 (some .int)) ({ frames := 2, cells := 0, slots := 0, locals := 44 }) (mk_PK D hcl [(cR, .int), (cW, .int), (cP, .int)] G [.ref h0, .int a1, .int a2]) (mk_Wi (fun u t => va_P D hcl (hs_W cR cW cP h0 h1 h2 h3 h4 u) t) A (hf_RiscHart_loadReserved st a1 a2)) 0 0 A := by
  refine Met.ofW (cc := cHart_loadReserved) (maxL := 3) (ret := (some .int)) (by decide) rfl ?_
  intro p e s m args below meth c s₁ B hml hv
  obtain ⟨rfl, hG, hK⟩ := hv
  subst hG
  have hx := B.exec
  have hb := B.bytes
  have hr := B.returns
  have hts := atoms_spec (ws := (wq yHart_loadReserved cHart_loadReserved 3 (some .int))) B.pre
  have hown : s.vm.findClass RHart = some m.cls := findClass_of_methodNamed B.named
  have hlocks := B.notSynchronized
  have hg : ∀ w ∈ lw_g, w.before _ s = true := fun w h => hts w (List.mem_cons_of_mem _ h)
  have hS : va_S A s.heap s.heap [] := va_S.rf
  have hl := lv_entry ([.ref h0, .int a1, .int a2]) (n := 3) (Nat.le_of_ble_eq_true rfl)
  rw [lg_entry_eq]
  generalize (lg_sl ([.ref h0, .int a1, .int a2]) ++ List.replicate (3 - (lg_sl ([.ref h0, .int a1, .int a2])).length) Slot.unset).toArray = ls at hl ⊢
  have hl : lv_has ls 3 [(0, .ref h0), (1, .int a1), (2, .int a2)] := hl
  refine lv_aload_n hx hb dHart_loadReserved_0 rfl (lv_at hl 0 rfl) ?_
  refine va_get (D := D) (ci := 0) (v := .ref h1) (C := RHart) (T := THart) (N := 8) hx hb hg inHart hown hK hP 0 rfl rfl 0 (by decide) (hg _ tw_83) (fun _ h9 => h9) rfl dHart_loadReserved_1 ?_
  refine lv_iload_n hx hb dHart_loadReserved_4 rfl (lv_at hl 2 rfl) ?_
  refine mk_callWv (va_runV (As := [.int a2]) (rest := []) ⟨hx, hb, hml, hown, hts⟩ (hc_Memory_reserve l hP hD a2) (cwV 1 hts (mk_gV tw_287 tw_288 tw_289 tw_47 tw_290) rfl rfl rfl hdMem_reserve ⟨Nat.le_of_ble_eq_true rfl, Nat.le_of_ble_eq_true rfl⟩) (mk_preVK hK (va_recv hK hP (ci := 1) (q0 := 1) rfl rfl)) rfl rfl hl.1 rfl (lv_room (Nat.le_of_ble_eq_true rfl)) dHart_loadReserved_5 ⟨Nat.zero_le _, Nat.zero_le _⟩) hS (fun H locs hP hS => ?_)
  refine lv_aload_n hx hb dHart_loadReserved_8 rfl (lv_at hl 0 rfl) ?_
  refine lv_iload_n hx hb dHart_loadReserved_9 rfl (lv_at hl 1 rfl) ?_
  refine lv_aload_n hx hb dHart_loadReserved_10 rfl (lv_at hl 0 rfl) ?_
  refine va_get (D := D) (ci := 0) (v := .ref h1) (C := RHart) (T := THart) (N := 8) hx hb hg inHart hown hK hP 0 rfl rfl 0 (by decide) (hg _ tw_83) (fun _ h9 => h9) rfl dHart_loadReserved_11 ?_
  refine lv_iconst (v := 2) hx hb dHart_loadReserved_14 (by decide) ?_
  refine lv_iload_n hx hb dHart_loadReserved_15 rfl (lv_at hl 2 rfl) ?_
  refine mk_callR (va_runV (As := [.int 2, .int a2]) (rest := [.int a1, .ref h0]) ⟨hx, hb, hml, hown, hts⟩ (hc_Memory_read l hP 2 a2) (cwV 2 hts (mk_gV tw_143 tw_144 tw_145 tw_47 tw_146) rfl rfl rfl hdMem_read ⟨Nat.le_of_ble_eq_true rfl, Nat.le_of_ble_eq_true rfl⟩) (mk_preVK hK (va_recv hK hP (ci := 1) (q0 := 1) rfl rfl)) rfl rfl hl.1 rfl (lv_room (Nat.le_of_ble_eq_true rfl)) dHart_loadReserved_16 ⟨Nat.zero_le _, Nat.zero_le _⟩) ?_
  refine mk_callW (va_runV (As := [.int a1, .int (hf_Memory_read (hf_Memory_reserve st a2) 2 a2)]) (rest := []) ⟨hx, hb, hml, hown, hts⟩ (hc_RiscHart_give l hP hD a1 (hf_Memory_read (hf_Memory_reserve st a2) 2 a2) hq1) (cwV 2 hts (mk_gV tw_170 tw_172 tw_4 tw_46 tw_173) rfl rfl rfl hdHart_give ⟨Nat.le_of_ble_eq_true rfl, Nat.le_of_ble_eq_true rfl⟩) (mk_preVK hK (va_recv hK hP (ci := 0) (q0 := 0) rfl rfl)) rfl rfl hl.1 rfl (lv_room (Nat.le_of_ble_eq_true rfl)) dHart_loadReserved_19 ⟨Nat.zero_le _, Nat.zero_le _⟩) hS (fun H locs hP hS => ?_)
  exact W.iret hx hb hr (fun t ht hW => ⟨⟨_, (hf_RiscHart_give (hf_Memory_reserve st a2) a1 (hf_Memory_read (hf_Memory_reserve st a2) 2 a2)).2, rfl, rfl, by show va_P D hcl _ t.heap; rw [ht]; exact hP⟩, hS.F ht⟩) hS.2.2 dHart_loadReserved_22
set_option maxHeartbeats 4000000 in
set_option maxRecDepth 100000 in
theorem hc_Memory_reservedAddress (l : Launch) {D : va_G} {cR cW cP : ClassId} {h0 h1 h2 h3 h4 : Nat} {st : HS} {G : Heap} (hP : va_P D hcl (hs_W cR cW cP h0 h1 h2 h3 h4 st) G)   : Met l yMem_reservedAddress (wq yMem_reservedAddress cMem_reservedAddress 1 (some .int)) ({ frames := 0, cells := 0, slots := 0, locals := 0 }) (mk_PK D hcl [(cR, .int), (cW, .int), (cP, .int)] G [.ref h1]) (mk_Qi G (hf_Memory_reservedAddress st)) 0 0 (fun _ => False) := by
  refine Met.ofW (cc := cMem_reservedAddress) (maxL := 1) (ret := (some .int)) (by decide) rfl ?_
  intro p e s m args below meth c s₁ B hml hv
  obtain ⟨rfl, hG, hK⟩ := hv
  subst hG
  have hx := B.exec
  have hb := B.bytes
  have hr := B.returns
  have hts := atoms_spec (ws := (wq yMem_reservedAddress cMem_reservedAddress 1 (some .int))) B.pre
  have hown : s.vm.findClass RMem = some m.cls := findClass_of_methodNamed B.named
  have hlocks := B.notSynchronized
  have hg : ∀ w ∈ lw_g, w.before _ s = true := fun w h => hts w (List.mem_cons_of_mem _ h)
  have hl := lv_entry ([.ref h1]) (n := 1) (Nat.le_of_ble_eq_true rfl)
  rw [lg_entry_eq]
  generalize (lg_sl ([.ref h1]) ++ List.replicate (1 - (lg_sl ([.ref h1])).length) Slot.unset).toArray = ls at hl ⊢
  have hl : lv_has ls 1 [(0, .ref h1)] := hl
  refine lv_aload_n hx hb dMem_reservedAddress_0 rfl (lv_at hl 0 rfl) ?_
  refine va_get (D := D) (ci := 1) (v := .int (hs_reserved st)) (C := RMem) (T := TMem) (N := 3) hx hb hg inMem hown hK hP 1 rfl rfl 2 (by decide) (hg _ tw_74) (fun _ h9 => h9) rfl dMem_reservedAddress_1 ?_
  exact W.iret hx hb hr (fun t ht hW => ⟨⟨_, (), rfl, rfl, ht⟩, mk_F ht⟩) (fun q h => nomatch h) dMem_reservedAddress_4
set_option maxHeartbeats 4000000 in
set_option maxRecDepth 100000 in
theorem hc_RiscHart_storeConditional (l : Launch) {D : va_G} {cR cW cP : ClassId} {h0 h1 h2 h3 h4 : Nat} {A : Nat → Prop} {st : HS} {G : Heap} (hP : va_P D hcl (hs_W cR cW cP h0 h1 h2 h3 h4 st) G) (hD : ∀ z, va_D A (hs_W cR cW cP h0 h1 h2 h3 h4 z)) (a1 : Int32) (a2 : Int32) (a3 : Int32) (hq1 : vp_in a1 32) : Met l yHart_storeConditional (wq yHart_storeConditional cHart_storeConditional 5 (some .int)) ({ frames := 2, cells := 0, slots := 0, locals := 45 }) (mk_PK D hcl [(cR, .int), (cW, .int), (cP, .int)] G [.ref h0, .int a1, .int a2, .int a3]) (mk_Wi (fun u t => va_P D hcl (hs_W cR cW cP h0 h1 h2 h3 h4 u) t) A (hf_RiscHart_storeConditional st a1 a2 a3)) 0 0 A := by
  refine Met.ofW (cc := cHart_storeConditional) (maxL := 5) (ret := (some .int)) (by decide) rfl ?_
  intro p e s m args below meth c s₁ B hml hv
  obtain ⟨rfl, hG, hK⟩ := hv
  subst hG
  have hx := B.exec
  have hb := B.bytes
  have hr := B.returns
  have hts := atoms_spec (ws := (wq yHart_storeConditional cHart_storeConditional 5 (some .int))) B.pre
  have hown : s.vm.findClass RHart = some m.cls := findClass_of_methodNamed B.named
  have hlocks := B.notSynchronized
  have hg : ∀ w ∈ lw_g, w.before _ s = true := fun w h => hts w (List.mem_cons_of_mem _ h)
  have hS : va_S A s.heap s.heap [] := va_S.rf
  have hl := lv_entry ([.ref h0, .int a1, .int a2, .int a3]) (n := 5) (Nat.le_of_ble_eq_true rfl)
  rw [lg_entry_eq]
  generalize (lg_sl ([.ref h0, .int a1, .int a2, .int a3]) ++ List.replicate (5 - (lg_sl ([.ref h0, .int a1, .int a2, .int a3])).length) Slot.unset).toArray = ls at hl ⊢
  have hl : lv_has ls 5 [(0, .ref h0), (1, .int a1), (2, .int a2), (3, .int a3)] := hl
  refine lv_aload_n hx hb dHart_storeConditional_0 rfl (lv_at hl 0 rfl) ?_
  refine va_get (D := D) (ci := 0) (v := .ref h1) (C := RHart) (T := THart) (N := 8) hx hb hg inHart hown hK hP 0 rfl rfl 0 (by decide) (hg _ tw_83) (fun _ h9 => h9) rfl dHart_storeConditional_1 ?_
  refine mk_callR (va_runV (As := []) (rest := []) ⟨hx, hb, hml, hown, hts⟩ (hc_Memory_reservedAddress l hP) (cwV 0 hts (mk_gV tw_295 tw_296 tw_297 tw_47 tw_298) rfl rfl rfl hdMem_reservedAddress ⟨Nat.le_of_ble_eq_true rfl, Nat.le_of_ble_eq_true rfl⟩) (mk_preVK hK (va_recv hK hP (ci := 1) (q0 := 1) rfl rfl)) rfl rfl hl.1 rfl (lv_room (Nat.le_of_ble_eq_true rfl)) dHart_storeConditional_4 ⟨Nat.zero_le _, Nat.zero_le _⟩) ?_
  refine lv_iload_n hx hb dHart_storeConditional_7 rfl (lv_at hl 2 rfl) ?_
  refine lv_icmp_ne (tgt := 15) hx hb dHart_storeConditional_8 (by decide) (fun c_1 => ?_) (fun c_1 => ?_)
  · refine lv_iconst (v := 0) hx hb dHart_storeConditional_15 (by decide) ?_
    refine lv_istore (lv' := [(4, .int 0), (0, .ref h0), (1, .int a1), (2, .int a2), (3, .int a3)]) hx hb dHart_storeConditional_16 hl (by decide) rfl (fun ls hl => ?_)
    refine lv_iload hx hb dHart_storeConditional_18 (lv_at hl 0 rfl) ?_
    refine lv_if_eq (tgt := 33) hx hb dHart_storeConditional_20 (by decide) (fun c_2 => ?_) (fun c_2 => ?_)
    · refine lv_aload_n hx hb dHart_storeConditional_33 rfl (lv_at hl 1 rfl) ?_
      refine va_get (D := D) (ci := 0) (v := .ref h1) (C := RHart) (T := THart) (N := 8) hx hb hg inHart hown hK hP 0 rfl rfl 0 (by decide) (hg _ tw_83) (fun _ h9 => h9) rfl dHart_storeConditional_34 ?_
      refine lv_iconst (v := (-1)) hx hb dHart_storeConditional_37 (by decide) ?_
      refine mk_callWv (va_runV (As := [.int (-1)]) (rest := []) ⟨hx, hb, hml, hown, hts⟩ (hc_Memory_reserve l hP hD (-1)) (cwV 1 hts (mk_gV tw_287 tw_288 tw_289 tw_47 tw_290) rfl rfl rfl hdMem_reserve ⟨Nat.le_of_ble_eq_true rfl, Nat.le_of_ble_eq_true rfl⟩) (mk_preVK hK (va_recv hK hP (ci := 1) (q0 := 1) rfl rfl)) rfl rfl hl.1 rfl (lv_room (Nat.le_of_ble_eq_true rfl)) dHart_storeConditional_38 ⟨Nat.zero_le _, Nat.zero_le _⟩) hS (fun H locs hP hS => ?_)
      refine lv_aload_n hx hb dHart_storeConditional_41 rfl (lv_at hl 1 rfl) ?_
      refine lv_iload_n hx hb dHart_storeConditional_42 rfl (lv_at hl 2 rfl) ?_
      refine lv_iload hx hb dHart_storeConditional_43 (lv_at hl 0 rfl) ?_
      refine lv_if_eq (tgt := 52) hx hb dHart_storeConditional_45 (by decide) (fun c_3 => ?_) (fun c_3 => ?_)
      · refine lv_iconst (v := 1) hx hb dHart_storeConditional_52 (by decide) ?_
        refine mk_callW (va_runV (As := [.int a1, .int 1]) (rest := []) ⟨hx, hb, hml, hown, hts⟩ (hc_RiscHart_give l hP hD a1 1 hq1) (cwV 2 hts (mk_gV tw_170 tw_172 tw_4 tw_46 tw_173) rfl rfl rfl hdHart_give ⟨Nat.le_of_ble_eq_true rfl, Nat.le_of_ble_eq_true rfl⟩) (mk_preVK hK (va_recv hK hP (ci := 0) (q0 := 0) rfl rfl)) rfl rfl hl.1 rfl (lv_room (Nat.le_of_ble_eq_true rfl)) dHart_storeConditional_53 ⟨Nat.zero_le _, Nat.zero_le _⟩) hS (fun H locs hP hS => ?_)
        exact W.iret hx hb hr (fun t ht hW => ⟨⟨_, (hf_RiscHart_give (hf_Memory_reserve st (-1)) a1 1).2, rfl, (by unfold hf_RiscHart_storeConditional; rw [if_neg c_1]), by show va_P D hcl _ t.heap; rw [ht]; exact hP⟩, hS.F ht⟩) hS.2.2 dHart_storeConditional_56
      · exact absurd c_3 (by decide)
    · exact absurd c_2 (by decide)
  · refine lv_iconst (v := 1) hx hb dHart_storeConditional_11 (by decide) ?_
    refine lv_goto (tgt := 16) hx hb dHart_storeConditional_12 (by decide) ?_
    refine lv_istore (lv' := [(4, .int 1), (0, .ref h0), (1, .int a1), (2, .int a2), (3, .int a3)]) hx hb dHart_storeConditional_16 hl (by decide) rfl (fun ls hl => ?_)
    refine lv_iload hx hb dHart_storeConditional_18 (lv_at hl 0 rfl) ?_
    refine lv_if_eq (tgt := 33) hx hb dHart_storeConditional_20 (by decide) (fun c_4 => ?_) (fun c_4 => ?_)
    · exact absurd c_4 (by decide)
    · refine lv_aload_n hx hb dHart_storeConditional_23 rfl (lv_at hl 1 rfl) ?_
      refine va_get (D := D) (ci := 0) (v := .ref h1) (C := RHart) (T := THart) (N := 8) hx hb hg inHart hown hK hP 0 rfl rfl 0 (by decide) (hg _ tw_83) (fun _ h9 => h9) rfl dHart_storeConditional_24 ?_
      refine lv_iconst (v := 2) hx hb dHart_storeConditional_27 (by decide) ?_
      refine lv_iload_n hx hb dHart_storeConditional_28 rfl (lv_at hl 3 rfl) ?_
      refine lv_iload_n hx hb dHart_storeConditional_29 rfl (lv_at hl 4 rfl) ?_
      refine mk_callWv (va_runV (As := [.int 2, .int a2, .int a3]) (rest := []) ⟨hx, hb, hml, hown, hts⟩ (hc_Memory_write l hP hD 2 a2 a3) (cwV 3 hts (mk_gV tw_240 tw_241 tw_242 tw_47 tw_243) rfl rfl rfl hdMem_write ⟨Nat.le_of_ble_eq_true rfl, Nat.le_of_ble_eq_true rfl⟩) (mk_preVK hK (va_recv hK hP (ci := 1) (q0 := 1) rfl rfl)) rfl rfl hl.1 rfl (lv_room (Nat.le_of_ble_eq_true rfl)) dHart_storeConditional_30 ⟨Nat.zero_le _, Nat.zero_le _⟩) hS (fun H locs hP hS => ?_)
      refine lv_aload_n hx hb dHart_storeConditional_33 rfl (lv_at hl 1 rfl) ?_
      refine va_get (D := D) (ci := 0) (v := .ref h1) (C := RHart) (T := THart) (N := 8) hx hb hg inHart hown hK hP 0 rfl rfl 0 (by decide) (hg _ tw_83) (fun _ h9 => h9) rfl dHart_storeConditional_34 ?_
      refine lv_iconst (v := (-1)) hx hb dHart_storeConditional_37 (by decide) ?_
      refine mk_callWv (va_runV (As := [.int (-1)]) (rest := []) ⟨hx, hb, hml, hown, hts⟩ (hc_Memory_reserve l hP hD (-1)) (cwV 1 hts (mk_gV tw_287 tw_288 tw_289 tw_47 tw_290) rfl rfl rfl hdMem_reserve ⟨Nat.le_of_ble_eq_true rfl, Nat.le_of_ble_eq_true rfl⟩) (mk_preVK hK (va_recv hK hP (ci := 1) (q0 := 1) rfl rfl)) rfl rfl hl.1 rfl (lv_room (Nat.le_of_ble_eq_true rfl)) dHart_storeConditional_38 ⟨Nat.zero_le _, Nat.zero_le _⟩) hS (fun H locs hP hS => ?_)
      refine lv_aload_n hx hb dHart_storeConditional_41 rfl (lv_at hl 1 rfl) ?_
      refine lv_iload_n hx hb dHart_storeConditional_42 rfl (lv_at hl 2 rfl) ?_
      refine lv_iload hx hb dHart_storeConditional_43 (lv_at hl 0 rfl) ?_
      refine lv_if_eq (tgt := 52) hx hb dHart_storeConditional_45 (by decide) (fun c_5 => ?_) (fun c_5 => ?_)
      · exact absurd c_5 (by decide)
      · refine lv_iconst (v := 0) hx hb dHart_storeConditional_48 (by decide) ?_
        refine lv_goto (tgt := 53) hx hb dHart_storeConditional_49 (by decide) ?_
        refine mk_callW (va_runV (As := [.int a1, .int 0]) (rest := []) ⟨hx, hb, hml, hown, hts⟩ (hc_RiscHart_give l hP hD a1 0 hq1) (cwV 2 hts (mk_gV tw_170 tw_172 tw_4 tw_46 tw_173) rfl rfl rfl hdHart_give ⟨Nat.le_of_ble_eq_true rfl, Nat.le_of_ble_eq_true rfl⟩) (mk_preVK hK (va_recv hK hP (ci := 0) (q0 := 0) rfl rfl)) rfl rfl hl.1 rfl (lv_room (Nat.le_of_ble_eq_true rfl)) dHart_storeConditional_53 ⟨Nat.zero_le _, Nat.zero_le _⟩) hS (fun H locs hP hS => ?_)
        exact W.iret hx hb hr (fun t ht hW => ⟨⟨_, (hf_RiscHart_give (hf_Memory_reserve (hf_Memory_write st 2 a2 a3) (-1)) a1 0).2, rfl, (by unfold hf_RiscHart_storeConditional; rw [if_pos c_1]), by show va_P D hcl _ t.heap; rw [ht]; exact hP⟩, hS.F ht⟩) hS.2.2 dHart_storeConditional_56
set_option maxHeartbeats 4000000 in
set_option maxRecDepth 100000 in
theorem hc_RiscHart_change (l : Launch) {D : va_G} {cR cW cP : ClassId} {h0 h1 h2 h3 h4 : Nat} {A : Nat → Prop} {st : HS} {G : Heap} (hP : va_P D hcl (hs_W cR cW cP h0 h1 h2 h3 h4 st) G) (hD : ∀ z, va_D A (hs_W cR cW cP h0 h1 h2 h3 h4 z)) (a1 : Int32) (a2 : Int32) (a3 : Int32) (a4 : Int32) (hq2 : vp_in a2 32) : Met l yHart_change (wq yHart_change cHart_change 6 (some .int)) ({ frames := 2, cells := 0, slots := 0, locals := 45 }) (mk_PK D hcl [(cR, .int), (cW, .int), (cP, .int)] G [.ref h0, .int a1, .int a2, .int a3, .int a4]) (mk_Wi (fun u t => va_P D hcl (hs_W cR cW cP h0 h1 h2 h3 h4 u) t) A (hf_RiscHart_change st a1 a2 a3 a4)) 0 0 A := by
  refine Met.ofW (cc := cHart_change) (maxL := 6) (ret := (some .int)) (by decide) rfl ?_
  intro p e s m args below meth c s₁ B hml hv
  obtain ⟨rfl, hG, hK⟩ := hv
  subst hG
  have hx := B.exec
  have hb := B.bytes
  have hr := B.returns
  have hts := atoms_spec (ws := (wq yHart_change cHart_change 6 (some .int))) B.pre
  have hown : s.vm.findClass RHart = some m.cls := findClass_of_methodNamed B.named
  have hlocks := B.notSynchronized
  have hg : ∀ w ∈ lw_g, w.before _ s = true := fun w h => hts w (List.mem_cons_of_mem _ h)
  have hS : va_S A s.heap s.heap [] := va_S.rf
  have hl := lv_entry ([.ref h0, .int a1, .int a2, .int a3, .int a4]) (n := 6) (Nat.le_of_ble_eq_true rfl)
  rw [lg_entry_eq]
  generalize (lg_sl ([.ref h0, .int a1, .int a2, .int a3, .int a4]) ++ List.replicate (6 - (lg_sl ([.ref h0, .int a1, .int a2, .int a3, .int a4])).length) Slot.unset).toArray = ls at hl ⊢
  have hl : lv_has ls 6 [(0, .ref h0), (1, .int a1), (2, .int a2), (3, .int a3), (4, .int a4)] := hl
  refine lv_aload_n hx hb dHart_change_0 rfl (lv_at hl 0 rfl) ?_
  refine va_get (D := D) (ci := 0) (v := .ref h1) (C := RHart) (T := THart) (N := 8) hx hb hg inHart hown hK hP 0 rfl rfl 0 (by decide) (hg _ tw_83) (fun _ h9 => h9) rfl dHart_change_1 ?_
  refine lv_iconst (v := 2) hx hb dHart_change_4 (by decide) ?_
  refine lv_iload_n hx hb dHart_change_5 rfl (lv_at hl 3 rfl) ?_
  refine mk_callR (va_runV (As := [.int 2, .int a3]) (rest := []) ⟨hx, hb, hml, hown, hts⟩ (hc_Memory_read l hP 2 a3) (cwV 2 hts (mk_gV tw_143 tw_144 tw_145 tw_47 tw_146) rfl rfl rfl hdMem_read ⟨Nat.le_of_ble_eq_true rfl, Nat.le_of_ble_eq_true rfl⟩) (mk_preVK hK (va_recv hK hP (ci := 1) (q0 := 1) rfl rfl)) rfl rfl hl.1 rfl (lv_room (Nat.le_of_ble_eq_true rfl)) dHart_change_6 ⟨Nat.zero_le _, Nat.zero_le _⟩) ?_
  refine lv_istore (lv' := [(5, .int (hf_Memory_read st 2 a3)), (0, .ref h0), (1, .int a1), (2, .int a2), (3, .int a3), (4, .int a4)]) hx hb dHart_change_9 hl (by decide) rfl (fun ls hl => ?_)
  refine lv_aload_n hx hb dHart_change_11 rfl (lv_at hl 1 rfl) ?_
  refine va_get (D := D) (ci := 0) (v := .ref h1) (C := RHart) (T := THart) (N := 8) hx hb hg inHart hown hK hP 0 rfl rfl 0 (by decide) (hg _ tw_83) (fun _ h9 => h9) rfl dHart_change_12 ?_
  refine lv_iconst (v := 2) hx hb dHart_change_15 (by decide) ?_
  refine lv_iload_n hx hb dHart_change_16 rfl (lv_at hl 4 rfl) ?_
  refine lv_iload_n hx hb dHart_change_17 rfl (lv_at hl 2 rfl) ?_
  refine lv_iload hx hb dHart_change_18 (lv_at hl 0 rfl) ?_
  refine lv_iload hx hb dHart_change_20 (lv_at hl 5 rfl) ?_
  refine mk_callR (va_runS (As := [.int a1, .int (hf_Memory_read st 2 a3), .int a4]) (rest := [.int a3, .int 2, .ref h1]) ⟨hx, hb, hml, hown, hts⟩ (hc_Arithmetic_changed l _ a1 (hf_Memory_read st 2 a3) a4) (va_cwS 3 hts (mk_gS tw_303 tw_304 tw_56 tw_305) rfl rfl rfl hdAr_changed.2 ⟨Nat.le_of_ble_eq_true rfl, Nat.le_of_ble_eq_true rfl⟩) mk_preS rfl rfl hl.1 rfl (lv_room (Nat.le_of_ble_eq_true rfl)) dHart_change_22 ⟨Nat.zero_le _, Nat.zero_le _⟩) ?_
  refine mk_callWv (va_runV (As := [.int 2, .int a3, .int (hf_Arithmetic_changed a1 (hf_Memory_read st 2 a3) a4)]) (rest := []) ⟨hx, hb, hml, hown, hts⟩ (hc_Memory_write l hP hD 2 a3 (hf_Arithmetic_changed a1 (hf_Memory_read st 2 a3) a4)) (cwV 3 hts (mk_gV tw_240 tw_241 tw_242 tw_47 tw_243) rfl rfl rfl hdMem_write ⟨Nat.le_of_ble_eq_true rfl, Nat.le_of_ble_eq_true rfl⟩) (mk_preVK hK (va_recv hK hP (ci := 1) (q0 := 1) rfl rfl)) rfl rfl hl.1 rfl (lv_room (Nat.le_of_ble_eq_true rfl)) dHart_change_25 ⟨Nat.zero_le _, Nat.zero_le _⟩) hS (fun H locs hP hS => ?_)
  refine lv_aload_n hx hb dHart_change_28 rfl (lv_at hl 1 rfl) ?_
  refine lv_iload_n hx hb dHart_change_29 rfl (lv_at hl 3 rfl) ?_
  refine lv_iload hx hb dHart_change_30 (lv_at hl 0 rfl) ?_
  refine mk_callW (va_runV (As := [.int a2, .int (hf_Memory_read st 2 a3)]) (rest := []) ⟨hx, hb, hml, hown, hts⟩ (hc_RiscHart_give l hP hD a2 (hf_Memory_read st 2 a3) hq2) (cwV 2 hts (mk_gV tw_170 tw_172 tw_4 tw_46 tw_173) rfl rfl rfl hdHart_give ⟨Nat.le_of_ble_eq_true rfl, Nat.le_of_ble_eq_true rfl⟩) (mk_preVK hK (va_recv hK hP (ci := 0) (q0 := 0) rfl rfl)) rfl rfl hl.1 rfl (lv_room (Nat.le_of_ble_eq_true rfl)) dHart_change_32 ⟨Nat.zero_le _, Nat.zero_le _⟩) hS (fun H locs hP hS => ?_)
  exact W.iret hx hb hr (fun t ht hW => ⟨⟨_, (hf_RiscHart_give (hf_Memory_write st 2 a3 (hf_Arithmetic_changed a1 (hf_Memory_read st 2 a3) a4)) a2 (hf_Memory_read st 2 a3)).2, rfl, rfl, by show va_P D hcl _ t.heap; rw [ht]; exact hP⟩, hS.F ht⟩) hS.2.2 dHart_change_35
set_option maxHeartbeats 4000000 in
set_option maxRecDepth 100000 in
theorem hc_RiscHart_longAtomic (l : Launch) {D : va_G} {cR cW cP : ClassId} {h0 h1 h2 h3 h4 : Nat} {A : Nat → Prop} {st : HS} {G : Heap} (hP : va_P D hcl (hs_W cR cW cP h0 h1 h2 h3 h4 st) G) (hD : ∀ z, va_D A (hs_W cR cW cP h0 h1 h2 h3 h4 z)) (a1 : Int32)  : Met l yHart_longAtomic (wq yHart_longAtomic cHart_longAtomic 6 (some .int)) ({ frames := 3, cells := 0, slots := 0, locals := 70 }) (mk_PK D hcl [(cR, .int), (cW, .int), (cP, .int)] G [.ref h0, .int a1]) (mk_Wi (fun u t => va_P D hcl (hs_W cR cW cP h0 h1 h2 h3 h4 u) t) A (hf_RiscHart_longAtomic st a1)) 0 0 A := by
  refine Met.ofW (cc := cHart_longAtomic) (maxL := 6) (ret := (some .int)) (by decide) rfl ?_
  intro p e s m args below meth c s₁ B hml hv
  obtain ⟨rfl, hG, hK⟩ := hv
  subst hG
  have hx := B.exec
  have hb := B.bytes
  have hr := B.returns
  have hts := atoms_spec (ws := (wq yHart_longAtomic cHart_longAtomic 6 (some .int))) B.pre
  have hown : s.vm.findClass RHart = some m.cls := findClass_of_methodNamed B.named
  have hlocks := B.notSynchronized
  have hg : ∀ w ∈ lw_g, w.before _ s = true := fun w h => hts w (List.mem_cons_of_mem _ h)
  have hS : va_S A s.heap s.heap [] := va_S.rf
  have hl := lv_entry ([.ref h0, .int a1]) (n := 6) (Nat.le_of_ble_eq_true rfl)
  rw [lg_entry_eq]
  generalize (lg_sl ([.ref h0, .int a1]) ++ List.replicate (6 - (lg_sl ([.ref h0, .int a1])).length) Slot.unset).toArray = ls at hl ⊢
  have hl : lv_has ls 6 [(0, .ref h0), (1, .int a1)] := hl
  refine lv_iload_n hx hb dHart_longAtomic_0 rfl (lv_at hl 1 rfl) ?_
  refine mk_callR (va_runS (As := [.int a1]) (rest := []) ⟨hx, hb, hml, hown, hts⟩ (hc_LongForm_isAtomic l _ a1) (va_cwS 1 hts (mk_gS tw_274 tw_275 tw_54 tw_276) rfl rfl rfl hdLF_isAtomic.2 ⟨Nat.le_of_ble_eq_true rfl, Nat.le_of_ble_eq_true rfl⟩) mk_preS rfl rfl hl.1 rfl (lv_room (Nat.le_of_ble_eq_true rfl)) dHart_longAtomic_1 ⟨Nat.zero_le _, Nat.zero_le _⟩) ?_
  refine lv_if_ne (tgt := 14) hx hb dHart_longAtomic_4 (by decide) (fun c_1 => ?_) (fun c_1 => ?_)
  · refine lv_iload_n hx hb dHart_longAtomic_14 rfl (lv_at hl 1 rfl) ?_
    refine mk_callR (va_runS (As := [.int a1]) (rest := []) ⟨hx, hb, hml, hown, hts⟩ (hc_LongForm_k l _ a1) (va_cwS 1 hts (mk_gS tw_282 tw_279 tw_54 tw_280) rfl rfl rfl hdLF_k.2 ⟨Nat.le_of_ble_eq_true rfl, Nat.le_of_ble_eq_true rfl⟩) mk_preS rfl rfl hl.1 rfl (lv_room (Nat.le_of_ble_eq_true rfl)) dHart_longAtomic_15 ⟨Nat.zero_le _, Nat.zero_le _⟩) ?_
    refine lv_istore_n (lv' := [(2, .int (hf_LongForm_k a1)), (0, .ref h0), (1, .int a1)]) hx hb dHart_longAtomic_18 rfl hl (by decide) rfl (fun ls hl => ?_)
    refine lv_aload_n hx hb dHart_longAtomic_19 rfl (lv_at hl 1 rfl) ?_
    refine va_get (D := D) (ci := 0) (v := .ref h2) (C := RHart) (T := THart) (N := 8) hx hb hg inHart hown hK hP 0 rfl rfl 1 (by decide) (hg _ tw_84) (fun _ h9 => h9) rfl dHart_longAtomic_20 ?_
    refine lv_iload_n hx hb dHart_longAtomic_23 rfl (lv_at hl 2 rfl) ?_
    refine mk_callR (va_runS (As := [.int a1]) (rest := [.ref h2]) ⟨hx, hb, hml, hown, hts⟩ (hc_LongForm_a l _ a1) (va_cwS 1 hts (mk_gS tw_191 tw_192 tw_54 tw_193) rfl rfl rfl hdLF_a.2 ⟨Nat.le_of_ble_eq_true rfl, Nat.le_of_ble_eq_true rfl⟩) mk_preS rfl rfl hl.1 rfl (lv_room (Nat.le_of_ble_eq_true rfl)) dHart_longAtomic_24 ⟨Nat.zero_le _, Nat.zero_le _⟩) ?_
    refine va_iald (D := D) hx hb hK hP 2 0 rfl rfl (in_LongForm_a _) dHart_longAtomic_27 ?_
    refine lv_istore_n (lv' := [(3, .int (hs_regs st ((hf_LongForm_a a1)).toNatClampNeg)), (2, .int (hf_LongForm_k a1)), (0, .ref h0), (1, .int a1)]) hx hb dHart_longAtomic_28 rfl hl (by decide) rfl (fun ls hl => ?_)
    refine lv_iconst (v := 2) hx hb dHart_longAtomic_29 (by decide) ?_
    refine lv_iload_n hx hb dHart_longAtomic_30 rfl (lv_at hl 0 rfl) ?_
    refine mk_callR (va_runS (As := [.int 2, .int (hs_regs st ((hf_LongForm_a a1)).toNatClampNeg)]) (rest := []) ⟨hx, hb, hml, hown, hts⟩ (hc_Memory_isMisaligned l _ 2 (hs_regs st ((hf_LongForm_a a1)).toNatClampNeg)) (va_cwS 2 hts (mk_gS tw_223 tw_129 tw_47 tw_130) rfl rfl rfl hdMem_isMisaligned.2 ⟨Nat.le_of_ble_eq_true rfl, Nat.le_of_ble_eq_true rfl⟩) mk_preS rfl rfl hl.1 rfl (lv_room (Nat.le_of_ble_eq_true rfl)) dHart_longAtomic_31 ⟨Nat.zero_le _, Nat.zero_le _⟩) ?_
    refine lv_if_eq (tgt := 44) hx hb dHart_longAtomic_34 (by decide) (fun c_2 => ?_) (fun c_2 => ?_)
    · refine lv_iload_n hx hb dHart_longAtomic_44 rfl (lv_at hl 1 rfl) ?_
      refine lv_iconst (v := 2) hx hb dHart_longAtomic_45 (by decide) ?_
      refine lv_icmp_eq (tgt := 69) hx hb dHart_longAtomic_46 (by decide) (fun c_3 => ?_) (fun c_3 => ?_)
      · refine lv_aload_n hx hb dHart_longAtomic_69 rfl (lv_at hl 2 rfl) ?_
        refine va_get (D := D) (ci := 0) (v := .ref h1) (C := RHart) (T := THart) (N := 8) hx hb hg inHart hown hK hP 0 rfl rfl 0 (by decide) (hg _ tw_83) (fun _ h9 => h9) rfl dHart_longAtomic_70 ?_
        refine lv_iconst (v := 1) hx hb dHart_longAtomic_73 (by decide) ?_
        refine lv_iload_n hx hb dHart_longAtomic_74 rfl (lv_at hl 0 rfl) ?_
        refine mk_callR (va_runV (As := [.int 1, .int (hs_regs st ((hf_LongForm_a a1)).toNatClampNeg)]) (rest := []) ⟨hx, hb, hml, hown, hts⟩ (hc_Memory_allows l hP 1 (hs_regs st ((hf_LongForm_a a1)).toNatClampNeg)) (cwV 2 hts (mk_gV tw_224 tw_132 tw_133 tw_47 tw_134) rfl rfl rfl hdMem_allows ⟨Nat.le_of_ble_eq_true rfl, Nat.le_of_ble_eq_true rfl⟩) (mk_preVK hK (va_recv hK hP (ci := 1) (q0 := 1) rfl rfl)) rfl rfl hl.1 rfl (lv_room (Nat.le_of_ble_eq_true rfl)) dHart_longAtomic_75 ⟨Nat.zero_le _, Nat.zero_le _⟩) ?_
        refine lv_if_ne (tgt := 89) hx hb dHart_longAtomic_78 (by decide) (fun c_4 => ?_) (fun c_4 => ?_)
        · refine lv_iload_n hx hb dHart_longAtomic_89 rfl (lv_at hl 3 rfl) ?_
          refine mk_callR (va_runS (As := [.int a1]) (rest := []) ⟨hx, hb, hml, hown, hts⟩ (hc_LongForm_d l _ a1) (va_cwS 1 hts (mk_gS tw_161 tw_162 tw_54 tw_163) rfl rfl rfl hdLF_d.2 ⟨Nat.le_of_ble_eq_true rfl, Nat.le_of_ble_eq_true rfl⟩) mk_preS rfl rfl hl.1 rfl (lv_room (Nat.le_of_ble_eq_true rfl)) dHart_longAtomic_90 ⟨Nat.zero_le _, Nat.zero_le _⟩) ?_
          refine lv_istore (lv' := [(4, .int (hf_LongForm_d a1)), (3, .int (hs_regs st ((hf_LongForm_a a1)).toNatClampNeg)), (2, .int (hf_LongForm_k a1)), (0, .ref h0), (1, .int a1)]) hx hb dHart_longAtomic_93 hl (by decide) rfl (fun ls hl => ?_)
          refine lv_aload_n hx hb dHart_longAtomic_95 rfl (lv_at hl 3 rfl) ?_
          refine va_get (D := D) (ci := 0) (v := .ref h2) (C := RHart) (T := THart) (N := 8) hx hb hg inHart hown hK hP 0 rfl rfl 1 (by decide) (hg _ tw_84) (fun _ h9 => h9) rfl dHart_longAtomic_96 ?_
          refine lv_iload_n hx hb dHart_longAtomic_99 rfl (lv_at hl 4 rfl) ?_
          refine mk_callR (va_runS (As := [.int a1]) (rest := [.ref h2]) ⟨hx, hb, hml, hown, hts⟩ (hc_LongForm_b l _ a1) (va_cwS 1 hts (mk_gS tw_201 tw_202 tw_54 tw_203) rfl rfl rfl hdLF_b.2 ⟨Nat.le_of_ble_eq_true rfl, Nat.le_of_ble_eq_true rfl⟩) mk_preS rfl rfl hl.1 rfl (lv_room (Nat.le_of_ble_eq_true rfl)) dHart_longAtomic_100 ⟨Nat.zero_le _, Nat.zero_le _⟩) ?_
          refine va_iald (D := D) hx hb hK hP 2 0 rfl rfl (in_LongForm_b _) dHart_longAtomic_103 ?_
          refine lv_istore (lv' := [(5, .int (hs_regs st ((hf_LongForm_b a1)).toNatClampNeg)), (4, .int (hf_LongForm_d a1)), (3, .int (hs_regs st ((hf_LongForm_a a1)).toNatClampNeg)), (2, .int (hf_LongForm_k a1)), (0, .ref h0), (1, .int a1)]) hx hb dHart_longAtomic_104 hl (by decide) rfl (fun ls hl => ?_)
          refine lv_iload_n hx hb dHart_longAtomic_106 rfl (lv_at hl 3 rfl) ?_
          by_cases c_5 : (hf_LongForm_k a1) = 2
          · refine lv_lookup (off := 25) (tgt := 132) hx hb dHart_longAtomic_107 (by decide) (by rw [c_5]; decide) (by decide) ?_
            refine lv_aload_n hx hb dHart_longAtomic_132 rfl (lv_at hl 4 rfl) ?_
            refine lv_iload hx hb dHart_longAtomic_133 (lv_at hl 1 rfl) ?_
            refine lv_iload_n hx hb dHart_longAtomic_135 rfl (lv_at hl 2 rfl) ?_
            refine mk_callW (va_runV (As := [.int (hf_LongForm_d a1), .int (hs_regs st ((hf_LongForm_a a1)).toNatClampNeg)]) (rest := []) ⟨hx, hb, hml, hown, hts⟩ (hc_RiscHart_loadReserved l hP hD (hf_LongForm_d a1) (hs_regs st ((hf_LongForm_a a1)).toNatClampNeg) (in_LongForm_d _)) (cwV 2 hts (mk_gV tw_283 tw_285 tw_16 tw_46 tw_286) rfl rfl rfl hdHart_loadReserved ⟨Nat.le_of_ble_eq_true rfl, Nat.le_of_ble_eq_true rfl⟩) (mk_preVK hK (va_recv hK hP (ci := 0) (q0 := 0) rfl rfl)) rfl rfl hl.1 rfl (lv_room (Nat.le_of_ble_eq_true rfl)) dHart_longAtomic_136 ⟨Nat.zero_le _, Nat.zero_le _⟩) hS (fun H locs hP hS => ?_)
            exact W.iret hx hb hr (fun t ht hW => ⟨⟨_, (hf_RiscHart_loadReserved st (hf_LongForm_d a1) (hs_regs st ((hf_LongForm_a a1)).toNatClampNeg)).2, rfl, (by unfold hf_RiscHart_longAtomic; rw [if_neg c_1, if_pos c_2, if_pos c_3, if_neg c_4, if_pos c_5]), by show va_P D hcl _ t.heap; rw [ht]; exact hP⟩, hS.F ht⟩) hS.2.2 dHart_longAtomic_139
          by_cases c_6 : (hf_LongForm_k a1) = 3
          · refine lv_lookup (off := 33) (tgt := 140) hx hb dHart_longAtomic_107 (by decide) (by rw [c_6]; decide) (by decide) ?_
            refine lv_aload_n hx hb dHart_longAtomic_140 rfl (lv_at hl 4 rfl) ?_
            refine lv_iload hx hb dHart_longAtomic_141 (lv_at hl 1 rfl) ?_
            refine lv_iload_n hx hb dHart_longAtomic_143 rfl (lv_at hl 2 rfl) ?_
            refine lv_iload hx hb dHart_longAtomic_144 (lv_at hl 0 rfl) ?_
            refine mk_callW (va_runV (As := [.int (hf_LongForm_d a1), .int (hs_regs st ((hf_LongForm_a a1)).toNatClampNeg), .int (hs_regs st ((hf_LongForm_b a1)).toNatClampNeg)]) (rest := []) ⟨hx, hb, hml, hown, hts⟩ (hc_RiscHart_storeConditional l hP hD (hf_LongForm_d a1) (hs_regs st ((hf_LongForm_a a1)).toNatClampNeg) (hs_regs st ((hf_LongForm_b a1)).toNatClampNeg) (in_LongForm_d _)) (cwV 3 hts (mk_gV tw_291 tw_293 tw_17 tw_46 tw_294) rfl rfl rfl hdHart_storeConditional ⟨Nat.le_of_ble_eq_true rfl, Nat.le_of_ble_eq_true rfl⟩) (mk_preVK hK (va_recv hK hP (ci := 0) (q0 := 0) rfl rfl)) rfl rfl hl.1 rfl (lv_room (Nat.le_of_ble_eq_true rfl)) dHart_longAtomic_146 ⟨Nat.zero_le _, Nat.zero_le _⟩) hS (fun H locs hP hS => ?_)
            exact W.iret hx hb hr (fun t ht hW => ⟨⟨_, (hf_RiscHart_storeConditional st (hf_LongForm_d a1) (hs_regs st ((hf_LongForm_a a1)).toNatClampNeg) (hs_regs st ((hf_LongForm_b a1)).toNatClampNeg)).2, rfl, (by unfold hf_RiscHart_longAtomic; rw [if_neg c_1, if_pos c_2, if_pos c_3, if_neg c_4, if_neg c_5, if_pos c_6]), by show va_P D hcl _ t.heap; rw [ht]; exact hP⟩, hS.F ht⟩) hS.2.2 dHart_longAtomic_149
          refine lv_lookup (off := 43) (tgt := 150) hx hb dHart_longAtomic_107 (by decide) ((lv_osw (a := 2) c_5 rfl).trans ((lv_osw (a := 3) c_6 rfl).trans (rfl))) (by decide) ?_
          refine lv_aload_n hx hb dHart_longAtomic_150 rfl (lv_at hl 4 rfl) ?_
          refine lv_iload_n hx hb dHart_longAtomic_151 rfl (lv_at hl 3 rfl) ?_
          refine lv_iload hx hb dHart_longAtomic_152 (lv_at hl 1 rfl) ?_
          refine lv_iload_n hx hb dHart_longAtomic_154 rfl (lv_at hl 2 rfl) ?_
          refine lv_iload hx hb dHart_longAtomic_155 (lv_at hl 0 rfl) ?_
          refine mk_callW (va_runV (As := [.int (hf_LongForm_k a1), .int (hf_LongForm_d a1), .int (hs_regs st ((hf_LongForm_a a1)).toNatClampNeg), .int (hs_regs st ((hf_LongForm_b a1)).toNatClampNeg)]) (rest := []) ⟨hx, hb, hml, hown, hts⟩ (hc_RiscHart_change l hP hD (hf_LongForm_k a1) (hf_LongForm_d a1) (hs_regs st ((hf_LongForm_a a1)).toNatClampNeg) (hs_regs st ((hf_LongForm_b a1)).toNatClampNeg) (in_LongForm_d _)) (cwV 4 hts (mk_gV tw_299 tw_301 tw_18 tw_46 tw_302) rfl rfl rfl hdHart_change ⟨Nat.le_of_ble_eq_true rfl, Nat.le_of_ble_eq_true rfl⟩) (mk_preVK hK (va_recv hK hP (ci := 0) (q0 := 0) rfl rfl)) rfl rfl hl.1 rfl (lv_room (Nat.le_of_ble_eq_true rfl)) dHart_longAtomic_157 ⟨Nat.zero_le _, Nat.zero_le _⟩) hS (fun H locs hP hS => ?_)
          exact W.iret hx hb hr (fun t ht hW => ⟨⟨_, (hf_RiscHart_change st (hf_LongForm_k a1) (hf_LongForm_d a1) (hs_regs st ((hf_LongForm_a a1)).toNatClampNeg) (hs_regs st ((hf_LongForm_b a1)).toNatClampNeg)).2, rfl, (by unfold hf_RiscHart_longAtomic; rw [if_neg c_1, if_pos c_2, if_pos c_3, if_neg c_4, if_neg c_5, if_neg c_6]), by show va_P D hcl _ t.heap; rw [ht]; exact hP⟩, hS.F ht⟩) hS.2.2 dHart_longAtomic_160
        · refine lv_aload_n hx hb dHart_longAtomic_81 rfl (lv_at hl 2 rfl) ?_
          refine lv_bipush (v := 6) hx hb dHart_longAtomic_82 (by decide) ?_
          refine lv_iload_n hx hb dHart_longAtomic_84 rfl (lv_at hl 0 rfl) ?_
          refine mk_callW (va_runV (As := [.int 6, .int (hs_regs st ((hf_LongForm_a a1)).toNatClampNeg)]) (rest := []) ⟨hx, hb, hml, hown, hts⟩ (hc_RiscHart_trap l hP hD 6 (hs_regs st ((hf_LongForm_a a1)).toNatClampNeg)) (cwV 2 hts (mk_gV tw_139 tw_141 tw_1 tw_46 tw_142) rfl rfl rfl hdHart_trap ⟨Nat.le_of_ble_eq_true rfl, Nat.le_of_ble_eq_true rfl⟩) (mk_preVK hK (va_recv hK hP (ci := 0) (q0 := 0) rfl rfl)) rfl rfl hl.1 rfl (lv_room (Nat.le_of_ble_eq_true rfl)) dHart_longAtomic_85 ⟨Nat.zero_le _, Nat.zero_le _⟩) hS (fun H locs hP hS => ?_)
          exact W.iret hx hb hr (fun t ht hW => ⟨⟨_, (hf_RiscHart_trap st 6 (hs_regs st ((hf_LongForm_a a1)).toNatClampNeg)).2, rfl, (by unfold hf_RiscHart_longAtomic; rw [if_neg c_1, if_pos c_2, if_pos c_3, if_pos c_4]), by show va_P D hcl _ t.heap; rw [ht]; exact hP⟩, hS.F ht⟩) hS.2.2 dHart_longAtomic_88
      · refine lv_aload_n hx hb dHart_longAtomic_49 rfl (lv_at hl 2 rfl) ?_
        refine va_get (D := D) (ci := 0) (v := .ref h1) (C := RHart) (T := THart) (N := 8) hx hb hg inHart hown hK hP 0 rfl rfl 0 (by decide) (hg _ tw_83) (fun _ h9 => h9) rfl dHart_longAtomic_50 ?_
        refine lv_iconst (v := 2) hx hb dHart_longAtomic_53 (by decide) ?_
        refine lv_iload_n hx hb dHart_longAtomic_54 rfl (lv_at hl 0 rfl) ?_
        refine mk_callR (va_runV (As := [.int 2, .int (hs_regs st ((hf_LongForm_a a1)).toNatClampNeg)]) (rest := []) ⟨hx, hb, hml, hown, hts⟩ (hc_Memory_allows l hP 2 (hs_regs st ((hf_LongForm_a a1)).toNatClampNeg)) (cwV 2 hts (mk_gV tw_224 tw_132 tw_133 tw_47 tw_134) rfl rfl rfl hdMem_allows ⟨Nat.le_of_ble_eq_true rfl, Nat.le_of_ble_eq_true rfl⟩) (mk_preVK hK (va_recv hK hP (ci := 1) (q0 := 1) rfl rfl)) rfl rfl hl.1 rfl (lv_room (Nat.le_of_ble_eq_true rfl)) dHart_longAtomic_55 ⟨Nat.zero_le _, Nat.zero_le _⟩) ?_
        refine lv_if_ne (tgt := 69) hx hb dHart_longAtomic_58 (by decide) (fun c_7 => ?_) (fun c_7 => ?_)
        · refine lv_aload_n hx hb dHart_longAtomic_69 rfl (lv_at hl 2 rfl) ?_
          refine va_get (D := D) (ci := 0) (v := .ref h1) (C := RHart) (T := THart) (N := 8) hx hb hg inHart hown hK hP 0 rfl rfl 0 (by decide) (hg _ tw_83) (fun _ h9 => h9) rfl dHart_longAtomic_70 ?_
          refine lv_iconst (v := 1) hx hb dHart_longAtomic_73 (by decide) ?_
          refine lv_iload_n hx hb dHart_longAtomic_74 rfl (lv_at hl 0 rfl) ?_
          refine mk_callR (va_runV (As := [.int 1, .int (hs_regs st ((hf_LongForm_a a1)).toNatClampNeg)]) (rest := []) ⟨hx, hb, hml, hown, hts⟩ (hc_Memory_allows l hP 1 (hs_regs st ((hf_LongForm_a a1)).toNatClampNeg)) (cwV 2 hts (mk_gV tw_224 tw_132 tw_133 tw_47 tw_134) rfl rfl rfl hdMem_allows ⟨Nat.le_of_ble_eq_true rfl, Nat.le_of_ble_eq_true rfl⟩) (mk_preVK hK (va_recv hK hP (ci := 1) (q0 := 1) rfl rfl)) rfl rfl hl.1 rfl (lv_room (Nat.le_of_ble_eq_true rfl)) dHart_longAtomic_75 ⟨Nat.zero_le _, Nat.zero_le _⟩) ?_
          refine lv_if_ne (tgt := 89) hx hb dHart_longAtomic_78 (by decide) (fun c_8 => ?_) (fun c_8 => ?_)
          · refine lv_iload_n hx hb dHart_longAtomic_89 rfl (lv_at hl 3 rfl) ?_
            refine mk_callR (va_runS (As := [.int a1]) (rest := []) ⟨hx, hb, hml, hown, hts⟩ (hc_LongForm_d l _ a1) (va_cwS 1 hts (mk_gS tw_161 tw_162 tw_54 tw_163) rfl rfl rfl hdLF_d.2 ⟨Nat.le_of_ble_eq_true rfl, Nat.le_of_ble_eq_true rfl⟩) mk_preS rfl rfl hl.1 rfl (lv_room (Nat.le_of_ble_eq_true rfl)) dHart_longAtomic_90 ⟨Nat.zero_le _, Nat.zero_le _⟩) ?_
            refine lv_istore (lv' := [(4, .int (hf_LongForm_d a1)), (3, .int (hs_regs st ((hf_LongForm_a a1)).toNatClampNeg)), (2, .int (hf_LongForm_k a1)), (0, .ref h0), (1, .int a1)]) hx hb dHart_longAtomic_93 hl (by decide) rfl (fun ls hl => ?_)
            refine lv_aload_n hx hb dHart_longAtomic_95 rfl (lv_at hl 3 rfl) ?_
            refine va_get (D := D) (ci := 0) (v := .ref h2) (C := RHart) (T := THart) (N := 8) hx hb hg inHart hown hK hP 0 rfl rfl 1 (by decide) (hg _ tw_84) (fun _ h9 => h9) rfl dHart_longAtomic_96 ?_
            refine lv_iload_n hx hb dHart_longAtomic_99 rfl (lv_at hl 4 rfl) ?_
            refine mk_callR (va_runS (As := [.int a1]) (rest := [.ref h2]) ⟨hx, hb, hml, hown, hts⟩ (hc_LongForm_b l _ a1) (va_cwS 1 hts (mk_gS tw_201 tw_202 tw_54 tw_203) rfl rfl rfl hdLF_b.2 ⟨Nat.le_of_ble_eq_true rfl, Nat.le_of_ble_eq_true rfl⟩) mk_preS rfl rfl hl.1 rfl (lv_room (Nat.le_of_ble_eq_true rfl)) dHart_longAtomic_100 ⟨Nat.zero_le _, Nat.zero_le _⟩) ?_
            refine va_iald (D := D) hx hb hK hP 2 0 rfl rfl (in_LongForm_b _) dHart_longAtomic_103 ?_
            refine lv_istore (lv' := [(5, .int (hs_regs st ((hf_LongForm_b a1)).toNatClampNeg)), (4, .int (hf_LongForm_d a1)), (3, .int (hs_regs st ((hf_LongForm_a a1)).toNatClampNeg)), (2, .int (hf_LongForm_k a1)), (0, .ref h0), (1, .int a1)]) hx hb dHart_longAtomic_104 hl (by decide) rfl (fun ls hl => ?_)
            refine lv_iload_n hx hb dHart_longAtomic_106 rfl (lv_at hl 3 rfl) ?_
            by_cases c_9 : (hf_LongForm_k a1) = 2
            · refine lv_lookup (off := 25) (tgt := 132) hx hb dHart_longAtomic_107 (by decide) (by rw [c_9]; decide) (by decide) ?_
              refine lv_aload_n hx hb dHart_longAtomic_132 rfl (lv_at hl 4 rfl) ?_
              refine lv_iload hx hb dHart_longAtomic_133 (lv_at hl 1 rfl) ?_
              refine lv_iload_n hx hb dHart_longAtomic_135 rfl (lv_at hl 2 rfl) ?_
              refine mk_callW (va_runV (As := [.int (hf_LongForm_d a1), .int (hs_regs st ((hf_LongForm_a a1)).toNatClampNeg)]) (rest := []) ⟨hx, hb, hml, hown, hts⟩ (hc_RiscHart_loadReserved l hP hD (hf_LongForm_d a1) (hs_regs st ((hf_LongForm_a a1)).toNatClampNeg) (in_LongForm_d _)) (cwV 2 hts (mk_gV tw_283 tw_285 tw_16 tw_46 tw_286) rfl rfl rfl hdHart_loadReserved ⟨Nat.le_of_ble_eq_true rfl, Nat.le_of_ble_eq_true rfl⟩) (mk_preVK hK (va_recv hK hP (ci := 0) (q0 := 0) rfl rfl)) rfl rfl hl.1 rfl (lv_room (Nat.le_of_ble_eq_true rfl)) dHart_longAtomic_136 ⟨Nat.zero_le _, Nat.zero_le _⟩) hS (fun H locs hP hS => ?_)
              exact W.iret hx hb hr (fun t ht hW => ⟨⟨_, (hf_RiscHart_loadReserved st (hf_LongForm_d a1) (hs_regs st ((hf_LongForm_a a1)).toNatClampNeg)).2, rfl, (by unfold hf_RiscHart_longAtomic; rw [if_neg c_1, if_pos c_2, if_neg c_3, if_neg c_7, if_neg c_8, if_pos c_9]), by show va_P D hcl _ t.heap; rw [ht]; exact hP⟩, hS.F ht⟩) hS.2.2 dHart_longAtomic_139
            by_cases c_10 : (hf_LongForm_k a1) = 3
            · refine lv_lookup (off := 33) (tgt := 140) hx hb dHart_longAtomic_107 (by decide) (by rw [c_10]; decide) (by decide) ?_
              refine lv_aload_n hx hb dHart_longAtomic_140 rfl (lv_at hl 4 rfl) ?_
              refine lv_iload hx hb dHart_longAtomic_141 (lv_at hl 1 rfl) ?_
              refine lv_iload_n hx hb dHart_longAtomic_143 rfl (lv_at hl 2 rfl) ?_
              refine lv_iload hx hb dHart_longAtomic_144 (lv_at hl 0 rfl) ?_
              refine mk_callW (va_runV (As := [.int (hf_LongForm_d a1), .int (hs_regs st ((hf_LongForm_a a1)).toNatClampNeg), .int (hs_regs st ((hf_LongForm_b a1)).toNatClampNeg)]) (rest := []) ⟨hx, hb, hml, hown, hts⟩ (hc_RiscHart_storeConditional l hP hD (hf_LongForm_d a1) (hs_regs st ((hf_LongForm_a a1)).toNatClampNeg) (hs_regs st ((hf_LongForm_b a1)).toNatClampNeg) (in_LongForm_d _)) (cwV 3 hts (mk_gV tw_291 tw_293 tw_17 tw_46 tw_294) rfl rfl rfl hdHart_storeConditional ⟨Nat.le_of_ble_eq_true rfl, Nat.le_of_ble_eq_true rfl⟩) (mk_preVK hK (va_recv hK hP (ci := 0) (q0 := 0) rfl rfl)) rfl rfl hl.1 rfl (lv_room (Nat.le_of_ble_eq_true rfl)) dHart_longAtomic_146 ⟨Nat.zero_le _, Nat.zero_le _⟩) hS (fun H locs hP hS => ?_)
              exact W.iret hx hb hr (fun t ht hW => ⟨⟨_, (hf_RiscHart_storeConditional st (hf_LongForm_d a1) (hs_regs st ((hf_LongForm_a a1)).toNatClampNeg) (hs_regs st ((hf_LongForm_b a1)).toNatClampNeg)).2, rfl, (by unfold hf_RiscHart_longAtomic; rw [if_neg c_1, if_pos c_2, if_neg c_3, if_neg c_7, if_neg c_8, if_neg c_9, if_pos c_10]), by show va_P D hcl _ t.heap; rw [ht]; exact hP⟩, hS.F ht⟩) hS.2.2 dHart_longAtomic_149
            refine lv_lookup (off := 43) (tgt := 150) hx hb dHart_longAtomic_107 (by decide) ((lv_osw (a := 2) c_9 rfl).trans ((lv_osw (a := 3) c_10 rfl).trans (rfl))) (by decide) ?_
            refine lv_aload_n hx hb dHart_longAtomic_150 rfl (lv_at hl 4 rfl) ?_
            refine lv_iload_n hx hb dHart_longAtomic_151 rfl (lv_at hl 3 rfl) ?_
            refine lv_iload hx hb dHart_longAtomic_152 (lv_at hl 1 rfl) ?_
            refine lv_iload_n hx hb dHart_longAtomic_154 rfl (lv_at hl 2 rfl) ?_
            refine lv_iload hx hb dHart_longAtomic_155 (lv_at hl 0 rfl) ?_
            refine mk_callW (va_runV (As := [.int (hf_LongForm_k a1), .int (hf_LongForm_d a1), .int (hs_regs st ((hf_LongForm_a a1)).toNatClampNeg), .int (hs_regs st ((hf_LongForm_b a1)).toNatClampNeg)]) (rest := []) ⟨hx, hb, hml, hown, hts⟩ (hc_RiscHart_change l hP hD (hf_LongForm_k a1) (hf_LongForm_d a1) (hs_regs st ((hf_LongForm_a a1)).toNatClampNeg) (hs_regs st ((hf_LongForm_b a1)).toNatClampNeg) (in_LongForm_d _)) (cwV 4 hts (mk_gV tw_299 tw_301 tw_18 tw_46 tw_302) rfl rfl rfl hdHart_change ⟨Nat.le_of_ble_eq_true rfl, Nat.le_of_ble_eq_true rfl⟩) (mk_preVK hK (va_recv hK hP (ci := 0) (q0 := 0) rfl rfl)) rfl rfl hl.1 rfl (lv_room (Nat.le_of_ble_eq_true rfl)) dHart_longAtomic_157 ⟨Nat.zero_le _, Nat.zero_le _⟩) hS (fun H locs hP hS => ?_)
            exact W.iret hx hb hr (fun t ht hW => ⟨⟨_, (hf_RiscHart_change st (hf_LongForm_k a1) (hf_LongForm_d a1) (hs_regs st ((hf_LongForm_a a1)).toNatClampNeg) (hs_regs st ((hf_LongForm_b a1)).toNatClampNeg)).2, rfl, (by unfold hf_RiscHart_longAtomic; rw [if_neg c_1, if_pos c_2, if_neg c_3, if_neg c_7, if_neg c_8, if_neg c_9, if_neg c_10]), by show va_P D hcl _ t.heap; rw [ht]; exact hP⟩, hS.F ht⟩) hS.2.2 dHart_longAtomic_160
          · refine lv_aload_n hx hb dHart_longAtomic_81 rfl (lv_at hl 2 rfl) ?_
            refine lv_bipush (v := 6) hx hb dHart_longAtomic_82 (by decide) ?_
            refine lv_iload_n hx hb dHart_longAtomic_84 rfl (lv_at hl 0 rfl) ?_
            refine mk_callW (va_runV (As := [.int 6, .int (hs_regs st ((hf_LongForm_a a1)).toNatClampNeg)]) (rest := []) ⟨hx, hb, hml, hown, hts⟩ (hc_RiscHart_trap l hP hD 6 (hs_regs st ((hf_LongForm_a a1)).toNatClampNeg)) (cwV 2 hts (mk_gV tw_139 tw_141 tw_1 tw_46 tw_142) rfl rfl rfl hdHart_trap ⟨Nat.le_of_ble_eq_true rfl, Nat.le_of_ble_eq_true rfl⟩) (mk_preVK hK (va_recv hK hP (ci := 0) (q0 := 0) rfl rfl)) rfl rfl hl.1 rfl (lv_room (Nat.le_of_ble_eq_true rfl)) dHart_longAtomic_85 ⟨Nat.zero_le _, Nat.zero_le _⟩) hS (fun H locs hP hS => ?_)
            exact W.iret hx hb hr (fun t ht hW => ⟨⟨_, (hf_RiscHart_trap st 6 (hs_regs st ((hf_LongForm_a a1)).toNatClampNeg)).2, rfl, (by unfold hf_RiscHart_longAtomic; rw [if_neg c_1, if_pos c_2, if_neg c_3, if_neg c_7, if_pos c_8]), by show va_P D hcl _ t.heap; rw [ht]; exact hP⟩, hS.F ht⟩) hS.2.2 dHart_longAtomic_88
        · refine lv_aload_n hx hb dHart_longAtomic_61 rfl (lv_at hl 2 rfl) ?_
          refine lv_bipush (v := 7) hx hb dHart_longAtomic_62 (by decide) ?_
          refine lv_iload_n hx hb dHart_longAtomic_64 rfl (lv_at hl 0 rfl) ?_
          refine mk_callW (va_runV (As := [.int 7, .int (hs_regs st ((hf_LongForm_a a1)).toNatClampNeg)]) (rest := []) ⟨hx, hb, hml, hown, hts⟩ (hc_RiscHart_trap l hP hD 7 (hs_regs st ((hf_LongForm_a a1)).toNatClampNeg)) (cwV 2 hts (mk_gV tw_139 tw_141 tw_1 tw_46 tw_142) rfl rfl rfl hdHart_trap ⟨Nat.le_of_ble_eq_true rfl, Nat.le_of_ble_eq_true rfl⟩) (mk_preVK hK (va_recv hK hP (ci := 0) (q0 := 0) rfl rfl)) rfl rfl hl.1 rfl (lv_room (Nat.le_of_ble_eq_true rfl)) dHart_longAtomic_65 ⟨Nat.zero_le _, Nat.zero_le _⟩) hS (fun H locs hP hS => ?_)
          exact W.iret hx hb hr (fun t ht hW => ⟨⟨_, (hf_RiscHart_trap st 7 (hs_regs st ((hf_LongForm_a a1)).toNatClampNeg)).2, rfl, (by unfold hf_RiscHart_longAtomic; rw [if_neg c_1, if_pos c_2, if_neg c_3, if_pos c_7]), by show va_P D hcl _ t.heap; rw [ht]; exact hP⟩, hS.F ht⟩) hS.2.2 dHart_longAtomic_68
    · refine lv_aload_n hx hb dHart_longAtomic_37 rfl (lv_at hl 2 rfl) ?_
      refine lv_iconst (v := 5) hx hb dHart_longAtomic_38 (by decide) ?_
      refine lv_iload_n hx hb dHart_longAtomic_39 rfl (lv_at hl 0 rfl) ?_
      refine mk_callW (va_runV (As := [.int 5, .int (hs_regs st ((hf_LongForm_a a1)).toNatClampNeg)]) (rest := []) ⟨hx, hb, hml, hown, hts⟩ (hc_RiscHart_trap l hP hD 5 (hs_regs st ((hf_LongForm_a a1)).toNatClampNeg)) (cwV 2 hts (mk_gV tw_139 tw_141 tw_1 tw_46 tw_142) rfl rfl rfl hdHart_trap ⟨Nat.le_of_ble_eq_true rfl, Nat.le_of_ble_eq_true rfl⟩) (mk_preVK hK (va_recv hK hP (ci := 0) (q0 := 0) rfl rfl)) rfl rfl hl.1 rfl (lv_room (Nat.le_of_ble_eq_true rfl)) dHart_longAtomic_40 ⟨Nat.zero_le _, Nat.zero_le _⟩) hS (fun H locs hP hS => ?_)
      exact W.iret hx hb hr (fun t ht hW => ⟨⟨_, (hf_RiscHart_trap st 5 (hs_regs st ((hf_LongForm_a a1)).toNatClampNeg)).2, rfl, (by unfold hf_RiscHart_longAtomic; rw [if_neg c_1, if_neg c_2]), by show va_P D hcl _ t.heap; rw [ht]; exact hP⟩, hS.F ht⟩) hS.2.2 dHart_longAtomic_43
  · refine lv_aload_n hx hb dHart_longAtomic_7 rfl (lv_at hl 0 rfl) ?_
    refine lv_iconst (v := 2) hx hb dHart_longAtomic_8 (by decide) ?_
    refine lv_iload_n hx hb dHart_longAtomic_9 rfl (lv_at hl 1 rfl) ?_
    refine mk_callW (va_runV (As := [.int 2, .int a1]) (rest := []) ⟨hx, hb, hml, hown, hts⟩ (hc_RiscHart_trap l hP hD 2 a1) (cwV 2 hts (mk_gV tw_139 tw_141 tw_1 tw_46 tw_142) rfl rfl rfl hdHart_trap ⟨Nat.le_of_ble_eq_true rfl, Nat.le_of_ble_eq_true rfl⟩) (mk_preVK hK (va_recv hK hP (ci := 0) (q0 := 0) rfl rfl)) rfl rfl hl.1 rfl (lv_room (Nat.le_of_ble_eq_true rfl)) dHart_longAtomic_10 ⟨Nat.zero_le _, Nat.zero_le _⟩) hS (fun H locs hP hS => ?_)
    exact W.iret hx hb hr (fun t ht hW => ⟨⟨_, (hf_RiscHart_trap st 2 a1).2, rfl, (by unfold hf_RiscHart_longAtomic; rw [if_pos c_1]), by show va_P D hcl _ t.heap; rw [ht]; exact hP⟩, hS.F ht⟩) hS.2.2 dHart_longAtomic_13
set_option maxHeartbeats 4000000 in
set_option maxRecDepth 100000 in
theorem hc_RiscHart_readCounter (l : Launch) {D : va_G} {cR cW cP : ClassId} {h0 h1 h2 h3 h4 : Nat} {A : Nat → Prop} {st : HS} {G : Heap} (hP : va_P D hcl (hs_W cR cW cP h0 h1 h2 h3 h4 st) G) (hD : ∀ z, va_D A (hs_W cR cW cP h0 h1 h2 h3 h4 z)) (a1 : Int32)  : Met l yHart_readCounter (wq yHart_readCounter cHart_readCounter 3 (some .int)) ({ frames := 2, cells := 0, slots := 0, locals := 42 }) (mk_PK D hcl [(cR, .int), (cW, .int), (cP, .int)] G [.ref h0, .int a1]) (mk_Wi (fun u t => va_P D hcl (hs_W cR cW cP h0 h1 h2 h3 h4 u) t) A (hf_RiscHart_readCounter st a1)) 0 0 A := by
  refine Met.ofW (cc := cHart_readCounter) (maxL := 3) (ret := (some .int)) (by decide) rfl ?_
  intro p e s m args below meth c s₁ B hml hv
  obtain ⟨rfl, hG, hK⟩ := hv
  subst hG
  have hx := B.exec
  have hb := B.bytes
  have hr := B.returns
  have hts := atoms_spec (ws := (wq yHart_readCounter cHart_readCounter 3 (some .int))) B.pre
  have hown : s.vm.findClass RHart = some m.cls := findClass_of_methodNamed B.named
  have hlocks := B.notSynchronized
  have hg : ∀ w ∈ lw_g, w.before _ s = true := fun w h => hts w (List.mem_cons_of_mem _ h)
  have hS : va_S A s.heap s.heap [] := va_S.rf
  have hl := lv_entry ([.ref h0, .int a1]) (n := 3) (Nat.le_of_ble_eq_true rfl)
  rw [lg_entry_eq]
  generalize (lg_sl ([.ref h0, .int a1]) ++ List.replicate (3 - (lg_sl ([.ref h0, .int a1])).length) Slot.unset).toArray = ls at hl ⊢
  have hl : lv_has ls 3 [(0, .ref h0), (1, .int a1)] := hl
  refine lv_iload_n hx hb dHart_readCounter_0 rfl (lv_at hl 1 rfl) ?_
  refine mk_callR (va_runS (As := [.int a1]) (rest := []) ⟨hx, hb, hml, hown, hts⟩ (hc_LongForm_d l _ a1) (va_cwS 1 hts (mk_gS tw_161 tw_162 tw_54 tw_163) rfl rfl rfl hdLF_d.2 ⟨Nat.le_of_ble_eq_true rfl, Nat.le_of_ble_eq_true rfl⟩) mk_preS rfl rfl hl.1 rfl (lv_room (Nat.le_of_ble_eq_true rfl)) dHart_readCounter_1 ⟨Nat.zero_le _, Nat.zero_le _⟩) ?_
  refine lv_istore_n (lv' := [(2, .int (hf_LongForm_d a1)), (0, .ref h0), (1, .int a1)]) hx hb dHart_readCounter_4 rfl hl (by decide) rfl (fun ls hl => ?_)
  refine lv_iload_n hx hb dHart_readCounter_5 rfl (lv_at hl 2 rfl) ?_
  refine lv_bipush (v := 20) hx hb dHart_readCounter_6 (by decide) ?_
  refine lv_iushr (v := (ja_ushr a1 20)) hx hb dHart_readCounter_8 rfl ?_
  by_cases c_1 : (ja_ushr a1 20) = 3072
  · refine lv_lookup (off := 59) (tgt := 68) hx hb dHart_readCounter_9 (by decide) (by rw [c_1]; decide) (by decide) ?_
    refine lv_aload_n hx hb dHart_readCounter_68 rfl (lv_at hl 1 rfl) ?_
    refine lv_iload_n hx hb dHart_readCounter_69 rfl (lv_at hl 0 rfl) ?_
    refine lv_aload_n hx hb dHart_readCounter_70 rfl (lv_at hl 1 rfl) ?_
    refine va_get (D := D) (ci := 0) (v := .long (hs_retired st)) (C := RHart) (T := THart) (N := 8) hx hb hg inHart hown hK hP 0 rfl rfl 6 (by decide) (hg _ tw_89) (fun _ h9 => h9) rfl dHart_readCounter_71 ?_
    refine lv_l2i (v := (hs_retired st).toInt32) hx hb dHart_readCounter_74 rfl ?_
    refine mk_callW (va_runV (As := [.int (hf_LongForm_d a1), .int ((hs_retired st).toInt32)]) (rest := []) ⟨hx, hb, hml, hown, hts⟩ (hc_RiscHart_give l hP hD (hf_LongForm_d a1) ((hs_retired st).toInt32) (in_LongForm_d _)) (cwV 2 hts (mk_gV tw_170 tw_172 tw_4 tw_46 tw_173) rfl rfl rfl hdHart_give ⟨Nat.le_of_ble_eq_true rfl, Nat.le_of_ble_eq_true rfl⟩) (mk_preVK hK (va_recv hK hP (ci := 0) (q0 := 0) rfl rfl)) rfl rfl hl.1 rfl (lv_room (Nat.le_of_ble_eq_true rfl)) dHart_readCounter_75 ⟨Nat.zero_le _, Nat.zero_le _⟩) hS (fun H locs hP hS => ?_)
    exact W.iret hx hb hr (fun t ht hW => ⟨⟨_, (hf_RiscHart_give st (hf_LongForm_d a1) ((hs_retired st).toInt32)).2, rfl, (by unfold hf_RiscHart_readCounter; rw [if_pos c_1]), by show va_P D hcl _ t.heap; rw [ht]; exact hP⟩, hS.F ht⟩) hS.2.2 dHart_readCounter_78
  by_cases c_2 : (ja_ushr a1 20) = 3073
  · refine lv_lookup (off := 84) (tgt := 93) hx hb dHart_readCounter_9 (by decide) (by rw [c_2]; decide) (by decide) ?_
    refine lv_aload_n hx hb dHart_readCounter_93 rfl (lv_at hl 1 rfl) ?_
    refine lv_iload_n hx hb dHart_readCounter_94 rfl (lv_at hl 0 rfl) ?_
    refine lv_aload_n hx hb dHart_readCounter_95 rfl (lv_at hl 1 rfl) ?_
    refine va_get (D := D) (ci := 0) (v := .long (hs_time st)) (C := RHart) (T := THart) (N := 8) hx hb hg inHart hown hK hP 0 rfl rfl 7 (by decide) (hg _ tw_90) (fun _ h9 => h9) rfl dHart_readCounter_96 ?_
    refine lv_l2i (v := (hs_time st).toInt32) hx hb dHart_readCounter_99 rfl ?_
    refine mk_callW (va_runV (As := [.int (hf_LongForm_d a1), .int ((hs_time st).toInt32)]) (rest := []) ⟨hx, hb, hml, hown, hts⟩ (hc_RiscHart_give l hP hD (hf_LongForm_d a1) ((hs_time st).toInt32) (in_LongForm_d _)) (cwV 2 hts (mk_gV tw_170 tw_172 tw_4 tw_46 tw_173) rfl rfl rfl hdHart_give ⟨Nat.le_of_ble_eq_true rfl, Nat.le_of_ble_eq_true rfl⟩) (mk_preVK hK (va_recv hK hP (ci := 0) (q0 := 0) rfl rfl)) rfl rfl hl.1 rfl (lv_room (Nat.le_of_ble_eq_true rfl)) dHart_readCounter_100 ⟨Nat.zero_le _, Nat.zero_le _⟩) hS (fun H locs hP hS => ?_)
    exact W.iret hx hb hr (fun t ht hW => ⟨⟨_, (hf_RiscHart_give st (hf_LongForm_d a1) ((hs_time st).toInt32)).2, rfl, (by unfold hf_RiscHart_readCounter; rw [if_neg c_1, if_pos c_2]), by show va_P D hcl _ t.heap; rw [ht]; exact hP⟩, hS.F ht⟩) hS.2.2 dHart_readCounter_103
  by_cases c_3 : (ja_ushr a1 20) = 3074
  · refine lv_lookup (off := 59) (tgt := 68) hx hb dHart_readCounter_9 (by decide) (by rw [c_3]; decide) (by decide) ?_
    refine lv_aload_n hx hb dHart_readCounter_68 rfl (lv_at hl 1 rfl) ?_
    refine lv_iload_n hx hb dHart_readCounter_69 rfl (lv_at hl 0 rfl) ?_
    refine lv_aload_n hx hb dHart_readCounter_70 rfl (lv_at hl 1 rfl) ?_
    refine va_get (D := D) (ci := 0) (v := .long (hs_retired st)) (C := RHart) (T := THart) (N := 8) hx hb hg inHart hown hK hP 0 rfl rfl 6 (by decide) (hg _ tw_89) (fun _ h9 => h9) rfl dHart_readCounter_71 ?_
    refine lv_l2i (v := (hs_retired st).toInt32) hx hb dHart_readCounter_74 rfl ?_
    refine mk_callW (va_runV (As := [.int (hf_LongForm_d a1), .int ((hs_retired st).toInt32)]) (rest := []) ⟨hx, hb, hml, hown, hts⟩ (hc_RiscHart_give l hP hD (hf_LongForm_d a1) ((hs_retired st).toInt32) (in_LongForm_d _)) (cwV 2 hts (mk_gV tw_170 tw_172 tw_4 tw_46 tw_173) rfl rfl rfl hdHart_give ⟨Nat.le_of_ble_eq_true rfl, Nat.le_of_ble_eq_true rfl⟩) (mk_preVK hK (va_recv hK hP (ci := 0) (q0 := 0) rfl rfl)) rfl rfl hl.1 rfl (lv_room (Nat.le_of_ble_eq_true rfl)) dHart_readCounter_75 ⟨Nat.zero_le _, Nat.zero_le _⟩) hS (fun H locs hP hS => ?_)
    exact W.iret hx hb hr (fun t ht hW => ⟨⟨_, (hf_RiscHart_give st (hf_LongForm_d a1) ((hs_retired st).toInt32)).2, rfl, (by unfold hf_RiscHart_readCounter; rw [if_neg c_1, if_neg c_2, if_pos c_3]), by show va_P D hcl _ t.heap; rw [ht]; exact hP⟩, hS.F ht⟩) hS.2.2 dHart_readCounter_78
  by_cases c_4 : (ja_ushr a1 20) = 3200
  · refine lv_lookup (off := 70) (tgt := 79) hx hb dHart_readCounter_9 (by decide) (by rw [c_4]; decide) (by decide) ?_
    refine lv_aload_n hx hb dHart_readCounter_79 rfl (lv_at hl 1 rfl) ?_
    refine lv_iload_n hx hb dHart_readCounter_80 rfl (lv_at hl 0 rfl) ?_
    refine lv_aload_n hx hb dHart_readCounter_81 rfl (lv_at hl 1 rfl) ?_
    refine va_get (D := D) (ci := 0) (v := .long (hs_retired st)) (C := RHart) (T := THart) (N := 8) hx hb hg inHart hown hK hP 0 rfl rfl 6 (by decide) (hg _ tw_89) (fun _ h9 => h9) rfl dHart_readCounter_82 ?_
    refine lv_bipush (v := 32) hx hb dHart_readCounter_85 (by decide) ?_
    refine lv_lushr (v := (ja_lushr (hs_retired st) 32)) hx hb dHart_readCounter_87 rfl ?_
    refine lv_l2i (v := (ja_lushr (hs_retired st) 32).toInt32) hx hb dHart_readCounter_88 rfl ?_
    refine mk_callW (va_runV (As := [.int (hf_LongForm_d a1), .int ((ja_lushr (hs_retired st) 32).toInt32)]) (rest := []) ⟨hx, hb, hml, hown, hts⟩ (hc_RiscHart_give l hP hD (hf_LongForm_d a1) ((ja_lushr (hs_retired st) 32).toInt32) (in_LongForm_d _)) (cwV 2 hts (mk_gV tw_170 tw_172 tw_4 tw_46 tw_173) rfl rfl rfl hdHart_give ⟨Nat.le_of_ble_eq_true rfl, Nat.le_of_ble_eq_true rfl⟩) (mk_preVK hK (va_recv hK hP (ci := 0) (q0 := 0) rfl rfl)) rfl rfl hl.1 rfl (lv_room (Nat.le_of_ble_eq_true rfl)) dHart_readCounter_89 ⟨Nat.zero_le _, Nat.zero_le _⟩) hS (fun H locs hP hS => ?_)
    exact W.iret hx hb hr (fun t ht hW => ⟨⟨_, (hf_RiscHart_give st (hf_LongForm_d a1) ((ja_lushr (hs_retired st) 32).toInt32)).2, rfl, (by unfold hf_RiscHart_readCounter; rw [if_neg c_1, if_neg c_2, if_neg c_3, if_pos c_4]), by show va_P D hcl _ t.heap; rw [ht]; exact hP⟩, hS.F ht⟩) hS.2.2 dHart_readCounter_92
  by_cases c_5 : (ja_ushr a1 20) = 3201
  · refine lv_lookup (off := 95) (tgt := 104) hx hb dHart_readCounter_9 (by decide) (by rw [c_5]; decide) (by decide) ?_
    refine lv_aload_n hx hb dHart_readCounter_104 rfl (lv_at hl 1 rfl) ?_
    refine lv_iload_n hx hb dHart_readCounter_105 rfl (lv_at hl 0 rfl) ?_
    refine lv_aload_n hx hb dHart_readCounter_106 rfl (lv_at hl 1 rfl) ?_
    refine va_get (D := D) (ci := 0) (v := .long (hs_time st)) (C := RHart) (T := THart) (N := 8) hx hb hg inHart hown hK hP 0 rfl rfl 7 (by decide) (hg _ tw_90) (fun _ h9 => h9) rfl dHart_readCounter_107 ?_
    refine lv_bipush (v := 32) hx hb dHart_readCounter_110 (by decide) ?_
    refine lv_lushr (v := (ja_lushr (hs_time st) 32)) hx hb dHart_readCounter_112 rfl ?_
    refine lv_l2i (v := (ja_lushr (hs_time st) 32).toInt32) hx hb dHart_readCounter_113 rfl ?_
    refine mk_callW (va_runV (As := [.int (hf_LongForm_d a1), .int ((ja_lushr (hs_time st) 32).toInt32)]) (rest := []) ⟨hx, hb, hml, hown, hts⟩ (hc_RiscHart_give l hP hD (hf_LongForm_d a1) ((ja_lushr (hs_time st) 32).toInt32) (in_LongForm_d _)) (cwV 2 hts (mk_gV tw_170 tw_172 tw_4 tw_46 tw_173) rfl rfl rfl hdHart_give ⟨Nat.le_of_ble_eq_true rfl, Nat.le_of_ble_eq_true rfl⟩) (mk_preVK hK (va_recv hK hP (ci := 0) (q0 := 0) rfl rfl)) rfl rfl hl.1 rfl (lv_room (Nat.le_of_ble_eq_true rfl)) dHart_readCounter_114 ⟨Nat.zero_le _, Nat.zero_le _⟩) hS (fun H locs hP hS => ?_)
    exact W.iret hx hb hr (fun t ht hW => ⟨⟨_, (hf_RiscHart_give st (hf_LongForm_d a1) ((ja_lushr (hs_time st) 32).toInt32)).2, rfl, (by unfold hf_RiscHart_readCounter; rw [if_neg c_1, if_neg c_2, if_neg c_3, if_neg c_4, if_pos c_5]), by show va_P D hcl _ t.heap; rw [ht]; exact hP⟩, hS.F ht⟩) hS.2.2 dHart_readCounter_117
  by_cases c_6 : (ja_ushr a1 20) = 3202
  · refine lv_lookup (off := 70) (tgt := 79) hx hb dHart_readCounter_9 (by decide) (by rw [c_6]; decide) (by decide) ?_
    refine lv_aload_n hx hb dHart_readCounter_79 rfl (lv_at hl 1 rfl) ?_
    refine lv_iload_n hx hb dHart_readCounter_80 rfl (lv_at hl 0 rfl) ?_
    refine lv_aload_n hx hb dHart_readCounter_81 rfl (lv_at hl 1 rfl) ?_
    refine va_get (D := D) (ci := 0) (v := .long (hs_retired st)) (C := RHart) (T := THart) (N := 8) hx hb hg inHart hown hK hP 0 rfl rfl 6 (by decide) (hg _ tw_89) (fun _ h9 => h9) rfl dHart_readCounter_82 ?_
    refine lv_bipush (v := 32) hx hb dHart_readCounter_85 (by decide) ?_
    refine lv_lushr (v := (ja_lushr (hs_retired st) 32)) hx hb dHart_readCounter_87 rfl ?_
    refine lv_l2i (v := (ja_lushr (hs_retired st) 32).toInt32) hx hb dHart_readCounter_88 rfl ?_
    refine mk_callW (va_runV (As := [.int (hf_LongForm_d a1), .int ((ja_lushr (hs_retired st) 32).toInt32)]) (rest := []) ⟨hx, hb, hml, hown, hts⟩ (hc_RiscHart_give l hP hD (hf_LongForm_d a1) ((ja_lushr (hs_retired st) 32).toInt32) (in_LongForm_d _)) (cwV 2 hts (mk_gV tw_170 tw_172 tw_4 tw_46 tw_173) rfl rfl rfl hdHart_give ⟨Nat.le_of_ble_eq_true rfl, Nat.le_of_ble_eq_true rfl⟩) (mk_preVK hK (va_recv hK hP (ci := 0) (q0 := 0) rfl rfl)) rfl rfl hl.1 rfl (lv_room (Nat.le_of_ble_eq_true rfl)) dHart_readCounter_89 ⟨Nat.zero_le _, Nat.zero_le _⟩) hS (fun H locs hP hS => ?_)
    exact W.iret hx hb hr (fun t ht hW => ⟨⟨_, (hf_RiscHart_give st (hf_LongForm_d a1) ((ja_lushr (hs_retired st) 32).toInt32)).2, rfl, (by unfold hf_RiscHart_readCounter; rw [if_neg c_1, if_neg c_2, if_neg c_3, if_neg c_4, if_neg c_5, if_pos c_6]), by show va_P D hcl _ t.heap; rw [ht]; exact hP⟩, hS.F ht⟩) hS.2.2 dHart_readCounter_92
  refine lv_lookup (off := 109) (tgt := 118) hx hb dHart_readCounter_9 (by decide) ((lv_osw (a := 3072) c_1 rfl).trans ((lv_osw (a := 3073) c_2 rfl).trans ((lv_osw (a := 3074) c_3 rfl).trans ((lv_osw (a := 3200) c_4 rfl).trans ((lv_osw (a := 3201) c_5 rfl).trans ((lv_osw (a := 3202) c_6 rfl).trans (rfl))))))) (by decide) ?_
  refine lv_aload_n hx hb dHart_readCounter_118 rfl (lv_at hl 1 rfl) ?_
  refine lv_iconst (v := 2) hx hb dHart_readCounter_119 (by decide) ?_
  refine lv_iload_n hx hb dHart_readCounter_120 rfl (lv_at hl 2 rfl) ?_
  refine mk_callW (va_runV (As := [.int 2, .int a1]) (rest := []) ⟨hx, hb, hml, hown, hts⟩ (hc_RiscHart_trap l hP hD 2 a1) (cwV 2 hts (mk_gV tw_139 tw_141 tw_1 tw_46 tw_142) rfl rfl rfl hdHart_trap ⟨Nat.le_of_ble_eq_true rfl, Nat.le_of_ble_eq_true rfl⟩) (mk_preVK hK (va_recv hK hP (ci := 0) (q0 := 0) rfl rfl)) rfl rfl hl.1 rfl (lv_room (Nat.le_of_ble_eq_true rfl)) dHart_readCounter_121 ⟨Nat.zero_le _, Nat.zero_le _⟩) hS (fun H locs hP hS => ?_)
  exact W.iret hx hb hr (fun t ht hW => ⟨⟨_, (hf_RiscHart_trap st 2 a1).2, rfl, (by unfold hf_RiscHart_readCounter; rw [if_neg c_1, if_neg c_2, if_neg c_3, if_neg c_4, if_neg c_5, if_neg c_6]), by show va_P D hcl _ t.heap; rw [ht]; exact hP⟩, hS.F ht⟩) hS.2.2 dHart_readCounter_124
set_option maxHeartbeats 4000000 in
set_option maxRecDepth 100000 in
theorem hc_RiscHart_longSystem (l : Launch) {D : va_G} {cR cW cP : ClassId} {h0 h1 h2 h3 h4 : Nat} {A : Nat → Prop} {st : HS} {G : Heap} (hP : va_P D hcl (hs_W cR cW cP h0 h1 h2 h3 h4 st) G) (hD : ∀ z, va_D A (hs_W cR cW cP h0 h1 h2 h3 h4 z)) (a1 : Int32)  : Met l yHart_longSystem (wq yHart_longSystem cHart_longSystem 3 (some .int)) ({ frames := 3, cells := 0, slots := 0, locals := 64 }) (mk_PK D hcl [(cR, .int), (cW, .int), (cP, .int)] G [.ref h0, .int a1]) (mk_Wi (fun u t => va_P D hcl (hs_W cR cW cP h0 h1 h2 h3 h4 u) t) A (hf_RiscHart_longSystem st a1)) 0 0 A := by
  refine Met.ofW (cc := cHart_longSystem) (maxL := 3) (ret := (some .int)) (by decide) rfl ?_
  intro p e s m args below meth c s₁ B hml hv
  obtain ⟨rfl, hG, hK⟩ := hv
  subst hG
  have hx := B.exec
  have hb := B.bytes
  have hr := B.returns
  have hts := atoms_spec (ws := (wq yHart_longSystem cHart_longSystem 3 (some .int))) B.pre
  have hown : s.vm.findClass RHart = some m.cls := findClass_of_methodNamed B.named
  have hlocks := B.notSynchronized
  have hg : ∀ w ∈ lw_g, w.before _ s = true := fun w h => hts w (List.mem_cons_of_mem _ h)
  have hS : va_S A s.heap s.heap [] := va_S.rf
  have hl := lv_entry ([.ref h0, .int a1]) (n := 3) (Nat.le_of_ble_eq_true rfl)
  rw [lg_entry_eq]
  generalize (lg_sl ([.ref h0, .int a1]) ++ List.replicate (3 - (lg_sl ([.ref h0, .int a1])).length) Slot.unset).toArray = ls at hl ⊢
  have hl : lv_has ls 3 [(0, .ref h0), (1, .int a1)] := hl
  refine lv_iload_n hx hb dHart_longSystem_0 rfl (lv_at hl 1 rfl) ?_
  refine lv_bipush (v := 115) hx hb dHart_longSystem_1 (by decide) ?_
  refine lv_icmp_ne (tgt := 13) hx hb dHart_longSystem_3 (by decide) (fun c_1 => ?_) (fun c_1 => ?_)
  · refine lv_iload_n hx hb dHart_longSystem_13 rfl (lv_at hl 1 rfl) ?_
    refine lv_ldc (v := 1048691) hx hb hown (hg _ tw_310) dHart_longSystem_14 ?_
    refine lv_icmp_ne (tgt := 26) hx hb dHart_longSystem_16 (by decide) (fun c_2 => ?_) (fun c_2 => ?_)
    · refine lv_iload_n hx hb dHart_longSystem_26 rfl (lv_at hl 1 rfl) ?_
      refine mk_callR (va_runS (As := [.int a1]) (rest := []) ⟨hx, hb, hml, hown, hts⟩ (hc_LongForm_f l _ a1) (va_cwS 1 hts (mk_gS tw_188 tw_189 tw_54 tw_190) rfl rfl rfl hdLF_f.2 ⟨Nat.le_of_ble_eq_true rfl, Nat.le_of_ble_eq_true rfl⟩) mk_preS rfl rfl hl.1 rfl (lv_room (Nat.le_of_ble_eq_true rfl)) dHart_longSystem_27 ⟨Nat.zero_le _, Nat.zero_le _⟩) ?_
      refine lv_iconst (v := 2) hx hb dHart_longSystem_30 (by decide) ?_
      refine lv_iand hx hb dHart_longSystem_31 ?_
      refine lv_if_eq (tgt := 46) hx hb dHart_longSystem_32 (by decide) (fun c_3 => ?_) (fun c_3 => ?_)
      · refine lv_iconst (v := 0) hx hb dHart_longSystem_46 (by decide) ?_
        refine lv_istore_n (lv' := [(2, .int 0), (0, .ref h0), (1, .int a1)]) hx hb dHart_longSystem_47 rfl hl (by decide) rfl (fun ls hl => ?_)
        refine lv_iload_n hx hb dHart_longSystem_48 rfl (lv_at hl 0 rfl) ?_
        refine lv_if_eq (tgt := 60) hx hb dHart_longSystem_49 (by decide) (fun c_4 => ?_) (fun c_4 => ?_)
        · refine lv_aload_n hx hb dHart_longSystem_60 rfl (lv_at hl 1 rfl) ?_
          refine lv_iconst (v := 2) hx hb dHart_longSystem_61 (by decide) ?_
          refine lv_iload_n hx hb dHart_longSystem_62 rfl (lv_at hl 2 rfl) ?_
          refine mk_callW (va_runV (As := [.int 2, .int a1]) (rest := []) ⟨hx, hb, hml, hown, hts⟩ (hc_RiscHart_trap l hP hD 2 a1) (cwV 2 hts (mk_gV tw_139 tw_141 tw_1 tw_46 tw_142) rfl rfl rfl hdHart_trap ⟨Nat.le_of_ble_eq_true rfl, Nat.le_of_ble_eq_true rfl⟩) (mk_preVK hK (va_recv hK hP (ci := 0) (q0 := 0) rfl rfl)) rfl rfl hl.1 rfl (lv_room (Nat.le_of_ble_eq_true rfl)) dHart_longSystem_63 ⟨Nat.zero_le _, Nat.zero_le _⟩) hS (fun H locs hP hS => ?_)
          exact W.iret hx hb hr (fun t ht hW => ⟨⟨_, (hf_RiscHart_trap st 2 a1).2, rfl, (by unfold hf_RiscHart_longSystem; rw [if_neg c_1, if_neg c_2, if_pos c_3]), by show va_P D hcl _ t.heap; rw [ht]; exact hP⟩, hS.F ht⟩) hS.2.2 dHart_longSystem_66
        · exact absurd c_4 (by decide)
      · refine lv_iload_n hx hb dHart_longSystem_35 rfl (lv_at hl 1 rfl) ?_
        refine mk_callR (va_runS (As := [.int a1]) (rest := []) ⟨hx, hb, hml, hown, hts⟩ (hc_LongForm_a l _ a1) (va_cwS 1 hts (mk_gS tw_191 tw_192 tw_54 tw_193) rfl rfl rfl hdLF_a.2 ⟨Nat.le_of_ble_eq_true rfl, Nat.le_of_ble_eq_true rfl⟩) mk_preS rfl rfl hl.1 rfl (lv_room (Nat.le_of_ble_eq_true rfl)) dHart_longSystem_36 ⟨Nat.zero_le _, Nat.zero_le _⟩) ?_
        refine lv_if_ne (tgt := 46) hx hb dHart_longSystem_39 (by decide) (fun c_5 => ?_) (fun c_5 => ?_)
        · refine lv_iconst (v := 0) hx hb dHart_longSystem_46 (by decide) ?_
          refine lv_istore_n (lv' := [(2, .int 0), (0, .ref h0), (1, .int a1)]) hx hb dHart_longSystem_47 rfl hl (by decide) rfl (fun ls hl => ?_)
          refine lv_iload_n hx hb dHart_longSystem_48 rfl (lv_at hl 0 rfl) ?_
          refine lv_if_eq (tgt := 60) hx hb dHart_longSystem_49 (by decide) (fun c_6 => ?_) (fun c_6 => ?_)
          · refine lv_aload_n hx hb dHart_longSystem_60 rfl (lv_at hl 1 rfl) ?_
            refine lv_iconst (v := 2) hx hb dHart_longSystem_61 (by decide) ?_
            refine lv_iload_n hx hb dHart_longSystem_62 rfl (lv_at hl 2 rfl) ?_
            refine mk_callW (va_runV (As := [.int 2, .int a1]) (rest := []) ⟨hx, hb, hml, hown, hts⟩ (hc_RiscHart_trap l hP hD 2 a1) (cwV 2 hts (mk_gV tw_139 tw_141 tw_1 tw_46 tw_142) rfl rfl rfl hdHart_trap ⟨Nat.le_of_ble_eq_true rfl, Nat.le_of_ble_eq_true rfl⟩) (mk_preVK hK (va_recv hK hP (ci := 0) (q0 := 0) rfl rfl)) rfl rfl hl.1 rfl (lv_room (Nat.le_of_ble_eq_true rfl)) dHart_longSystem_63 ⟨Nat.zero_le _, Nat.zero_le _⟩) hS (fun H locs hP hS => ?_)
            exact W.iret hx hb hr (fun t ht hW => ⟨⟨_, (hf_RiscHart_trap st 2 a1).2, rfl, (by unfold hf_RiscHart_longSystem; rw [if_neg c_1, if_neg c_2, if_neg c_3, if_neg c_5]), by show va_P D hcl _ t.heap; rw [ht]; exact hP⟩, hS.F ht⟩) hS.2.2 dHart_longSystem_66
          · exact absurd c_6 (by decide)
        · refine lv_iconst (v := 1) hx hb dHart_longSystem_42 (by decide) ?_
          refine lv_goto (tgt := 47) hx hb dHart_longSystem_43 (by decide) ?_
          refine lv_istore_n (lv' := [(2, .int 1), (0, .ref h0), (1, .int a1)]) hx hb dHart_longSystem_47 rfl hl (by decide) rfl (fun ls hl => ?_)
          refine lv_iload_n hx hb dHart_longSystem_48 rfl (lv_at hl 0 rfl) ?_
          refine lv_if_eq (tgt := 60) hx hb dHart_longSystem_49 (by decide) (fun c_7 => ?_) (fun c_7 => ?_)
          · exact absurd c_7 (by decide)
          · refine lv_aload_n hx hb dHart_longSystem_52 rfl (lv_at hl 1 rfl) ?_
            refine lv_iload_n hx hb dHart_longSystem_53 rfl (lv_at hl 2 rfl) ?_
            refine mk_callW (va_runV (As := [.int a1]) (rest := []) ⟨hx, hb, hml, hown, hts⟩ (hc_RiscHart_readCounter l hP hD a1) (cwV 1 hts (mk_gV tw_311 tw_313 tw_20 tw_46 tw_314) rfl rfl rfl hdHart_readCounter ⟨Nat.le_of_ble_eq_true rfl, Nat.le_of_ble_eq_true rfl⟩) (mk_preVK hK (va_recv hK hP (ci := 0) (q0 := 0) rfl rfl)) rfl rfl hl.1 rfl (lv_room (Nat.le_of_ble_eq_true rfl)) dHart_longSystem_54 ⟨Nat.zero_le _, Nat.zero_le _⟩) hS (fun H locs hP hS => ?_)
            refine lv_goto (tgt := 66) hx hb dHart_longSystem_57 (by decide) ?_
            exact W.iret hx hb hr (fun t ht hW => ⟨⟨_, (hf_RiscHart_readCounter st a1).2, rfl, (by unfold hf_RiscHart_longSystem; rw [if_neg c_1, if_neg c_2, if_neg c_3, if_pos c_5]), by show va_P D hcl _ t.heap; rw [ht]; exact hP⟩, hS.F ht⟩) hS.2.2 dHart_longSystem_66
    · refine lv_aload_n hx hb dHart_longSystem_19 rfl (lv_at hl 0 rfl) ?_
      refine lv_iconst (v := 4) hx hb dHart_longSystem_20 (by decide) ?_
      refine lv_iconst (v := 0) hx hb dHart_longSystem_21 (by decide) ?_
      refine mk_callW (va_runV (As := [.int 4, .int 0]) (rest := []) ⟨hx, hb, hml, hown, hts⟩ (hc_RiscHart_trap l hP hD 4 0) (cwV 2 hts (mk_gV tw_139 tw_141 tw_1 tw_46 tw_142) rfl rfl rfl hdHart_trap ⟨Nat.le_of_ble_eq_true rfl, Nat.le_of_ble_eq_true rfl⟩) (mk_preVK hK (va_recv hK hP (ci := 0) (q0 := 0) rfl rfl)) rfl rfl hl.1 rfl (lv_room (Nat.le_of_ble_eq_true rfl)) dHart_longSystem_22 ⟨Nat.zero_le _, Nat.zero_le _⟩) hS (fun H locs hP hS => ?_)
      exact W.iret hx hb hr (fun t ht hW => ⟨⟨_, (hf_RiscHart_trap st 4 0).2, rfl, (by unfold hf_RiscHart_longSystem; rw [if_neg c_1, if_pos c_2]), by show va_P D hcl _ t.heap; rw [ht]; exact hP⟩, hS.F ht⟩) hS.2.2 dHart_longSystem_25
  · refine lv_aload_n hx hb dHart_longSystem_6 rfl (lv_at hl 0 rfl) ?_
    refine lv_iconst (v := 3) hx hb dHart_longSystem_7 (by decide) ?_
    refine lv_iconst (v := 0) hx hb dHart_longSystem_8 (by decide) ?_
    refine mk_callW (va_runV (As := [.int 3, .int 0]) (rest := []) ⟨hx, hb, hml, hown, hts⟩ (hc_RiscHart_trap l hP hD 3 0) (cwV 2 hts (mk_gV tw_139 tw_141 tw_1 tw_46 tw_142) rfl rfl rfl hdHart_trap ⟨Nat.le_of_ble_eq_true rfl, Nat.le_of_ble_eq_true rfl⟩) (mk_preVK hK (va_recv hK hP (ci := 0) (q0 := 0) rfl rfl)) rfl rfl hl.1 rfl (lv_room (Nat.le_of_ble_eq_true rfl)) dHart_longSystem_9 ⟨Nat.zero_le _, Nat.zero_le _⟩) hS (fun H locs hP hS => ?_)
    exact W.iret hx hb hr (fun t ht hW => ⟨⟨_, (hf_RiscHart_trap st 3 0).2, rfl, (by unfold hf_RiscHart_longSystem; rw [if_pos c_1]), by show va_P D hcl _ t.heap; rw [ht]; exact hP⟩, hS.F ht⟩) hS.2.2 dHart_longSystem_12
end
section
set_option maxHeartbeats 4000000 in
set_option maxRecDepth 100000 in
theorem hc_RiscHart_carryOutLong (l : Launch) {D : va_G} {cR cW cP : ClassId} {h0 h1 h2 h3 h4 : Nat} {A : Nat → Prop} {st : HS} {G : Heap} (hP : va_P D hcl (hs_W cR cW cP h0 h1 h2 h3 h4 st) G) (hD : ∀ z, va_D A (hs_W cR cW cP h0 h1 h2 h3 h4 z)) (a1 : Int32)  : Met l yHart_carryOutLong (wq yHart_carryOutLong cHart_carryOutLong 3 (some .int)) ({ frames := 4, cells := 0, slots := 0, locals := 95 }) (mk_PK D hcl [(cR, .int), (cW, .int), (cP, .int)] G [.ref h0, .int a1]) (mk_Wi (fun u t => va_P D hcl (hs_W cR cW cP h0 h1 h2 h3 h4 u) t) A (hf_RiscHart_carryOutLong st a1)) 0 0 A := by
  refine Met.ofW (cc := cHart_carryOutLong) (maxL := 3) (ret := (some .int)) (by decide) rfl ?_
  intro p e s m args below meth c s₁ B hml hv
  obtain ⟨rfl, hG, hK⟩ := hv
  subst hG
  have hx := B.exec
  have hb := B.bytes
  have hr := B.returns
  have hts := atoms_spec (ws := (wq yHart_carryOutLong cHart_carryOutLong 3 (some .int))) B.pre
  have hown : s.vm.findClass RHart = some m.cls := findClass_of_methodNamed B.named
  have hlocks := B.notSynchronized
  have hg : ∀ w ∈ lw_g, w.before _ s = true := fun w h => hts w (List.mem_cons_of_mem _ h)
  have hS : va_S A s.heap s.heap [] := va_S.rf
  have hl := lv_entry ([.ref h0, .int a1]) (n := 3) (Nat.le_of_ble_eq_true rfl)
  rw [lg_entry_eq]
  generalize (lg_sl ([.ref h0, .int a1]) ++ List.replicate (3 - (lg_sl ([.ref h0, .int a1])).length) Slot.unset).toArray = ls at hl ⊢
  have hl : lv_has ls 3 [(0, .ref h0), (1, .int a1)] := hl
  refine lv_iload_n hx hb dHart_carryOutLong_0 rfl (lv_at hl 1 rfl) ?_
  refine mk_callR (va_runS (As := [.int a1]) (rest := []) ⟨hx, hb, hml, hown, hts⟩ (hc_LongForm_d l _ a1) (va_cwS 1 hts (mk_gS tw_161 tw_162 tw_54 tw_163) rfl rfl rfl hdLF_d.2 ⟨Nat.le_of_ble_eq_true rfl, Nat.le_of_ble_eq_true rfl⟩) mk_preS rfl rfl hl.1 rfl (lv_room (Nat.le_of_ble_eq_true rfl)) dHart_carryOutLong_1 ⟨Nat.zero_le _, Nat.zero_le _⟩) ?_
  refine lv_istore_n (lv' := [(2, .int (hf_LongForm_d a1)), (0, .ref h0), (1, .int a1)]) hx hb dHart_carryOutLong_4 rfl hl (by decide) rfl (fun ls hl => ?_)
  refine lv_iload_n hx hb dHart_carryOutLong_5 rfl (lv_at hl 2 rfl) ?_
  refine lv_bipush (v := 127) hx hb dHart_carryOutLong_6 (by decide) ?_
  refine lv_iand hx hb dHart_carryOutLong_8 ?_
  by_cases c_1 : (a1 &&& 127) = 3
  · refine lv_lookup (off := 159) (tgt := 168) hx hb dHart_carryOutLong_9 (by decide) (by rw [c_1]; decide) (by decide) ?_
    refine lv_aload_n hx hb dHart_carryOutLong_168 rfl (lv_at hl 1 rfl) ?_
    refine lv_iload_n hx hb dHart_carryOutLong_169 rfl (lv_at hl 2 rfl) ?_
    refine mk_callW (va_runV (As := [.int a1]) (rest := []) ⟨hx, hb, hml, hown, hts⟩ (hc_RiscHart_longLoad l hP hD a1) (cwV 1 hts (mk_gV tw_215 tw_217 tw_9 tw_46 tw_218) rfl rfl rfl hdHart_longLoad ⟨Nat.le_of_ble_eq_true rfl, Nat.le_of_ble_eq_true rfl⟩) (mk_preVK hK (va_recv hK hP (ci := 0) (q0 := 0) rfl rfl)) rfl rfl hl.1 rfl (lv_room (Nat.le_of_ble_eq_true rfl)) dHart_carryOutLong_170 ⟨Nat.zero_le _, Nat.zero_le _⟩) hS (fun H locs hP hS => ?_)
    exact W.iret hx hb hr (fun t ht hW => ⟨⟨_, (hf_RiscHart_longLoad st a1).2, rfl, (by unfold hf_RiscHart_carryOutLong; rw [if_pos c_1]), by show va_P D hcl _ t.heap; rw [ht]; exact hP⟩, hS.F ht⟩) hS.2.2 dHart_carryOutLong_173
  by_cases c_2 : (a1 &&& 127) = 15
  · refine lv_lookup (off := 189) (tgt := 198) hx hb dHart_carryOutLong_9 (by decide) (by rw [c_2]; decide) (by decide) ?_
    refine lv_iload_n hx hb dHart_carryOutLong_198 rfl (lv_at hl 2 rfl) ?_
    refine mk_callR (va_runS (As := [.int a1]) (rest := []) ⟨hx, hb, hml, hown, hts⟩ (hc_LongForm_f l _ a1) (va_cwS 1 hts (mk_gS tw_188 tw_189 tw_54 tw_190) rfl rfl rfl hdLF_f.2 ⟨Nat.le_of_ble_eq_true rfl, Nat.le_of_ble_eq_true rfl⟩) mk_preS rfl rfl hl.1 rfl (lv_room (Nat.le_of_ble_eq_true rfl)) dHart_carryOutLong_199 ⟨Nat.zero_le _, Nat.zero_le _⟩) ?_
    refine lv_iconst (v := 1) hx hb dHart_carryOutLong_202 (by decide) ?_
    refine lv_icmp_gt (tgt := 210) hx hb dHart_carryOutLong_203 (by decide) (fun c_3 => ?_) (fun c_3 => ?_)
    · refine lv_aload_n hx hb dHart_carryOutLong_210 rfl (lv_at hl 1 rfl) ?_
      refine lv_iconst (v := 2) hx hb dHart_carryOutLong_211 (by decide) ?_
      refine lv_iload_n hx hb dHart_carryOutLong_212 rfl (lv_at hl 2 rfl) ?_
      refine mk_callW (va_runV (As := [.int 2, .int a1]) (rest := []) ⟨hx, hb, hml, hown, hts⟩ (hc_RiscHart_trap l hP hD 2 a1) (cwV 2 hts (mk_gV tw_139 tw_141 tw_1 tw_46 tw_142) rfl rfl rfl hdHart_trap ⟨Nat.le_of_ble_eq_true rfl, Nat.le_of_ble_eq_true rfl⟩) (mk_preVK hK (va_recv hK hP (ci := 0) (q0 := 0) rfl rfl)) rfl rfl hl.1 rfl (lv_room (Nat.le_of_ble_eq_true rfl)) dHart_carryOutLong_213 ⟨Nat.zero_le _, Nat.zero_le _⟩) hS (fun H locs hP hS => ?_)
      exact W.iret hx hb hr (fun t ht hW => ⟨⟨_, (hf_RiscHart_trap st 2 a1).2, rfl, (by unfold hf_RiscHart_carryOutLong; rw [if_neg c_1, if_pos c_2, if_pos c_3]), by show va_P D hcl _ t.heap; rw [ht]; exact hP⟩, hS.F ht⟩) hS.2.2 dHart_carryOutLong_216
    · refine lv_iconst (v := 0) hx hb dHart_carryOutLong_206 (by decide) ?_
      refine lv_goto (tgt := 216) hx hb dHart_carryOutLong_207 (by decide) ?_
      exact W.iret hx hb hr (fun t ht hW => ⟨⟨_, st, rfl, (by unfold hf_RiscHart_carryOutLong; rw [if_neg c_1, if_pos c_2, if_neg c_3]), by show va_P D hcl _ t.heap; rw [ht]; exact hP⟩, hS.F ht⟩) hS.2.2 dHart_carryOutLong_216
  by_cases c_4 : (a1 &&& 127) = 19
  · refine lv_lookup (off := 171) (tgt := 180) hx hb dHart_carryOutLong_9 (by decide) (by rw [c_4]; decide) (by decide) ?_
    refine lv_aload_n hx hb dHart_carryOutLong_180 rfl (lv_at hl 1 rfl) ?_
    refine lv_iload_n hx hb dHart_carryOutLong_181 rfl (lv_at hl 2 rfl) ?_
    refine mk_callW (va_runV (As := [.int a1]) (rest := []) ⟨hx, hb, hml, hown, hts⟩ (hc_RiscHart_longWithNumber l hP hD a1) (cwV 1 hts (mk_gV tw_247 tw_249 tw_13 tw_46 tw_250) rfl rfl rfl hdHart_longWithNumber ⟨Nat.le_of_ble_eq_true rfl, Nat.le_of_ble_eq_true rfl⟩) (mk_preVK hK (va_recv hK hP (ci := 0) (q0 := 0) rfl rfl)) rfl rfl hl.1 rfl (lv_room (Nat.le_of_ble_eq_true rfl)) dHart_carryOutLong_182 ⟨Nat.zero_le _, Nat.zero_le _⟩) hS (fun H locs hP hS => ?_)
    exact W.iret hx hb hr (fun t ht hW => ⟨⟨_, (hf_RiscHart_longWithNumber st a1).2, rfl, (by unfold hf_RiscHart_carryOutLong; rw [if_neg c_1, if_neg c_2, if_pos c_4]), by show va_P D hcl _ t.heap; rw [ht]; exact hP⟩, hS.F ht⟩) hS.2.2 dHart_carryOutLong_185
  by_cases c_5 : (a1 &&& 127) = 23
  · refine lv_lookup (off := 117) (tgt := 126) hx hb dHart_carryOutLong_9 (by decide) (by rw [c_5]; decide) (by decide) ?_
    refine lv_aload_n hx hb dHart_carryOutLong_126 rfl (lv_at hl 1 rfl) ?_
    refine lv_iload_n hx hb dHart_carryOutLong_127 rfl (lv_at hl 0 rfl) ?_
    refine lv_aload_n hx hb dHart_carryOutLong_128 rfl (lv_at hl 1 rfl) ?_
    refine va_get (D := D) (ci := 0) (v := .int (hs_place st)) (C := RHart) (T := THart) (N := 8) hx hb hg inHart hown hK hP 0 rfl rfl 2 (by decide) (hg _ tw_85) (fun _ h9 => h9) rfl dHart_carryOutLong_129 ?_
    refine lv_iload_n hx hb dHart_carryOutLong_132 rfl (lv_at hl 2 rfl) ?_
    refine mk_callR (va_runS (As := [.int a1]) (rest := [.int (hs_place st), .int (hf_LongForm_d a1), .ref h0]) ⟨hx, hb, hml, hown, hts⟩ (hc_LongForm_upperNumber l _ a1) (va_cwS 1 hts (mk_gS tw_167 tw_168 tw_54 tw_169) rfl rfl rfl hdLF_upperNumber.2 ⟨Nat.le_of_ble_eq_true rfl, Nat.le_of_ble_eq_true rfl⟩) mk_preS rfl rfl hl.1 rfl (lv_room (Nat.le_of_ble_eq_true rfl)) dHart_carryOutLong_133 ⟨Nat.zero_le _, Nat.zero_le _⟩) ?_
    refine lv_iadd hx hb dHart_carryOutLong_136 ?_
    refine mk_callW (va_runV (As := [.int (hf_LongForm_d a1), .int ((hs_place st) + (hf_LongForm_upperNumber a1))]) (rest := []) ⟨hx, hb, hml, hown, hts⟩ (hc_RiscHart_give l hP hD (hf_LongForm_d a1) ((hs_place st) + (hf_LongForm_upperNumber a1)) (in_LongForm_d _)) (cwV 2 hts (mk_gV tw_170 tw_172 tw_4 tw_46 tw_173) rfl rfl rfl hdHart_give ⟨Nat.le_of_ble_eq_true rfl, Nat.le_of_ble_eq_true rfl⟩) (mk_preVK hK (va_recv hK hP (ci := 0) (q0 := 0) rfl rfl)) rfl rfl hl.1 rfl (lv_room (Nat.le_of_ble_eq_true rfl)) dHart_carryOutLong_137 ⟨Nat.zero_le _, Nat.zero_le _⟩) hS (fun H locs hP hS => ?_)
    exact W.iret hx hb hr (fun t ht hW => ⟨⟨_, (hf_RiscHart_give st (hf_LongForm_d a1) ((hs_place st) + (hf_LongForm_upperNumber a1))).2, rfl, (by unfold hf_RiscHart_carryOutLong; rw [if_neg c_1, if_neg c_2, if_neg c_4, if_pos c_5]), by show va_P D hcl _ t.heap; rw [ht]; exact hP⟩, hS.F ht⟩) hS.2.2 dHart_carryOutLong_140
  by_cases c_6 : (a1 &&& 127) = 35
  · refine lv_lookup (off := 165) (tgt := 174) hx hb dHart_carryOutLong_9 (by decide) (by rw [c_6]; decide) (by decide) ?_
    refine lv_aload_n hx hb dHart_carryOutLong_174 rfl (lv_at hl 1 rfl) ?_
    refine lv_iload_n hx hb dHart_carryOutLong_175 rfl (lv_at hl 2 rfl) ?_
    refine mk_callW (va_runV (As := [.int a1]) (rest := []) ⟨hx, hb, hml, hown, hts⟩ (hc_RiscHart_longStore l hP hD a1) (cwV 1 hts (mk_gV tw_225 tw_227 tw_11 tw_46 tw_228) rfl rfl rfl hdHart_longStore ⟨Nat.le_of_ble_eq_true rfl, Nat.le_of_ble_eq_true rfl⟩) (mk_preVK hK (va_recv hK hP (ci := 0) (q0 := 0) rfl rfl)) rfl rfl hl.1 rfl (lv_room (Nat.le_of_ble_eq_true rfl)) dHart_carryOutLong_176 ⟨Nat.zero_le _, Nat.zero_le _⟩) hS (fun H locs hP hS => ?_)
    exact W.iret hx hb hr (fun t ht hW => ⟨⟨_, (hf_RiscHart_longStore st a1).2, rfl, (by unfold hf_RiscHart_carryOutLong; rw [if_neg c_1, if_neg c_2, if_neg c_4, if_neg c_5, if_pos c_6]), by show va_P D hcl _ t.heap; rw [ht]; exact hP⟩, hS.F ht⟩) hS.2.2 dHart_carryOutLong_179
  by_cases c_7 : (a1 &&& 127) = 47
  · refine lv_lookup (off := 183) (tgt := 192) hx hb dHart_carryOutLong_9 (by decide) (by rw [c_7]; decide) (by decide) ?_
    refine lv_aload_n hx hb dHart_carryOutLong_192 rfl (lv_at hl 1 rfl) ?_
    refine lv_iload_n hx hb dHart_carryOutLong_193 rfl (lv_at hl 2 rfl) ?_
    refine mk_callW (va_runV (As := [.int a1]) (rest := []) ⟨hx, hb, hml, hown, hts⟩ (hc_RiscHart_longAtomic l hP hD a1) (cwV 1 hts (mk_gV tw_270 tw_272 tw_15 tw_46 tw_273) rfl rfl rfl hdHart_longAtomic ⟨Nat.le_of_ble_eq_true rfl, Nat.le_of_ble_eq_true rfl⟩) (mk_preVK hK (va_recv hK hP (ci := 0) (q0 := 0) rfl rfl)) rfl rfl hl.1 rfl (lv_room (Nat.le_of_ble_eq_true rfl)) dHart_carryOutLong_194 ⟨Nat.zero_le _, Nat.zero_le _⟩) hS (fun H locs hP hS => ?_)
    exact W.iret hx hb hr (fun t ht hW => ⟨⟨_, (hf_RiscHart_longAtomic st a1).2, rfl, (by unfold hf_RiscHart_carryOutLong; rw [if_neg c_1, if_neg c_2, if_neg c_4, if_neg c_5, if_neg c_6, if_pos c_7]), by show va_P D hcl _ t.heap; rw [ht]; exact hP⟩, hS.F ht⟩) hS.2.2 dHart_carryOutLong_197
  by_cases c_8 : (a1 &&& 127) = 51
  · refine lv_lookup (off := 177) (tgt := 186) hx hb dHart_carryOutLong_9 (by decide) (by rw [c_8]; decide) (by decide) ?_
    refine lv_aload_n hx hb dHart_carryOutLong_186 rfl (lv_at hl 1 rfl) ?_
    refine lv_iload_n hx hb dHart_carryOutLong_187 rfl (lv_at hl 2 rfl) ?_
    refine mk_callW (va_runV (As := [.int a1]) (rest := []) ⟨hx, hb, hml, hown, hts⟩ (hc_RiscHart_longWithRegisters l hP hD a1) (cwV 1 hts (mk_gV tw_256 tw_258 tw_14 tw_46 tw_259) rfl rfl rfl hdHart_longWithRegisters ⟨Nat.le_of_ble_eq_true rfl, Nat.le_of_ble_eq_true rfl⟩) (mk_preVK hK (va_recv hK hP (ci := 0) (q0 := 0) rfl rfl)) rfl rfl hl.1 rfl (lv_room (Nat.le_of_ble_eq_true rfl)) dHart_carryOutLong_188 ⟨Nat.zero_le _, Nat.zero_le _⟩) hS (fun H locs hP hS => ?_)
    exact W.iret hx hb hr (fun t ht hW => ⟨⟨_, (hf_RiscHart_longWithRegisters st a1).2, rfl, (by unfold hf_RiscHart_carryOutLong; rw [if_neg c_1, if_neg c_2, if_neg c_4, if_neg c_5, if_neg c_6, if_neg c_7, if_pos c_8]), by show va_P D hcl _ t.heap; rw [ht]; exact hP⟩, hS.F ht⟩) hS.2.2 dHart_carryOutLong_191
  by_cases c_9 : (a1 &&& 127) = 55
  · refine lv_lookup (off := 107) (tgt := 116) hx hb dHart_carryOutLong_9 (by decide) (by rw [c_9]; decide) (by decide) ?_
    refine lv_aload_n hx hb dHart_carryOutLong_116 rfl (lv_at hl 1 rfl) ?_
    refine lv_iload_n hx hb dHart_carryOutLong_117 rfl (lv_at hl 0 rfl) ?_
    refine lv_iload_n hx hb dHart_carryOutLong_118 rfl (lv_at hl 2 rfl) ?_
    refine mk_callR (va_runS (As := [.int a1]) (rest := [.int (hf_LongForm_d a1), .ref h0]) ⟨hx, hb, hml, hown, hts⟩ (hc_LongForm_upperNumber l _ a1) (va_cwS 1 hts (mk_gS tw_167 tw_168 tw_54 tw_169) rfl rfl rfl hdLF_upperNumber.2 ⟨Nat.le_of_ble_eq_true rfl, Nat.le_of_ble_eq_true rfl⟩) mk_preS rfl rfl hl.1 rfl (lv_room (Nat.le_of_ble_eq_true rfl)) dHart_carryOutLong_119 ⟨Nat.zero_le _, Nat.zero_le _⟩) ?_
    refine mk_callW (va_runV (As := [.int (hf_LongForm_d a1), .int (hf_LongForm_upperNumber a1)]) (rest := []) ⟨hx, hb, hml, hown, hts⟩ (hc_RiscHart_give l hP hD (hf_LongForm_d a1) (hf_LongForm_upperNumber a1) (in_LongForm_d _)) (cwV 2 hts (mk_gV tw_170 tw_172 tw_4 tw_46 tw_173) rfl rfl rfl hdHart_give ⟨Nat.le_of_ble_eq_true rfl, Nat.le_of_ble_eq_true rfl⟩) (mk_preVK hK (va_recv hK hP (ci := 0) (q0 := 0) rfl rfl)) rfl rfl hl.1 rfl (lv_room (Nat.le_of_ble_eq_true rfl)) dHart_carryOutLong_122 ⟨Nat.zero_le _, Nat.zero_le _⟩) hS (fun H locs hP hS => ?_)
    exact W.iret hx hb hr (fun t ht hW => ⟨⟨_, (hf_RiscHart_give st (hf_LongForm_d a1) (hf_LongForm_upperNumber a1)).2, rfl, (by unfold hf_RiscHart_carryOutLong; rw [if_neg c_1, if_neg c_2, if_neg c_4, if_neg c_5, if_neg c_6, if_neg c_7, if_neg c_8, if_pos c_9]), by show va_P D hcl _ t.heap; rw [ht]; exact hP⟩, hS.F ht⟩) hS.2.2 dHart_carryOutLong_125
  by_cases c_10 : (a1 &&& 127) = 99
  · refine lv_lookup (off := 153) (tgt := 162) hx hb dHart_carryOutLong_9 (by decide) (by rw [c_10]; decide) (by decide) ?_
    refine lv_aload_n hx hb dHart_carryOutLong_162 rfl (lv_at hl 1 rfl) ?_
    refine lv_iload_n hx hb dHart_carryOutLong_163 rfl (lv_at hl 2 rfl) ?_
    refine mk_callW (va_runV (As := [.int a1]) (rest := []) ⟨hx, hb, hml, hown, hts⟩ (hc_RiscHart_longBranch l hP hD a1) (cwV 1 hts (mk_gV tw_197 tw_199 tw_7 tw_46 tw_200) rfl rfl rfl hdHart_longBranch ⟨Nat.le_of_ble_eq_true rfl, Nat.le_of_ble_eq_true rfl⟩) (mk_preVK hK (va_recv hK hP (ci := 0) (q0 := 0) rfl rfl)) rfl rfl hl.1 rfl (lv_room (Nat.le_of_ble_eq_true rfl)) dHart_carryOutLong_164 ⟨Nat.zero_le _, Nat.zero_le _⟩) hS (fun H locs hP hS => ?_)
    exact W.iret hx hb hr (fun t ht hW => ⟨⟨_, (hf_RiscHart_longBranch st a1).2, rfl, (by unfold hf_RiscHart_carryOutLong; rw [if_neg c_1, if_neg c_2, if_neg c_4, if_neg c_5, if_neg c_6, if_neg c_7, if_neg c_8, if_neg c_9, if_pos c_10]), by show va_P D hcl _ t.heap; rw [ht]; exact hP⟩, hS.F ht⟩) hS.2.2 dHart_carryOutLong_167
  by_cases c_11 : (a1 &&& 127) = 103
  · refine lv_lookup (off := 147) (tgt := 156) hx hb dHart_carryOutLong_9 (by decide) (by rw [c_11]; decide) (by decide) ?_
    refine lv_aload_n hx hb dHart_carryOutLong_156 rfl (lv_at hl 1 rfl) ?_
    refine lv_iload_n hx hb dHart_carryOutLong_157 rfl (lv_at hl 2 rfl) ?_
    refine mk_callW (va_runV (As := [.int a1]) (rest := []) ⟨hx, hb, hml, hown, hts⟩ (hc_RiscHart_longJumpToRegister l hP hD a1) (cwV 1 hts (mk_gV tw_184 tw_186 tw_6 tw_46 tw_187) rfl rfl rfl hdHart_longJumpToRegister ⟨Nat.le_of_ble_eq_true rfl, Nat.le_of_ble_eq_true rfl⟩) (mk_preVK hK (va_recv hK hP (ci := 0) (q0 := 0) rfl rfl)) rfl rfl hl.1 rfl (lv_room (Nat.le_of_ble_eq_true rfl)) dHart_carryOutLong_158 ⟨Nat.zero_le _, Nat.zero_le _⟩) hS (fun H locs hP hS => ?_)
    exact W.iret hx hb hr (fun t ht hW => ⟨⟨_, (hf_RiscHart_longJumpToRegister st a1).2, rfl, (by unfold hf_RiscHart_carryOutLong; rw [if_neg c_1, if_neg c_2, if_neg c_4, if_neg c_5, if_neg c_6, if_neg c_7, if_neg c_8, if_neg c_9, if_neg c_10, if_pos c_11]), by show va_P D hcl _ t.heap; rw [ht]; exact hP⟩, hS.F ht⟩) hS.2.2 dHart_carryOutLong_161
  by_cases c_12 : (a1 &&& 127) = 111
  · refine lv_lookup (off := 132) (tgt := 141) hx hb dHart_carryOutLong_9 (by decide) (by rw [c_12]; decide) (by decide) ?_
    refine lv_aload_n hx hb dHart_carryOutLong_141 rfl (lv_at hl 1 rfl) ?_
    refine lv_iload_n hx hb dHart_carryOutLong_142 rfl (lv_at hl 0 rfl) ?_
    refine lv_aload_n hx hb dHart_carryOutLong_143 rfl (lv_at hl 1 rfl) ?_
    refine va_get (D := D) (ci := 0) (v := .int (hs_place st)) (C := RHart) (T := THart) (N := 8) hx hb hg inHart hown hK hP 0 rfl rfl 2 (by decide) (hg _ tw_85) (fun _ h9 => h9) rfl dHart_carryOutLong_144 ?_
    refine lv_iload_n hx hb dHart_carryOutLong_147 rfl (lv_at hl 2 rfl) ?_
    refine mk_callR (va_runS (As := [.int a1]) (rest := [.int (hs_place st), .int (hf_LongForm_d a1), .ref h0]) ⟨hx, hb, hml, hown, hts⟩ (hc_LongForm_offsetJ l _ a1) (va_cwS 1 hts (mk_gS tw_174 tw_175 tw_54 tw_176) rfl rfl rfl hdLF_offsetJ.2 ⟨Nat.le_of_ble_eq_true rfl, Nat.le_of_ble_eq_true rfl⟩) mk_preS rfl rfl hl.1 rfl (lv_room (Nat.le_of_ble_eq_true rfl)) dHart_carryOutLong_148 ⟨Nat.zero_le _, Nat.zero_le _⟩) ?_
    refine lv_iadd hx hb dHart_carryOutLong_151 ?_
    refine mk_callW (va_runV (As := [.int (hf_LongForm_d a1), .int ((hs_place st) + (hf_LongForm_offsetJ a1))]) (rest := []) ⟨hx, hb, hml, hown, hts⟩ (hc_RiscHart_linkAndJump l hP hD (hf_LongForm_d a1) ((hs_place st) + (hf_LongForm_offsetJ a1)) (in_LongForm_d _)) (cwV 2 hts (mk_gV tw_180 tw_182 tw_5 tw_46 tw_183) rfl rfl rfl hdHart_linkAndJump ⟨Nat.le_of_ble_eq_true rfl, Nat.le_of_ble_eq_true rfl⟩) (mk_preVK hK (va_recv hK hP (ci := 0) (q0 := 0) rfl rfl)) rfl rfl hl.1 rfl (lv_room (Nat.le_of_ble_eq_true rfl)) dHart_carryOutLong_152 ⟨Nat.zero_le _, Nat.zero_le _⟩) hS (fun H locs hP hS => ?_)
    exact W.iret hx hb hr (fun t ht hW => ⟨⟨_, (hf_RiscHart_linkAndJump st (hf_LongForm_d a1) ((hs_place st) + (hf_LongForm_offsetJ a1))).2, rfl, (by unfold hf_RiscHart_carryOutLong; rw [if_neg c_1, if_neg c_2, if_neg c_4, if_neg c_5, if_neg c_6, if_neg c_7, if_neg c_8, if_neg c_9, if_neg c_10, if_neg c_11, if_pos c_12]), by show va_P D hcl _ t.heap; rw [ht]; exact hP⟩, hS.F ht⟩) hS.2.2 dHart_carryOutLong_155
  by_cases c_13 : (a1 &&& 127) = 115
  · refine lv_lookup (off := 208) (tgt := 217) hx hb dHart_carryOutLong_9 (by decide) (by rw [c_13]; decide) (by decide) ?_
    refine lv_aload_n hx hb dHart_carryOutLong_217 rfl (lv_at hl 1 rfl) ?_
    refine lv_iload_n hx hb dHart_carryOutLong_218 rfl (lv_at hl 2 rfl) ?_
    refine mk_callW (va_runV (As := [.int a1]) (rest := []) ⟨hx, hb, hml, hown, hts⟩ (hc_RiscHart_longSystem l hP hD a1) (cwV 1 hts (mk_gV tw_306 tw_308 tw_19 tw_46 tw_309) rfl rfl rfl hdHart_longSystem ⟨Nat.le_of_ble_eq_true rfl, Nat.le_of_ble_eq_true rfl⟩) (mk_preVK hK (va_recv hK hP (ci := 0) (q0 := 0) rfl rfl)) rfl rfl hl.1 rfl (lv_room (Nat.le_of_ble_eq_true rfl)) dHart_carryOutLong_219 ⟨Nat.zero_le _, Nat.zero_le _⟩) hS (fun H locs hP hS => ?_)
    exact W.iret hx hb hr (fun t ht hW => ⟨⟨_, (hf_RiscHart_longSystem st a1).2, rfl, (by unfold hf_RiscHart_carryOutLong; rw [if_neg c_1, if_neg c_2, if_neg c_4, if_neg c_5, if_neg c_6, if_neg c_7, if_neg c_8, if_neg c_9, if_neg c_10, if_neg c_11, if_neg c_12, if_pos c_13]), by show va_P D hcl _ t.heap; rw [ht]; exact hP⟩, hS.F ht⟩) hS.2.2 dHart_carryOutLong_222
  refine lv_lookup (off := 214) (tgt := 223) hx hb dHart_carryOutLong_9 (by decide) ((lv_osw (a := 3) c_1 rfl).trans ((lv_osw (a := 15) c_2 rfl).trans ((lv_osw (a := 19) c_4 rfl).trans ((lv_osw (a := 23) c_5 rfl).trans ((lv_osw (a := 35) c_6 rfl).trans ((lv_osw (a := 47) c_7 rfl).trans ((lv_osw (a := 51) c_8 rfl).trans ((lv_osw (a := 55) c_9 rfl).trans ((lv_osw (a := 99) c_10 rfl).trans ((lv_osw (a := 103) c_11 rfl).trans ((lv_osw (a := 111) c_12 rfl).trans ((lv_osw (a := 115) c_13 rfl).trans (rfl))))))))))))) (by decide) ?_
  refine lv_aload_n hx hb dHart_carryOutLong_223 rfl (lv_at hl 1 rfl) ?_
  refine lv_iconst (v := 2) hx hb dHart_carryOutLong_224 (by decide) ?_
  refine lv_iload_n hx hb dHart_carryOutLong_225 rfl (lv_at hl 2 rfl) ?_
  refine mk_callW (va_runV (As := [.int 2, .int a1]) (rest := []) ⟨hx, hb, hml, hown, hts⟩ (hc_RiscHart_trap l hP hD 2 a1) (cwV 2 hts (mk_gV tw_139 tw_141 tw_1 tw_46 tw_142) rfl rfl rfl hdHart_trap ⟨Nat.le_of_ble_eq_true rfl, Nat.le_of_ble_eq_true rfl⟩) (mk_preVK hK (va_recv hK hP (ci := 0) (q0 := 0) rfl rfl)) rfl rfl hl.1 rfl (lv_room (Nat.le_of_ble_eq_true rfl)) dHart_carryOutLong_226 ⟨Nat.zero_le _, Nat.zero_le _⟩) hS (fun H locs hP hS => ?_)
  exact W.iret hx hb hr (fun t ht hW => ⟨⟨_, (hf_RiscHart_trap st 2 a1).2, rfl, (by unfold hf_RiscHart_carryOutLong; rw [if_neg c_1, if_neg c_2, if_neg c_4, if_neg c_5, if_neg c_6, if_neg c_7, if_neg c_8, if_neg c_9, if_neg c_10, if_neg c_11, if_neg c_12, if_neg c_13]), by show va_P D hcl _ t.heap; rw [ht]; exact hP⟩, hS.F ht⟩) hS.2.2 dHart_carryOutLong_229
set_option maxHeartbeats 4000000 in
set_option maxRecDepth 100000 in
theorem hc_RiscHart_shortOfQ0 (l : Launch) {D : va_G} {cR cW cP : ClassId} {h0 h1 h2 h3 h4 : Nat} {A : Nat → Prop} {st : HS} {G : Heap} (hP : va_P D hcl (hs_W cR cW cP h0 h1 h2 h3 h4 st) G) (hD : ∀ z, va_D A (hs_W cR cW cP h0 h1 h2 h3 h4 z)) (a1 : Int32)  : Met l yHart_shortOfQ0 (wq yHart_shortOfQ0 cHart_shortOfQ0 5 (some .int)) ({ frames := 3, cells := 0, slots := 0, locals := 68 }) (mk_PK D hcl [(cR, .int), (cW, .int), (cP, .int)] G [.ref h0, .int a1]) (mk_Wi (fun u t => va_P D hcl (hs_W cR cW cP h0 h1 h2 h3 h4 u) t) A (hf_RiscHart_shortOfQ0 st a1)) 0 0 A := by
  refine Met.ofW (cc := cHart_shortOfQ0) (maxL := 5) (ret := (some .int)) (by decide) rfl ?_
  intro p e s m args below meth c s₁ B hml hv
  obtain ⟨rfl, hG, hK⟩ := hv
  subst hG
  have hx := B.exec
  have hb := B.bytes
  have hr := B.returns
  have hts := atoms_spec (ws := (wq yHart_shortOfQ0 cHart_shortOfQ0 5 (some .int))) B.pre
  have hown : s.vm.findClass RHart = some m.cls := findClass_of_methodNamed B.named
  have hlocks := B.notSynchronized
  have hg : ∀ w ∈ lw_g, w.before _ s = true := fun w h => hts w (List.mem_cons_of_mem _ h)
  have hS : va_S A s.heap s.heap [] := va_S.rf
  have hl := lv_entry ([.ref h0, .int a1]) (n := 5) (Nat.le_of_ble_eq_true rfl)
  rw [lg_entry_eq]
  generalize (lg_sl ([.ref h0, .int a1]) ++ List.replicate (5 - (lg_sl ([.ref h0, .int a1])).length) Slot.unset).toArray = ls at hl ⊢
  have hl : lv_has ls 5 [(0, .ref h0), (1, .int a1)] := hl
  refine lv_iload_n hx hb dHart_shortOfQ0_0 rfl (lv_at hl 1 rfl) ?_
  refine mk_callR (va_runS (As := [.int a1]) (rest := []) ⟨hx, hb, hml, hown, hts⟩ (hc_ShortForm_lowNear l _ a1) (va_cwS 1 hts (mk_gS tw_323 tw_324 tw_57 tw_325) rfl rfl rfl hdSF_lowNear.2 ⟨Nat.le_of_ble_eq_true rfl, Nat.le_of_ble_eq_true rfl⟩) mk_preS rfl rfl hl.1 rfl (lv_room (Nat.le_of_ble_eq_true rfl)) dHart_shortOfQ0_1 ⟨Nat.zero_le _, Nat.zero_le _⟩) ?_
  refine lv_istore_n (lv' := [(2, .int (hf_ShortForm_lowNear a1)), (0, .ref h0), (1, .int a1)]) hx hb dHart_shortOfQ0_4 rfl hl (by decide) rfl (fun ls hl => ?_)
  refine lv_aload_n hx hb dHart_shortOfQ0_5 rfl (lv_at hl 1 rfl) ?_
  refine va_get (D := D) (ci := 0) (v := .ref h2) (C := RHart) (T := THart) (N := 8) hx hb hg inHart hown hK hP 0 rfl rfl 1 (by decide) (hg _ tw_84) (fun _ h9 => h9) rfl dHart_shortOfQ0_6 ?_
  refine lv_iload_n hx hb dHart_shortOfQ0_9 rfl (lv_at hl 2 rfl) ?_
  refine mk_callR (va_runS (As := [.int a1]) (rest := [.ref h2]) ⟨hx, hb, hml, hown, hts⟩ (hc_ShortForm_highNear l _ a1) (va_cwS 1 hts (mk_gS tw_327 tw_328 tw_57 tw_329) rfl rfl rfl hdSF_highNear.2 ⟨Nat.le_of_ble_eq_true rfl, Nat.le_of_ble_eq_true rfl⟩) mk_preS rfl rfl hl.1 rfl (lv_room (Nat.le_of_ble_eq_true rfl)) dHart_shortOfQ0_10 ⟨Nat.zero_le _, Nat.zero_le _⟩) ?_
  refine va_iald (D := D) hx hb hK hP 2 0 rfl rfl (in_ShortForm_highNear _) dHart_shortOfQ0_13 ?_
  refine lv_iload_n hx hb dHart_shortOfQ0_14 rfl (lv_at hl 2 rfl) ?_
  refine mk_callR (va_runS (As := [.int a1]) (rest := [.int (hs_regs st ((hf_ShortForm_highNear a1)).toNatClampNeg)]) ⟨hx, hb, hml, hown, hts⟩ (hc_ShortForm_nearOffset l _ a1) (va_cwS 1 hts (mk_gS tw_330 tw_331 tw_57 tw_332) rfl rfl rfl hdSF_nearOffset.2 ⟨Nat.le_of_ble_eq_true rfl, Nat.le_of_ble_eq_true rfl⟩) mk_preS rfl rfl hl.1 rfl (lv_room (Nat.le_of_ble_eq_true rfl)) dHart_shortOfQ0_15 ⟨Nat.zero_le _, Nat.zero_le _⟩) ?_
  refine lv_iadd hx hb dHart_shortOfQ0_18 ?_
  refine lv_istore_n (lv' := [(3, .int ((hs_regs st ((hf_ShortForm_highNear a1)).toNatClampNeg) + (hf_ShortForm_nearOffset a1))), (2, .int (hf_ShortForm_lowNear a1)), (0, .ref h0), (1, .int a1)]) hx hb dHart_shortOfQ0_19 rfl hl (by decide) rfl (fun ls hl => ?_)
  refine lv_iload_n hx hb dHart_shortOfQ0_20 rfl (lv_at hl 3 rfl) ?_
  refine mk_callR (va_runS (As := [.int a1]) (rest := []) ⟨hx, hb, hml, hown, hts⟩ (hc_ShortForm_f l _ a1) (va_cwS 1 hts (mk_gS tw_333 tw_334 tw_57 tw_335) rfl rfl rfl hdSF_f.2 ⟨Nat.le_of_ble_eq_true rfl, Nat.le_of_ble_eq_true rfl⟩) mk_preS rfl rfl hl.1 rfl (lv_room (Nat.le_of_ble_eq_true rfl)) dHart_shortOfQ0_21 ⟨Nat.zero_le _, Nat.zero_le _⟩) ?_
  by_cases c_1 : (hf_ShortForm_f a1) = 0
  · refine lv_lookup (off := 36) (tgt := 60) hx hb dHart_shortOfQ0_24 (by decide) (by rw [c_1]; decide) (by decide) ?_
    refine lv_iload_n hx hb dHart_shortOfQ0_60 rfl (lv_at hl 3 rfl) ?_
    refine mk_callR (va_runS (As := [.int a1]) (rest := []) ⟨hx, hb, hml, hown, hts⟩ (hc_ShortForm_stackNumber l _ a1) (va_cwS 1 hts (mk_gS tw_336 tw_337 tw_57 tw_338) rfl rfl rfl hdSF_stackNumber.2 ⟨Nat.le_of_ble_eq_true rfl, Nat.le_of_ble_eq_true rfl⟩) mk_preS rfl rfl hl.1 rfl (lv_room (Nat.le_of_ble_eq_true rfl)) dHart_shortOfQ0_61 ⟨Nat.zero_le _, Nat.zero_le _⟩) ?_
    refine lv_istore (lv' := [(4, .int (hf_ShortForm_stackNumber a1)), (3, .int ((hs_regs st ((hf_ShortForm_highNear a1)).toNatClampNeg) + (hf_ShortForm_nearOffset a1))), (2, .int (hf_ShortForm_lowNear a1)), (0, .ref h0), (1, .int a1)]) hx hb dHart_shortOfQ0_64 hl (by decide) rfl (fun ls hl => ?_)
    refine lv_iload hx hb dHart_shortOfQ0_66 (lv_at hl 0 rfl) ?_
    refine lv_if_ne (tgt := 80) hx hb dHart_shortOfQ0_68 (by decide) (fun c_2 => ?_) (fun c_2 => ?_)
    · refine lv_aload_n hx hb dHart_shortOfQ0_80 rfl (lv_at hl 3 rfl) ?_
      refine lv_iload_n hx hb dHart_shortOfQ0_81 rfl (lv_at hl 2 rfl) ?_
      refine lv_aload_n hx hb dHart_shortOfQ0_82 rfl (lv_at hl 3 rfl) ?_
      refine va_get (D := D) (ci := 0) (v := .ref h2) (C := RHart) (T := THart) (N := 8) hx hb hg inHart hown hK hP 0 rfl rfl 1 (by decide) (hg _ tw_84) (fun _ h9 => h9) rfl dHart_shortOfQ0_83 ?_
      refine lv_iconst (v := 2) hx hb dHart_shortOfQ0_86 (by decide) ?_
      refine va_iald (D := D) hx hb hK hP 2 0 rfl rfl (in_k (by decide)) dHart_shortOfQ0_87 ?_
      refine lv_iload hx hb dHart_shortOfQ0_88 (lv_at hl 0 rfl) ?_
      refine lv_iadd hx hb dHart_shortOfQ0_90 ?_
      refine mk_callW (va_runV (As := [.int (hf_ShortForm_lowNear a1), .int ((hs_regs st (2 : Int32).toNatClampNeg) + (hf_ShortForm_stackNumber a1))]) (rest := []) ⟨hx, hb, hml, hown, hts⟩ (hc_RiscHart_give l hP hD (hf_ShortForm_lowNear a1) ((hs_regs st (2 : Int32).toNatClampNeg) + (hf_ShortForm_stackNumber a1)) (in_ShortForm_lowNear _)) (cwV 2 hts (mk_gV tw_170 tw_172 tw_4 tw_46 tw_173) rfl rfl rfl hdHart_give ⟨Nat.le_of_ble_eq_true rfl, Nat.le_of_ble_eq_true rfl⟩) (mk_preVK hK (va_recv hK hP (ci := 0) (q0 := 0) rfl rfl)) rfl rfl hl.1 rfl (lv_room (Nat.le_of_ble_eq_true rfl)) dHart_shortOfQ0_91 ⟨Nat.zero_le _, Nat.zero_le _⟩) hS (fun H locs hP hS => ?_)
      exact W.iret hx hb hr (fun t ht hW => ⟨⟨_, (hf_RiscHart_give st (hf_ShortForm_lowNear a1) ((hs_regs st (2 : Int32).toNatClampNeg) + (hf_ShortForm_stackNumber a1))).2, rfl, (by unfold hf_RiscHart_shortOfQ0; rw [if_pos c_1, if_neg c_2]), by show va_P D hcl _ t.heap; rw [ht]; exact hP⟩, hS.F ht⟩) hS.2.2 dHart_shortOfQ0_94
    · refine lv_aload_n hx hb dHart_shortOfQ0_71 rfl (lv_at hl 3 rfl) ?_
      refine lv_iconst (v := 2) hx hb dHart_shortOfQ0_72 (by decide) ?_
      refine lv_iload_n hx hb dHart_shortOfQ0_73 rfl (lv_at hl 4 rfl) ?_
      refine mk_callW (va_runV (As := [.int 2, .int a1]) (rest := []) ⟨hx, hb, hml, hown, hts⟩ (hc_RiscHart_trap l hP hD 2 a1) (cwV 2 hts (mk_gV tw_139 tw_141 tw_1 tw_46 tw_142) rfl rfl rfl hdHart_trap ⟨Nat.le_of_ble_eq_true rfl, Nat.le_of_ble_eq_true rfl⟩) (mk_preVK hK (va_recv hK hP (ci := 0) (q0 := 0) rfl rfl)) rfl rfl hl.1 rfl (lv_room (Nat.le_of_ble_eq_true rfl)) dHart_shortOfQ0_74 ⟨Nat.zero_le _, Nat.zero_le _⟩) hS (fun H locs hP hS => ?_)
      refine lv_goto (tgt := 94) hx hb dHart_shortOfQ0_77 (by decide) ?_
      exact W.iret hx hb hr (fun t ht hW => ⟨⟨_, (hf_RiscHart_trap st 2 a1).2, rfl, (by unfold hf_RiscHart_shortOfQ0; rw [if_pos c_1, if_pos c_2]), by show va_P D hcl _ t.heap; rw [ht]; exact hP⟩, hS.F ht⟩) hS.2.2 dHart_shortOfQ0_94
  by_cases c_3 : (hf_ShortForm_f a1) = 2
  · refine lv_lookup (off := 71) (tgt := 95) hx hb dHart_shortOfQ0_24 (by decide) (by rw [c_3]; decide) (by decide) ?_
    refine lv_aload_n hx hb dHart_shortOfQ0_95 rfl (lv_at hl 2 rfl) ?_
    refine lv_iconst (v := 2) hx hb dHart_shortOfQ0_96 (by decide) ?_
    refine lv_iload_n hx hb dHart_shortOfQ0_97 rfl (lv_at hl 1 rfl) ?_
    refine lv_iload_n hx hb dHart_shortOfQ0_98 rfl (lv_at hl 0 rfl) ?_
    refine mk_callW (va_runV (As := [.int 2, .int (hf_ShortForm_lowNear a1), .int ((hs_regs st ((hf_ShortForm_highNear a1)).toNatClampNeg) + (hf_ShortForm_nearOffset a1))]) (rest := []) ⟨hx, hb, hml, hown, hts⟩ (hc_RiscHart_load l hP hD 2 (hf_ShortForm_lowNear a1) ((hs_regs st ((hf_ShortForm_highNear a1)).toNatClampNeg) + (hf_ShortForm_nearOffset a1)) (in_ShortForm_lowNear _)) (cwV 3 hts (mk_gV tw_219 tw_221 tw_10 tw_46 tw_222) rfl rfl rfl hdHart_load ⟨Nat.le_of_ble_eq_true rfl, Nat.le_of_ble_eq_true rfl⟩) (mk_preVK hK (va_recv hK hP (ci := 0) (q0 := 0) rfl rfl)) rfl rfl hl.1 rfl (lv_room (Nat.le_of_ble_eq_true rfl)) dHart_shortOfQ0_99 ⟨Nat.zero_le _, Nat.zero_le _⟩) hS (fun H locs hP hS => ?_)
    exact W.iret hx hb hr (fun t ht hW => ⟨⟨_, (hf_RiscHart_load st 2 (hf_ShortForm_lowNear a1) ((hs_regs st ((hf_ShortForm_highNear a1)).toNatClampNeg) + (hf_ShortForm_nearOffset a1))).2, rfl, (by unfold hf_RiscHart_shortOfQ0; rw [if_neg c_1, if_pos c_3]), by show va_P D hcl _ t.heap; rw [ht]; exact hP⟩, hS.F ht⟩) hS.2.2 dHart_shortOfQ0_102
  by_cases c_4 : (hf_ShortForm_f a1) = 6
  · refine lv_lookup (off := 79) (tgt := 103) hx hb dHart_shortOfQ0_24 (by decide) (by rw [c_4]; decide) (by decide) ?_
    refine lv_aload_n hx hb dHart_shortOfQ0_103 rfl (lv_at hl 2 rfl) ?_
    refine lv_iconst (v := 2) hx hb dHart_shortOfQ0_104 (by decide) ?_
    refine lv_iload_n hx hb dHart_shortOfQ0_105 rfl (lv_at hl 0 rfl) ?_
    refine lv_aload_n hx hb dHart_shortOfQ0_106 rfl (lv_at hl 2 rfl) ?_
    refine va_get (D := D) (ci := 0) (v := .ref h2) (C := RHart) (T := THart) (N := 8) hx hb hg inHart hown hK hP 0 rfl rfl 1 (by decide) (hg _ tw_84) (fun _ h9 => h9) rfl dHart_shortOfQ0_107 ?_
    refine lv_iload_n hx hb dHart_shortOfQ0_110 rfl (lv_at hl 1 rfl) ?_
    refine va_iald (D := D) hx hb hK hP 2 0 rfl rfl (in_ShortForm_lowNear _) dHart_shortOfQ0_111 ?_
    refine mk_callW (va_runV (As := [.int 2, .int ((hs_regs st ((hf_ShortForm_highNear a1)).toNatClampNeg) + (hf_ShortForm_nearOffset a1)), .int (hs_regs st ((hf_ShortForm_lowNear a1)).toNatClampNeg)]) (rest := []) ⟨hx, hb, hml, hown, hts⟩ (hc_RiscHart_store l hP hD 2 ((hs_regs st ((hf_ShortForm_highNear a1)).toNatClampNeg) + (hf_ShortForm_nearOffset a1)) (hs_regs st ((hf_ShortForm_lowNear a1)).toNatClampNeg)) (cwV 3 hts (mk_gV tw_236 tw_238 tw_12 tw_46 tw_239) rfl rfl rfl hdHart_store ⟨Nat.le_of_ble_eq_true rfl, Nat.le_of_ble_eq_true rfl⟩) (mk_preVK hK (va_recv hK hP (ci := 0) (q0 := 0) rfl rfl)) rfl rfl hl.1 rfl (lv_room (Nat.le_of_ble_eq_true rfl)) dHart_shortOfQ0_112 ⟨Nat.zero_le _, Nat.zero_le _⟩) hS (fun H locs hP hS => ?_)
    exact W.iret hx hb hr (fun t ht hW => ⟨⟨_, (hf_RiscHart_store st 2 ((hs_regs st ((hf_ShortForm_highNear a1)).toNatClampNeg) + (hf_ShortForm_nearOffset a1)) (hs_regs st ((hf_ShortForm_lowNear a1)).toNatClampNeg)).2, rfl, (by unfold hf_RiscHart_shortOfQ0; rw [if_neg c_1, if_neg c_3, if_pos c_4]), by show va_P D hcl _ t.heap; rw [ht]; exact hP⟩, hS.F ht⟩) hS.2.2 dHart_shortOfQ0_115
  refine lv_lookup (off := 92) (tgt := 116) hx hb dHart_shortOfQ0_24 (by decide) ((lv_osw (a := 0) c_1 rfl).trans ((lv_osw (a := 2) c_3 rfl).trans ((lv_osw (a := 6) c_4 rfl).trans (rfl)))) (by decide) ?_
  refine lv_aload_n hx hb dHart_shortOfQ0_116 rfl (lv_at hl 2 rfl) ?_
  refine lv_iconst (v := 2) hx hb dHart_shortOfQ0_117 (by decide) ?_
  refine lv_iload_n hx hb dHart_shortOfQ0_118 rfl (lv_at hl 3 rfl) ?_
  refine mk_callW (va_runV (As := [.int 2, .int a1]) (rest := []) ⟨hx, hb, hml, hown, hts⟩ (hc_RiscHart_trap l hP hD 2 a1) (cwV 2 hts (mk_gV tw_139 tw_141 tw_1 tw_46 tw_142) rfl rfl rfl hdHart_trap ⟨Nat.le_of_ble_eq_true rfl, Nat.le_of_ble_eq_true rfl⟩) (mk_preVK hK (va_recv hK hP (ci := 0) (q0 := 0) rfl rfl)) rfl rfl hl.1 rfl (lv_room (Nat.le_of_ble_eq_true rfl)) dHart_shortOfQ0_119 ⟨Nat.zero_le _, Nat.zero_le _⟩) hS (fun H locs hP hS => ?_)
  exact W.iret hx hb hr (fun t ht hW => ⟨⟨_, (hf_RiscHart_trap st 2 a1).2, rfl, (by unfold hf_RiscHart_shortOfQ0; rw [if_neg c_1, if_neg c_3, if_neg c_4]), by show va_P D hcl _ t.heap; rw [ht]; exact hP⟩, hS.F ht⟩) hS.2.2 dHart_shortOfQ0_122
set_option maxHeartbeats 4000000 in
set_option maxRecDepth 100000 in
theorem hc_RiscHart_shortMoveStack (l : Launch) {D : va_G} {cR cW cP : ClassId} {h0 h1 h2 h3 h4 : Nat} {A : Nat → Prop} {st : HS} {G : Heap} (hP : va_P D hcl (hs_W cR cW cP h0 h1 h2 h3 h4 st) G) (hD : ∀ z, va_D A (hs_W cR cW cP h0 h1 h2 h3 h4 z)) (a1 : Int32)  : Met l yHart_shortMoveStack (wq yHart_shortMoveStack cHart_shortMoveStack 3 (some .int)) ({ frames := 2, cells := 0, slots := 0, locals := 43 }) (mk_PK D hcl [(cR, .int), (cW, .int), (cP, .int)] G [.ref h0, .int a1]) (mk_Wi (fun u t => va_P D hcl (hs_W cR cW cP h0 h1 h2 h3 h4 u) t) A (hf_RiscHart_shortMoveStack st a1)) 0 0 A := by
  refine Met.ofW (cc := cHart_shortMoveStack) (maxL := 3) (ret := (some .int)) (by decide) rfl ?_
  intro p e s m args below meth c s₁ B hml hv
  obtain ⟨rfl, hG, hK⟩ := hv
  subst hG
  have hx := B.exec
  have hb := B.bytes
  have hr := B.returns
  have hts := atoms_spec (ws := (wq yHart_shortMoveStack cHart_shortMoveStack 3 (some .int))) B.pre
  have hown : s.vm.findClass RHart = some m.cls := findClass_of_methodNamed B.named
  have hlocks := B.notSynchronized
  have hg : ∀ w ∈ lw_g, w.before _ s = true := fun w h => hts w (List.mem_cons_of_mem _ h)
  have hS : va_S A s.heap s.heap [] := va_S.rf
  have hl := lv_entry ([.ref h0, .int a1]) (n := 3) (Nat.le_of_ble_eq_true rfl)
  rw [lg_entry_eq]
  generalize (lg_sl ([.ref h0, .int a1]) ++ List.replicate (3 - (lg_sl ([.ref h0, .int a1])).length) Slot.unset).toArray = ls at hl ⊢
  have hl : lv_has ls 3 [(0, .ref h0), (1, .int a1)] := hl
  refine lv_iload_n hx hb dHart_shortMoveStack_0 rfl (lv_at hl 1 rfl) ?_
  refine mk_callR (va_runS (As := [.int a1]) (rest := []) ⟨hx, hb, hml, hown, hts⟩ (hc_ShortForm_stackMove l _ a1) (va_cwS 1 hts (mk_gS tw_357 tw_358 tw_57 tw_359) rfl rfl rfl hdSF_stackMove.2 ⟨Nat.le_of_ble_eq_true rfl, Nat.le_of_ble_eq_true rfl⟩) mk_preS rfl rfl hl.1 rfl (lv_room (Nat.le_of_ble_eq_true rfl)) dHart_shortMoveStack_1 ⟨Nat.zero_le _, Nat.zero_le _⟩) ?_
  refine lv_istore_n (lv' := [(2, .int (hf_ShortForm_stackMove a1)), (0, .ref h0), (1, .int a1)]) hx hb dHart_shortMoveStack_4 rfl hl (by decide) rfl (fun ls hl => ?_)
  refine lv_iload_n hx hb dHart_shortMoveStack_5 rfl (lv_at hl 0 rfl) ?_
  refine lv_if_ne (tgt := 18) hx hb dHart_shortMoveStack_6 (by decide) (fun c_1 => ?_) (fun c_1 => ?_)
  · refine lv_aload_n hx hb dHart_shortMoveStack_18 rfl (lv_at hl 1 rfl) ?_
    refine lv_iconst (v := 2) hx hb dHart_shortMoveStack_19 (by decide) ?_
    refine lv_aload_n hx hb dHart_shortMoveStack_20 rfl (lv_at hl 1 rfl) ?_
    refine va_get (D := D) (ci := 0) (v := .ref h2) (C := RHart) (T := THart) (N := 8) hx hb hg inHart hown hK hP 0 rfl rfl 1 (by decide) (hg _ tw_84) (fun _ h9 => h9) rfl dHart_shortMoveStack_21 ?_
    refine lv_iconst (v := 2) hx hb dHart_shortMoveStack_24 (by decide) ?_
    refine va_iald (D := D) hx hb hK hP 2 0 rfl rfl (in_k (by decide)) dHart_shortMoveStack_25 ?_
    refine lv_iload_n hx hb dHart_shortMoveStack_26 rfl (lv_at hl 0 rfl) ?_
    refine lv_iadd hx hb dHart_shortMoveStack_27 ?_
    refine mk_callW (va_runV (As := [.int 2, .int ((hs_regs st (2 : Int32).toNatClampNeg) + (hf_ShortForm_stackMove a1))]) (rest := []) ⟨hx, hb, hml, hown, hts⟩ (hc_RiscHart_give l hP hD 2 ((hs_regs st (2 : Int32).toNatClampNeg) + (hf_ShortForm_stackMove a1)) (in_k (by decide))) (cwV 2 hts (mk_gV tw_170 tw_172 tw_4 tw_46 tw_173) rfl rfl rfl hdHart_give ⟨Nat.le_of_ble_eq_true rfl, Nat.le_of_ble_eq_true rfl⟩) (mk_preVK hK (va_recv hK hP (ci := 0) (q0 := 0) rfl rfl)) rfl rfl hl.1 rfl (lv_room (Nat.le_of_ble_eq_true rfl)) dHart_shortMoveStack_28 ⟨Nat.zero_le _, Nat.zero_le _⟩) hS (fun H locs hP hS => ?_)
    exact W.iret hx hb hr (fun t ht hW => ⟨⟨_, (hf_RiscHart_give st 2 ((hs_regs st (2 : Int32).toNatClampNeg) + (hf_ShortForm_stackMove a1))).2, rfl, (by unfold hf_RiscHart_shortMoveStack; rw [if_neg c_1]), by show va_P D hcl _ t.heap; rw [ht]; exact hP⟩, hS.F ht⟩) hS.2.2 dHart_shortMoveStack_31
  · refine lv_aload_n hx hb dHart_shortMoveStack_9 rfl (lv_at hl 1 rfl) ?_
    refine lv_iconst (v := 2) hx hb dHart_shortMoveStack_10 (by decide) ?_
    refine lv_iload_n hx hb dHart_shortMoveStack_11 rfl (lv_at hl 2 rfl) ?_
    refine mk_callW (va_runV (As := [.int 2, .int a1]) (rest := []) ⟨hx, hb, hml, hown, hts⟩ (hc_RiscHart_trap l hP hD 2 a1) (cwV 2 hts (mk_gV tw_139 tw_141 tw_1 tw_46 tw_142) rfl rfl rfl hdHart_trap ⟨Nat.le_of_ble_eq_true rfl, Nat.le_of_ble_eq_true rfl⟩) (mk_preVK hK (va_recv hK hP (ci := 0) (q0 := 0) rfl rfl)) rfl rfl hl.1 rfl (lv_room (Nat.le_of_ble_eq_true rfl)) dHart_shortMoveStack_12 ⟨Nat.zero_le _, Nat.zero_le _⟩) hS (fun H locs hP hS => ?_)
    refine lv_goto (tgt := 31) hx hb dHart_shortMoveStack_15 (by decide) ?_
    exact W.iret hx hb hr (fun t ht hW => ⟨⟨_, (hf_RiscHart_trap st 2 a1).2, rfl, (by unfold hf_RiscHart_shortMoveStack; rw [if_pos c_1]), by show va_P D hcl _ t.heap; rw [ht]; exact hP⟩, hS.F ht⟩) hS.2.2 dHart_shortMoveStack_31
set_option maxHeartbeats 4000000 in
set_option maxRecDepth 100000 in
theorem hc_RiscHart_shortUpperNumber (l : Launch) {D : va_G} {cR cW cP : ClassId} {h0 h1 h2 h3 h4 : Nat} {A : Nat → Prop} {st : HS} {G : Heap} (hP : va_P D hcl (hs_W cR cW cP h0 h1 h2 h3 h4 st) G) (hD : ∀ z, va_D A (hs_W cR cW cP h0 h1 h2 h3 h4 z)) (a1 : Int32)  : Met l yHart_shortUpperNumber (wq yHart_shortUpperNumber cHart_shortUpperNumber 3 (some .int)) ({ frames := 2, cells := 0, slots := 0, locals := 42 }) (mk_PK D hcl [(cR, .int), (cW, .int), (cP, .int)] G [.ref h0, .int a1]) (mk_Wi (fun u t => va_P D hcl (hs_W cR cW cP h0 h1 h2 h3 h4 u) t) A (hf_RiscHart_shortUpperNumber st a1)) 0 0 A := by
  refine Met.ofW (cc := cHart_shortUpperNumber) (maxL := 3) (ret := (some .int)) (by decide) rfl ?_
  intro p e s m args below meth c s₁ B hml hv
  obtain ⟨rfl, hG, hK⟩ := hv
  subst hG
  have hx := B.exec
  have hb := B.bytes
  have hr := B.returns
  have hts := atoms_spec (ws := (wq yHart_shortUpperNumber cHart_shortUpperNumber 3 (some .int))) B.pre
  have hown : s.vm.findClass RHart = some m.cls := findClass_of_methodNamed B.named
  have hlocks := B.notSynchronized
  have hg : ∀ w ∈ lw_g, w.before _ s = true := fun w h => hts w (List.mem_cons_of_mem _ h)
  have hS : va_S A s.heap s.heap [] := va_S.rf
  have hl := lv_entry ([.ref h0, .int a1]) (n := 3) (Nat.le_of_ble_eq_true rfl)
  rw [lg_entry_eq]
  generalize (lg_sl ([.ref h0, .int a1]) ++ List.replicate (3 - (lg_sl ([.ref h0, .int a1])).length) Slot.unset).toArray = ls at hl ⊢
  have hl : lv_has ls 3 [(0, .ref h0), (1, .int a1)] := hl
  refine lv_iload_n hx hb dHart_shortUpperNumber_0 rfl (lv_at hl 1 rfl) ?_
  refine mk_callR (va_runS (As := [.int a1]) (rest := []) ⟨hx, hb, hml, hown, hts⟩ (hc_ShortForm_number l _ a1) (va_cwS 1 hts (mk_gS tw_346 tw_347 tw_57 tw_348) rfl rfl rfl hdSF_number.2 ⟨Nat.le_of_ble_eq_true rfl, Nat.le_of_ble_eq_true rfl⟩) mk_preS rfl rfl hl.1 rfl (lv_room (Nat.le_of_ble_eq_true rfl)) dHart_shortUpperNumber_1 ⟨Nat.zero_le _, Nat.zero_le _⟩) ?_
  refine lv_istore_n (lv' := [(2, .int (hf_ShortForm_number a1)), (0, .ref h0), (1, .int a1)]) hx hb dHart_shortUpperNumber_4 rfl hl (by decide) rfl (fun ls hl => ?_)
  refine lv_iload_n hx hb dHart_shortUpperNumber_5 rfl (lv_at hl 0 rfl) ?_
  refine lv_if_ne (tgt := 18) hx hb dHart_shortUpperNumber_6 (by decide) (fun c_1 => ?_) (fun c_1 => ?_)
  · refine lv_aload_n hx hb dHart_shortUpperNumber_18 rfl (lv_at hl 1 rfl) ?_
    refine lv_iload_n hx hb dHart_shortUpperNumber_19 rfl (lv_at hl 2 rfl) ?_
    refine mk_callR (va_runS (As := [.int a1]) (rest := [.ref h0]) ⟨hx, hb, hml, hown, hts⟩ (hc_ShortForm_d l _ a1) (va_cwS 1 hts (mk_gS tw_343 tw_344 tw_57 tw_345) rfl rfl rfl hdSF_d.2 ⟨Nat.le_of_ble_eq_true rfl, Nat.le_of_ble_eq_true rfl⟩) mk_preS rfl rfl hl.1 rfl (lv_room (Nat.le_of_ble_eq_true rfl)) dHart_shortUpperNumber_20 ⟨Nat.zero_le _, Nat.zero_le _⟩) ?_
    refine lv_iload_n hx hb dHart_shortUpperNumber_23 rfl (lv_at hl 0 rfl) ?_
    refine lv_bipush (v := 12) hx hb dHart_shortUpperNumber_24 (by decide) ?_
    refine lv_ishl hx hb dHart_shortUpperNumber_26 ?_
    refine mk_callW (va_runV (As := [.int (hf_ShortForm_d a1), .int ((hf_ShortForm_number a1) <<< (12 &&& 31))]) (rest := []) ⟨hx, hb, hml, hown, hts⟩ (hc_RiscHart_give l hP hD (hf_ShortForm_d a1) ((hf_ShortForm_number a1) <<< (12 &&& 31)) (in_ShortForm_d _)) (cwV 2 hts (mk_gV tw_170 tw_172 tw_4 tw_46 tw_173) rfl rfl rfl hdHart_give ⟨Nat.le_of_ble_eq_true rfl, Nat.le_of_ble_eq_true rfl⟩) (mk_preVK hK (va_recv hK hP (ci := 0) (q0 := 0) rfl rfl)) rfl rfl hl.1 rfl (lv_room (Nat.le_of_ble_eq_true rfl)) dHart_shortUpperNumber_27 ⟨Nat.zero_le _, Nat.zero_le _⟩) hS (fun H locs hP hS => ?_)
    exact W.iret hx hb hr (fun t ht hW => ⟨⟨_, (hf_RiscHart_give st (hf_ShortForm_d a1) ((hf_ShortForm_number a1) <<< (12 &&& 31))).2, rfl, (by unfold hf_RiscHart_shortUpperNumber; rw [if_neg c_1]), by show va_P D hcl _ t.heap; rw [ht]; exact hP⟩, hS.F ht⟩) hS.2.2 dHart_shortUpperNumber_30
  · refine lv_aload_n hx hb dHart_shortUpperNumber_9 rfl (lv_at hl 1 rfl) ?_
    refine lv_iconst (v := 2) hx hb dHart_shortUpperNumber_10 (by decide) ?_
    refine lv_iload_n hx hb dHart_shortUpperNumber_11 rfl (lv_at hl 2 rfl) ?_
    refine mk_callW (va_runV (As := [.int 2, .int a1]) (rest := []) ⟨hx, hb, hml, hown, hts⟩ (hc_RiscHart_trap l hP hD 2 a1) (cwV 2 hts (mk_gV tw_139 tw_141 tw_1 tw_46 tw_142) rfl rfl rfl hdHart_trap ⟨Nat.le_of_ble_eq_true rfl, Nat.le_of_ble_eq_true rfl⟩) (mk_preVK hK (va_recv hK hP (ci := 0) (q0 := 0) rfl rfl)) rfl rfl hl.1 rfl (lv_room (Nat.le_of_ble_eq_true rfl)) dHart_shortUpperNumber_12 ⟨Nat.zero_le _, Nat.zero_le _⟩) hS (fun H locs hP hS => ?_)
    refine lv_goto (tgt := 30) hx hb dHart_shortUpperNumber_15 (by decide) ?_
    exact W.iret hx hb hr (fun t ht hW => ⟨⟨_, (hf_RiscHart_trap st 2 a1).2, rfl, (by unfold hf_RiscHart_shortUpperNumber; rw [if_pos c_1]), by show va_P D hcl _ t.heap; rw [ht]; exact hP⟩, hS.F ht⟩) hS.2.2 dHart_shortUpperNumber_30
set_option maxHeartbeats 4000000 in
set_option maxRecDepth 100000 in
theorem hc_RiscHart_shortArithmetic (l : Launch) {D : va_G} {cR cW cP : ClassId} {h0 h1 h2 h3 h4 : Nat} {A : Nat → Prop} {st : HS} {G : Heap} (hP : va_P D hcl (hs_W cR cW cP h0 h1 h2 h3 h4 st) G) (hD : ∀ z, va_D A (hs_W cR cW cP h0 h1 h2 h3 h4 z)) (a1 : Int32)  : Met l yHart_shortArithmetic (wq yHart_shortArithmetic cHart_shortArithmetic 6 (some .int)) ({ frames := 2, cells := 0, slots := 0, locals := 42 }) (mk_PK D hcl [(cR, .int), (cW, .int), (cP, .int)] G [.ref h0, .int a1]) (mk_Wi (fun u t => va_P D hcl (hs_W cR cW cP h0 h1 h2 h3 h4 u) t) A (hf_RiscHart_shortArithmetic st a1)) 0 0 A := by
  refine Met.ofW (cc := cHart_shortArithmetic) (maxL := 6) (ret := (some .int)) (by decide) rfl ?_
  intro p e s m args below meth c s₁ B hml hv
  obtain ⟨rfl, hG, hK⟩ := hv
  subst hG
  have hx := B.exec
  have hb := B.bytes
  have hr := B.returns
  have hts := atoms_spec (ws := (wq yHart_shortArithmetic cHart_shortArithmetic 6 (some .int))) B.pre
  have hown : s.vm.findClass RHart = some m.cls := findClass_of_methodNamed B.named
  have hlocks := B.notSynchronized
  have hg : ∀ w ∈ lw_g, w.before _ s = true := fun w h => hts w (List.mem_cons_of_mem _ h)
  have hS : va_S A s.heap s.heap [] := va_S.rf
  have hl := lv_entry ([.ref h0, .int a1]) (n := 6) (Nat.le_of_ble_eq_true rfl)
  rw [lg_entry_eq]
  generalize (lg_sl ([.ref h0, .int a1]) ++ List.replicate (6 - (lg_sl ([.ref h0, .int a1])).length) Slot.unset).toArray = ls at hl ⊢
  have hl : lv_has ls 6 [(0, .ref h0), (1, .int a1)] := hl
  refine lv_iload_n hx hb dHart_shortArithmetic_0 rfl (lv_at hl 1 rfl) ?_
  refine mk_callR (va_runS (As := [.int a1]) (rest := []) ⟨hx, hb, hml, hown, hts⟩ (hc_ShortForm_highNear l _ a1) (va_cwS 1 hts (mk_gS tw_327 tw_328 tw_57 tw_329) rfl rfl rfl hdSF_highNear.2 ⟨Nat.le_of_ble_eq_true rfl, Nat.le_of_ble_eq_true rfl⟩) mk_preS rfl rfl hl.1 rfl (lv_room (Nat.le_of_ble_eq_true rfl)) dHart_shortArithmetic_1 ⟨Nat.zero_le _, Nat.zero_le _⟩) ?_
  refine lv_istore_n (lv' := [(2, .int (hf_ShortForm_highNear a1)), (0, .ref h0), (1, .int a1)]) hx hb dHart_shortArithmetic_4 rfl hl (by decide) rfl (fun ls hl => ?_)
  refine lv_aload_n hx hb dHart_shortArithmetic_5 rfl (lv_at hl 1 rfl) ?_
  refine va_get (D := D) (ci := 0) (v := .ref h2) (C := RHart) (T := THart) (N := 8) hx hb hg inHart hown hK hP 0 rfl rfl 1 (by decide) (hg _ tw_84) (fun _ h9 => h9) rfl dHart_shortArithmetic_6 ?_
  refine lv_iload_n hx hb dHart_shortArithmetic_9 rfl (lv_at hl 0 rfl) ?_
  refine va_iald (D := D) hx hb hK hP 2 0 rfl rfl (in_ShortForm_highNear _) dHart_shortArithmetic_10 ?_
  refine lv_istore_n (lv' := [(3, .int (hs_regs st ((hf_ShortForm_highNear a1)).toNatClampNeg)), (2, .int (hf_ShortForm_highNear a1)), (0, .ref h0), (1, .int a1)]) hx hb dHart_shortArithmetic_11 rfl hl (by decide) rfl (fun ls hl => ?_)
  refine lv_iload_n hx hb dHart_shortArithmetic_12 rfl (lv_at hl 3 rfl) ?_
  refine lv_bipush (v := 10) hx hb dHart_shortArithmetic_13 (by decide) ?_
  refine lv_iconst (v := 2) hx hb dHart_shortArithmetic_15 (by decide) ?_
  refine mk_callR (va_runS (As := [.int a1, .int 10, .int 2]) (rest := []) ⟨hx, hb, hml, hown, hts⟩ (hc_Bits_part l _ a1 10 2) (va_cwS 3 hts (mk_gS tw_368 tw_165 tw_55 tw_166) rfl rfl rfl hdBits_part.2 ⟨Nat.le_of_ble_eq_true rfl, Nat.le_of_ble_eq_true rfl⟩) mk_preS rfl rfl hl.1 rfl (lv_room (Nat.le_of_ble_eq_true rfl)) dHart_shortArithmetic_16 ⟨Nat.zero_le _, Nat.zero_le _⟩) ?_
  refine lv_istore (lv' := [(4, .int (hf_Bits_part a1 10 2)), (3, .int (hs_regs st ((hf_ShortForm_highNear a1)).toNatClampNeg)), (2, .int (hf_ShortForm_highNear a1)), (0, .ref h0), (1, .int a1)]) hx hb dHart_shortArithmetic_19 hl (by decide) rfl (fun ls hl => ?_)
  refine lv_iload hx hb dHart_shortArithmetic_21 (lv_at hl 0 rfl) ?_
  refine lv_iconst (v := 2) hx hb dHart_shortArithmetic_23 (by decide) ?_
  refine lv_icmp_ne (tgt := 39) hx hb dHart_shortArithmetic_24 (by decide) (fun c_1 => ?_) (fun c_1 => ?_)
  · refine lv_iload_n hx hb dHart_shortArithmetic_39 rfl (lv_at hl 4 rfl) ?_
    refine mk_callR (va_runS (As := [.int a1]) (rest := []) ⟨hx, hb, hml, hown, hts⟩ (hc_ShortForm_bit12 l _ a1) (va_cwS 1 hts (mk_gS tw_369 tw_370 tw_57 tw_371) rfl rfl rfl hdSF_bit12.2 ⟨Nat.le_of_ble_eq_true rfl, Nat.le_of_ble_eq_true rfl⟩) mk_preS rfl rfl hl.1 rfl (lv_room (Nat.le_of_ble_eq_true rfl)) dHart_shortArithmetic_40 ⟨Nat.zero_le _, Nat.zero_le _⟩) ?_
    refine lv_if_eq (tgt := 53) hx hb dHart_shortArithmetic_43 (by decide) (fun c_2 => ?_) (fun c_2 => ?_)
    · refine lv_aload_n hx hb dHart_shortArithmetic_53 rfl (lv_at hl 3 rfl) ?_
      refine va_get (D := D) (ci := 0) (v := .ref h2) (C := RHart) (T := THart) (N := 8) hx hb hg inHart hown hK hP 0 rfl rfl 1 (by decide) (hg _ tw_84) (fun _ h9 => h9) rfl dHart_shortArithmetic_54 ?_
      refine lv_iload_n hx hb dHart_shortArithmetic_57 rfl (lv_at hl 4 rfl) ?_
      refine mk_callR (va_runS (As := [.int a1]) (rest := [.ref h2]) ⟨hx, hb, hml, hown, hts⟩ (hc_ShortForm_lowNear l _ a1) (va_cwS 1 hts (mk_gS tw_323 tw_324 tw_57 tw_325) rfl rfl rfl hdSF_lowNear.2 ⟨Nat.le_of_ble_eq_true rfl, Nat.le_of_ble_eq_true rfl⟩) mk_preS rfl rfl hl.1 rfl (lv_room (Nat.le_of_ble_eq_true rfl)) dHart_shortArithmetic_58 ⟨Nat.zero_le _, Nat.zero_le _⟩) ?_
      refine va_iald (D := D) hx hb hK hP 2 0 rfl rfl (in_ShortForm_lowNear _) dHart_shortArithmetic_61 ?_
      refine lv_istore (lv' := [(5, .int (hs_regs st ((hf_ShortForm_lowNear a1)).toNatClampNeg)), (4, .int (hf_Bits_part a1 10 2)), (3, .int (hs_regs st ((hf_ShortForm_highNear a1)).toNatClampNeg)), (2, .int (hf_ShortForm_highNear a1)), (0, .ref h0), (1, .int a1)]) hx hb dHart_shortArithmetic_62 hl (by decide) rfl (fun ls hl => ?_)
      refine lv_iload hx hb dHart_shortArithmetic_64 (lv_at hl 1 rfl) ?_
      by_cases c_3 : (hf_Bits_part a1 10 2) = 0
      · refine lv_lookup (off := 26) (tgt := 92) hx hb dHart_shortArithmetic_66 (by decide) (by rw [c_3]; decide) (by decide) ?_
        refine lv_aload_n hx hb dHart_shortArithmetic_92 rfl (lv_at hl 4 rfl) ?_
        refine lv_iload_n hx hb dHart_shortArithmetic_93 rfl (lv_at hl 3 rfl) ?_
        refine lv_iload_n hx hb dHart_shortArithmetic_94 rfl (lv_at hl 2 rfl) ?_
        refine lv_iload_n hx hb dHart_shortArithmetic_95 rfl (lv_at hl 5 rfl) ?_
        refine mk_callR (va_runS (As := [.int a1]) (rest := [.int (hs_regs st ((hf_ShortForm_highNear a1)).toNatClampNeg), .int (hf_ShortForm_highNear a1), .ref h0]) ⟨hx, hb, hml, hown, hts⟩ (hc_ShortForm_b l _ a1) (va_cwS 1 hts (mk_gS tw_372 tw_373 tw_57 tw_374) rfl rfl rfl hdSF_b.2 ⟨Nat.le_of_ble_eq_true rfl, Nat.le_of_ble_eq_true rfl⟩) mk_preS rfl rfl hl.1 rfl (lv_room (Nat.le_of_ble_eq_true rfl)) dHart_shortArithmetic_96 ⟨Nat.zero_le _, Nat.zero_le _⟩) ?_
        refine lv_iushr (v := (ja_ushr (hs_regs st ((hf_ShortForm_highNear a1)).toNatClampNeg) (hf_ShortForm_b a1))) hx hb dHart_shortArithmetic_99 rfl ?_
        refine mk_callW (va_runV (As := [.int (hf_ShortForm_highNear a1), .int (ja_ushr (hs_regs st ((hf_ShortForm_highNear a1)).toNatClampNeg) (hf_ShortForm_b a1))]) (rest := []) ⟨hx, hb, hml, hown, hts⟩ (hc_RiscHart_give l hP hD (hf_ShortForm_highNear a1) (ja_ushr (hs_regs st ((hf_ShortForm_highNear a1)).toNatClampNeg) (hf_ShortForm_b a1)) (in_ShortForm_highNear _)) (cwV 2 hts (mk_gV tw_170 tw_172 tw_4 tw_46 tw_173) rfl rfl rfl hdHart_give ⟨Nat.le_of_ble_eq_true rfl, Nat.le_of_ble_eq_true rfl⟩) (mk_preVK hK (va_recv hK hP (ci := 0) (q0 := 0) rfl rfl)) rfl rfl hl.1 rfl (lv_room (Nat.le_of_ble_eq_true rfl)) dHart_shortArithmetic_100 ⟨Nat.zero_le _, Nat.zero_le _⟩) hS (fun H locs hP hS => ?_)
        exact W.iret hx hb hr (fun t ht hW => ⟨⟨_, (hf_RiscHart_give st (hf_ShortForm_highNear a1) (ja_ushr (hs_regs st ((hf_ShortForm_highNear a1)).toNatClampNeg) (hf_ShortForm_b a1))).2, rfl, (by unfold hf_RiscHart_shortArithmetic; rw [if_neg c_1, if_pos c_2, if_pos c_3]), by show va_P D hcl _ t.heap; rw [ht]; exact hP⟩, hS.F ht⟩) hS.2.2 dHart_shortArithmetic_103
      by_cases c_4 : (hf_Bits_part a1 10 2) = 1
      · refine lv_lookup (off := 38) (tgt := 104) hx hb dHart_shortArithmetic_66 (by decide) (by rw [c_4]; decide) (by decide) ?_
        refine lv_aload_n hx hb dHart_shortArithmetic_104 rfl (lv_at hl 4 rfl) ?_
        refine lv_iload_n hx hb dHart_shortArithmetic_105 rfl (lv_at hl 3 rfl) ?_
        refine lv_iload_n hx hb dHart_shortArithmetic_106 rfl (lv_at hl 2 rfl) ?_
        refine lv_iload_n hx hb dHart_shortArithmetic_107 rfl (lv_at hl 5 rfl) ?_
        refine mk_callR (va_runS (As := [.int a1]) (rest := [.int (hs_regs st ((hf_ShortForm_highNear a1)).toNatClampNeg), .int (hf_ShortForm_highNear a1), .ref h0]) ⟨hx, hb, hml, hown, hts⟩ (hc_ShortForm_b l _ a1) (va_cwS 1 hts (mk_gS tw_372 tw_373 tw_57 tw_374) rfl rfl rfl hdSF_b.2 ⟨Nat.le_of_ble_eq_true rfl, Nat.le_of_ble_eq_true rfl⟩) mk_preS rfl rfl hl.1 rfl (lv_room (Nat.le_of_ble_eq_true rfl)) dHart_shortArithmetic_108 ⟨Nat.zero_le _, Nat.zero_le _⟩) ?_
        refine lv_ishr hx hb dHart_shortArithmetic_111 ?_
        refine mk_callW (va_runV (As := [.int (hf_ShortForm_highNear a1), .int ((hs_regs st ((hf_ShortForm_highNear a1)).toNatClampNeg) >>> ((hf_ShortForm_b a1) &&& 31))]) (rest := []) ⟨hx, hb, hml, hown, hts⟩ (hc_RiscHart_give l hP hD (hf_ShortForm_highNear a1) ((hs_regs st ((hf_ShortForm_highNear a1)).toNatClampNeg) >>> ((hf_ShortForm_b a1) &&& 31)) (in_ShortForm_highNear _)) (cwV 2 hts (mk_gV tw_170 tw_172 tw_4 tw_46 tw_173) rfl rfl rfl hdHart_give ⟨Nat.le_of_ble_eq_true rfl, Nat.le_of_ble_eq_true rfl⟩) (mk_preVK hK (va_recv hK hP (ci := 0) (q0 := 0) rfl rfl)) rfl rfl hl.1 rfl (lv_room (Nat.le_of_ble_eq_true rfl)) dHart_shortArithmetic_112 ⟨Nat.zero_le _, Nat.zero_le _⟩) hS (fun H locs hP hS => ?_)
        exact W.iret hx hb hr (fun t ht hW => ⟨⟨_, (hf_RiscHart_give st (hf_ShortForm_highNear a1) ((hs_regs st ((hf_ShortForm_highNear a1)).toNatClampNeg) >>> ((hf_ShortForm_b a1) &&& 31))).2, rfl, (by unfold hf_RiscHart_shortArithmetic; rw [if_neg c_1, if_pos c_2, if_neg c_3, if_pos c_4]), by show va_P D hcl _ t.heap; rw [ht]; exact hP⟩, hS.F ht⟩) hS.2.2 dHart_shortArithmetic_115
      refine lv_lookup (off := 50) (tgt := 116) hx hb dHart_shortArithmetic_66 (by decide) ((lv_osw (a := 0) c_3 rfl).trans ((lv_osw (a := 1) c_4 rfl).trans (rfl))) (by decide) ?_
      refine lv_aload_n hx hb dHart_shortArithmetic_116 rfl (lv_at hl 4 rfl) ?_
      refine lv_iload_n hx hb dHart_shortArithmetic_117 rfl (lv_at hl 3 rfl) ?_
      refine lv_iload_n hx hb dHart_shortArithmetic_118 rfl (lv_at hl 5 rfl) ?_
      refine lv_iconst (v := 5) hx hb dHart_shortArithmetic_119 (by decide) ?_
      refine lv_iconst (v := 2) hx hb dHart_shortArithmetic_120 (by decide) ?_
      refine mk_callR (va_runS (As := [.int a1, .int 5, .int 2]) (rest := [.int (hf_ShortForm_highNear a1), .ref h0]) ⟨hx, hb, hml, hown, hts⟩ (hc_Bits_part l _ a1 5 2) (va_cwS 3 hts (mk_gS tw_368 tw_165 tw_55 tw_166) rfl rfl rfl hdBits_part.2 ⟨Nat.le_of_ble_eq_true rfl, Nat.le_of_ble_eq_true rfl⟩) mk_preS rfl rfl hl.1 rfl (lv_room (Nat.le_of_ble_eq_true rfl)) dHart_shortArithmetic_121 ⟨Nat.zero_le _, Nat.zero_le _⟩) ?_
      refine lv_iload_n hx hb dHart_shortArithmetic_124 rfl (lv_at hl 2 rfl) ?_
      refine lv_iload hx hb dHart_shortArithmetic_125 (lv_at hl 0 rfl) ?_
      refine mk_callR (va_runS (As := [.int (hf_Bits_part a1 5 2), .int (hs_regs st ((hf_ShortForm_highNear a1)).toNatClampNeg), .int (hs_regs st ((hf_ShortForm_lowNear a1)).toNatClampNeg)]) (rest := [.int (hf_ShortForm_highNear a1), .ref h0]) ⟨hx, hb, hml, hown, hts⟩ (hc_Arithmetic_ofTwoNear l _ (hf_Bits_part a1 5 2) (hs_regs st ((hf_ShortForm_highNear a1)).toNatClampNeg) (hs_regs st ((hf_ShortForm_lowNear a1)).toNatClampNeg)) (va_cwS 3 hts (mk_gS tw_375 tw_376 tw_56 tw_377) rfl rfl rfl hdAr_ofTwoNear.2 ⟨Nat.le_of_ble_eq_true rfl, Nat.le_of_ble_eq_true rfl⟩) mk_preS rfl rfl hl.1 rfl (lv_room (Nat.le_of_ble_eq_true rfl)) dHart_shortArithmetic_127 ⟨Nat.zero_le _, Nat.zero_le _⟩) ?_
      refine mk_callW (va_runV (As := [.int (hf_ShortForm_highNear a1), .int (hf_Arithmetic_ofTwoNear (hf_Bits_part a1 5 2) (hs_regs st ((hf_ShortForm_highNear a1)).toNatClampNeg) (hs_regs st ((hf_ShortForm_lowNear a1)).toNatClampNeg))]) (rest := []) ⟨hx, hb, hml, hown, hts⟩ (hc_RiscHart_give l hP hD (hf_ShortForm_highNear a1) (hf_Arithmetic_ofTwoNear (hf_Bits_part a1 5 2) (hs_regs st ((hf_ShortForm_highNear a1)).toNatClampNeg) (hs_regs st ((hf_ShortForm_lowNear a1)).toNatClampNeg)) (in_ShortForm_highNear _)) (cwV 2 hts (mk_gV tw_170 tw_172 tw_4 tw_46 tw_173) rfl rfl rfl hdHart_give ⟨Nat.le_of_ble_eq_true rfl, Nat.le_of_ble_eq_true rfl⟩) (mk_preVK hK (va_recv hK hP (ci := 0) (q0 := 0) rfl rfl)) rfl rfl hl.1 rfl (lv_room (Nat.le_of_ble_eq_true rfl)) dHart_shortArithmetic_130 ⟨Nat.zero_le _, Nat.zero_le _⟩) hS (fun H locs hP hS => ?_)
      exact W.iret hx hb hr (fun t ht hW => ⟨⟨_, (hf_RiscHart_give st (hf_ShortForm_highNear a1) (hf_Arithmetic_ofTwoNear (hf_Bits_part a1 5 2) (hs_regs st ((hf_ShortForm_highNear a1)).toNatClampNeg) (hs_regs st ((hf_ShortForm_lowNear a1)).toNatClampNeg))).2, rfl, (by unfold hf_RiscHart_shortArithmetic; rw [if_neg c_1, if_pos c_2, if_neg c_3, if_neg c_4]), by show va_P D hcl _ t.heap; rw [ht]; exact hP⟩, hS.F ht⟩) hS.2.2 dHart_shortArithmetic_133
    · refine lv_aload_n hx hb dHart_shortArithmetic_46 rfl (lv_at hl 3 rfl) ?_
      refine lv_iconst (v := 2) hx hb dHart_shortArithmetic_47 (by decide) ?_
      refine lv_iload_n hx hb dHart_shortArithmetic_48 rfl (lv_at hl 4 rfl) ?_
      refine mk_callW (va_runV (As := [.int 2, .int a1]) (rest := []) ⟨hx, hb, hml, hown, hts⟩ (hc_RiscHart_trap l hP hD 2 a1) (cwV 2 hts (mk_gV tw_139 tw_141 tw_1 tw_46 tw_142) rfl rfl rfl hdHart_trap ⟨Nat.le_of_ble_eq_true rfl, Nat.le_of_ble_eq_true rfl⟩) (mk_preVK hK (va_recv hK hP (ci := 0) (q0 := 0) rfl rfl)) rfl rfl hl.1 rfl (lv_room (Nat.le_of_ble_eq_true rfl)) dHart_shortArithmetic_49 ⟨Nat.zero_le _, Nat.zero_le _⟩) hS (fun H locs hP hS => ?_)
      exact W.iret hx hb hr (fun t ht hW => ⟨⟨_, (hf_RiscHart_trap st 2 a1).2, rfl, (by unfold hf_RiscHart_shortArithmetic; rw [if_neg c_1, if_neg c_2]), by show va_P D hcl _ t.heap; rw [ht]; exact hP⟩, hS.F ht⟩) hS.2.2 dHart_shortArithmetic_52
  · refine lv_aload_n hx hb dHart_shortArithmetic_27 rfl (lv_at hl 3 rfl) ?_
    refine lv_iload_n hx hb dHart_shortArithmetic_28 rfl (lv_at hl 2 rfl) ?_
    refine lv_iload_n hx hb dHart_shortArithmetic_29 rfl (lv_at hl 1 rfl) ?_
    refine lv_iload_n hx hb dHart_shortArithmetic_30 rfl (lv_at hl 4 rfl) ?_
    refine mk_callR (va_runS (As := [.int a1]) (rest := [.int (hs_regs st ((hf_ShortForm_highNear a1)).toNatClampNeg), .int (hf_ShortForm_highNear a1), .ref h0]) ⟨hx, hb, hml, hown, hts⟩ (hc_ShortForm_number l _ a1) (va_cwS 1 hts (mk_gS tw_346 tw_347 tw_57 tw_348) rfl rfl rfl hdSF_number.2 ⟨Nat.le_of_ble_eq_true rfl, Nat.le_of_ble_eq_true rfl⟩) mk_preS rfl rfl hl.1 rfl (lv_room (Nat.le_of_ble_eq_true rfl)) dHart_shortArithmetic_31 ⟨Nat.zero_le _, Nat.zero_le _⟩) ?_
    refine lv_iand hx hb dHart_shortArithmetic_34 ?_
    refine mk_callW (va_runV (As := [.int (hf_ShortForm_highNear a1), .int ((hs_regs st ((hf_ShortForm_highNear a1)).toNatClampNeg) &&& (hf_ShortForm_number a1))]) (rest := []) ⟨hx, hb, hml, hown, hts⟩ (hc_RiscHart_give l hP hD (hf_ShortForm_highNear a1) ((hs_regs st ((hf_ShortForm_highNear a1)).toNatClampNeg) &&& (hf_ShortForm_number a1)) (in_ShortForm_highNear _)) (cwV 2 hts (mk_gV tw_170 tw_172 tw_4 tw_46 tw_173) rfl rfl rfl hdHart_give ⟨Nat.le_of_ble_eq_true rfl, Nat.le_of_ble_eq_true rfl⟩) (mk_preVK hK (va_recv hK hP (ci := 0) (q0 := 0) rfl rfl)) rfl rfl hl.1 rfl (lv_room (Nat.le_of_ble_eq_true rfl)) dHart_shortArithmetic_35 ⟨Nat.zero_le _, Nat.zero_le _⟩) hS (fun H locs hP hS => ?_)
    exact W.iret hx hb hr (fun t ht hW => ⟨⟨_, (hf_RiscHart_give st (hf_ShortForm_highNear a1) ((hs_regs st ((hf_ShortForm_highNear a1)).toNatClampNeg) &&& (hf_ShortForm_number a1))).2, rfl, (by unfold hf_RiscHart_shortArithmetic; rw [if_pos c_1]), by show va_P D hcl _ t.heap; rw [ht]; exact hP⟩, hS.F ht⟩) hS.2.2 dHart_shortArithmetic_38
set_option maxHeartbeats 4000000 in
set_option maxRecDepth 100000 in
theorem hc_RiscHart_shortOfQ1 (l : Launch) {D : va_G} {cR cW cP : ClassId} {h0 h1 h2 h3 h4 : Nat} {A : Nat → Prop} {st : HS} {G : Heap} (hP : va_P D hcl (hs_W cR cW cP h0 h1 h2 h3 h4 st) G) (hD : ∀ z, va_D A (hs_W cR cW cP h0 h1 h2 h3 h4 z)) (a1 : Int32)  : Met l yHart_shortOfQ1 (wq yHart_shortOfQ1 cHart_shortOfQ1 4 (some .int)) ({ frames := 3, cells := 0, slots := 0, locals := 67 }) (mk_PK D hcl [(cR, .int), (cW, .int), (cP, .int)] G [.ref h0, .int a1]) (mk_Wi (fun u t => va_P D hcl (hs_W cR cW cP h0 h1 h2 h3 h4 u) t) A (hf_RiscHart_shortOfQ1 st a1)) 0 0 A := by
  refine Met.ofW (cc := cHart_shortOfQ1) (maxL := 4) (ret := (some .int)) (by decide) rfl ?_
  intro p e s m args below meth c s₁ B hml hv
  obtain ⟨rfl, hG, hK⟩ := hv
  subst hG
  have hx := B.exec
  have hb := B.bytes
  have hr := B.returns
  have hts := atoms_spec (ws := (wq yHart_shortOfQ1 cHart_shortOfQ1 4 (some .int))) B.pre
  have hown : s.vm.findClass RHart = some m.cls := findClass_of_methodNamed B.named
  have hlocks := B.notSynchronized
  have hg : ∀ w ∈ lw_g, w.before _ s = true := fun w h => hts w (List.mem_cons_of_mem _ h)
  have hS : va_S A s.heap s.heap [] := va_S.rf
  have hl := lv_entry ([.ref h0, .int a1]) (n := 4) (Nat.le_of_ble_eq_true rfl)
  rw [lg_entry_eq]
  generalize (lg_sl ([.ref h0, .int a1]) ++ List.replicate (4 - (lg_sl ([.ref h0, .int a1])).length) Slot.unset).toArray = ls at hl ⊢
  have hl : lv_has ls 4 [(0, .ref h0), (1, .int a1)] := hl
  refine lv_iload_n hx hb dHart_shortOfQ1_0 rfl (lv_at hl 1 rfl) ?_
  refine mk_callR (va_runS (As := [.int a1]) (rest := []) ⟨hx, hb, hml, hown, hts⟩ (hc_ShortForm_d l _ a1) (va_cwS 1 hts (mk_gS tw_343 tw_344 tw_57 tw_345) rfl rfl rfl hdSF_d.2 ⟨Nat.le_of_ble_eq_true rfl, Nat.le_of_ble_eq_true rfl⟩) mk_preS rfl rfl hl.1 rfl (lv_room (Nat.le_of_ble_eq_true rfl)) dHart_shortOfQ1_1 ⟨Nat.zero_le _, Nat.zero_le _⟩) ?_
  refine lv_istore_n (lv' := [(2, .int (hf_ShortForm_d a1)), (0, .ref h0), (1, .int a1)]) hx hb dHart_shortOfQ1_4 rfl hl (by decide) rfl (fun ls hl => ?_)
  refine lv_iload_n hx hb dHart_shortOfQ1_5 rfl (lv_at hl 2 rfl) ?_
  refine mk_callR (va_runS (As := [.int a1]) (rest := []) ⟨hx, hb, hml, hown, hts⟩ (hc_ShortForm_number l _ a1) (va_cwS 1 hts (mk_gS tw_346 tw_347 tw_57 tw_348) rfl rfl rfl hdSF_number.2 ⟨Nat.le_of_ble_eq_true rfl, Nat.le_of_ble_eq_true rfl⟩) mk_preS rfl rfl hl.1 rfl (lv_room (Nat.le_of_ble_eq_true rfl)) dHart_shortOfQ1_6 ⟨Nat.zero_le _, Nat.zero_le _⟩) ?_
  refine lv_istore_n (lv' := [(3, .int (hf_ShortForm_number a1)), (2, .int (hf_ShortForm_d a1)), (0, .ref h0), (1, .int a1)]) hx hb dHart_shortOfQ1_9 rfl hl (by decide) rfl (fun ls hl => ?_)
  refine lv_iload_n hx hb dHart_shortOfQ1_10 rfl (lv_at hl 3 rfl) ?_
  refine mk_callR (va_runS (As := [.int a1]) (rest := []) ⟨hx, hb, hml, hown, hts⟩ (hc_ShortForm_f l _ a1) (va_cwS 1 hts (mk_gS tw_333 tw_334 tw_57 tw_335) rfl rfl rfl hdSF_f.2 ⟨Nat.le_of_ble_eq_true rfl, Nat.le_of_ble_eq_true rfl⟩) mk_preS rfl rfl hl.1 rfl (lv_room (Nat.le_of_ble_eq_true rfl)) dHart_shortOfQ1_11 ⟨Nat.zero_le _, Nat.zero_le _⟩) ?_
  by_cases c_1 : (hf_ShortForm_f a1) = 0
  · refine lv_tableIn (tgt := 56) hx hb dHart_shortOfQ1_14 (by rw [c_1]; decide) (by rw [c_1]; decide) (by rw [c_1]; rfl) (by decide) ?_
    refine lv_aload_n hx hb dHart_shortOfQ1_56 rfl (lv_at hl 2 rfl) ?_
    refine lv_iload_n hx hb dHart_shortOfQ1_57 rfl (lv_at hl 1 rfl) ?_
    refine lv_aload_n hx hb dHart_shortOfQ1_58 rfl (lv_at hl 2 rfl) ?_
    refine va_get (D := D) (ci := 0) (v := .ref h2) (C := RHart) (T := THart) (N := 8) hx hb hg inHart hown hK hP 0 rfl rfl 1 (by decide) (hg _ tw_84) (fun _ h9 => h9) rfl dHart_shortOfQ1_59 ?_
    refine lv_iload_n hx hb dHart_shortOfQ1_62 rfl (lv_at hl 1 rfl) ?_
    refine va_iald (D := D) hx hb hK hP 2 0 rfl rfl (in_ShortForm_d _) dHart_shortOfQ1_63 ?_
    refine lv_iload_n hx hb dHart_shortOfQ1_64 rfl (lv_at hl 0 rfl) ?_
    refine lv_iadd hx hb dHart_shortOfQ1_65 ?_
    refine mk_callW (va_runV (As := [.int (hf_ShortForm_d a1), .int ((hs_regs st ((hf_ShortForm_d a1)).toNatClampNeg) + (hf_ShortForm_number a1))]) (rest := []) ⟨hx, hb, hml, hown, hts⟩ (hc_RiscHart_give l hP hD (hf_ShortForm_d a1) ((hs_regs st ((hf_ShortForm_d a1)).toNatClampNeg) + (hf_ShortForm_number a1)) (in_ShortForm_d _)) (cwV 2 hts (mk_gV tw_170 tw_172 tw_4 tw_46 tw_173) rfl rfl rfl hdHart_give ⟨Nat.le_of_ble_eq_true rfl, Nat.le_of_ble_eq_true rfl⟩) (mk_preVK hK (va_recv hK hP (ci := 0) (q0 := 0) rfl rfl)) rfl rfl hl.1 rfl (lv_room (Nat.le_of_ble_eq_true rfl)) dHart_shortOfQ1_66 ⟨Nat.zero_le _, Nat.zero_le _⟩) hS (fun H locs hP hS => ?_)
    exact W.iret hx hb hr (fun t ht hW => ⟨⟨_, (hf_RiscHart_give st (hf_ShortForm_d a1) ((hs_regs st ((hf_ShortForm_d a1)).toNatClampNeg) + (hf_ShortForm_number a1))).2, rfl, (by unfold hf_RiscHart_shortOfQ1; rw [if_pos c_1]), by show va_P D hcl _ t.heap; rw [ht]; exact hP⟩, hS.F ht⟩) hS.2.2 dHart_shortOfQ1_69
  by_cases c_2 : (hf_ShortForm_f a1) = 1
  · refine lv_tableIn (tgt := 70) hx hb dHart_shortOfQ1_14 (by rw [c_2]; decide) (by rw [c_2]; decide) (by rw [c_2]; rfl) (by decide) ?_
    refine lv_aload_n hx hb dHart_shortOfQ1_70 rfl (lv_at hl 2 rfl) ?_
    refine lv_iconst (v := 1) hx hb dHart_shortOfQ1_71 (by decide) ?_
    refine lv_aload_n hx hb dHart_shortOfQ1_72 rfl (lv_at hl 2 rfl) ?_
    refine va_get (D := D) (ci := 0) (v := .int (hs_place st)) (C := RHart) (T := THart) (N := 8) hx hb hg inHart hown hK hP 0 rfl rfl 2 (by decide) (hg _ tw_85) (fun _ h9 => h9) rfl dHart_shortOfQ1_73 ?_
    refine lv_iload_n hx hb dHart_shortOfQ1_76 rfl (lv_at hl 3 rfl) ?_
    refine mk_callR (va_runS (As := [.int a1]) (rest := [.int (hs_place st), .int 1, .ref h0]) ⟨hx, hb, hml, hown, hts⟩ (hc_ShortForm_offsetJ l _ a1) (va_cwS 1 hts (mk_gS tw_350 tw_351 tw_57 tw_352) rfl rfl rfl hdSF_offsetJ.2 ⟨Nat.le_of_ble_eq_true rfl, Nat.le_of_ble_eq_true rfl⟩) mk_preS rfl rfl hl.1 rfl (lv_room (Nat.le_of_ble_eq_true rfl)) dHart_shortOfQ1_77 ⟨Nat.zero_le _, Nat.zero_le _⟩) ?_
    refine lv_iadd hx hb dHart_shortOfQ1_80 ?_
    refine mk_callW (va_runV (As := [.int 1, .int ((hs_place st) + (hf_ShortForm_offsetJ a1))]) (rest := []) ⟨hx, hb, hml, hown, hts⟩ (hc_RiscHart_linkAndJump l hP hD 1 ((hs_place st) + (hf_ShortForm_offsetJ a1)) (in_k (by decide))) (cwV 2 hts (mk_gV tw_180 tw_182 tw_5 tw_46 tw_183) rfl rfl rfl hdHart_linkAndJump ⟨Nat.le_of_ble_eq_true rfl, Nat.le_of_ble_eq_true rfl⟩) (mk_preVK hK (va_recv hK hP (ci := 0) (q0 := 0) rfl rfl)) rfl rfl hl.1 rfl (lv_room (Nat.le_of_ble_eq_true rfl)) dHart_shortOfQ1_81 ⟨Nat.zero_le _, Nat.zero_le _⟩) hS (fun H locs hP hS => ?_)
    exact W.iret hx hb hr (fun t ht hW => ⟨⟨_, (hf_RiscHart_linkAndJump st 1 ((hs_place st) + (hf_ShortForm_offsetJ a1))).2, rfl, (by unfold hf_RiscHart_shortOfQ1; rw [if_neg c_1, if_pos c_2]), by show va_P D hcl _ t.heap; rw [ht]; exact hP⟩, hS.F ht⟩) hS.2.2 dHart_shortOfQ1_84
  by_cases c_3 : (hf_ShortForm_f a1) = 2
  · refine lv_tableIn (tgt := 85) hx hb dHart_shortOfQ1_14 (by rw [c_3]; decide) (by rw [c_3]; decide) (by rw [c_3]; rfl) (by decide) ?_
    refine lv_aload_n hx hb dHart_shortOfQ1_85 rfl (lv_at hl 2 rfl) ?_
    refine lv_iload_n hx hb dHart_shortOfQ1_86 rfl (lv_at hl 1 rfl) ?_
    refine lv_iload_n hx hb dHart_shortOfQ1_87 rfl (lv_at hl 0 rfl) ?_
    refine mk_callW (va_runV (As := [.int (hf_ShortForm_d a1), .int (hf_ShortForm_number a1)]) (rest := []) ⟨hx, hb, hml, hown, hts⟩ (hc_RiscHart_give l hP hD (hf_ShortForm_d a1) (hf_ShortForm_number a1) (in_ShortForm_d _)) (cwV 2 hts (mk_gV tw_170 tw_172 tw_4 tw_46 tw_173) rfl rfl rfl hdHart_give ⟨Nat.le_of_ble_eq_true rfl, Nat.le_of_ble_eq_true rfl⟩) (mk_preVK hK (va_recv hK hP (ci := 0) (q0 := 0) rfl rfl)) rfl rfl hl.1 rfl (lv_room (Nat.le_of_ble_eq_true rfl)) dHart_shortOfQ1_88 ⟨Nat.zero_le _, Nat.zero_le _⟩) hS (fun H locs hP hS => ?_)
    exact W.iret hx hb hr (fun t ht hW => ⟨⟨_, (hf_RiscHart_give st (hf_ShortForm_d a1) (hf_ShortForm_number a1)).2, rfl, (by unfold hf_RiscHart_shortOfQ1; rw [if_neg c_1, if_neg c_2, if_pos c_3]), by show va_P D hcl _ t.heap; rw [ht]; exact hP⟩, hS.F ht⟩) hS.2.2 dHart_shortOfQ1_91
  by_cases c_4 : (hf_ShortForm_f a1) = 3
  · refine lv_tableIn (tgt := 92) hx hb dHart_shortOfQ1_14 (by rw [c_4]; decide) (by rw [c_4]; decide) (by rw [c_4]; rfl) (by decide) ?_
    refine lv_iload_n hx hb dHart_shortOfQ1_92 rfl (lv_at hl 1 rfl) ?_
    refine lv_iconst (v := 2) hx hb dHart_shortOfQ1_93 (by decide) ?_
    refine lv_icmp_ne (tgt := 105) hx hb dHart_shortOfQ1_94 (by decide) (fun c_5 => ?_) (fun c_5 => ?_)
    · refine lv_aload_n hx hb dHart_shortOfQ1_105 rfl (lv_at hl 2 rfl) ?_
      refine lv_iload_n hx hb dHart_shortOfQ1_106 rfl (lv_at hl 3 rfl) ?_
      refine mk_callW (va_runV (As := [.int a1]) (rest := []) ⟨hx, hb, hml, hown, hts⟩ (hc_RiscHart_shortUpperNumber l hP hD a1) (cwV 1 hts (mk_gV tw_360 tw_362 tw_25 tw_46 tw_363) rfl rfl rfl hdHart_shortUpperNumber ⟨Nat.le_of_ble_eq_true rfl, Nat.le_of_ble_eq_true rfl⟩) (mk_preVK hK (va_recv hK hP (ci := 0) (q0 := 0) rfl rfl)) rfl rfl hl.1 rfl (lv_room (Nat.le_of_ble_eq_true rfl)) dHart_shortOfQ1_107 ⟨Nat.zero_le _, Nat.zero_le _⟩) hS (fun H locs hP hS => ?_)
      exact W.iret hx hb hr (fun t ht hW => ⟨⟨_, (hf_RiscHart_shortUpperNumber st a1).2, rfl, (by unfold hf_RiscHart_shortOfQ1; rw [if_neg c_1, if_neg c_2, if_neg c_3, if_pos c_4, if_neg c_5]), by show va_P D hcl _ t.heap; rw [ht]; exact hP⟩, hS.F ht⟩) hS.2.2 dHart_shortOfQ1_110
    · refine lv_aload_n hx hb dHart_shortOfQ1_97 rfl (lv_at hl 2 rfl) ?_
      refine lv_iload_n hx hb dHart_shortOfQ1_98 rfl (lv_at hl 3 rfl) ?_
      refine mk_callW (va_runV (As := [.int a1]) (rest := []) ⟨hx, hb, hml, hown, hts⟩ (hc_RiscHart_shortMoveStack l hP hD a1) (cwV 1 hts (mk_gV tw_353 tw_355 tw_24 tw_46 tw_356) rfl rfl rfl hdHart_shortMoveStack ⟨Nat.le_of_ble_eq_true rfl, Nat.le_of_ble_eq_true rfl⟩) (mk_preVK hK (va_recv hK hP (ci := 0) (q0 := 0) rfl rfl)) rfl rfl hl.1 rfl (lv_room (Nat.le_of_ble_eq_true rfl)) dHart_shortOfQ1_99 ⟨Nat.zero_le _, Nat.zero_le _⟩) hS (fun H locs hP hS => ?_)
      refine lv_goto (tgt := 110) hx hb dHart_shortOfQ1_102 (by decide) ?_
      exact W.iret hx hb hr (fun t ht hW => ⟨⟨_, (hf_RiscHart_shortMoveStack st a1).2, rfl, (by unfold hf_RiscHart_shortOfQ1; rw [if_neg c_1, if_neg c_2, if_neg c_3, if_pos c_4, if_pos c_5]), by show va_P D hcl _ t.heap; rw [ht]; exact hP⟩, hS.F ht⟩) hS.2.2 dHart_shortOfQ1_110
  by_cases c_6 : (hf_ShortForm_f a1) = 4
  · refine lv_tableIn (tgt := 111) hx hb dHart_shortOfQ1_14 (by rw [c_6]; decide) (by rw [c_6]; decide) (by rw [c_6]; rfl) (by decide) ?_
    refine lv_aload_n hx hb dHart_shortOfQ1_111 rfl (lv_at hl 2 rfl) ?_
    refine lv_iload_n hx hb dHart_shortOfQ1_112 rfl (lv_at hl 3 rfl) ?_
    refine mk_callW (va_runV (As := [.int a1]) (rest := []) ⟨hx, hb, hml, hown, hts⟩ (hc_RiscHart_shortArithmetic l hP hD a1) (cwV 1 hts (mk_gV tw_364 tw_366 tw_26 tw_46 tw_367) rfl rfl rfl hdHart_shortArithmetic ⟨Nat.le_of_ble_eq_true rfl, Nat.le_of_ble_eq_true rfl⟩) (mk_preVK hK (va_recv hK hP (ci := 0) (q0 := 0) rfl rfl)) rfl rfl hl.1 rfl (lv_room (Nat.le_of_ble_eq_true rfl)) dHart_shortOfQ1_113 ⟨Nat.zero_le _, Nat.zero_le _⟩) hS (fun H locs hP hS => ?_)
    exact W.iret hx hb hr (fun t ht hW => ⟨⟨_, (hf_RiscHart_shortArithmetic st a1).2, rfl, (by unfold hf_RiscHart_shortOfQ1; rw [if_neg c_1, if_neg c_2, if_neg c_3, if_neg c_4, if_pos c_6]), by show va_P D hcl _ t.heap; rw [ht]; exact hP⟩, hS.F ht⟩) hS.2.2 dHart_shortOfQ1_116
  by_cases c_7 : (hf_ShortForm_f a1) = 5
  · refine lv_tableIn (tgt := 117) hx hb dHart_shortOfQ1_14 (by rw [c_7]; decide) (by rw [c_7]; decide) (by rw [c_7]; rfl) (by decide) ?_
    refine lv_aload_n hx hb dHart_shortOfQ1_117 rfl (lv_at hl 2 rfl) ?_
    refine lv_iconst (v := 0) hx hb dHart_shortOfQ1_118 (by decide) ?_
    refine lv_aload_n hx hb dHart_shortOfQ1_119 rfl (lv_at hl 2 rfl) ?_
    refine va_get (D := D) (ci := 0) (v := .int (hs_place st)) (C := RHart) (T := THart) (N := 8) hx hb hg inHart hown hK hP 0 rfl rfl 2 (by decide) (hg _ tw_85) (fun _ h9 => h9) rfl dHart_shortOfQ1_120 ?_
    refine lv_iload_n hx hb dHart_shortOfQ1_123 rfl (lv_at hl 3 rfl) ?_
    refine mk_callR (va_runS (As := [.int a1]) (rest := [.int (hs_place st), .int 0, .ref h0]) ⟨hx, hb, hml, hown, hts⟩ (hc_ShortForm_offsetJ l _ a1) (va_cwS 1 hts (mk_gS tw_350 tw_351 tw_57 tw_352) rfl rfl rfl hdSF_offsetJ.2 ⟨Nat.le_of_ble_eq_true rfl, Nat.le_of_ble_eq_true rfl⟩) mk_preS rfl rfl hl.1 rfl (lv_room (Nat.le_of_ble_eq_true rfl)) dHart_shortOfQ1_124 ⟨Nat.zero_le _, Nat.zero_le _⟩) ?_
    refine lv_iadd hx hb dHart_shortOfQ1_127 ?_
    refine mk_callW (va_runV (As := [.int 0, .int ((hs_place st) + (hf_ShortForm_offsetJ a1))]) (rest := []) ⟨hx, hb, hml, hown, hts⟩ (hc_RiscHart_linkAndJump l hP hD 0 ((hs_place st) + (hf_ShortForm_offsetJ a1)) (in_k (by decide))) (cwV 2 hts (mk_gV tw_180 tw_182 tw_5 tw_46 tw_183) rfl rfl rfl hdHart_linkAndJump ⟨Nat.le_of_ble_eq_true rfl, Nat.le_of_ble_eq_true rfl⟩) (mk_preVK hK (va_recv hK hP (ci := 0) (q0 := 0) rfl rfl)) rfl rfl hl.1 rfl (lv_room (Nat.le_of_ble_eq_true rfl)) dHart_shortOfQ1_128 ⟨Nat.zero_le _, Nat.zero_le _⟩) hS (fun H locs hP hS => ?_)
    exact W.iret hx hb hr (fun t ht hW => ⟨⟨_, (hf_RiscHart_linkAndJump st 0 ((hs_place st) + (hf_ShortForm_offsetJ a1))).2, rfl, (by unfold hf_RiscHart_shortOfQ1; rw [if_neg c_1, if_neg c_2, if_neg c_3, if_neg c_4, if_neg c_6, if_pos c_7]), by show va_P D hcl _ t.heap; rw [ht]; exact hP⟩, hS.F ht⟩) hS.2.2 dHart_shortOfQ1_131
  by_cases c_8 : (hf_ShortForm_f a1) = 6
  · refine lv_tableIn (tgt := 132) hx hb dHart_shortOfQ1_14 (by rw [c_8]; decide) (by rw [c_8]; decide) (by rw [c_8]; rfl) (by decide) ?_
    refine lv_aload_n hx hb dHart_shortOfQ1_132 rfl (lv_at hl 2 rfl) ?_
    refine lv_aload_n hx hb dHart_shortOfQ1_133 rfl (lv_at hl 2 rfl) ?_
    refine va_get (D := D) (ci := 0) (v := .ref h2) (C := RHart) (T := THart) (N := 8) hx hb hg inHart hown hK hP 0 rfl rfl 1 (by decide) (hg _ tw_84) (fun _ h9 => h9) rfl dHart_shortOfQ1_134 ?_
    refine lv_iload_n hx hb dHart_shortOfQ1_137 rfl (lv_at hl 3 rfl) ?_
    refine mk_callR (va_runS (As := [.int a1]) (rest := [.ref h2, .ref h0]) ⟨hx, hb, hml, hown, hts⟩ (hc_ShortForm_highNear l _ a1) (va_cwS 1 hts (mk_gS tw_327 tw_328 tw_57 tw_329) rfl rfl rfl hdSF_highNear.2 ⟨Nat.le_of_ble_eq_true rfl, Nat.le_of_ble_eq_true rfl⟩) mk_preS rfl rfl hl.1 rfl (lv_room (Nat.le_of_ble_eq_true rfl)) dHart_shortOfQ1_138 ⟨Nat.zero_le _, Nat.zero_le _⟩) ?_
    refine va_iald (D := D) hx hb hK hP 2 0 rfl rfl (in_ShortForm_highNear _) dHart_shortOfQ1_141 ?_
    refine lv_if_ne (tgt := 149) hx hb dHart_shortOfQ1_142 (by decide) (fun c_9 => ?_) (fun c_9 => ?_)
    · refine lv_iconst (v := 0) hx hb dHart_shortOfQ1_149 (by decide) ?_
      refine lv_aload_n hx hb dHart_shortOfQ1_150 rfl (lv_at hl 2 rfl) ?_
      refine va_get (D := D) (ci := 0) (v := .int (hs_place st)) (C := RHart) (T := THart) (N := 8) hx hb hg inHart hown hK hP 0 rfl rfl 2 (by decide) (hg _ tw_85) (fun _ h9 => h9) rfl dHart_shortOfQ1_151 ?_
      refine lv_iload_n hx hb dHart_shortOfQ1_154 rfl (lv_at hl 3 rfl) ?_
      refine mk_callR (va_runS (As := [.int a1]) (rest := [.int (hs_place st), .int 0, .ref h0]) ⟨hx, hb, hml, hown, hts⟩ (hc_ShortForm_offsetT l _ a1) (va_cwS 1 hts (mk_gS tw_378 tw_379 tw_57 tw_380) rfl rfl rfl hdSF_offsetT.2 ⟨Nat.le_of_ble_eq_true rfl, Nat.le_of_ble_eq_true rfl⟩) mk_preS rfl rfl hl.1 rfl (lv_room (Nat.le_of_ble_eq_true rfl)) dHart_shortOfQ1_155 ⟨Nat.zero_le _, Nat.zero_le _⟩) ?_
      refine lv_iadd hx hb dHart_shortOfQ1_158 ?_
      refine mk_callW (va_runV (As := [.int 0, .int ((hs_place st) + (hf_ShortForm_offsetT a1))]) (rest := []) ⟨hx, hb, hml, hown, hts⟩ (hc_RiscHart_jumpIf l hP hD 0 ((hs_place st) + (hf_ShortForm_offsetT a1))) (cwV 2 hts (mk_gV tw_207 tw_209 tw_8 tw_46 tw_210) rfl rfl rfl hdHart_jumpIf ⟨Nat.le_of_ble_eq_true rfl, Nat.le_of_ble_eq_true rfl⟩) (mk_preVK hK (va_recv hK hP (ci := 0) (q0 := 0) rfl rfl)) rfl rfl hl.1 rfl (lv_room (Nat.le_of_ble_eq_true rfl)) dHart_shortOfQ1_159 ⟨Nat.zero_le _, Nat.zero_le _⟩) hS (fun H locs hP hS => ?_)
      exact W.iret hx hb hr (fun t ht hW => ⟨⟨_, (hf_RiscHart_jumpIf st 0 ((hs_place st) + (hf_ShortForm_offsetT a1))).2, rfl, (by unfold hf_RiscHart_shortOfQ1; rw [if_neg c_1, if_neg c_2, if_neg c_3, if_neg c_4, if_neg c_6, if_neg c_7, if_pos c_8, if_neg c_9]), by show va_P D hcl _ t.heap; rw [ht]; exact hP⟩, hS.F ht⟩) hS.2.2 dHart_shortOfQ1_162
    · refine lv_iconst (v := 1) hx hb dHart_shortOfQ1_145 (by decide) ?_
      refine lv_goto (tgt := 150) hx hb dHart_shortOfQ1_146 (by decide) ?_
      refine lv_aload_n hx hb dHart_shortOfQ1_150 rfl (lv_at hl 2 rfl) ?_
      refine va_get (D := D) (ci := 0) (v := .int (hs_place st)) (C := RHart) (T := THart) (N := 8) hx hb hg inHart hown hK hP 0 rfl rfl 2 (by decide) (hg _ tw_85) (fun _ h9 => h9) rfl dHart_shortOfQ1_151 ?_
      refine lv_iload_n hx hb dHart_shortOfQ1_154 rfl (lv_at hl 3 rfl) ?_
      refine mk_callR (va_runS (As := [.int a1]) (rest := [.int (hs_place st), .int 1, .ref h0]) ⟨hx, hb, hml, hown, hts⟩ (hc_ShortForm_offsetT l _ a1) (va_cwS 1 hts (mk_gS tw_378 tw_379 tw_57 tw_380) rfl rfl rfl hdSF_offsetT.2 ⟨Nat.le_of_ble_eq_true rfl, Nat.le_of_ble_eq_true rfl⟩) mk_preS rfl rfl hl.1 rfl (lv_room (Nat.le_of_ble_eq_true rfl)) dHart_shortOfQ1_155 ⟨Nat.zero_le _, Nat.zero_le _⟩) ?_
      refine lv_iadd hx hb dHart_shortOfQ1_158 ?_
      refine mk_callW (va_runV (As := [.int 1, .int ((hs_place st) + (hf_ShortForm_offsetT a1))]) (rest := []) ⟨hx, hb, hml, hown, hts⟩ (hc_RiscHart_jumpIf l hP hD 1 ((hs_place st) + (hf_ShortForm_offsetT a1))) (cwV 2 hts (mk_gV tw_207 tw_209 tw_8 tw_46 tw_210) rfl rfl rfl hdHart_jumpIf ⟨Nat.le_of_ble_eq_true rfl, Nat.le_of_ble_eq_true rfl⟩) (mk_preVK hK (va_recv hK hP (ci := 0) (q0 := 0) rfl rfl)) rfl rfl hl.1 rfl (lv_room (Nat.le_of_ble_eq_true rfl)) dHart_shortOfQ1_159 ⟨Nat.zero_le _, Nat.zero_le _⟩) hS (fun H locs hP hS => ?_)
      exact W.iret hx hb hr (fun t ht hW => ⟨⟨_, (hf_RiscHart_jumpIf st 1 ((hs_place st) + (hf_ShortForm_offsetT a1))).2, rfl, (by unfold hf_RiscHart_shortOfQ1; rw [if_neg c_1, if_neg c_2, if_neg c_3, if_neg c_4, if_neg c_6, if_neg c_7, if_pos c_8, if_pos c_9]), by show va_P D hcl _ t.heap; rw [ht]; exact hP⟩, hS.F ht⟩) hS.2.2 dHart_shortOfQ1_162
  refine lv_tableOut (tgt := 163) hx hb dHart_shortOfQ1_14 (by have q_1 := lv_neT (a := 0) c_1 rfl; have q_2 := lv_neT (a := 1) c_2 rfl; have q_3 := lv_neT (a := 2) c_3 rfl; have q_4 := lv_neT (a := 3) c_4 rfl; have q_6 := lv_neT (a := 4) c_6 rfl; have q_7 := lv_neT (a := 5) c_7 rfl; have q_8 := lv_neT (a := 6) c_8 rfl; omega) (by decide) ?_
  refine lv_aload_n hx hb dHart_shortOfQ1_163 rfl (lv_at hl 2 rfl) ?_
  refine lv_aload_n hx hb dHart_shortOfQ1_164 rfl (lv_at hl 2 rfl) ?_
  refine va_get (D := D) (ci := 0) (v := .ref h2) (C := RHart) (T := THart) (N := 8) hx hb hg inHart hown hK hP 0 rfl rfl 1 (by decide) (hg _ tw_84) (fun _ h9 => h9) rfl dHart_shortOfQ1_165 ?_
  refine lv_iload_n hx hb dHart_shortOfQ1_168 rfl (lv_at hl 3 rfl) ?_
  refine mk_callR (va_runS (As := [.int a1]) (rest := [.ref h2, .ref h0]) ⟨hx, hb, hml, hown, hts⟩ (hc_ShortForm_highNear l _ a1) (va_cwS 1 hts (mk_gS tw_327 tw_328 tw_57 tw_329) rfl rfl rfl hdSF_highNear.2 ⟨Nat.le_of_ble_eq_true rfl, Nat.le_of_ble_eq_true rfl⟩) mk_preS rfl rfl hl.1 rfl (lv_room (Nat.le_of_ble_eq_true rfl)) dHart_shortOfQ1_169 ⟨Nat.zero_le _, Nat.zero_le _⟩) ?_
  refine va_iald (D := D) hx hb hK hP 2 0 rfl rfl (in_ShortForm_highNear _) dHart_shortOfQ1_172 ?_
  refine lv_if_eq (tgt := 180) hx hb dHart_shortOfQ1_173 (by decide) (fun c_10 => ?_) (fun c_10 => ?_)
  · refine lv_iconst (v := 0) hx hb dHart_shortOfQ1_180 (by decide) ?_
    refine lv_aload_n hx hb dHart_shortOfQ1_181 rfl (lv_at hl 2 rfl) ?_
    refine va_get (D := D) (ci := 0) (v := .int (hs_place st)) (C := RHart) (T := THart) (N := 8) hx hb hg inHart hown hK hP 0 rfl rfl 2 (by decide) (hg _ tw_85) (fun _ h9 => h9) rfl dHart_shortOfQ1_182 ?_
    refine lv_iload_n hx hb dHart_shortOfQ1_185 rfl (lv_at hl 3 rfl) ?_
    refine mk_callR (va_runS (As := [.int a1]) (rest := [.int (hs_place st), .int 0, .ref h0]) ⟨hx, hb, hml, hown, hts⟩ (hc_ShortForm_offsetT l _ a1) (va_cwS 1 hts (mk_gS tw_378 tw_379 tw_57 tw_380) rfl rfl rfl hdSF_offsetT.2 ⟨Nat.le_of_ble_eq_true rfl, Nat.le_of_ble_eq_true rfl⟩) mk_preS rfl rfl hl.1 rfl (lv_room (Nat.le_of_ble_eq_true rfl)) dHart_shortOfQ1_186 ⟨Nat.zero_le _, Nat.zero_le _⟩) ?_
    refine lv_iadd hx hb dHart_shortOfQ1_189 ?_
    refine mk_callW (va_runV (As := [.int 0, .int ((hs_place st) + (hf_ShortForm_offsetT a1))]) (rest := []) ⟨hx, hb, hml, hown, hts⟩ (hc_RiscHart_jumpIf l hP hD 0 ((hs_place st) + (hf_ShortForm_offsetT a1))) (cwV 2 hts (mk_gV tw_207 tw_209 tw_8 tw_46 tw_210) rfl rfl rfl hdHart_jumpIf ⟨Nat.le_of_ble_eq_true rfl, Nat.le_of_ble_eq_true rfl⟩) (mk_preVK hK (va_recv hK hP (ci := 0) (q0 := 0) rfl rfl)) rfl rfl hl.1 rfl (lv_room (Nat.le_of_ble_eq_true rfl)) dHart_shortOfQ1_190 ⟨Nat.zero_le _, Nat.zero_le _⟩) hS (fun H locs hP hS => ?_)
    exact W.iret hx hb hr (fun t ht hW => ⟨⟨_, (hf_RiscHart_jumpIf st 0 ((hs_place st) + (hf_ShortForm_offsetT a1))).2, rfl, (by unfold hf_RiscHart_shortOfQ1; rw [if_neg c_1, if_neg c_2, if_neg c_3, if_neg c_4, if_neg c_6, if_neg c_7, if_neg c_8, if_pos c_10]), by show va_P D hcl _ t.heap; rw [ht]; exact hP⟩, hS.F ht⟩) hS.2.2 dHart_shortOfQ1_193
  · refine lv_iconst (v := 1) hx hb dHart_shortOfQ1_176 (by decide) ?_
    refine lv_goto (tgt := 181) hx hb dHart_shortOfQ1_177 (by decide) ?_
    refine lv_aload_n hx hb dHart_shortOfQ1_181 rfl (lv_at hl 2 rfl) ?_
    refine va_get (D := D) (ci := 0) (v := .int (hs_place st)) (C := RHart) (T := THart) (N := 8) hx hb hg inHart hown hK hP 0 rfl rfl 2 (by decide) (hg _ tw_85) (fun _ h9 => h9) rfl dHart_shortOfQ1_182 ?_
    refine lv_iload_n hx hb dHart_shortOfQ1_185 rfl (lv_at hl 3 rfl) ?_
    refine mk_callR (va_runS (As := [.int a1]) (rest := [.int (hs_place st), .int 1, .ref h0]) ⟨hx, hb, hml, hown, hts⟩ (hc_ShortForm_offsetT l _ a1) (va_cwS 1 hts (mk_gS tw_378 tw_379 tw_57 tw_380) rfl rfl rfl hdSF_offsetT.2 ⟨Nat.le_of_ble_eq_true rfl, Nat.le_of_ble_eq_true rfl⟩) mk_preS rfl rfl hl.1 rfl (lv_room (Nat.le_of_ble_eq_true rfl)) dHart_shortOfQ1_186 ⟨Nat.zero_le _, Nat.zero_le _⟩) ?_
    refine lv_iadd hx hb dHart_shortOfQ1_189 ?_
    refine mk_callW (va_runV (As := [.int 1, .int ((hs_place st) + (hf_ShortForm_offsetT a1))]) (rest := []) ⟨hx, hb, hml, hown, hts⟩ (hc_RiscHart_jumpIf l hP hD 1 ((hs_place st) + (hf_ShortForm_offsetT a1))) (cwV 2 hts (mk_gV tw_207 tw_209 tw_8 tw_46 tw_210) rfl rfl rfl hdHart_jumpIf ⟨Nat.le_of_ble_eq_true rfl, Nat.le_of_ble_eq_true rfl⟩) (mk_preVK hK (va_recv hK hP (ci := 0) (q0 := 0) rfl rfl)) rfl rfl hl.1 rfl (lv_room (Nat.le_of_ble_eq_true rfl)) dHart_shortOfQ1_190 ⟨Nat.zero_le _, Nat.zero_le _⟩) hS (fun H locs hP hS => ?_)
    exact W.iret hx hb hr (fun t ht hW => ⟨⟨_, (hf_RiscHart_jumpIf st 1 ((hs_place st) + (hf_ShortForm_offsetT a1))).2, rfl, (by unfold hf_RiscHart_shortOfQ1; rw [if_neg c_1, if_neg c_2, if_neg c_3, if_neg c_4, if_neg c_6, if_neg c_7, if_neg c_8, if_neg c_10]), by show va_P D hcl _ t.heap; rw [ht]; exact hP⟩, hS.F ht⟩) hS.2.2 dHart_shortOfQ1_193
set_option maxHeartbeats 4000000 in
set_option maxRecDepth 100000 in
theorem hc_RiscHart_shortJumpToRegister (l : Launch) {D : va_G} {cR cW cP : ClassId} {h0 h1 h2 h3 h4 : Nat} {A : Nat → Prop} {st : HS} {G : Heap} (hP : va_P D hcl (hs_W cR cW cP h0 h1 h2 h3 h4 st) G) (hD : ∀ z, va_D A (hs_W cR cW cP h0 h1 h2 h3 h4 z)) (a1 : Int32)  : Met l yHart_shortJumpToRegister (wq yHart_shortJumpToRegister cHart_shortJumpToRegister 4 (some .int)) ({ frames := 2, cells := 0, slots := 0, locals := 45 }) (mk_PK D hcl [(cR, .int), (cW, .int), (cP, .int)] G [.ref h0, .int a1]) (mk_Wi (fun u t => va_P D hcl (hs_W cR cW cP h0 h1 h2 h3 h4 u) t) A (hf_RiscHart_shortJumpToRegister st a1)) 0 0 A := by
  refine Met.ofW (cc := cHart_shortJumpToRegister) (maxL := 4) (ret := (some .int)) (by decide) rfl ?_
  intro p e s m args below meth c s₁ B hml hv
  obtain ⟨rfl, hG, hK⟩ := hv
  subst hG
  have hx := B.exec
  have hb := B.bytes
  have hr := B.returns
  have hts := atoms_spec (ws := (wq yHart_shortJumpToRegister cHart_shortJumpToRegister 4 (some .int))) B.pre
  have hown : s.vm.findClass RHart = some m.cls := findClass_of_methodNamed B.named
  have hlocks := B.notSynchronized
  have hg : ∀ w ∈ lw_g, w.before _ s = true := fun w h => hts w (List.mem_cons_of_mem _ h)
  have hS : va_S A s.heap s.heap [] := va_S.rf
  have hl := lv_entry ([.ref h0, .int a1]) (n := 4) (Nat.le_of_ble_eq_true rfl)
  rw [lg_entry_eq]
  generalize (lg_sl ([.ref h0, .int a1]) ++ List.replicate (4 - (lg_sl ([.ref h0, .int a1])).length) Slot.unset).toArray = ls at hl ⊢
  have hl : lv_has ls 4 [(0, .ref h0), (1, .int a1)] := hl
  refine lv_iload_n hx hb dHart_shortJumpToRegister_0 rfl (lv_at hl 1 rfl) ?_
  refine mk_callR (va_runS (As := [.int a1]) (rest := []) ⟨hx, hb, hml, hown, hts⟩ (hc_ShortForm_d l _ a1) (va_cwS 1 hts (mk_gS tw_343 tw_344 tw_57 tw_345) rfl rfl rfl hdSF_d.2 ⟨Nat.le_of_ble_eq_true rfl, Nat.le_of_ble_eq_true rfl⟩) mk_preS rfl rfl hl.1 rfl (lv_room (Nat.le_of_ble_eq_true rfl)) dHart_shortJumpToRegister_1 ⟨Nat.zero_le _, Nat.zero_le _⟩) ?_
  refine lv_istore_n (lv' := [(2, .int (hf_ShortForm_d a1)), (0, .ref h0), (1, .int a1)]) hx hb dHart_shortJumpToRegister_4 rfl hl (by decide) rfl (fun ls hl => ?_)
  refine lv_iload_n hx hb dHart_shortJumpToRegister_5 rfl (lv_at hl 2 rfl) ?_
  refine mk_callR (va_runS (As := [.int a1]) (rest := []) ⟨hx, hb, hml, hown, hts⟩ (hc_ShortForm_bit12 l _ a1) (va_cwS 1 hts (mk_gS tw_369 tw_370 tw_57 tw_371) rfl rfl rfl hdSF_bit12.2 ⟨Nat.le_of_ble_eq_true rfl, Nat.le_of_ble_eq_true rfl⟩) mk_preS rfl rfl hl.1 rfl (lv_room (Nat.le_of_ble_eq_true rfl)) dHart_shortJumpToRegister_6 ⟨Nat.zero_le _, Nat.zero_le _⟩) ?_
  refine lv_istore_n (lv' := [(3, .int (hf_ShortForm_bit12 a1)), (2, .int (hf_ShortForm_d a1)), (0, .ref h0), (1, .int a1)]) hx hb dHart_shortJumpToRegister_9 rfl hl (by decide) rfl (fun ls hl => ?_)
  refine lv_iload_n hx hb dHart_shortJumpToRegister_10 rfl (lv_at hl 1 rfl) ?_
  refine lv_if_ne (tgt := 34) hx hb dHart_shortJumpToRegister_11 (by decide) (fun c_1 => ?_) (fun c_1 => ?_)
  · refine lv_aload_n hx hb dHart_shortJumpToRegister_34 rfl (lv_at hl 2 rfl) ?_
    refine lv_iload_n hx hb dHart_shortJumpToRegister_35 rfl (lv_at hl 0 rfl) ?_
    refine lv_if_eq (tgt := 43) hx hb dHart_shortJumpToRegister_36 (by decide) (fun c_2 => ?_) (fun c_2 => ?_)
    · refine lv_iconst (v := 0) hx hb dHart_shortJumpToRegister_43 (by decide) ?_
      refine lv_aload_n hx hb dHart_shortJumpToRegister_44 rfl (lv_at hl 2 rfl) ?_
      refine va_get (D := D) (ci := 0) (v := .ref h2) (C := RHart) (T := THart) (N := 8) hx hb hg inHart hown hK hP 0 rfl rfl 1 (by decide) (hg _ tw_84) (fun _ h9 => h9) rfl dHart_shortJumpToRegister_45 ?_
      refine lv_iload_n hx hb dHart_shortJumpToRegister_48 rfl (lv_at hl 1 rfl) ?_
      refine va_iald (D := D) hx hb hK hP 2 0 rfl rfl (in_ShortForm_d _) dHart_shortJumpToRegister_49 ?_
      refine mk_callW (va_runV (As := [.int 0, .int (hs_regs st ((hf_ShortForm_d a1)).toNatClampNeg)]) (rest := []) ⟨hx, hb, hml, hown, hts⟩ (hc_RiscHart_linkAndJump l hP hD 0 (hs_regs st ((hf_ShortForm_d a1)).toNatClampNeg) (in_k (by decide))) (cwV 2 hts (mk_gV tw_180 tw_182 tw_5 tw_46 tw_183) rfl rfl rfl hdHart_linkAndJump ⟨Nat.le_of_ble_eq_true rfl, Nat.le_of_ble_eq_true rfl⟩) (mk_preVK hK (va_recv hK hP (ci := 0) (q0 := 0) rfl rfl)) rfl rfl hl.1 rfl (lv_room (Nat.le_of_ble_eq_true rfl)) dHart_shortJumpToRegister_50 ⟨Nat.zero_le _, Nat.zero_le _⟩) hS (fun H locs hP hS => ?_)
      exact W.iret hx hb hr (fun t ht hW => ⟨⟨_, (hf_RiscHart_linkAndJump st 0 (hs_regs st ((hf_ShortForm_d a1)).toNatClampNeg)).2, rfl, (by unfold hf_RiscHart_shortJumpToRegister; rw [if_neg c_1, if_pos c_2]), by show va_P D hcl _ t.heap; rw [ht]; exact hP⟩, hS.F ht⟩) hS.2.2 dHart_shortJumpToRegister_53
    · refine lv_iconst (v := 1) hx hb dHart_shortJumpToRegister_39 (by decide) ?_
      refine lv_goto (tgt := 44) hx hb dHart_shortJumpToRegister_40 (by decide) ?_
      refine lv_aload_n hx hb dHart_shortJumpToRegister_44 rfl (lv_at hl 2 rfl) ?_
      refine va_get (D := D) (ci := 0) (v := .ref h2) (C := RHart) (T := THart) (N := 8) hx hb hg inHart hown hK hP 0 rfl rfl 1 (by decide) (hg _ tw_84) (fun _ h9 => h9) rfl dHart_shortJumpToRegister_45 ?_
      refine lv_iload_n hx hb dHart_shortJumpToRegister_48 rfl (lv_at hl 1 rfl) ?_
      refine va_iald (D := D) hx hb hK hP 2 0 rfl rfl (in_ShortForm_d _) dHart_shortJumpToRegister_49 ?_
      refine mk_callW (va_runV (As := [.int 1, .int (hs_regs st ((hf_ShortForm_d a1)).toNatClampNeg)]) (rest := []) ⟨hx, hb, hml, hown, hts⟩ (hc_RiscHart_linkAndJump l hP hD 1 (hs_regs st ((hf_ShortForm_d a1)).toNatClampNeg) (in_k (by decide))) (cwV 2 hts (mk_gV tw_180 tw_182 tw_5 tw_46 tw_183) rfl rfl rfl hdHart_linkAndJump ⟨Nat.le_of_ble_eq_true rfl, Nat.le_of_ble_eq_true rfl⟩) (mk_preVK hK (va_recv hK hP (ci := 0) (q0 := 0) rfl rfl)) rfl rfl hl.1 rfl (lv_room (Nat.le_of_ble_eq_true rfl)) dHart_shortJumpToRegister_50 ⟨Nat.zero_le _, Nat.zero_le _⟩) hS (fun H locs hP hS => ?_)
      exact W.iret hx hb hr (fun t ht hW => ⟨⟨_, (hf_RiscHart_linkAndJump st 1 (hs_regs st ((hf_ShortForm_d a1)).toNatClampNeg)).2, rfl, (by unfold hf_RiscHart_shortJumpToRegister; rw [if_neg c_1, if_neg c_2]), by show va_P D hcl _ t.heap; rw [ht]; exact hP⟩, hS.F ht⟩) hS.2.2 dHart_shortJumpToRegister_53
  · refine lv_iload_n hx hb dHart_shortJumpToRegister_14 rfl (lv_at hl 0 rfl) ?_
    refine lv_if_eq (tgt := 27) hx hb dHart_shortJumpToRegister_15 (by decide) (fun c_3 => ?_) (fun c_3 => ?_)
    · refine lv_aload_n hx hb dHart_shortJumpToRegister_27 rfl (lv_at hl 2 rfl) ?_
      refine lv_iconst (v := 2) hx hb dHart_shortJumpToRegister_28 (by decide) ?_
      refine lv_iload_n hx hb dHart_shortJumpToRegister_29 rfl (lv_at hl 3 rfl) ?_
      refine mk_callW (va_runV (As := [.int 2, .int a1]) (rest := []) ⟨hx, hb, hml, hown, hts⟩ (hc_RiscHart_trap l hP hD 2 a1) (cwV 2 hts (mk_gV tw_139 tw_141 tw_1 tw_46 tw_142) rfl rfl rfl hdHart_trap ⟨Nat.le_of_ble_eq_true rfl, Nat.le_of_ble_eq_true rfl⟩) (mk_preVK hK (va_recv hK hP (ci := 0) (q0 := 0) rfl rfl)) rfl rfl hl.1 rfl (lv_room (Nat.le_of_ble_eq_true rfl)) dHart_shortJumpToRegister_30 ⟨Nat.zero_le _, Nat.zero_le _⟩) hS (fun H locs hP hS => ?_)
      exact W.iret hx hb hr (fun t ht hW => ⟨⟨_, (hf_RiscHart_trap st 2 a1).2, rfl, (by unfold hf_RiscHart_shortJumpToRegister; rw [if_pos c_1, if_pos c_3]), by show va_P D hcl _ t.heap; rw [ht]; exact hP⟩, hS.F ht⟩) hS.2.2 dHart_shortJumpToRegister_33
    · refine lv_aload_n hx hb dHart_shortJumpToRegister_18 rfl (lv_at hl 2 rfl) ?_
      refine lv_iconst (v := 4) hx hb dHart_shortJumpToRegister_19 (by decide) ?_
      refine lv_iconst (v := 0) hx hb dHart_shortJumpToRegister_20 (by decide) ?_
      refine mk_callW (va_runV (As := [.int 4, .int 0]) (rest := []) ⟨hx, hb, hml, hown, hts⟩ (hc_RiscHart_trap l hP hD 4 0) (cwV 2 hts (mk_gV tw_139 tw_141 tw_1 tw_46 tw_142) rfl rfl rfl hdHart_trap ⟨Nat.le_of_ble_eq_true rfl, Nat.le_of_ble_eq_true rfl⟩) (mk_preVK hK (va_recv hK hP (ci := 0) (q0 := 0) rfl rfl)) rfl rfl hl.1 rfl (lv_room (Nat.le_of_ble_eq_true rfl)) dHart_shortJumpToRegister_21 ⟨Nat.zero_le _, Nat.zero_le _⟩) hS (fun H locs hP hS => ?_)
      refine lv_goto (tgt := 33) hx hb dHart_shortJumpToRegister_24 (by decide) ?_
      exact W.iret hx hb hr (fun t ht hW => ⟨⟨_, (hf_RiscHart_trap st 4 0).2, rfl, (by unfold hf_RiscHart_shortJumpToRegister; rw [if_pos c_1, if_neg c_3]), by show va_P D hcl _ t.heap; rw [ht]; exact hP⟩, hS.F ht⟩) hS.2.2 dHart_shortJumpToRegister_33
set_option maxHeartbeats 4000000 in
set_option maxRecDepth 100000 in
theorem hc_RiscHart_shortMoveOrAdd (l : Launch) {D : va_G} {cR cW cP : ClassId} {h0 h1 h2 h3 h4 : Nat} {A : Nat → Prop} {st : HS} {G : Heap} (hP : va_P D hcl (hs_W cR cW cP h0 h1 h2 h3 h4 st) G) (hD : ∀ z, va_D A (hs_W cR cW cP h0 h1 h2 h3 h4 z)) (a1 : Int32)  : Met l yHart_shortMoveOrAdd (wq yHart_shortMoveOrAdd cHart_shortMoveOrAdd 4 (some .int)) ({ frames := 2, cells := 0, slots := 0, locals := 42 }) (mk_PK D hcl [(cR, .int), (cW, .int), (cP, .int)] G [.ref h0, .int a1]) (mk_Wi (fun u t => va_P D hcl (hs_W cR cW cP h0 h1 h2 h3 h4 u) t) A (hf_RiscHart_shortMoveOrAdd st a1)) 0 0 A := by
  refine Met.ofW (cc := cHart_shortMoveOrAdd) (maxL := 4) (ret := (some .int)) (by decide) rfl ?_
  intro p e s m args below meth c s₁ B hml hv
  obtain ⟨rfl, hG, hK⟩ := hv
  subst hG
  have hx := B.exec
  have hb := B.bytes
  have hr := B.returns
  have hts := atoms_spec (ws := (wq yHart_shortMoveOrAdd cHart_shortMoveOrAdd 4 (some .int))) B.pre
  have hown : s.vm.findClass RHart = some m.cls := findClass_of_methodNamed B.named
  have hlocks := B.notSynchronized
  have hg : ∀ w ∈ lw_g, w.before _ s = true := fun w h => hts w (List.mem_cons_of_mem _ h)
  have hS : va_S A s.heap s.heap [] := va_S.rf
  have hl := lv_entry ([.ref h0, .int a1]) (n := 4) (Nat.le_of_ble_eq_true rfl)
  rw [lg_entry_eq]
  generalize (lg_sl ([.ref h0, .int a1]) ++ List.replicate (4 - (lg_sl ([.ref h0, .int a1])).length) Slot.unset).toArray = ls at hl ⊢
  have hl : lv_has ls 4 [(0, .ref h0), (1, .int a1)] := hl
  refine lv_iload_n hx hb dHart_shortMoveOrAdd_0 rfl (lv_at hl 1 rfl) ?_
  refine mk_callR (va_runS (As := [.int a1]) (rest := []) ⟨hx, hb, hml, hown, hts⟩ (hc_ShortForm_d l _ a1) (va_cwS 1 hts (mk_gS tw_343 tw_344 tw_57 tw_345) rfl rfl rfl hdSF_d.2 ⟨Nat.le_of_ble_eq_true rfl, Nat.le_of_ble_eq_true rfl⟩) mk_preS rfl rfl hl.1 rfl (lv_room (Nat.le_of_ble_eq_true rfl)) dHart_shortMoveOrAdd_1 ⟨Nat.zero_le _, Nat.zero_le _⟩) ?_
  refine lv_istore_n (lv' := [(2, .int (hf_ShortForm_d a1)), (0, .ref h0), (1, .int a1)]) hx hb dHart_shortMoveOrAdd_4 rfl hl (by decide) rfl (fun ls hl => ?_)
  refine lv_aload_n hx hb dHart_shortMoveOrAdd_5 rfl (lv_at hl 1 rfl) ?_
  refine va_get (D := D) (ci := 0) (v := .ref h2) (C := RHart) (T := THart) (N := 8) hx hb hg inHart hown hK hP 0 rfl rfl 1 (by decide) (hg _ tw_84) (fun _ h9 => h9) rfl dHart_shortMoveOrAdd_6 ?_
  refine lv_iload_n hx hb dHart_shortMoveOrAdd_9 rfl (lv_at hl 2 rfl) ?_
  refine mk_callR (va_runS (As := [.int a1]) (rest := [.ref h2]) ⟨hx, hb, hml, hown, hts⟩ (hc_ShortForm_b l _ a1) (va_cwS 1 hts (mk_gS tw_372 tw_373 tw_57 tw_374) rfl rfl rfl hdSF_b.2 ⟨Nat.le_of_ble_eq_true rfl, Nat.le_of_ble_eq_true rfl⟩) mk_preS rfl rfl hl.1 rfl (lv_room (Nat.le_of_ble_eq_true rfl)) dHart_shortMoveOrAdd_10 ⟨Nat.zero_le _, Nat.zero_le _⟩) ?_
  refine va_iald (D := D) hx hb hK hP 2 0 rfl rfl (in_ShortForm_b _) dHart_shortMoveOrAdd_13 ?_
  refine lv_istore_n (lv' := [(3, .int (hs_regs st ((hf_ShortForm_b a1)).toNatClampNeg)), (2, .int (hf_ShortForm_d a1)), (0, .ref h0), (1, .int a1)]) hx hb dHart_shortMoveOrAdd_14 rfl hl (by decide) rfl (fun ls hl => ?_)
  refine lv_aload_n hx hb dHart_shortMoveOrAdd_15 rfl (lv_at hl 2 rfl) ?_
  refine lv_iload_n hx hb dHart_shortMoveOrAdd_16 rfl (lv_at hl 1 rfl) ?_
  refine lv_iload_n hx hb dHart_shortMoveOrAdd_17 rfl (lv_at hl 3 rfl) ?_
  refine mk_callR (va_runS (As := [.int a1]) (rest := [.int (hf_ShortForm_d a1), .ref h0]) ⟨hx, hb, hml, hown, hts⟩ (hc_ShortForm_bit12 l _ a1) (va_cwS 1 hts (mk_gS tw_369 tw_370 tw_57 tw_371) rfl rfl rfl hdSF_bit12.2 ⟨Nat.le_of_ble_eq_true rfl, Nat.le_of_ble_eq_true rfl⟩) mk_preS rfl rfl hl.1 rfl (lv_room (Nat.le_of_ble_eq_true rfl)) dHart_shortMoveOrAdd_18 ⟨Nat.zero_le _, Nat.zero_le _⟩) ?_
  refine lv_if_eq (tgt := 35) hx hb dHart_shortMoveOrAdd_21 (by decide) (fun c_1 => ?_) (fun c_1 => ?_)
  · refine lv_iload_n hx hb dHart_shortMoveOrAdd_35 rfl (lv_at hl 0 rfl) ?_
    refine mk_callW (va_runV (As := [.int (hf_ShortForm_d a1), .int (hs_regs st ((hf_ShortForm_b a1)).toNatClampNeg)]) (rest := []) ⟨hx, hb, hml, hown, hts⟩ (hc_RiscHart_give l hP hD (hf_ShortForm_d a1) (hs_regs st ((hf_ShortForm_b a1)).toNatClampNeg) (in_ShortForm_d _)) (cwV 2 hts (mk_gV tw_170 tw_172 tw_4 tw_46 tw_173) rfl rfl rfl hdHart_give ⟨Nat.le_of_ble_eq_true rfl, Nat.le_of_ble_eq_true rfl⟩) (mk_preVK hK (va_recv hK hP (ci := 0) (q0 := 0) rfl rfl)) rfl rfl hl.1 rfl (lv_room (Nat.le_of_ble_eq_true rfl)) dHart_shortMoveOrAdd_36 ⟨Nat.zero_le _, Nat.zero_le _⟩) hS (fun H locs hP hS => ?_)
    exact W.iret hx hb hr (fun t ht hW => ⟨⟨_, (hf_RiscHart_give st (hf_ShortForm_d a1) (hs_regs st ((hf_ShortForm_b a1)).toNatClampNeg)).2, rfl, (by unfold hf_RiscHart_shortMoveOrAdd; rw [if_pos c_1]), by show va_P D hcl _ t.heap; rw [ht]; exact hP⟩, hS.F ht⟩) hS.2.2 dHart_shortMoveOrAdd_39
  · refine lv_aload_n hx hb dHart_shortMoveOrAdd_24 rfl (lv_at hl 2 rfl) ?_
    refine va_get (D := D) (ci := 0) (v := .ref h2) (C := RHart) (T := THart) (N := 8) hx hb hg inHart hown hK hP 0 rfl rfl 1 (by decide) (hg _ tw_84) (fun _ h9 => h9) rfl dHart_shortMoveOrAdd_25 ?_
    refine lv_iload_n hx hb dHart_shortMoveOrAdd_28 rfl (lv_at hl 1 rfl) ?_
    refine va_iald (D := D) hx hb hK hP 2 0 rfl rfl (in_ShortForm_d _) dHart_shortMoveOrAdd_29 ?_
    refine lv_iload_n hx hb dHart_shortMoveOrAdd_30 rfl (lv_at hl 0 rfl) ?_
    refine lv_iadd hx hb dHart_shortMoveOrAdd_31 ?_
    refine lv_goto (tgt := 36) hx hb dHart_shortMoveOrAdd_32 (by decide) ?_
    refine mk_callW (va_runV (As := [.int (hf_ShortForm_d a1), .int ((hs_regs st ((hf_ShortForm_d a1)).toNatClampNeg) + (hs_regs st ((hf_ShortForm_b a1)).toNatClampNeg))]) (rest := []) ⟨hx, hb, hml, hown, hts⟩ (hc_RiscHart_give l hP hD (hf_ShortForm_d a1) ((hs_regs st ((hf_ShortForm_d a1)).toNatClampNeg) + (hs_regs st ((hf_ShortForm_b a1)).toNatClampNeg)) (in_ShortForm_d _)) (cwV 2 hts (mk_gV tw_170 tw_172 tw_4 tw_46 tw_173) rfl rfl rfl hdHart_give ⟨Nat.le_of_ble_eq_true rfl, Nat.le_of_ble_eq_true rfl⟩) (mk_preVK hK (va_recv hK hP (ci := 0) (q0 := 0) rfl rfl)) rfl rfl hl.1 rfl (lv_room (Nat.le_of_ble_eq_true rfl)) dHart_shortMoveOrAdd_36 ⟨Nat.zero_le _, Nat.zero_le _⟩) hS (fun H locs hP hS => ?_)
    exact W.iret hx hb hr (fun t ht hW => ⟨⟨_, (hf_RiscHart_give st (hf_ShortForm_d a1) ((hs_regs st ((hf_ShortForm_d a1)).toNatClampNeg) + (hs_regs st ((hf_ShortForm_b a1)).toNatClampNeg))).2, rfl, (by unfold hf_RiscHart_shortMoveOrAdd; rw [if_neg c_1]), by show va_P D hcl _ t.heap; rw [ht]; exact hP⟩, hS.F ht⟩) hS.2.2 dHart_shortMoveOrAdd_39
set_option maxHeartbeats 4000000 in
set_option maxRecDepth 100000 in
theorem hc_RiscHart_shortOfQ2 (l : Launch) {D : va_G} {cR cW cP : ClassId} {h0 h1 h2 h3 h4 : Nat} {A : Nat → Prop} {st : HS} {G : Heap} (hP : va_P D hcl (hs_W cR cW cP h0 h1 h2 h3 h4 st) G) (hD : ∀ z, va_D A (hs_W cR cW cP h0 h1 h2 h3 h4 z)) (a1 : Int32)  : Met l yHart_shortOfQ2 (wq yHart_shortOfQ2 cHart_shortOfQ2 4 (some .int)) ({ frames := 3, cells := 0, slots := 0, locals := 68 }) (mk_PK D hcl [(cR, .int), (cW, .int), (cP, .int)] G [.ref h0, .int a1]) (mk_Wi (fun u t => va_P D hcl (hs_W cR cW cP h0 h1 h2 h3 h4 u) t) A (hf_RiscHart_shortOfQ2 st a1)) 0 0 A := by
  refine Met.ofW (cc := cHart_shortOfQ2) (maxL := 4) (ret := (some .int)) (by decide) rfl ?_
  intro p e s m args below meth c s₁ B hml hv
  obtain ⟨rfl, hG, hK⟩ := hv
  subst hG
  have hx := B.exec
  have hb := B.bytes
  have hr := B.returns
  have hts := atoms_spec (ws := (wq yHart_shortOfQ2 cHart_shortOfQ2 4 (some .int))) B.pre
  have hown : s.vm.findClass RHart = some m.cls := findClass_of_methodNamed B.named
  have hlocks := B.notSynchronized
  have hg : ∀ w ∈ lw_g, w.before _ s = true := fun w h => hts w (List.mem_cons_of_mem _ h)
  have hS : va_S A s.heap s.heap [] := va_S.rf
  have hl := lv_entry ([.ref h0, .int a1]) (n := 4) (Nat.le_of_ble_eq_true rfl)
  rw [lg_entry_eq]
  generalize (lg_sl ([.ref h0, .int a1]) ++ List.replicate (4 - (lg_sl ([.ref h0, .int a1])).length) Slot.unset).toArray = ls at hl ⊢
  have hl : lv_has ls 4 [(0, .ref h0), (1, .int a1)] := hl
  refine lv_iload_n hx hb dHart_shortOfQ2_0 rfl (lv_at hl 1 rfl) ?_
  refine mk_callR (va_runS (As := [.int a1]) (rest := []) ⟨hx, hb, hml, hown, hts⟩ (hc_ShortForm_d l _ a1) (va_cwS 1 hts (mk_gS tw_343 tw_344 tw_57 tw_345) rfl rfl rfl hdSF_d.2 ⟨Nat.le_of_ble_eq_true rfl, Nat.le_of_ble_eq_true rfl⟩) mk_preS rfl rfl hl.1 rfl (lv_room (Nat.le_of_ble_eq_true rfl)) dHart_shortOfQ2_1 ⟨Nat.zero_le _, Nat.zero_le _⟩) ?_
  refine lv_istore_n (lv' := [(2, .int (hf_ShortForm_d a1)), (0, .ref h0), (1, .int a1)]) hx hb dHart_shortOfQ2_4 rfl hl (by decide) rfl (fun ls hl => ?_)
  refine lv_aload_n hx hb dHart_shortOfQ2_5 rfl (lv_at hl 1 rfl) ?_
  refine va_get (D := D) (ci := 0) (v := .ref h2) (C := RHart) (T := THart) (N := 8) hx hb hg inHart hown hK hP 0 rfl rfl 1 (by decide) (hg _ tw_84) (fun _ h9 => h9) rfl dHart_shortOfQ2_6 ?_
  refine lv_iconst (v := 2) hx hb dHart_shortOfQ2_9 (by decide) ?_
  refine va_iald (D := D) hx hb hK hP 2 0 rfl rfl (in_k (by decide)) dHart_shortOfQ2_10 ?_
  refine lv_istore_n (lv' := [(3, .int (hs_regs st (2 : Int32).toNatClampNeg)), (2, .int (hf_ShortForm_d a1)), (0, .ref h0), (1, .int a1)]) hx hb dHart_shortOfQ2_11 rfl hl (by decide) rfl (fun ls hl => ?_)
  refine lv_iload_n hx hb dHart_shortOfQ2_12 rfl (lv_at hl 3 rfl) ?_
  refine mk_callR (va_runS (As := [.int a1]) (rest := []) ⟨hx, hb, hml, hown, hts⟩ (hc_ShortForm_f l _ a1) (va_cwS 1 hts (mk_gS tw_333 tw_334 tw_57 tw_335) rfl rfl rfl hdSF_f.2 ⟨Nat.le_of_ble_eq_true rfl, Nat.le_of_ble_eq_true rfl⟩) mk_preS rfl rfl hl.1 rfl (lv_room (Nat.le_of_ble_eq_true rfl)) dHart_shortOfQ2_13 ⟨Nat.zero_le _, Nat.zero_le _⟩) ?_
  by_cases c_1 : (hf_ShortForm_f a1) = 0
  · refine lv_tableIn (tgt := 60) hx hb dHart_shortOfQ2_16 (by rw [c_1]; decide) (by rw [c_1]; decide) (by rw [c_1]; rfl) (by decide) ?_
    refine lv_iload_n hx hb dHart_shortOfQ2_60 rfl (lv_at hl 3 rfl) ?_
    refine mk_callR (va_runS (As := [.int a1]) (rest := []) ⟨hx, hb, hml, hown, hts⟩ (hc_ShortForm_bit12 l _ a1) (va_cwS 1 hts (mk_gS tw_369 tw_370 tw_57 tw_371) rfl rfl rfl hdSF_bit12.2 ⟨Nat.le_of_ble_eq_true rfl, Nat.le_of_ble_eq_true rfl⟩) mk_preS rfl rfl hl.1 rfl (lv_room (Nat.le_of_ble_eq_true rfl)) dHart_shortOfQ2_61 ⟨Nat.zero_le _, Nat.zero_le _⟩) ?_
    refine lv_if_eq (tgt := 76) hx hb dHart_shortOfQ2_64 (by decide) (fun c_2 => ?_) (fun c_2 => ?_)
    · refine lv_aload_n hx hb dHart_shortOfQ2_76 rfl (lv_at hl 2 rfl) ?_
      refine lv_iload_n hx hb dHart_shortOfQ2_77 rfl (lv_at hl 1 rfl) ?_
      refine lv_aload_n hx hb dHart_shortOfQ2_78 rfl (lv_at hl 2 rfl) ?_
      refine va_get (D := D) (ci := 0) (v := .ref h2) (C := RHart) (T := THart) (N := 8) hx hb hg inHart hown hK hP 0 rfl rfl 1 (by decide) (hg _ tw_84) (fun _ h9 => h9) rfl dHart_shortOfQ2_79 ?_
      refine lv_iload_n hx hb dHart_shortOfQ2_82 rfl (lv_at hl 1 rfl) ?_
      refine va_iald (D := D) hx hb hK hP 2 0 rfl rfl (in_ShortForm_d _) dHart_shortOfQ2_83 ?_
      refine lv_iload_n hx hb dHart_shortOfQ2_84 rfl (lv_at hl 3 rfl) ?_
      refine mk_callR (va_runS (As := [.int a1]) (rest := [.int (hs_regs st ((hf_ShortForm_d a1)).toNatClampNeg), .int (hf_ShortForm_d a1), .ref h0]) ⟨hx, hb, hml, hown, hts⟩ (hc_ShortForm_b l _ a1) (va_cwS 1 hts (mk_gS tw_372 tw_373 tw_57 tw_374) rfl rfl rfl hdSF_b.2 ⟨Nat.le_of_ble_eq_true rfl, Nat.le_of_ble_eq_true rfl⟩) mk_preS rfl rfl hl.1 rfl (lv_room (Nat.le_of_ble_eq_true rfl)) dHart_shortOfQ2_85 ⟨Nat.zero_le _, Nat.zero_le _⟩) ?_
      refine lv_ishl hx hb dHart_shortOfQ2_88 ?_
      refine mk_callW (va_runV (As := [.int (hf_ShortForm_d a1), .int ((hs_regs st ((hf_ShortForm_d a1)).toNatClampNeg) <<< ((hf_ShortForm_b a1) &&& 31))]) (rest := []) ⟨hx, hb, hml, hown, hts⟩ (hc_RiscHart_give l hP hD (hf_ShortForm_d a1) ((hs_regs st ((hf_ShortForm_d a1)).toNatClampNeg) <<< ((hf_ShortForm_b a1) &&& 31)) (in_ShortForm_d _)) (cwV 2 hts (mk_gV tw_170 tw_172 tw_4 tw_46 tw_173) rfl rfl rfl hdHart_give ⟨Nat.le_of_ble_eq_true rfl, Nat.le_of_ble_eq_true rfl⟩) (mk_preVK hK (va_recv hK hP (ci := 0) (q0 := 0) rfl rfl)) rfl rfl hl.1 rfl (lv_room (Nat.le_of_ble_eq_true rfl)) dHart_shortOfQ2_89 ⟨Nat.zero_le _, Nat.zero_le _⟩) hS (fun H locs hP hS => ?_)
      exact W.iret hx hb hr (fun t ht hW => ⟨⟨_, (hf_RiscHart_give st (hf_ShortForm_d a1) ((hs_regs st ((hf_ShortForm_d a1)).toNatClampNeg) <<< ((hf_ShortForm_b a1) &&& 31))).2, rfl, (by unfold hf_RiscHart_shortOfQ2; rw [if_pos c_1, if_pos c_2]), by show va_P D hcl _ t.heap; rw [ht]; exact hP⟩, hS.F ht⟩) hS.2.2 dHart_shortOfQ2_92
    · refine lv_aload_n hx hb dHart_shortOfQ2_67 rfl (lv_at hl 2 rfl) ?_
      refine lv_iconst (v := 2) hx hb dHart_shortOfQ2_68 (by decide) ?_
      refine lv_iload_n hx hb dHart_shortOfQ2_69 rfl (lv_at hl 3 rfl) ?_
      refine mk_callW (va_runV (As := [.int 2, .int a1]) (rest := []) ⟨hx, hb, hml, hown, hts⟩ (hc_RiscHart_trap l hP hD 2 a1) (cwV 2 hts (mk_gV tw_139 tw_141 tw_1 tw_46 tw_142) rfl rfl rfl hdHart_trap ⟨Nat.le_of_ble_eq_true rfl, Nat.le_of_ble_eq_true rfl⟩) (mk_preVK hK (va_recv hK hP (ci := 0) (q0 := 0) rfl rfl)) rfl rfl hl.1 rfl (lv_room (Nat.le_of_ble_eq_true rfl)) dHart_shortOfQ2_70 ⟨Nat.zero_le _, Nat.zero_le _⟩) hS (fun H locs hP hS => ?_)
      refine lv_goto (tgt := 92) hx hb dHart_shortOfQ2_73 (by decide) ?_
      exact W.iret hx hb hr (fun t ht hW => ⟨⟨_, (hf_RiscHart_trap st 2 a1).2, rfl, (by unfold hf_RiscHart_shortOfQ2; rw [if_pos c_1, if_neg c_2]), by show va_P D hcl _ t.heap; rw [ht]; exact hP⟩, hS.F ht⟩) hS.2.2 dHart_shortOfQ2_92
  by_cases c_3 : (hf_ShortForm_f a1) = 1
  · refine lv_tableIn (tgt := 161) hx hb dHart_shortOfQ2_16 (by rw [c_3]; decide) (by rw [c_3]; decide) (by rw [c_3]; rfl) (by decide) ?_
    refine lv_aload_n hx hb dHart_shortOfQ2_161 rfl (lv_at hl 2 rfl) ?_
    refine lv_iconst (v := 2) hx hb dHart_shortOfQ2_162 (by decide) ?_
    refine lv_iload_n hx hb dHart_shortOfQ2_163 rfl (lv_at hl 3 rfl) ?_
    refine mk_callW (va_runV (As := [.int 2, .int a1]) (rest := []) ⟨hx, hb, hml, hown, hts⟩ (hc_RiscHart_trap l hP hD 2 a1) (cwV 2 hts (mk_gV tw_139 tw_141 tw_1 tw_46 tw_142) rfl rfl rfl hdHart_trap ⟨Nat.le_of_ble_eq_true rfl, Nat.le_of_ble_eq_true rfl⟩) (mk_preVK hK (va_recv hK hP (ci := 0) (q0 := 0) rfl rfl)) rfl rfl hl.1 rfl (lv_room (Nat.le_of_ble_eq_true rfl)) dHart_shortOfQ2_164 ⟨Nat.zero_le _, Nat.zero_le _⟩) hS (fun H locs hP hS => ?_)
    exact W.iret hx hb hr (fun t ht hW => ⟨⟨_, (hf_RiscHart_trap st 2 a1).2, rfl, (by unfold hf_RiscHart_shortOfQ2; rw [if_neg c_1, if_pos c_3]), by show va_P D hcl _ t.heap; rw [ht]; exact hP⟩, hS.F ht⟩) hS.2.2 dHart_shortOfQ2_167
  by_cases c_4 : (hf_ShortForm_f a1) = 2
  · refine lv_tableIn (tgt := 93) hx hb dHart_shortOfQ2_16 (by rw [c_4]; decide) (by rw [c_4]; decide) (by rw [c_4]; rfl) (by decide) ?_
    refine lv_iload_n hx hb dHart_shortOfQ2_93 rfl (lv_at hl 1 rfl) ?_
    refine lv_if_ne (tgt := 106) hx hb dHart_shortOfQ2_94 (by decide) (fun c_5 => ?_) (fun c_5 => ?_)
    · refine lv_aload_n hx hb dHart_shortOfQ2_106 rfl (lv_at hl 2 rfl) ?_
      refine lv_iconst (v := 2) hx hb dHart_shortOfQ2_107 (by decide) ?_
      refine lv_iload_n hx hb dHart_shortOfQ2_108 rfl (lv_at hl 1 rfl) ?_
      refine lv_iload_n hx hb dHart_shortOfQ2_109 rfl (lv_at hl 0 rfl) ?_
      refine lv_iload_n hx hb dHart_shortOfQ2_110 rfl (lv_at hl 3 rfl) ?_
      refine mk_callR (va_runS (As := [.int a1]) (rest := [.int (hs_regs st (2 : Int32).toNatClampNeg), .int (hf_ShortForm_d a1), .int 2, .ref h0]) ⟨hx, hb, hml, hown, hts⟩ (hc_ShortForm_stackLoadOffset l _ a1) (va_cwS 1 hts (mk_gS tw_385 tw_386 tw_57 tw_387) rfl rfl rfl hdSF_stackLoadOffset.2 ⟨Nat.le_of_ble_eq_true rfl, Nat.le_of_ble_eq_true rfl⟩) mk_preS rfl rfl hl.1 rfl (lv_room (Nat.le_of_ble_eq_true rfl)) dHart_shortOfQ2_111 ⟨Nat.zero_le _, Nat.zero_le _⟩) ?_
      refine lv_iadd hx hb dHart_shortOfQ2_114 ?_
      refine mk_callW (va_runV (As := [.int 2, .int (hf_ShortForm_d a1), .int ((hs_regs st (2 : Int32).toNatClampNeg) + (hf_ShortForm_stackLoadOffset a1))]) (rest := []) ⟨hx, hb, hml, hown, hts⟩ (hc_RiscHart_load l hP hD 2 (hf_ShortForm_d a1) ((hs_regs st (2 : Int32).toNatClampNeg) + (hf_ShortForm_stackLoadOffset a1)) (in_ShortForm_d _)) (cwV 3 hts (mk_gV tw_219 tw_221 tw_10 tw_46 tw_222) rfl rfl rfl hdHart_load ⟨Nat.le_of_ble_eq_true rfl, Nat.le_of_ble_eq_true rfl⟩) (mk_preVK hK (va_recv hK hP (ci := 0) (q0 := 0) rfl rfl)) rfl rfl hl.1 rfl (lv_room (Nat.le_of_ble_eq_true rfl)) dHart_shortOfQ2_115 ⟨Nat.zero_le _, Nat.zero_le _⟩) hS (fun H locs hP hS => ?_)
      exact W.iret hx hb hr (fun t ht hW => ⟨⟨_, (hf_RiscHart_load st 2 (hf_ShortForm_d a1) ((hs_regs st (2 : Int32).toNatClampNeg) + (hf_ShortForm_stackLoadOffset a1))).2, rfl, (by unfold hf_RiscHart_shortOfQ2; rw [if_neg c_1, if_neg c_3, if_pos c_4, if_neg c_5]), by show va_P D hcl _ t.heap; rw [ht]; exact hP⟩, hS.F ht⟩) hS.2.2 dHart_shortOfQ2_118
    · refine lv_aload_n hx hb dHart_shortOfQ2_97 rfl (lv_at hl 2 rfl) ?_
      refine lv_iconst (v := 2) hx hb dHart_shortOfQ2_98 (by decide) ?_
      refine lv_iload_n hx hb dHart_shortOfQ2_99 rfl (lv_at hl 3 rfl) ?_
      refine mk_callW (va_runV (As := [.int 2, .int a1]) (rest := []) ⟨hx, hb, hml, hown, hts⟩ (hc_RiscHart_trap l hP hD 2 a1) (cwV 2 hts (mk_gV tw_139 tw_141 tw_1 tw_46 tw_142) rfl rfl rfl hdHart_trap ⟨Nat.le_of_ble_eq_true rfl, Nat.le_of_ble_eq_true rfl⟩) (mk_preVK hK (va_recv hK hP (ci := 0) (q0 := 0) rfl rfl)) rfl rfl hl.1 rfl (lv_room (Nat.le_of_ble_eq_true rfl)) dHart_shortOfQ2_100 ⟨Nat.zero_le _, Nat.zero_le _⟩) hS (fun H locs hP hS => ?_)
      refine lv_goto (tgt := 118) hx hb dHart_shortOfQ2_103 (by decide) ?_
      exact W.iret hx hb hr (fun t ht hW => ⟨⟨_, (hf_RiscHart_trap st 2 a1).2, rfl, (by unfold hf_RiscHart_shortOfQ2; rw [if_neg c_1, if_neg c_3, if_pos c_4, if_pos c_5]), by show va_P D hcl _ t.heap; rw [ht]; exact hP⟩, hS.F ht⟩) hS.2.2 dHart_shortOfQ2_118
  by_cases c_6 : (hf_ShortForm_f a1) = 3
  · refine lv_tableIn (tgt := 161) hx hb dHart_shortOfQ2_16 (by rw [c_6]; decide) (by rw [c_6]; decide) (by rw [c_6]; rfl) (by decide) ?_
    refine lv_aload_n hx hb dHart_shortOfQ2_161 rfl (lv_at hl 2 rfl) ?_
    refine lv_iconst (v := 2) hx hb dHart_shortOfQ2_162 (by decide) ?_
    refine lv_iload_n hx hb dHart_shortOfQ2_163 rfl (lv_at hl 3 rfl) ?_
    refine mk_callW (va_runV (As := [.int 2, .int a1]) (rest := []) ⟨hx, hb, hml, hown, hts⟩ (hc_RiscHart_trap l hP hD 2 a1) (cwV 2 hts (mk_gV tw_139 tw_141 tw_1 tw_46 tw_142) rfl rfl rfl hdHart_trap ⟨Nat.le_of_ble_eq_true rfl, Nat.le_of_ble_eq_true rfl⟩) (mk_preVK hK (va_recv hK hP (ci := 0) (q0 := 0) rfl rfl)) rfl rfl hl.1 rfl (lv_room (Nat.le_of_ble_eq_true rfl)) dHart_shortOfQ2_164 ⟨Nat.zero_le _, Nat.zero_le _⟩) hS (fun H locs hP hS => ?_)
    exact W.iret hx hb hr (fun t ht hW => ⟨⟨_, (hf_RiscHart_trap st 2 a1).2, rfl, (by unfold hf_RiscHart_shortOfQ2; rw [if_neg c_1, if_neg c_3, if_neg c_4, if_pos c_6]), by show va_P D hcl _ t.heap; rw [ht]; exact hP⟩, hS.F ht⟩) hS.2.2 dHart_shortOfQ2_167
  by_cases c_7 : (hf_ShortForm_f a1) = 4
  · refine lv_tableIn (tgt := 119) hx hb dHart_shortOfQ2_16 (by rw [c_7]; decide) (by rw [c_7]; decide) (by rw [c_7]; rfl) (by decide) ?_
    refine lv_iload_n hx hb dHart_shortOfQ2_119 rfl (lv_at hl 3 rfl) ?_
    refine mk_callR (va_runS (As := [.int a1]) (rest := []) ⟨hx, hb, hml, hown, hts⟩ (hc_ShortForm_b l _ a1) (va_cwS 1 hts (mk_gS tw_372 tw_373 tw_57 tw_374) rfl rfl rfl hdSF_b.2 ⟨Nat.le_of_ble_eq_true rfl, Nat.le_of_ble_eq_true rfl⟩) mk_preS rfl rfl hl.1 rfl (lv_room (Nat.le_of_ble_eq_true rfl)) dHart_shortOfQ2_120 ⟨Nat.zero_le _, Nat.zero_le _⟩) ?_
    refine lv_if_ne (tgt := 134) hx hb dHart_shortOfQ2_123 (by decide) (fun c_8 => ?_) (fun c_8 => ?_)
    · refine lv_aload_n hx hb dHart_shortOfQ2_134 rfl (lv_at hl 2 rfl) ?_
      refine lv_iload_n hx hb dHart_shortOfQ2_135 rfl (lv_at hl 3 rfl) ?_
      refine mk_callW (va_runV (As := [.int a1]) (rest := []) ⟨hx, hb, hml, hown, hts⟩ (hc_RiscHart_shortMoveOrAdd l hP hD a1) (cwV 1 hts (mk_gV tw_392 tw_394 tw_29 tw_46 tw_395) rfl rfl rfl hdHart_shortMoveOrAdd ⟨Nat.le_of_ble_eq_true rfl, Nat.le_of_ble_eq_true rfl⟩) (mk_preVK hK (va_recv hK hP (ci := 0) (q0 := 0) rfl rfl)) rfl rfl hl.1 rfl (lv_room (Nat.le_of_ble_eq_true rfl)) dHart_shortOfQ2_136 ⟨Nat.zero_le _, Nat.zero_le _⟩) hS (fun H locs hP hS => ?_)
      exact W.iret hx hb hr (fun t ht hW => ⟨⟨_, (hf_RiscHart_shortMoveOrAdd st a1).2, rfl, (by unfold hf_RiscHart_shortOfQ2; rw [if_neg c_1, if_neg c_3, if_neg c_4, if_neg c_6, if_pos c_7, if_neg c_8]), by show va_P D hcl _ t.heap; rw [ht]; exact hP⟩, hS.F ht⟩) hS.2.2 dHart_shortOfQ2_139
    · refine lv_aload_n hx hb dHart_shortOfQ2_126 rfl (lv_at hl 2 rfl) ?_
      refine lv_iload_n hx hb dHart_shortOfQ2_127 rfl (lv_at hl 3 rfl) ?_
      refine mk_callW (va_runV (As := [.int a1]) (rest := []) ⟨hx, hb, hml, hown, hts⟩ (hc_RiscHart_shortJumpToRegister l hP hD a1) (cwV 1 hts (mk_gV tw_388 tw_390 tw_28 tw_46 tw_391) rfl rfl rfl hdHart_shortJumpToRegister ⟨Nat.le_of_ble_eq_true rfl, Nat.le_of_ble_eq_true rfl⟩) (mk_preVK hK (va_recv hK hP (ci := 0) (q0 := 0) rfl rfl)) rfl rfl hl.1 rfl (lv_room (Nat.le_of_ble_eq_true rfl)) dHart_shortOfQ2_128 ⟨Nat.zero_le _, Nat.zero_le _⟩) hS (fun H locs hP hS => ?_)
      refine lv_goto (tgt := 139) hx hb dHart_shortOfQ2_131 (by decide) ?_
      exact W.iret hx hb hr (fun t ht hW => ⟨⟨_, (hf_RiscHart_shortJumpToRegister st a1).2, rfl, (by unfold hf_RiscHart_shortOfQ2; rw [if_neg c_1, if_neg c_3, if_neg c_4, if_neg c_6, if_pos c_7, if_pos c_8]), by show va_P D hcl _ t.heap; rw [ht]; exact hP⟩, hS.F ht⟩) hS.2.2 dHart_shortOfQ2_139
  by_cases c_9 : (hf_ShortForm_f a1) = 5
  · refine lv_tableIn (tgt := 161) hx hb dHart_shortOfQ2_16 (by rw [c_9]; decide) (by rw [c_9]; decide) (by rw [c_9]; rfl) (by decide) ?_
    refine lv_aload_n hx hb dHart_shortOfQ2_161 rfl (lv_at hl 2 rfl) ?_
    refine lv_iconst (v := 2) hx hb dHart_shortOfQ2_162 (by decide) ?_
    refine lv_iload_n hx hb dHart_shortOfQ2_163 rfl (lv_at hl 3 rfl) ?_
    refine mk_callW (va_runV (As := [.int 2, .int a1]) (rest := []) ⟨hx, hb, hml, hown, hts⟩ (hc_RiscHart_trap l hP hD 2 a1) (cwV 2 hts (mk_gV tw_139 tw_141 tw_1 tw_46 tw_142) rfl rfl rfl hdHart_trap ⟨Nat.le_of_ble_eq_true rfl, Nat.le_of_ble_eq_true rfl⟩) (mk_preVK hK (va_recv hK hP (ci := 0) (q0 := 0) rfl rfl)) rfl rfl hl.1 rfl (lv_room (Nat.le_of_ble_eq_true rfl)) dHart_shortOfQ2_164 ⟨Nat.zero_le _, Nat.zero_le _⟩) hS (fun H locs hP hS => ?_)
    exact W.iret hx hb hr (fun t ht hW => ⟨⟨_, (hf_RiscHart_trap st 2 a1).2, rfl, (by unfold hf_RiscHart_shortOfQ2; rw [if_neg c_1, if_neg c_3, if_neg c_4, if_neg c_6, if_neg c_7, if_pos c_9]), by show va_P D hcl _ t.heap; rw [ht]; exact hP⟩, hS.F ht⟩) hS.2.2 dHart_shortOfQ2_167
  by_cases c_10 : (hf_ShortForm_f a1) = 6
  · refine lv_tableIn (tgt := 140) hx hb dHart_shortOfQ2_16 (by rw [c_10]; decide) (by rw [c_10]; decide) (by rw [c_10]; rfl) (by decide) ?_
    refine lv_aload_n hx hb dHart_shortOfQ2_140 rfl (lv_at hl 2 rfl) ?_
    refine lv_iconst (v := 2) hx hb dHart_shortOfQ2_141 (by decide) ?_
    refine lv_iload_n hx hb dHart_shortOfQ2_142 rfl (lv_at hl 0 rfl) ?_
    refine lv_iload_n hx hb dHart_shortOfQ2_143 rfl (lv_at hl 3 rfl) ?_
    refine mk_callR (va_runS (As := [.int a1]) (rest := [.int (hs_regs st (2 : Int32).toNatClampNeg), .int 2, .ref h0]) ⟨hx, hb, hml, hown, hts⟩ (hc_ShortForm_stackStoreOffset l _ a1) (va_cwS 1 hts (mk_gS tw_396 tw_397 tw_57 tw_398) rfl rfl rfl hdSF_stackStoreOffset.2 ⟨Nat.le_of_ble_eq_true rfl, Nat.le_of_ble_eq_true rfl⟩) mk_preS rfl rfl hl.1 rfl (lv_room (Nat.le_of_ble_eq_true rfl)) dHart_shortOfQ2_144 ⟨Nat.zero_le _, Nat.zero_le _⟩) ?_
    refine lv_iadd hx hb dHart_shortOfQ2_147 ?_
    refine lv_aload_n hx hb dHart_shortOfQ2_148 rfl (lv_at hl 2 rfl) ?_
    refine va_get (D := D) (ci := 0) (v := .ref h2) (C := RHart) (T := THart) (N := 8) hx hb hg inHart hown hK hP 0 rfl rfl 1 (by decide) (hg _ tw_84) (fun _ h9 => h9) rfl dHart_shortOfQ2_149 ?_
    refine lv_iload_n hx hb dHart_shortOfQ2_152 rfl (lv_at hl 3 rfl) ?_
    refine mk_callR (va_runS (As := [.int a1]) (rest := [.ref h2, .int ((hs_regs st (2 : Int32).toNatClampNeg) + (hf_ShortForm_stackStoreOffset a1)), .int 2, .ref h0]) ⟨hx, hb, hml, hown, hts⟩ (hc_ShortForm_b l _ a1) (va_cwS 1 hts (mk_gS tw_372 tw_373 tw_57 tw_374) rfl rfl rfl hdSF_b.2 ⟨Nat.le_of_ble_eq_true rfl, Nat.le_of_ble_eq_true rfl⟩) mk_preS rfl rfl hl.1 rfl (lv_room (Nat.le_of_ble_eq_true rfl)) dHart_shortOfQ2_153 ⟨Nat.zero_le _, Nat.zero_le _⟩) ?_
    refine va_iald (D := D) hx hb hK hP 2 0 rfl rfl (in_ShortForm_b _) dHart_shortOfQ2_156 ?_
    refine mk_callW (va_runV (As := [.int 2, .int ((hs_regs st (2 : Int32).toNatClampNeg) + (hf_ShortForm_stackStoreOffset a1)), .int (hs_regs st ((hf_ShortForm_b a1)).toNatClampNeg)]) (rest := []) ⟨hx, hb, hml, hown, hts⟩ (hc_RiscHart_store l hP hD 2 ((hs_regs st (2 : Int32).toNatClampNeg) + (hf_ShortForm_stackStoreOffset a1)) (hs_regs st ((hf_ShortForm_b a1)).toNatClampNeg)) (cwV 3 hts (mk_gV tw_236 tw_238 tw_12 tw_46 tw_239) rfl rfl rfl hdHart_store ⟨Nat.le_of_ble_eq_true rfl, Nat.le_of_ble_eq_true rfl⟩) (mk_preVK hK (va_recv hK hP (ci := 0) (q0 := 0) rfl rfl)) rfl rfl hl.1 rfl (lv_room (Nat.le_of_ble_eq_true rfl)) dHart_shortOfQ2_157 ⟨Nat.zero_le _, Nat.zero_le _⟩) hS (fun H locs hP hS => ?_)
    exact W.iret hx hb hr (fun t ht hW => ⟨⟨_, (hf_RiscHart_store st 2 ((hs_regs st (2 : Int32).toNatClampNeg) + (hf_ShortForm_stackStoreOffset a1)) (hs_regs st ((hf_ShortForm_b a1)).toNatClampNeg)).2, rfl, (by unfold hf_RiscHart_shortOfQ2; rw [if_neg c_1, if_neg c_3, if_neg c_4, if_neg c_6, if_neg c_7, if_neg c_9, if_pos c_10]), by show va_P D hcl _ t.heap; rw [ht]; exact hP⟩, hS.F ht⟩) hS.2.2 dHart_shortOfQ2_160
  refine lv_tableOut (tgt := 161) hx hb dHart_shortOfQ2_16 (by have q_1 := lv_neT (a := 0) c_1 rfl; have q_3 := lv_neT (a := 1) c_3 rfl; have q_4 := lv_neT (a := 2) c_4 rfl; have q_6 := lv_neT (a := 3) c_6 rfl; have q_7 := lv_neT (a := 4) c_7 rfl; have q_9 := lv_neT (a := 5) c_9 rfl; have q_10 := lv_neT (a := 6) c_10 rfl; omega) (by decide) ?_
  refine lv_aload_n hx hb dHart_shortOfQ2_161 rfl (lv_at hl 2 rfl) ?_
  refine lv_iconst (v := 2) hx hb dHart_shortOfQ2_162 (by decide) ?_
  refine lv_iload_n hx hb dHart_shortOfQ2_163 rfl (lv_at hl 3 rfl) ?_
  refine mk_callW (va_runV (As := [.int 2, .int a1]) (rest := []) ⟨hx, hb, hml, hown, hts⟩ (hc_RiscHart_trap l hP hD 2 a1) (cwV 2 hts (mk_gV tw_139 tw_141 tw_1 tw_46 tw_142) rfl rfl rfl hdHart_trap ⟨Nat.le_of_ble_eq_true rfl, Nat.le_of_ble_eq_true rfl⟩) (mk_preVK hK (va_recv hK hP (ci := 0) (q0 := 0) rfl rfl)) rfl rfl hl.1 rfl (lv_room (Nat.le_of_ble_eq_true rfl)) dHart_shortOfQ2_164 ⟨Nat.zero_le _, Nat.zero_le _⟩) hS (fun H locs hP hS => ?_)
  exact W.iret hx hb hr (fun t ht hW => ⟨⟨_, (hf_RiscHart_trap st 2 a1).2, rfl, (by unfold hf_RiscHart_shortOfQ2; rw [if_neg c_1, if_neg c_3, if_neg c_4, if_neg c_6, if_neg c_7, if_neg c_9, if_neg c_10]), by show va_P D hcl _ t.heap; rw [ht]; exact hP⟩, hS.F ht⟩) hS.2.2 dHart_shortOfQ2_167
end
section
set_option maxHeartbeats 4000000 in
set_option maxRecDepth 100000 in
theorem hc_RiscHart_carryOutShort (l : Launch) {D : va_G} {cR cW cP : ClassId} {h0 h1 h2 h3 h4 : Nat} {A : Nat → Prop} {st : HS} {G : Heap} (hP : va_P D hcl (hs_W cR cW cP h0 h1 h2 h3 h4 st) G) (hD : ∀ z, va_D A (hs_W cR cW cP h0 h1 h2 h3 h4 z)) (a1 : Int32)  : Met l yHart_carryOutShort (wq yHart_carryOutShort cHart_carryOutShort 2 (some .int)) ({ frames := 4, cells := 0, slots := 0, locals := 92 }) (mk_PK D hcl [(cR, .int), (cW, .int), (cP, .int)] G [.ref h0, .int a1]) (mk_Wi (fun u t => va_P D hcl (hs_W cR cW cP h0 h1 h2 h3 h4 u) t) A (hf_RiscHart_carryOutShort st a1)) 0 0 A := by
  refine Met.ofW (cc := cHart_carryOutShort) (maxL := 2) (ret := (some .int)) (by decide) rfl ?_
  intro p e s m args below meth c s₁ B hml hv
  obtain ⟨rfl, hG, hK⟩ := hv
  subst hG
  have hx := B.exec
  have hb := B.bytes
  have hr := B.returns
  have hts := atoms_spec (ws := (wq yHart_carryOutShort cHart_carryOutShort 2 (some .int))) B.pre
  have hown : s.vm.findClass RHart = some m.cls := findClass_of_methodNamed B.named
  have hlocks := B.notSynchronized
  have hg : ∀ w ∈ lw_g, w.before _ s = true := fun w h => hts w (List.mem_cons_of_mem _ h)
  have hS : va_S A s.heap s.heap [] := va_S.rf
  have hl := lv_entry ([.ref h0, .int a1]) (n := 2) (Nat.le_of_ble_eq_true rfl)
  rw [lg_entry_eq]
  generalize (lg_sl ([.ref h0, .int a1]) ++ List.replicate (2 - (lg_sl ([.ref h0, .int a1])).length) Slot.unset).toArray = ls at hl ⊢
  have hl : lv_has ls 2 [(0, .ref h0), (1, .int a1)] := hl
  refine lv_iload_n hx hb dHart_carryOutShort_0 rfl (lv_at hl 1 rfl) ?_
  refine lv_iconst (v := 3) hx hb dHart_carryOutShort_1 (by decide) ?_
  refine lv_iand hx hb dHart_carryOutShort_2 ?_
  by_cases c_1 : (a1 &&& 3) = 0
  · refine lv_lookup (off := 25) (tgt := 28) hx hb dHart_carryOutShort_3 (by decide) (by rw [c_1]; decide) (by decide) ?_
    refine lv_aload_n hx hb dHart_carryOutShort_28 rfl (lv_at hl 0 rfl) ?_
    refine lv_iload_n hx hb dHart_carryOutShort_29 rfl (lv_at hl 1 rfl) ?_
    refine mk_callW (va_runV (As := [.int a1]) (rest := []) ⟨hx, hb, hml, hown, hts⟩ (hc_RiscHart_shortOfQ0 l hP hD a1) (cwV 1 hts (mk_gV tw_319 tw_321 tw_22 tw_46 tw_322) rfl rfl rfl hdHart_shortOfQ0 ⟨Nat.le_of_ble_eq_true rfl, Nat.le_of_ble_eq_true rfl⟩) (mk_preVK hK (va_recv hK hP (ci := 0) (q0 := 0) rfl rfl)) rfl rfl hl.1 rfl (lv_room (Nat.le_of_ble_eq_true rfl)) dHart_carryOutShort_30 ⟨Nat.zero_le _, Nat.zero_le _⟩) hS (fun H locs hP hS => ?_)
    exact W.iret hx hb hr (fun t ht hW => ⟨⟨_, (hf_RiscHart_shortOfQ0 st a1).2, rfl, (by unfold hf_RiscHart_carryOutShort; rw [if_pos c_1]), by show va_P D hcl _ t.heap; rw [ht]; exact hP⟩, hS.F ht⟩) hS.2.2 dHart_carryOutShort_33
  by_cases c_2 : (a1 &&& 3) = 1
  · refine lv_lookup (off := 31) (tgt := 34) hx hb dHart_carryOutShort_3 (by decide) (by rw [c_2]; decide) (by decide) ?_
    refine lv_aload_n hx hb dHart_carryOutShort_34 rfl (lv_at hl 0 rfl) ?_
    refine lv_iload_n hx hb dHart_carryOutShort_35 rfl (lv_at hl 1 rfl) ?_
    refine mk_callW (va_runV (As := [.int a1]) (rest := []) ⟨hx, hb, hml, hown, hts⟩ (hc_RiscHart_shortOfQ1 l hP hD a1) (cwV 1 hts (mk_gV tw_339 tw_341 tw_23 tw_46 tw_342) rfl rfl rfl hdHart_shortOfQ1 ⟨Nat.le_of_ble_eq_true rfl, Nat.le_of_ble_eq_true rfl⟩) (mk_preVK hK (va_recv hK hP (ci := 0) (q0 := 0) rfl rfl)) rfl rfl hl.1 rfl (lv_room (Nat.le_of_ble_eq_true rfl)) dHart_carryOutShort_36 ⟨Nat.zero_le _, Nat.zero_le _⟩) hS (fun H locs hP hS => ?_)
    exact W.iret hx hb hr (fun t ht hW => ⟨⟨_, (hf_RiscHart_shortOfQ1 st a1).2, rfl, (by unfold hf_RiscHart_carryOutShort; rw [if_neg c_1, if_pos c_2]), by show va_P D hcl _ t.heap; rw [ht]; exact hP⟩, hS.F ht⟩) hS.2.2 dHart_carryOutShort_39
  refine lv_lookup (off := 37) (tgt := 40) hx hb dHart_carryOutShort_3 (by decide) ((lv_osw (a := 0) c_1 rfl).trans ((lv_osw (a := 1) c_2 rfl).trans (rfl))) (by decide) ?_
  refine lv_aload_n hx hb dHart_carryOutShort_40 rfl (lv_at hl 0 rfl) ?_
  refine lv_iload_n hx hb dHart_carryOutShort_41 rfl (lv_at hl 1 rfl) ?_
  refine mk_callW (va_runV (As := [.int a1]) (rest := []) ⟨hx, hb, hml, hown, hts⟩ (hc_RiscHart_shortOfQ2 l hP hD a1) (cwV 1 hts (mk_gV tw_381 tw_383 tw_27 tw_46 tw_384) rfl rfl rfl hdHart_shortOfQ2 ⟨Nat.le_of_ble_eq_true rfl, Nat.le_of_ble_eq_true rfl⟩) (mk_preVK hK (va_recv hK hP (ci := 0) (q0 := 0) rfl rfl)) rfl rfl hl.1 rfl (lv_room (Nat.le_of_ble_eq_true rfl)) dHart_carryOutShort_42 ⟨Nat.zero_le _, Nat.zero_le _⟩) hS (fun H locs hP hS => ?_)
  exact W.iret hx hb hr (fun t ht hW => ⟨⟨_, (hf_RiscHart_shortOfQ2 st a1).2, rfl, (by unfold hf_RiscHart_carryOutShort; rw [if_neg c_1, if_neg c_2]), by show va_P D hcl _ t.heap; rw [ht]; exact hP⟩, hS.F ht⟩) hS.2.2 dHart_carryOutShort_45
set_option maxHeartbeats 4000000 in
set_option maxRecDepth 100000 in
theorem hc_RiscHart_carryOutNext (l : Launch) {D : va_G} {cR cW cP : ClassId} {h0 h1 h2 h3 h4 : Nat} {A : Nat → Prop} {st : HS} {G : Heap} (hP : va_P D hcl (hs_W cR cW cP h0 h1 h2 h3 h4 st) G) (hD : ∀ z, va_D A (hs_W cR cW cP h0 h1 h2 h3 h4 z))   : Met l yHart_carryOutNext (wq yHart_carryOutNext cHart_carryOutNext 4 (some .int)) ({ frames := 5, cells := 0, slots := 0, locals := 117 }) (mk_PK D hcl [(cR, .int), (cW, .int), (cP, .int)] G [.ref h0]) (mk_Wi (fun u t => va_P D hcl (hs_W cR cW cP h0 h1 h2 h3 h4 u) t) A (hf_RiscHart_carryOutNext st)) 0 0 A := by
  refine Met.ofW (cc := cHart_carryOutNext) (maxL := 4) (ret := (some .int)) (by decide) rfl ?_
  intro p e s m args below meth c s₁ B hml hv
  obtain ⟨rfl, hG, hK⟩ := hv
  subst hG
  have hx := B.exec
  have hb := B.bytes
  have hr := B.returns
  have hts := atoms_spec (ws := (wq yHart_carryOutNext cHart_carryOutNext 4 (some .int))) B.pre
  have hown : s.vm.findClass RHart = some m.cls := findClass_of_methodNamed B.named
  have hlocks := B.notSynchronized
  have hg : ∀ w ∈ lw_g, w.before _ s = true := fun w h => hts w (List.mem_cons_of_mem _ h)
  have hS : va_S A s.heap s.heap [] := va_S.rf
  have hl := lv_entry ([.ref h0]) (n := 4) (Nat.le_of_ble_eq_true rfl)
  rw [lg_entry_eq]
  generalize (lg_sl ([.ref h0]) ++ List.replicate (4 - (lg_sl ([.ref h0])).length) Slot.unset).toArray = ls at hl ⊢
  have hl : lv_has ls 4 [(0, .ref h0)] := hl
  refine lv_aload_n hx hb dHart_carryOutNext_0 rfl (lv_at hl 0 rfl) ?_
  refine va_get (D := D) (ci := 0) (v := .ref h1) (C := RHart) (T := THart) (N := 8) hx hb hg inHart hown hK hP 0 rfl rfl 0 (by decide) (hg _ tw_83) (fun _ h9 => h9) rfl dHart_carryOutNext_1 ?_
  refine lv_aload_n hx hb dHart_carryOutNext_4 rfl (lv_at hl 0 rfl) ?_
  refine va_get (D := D) (ci := 0) (v := .int (hs_place st)) (C := RHart) (T := THart) (N := 8) hx hb hg inHart hown hK hP 0 rfl rfl 2 (by decide) (hg _ tw_85) (fun _ h9 => h9) rfl dHart_carryOutNext_5 ?_
  refine mk_callR (va_runV (As := [.int (hs_place st)]) (rest := []) ⟨hx, hb, hml, hown, hts⟩ (hc_Memory_mayCarryOut l hP (hs_place st)) (cwV 1 hts (mk_gV tw_124 tw_125 tw_126 tw_47 tw_127) rfl rfl rfl hdMem_mayCarryOut ⟨Nat.le_of_ble_eq_true rfl, Nat.le_of_ble_eq_true rfl⟩) (mk_preVK hK (va_recv hK hP (ci := 1) (q0 := 1) rfl rfl)) rfl rfl hl.1 rfl (lv_room (Nat.le_of_ble_eq_true rfl)) dHart_carryOutNext_8 ⟨Nat.zero_le _, Nat.zero_le _⟩) ?_
  refine lv_if_ne (tgt := 24) hx hb dHart_carryOutNext_11 (by decide) (fun c_1 => ?_) (fun c_1 => ?_)
  · refine lv_aload_n hx hb dHart_carryOutNext_24 rfl (lv_at hl 0 rfl) ?_
    refine va_get (D := D) (ci := 0) (v := .ref h1) (C := RHart) (T := THart) (N := 8) hx hb hg inHart hown hK hP 0 rfl rfl 0 (by decide) (hg _ tw_83) (fun _ h9 => h9) rfl dHart_carryOutNext_25 ?_
    refine lv_iconst (v := 5) hx hb dHart_carryOutNext_28 (by decide) ?_
    refine lv_aload_n hx hb dHart_carryOutNext_29 rfl (lv_at hl 0 rfl) ?_
    refine va_get (D := D) (ci := 0) (v := .int (hs_place st)) (C := RHart) (T := THart) (N := 8) hx hb hg inHart hown hK hP 0 rfl rfl 2 (by decide) (hg _ tw_85) (fun _ h9 => h9) rfl dHart_carryOutNext_30 ?_
    refine mk_callR (va_runV (As := [.int 5, .int (hs_place st)]) (rest := []) ⟨hx, hb, hml, hown, hts⟩ (hc_Memory_read l hP 5 (hs_place st)) (cwV 2 hts (mk_gV tw_143 tw_144 tw_145 tw_47 tw_146) rfl rfl rfl hdMem_read ⟨Nat.le_of_ble_eq_true rfl, Nat.le_of_ble_eq_true rfl⟩) (mk_preVK hK (va_recv hK hP (ci := 1) (q0 := 1) rfl rfl)) rfl rfl hl.1 rfl (lv_room (Nat.le_of_ble_eq_true rfl)) dHart_carryOutNext_33 ⟨Nat.zero_le _, Nat.zero_le _⟩) ?_
    refine lv_istore_n (lv' := [(1, .int (hf_Memory_read st 5 (hs_place st))), (0, .ref h0)]) hx hb dHart_carryOutNext_36 rfl hl (by decide) rfl (fun ls hl => ?_)
    refine lv_iload_n hx hb dHart_carryOutNext_37 rfl (lv_at hl 0 rfl) ?_
    refine lv_iconst (v := 3) hx hb dHart_carryOutNext_38 (by decide) ?_
    refine lv_iand hx hb dHart_carryOutNext_39 ?_
    refine lv_iconst (v := 3) hx hb dHart_carryOutNext_40 (by decide) ?_
    refine lv_icmp_ne (tgt := 48) hx hb dHart_carryOutNext_41 (by decide) (fun c_2 => ?_) (fun c_2 => ?_)
    · refine lv_iconst (v := 0) hx hb dHart_carryOutNext_48 (by decide) ?_
      refine lv_istore_n (lv' := [(2, .int 0), (1, .int (hf_Memory_read st 5 (hs_place st))), (0, .ref h0)]) hx hb dHart_carryOutNext_49 rfl hl (by decide) rfl (fun ls hl => ?_)
      refine lv_iload_n hx hb dHart_carryOutNext_50 rfl (lv_at hl 0 rfl) ?_
      refine lv_if_eq (tgt := 80) hx hb dHart_carryOutNext_51 (by decide) (fun c_3 => ?_) (fun c_3 => ?_)
      · refine lv_aload_n hx hb dHart_carryOutNext_80 rfl (lv_at hl 2 rfl) ?_
        refine lv_aload_n hx hb dHart_carryOutNext_81 rfl (lv_at hl 2 rfl) ?_
        refine va_get (D := D) (ci := 0) (v := .int (hs_place st)) (C := RHart) (T := THart) (N := 8) hx hb hg inHart hown hK hP 0 rfl rfl 2 (by decide) (hg _ tw_85) (fun _ h9 => h9) rfl dHart_carryOutNext_82 ?_
        refine lv_iload_n hx hb dHart_carryOutNext_85 rfl (lv_at hl 0 rfl) ?_
        refine lv_if_eq (tgt := 93) hx hb dHart_carryOutNext_86 (by decide) (fun c_4 => ?_) (fun c_4 => ?_)
        · refine lv_iconst (v := 2) hx hb dHart_carryOutNext_93 (by decide) ?_
          refine lv_iadd hx hb dHart_carryOutNext_94 ?_
          refine va_put (D := D) (ci := 0) (v := .int ((hs_place st) + 2)) (ty := .int) (C := RHart) (T := THart) (N := 8) hx hb hg inHart tyHart tyHart_ok nmHart hown hK hP (hD _) hS 0 rfl rfl 3 (by decide) (hg _ tw_86) (fun _ h9 => h9) rfl (by decide +kernel) rfl rfl (Nat.le_of_ble_eq_true rfl) dHart_carryOutNext_95 (fun H locs hP _ hS => ?_)
          have hP : va_P D hcl (hs_W cR cW cP h0 h1 h2 h3 h4 (hs_set_behind st ((hs_place st) + 2))) H := hP
          refine lv_iload_n hx hb dHart_carryOutNext_98 rfl (lv_at hl 0 rfl) ?_
          refine lv_if_eq (tgt := 114) hx hb dHart_carryOutNext_99 (by decide) (fun c_5 => ?_) (fun c_5 => ?_)
          · refine lv_aload_n hx hb dHart_carryOutNext_114 rfl (lv_at hl 2 rfl) ?_
            refine lv_iload_n hx hb dHart_carryOutNext_115 rfl (lv_at hl 1 rfl) ?_
            refine mk_callW (va_runV (As := [.int (hf_Memory_read st 5 (hs_place st))]) (rest := []) ⟨hx, hb, hml, hown, hts⟩ (hc_RiscHart_carryOutShort l hP hD (hf_Memory_read st 5 (hs_place st))) (cwV 1 hts (mk_gV tw_315 tw_317 tw_21 tw_46 tw_318) rfl rfl rfl hdHart_carryOutShort ⟨Nat.le_of_ble_eq_true rfl, Nat.le_of_ble_eq_true rfl⟩) (mk_preVK hK (va_recv hK hP (ci := 0) (q0 := 0) rfl rfl)) rfl rfl hl.1 rfl (lv_room (Nat.le_of_ble_eq_true rfl)) dHart_carryOutNext_116 ⟨Nat.zero_le _, Nat.zero_le _⟩) hS (fun H locs hP hS => ?_)
            refine lv_istore_n (lv' := [(3, .int ((hf_RiscHart_carryOutShort (hs_set_behind st ((hs_place st) + 2)) (hf_Memory_read st 5 (hs_place st))).1)), (2, .int 0), (1, .int (hf_Memory_read st 5 (hs_place st))), (0, .ref h0)]) hx hb dHart_carryOutNext_119 rfl hl (by decide) rfl (fun ls hl => ?_)
            refine lv_iload_n hx hb dHart_carryOutNext_120 rfl (lv_at hl 0 rfl) ?_
            refine lv_if_ne (tgt := 142) hx hb dHart_carryOutNext_121 (by decide) (fun c_6 => ?_) (fun c_6 => ?_)
            · refine lv_iload_n hx hb dHart_carryOutNext_142 rfl (lv_at hl 0 rfl) ?_
              exact W.iret hx hb hr (fun t ht hW => ⟨⟨_, (hf_RiscHart_carryOutShort (hs_set_behind st ((hs_place st) + 2)) (hf_Memory_read st 5 (hs_place st))).2, rfl, (by unfold hf_RiscHart_carryOutNext; rw [if_neg c_1, if_neg c_2, if_neg c_6]), by show va_P D hcl _ t.heap; rw [ht]; exact hP⟩, hS.F ht⟩) hS.2.2 dHart_carryOutNext_143
            · refine lv_aload_n hx hb dHart_carryOutNext_124 rfl (lv_at hl 3 rfl) ?_
              refine lv_dup hx hb dHart_carryOutNext_125 rfl ?_
              refine va_get (D := D) (ci := 0) (v := .long (hs_retired ((hf_RiscHart_carryOutShort (hs_set_behind st ((hs_place st) + 2)) (hf_Memory_read st 5 (hs_place st))).2))) (C := RHart) (T := THart) (N := 8) hx hb hg inHart hown hK hP 0 rfl rfl 6 (by decide) (hg _ tw_89) (fun _ h9 => h9) rfl dHart_carryOutNext_126 ?_
              refine lv_lconst (v := 1) hx hb dHart_carryOutNext_129 (by decide) ?_
              refine lv_ladd hx hb dHart_carryOutNext_130 ?_
              refine va_put (D := D) (ci := 0) (v := .long ((hs_retired ((hf_RiscHart_carryOutShort (hs_set_behind st ((hs_place st) + 2)) (hf_Memory_read st 5 (hs_place st))).2)) + 1)) (ty := .long) (C := RHart) (T := THart) (N := 8) hx hb hg inHart tyHart tyHart_ok nmHart hown hK hP (hD _) hS 0 rfl rfl 6 (by decide) (hg _ tw_89) (fun _ h9 => h9) rfl (by decide +kernel) rfl rfl (Nat.le_of_ble_eq_true rfl) dHart_carryOutNext_131 (fun H locs hP _ hS => ?_)
              have hP : va_P D hcl (hs_W cR cW cP h0 h1 h2 h3 h4 (hs_set_retired ((hf_RiscHart_carryOutShort (hs_set_behind st ((hs_place st) + 2)) (hf_Memory_read st 5 (hs_place st))).2) ((hs_retired ((hf_RiscHart_carryOutShort (hs_set_behind st ((hs_place st) + 2)) (hf_Memory_read st 5 (hs_place st))).2)) + 1))) H := hP
              refine lv_aload_n hx hb dHart_carryOutNext_134 rfl (lv_at hl 3 rfl) ?_
              refine lv_aload_n hx hb dHart_carryOutNext_135 rfl (lv_at hl 3 rfl) ?_
              refine va_get (D := D) (ci := 0) (v := .int (hs_behind (hs_set_retired ((hf_RiscHart_carryOutShort (hs_set_behind st ((hs_place st) + 2)) (hf_Memory_read st 5 (hs_place st))).2) ((hs_retired ((hf_RiscHart_carryOutShort (hs_set_behind st ((hs_place st) + 2)) (hf_Memory_read st 5 (hs_place st))).2)) + 1)))) (C := RHart) (T := THart) (N := 8) hx hb hg inHart hown hK hP 0 rfl rfl 3 (by decide) (hg _ tw_86) (fun _ h9 => h9) rfl dHart_carryOutNext_136 ?_
              refine va_put (D := D) (ci := 0) (v := .int (hs_behind (hs_set_retired ((hf_RiscHart_carryOutShort (hs_set_behind st ((hs_place st) + 2)) (hf_Memory_read st 5 (hs_place st))).2) ((hs_retired ((hf_RiscHart_carryOutShort (hs_set_behind st ((hs_place st) + 2)) (hf_Memory_read st 5 (hs_place st))).2)) + 1)))) (ty := .int) (C := RHart) (T := THart) (N := 8) hx hb hg inHart tyHart tyHart_ok nmHart hown hK hP (hD _) hS 0 rfl rfl 2 (by decide) (hg _ tw_85) (fun _ h9 => h9) rfl (by decide +kernel) rfl rfl (Nat.le_of_ble_eq_true rfl) dHart_carryOutNext_139 (fun H locs hP _ hS => ?_)
              have hP : va_P D hcl (hs_W cR cW cP h0 h1 h2 h3 h4 (hs_set_place (hs_set_retired ((hf_RiscHart_carryOutShort (hs_set_behind st ((hs_place st) + 2)) (hf_Memory_read st 5 (hs_place st))).2) ((hs_retired ((hf_RiscHart_carryOutShort (hs_set_behind st ((hs_place st) + 2)) (hf_Memory_read st 5 (hs_place st))).2)) + 1)) (hs_behind (hs_set_retired ((hf_RiscHart_carryOutShort (hs_set_behind st ((hs_place st) + 2)) (hf_Memory_read st 5 (hs_place st))).2) ((hs_retired ((hf_RiscHart_carryOutShort (hs_set_behind st ((hs_place st) + 2)) (hf_Memory_read st 5 (hs_place st))).2)) + 1))))) H := hP
              refine lv_iload_n hx hb dHart_carryOutNext_142 rfl (lv_at hl 0 rfl) ?_
              exact W.iret hx hb hr (fun t ht hW => ⟨⟨_, (hs_set_place (hs_set_retired ((hf_RiscHart_carryOutShort (hs_set_behind st ((hs_place st) + 2)) (hf_Memory_read st 5 (hs_place st))).2) ((hs_retired ((hf_RiscHart_carryOutShort (hs_set_behind st ((hs_place st) + 2)) (hf_Memory_read st 5 (hs_place st))).2)) + 1)) (hs_behind (hs_set_retired ((hf_RiscHart_carryOutShort (hs_set_behind st ((hs_place st) + 2)) (hf_Memory_read st 5 (hs_place st))).2) ((hs_retired ((hf_RiscHart_carryOutShort (hs_set_behind st ((hs_place st) + 2)) (hf_Memory_read st 5 (hs_place st))).2)) + 1)))), rfl, (by unfold hf_RiscHart_carryOutNext; rw [if_neg c_1, if_neg c_2, if_pos c_6]), by show va_P D hcl _ t.heap; rw [ht]; exact hP⟩, hS.F ht⟩) hS.2.2 dHart_carryOutNext_143
          · exact absurd c_5 (by decide)
        · exact absurd c_4 (by decide)
      · exact absurd c_3 (by decide)
    · refine lv_iconst (v := 1) hx hb dHart_carryOutNext_44 (by decide) ?_
      refine lv_goto (tgt := 49) hx hb dHart_carryOutNext_45 (by decide) ?_
      refine lv_istore_n (lv' := [(2, .int 1), (1, .int (hf_Memory_read st 5 (hs_place st))), (0, .ref h0)]) hx hb dHart_carryOutNext_49 rfl hl (by decide) rfl (fun ls hl => ?_)
      refine lv_iload_n hx hb dHart_carryOutNext_50 rfl (lv_at hl 0 rfl) ?_
      refine lv_if_eq (tgt := 80) hx hb dHart_carryOutNext_51 (by decide) (fun c_7 => ?_) (fun c_7 => ?_)
      · exact absurd c_7 (by decide)
      · refine lv_aload_n hx hb dHart_carryOutNext_54 rfl (lv_at hl 2 rfl) ?_
        refine va_get (D := D) (ci := 0) (v := .ref h1) (C := RHart) (T := THart) (N := 8) hx hb hg inHart hown hK hP 0 rfl rfl 0 (by decide) (hg _ tw_83) (fun _ h9 => h9) rfl dHart_carryOutNext_55 ?_
        refine lv_aload_n hx hb dHart_carryOutNext_58 rfl (lv_at hl 2 rfl) ?_
        refine va_get (D := D) (ci := 0) (v := .int (hs_place st)) (C := RHart) (T := THart) (N := 8) hx hb hg inHart hown hK hP 0 rfl rfl 2 (by decide) (hg _ tw_85) (fun _ h9 => h9) rfl dHart_carryOutNext_59 ?_
        refine lv_iconst (v := 2) hx hb dHart_carryOutNext_62 (by decide) ?_
        refine lv_iadd hx hb dHart_carryOutNext_63 ?_
        refine mk_callR (va_runV (As := [.int ((hs_place st) + 2)]) (rest := []) ⟨hx, hb, hml, hown, hts⟩ (hc_Memory_mayCarryOut l hP ((hs_place st) + 2)) (cwV 1 hts (mk_gV tw_124 tw_125 tw_126 tw_47 tw_127) rfl rfl rfl hdMem_mayCarryOut ⟨Nat.le_of_ble_eq_true rfl, Nat.le_of_ble_eq_true rfl⟩) (mk_preVK hK (va_recv hK hP (ci := 1) (q0 := 1) rfl rfl)) rfl rfl hl.1 rfl (lv_room (Nat.le_of_ble_eq_true rfl)) dHart_carryOutNext_64 ⟨Nat.zero_le _, Nat.zero_le _⟩) ?_
        refine lv_if_ne (tgt := 80) hx hb dHart_carryOutNext_67 (by decide) (fun c_8 => ?_) (fun c_8 => ?_)
        · refine lv_aload_n hx hb dHart_carryOutNext_80 rfl (lv_at hl 2 rfl) ?_
          refine lv_aload_n hx hb dHart_carryOutNext_81 rfl (lv_at hl 2 rfl) ?_
          refine va_get (D := D) (ci := 0) (v := .int (hs_place st)) (C := RHart) (T := THart) (N := 8) hx hb hg inHart hown hK hP 0 rfl rfl 2 (by decide) (hg _ tw_85) (fun _ h9 => h9) rfl dHart_carryOutNext_82 ?_
          refine lv_iload_n hx hb dHart_carryOutNext_85 rfl (lv_at hl 0 rfl) ?_
          refine lv_if_eq (tgt := 93) hx hb dHart_carryOutNext_86 (by decide) (fun c_9 => ?_) (fun c_9 => ?_)
          · exact absurd c_9 (by decide)
          · refine lv_iconst (v := 4) hx hb dHart_carryOutNext_89 (by decide) ?_
            refine lv_goto (tgt := 94) hx hb dHart_carryOutNext_90 (by decide) ?_
            refine lv_iadd hx hb dHart_carryOutNext_94 ?_
            refine va_put (D := D) (ci := 0) (v := .int ((hs_place st) + 4)) (ty := .int) (C := RHart) (T := THart) (N := 8) hx hb hg inHart tyHart tyHart_ok nmHart hown hK hP (hD _) hS 0 rfl rfl 3 (by decide) (hg _ tw_86) (fun _ h9 => h9) rfl (by decide +kernel) rfl rfl (Nat.le_of_ble_eq_true rfl) dHart_carryOutNext_95 (fun H locs hP _ hS => ?_)
            have hP : va_P D hcl (hs_W cR cW cP h0 h1 h2 h3 h4 (hs_set_behind st ((hs_place st) + 4))) H := hP
            refine lv_iload_n hx hb dHart_carryOutNext_98 rfl (lv_at hl 0 rfl) ?_
            refine lv_if_eq (tgt := 114) hx hb dHart_carryOutNext_99 (by decide) (fun c_10 => ?_) (fun c_10 => ?_)
            · exact absurd c_10 (by decide)
            · refine lv_aload_n hx hb dHart_carryOutNext_102 rfl (lv_at hl 2 rfl) ?_
              refine lv_aload_n hx hb dHart_carryOutNext_103 rfl (lv_at hl 2 rfl) ?_
              refine lv_iload_n hx hb dHart_carryOutNext_104 rfl (lv_at hl 1 rfl) ?_
              refine mk_callR (va_runV (As := [.int (hf_Memory_read st 5 (hs_place st))]) (rest := [.ref h0]) ⟨hx, hb, hml, hown, hts⟩ (hc_RiscHart_longFrom l hP (hf_Memory_read st 5 (hs_place st))) (cwV 1 hts (mk_gV tw_153 tw_155 tw_2 tw_46 tw_156) rfl rfl rfl hdHart_longFrom ⟨Nat.le_of_ble_eq_true rfl, Nat.le_of_ble_eq_true rfl⟩) (mk_preVK hK (va_recv hK hP (ci := 0) (q0 := 0) rfl rfl)) rfl rfl hl.1 rfl (lv_room (Nat.le_of_ble_eq_true rfl)) dHart_carryOutNext_105 ⟨Nat.zero_le _, Nat.zero_le _⟩) ?_
              refine mk_callW (va_runV (As := [.int (hf_RiscHart_longFrom (hs_set_behind st ((hs_place st) + 4)) (hf_Memory_read st 5 (hs_place st)))]) (rest := []) ⟨hx, hb, hml, hown, hts⟩ (hc_RiscHart_carryOutLong l hP hD (hf_RiscHart_longFrom (hs_set_behind st ((hs_place st) + 4)) (hf_Memory_read st 5 (hs_place st)))) (cwV 1 hts (mk_gV tw_157 tw_159 tw_3 tw_46 tw_160) rfl rfl rfl hdHart_carryOutLong ⟨Nat.le_of_ble_eq_true rfl, Nat.le_of_ble_eq_true rfl⟩) (mk_preVK hK (va_recv hK hP (ci := 0) (q0 := 0) rfl rfl)) rfl rfl hl.1 rfl (lv_room (Nat.le_of_ble_eq_true rfl)) dHart_carryOutNext_108 ⟨Nat.zero_le _, Nat.zero_le _⟩) hS (fun H locs hP hS => ?_)
              refine lv_goto (tgt := 119) hx hb dHart_carryOutNext_111 (by decide) ?_
              refine lv_istore_n (lv' := [(3, .int ((hf_RiscHart_carryOutLong (hs_set_behind st ((hs_place st) + 4)) (hf_RiscHart_longFrom (hs_set_behind st ((hs_place st) + 4)) (hf_Memory_read st 5 (hs_place st)))).1)), (2, .int 1), (1, .int (hf_Memory_read st 5 (hs_place st))), (0, .ref h0)]) hx hb dHart_carryOutNext_119 rfl hl (by decide) rfl (fun ls hl => ?_)
              refine lv_iload_n hx hb dHart_carryOutNext_120 rfl (lv_at hl 0 rfl) ?_
              refine lv_if_ne (tgt := 142) hx hb dHart_carryOutNext_121 (by decide) (fun c_11 => ?_) (fun c_11 => ?_)
              · refine lv_iload_n hx hb dHart_carryOutNext_142 rfl (lv_at hl 0 rfl) ?_
                exact W.iret hx hb hr (fun t ht hW => ⟨⟨_, (hf_RiscHart_carryOutLong (hs_set_behind st ((hs_place st) + 4)) (hf_RiscHart_longFrom (hs_set_behind st ((hs_place st) + 4)) (hf_Memory_read st 5 (hs_place st)))).2, rfl, (by unfold hf_RiscHart_carryOutNext; rw [if_neg c_1, if_pos c_2, if_neg c_8, if_neg c_11]), by show va_P D hcl _ t.heap; rw [ht]; exact hP⟩, hS.F ht⟩) hS.2.2 dHart_carryOutNext_143
              · refine lv_aload_n hx hb dHart_carryOutNext_124 rfl (lv_at hl 3 rfl) ?_
                refine lv_dup hx hb dHart_carryOutNext_125 rfl ?_
                refine va_get (D := D) (ci := 0) (v := .long (hs_retired ((hf_RiscHart_carryOutLong (hs_set_behind st ((hs_place st) + 4)) (hf_RiscHart_longFrom (hs_set_behind st ((hs_place st) + 4)) (hf_Memory_read st 5 (hs_place st)))).2))) (C := RHart) (T := THart) (N := 8) hx hb hg inHart hown hK hP 0 rfl rfl 6 (by decide) (hg _ tw_89) (fun _ h9 => h9) rfl dHart_carryOutNext_126 ?_
                refine lv_lconst (v := 1) hx hb dHart_carryOutNext_129 (by decide) ?_
                refine lv_ladd hx hb dHart_carryOutNext_130 ?_
                refine va_put (D := D) (ci := 0) (v := .long ((hs_retired ((hf_RiscHart_carryOutLong (hs_set_behind st ((hs_place st) + 4)) (hf_RiscHart_longFrom (hs_set_behind st ((hs_place st) + 4)) (hf_Memory_read st 5 (hs_place st)))).2)) + 1)) (ty := .long) (C := RHart) (T := THart) (N := 8) hx hb hg inHart tyHart tyHart_ok nmHart hown hK hP (hD _) hS 0 rfl rfl 6 (by decide) (hg _ tw_89) (fun _ h9 => h9) rfl (by decide +kernel) rfl rfl (Nat.le_of_ble_eq_true rfl) dHart_carryOutNext_131 (fun H locs hP _ hS => ?_)
                have hP : va_P D hcl (hs_W cR cW cP h0 h1 h2 h3 h4 (hs_set_retired ((hf_RiscHart_carryOutLong (hs_set_behind st ((hs_place st) + 4)) (hf_RiscHart_longFrom (hs_set_behind st ((hs_place st) + 4)) (hf_Memory_read st 5 (hs_place st)))).2) ((hs_retired ((hf_RiscHart_carryOutLong (hs_set_behind st ((hs_place st) + 4)) (hf_RiscHart_longFrom (hs_set_behind st ((hs_place st) + 4)) (hf_Memory_read st 5 (hs_place st)))).2)) + 1))) H := hP
                refine lv_aload_n hx hb dHart_carryOutNext_134 rfl (lv_at hl 3 rfl) ?_
                refine lv_aload_n hx hb dHart_carryOutNext_135 rfl (lv_at hl 3 rfl) ?_
                refine va_get (D := D) (ci := 0) (v := .int (hs_behind (hs_set_retired ((hf_RiscHart_carryOutLong (hs_set_behind st ((hs_place st) + 4)) (hf_RiscHart_longFrom (hs_set_behind st ((hs_place st) + 4)) (hf_Memory_read st 5 (hs_place st)))).2) ((hs_retired ((hf_RiscHart_carryOutLong (hs_set_behind st ((hs_place st) + 4)) (hf_RiscHart_longFrom (hs_set_behind st ((hs_place st) + 4)) (hf_Memory_read st 5 (hs_place st)))).2)) + 1)))) (C := RHart) (T := THart) (N := 8) hx hb hg inHart hown hK hP 0 rfl rfl 3 (by decide) (hg _ tw_86) (fun _ h9 => h9) rfl dHart_carryOutNext_136 ?_
                refine va_put (D := D) (ci := 0) (v := .int (hs_behind (hs_set_retired ((hf_RiscHart_carryOutLong (hs_set_behind st ((hs_place st) + 4)) (hf_RiscHart_longFrom (hs_set_behind st ((hs_place st) + 4)) (hf_Memory_read st 5 (hs_place st)))).2) ((hs_retired ((hf_RiscHart_carryOutLong (hs_set_behind st ((hs_place st) + 4)) (hf_RiscHart_longFrom (hs_set_behind st ((hs_place st) + 4)) (hf_Memory_read st 5 (hs_place st)))).2)) + 1)))) (ty := .int) (C := RHart) (T := THart) (N := 8) hx hb hg inHart tyHart tyHart_ok nmHart hown hK hP (hD _) hS 0 rfl rfl 2 (by decide) (hg _ tw_85) (fun _ h9 => h9) rfl (by decide +kernel) rfl rfl (Nat.le_of_ble_eq_true rfl) dHart_carryOutNext_139 (fun H locs hP _ hS => ?_)
                have hP : va_P D hcl (hs_W cR cW cP h0 h1 h2 h3 h4 (hs_set_place (hs_set_retired ((hf_RiscHart_carryOutLong (hs_set_behind st ((hs_place st) + 4)) (hf_RiscHart_longFrom (hs_set_behind st ((hs_place st) + 4)) (hf_Memory_read st 5 (hs_place st)))).2) ((hs_retired ((hf_RiscHart_carryOutLong (hs_set_behind st ((hs_place st) + 4)) (hf_RiscHart_longFrom (hs_set_behind st ((hs_place st) + 4)) (hf_Memory_read st 5 (hs_place st)))).2)) + 1)) (hs_behind (hs_set_retired ((hf_RiscHart_carryOutLong (hs_set_behind st ((hs_place st) + 4)) (hf_RiscHart_longFrom (hs_set_behind st ((hs_place st) + 4)) (hf_Memory_read st 5 (hs_place st)))).2) ((hs_retired ((hf_RiscHart_carryOutLong (hs_set_behind st ((hs_place st) + 4)) (hf_RiscHart_longFrom (hs_set_behind st ((hs_place st) + 4)) (hf_Memory_read st 5 (hs_place st)))).2)) + 1))))) H := hP
                refine lv_iload_n hx hb dHart_carryOutNext_142 rfl (lv_at hl 0 rfl) ?_
                exact W.iret hx hb hr (fun t ht hW => ⟨⟨_, (hs_set_place (hs_set_retired ((hf_RiscHart_carryOutLong (hs_set_behind st ((hs_place st) + 4)) (hf_RiscHart_longFrom (hs_set_behind st ((hs_place st) + 4)) (hf_Memory_read st 5 (hs_place st)))).2) ((hs_retired ((hf_RiscHart_carryOutLong (hs_set_behind st ((hs_place st) + 4)) (hf_RiscHart_longFrom (hs_set_behind st ((hs_place st) + 4)) (hf_Memory_read st 5 (hs_place st)))).2)) + 1)) (hs_behind (hs_set_retired ((hf_RiscHart_carryOutLong (hs_set_behind st ((hs_place st) + 4)) (hf_RiscHart_longFrom (hs_set_behind st ((hs_place st) + 4)) (hf_Memory_read st 5 (hs_place st)))).2) ((hs_retired ((hf_RiscHart_carryOutLong (hs_set_behind st ((hs_place st) + 4)) (hf_RiscHart_longFrom (hs_set_behind st ((hs_place st) + 4)) (hf_Memory_read st 5 (hs_place st)))).2)) + 1)))), rfl, (by unfold hf_RiscHart_carryOutNext; rw [if_neg c_1, if_pos c_2, if_neg c_8, if_pos c_11]), by show va_P D hcl _ t.heap; rw [ht]; exact hP⟩, hS.F ht⟩) hS.2.2 dHart_carryOutNext_143
        · refine lv_aload_n hx hb dHart_carryOutNext_70 rfl (lv_at hl 2 rfl) ?_
          refine lv_iconst (v := 1) hx hb dHart_carryOutNext_71 (by decide) ?_
          refine lv_aload_n hx hb dHart_carryOutNext_72 rfl (lv_at hl 2 rfl) ?_
          refine va_get (D := D) (ci := 0) (v := .int (hs_place st)) (C := RHart) (T := THart) (N := 8) hx hb hg inHart hown hK hP 0 rfl rfl 2 (by decide) (hg _ tw_85) (fun _ h9 => h9) rfl dHart_carryOutNext_73 ?_
          refine mk_callW (va_runV (As := [.int 1, .int (hs_place st)]) (rest := []) ⟨hx, hb, hml, hown, hts⟩ (hc_RiscHart_trap l hP hD 1 (hs_place st)) (cwV 2 hts (mk_gV tw_139 tw_141 tw_1 tw_46 tw_142) rfl rfl rfl hdHart_trap ⟨Nat.le_of_ble_eq_true rfl, Nat.le_of_ble_eq_true rfl⟩) (mk_preVK hK (va_recv hK hP (ci := 0) (q0 := 0) rfl rfl)) rfl rfl hl.1 rfl (lv_room (Nat.le_of_ble_eq_true rfl)) dHart_carryOutNext_76 ⟨Nat.zero_le _, Nat.zero_le _⟩) hS (fun H locs hP hS => ?_)
          exact W.iret hx hb hr (fun t ht hW => ⟨⟨_, (hf_RiscHart_trap st 1 (hs_place st)).2, rfl, (by unfold hf_RiscHart_carryOutNext; rw [if_neg c_1, if_pos c_2, if_pos c_8]), by show va_P D hcl _ t.heap; rw [ht]; exact hP⟩, hS.F ht⟩) hS.2.2 dHart_carryOutNext_79
  · refine lv_aload_n hx hb dHart_carryOutNext_14 rfl (lv_at hl 0 rfl) ?_
    refine lv_iconst (v := 1) hx hb dHart_carryOutNext_15 (by decide) ?_
    refine lv_aload_n hx hb dHart_carryOutNext_16 rfl (lv_at hl 0 rfl) ?_
    refine va_get (D := D) (ci := 0) (v := .int (hs_place st)) (C := RHart) (T := THart) (N := 8) hx hb hg inHart hown hK hP 0 rfl rfl 2 (by decide) (hg _ tw_85) (fun _ h9 => h9) rfl dHart_carryOutNext_17 ?_
    refine mk_callW (va_runV (As := [.int 1, .int (hs_place st)]) (rest := []) ⟨hx, hb, hml, hown, hts⟩ (hc_RiscHart_trap l hP hD 1 (hs_place st)) (cwV 2 hts (mk_gV tw_139 tw_141 tw_1 tw_46 tw_142) rfl rfl rfl hdHart_trap ⟨Nat.le_of_ble_eq_true rfl, Nat.le_of_ble_eq_true rfl⟩) (mk_preVK hK (va_recv hK hP (ci := 0) (q0 := 0) rfl rfl)) rfl rfl hl.1 rfl (lv_room (Nat.le_of_ble_eq_true rfl)) dHart_carryOutNext_20 ⟨Nat.zero_le _, Nat.zero_le _⟩) hS (fun H locs hP hS => ?_)
    exact W.iret hx hb hr (fun t ht hW => ⟨⟨_, (hf_RiscHart_trap st 1 (hs_place st)).2, rfl, (by unfold hf_RiscHart_carryOutNext; rw [if_pos c_1]), by show va_P D hcl _ t.heap; rw [ht]; exact hP⟩, hS.F ht⟩) hS.2.2 dHart_carryOutNext_23
set_option maxHeartbeats 4000000 in
set_option maxRecDepth 100000 in
theorem hc_RiscHart_step (l : Launch) {D : va_G} {cR cW cP : ClassId} {h0 h1 h2 h3 h4 : Nat} {A : Nat → Prop} {st : HS} {G : Heap} (hP : va_P D hcl (hs_W cR cW cP h0 h1 h2 h3 h4 st) G) (hD : ∀ z, va_D A (hs_W cR cW cP h0 h1 h2 h3 h4 z))   : Met l yHart_step (wq yHart_step cHart_step 1 (some .int)) ({ frames := 6, cells := 0, slots := 0, locals := 140 }) (mk_PK D hcl [(cR, .int), (cW, .int), (cP, .int)] G [.ref h0]) (mk_Wi (fun u t => va_P D hcl (hs_W cR cW cP h0 h1 h2 h3 h4 u) t) A (hf_RiscHart_step st)) 0 0 A := by
  refine Met.ofW (cc := cHart_step) (maxL := 1) (ret := (some .int)) (by decide) rfl ?_
  intro p e s m args below meth c s₁ B hml hv
  obtain ⟨rfl, hG, hK⟩ := hv
  subst hG
  have hx := B.exec
  have hb := B.bytes
  have hr := B.returns
  have hts := atoms_spec (ws := (wq yHart_step cHart_step 1 (some .int))) B.pre
  have hown : s.vm.findClass RHart = some m.cls := findClass_of_methodNamed B.named
  have hlocks := B.notSynchronized
  have hg : ∀ w ∈ lw_g, w.before _ s = true := fun w h => hts w (List.mem_cons_of_mem _ h)
  have hS : va_S A s.heap s.heap [] := va_S.rf
  have hl := lv_entry ([.ref h0]) (n := 1) (Nat.le_of_ble_eq_true rfl)
  rw [lg_entry_eq]
  generalize (lg_sl ([.ref h0]) ++ List.replicate (1 - (lg_sl ([.ref h0])).length) Slot.unset).toArray = ls at hl ⊢
  have hl : lv_has ls 1 [(0, .ref h0)] := hl
  refine lv_aload_n hx hb dHart_step_0 rfl (lv_at hl 0 rfl) ?_
  refine mk_callW (va_runV (As := []) (rest := []) ⟨hx, hb, hml, hown, hts⟩ (hc_RiscHart_carryOutNext l hP hD) (cwV 0 hts (mk_gV tw_120 tw_122 tw_0 tw_46 tw_123) rfl rfl rfl hdHart_carryOutNext ⟨Nat.le_of_ble_eq_true rfl, Nat.le_of_ble_eq_true rfl⟩) (mk_preVK hK (va_recv hK hP (ci := 0) (q0 := 0) rfl rfl)) rfl rfl hl.1 rfl (lv_room (Nat.le_of_ble_eq_true rfl)) dHart_step_1 ⟨Nat.zero_le _, Nat.zero_le _⟩) hS (fun H locs hP hS => ?_)
  exact W.iret hx hb hr (fun t ht hW => ⟨⟨_, (hf_RiscHart_carryOutNext st).2, rfl, rfl, by show va_P D hcl _ t.heap; rw [ht]; exact hP⟩, hS.F ht⟩) hS.2.2 dHart_step_4
end
