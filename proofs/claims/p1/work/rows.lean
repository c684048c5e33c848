section
-- ===== PART A: goes FIRST, ahead of the names: the tables' words, and 'selects' of the private methods out of them =====
/-- a private method of a class that the tables say can be made, by its rows of tables_1 -/
def lw_okq (q : MethodName × Nat) : Prop := (q.1.cls ≠ "java/lang/invoke/MethodHandle" ∧ q.1.cls ≠ "java/lang/invoke/VarHandle") ∧ Cond.instantiable q.1.cls q.2 ∈ tables_1 ∧ Cond.privateMethod q.1 ∈ tables_1 ∧ Cond.instanceMethod q.1 ∈ tables_1
theorem lw_p0 : lw_okq (⟨"LongModeCore$Decoder", "fetchOpcode", "()I"⟩, 19) := ⟨⟨by decide +kernel, by decide +kernel⟩, List.mem_of_getElem? (i := 96) (by decide +kernel), List.mem_of_getElem? (i := 404) (by decide +kernel), List.mem_of_getElem? (i := 405) (by decide +kernel)⟩
theorem lw_p1 : lw_okq (⟨"LongModeCore$Decoder", "fetch", "()I"⟩, 19) := ⟨⟨by decide +kernel, by decide +kernel⟩, List.mem_of_getElem? (i := 96) (by decide +kernel), List.mem_of_getElem? (i := 408) (by decide +kernel), List.mem_of_getElem? (i := 409) (by decide +kernel)⟩
theorem lw_p2 : lw_okq (⟨"LongModeCore$Pages", "refused", "(JI)J"⟩, 2) := ⟨⟨by decide +kernel, by decide +kernel⟩, List.mem_of_getElem? (i := 83) (by decide +kernel), List.mem_of_getElem? (i := 423) (by decide +kernel), List.mem_of_getElem? (i := 424) (by decide +kernel)⟩
theorem lw_p3 : lw_okq (⟨"LongModeCore$Pages", "isForbidden", "(JJI)Z"⟩, 2) := ⟨⟨by decide +kernel, by decide +kernel⟩, List.mem_of_getElem? (i := 83) (by decide +kernel), List.mem_of_getElem? (i := 436) (by decide +kernel), List.mem_of_getElem? (i := 437) (by decide +kernel)⟩
theorem lw_p4 : lw_okq (⟨"LongModeCore$Decoder", "takePrefix", "(I)V"⟩, 19) := ⟨⟨by decide +kernel, by decide +kernel⟩, List.mem_of_getElem? (i := 96) (by decide +kernel), List.mem_of_getElem? (i := 448) (by decide +kernel), List.mem_of_getElem? (i := 449) (by decide +kernel)⟩
theorem lw_p5 : lw_okq (⟨"LongModeCore$Decoder", "isToldInSize", "(I)Z"⟩, 19) := ⟨⟨by decide +kernel, by decide +kernel⟩, List.mem_of_getElem? (i := 96) (by decide +kernel), List.mem_of_getElem? (i := 464) (by decide +kernel), List.mem_of_getElem? (i := 465) (by decide +kernel)⟩
theorem lw_p6 : lw_okq (⟨"LongModeCore$Decoder", "fetchModrm", "()I"⟩, 19) := ⟨⟨by decide +kernel, by decide +kernel⟩, List.mem_of_getElem? (i := 96) (by decide +kernel), List.mem_of_getElem? (i := 472) (by decide +kernel), List.mem_of_getElem? (i := 473) (by decide +kernel)⟩
theorem lw_p7 : lw_okq (⟨"LongModeCore$Decoder", "isToldWithModrm", "()Z"⟩, 19) := ⟨⟨by decide +kernel, by decide +kernel⟩, List.mem_of_getElem? (i := 96) (by decide +kernel), List.mem_of_getElem? (i := 476) (by decide +kernel), List.mem_of_getElem? (i := 477) (by decide +kernel)⟩
theorem lw_p8 : lw_okq (⟨"LongModeCore$Decoder", "fetchPlace", "()I"⟩, 19) := ⟨⟨by decide +kernel, by decide +kernel⟩, List.mem_of_getElem? (i := 96) (by decide +kernel), List.mem_of_getElem? (i := 480) (by decide +kernel), List.mem_of_getElem? (i := 481) (by decide +kernel)⟩
theorem lw_p9 : lw_okq (⟨"LongModeCore$Decoder", "extension", "(I)I"⟩, 19) := ⟨⟨by decide +kernel, by decide +kernel⟩, List.mem_of_getElem? (i := 96) (by decide +kernel), List.mem_of_getElem? (i := 484) (by decide +kernel), List.mem_of_getElem? (i := 485) (by decide +kernel)⟩
theorem lw_p10 : lw_okq (⟨"LongModeCore$Decoder", "fetchNumber", "(I)I"⟩, 19) := ⟨⟨by decide +kernel, by decide +kernel⟩, List.mem_of_getElem? (i := 96) (by decide +kernel), List.mem_of_getElem? (i := 488) (by decide +kernel), List.mem_of_getElem? (i := 489) (by decide +kernel)⟩
theorem lw_p11 : lw_okq (⟨"LongModeCore$Decoder", "bytesOfNumber", "(I)I"⟩, 19) := ⟨⟨by decide +kernel, by decide +kernel⟩, List.mem_of_getElem? (i := 96) (by decide +kernel), List.mem_of_getElem? (i := 495) (by decide +kernel), List.mem_of_getElem? (i := 496) (by decide +kernel)⟩
theorem lw_p12 : lw_okq (⟨"LongModeCore$Operands", "bytesOfE", "()I"⟩, 4) := ⟨⟨by decide +kernel, by decide +kernel⟩, List.mem_of_getElem? (i := 180) (by decide +kernel), List.mem_of_getElem? (i := 506) (by decide +kernel), List.mem_of_getElem? (i := 507) (by decide +kernel)⟩
theorem lw_p13 : lw_okq (⟨"LongModeCore$Operands", "bitDistance", "()J"⟩, 4) := ⟨⟨by decide +kernel, by decide +kernel⟩, List.mem_of_getElem? (i := 180) (by decide +kernel), List.mem_of_getElem? (i := 520) (by decide +kernel), List.mem_of_getElem? (i := 521) (by decide +kernel)⟩
theorem lw_p14 : lw_okq (⟨"LongModeCore$Operands", "isUpperByte", "(II)Z"⟩, 4) := ⟨⟨by decide +kernel, by decide +kernel⟩, List.mem_of_getElem? (i := 180) (by decide +kernel), List.mem_of_getElem? (i := 536) (by decide +kernel), List.mem_of_getElem? (i := 537) (by decide +kernel)⟩
theorem lw_p15 : lw_okq (⟨"LongModeCore$Operands", "isWritten", "()Z"⟩, 4) := ⟨⟨by decide +kernel, by decide +kernel⟩, List.mem_of_getElem? (i := 180) (by decide +kernel), List.mem_of_getElem? (i := 550) (by decide +kernel), List.mem_of_getElem? (i := 551) (by decide +kernel)⟩
def lw_privs_1 : List (MethodName × Nat) := [(⟨"LongModeCore$Decoder", "fetchOpcode", "()I"⟩, 19), (⟨"LongModeCore$Decoder", "fetch", "()I"⟩, 19), (⟨"LongModeCore$Pages", "refused", "(JI)J"⟩, 2), (⟨"LongModeCore$Pages", "isForbidden", "(JJI)Z"⟩, 2), (⟨"LongModeCore$Decoder", "takePrefix", "(I)V"⟩, 19), (⟨"LongModeCore$Decoder", "isToldInSize", "(I)Z"⟩, 19), (⟨"LongModeCore$Decoder", "fetchModrm", "()I"⟩, 19), (⟨"LongModeCore$Decoder", "isToldWithModrm", "()Z"⟩, 19), (⟨"LongModeCore$Decoder", "fetchPlace", "()I"⟩, 19), (⟨"LongModeCore$Decoder", "extension", "(I)I"⟩, 19), (⟨"LongModeCore$Decoder", "fetchNumber", "(I)I"⟩, 19), (⟨"LongModeCore$Decoder", "bytesOfNumber", "(I)I"⟩, 19), (⟨"LongModeCore$Operands", "bytesOfE", "()I"⟩, 4), (⟨"LongModeCore$Operands", "bitDistance", "()J"⟩, 4), (⟨"LongModeCore$Operands", "isUpperByte", "(II)Z"⟩, 4), (⟨"LongModeCore$Operands", "isWritten", "()Z"⟩, 4)]
theorem lw_r1 : ∀ q ∈ lw_privs_1, lw_okq q := List.forall_mem_cons.mpr ⟨lw_p0, List.forall_mem_cons.mpr ⟨lw_p1, List.forall_mem_cons.mpr ⟨lw_p2, List.forall_mem_cons.mpr ⟨lw_p3, List.forall_mem_cons.mpr ⟨lw_p4, List.forall_mem_cons.mpr ⟨lw_p5, List.forall_mem_cons.mpr ⟨lw_p6, List.forall_mem_cons.mpr ⟨lw_p7, List.forall_mem_cons.mpr ⟨lw_p8, List.forall_mem_cons.mpr ⟨lw_p9, List.forall_mem_cons.mpr ⟨lw_p10, List.forall_mem_cons.mpr ⟨lw_p11, List.forall_mem_cons.mpr ⟨lw_p12, List.forall_mem_cons.mpr ⟨lw_p13, List.forall_mem_cons.mpr ⟨lw_p14, List.forall_mem_cons.mpr ⟨lw_p15, fun _ h => absurd h List.not_mem_nil⟩⟩⟩⟩⟩⟩⟩⟩⟩⟩⟩⟩⟩⟩⟩⟩
theorem lw_p16 : lw_okq (⟨"LongModeCore$Operands", "isOnStack", "()Z"⟩, 4) := ⟨⟨by decide +kernel, by decide +kernel⟩, List.mem_of_getElem? (i := 180) (by decide +kernel), List.mem_of_getElem? (i := 562) (by decide +kernel), List.mem_of_getElem? (i := 563) (by decide +kernel)⟩
theorem lw_p17 : lw_okq (⟨"LongModeCore$Flow", "push", "(JI)I"⟩, 5) := ⟨⟨by decide +kernel, by decide +kernel⟩, List.mem_of_getElem? (i := 246) (by decide +kernel), List.mem_of_getElem? (i := 584) (by decide +kernel), List.mem_of_getElem? (i := 585) (by decide +kernel)⟩
theorem lw_p18 : lw_okq (⟨"LongModeCore$Flow", "popRegister", "(I)I"⟩, 5) := ⟨⟨by decide +kernel, by decide +kernel⟩, List.mem_of_getElem? (i := 246) (by decide +kernel), List.mem_of_getElem? (i := 594) (by decide +kernel), List.mem_of_getElem? (i := 595) (by decide +kernel)⟩
theorem lw_p19 : lw_okq (⟨"LongModeCore$Flow", "findTop", "(I)I"⟩, 5) := ⟨⟨by decide +kernel, by decide +kernel⟩, List.mem_of_getElem? (i := 246) (by decide +kernel), List.mem_of_getElem? (i := 598) (by decide +kernel), List.mem_of_getElem? (i := 599) (by decide +kernel)⟩
theorem lw_p20 : lw_okq (⟨"LongModeCore$Flow", "jump", "(J)I"⟩, 5) := ⟨⟨by decide +kernel, by decide +kernel⟩, List.mem_of_getElem? (i := 246) (by decide +kernel), List.mem_of_getElem? (i := 617) (by decide +kernel), List.mem_of_getElem? (i := 618) (by decide +kernel)⟩
theorem lw_p21 : lw_okq (⟨"LongModeCore$Flow", "popMemory", "()I"⟩, 5) := ⟨⟨by decide +kernel, by decide +kernel⟩, List.mem_of_getElem? (i := 246) (by decide +kernel), List.mem_of_getElem? (i := 626) (by decide +kernel), List.mem_of_getElem? (i := 627) (by decide +kernel)⟩
theorem lw_p22 : lw_okq (⟨"LongModeCore$Flow", "popFlags", "()I"⟩, 5) := ⟨⟨by decide +kernel, by decide +kernel⟩, List.mem_of_getElem? (i := 246) (by decide +kernel), List.mem_of_getElem? (i := 639) (by decide +kernel), List.mem_of_getElem? (i := 640) (by decide +kernel)⟩
theorem lw_p23 : lw_okq (⟨"LongModeCore$Flow", "comeBack", "()I"⟩, 5) := ⟨⟨by decide +kernel, by decide +kernel⟩, List.mem_of_getElem? (i := 246) (by decide +kernel), List.mem_of_getElem? (i := 643) (by decide +kernel), List.mem_of_getElem? (i := 644) (by decide +kernel)⟩
theorem lw_p24 : lw_okq (⟨"LongModeCore$Flow", "leave", "()I"⟩, 5) := ⟨⟨by decide +kernel, by decide +kernel⟩, List.mem_of_getElem? (i := 246) (by decide +kernel), List.mem_of_getElem? (i := 649) (by decide +kernel), List.mem_of_getElem? (i := 650) (by decide +kernel)⟩
theorem lw_p25 : lw_okq (⟨"LongModeCore$Flow", "countDown", "()I"⟩, 5) := ⟨⟨by decide +kernel, by decide +kernel⟩, List.mem_of_getElem? (i := 246) (by decide +kernel), List.mem_of_getElem? (i := 653) (by decide +kernel), List.mem_of_getElem? (i := 654) (by decide +kernel)⟩
theorem lw_p26 : lw_okq (⟨"LongModeCore$Flow", "call", "(J)I"⟩, 5) := ⟨⟨by decide +kernel, by decide +kernel⟩, List.mem_of_getElem? (i := 246) (by decide +kernel), List.mem_of_getElem? (i := 657) (by decide +kernel), List.mem_of_getElem? (i := 658) (by decide +kernel)⟩
theorem lw_p27 : lw_okq (⟨"LongModeCore$Flow", "enterSystem", "()I"⟩, 5) := ⟨⟨by decide +kernel, by decide +kernel⟩, List.mem_of_getElem? (i := 246) (by decide +kernel), List.mem_of_getElem? (i := 666) (by decide +kernel), List.mem_of_getElem? (i := 667) (by decide +kernel)⟩
theorem lw_p28 : lw_okq (⟨"LongModeCore$Flow", "leaveSystem", "()I"⟩, 5) := ⟨⟨by decide +kernel, by decide +kernel⟩, List.mem_of_getElem? (i := 246) (by decide +kernel), List.mem_of_getElem? (i := 670) (by decide +kernel), List.mem_of_getElem? (i := 671) (by decide +kernel)⟩
theorem lw_p29 : lw_okq (⟨"LongModeCore$Strings", "executeOnce", "(II)I"⟩, 6) := ⟨⟨by decide +kernel, by decide +kernel⟩, List.mem_of_getElem? (i := 268) (by decide +kernel), List.mem_of_getElem? (i := 679) (by decide +kernel), List.mem_of_getElem? (i := 680) (by decide +kernel)⟩
theorem lw_p30 : lw_okq (⟨"LongModeCore$Strings", "use", "(IJI)V"⟩, 6) := ⟨⟨by decide +kernel, by decide +kernel⟩, List.mem_of_getElem? (i := 268) (by decide +kernel), List.mem_of_getElem? (i := 686) (by decide +kernel), List.mem_of_getElem? (i := 687) (by decide +kernel)⟩
theorem lw_p31 : lw_okq (⟨"LongModeCore$Arithmetic", "settleSum", "(JJJI)J"⟩, 1) := ⟨⟨by decide +kernel, by decide +kernel⟩, List.mem_of_getElem? (i := 217) (by decide +kernel), List.mem_of_getElem? (i := 694) (by decide +kernel), List.mem_of_getElem? (i := 695) (by decide +kernel)⟩
def lw_privs_2 : List (MethodName × Nat) := [(⟨"LongModeCore$Operands", "isOnStack", "()Z"⟩, 4), (⟨"LongModeCore$Flow", "push", "(JI)I"⟩, 5), (⟨"LongModeCore$Flow", "popRegister", "(I)I"⟩, 5), (⟨"LongModeCore$Flow", "findTop", "(I)I"⟩, 5), (⟨"LongModeCore$Flow", "jump", "(J)I"⟩, 5), (⟨"LongModeCore$Flow", "popMemory", "()I"⟩, 5), (⟨"LongModeCore$Flow", "popFlags", "()I"⟩, 5), (⟨"LongModeCore$Flow", "comeBack", "()I"⟩, 5), (⟨"LongModeCore$Flow", "leave", "()I"⟩, 5), (⟨"LongModeCore$Flow", "countDown", "()I"⟩, 5), (⟨"LongModeCore$Flow", "call", "(J)I"⟩, 5), (⟨"LongModeCore$Flow", "enterSystem", "()I"⟩, 5), (⟨"LongModeCore$Flow", "leaveSystem", "()I"⟩, 5), (⟨"LongModeCore$Strings", "executeOnce", "(II)I"⟩, 6), (⟨"LongModeCore$Strings", "use", "(IJI)V"⟩, 6), (⟨"LongModeCore$Arithmetic", "settleSum", "(JJJI)J"⟩, 1)]
theorem lw_r2 : ∀ q ∈ lw_privs_2, lw_okq q := List.forall_mem_cons.mpr ⟨lw_p16, List.forall_mem_cons.mpr ⟨lw_p17, List.forall_mem_cons.mpr ⟨lw_p18, List.forall_mem_cons.mpr ⟨lw_p19, List.forall_mem_cons.mpr ⟨lw_p20, List.forall_mem_cons.mpr ⟨lw_p21, List.forall_mem_cons.mpr ⟨lw_p22, List.forall_mem_cons.mpr ⟨lw_p23, List.forall_mem_cons.mpr ⟨lw_p24, List.forall_mem_cons.mpr ⟨lw_p25, List.forall_mem_cons.mpr ⟨lw_p26, List.forall_mem_cons.mpr ⟨lw_p27, List.forall_mem_cons.mpr ⟨lw_p28, List.forall_mem_cons.mpr ⟨lw_p29, List.forall_mem_cons.mpr ⟨lw_p30, List.forall_mem_cons.mpr ⟨lw_p31, fun _ h => absurd h List.not_mem_nil⟩⟩⟩⟩⟩⟩⟩⟩⟩⟩⟩⟩⟩⟩⟩⟩
theorem lw_p32 : lw_okq (⟨"LongModeCore$Strings", "goesOn", "(I)Z"⟩, 6) := ⟨⟨by decide +kernel, by decide +kernel⟩, List.mem_of_getElem? (i := 268) (by decide +kernel), List.mem_of_getElem? (i := 709) (by decide +kernel), List.mem_of_getElem? (i := 710) (by decide +kernel)⟩
theorem lw_p33 : lw_okq (⟨"LongModeCore$OneByte", "changePlacesWithA", "()V"⟩, 5) := ⟨⟨by decide +kernel, by decide +kernel⟩, List.mem_of_getElem? (i := 293) (by decide +kernel), List.mem_of_getElem? (i := 717) (by decide +kernel), List.mem_of_getElem? (i := 718) (by decide +kernel)⟩
theorem lw_p34 : lw_okq (⟨"LongModeCore$OneByte", "executeByReg", "()I"⟩, 5) := ⟨⟨by decide +kernel, by decide +kernel⟩, List.mem_of_getElem? (i := 293) (by decide +kernel), List.mem_of_getElem? (i := 729) (by decide +kernel), List.mem_of_getElem? (i := 730) (by decide +kernel)⟩
theorem lw_p35 : lw_okq (⟨"LongModeCore$OneByte", "putHalves", "(I)V"⟩, 5) := ⟨⟨by decide +kernel, by decide +kernel⟩, List.mem_of_getElem? (i := 293) (by decide +kernel), List.mem_of_getElem? (i := 752) (by decide +kernel), List.mem_of_getElem? (i := 753) (by decide +kernel)⟩
theorem lw_p36 : lw_okq (⟨"LongModeCore$OneByte", "divideBy", "(JI)I"⟩, 5) := ⟨⟨by decide +kernel, by decide +kernel⟩, List.mem_of_getElem? (i := 293) (by decide +kernel), List.mem_of_getElem? (i := 756) (by decide +kernel), List.mem_of_getElem? (i := 757) (by decide +kernel)⟩
theorem lw_p37 : lw_okq (⟨"LongModeCore$Wide", "divideMagnitudes", "(JJJI)V"⟩, 3) := ⟨⟨by decide +kernel, by decide +kernel⟩, List.mem_of_getElem? (i := 227) (by decide +kernel), List.mem_of_getElem? (i := 770) (by decide +kernel), List.mem_of_getElem? (i := 771) (by decide +kernel)⟩
theorem lw_p38 : lw_okq (⟨"LongModeCore$OneByte", "combine", "(II)V"⟩, 5) := ⟨⟨by decide +kernel, by decide +kernel⟩, List.mem_of_getElem? (i := 293) (by decide +kernel), List.mem_of_getElem? (i := 774) (by decide +kernel), List.mem_of_getElem? (i := 775) (by decide +kernel)⟩
theorem lw_p39 : lw_okq (⟨"LongModeCore$OneByte", "sizeByOpcode", "()I"⟩, 5) := ⟨⟨by decide +kernel, by decide +kernel⟩, List.mem_of_getElem? (i := 293) (by decide +kernel), List.mem_of_getElem? (i := 778) (by decide +kernel), List.mem_of_getElem? (i := 779) (by decide +kernel)⟩
theorem lw_p40 : lw_okq (⟨"LongModeCore$OneByte", "executeSingle", "(I)V"⟩, 5) := ⟨⟨by decide +kernel, by decide +kernel⟩, List.mem_of_getElem? (i := 293) (by decide +kernel), List.mem_of_getElem? (i := 797) (by decide +kernel), List.mem_of_getElem? (i := 798) (by decide +kernel)⟩
theorem lw_p41 : lw_okq (⟨"LongModeCore$OneByte", "countOfShift", "()I"⟩, 5) := ⟨⟨by decide +kernel, by decide +kernel⟩, List.mem_of_getElem? (i := 293) (by decide +kernel), List.mem_of_getElem? (i := 801) (by decide +kernel), List.mem_of_getElem? (i := 802) (by decide +kernel)⟩
theorem lw_p42 : lw_okq (⟨"LongModeCore$Arithmetic", "rotate", "(ZJII)J"⟩, 1) := ⟨⟨by decide +kernel, by decide +kernel⟩, List.mem_of_getElem? (i := 217) (by decide +kernel), List.mem_of_getElem? (i := 809) (by decide +kernel), List.mem_of_getElem? (i := 810) (by decide +kernel)⟩
theorem lw_p43 : lw_okq (⟨"LongModeCore$Arithmetic", "settleRotation", "(ZJJII)V"⟩, 1) := ⟨⟨by decide +kernel, by decide +kernel⟩, List.mem_of_getElem? (i := 217) (by decide +kernel), List.mem_of_getElem? (i := 813) (by decide +kernel), List.mem_of_getElem? (i := 814) (by decide +kernel)⟩
theorem lw_p44 : lw_okq (⟨"LongModeCore$Arithmetic", "rotateThroughCarry", "(ZJII)J"⟩, 1) := ⟨⟨by decide +kernel, by decide +kernel⟩, List.mem_of_getElem? (i := 217) (by decide +kernel), List.mem_of_getElem? (i := 817) (by decide +kernel), List.mem_of_getElem? (i := 818) (by decide +kernel)⟩
theorem lw_p45 : lw_okq (⟨"LongModeCore$Arithmetic", "shiftLeft", "(JII)J"⟩, 1) := ⟨⟨by decide +kernel, by decide +kernel⟩, List.mem_of_getElem? (i := 217) (by decide +kernel), List.mem_of_getElem? (i := 821) (by decide +kernel), List.mem_of_getElem? (i := 822) (by decide +kernel)⟩
theorem lw_p46 : lw_okq (⟨"LongModeCore$Arithmetic", "settleShift", "(JJJII)V"⟩, 1) := ⟨⟨by decide +kernel, by decide +kernel⟩, List.mem_of_getElem? (i := 217) (by decide +kernel), List.mem_of_getElem? (i := 825) (by decide +kernel), List.mem_of_getElem? (i := 826) (by decide +kernel)⟩
theorem lw_p47 : lw_okq (⟨"LongModeCore$Arithmetic", "shiftRight", "(JII)J"⟩, 1) := ⟨⟨by decide +kernel, by decide +kernel⟩, List.mem_of_getElem? (i := 217) (by decide +kernel), List.mem_of_getElem? (i := 829) (by decide +kernel), List.mem_of_getElem? (i := 830) (by decide +kernel)⟩
def lw_privs_3 : List (MethodName × Nat) := [(⟨"LongModeCore$Strings", "goesOn", "(I)Z"⟩, 6), (⟨"LongModeCore$OneByte", "changePlacesWithA", "()V"⟩, 5), (⟨"LongModeCore$OneByte", "executeByReg", "()I"⟩, 5), (⟨"LongModeCore$OneByte", "putHalves", "(I)V"⟩, 5), (⟨"LongModeCore$OneByte", "divideBy", "(JI)I"⟩, 5), (⟨"LongModeCore$Wide", "divideMagnitudes", "(JJJI)V"⟩, 3), (⟨"LongModeCore$OneByte", "combine", "(II)V"⟩, 5), (⟨"LongModeCore$OneByte", "sizeByOpcode", "()I"⟩, 5), (⟨"LongModeCore$OneByte", "executeSingle", "(I)V"⟩, 5), (⟨"LongModeCore$OneByte", "countOfShift", "()I"⟩, 5), (⟨"LongModeCore$Arithmetic", "rotate", "(ZJII)J"⟩, 1), (⟨"LongModeCore$Arithmetic", "settleRotation", "(ZJJII)V"⟩, 1), (⟨"LongModeCore$Arithmetic", "rotateThroughCarry", "(ZJII)J"⟩, 1), (⟨"LongModeCore$Arithmetic", "shiftLeft", "(JII)J"⟩, 1), (⟨"LongModeCore$Arithmetic", "settleShift", "(JJJII)V"⟩, 1), (⟨"LongModeCore$Arithmetic", "shiftRight", "(JII)J"⟩, 1)]
theorem lw_r3 : ∀ q ∈ lw_privs_3, lw_okq q := List.forall_mem_cons.mpr ⟨lw_p32, List.forall_mem_cons.mpr ⟨lw_p33, List.forall_mem_cons.mpr ⟨lw_p34, List.forall_mem_cons.mpr ⟨lw_p35, List.forall_mem_cons.mpr ⟨lw_p36, List.forall_mem_cons.mpr ⟨lw_p37, List.forall_mem_cons.mpr ⟨lw_p38, List.forall_mem_cons.mpr ⟨lw_p39, List.forall_mem_cons.mpr ⟨lw_p40, List.forall_mem_cons.mpr ⟨lw_p41, List.forall_mem_cons.mpr ⟨lw_p42, List.forall_mem_cons.mpr ⟨lw_p43, List.forall_mem_cons.mpr ⟨lw_p44, List.forall_mem_cons.mpr ⟨lw_p45, List.forall_mem_cons.mpr ⟨lw_p46, List.forall_mem_cons.mpr ⟨lw_p47, fun _ h => absurd h List.not_mem_nil⟩⟩⟩⟩⟩⟩⟩⟩⟩⟩⟩⟩⟩⟩⟩⟩
theorem lw_p48 : lw_okq (⟨"LongModeCore$Arithmetic", "shiftSigned", "(JII)J"⟩, 1) := ⟨⟨by decide +kernel, by decide +kernel⟩, List.mem_of_getElem? (i := 217) (by decide +kernel), List.mem_of_getElem? (i := 833) (by decide +kernel), List.mem_of_getElem? (i := 834) (by decide +kernel)⟩
theorem lw_p49 : lw_okq (⟨"LongModeCore$OneByte", "move", "(I)V"⟩, 5) := ⟨⟨by decide +kernel, by decide +kernel⟩, List.mem_of_getElem? (i := 293) (by decide +kernel), List.mem_of_getElem? (i := 843) (by decide +kernel), List.mem_of_getElem? (i := 844) (by decide +kernel)⟩
theorem lw_p50 : lw_okq (⟨"LongModeCore$TwoByte", "moveIf", "(Z)V"⟩, 4) := ⟨⟨by decide +kernel, by decide +kernel⟩, List.mem_of_getElem? (i := 315) (by decide +kernel), List.mem_of_getElem? (i := 854) (by decide +kernel), List.mem_of_getElem? (i := 855) (by decide +kernel)⟩
theorem lw_p51 : lw_okq (⟨"LongModeCore$TwoByte", "turnBytes", "()V"⟩, 4) := ⟨⟨by decide +kernel, by decide +kernel⟩, List.mem_of_getElem? (i := 315) (by decide +kernel), List.mem_of_getElem? (i := 862) (by decide +kernel), List.mem_of_getElem? (i := 863) (by decide +kernel)⟩
theorem lw_p52 : lw_okq (⟨"LongModeCore$TwoByte", "executeSingle", "(I)V"⟩, 4) := ⟨⟨by decide +kernel, by decide +kernel⟩, List.mem_of_getElem? (i := 315) (by decide +kernel), List.mem_of_getElem? (i := 871) (by decide +kernel), List.mem_of_getElem? (i := 872) (by decide +kernel)⟩
theorem lw_p53 : lw_okq (⟨"LongModeCore$TwoByte", "useBit", "(IJ)V"⟩, 4) := ⟨⟨by decide +kernel, by decide +kernel⟩, List.mem_of_getElem? (i := 315) (by decide +kernel), List.mem_of_getElem? (i := 875) (by decide +kernel), List.mem_of_getElem? (i := 876) (by decide +kernel)⟩
theorem lw_p54 : lw_okq (⟨"LongModeCore$TwoByte", "compareAndChange", "()V"⟩, 4) := ⟨⟨by decide +kernel, by decide +kernel⟩, List.mem_of_getElem? (i := 315) (by decide +kernel), List.mem_of_getElem? (i := 883) (by decide +kernel), List.mem_of_getElem? (i := 884) (by decide +kernel)⟩
theorem lw_p55 : lw_okq (⟨"LongModeCore$TwoByte", "findBit", "(ZJI)V"⟩, 4) := ⟨⟨by decide +kernel, by decide +kernel⟩, List.mem_of_getElem? (i := 315) (by decide +kernel), List.mem_of_getElem? (i := 889) (by decide +kernel), List.mem_of_getElem? (i := 890) (by decide +kernel)⟩
theorem lw_p56 : lw_okq (⟨"LongModeCore$TwoByte", "changeAndAdd", "()V"⟩, 4) := ⟨⟨by decide +kernel, by decide +kernel⟩, List.mem_of_getElem? (i := 315) (by decide +kernel), List.mem_of_getElem? (i := 905) (by decide +kernel), List.mem_of_getElem? (i := 906) (by decide +kernel)⟩
theorem lw_p57 : lw_okq (⟨"LongModeCoreModel", "open", "()V"⟩, 38) := ⟨⟨by decide +kernel, by decide +kernel⟩, List.mem_of_getElem? (i := 920) (by decide +kernel), List.mem_of_getElem? (i := 1049) (by decide +kernel), List.mem_of_getElem? (i := 1050) (by decide +kernel)⟩
theorem lw_p58 : lw_okq (⟨"LongModeCoreModel", "fetch", "()I"⟩, 38) := ⟨⟨by decide +kernel, by decide +kernel⟩, List.mem_of_getElem? (i := 920) (by decide +kernel), List.mem_of_getElem? (i := 1053) (by decide +kernel), List.mem_of_getElem? (i := 1054) (by decide +kernel)⟩
theorem lw_p59 : lw_okq (⟨"LongModeCoreModel", "refuse", "(I)V"⟩, 38) := ⟨⟨by decide +kernel, by decide +kernel⟩, List.mem_of_getElem? (i := 920) (by decide +kernel), List.mem_of_getElem? (i := 1057) (by decide +kernel), List.mem_of_getElem? (i := 1058) (by decide +kernel)⟩
theorem lw_p60 : lw_okq (⟨"LongModeCoreModel", "lookUp", "(JIIZ)V"⟩, 38) := ⟨⟨by decide +kernel, by decide +kernel⟩, List.mem_of_getElem? (i := 920) (by decide +kernel), List.mem_of_getElem? (i := 1061) (by decide +kernel), List.mem_of_getElem? (i := 1062) (by decide +kernel)⟩
theorem lw_p61 : lw_okq (⟨"LongModeCoreModel", "find", "(JI)J"⟩, 38) := ⟨⟨by decide +kernel, by decide +kernel⟩, List.mem_of_getElem? (i := 920) (by decide +kernel), List.mem_of_getElem? (i := 1068) (by decide +kernel), List.mem_of_getElem? (i := 1069) (by decide +kernel)⟩
theorem lw_p62 : lw_okq (⟨"LongModeCoreModel", "eight", "(J)J"⟩, 38) := ⟨⟨by decide +kernel, by decide +kernel⟩, List.mem_of_getElem? (i := 920) (by decide +kernel), List.mem_of_getElem? (i := 1076) (by decide +kernel), List.mem_of_getElem? (i := 1077) (by decide +kernel)⟩
theorem lw_p63 : lw_okq (⟨"LongModeCoreModel", "byteAt", "(J)I"⟩, 38) := ⟨⟨by decide +kernel, by decide +kernel⟩, List.mem_of_getElem? (i := 920) (by decide +kernel), List.mem_of_getElem? (i := 1080) (by decide +kernel), List.mem_of_getElem? (i := 1081) (by decide +kernel)⟩
def lw_privs_4 : List (MethodName × Nat) := [(⟨"LongModeCore$Arithmetic", "shiftSigned", "(JII)J"⟩, 1), (⟨"LongModeCore$OneByte", "move", "(I)V"⟩, 5), (⟨"LongModeCore$TwoByte", "moveIf", "(Z)V"⟩, 4), (⟨"LongModeCore$TwoByte", "turnBytes", "()V"⟩, 4), (⟨"LongModeCore$TwoByte", "executeSingle", "(I)V"⟩, 4), (⟨"LongModeCore$TwoByte", "useBit", "(IJ)V"⟩, 4), (⟨"LongModeCore$TwoByte", "compareAndChange", "()V"⟩, 4), (⟨"LongModeCore$TwoByte", "findBit", "(ZJI)V"⟩, 4), (⟨"LongModeCore$TwoByte", "changeAndAdd", "()V"⟩, 4), (⟨"LongModeCoreModel", "open", "()V"⟩, 38), (⟨"LongModeCoreModel", "fetch", "()I"⟩, 38), (⟨"LongModeCoreModel", "refuse", "(I)V"⟩, 38), (⟨"LongModeCoreModel", "lookUp", "(JIIZ)V"⟩, 38), (⟨"LongModeCoreModel", "find", "(JI)J"⟩, 38), (⟨"LongModeCoreModel", "eight", "(J)J"⟩, 38), (⟨"LongModeCoreModel", "byteAt", "(J)I"⟩, 38)]
theorem lw_r4 : ∀ q ∈ lw_privs_4, lw_okq q := List.forall_mem_cons.mpr ⟨lw_p48, List.forall_mem_cons.mpr ⟨lw_p49, List.forall_mem_cons.mpr ⟨lw_p50, List.forall_mem_cons.mpr ⟨lw_p51, List.forall_mem_cons.mpr ⟨lw_p52, List.forall_mem_cons.mpr ⟨lw_p53, List.forall_mem_cons.mpr ⟨lw_p54, List.forall_mem_cons.mpr ⟨lw_p55, List.forall_mem_cons.mpr ⟨lw_p56, List.forall_mem_cons.mpr ⟨lw_p57, List.forall_mem_cons.mpr ⟨lw_p58, List.forall_mem_cons.mpr ⟨lw_p59, List.forall_mem_cons.mpr ⟨lw_p60, List.forall_mem_cons.mpr ⟨lw_p61, List.forall_mem_cons.mpr ⟨lw_p62, List.forall_mem_cons.mpr ⟨lw_p63, fun _ h => absurd h List.not_mem_nil⟩⟩⟩⟩⟩⟩⟩⟩⟩⟩⟩⟩⟩⟩⟩⟩
theorem lw_p64 : lw_okq (⟨"LongModeCoreModel", "wide", "()I"⟩, 38) := ⟨⟨by decide +kernel, by decide +kernel⟩, List.mem_of_getElem? (i := 920) (by decide +kernel), List.mem_of_getElem? (i := 1089) (by decide +kernel), List.mem_of_getElem? (i := 1090) (by decide +kernel)⟩
theorem lw_p65 : lw_okq (⟨"LongModeCoreModel", "second", "(II)V"⟩, 38) := ⟨⟨by decide +kernel, by decide +kernel⟩, List.mem_of_getElem? (i := 920) (by decide +kernel), List.mem_of_getElem? (i := 1093) (by decide +kernel), List.mem_of_getElem? (i := 1094) (by decide +kernel)⟩
theorem lw_p66 : lw_okq (⟨"LongModeCoreModel", "takeOperand", "()V"⟩, 38) := ⟨⟨by decide +kernel, by decide +kernel⟩, List.mem_of_getElem? (i := 920) (by decide +kernel), List.mem_of_getElem? (i := 1097) (by decide +kernel), List.mem_of_getElem? (i := 1098) (by decide +kernel)⟩
theorem lw_p67 : lw_okq (⟨"LongModeCoreModel", "takeMod", "()V"⟩, 38) := ⟨⟨by decide +kernel, by decide +kernel⟩, List.mem_of_getElem? (i := 920) (by decide +kernel), List.mem_of_getElem? (i := 1101) (by decide +kernel), List.mem_of_getElem? (i := 1102) (by decide +kernel)⟩
theorem lw_p68 : lw_okq (⟨"LongModeCoreModel", "takePlace", "()V"⟩, 38) := ⟨⟨by decide +kernel, by decide +kernel⟩, List.mem_of_getElem? (i := 920) (by decide +kernel), List.mem_of_getElem? (i := 1105) (by decide +kernel), List.mem_of_getElem? (i := 1106) (by decide +kernel)⟩
theorem lw_p69 : lw_okq (⟨"LongModeCoreModel", "plus", "(I)I"⟩, 38) := ⟨⟨by decide +kernel, by decide +kernel⟩, List.mem_of_getElem? (i := 920) (by decide +kernel), List.mem_of_getElem? (i := 1109) (by decide +kernel), List.mem_of_getElem? (i := 1110) (by decide +kernel)⟩
theorem lw_p70 : lw_okq (⟨"LongModeCoreModel", "fetchNumber", "(I)J"⟩, 38) := ⟨⟨by decide +kernel, by decide +kernel⟩, List.mem_of_getElem? (i := 920) (by decide +kernel), List.mem_of_getElem? (i := 1113) (by decide +kernel), List.mem_of_getElem? (i := 1114) (by decide +kernel)⟩
theorem lw_p71 : lw_okq (⟨"LongModeCoreModel", "e", "(II)J"⟩, 38) := ⟨⟨by decide +kernel, by decide +kernel⟩, List.mem_of_getElem? (i := 920) (by decide +kernel), List.mem_of_getElem? (i := 1120) (by decide +kernel), List.mem_of_getElem? (i := 1121) (by decide +kernel)⟩
theorem lw_p72 : lw_okq (⟨"LongModeCoreModel", "get8", "(II)J"⟩, 38) := ⟨⟨by decide +kernel, by decide +kernel⟩, List.mem_of_getElem? (i := 920) (by decide +kernel), List.mem_of_getElem? (i := 1124) (by decide +kernel), List.mem_of_getElem? (i := 1125) (by decide +kernel)⟩
theorem lw_p73 : lw_okq (⟨"LongModeCoreModel", "isHigh", "(II)Z"⟩, 38) := ⟨⟨by decide +kernel, by decide +kernel⟩, List.mem_of_getElem? (i := 920) (by decide +kernel), List.mem_of_getElem? (i := 1128) (by decide +kernel), List.mem_of_getElem? (i := 1129) (by decide +kernel)⟩
theorem lw_p74 : lw_okq (⟨"LongModeCoreModel", "place", "()J"⟩, 38) := ⟨⟨by decide +kernel, by decide +kernel⟩, List.mem_of_getElem? (i := 920) (by decide +kernel), List.mem_of_getElem? (i := 1136) (by decide +kernel), List.mem_of_getElem? (i := 1137) (by decide +kernel)⟩
theorem lw_p75 : lw_okq (⟨"LongModeCoreModel", "ofStack", "()Z"⟩, 38) := ⟨⟨by decide +kernel, by decide +kernel⟩, List.mem_of_getElem? (i := 920) (by decide +kernel), List.mem_of_getElem? (i := 1140) (by decide +kernel), List.mem_of_getElem? (i := 1141) (by decide +kernel)⟩
theorem lw_p76 : lw_okq (⟨"LongModeCoreModel", "held", "(I)J"⟩, 38) := ⟨⟨by decide +kernel, by decide +kernel⟩, List.mem_of_getElem? (i := 920) (by decide +kernel), List.mem_of_getElem? (i := 1144) (by decide +kernel), List.mem_of_getElem? (i := 1145) (by decide +kernel)⟩
theorem lw_p77 : lw_okq (⟨"LongModeCoreModel", "holds", "(I)Z"⟩, 38) := ⟨⟨by decide +kernel, by decide +kernel⟩, List.mem_of_getElem? (i := 920) (by decide +kernel), List.mem_of_getElem? (i := 1148) (by decide +kernel), List.mem_of_getElem? (i := 1149) (by decide +kernel)⟩
theorem lw_p78 : lw_okq (⟨"LongModeCoreModel", "g", "(I)J"⟩, 38) := ⟨⟨by decide +kernel, by decide +kernel⟩, List.mem_of_getElem? (i := 920) (by decide +kernel), List.mem_of_getElem? (i := 1152) (by decide +kernel), List.mem_of_getElem? (i := 1153) (by decide +kernel)⟩
theorem lw_p79 : lw_okq (⟨"LongModeCoreModel", "setG", "(IJ)V"⟩, 38) := ⟨⟨by decide +kernel, by decide +kernel⟩, List.mem_of_getElem? (i := 920) (by decide +kernel), List.mem_of_getElem? (i := 1156) (by decide +kernel), List.mem_of_getElem? (i := 1157) (by decide +kernel)⟩
def lw_privs_5 : List (MethodName × Nat) := [(⟨"LongModeCoreModel", "wide", "()I"⟩, 38), (⟨"LongModeCoreModel", "second", "(II)V"⟩, 38), (⟨"LongModeCoreModel", "takeOperand", "()V"⟩, 38), (⟨"LongModeCoreModel", "takeMod", "()V"⟩, 38), (⟨"LongModeCoreModel", "takePlace", "()V"⟩, 38), (⟨"LongModeCoreModel", "plus", "(I)I"⟩, 38), (⟨"LongModeCoreModel", "fetchNumber", "(I)J"⟩, 38), (⟨"LongModeCoreModel", "e", "(II)J"⟩, 38), (⟨"LongModeCoreModel", "get8", "(II)J"⟩, 38), (⟨"LongModeCoreModel", "isHigh", "(II)Z"⟩, 38), (⟨"LongModeCoreModel", "place", "()J"⟩, 38), (⟨"LongModeCoreModel", "ofStack", "()Z"⟩, 38), (⟨"LongModeCoreModel", "held", "(I)J"⟩, 38), (⟨"LongModeCoreModel", "holds", "(I)Z"⟩, 38), (⟨"LongModeCoreModel", "g", "(I)J"⟩, 38), (⟨"LongModeCoreModel", "setG", "(IJ)V"⟩, 38)]
theorem lw_r5 : ∀ q ∈ lw_privs_5, lw_okq q := List.forall_mem_cons.mpr ⟨lw_p64, List.forall_mem_cons.mpr ⟨lw_p65, List.forall_mem_cons.mpr ⟨lw_p66, List.forall_mem_cons.mpr ⟨lw_p67, List.forall_mem_cons.mpr ⟨lw_p68, List.forall_mem_cons.mpr ⟨lw_p69, List.forall_mem_cons.mpr ⟨lw_p70, List.forall_mem_cons.mpr ⟨lw_p71, List.forall_mem_cons.mpr ⟨lw_p72, List.forall_mem_cons.mpr ⟨lw_p73, List.forall_mem_cons.mpr ⟨lw_p74, List.forall_mem_cons.mpr ⟨lw_p75, List.forall_mem_cons.mpr ⟨lw_p76, List.forall_mem_cons.mpr ⟨lw_p77, List.forall_mem_cons.mpr ⟨lw_p78, List.forall_mem_cons.mpr ⟨lw_p79, fun _ h => absurd h List.not_mem_nil⟩⟩⟩⟩⟩⟩⟩⟩⟩⟩⟩⟩⟩⟩⟩⟩
theorem lw_p80 : lw_okq (⟨"LongModeCoreModel", "put8", "(IIJ)V"⟩, 38) := ⟨⟨by decide +kernel, by decide +kernel⟩, List.mem_of_getElem? (i := 920) (by decide +kernel), List.mem_of_getElem? (i := 1160) (by decide +kernel), List.mem_of_getElem? (i := 1161) (by decide +kernel)⟩
theorem lw_p81 : lw_okq (⟨"LongModeCoreModel", "branch", "(ZI)V"⟩, 38) := ⟨⟨by decide +kernel, by decide +kernel⟩, List.mem_of_getElem? (i := 920) (by decide +kernel), List.mem_of_getElem? (i := 1165) (by decide +kernel), List.mem_of_getElem? (i := 1166) (by decide +kernel)⟩
theorem lw_p82 : lw_okq (⟨"LongModeCoreModel", "number", "(I)J"⟩, 38) := ⟨⟨by decide +kernel, by decide +kernel⟩, List.mem_of_getElem? (i := 920) (by decide +kernel), List.mem_of_getElem? (i := 1169) (by decide +kernel), List.mem_of_getElem? (i := 1170) (by decide +kernel)⟩
theorem lw_p83 : lw_okq (⟨"LongModeCoreModel", "jump", "(J)V"⟩, 38) := ⟨⟨by decide +kernel, by decide +kernel⟩, List.mem_of_getElem? (i := 920) (by decide +kernel), List.mem_of_getElem? (i := 1173) (by decide +kernel), List.mem_of_getElem? (i := 1174) (by decide +kernel)⟩
theorem lw_p84 : lw_okq (⟨"LongModeCoreModel", "setE", "(IJ)V"⟩, 38) := ⟨⟨by decide +kernel, by decide +kernel⟩, List.mem_of_getElem? (i := 920) (by decide +kernel), List.mem_of_getElem? (i := 1177) (by decide +kernel), List.mem_of_getElem? (i := 1178) (by decide +kernel)⟩
theorem lw_p85 : lw_okq (⟨"LongModeCoreModel", "hold", "(JI)V"⟩, 38) := ⟨⟨by decide +kernel, by decide +kernel⟩, List.mem_of_getElem? (i := 920) (by decide +kernel), List.mem_of_getElem? (i := 1181) (by decide +kernel), List.mem_of_getElem? (i := 1182) (by decide +kernel)⟩
theorem lw_p86 : lw_okq (⟨"LongModeCoreModel", "turnRound", "(I)V"⟩, 38) := ⟨⟨by decide +kernel, by decide +kernel⟩, List.mem_of_getElem? (i := 920) (by decide +kernel), List.mem_of_getElem? (i := 1185) (by decide +kernel), List.mem_of_getElem? (i := 1186) (by decide +kernel)⟩
theorem lw_p87 : lw_okq (⟨"LongModeCoreModel", "system", "(Z)V"⟩, 38) := ⟨⟨by decide +kernel, by decide +kernel⟩, List.mem_of_getElem? (i := 920) (by decide +kernel), List.mem_of_getElem? (i := 1189) (by decide +kernel), List.mem_of_getElem? (i := 1190) (by decide +kernel)⟩
theorem lw_p88 : lw_okq (⟨"LongModeCoreModel", "flags", "()J"⟩, 38) := ⟨⟨by decide +kernel, by decide +kernel⟩, List.mem_of_getElem? (i := 920) (by decide +kernel), List.mem_of_getElem? (i := 1193) (by decide +kernel), List.mem_of_getElem? (i := 1194) (by decide +kernel)⟩
theorem lw_p89 : lw_okq (⟨"LongModeCoreModel", "setFlags", "(J)V"⟩, 38) := ⟨⟨by decide +kernel, by decide +kernel⟩, List.mem_of_getElem? (i := 920) (by decide +kernel), List.mem_of_getElem? (i := 1201) (by decide +kernel), List.mem_of_getElem? (i := 1202) (by decide +kernel)⟩
theorem lw_p90 : lw_okq (⟨"LongModeCoreModel", "bit", "(I)V"⟩, 38) := ⟨⟨by decide +kernel, by decide +kernel⟩, List.mem_of_getElem? (i := 920) (by decide +kernel), List.mem_of_getElem? (i := 1205) (by decide +kernel), List.mem_of_getElem? (i := 1206) (by decide +kernel)⟩
theorem lw_p91 : lw_okq (⟨"LongModeCoreModel", "leave", "(I)V"⟩, 38) := ⟨⟨by decide +kernel, by decide +kernel⟩, List.mem_of_getElem? (i := 920) (by decide +kernel), List.mem_of_getElem? (i := 1213) (by decide +kernel), List.mem_of_getElem? (i := 1214) (by decide +kernel)⟩
theorem lw_p92 : lw_okq (⟨"LongModeCoreModel", "undefinedBit", "(I)Z"⟩, 38) := ⟨⟨by decide +kernel, by decide +kernel⟩, List.mem_of_getElem? (i := 920) (by decide +kernel), List.mem_of_getElem? (i := 1217) (by decide +kernel), List.mem_of_getElem? (i := 1218) (by decide +kernel)⟩
theorem lw_p93 : lw_okq (⟨"LongModeCoreModel", "product", "(I)V"⟩, 38) := ⟨⟨by decide +kernel, by decide +kernel⟩, List.mem_of_getElem? (i := 920) (by decide +kernel), List.mem_of_getElem? (i := 1221) (by decide +kernel), List.mem_of_getElem? (i := 1222) (by decide +kernel)⟩
theorem lw_p94 : lw_okq (⟨"LongModeCoreModel", "multiplySigned", "(JJ)V"⟩, 38) := ⟨⟨by decide +kernel, by decide +kernel⟩, List.mem_of_getElem? (i := 920) (by decide +kernel), List.mem_of_getElem? (i := 1228) (by decide +kernel), List.mem_of_getElem? (i := 1229) (by decide +kernel)⟩
theorem lw_p95 : lw_okq (⟨"LongModeCoreModel", "multiply", "(JJ)V"⟩, 38) := ⟨⟨by decide +kernel, by decide +kernel⟩, List.mem_of_getElem? (i := 920) (by decide +kernel), List.mem_of_getElem? (i := 1232) (by decide +kernel), List.mem_of_getElem? (i := 1233) (by decide +kernel)⟩
def lw_privs_6 : List (MethodName × Nat) := [(⟨"LongModeCoreModel", "put8", "(IIJ)V"⟩, 38), (⟨"LongModeCoreModel", "branch", "(ZI)V"⟩, 38), (⟨"LongModeCoreModel", "number", "(I)J"⟩, 38), (⟨"LongModeCoreModel", "jump", "(J)V"⟩, 38), (⟨"LongModeCoreModel", "setE", "(IJ)V"⟩, 38), (⟨"LongModeCoreModel", "hold", "(JI)V"⟩, 38), (⟨"LongModeCoreModel", "turnRound", "(I)V"⟩, 38), (⟨"LongModeCoreModel", "system", "(Z)V"⟩, 38), (⟨"LongModeCoreModel", "flags", "()J"⟩, 38), (⟨"LongModeCoreModel", "setFlags", "(J)V"⟩, 38), (⟨"LongModeCoreModel", "bit", "(I)V"⟩, 38), (⟨"LongModeCoreModel", "leave", "(I)V"⟩, 38), (⟨"LongModeCoreModel", "undefinedBit", "(I)Z"⟩, 38), (⟨"LongModeCoreModel", "product", "(I)V"⟩, 38), (⟨"LongModeCoreModel", "multiplySigned", "(JJ)V"⟩, 38), (⟨"LongModeCoreModel", "multiply", "(JJ)V"⟩, 38)]
theorem lw_r6 : ∀ q ∈ lw_privs_6, lw_okq q := List.forall_mem_cons.mpr ⟨lw_p80, List.forall_mem_cons.mpr ⟨lw_p81, List.forall_mem_cons.mpr ⟨lw_p82, List.forall_mem_cons.mpr ⟨lw_p83, List.forall_mem_cons.mpr ⟨lw_p84, List.forall_mem_cons.mpr ⟨lw_p85, List.forall_mem_cons.mpr ⟨lw_p86, List.forall_mem_cons.mpr ⟨lw_p87, List.forall_mem_cons.mpr ⟨lw_p88, List.forall_mem_cons.mpr ⟨lw_p89, List.forall_mem_cons.mpr ⟨lw_p90, List.forall_mem_cons.mpr ⟨lw_p91, List.forall_mem_cons.mpr ⟨lw_p92, List.forall_mem_cons.mpr ⟨lw_p93, List.forall_mem_cons.mpr ⟨lw_p94, List.forall_mem_cons.mpr ⟨lw_p95, fun _ h => absurd h List.not_mem_nil⟩⟩⟩⟩⟩⟩⟩⟩⟩⟩⟩⟩⟩⟩⟩⟩
theorem lw_p96 : lw_okq (⟨"LongModeCoreModel", "turnSign", "()V"⟩, 38) := ⟨⟨by decide +kernel, by decide +kernel⟩, List.mem_of_getElem? (i := 920) (by decide +kernel), List.mem_of_getElem? (i := 1236) (by decide +kernel), List.mem_of_getElem? (i := 1237) (by decide +kernel)⟩
theorem lw_p97 : lw_okq (⟨"LongModeCoreModel", "muchFlags", "(Z)V"⟩, 38) := ⟨⟨by decide +kernel, by decide +kernel⟩, List.mem_of_getElem? (i := 920) (by decide +kernel), List.mem_of_getElem? (i := 1240) (by decide +kernel), List.mem_of_getElem? (i := 1241) (by decide +kernel)⟩
theorem lw_p98 : lw_okq (⟨"LongModeCoreModel", "compareAndChange", "(I)V"⟩, 38) := ⟨⟨by decide +kernel, by decide +kernel⟩, List.mem_of_getElem? (i := 920) (by decide +kernel), List.mem_of_getElem? (i := 1244) (by decide +kernel), List.mem_of_getElem? (i := 1245) (by decide +kernel)⟩
theorem lw_p99 : lw_okq (⟨"LongModeCoreModel", "add", "(JJZZI)J"⟩, 38) := ⟨⟨by decide +kernel, by decide +kernel⟩, List.mem_of_getElem? (i := 920) (by decide +kernel), List.mem_of_getElem? (i := 1248) (by decide +kernel), List.mem_of_getElem? (i := 1249) (by decide +kernel)⟩
theorem lw_p100 : lw_okq (⟨"LongModeCoreModel", "result", "(JI)V"⟩, 38) := ⟨⟨by decide +kernel, by decide +kernel⟩, List.mem_of_getElem? (i := 920) (by decide +kernel), List.mem_of_getElem? (i := 1252) (by decide +kernel), List.mem_of_getElem? (i := 1253) (by decide +kernel)⟩
theorem lw_p101 : lw_okq (⟨"LongModeCoreModel", "extend", "(II)V"⟩, 38) := ⟨⟨by decide +kernel, by decide +kernel⟩, List.mem_of_getElem? (i := 920) (by decide +kernel), List.mem_of_getElem? (i := 1259) (by decide +kernel), List.mem_of_getElem? (i := 1260) (by decide +kernel)⟩
theorem lw_p102 : lw_okq (⟨"LongModeCoreModel", "scan", "(I)V"⟩, 38) := ⟨⟨by decide +kernel, by decide +kernel⟩, List.mem_of_getElem? (i := 920) (by decide +kernel), List.mem_of_getElem? (i := 1263) (by decide +kernel), List.mem_of_getElem? (i := 1264) (by decide +kernel)⟩
theorem lw_p103 : lw_okq (⟨"LongModeCoreModel", "addAndChange", "(I)V"⟩, 38) := ⟨⟨by decide +kernel, by decide +kernel⟩, List.mem_of_getElem? (i := 920) (by decide +kernel), List.mem_of_getElem? (i := 1267) (by decide +kernel), List.mem_of_getElem? (i := 1268) (by decide +kernel)⟩
theorem lw_p104 : lw_okq (⟨"LongModeCoreModel", "first", "(II)V"⟩, 38) := ⟨⟨by decide +kernel, by decide +kernel⟩, List.mem_of_getElem? (i := 920) (by decide +kernel), List.mem_of_getElem? (i := 1271) (by decide +kernel), List.mem_of_getElem? (i := 1272) (by decide +kernel)⟩
theorem lw_p105 : lw_okq (⟨"LongModeCoreModel", "arithmetic", "(III)V"⟩, 38) := ⟨⟨by decide +kernel, by decide +kernel⟩, List.mem_of_getElem? (i := 920) (by decide +kernel), List.mem_of_getElem? (i := 1275) (by decide +kernel), List.mem_of_getElem? (i := 1276) (by decide +kernel)⟩
theorem lw_p106 : lw_okq (⟨"LongModeCoreModel", "reckon", "(IJJI)J"⟩, 38) := ⟨⟨by decide +kernel, by decide +kernel⟩, List.mem_of_getElem? (i := 920) (by decide +kernel), List.mem_of_getElem? (i := 1279) (by decide +kernel), List.mem_of_getElem? (i := 1280) (by decide +kernel)⟩
theorem lw_p107 : lw_okq (⟨"LongModeCoreModel", "logic", "(JI)J"⟩, 38) := ⟨⟨by decide +kernel, by decide +kernel⟩, List.mem_of_getElem? (i := 920) (by decide +kernel), List.mem_of_getElem? (i := 1283) (by decide +kernel), List.mem_of_getElem? (i := 1284) (by decide +kernel)⟩
theorem lw_p108 : lw_okq (⟨"LongModeCoreModel", "shortStack", "(I)V"⟩, 38) := ⟨⟨by decide +kernel, by decide +kernel⟩, List.mem_of_getElem? (i := 920) (by decide +kernel), List.mem_of_getElem? (i := 1287) (by decide +kernel), List.mem_of_getElem? (i := 1288) (by decide +kernel)⟩
theorem lw_p109 : lw_okq (⟨"LongModeCoreModel", "stackSize", "()I"⟩, 38) := ⟨⟨by decide +kernel, by decide +kernel⟩, List.mem_of_getElem? (i := 920) (by decide +kernel), List.mem_of_getElem? (i := 1291) (by decide +kernel), List.mem_of_getElem? (i := 1292) (by decide +kernel)⟩
theorem lw_p110 : lw_okq (⟨"LongModeCoreModel", "push", "(JI)V"⟩, 38) := ⟨⟨by decide +kernel, by decide +kernel⟩, List.mem_of_getElem? (i := 920) (by decide +kernel), List.mem_of_getElem? (i := 1295) (by decide +kernel), List.mem_of_getElem? (i := 1296) (by decide +kernel)⟩
theorem lw_p111 : lw_okq (⟨"LongModeCoreModel", "pop", "(I)J"⟩, 38) := ⟨⟨by decide +kernel, by decide +kernel⟩, List.mem_of_getElem? (i := 920) (by decide +kernel), List.mem_of_getElem? (i := 1299) (by decide +kernel), List.mem_of_getElem? (i := 1300) (by decide +kernel)⟩
def lw_privs_7 : List (MethodName × Nat) := [(⟨"LongModeCoreModel", "turnSign", "()V"⟩, 38), (⟨"LongModeCoreModel", "muchFlags", "(Z)V"⟩, 38), (⟨"LongModeCoreModel", "compareAndChange", "(I)V"⟩, 38), (⟨"LongModeCoreModel", "add", "(JJZZI)J"⟩, 38), (⟨"LongModeCoreModel", "result", "(JI)V"⟩, 38), (⟨"LongModeCoreModel", "extend", "(II)V"⟩, 38), (⟨"LongModeCoreModel", "scan", "(I)V"⟩, 38), (⟨"LongModeCoreModel", "addAndChange", "(I)V"⟩, 38), (⟨"LongModeCoreModel", "first", "(II)V"⟩, 38), (⟨"LongModeCoreModel", "arithmetic", "(III)V"⟩, 38), (⟨"LongModeCoreModel", "reckon", "(IJJI)J"⟩, 38), (⟨"LongModeCoreModel", "logic", "(JI)J"⟩, 38), (⟨"LongModeCoreModel", "shortStack", "(I)V"⟩, 38), (⟨"LongModeCoreModel", "stackSize", "()I"⟩, 38), (⟨"LongModeCoreModel", "push", "(JI)V"⟩, 38), (⟨"LongModeCoreModel", "pop", "(I)J"⟩, 38)]
theorem lw_r7 : ∀ q ∈ lw_privs_7, lw_okq q := List.forall_mem_cons.mpr ⟨lw_p96, List.forall_mem_cons.mpr ⟨lw_p97, List.forall_mem_cons.mpr ⟨lw_p98, List.forall_mem_cons.mpr ⟨lw_p99, List.forall_mem_cons.mpr ⟨lw_p100, List.forall_mem_cons.mpr ⟨lw_p101, List.forall_mem_cons.mpr ⟨lw_p102, List.forall_mem_cons.mpr ⟨lw_p103, List.forall_mem_cons.mpr ⟨lw_p104, List.forall_mem_cons.mpr ⟨lw_p105, List.forall_mem_cons.mpr ⟨lw_p106, List.forall_mem_cons.mpr ⟨lw_p107, List.forall_mem_cons.mpr ⟨lw_p108, List.forall_mem_cons.mpr ⟨lw_p109, List.forall_mem_cons.mpr ⟨lw_p110, List.forall_mem_cons.mpr ⟨lw_p111, fun _ h => absurd h List.not_mem_nil⟩⟩⟩⟩⟩⟩⟩⟩⟩⟩⟩⟩⟩⟩⟩⟩
theorem lw_p112 : lw_okq (⟨"LongModeCoreModel", "load", "(JIZ)J"⟩, 38) := ⟨⟨by decide +kernel, by decide +kernel⟩, List.mem_of_getElem? (i := 920) (by decide +kernel), List.mem_of_getElem? (i := 1303) (by decide +kernel), List.mem_of_getElem? (i := 1304) (by decide +kernel)⟩
theorem lw_p113 : lw_okq (⟨"LongModeCoreModel", "group", "(II)V"⟩, 38) := ⟨⟨by decide +kernel, by decide +kernel⟩, List.mem_of_getElem? (i := 920) (by decide +kernel), List.mem_of_getElem? (i := 1307) (by decide +kernel), List.mem_of_getElem? (i := 1308) (by decide +kernel)⟩
theorem lw_p114 : lw_okq (⟨"LongModeCoreModel", "move", "(II)V"⟩, 38) := ⟨⟨by decide +kernel, by decide +kernel⟩, List.mem_of_getElem? (i := 920) (by decide +kernel), List.mem_of_getElem? (i := 1311) (by decide +kernel), List.mem_of_getElem? (i := 1312) (by decide +kernel)⟩
theorem lw_p115 : lw_okq (⟨"LongModeCoreModel", "turn", "(I)V"⟩, 38) := ⟨⟨by decide +kernel, by decide +kernel⟩, List.mem_of_getElem? (i := 920) (by decide +kernel), List.mem_of_getElem? (i := 1315) (by decide +kernel), List.mem_of_getElem? (i := 1316) (by decide +kernel)⟩
theorem lw_p116 : lw_okq (⟨"LongModeCoreModel", "string", "(II)V"⟩, 38) := ⟨⟨by decide +kernel, by decide +kernel⟩, List.mem_of_getElem? (i := 920) (by decide +kernel), List.mem_of_getElem? (i := 1319) (by decide +kernel), List.mem_of_getElem? (i := 1320) (by decide +kernel)⟩
theorem lw_p117 : lw_okq (⟨"LongModeCoreModel", "immediate", "(I)V"⟩, 38) := ⟨⟨by decide +kernel, by decide +kernel⟩, List.mem_of_getElem? (i := 920) (by decide +kernel), List.mem_of_getElem? (i := 1323) (by decide +kernel), List.mem_of_getElem? (i := 1324) (by decide +kernel)⟩
theorem lw_p118 : lw_okq (⟨"LongModeCoreModel", "shift", "(II)V"⟩, 38) := ⟨⟨by decide +kernel, by decide +kernel⟩, List.mem_of_getElem? (i := 920) (by decide +kernel), List.mem_of_getElem? (i := 1327) (by decide +kernel), List.mem_of_getElem? (i := 1328) (by decide +kernel)⟩
theorem lw_p119 : lw_okq (⟨"LongModeCoreModel", "rotated", "(JII)J"⟩, 38) := ⟨⟨by decide +kernel, by decide +kernel⟩, List.mem_of_getElem? (i := 920) (by decide +kernel), List.mem_of_getElem? (i := 1331) (by decide +kernel), List.mem_of_getElem? (i := 1332) (by decide +kernel)⟩
theorem lw_p120 : lw_okq (⟨"LongModeCoreModel", "leftBy", "(JZI)J"⟩, 38) := ⟨⟨by decide +kernel, by decide +kernel⟩, List.mem_of_getElem? (i := 920) (by decide +kernel), List.mem_of_getElem? (i := 1335) (by decide +kernel), List.mem_of_getElem? (i := 1336) (by decide +kernel)⟩
theorem lw_p121 : lw_okq (⟨"LongModeCoreModel", "rightBy", "(JZI)J"⟩, 38) := ⟨⟨by decide +kernel, by decide +kernel⟩, List.mem_of_getElem? (i := 920) (by decide +kernel), List.mem_of_getElem? (i := 1339) (by decide +kernel), List.mem_of_getElem? (i := 1340) (by decide +kernel)⟩
theorem lw_p122 : lw_okq (⟨"LongModeCoreModel", "shifted", "(JII)J"⟩, 38) := ⟨⟨by decide +kernel, by decide +kernel⟩, List.mem_of_getElem? (i := 920) (by decide +kernel), List.mem_of_getElem? (i := 1343) (by decide +kernel), List.mem_of_getElem? (i := 1344) (by decide +kernel)⟩
theorem lw_p123 : lw_okq (⟨"LongModeCoreModel", "loop", "(I)V"⟩, 38) := ⟨⟨by decide +kernel, by decide +kernel⟩, List.mem_of_getElem? (i := 920) (by decide +kernel), List.mem_of_getElem? (i := 1347) (by decide +kernel), List.mem_of_getElem? (i := 1348) (by decide +kernel)⟩
theorem lw_p124 : lw_okq (⟨"LongModeCoreModel", "unary", "(I)V"⟩, 38) := ⟨⟨by decide +kernel, by decide +kernel⟩, List.mem_of_getElem? (i := 920) (by decide +kernel), List.mem_of_getElem? (i := 1351) (by decide +kernel), List.mem_of_getElem? (i := 1352) (by decide +kernel)⟩
theorem lw_p125 : lw_okq (⟨"LongModeCoreModel", "multiplyOperand", "(JIZ)V"⟩, 38) := ⟨⟨by decide +kernel, by decide +kernel⟩, List.mem_of_getElem? (i := 920) (by decide +kernel), List.mem_of_getElem? (i := 1355) (by decide +kernel), List.mem_of_getElem? (i := 1356) (by decide +kernel)⟩
theorem lw_p126 : lw_okq (⟨"LongModeCoreModel", "divide", "(JIZ)V"⟩, 38) := ⟨⟨by decide +kernel, by decide +kernel⟩, List.mem_of_getElem? (i := 920) (by decide +kernel), List.mem_of_getElem? (i := 1359) (by decide +kernel), List.mem_of_getElem? (i := 1360) (by decide +kernel)⟩
theorem lw_p127 : lw_okq (⟨"LongModeCoreModel", "quotient", "(JI)Z"⟩, 38) := ⟨⟨by decide +kernel, by decide +kernel⟩, List.mem_of_getElem? (i := 920) (by decide +kernel), List.mem_of_getElem? (i := 1363) (by decide +kernel), List.mem_of_getElem? (i := 1364) (by decide +kernel)⟩
def lw_privs_8 : List (MethodName × Nat) := [(⟨"LongModeCoreModel", "load", "(JIZ)J"⟩, 38), (⟨"LongModeCoreModel", "group", "(II)V"⟩, 38), (⟨"LongModeCoreModel", "move", "(II)V"⟩, 38), (⟨"LongModeCoreModel", "turn", "(I)V"⟩, 38), (⟨"LongModeCoreModel", "string", "(II)V"⟩, 38), (⟨"LongModeCoreModel", "immediate", "(I)V"⟩, 38), (⟨"LongModeCoreModel", "shift", "(II)V"⟩, 38), (⟨"LongModeCoreModel", "rotated", "(JII)J"⟩, 38), (⟨"LongModeCoreModel", "leftBy", "(JZI)J"⟩, 38), (⟨"LongModeCoreModel", "rightBy", "(JZI)J"⟩, 38), (⟨"LongModeCoreModel", "shifted", "(JII)J"⟩, 38), (⟨"LongModeCoreModel", "loop", "(I)V"⟩, 38), (⟨"LongModeCoreModel", "unary", "(I)V"⟩, 38), (⟨"LongModeCoreModel", "multiplyOperand", "(JIZ)V"⟩, 38), (⟨"LongModeCoreModel", "divide", "(JIZ)V"⟩, 38), (⟨"LongModeCoreModel", "quotient", "(JI)Z"⟩, 38)]
theorem lw_r8 : ∀ q ∈ lw_privs_8, lw_okq q := List.forall_mem_cons.mpr ⟨lw_p112, List.forall_mem_cons.mpr ⟨lw_p113, List.forall_mem_cons.mpr ⟨lw_p114, List.forall_mem_cons.mpr ⟨lw_p115, List.forall_mem_cons.mpr ⟨lw_p116, List.forall_mem_cons.mpr ⟨lw_p117, List.forall_mem_cons.mpr ⟨lw_p118, List.forall_mem_cons.mpr ⟨lw_p119, List.forall_mem_cons.mpr ⟨lw_p120, List.forall_mem_cons.mpr ⟨lw_p121, List.forall_mem_cons.mpr ⟨lw_p122, List.forall_mem_cons.mpr ⟨lw_p123, List.forall_mem_cons.mpr ⟨lw_p124, List.forall_mem_cons.mpr ⟨lw_p125, List.forall_mem_cons.mpr ⟨lw_p126, List.forall_mem_cons.mpr ⟨lw_p127, fun _ h => absurd h List.not_mem_nil⟩⟩⟩⟩⟩⟩⟩⟩⟩⟩⟩⟩⟩⟩⟩⟩
theorem lw_p128 : lw_okq (⟨"LongModeCoreModel", "more", "(I)V"⟩, 38) := ⟨⟨by decide +kernel, by decide +kernel⟩, List.mem_of_getElem? (i := 920) (by decide +kernel), List.mem_of_getElem? (i := 1368) (by decide +kernel), List.mem_of_getElem? (i := 1369) (by decide +kernel)⟩
theorem lw_p129 : lw_okq (⟨"LongModeCoreModel", "others", "(II)V"⟩, 38) := ⟨⟨by decide +kernel, by decide +kernel⟩, List.mem_of_getElem? (i := 920) (by decide +kernel), List.mem_of_getElem? (i := 1372) (by decide +kernel), List.mem_of_getElem? (i := 1373) (by decide +kernel)⟩
theorem lw_p130 : lw_okq (⟨"LongModeCoreModel", "pushNumber", "(I)V"⟩, 38) := ⟨⟨by decide +kernel, by decide +kernel⟩, List.mem_of_getElem? (i := 920) (by decide +kernel), List.mem_of_getElem? (i := 1376) (by decide +kernel), List.mem_of_getElem? (i := 1377) (by decide +kernel)⟩
theorem lw_p131 : lw_okq (⟨"LongModeCoreModel", "address", "()V"⟩, 38) := ⟨⟨by decide +kernel, by decide +kernel⟩, List.mem_of_getElem? (i := 920) (by decide +kernel), List.mem_of_getElem? (i := 1380) (by decide +kernel), List.mem_of_getElem? (i := 1381) (by decide +kernel)⟩
theorem lw_p132 : lw_okq (⟨"LongModeCoreModel", "popOperand", "()V"⟩, 38) := ⟨⟨by decide +kernel, by decide +kernel⟩, List.mem_of_getElem? (i := 920) (by decide +kernel), List.mem_of_getElem? (i := 1384) (by decide +kernel), List.mem_of_getElem? (i := 1385) (by decide +kernel)⟩
theorem lw_p133 : lw_okq (⟨"LongModeCoreModel", "testNumber", "(I)V"⟩, 38) := ⟨⟨by decide +kernel, by decide +kernel⟩, List.mem_of_getElem? (i := 920) (by decide +kernel), List.mem_of_getElem? (i := 1388) (by decide +kernel), List.mem_of_getElem? (i := 1389) (by decide +kernel)⟩
theorem lw_p134 : lw_okq (⟨"LongModeCoreModel", "returns", "(I)V"⟩, 38) := ⟨⟨by decide +kernel, by decide +kernel⟩, List.mem_of_getElem? (i := 920) (by decide +kernel), List.mem_of_getElem? (i := 1392) (by decide +kernel), List.mem_of_getElem? (i := 1393) (by decide +kernel)⟩
theorem lw_p135 : lw_okq (⟨"LongModeCoreModel", "moveNumber", "(I)V"⟩, 38) := ⟨⟨by decide +kernel, by decide +kernel⟩, List.mem_of_getElem? (i := 920) (by decide +kernel), List.mem_of_getElem? (i := 1396) (by decide +kernel), List.mem_of_getElem? (i := 1397) (by decide +kernel)⟩
theorem lw_p136 : lw_okq (⟨"LongModeCoreModel", "leaveFrame", "()V"⟩, 38) := ⟨⟨by decide +kernel, by decide +kernel⟩, List.mem_of_getElem? (i := 920) (by decide +kernel), List.mem_of_getElem? (i := 1400) (by decide +kernel), List.mem_of_getElem? (i := 1401) (by decide +kernel)⟩
theorem lw_p137 : lw_okq (⟨"LongModeCoreModel", "far", "(I)V"⟩, 38) := ⟨⟨by decide +kernel, by decide +kernel⟩, List.mem_of_getElem? (i := 920) (by decide +kernel), List.mem_of_getElem? (i := 1404) (by decide +kernel), List.mem_of_getElem? (i := 1405) (by decide +kernel)⟩
def lw_privs_9 : List (MethodName × Nat) := [(⟨"LongModeCoreModel", "more", "(I)V"⟩, 38), (⟨"LongModeCoreModel", "others", "(II)V"⟩, 38), (⟨"LongModeCoreModel", "pushNumber", "(I)V"⟩, 38), (⟨"LongModeCoreModel", "address", "()V"⟩, 38), (⟨"LongModeCoreModel", "popOperand", "()V"⟩, 38), (⟨"LongModeCoreModel", "testNumber", "(I)V"⟩, 38), (⟨"LongModeCoreModel", "returns", "(I)V"⟩, 38), (⟨"LongModeCoreModel", "moveNumber", "(I)V"⟩, 38), (⟨"LongModeCoreModel", "leaveFrame", "()V"⟩, 38), (⟨"LongModeCoreModel", "far", "(I)V"⟩, 38)]
theorem lw_r9 : ∀ q ∈ lw_privs_9, lw_okq q := List.forall_mem_cons.mpr ⟨lw_p128, List.forall_mem_cons.mpr ⟨lw_p129, List.forall_mem_cons.mpr ⟨lw_p130, List.forall_mem_cons.mpr ⟨lw_p131, List.forall_mem_cons.mpr ⟨lw_p132, List.forall_mem_cons.mpr ⟨lw_p133, List.forall_mem_cons.mpr ⟨lw_p134, List.forall_mem_cons.mpr ⟨lw_p135, List.forall_mem_cons.mpr ⟨lw_p136, List.forall_mem_cons.mpr ⟨lw_p137, fun _ h => absurd h List.not_mem_nil⟩⟩⟩⟩⟩⟩⟩⟩⟩⟩
def lw_privs : List (MethodName × Nat) := lw_privs_1 ++ (lw_privs_2 ++ (lw_privs_3 ++ (lw_privs_4 ++ (lw_privs_5 ++ (lw_privs_6 ++ (lw_privs_7 ++ (lw_privs_8 ++ (lw_privs_9))))))))
def lw_tbl : List Cond := k2_sels lw_privs ++ tables_1
theorem lw_privs_ok : ∀ q ∈ lw_privs, lw_okq q := by
  show ∀ q ∈ lw_privs_1 ++ (lw_privs_2 ++ (lw_privs_3 ++ (lw_privs_4 ++ (lw_privs_5 ++ (lw_privs_6 ++ (lw_privs_7 ++ (lw_privs_8 ++ (lw_privs_9)))))))), lw_okq q
  exact List.forall_mem_append.mpr ⟨lw_r1, List.forall_mem_append.mpr ⟨lw_r2, List.forall_mem_append.mpr ⟨lw_r3, List.forall_mem_append.mpr ⟨lw_r4, List.forall_mem_append.mpr ⟨lw_r5, List.forall_mem_append.mpr ⟨lw_r6, List.forall_mem_append.mpr ⟨lw_r7, List.forall_mem_append.mpr ⟨lw_r8, lw_r9⟩⟩⟩⟩⟩⟩⟩⟩
end
section
/-! names, by program (wip/gen) out of claim/JAVAP.txt and the tables -/
def z_tbl : List Cond := lw_tbl.filter goodWord
theorem z_at {k : Nat} {w : Cond} (h : tables_1[k]? = some w) (g : goodWord w = true) : w ∈ z_tbl := List.mem_filter.mpr ⟨List.mem_append_right _ (List.mem_of_getElem? h), g⟩
theorem z_ap {k : Nat} {w : Cond} (h : (k2_sels lw_privs)[k]? = some w) (g : goodWord w = true) : w ∈ z_tbl := List.mem_filter.mpr ⟨List.mem_append_left _ (List.mem_of_getElem? h), g⟩
def z_RCo : String := "LongModeCore"
def z_TCo : u_T := fun k => match k with
  | 0 => ("LongModeCore", "state", "LLongModeCore$State;", true)
  | 1 => ("LongModeCore", "pages", "LLongModeCore$Pages;", true)
  | 2 => ("LongModeCore", "decoder", "LLongModeCore$Decoder;", true)
  | 3 => ("LongModeCore", "operands", "LLongModeCore$Operands;", true)
  | 4 => ("LongModeCore", "flow", "LLongModeCore$Flow;", true)
  | 5 => ("LongModeCore", "strings", "LLongModeCore$Strings;", true)
  | 6 => ("LongModeCore", "oneByte", "LLongModeCore$OneByte;", true)
  | _ => ("LongModeCore", "twoByte", "LLongModeCore$TwoByte;", true)
def z_yCo : Nat → FieldType := fun k => match k with
  | 0 => .object "LongModeCore$State"
  | 1 => .object "LongModeCore$Pages"
  | 2 => .object "LongModeCore$Decoder"
  | 3 => .object "LongModeCore$Operands"
  | 4 => .object "LongModeCore$Flow"
  | 5 => .object "LongModeCore$Strings"
  | 6 => .object "LongModeCore$OneByte"
  | _ => .object "LongModeCore$TwoByte"
theorem z_nCo : ∀ a, a < 8 → ∀ b, b < 8 → a ≠ b → (z_TCo a).2.1 ≠ (z_TCo b).2.1 := by decide +kernel
theorem z_kCo : ∀ k, k < 8 → parseFieldDescriptor (z_TCo k).2.2.1 = some (z_yCo k) := by decide +kernel
theorem z_iCo : ∀ w ∈ u_ws z_RCo z_TCo 8, w ∈ z_tbl := by decide +kernel
def z_RAr : String := "LongModeCore$Arithmetic"
def z_TAr : u_T := fun k => match k with
  | _ => ("LongModeCore$Arithmetic", "state", "LLongModeCore$State;", true)
def z_yAr : Nat → FieldType := fun k => match k with
  | _ => .object "LongModeCore$State"
theorem z_nAr : ∀ a, a < 1 → ∀ b, b < 1 → a ≠ b → (z_TAr a).2.1 ≠ (z_TAr b).2.1 := by decide +kernel
theorem z_kAr : ∀ k, k < 1 → parseFieldDescriptor (z_TAr k).2.2.1 = some (z_yAr k) := by decide +kernel
theorem z_iAr : ∀ w ∈ u_ws z_RAr z_TAr 1, w ∈ z_tbl := by decide +kernel
def z_RDe : String := "LongModeCore$Decoder"
def z_TDe : u_T := fun k => match k with
  | 0 => ("LongModeCore$Decoder", "state", "LLongModeCore$State;", true)
  | 1 => ("LongModeCore$Decoder", "pages", "LLongModeCore$Pages;", true)
  | 2 => ("LongModeCore$Decoder", "count", "I", false)
  | 3 => ("LongModeCore$Decoder", "found", "J", false)
  | 4 => ("LongModeCore$Decoder", "last", "I", false)
  | 5 => ("LongModeCore$Decoder", "fetched", "J", false)
  | 6 => ("LongModeCore$Decoder", "shortened", "Z", false)
  | 7 => ("LongModeCore$Decoder", "rex", "I", false)
  | 8 => ("LongModeCore$Decoder", "base", "I", false)
  | 9 => ("LongModeCore$Decoder", "index", "I", false)
  | 10 => ("LongModeCore$Decoder", "scale", "I", false)
  | 11 => ("LongModeCore$Decoder", "displacement", "J", false)
  | 12 => ("LongModeCore$Decoder", "repeat", "I", false)
  | 13 => ("LongModeCore$Decoder", "opcode", "I", false)
  | 14 => ("LongModeCore$Decoder", "mod", "I", false)
  | 15 => ("LongModeCore$Decoder", "reg", "I", false)
  | 16 => ("LongModeCore$Decoder", "rm", "I", false)
  | 17 => ("LongModeCore$Decoder", "number", "J", false)
  | _ => ("LongModeCore$Decoder", "onward", "J", false)
def z_yDe : Nat → FieldType := fun k => match k with
  | 0 => .object "LongModeCore$State"
  | 1 => .object "LongModeCore$Pages"
  | 2 => .int
  | 3 => .long
  | 4 => .int
  | 5 => .long
  | 6 => .boolean
  | 7 => .int
  | 8 => .int
  | 9 => .int
  | 10 => .int
  | 11 => .long
  | 12 => .int
  | 13 => .int
  | 14 => .int
  | 15 => .int
  | 16 => .int
  | 17 => .long
  | _ => .long
theorem z_nDe : ∀ a, a < 19 → ∀ b, b < 19 → a ≠ b → (z_TDe a).2.1 ≠ (z_TDe b).2.1 := by decide +kernel
theorem z_kDe : ∀ k, k < 19 → parseFieldDescriptor (z_TDe k).2.2.1 = some (z_yDe k) := by decide +kernel
theorem z_iDe : ∀ w ∈ u_ws z_RDe z_TDe 19, w ∈ z_tbl := by decide +kernel
def z_RFl : String := "LongModeCore$Flow"
def z_TFl : u_T := fun k => match k with
  | 0 => ("LongModeCore$Flow", "state", "LLongModeCore$State;", true)
  | 1 => ("LongModeCore$Flow", "code", "LLongModeCore$Decoder;", true)
  | 2 => ("LongModeCore$Flow", "operands", "LLongModeCore$Operands;", true)
  | 3 => ("LongModeCore$Flow", "arithmetic", "LLongModeCore$Arithmetic;", true)
  | _ => ("LongModeCore$Flow", "top", "LLongModeCore$Span;", true)
def z_yFl : Nat → FieldType := fun k => match k with
  | 0 => .object "LongModeCore$State"
  | 1 => .object "LongModeCore$Decoder"
  | 2 => .object "LongModeCore$Operands"
  | 3 => .object "LongModeCore$Arithmetic"
  | _ => .object "LongModeCore$Span"
theorem z_nFl : ∀ a, a < 5 → ∀ b, b < 5 → a ≠ b → (z_TFl a).2.1 ≠ (z_TFl b).2.1 := by decide +kernel
theorem z_kFl : ∀ k, k < 5 → parseFieldDescriptor (z_TFl k).2.2.1 = some (z_yFl k) := by decide +kernel
theorem z_iFl : ∀ w ∈ u_ws z_RFl z_TFl 5, w ∈ z_tbl := by decide +kernel
def z_ROn : String := "LongModeCore$OneByte"
def z_TOn : u_T := fun k => match k with
  | 0 => ("LongModeCore$OneByte", "state", "LLongModeCore$State;", true)
  | 1 => ("LongModeCore$OneByte", "code", "LLongModeCore$Decoder;", true)
  | 2 => ("LongModeCore$OneByte", "operands", "LLongModeCore$Operands;", true)
  | 3 => ("LongModeCore$OneByte", "arithmetic", "LLongModeCore$Arithmetic;", true)
  | _ => ("LongModeCore$OneByte", "wide", "LLongModeCore$Wide;", true)
def z_yOn : Nat → FieldType := fun k => match k with
  | 0 => .object "LongModeCore$State"
  | 1 => .object "LongModeCore$Decoder"
  | 2 => .object "LongModeCore$Operands"
  | 3 => .object "LongModeCore$Arithmetic"
  | _ => .object "LongModeCore$Wide"
theorem z_nOn : ∀ a, a < 5 → ∀ b, b < 5 → a ≠ b → (z_TOn a).2.1 ≠ (z_TOn b).2.1 := by decide +kernel
theorem z_kOn : ∀ k, k < 5 → parseFieldDescriptor (z_TOn k).2.2.1 = some (z_yOn k) := by decide +kernel
theorem z_iOn : ∀ w ∈ u_ws z_ROn z_TOn 5, w ∈ z_tbl := by decide +kernel
def z_ROp : String := "LongModeCore$Operands"
def z_TOp : u_T := fun k => match k with
  | 0 => ("LongModeCore$Operands", "state", "LLongModeCore$State;", true)
  | 1 => ("LongModeCore$Operands", "code", "LLongModeCore$Decoder;", true)
  | 2 => ("LongModeCore$Operands", "span", "LLongModeCore$Span;", true)
  | _ => ("LongModeCore$Operands", "bytes", "I", false)
def z_yOp : Nat → FieldType := fun k => match k with
  | 0 => .object "LongModeCore$State"
  | 1 => .object "LongModeCore$Decoder"
  | 2 => .object "LongModeCore$Span"
  | _ => .int
theorem z_nOp : ∀ a, a < 4 → ∀ b, b < 4 → a ≠ b → (z_TOp a).2.1 ≠ (z_TOp b).2.1 := by decide +kernel
theorem z_kOp : ∀ k, k < 4 → parseFieldDescriptor (z_TOp k).2.2.1 = some (z_yOp k) := by decide +kernel
theorem z_iOp : ∀ w ∈ u_ws z_ROp z_TOp 4, w ∈ z_tbl := by decide +kernel
def z_RPa : String := "LongModeCore$Pages"
def z_TPa : u_T := fun k => match k with
  | 0 => ("LongModeCore$Pages", "state", "LLongModeCore$State;", true)
  | _ => ("LongModeCore$Pages", "words", "[J", true)
def z_yPa : Nat → FieldType := fun k => match k with
  | 0 => .object "LongModeCore$State"
  | _ => .array .long
theorem z_nPa : ∀ a, a < 2 → ∀ b, b < 2 → a ≠ b → (z_TPa a).2.1 ≠ (z_TPa b).2.1 := by decide +kernel
theorem z_kPa : ∀ k, k < 2 → parseFieldDescriptor (z_TPa k).2.2.1 = some (z_yPa k) := by decide +kernel
theorem z_iPa : ∀ w ∈ u_ws z_RPa z_TPa 2, w ∈ z_tbl := by decide +kernel
def z_RSp : String := "LongModeCore$Span"
def z_TSp : u_T := fun k => match k with
  | 0 => ("LongModeCore$Span", "pages", "LLongModeCore$Pages;", true)
  | 1 => ("LongModeCore$Span", "at", "[J", true)
  | _ => ("LongModeCore$Span", "length", "I", false)
def z_ySp : Nat → FieldType := fun k => match k with
  | 0 => .object "LongModeCore$Pages"
  | 1 => .array .long
  | _ => .int
theorem z_nSp : ∀ a, a < 3 → ∀ b, b < 3 → a ≠ b → (z_TSp a).2.1 ≠ (z_TSp b).2.1 := by decide +kernel
theorem z_kSp : ∀ k, k < 3 → parseFieldDescriptor (z_TSp k).2.2.1 = some (z_ySp k) := by decide +kernel
theorem z_iSp : ∀ w ∈ u_ws z_RSp z_TSp 3, w ∈ z_tbl := by decide +kernel
def z_RSt : String := "LongModeCore$State"
def z_TSt : u_T := fun k => match k with
  | 0 => ("LongModeCore$State", "registers", "[J", true)
  | 1 => ("LongModeCore$State", "next", "J", false)
  | 2 => ("LongModeCore$State", "table", "J", false)
  | 3 => ("LongModeCore$State", "entry", "J", false)
  | 4 => ("LongModeCore$State", "mask", "J", false)
  | 5 => ("LongModeCore$State", "undefined", "J", false)
  | 6 => ("LongModeCore$State", "fault", "J", false)
  | 7 => ("LongModeCore$State", "flags", "I", false)
  | 8 => ("LongModeCore$State", "code", "I", false)
  | _ => ("LongModeCore$State", "user", "Z", false)
def z_ySt : Nat → FieldType := fun k => match k with
  | 0 => .array .long
  | 1 => .long
  | 2 => .long
  | 3 => .long
  | 4 => .long
  | 5 => .long
  | 6 => .long
  | 7 => .int
  | 8 => .int
  | _ => .boolean
theorem z_nSt : ∀ a, a < 10 → ∀ b, b < 10 → a ≠ b → (z_TSt a).2.1 ≠ (z_TSt b).2.1 := by decide +kernel
theorem z_kSt : ∀ k, k < 10 → parseFieldDescriptor (z_TSt k).2.2.1 = some (z_ySt k) := by decide +kernel
theorem z_iSt : ∀ w ∈ u_ws z_RSt z_TSt 10, w ∈ z_tbl := by decide +kernel
def z_RSr : String := "LongModeCore$Strings"
def z_TSr : u_T := fun k => match k with
  | 0 => ("LongModeCore$Strings", "state", "LLongModeCore$State;", true)
  | 1 => ("LongModeCore$Strings", "code", "LLongModeCore$Decoder;", true)
  | 2 => ("LongModeCore$Strings", "operands", "LLongModeCore$Operands;", true)
  | 3 => ("LongModeCore$Strings", "arithmetic", "LLongModeCore$Arithmetic;", true)
  | 4 => ("LongModeCore$Strings", "source", "LLongModeCore$Span;", true)
  | _ => ("LongModeCore$Strings", "goal", "LLongModeCore$Span;", true)
def z_ySr : Nat → FieldType := fun k => match k with
  | 0 => .object "LongModeCore$State"
  | 1 => .object "LongModeCore$Decoder"
  | 2 => .object "LongModeCore$Operands"
  | 3 => .object "LongModeCore$Arithmetic"
  | 4 => .object "LongModeCore$Span"
  | _ => .object "LongModeCore$Span"
theorem z_nSr : ∀ a, a < 6 → ∀ b, b < 6 → a ≠ b → (z_TSr a).2.1 ≠ (z_TSr b).2.1 := by decide +kernel
theorem z_kSr : ∀ k, k < 6 → parseFieldDescriptor (z_TSr k).2.2.1 = some (z_ySr k) := by decide +kernel
theorem z_iSr : ∀ w ∈ u_ws z_RSr z_TSr 6, w ∈ z_tbl := by decide +kernel
def z_RTw : String := "LongModeCore$TwoByte"
def z_TTw : u_T := fun k => match k with
  | 0 => ("LongModeCore$TwoByte", "code", "LLongModeCore$Decoder;", true)
  | 1 => ("LongModeCore$TwoByte", "operands", "LLongModeCore$Operands;", true)
  | 2 => ("LongModeCore$TwoByte", "arithmetic", "LLongModeCore$Arithmetic;", true)
  | _ => ("LongModeCore$TwoByte", "wide", "LLongModeCore$Wide;", true)
def z_yTw : Nat → FieldType := fun k => match k with
  | 0 => .object "LongModeCore$Decoder"
  | 1 => .object "LongModeCore$Operands"
  | 2 => .object "LongModeCore$Arithmetic"
  | _ => .object "LongModeCore$Wide"
theorem z_nTw : ∀ a, a < 4 → ∀ b, b < 4 → a ≠ b → (z_TTw a).2.1 ≠ (z_TTw b).2.1 := by decide +kernel
theorem z_kTw : ∀ k, k < 4 → parseFieldDescriptor (z_TTw k).2.2.1 = some (z_yTw k) := by decide +kernel
theorem z_iTw : ∀ w ∈ u_ws z_RTw z_TTw 4, w ∈ z_tbl := by decide +kernel
def z_RWi : String := "LongModeCore$Wide"
def z_TWi : u_T := fun k => match k with
  | 0 => ("LongModeCore$Wide", "arithmetic", "LLongModeCore$Arithmetic;", true)
  | 1 => ("LongModeCore$Wide", "low", "J", false)
  | _ => ("LongModeCore$Wide", "high", "J", false)
def z_yWi : Nat → FieldType := fun k => match k with
  | 0 => .object "LongModeCore$Arithmetic"
  | 1 => .long
  | _ => .long
theorem z_nWi : ∀ a, a < 3 → ∀ b, b < 3 → a ≠ b → (z_TWi a).2.1 ≠ (z_TWi b).2.1 := by decide +kernel
theorem z_kWi : ∀ k, k < 3 → parseFieldDescriptor (z_TWi k).2.2.1 = some (z_yWi k) := by decide +kernel
theorem z_iWi : ∀ w ∈ u_ws z_RWi z_TWi 3, w ∈ z_tbl := by decide +kernel
def z_RMo : String := "LongModeCoreModel"
def z_TMo : u_T := fun k => match k with
  | 0 => ("LongModeCoreModel", "memory", "[B", true)
  | 1 => ("LongModeCoreModel", "\x72", "[J", true)
  | 2 => ("LongModeCoreModel", "old", "[J", true)
  | 3 => ("LongModeCoreModel", "next", "J", false)
  | 4 => ("LongModeCoreModel", "table", "J", false)
  | 5 => ("LongModeCoreModel", "entryPlace", "J", false)
  | 6 => ("LongModeCoreModel", "mask", "J", false)
  | 7 => ("LongModeCoreModel", "undefined", "J", false)
  | 8 => ("LongModeCoreModel", "fault", "J", false)
  | 9 => ("LongModeCoreModel", "code", "I", false)
  | 10 => ("LongModeCoreModel", "lookCode", "I", false)
  | 11 => ("LongModeCoreModel", "user", "Z", false)
  | 12 => ("LongModeCoreModel", "oldUser", "Z", false)
  | 13 => ("LongModeCoreModel", "flag", "[Z", true)
  | 14 => ("LongModeCoreModel", "oldFlag", "[Z", true)
  | 15 => ("LongModeCoreModel", "refused", "I", false)
  | 16 => ("LongModeCoreModel", "waitAt", "[J", true)
  | 17 => ("LongModeCoreModel", "waitByte", "[I", true)
  | 18 => ("LongModeCoreModel", "waits", "I", false)
  | 19 => ("LongModeCoreModel", "lies", "[J", true)
  | 20 => ("LongModeCoreModel", "length", "I", false)
  | 21 => ("LongModeCoreModel", "mod", "I", false)
  | 22 => ("LongModeCoreModel", "reg", "I", false)
  | 23 => ("LongModeCoreModel", "rm", "I", false)
  | 24 => ("LongModeCoreModel", "rex", "I", false)
  | 25 => ("LongModeCoreModel", "repeat", "I", false)
  | 26 => ("LongModeCoreModel", "scale", "I", false)
  | 27 => ("LongModeCoreModel", "base", "I", false)
  | 28 => ("LongModeCoreModel", "index", "I", false)
  | 29 => ("LongModeCoreModel", "opcode", "I", false)
  | 30 => ("LongModeCoreModel", "small", "Z", false)
  | 31 => ("LongModeCoreModel", "relative", "Z", false)
  | 32 => ("LongModeCoreModel", "two", "Z", false)
  | 33 => ("LongModeCoreModel", "displacement", "J", false)
  | 34 => ("LongModeCoreModel", "goes", "J", false)
  | 35 => ("LongModeCoreModel", "low", "J", false)
  | 36 => ("LongModeCoreModel", "high", "J", false)
  | _ => ("LongModeCoreModel", "went", "Z", false)
def z_yMo : Nat → FieldType := fun k => match k with
  | 0 => .array .byte
  | 1 => .array .long
  | 2 => .array .long
  | 3 => .long
  | 4 => .long
  | 5 => .long
  | 6 => .long
  | 7 => .long
  | 8 => .long
  | 9 => .int
  | 10 => .int
  | 11 => .boolean
  | 12 => .boolean
  | 13 => .array .boolean
  | 14 => .array .boolean
  | 15 => .int
  | 16 => .array .long
  | 17 => .array .int
  | 18 => .int
  | 19 => .array .long
  | 20 => .int
  | 21 => .int
  | 22 => .int
  | 23 => .int
  | 24 => .int
  | 25 => .int
  | 26 => .int
  | 27 => .int
  | 28 => .int
  | 29 => .int
  | 30 => .boolean
  | 31 => .boolean
  | 32 => .boolean
  | 33 => .long
  | 34 => .long
  | 35 => .long
  | 36 => .long
  | _ => .boolean
theorem z_nMo : ∀ a, a < 38 → ∀ b, b < 38 → a ≠ b → (z_TMo a).2.1 ≠ (z_TMo b).2.1 := by decide +kernel
theorem z_kMo : ∀ k, k < 38 → parseFieldDescriptor (z_TMo k).2.2.1 = some (z_yMo k) := by decide +kernel
theorem z_iMo : ∀ w ∈ u_ws z_RMo z_TMo 38, w ∈ z_tbl := by decide +kernel
abbrev vwCl : List vw_C := [(z_RCo, z_TCo, 8), (z_RAr, z_TAr, 1), (z_RDe, z_TDe, 19), (z_RFl, z_TFl, 5), (z_ROn, z_TOn, 5), (z_ROp, z_TOp, 4), (z_RPa, z_TPa, 2), (z_RSp, z_TSp, 3), (z_RSt, z_TSt, 10), (z_RSr, z_TSr, 6), (z_RTw, z_TTw, 4), (z_RWi, z_TWi, 3), (z_RMo, z_TMo, 38)]
theorem z_allgood : ∀ w ∈ z_tbl, goodWord w = true := fun w h => (List.mem_filter.mp h).2
abbrev b_Co_init : ByteArray := prog_1_method_1_code
def y_Co_init : MethodName := ⟨z_RCo, "<init>", "()V"⟩
abbrev b_Co_store : ByteArray := prog_1_method_2_code
def y_Co_store : MethodName := ⟨z_RCo, "store", "(III)Z"⟩
abbrev b_Co_stored : ByteArray := prog_1_method_3_code
def y_Co_stored : MethodName := ⟨z_RCo, "stored", "(I)J"⟩
abbrev b_Co_set : ByteArray := prog_1_method_4_code
def y_Co_set : MethodName := ⟨z_RCo, "set", "(III)Z"⟩
abbrev b_Co_get : ByteArray := prog_1_method_5_code
def y_Co_get : MethodName := ⟨z_RCo, "get", "(I)J"⟩
abbrev b_Co_level : ByteArray := prog_1_method_6_code
def y_Co_level : MethodName := ⟨z_RCo, "level", "(Z)V"⟩
abbrev b_Co_step : ByteArray := prog_1_method_7_code
def y_Co_step : MethodName := ⟨z_RCo, "step", "()I"⟩
abbrev b_Co_run : ByteArray := prog_1_method_8_code
def y_Co_run : MethodName := ⟨z_RCo, "run", "(I)I"⟩
abbrev b_Co_look : ByteArray := prog_1_method_9_code
def y_Co_look : MethodName := ⟨z_RCo, "look", "(III)J"⟩
abbrev b_Co_joined : ByteArray := prog_1_method_10_code
def y_Co_joined : MethodName := ⟨z_RCo, "joined", "(II)J"⟩
abbrev b_Ar_init : ByteArray := prog_2_method_1_code
def y_Ar_init : MethodName := ⟨z_RAr, "<init>", "(LLongModeCore$State;)V"⟩
abbrev b_Ar_maskOf : ByteArray := prog_2_method_2_code
def y_Ar_maskOf : MethodName := ⟨z_RAr, "maskOf", "(I)J"⟩
abbrev b_Ar_signed : ByteArray := prog_2_method_3_code
def y_Ar_signed : MethodName := ⟨z_RAr, "signed", "(JI)J"⟩
abbrev b_Ar_settle : ByteArray := prog_2_method_4_code
def y_Ar_settle : MethodName := ⟨z_RAr, "settle", "(III)V"⟩
abbrev b_Ar_flagsOf : ByteArray := prog_2_method_5_code
def y_Ar_flagsOf : MethodName := ⟨z_RAr, "flagsOf", "(JI)I"⟩
abbrev b_Ar_settleSum : ByteArray := prog_2_method_6_code
def y_Ar_settleSum : MethodName := ⟨z_RAr, "settleSum", "(JJJI)J"⟩
abbrev b_Ar_sum : ByteArray := prog_2_method_7_code
def y_Ar_sum : MethodName := ⟨z_RAr, "sum", "(JJJI)J"⟩
abbrev b_Ar_difference : ByteArray := prog_2_method_8_code
def y_Ar_difference : MethodName := ⟨z_RAr, "difference", "(JJJI)J"⟩
abbrev b_Ar_neighbour : ByteArray := prog_2_method_9_code
def y_Ar_neighbour : MethodName := ⟨z_RAr, "neighbour", "(JZI)J"⟩
abbrev b_Ar_logic : ByteArray := prog_2_method_10_code
def y_Ar_logic : MethodName := ⟨z_RAr, "logic", "(JI)J"⟩
abbrev b_Ar_combine : ByteArray := prog_2_method_11_code
def y_Ar_combine : MethodName := ⟨z_RAr, "combine", "(IJJI)J"⟩
abbrev b_Ar_shift : ByteArray := prog_2_method_12_code
def y_Ar_shift : MethodName := ⟨z_RAr, "shift", "(IJII)J"⟩
abbrev b_Ar_rotate : ByteArray := prog_2_method_13_code
def y_Ar_rotate : MethodName := ⟨z_RAr, "rotate", "(ZJII)J"⟩
abbrev b_Ar_rotateThroughCarry : ByteArray := prog_2_method_14_code
def y_Ar_rotateThroughCarry : MethodName := ⟨z_RAr, "rotateThroughCarry", "(ZJII)J"⟩
abbrev b_Ar_settleRotation : ByteArray := prog_2_method_15_code
def y_Ar_settleRotation : MethodName := ⟨z_RAr, "settleRotation", "(ZJJII)V"⟩
abbrev b_Ar_shiftLeft : ByteArray := prog_2_method_16_code
def y_Ar_shiftLeft : MethodName := ⟨z_RAr, "shiftLeft", "(JII)J"⟩
abbrev b_Ar_shiftRight : ByteArray := prog_2_method_17_code
def y_Ar_shiftRight : MethodName := ⟨z_RAr, "shiftRight", "(JII)J"⟩
abbrev b_Ar_shiftSigned : ByteArray := prog_2_method_18_code
def y_Ar_shiftSigned : MethodName := ⟨z_RAr, "shiftSigned", "(JII)J"⟩
abbrev b_Ar_settleShift : ByteArray := prog_2_method_19_code
def y_Ar_settleShift : MethodName := ⟨z_RAr, "settleShift", "(JJJII)V"⟩
abbrev b_Ar_holds : ByteArray := prog_2_method_20_code
def y_Ar_holds : MethodName := ⟨z_RAr, "holds", "(I)Z"⟩
abbrev b_De_init : ByteArray := prog_3_method_1_code
def y_De_init : MethodName := ⟨z_RDe, "<init>", "(LLongModeCore$State;LLongModeCore$Pages;)V"⟩
abbrev b_De_decode : ByteArray := prog_3_method_2_code
def y_De_decode : MethodName := ⟨z_RDe, "decode", "()I"⟩
abbrev b_De_fetchOpcode : ByteArray := prog_3_method_3_code
def y_De_fetchOpcode : MethodName := ⟨z_RDe, "fetchOpcode", "()I"⟩
abbrev b_De_isPrefix : ByteArray := prog_3_method_4_code
def y_De_isPrefix : MethodName := ⟨z_RDe, "isPrefix", "(I)Z"⟩
abbrev b_De_takePrefix : ByteArray := prog_3_method_5_code
def y_De_takePrefix : MethodName := ⟨z_RDe, "takePrefix", "(I)V"⟩
abbrev b_De_formOfOne : ByteArray := prog_3_method_6_code
def y_De_formOfOne : MethodName := ⟨z_RDe, "formOfOne", "(I)I"⟩
abbrev b_De_formOfSum : ByteArray := prog_3_method_7_code
def y_De_formOfSum : MethodName := ⟨z_RDe, "formOfSum", "(I)I"⟩
abbrev b_De_formOfSingle : ByteArray := prog_3_method_8_code
def y_De_formOfSingle : MethodName := ⟨z_RDe, "formOfSingle", "(I)I"⟩
abbrev b_De_formOfTwo : ByteArray := prog_3_method_9_code
def y_De_formOfTwo : MethodName := ⟨z_RDe, "formOfTwo", "(I)I"⟩
abbrev b_De_isToldInSize : ByteArray := prog_3_method_10_code
def y_De_isToldInSize : MethodName := ⟨z_RDe, "isToldInSize", "(I)Z"⟩
abbrev b_De_fetchModrm : ByteArray := prog_3_method_11_code
def y_De_fetchModrm : MethodName := ⟨z_RDe, "fetchModrm", "()I"⟩
abbrev b_De_isToldWithModrm : ByteArray := prog_3_method_12_code
def y_De_isToldWithModrm : MethodName := ⟨z_RDe, "isToldWithModrm", "()Z"⟩
abbrev b_De_fetchPlace : ByteArray := prog_3_method_13_code
def y_De_fetchPlace : MethodName := ⟨z_RDe, "fetchPlace", "()I"⟩
abbrev b_De_bytesOfNumber : ByteArray := prog_3_method_14_code
def y_De_bytesOfNumber : MethodName := ⟨z_RDe, "bytesOfNumber", "(I)I"⟩
abbrev b_De_fetchNumber : ByteArray := prog_3_method_15_code
def y_De_fetchNumber : MethodName := ⟨z_RDe, "fetchNumber", "(I)I"⟩
abbrev b_De_fetch : ByteArray := prog_3_method_16_code
def y_De_fetch : MethodName := ⟨z_RDe, "fetch", "()I"⟩
abbrev b_De_extension : ByteArray := prog_3_method_17_code
def y_De_extension : MethodName := ⟨z_RDe, "extension", "(I)I"⟩
abbrev b_De_hasB : ByteArray := prog_3_method_18_code
def y_De_hasB : MethodName := ⟨z_RDe, "hasB", "()Z"⟩
abbrev b_De_sizeV : ByteArray := prog_3_method_19_code
def y_De_sizeV : MethodName := ⟨z_RDe, "sizeV", "()I"⟩
abbrev b_De_sizeOnStack : ByteArray := prog_3_method_20_code
def y_De_sizeOnStack : MethodName := ⟨z_RDe, "sizeOnStack", "()I"⟩
abbrev b_De_registerG : ByteArray := prog_3_method_21_code
def y_De_registerG : MethodName := ⟨z_RDe, "registerG", "()I"⟩
abbrev b_De_registerE : ByteArray := prog_3_method_22_code
def y_De_registerE : MethodName := ⟨z_RDe, "registerE", "()I"⟩
abbrev b_De_registerO : ByteArray := prog_3_method_23_code
def y_De_registerO : MethodName := ⟨z_RDe, "registerO", "()I"⟩
abbrev b_De_hasStackBase : ByteArray := prog_3_method_24_code
def y_De_hasStackBase : MethodName := ⟨z_RDe, "hasStackBase", "()Z"⟩
abbrev b_De_placeOfE : ByteArray := prog_3_method_25_code
def y_De_placeOfE : MethodName := ⟨z_RDe, "placeOfE", "(J)J"⟩
abbrev b_Fl_init : ByteArray := prog_4_method_1_code
def y_Fl_init : MethodName := ⟨z_RFl, "<init>", "(LLongModeCore$State;LLongModeCore$Decoder;LLongModeCore$Operands;LLongModeCore$Arithmetic;LLongModeCore$Span;)V"⟩
abbrev b_Fl_execute : ByteArray := prog_4_method_2_code
def y_Fl_execute : MethodName := ⟨z_RFl, "execute", "()I"⟩
abbrev b_Fl_jump : ByteArray := prog_4_method_3_code
def y_Fl_jump : MethodName := ⟨z_RFl, "jump", "(J)I"⟩
abbrev b_Fl_call : ByteArray := prog_4_method_4_code
def y_Fl_call : MethodName := ⟨z_RFl, "call", "(J)I"⟩
abbrev b_Fl_countDown : ByteArray := prog_4_method_5_code
def y_Fl_countDown : MethodName := ⟨z_RFl, "countDown", "()I"⟩
abbrev b_Fl_push : ByteArray := prog_4_method_6_code
def y_Fl_push : MethodName := ⟨z_RFl, "push", "(JI)I"⟩
abbrev b_Fl_findTop : ByteArray := prog_4_method_7_code
def y_Fl_findTop : MethodName := ⟨z_RFl, "findTop", "(I)I"⟩
abbrev b_Fl_popRegister : ByteArray := prog_4_method_8_code
def y_Fl_popRegister : MethodName := ⟨z_RFl, "popRegister", "(I)I"⟩
abbrev b_Fl_popMemory : ByteArray := prog_4_method_9_code
def y_Fl_popMemory : MethodName := ⟨z_RFl, "popMemory", "()I"⟩
abbrev b_Fl_popFlags : ByteArray := prog_4_method_10_code
def y_Fl_popFlags : MethodName := ⟨z_RFl, "popFlags", "()I"⟩
abbrev b_Fl_comeBack : ByteArray := prog_4_method_11_code
def y_Fl_comeBack : MethodName := ⟨z_RFl, "comeBack", "()I"⟩
abbrev b_Fl_leave : ByteArray := prog_4_method_12_code
def y_Fl_leave : MethodName := ⟨z_RFl, "leave", "()I"⟩
abbrev b_Fl_enterSystem : ByteArray := prog_4_method_13_code
def y_Fl_enterSystem : MethodName := ⟨z_RFl, "enterSystem", "()I"⟩
abbrev b_Fl_leaveSystem : ByteArray := prog_4_method_14_code
def y_Fl_leaveSystem : MethodName := ⟨z_RFl, "leaveSystem", "()I"⟩
abbrev b_On_init : ByteArray := prog_5_method_1_code
def y_On_init : MethodName := ⟨z_ROn, "<init>", "(LLongModeCore$State;LLongModeCore$Decoder;LLongModeCore$Operands;LLongModeCore$Arithmetic;LLongModeCore$Wide;)V"⟩
abbrev b_On_execute : ByteArray := prog_5_method_2_code
def y_On_execute : MethodName := ⟨z_ROn, "execute", "()I"⟩
abbrev b_On_sizeByOpcode : ByteArray := prog_5_method_3_code
def y_On_sizeByOpcode : MethodName := ⟨z_ROn, "sizeByOpcode", "()I"⟩
abbrev b_On_combine : ByteArray := prog_5_method_4_code
def y_On_combine : MethodName := ⟨z_ROn, "combine", "(II)V"⟩
abbrev b_On_changePlacesWithA : ByteArray := prog_5_method_5_code
def y_On_changePlacesWithA : MethodName := ⟨z_ROn, "changePlacesWithA", "()V"⟩
abbrev b_On_executeSingle : ByteArray := prog_5_method_6_code
def y_On_executeSingle : MethodName := ⟨z_ROn, "executeSingle", "(I)V"⟩
abbrev b_On_countOfShift : ByteArray := prog_5_method_7_code
def y_On_countOfShift : MethodName := ⟨z_ROn, "countOfShift", "()I"⟩
abbrev b_On_move : ByteArray := prog_5_method_8_code
def y_On_move : MethodName := ⟨z_ROn, "move", "(I)V"⟩
abbrev b_On_executeByReg : ByteArray := prog_5_method_9_code
def y_On_executeByReg : MethodName := ⟨z_ROn, "executeByReg", "()I"⟩
abbrev b_On_divideBy : ByteArray := prog_5_method_10_code
def y_On_divideBy : MethodName := ⟨z_ROn, "divideBy", "(JI)I"⟩
abbrev b_On_putHalves : ByteArray := prog_5_method_11_code
def y_On_putHalves : MethodName := ⟨z_ROn, "putHalves", "(I)V"⟩
abbrev b_Op_init : ByteArray := prog_6_method_1_code
def y_Op_init : MethodName := ⟨z_ROp, "<init>", "(LLongModeCore$State;LLongModeCore$Decoder;LLongModeCore$Span;)V"⟩
abbrev b_Op_open : ByteArray := prog_6_method_2_code
def y_Op_open : MethodName := ⟨z_ROp, "open", "()I"⟩
abbrev b_Op_openAt : ByteArray := prog_6_method_3_code
def y_Op_openAt : MethodName := ⟨z_ROp, "openAt", "(JZ)I"⟩
abbrev b_Op_bytesOfE : ByteArray := prog_6_method_4_code
def y_Op_bytesOfE : MethodName := ⟨z_ROp, "bytesOfE", "()I"⟩
abbrev b_Op_isWritten : ByteArray := prog_6_method_5_code
def y_Op_isWritten : MethodName := ⟨z_ROp, "isWritten", "()Z"⟩
abbrev b_Op_isOnStack : ByteArray := prog_6_method_6_code
def y_Op_isOnStack : MethodName := ⟨z_ROp, "isOnStack", "()Z"⟩
abbrev b_Op_bitDistance : ByteArray := prog_6_method_7_code
def y_Op_bitDistance : MethodName := ⟨z_ROp, "bitDistance", "()J"⟩
abbrev b_Op_value : ByteArray := prog_6_method_8_code
def y_Op_value : MethodName := ⟨z_ROp, "value", "()J"⟩
abbrev b_Op_put : ByteArray := prog_6_method_9_code
def y_Op_put : MethodName := ⟨z_ROp, "put", "(J)V"⟩
abbrev b_Op_g : ByteArray := prog_6_method_10_code
def y_Op_g : MethodName := ⟨z_ROp, "g", "(I)J"⟩
abbrev b_Op_putG : ByteArray := prog_6_method_11_code
def y_Op_putG : MethodName := ⟨z_ROp, "putG", "(JI)V"⟩
abbrev b_Op_part : ByteArray := prog_6_method_12_code
def y_Op_part : MethodName := ⟨z_ROp, "part", "(II)J"⟩
abbrev b_Op_putPart : ByteArray := prog_6_method_13_code
def y_Op_putPart : MethodName := ⟨z_ROp, "putPart", "(IJI)V"⟩
abbrev b_Op_isUpperByte : ByteArray := prog_6_method_14_code
def y_Op_isUpperByte : MethodName := ⟨z_ROp, "isUpperByte", "(II)Z"⟩
abbrev b_Pa_init : ByteArray := prog_7_method_1_code
def y_Pa_init : MethodName := ⟨z_RPa, "<init>", "(LLongModeCore$State;)V"⟩
abbrev b_Pa_byteAt : ByteArray := prog_7_method_2_code
def y_Pa_byteAt : MethodName := ⟨z_RPa, "byteAt", "(J)I"⟩
abbrev b_Pa_putByte : ByteArray := prog_7_method_3_code
def y_Pa_putByte : MethodName := ⟨z_RPa, "putByte", "(JJ)V"⟩
abbrev b_Pa_isWrong : ByteArray := prog_7_method_4_code
def y_Pa_isWrong : MethodName := ⟨z_RPa, "isWrong", "(J)Z"⟩
abbrev b_Pa_locate : ByteArray := prog_7_method_5_code
def y_Pa_locate : MethodName := ⟨z_RPa, "locate", "(JI)J"⟩
abbrev b_Pa_isForbidden : ByteArray := prog_7_method_6_code
def y_Pa_isForbidden : MethodName := ⟨z_RPa, "isForbidden", "(JJI)Z"⟩
abbrev b_Pa_refused : ByteArray := prog_7_method_7_code
def y_Pa_refused : MethodName := ⟨z_RPa, "refused", "(JI)J"⟩
abbrev b_Pa_refusal : ByteArray := prog_7_method_8_code
def y_Pa_refusal : MethodName := ⟨z_RPa, "refusal", "(JJI)I"⟩
abbrev b_Sp_init : ByteArray := prog_8_method_1_code
def y_Sp_init : MethodName := ⟨z_RSp, "<init>", "(LLongModeCore$Pages;)V"⟩
abbrev b_Sp_find : ByteArray := prog_8_method_2_code
def y_Sp_find : MethodName := ⟨z_RSp, "find", "(JIIZ)I"⟩
abbrev b_Sp_value : ByteArray := prog_8_method_3_code
def y_Sp_value : MethodName := ⟨z_RSp, "value", "()J"⟩
abbrev b_Sp_put : ByteArray := prog_8_method_4_code
def y_Sp_put : MethodName := ⟨z_RSp, "put", "(J)V"⟩
abbrev b_St_init : ByteArray := prog_9_method_1_code
def y_St_init : MethodName := ⟨z_RSt, "<init>", "()V"⟩
abbrev b_Sr_init : ByteArray := prog_10_method_1_code
def y_Sr_init : MethodName := ⟨z_RSr, "<init>", "(LLongModeCore$State;LLongModeCore$Decoder;LLongModeCore$Operands;LLongModeCore$Arithmetic;LLongModeCore$Span;LLongModeCore$Span;)V"⟩
abbrev b_Sr_execute : ByteArray := prog_10_method_2_code
def y_Sr_execute : MethodName := ⟨z_RSr, "execute", "()I"⟩
abbrev b_Sr_goesOn : ByteArray := prog_10_method_3_code
def y_Sr_goesOn : MethodName := ⟨z_RSr, "goesOn", "(I)Z"⟩
abbrev b_Sr_executeOnce : ByteArray := prog_10_method_4_code
def y_Sr_executeOnce : MethodName := ⟨z_RSr, "executeOnce", "(II)I"⟩
abbrev b_Sr_use : ByteArray := prog_10_method_5_code
def y_Sr_use : MethodName := ⟨z_RSr, "use", "(IJI)V"⟩
abbrev b_Tw_init : ByteArray := prog_11_method_1_code
def y_Tw_init : MethodName := ⟨z_RTw, "<init>", "(LLongModeCore$Decoder;LLongModeCore$Operands;LLongModeCore$Arithmetic;LLongModeCore$Wide;)V"⟩
abbrev b_Tw_execute : ByteArray := prog_11_method_2_code
def y_Tw_execute : MethodName := ⟨z_RTw, "execute", "()I"⟩
abbrev b_Tw_executeSingle : ByteArray := prog_11_method_3_code
def y_Tw_executeSingle : MethodName := ⟨z_RTw, "executeSingle", "(I)V"⟩
abbrev b_Tw_moveIf : ByteArray := prog_11_method_4_code
def y_Tw_moveIf : MethodName := ⟨z_RTw, "moveIf", "(Z)V"⟩
abbrev b_Tw_turnBytes : ByteArray := prog_11_method_5_code
def y_Tw_turnBytes : MethodName := ⟨z_RTw, "turnBytes", "()V"⟩
abbrev b_Tw_useBit : ByteArray := prog_11_method_6_code
def y_Tw_useBit : MethodName := ⟨z_RTw, "useBit", "(IJ)V"⟩
abbrev b_Tw_findBit : ByteArray := prog_11_method_7_code
def y_Tw_findBit : MethodName := ⟨z_RTw, "findBit", "(ZJI)V"⟩
abbrev b_Tw_lowestBit : ByteArray := prog_11_method_8_code
def y_Tw_lowestBit : MethodName := ⟨z_RTw, "lowestBit", "(J)I"⟩
abbrev b_Tw_highestBit : ByteArray := prog_11_method_9_code
def y_Tw_highestBit : MethodName := ⟨z_RTw, "highestBit", "(J)I"⟩
abbrev b_Tw_compareAndChange : ByteArray := prog_11_method_10_code
def y_Tw_compareAndChange : MethodName := ⟨z_RTw, "compareAndChange", "()V"⟩
abbrev b_Tw_changeAndAdd : ByteArray := prog_11_method_11_code
def y_Tw_changeAndAdd : MethodName := ⟨z_RTw, "changeAndAdd", "()V"⟩
abbrev b_Wi_init : ByteArray := prog_12_method_1_code
def y_Wi_init : MethodName := ⟨z_RWi, "<init>", "(LLongModeCore$Arithmetic;)V"⟩
abbrev b_Wi_multiply : ByteArray := prog_12_method_2_code
def y_Wi_multiply : MethodName := ⟨z_RWi, "multiply", "(JJIZ)V"⟩
abbrev b_Wi_upperHalf : ByteArray := prog_12_method_3_code
def y_Wi_upperHalf : MethodName := ⟨z_RWi, "upperHalf", "(JJ)J"⟩
abbrev b_Wi_divide : ByteArray := prog_12_method_4_code
def y_Wi_divide : MethodName := ⟨z_RWi, "divide", "(JJJIZ)Z"⟩
abbrev b_Wi_divideMagnitudes : ByteArray := prog_12_method_5_code
def y_Wi_divideMagnitudes : MethodName := ⟨z_RWi, "divideMagnitudes", "(JJJI)V"⟩
abbrev b_Wi_isBelow : ByteArray := prog_12_method_6_code
def y_Wi_isBelow : MethodName := ⟨z_RWi, "isBelow", "(JJ)Z"⟩
abbrev b_Mo_init : ByteArray := prog_14_method_1_code
def y_Mo_init : MethodName := ⟨z_RMo, "<init>", "()V"⟩
abbrev b_Mo_byteAt : ByteArray := prog_14_method_2_code
def y_Mo_byteAt : MethodName := ⟨z_RMo, "byteAt", "(J)I"⟩
abbrev b_Mo_eight : ByteArray := prog_14_method_3_code
def y_Mo_eight : MethodName := ⟨z_RMo, "eight", "(J)J"⟩
abbrev b_Mo_isWrong : ByteArray := prog_14_method_4_code
def y_Mo_isWrong : MethodName := ⟨z_RMo, "isWrong", "(J)Z"⟩
abbrev b_Mo_find : ByteArray := prog_14_method_5_code
def y_Mo_find : MethodName := ⟨z_RMo, "find", "(JI)J"⟩
abbrev b_Mo_bits : ByteArray := prog_14_method_6_code
def y_Mo_bits : MethodName := ⟨z_RMo, "bits", "(JII)J"⟩
abbrev b_Mo_refuse : ByteArray := prog_14_method_7_code
def y_Mo_refuse : MethodName := ⟨z_RMo, "refuse", "(I)V"⟩
abbrev b_Mo_lookUp : ByteArray := prog_14_method_8_code
def y_Mo_lookUp : MethodName := ⟨z_RMo, "lookUp", "(JIIZ)V"⟩
abbrev b_Mo_held : ByteArray := prog_14_method_9_code
def y_Mo_held : MethodName := ⟨z_RMo, "held", "(I)J"⟩
abbrev b_Mo_load : ByteArray := prog_14_method_10_code
def y_Mo_load : MethodName := ⟨z_RMo, "load", "(JIZ)J"⟩
abbrev b_Mo_hold : ByteArray := prog_14_method_11_code
def y_Mo_hold : MethodName := ⟨z_RMo, "hold", "(JI)V"⟩
abbrev b_Mo_fetch : ByteArray := prog_14_method_12_code
def y_Mo_fetch : MethodName := ⟨z_RMo, "fetch", "()I"⟩
abbrev b_Mo_fetchNumber : ByteArray := prog_14_method_13_code
def y_Mo_fetchNumber : MethodName := ⟨z_RMo, "fetchNumber", "(I)J"⟩
abbrev b_Mo_extended : ByteArray := prog_14_method_14_code
def y_Mo_extended : MethodName := ⟨z_RMo, "extended", "(JI)J"⟩
abbrev b_Mo_lowest : ByteArray := prog_14_method_15_code
def y_Mo_lowest : MethodName := ⟨z_RMo, "lowest", "(JI)J"⟩
abbrev b_Mo_top : ByteArray := prog_14_method_16_code
def y_Mo_top : MethodName := ⟨z_RMo, "top", "(JI)Z"⟩
abbrev b_Mo_open : ByteArray := prog_14_method_17_code
def y_Mo_open : MethodName := ⟨z_RMo, "open", "()V"⟩
abbrev b_Mo_wide : ByteArray := prog_14_method_18_code
def y_Mo_wide : MethodName := ⟨z_RMo, "wide", "()I"⟩
abbrev b_Mo_plus : ByteArray := prog_14_method_19_code
def y_Mo_plus : MethodName := ⟨z_RMo, "plus", "(I)I"⟩
abbrev b_Mo_takeMod : ByteArray := prog_14_method_20_code
def y_Mo_takeMod : MethodName := ⟨z_RMo, "takeMod", "()V"⟩
abbrev b_Mo_takePlace : ByteArray := prog_14_method_21_code
def y_Mo_takePlace : MethodName := ⟨z_RMo, "takePlace", "()V"⟩
abbrev b_Mo_takeOperand : ByteArray := prog_14_method_22_code
def y_Mo_takeOperand : MethodName := ⟨z_RMo, "takeOperand", "()V"⟩
abbrev b_Mo_place : ByteArray := prog_14_method_23_code
def y_Mo_place : MethodName := ⟨z_RMo, "place", "()J"⟩
abbrev b_Mo_ofStack : ByteArray := prog_14_method_24_code
def y_Mo_ofStack : MethodName := ⟨z_RMo, "ofStack", "()Z"⟩
abbrev b_Mo_isHigh : ByteArray := prog_14_method_25_code
def y_Mo_isHigh : MethodName := ⟨z_RMo, "isHigh", "(II)Z"⟩
abbrev b_Mo_get8 : ByteArray := prog_14_method_26_code
def y_Mo_get8 : MethodName := ⟨z_RMo, "get8", "(II)J"⟩
abbrev b_Mo_put8 : ByteArray := prog_14_method_27_code
def y_Mo_put8 : MethodName := ⟨z_RMo, "put8", "(IIJ)V"⟩
abbrev b_Mo_g : ByteArray := prog_14_method_28_code
def y_Mo_g : MethodName := ⟨z_RMo, "g", "(I)J"⟩
abbrev b_Mo_setG : ByteArray := prog_14_method_29_code
def y_Mo_setG : MethodName := ⟨z_RMo, "setG", "(IJ)V"⟩
abbrev b_Mo_e : ByteArray := prog_14_method_30_code
def y_Mo_e : MethodName := ⟨z_RMo, "e", "(II)J"⟩
abbrev b_Mo_setE : ByteArray := prog_14_method_31_code
def y_Mo_setE : MethodName := ⟨z_RMo, "setE", "(IJ)V"⟩
abbrev b_Mo_undefinedBit : ByteArray := prog_14_method_32_code
def y_Mo_undefinedBit : MethodName := ⟨z_RMo, "undefinedBit", "(I)Z"⟩
abbrev b_Mo_leave : ByteArray := prog_14_method_33_code
def y_Mo_leave : MethodName := ⟨z_RMo, "leave", "(I)V"⟩
abbrev b_Mo_result : ByteArray := prog_14_method_34_code
def y_Mo_result : MethodName := ⟨z_RMo, "result", "(JI)V"⟩
abbrev b_Mo_add : ByteArray := prog_14_method_35_code
def y_Mo_add : MethodName := ⟨z_RMo, "add", "(JJZZI)J"⟩
abbrev b_Mo_logic : ByteArray := prog_14_method_36_code
def y_Mo_logic : MethodName := ⟨z_RMo, "logic", "(JI)J"⟩
abbrev b_Mo_reckon : ByteArray := prog_14_method_37_code
def y_Mo_reckon : MethodName := ⟨z_RMo, "reckon", "(IJJI)J"⟩
abbrev b_Mo_holds : ByteArray := prog_14_method_38_code
def y_Mo_holds : MethodName := ⟨z_RMo, "holds", "(I)Z"⟩
abbrev b_Mo_jump : ByteArray := prog_14_method_39_code
def y_Mo_jump : MethodName := ⟨z_RMo, "jump", "(J)V"⟩
abbrev b_Mo_step : ByteArray := prog_14_method_40_code
def y_Mo_step : MethodName := ⟨z_RMo, "step", "()I"⟩
abbrev b_Mo_first : ByteArray := prog_14_method_41_code
def y_Mo_first : MethodName := ⟨z_RMo, "first", "(II)V"⟩
abbrev b_Mo_others : ByteArray := prog_14_method_42_code
def y_Mo_others : MethodName := ⟨z_RMo, "others", "(II)V"⟩
abbrev b_Mo_second : ByteArray := prog_14_method_43_code
def y_Mo_second : MethodName := ⟨z_RMo, "second", "(II)V"⟩
abbrev b_Mo_number : ByteArray := prog_14_method_44_code
def y_Mo_number : MethodName := ⟨z_RMo, "number", "(I)J"⟩
abbrev b_Mo_four : ByteArray := prog_14_method_45_code
def y_Mo_four : MethodName := ⟨z_RMo, "four", "(I)I"⟩
abbrev b_Mo_arithmetic : ByteArray := prog_14_method_46_code
def y_Mo_arithmetic : MethodName := ⟨z_RMo, "arithmetic", "(III)V"⟩
abbrev b_Mo_group : ByteArray := prog_14_method_47_code
def y_Mo_group : MethodName := ⟨z_RMo, "group", "(II)V"⟩
abbrev b_Mo_move : ByteArray := prog_14_method_48_code
def y_Mo_move : MethodName := ⟨z_RMo, "move", "(II)V"⟩
abbrev b_Mo_moveNumber : ByteArray := prog_14_method_49_code
def y_Mo_moveNumber : MethodName := ⟨z_RMo, "moveNumber", "(I)V"⟩
abbrev b_Mo_immediate : ByteArray := prog_14_method_50_code
def y_Mo_immediate : MethodName := ⟨z_RMo, "immediate", "(I)V"⟩
abbrev b_Mo_address : ByteArray := prog_14_method_51_code
def y_Mo_address : MethodName := ⟨z_RMo, "address", "()V"⟩
abbrev b_Mo_extend : ByteArray := prog_14_method_52_code
def y_Mo_extend : MethodName := ⟨z_RMo, "extend", "(II)V"⟩
abbrev b_Mo_testNumber : ByteArray := prog_14_method_53_code
def y_Mo_testNumber : MethodName := ⟨z_RMo, "testNumber", "(I)V"⟩
abbrev b_Mo_turn : ByteArray := prog_14_method_54_code
def y_Mo_turn : MethodName := ⟨z_RMo, "turn", "(I)V"⟩
abbrev b_Mo_turnRound : ByteArray := prog_14_method_55_code
def y_Mo_turnRound : MethodName := ⟨z_RMo, "turnRound", "(I)V"⟩
abbrev b_Mo_addAndChange : ByteArray := prog_14_method_56_code
def y_Mo_addAndChange : MethodName := ⟨z_RMo, "addAndChange", "(I)V"⟩
abbrev b_Mo_compareAndChange : ByteArray := prog_14_method_57_code
def y_Mo_compareAndChange : MethodName := ⟨z_RMo, "compareAndChange", "(I)V"⟩
abbrev b_Mo_multiply : ByteArray := prog_14_method_58_code
def y_Mo_multiply : MethodName := ⟨z_RMo, "multiply", "(JJ)V"⟩
abbrev b_Mo_multiplySigned : ByteArray := prog_14_method_59_code
def y_Mo_multiplySigned : MethodName := ⟨z_RMo, "multiplySigned", "(JJ)V"⟩
abbrev b_Mo_turnSign : ByteArray := prog_14_method_60_code
def y_Mo_turnSign : MethodName := ⟨z_RMo, "turnSign", "()V"⟩
abbrev b_Mo_muchFlags : ByteArray := prog_14_method_61_code
def y_Mo_muchFlags : MethodName := ⟨z_RMo, "muchFlags", "(Z)V"⟩
abbrev b_Mo_multiplyOperand : ByteArray := prog_14_method_62_code
def y_Mo_multiplyOperand : MethodName := ⟨z_RMo, "multiplyOperand", "(JIZ)V"⟩
abbrev b_Mo_product : ByteArray := prog_14_method_63_code
def y_Mo_product : MethodName := ⟨z_RMo, "product", "(I)V"⟩
abbrev b_Mo_quotient : ByteArray := prog_14_method_64_code
def y_Mo_quotient : MethodName := ⟨z_RMo, "quotient", "(JI)Z"⟩
abbrev b_Mo_divide : ByteArray := prog_14_method_65_code
def y_Mo_divide : MethodName := ⟨z_RMo, "divide", "(JIZ)V"⟩
abbrev b_Mo_shift : ByteArray := prog_14_method_66_code
def y_Mo_shift : MethodName := ⟨z_RMo, "shift", "(II)V"⟩
abbrev b_Mo_leftBy : ByteArray := prog_14_method_67_code
def y_Mo_leftBy : MethodName := ⟨z_RMo, "leftBy", "(JZI)J"⟩
abbrev b_Mo_rightBy : ByteArray := prog_14_method_68_code
def y_Mo_rightBy : MethodName := ⟨z_RMo, "rightBy", "(JZI)J"⟩
abbrev b_Mo_rotated : ByteArray := prog_14_method_69_code
def y_Mo_rotated : MethodName := ⟨z_RMo, "rotated", "(JII)J"⟩
abbrev b_Mo_shifted : ByteArray := prog_14_method_70_code
def y_Mo_shifted : MethodName := ⟨z_RMo, "shifted", "(JII)J"⟩
abbrev b_Mo_bit : ByteArray := prog_14_method_71_code
def y_Mo_bit : MethodName := ⟨z_RMo, "bit", "(I)V"⟩
abbrev b_Mo_scan : ByteArray := prog_14_method_72_code
def y_Mo_scan : MethodName := ⟨z_RMo, "scan", "(I)V"⟩
abbrev b_Mo_branch : ByteArray := prog_14_method_73_code
def y_Mo_branch : MethodName := ⟨z_RMo, "branch", "(ZI)V"⟩
abbrev b_Mo_loop : ByteArray := prog_14_method_74_code
def y_Mo_loop : MethodName := ⟨z_RMo, "loop", "(I)V"⟩
abbrev b_Mo_far : ByteArray := prog_14_method_75_code
def y_Mo_far : MethodName := ⟨z_RMo, "far", "(I)V"⟩
abbrev b_Mo_stackSize : ByteArray := prog_14_method_76_code
def y_Mo_stackSize : MethodName := ⟨z_RMo, "stackSize", "()I"⟩
abbrev b_Mo_push : ByteArray := prog_14_method_77_code
def y_Mo_push : MethodName := ⟨z_RMo, "push", "(JI)V"⟩
abbrev b_Mo_pop : ByteArray := prog_14_method_78_code
def y_Mo_pop : MethodName := ⟨z_RMo, "pop", "(I)J"⟩
abbrev b_Mo_shortStack : ByteArray := prog_14_method_79_code
def y_Mo_shortStack : MethodName := ⟨z_RMo, "shortStack", "(I)V"⟩
abbrev b_Mo_pushNumber : ByteArray := prog_14_method_80_code
def y_Mo_pushNumber : MethodName := ⟨z_RMo, "pushNumber", "(I)V"⟩
abbrev b_Mo_popOperand : ByteArray := prog_14_method_81_code
def y_Mo_popOperand : MethodName := ⟨z_RMo, "popOperand", "()V"⟩
abbrev b_Mo_returns : ByteArray := prog_14_method_82_code
def y_Mo_returns : MethodName := ⟨z_RMo, "returns", "(I)V"⟩
abbrev b_Mo_leaveFrame : ByteArray := prog_14_method_83_code
def y_Mo_leaveFrame : MethodName := ⟨z_RMo, "leaveFrame", "()V"⟩
abbrev b_Mo_more : ByteArray := prog_14_method_84_code
def y_Mo_more : MethodName := ⟨z_RMo, "more", "(I)V"⟩
abbrev b_Mo_unary : ByteArray := prog_14_method_85_code
def y_Mo_unary : MethodName := ⟨z_RMo, "unary", "(I)V"⟩
abbrev b_Mo_string : ByteArray := prog_14_method_86_code
def y_Mo_string : MethodName := ⟨z_RMo, "string", "(II)V"⟩
abbrev b_Mo_system : ByteArray := prog_14_method_87_code
def y_Mo_system : MethodName := ⟨z_RMo, "system", "(Z)V"⟩
abbrev b_Mo_flags : ByteArray := prog_14_method_88_code
def y_Mo_flags : MethodName := ⟨z_RMo, "flags", "()J"⟩
abbrev b_Mo_setFlags : ByteArray := prog_14_method_89_code
def y_Mo_setFlags : MethodName := ⟨z_RMo, "setFlags", "(J)V"⟩
abbrev b_Mo_join : ByteArray := prog_14_method_90_code
def y_Mo_join : MethodName := ⟨z_RMo, "join", "(II)J"⟩
abbrev b_Mo_store : ByteArray := prog_14_method_91_code
def y_Mo_store : MethodName := ⟨z_RMo, "store", "(III)Z"⟩
abbrev b_Mo_stored : ByteArray := prog_14_method_92_code
def y_Mo_stored : MethodName := ⟨z_RMo, "stored", "(I)J"⟩
abbrev b_Mo_set : ByteArray := prog_14_method_93_code
def y_Mo_set : MethodName := ⟨z_RMo, "set", "(III)Z"⟩
abbrev b_Mo_get : ByteArray := prog_14_method_94_code
def y_Mo_get : MethodName := ⟨z_RMo, "get", "(I)J"⟩
abbrev b_Mo_level : ByteArray := prog_14_method_95_code
def y_Mo_level : MethodName := ⟨z_RMo, "level", "(Z)V"⟩
abbrev b_Mo_run : ByteArray := prog_14_method_96_code
def y_Mo_run : MethodName := ⟨z_RMo, "run", "(I)I"⟩
abbrev b_Mo_look : ByteArray := prog_14_method_97_code
def y_Mo_look : MethodName := ⟨z_RMo, "look", "(III)J"⟩
end
section
/-! a system's numbers: longs, ints, arrays of longs, arrays of ints, by number; get, set -/
abbrev z_Sg : Type := (Nat → Int64) × (Nat → Int32) × (Nat → Nat → Int64) × (Nat → Nat → Int32)
def z_gL (x : z_Sg) (k : Nat) : Int64 := x.1 k
def z_gI (x : z_Sg) (k : Nat) : Int32 := x.2.1 k
def z_gM (x : z_Sg) (a : Nat) : Nat → Int64 := x.2.2.1 a
def z_gN (x : z_Sg) (a : Nat) : Nat → Int32 := x.2.2.2 a
def z_sL (x : z_Sg) (k : Nat) (v : Int64) : z_Sg := (fun j => if j = k then v else x.1 j, x.2)
def z_sI (x : z_Sg) (k : Nat) (v : Int32) : z_Sg := (x.1, fun j => if j = k then v else x.2.1 j, x.2.2)
def z_sM (x : z_Sg) (a i : Nat) (v : Int64) : z_Sg := (x.1, x.2.1, fun b => if b = a then vp_updL (x.2.2.1 a) i v else x.2.2.1 b, x.2.2.2)
def z_sN (x : z_Sg) (a i : Nat) (v : Int32) : z_Sg := (x.1, x.2.1, x.2.2.1, fun b => if b = a then upd (x.2.2.2 a) i v else x.2.2.2 b)
/-- a loop, at most n times -/
def z_lo {α β : Type} (F : (α → Option β) → α → Option β) : Nat → α → Option β
  | 0, _ => none
  | n + 1, a => F (z_lo F n) a
/-- a number gets a name -/
def z_nm {α β : Type} (e : α) (k : α → Option β) : Option β := k e
def z_lushr (x : Int64) (y : Int32) : Int64 := (x.toUInt64 >>> (y.toInt64.toUInt64 &&& Int64.toUInt64 63)).toInt64
def z_lshl (x : Int64) (y : Int32) : Int64 := x <<< (y.toInt64 &&& 63)
def z_lshr (x : Int64) (y : Int32) : Int64 := x >>> (y.toInt64 &&& 63)
def z_iushr (x y : Int32) : Int32 := (x.toUInt32 >>> (y.toUInt32 &&& Int32.toUInt32 31)).toInt32
/-- a place of an array of n: wrong -/
abbrev z_bad (i : Int32) (n : Nat) : Prop := i < 0 ∨ n ≤ i.toNatClampNeg
/-- a number that a boolean is -/
abbrev z_bo (v : Int32) : Prop := v = 0 ∨ v = 1
theorem z_bo_n {v : Int32} (h : z_bo v) : narrow .boolean (.int v) = .int v := by rcases h with rfl | rfl <;> rfl
theorem z_bo_f {v : Int32} (h : z_bo v) : fits .boolean (.int v) = true := by rcases h with rfl | rfl <;> rfl
def z_gd {α : Type} (c : Prop) [Decidable c] (a : Option α) : Option α := if c then a else none
theorem ok_t {α : Type} {c : Prop} {d : Decidable c} {a b : Option α} {o : α} (h : @ite _ c d a b = some o) (hc : c) : a = some o := by rw [if_pos hc] at h; exact h
theorem ok_f {α : Type} {c : Prop} {d : Decidable c} {a b : Option α} {o : α} (h : @ite _ c d a b = some o) (hc : ¬ c) : b = some o := by rw [if_neg hc] at h; exact h
theorem ok_g {α : Type} {c : Prop} {d : Decidable c} {b : Option α} {o : α} (h : @ite _ c d none b = some o) : ¬ c ∧ b = some o := by
  by_cases hc : c
  · rw [if_pos hc] at h; cases h
  · rw [if_neg hc] at h; exact ⟨hc, h⟩
theorem ok_G {α : Type} {c : Prop} {d : Decidable c} {a : Option α} {o : α} (h : @z_gd α c d a = some o) : c ∧ a = some o := by
  unfold z_gd at h
  by_cases hc : c
  · rw [if_pos hc] at h; exact ⟨hc, h⟩
  · rw [if_neg hc] at h; cases h
theorem ok_b {α β : Type} {x : Option α} {k : α → Option β} {o : β} (h : x.bind k = some o) : ∃ a, x = some a ∧ k a = some o := by
  cases x with
  | none => cases h
  | some a => exact ⟨a, rfl, h⟩
theorem ok_n {α β : Type} {e : α} {k : α → Option β} {o : β} (h : z_nm e k = some o) : ∃ a, a = e ∧ k a = some o := ⟨e, rfl, h⟩
/-- what stands for a method's whole walk: the machine, the code, the tables' words, the classes -/
def z_cx (own : String) (cc : ByteArray) (nL : Nat) (ret : Option FieldType) (D : va_G) (tys : List (ClassId × FieldType)) (A : Nat → Prop) (p : Program) (s : State) (m : MethodId) (args : Array Value) (meth : Method) (c : Code) : Prop :=
  p.tables.exec = Jvm.exec ∧ c.code = cc ∧ meth.sig.returnType = ret ∧ meth.locks = false ∧ c.maxLocals = nL ∧ s.vm.findClass own = some m.cls ∧ (∀ w ∈ z_tbl, w.before args s = true) ∧ va_K D vwCl tys s ∧ (∀ q : Nat, s.heap.size ≤ q → A q)
/-- the world w is held, and nothing outside A has changed -/
def z_wd (D : va_G) (w : va_W) (A : Nat → Prop) (s : State) (H : Heap) (locs : List Loc) : Prop := va_P D vwCl w H ∧ va_D A w ∧ va_S A s.heap H locs
abbrev z_Pc (D : va_G) (tys : List (ClassId × FieldType)) (w : va_W) (av : List Value) (sz : Nat) : Array Value → State → Prop := va_Pc av (fun U => U.heap.size = sz ∧ va_P D vwCl w U.heap ∧ va_K D vwCl tys U ∧ va_D (fun _ => True) w)
abbrev z_B (D : va_G) (tys : List (ClassId × FieldType)) (w1 : va_W) (A : Nat → Prop) : Unit → State → Prop := fun _ t => va_P D vwCl w1 t.heap ∧ va_K D vwCl tys t ∧ va_D A w1
abbrev z_rm (fr lo : Nat) : Room := { frames := fr, cells := 0, slots := 0, locals := lo }
abbrev z_ws (y : MethodName) (cc : ByteArray) (nL : Nat) (ret : Option FieldType) : List Cond := .code y cc nL ret :: z_tbl
/-- contracts: the answer r, the world w1 behind -/
def z_ci (l : Launch) (y : MethodName) (cc : ByteArray) (nL : Nat) (ret : Option FieldType) (fr lo : Nat) (D : va_G) (tys : List (ClassId × FieldType)) (w w1 : va_W) (av : List Value) (r : Int32) : Prop :=
  ∀ sz : Nat, Met l y (z_ws y cc nL ret) (z_rm fr lo) (z_Pc D tys w av sz) (va_Qi (fun (r' : Int32) (_ : Unit) => r' = r) (z_B D tys w1 (va_A w sz)) (va_A w sz)) 0 0 (va_A w sz)
def z_cl (l : Launch) (y : MethodName) (cc : ByteArray) (nL : Nat) (ret : Option FieldType) (fr lo : Nat) (D : va_G) (tys : List (ClassId × FieldType)) (w w1 : va_W) (av : List Value) (r : Int64) : Prop :=
  ∀ sz : Nat, Met l y (z_ws y cc nL ret) (z_rm fr lo) (z_Pc D tys w av sz) (va_Ql (fun (r' : Int64) (_ : Unit) => r' = r) (z_B D tys w1 (va_A w sz)) (va_A w sz)) 0 0 (va_A w sz)
def z_cv (l : Launch) (y : MethodName) (cc : ByteArray) (nL : Nat) (ret : Option FieldType) (fr lo : Nat) (D : va_G) (tys : List (ClassId × FieldType)) (w w1 : va_W) (av : List Value) : Prop :=
  ∀ sz : Nat, Met l y (z_ws y cc nL ret) (z_rm fr lo) (z_Pc D tys w av sz) (va_Qv (fun (_ : Unit) => True) (z_B D tys w1 (va_A w sz)) (va_A w sz)) 0 0 (va_A w sz)
/-- the goals of a walk -/
abbrev z_qi (below : List Frame) (D : va_G) (tys : List (ClassId × FieldType)) (w1 : va_W) (A : Nat → Prop) (s : State) (args : Array Value) (r : Int32) : State → Prop := MQ below (va_Qi (fun (r' : Int32) (_ : Unit) => r' = r) (z_B D tys w1 A) A) args s 0 0 A
abbrev z_ql (below : List Frame) (D : va_G) (tys : List (ClassId × FieldType)) (w1 : va_W) (A : Nat → Prop) (s : State) (args : Array Value) (r : Int64) : State → Prop := MQ below (va_Ql (fun (r' : Int64) (_ : Unit) => r' = r) (z_B D tys w1 A) A) args s 0 0 A
abbrev z_qv (below : List Frame) (D : va_G) (tys : List (ClassId × FieldType)) (w1 : va_W) (A : Nat → Prop) (s : State) (args : Array Value) : State → Prop := MQ below (va_Qv (fun (_ : Unit) => True) (z_B D tys w1 A) A) args s 0 0 A
/-- what a callee's own words say: its class, its number there, that it is an instance method -/
def z_mw (y : MethodName) (C : String) (ci : Nat) (T : u_T) (N : Nat) (cc : ByteArray) (nL : Nat) (ret : Option FieldType) (n : Nat) : Prop :=
  vwCl[ci]? = some (C, T, N) ∧ Cond.instanceMethod y ∈ z_tbl ∧ Cond.selects C y y ∈ z_tbl ∧ Cond.initialized C ∈ z_tbl ∧ Cond.code y cc nL ret ∈ z_tbl ∧ y.cls = C ∧ y.cls ≠ "java/lang/invoke/MethodHandle" ∧ y.cls ≠ "java/lang/invoke/VarHandle" ∧ (parseMethodDescriptor y.desc).map (fun d => d.parameters.length) = some n
def z_ms (y : MethodName) (cc : ByteArray) (nL : Nat) (ret : Option FieldType) (n : Nat) : Prop :=
  Cond.static y ∈ z_tbl ∧ Cond.initialized y.cls ∈ z_tbl ∧ Cond.code y cc nL ret ∈ z_tbl ∧ y.cls ≠ "java/lang/invoke/MethodHandle" ∧ y.cls ≠ "java/lang/invoke/VarHandle" ∧ (parseMethodDescriptor y.desc).map (fun d => d.parameters.length) = some n
theorem z_goodIn {y : MethodName} {cc : ByteArray} {nL : Nat} {ret : Option FieldType} (h : Cond.code y cc nL ret ∈ z_tbl) : GoodIn z_tbl (z_ws y cc nL ret) := by
  intro w hw
  rcases List.mem_cons.mp hw with rfl | hw
  · exact ⟨h, Or.inl rfl⟩
  · exact ⟨hw, good_of_word (z_allgood w hw)⟩
section Zbase
variable {p : Program} {l : Launch} {e : Env} {R : Room} {s : State} {m : MethodId} {args : Array Value} {below : List Frame} {meth : Method} {c : Code} {H : Heap} {locs : List Loc} {cells slots : Nat} {Q : State → Prop}
variable {own : String} {cc : ByteArray} {nL : Nat} {ret : Option FieldType} {D : va_G} {tys : List (ClassId × FieldType)} {A : Nat → Prop} {w w1 : va_W} {fr lo : Nat} {y : MethodName} {av As rest st : List Value} {pc : Nat} {ls : Array Slot}
theorem z_entry (hn : (lg_sl av).length ≤ nL) {lv : List (Nat × Value)} (hlv : lv_args 0 av = lv) (k : ∀ ls : Array Slot, lv_has ls nL lv → W p l e R s m args below meth c H locs cells slots Q (F0 m 0 ls [])) : W p l e R s m args below meth c H locs cells slots Q (entryFrame m av.toArray nL) := by
  have hl := lv_entry av (n := nL) hn
  rw [lg_entry_eq]
  rw [hlv] at hl
  exact k _ hl
theorem z_F (C0 : z_cx own cc nL ret D tys A p s m args meth c) (hw : z_wd D w A s H locs) : ∀ q, va_A w H.size q → A q := by
  obtain ⟨hx, hb, hr, hlk, hml, hown, hts, hK, hA⟩ := C0
  obtain ⟨hP, hD, hS⟩ := hw
  intro q h
  rcases h with ⟨k, e, h⟩ | h
  · exact hD.2 k (q, e) h
  · exact hA q (Nat.le_trans hS.1 h)
theorem z_blind {sz : Nat} : FrameBlind (z_Pc D tys w av sz) := fun a U g mk q => by
  obtain ⟨q0, q1, qP, qK, qD⟩ := q
  exact ⟨q0, q1, qP, va_K.moved (u := U) (U := U.calling g mk a) (Vm.Alike.refl U.vm) qK, qD⟩
theorem z_ci_of {r : Int32} (hy : plainName y.cls = true) (hcls : y.cls = own)
    (body : ∀ (p : Program) (e : Env) (s : State) (m : MethodId) (below : List Frame) (meth : Method) (c : Code) (A : Nat → Prop), z_cx own cc nL ret D tys A p s m av.toArray meth c → z_wd D w A s s.heap [] → W p l e (z_rm fr lo) s m av.toArray below meth c s.heap [] 0 0 (z_qi below D tys w1 A s av.toArray r) (entryFrame m av.toArray nL)) : z_ci l y cc nL ret fr lo D tys w w1 av r := by
  intro sz
  refine Met.ofW (cc := cc) (maxL := nL) (ret := ret) hy rfl ?_
  intro p e s m args below meth c s₁ B hml hv
  obtain ⟨rfl, hsz, hP, hK, hD0⟩ := hv
  have hts := atoms_spec (ws := z_ws y cc nL ret) B.pre
  have hown : s.vm.findClass own = some m.cls := by rw [← hcls]; exact findClass_of_methodNamed B.named
  subst hsz
  exact body p e s m below meth c (va_A w s.heap.size) ⟨B.exec, B.bytes, B.returns, B.notSynchronized, hml, hown, fun w' h => hts w' (List.mem_cons_of_mem _ h), hK, fun q h => Or.inr h⟩ ⟨hP, hD0.self, va_S.rf⟩
theorem z_cl_of {r : Int64} (hy : plainName y.cls = true) (hcls : y.cls = own)
    (body : ∀ (p : Program) (e : Env) (s : State) (m : MethodId) (below : List Frame) (meth : Method) (c : Code) (A : Nat → Prop), z_cx own cc nL ret D tys A p s m av.toArray meth c → z_wd D w A s s.heap [] → W p l e (z_rm fr lo) s m av.toArray below meth c s.heap [] 0 0 (z_ql below D tys w1 A s av.toArray r) (entryFrame m av.toArray nL)) : z_cl l y cc nL ret fr lo D tys w w1 av r := by
  intro sz
  refine Met.ofW (cc := cc) (maxL := nL) (ret := ret) hy rfl ?_
  intro p e s m args below meth c s₁ B hml hv
  obtain ⟨rfl, hsz, hP, hK, hD0⟩ := hv
  have hts := atoms_spec (ws := z_ws y cc nL ret) B.pre
  have hown : s.vm.findClass own = some m.cls := by rw [← hcls]; exact findClass_of_methodNamed B.named
  subst hsz
  exact body p e s m below meth c (va_A w s.heap.size) ⟨B.exec, B.bytes, B.returns, B.notSynchronized, hml, hown, fun w' h => hts w' (List.mem_cons_of_mem _ h), hK, fun q h => Or.inr h⟩ ⟨hP, hD0.self, va_S.rf⟩
theorem z_cv_of (hy : plainName y.cls = true) (hcls : y.cls = own)
    (body : ∀ (p : Program) (e : Env) (s : State) (m : MethodId) (below : List Frame) (meth : Method) (c : Code) (A : Nat → Prop), z_cx own cc nL ret D tys A p s m av.toArray meth c → z_wd D w A s s.heap [] → W p l e (z_rm fr lo) s m av.toArray below meth c s.heap [] 0 0 (z_qv below D tys w1 A s av.toArray) (entryFrame m av.toArray nL)) : z_cv l y cc nL ret fr lo D tys w w1 av := by
  intro sz
  refine Met.ofW (cc := cc) (maxL := nL) (ret := ret) hy rfl ?_
  intro p e s m args below meth c s₁ B hml hv
  obtain ⟨rfl, hsz, hP, hK, hD0⟩ := hv
  have hts := atoms_spec (ws := z_ws y cc nL ret) B.pre
  have hown : s.vm.findClass own = some m.cls := by rw [← hcls]; exact findClass_of_methodNamed B.named
  subst hsz
  exact body p e s m below meth c (va_A w s.heap.size) ⟨B.exec, B.bytes, B.returns, B.notSynchronized, hml, hown, fun w' h => hts w' (List.mem_cons_of_mem _ h), hK, fun q h => Or.inr h⟩ ⟨hP, hD0.self, va_S.rf⟩
theorem z_rti {r : Int32} (C0 : z_cx own cc nL (some .int) D tys A p s m args meth c) (hw : z_wd D w1 A s H locs) (d : decode cc pc = .ok (.ireturn, 1)) : W p l e R s m args below meth c H locs 0 0 (z_qi below D tys w1 A s args r) (F0 m pc ls [.int r]) := by
  obtain ⟨hx, hb, hr, hlk, hml, hown, hts, hK, hA⟩ := C0
  obtain ⟨hP, hD, hS⟩ := hw
  exact W.iret hx hb hr (fun t ht hW => ⟨⟨r, (), rfl, rfl, by rw [ht]; exact hP, va_K.moved hW.alike hK, hD⟩, hS.F ht⟩) hS.2.2 d
theorem z_rtz {r : Int32} (C0 : z_cx own cc nL (some .boolean) D tys A p s m args meth c) (hw : z_wd D w1 A s H locs) (hn : narrow .boolean (.int r) = .int r) (d : decode cc pc = .ok (.ireturn, 1)) : W p l e R s m args below meth c H locs 0 0 (z_qi below D tys w1 A s args r) (F0 m pc ls [.int r]) := by
  obtain ⟨hx, hb, hr, hlk, hml, hown, hts, hK, hA⟩ := C0
  obtain ⟨hP, hD, hS⟩ := hw
  exact W.zret hx hb hr hn (fun t ht hW => ⟨⟨r, (), rfl, rfl, by rw [ht]; exact hP, va_K.moved hW.alike hK, hD⟩, hS.F ht⟩) hS.2.2 d
theorem z_rtl {r : Int64} (C0 : z_cx own cc nL (some .long) D tys A p s m args meth c) (hw : z_wd D w1 A s H locs) (d : decode cc pc = .ok (.lreturn, 1)) : W p l e R s m args below meth c H locs 0 0 (z_ql below D tys w1 A s args r) (F0 m pc ls [.long r]) := by
  obtain ⟨hx, hb, hr, hlk, hml, hown, hts, hK, hA⟩ := C0
  obtain ⟨hP, hD, hS⟩ := hw
  exact W.lret hx hb hr (fun t ht hW => ⟨⟨r, (), rfl, rfl, by rw [ht]; exact hP, va_K.moved hW.alike hK, hD⟩, hS.F ht⟩) hS.2.2 d
theorem z_rtv (C0 : z_cx own cc nL none D tys A p s m args meth c) (hw : z_wd D w1 A s H locs) (d : decode cc pc = .ok (.return_, 1)) : W p l e R s m args below meth c H locs 0 0 (z_qv below D tys w1 A s args) (F0 m pc ls []) := by
  obtain ⟨hx, hb, hr, hlk, hml, hown, hts, hK, hA⟩ := C0
  obtain ⟨hP, hD, hS⟩ := hw
  exact W.vret hx hb hr (fun t ht hW => ⟨⟨(), rfl, trivial, by rw [ht]; exact hP, va_K.moved hW.alike hK, hD⟩, hS.F ht⟩) hS.2.2 d
theorem z_vi {r : Int32} {cc' : ByteArray} {nL' n idx ci N : Nat} {ret' : Option FieldType} {b : Nat} {C : String} {T : u_T} {fs : List Value} (C0 : z_cx own cc nL ret D tys A p s m args meth c) (hw : z_wd D w A s H locs) (hc : z_ci l y cc' nL' ret' fr lo D tys w w1 (.ref b :: As) r) (hm : z_mw y C ci T N cc' nL' ret' n) (hk : Cond.methodLink own idx y ∈ z_tbl) (q0 : Nat) (hq : w[q0]? = some (b, .inr (ci, fs))) (hR : fr + 1 ≤ R.frames ∧ 8 + (nL' + 11) + lo ≤ R.locals) (hf : cells ≤ R.cells ∧ slots ≤ R.slots) (hn : As.length = n) (hl : ls.size = nL) (hst : st = As.reverse ++ .ref b :: rest) (hro : (rest.map fun v => v.category).sum ≤ 8) (d : decode cc pc = .ok (.invokevirtual idx, 3))
    (k : ∀ (H1 : Heap) (locs1 : List Loc), z_wd D w1 A s H1 locs1 → W p l e R s m args below meth c H1 locs1 cells slots Q (F0 m (pc + 3) ls (.int r :: rest))) : W p l e R s m args below meth c H locs cells slots Q (F0 m pc ls st) := by
  have hF := z_F C0 hw
  obtain ⟨hx, hb, hr, hlk, hml, hown, hts, hK, hA⟩ := C0
  obtain ⟨hP, hD, hS⟩ := hw
  obtain ⟨hvc, hi, hse, hini, hco, hcl, hd⟩ := hm
  refine va_calli (va_runV (As := As) (rest := rest) ⟨hx, hb, hml, hown, hts⟩ (hc H.size) ⟨callB_of n hts (z_goodIn hco) rfl rfl rfl (by rw [hcl]; exact hts _ hini) (hts _ hk) hd hR, hts _ hi, hts _ hse⟩ ⟨z_blind, va_recv hK hP hvc hq, fun U hU hW => ⟨rfl, by rw [hU], by rw [hU]; exact hP, va_K.moved hW.alike hK, hD.weaken (fun _ _ _ _ => trivial)⟩⟩ rfl hn hl hst (lv_room hro) d hf) hS (fun q _ h => hF q h) hF (fun r' u t H1 locs1 ht hvm hr' hB hz1 hk1 hS1 => ?_)
  obtain ⟨hP1, hK1, hD1⟩ := hB
  subst hr'
  rw [ht] at hP1
  exact k H1 locs1 ⟨hP1, hD1.weaken (fun k q _ h => hF q.1 h), hS1⟩
theorem z_si {r : Int32} {cc' : ByteArray} {nL' n idx : Nat} {ret' : Option FieldType} (C0 : z_cx own cc nL ret D tys A p s m args meth c) (hw : z_wd D w A s H locs) (hc : z_ci l y cc' nL' ret' fr lo D tys w w1 As r) (hm : z_ms y cc' nL' ret' n) (hk : Cond.methodLink own idx y ∈ z_tbl) (hR : fr + 1 ≤ R.frames ∧ 8 + (nL' + 11) + lo ≤ R.locals) (hf : cells ≤ R.cells ∧ slots ≤ R.slots) (hn : As.length = n) (hl : ls.size = nL) (hst : st = As.reverse ++ rest) (hro : (rest.map fun v => v.category).sum ≤ 8) (d : decode cc pc = .ok (.invokestatic idx, 3))
    (k : ∀ (H1 : Heap) (locs1 : List Loc), z_wd D w1 A s H1 locs1 → W p l e R s m args below meth c H1 locs1 cells slots Q (F0 m (pc + 3) ls (.int r :: rest))) : W p l e R s m args below meth c H locs cells slots Q (F0 m pc ls st) := by
  have hF := z_F C0 hw
  obtain ⟨hx, hb, hr, hlk, hml, hown, hts, hK, hA⟩ := C0
  obtain ⟨hP, hD, hS⟩ := hw
  obtain ⟨hi, hini, hco, hd⟩ := hm
  refine va_calli (va_runS (As := As) (rest := rest) ⟨hx, hb, hml, hown, hts⟩ (hc H.size) ⟨callB_of n hts (z_goodIn hco) rfl rfl rfl (hts _ hini) (hts _ hk) hd hR, hts _ hi⟩ ⟨z_blind, fun U hU hW => ⟨rfl, by rw [hU], by rw [hU]; exact hP, va_K.moved hW.alike hK, hD.weaken (fun _ _ _ _ => trivial)⟩⟩ rfl hn hl hst (lv_room hro) d hf) hS (fun q _ h => hF q h) hF (fun r' u t H1 locs1 ht hvm hr' hB hz1 hk1 hS1 => ?_)
  obtain ⟨hP1, hK1, hD1⟩ := hB
  subst hr'
  rw [ht] at hP1
  exact k H1 locs1 ⟨hP1, hD1.weaken (fun k q _ h => hF q.1 h), hS1⟩
theorem z_vl {r : Int64} {cc' : ByteArray} {nL' n idx ci N : Nat} {ret' : Option FieldType} {b : Nat} {C : String} {T : u_T} {fs : List Value} (C0 : z_cx own cc nL ret D tys A p s m args meth c) (hw : z_wd D w A s H locs) (hc : z_cl l y cc' nL' ret' fr lo D tys w w1 (.ref b :: As) r) (hm : z_mw y C ci T N cc' nL' ret' n) (hk : Cond.methodLink own idx y ∈ z_tbl) (q0 : Nat) (hq : w[q0]? = some (b, .inr (ci, fs))) (hR : fr + 1 ≤ R.frames ∧ 8 + (nL' + 11) + lo ≤ R.locals) (hf : cells ≤ R.cells ∧ slots ≤ R.slots) (hn : As.length = n) (hl : ls.size = nL) (hst : st = As.reverse ++ .ref b :: rest) (hro : (rest.map fun v => v.category).sum ≤ 8) (d : decode cc pc = .ok (.invokevirtual idx, 3))
    (k : ∀ (H1 : Heap) (locs1 : List Loc), z_wd D w1 A s H1 locs1 → W p l e R s m args below meth c H1 locs1 cells slots Q (F0 m (pc + 3) ls (.long r :: rest))) : W p l e R s m args below meth c H locs cells slots Q (F0 m pc ls st) := by
  have hF := z_F C0 hw
  obtain ⟨hx, hb, hr, hlk, hml, hown, hts, hK, hA⟩ := C0
  obtain ⟨hP, hD, hS⟩ := hw
  obtain ⟨hvc, hi, hse, hini, hco, hcl, hd⟩ := hm
  refine va_calll (va_runV (As := As) (rest := rest) ⟨hx, hb, hml, hown, hts⟩ (hc H.size) ⟨callB_of n hts (z_goodIn hco) rfl rfl rfl (by rw [hcl]; exact hts _ hini) (hts _ hk) hd hR, hts _ hi, hts _ hse⟩ ⟨z_blind, va_recv hK hP hvc hq, fun U hU hW => ⟨rfl, by rw [hU], by rw [hU]; exact hP, va_K.moved hW.alike hK, hD.weaken (fun _ _ _ _ => trivial)⟩⟩ rfl hn hl hst (lv_room hro) d hf) hS (fun q _ h => hF q h) hF (fun r' u t H1 locs1 ht hvm hr' hB hz1 hk1 hS1 => ?_)
  obtain ⟨hP1, hK1, hD1⟩ := hB
  subst hr'
  rw [ht] at hP1
  exact k H1 locs1 ⟨hP1, hD1.weaken (fun k q _ h => hF q.1 h), hS1⟩
theorem z_sl {r : Int64} {cc' : ByteArray} {nL' n idx : Nat} {ret' : Option FieldType} (C0 : z_cx own cc nL ret D tys A p s m args meth c) (hw : z_wd D w A s H locs) (hc : z_cl l y cc' nL' ret' fr lo D tys w w1 As r) (hm : z_ms y cc' nL' ret' n) (hk : Cond.methodLink own idx y ∈ z_tbl) (hR : fr + 1 ≤ R.frames ∧ 8 + (nL' + 11) + lo ≤ R.locals) (hf : cells ≤ R.cells ∧ slots ≤ R.slots) (hn : As.length = n) (hl : ls.size = nL) (hst : st = As.reverse ++ rest) (hro : (rest.map fun v => v.category).sum ≤ 8) (d : decode cc pc = .ok (.invokestatic idx, 3))
    (k : ∀ (H1 : Heap) (locs1 : List Loc), z_wd D w1 A s H1 locs1 → W p l e R s m args below meth c H1 locs1 cells slots Q (F0 m (pc + 3) ls (.long r :: rest))) : W p l e R s m args below meth c H locs cells slots Q (F0 m pc ls st) := by
  have hF := z_F C0 hw
  obtain ⟨hx, hb, hr, hlk, hml, hown, hts, hK, hA⟩ := C0
  obtain ⟨hP, hD, hS⟩ := hw
  obtain ⟨hi, hini, hco, hd⟩ := hm
  refine va_calll (va_runS (As := As) (rest := rest) ⟨hx, hb, hml, hown, hts⟩ (hc H.size) ⟨callB_of n hts (z_goodIn hco) rfl rfl rfl (hts _ hini) (hts _ hk) hd hR, hts _ hi⟩ ⟨z_blind, fun U hU hW => ⟨rfl, by rw [hU], by rw [hU]; exact hP, va_K.moved hW.alike hK, hD.weaken (fun _ _ _ _ => trivial)⟩⟩ rfl hn hl hst (lv_room hro) d hf) hS (fun q _ h => hF q h) hF (fun r' u t H1 locs1 ht hvm hr' hB hz1 hk1 hS1 => ?_)
  obtain ⟨hP1, hK1, hD1⟩ := hB
  subst hr'
  rw [ht] at hP1
  exact k H1 locs1 ⟨hP1, hD1.weaken (fun k q _ h => hF q.1 h), hS1⟩
theorem z_vv {cc' : ByteArray} {nL' n idx ci N : Nat} {ret' : Option FieldType} {b : Nat} {C : String} {T : u_T} {fs : List Value} (C0 : z_cx own cc nL ret D tys A p s m args meth c) (hw : z_wd D w A s H locs) (hc : z_cv l y cc' nL' ret' fr lo D tys w w1 (.ref b :: As)) (hm : z_mw y C ci T N cc' nL' ret' n) (hk : Cond.methodLink own idx y ∈ z_tbl) (q0 : Nat) (hq : w[q0]? = some (b, .inr (ci, fs))) (hR : fr + 1 ≤ R.frames ∧ 8 + (nL' + 11) + lo ≤ R.locals) (hf : cells ≤ R.cells ∧ slots ≤ R.slots) (hn : As.length = n) (hl : ls.size = nL) (hst : st = As.reverse ++ .ref b :: rest) (hro : (rest.map fun v => v.category).sum ≤ 8) (d : decode cc pc = .ok (.invokevirtual idx, 3))
    (k : ∀ (H1 : Heap) (locs1 : List Loc), z_wd D w1 A s H1 locs1 → W p l e R s m args below meth c H1 locs1 cells slots Q (F0 m (pc + 3) ls (rest))) : W p l e R s m args below meth c H locs cells slots Q (F0 m pc ls st) := by
  have hF := z_F C0 hw
  obtain ⟨hx, hb, hr, hlk, hml, hown, hts, hK, hA⟩ := C0
  obtain ⟨hP, hD, hS⟩ := hw
  obtain ⟨hvc, hi, hse, hini, hco, hcl, hd⟩ := hm
  refine va_callv (va_runV (As := As) (rest := rest) ⟨hx, hb, hml, hown, hts⟩ (hc H.size) ⟨callB_of n hts (z_goodIn hco) rfl rfl rfl (by rw [hcl]; exact hts _ hini) (hts _ hk) hd hR, hts _ hi, hts _ hse⟩ ⟨z_blind, va_recv hK hP hvc hq, fun U hU hW => ⟨rfl, by rw [hU], by rw [hU]; exact hP, va_K.moved hW.alike hK, hD.weaken (fun _ _ _ _ => trivial)⟩⟩ rfl hn hl hst (lv_room hro) d hf) hS (fun q _ h => hF q h) hF (fun u t H1 locs1 ht hvm hr' hB hz1 hk1 hS1 => ?_)
  obtain ⟨hP1, hK1, hD1⟩ := hB
  rw [ht] at hP1
  exact k H1 locs1 ⟨hP1, hD1.weaken (fun k q _ h => hF q.1 h), hS1⟩
theorem z_sv {cc' : ByteArray} {nL' n idx : Nat} {ret' : Option FieldType} (C0 : z_cx own cc nL ret D tys A p s m args meth c) (hw : z_wd D w A s H locs) (hc : z_cv l y cc' nL' ret' fr lo D tys w w1 As) (hm : z_ms y cc' nL' ret' n) (hk : Cond.methodLink own idx y ∈ z_tbl) (hR : fr + 1 ≤ R.frames ∧ 8 + (nL' + 11) + lo ≤ R.locals) (hf : cells ≤ R.cells ∧ slots ≤ R.slots) (hn : As.length = n) (hl : ls.size = nL) (hst : st = As.reverse ++ rest) (hro : (rest.map fun v => v.category).sum ≤ 8) (d : decode cc pc = .ok (.invokestatic idx, 3))
    (k : ∀ (H1 : Heap) (locs1 : List Loc), z_wd D w1 A s H1 locs1 → W p l e R s m args below meth c H1 locs1 cells slots Q (F0 m (pc + 3) ls (rest))) : W p l e R s m args below meth c H locs cells slots Q (F0 m pc ls st) := by
  have hF := z_F C0 hw
  obtain ⟨hx, hb, hr, hlk, hml, hown, hts, hK, hA⟩ := C0
  obtain ⟨hP, hD, hS⟩ := hw
  obtain ⟨hi, hini, hco, hd⟩ := hm
  refine va_callv (va_runS (As := As) (rest := rest) ⟨hx, hb, hml, hown, hts⟩ (hc H.size) ⟨callB_of n hts (z_goodIn hco) rfl rfl rfl (hts _ hini) (hts _ hk) hd hR, hts _ hi⟩ ⟨z_blind, fun U hU hW => ⟨rfl, by rw [hU], by rw [hU]; exact hP, va_K.moved hW.alike hK, hD.weaken (fun _ _ _ _ => trivial)⟩⟩ rfl hn hl hst (lv_room hro) d hf) hS (fun q _ h => hF q h) hF (fun u t H1 locs1 ht hvm hr' hB hz1 hk1 hS1 => ?_)
  obtain ⟨hP1, hK1, hD1⟩ := hB
  rw [ht] at hP1
  exact k H1 locs1 ⟨hP1, hD1.weaken (fun k q _ h => hF q.1 h), hS1⟩
theorem z_get {C : String} {T : u_T} {N ci idx a : Nat} {fs : List Value} {v : Value} (C0 : z_cx own cc nL ret D tys A p s m args meth c) (hw : z_wd D w A s H locs) (hin : ∀ x ∈ u_ws C T N, x ∈ z_tbl) (q0 : Nat) (he : w[q0]? = some (a, .inr (ci, fs))) (hc : vwCl[ci]? = some (C, T, N)) (k : Nat) (hk : k < N) (hlink : Cond.fieldLink own idx (T k).1 (T k).2.1 (T k).2.2.1 ∈ z_tbl) (hv : fs[k]? = some v) (d : decode cc pc = .ok (.getfield idx, 3))
    (kk : W p l e R s m args below meth c H locs cells slots Q (F0 m (pc + 3) ls (v :: rest))) : W p l e R s m args below meth c H locs cells slots Q (F0 m pc ls (.ref a :: rest)) := by
  obtain ⟨hx, hb, hr, hlk, hml, hown, hts, hK, hA⟩ := C0
  obtain ⟨hP, hD, hS⟩ := hw
  exact va_get hx hb hts hin hown hK hP q0 he hc k hk (hts _ hlink) (fun _ h => h) hv d kk
theorem z_put {C : String} {T : u_T} {N ci idx a : Nat} {fs : List Value} {v : Value} {ty : FieldType} (C0 : z_cx own cc nL ret D tys A p s m args meth c) (hw : z_wd D w A s H locs) (hin : ∀ x ∈ u_ws C T N, x ∈ z_tbl) (ty0 : Nat → FieldType) (hty : ∀ k, k < N → parseFieldDescriptor (T k).2.2.1 = some (ty0 k)) (hnm : ∀ a, a < N → ∀ b, b < N → a ≠ b → (T a).2.1 ≠ (T b).2.1) (q0 : Nat) (he : w[q0]? = some (a, .inr (ci, fs))) (hc : vwCl[ci]? = some (C, T, N)) (k : Nat) (hk : k < N) (hlink : Cond.fieldLink own idx (T k).1 (T k).2.1 (T k).2.2.1 ∈ z_tbl) (hfin : (T k).2.2.2 = false) (hd : parseFieldDescriptor (T k).2.2.1 = some ty) (hn : narrow ty v = v) (hfit : fits ty v = true) (hl : k < fs.length) (d : decode cc pc = .ok (.putfield idx, 3)) (hw1 : w.set q0 (a, .inr (ci, fs.set k v)) = w1)
    (kk : ∀ (H1 : Heap) (locs1 : List Loc), z_wd D w1 A s H1 locs1 → W p l e R s m args below meth c H1 locs1 cells slots Q (F0 m (pc + 3) ls rest)) : W p l e R s m args below meth c H locs cells slots Q (F0 m pc ls (v :: .ref a :: rest)) := by
  obtain ⟨hx, hb, hr, hlk, hml, hown, hts, hK, hA⟩ := C0
  obtain ⟨hP, hD, hS⟩ := hw
  refine va_put hx hb hts hin ty0 hty hnm hown hK hP hD hS q0 he hc k hk (hts _ hlink) (fun _ h => h) hfin hd hn hfit hl d (fun H1 locs1 hP1 hD1 hS1 => ?_)
  rw [hw1] at hP1 hD1
  exact kk H1 locs1 ⟨hP1, hD1, hS1⟩
/-- an array of longs is read, is written -/
theorem z_lald {a n : Nat} {cA : ClassId} {f : Nat → Int64} {i : Int32} (C0 : z_cx own cc nL ret D tys A p s m args meth c) (hw : z_wd D w A s H locs) (q0 t0 : Nat) (ha : w[q0]? = some (a, .inl (cA, n, .inr (.inl f)))) (ht : tys[t0]? = some (cA, .long)) (hin : ¬ z_bad i n) (d : decode cc pc = .ok (.laload, 1))
    (kk : W p l e R s m args below meth c H locs cells slots Q (F0 m (pc + 1) ls (.long (f i.toNatClampNeg) :: rest))) : W p l e R s m args below meth c H locs cells slots Q (F0 m pc ls (.int i :: .ref a :: rest)) := by
  obtain ⟨hx, hb, hr, hlk, hml, hown, hts, hK, hA⟩ := C0
  exact va_lald hx hb hK hw.1 q0 t0 ha ht hin d kk
theorem z_last {a n : Nat} {cA : ClassId} {f : Nat → Int64} {i : Int32} {x : Int64} (C0 : z_cx own cc nL ret D tys A p s m args meth c) (hw : z_wd D w A s H locs) (q0 t0 : Nat) (ha : w[q0]? = some (a, .inl (cA, n, .inr (.inl f)))) (ht : tys[t0]? = some (cA, .long)) (hin : ¬ z_bad i n) (d : decode cc pc = .ok (.lastore, 1)) (hw1 : w.set q0 (a, .inl (cA, n, .inr (.inl (vp_updL f i.toNatClampNeg x)))) = w1)
    (kk : ∀ (H1 : Heap) (locs1 : List Loc), z_wd D w1 A s H1 locs1 → W p l e R s m args below meth c H1 locs1 cells slots Q (F0 m (pc + 1) ls rest)) : W p l e R s m args below meth c H locs cells slots Q (F0 m pc ls (.long x :: .int i :: .ref a :: rest)) := by
  obtain ⟨hx, hb, hr, hlk, hml, hown, hts, hK, hA⟩ := C0
  obtain ⟨hP, hD, hS⟩ := hw
  refine va_last hx hb hK hP hD hS q0 t0 ha ht hin d (fun H1 locs1 hP1 hD1 hS1 => ?_)
  rw [hw1] at hP1 hD1
  exact kk H1 locs1 ⟨hP1, hD1, hS1⟩
theorem z_iald {a n : Nat} {cA : ClassId} {f : Nat → Int32} {i : Int32} (C0 : z_cx own cc nL ret D tys A p s m args meth c) (hw : z_wd D w A s H locs) (q0 t0 : Nat) (ha : w[q0]? = some (a, .inl (cA, n, .inl f))) (ht : tys[t0]? = some (cA, .int)) (hin : ¬ z_bad i n) (d : decode cc pc = .ok (.iaload, 1))
    (kk : W p l e R s m args below meth c H locs cells slots Q (F0 m (pc + 1) ls (.int (f i.toNatClampNeg) :: rest))) : W p l e R s m args below meth c H locs cells slots Q (F0 m pc ls (.int i :: .ref a :: rest)) := by
  obtain ⟨hx, hb, hr, hlk, hml, hown, hts, hK, hA⟩ := C0
  exact va_iald hx hb hK hw.1 q0 t0 ha ht hin d kk
theorem z_iast {a n : Nat} {cA : ClassId} {f : Nat → Int32} {i : Int32} {x : Int32} (C0 : z_cx own cc nL ret D tys A p s m args meth c) (hw : z_wd D w A s H locs) (q0 t0 : Nat) (ha : w[q0]? = some (a, .inl (cA, n, .inl f))) (ht : tys[t0]? = some (cA, .int)) (hin : ¬ z_bad i n) (d : decode cc pc = .ok (.iastore, 1)) (hw1 : w.set q0 (a, .inl (cA, n, .inl (upd f i.toNatClampNeg x))) = w1)
    (kk : ∀ (H1 : Heap) (locs1 : List Loc), z_wd D w1 A s H1 locs1 → W p l e R s m args below meth c H1 locs1 cells slots Q (F0 m (pc + 1) ls rest)) : W p l e R s m args below meth c H locs cells slots Q (F0 m pc ls (.int x :: .int i :: .ref a :: rest)) := by
  obtain ⟨hx, hb, hr, hlk, hml, hown, hts, hK, hA⟩ := C0
  obtain ⟨hP, hD, hS⟩ := hw
  refine va_iast hx hb hK hP hD hS q0 t0 ha ht hin d (fun H1 locs1 hP1 hD1 hS1 => ?_)
  rw [hw1] at hP1 hD1
  exact kk H1 locs1 ⟨hP1, hD1, hS1⟩
theorem z_bald {a n : Nat} {cA : ClassId} {f : Nat → Int32} {i : Int32} (C0 : z_cx own cc nL ret D tys A p s m args meth c) (hw : z_wd D w A s H locs) (q0 t0 : Nat) (ha : w[q0]? = some (a, .inl (cA, n, .inl f))) (ht : tys[t0]? = some (cA, .byte)) (hin : ¬ z_bad i n) (d : decode cc pc = .ok (.baload, 1))
    (kk : W p l e R s m args below meth c H locs cells slots Q (F0 m (pc + 1) ls (.int (f i.toNatClampNeg) :: rest))) : W p l e R s m args below meth c H locs cells slots Q (F0 m pc ls (.int i :: .ref a :: rest)) := by
  obtain ⟨hx, hb, hr, hlk, hml, hown, hts, hK, hA⟩ := C0
  exact va_bald hx hb hK hw.1 q0 t0 ha ht hin d kk
theorem z_bast {a n : Nat} {cA : ClassId} {f : Nat → Int32} {i : Int32} {x : Int32} (C0 : z_cx own cc nL ret D tys A p s m args meth c) (hw : z_wd D w A s H locs) (q0 t0 : Nat) (ha : w[q0]? = some (a, .inl (cA, n, .inl f))) (ht : tys[t0]? = some (cA, .byte)) (hin : ¬ z_bad i n) (d : decode cc pc = .ok (.bastore, 1)) (hw1 : w.set q0 (a, .inl (cA, n, .inl (upd f i.toNatClampNeg (vp_nar .byte x)))) = w1)
    (kk : ∀ (H1 : Heap) (locs1 : List Loc), z_wd D w1 A s H1 locs1 → W p l e R s m args below meth c H1 locs1 cells slots Q (F0 m (pc + 1) ls rest)) : W p l e R s m args below meth c H locs cells slots Q (F0 m pc ls (.int x :: .int i :: .ref a :: rest)) := by
  obtain ⟨hx, hb, hr, hlk, hml, hown, hts, hK, hA⟩ := C0
  obtain ⟨hP, hD, hS⟩ := hw
  refine va_bast hx hb hK hP hD hS q0 t0 ha ht hin d (fun H1 locs1 hP1 hD1 hS1 => ?_)
  rw [hw1] at hP1 hD1
  exact kk H1 locs1 ⟨hP1, hD1, hS1⟩
theorem z_zald {a n : Nat} {cA : ClassId} {f : Nat → Int32} {i : Int32} (C0 : z_cx own cc nL ret D tys A p s m args meth c) (hw : z_wd D w A s H locs) (q0 t0 : Nat) (ha : w[q0]? = some (a, .inl (cA, n, .inl f))) (ht : tys[t0]? = some (cA, .boolean)) (hin : ¬ z_bad i n) (d : decode cc pc = .ok (.baload, 1))
    (kk : W p l e R s m args below meth c H locs cells slots Q (F0 m (pc + 1) ls (.int (f i.toNatClampNeg) :: rest))) : W p l e R s m args below meth c H locs cells slots Q (F0 m pc ls (.int i :: .ref a :: rest)) := by
  obtain ⟨hx, hb, hr, hlk, hml, hown, hts, hK, hA⟩ := C0
  exact va_zald hx hb hK hw.1 q0 t0 ha ht hin d kk
theorem z_zast {a n : Nat} {cA : ClassId} {f : Nat → Int32} {i : Int32} {x : Int32} (C0 : z_cx own cc nL ret D tys A p s m args meth c) (hw : z_wd D w A s H locs) (q0 t0 : Nat) (ha : w[q0]? = some (a, .inl (cA, n, .inl f))) (ht : tys[t0]? = some (cA, .boolean)) (hin : ¬ z_bad i n) (d : decode cc pc = .ok (.bastore, 1)) (hw1 : w.set q0 (a, .inl (cA, n, .inl (upd f i.toNatClampNeg (vp_nar .boolean x)))) = w1)
    (kk : ∀ (H1 : Heap) (locs1 : List Loc), z_wd D w1 A s H1 locs1 → W p l e R s m args below meth c H1 locs1 cells slots Q (F0 m (pc + 1) ls rest)) : W p l e R s m args below meth c H locs cells slots Q (F0 m pc ls (.int x :: .int i :: .ref a :: rest)) := by
  obtain ⟨hx, hb, hr, hlk, hml, hown, hts, hK, hA⟩ := C0
  obtain ⟨hP, hD, hS⟩ := hw
  refine va_zast hx hb hK hP hD hS q0 t0 ha ht hin d (fun H1 locs1 hP1 hD1 hS1 => ?_)
  rw [hw1] at hP1 hD1
  exact kk H1 locs1 ⟨hP1, hD1, hS1⟩
theorem z_ti {x y : Int32} (h : y = x) (k : W p l e R s m args below meth c H locs cells slots Q (F0 m pc ls (.int y :: rest))) : W p l e R s m args below meth c H locs cells slots Q (F0 m pc ls (.int x :: rest)) := h ▸ k
theorem z_tl {x y : Int64} (h : y = x) (k : W p l e R s m args below meth c H locs cells slots Q (F0 m pc ls (.long y :: rest))) : W p l e R s m args below meth c H locs cells slots Q (F0 m pc ls (.long x :: rest)) := h ▸ k
end Zbase
end
section
theorem fl_Co_21 : Cond.fieldLink z_RCo 21 "LongModeCore" "pages" "LLongModeCore$Pages;" ∈ z_tbl := z_at (k := 334) (by decide +kernel) rfl
theorem kl_Pa_19 : Cond.constantLong z_RPa 19 (32768) ∈ z_tbl := z_at (k := 366) (by decide +kernel) rfl
theorem kl_Pa_21 : Cond.constantLong z_RPa 21 (7) ∈ z_tbl := z_at (k := 367) (by decide +kernel) rfl
theorem fl_Pa_11 : Cond.fieldLink z_RPa 11 "LongModeCore$Pages" "words" "[J" ∈ z_tbl := z_at (k := 89) (by decide +kernel) rfl
theorem kl_Pa_23 : Cond.constantLong z_RPa 23 (255) ∈ z_tbl := z_at (k := 368) (by decide +kernel) rfl
theorem kl_Pa_25 : Cond.constantLong z_RPa 25 (-1) ∈ z_tbl := z_at (k := 369) (by decide +kernel) rfl
theorem ml_Co_92 : Cond.methodLink z_RCo 92 y_Pa_putByte ∈ z_tbl := z_at (k := 362) (by decide +kernel) rfl
theorem kl_Mo_60 : Cond.constantLong z_RMo 60 (8) ∈ z_tbl := z_at (k := 1074) (by decide +kernel) rfl
theorem kl_Mo_42 : Cond.constantLong z_RMo 42 (32768) ∈ z_tbl := z_at (k := 1083) (by decide +kernel) rfl
theorem fl_Mo_8 : Cond.fieldLink z_RMo 8 "LongModeCoreModel" "memory" "[B" ∈ z_tbl := z_at (k := 926) (by decide +kernel) rfl
theorem ml_Co_96 : Cond.methodLink z_RCo 96 y_Pa_byteAt ∈ z_tbl := z_at (k := 374) (by decide +kernel) rfl
theorem ml_Mo_44 : Cond.methodLink z_RMo 44 y_Mo_byteAt ∈ z_tbl := z_at (k := 1079) (by decide +kernel) rfl
theorem ml_Mo_62 : Cond.methodLink z_RMo 62 y_Mo_eight ∈ z_tbl := z_at (k := 1075) (by decide +kernel) rfl
theorem kl_Co_166 : Cond.constantLong z_RCo 166 (4294967295) ∈ z_tbl := z_at (k := 385) (by decide +kernel) rfl
theorem ml_Co_100 : Cond.methodLink z_RCo 100 y_Co_joined ∈ z_tbl := z_at (k := 382) (by decide +kernel) rfl
theorem fl_Co_12 : Cond.fieldLink z_RCo 12 "LongModeCore" "state" "LLongModeCore$State;" ∈ z_tbl := z_at (k := 333) (by decide +kernel) rfl
theorem fl_Co_108 : Cond.fieldLink z_RCo 108 "LongModeCore$State" "next" "J" ∈ z_tbl := z_at (k := 39) (by decide +kernel) rfl
theorem fl_Co_112 : Cond.fieldLink z_RCo 112 "LongModeCore$State" "table" "J" ∈ z_tbl := z_at (k := 40) (by decide +kernel) rfl
theorem fl_Co_115 : Cond.fieldLink z_RCo 115 "LongModeCore$State" "entry" "J" ∈ z_tbl := z_at (k := 42) (by decide +kernel) rfl
theorem fl_Co_118 : Cond.fieldLink z_RCo 118 "LongModeCore$State" "mask" "J" ∈ z_tbl := z_at (k := 44) (by decide +kernel) rfl
theorem fl_Co_121 : Cond.fieldLink z_RCo 121 "LongModeCore$State" "flags" "I" ∈ z_tbl := z_at (k := 53) (by decide +kernel) rfl
theorem fl_Co_125 : Cond.fieldLink z_RCo 125 "LongModeCore$State" "undefined" "J" ∈ z_tbl := z_at (k := 47) (by decide +kernel) rfl
theorem fl_Co_104 : Cond.fieldLink z_RCo 104 "LongModeCore$State" "registers" "[J" ∈ z_tbl := z_at (k := 33) (by decide +kernel) rfl
theorem kl_Mo_459 : Cond.constantLong z_RMo 459 (4294967295) ∈ z_tbl := z_at (k := 1422) (by decide +kernel) rfl
theorem ml_Mo_461 : Cond.methodLink z_RMo 461 y_Mo_join ∈ z_tbl := z_at (k := 1419) (by decide +kernel) rfl
theorem fl_Mo_205 : Cond.fieldLink z_RMo 205 "LongModeCoreModel" "undefined" "J" ∈ z_tbl := z_at (k := 933) (by decide +kernel) rfl
theorem fl_Mo_21 : Cond.fieldLink z_RMo 21 "LongModeCoreModel" "flag" "[Z" ∈ z_tbl := z_at (k := 939) (by decide +kernel) rfl
theorem kl_Mo_75 : Cond.constantLong z_RMo 75 (4) ∈ z_tbl := z_at (k := 1087) (by decide +kernel) rfl
theorem kl_Mo_451 : Cond.constantLong z_RMo 451 (16) ∈ z_tbl := z_at (k := 1196) (by decide +kernel) rfl
theorem kl_Mo_453 : Cond.constantLong z_RMo 453 (64) ∈ z_tbl := z_at (k := 1197) (by decide +kernel) rfl
theorem kl_Mo_66 : Cond.constantLong z_RMo 66 (128) ∈ z_tbl := z_at (k := 1084) (by decide +kernel) rfl
theorem kl_Mo_455 : Cond.constantLong z_RMo 455 (1024) ∈ z_tbl := z_at (k := 1198) (by decide +kernel) rfl
theorem kl_Mo_457 : Cond.constantLong z_RMo 457 (2048) ∈ z_tbl := z_at (k := 1199) (by decide +kernel) rfl
theorem ml_Mo_316 : Cond.methodLink z_RMo 316 y_Mo_setFlags ∈ z_tbl := z_at (k := 1200) (by decide +kernel) rfl
theorem fl_Mo_448 : Cond.fieldLink z_RMo 448 "LongModeCoreModel" "mask" "J" ∈ z_tbl := z_at (k := 932) (by decide +kernel) rfl
theorem fl_Mo_445 : Cond.fieldLink z_RMo 445 "LongModeCoreModel" "entryPlace" "J" ∈ z_tbl := z_at (k := 931) (by decide +kernel) rfl
theorem fl_Mo_52 : Cond.fieldLink z_RMo 52 "LongModeCoreModel" "table" "J" ∈ z_tbl := z_at (k := 930) (by decide +kernel) rfl
theorem fl_Mo_111 : Cond.fieldLink z_RMo 111 "LongModeCoreModel" "next" "J" ∈ z_tbl := z_at (k := 929) (by decide +kernel) rfl
theorem fl_Mo_14 : Cond.fieldLink z_RMo 14 "LongModeCoreModel" "\x72" "[J" ∈ z_tbl := z_at (k := 927) (by decide +kernel) rfl
theorem fl_Co_128 : Cond.fieldLink z_RCo 128 "LongModeCore$State" "fault" "J" ∈ z_tbl := z_at (k := 48) (by decide +kernel) rfl
theorem fl_Co_131 : Cond.fieldLink z_RCo 131 "LongModeCore$State" "code" "I" ∈ z_tbl := z_at (k := 55) (by decide +kernel) rfl
theorem fl_Co_134 : Cond.fieldLink z_RCo 134 "LongModeCore$State" "user" "Z" ∈ z_tbl := z_at (k := 57) (by decide +kernel) rfl
theorem kl_Co_138 : Cond.constantLong z_RCo 138 (3) ∈ z_tbl := z_at (k := 390) (by decide +kernel) rfl
theorem ml_Mo_304 : Cond.methodLink z_RMo 304 y_Mo_flags ∈ z_tbl := z_at (k := 1192) (by decide +kernel) rfl
theorem fl_Mo_89 : Cond.fieldLink z_RMo 89 "LongModeCoreModel" "fault" "J" ∈ z_tbl := z_at (k := 934) (by decide +kernel) rfl
theorem fl_Mo_92 : Cond.fieldLink z_RMo 92 "LongModeCoreModel" "code" "I" ∈ z_tbl := z_at (k := 935) (by decide +kernel) rfl
theorem fl_Mo_48 : Cond.fieldLink z_RMo 48 "LongModeCoreModel" "user" "Z" ∈ z_tbl := z_at (k := 937) (by decide +kernel) rfl
theorem kl_Mo_464 : Cond.constantLong z_RMo 464 (3) ∈ z_tbl := z_at (k := 1427) (by decide +kernel) rfl
theorem fl_Co_30 : Cond.fieldLink z_RCo 30 "LongModeCore" "decoder" "LLongModeCore$Decoder;" ∈ z_tbl := z_at (k := 335) (by decide +kernel) rfl
theorem fl_De_65 : Cond.fieldLink z_RDe 65 "LongModeCore$Decoder" "count" "I" ∈ z_tbl := z_at (k := 103) (by decide +kernel) rfl
theorem fl_De_71 : Cond.fieldLink z_RDe 71 "LongModeCore$Decoder" "shortened" "Z" ∈ z_tbl := z_at (k := 107) (by decide +kernel) rfl
theorem fl_De_75 : Cond.fieldLink z_RDe 75 "LongModeCore$Decoder" "repeat" "I" ∈ z_tbl := z_at (k := 115) (by decide +kernel) rfl
theorem fl_De_78 : Cond.fieldLink z_RDe 78 "LongModeCore$Decoder" "rex" "I" ∈ z_tbl := z_at (k := 108) (by decide +kernel) rfl
theorem fl_De_84 : Cond.fieldLink z_RDe 84 "LongModeCore$Decoder" "last" "I" ∈ z_tbl := z_at (k := 105) (by decide +kernel) rfl
theorem fl_De_23 : Cond.fieldLink z_RDe 23 "LongModeCore$Decoder" "opcode" "I" ∈ z_tbl := z_at (k := 120) (by decide +kernel) rfl
theorem fl_De_9 : Cond.fieldLink z_RDe 9 "LongModeCore$Decoder" "state" "LLongModeCore$State;" ∈ z_tbl := z_at (k := 101) (by decide +kernel) rfl
theorem fl_De_60 : Cond.fieldLink z_RDe 60 "LongModeCore$State" "next" "J" ∈ z_tbl := z_at (k := 37) (by decide +kernel) rfl
theorem fl_De_15 : Cond.fieldLink z_RDe 15 "LongModeCore$Decoder" "pages" "LLongModeCore$Pages;" ∈ z_tbl := z_at (k := 102) (by decide +kernel) rfl
theorem ml_Pa_27 : Cond.methodLink z_RPa 27 y_Pa_isWrong ∈ z_tbl := z_at (k := 416) (by decide +kernel) rfl
theorem fl_Pa_15 : Cond.fieldLink z_RPa 15 "LongModeCore$Pages" "state" "LLongModeCore$State;" ∈ z_tbl := z_at (k := 88) (by decide +kernel) rfl
theorem fl_Pa_31 : Cond.fieldLink z_RPa 31 "LongModeCore$State" "table" "J" ∈ z_tbl := z_at (k := 41) (by decide +kernel) rfl
theorem kl_Pa_37 : Cond.constantLong z_RPa 37 (4503599627366400) ∈ z_tbl := z_at (k := 419) (by decide +kernel) rfl
theorem kl_Pa_39 : Cond.constantLong z_RPa 39 (4095) ∈ z_tbl := z_at (k := 420) (by decide +kernel) rfl
theorem fl_Pa_63 : Cond.fieldLink z_RPa 63 "LongModeCore$State" "user" "Z" ∈ z_tbl := z_at (k := 58) (by decide +kernel) rfl
theorem kl_Pa_67 : Cond.constantLong z_RPa 67 (4) ∈ z_tbl := z_at (k := 429) (by decide +kernel) rfl
theorem kl_Pa_61 : Cond.constantLong z_RPa 61 (2) ∈ z_tbl := z_at (k := 426) (by decide +kernel) rfl
theorem ml_Pa_57 : Cond.methodLink z_RPa 57 y_Pa_isForbidden ∈ z_tbl := z_at (k := 435) (by decide +kernel) rfl
theorem kl_Pa_71 : Cond.constantLong z_RPa 71 (-2) ∈ z_tbl := z_at (k := 428) (by decide +kernel) rfl
theorem kl_Pa_69 : Cond.constantLong z_RPa 69 (16) ∈ z_tbl := z_at (k := 427) (by decide +kernel) rfl
theorem ml_Pa_43 : Cond.methodLink z_RPa 43 y_Pa_refused ∈ z_tbl := z_at (k := 422) (by decide +kernel) rfl
theorem kl_Pa_41 : Cond.constantLong z_RPa 41 (511) ∈ z_tbl := z_at (k := 421) (by decide +kernel) rfl
theorem kl_Pa_47 : Cond.constantLong z_RPa 47 (128) ∈ z_tbl := z_at (k := 430) (by decide +kernel) rfl
theorem kl_Pa_51 : Cond.constantLong z_RPa 51 (9) ∈ z_tbl := z_at (k := 432) (by decide +kernel) rfl
theorem kl_Pa_49 : Cond.constantLong z_RPa 49 (2088960) ∈ z_tbl := z_at (k := 431) (by decide +kernel) rfl
theorem kl_Pa_53 : Cond.constantLong z_RPa 53 (4503599625273344) ∈ z_tbl := z_at (k := 433) (by decide +kernel) rfl
theorem kl_Pa_55 : Cond.constantLong z_RPa 55 (2097151) ∈ z_tbl := z_at (k := 434) (by decide +kernel) rfl
theorem ml_De_147 : Cond.methodLink z_RDe 147 y_Pa_locate ∈ z_tbl := z_at (k := 412) (by decide +kernel) rfl
theorem fl_De_144 : Cond.fieldLink z_RDe 144 "LongModeCore$Decoder" "found" "J" ∈ z_tbl := z_at (k := 104) (by decide +kernel) rfl
theorem ml_De_154 : Cond.methodLink z_RDe 154 y_Pa_byteAt ∈ z_tbl := z_at (k := 443) (by decide +kernel) rfl
theorem fl_Pa_73 : Cond.fieldLink z_RPa 73 "LongModeCore$State" "fault" "J" ∈ z_tbl := z_at (k := 49) (by decide +kernel) rfl
theorem fl_Pa_76 : Cond.fieldLink z_RPa 76 "LongModeCore$State" "code" "I" ∈ z_tbl := z_at (k := 56) (by decide +kernel) rfl
theorem ml_De_150 : Cond.methodLink z_RDe 150 y_Pa_refusal ∈ z_tbl := z_at (k := 439) (by decide +kernel) rfl
theorem kl_De_142 : Cond.constantLong z_RDe 142 (4095) ∈ z_tbl := z_at (k := 411) (by decide +kernel) rfl
theorem ml_De_81 : Cond.methodLink z_RDe 81 y_De_fetch ∈ z_tbl := z_at (k := 407) (by decide +kernel) rfl
theorem ml_De_19 : Cond.methodLink z_RDe 19 y_De_fetchOpcode ∈ z_tbl := z_at (k := 403) (by decide +kernel) rfl
theorem ml_Co_140 : Cond.methodLink z_RCo 140 y_De_decode ∈ z_tbl := z_at (k := 399) (by decide +kernel) rfl
theorem fl_Co_61 : Cond.fieldLink z_RCo 61 "LongModeCore" "flow" "LLongModeCore$Flow;" ∈ z_tbl := z_at (k := 337) (by decide +kernel) rfl
theorem fl_Co_44 : Cond.fieldLink z_RCo 44 "LongModeCore" "operands" "LLongModeCore$Operands;" ∈ z_tbl := z_at (k := 336) (by decide +kernel) rfl
theorem fl_Mo_28 : Cond.fieldLink z_RMo 28 "LongModeCoreModel" "refused" "I" ∈ z_tbl := z_at (k := 941) (by decide +kernel) rfl
theorem fl_Mo_103 : Cond.fieldLink z_RMo 103 "LongModeCoreModel" "waits" "I" ∈ z_tbl := z_at (k := 944) (by decide +kernel) rfl
theorem fl_Mo_229 : Cond.fieldLink z_RMo 229 "LongModeCoreModel" "oldUser" "Z" ∈ z_tbl := z_at (k := 938) (by decide +kernel) rfl
theorem fl_Mo_108 : Cond.fieldLink z_RMo 108 "LongModeCoreModel" "length" "I" ∈ z_tbl := z_at (k := 946) (by decide +kernel) rfl
theorem fl_Mo_121 : Cond.fieldLink z_RMo 121 "LongModeCoreModel" "rex" "I" ∈ z_tbl := z_at (k := 950) (by decide +kernel) rfl
theorem fl_Mo_124 : Cond.fieldLink z_RMo 124 "LongModeCoreModel" "repeat" "I" ∈ z_tbl := z_at (k := 951) (by decide +kernel) rfl
theorem fl_Mo_127 : Cond.fieldLink z_RMo 127 "LongModeCoreModel" "small" "Z" ∈ z_tbl := z_at (k := 956) (by decide +kernel) rfl
theorem ml_Mo_77 : Cond.methodLink z_RMo 77 y_Mo_isWrong ∈ z_tbl := z_at (k := 1064) (by decide +kernel) rfl
theorem fl_Mo_39 : Cond.fieldLink z_RMo 39 "LongModeCoreModel" "lies" "[J" ∈ z_tbl := z_at (k := 945) (by decide +kernel) rfl
theorem ml_Mo_56 : Cond.methodLink z_RMo 56 y_Mo_bits ∈ z_tbl := z_at (k := 1071) (by decide +kernel) rfl
theorem fl_Mo_68 : Cond.fieldLink z_RMo 68 "LongModeCoreModel" "lookCode" "I" ∈ z_tbl := z_at (k := 936) (by decide +kernel) rfl
theorem kl_Mo_71 : Cond.constantLong z_RMo 71 (-1) ∈ z_tbl := z_at (k := 1085) (by decide +kernel) rfl
theorem kl_Mo_73 : Cond.constantLong z_RMo 73 (2) ∈ z_tbl := z_at (k := 1086) (by decide +kernel) rfl
theorem ml_Mo_85 : Cond.methodLink z_RMo 85 y_Mo_find ∈ z_tbl := z_at (k := 1067) (by decide +kernel) rfl
theorem ml_Mo_81 : Cond.methodLink z_RMo 81 y_Mo_refuse ∈ z_tbl := z_at (k := 1056) (by decide +kernel) rfl
theorem ml_Mo_95 : Cond.methodLink z_RMo 95 y_Mo_lookUp ∈ z_tbl := z_at (k := 1060) (by decide +kernel) rfl
theorem ml_Mo_114 : Cond.methodLink z_RMo 114 y_Mo_fetch ∈ z_tbl := z_at (k := 1052) (by decide +kernel) rfl
theorem fl_Mo_130 : Cond.fieldLink z_RMo 130 "LongModeCoreModel" "two" "Z" ∈ z_tbl := z_at (k := 958) (by decide +kernel) rfl
theorem fl_Mo_133 : Cond.fieldLink z_RMo 133 "LongModeCoreModel" "opcode" "I" ∈ z_tbl := z_at (k := 955) (by decide +kernel) rfl
theorem ml_Mo_232 : Cond.methodLink z_RMo 232 y_Mo_open ∈ z_tbl := z_at (k := 1048) (by decide +kernel) rfl
theorem fl_Mo_173 : Cond.fieldLink z_RMo 173 "LongModeCoreModel" "goes" "J" ∈ z_tbl := z_at (k := 960) (by decide +kernel) rfl
theorem fl_Mo_25 : Cond.fieldLink z_RMo 25 "LongModeCoreModel" "oldFlag" "[Z" ∈ z_tbl := z_at (k := 940) (by decide +kernel) rfl
theorem fl_Mo_18 : Cond.fieldLink z_RMo 18 "LongModeCoreModel" "old" "[J" ∈ z_tbl := z_at (k := 928) (by decide +kernel) rfl
theorem fl_Mo_32 : Cond.fieldLink z_RMo 32 "LongModeCoreModel" "waitAt" "[J" ∈ z_tbl := z_at (k := 942) (by decide +kernel) rfl
theorem fl_Mo_35 : Cond.fieldLink z_RMo 35 "LongModeCoreModel" "waitByte" "[I" ∈ z_tbl := z_at (k := 943) (by decide +kernel) rfl
theorem ml_Co_159 : Cond.methodLink z_RCo 159 y_Co_step ∈ z_tbl := z_at (k := 913) (by decide +kernel) rfl
theorem ml_Mo_466 : Cond.methodLink z_RMo 466 y_Mo_step ∈ z_tbl := z_at (k := 1436) (by decide +kernel) rfl
theorem ml_Co_162 : Cond.methodLink z_RCo 162 y_Pa_locate ∈ z_tbl := z_at (k := 918) (by decide +kernel) rfl
theorem kl_Mo_469 : Cond.constantLong z_RMo 469 (-2) ∈ z_tbl := z_at (k := 1441) (by decide +kernel) rfl
set_option maxRecDepth 100000 in
theorem mw_Pa_putByte : z_mw y_Pa_putByte z_RPa 6 z_TPa 2 b_Pa_putByte 7 none 2 := ⟨rfl, z_at (k := 363) (by decide +kernel) rfl, z_at (k := 364) (by decide +kernel) rfl, z_at (k := 3) (by decide +kernel) rfl, z_at (k := 365) rfl rfl, by decide +kernel⟩
set_option maxRecDepth 100000 in
theorem mw_Pa_byteAt : z_mw y_Pa_byteAt z_RPa 6 z_TPa 2 b_Pa_byteAt 4 (some .int) 1 := ⟨rfl, z_at (k := 375) (by decide +kernel) rfl, z_at (k := 376) (by decide +kernel) rfl, z_at (k := 3) (by decide +kernel) rfl, z_at (k := 377) rfl rfl, by decide +kernel⟩
set_option maxRecDepth 100000 in
theorem mw_Mo_byteAt : z_mw y_Mo_byteAt z_RMo 12 z_TMo 38 b_Mo_byteAt 3 (some .int) 1 := ⟨rfl, z_at (k := 1081) (by decide +kernel) rfl, z_ap (k := 63) (by decide +kernel) rfl, z_at (k := 13) (by decide +kernel) rfl, z_at (k := 1082) rfl rfl, by decide +kernel⟩
set_option maxRecDepth 100000 in
theorem mw_Mo_eight : z_mw y_Mo_eight z_RMo 12 z_TMo 38 b_Mo_eight 6 (some .long) 1 := ⟨rfl, z_at (k := 1077) (by decide +kernel) rfl, z_ap (k := 62) (by decide +kernel) rfl, z_at (k := 13) (by decide +kernel) rfl, z_at (k := 1078) rfl rfl, by decide +kernel⟩
set_option maxRecDepth 100000 in
theorem mw_Co_joined : z_ms y_Co_joined b_Co_joined 2 (some .long) 2 := ⟨z_at (k := 383) (by decide +kernel) rfl, z_at (k := 1) (by decide +kernel) rfl, z_at (k := 384) rfl rfl, by decide +kernel⟩
set_option maxRecDepth 100000 in
theorem mw_Mo_join : z_ms y_Mo_join b_Mo_join 2 (some .long) 2 := ⟨z_at (k := 1420) (by decide +kernel) rfl, z_at (k := 13) (by decide +kernel) rfl, z_at (k := 1421) rfl rfl, by decide +kernel⟩
set_option maxRecDepth 100000 in
theorem mw_Mo_setFlags : z_mw y_Mo_setFlags z_RMo 12 z_TMo 38 b_Mo_setFlags 3 none 1 := ⟨rfl, z_at (k := 1202) (by decide +kernel) rfl, z_ap (k := 89) (by decide +kernel) rfl, z_at (k := 13) (by decide +kernel) rfl, z_at (k := 1203) rfl rfl, by decide +kernel⟩
set_option maxRecDepth 100000 in
theorem mw_Mo_flags : z_mw y_Mo_flags z_RMo 12 z_TMo 38 b_Mo_flags 1 (some .long) 0 := ⟨rfl, z_at (k := 1194) (by decide +kernel) rfl, z_ap (k := 88) (by decide +kernel) rfl, z_at (k := 13) (by decide +kernel) rfl, z_at (k := 1195) rfl rfl, by decide +kernel⟩
set_option maxRecDepth 100000 in
theorem mw_Pa_isWrong : z_ms y_Pa_isWrong b_Pa_isWrong 4 (some .boolean) 1 := ⟨z_at (k := 417) (by decide +kernel) rfl, z_at (k := 3) (by decide +kernel) rfl, z_at (k := 418) rfl rfl, by decide +kernel⟩
set_option maxRecDepth 100000 in
theorem mw_Pa_isForbidden : z_mw y_Pa_isForbidden z_RPa 6 z_TPa 2 b_Pa_isForbidden 6 (some .boolean) 3 := ⟨rfl, z_at (k := 437) (by decide +kernel) rfl, z_ap (k := 3) (by decide +kernel) rfl, z_at (k := 3) (by decide +kernel) rfl, z_at (k := 438) rfl rfl, by decide +kernel⟩
set_option maxRecDepth 100000 in
theorem mw_Pa_refused : z_mw y_Pa_refused z_RPa 6 z_TPa 2 b_Pa_refused 6 (some .long) 2 := ⟨rfl, z_at (k := 424) (by decide +kernel) rfl, z_ap (k := 2) (by decide +kernel) rfl, z_at (k := 3) (by decide +kernel) rfl, z_at (k := 425) rfl rfl, by decide +kernel⟩
set_option maxRecDepth 100000 in
theorem mw_Pa_locate : z_mw y_Pa_locate z_RPa 6 z_TPa 2 b_Pa_locate 17 (some .long) 2 := ⟨rfl, z_at (k := 413) (by decide +kernel) rfl, z_at (k := 414) (by decide +kernel) rfl, z_at (k := 3) (by decide +kernel) rfl, z_at (k := 415) rfl rfl, by decide +kernel⟩
set_option maxRecDepth 100000 in
theorem mw_Pa_refusal : z_mw y_Pa_refusal z_RPa 6 z_TPa 2 b_Pa_refusal 6 (some .int) 3 := ⟨rfl, z_at (k := 440) (by decide +kernel) rfl, z_at (k := 441) (by decide +kernel) rfl, z_at (k := 3) (by decide +kernel) rfl, z_at (k := 442) rfl rfl, by decide +kernel⟩
set_option maxRecDepth 100000 in
theorem mw_De_fetch : z_mw y_De_fetch z_RDe 2 z_TDe 19 b_De_fetch 3 (some .int) 0 := ⟨rfl, z_at (k := 409) (by decide +kernel) rfl, z_ap (k := 1) (by decide +kernel) rfl, z_at (k := 4) (by decide +kernel) rfl, z_at (k := 410) rfl rfl, by decide +kernel⟩
set_option maxRecDepth 100000 in
theorem mw_De_fetchOpcode : z_mw y_De_fetchOpcode z_RDe 2 z_TDe 19 b_De_fetchOpcode 3 (some .int) 0 := ⟨rfl, z_at (k := 405) (by decide +kernel) rfl, z_ap (k := 0) (by decide +kernel) rfl, z_at (k := 4) (by decide +kernel) rfl, z_at (k := 406) rfl rfl, by decide +kernel⟩
set_option maxRecDepth 100000 in
theorem mw_De_decode : z_mw y_De_decode z_RDe 2 z_TDe 19 b_De_decode 3 (some .int) 0 := ⟨rfl, z_at (k := 400) (by decide +kernel) rfl, z_at (k := 401) (by decide +kernel) rfl, z_at (k := 4) (by decide +kernel) rfl, z_at (k := 402) rfl rfl, by decide +kernel⟩
set_option maxRecDepth 100000 in
theorem mw_Mo_isWrong : z_ms y_Mo_isWrong b_Mo_isWrong 5 (some .boolean) 1 := ⟨z_at (k := 1065) (by decide +kernel) rfl, z_at (k := 13) (by decide +kernel) rfl, z_at (k := 1066) rfl rfl, by decide +kernel⟩
set_option maxRecDepth 100000 in
theorem mw_Mo_bits : z_ms y_Mo_bits b_Mo_bits 4 (some .long) 3 := ⟨z_at (k := 1072) (by decide +kernel) rfl, z_at (k := 13) (by decide +kernel) rfl, z_at (k := 1073) rfl rfl, by decide +kernel⟩
set_option maxRecDepth 100000 in
theorem mw_Mo_find : z_mw y_Mo_find z_RMo 12 z_TMo 38 b_Mo_find 15 (some .long) 2 := ⟨rfl, z_at (k := 1069) (by decide +kernel) rfl, z_ap (k := 61) (by decide +kernel) rfl, z_at (k := 13) (by decide +kernel) rfl, z_at (k := 1070) rfl rfl, by decide +kernel⟩
set_option maxRecDepth 100000 in
theorem mw_Mo_refuse : z_mw y_Mo_refuse z_RMo 12 z_TMo 38 b_Mo_refuse 2 none 1 := ⟨rfl, z_at (k := 1058) (by decide +kernel) rfl, z_ap (k := 59) (by decide +kernel) rfl, z_at (k := 13) (by decide +kernel) rfl, z_at (k := 1059) rfl rfl, by decide +kernel⟩
set_option maxRecDepth 100000 in
theorem mw_Mo_lookUp : z_mw y_Mo_lookUp z_RMo 12 z_TMo 38 b_Mo_lookUp 7 none 4 := ⟨rfl, z_at (k := 1062) (by decide +kernel) rfl, z_ap (k := 60) (by decide +kernel) rfl, z_at (k := 13) (by decide +kernel) rfl, z_at (k := 1063) rfl rfl, by decide +kernel⟩
set_option maxRecDepth 100000 in
theorem mw_Mo_fetch : z_mw y_Mo_fetch z_RMo 12 z_TMo 38 b_Mo_fetch 1 (some .int) 0 := ⟨rfl, z_at (k := 1054) (by decide +kernel) rfl, z_ap (k := 58) (by decide +kernel) rfl, z_at (k := 13) (by decide +kernel) rfl, z_at (k := 1055) rfl rfl, by decide +kernel⟩
set_option maxRecDepth 100000 in
theorem mw_Mo_open : z_mw y_Mo_open z_RMo 12 z_TMo 38 b_Mo_open 2 none 0 := ⟨rfl, z_at (k := 1050) (by decide +kernel) rfl, z_ap (k := 57) (by decide +kernel) rfl, z_at (k := 13) (by decide +kernel) rfl, z_at (k := 1051) rfl rfl, by decide +kernel⟩
set_option maxRecDepth 100000 in
theorem mw_Co_step : z_mw y_Co_step z_RCo 0 z_TCo 8 b_Co_step 2 (some .int) 0 := ⟨rfl, z_at (k := 396) (by decide +kernel) rfl, z_at (k := 397) (by decide +kernel) rfl, z_at (k := 1) (by decide +kernel) rfl, z_at (k := 398) rfl rfl, by decide +kernel⟩
set_option maxRecDepth 100000 in
theorem mw_Mo_step : z_mw y_Mo_step z_RMo 12 z_TMo 38 b_Mo_step 2 (some .int) 0 := ⟨rfl, z_at (k := 1045) (by decide +kernel) rfl, z_at (k := 1046) (by decide +kernel) rfl, z_at (k := 13) (by decide +kernel) rfl, z_at (k := 1047) rfl rfl, by decide +kernel⟩
end
section
theorem d_Co_store_0 : decode b_Co_store 0 = .ok (.iload_n 1, 1) := by decide +kernel
theorem d_Co_store_1 : decode b_Co_store 1 = .ok (.ifCond .lt 10, 3) := by decide +kernel
theorem d_Co_store_11 : decode b_Co_store 11 = .ok (.iconst 0, 1) := by decide +kernel
theorem d_Co_store_12 : decode b_Co_store 12 = .ok (.ireturn, 1) := by decide +kernel
theorem d_Co_store_4 : decode b_Co_store 4 = .ok (.iload_n 1, 1) := by decide +kernel
theorem d_Co_store_5 : decode b_Co_store 5 = .ok (.sipush 32760, 3) := by decide +kernel
theorem d_Co_store_8 : decode b_Co_store 8 = .ok (.if_icmp .le 5, 3) := by decide +kernel
theorem d_Co_store_13 : decode b_Co_store 13 = .ok (.iconst 0, 1) := by decide +kernel
theorem d_Co_store_14 : decode b_Co_store 14 = .ok (.istore 4, 2) := by decide +kernel
theorem d_Co_store_16 : decode b_Co_store 16 = .ok (.iload 4, 2) := by decide +kernel
theorem d_Co_store_18 : decode b_Co_store 18 = .ok (.iconst 4, 1) := by decide +kernel
theorem d_Co_store_19 : decode b_Co_store 19 = .ok (.if_icmp .ge 51, 3) := by decide +kernel
theorem d_Co_store_70 : decode b_Co_store 70 = .ok (.iconst 1, 1) := by decide +kernel
theorem d_Co_store_71 : decode b_Co_store 71 = .ok (.ireturn, 1) := by decide +kernel
theorem d_Co_store_22 : decode b_Co_store 22 = .ok (.aload_n 0, 1) := by decide +kernel
theorem d_Co_store_23 : decode b_Co_store 23 = .ok (.getfield 21, 3) := by decide +kernel
theorem d_Co_store_26 : decode b_Co_store 26 = .ok (.iload_n 1, 1) := by decide +kernel
theorem d_Co_store_27 : decode b_Co_store 27 = .ok (.iload 4, 2) := by decide +kernel
theorem d_Co_store_29 : decode b_Co_store 29 = .ok (.iadd, 1) := by decide +kernel
theorem d_Co_store_30 : decode b_Co_store 30 = .ok (.i2l, 1) := by decide +kernel
theorem d_Co_store_31 : decode b_Co_store 31 = .ok (.iload_n 2, 1) := by decide +kernel
theorem d_Co_store_32 : decode b_Co_store 32 = .ok (.bipush 8, 2) := by decide +kernel
theorem d_Co_store_34 : decode b_Co_store 34 = .ok (.iload 4, 2) := by decide +kernel
theorem d_Co_store_36 : decode b_Co_store 36 = .ok (.imul, 1) := by decide +kernel
theorem d_Co_store_37 : decode b_Co_store 37 = .ok (.iushr, 1) := by decide +kernel
theorem d_Co_store_38 : decode b_Co_store 38 = .ok (.i2l, 1) := by decide +kernel
theorem d_Pa_putByte_0 : decode b_Pa_putByte 0 = .ok (.lload_n 1, 1) := by decide +kernel
theorem d_Pa_putByte_1 : decode b_Pa_putByte 1 = .ok (.lconst 0, 1) := by decide +kernel
theorem d_Pa_putByte_2 : decode b_Pa_putByte 2 = .ok (.lcmp, 1) := by decide +kernel
theorem d_Pa_putByte_3 : decode b_Pa_putByte 3 = .ok (.ifCond .lt 11, 3) := by decide +kernel
theorem d_Pa_putByte_14 : decode b_Pa_putByte 14 = .ok (.return_, 1) := by decide +kernel
theorem d_Pa_putByte_6 : decode b_Pa_putByte 6 = .ok (.lload_n 1, 1) := by decide +kernel
theorem d_Pa_putByte_7 : decode b_Pa_putByte 7 = .ok (.ldc2_w 19, 3) := by decide +kernel
theorem d_Pa_putByte_10 : decode b_Pa_putByte 10 = .ok (.lcmp, 1) := by decide +kernel
theorem d_Pa_putByte_11 : decode b_Pa_putByte 11 = .ok (.ifCond .lt 4, 3) := by decide +kernel
theorem d_Pa_putByte_15 : decode b_Pa_putByte 15 = .ok (.lload_n 1, 1) := by decide +kernel
theorem d_Pa_putByte_16 : decode b_Pa_putByte 16 = .ok (.iconst 3, 1) := by decide +kernel
theorem d_Pa_putByte_17 : decode b_Pa_putByte 17 = .ok (.lushr, 1) := by decide +kernel
theorem d_Pa_putByte_18 : decode b_Pa_putByte 18 = .ok (.l2i, 1) := by decide +kernel
theorem d_Pa_putByte_19 : decode b_Pa_putByte 19 = .ok (.istore 5, 2) := by decide +kernel
theorem d_Pa_putByte_21 : decode b_Pa_putByte 21 = .ok (.bipush 8, 2) := by decide +kernel
theorem d_Pa_putByte_23 : decode b_Pa_putByte 23 = .ok (.lload_n 1, 1) := by decide +kernel
theorem d_Pa_putByte_24 : decode b_Pa_putByte 24 = .ok (.ldc2_w 21, 3) := by decide +kernel
theorem d_Pa_putByte_27 : decode b_Pa_putByte 27 = .ok (.land, 1) := by decide +kernel
theorem d_Pa_putByte_28 : decode b_Pa_putByte 28 = .ok (.l2i, 1) := by decide +kernel
theorem d_Pa_putByte_29 : decode b_Pa_putByte 29 = .ok (.imul, 1) := by decide +kernel
theorem d_Pa_putByte_30 : decode b_Pa_putByte 30 = .ok (.istore 6, 2) := by decide +kernel
theorem d_Pa_putByte_32 : decode b_Pa_putByte 32 = .ok (.aload_n 0, 1) := by decide +kernel
theorem d_Pa_putByte_33 : decode b_Pa_putByte 33 = .ok (.getfield 11, 3) := by decide +kernel
theorem d_Pa_putByte_36 : decode b_Pa_putByte 36 = .ok (.iload 5, 2) := by decide +kernel
theorem d_Pa_putByte_38 : decode b_Pa_putByte 38 = .ok (.aload_n 0, 1) := by decide +kernel
theorem d_Pa_putByte_39 : decode b_Pa_putByte 39 = .ok (.getfield 11, 3) := by decide +kernel
theorem d_Pa_putByte_42 : decode b_Pa_putByte 42 = .ok (.iload 5, 2) := by decide +kernel
theorem d_Pa_putByte_44 : decode b_Pa_putByte 44 = .ok (.laload, 1) := by decide +kernel
theorem d_Pa_putByte_45 : decode b_Pa_putByte 45 = .ok (.ldc2_w 23, 3) := by decide +kernel
theorem d_Pa_putByte_48 : decode b_Pa_putByte 48 = .ok (.iload 6, 2) := by decide +kernel
theorem d_Pa_putByte_50 : decode b_Pa_putByte 50 = .ok (.lshl, 1) := by decide +kernel
theorem d_Pa_putByte_51 : decode b_Pa_putByte 51 = .ok (.ldc2_w 25, 3) := by decide +kernel
theorem d_Pa_putByte_54 : decode b_Pa_putByte 54 = .ok (.lxor, 1) := by decide +kernel
theorem d_Pa_putByte_55 : decode b_Pa_putByte 55 = .ok (.land, 1) := by decide +kernel
theorem d_Pa_putByte_56 : decode b_Pa_putByte 56 = .ok (.lload_n 3, 1) := by decide +kernel
theorem d_Pa_putByte_57 : decode b_Pa_putByte 57 = .ok (.ldc2_w 23, 3) := by decide +kernel
theorem d_Pa_putByte_60 : decode b_Pa_putByte 60 = .ok (.land, 1) := by decide +kernel
theorem d_Pa_putByte_61 : decode b_Pa_putByte 61 = .ok (.iload 6, 2) := by decide +kernel
theorem d_Pa_putByte_63 : decode b_Pa_putByte 63 = .ok (.lshl, 1) := by decide +kernel
theorem d_Pa_putByte_64 : decode b_Pa_putByte 64 = .ok (.lor, 1) := by decide +kernel
theorem d_Pa_putByte_65 : decode b_Pa_putByte 65 = .ok (.lastore, 1) := by decide +kernel
theorem d_Pa_putByte_66 : decode b_Pa_putByte 66 = .ok (.return_, 1) := by decide +kernel
theorem d_Co_store_39 : decode b_Co_store 39 = .ok (.invokevirtual 92, 3) := by decide +kernel
theorem d_Co_store_42 : decode b_Co_store 42 = .ok (.aload_n 0, 1) := by decide +kernel
theorem d_Co_store_43 : decode b_Co_store 43 = .ok (.getfield 21, 3) := by decide +kernel
theorem d_Co_store_46 : decode b_Co_store 46 = .ok (.iload_n 1, 1) := by decide +kernel
theorem d_Co_store_47 : decode b_Co_store 47 = .ok (.iconst 4, 1) := by decide +kernel
theorem d_Co_store_48 : decode b_Co_store 48 = .ok (.iadd, 1) := by decide +kernel
theorem d_Co_store_49 : decode b_Co_store 49 = .ok (.iload 4, 2) := by decide +kernel
theorem d_Co_store_51 : decode b_Co_store 51 = .ok (.iadd, 1) := by decide +kernel
theorem d_Co_store_52 : decode b_Co_store 52 = .ok (.i2l, 1) := by decide +kernel
theorem d_Co_store_53 : decode b_Co_store 53 = .ok (.iload_n 3, 1) := by decide +kernel
theorem d_Co_store_54 : decode b_Co_store 54 = .ok (.bipush 8, 2) := by decide +kernel
theorem d_Co_store_56 : decode b_Co_store 56 = .ok (.iload 4, 2) := by decide +kernel
theorem d_Co_store_58 : decode b_Co_store 58 = .ok (.imul, 1) := by decide +kernel
theorem d_Co_store_59 : decode b_Co_store 59 = .ok (.iushr, 1) := by decide +kernel
theorem d_Co_store_60 : decode b_Co_store 60 = .ok (.i2l, 1) := by decide +kernel
theorem d_Co_store_61 : decode b_Co_store 61 = .ok (.invokevirtual 92, 3) := by decide +kernel
theorem d_Co_store_64 : decode b_Co_store 64 = .ok (.iinc 4 1, 3) := by decide +kernel
theorem d_Co_store_67 : decode b_Co_store 67 = .ok (.goto (-51), 3) := by decide +kernel
theorem d_Co_stored_0 : decode b_Co_stored 0 = .ok (.lconst 0, 1) := by decide +kernel
theorem d_Co_stored_1 : decode b_Co_stored 1 = .ok (.lstore_n 2, 1) := by decide +kernel
theorem d_Co_stored_2 : decode b_Co_stored 2 = .ok (.iconst 0, 1) := by decide +kernel
theorem d_Co_stored_3 : decode b_Co_stored 3 = .ok (.istore 4, 2) := by decide +kernel
theorem d_Co_stored_5 : decode b_Co_stored 5 = .ok (.iload 4, 2) := by decide +kernel
theorem d_Co_stored_7 : decode b_Co_stored 7 = .ok (.bipush 8, 2) := by decide +kernel
theorem d_Co_stored_9 : decode b_Co_stored 9 = .ok (.if_icmp .ge 32, 3) := by decide +kernel
theorem d_Co_stored_41 : decode b_Co_stored 41 = .ok (.lload_n 2, 1) := by decide +kernel
theorem d_Co_stored_42 : decode b_Co_stored 42 = .ok (.lreturn, 1) := by decide +kernel
theorem d_Co_stored_12 : decode b_Co_stored 12 = .ok (.lload_n 2, 1) := by decide +kernel
theorem d_Co_stored_13 : decode b_Co_stored 13 = .ok (.aload_n 0, 1) := by decide +kernel
theorem d_Co_stored_14 : decode b_Co_stored 14 = .ok (.getfield 21, 3) := by decide +kernel
theorem d_Co_stored_17 : decode b_Co_stored 17 = .ok (.iload_n 1, 1) := by decide +kernel
theorem d_Co_stored_18 : decode b_Co_stored 18 = .ok (.i2l, 1) := by decide +kernel
theorem d_Co_stored_19 : decode b_Co_stored 19 = .ok (.iload 4, 2) := by decide +kernel
theorem d_Co_stored_21 : decode b_Co_stored 21 = .ok (.i2l, 1) := by decide +kernel
theorem d_Co_stored_22 : decode b_Co_stored 22 = .ok (.ladd, 1) := by decide +kernel
theorem d_Pa_byteAt_0 : decode b_Pa_byteAt 0 = .ok (.lload_n 1, 1) := by decide +kernel
theorem d_Pa_byteAt_1 : decode b_Pa_byteAt 1 = .ok (.lconst 0, 1) := by decide +kernel
theorem d_Pa_byteAt_2 : decode b_Pa_byteAt 2 = .ok (.lcmp, 1) := by decide +kernel
theorem d_Pa_byteAt_3 : decode b_Pa_byteAt 3 = .ok (.ifCond .lt 11, 3) := by decide +kernel
theorem d_Pa_byteAt_14 : decode b_Pa_byteAt 14 = .ok (.iconst 0, 1) := by decide +kernel
theorem d_Pa_byteAt_15 : decode b_Pa_byteAt 15 = .ok (.ireturn, 1) := by decide +kernel
theorem d_Pa_byteAt_6 : decode b_Pa_byteAt 6 = .ok (.lload_n 1, 1) := by decide +kernel
theorem d_Pa_byteAt_7 : decode b_Pa_byteAt 7 = .ok (.ldc2_w 19, 3) := by decide +kernel
theorem d_Pa_byteAt_10 : decode b_Pa_byteAt 10 = .ok (.lcmp, 1) := by decide +kernel
theorem d_Pa_byteAt_11 : decode b_Pa_byteAt 11 = .ok (.ifCond .lt 5, 3) := by decide +kernel
theorem d_Pa_byteAt_16 : decode b_Pa_byteAt 16 = .ok (.bipush 8, 2) := by decide +kernel
theorem d_Pa_byteAt_18 : decode b_Pa_byteAt 18 = .ok (.lload_n 1, 1) := by decide +kernel
theorem d_Pa_byteAt_19 : decode b_Pa_byteAt 19 = .ok (.ldc2_w 21, 3) := by decide +kernel
theorem d_Pa_byteAt_22 : decode b_Pa_byteAt 22 = .ok (.land, 1) := by decide +kernel
theorem d_Pa_byteAt_23 : decode b_Pa_byteAt 23 = .ok (.l2i, 1) := by decide +kernel
theorem d_Pa_byteAt_24 : decode b_Pa_byteAt 24 = .ok (.imul, 1) := by decide +kernel
theorem d_Pa_byteAt_25 : decode b_Pa_byteAt 25 = .ok (.istore_n 3, 1) := by decide +kernel
theorem d_Pa_byteAt_26 : decode b_Pa_byteAt 26 = .ok (.aload_n 0, 1) := by decide +kernel
theorem d_Pa_byteAt_27 : decode b_Pa_byteAt 27 = .ok (.getfield 11, 3) := by decide +kernel
theorem d_Pa_byteAt_30 : decode b_Pa_byteAt 30 = .ok (.lload_n 1, 1) := by decide +kernel
theorem d_Pa_byteAt_31 : decode b_Pa_byteAt 31 = .ok (.iconst 3, 1) := by decide +kernel
theorem d_Pa_byteAt_32 : decode b_Pa_byteAt 32 = .ok (.lushr, 1) := by decide +kernel
theorem d_Pa_byteAt_33 : decode b_Pa_byteAt 33 = .ok (.l2i, 1) := by decide +kernel
theorem d_Pa_byteAt_34 : decode b_Pa_byteAt 34 = .ok (.laload, 1) := by decide +kernel
theorem d_Pa_byteAt_35 : decode b_Pa_byteAt 35 = .ok (.iload_n 3, 1) := by decide +kernel
theorem d_Pa_byteAt_36 : decode b_Pa_byteAt 36 = .ok (.lushr, 1) := by decide +kernel
theorem d_Pa_byteAt_37 : decode b_Pa_byteAt 37 = .ok (.l2i, 1) := by decide +kernel
theorem d_Pa_byteAt_38 : decode b_Pa_byteAt 38 = .ok (.sipush 255, 3) := by decide +kernel
theorem d_Pa_byteAt_41 : decode b_Pa_byteAt 41 = .ok (.iand, 1) := by decide +kernel
theorem d_Pa_byteAt_42 : decode b_Pa_byteAt 42 = .ok (.ireturn, 1) := by decide +kernel
theorem d_Co_stored_23 : decode b_Co_stored 23 = .ok (.invokevirtual 96, 3) := by decide +kernel
theorem d_Co_stored_26 : decode b_Co_stored 26 = .ok (.i2l, 1) := by decide +kernel
theorem d_Co_stored_27 : decode b_Co_stored 27 = .ok (.bipush 8, 2) := by decide +kernel
theorem d_Co_stored_29 : decode b_Co_stored 29 = .ok (.iload 4, 2) := by decide +kernel
theorem d_Co_stored_31 : decode b_Co_stored 31 = .ok (.imul, 1) := by decide +kernel
theorem d_Co_stored_32 : decode b_Co_stored 32 = .ok (.lshl, 1) := by decide +kernel
theorem d_Co_stored_33 : decode b_Co_stored 33 = .ok (.lor, 1) := by decide +kernel
theorem d_Co_stored_34 : decode b_Co_stored 34 = .ok (.lstore_n 2, 1) := by decide +kernel
theorem d_Co_stored_35 : decode b_Co_stored 35 = .ok (.iinc 4 1, 3) := by decide +kernel
theorem d_Co_stored_38 : decode b_Co_stored 38 = .ok (.goto (-33), 3) := by decide +kernel
theorem d_Co_set_0 : decode b_Co_set 0 = .ok (.iload_n 2, 1) := by decide +kernel
theorem d_Co_set_1 : decode b_Co_set 1 = .ok (.iload_n 3, 1) := by decide +kernel
theorem d_Co_joined_0 : decode b_Co_joined 0 = .ok (.iload_n 0, 1) := by decide +kernel
theorem d_Co_joined_1 : decode b_Co_joined 1 = .ok (.i2l, 1) := by decide +kernel
theorem d_Co_joined_2 : decode b_Co_joined 2 = .ok (.bipush 32, 2) := by decide +kernel
theorem d_Co_joined_4 : decode b_Co_joined 4 = .ok (.lshl, 1) := by decide +kernel
theorem d_Co_joined_5 : decode b_Co_joined 5 = .ok (.iload_n 1, 1) := by decide +kernel
theorem d_Co_joined_6 : decode b_Co_joined 6 = .ok (.i2l, 1) := by decide +kernel
theorem d_Co_joined_7 : decode b_Co_joined 7 = .ok (.ldc2_w 166, 3) := by decide +kernel
theorem d_Co_joined_10 : decode b_Co_joined 10 = .ok (.land, 1) := by decide +kernel
theorem d_Co_joined_11 : decode b_Co_joined 11 = .ok (.lor, 1) := by decide +kernel
theorem d_Co_joined_12 : decode b_Co_joined 12 = .ok (.lreturn, 1) := by decide +kernel
theorem d_Co_set_2 : decode b_Co_set 2 = .ok (.invokestatic 100, 3) := by decide +kernel
theorem d_Co_set_5 : decode b_Co_set 5 = .ok (.lstore 4, 2) := by decide +kernel
theorem d_Co_set_7 : decode b_Co_set 7 = .ok (.iload_n 1, 1) := by decide +kernel
theorem d_Co_set_8 : decode b_Co_set 8 = .ok (.ifCond .lt 22, 3) := by decide +kernel
theorem d_Co_set_30 : decode b_Co_set 30 = .ok (.iload_n 1, 1) := by decide +kernel
theorem d_Co_set_31 : decode b_Co_set 31 = .ok (.tableswitch 106 16 21 #[37, 48, 59, 70, 81, 95], 37) := by decide +kernel
theorem d_Co_set_68 : decode b_Co_set 68 = .ok (.aload_n 0, 1) := by decide +kernel
theorem d_Co_set_69 : decode b_Co_set 69 = .ok (.getfield 12, 3) := by decide +kernel
theorem d_Co_set_72 : decode b_Co_set 72 = .ok (.lload 4, 2) := by decide +kernel
theorem d_Co_set_74 : decode b_Co_set 74 = .ok (.putfield 108, 3) := by decide +kernel
theorem d_Co_set_77 : decode b_Co_set 77 = .ok (.iconst 1, 1) := by decide +kernel
theorem d_Co_set_78 : decode b_Co_set 78 = .ok (.ireturn, 1) := by decide +kernel
theorem d_Co_set_79 : decode b_Co_set 79 = .ok (.aload_n 0, 1) := by decide +kernel
theorem d_Co_set_80 : decode b_Co_set 80 = .ok (.getfield 12, 3) := by decide +kernel
theorem d_Co_set_83 : decode b_Co_set 83 = .ok (.lload 4, 2) := by decide +kernel
theorem d_Co_set_85 : decode b_Co_set 85 = .ok (.putfield 112, 3) := by decide +kernel
theorem d_Co_set_88 : decode b_Co_set 88 = .ok (.iconst 1, 1) := by decide +kernel
theorem d_Co_set_89 : decode b_Co_set 89 = .ok (.ireturn, 1) := by decide +kernel
theorem d_Co_set_90 : decode b_Co_set 90 = .ok (.aload_n 0, 1) := by decide +kernel
theorem d_Co_set_91 : decode b_Co_set 91 = .ok (.getfield 12, 3) := by decide +kernel
theorem d_Co_set_94 : decode b_Co_set 94 = .ok (.lload 4, 2) := by decide +kernel
theorem d_Co_set_96 : decode b_Co_set 96 = .ok (.putfield 115, 3) := by decide +kernel
theorem d_Co_set_99 : decode b_Co_set 99 = .ok (.iconst 1, 1) := by decide +kernel
theorem d_Co_set_100 : decode b_Co_set 100 = .ok (.ireturn, 1) := by decide +kernel
theorem d_Co_set_101 : decode b_Co_set 101 = .ok (.aload_n 0, 1) := by decide +kernel
theorem d_Co_set_102 : decode b_Co_set 102 = .ok (.getfield 12, 3) := by decide +kernel
theorem d_Co_set_105 : decode b_Co_set 105 = .ok (.lload 4, 2) := by decide +kernel
theorem d_Co_set_107 : decode b_Co_set 107 = .ok (.putfield 118, 3) := by decide +kernel
theorem d_Co_set_110 : decode b_Co_set 110 = .ok (.iconst 1, 1) := by decide +kernel
theorem d_Co_set_111 : decode b_Co_set 111 = .ok (.ireturn, 1) := by decide +kernel
theorem d_Co_set_112 : decode b_Co_set 112 = .ok (.aload_n 0, 1) := by decide +kernel
theorem d_Co_set_113 : decode b_Co_set 113 = .ok (.getfield 12, 3) := by decide +kernel
theorem d_Co_set_116 : decode b_Co_set 116 = .ok (.iload_n 3, 1) := by decide +kernel
theorem d_Co_set_117 : decode b_Co_set 117 = .ok (.sipush 3285, 3) := by decide +kernel
theorem d_Co_set_120 : decode b_Co_set 120 = .ok (.iand, 1) := by decide +kernel
theorem d_Co_set_121 : decode b_Co_set 121 = .ok (.putfield 121, 3) := by decide +kernel
theorem d_Co_set_124 : decode b_Co_set 124 = .ok (.iconst 1, 1) := by decide +kernel
theorem d_Co_set_125 : decode b_Co_set 125 = .ok (.ireturn, 1) := by decide +kernel
theorem d_Co_set_126 : decode b_Co_set 126 = .ok (.aload_n 0, 1) := by decide +kernel
theorem d_Co_set_127 : decode b_Co_set 127 = .ok (.getfield 12, 3) := by decide +kernel
theorem d_Co_set_130 : decode b_Co_set 130 = .ok (.lload 4, 2) := by decide +kernel
theorem d_Co_set_132 : decode b_Co_set 132 = .ok (.putfield 125, 3) := by decide +kernel
theorem d_Co_set_135 : decode b_Co_set 135 = .ok (.iconst 1, 1) := by decide +kernel
theorem d_Co_set_136 : decode b_Co_set 136 = .ok (.ireturn, 1) := by decide +kernel
theorem d_Co_set_137 : decode b_Co_set 137 = .ok (.iconst 0, 1) := by decide +kernel
theorem d_Co_set_138 : decode b_Co_set 138 = .ok (.ireturn, 1) := by decide +kernel
theorem d_Co_set_11 : decode b_Co_set 11 = .ok (.iload_n 1, 1) := by decide +kernel
theorem d_Co_set_12 : decode b_Co_set 12 = .ok (.bipush 16, 2) := by decide +kernel
theorem d_Co_set_14 : decode b_Co_set 14 = .ok (.if_icmp .ge 16, 3) := by decide +kernel
theorem d_Co_set_17 : decode b_Co_set 17 = .ok (.aload_n 0, 1) := by decide +kernel
theorem d_Co_set_18 : decode b_Co_set 18 = .ok (.getfield 12, 3) := by decide +kernel
theorem d_Co_set_21 : decode b_Co_set 21 = .ok (.getfield 104, 3) := by decide +kernel
theorem d_Co_set_24 : decode b_Co_set 24 = .ok (.iload_n 1, 1) := by decide +kernel
theorem d_Co_set_25 : decode b_Co_set 25 = .ok (.lload 4, 2) := by decide +kernel
theorem d_Co_set_27 : decode b_Co_set 27 = .ok (.lastore, 1) := by decide +kernel
theorem d_Co_set_28 : decode b_Co_set 28 = .ok (.iconst 1, 1) := by decide +kernel
theorem d_Co_set_29 : decode b_Co_set 29 = .ok (.ireturn, 1) := by decide +kernel
theorem d_Co_get_0 : decode b_Co_get 0 = .ok (.iload_n 1, 1) := by decide +kernel
theorem d_Co_get_1 : decode b_Co_get 1 = .ok (.ifCond .lt 19, 3) := by decide +kernel
theorem d_Co_get_20 : decode b_Co_get 20 = .ok (.iload_n 1, 1) := by decide +kernel
theorem d_Co_get_21 : decode b_Co_get 21 = .ok (.tableswitch 135 16 24 #[51, 59, 67, 75, 83, 92, 100, 108, 117], 51) := by decide +kernel
theorem d_Co_get_72 : decode b_Co_get 72 = .ok (.aload_n 0, 1) := by decide +kernel
theorem d_Co_get_73 : decode b_Co_get 73 = .ok (.getfield 12, 3) := by decide +kernel
theorem d_Co_get_76 : decode b_Co_get 76 = .ok (.getfield 108, 3) := by decide +kernel
theorem d_Co_get_79 : decode b_Co_get 79 = .ok (.lreturn, 1) := by decide +kernel
theorem d_Co_get_80 : decode b_Co_get 80 = .ok (.aload_n 0, 1) := by decide +kernel
theorem d_Co_get_81 : decode b_Co_get 81 = .ok (.getfield 12, 3) := by decide +kernel
theorem d_Co_get_84 : decode b_Co_get 84 = .ok (.getfield 112, 3) := by decide +kernel
theorem d_Co_get_87 : decode b_Co_get 87 = .ok (.lreturn, 1) := by decide +kernel
theorem d_Co_get_88 : decode b_Co_get 88 = .ok (.aload_n 0, 1) := by decide +kernel
theorem d_Co_get_89 : decode b_Co_get 89 = .ok (.getfield 12, 3) := by decide +kernel
theorem d_Co_get_92 : decode b_Co_get 92 = .ok (.getfield 115, 3) := by decide +kernel
theorem d_Co_get_95 : decode b_Co_get 95 = .ok (.lreturn, 1) := by decide +kernel
theorem d_Co_get_96 : decode b_Co_get 96 = .ok (.aload_n 0, 1) := by decide +kernel
theorem d_Co_get_97 : decode b_Co_get 97 = .ok (.getfield 12, 3) := by decide +kernel
theorem d_Co_get_100 : decode b_Co_get 100 = .ok (.getfield 118, 3) := by decide +kernel
theorem d_Co_get_103 : decode b_Co_get 103 = .ok (.lreturn, 1) := by decide +kernel
theorem d_Co_get_104 : decode b_Co_get 104 = .ok (.aload_n 0, 1) := by decide +kernel
theorem d_Co_get_105 : decode b_Co_get 105 = .ok (.getfield 12, 3) := by decide +kernel
theorem d_Co_get_108 : decode b_Co_get 108 = .ok (.getfield 121, 3) := by decide +kernel
theorem d_Co_get_111 : decode b_Co_get 111 = .ok (.i2l, 1) := by decide +kernel
theorem d_Co_get_112 : decode b_Co_get 112 = .ok (.lreturn, 1) := by decide +kernel
theorem d_Co_get_113 : decode b_Co_get 113 = .ok (.aload_n 0, 1) := by decide +kernel
theorem d_Co_get_114 : decode b_Co_get 114 = .ok (.getfield 12, 3) := by decide +kernel
theorem d_Co_get_117 : decode b_Co_get 117 = .ok (.getfield 125, 3) := by decide +kernel
theorem d_Co_get_120 : decode b_Co_get 120 = .ok (.lreturn, 1) := by decide +kernel
theorem d_Co_get_121 : decode b_Co_get 121 = .ok (.aload_n 0, 1) := by decide +kernel
theorem d_Co_get_122 : decode b_Co_get 122 = .ok (.getfield 12, 3) := by decide +kernel
theorem d_Co_get_125 : decode b_Co_get 125 = .ok (.getfield 128, 3) := by decide +kernel
theorem d_Co_get_128 : decode b_Co_get 128 = .ok (.lreturn, 1) := by decide +kernel
theorem d_Co_get_129 : decode b_Co_get 129 = .ok (.aload_n 0, 1) := by decide +kernel
theorem d_Co_get_130 : decode b_Co_get 130 = .ok (.getfield 12, 3) := by decide +kernel
theorem d_Co_get_133 : decode b_Co_get 133 = .ok (.getfield 131, 3) := by decide +kernel
theorem d_Co_get_136 : decode b_Co_get 136 = .ok (.i2l, 1) := by decide +kernel
theorem d_Co_get_137 : decode b_Co_get 137 = .ok (.lreturn, 1) := by decide +kernel
theorem d_Co_get_138 : decode b_Co_get 138 = .ok (.aload_n 0, 1) := by decide +kernel
theorem d_Co_get_139 : decode b_Co_get 139 = .ok (.getfield 12, 3) := by decide +kernel
theorem d_Co_get_142 : decode b_Co_get 142 = .ok (.getfield 134, 3) := by decide +kernel
theorem d_Co_get_145 : decode b_Co_get 145 = .ok (.ifCond .eq 9, 3) := by decide +kernel
theorem d_Co_get_154 : decode b_Co_get 154 = .ok (.lconst 0, 1) := by decide +kernel
theorem d_Co_get_155 : decode b_Co_get 155 = .ok (.lreturn, 1) := by decide +kernel
theorem d_Co_get_148 : decode b_Co_get 148 = .ok (.ldc2_w 138, 3) := by decide +kernel
theorem d_Co_get_151 : decode b_Co_get 151 = .ok (.goto 4, 3) := by decide +kernel
theorem d_Co_get_156 : decode b_Co_get 156 = .ok (.lconst 0, 1) := by decide +kernel
theorem d_Co_get_157 : decode b_Co_get 157 = .ok (.lreturn, 1) := by decide +kernel
theorem d_Co_get_4 : decode b_Co_get 4 = .ok (.iload_n 1, 1) := by decide +kernel
theorem d_Co_get_5 : decode b_Co_get 5 = .ok (.bipush 16, 2) := by decide +kernel
theorem d_Co_get_7 : decode b_Co_get 7 = .ok (.if_icmp .ge 13, 3) := by decide +kernel
theorem d_Co_get_10 : decode b_Co_get 10 = .ok (.aload_n 0, 1) := by decide +kernel
theorem d_Co_get_11 : decode b_Co_get 11 = .ok (.getfield 12, 3) := by decide +kernel
theorem d_Co_get_14 : decode b_Co_get 14 = .ok (.getfield 104, 3) := by decide +kernel
theorem d_Co_get_17 : decode b_Co_get 17 = .ok (.iload_n 1, 1) := by decide +kernel
theorem d_Co_get_18 : decode b_Co_get 18 = .ok (.laload, 1) := by decide +kernel
theorem d_Co_get_19 : decode b_Co_get 19 = .ok (.lreturn, 1) := by decide +kernel
theorem d_Co_level_0 : decode b_Co_level 0 = .ok (.aload_n 0, 1) := by decide +kernel
theorem d_Co_level_1 : decode b_Co_level 1 = .ok (.getfield 12, 3) := by decide +kernel
theorem d_Co_level_4 : decode b_Co_level 4 = .ok (.iload_n 1, 1) := by decide +kernel
theorem d_Co_level_5 : decode b_Co_level 5 = .ok (.putfield 134, 3) := by decide +kernel
theorem d_Co_level_8 : decode b_Co_level 8 = .ok (.return_, 1) := by decide +kernel
theorem d_Co_step_0 : decode b_Co_step 0 = .ok (.aload_n 0, 1) := by decide +kernel
theorem d_Co_step_1 : decode b_Co_step 1 = .ok (.getfield 30, 3) := by decide +kernel
theorem d_De_decode_0 : decode b_De_decode 0 = .ok (.aload_n 0, 1) := by decide +kernel
theorem d_De_fetchOpcode_0 : decode b_De_fetchOpcode 0 = .ok (.aload_n 0, 1) := by decide +kernel
theorem d_De_fetchOpcode_1 : decode b_De_fetchOpcode 1 = .ok (.iconst 0, 1) := by decide +kernel
theorem d_De_fetchOpcode_2 : decode b_De_fetchOpcode 2 = .ok (.putfield 65, 3) := by decide +kernel
theorem d_De_fetchOpcode_5 : decode b_De_fetchOpcode 5 = .ok (.aload_n 0, 1) := by decide +kernel
theorem d_De_fetchOpcode_6 : decode b_De_fetchOpcode 6 = .ok (.iconst 0, 1) := by decide +kernel
theorem d_De_fetchOpcode_7 : decode b_De_fetchOpcode 7 = .ok (.putfield 71, 3) := by decide +kernel
theorem d_De_fetchOpcode_10 : decode b_De_fetchOpcode 10 = .ok (.aload_n 0, 1) := by decide +kernel
theorem d_De_fetchOpcode_11 : decode b_De_fetchOpcode 11 = .ok (.iconst 0, 1) := by decide +kernel
theorem d_De_fetchOpcode_12 : decode b_De_fetchOpcode 12 = .ok (.putfield 75, 3) := by decide +kernel
theorem d_De_fetchOpcode_15 : decode b_De_fetchOpcode 15 = .ok (.aload_n 0, 1) := by decide +kernel
theorem d_De_fetchOpcode_16 : decode b_De_fetchOpcode 16 = .ok (.iconst 0, 1) := by decide +kernel
theorem d_De_fetchOpcode_17 : decode b_De_fetchOpcode 17 = .ok (.putfield 78, 3) := by decide +kernel
theorem d_De_fetchOpcode_20 : decode b_De_fetchOpcode 20 = .ok (.iconst 0, 1) := by decide +kernel
theorem d_De_fetchOpcode_21 : decode b_De_fetchOpcode 21 = .ok (.istore_n 1, 1) := by decide +kernel
theorem d_De_fetchOpcode_22 : decode b_De_fetchOpcode 22 = .ok (.iload_n 1, 1) := by decide +kernel
theorem d_De_fetchOpcode_23 : decode b_De_fetchOpcode 23 = .ok (.bipush 15, 2) := by decide +kernel
theorem d_De_fetchOpcode_25 : decode b_De_fetchOpcode 25 = .ok (.if_icmp .gt 42, 3) := by decide +kernel
theorem d_De_fetchOpcode_67 : decode b_De_fetchOpcode 67 = .ok (.aload_n 0, 1) := by decide +kernel
theorem d_De_fetchOpcode_68 : decode b_De_fetchOpcode 68 = .ok (.aload_n 0, 1) := by decide +kernel
theorem d_De_fetchOpcode_69 : decode b_De_fetchOpcode 69 = .ok (.getfield 84, 3) := by decide +kernel
theorem d_De_fetchOpcode_72 : decode b_De_fetchOpcode 72 = .ok (.putfield 23, 3) := by decide +kernel
theorem d_De_fetchOpcode_75 : decode b_De_fetchOpcode 75 = .ok (.aload_n 0, 1) := by decide +kernel
theorem d_De_fetchOpcode_76 : decode b_De_fetchOpcode 76 = .ok (.getfield 23, 3) := by decide +kernel
theorem d_De_fetchOpcode_79 : decode b_De_fetchOpcode 79 = .ok (.bipush 15, 2) := by decide +kernel
theorem d_De_fetchOpcode_81 : decode b_De_fetchOpcode 81 = .ok (.if_icmp .eq 5, 3) := by decide +kernel
theorem d_De_fetchOpcode_86 : decode b_De_fetchOpcode 86 = .ok (.aload_n 0, 1) := by decide +kernel
theorem d_De_fetch_0 : decode b_De_fetch 0 = .ok (.aload_n 0, 1) := by decide +kernel
theorem d_De_fetch_1 : decode b_De_fetch 1 = .ok (.getfield 65, 3) := by decide +kernel
theorem d_De_fetch_4 : decode b_De_fetch 4 = .ok (.bipush 15, 2) := by decide +kernel
theorem d_De_fetch_6 : decode b_De_fetch 6 = .ok (.if_icmp .lt 6, 3) := by decide +kernel
theorem d_De_fetch_12 : decode b_De_fetch 12 = .ok (.aload_n 0, 1) := by decide +kernel
theorem d_De_fetch_13 : decode b_De_fetch 13 = .ok (.getfield 9, 3) := by decide +kernel
theorem d_De_fetch_16 : decode b_De_fetch 16 = .ok (.getfield 60, 3) := by decide +kernel
theorem d_De_fetch_19 : decode b_De_fetch 19 = .ok (.aload_n 0, 1) := by decide +kernel
theorem d_De_fetch_20 : decode b_De_fetch 20 = .ok (.getfield 65, 3) := by decide +kernel
theorem d_De_fetch_23 : decode b_De_fetch 23 = .ok (.i2l, 1) := by decide +kernel
theorem d_De_fetch_24 : decode b_De_fetch 24 = .ok (.ladd, 1) := by decide +kernel
theorem d_De_fetch_25 : decode b_De_fetch 25 = .ok (.lstore_n 1, 1) := by decide +kernel
theorem d_De_fetch_26 : decode b_De_fetch 26 = .ok (.aload_n 0, 1) := by decide +kernel
theorem d_De_fetch_27 : decode b_De_fetch 27 = .ok (.getfield 65, 3) := by decide +kernel
theorem d_De_fetch_30 : decode b_De_fetch 30 = .ok (.ifCond .le 26, 3) := by decide +kernel
theorem d_De_fetch_56 : decode b_De_fetch 56 = .ok (.aload_n 0, 1) := by decide +kernel
theorem d_De_fetch_57 : decode b_De_fetch 57 = .ok (.aload_n 0, 1) := by decide +kernel
theorem d_De_fetch_58 : decode b_De_fetch 58 = .ok (.getfield 15, 3) := by decide +kernel
theorem d_De_fetch_61 : decode b_De_fetch 61 = .ok (.lload_n 1, 1) := by decide +kernel
theorem d_De_fetch_62 : decode b_De_fetch 62 = .ok (.iconst 2, 1) := by decide +kernel
theorem d_Pa_locate_0 : decode b_Pa_locate 0 = .ok (.lload_n 1, 1) := by decide +kernel
theorem d_Pa_isWrong_0 : decode b_Pa_isWrong 0 = .ok (.lload_n 0, 1) := by decide +kernel
theorem d_Pa_isWrong_1 : decode b_Pa_isWrong 1 = .ok (.bipush 47, 2) := by decide +kernel
theorem d_Pa_isWrong_3 : decode b_Pa_isWrong 3 = .ok (.lshr, 1) := by decide +kernel
theorem d_Pa_isWrong_4 : decode b_Pa_isWrong 4 = .ok (.lstore_n 2, 1) := by decide +kernel
theorem d_Pa_isWrong_5 : decode b_Pa_isWrong 5 = .ok (.lload_n 2, 1) := by decide +kernel
theorem d_Pa_isWrong_6 : decode b_Pa_isWrong 6 = .ok (.lconst 0, 1) := by decide +kernel
theorem d_Pa_isWrong_7 : decode b_Pa_isWrong 7 = .ok (.lcmp, 1) := by decide +kernel
theorem d_Pa_isWrong_8 : decode b_Pa_isWrong 8 = .ok (.ifCond .eq 15, 3) := by decide +kernel
theorem d_Pa_isWrong_23 : decode b_Pa_isWrong 23 = .ok (.iconst 0, 1) := by decide +kernel
theorem d_Pa_isWrong_24 : decode b_Pa_isWrong 24 = .ok (.ireturn, 1) := by decide +kernel
theorem d_Pa_isWrong_11 : decode b_Pa_isWrong 11 = .ok (.lload_n 2, 1) := by decide +kernel
theorem d_Pa_isWrong_12 : decode b_Pa_isWrong 12 = .ok (.ldc2_w 25, 3) := by decide +kernel
theorem d_Pa_isWrong_15 : decode b_Pa_isWrong 15 = .ok (.lcmp, 1) := by decide +kernel
theorem d_Pa_isWrong_16 : decode b_Pa_isWrong 16 = .ok (.ifCond .eq 7, 3) := by decide +kernel
theorem d_Pa_isWrong_19 : decode b_Pa_isWrong 19 = .ok (.iconst 1, 1) := by decide +kernel
theorem d_Pa_isWrong_20 : decode b_Pa_isWrong 20 = .ok (.goto 4, 3) := by decide +kernel
theorem d_Pa_locate_1 : decode b_Pa_locate 1 = .ok (.invokestatic 27, 3) := by decide +kernel
theorem d_Pa_locate_4 : decode b_Pa_locate 4 = .ok (.ifCond .eq 7, 3) := by decide +kernel
theorem d_Pa_locate_11 : decode b_Pa_locate 11 = .ok (.aload_n 0, 1) := by decide +kernel
theorem d_Pa_locate_12 : decode b_Pa_locate 12 = .ok (.getfield 15, 3) := by decide +kernel
theorem d_Pa_locate_15 : decode b_Pa_locate 15 = .ok (.getfield 31, 3) := by decide +kernel
theorem d_Pa_locate_18 : decode b_Pa_locate 18 = .ok (.ldc2_w 37, 3) := by decide +kernel
theorem d_Pa_locate_21 : decode b_Pa_locate 21 = .ok (.land, 1) := by decide +kernel
theorem d_Pa_locate_22 : decode b_Pa_locate 22 = .ok (.lstore 4, 2) := by decide +kernel
theorem d_Pa_locate_24 : decode b_Pa_locate 24 = .ok (.ldc2_w 25, 3) := by decide +kernel
theorem d_Pa_locate_27 : decode b_Pa_locate 27 = .ok (.lstore 6, 2) := by decide +kernel
theorem d_Pa_locate_29 : decode b_Pa_locate 29 = .ok (.lconst 0, 1) := by decide +kernel
theorem d_Pa_locate_30 : decode b_Pa_locate 30 = .ok (.lstore 8, 2) := by decide +kernel
theorem d_Pa_locate_32 : decode b_Pa_locate 32 = .ok (.ldc2_w 39, 3) := by decide +kernel
theorem d_Pa_locate_35 : decode b_Pa_locate 35 = .ok (.lstore 10, 2) := by decide +kernel
theorem d_Pa_locate_37 : decode b_Pa_locate 37 = .ok (.bipush 39, 2) := by decide +kernel
theorem d_Pa_locate_39 : decode b_Pa_locate 39 = .ok (.istore 12, 2) := by decide +kernel
theorem d_Pa_locate_41 : decode b_Pa_locate 41 = .ok (.iload 12, 2) := by decide +kernel
theorem d_Pa_locate_43 : decode b_Pa_locate 43 = .ok (.bipush 12, 2) := by decide +kernel
theorem d_Pa_locate_45 : decode b_Pa_locate 45 = .ok (.if_icmp .lt 148, 3) := by decide +kernel
theorem d_Pa_locate_193 : decode b_Pa_locate 193 = .ok (.aload_n 0, 1) := by decide +kernel
theorem d_Pa_locate_194 : decode b_Pa_locate 194 = .ok (.lload 6, 2) := by decide +kernel
theorem d_Pa_locate_196 : decode b_Pa_locate 196 = .ok (.lload 8, 2) := by decide +kernel
theorem d_Pa_locate_198 : decode b_Pa_locate 198 = .ok (.iload_n 3, 1) := by decide +kernel
theorem d_Pa_isForbidden_0 : decode b_Pa_isForbidden 0 = .ok (.iload 5, 2) := by decide +kernel
theorem d_Pa_isForbidden_2 : decode b_Pa_isForbidden 2 = .ok (.iconst 1, 1) := by decide +kernel
theorem d_Pa_isForbidden_3 : decode b_Pa_isForbidden 3 = .ok (.if_icmp .ne 13, 3) := by decide +kernel
theorem d_Pa_isForbidden_16 : decode b_Pa_isForbidden 16 = .ok (.aload_n 0, 1) := by decide +kernel
theorem d_Pa_isForbidden_17 : decode b_Pa_isForbidden 17 = .ok (.getfield 15, 3) := by decide +kernel
theorem d_Pa_isForbidden_20 : decode b_Pa_isForbidden 20 = .ok (.getfield 63, 3) := by decide +kernel
theorem d_Pa_isForbidden_23 : decode b_Pa_isForbidden 23 = .ok (.ifCond .eq 13, 3) := by decide +kernel
theorem d_Pa_isForbidden_36 : decode b_Pa_isForbidden 36 = .ok (.iload 5, 2) := by decide +kernel
theorem d_Pa_isForbidden_38 : decode b_Pa_isForbidden 38 = .ok (.iconst 2, 1) := by decide +kernel
theorem d_Pa_isForbidden_39 : decode b_Pa_isForbidden 39 = .ok (.if_icmp .ne 13, 3) := by decide +kernel
theorem d_Pa_isForbidden_52 : decode b_Pa_isForbidden 52 = .ok (.iconst 0, 1) := by decide +kernel
theorem d_Pa_isForbidden_53 : decode b_Pa_isForbidden 53 = .ok (.ireturn, 1) := by decide +kernel
theorem d_Pa_isForbidden_42 : decode b_Pa_isForbidden 42 = .ok (.lload_n 3, 1) := by decide +kernel
theorem d_Pa_isForbidden_43 : decode b_Pa_isForbidden 43 = .ok (.lconst 0, 1) := by decide +kernel
theorem d_Pa_isForbidden_44 : decode b_Pa_isForbidden 44 = .ok (.lcmp, 1) := by decide +kernel
theorem d_Pa_isForbidden_45 : decode b_Pa_isForbidden 45 = .ok (.ifCond .ge 7, 3) := by decide +kernel
theorem d_Pa_isForbidden_48 : decode b_Pa_isForbidden 48 = .ok (.iconst 1, 1) := by decide +kernel
theorem d_Pa_isForbidden_49 : decode b_Pa_isForbidden 49 = .ok (.goto 4, 3) := by decide +kernel
theorem d_Pa_isForbidden_26 : decode b_Pa_isForbidden 26 = .ok (.lload_n 1, 1) := by decide +kernel
theorem d_Pa_isForbidden_27 : decode b_Pa_isForbidden 27 = .ok (.ldc2_w 67, 3) := by decide +kernel
theorem d_Pa_isForbidden_30 : decode b_Pa_isForbidden 30 = .ok (.land, 1) := by decide +kernel
theorem d_Pa_isForbidden_31 : decode b_Pa_isForbidden 31 = .ok (.lconst 0, 1) := by decide +kernel
theorem d_Pa_isForbidden_32 : decode b_Pa_isForbidden 32 = .ok (.lcmp, 1) := by decide +kernel
theorem d_Pa_isForbidden_33 : decode b_Pa_isForbidden 33 = .ok (.ifCond .eq 15, 3) := by decide +kernel
theorem d_Pa_isForbidden_6 : decode b_Pa_isForbidden 6 = .ok (.lload_n 1, 1) := by decide +kernel
theorem d_Pa_isForbidden_7 : decode b_Pa_isForbidden 7 = .ok (.ldc2_w 61, 3) := by decide +kernel
theorem d_Pa_isForbidden_10 : decode b_Pa_isForbidden 10 = .ok (.land, 1) := by decide +kernel
theorem d_Pa_isForbidden_11 : decode b_Pa_isForbidden 11 = .ok (.lconst 0, 1) := by decide +kernel
theorem d_Pa_isForbidden_12 : decode b_Pa_isForbidden 12 = .ok (.lcmp, 1) := by decide +kernel
theorem d_Pa_isForbidden_13 : decode b_Pa_isForbidden 13 = .ok (.ifCond .eq 35, 3) := by decide +kernel
theorem d_Pa_locate_199 : decode b_Pa_locate 199 = .ok (.invokevirtual 57, 3) := by decide +kernel
theorem d_Pa_locate_202 : decode b_Pa_locate 202 = .ok (.ifCond .eq 10, 3) := by decide +kernel
theorem d_Pa_locate_212 : decode b_Pa_locate 212 = .ok (.lload 4, 2) := by decide +kernel
theorem d_Pa_locate_214 : decode b_Pa_locate 214 = .ok (.lload_n 1, 1) := by decide +kernel
theorem d_Pa_locate_215 : decode b_Pa_locate 215 = .ok (.lload 10, 2) := by decide +kernel
theorem d_Pa_locate_217 : decode b_Pa_locate 217 = .ok (.land, 1) := by decide +kernel
theorem d_Pa_locate_218 : decode b_Pa_locate 218 = .ok (.lor, 1) := by decide +kernel
theorem d_Pa_locate_219 : decode b_Pa_locate 219 = .ok (.lreturn, 1) := by decide +kernel
theorem d_Pa_locate_205 : decode b_Pa_locate 205 = .ok (.aload_n 0, 1) := by decide +kernel
theorem d_Pa_locate_206 : decode b_Pa_locate 206 = .ok (.lconst 1, 1) := by decide +kernel
theorem d_Pa_locate_207 : decode b_Pa_locate 207 = .ok (.iload_n 3, 1) := by decide +kernel
theorem d_Pa_refused_0 : decode b_Pa_refused 0 = .ok (.iload_n 3, 1) := by decide +kernel
theorem d_Pa_refused_1 : decode b_Pa_refused 1 = .ok (.iconst 1, 1) := by decide +kernel
theorem d_Pa_refused_2 : decode b_Pa_refused 2 = .ok (.if_icmp .ne 9, 3) := by decide +kernel
theorem d_Pa_refused_11 : decode b_Pa_refused 11 = .ok (.iload_n 3, 1) := by decide +kernel
theorem d_Pa_refused_12 : decode b_Pa_refused 12 = .ok (.iconst 2, 1) := by decide +kernel
theorem d_Pa_refused_13 : decode b_Pa_refused 13 = .ok (.if_icmp .ne 9, 3) := by decide +kernel
theorem d_Pa_refused_22 : decode b_Pa_refused 22 = .ok (.lconst 0, 1) := by decide +kernel
theorem d_Pa_refused_23 : decode b_Pa_refused 23 = .ok (.lstore 4, 2) := by decide +kernel
theorem d_Pa_refused_25 : decode b_Pa_refused 25 = .ok (.ldc2_w 71, 3) := by decide +kernel
theorem d_Pa_refused_28 : decode b_Pa_refused 28 = .ok (.lload_n 1, 1) := by decide +kernel
theorem d_Pa_refused_29 : decode b_Pa_refused 29 = .ok (.lsub, 1) := by decide +kernel
theorem d_Pa_refused_30 : decode b_Pa_refused 30 = .ok (.lload 4, 2) := by decide +kernel
theorem d_Pa_refused_32 : decode b_Pa_refused 32 = .ok (.lsub, 1) := by decide +kernel
theorem d_Pa_refused_33 : decode b_Pa_refused 33 = .ok (.aload_n 0, 1) := by decide +kernel
theorem d_Pa_refused_34 : decode b_Pa_refused 34 = .ok (.getfield 15, 3) := by decide +kernel
theorem d_Pa_refused_37 : decode b_Pa_refused 37 = .ok (.getfield 63, 3) := by decide +kernel
theorem d_Pa_refused_40 : decode b_Pa_refused 40 = .ok (.ifCond .eq 9, 3) := by decide +kernel
theorem d_Pa_refused_49 : decode b_Pa_refused 49 = .ok (.lconst 0, 1) := by decide +kernel
theorem d_Pa_refused_50 : decode b_Pa_refused 50 = .ok (.lsub, 1) := by decide +kernel
theorem d_Pa_refused_51 : decode b_Pa_refused 51 = .ok (.lreturn, 1) := by decide +kernel
theorem d_Pa_refused_43 : decode b_Pa_refused 43 = .ok (.ldc2_w 67, 3) := by decide +kernel
theorem d_Pa_refused_46 : decode b_Pa_refused 46 = .ok (.goto 4, 3) := by decide +kernel
theorem d_Pa_refused_16 : decode b_Pa_refused 16 = .ok (.ldc2_w 69, 3) := by decide +kernel
theorem d_Pa_refused_19 : decode b_Pa_refused 19 = .ok (.goto 4, 3) := by decide +kernel
theorem d_Pa_refused_5 : decode b_Pa_refused 5 = .ok (.ldc2_w 61, 3) := by decide +kernel
theorem d_Pa_refused_8 : decode b_Pa_refused 8 = .ok (.goto 15, 3) := by decide +kernel
theorem d_Pa_locate_208 : decode b_Pa_locate 208 = .ok (.invokevirtual 43, 3) := by decide +kernel
theorem d_Pa_locate_211 : decode b_Pa_locate 211 = .ok (.lreturn, 1) := by decide +kernel
theorem d_Pa_locate_48 : decode b_Pa_locate 48 = .ok (.lload 4, 2) := by decide +kernel
theorem d_Pa_locate_50 : decode b_Pa_locate 50 = .ok (.lload_n 1, 1) := by decide +kernel
theorem d_Pa_locate_51 : decode b_Pa_locate 51 = .ok (.iload 12, 2) := by decide +kernel
theorem d_Pa_locate_53 : decode b_Pa_locate 53 = .ok (.lushr, 1) := by decide +kernel
theorem d_Pa_locate_54 : decode b_Pa_locate 54 = .ok (.ldc2_w 41, 3) := by decide +kernel
theorem d_Pa_locate_57 : decode b_Pa_locate 57 = .ok (.land, 1) := by decide +kernel
theorem d_Pa_locate_58 : decode b_Pa_locate 58 = .ok (.iconst 3, 1) := by decide +kernel
theorem d_Pa_locate_59 : decode b_Pa_locate 59 = .ok (.lshl, 1) := by decide +kernel
theorem d_Pa_locate_60 : decode b_Pa_locate 60 = .ok (.ladd, 1) := by decide +kernel
theorem d_Pa_locate_61 : decode b_Pa_locate 61 = .ok (.lstore 13, 2) := by decide +kernel
theorem d_Pa_locate_63 : decode b_Pa_locate 63 = .ok (.lload 13, 2) := by decide +kernel
theorem d_Pa_locate_65 : decode b_Pa_locate 65 = .ok (.ldc2_w 19, 3) := by decide +kernel
theorem d_Pa_locate_68 : decode b_Pa_locate 68 = .ok (.lcmp, 1) := by decide +kernel
theorem d_Pa_locate_69 : decode b_Pa_locate 69 = .ok (.ifCond .ge 16, 3) := by decide +kernel
theorem d_Pa_locate_85 : decode b_Pa_locate 85 = .ok (.lconst 0, 1) := by decide +kernel
theorem d_Pa_locate_86 : decode b_Pa_locate 86 = .ok (.lstore 15, 2) := by decide +kernel
theorem d_Pa_locate_88 : decode b_Pa_locate 88 = .ok (.lload 6, 2) := by decide +kernel
theorem d_Pa_locate_90 : decode b_Pa_locate 90 = .ok (.lload 15, 2) := by decide +kernel
theorem d_Pa_locate_92 : decode b_Pa_locate 92 = .ok (.land, 1) := by decide +kernel
theorem d_Pa_locate_93 : decode b_Pa_locate 93 = .ok (.lstore 6, 2) := by decide +kernel
theorem d_Pa_locate_95 : decode b_Pa_locate 95 = .ok (.lload 8, 2) := by decide +kernel
theorem d_Pa_locate_97 : decode b_Pa_locate 97 = .ok (.lload 15, 2) := by decide +kernel
theorem d_Pa_locate_99 : decode b_Pa_locate 99 = .ok (.lor, 1) := by decide +kernel
theorem d_Pa_locate_100 : decode b_Pa_locate 100 = .ok (.lstore 8, 2) := by decide +kernel
theorem d_Pa_locate_102 : decode b_Pa_locate 102 = .ok (.lload 15, 2) := by decide +kernel
theorem d_Pa_locate_104 : decode b_Pa_locate 104 = .ok (.lconst 1, 1) := by decide +kernel
theorem d_Pa_locate_105 : decode b_Pa_locate 105 = .ok (.land, 1) := by decide +kernel
theorem d_Pa_locate_106 : decode b_Pa_locate 106 = .ok (.lconst 0, 1) := by decide +kernel
theorem d_Pa_locate_107 : decode b_Pa_locate 107 = .ok (.lcmp, 1) := by decide +kernel
theorem d_Pa_locate_108 : decode b_Pa_locate 108 = .ok (.ifCond .ne 10, 3) := by decide +kernel
theorem d_Pa_locate_118 : decode b_Pa_locate 118 = .ok (.lload 15, 2) := by decide +kernel
theorem d_Pa_locate_120 : decode b_Pa_locate 120 = .ok (.ldc2_w 37, 3) := by decide +kernel
theorem d_Pa_locate_123 : decode b_Pa_locate 123 = .ok (.land, 1) := by decide +kernel
theorem d_Pa_locate_124 : decode b_Pa_locate 124 = .ok (.lstore 4, 2) := by decide +kernel
theorem d_Pa_locate_126 : decode b_Pa_locate 126 = .ok (.iload 12, 2) := by decide +kernel
theorem d_Pa_locate_128 : decode b_Pa_locate 128 = .ok (.bipush 12, 2) := by decide +kernel
theorem d_Pa_locate_130 : decode b_Pa_locate 130 = .ok (.if_icmp .le 57, 3) := by decide +kernel
theorem d_Pa_locate_187 : decode b_Pa_locate 187 = .ok (.iinc 12 (-9), 3) := by decide +kernel
theorem d_Pa_locate_190 : decode b_Pa_locate 190 = .ok (.goto (-149), 3) := by decide +kernel
theorem d_Pa_locate_133 : decode b_Pa_locate 133 = .ok (.lload 15, 2) := by decide +kernel
theorem d_Pa_locate_135 : decode b_Pa_locate 135 = .ok (.ldc2_w 47, 3) := by decide +kernel
theorem d_Pa_locate_138 : decode b_Pa_locate 138 = .ok (.land, 1) := by decide +kernel
theorem d_Pa_locate_139 : decode b_Pa_locate 139 = .ok (.lconst 0, 1) := by decide +kernel
theorem d_Pa_locate_140 : decode b_Pa_locate 140 = .ok (.lcmp, 1) := by decide +kernel
theorem d_Pa_locate_141 : decode b_Pa_locate 141 = .ok (.ifCond .eq 46, 3) := by decide +kernel
theorem d_Pa_locate_144 : decode b_Pa_locate 144 = .ok (.iload 12, 2) := by decide +kernel
theorem d_Pa_locate_146 : decode b_Pa_locate 146 = .ok (.bipush 21, 2) := by decide +kernel
theorem d_Pa_locate_148 : decode b_Pa_locate 148 = .ok (.if_icmp .gt 14, 3) := by decide +kernel
theorem d_Pa_locate_162 : decode b_Pa_locate 162 = .ok (.aload_n 0, 1) := by decide +kernel
theorem d_Pa_locate_163 : decode b_Pa_locate 163 = .ok (.ldc2_w 51, 3) := by decide +kernel
theorem d_Pa_locate_166 : decode b_Pa_locate 166 = .ok (.iload_n 3, 1) := by decide +kernel
theorem d_Pa_locate_167 : decode b_Pa_locate 167 = .ok (.invokevirtual 43, 3) := by decide +kernel
theorem d_Pa_locate_170 : decode b_Pa_locate 170 = .ok (.lreturn, 1) := by decide +kernel
theorem d_Pa_locate_151 : decode b_Pa_locate 151 = .ok (.lload 15, 2) := by decide +kernel
theorem d_Pa_locate_153 : decode b_Pa_locate 153 = .ok (.ldc2_w 49, 3) := by decide +kernel
theorem d_Pa_locate_156 : decode b_Pa_locate 156 = .ok (.land, 1) := by decide +kernel
theorem d_Pa_locate_157 : decode b_Pa_locate 157 = .ok (.lconst 0, 1) := by decide +kernel
theorem d_Pa_locate_158 : decode b_Pa_locate 158 = .ok (.lcmp, 1) := by decide +kernel
theorem d_Pa_locate_159 : decode b_Pa_locate 159 = .ok (.ifCond .eq 12, 3) := by decide +kernel
theorem d_Pa_locate_171 : decode b_Pa_locate 171 = .ok (.lload 15, 2) := by decide +kernel
theorem d_Pa_locate_173 : decode b_Pa_locate 173 = .ok (.ldc2_w 53, 3) := by decide +kernel
theorem d_Pa_locate_176 : decode b_Pa_locate 176 = .ok (.land, 1) := by decide +kernel
theorem d_Pa_locate_177 : decode b_Pa_locate 177 = .ok (.lstore 4, 2) := by decide +kernel
theorem d_Pa_locate_179 : decode b_Pa_locate 179 = .ok (.ldc2_w 55, 3) := by decide +kernel
theorem d_Pa_locate_182 : decode b_Pa_locate 182 = .ok (.lstore 10, 2) := by decide +kernel
theorem d_Pa_locate_184 : decode b_Pa_locate 184 = .ok (.goto 9, 3) := by decide +kernel
theorem d_Pa_locate_111 : decode b_Pa_locate 111 = .ok (.aload_n 0, 1) := by decide +kernel
theorem d_Pa_locate_112 : decode b_Pa_locate 112 = .ok (.lconst 0, 1) := by decide +kernel
theorem d_Pa_locate_113 : decode b_Pa_locate 113 = .ok (.iload_n 3, 1) := by decide +kernel
theorem d_Pa_locate_114 : decode b_Pa_locate 114 = .ok (.invokevirtual 43, 3) := by decide +kernel
theorem d_Pa_locate_117 : decode b_Pa_locate 117 = .ok (.lreturn, 1) := by decide +kernel
theorem d_Pa_locate_72 : decode b_Pa_locate 72 = .ok (.aload_n 0, 1) := by decide +kernel
theorem d_Pa_locate_73 : decode b_Pa_locate 73 = .ok (.getfield 11, 3) := by decide +kernel
theorem d_Pa_locate_76 : decode b_Pa_locate 76 = .ok (.lload 13, 2) := by decide +kernel
theorem d_Pa_locate_78 : decode b_Pa_locate 78 = .ok (.iconst 3, 1) := by decide +kernel
theorem d_Pa_locate_79 : decode b_Pa_locate 79 = .ok (.lushr, 1) := by decide +kernel
theorem d_Pa_locate_80 : decode b_Pa_locate 80 = .ok (.l2i, 1) := by decide +kernel
theorem d_Pa_locate_81 : decode b_Pa_locate 81 = .ok (.laload, 1) := by decide +kernel
theorem d_Pa_locate_82 : decode b_Pa_locate 82 = .ok (.goto 4, 3) := by decide +kernel
theorem d_Pa_locate_7 : decode b_Pa_locate 7 = .ok (.ldc2_w 25, 3) := by decide +kernel
theorem d_Pa_locate_10 : decode b_Pa_locate 10 = .ok (.lreturn, 1) := by decide +kernel
theorem d_De_fetch_63 : decode b_De_fetch 63 = .ok (.invokevirtual 147, 3) := by decide +kernel
theorem d_De_fetch_66 : decode b_De_fetch 66 = .ok (.putfield 144, 3) := by decide +kernel
theorem d_De_fetch_69 : decode b_De_fetch 69 = .ok (.aload_n 0, 1) := by decide +kernel
theorem d_De_fetch_70 : decode b_De_fetch 70 = .ok (.getfield 144, 3) := by decide +kernel
theorem d_De_fetch_73 : decode b_De_fetch 73 = .ok (.lconst 0, 1) := by decide +kernel
theorem d_De_fetch_74 : decode b_De_fetch 74 = .ok (.lcmp, 1) := by decide +kernel
theorem d_De_fetch_75 : decode b_De_fetch 75 = .ok (.ifCond .ge 18, 3) := by decide +kernel
theorem d_De_fetch_93 : decode b_De_fetch 93 = .ok (.aload_n 0, 1) := by decide +kernel
theorem d_De_fetch_94 : decode b_De_fetch 94 = .ok (.aload_n 0, 1) := by decide +kernel
theorem d_De_fetch_95 : decode b_De_fetch 95 = .ok (.getfield 15, 3) := by decide +kernel
theorem d_De_fetch_98 : decode b_De_fetch 98 = .ok (.aload_n 0, 1) := by decide +kernel
theorem d_De_fetch_99 : decode b_De_fetch 99 = .ok (.getfield 144, 3) := by decide +kernel
theorem d_De_fetch_102 : decode b_De_fetch 102 = .ok (.invokevirtual 154, 3) := by decide +kernel
theorem d_De_fetch_105 : decode b_De_fetch 105 = .ok (.putfield 84, 3) := by decide +kernel
theorem d_De_fetch_108 : decode b_De_fetch 108 = .ok (.aload_n 0, 1) := by decide +kernel
theorem d_De_fetch_109 : decode b_De_fetch 109 = .ok (.dup, 1) := by decide +kernel
theorem d_De_fetch_110 : decode b_De_fetch 110 = .ok (.getfield 65, 3) := by decide +kernel
theorem d_De_fetch_113 : decode b_De_fetch 113 = .ok (.iconst 1, 1) := by decide +kernel
theorem d_De_fetch_114 : decode b_De_fetch 114 = .ok (.iadd, 1) := by decide +kernel
theorem d_De_fetch_115 : decode b_De_fetch 115 = .ok (.putfield 65, 3) := by decide +kernel
theorem d_De_fetch_118 : decode b_De_fetch 118 = .ok (.iconst (-1), 1) := by decide +kernel
theorem d_De_fetch_119 : decode b_De_fetch 119 = .ok (.ireturn, 1) := by decide +kernel
theorem d_De_fetch_78 : decode b_De_fetch 78 = .ok (.aload_n 0, 1) := by decide +kernel
theorem d_De_fetch_79 : decode b_De_fetch 79 = .ok (.getfield 15, 3) := by decide +kernel
theorem d_De_fetch_82 : decode b_De_fetch 82 = .ok (.lload_n 1, 1) := by decide +kernel
theorem d_De_fetch_83 : decode b_De_fetch 83 = .ok (.aload_n 0, 1) := by decide +kernel
theorem d_De_fetch_84 : decode b_De_fetch 84 = .ok (.getfield 144, 3) := by decide +kernel
theorem d_De_fetch_87 : decode b_De_fetch 87 = .ok (.bipush 13, 2) := by decide +kernel
theorem d_Pa_refusal_0 : decode b_Pa_refusal 0 = .ok (.lload_n 3, 1) := by decide +kernel
theorem d_Pa_refusal_1 : decode b_Pa_refusal 1 = .ok (.ldc2_w 25, 3) := by decide +kernel
theorem d_Pa_refusal_4 : decode b_Pa_refusal 4 = .ok (.lcmp, 1) := by decide +kernel
theorem d_Pa_refusal_5 : decode b_Pa_refusal 5 = .ok (.ifCond .ne 6, 3) := by decide +kernel
theorem d_Pa_refusal_11 : decode b_Pa_refusal 11 = .ok (.aload_n 0, 1) := by decide +kernel
theorem d_Pa_refusal_12 : decode b_Pa_refusal 12 = .ok (.getfield 15, 3) := by decide +kernel
theorem d_Pa_refusal_15 : decode b_Pa_refusal 15 = .ok (.lload_n 1, 1) := by decide +kernel
theorem d_Pa_refusal_16 : decode b_Pa_refusal 16 = .ok (.putfield 73, 3) := by decide +kernel
theorem d_Pa_refusal_19 : decode b_Pa_refusal 19 = .ok (.aload_n 0, 1) := by decide +kernel
theorem d_Pa_refusal_20 : decode b_Pa_refusal 20 = .ok (.getfield 15, 3) := by decide +kernel
theorem d_Pa_refusal_23 : decode b_Pa_refusal 23 = .ok (.ldc2_w 71, 3) := by decide +kernel
theorem d_Pa_refusal_26 : decode b_Pa_refusal 26 = .ok (.lload_n 3, 1) := by decide +kernel
theorem d_Pa_refusal_27 : decode b_Pa_refusal 27 = .ok (.lsub, 1) := by decide +kernel
theorem d_Pa_refusal_28 : decode b_Pa_refusal 28 = .ok (.l2i, 1) := by decide +kernel
theorem d_Pa_refusal_29 : decode b_Pa_refusal 29 = .ok (.putfield 76, 3) := by decide +kernel
theorem d_Pa_refusal_32 : decode b_Pa_refusal 32 = .ok (.bipush 14, 2) := by decide +kernel
theorem d_Pa_refusal_34 : decode b_Pa_refusal 34 = .ok (.ireturn, 1) := by decide +kernel
theorem d_Pa_refusal_8 : decode b_Pa_refusal 8 = .ok (.iload 5, 2) := by decide +kernel
theorem d_Pa_refusal_10 : decode b_Pa_refusal 10 = .ok (.ireturn, 1) := by decide +kernel
theorem d_De_fetch_89 : decode b_De_fetch 89 = .ok (.invokevirtual 150, 3) := by decide +kernel
theorem d_De_fetch_92 : decode b_De_fetch 92 = .ok (.ireturn, 1) := by decide +kernel
theorem d_De_fetch_33 : decode b_De_fetch 33 = .ok (.lload_n 1, 1) := by decide +kernel
theorem d_De_fetch_34 : decode b_De_fetch 34 = .ok (.ldc2_w 142, 3) := by decide +kernel
theorem d_De_fetch_37 : decode b_De_fetch 37 = .ok (.land, 1) := by decide +kernel
theorem d_De_fetch_38 : decode b_De_fetch 38 = .ok (.lconst 0, 1) := by decide +kernel
theorem d_De_fetch_39 : decode b_De_fetch 39 = .ok (.lcmp, 1) := by decide +kernel
theorem d_De_fetch_40 : decode b_De_fetch 40 = .ok (.ifCond .eq 16, 3) := by decide +kernel
theorem d_De_fetch_43 : decode b_De_fetch 43 = .ok (.aload_n 0, 1) := by decide +kernel
theorem d_De_fetch_44 : decode b_De_fetch 44 = .ok (.dup, 1) := by decide +kernel
theorem d_De_fetch_45 : decode b_De_fetch 45 = .ok (.getfield 144, 3) := by decide +kernel
theorem d_De_fetch_48 : decode b_De_fetch 48 = .ok (.lconst 1, 1) := by decide +kernel
theorem d_De_fetch_49 : decode b_De_fetch 49 = .ok (.ladd, 1) := by decide +kernel
theorem d_De_fetch_50 : decode b_De_fetch 50 = .ok (.putfield 144, 3) := by decide +kernel
theorem d_De_fetch_53 : decode b_De_fetch 53 = .ok (.goto 40, 3) := by decide +kernel
theorem d_De_fetch_9 : decode b_De_fetch 9 = .ok (.bipush 13, 2) := by decide +kernel
theorem d_De_fetch_11 : decode b_De_fetch 11 = .ok (.ireturn, 1) := by decide +kernel
theorem d_De_fetchOpcode_87 : decode b_De_fetchOpcode 87 = .ok (.invokevirtual 81, 3) := by decide +kernel
theorem d_De_fetchOpcode_90 : decode b_De_fetchOpcode 90 = .ok (.istore_n 1, 1) := by decide +kernel
theorem d_De_fetchOpcode_91 : decode b_De_fetchOpcode 91 = .ok (.aload_n 0, 1) := by decide +kernel
theorem d_De_fetchOpcode_92 : decode b_De_fetchOpcode 92 = .ok (.sipush 256, 3) := by decide +kernel
theorem d_De_fetchOpcode_95 : decode b_De_fetchOpcode 95 = .ok (.aload_n 0, 1) := by decide +kernel
theorem d_De_fetchOpcode_96 : decode b_De_fetchOpcode 96 = .ok (.getfield 84, 3) := by decide +kernel
theorem d_De_fetchOpcode_99 : decode b_De_fetchOpcode 99 = .ok (.iadd, 1) := by decide +kernel
theorem d_De_fetchOpcode_100 : decode b_De_fetchOpcode 100 = .ok (.putfield 23, 3) := by decide +kernel
theorem d_De_fetchOpcode_103 : decode b_De_fetchOpcode 103 = .ok (.iload_n 1, 1) := by decide +kernel
theorem d_De_fetchOpcode_104 : decode b_De_fetchOpcode 104 = .ok (.ireturn, 1) := by decide +kernel
theorem d_De_fetchOpcode_84 : decode b_De_fetchOpcode 84 = .ok (.iconst (-1), 1) := by decide +kernel
theorem d_De_fetchOpcode_85 : decode b_De_fetchOpcode 85 = .ok (.ireturn, 1) := by decide +kernel
theorem d_De_fetchOpcode_28 : decode b_De_fetchOpcode 28 = .ok (.aload_n 0, 1) := by decide +kernel
theorem d_De_fetchOpcode_29 : decode b_De_fetchOpcode 29 = .ok (.invokevirtual 81, 3) := by decide +kernel
theorem d_De_fetchOpcode_32 : decode b_De_fetchOpcode 32 = .ok (.istore_n 2, 1) := by decide +kernel
theorem d_De_fetchOpcode_33 : decode b_De_fetchOpcode 33 = .ok (.iload_n 2, 1) := by decide +kernel
theorem d_De_fetchOpcode_34 : decode b_De_fetchOpcode 34 = .ok (.iconst (-1), 1) := by decide +kernel
theorem d_De_fetchOpcode_35 : decode b_De_fetchOpcode 35 = .ok (.if_icmp .eq 5, 3) := by decide +kernel
theorem d_De_fetchOpcode_40 : decode b_De_fetchOpcode 40 = .ok (.aload_n 0, 1) := by decide +kernel
theorem d_De_fetchOpcode_41 : decode b_De_fetchOpcode 41 = .ok (.getfield 84, 3) := by decide +kernel
theorem d_De_fetchOpcode_38 : decode b_De_fetchOpcode 38 = .ok (.iload_n 2, 1) := by decide +kernel
theorem d_De_fetchOpcode_39 : decode b_De_fetchOpcode 39 = .ok (.ireturn, 1) := by decide +kernel
theorem d_De_decode_1 : decode b_De_decode 1 = .ok (.invokevirtual 19, 3) := by decide +kernel
theorem d_De_decode_4 : decode b_De_decode 4 = .ok (.istore_n 1, 1) := by decide +kernel
theorem d_De_decode_5 : decode b_De_decode 5 = .ok (.iload_n 1, 1) := by decide +kernel
theorem d_De_decode_6 : decode b_De_decode 6 = .ok (.iconst (-1), 1) := by decide +kernel
theorem d_De_decode_7 : decode b_De_decode 7 = .ok (.if_icmp .eq 5, 3) := by decide +kernel
theorem d_De_decode_12 : decode b_De_decode 12 = .ok (.aload_n 0, 1) := by decide +kernel
theorem d_De_decode_13 : decode b_De_decode 13 = .ok (.getfield 23, 3) := by decide +kernel
theorem d_De_decode_16 : decode b_De_decode 16 = .ok (.sipush 256, 3) := by decide +kernel
theorem d_De_decode_19 : decode b_De_decode 19 = .ok (.if_icmp .ge 13, 3) := by decide +kernel
theorem d_De_decode_32 : decode b_De_decode 32 = .ok (.aload_n 0, 1) := by decide +kernel
theorem d_De_decode_33 : decode b_De_decode 33 = .ok (.getfield 23, 3) := by decide +kernel
theorem d_De_decode_36 : decode b_De_decode 36 = .ok (.sipush 256, 3) := by decide +kernel
theorem d_De_decode_39 : decode b_De_decode 39 = .ok (.isub, 1) := by decide +kernel
theorem d_De_decode_22 : decode b_De_decode 22 = .ok (.aload_n 0, 1) := by decide +kernel
theorem d_De_decode_23 : decode b_De_decode 23 = .ok (.getfield 23, 3) := by decide +kernel
theorem d_De_decode_10 : decode b_De_decode 10 = .ok (.iload_n 1, 1) := by decide +kernel
theorem d_De_decode_11 : decode b_De_decode 11 = .ok (.ireturn, 1) := by decide +kernel
theorem d_Co_step_4 : decode b_Co_step 4 = .ok (.invokevirtual 140, 3) := by decide +kernel
theorem d_Co_step_7 : decode b_Co_step 7 = .ok (.istore_n 1, 1) := by decide +kernel
theorem d_Co_step_8 : decode b_Co_step 8 = .ok (.iload_n 1, 1) := by decide +kernel
theorem d_Co_step_9 : decode b_Co_step 9 = .ok (.iconst (-1), 1) := by decide +kernel
theorem d_Co_step_10 : decode b_Co_step 10 = .ok (.if_icmp .ne 11, 3) := by decide +kernel
theorem d_Co_step_21 : decode b_Co_step 21 = .ok (.iload_n 1, 1) := by decide +kernel
theorem d_Co_step_22 : decode b_Co_step 22 = .ok (.iconst (-1), 1) := by decide +kernel
theorem d_Co_step_23 : decode b_Co_step 23 = .ok (.if_icmp .eq 5, 3) := by decide +kernel
theorem d_Co_step_28 : decode b_Co_step 28 = .ok (.aload_n 0, 1) := by decide +kernel
theorem d_Co_step_29 : decode b_Co_step 29 = .ok (.getfield 61, 3) := by decide +kernel
theorem d_Co_step_26 : decode b_Co_step 26 = .ok (.iload_n 1, 1) := by decide +kernel
theorem d_Co_step_27 : decode b_Co_step 27 = .ok (.ireturn, 1) := by decide +kernel
theorem d_Co_step_13 : decode b_Co_step 13 = .ok (.aload_n 0, 1) := by decide +kernel
theorem d_Co_step_14 : decode b_Co_step 14 = .ok (.getfield 44, 3) := by decide +kernel
theorem d_Co_run_0 : decode b_Co_run 0 = .ok (.iload_n 1, 1) := by decide +kernel
theorem d_Co_run_1 : decode b_Co_run 1 = .ok (.ifCond .lt 10, 3) := by decide +kernel
theorem d_Co_run_11 : decode b_Co_run 11 = .ok (.iconst 0, 1) := by decide +kernel
theorem d_Co_run_12 : decode b_Co_run 12 = .ok (.ireturn, 1) := by decide +kernel
theorem d_Co_run_4 : decode b_Co_run 4 = .ok (.iload_n 1, 1) := by decide +kernel
theorem d_Co_run_5 : decode b_Co_run 5 = .ok (.sipush 1000, 3) := by decide +kernel
theorem d_Co_run_8 : decode b_Co_run 8 = .ok (.if_icmp .le 5, 3) := by decide +kernel
theorem d_Co_run_13 : decode b_Co_run 13 = .ok (.iconst 0, 1) := by decide +kernel
theorem d_Co_run_14 : decode b_Co_run 14 = .ok (.istore_n 2, 1) := by decide +kernel
theorem d_Co_run_15 : decode b_Co_run 15 = .ok (.iload_n 2, 1) := by decide +kernel
theorem d_Co_run_16 : decode b_Co_run 16 = .ok (.iload_n 1, 1) := by decide +kernel
theorem d_Co_run_17 : decode b_Co_run 17 = .ok (.if_icmp .ge 19, 3) := by decide +kernel
theorem d_Co_run_36 : decode b_Co_run 36 = .ok (.iload_n 1, 1) := by decide +kernel
theorem d_Co_run_37 : decode b_Co_run 37 = .ok (.ireturn, 1) := by decide +kernel
theorem d_Co_run_20 : decode b_Co_run 20 = .ok (.aload_n 0, 1) := by decide +kernel
theorem d_Co_run_21 : decode b_Co_run 21 = .ok (.invokevirtual 159, 3) := by decide +kernel
theorem d_Co_run_24 : decode b_Co_run 24 = .ok (.iconst (-1), 1) := by decide +kernel
theorem d_Co_run_25 : decode b_Co_run 25 = .ok (.if_icmp .eq 5, 3) := by decide +kernel
theorem d_Co_run_30 : decode b_Co_run 30 = .ok (.iinc 2 1, 3) := by decide +kernel
theorem d_Co_run_33 : decode b_Co_run 33 = .ok (.goto (-18), 3) := by decide +kernel
theorem d_Co_run_28 : decode b_Co_run 28 = .ok (.iload_n 2, 1) := by decide +kernel
theorem d_Co_run_29 : decode b_Co_run 29 = .ok (.ireturn, 1) := by decide +kernel
theorem d_Co_look_0 : decode b_Co_look 0 = .ok (.aload_n 0, 1) := by decide +kernel
theorem d_Co_look_1 : decode b_Co_look 1 = .ok (.getfield 21, 3) := by decide +kernel
theorem d_Co_look_4 : decode b_Co_look 4 = .ok (.iload_n 1, 1) := by decide +kernel
theorem d_Co_look_5 : decode b_Co_look 5 = .ok (.iload_n 2, 1) := by decide +kernel
theorem d_Co_look_6 : decode b_Co_look 6 = .ok (.invokestatic 100, 3) := by decide +kernel
theorem d_Co_look_9 : decode b_Co_look 9 = .ok (.iload_n 3, 1) := by decide +kernel
theorem d_Co_look_10 : decode b_Co_look 10 = .ok (.invokevirtual 162, 3) := by decide +kernel
theorem d_Co_look_13 : decode b_Co_look 13 = .ok (.lreturn, 1) := by decide +kernel
theorem d_Mo_store_0 : decode b_Mo_store 0 = .ok (.iload_n 1, 1) := by decide +kernel
theorem d_Mo_store_1 : decode b_Mo_store 1 = .ok (.ifCond .lt 16, 3) := by decide +kernel
theorem d_Mo_store_17 : decode b_Mo_store 17 = .ok (.iconst 0, 1) := by decide +kernel
theorem d_Mo_store_18 : decode b_Mo_store 18 = .ok (.ireturn, 1) := by decide +kernel
theorem d_Mo_store_4 : decode b_Mo_store 4 = .ok (.iload_n 1, 1) := by decide +kernel
theorem d_Mo_store_5 : decode b_Mo_store 5 = .ok (.i2l, 1) := by decide +kernel
theorem d_Mo_store_6 : decode b_Mo_store 6 = .ok (.ldc2_w 60, 3) := by decide +kernel
theorem d_Mo_store_9 : decode b_Mo_store 9 = .ok (.ladd, 1) := by decide +kernel
theorem d_Mo_store_10 : decode b_Mo_store 10 = .ok (.ldc2_w 42, 3) := by decide +kernel
theorem d_Mo_store_13 : decode b_Mo_store 13 = .ok (.lcmp, 1) := by decide +kernel
theorem d_Mo_store_14 : decode b_Mo_store 14 = .ok (.ifCond .le 5, 3) := by decide +kernel
theorem d_Mo_store_19 : decode b_Mo_store 19 = .ok (.iconst 0, 1) := by decide +kernel
theorem d_Mo_store_20 : decode b_Mo_store 20 = .ok (.istore 4, 2) := by decide +kernel
theorem d_Mo_store_22 : decode b_Mo_store 22 = .ok (.iload 4, 2) := by decide +kernel
theorem d_Mo_store_24 : decode b_Mo_store 24 = .ok (.bipush 8, 2) := by decide +kernel
theorem d_Mo_store_26 : decode b_Mo_store 26 = .ok (.if_icmp .ge 38, 3) := by decide +kernel
theorem d_Mo_store_64 : decode b_Mo_store 64 = .ok (.iconst 1, 1) := by decide +kernel
theorem d_Mo_store_65 : decode b_Mo_store 65 = .ok (.ireturn, 1) := by decide +kernel
theorem d_Mo_store_29 : decode b_Mo_store 29 = .ok (.aload_n 0, 1) := by decide +kernel
theorem d_Mo_store_30 : decode b_Mo_store 30 = .ok (.getfield 8, 3) := by decide +kernel
theorem d_Mo_store_33 : decode b_Mo_store 33 = .ok (.iload_n 1, 1) := by decide +kernel
theorem d_Mo_store_34 : decode b_Mo_store 34 = .ok (.iload 4, 2) := by decide +kernel
theorem d_Mo_store_36 : decode b_Mo_store 36 = .ok (.iadd, 1) := by decide +kernel
theorem d_Mo_store_37 : decode b_Mo_store 37 = .ok (.iload 4, 2) := by decide +kernel
theorem d_Mo_store_39 : decode b_Mo_store 39 = .ok (.iconst 4, 1) := by decide +kernel
theorem d_Mo_store_40 : decode b_Mo_store 40 = .ok (.if_icmp .ge 7, 3) := by decide +kernel
theorem d_Mo_store_47 : decode b_Mo_store 47 = .ok (.iload_n 3, 1) := by decide +kernel
theorem d_Mo_store_48 : decode b_Mo_store 48 = .ok (.bipush 8, 2) := by decide +kernel
theorem d_Mo_store_50 : decode b_Mo_store 50 = .ok (.iload 4, 2) := by decide +kernel
theorem d_Mo_store_52 : decode b_Mo_store 52 = .ok (.iconst 4, 1) := by decide +kernel
theorem d_Mo_store_53 : decode b_Mo_store 53 = .ok (.irem, 1) := by decide +kernel
theorem d_Mo_store_54 : decode b_Mo_store 54 = .ok (.imul, 1) := by decide +kernel
theorem d_Mo_store_55 : decode b_Mo_store 55 = .ok (.ishr, 1) := by decide +kernel
theorem d_Mo_store_56 : decode b_Mo_store 56 = .ok (.i2b, 1) := by decide +kernel
theorem d_Mo_store_57 : decode b_Mo_store 57 = .ok (.bastore, 1) := by decide +kernel
theorem d_Mo_store_58 : decode b_Mo_store 58 = .ok (.iinc 4 1, 3) := by decide +kernel
theorem d_Mo_store_61 : decode b_Mo_store 61 = .ok (.goto (-39), 3) := by decide +kernel
theorem d_Mo_store_43 : decode b_Mo_store 43 = .ok (.iload_n 2, 1) := by decide +kernel
theorem d_Mo_store_44 : decode b_Mo_store 44 = .ok (.goto 4, 3) := by decide +kernel
theorem d_Mo_stored_0 : decode b_Mo_stored 0 = .ok (.aload_n 0, 1) := by decide +kernel
end
section
theorem d_Mo_stored_1 : decode b_Mo_stored 1 = .ok (.iload_n 1, 1) := by decide +kernel
theorem d_Mo_stored_2 : decode b_Mo_stored 2 = .ok (.i2l, 1) := by decide +kernel
theorem d_Mo_eight_0 : decode b_Mo_eight 0 = .ok (.lconst 0, 1) := by decide +kernel
theorem d_Mo_eight_1 : decode b_Mo_eight 1 = .ok (.lstore_n 3, 1) := by decide +kernel
theorem d_Mo_eight_2 : decode b_Mo_eight 2 = .ok (.iconst 0, 1) := by decide +kernel
theorem d_Mo_eight_3 : decode b_Mo_eight 3 = .ok (.istore 5, 2) := by decide +kernel
theorem d_Mo_eight_5 : decode b_Mo_eight 5 = .ok (.iload 5, 2) := by decide +kernel
theorem d_Mo_eight_7 : decode b_Mo_eight 7 = .ok (.bipush 8, 2) := by decide +kernel
theorem d_Mo_eight_9 : decode b_Mo_eight 9 = .ok (.if_icmp .ge 28, 3) := by decide +kernel
theorem d_Mo_eight_37 : decode b_Mo_eight 37 = .ok (.lload_n 3, 1) := by decide +kernel
theorem d_Mo_eight_38 : decode b_Mo_eight 38 = .ok (.lreturn, 1) := by decide +kernel
theorem d_Mo_eight_12 : decode b_Mo_eight 12 = .ok (.lload_n 3, 1) := by decide +kernel
theorem d_Mo_eight_13 : decode b_Mo_eight 13 = .ok (.aload_n 0, 1) := by decide +kernel
theorem d_Mo_eight_14 : decode b_Mo_eight 14 = .ok (.lload_n 1, 1) := by decide +kernel
theorem d_Mo_eight_15 : decode b_Mo_eight 15 = .ok (.iload 5, 2) := by decide +kernel
theorem d_Mo_eight_17 : decode b_Mo_eight 17 = .ok (.i2l, 1) := by decide +kernel
theorem d_Mo_eight_18 : decode b_Mo_eight 18 = .ok (.ladd, 1) := by decide +kernel
theorem d_Mo_byteAt_0 : decode b_Mo_byteAt 0 = .ok (.lload_n 1, 1) := by decide +kernel
theorem d_Mo_byteAt_1 : decode b_Mo_byteAt 1 = .ok (.lconst 0, 1) := by decide +kernel
theorem d_Mo_byteAt_2 : decode b_Mo_byteAt 2 = .ok (.lcmp, 1) := by decide +kernel
theorem d_Mo_byteAt_3 : decode b_Mo_byteAt 3 = .ok (.ifCond .lt 11, 3) := by decide +kernel
theorem d_Mo_byteAt_14 : decode b_Mo_byteAt 14 = .ok (.iconst 0, 1) := by decide +kernel
theorem d_Mo_byteAt_15 : decode b_Mo_byteAt 15 = .ok (.goto 14, 3) := by decide +kernel
theorem d_Mo_byteAt_29 : decode b_Mo_byteAt 29 = .ok (.ireturn, 1) := by decide +kernel
theorem d_Mo_byteAt_6 : decode b_Mo_byteAt 6 = .ok (.lload_n 1, 1) := by decide +kernel
theorem d_Mo_byteAt_7 : decode b_Mo_byteAt 7 = .ok (.ldc2_w 42, 3) := by decide +kernel
theorem d_Mo_byteAt_10 : decode b_Mo_byteAt 10 = .ok (.lcmp, 1) := by decide +kernel
theorem d_Mo_byteAt_11 : decode b_Mo_byteAt 11 = .ok (.ifCond .lt 7, 3) := by decide +kernel
theorem d_Mo_byteAt_18 : decode b_Mo_byteAt 18 = .ok (.aload_n 0, 1) := by decide +kernel
theorem d_Mo_byteAt_19 : decode b_Mo_byteAt 19 = .ok (.getfield 8, 3) := by decide +kernel
theorem d_Mo_byteAt_22 : decode b_Mo_byteAt 22 = .ok (.lload_n 1, 1) := by decide +kernel
theorem d_Mo_byteAt_23 : decode b_Mo_byteAt 23 = .ok (.l2i, 1) := by decide +kernel
theorem d_Mo_byteAt_24 : decode b_Mo_byteAt 24 = .ok (.baload, 1) := by decide +kernel
theorem d_Mo_byteAt_25 : decode b_Mo_byteAt 25 = .ok (.sipush 255, 3) := by decide +kernel
theorem d_Mo_byteAt_28 : decode b_Mo_byteAt 28 = .ok (.iand, 1) := by decide +kernel
theorem d_Mo_eight_19 : decode b_Mo_eight 19 = .ok (.invokevirtual 44, 3) := by decide +kernel
theorem d_Mo_eight_22 : decode b_Mo_eight 22 = .ok (.i2l, 1) := by decide +kernel
theorem d_Mo_eight_23 : decode b_Mo_eight 23 = .ok (.bipush 8, 2) := by decide +kernel
theorem d_Mo_eight_25 : decode b_Mo_eight 25 = .ok (.iload 5, 2) := by decide +kernel
theorem d_Mo_eight_27 : decode b_Mo_eight 27 = .ok (.imul, 1) := by decide +kernel
theorem d_Mo_eight_28 : decode b_Mo_eight 28 = .ok (.lshl, 1) := by decide +kernel
theorem d_Mo_eight_29 : decode b_Mo_eight 29 = .ok (.lor, 1) := by decide +kernel
theorem d_Mo_eight_30 : decode b_Mo_eight 30 = .ok (.lstore_n 3, 1) := by decide +kernel
theorem d_Mo_eight_31 : decode b_Mo_eight 31 = .ok (.iinc 5 1, 3) := by decide +kernel
theorem d_Mo_eight_34 : decode b_Mo_eight 34 = .ok (.goto (-29), 3) := by decide +kernel
theorem d_Mo_stored_3 : decode b_Mo_stored 3 = .ok (.invokevirtual 62, 3) := by decide +kernel
theorem d_Mo_stored_6 : decode b_Mo_stored 6 = .ok (.lreturn, 1) := by decide +kernel
theorem d_Mo_set_0 : decode b_Mo_set 0 = .ok (.iload_n 2, 1) := by decide +kernel
theorem d_Mo_set_1 : decode b_Mo_set 1 = .ok (.iload_n 3, 1) := by decide +kernel
theorem d_Mo_join_0 : decode b_Mo_join 0 = .ok (.iload_n 0, 1) := by decide +kernel
theorem d_Mo_join_1 : decode b_Mo_join 1 = .ok (.i2l, 1) := by decide +kernel
theorem d_Mo_join_2 : decode b_Mo_join 2 = .ok (.bipush 32, 2) := by decide +kernel
theorem d_Mo_join_4 : decode b_Mo_join 4 = .ok (.lshl, 1) := by decide +kernel
theorem d_Mo_join_5 : decode b_Mo_join 5 = .ok (.iload_n 1, 1) := by decide +kernel
theorem d_Mo_join_6 : decode b_Mo_join 6 = .ok (.i2l, 1) := by decide +kernel
theorem d_Mo_join_7 : decode b_Mo_join 7 = .ok (.ldc2_w 459, 3) := by decide +kernel
theorem d_Mo_join_10 : decode b_Mo_join 10 = .ok (.land, 1) := by decide +kernel
theorem d_Mo_join_11 : decode b_Mo_join 11 = .ok (.lor, 1) := by decide +kernel
theorem d_Mo_join_12 : decode b_Mo_join 12 = .ok (.lreturn, 1) := by decide +kernel
theorem d_Mo_set_2 : decode b_Mo_set 2 = .ok (.invokestatic 461, 3) := by decide +kernel
theorem d_Mo_set_5 : decode b_Mo_set 5 = .ok (.lstore 4, 2) := by decide +kernel
theorem d_Mo_set_7 : decode b_Mo_set 7 = .ok (.iload_n 1, 1) := by decide +kernel
theorem d_Mo_set_8 : decode b_Mo_set 8 = .ok (.ifCond .lt 9, 3) := by decide +kernel
theorem d_Mo_set_17 : decode b_Mo_set 17 = .ok (.iconst 0, 1) := by decide +kernel
theorem d_Mo_set_18 : decode b_Mo_set 18 = .ok (.ireturn, 1) := by decide +kernel
theorem d_Mo_set_11 : decode b_Mo_set 11 = .ok (.iload_n 1, 1) := by decide +kernel
theorem d_Mo_set_12 : decode b_Mo_set 12 = .ok (.bipush 21, 2) := by decide +kernel
theorem d_Mo_set_14 : decode b_Mo_set 14 = .ok (.if_icmp .le 5, 3) := by decide +kernel
theorem d_Mo_set_19 : decode b_Mo_set 19 = .ok (.iload_n 1, 1) := by decide +kernel
theorem d_Mo_set_20 : decode b_Mo_set 20 = .ok (.bipush 16, 2) := by decide +kernel
theorem d_Mo_set_22 : decode b_Mo_set 22 = .ok (.if_icmp .ge 11, 3) := by decide +kernel
theorem d_Mo_set_33 : decode b_Mo_set 33 = .ok (.iload_n 1, 1) := by decide +kernel
theorem d_Mo_set_34 : decode b_Mo_set 34 = .ok (.bipush 16, 2) := by decide +kernel
theorem d_Mo_set_36 : decode b_Mo_set 36 = .ok (.if_icmp .ne 9, 3) := by decide +kernel
theorem d_Mo_set_45 : decode b_Mo_set 45 = .ok (.iload_n 1, 1) := by decide +kernel
theorem d_Mo_set_46 : decode b_Mo_set 46 = .ok (.bipush 17, 2) := by decide +kernel
theorem d_Mo_set_48 : decode b_Mo_set 48 = .ok (.if_icmp .ne 9, 3) := by decide +kernel
theorem d_Mo_set_57 : decode b_Mo_set 57 = .ok (.iload_n 1, 1) := by decide +kernel
theorem d_Mo_set_58 : decode b_Mo_set 58 = .ok (.bipush 18, 2) := by decide +kernel
theorem d_Mo_set_60 : decode b_Mo_set 60 = .ok (.if_icmp .ne 9, 3) := by decide +kernel
theorem d_Mo_set_69 : decode b_Mo_set 69 = .ok (.iload_n 1, 1) := by decide +kernel
theorem d_Mo_set_70 : decode b_Mo_set 70 = .ok (.bipush 19, 2) := by decide +kernel
theorem d_Mo_set_72 : decode b_Mo_set 72 = .ok (.if_icmp .ne 9, 3) := by decide +kernel
theorem d_Mo_set_81 : decode b_Mo_set 81 = .ok (.iload_n 1, 1) := by decide +kernel
theorem d_Mo_set_82 : decode b_Mo_set 82 = .ok (.bipush 20, 2) := by decide +kernel
theorem d_Mo_set_84 : decode b_Mo_set 84 = .ok (.if_icmp .ne 9, 3) := by decide +kernel
theorem d_Mo_set_93 : decode b_Mo_set 93 = .ok (.iload_n 1, 1) := by decide +kernel
theorem d_Mo_set_94 : decode b_Mo_set 94 = .ok (.bipush 21, 2) := by decide +kernel
theorem d_Mo_set_96 : decode b_Mo_set 96 = .ok (.if_icmp .ne 9, 3) := by decide +kernel
theorem d_Mo_set_105 : decode b_Mo_set 105 = .ok (.iconst 1, 1) := by decide +kernel
theorem d_Mo_set_106 : decode b_Mo_set 106 = .ok (.ireturn, 1) := by decide +kernel
theorem d_Mo_set_99 : decode b_Mo_set 99 = .ok (.aload_n 0, 1) := by decide +kernel
theorem d_Mo_set_100 : decode b_Mo_set 100 = .ok (.lload 4, 2) := by decide +kernel
theorem d_Mo_set_102 : decode b_Mo_set 102 = .ok (.putfield 205, 3) := by decide +kernel
theorem d_Mo_set_87 : decode b_Mo_set 87 = .ok (.aload_n 0, 1) := by decide +kernel
theorem d_Mo_set_88 : decode b_Mo_set 88 = .ok (.lload 4, 2) := by decide +kernel
theorem d_Mo_setFlags_0 : decode b_Mo_setFlags 0 = .ok (.aload_n 0, 1) := by decide +kernel
theorem d_Mo_setFlags_1 : decode b_Mo_setFlags 1 = .ok (.getfield 21, 3) := by decide +kernel
theorem d_Mo_setFlags_4 : decode b_Mo_setFlags 4 = .ok (.iconst 0, 1) := by decide +kernel
theorem d_Mo_setFlags_5 : decode b_Mo_setFlags 5 = .ok (.lload_n 1, 1) := by decide +kernel
theorem d_Mo_setFlags_6 : decode b_Mo_setFlags 6 = .ok (.lconst 1, 1) := by decide +kernel
theorem d_Mo_setFlags_7 : decode b_Mo_setFlags 7 = .ok (.land, 1) := by decide +kernel
theorem d_Mo_setFlags_8 : decode b_Mo_setFlags 8 = .ok (.lconst 0, 1) := by decide +kernel
theorem d_Mo_setFlags_9 : decode b_Mo_setFlags 9 = .ok (.lcmp, 1) := by decide +kernel
theorem d_Mo_setFlags_10 : decode b_Mo_setFlags 10 = .ok (.ifCond .eq 7, 3) := by decide +kernel
theorem d_Mo_setFlags_17 : decode b_Mo_setFlags 17 = .ok (.iconst 0, 1) := by decide +kernel
theorem d_Mo_setFlags_18 : decode b_Mo_setFlags 18 = .ok (.bastore, 1) := by decide +kernel
theorem d_Mo_setFlags_19 : decode b_Mo_setFlags 19 = .ok (.aload_n 0, 1) := by decide +kernel
theorem d_Mo_setFlags_20 : decode b_Mo_setFlags 20 = .ok (.getfield 21, 3) := by decide +kernel
theorem d_Mo_setFlags_23 : decode b_Mo_setFlags 23 = .ok (.iconst 1, 1) := by decide +kernel
theorem d_Mo_setFlags_24 : decode b_Mo_setFlags 24 = .ok (.lload_n 1, 1) := by decide +kernel
theorem d_Mo_setFlags_25 : decode b_Mo_setFlags 25 = .ok (.ldc2_w 75, 3) := by decide +kernel
theorem d_Mo_setFlags_28 : decode b_Mo_setFlags 28 = .ok (.land, 1) := by decide +kernel
theorem d_Mo_setFlags_29 : decode b_Mo_setFlags 29 = .ok (.lconst 0, 1) := by decide +kernel
theorem d_Mo_setFlags_30 : decode b_Mo_setFlags 30 = .ok (.lcmp, 1) := by decide +kernel
theorem d_Mo_setFlags_31 : decode b_Mo_setFlags 31 = .ok (.ifCond .eq 7, 3) := by decide +kernel
theorem d_Mo_setFlags_38 : decode b_Mo_setFlags 38 = .ok (.iconst 0, 1) := by decide +kernel
theorem d_Mo_setFlags_39 : decode b_Mo_setFlags 39 = .ok (.bastore, 1) := by decide +kernel
theorem d_Mo_setFlags_40 : decode b_Mo_setFlags 40 = .ok (.aload_n 0, 1) := by decide +kernel
theorem d_Mo_setFlags_41 : decode b_Mo_setFlags 41 = .ok (.getfield 21, 3) := by decide +kernel
theorem d_Mo_setFlags_44 : decode b_Mo_setFlags 44 = .ok (.iconst 2, 1) := by decide +kernel
theorem d_Mo_setFlags_45 : decode b_Mo_setFlags 45 = .ok (.lload_n 1, 1) := by decide +kernel
theorem d_Mo_setFlags_46 : decode b_Mo_setFlags 46 = .ok (.ldc2_w 451, 3) := by decide +kernel
theorem d_Mo_setFlags_49 : decode b_Mo_setFlags 49 = .ok (.land, 1) := by decide +kernel
theorem d_Mo_setFlags_50 : decode b_Mo_setFlags 50 = .ok (.lconst 0, 1) := by decide +kernel
theorem d_Mo_setFlags_51 : decode b_Mo_setFlags 51 = .ok (.lcmp, 1) := by decide +kernel
theorem d_Mo_setFlags_52 : decode b_Mo_setFlags 52 = .ok (.ifCond .eq 7, 3) := by decide +kernel
theorem d_Mo_setFlags_59 : decode b_Mo_setFlags 59 = .ok (.iconst 0, 1) := by decide +kernel
theorem d_Mo_setFlags_60 : decode b_Mo_setFlags 60 = .ok (.bastore, 1) := by decide +kernel
theorem d_Mo_setFlags_61 : decode b_Mo_setFlags 61 = .ok (.aload_n 0, 1) := by decide +kernel
theorem d_Mo_setFlags_62 : decode b_Mo_setFlags 62 = .ok (.getfield 21, 3) := by decide +kernel
theorem d_Mo_setFlags_65 : decode b_Mo_setFlags 65 = .ok (.iconst 3, 1) := by decide +kernel
theorem d_Mo_setFlags_66 : decode b_Mo_setFlags 66 = .ok (.lload_n 1, 1) := by decide +kernel
theorem d_Mo_setFlags_67 : decode b_Mo_setFlags 67 = .ok (.ldc2_w 453, 3) := by decide +kernel
theorem d_Mo_setFlags_70 : decode b_Mo_setFlags 70 = .ok (.land, 1) := by decide +kernel
theorem d_Mo_setFlags_71 : decode b_Mo_setFlags 71 = .ok (.lconst 0, 1) := by decide +kernel
theorem d_Mo_setFlags_72 : decode b_Mo_setFlags 72 = .ok (.lcmp, 1) := by decide +kernel
theorem d_Mo_setFlags_73 : decode b_Mo_setFlags 73 = .ok (.ifCond .eq 7, 3) := by decide +kernel
theorem d_Mo_setFlags_80 : decode b_Mo_setFlags 80 = .ok (.iconst 0, 1) := by decide +kernel
theorem d_Mo_setFlags_81 : decode b_Mo_setFlags 81 = .ok (.bastore, 1) := by decide +kernel
theorem d_Mo_setFlags_82 : decode b_Mo_setFlags 82 = .ok (.aload_n 0, 1) := by decide +kernel
theorem d_Mo_setFlags_83 : decode b_Mo_setFlags 83 = .ok (.getfield 21, 3) := by decide +kernel
theorem d_Mo_setFlags_86 : decode b_Mo_setFlags 86 = .ok (.iconst 4, 1) := by decide +kernel
theorem d_Mo_setFlags_87 : decode b_Mo_setFlags 87 = .ok (.lload_n 1, 1) := by decide +kernel
theorem d_Mo_setFlags_88 : decode b_Mo_setFlags 88 = .ok (.ldc2_w 66, 3) := by decide +kernel
theorem d_Mo_setFlags_91 : decode b_Mo_setFlags 91 = .ok (.land, 1) := by decide +kernel
theorem d_Mo_setFlags_92 : decode b_Mo_setFlags 92 = .ok (.lconst 0, 1) := by decide +kernel
theorem d_Mo_setFlags_93 : decode b_Mo_setFlags 93 = .ok (.lcmp, 1) := by decide +kernel
theorem d_Mo_setFlags_94 : decode b_Mo_setFlags 94 = .ok (.ifCond .eq 7, 3) := by decide +kernel
theorem d_Mo_setFlags_101 : decode b_Mo_setFlags 101 = .ok (.iconst 0, 1) := by decide +kernel
theorem d_Mo_setFlags_102 : decode b_Mo_setFlags 102 = .ok (.bastore, 1) := by decide +kernel
theorem d_Mo_setFlags_103 : decode b_Mo_setFlags 103 = .ok (.aload_n 0, 1) := by decide +kernel
theorem d_Mo_setFlags_104 : decode b_Mo_setFlags 104 = .ok (.getfield 21, 3) := by decide +kernel
theorem d_Mo_setFlags_107 : decode b_Mo_setFlags 107 = .ok (.iconst 5, 1) := by decide +kernel
theorem d_Mo_setFlags_108 : decode b_Mo_setFlags 108 = .ok (.lload_n 1, 1) := by decide +kernel
theorem d_Mo_setFlags_109 : decode b_Mo_setFlags 109 = .ok (.ldc2_w 455, 3) := by decide +kernel
theorem d_Mo_setFlags_112 : decode b_Mo_setFlags 112 = .ok (.land, 1) := by decide +kernel
theorem d_Mo_setFlags_113 : decode b_Mo_setFlags 113 = .ok (.lconst 0, 1) := by decide +kernel
theorem d_Mo_setFlags_114 : decode b_Mo_setFlags 114 = .ok (.lcmp, 1) := by decide +kernel
theorem d_Mo_setFlags_115 : decode b_Mo_setFlags 115 = .ok (.ifCond .eq 7, 3) := by decide +kernel
theorem d_Mo_setFlags_122 : decode b_Mo_setFlags 122 = .ok (.iconst 0, 1) := by decide +kernel
theorem d_Mo_setFlags_123 : decode b_Mo_setFlags 123 = .ok (.bastore, 1) := by decide +kernel
theorem d_Mo_setFlags_124 : decode b_Mo_setFlags 124 = .ok (.aload_n 0, 1) := by decide +kernel
theorem d_Mo_setFlags_125 : decode b_Mo_setFlags 125 = .ok (.getfield 21, 3) := by decide +kernel
theorem d_Mo_setFlags_128 : decode b_Mo_setFlags 128 = .ok (.bipush 6, 2) := by decide +kernel
theorem d_Mo_setFlags_130 : decode b_Mo_setFlags 130 = .ok (.lload_n 1, 1) := by decide +kernel
theorem d_Mo_setFlags_131 : decode b_Mo_setFlags 131 = .ok (.ldc2_w 457, 3) := by decide +kernel
theorem d_Mo_setFlags_134 : decode b_Mo_setFlags 134 = .ok (.land, 1) := by decide +kernel
theorem d_Mo_setFlags_135 : decode b_Mo_setFlags 135 = .ok (.lconst 0, 1) := by decide +kernel
theorem d_Mo_setFlags_136 : decode b_Mo_setFlags 136 = .ok (.lcmp, 1) := by decide +kernel
theorem d_Mo_setFlags_137 : decode b_Mo_setFlags 137 = .ok (.ifCond .eq 7, 3) := by decide +kernel
theorem d_Mo_setFlags_144 : decode b_Mo_setFlags 144 = .ok (.iconst 0, 1) := by decide +kernel
theorem d_Mo_setFlags_145 : decode b_Mo_setFlags 145 = .ok (.bastore, 1) := by decide +kernel
theorem d_Mo_setFlags_146 : decode b_Mo_setFlags 146 = .ok (.return_, 1) := by decide +kernel
theorem d_Mo_setFlags_140 : decode b_Mo_setFlags 140 = .ok (.iconst 1, 1) := by decide +kernel
theorem d_Mo_setFlags_141 : decode b_Mo_setFlags 141 = .ok (.goto 4, 3) := by decide +kernel
theorem d_Mo_setFlags_118 : decode b_Mo_setFlags 118 = .ok (.iconst 1, 1) := by decide +kernel
theorem d_Mo_setFlags_119 : decode b_Mo_setFlags 119 = .ok (.goto 4, 3) := by decide +kernel
theorem d_Mo_setFlags_97 : decode b_Mo_setFlags 97 = .ok (.iconst 1, 1) := by decide +kernel
theorem d_Mo_setFlags_98 : decode b_Mo_setFlags 98 = .ok (.goto 4, 3) := by decide +kernel
theorem d_Mo_setFlags_76 : decode b_Mo_setFlags 76 = .ok (.iconst 1, 1) := by decide +kernel
theorem d_Mo_setFlags_77 : decode b_Mo_setFlags 77 = .ok (.goto 4, 3) := by decide +kernel
theorem d_Mo_setFlags_55 : decode b_Mo_setFlags 55 = .ok (.iconst 1, 1) := by decide +kernel
theorem d_Mo_setFlags_56 : decode b_Mo_setFlags 56 = .ok (.goto 4, 3) := by decide +kernel
theorem d_Mo_setFlags_34 : decode b_Mo_setFlags 34 = .ok (.iconst 1, 1) := by decide +kernel
theorem d_Mo_setFlags_35 : decode b_Mo_setFlags 35 = .ok (.goto 4, 3) := by decide +kernel
theorem d_Mo_setFlags_13 : decode b_Mo_setFlags 13 = .ok (.iconst 1, 1) := by decide +kernel
theorem d_Mo_setFlags_14 : decode b_Mo_setFlags 14 = .ok (.goto 4, 3) := by decide +kernel
theorem d_Mo_set_90 : decode b_Mo_set 90 = .ok (.invokevirtual 316, 3) := by decide +kernel
theorem d_Mo_set_75 : decode b_Mo_set 75 = .ok (.aload_n 0, 1) := by decide +kernel
theorem d_Mo_set_76 : decode b_Mo_set 76 = .ok (.lload 4, 2) := by decide +kernel
theorem d_Mo_set_78 : decode b_Mo_set 78 = .ok (.putfield 448, 3) := by decide +kernel
theorem d_Mo_set_63 : decode b_Mo_set 63 = .ok (.aload_n 0, 1) := by decide +kernel
theorem d_Mo_set_64 : decode b_Mo_set 64 = .ok (.lload 4, 2) := by decide +kernel
theorem d_Mo_set_66 : decode b_Mo_set 66 = .ok (.putfield 445, 3) := by decide +kernel
theorem d_Mo_set_51 : decode b_Mo_set 51 = .ok (.aload_n 0, 1) := by decide +kernel
theorem d_Mo_set_52 : decode b_Mo_set 52 = .ok (.lload 4, 2) := by decide +kernel
theorem d_Mo_set_54 : decode b_Mo_set 54 = .ok (.putfield 52, 3) := by decide +kernel
theorem d_Mo_set_39 : decode b_Mo_set 39 = .ok (.aload_n 0, 1) := by decide +kernel
theorem d_Mo_set_40 : decode b_Mo_set 40 = .ok (.lload 4, 2) := by decide +kernel
theorem d_Mo_set_42 : decode b_Mo_set 42 = .ok (.putfield 111, 3) := by decide +kernel
theorem d_Mo_set_25 : decode b_Mo_set 25 = .ok (.aload_n 0, 1) := by decide +kernel
theorem d_Mo_set_26 : decode b_Mo_set 26 = .ok (.getfield 14, 3) := by decide +kernel
theorem d_Mo_set_29 : decode b_Mo_set 29 = .ok (.iload_n 1, 1) := by decide +kernel
theorem d_Mo_set_30 : decode b_Mo_set 30 = .ok (.lload 4, 2) := by decide +kernel
theorem d_Mo_set_32 : decode b_Mo_set 32 = .ok (.lastore, 1) := by decide +kernel
theorem d_Mo_get_0 : decode b_Mo_get 0 = .ok (.iload_n 1, 1) := by decide +kernel
theorem d_Mo_get_1 : decode b_Mo_get 1 = .ok (.ifCond .lt 9, 3) := by decide +kernel
theorem d_Mo_get_10 : decode b_Mo_get 10 = .ok (.lconst 0, 1) := by decide +kernel
theorem d_Mo_get_11 : decode b_Mo_get 11 = .ok (.lreturn, 1) := by decide +kernel
theorem d_Mo_get_4 : decode b_Mo_get 4 = .ok (.iload_n 1, 1) := by decide +kernel
theorem d_Mo_get_5 : decode b_Mo_get 5 = .ok (.bipush 24, 2) := by decide +kernel
theorem d_Mo_get_7 : decode b_Mo_get 7 = .ok (.if_icmp .le 5, 3) := by decide +kernel
theorem d_Mo_get_12 : decode b_Mo_get 12 = .ok (.iload_n 1, 1) := by decide +kernel
theorem d_Mo_get_13 : decode b_Mo_get 13 = .ok (.bipush 16, 2) := by decide +kernel
theorem d_Mo_get_15 : decode b_Mo_get 15 = .ok (.if_icmp .ge 10, 3) := by decide +kernel
theorem d_Mo_get_25 : decode b_Mo_get 25 = .ok (.iload_n 1, 1) := by decide +kernel
theorem d_Mo_get_26 : decode b_Mo_get 26 = .ok (.tableswitch 87 16 23 #[46, 51, 56, 61, 66, 71, 76, 81], 46) := by decide +kernel
theorem d_Mo_get_72 : decode b_Mo_get 72 = .ok (.aload_n 0, 1) := by decide +kernel
theorem d_Mo_get_73 : decode b_Mo_get 73 = .ok (.getfield 111, 3) := by decide +kernel
theorem d_Mo_get_76 : decode b_Mo_get 76 = .ok (.lreturn, 1) := by decide +kernel
theorem d_Mo_get_77 : decode b_Mo_get 77 = .ok (.aload_n 0, 1) := by decide +kernel
theorem d_Mo_get_78 : decode b_Mo_get 78 = .ok (.getfield 52, 3) := by decide +kernel
theorem d_Mo_get_81 : decode b_Mo_get 81 = .ok (.lreturn, 1) := by decide +kernel
theorem d_Mo_get_82 : decode b_Mo_get 82 = .ok (.aload_n 0, 1) := by decide +kernel
theorem d_Mo_get_83 : decode b_Mo_get 83 = .ok (.getfield 445, 3) := by decide +kernel
theorem d_Mo_get_86 : decode b_Mo_get 86 = .ok (.lreturn, 1) := by decide +kernel
theorem d_Mo_get_87 : decode b_Mo_get 87 = .ok (.aload_n 0, 1) := by decide +kernel
theorem d_Mo_get_88 : decode b_Mo_get 88 = .ok (.getfield 448, 3) := by decide +kernel
theorem d_Mo_get_91 : decode b_Mo_get 91 = .ok (.lreturn, 1) := by decide +kernel
theorem d_Mo_get_92 : decode b_Mo_get 92 = .ok (.aload_n 0, 1) := by decide +kernel
theorem d_Mo_flags_0 : decode b_Mo_flags 0 = .ok (.aload_n 0, 1) := by decide +kernel
theorem d_Mo_flags_1 : decode b_Mo_flags 1 = .ok (.getfield 21, 3) := by decide +kernel
theorem d_Mo_flags_4 : decode b_Mo_flags 4 = .ok (.iconst 0, 1) := by decide +kernel
theorem d_Mo_flags_5 : decode b_Mo_flags 5 = .ok (.baload, 1) := by decide +kernel
theorem d_Mo_flags_6 : decode b_Mo_flags 6 = .ok (.ifCond .eq 7, 3) := by decide +kernel
theorem d_Mo_flags_13 : decode b_Mo_flags 13 = .ok (.lconst 0, 1) := by decide +kernel
theorem d_Mo_flags_14 : decode b_Mo_flags 14 = .ok (.aload_n 0, 1) := by decide +kernel
theorem d_Mo_flags_15 : decode b_Mo_flags 15 = .ok (.getfield 21, 3) := by decide +kernel
theorem d_Mo_flags_18 : decode b_Mo_flags 18 = .ok (.iconst 1, 1) := by decide +kernel
theorem d_Mo_flags_19 : decode b_Mo_flags 19 = .ok (.baload, 1) := by decide +kernel
theorem d_Mo_flags_20 : decode b_Mo_flags 20 = .ok (.ifCond .eq 9, 3) := by decide +kernel
theorem d_Mo_flags_29 : decode b_Mo_flags 29 = .ok (.lconst 0, 1) := by decide +kernel
theorem d_Mo_flags_30 : decode b_Mo_flags 30 = .ok (.ladd, 1) := by decide +kernel
theorem d_Mo_flags_31 : decode b_Mo_flags 31 = .ok (.aload_n 0, 1) := by decide +kernel
theorem d_Mo_flags_32 : decode b_Mo_flags 32 = .ok (.getfield 21, 3) := by decide +kernel
theorem d_Mo_flags_35 : decode b_Mo_flags 35 = .ok (.iconst 2, 1) := by decide +kernel
theorem d_Mo_flags_36 : decode b_Mo_flags 36 = .ok (.baload, 1) := by decide +kernel
theorem d_Mo_flags_37 : decode b_Mo_flags 37 = .ok (.ifCond .eq 9, 3) := by decide +kernel
theorem d_Mo_flags_46 : decode b_Mo_flags 46 = .ok (.lconst 0, 1) := by decide +kernel
theorem d_Mo_flags_47 : decode b_Mo_flags 47 = .ok (.ladd, 1) := by decide +kernel
theorem d_Mo_flags_48 : decode b_Mo_flags 48 = .ok (.aload_n 0, 1) := by decide +kernel
theorem d_Mo_flags_49 : decode b_Mo_flags 49 = .ok (.getfield 21, 3) := by decide +kernel
theorem d_Mo_flags_52 : decode b_Mo_flags 52 = .ok (.iconst 3, 1) := by decide +kernel
theorem d_Mo_flags_53 : decode b_Mo_flags 53 = .ok (.baload, 1) := by decide +kernel
theorem d_Mo_flags_54 : decode b_Mo_flags 54 = .ok (.ifCond .eq 9, 3) := by decide +kernel
theorem d_Mo_flags_63 : decode b_Mo_flags 63 = .ok (.lconst 0, 1) := by decide +kernel
theorem d_Mo_flags_64 : decode b_Mo_flags 64 = .ok (.ladd, 1) := by decide +kernel
theorem d_Mo_flags_65 : decode b_Mo_flags 65 = .ok (.aload_n 0, 1) := by decide +kernel
theorem d_Mo_flags_66 : decode b_Mo_flags 66 = .ok (.getfield 21, 3) := by decide +kernel
theorem d_Mo_flags_69 : decode b_Mo_flags 69 = .ok (.iconst 4, 1) := by decide +kernel
theorem d_Mo_flags_70 : decode b_Mo_flags 70 = .ok (.baload, 1) := by decide +kernel
theorem d_Mo_flags_71 : decode b_Mo_flags 71 = .ok (.ifCond .eq 9, 3) := by decide +kernel
theorem d_Mo_flags_80 : decode b_Mo_flags 80 = .ok (.lconst 0, 1) := by decide +kernel
theorem d_Mo_flags_81 : decode b_Mo_flags 81 = .ok (.ladd, 1) := by decide +kernel
theorem d_Mo_flags_82 : decode b_Mo_flags 82 = .ok (.aload_n 0, 1) := by decide +kernel
theorem d_Mo_flags_83 : decode b_Mo_flags 83 = .ok (.getfield 21, 3) := by decide +kernel
theorem d_Mo_flags_86 : decode b_Mo_flags 86 = .ok (.iconst 5, 1) := by decide +kernel
theorem d_Mo_flags_87 : decode b_Mo_flags 87 = .ok (.baload, 1) := by decide +kernel
theorem d_Mo_flags_88 : decode b_Mo_flags 88 = .ok (.ifCond .eq 9, 3) := by decide +kernel
theorem d_Mo_flags_97 : decode b_Mo_flags 97 = .ok (.lconst 0, 1) := by decide +kernel
theorem d_Mo_flags_98 : decode b_Mo_flags 98 = .ok (.ladd, 1) := by decide +kernel
theorem d_Mo_flags_99 : decode b_Mo_flags 99 = .ok (.aload_n 0, 1) := by decide +kernel
theorem d_Mo_flags_100 : decode b_Mo_flags 100 = .ok (.getfield 21, 3) := by decide +kernel
theorem d_Mo_flags_103 : decode b_Mo_flags 103 = .ok (.bipush 6, 2) := by decide +kernel
theorem d_Mo_flags_105 : decode b_Mo_flags 105 = .ok (.baload, 1) := by decide +kernel
theorem d_Mo_flags_106 : decode b_Mo_flags 106 = .ok (.ifCond .eq 9, 3) := by decide +kernel
theorem d_Mo_flags_115 : decode b_Mo_flags 115 = .ok (.lconst 0, 1) := by decide +kernel
theorem d_Mo_flags_116 : decode b_Mo_flags 116 = .ok (.ladd, 1) := by decide +kernel
theorem d_Mo_flags_117 : decode b_Mo_flags 117 = .ok (.lreturn, 1) := by decide +kernel
theorem d_Mo_flags_109 : decode b_Mo_flags 109 = .ok (.ldc2_w 457, 3) := by decide +kernel
theorem d_Mo_flags_112 : decode b_Mo_flags 112 = .ok (.goto 4, 3) := by decide +kernel
theorem d_Mo_flags_91 : decode b_Mo_flags 91 = .ok (.ldc2_w 455, 3) := by decide +kernel
theorem d_Mo_flags_94 : decode b_Mo_flags 94 = .ok (.goto 4, 3) := by decide +kernel
theorem d_Mo_flags_74 : decode b_Mo_flags 74 = .ok (.ldc2_w 66, 3) := by decide +kernel
theorem d_Mo_flags_77 : decode b_Mo_flags 77 = .ok (.goto 4, 3) := by decide +kernel
theorem d_Mo_flags_57 : decode b_Mo_flags 57 = .ok (.ldc2_w 453, 3) := by decide +kernel
theorem d_Mo_flags_60 : decode b_Mo_flags 60 = .ok (.goto 4, 3) := by decide +kernel
theorem d_Mo_flags_40 : decode b_Mo_flags 40 = .ok (.ldc2_w 451, 3) := by decide +kernel
theorem d_Mo_flags_43 : decode b_Mo_flags 43 = .ok (.goto 4, 3) := by decide +kernel
theorem d_Mo_flags_23 : decode b_Mo_flags 23 = .ok (.ldc2_w 75, 3) := by decide +kernel
theorem d_Mo_flags_26 : decode b_Mo_flags 26 = .ok (.goto 4, 3) := by decide +kernel
theorem d_Mo_flags_9 : decode b_Mo_flags 9 = .ok (.lconst 1, 1) := by decide +kernel
theorem d_Mo_flags_10 : decode b_Mo_flags 10 = .ok (.goto 4, 3) := by decide +kernel
theorem d_Mo_get_93 : decode b_Mo_get 93 = .ok (.invokevirtual 304, 3) := by decide +kernel
theorem d_Mo_get_96 : decode b_Mo_get 96 = .ok (.lreturn, 1) := by decide +kernel
theorem d_Mo_get_97 : decode b_Mo_get 97 = .ok (.aload_n 0, 1) := by decide +kernel
theorem d_Mo_get_98 : decode b_Mo_get 98 = .ok (.getfield 205, 3) := by decide +kernel
theorem d_Mo_get_101 : decode b_Mo_get 101 = .ok (.lreturn, 1) := by decide +kernel
theorem d_Mo_get_102 : decode b_Mo_get 102 = .ok (.aload_n 0, 1) := by decide +kernel
theorem d_Mo_get_103 : decode b_Mo_get 103 = .ok (.getfield 89, 3) := by decide +kernel
theorem d_Mo_get_106 : decode b_Mo_get 106 = .ok (.lreturn, 1) := by decide +kernel
theorem d_Mo_get_107 : decode b_Mo_get 107 = .ok (.aload_n 0, 1) := by decide +kernel
theorem d_Mo_get_108 : decode b_Mo_get 108 = .ok (.getfield 92, 3) := by decide +kernel
theorem d_Mo_get_111 : decode b_Mo_get 111 = .ok (.i2l, 1) := by decide +kernel
theorem d_Mo_get_112 : decode b_Mo_get 112 = .ok (.lreturn, 1) := by decide +kernel
theorem d_Mo_get_113 : decode b_Mo_get 113 = .ok (.aload_n 0, 1) := by decide +kernel
theorem d_Mo_get_114 : decode b_Mo_get 114 = .ok (.getfield 48, 3) := by decide +kernel
theorem d_Mo_get_117 : decode b_Mo_get 117 = .ok (.ifCond .eq 9, 3) := by decide +kernel
theorem d_Mo_get_126 : decode b_Mo_get 126 = .ok (.lconst 0, 1) := by decide +kernel
theorem d_Mo_get_127 : decode b_Mo_get 127 = .ok (.lreturn, 1) := by decide +kernel
theorem d_Mo_get_120 : decode b_Mo_get 120 = .ok (.ldc2_w 464, 3) := by decide +kernel
theorem d_Mo_get_123 : decode b_Mo_get 123 = .ok (.goto 4, 3) := by decide +kernel
theorem d_Mo_get_18 : decode b_Mo_get 18 = .ok (.aload_n 0, 1) := by decide +kernel
theorem d_Mo_get_19 : decode b_Mo_get 19 = .ok (.getfield 14, 3) := by decide +kernel
theorem d_Mo_get_22 : decode b_Mo_get 22 = .ok (.iload_n 1, 1) := by decide +kernel
theorem d_Mo_get_23 : decode b_Mo_get 23 = .ok (.laload, 1) := by decide +kernel
theorem d_Mo_get_24 : decode b_Mo_get 24 = .ok (.lreturn, 1) := by decide +kernel
theorem d_Mo_level_0 : decode b_Mo_level 0 = .ok (.aload_n 0, 1) := by decide +kernel
theorem d_Mo_level_1 : decode b_Mo_level 1 = .ok (.iload_n 1, 1) := by decide +kernel
theorem d_Mo_level_2 : decode b_Mo_level 2 = .ok (.putfield 48, 3) := by decide +kernel
theorem d_Mo_level_5 : decode b_Mo_level 5 = .ok (.return_, 1) := by decide +kernel
theorem d_Mo_step_0 : decode b_Mo_step 0 = .ok (.aload_n 0, 1) := by decide +kernel
theorem d_Mo_step_1 : decode b_Mo_step 1 = .ok (.iconst (-1), 1) := by decide +kernel
theorem d_Mo_step_2 : decode b_Mo_step 2 = .ok (.putfield 28, 3) := by decide +kernel
theorem d_Mo_step_5 : decode b_Mo_step 5 = .ok (.aload_n 0, 1) := by decide +kernel
theorem d_Mo_step_6 : decode b_Mo_step 6 = .ok (.iconst 0, 1) := by decide +kernel
theorem d_Mo_step_7 : decode b_Mo_step 7 = .ok (.putfield 103, 3) := by decide +kernel
theorem d_Mo_step_10 : decode b_Mo_step 10 = .ok (.aload_n 0, 1) := by decide +kernel
theorem d_Mo_step_11 : decode b_Mo_step 11 = .ok (.aload_n 0, 1) := by decide +kernel
theorem d_Mo_step_12 : decode b_Mo_step 12 = .ok (.getfield 48, 3) := by decide +kernel
theorem d_Mo_step_15 : decode b_Mo_step 15 = .ok (.putfield 229, 3) := by decide +kernel
theorem d_Mo_step_18 : decode b_Mo_step 18 = .ok (.iconst 0, 1) := by decide +kernel
theorem d_Mo_step_19 : decode b_Mo_step 19 = .ok (.istore_n 1, 1) := by decide +kernel
theorem d_Mo_step_20 : decode b_Mo_step 20 = .ok (.iload_n 1, 1) := by decide +kernel
theorem d_Mo_step_21 : decode b_Mo_step 21 = .ok (.bipush 16, 2) := by decide +kernel
theorem d_Mo_step_23 : decode b_Mo_step 23 = .ok (.if_icmp .ge 21, 3) := by decide +kernel
theorem d_Mo_step_44 : decode b_Mo_step 44 = .ok (.iconst 0, 1) := by decide +kernel
theorem d_Mo_step_45 : decode b_Mo_step 45 = .ok (.istore_n 1, 1) := by decide +kernel
theorem d_Mo_step_46 : decode b_Mo_step 46 = .ok (.iload_n 1, 1) := by decide +kernel
theorem d_Mo_step_47 : decode b_Mo_step 47 = .ok (.bipush 7, 2) := by decide +kernel
theorem d_Mo_step_49 : decode b_Mo_step 49 = .ok (.if_icmp .ge 21, 3) := by decide +kernel
theorem d_Mo_step_70 : decode b_Mo_step 70 = .ok (.aload_n 0, 1) := by decide +kernel
theorem d_Mo_open_0 : decode b_Mo_open 0 = .ok (.aload_n 0, 1) := by decide +kernel
theorem d_Mo_open_1 : decode b_Mo_open 1 = .ok (.iconst 0, 1) := by decide +kernel
theorem d_Mo_open_2 : decode b_Mo_open 2 = .ok (.putfield 108, 3) := by decide +kernel
theorem d_Mo_open_5 : decode b_Mo_open 5 = .ok (.aload_n 0, 1) := by decide +kernel
theorem d_Mo_open_6 : decode b_Mo_open 6 = .ok (.iconst 0, 1) := by decide +kernel
theorem d_Mo_open_7 : decode b_Mo_open 7 = .ok (.putfield 121, 3) := by decide +kernel
theorem d_Mo_open_10 : decode b_Mo_open 10 = .ok (.aload_n 0, 1) := by decide +kernel
theorem d_Mo_open_11 : decode b_Mo_open 11 = .ok (.iconst 0, 1) := by decide +kernel
theorem d_Mo_open_12 : decode b_Mo_open 12 = .ok (.putfield 124, 3) := by decide +kernel
theorem d_Mo_open_15 : decode b_Mo_open 15 = .ok (.aload_n 0, 1) := by decide +kernel
theorem d_Mo_open_16 : decode b_Mo_open 16 = .ok (.iconst 0, 1) := by decide +kernel
theorem d_Mo_open_17 : decode b_Mo_open 17 = .ok (.putfield 127, 3) := by decide +kernel
theorem d_Mo_open_20 : decode b_Mo_open 20 = .ok (.aload_n 0, 1) := by decide +kernel
theorem d_Mo_fetch_0 : decode b_Mo_fetch 0 = .ok (.aload_n 0, 1) := by decide +kernel
theorem d_Mo_fetch_1 : decode b_Mo_fetch 1 = .ok (.getfield 28, 3) := by decide +kernel
theorem d_Mo_fetch_4 : decode b_Mo_fetch 4 = .ok (.iconst (-1), 1) := by decide +kernel
theorem d_Mo_fetch_5 : decode b_Mo_fetch 5 = .ok (.if_icmp .ne 18, 3) := by decide +kernel
theorem d_Mo_fetch_23 : decode b_Mo_fetch 23 = .ok (.aload_n 0, 1) := by decide +kernel
theorem d_Mo_fetch_24 : decode b_Mo_fetch 24 = .ok (.aload_n 0, 1) := by decide +kernel
theorem d_Mo_fetch_25 : decode b_Mo_fetch 25 = .ok (.getfield 111, 3) := by decide +kernel
theorem d_Mo_fetch_28 : decode b_Mo_fetch 28 = .ok (.aload_n 0, 1) := by decide +kernel
theorem d_Mo_fetch_29 : decode b_Mo_fetch 29 = .ok (.getfield 108, 3) := by decide +kernel
theorem d_Mo_fetch_32 : decode b_Mo_fetch 32 = .ok (.i2l, 1) := by decide +kernel
theorem d_Mo_fetch_33 : decode b_Mo_fetch 33 = .ok (.ladd, 1) := by decide +kernel
theorem d_Mo_fetch_34 : decode b_Mo_fetch 34 = .ok (.iconst 1, 1) := by decide +kernel
theorem d_Mo_fetch_35 : decode b_Mo_fetch 35 = .ok (.iconst 2, 1) := by decide +kernel
theorem d_Mo_fetch_36 : decode b_Mo_fetch 36 = .ok (.iconst 0, 1) := by decide +kernel
theorem d_Mo_lookUp_0 : decode b_Mo_lookUp 0 = .ok (.iconst 0, 1) := by decide +kernel
theorem d_Mo_lookUp_1 : decode b_Mo_lookUp 1 = .ok (.istore 6, 2) := by decide +kernel
theorem d_Mo_lookUp_3 : decode b_Mo_lookUp 3 = .ok (.iload 6, 2) := by decide +kernel
theorem d_Mo_lookUp_5 : decode b_Mo_lookUp 5 = .ok (.iload_n 3, 1) := by decide +kernel
theorem d_Mo_lookUp_6 : decode b_Mo_lookUp 6 = .ok (.if_icmp .ge 101, 3) := by decide +kernel
theorem d_Mo_lookUp_107 : decode b_Mo_lookUp 107 = .ok (.return_, 1) := by decide +kernel
theorem d_Mo_lookUp_9 : decode b_Mo_lookUp 9 = .ok (.aload_n 0, 1) := by decide +kernel
theorem d_Mo_lookUp_10 : decode b_Mo_lookUp 10 = .ok (.getfield 28, 3) := by decide +kernel
theorem d_Mo_lookUp_13 : decode b_Mo_lookUp 13 = .ok (.iconst (-1), 1) := by decide +kernel
theorem d_Mo_lookUp_14 : decode b_Mo_lookUp 14 = .ok (.if_icmp .ne 93, 3) := by decide +kernel
theorem d_Mo_lookUp_17 : decode b_Mo_lookUp 17 = .ok (.lload_n 1, 1) := by decide +kernel
theorem d_Mo_lookUp_18 : decode b_Mo_lookUp 18 = .ok (.iload 6, 2) := by decide +kernel
theorem d_Mo_lookUp_20 : decode b_Mo_lookUp 20 = .ok (.i2l, 1) := by decide +kernel
theorem d_Mo_lookUp_21 : decode b_Mo_lookUp 21 = .ok (.ladd, 1) := by decide +kernel
theorem d_Mo_isWrong_0 : decode b_Mo_isWrong 0 = .ok (.lload_n 0, 1) := by decide +kernel
theorem d_Mo_isWrong_1 : decode b_Mo_isWrong 1 = .ok (.bipush 47, 2) := by decide +kernel
theorem d_Mo_isWrong_3 : decode b_Mo_isWrong 3 = .ok (.lushr, 1) := by decide +kernel
theorem d_Mo_isWrong_4 : decode b_Mo_isWrong 4 = .ok (.lconst 1, 1) := by decide +kernel
theorem d_Mo_isWrong_5 : decode b_Mo_isWrong 5 = .ok (.land, 1) := by decide +kernel
theorem d_Mo_isWrong_6 : decode b_Mo_isWrong 6 = .ok (.lconst 1, 1) := by decide +kernel
theorem d_Mo_isWrong_7 : decode b_Mo_isWrong 7 = .ok (.lcmp, 1) := by decide +kernel
theorem d_Mo_isWrong_8 : decode b_Mo_isWrong 8 = .ok (.ifCond .ne 7, 3) := by decide +kernel
theorem d_Mo_isWrong_15 : decode b_Mo_isWrong 15 = .ok (.iconst 0, 1) := by decide +kernel
theorem d_Mo_isWrong_16 : decode b_Mo_isWrong 16 = .ok (.istore_n 2, 1) := by decide +kernel
theorem d_Mo_isWrong_17 : decode b_Mo_isWrong 17 = .ok (.iconst 0, 1) := by decide +kernel
theorem d_Mo_isWrong_18 : decode b_Mo_isWrong 18 = .ok (.istore_n 3, 1) := by decide +kernel
theorem d_Mo_isWrong_19 : decode b_Mo_isWrong 19 = .ok (.bipush 48, 2) := by decide +kernel
theorem d_Mo_isWrong_21 : decode b_Mo_isWrong 21 = .ok (.istore 4, 2) := by decide +kernel
theorem d_Mo_isWrong_23 : decode b_Mo_isWrong 23 = .ok (.iload 4, 2) := by decide +kernel
theorem d_Mo_isWrong_25 : decode b_Mo_isWrong 25 = .ok (.bipush 64, 2) := by decide +kernel
theorem d_Mo_isWrong_27 : decode b_Mo_isWrong 27 = .ok (.if_icmp .ge 39, 3) := by decide +kernel
theorem d_Mo_isWrong_66 : decode b_Mo_isWrong 66 = .ok (.iload_n 3, 1) := by decide +kernel
theorem d_Mo_isWrong_67 : decode b_Mo_isWrong 67 = .ok (.ireturn, 1) := by decide +kernel
theorem d_Mo_isWrong_30 : decode b_Mo_isWrong 30 = .ok (.iload_n 3, 1) := by decide +kernel
theorem d_Mo_isWrong_31 : decode b_Mo_isWrong 31 = .ok (.ifCond .ne 23, 3) := by decide +kernel
theorem d_Mo_isWrong_54 : decode b_Mo_isWrong 54 = .ok (.iconst 1, 1) := by decide +kernel
theorem d_Mo_isWrong_55 : decode b_Mo_isWrong 55 = .ok (.goto 4, 3) := by decide +kernel
theorem d_Mo_isWrong_59 : decode b_Mo_isWrong 59 = .ok (.istore_n 3, 1) := by decide +kernel
theorem d_Mo_isWrong_60 : decode b_Mo_isWrong 60 = .ok (.iinc 4 1, 3) := by decide +kernel
theorem d_Mo_isWrong_63 : decode b_Mo_isWrong 63 = .ok (.goto (-40), 3) := by decide +kernel
theorem d_Mo_isWrong_34 : decode b_Mo_isWrong 34 = .ok (.lload_n 0, 1) := by decide +kernel
theorem d_Mo_isWrong_35 : decode b_Mo_isWrong 35 = .ok (.iload 4, 2) := by decide +kernel
theorem d_Mo_isWrong_37 : decode b_Mo_isWrong 37 = .ok (.lushr, 1) := by decide +kernel
theorem d_Mo_isWrong_38 : decode b_Mo_isWrong 38 = .ok (.lconst 1, 1) := by decide +kernel
theorem d_Mo_isWrong_39 : decode b_Mo_isWrong 39 = .ok (.land, 1) := by decide +kernel
theorem d_Mo_isWrong_40 : decode b_Mo_isWrong 40 = .ok (.lconst 1, 1) := by decide +kernel
theorem d_Mo_isWrong_41 : decode b_Mo_isWrong 41 = .ok (.lcmp, 1) := by decide +kernel
theorem d_Mo_isWrong_42 : decode b_Mo_isWrong 42 = .ok (.ifCond .ne 7, 3) := by decide +kernel
theorem d_Mo_isWrong_49 : decode b_Mo_isWrong 49 = .ok (.iconst 0, 1) := by decide +kernel
theorem d_Mo_isWrong_50 : decode b_Mo_isWrong 50 = .ok (.iload_n 2, 1) := by decide +kernel
theorem d_Mo_isWrong_51 : decode b_Mo_isWrong 51 = .ok (.if_icmp .eq 7, 3) := by decide +kernel
theorem d_Mo_isWrong_58 : decode b_Mo_isWrong 58 = .ok (.iconst 0, 1) := by decide +kernel
theorem d_Mo_isWrong_45 : decode b_Mo_isWrong 45 = .ok (.iconst 1, 1) := by decide +kernel
theorem d_Mo_isWrong_46 : decode b_Mo_isWrong 46 = .ok (.goto 4, 3) := by decide +kernel
theorem d_Mo_isWrong_11 : decode b_Mo_isWrong 11 = .ok (.iconst 1, 1) := by decide +kernel
theorem d_Mo_isWrong_12 : decode b_Mo_isWrong 12 = .ok (.goto 4, 3) := by decide +kernel
theorem d_Mo_lookUp_22 : decode b_Mo_lookUp 22 = .ok (.invokestatic 77, 3) := by decide +kernel
theorem d_Mo_lookUp_25 : decode b_Mo_lookUp 25 = .ok (.ifCond .eq 20, 3) := by decide +kernel
theorem d_Mo_lookUp_45 : decode b_Mo_lookUp 45 = .ok (.aload_n 0, 1) := by decide +kernel
theorem d_Mo_lookUp_46 : decode b_Mo_lookUp 46 = .ok (.getfield 39, 3) := by decide +kernel
theorem d_Mo_lookUp_49 : decode b_Mo_lookUp 49 = .ok (.iload 6, 2) := by decide +kernel
theorem d_Mo_lookUp_51 : decode b_Mo_lookUp 51 = .ok (.aload_n 0, 1) := by decide +kernel
theorem d_Mo_lookUp_52 : decode b_Mo_lookUp 52 = .ok (.lload_n 1, 1) := by decide +kernel
theorem d_Mo_lookUp_53 : decode b_Mo_lookUp 53 = .ok (.iload 6, 2) := by decide +kernel
theorem d_Mo_lookUp_55 : decode b_Mo_lookUp 55 = .ok (.i2l, 1) := by decide +kernel
theorem d_Mo_lookUp_56 : decode b_Mo_lookUp 56 = .ok (.ladd, 1) := by decide +kernel
theorem d_Mo_lookUp_57 : decode b_Mo_lookUp 57 = .ok (.iload 4, 2) := by decide +kernel
theorem d_Mo_find_0 : decode b_Mo_find 0 = .ok (.iload_n 3, 1) := by decide +kernel
theorem d_Mo_find_1 : decode b_Mo_find 1 = .ok (.iconst 1, 1) := by decide +kernel
theorem d_Mo_find_2 : decode b_Mo_find 2 = .ok (.if_icmp .ne 7, 3) := by decide +kernel
theorem d_Mo_find_9 : decode b_Mo_find 9 = .ok (.iconst 0, 1) := by decide +kernel
theorem d_Mo_find_10 : decode b_Mo_find 10 = .ok (.aload_n 0, 1) := by decide +kernel
theorem d_Mo_find_11 : decode b_Mo_find 11 = .ok (.getfield 48, 3) := by decide +kernel
theorem d_Mo_find_14 : decode b_Mo_find 14 = .ok (.ifCond .eq 7, 3) := by decide +kernel
theorem d_Mo_find_21 : decode b_Mo_find 21 = .ok (.iconst 0, 1) := by decide +kernel
theorem d_Mo_find_22 : decode b_Mo_find 22 = .ok (.iadd, 1) := by decide +kernel
theorem d_Mo_find_23 : decode b_Mo_find 23 = .ok (.iload_n 3, 1) := by decide +kernel
theorem d_Mo_find_24 : decode b_Mo_find 24 = .ok (.iconst 2, 1) := by decide +kernel
theorem d_Mo_find_25 : decode b_Mo_find 25 = .ok (.if_icmp .ne 8, 3) := by decide +kernel
theorem d_Mo_find_33 : decode b_Mo_find 33 = .ok (.iconst 0, 1) := by decide +kernel
theorem d_Mo_find_34 : decode b_Mo_find 34 = .ok (.iadd, 1) := by decide +kernel
theorem d_Mo_find_35 : decode b_Mo_find 35 = .ok (.istore 4, 2) := by decide +kernel
theorem d_Mo_find_37 : decode b_Mo_find 37 = .ok (.aload_n 0, 1) := by decide +kernel
theorem d_Mo_find_38 : decode b_Mo_find 38 = .ok (.getfield 52, 3) := by decide +kernel
theorem d_Mo_find_41 : decode b_Mo_find 41 = .ok (.bipush 12, 2) := by decide +kernel
theorem d_Mo_find_43 : decode b_Mo_find 43 = .ok (.bipush 51, 2) := by decide +kernel
theorem d_Mo_bits_0 : decode b_Mo_bits 0 = .ok (.lload_n 0, 1) := by decide +kernel
theorem d_Mo_bits_1 : decode b_Mo_bits 1 = .ok (.iload_n 2, 1) := by decide +kernel
theorem d_Mo_bits_2 : decode b_Mo_bits 2 = .ok (.lushr, 1) := by decide +kernel
theorem d_Mo_bits_3 : decode b_Mo_bits 3 = .ok (.lconst 1, 1) := by decide +kernel
theorem d_Mo_bits_4 : decode b_Mo_bits 4 = .ok (.iload_n 3, 1) := by decide +kernel
theorem d_Mo_bits_5 : decode b_Mo_bits 5 = .ok (.iload_n 2, 1) := by decide +kernel
theorem d_Mo_bits_6 : decode b_Mo_bits 6 = .ok (.isub, 1) := by decide +kernel
theorem d_Mo_bits_7 : decode b_Mo_bits 7 = .ok (.iconst 1, 1) := by decide +kernel
theorem d_Mo_bits_8 : decode b_Mo_bits 8 = .ok (.iadd, 1) := by decide +kernel
theorem d_Mo_bits_9 : decode b_Mo_bits 9 = .ok (.lshl, 1) := by decide +kernel
theorem d_Mo_bits_10 : decode b_Mo_bits 10 = .ok (.lconst 1, 1) := by decide +kernel
theorem d_Mo_bits_11 : decode b_Mo_bits 11 = .ok (.lsub, 1) := by decide +kernel
theorem d_Mo_bits_12 : decode b_Mo_bits 12 = .ok (.land, 1) := by decide +kernel
theorem d_Mo_bits_13 : decode b_Mo_bits 13 = .ok (.lreturn, 1) := by decide +kernel
theorem d_Mo_find_45 : decode b_Mo_find 45 = .ok (.invokestatic 56, 3) := by decide +kernel
theorem d_Mo_find_48 : decode b_Mo_find 48 = .ok (.bipush 12, 2) := by decide +kernel
theorem d_Mo_find_50 : decode b_Mo_find 50 = .ok (.lshl, 1) := by decide +kernel
theorem d_Mo_find_51 : decode b_Mo_find 51 = .ok (.lstore 5, 2) := by decide +kernel
theorem d_Mo_find_53 : decode b_Mo_find 53 = .ok (.iconst 1, 1) := by decide +kernel
theorem d_Mo_find_54 : decode b_Mo_find 54 = .ok (.istore 7, 2) := by decide +kernel
theorem d_Mo_find_56 : decode b_Mo_find 56 = .ok (.iconst 1, 1) := by decide +kernel
theorem d_Mo_find_57 : decode b_Mo_find 57 = .ok (.istore 8, 2) := by decide +kernel
theorem d_Mo_find_59 : decode b_Mo_find 59 = .ok (.iconst 1, 1) := by decide +kernel
theorem d_Mo_find_60 : decode b_Mo_find 60 = .ok (.istore 9, 2) := by decide +kernel
theorem d_Mo_find_62 : decode b_Mo_find 62 = .ok (.iconst 3, 1) := by decide +kernel
theorem d_Mo_find_63 : decode b_Mo_find 63 = .ok (.istore 10, 2) := by decide +kernel
theorem d_Mo_find_65 : decode b_Mo_find 65 = .ok (.lconst 0, 1) := by decide +kernel
theorem d_Mo_find_66 : decode b_Mo_find 66 = .ok (.lstore 11, 2) := by decide +kernel
theorem d_Mo_find_68 : decode b_Mo_find 68 = .ok (.iconst 0, 1) := by decide +kernel
theorem d_Mo_find_69 : decode b_Mo_find 69 = .ok (.istore 13, 2) := by decide +kernel
theorem d_Mo_find_71 : decode b_Mo_find 71 = .ok (.iload 13, 2) := by decide +kernel
theorem d_Mo_find_73 : decode b_Mo_find 73 = .ok (.ifCond .ne 223, 3) := by decide +kernel
theorem d_Mo_find_296 : decode b_Mo_find 296 = .ok (.aload_n 0, 1) := by decide +kernel
theorem d_Mo_find_297 : decode b_Mo_find 297 = .ok (.iload 4, 2) := by decide +kernel
theorem d_Mo_find_299 : decode b_Mo_find 299 = .ok (.iconst 1, 1) := by decide +kernel
theorem d_Mo_find_300 : decode b_Mo_find 300 = .ok (.iadd, 1) := by decide +kernel
theorem d_Mo_find_301 : decode b_Mo_find 301 = .ok (.putfield 68, 3) := by decide +kernel
theorem d_Mo_find_304 : decode b_Mo_find 304 = .ok (.iload_n 3, 1) := by decide +kernel
theorem d_Mo_find_305 : decode b_Mo_find 305 = .ok (.iconst 1, 1) := by decide +kernel
theorem d_Mo_find_306 : decode b_Mo_find 306 = .ok (.if_icmp .ne 8, 3) := by decide +kernel
theorem d_Mo_find_314 : decode b_Mo_find 314 = .ok (.aload_n 0, 1) := by decide +kernel
theorem d_Mo_find_315 : decode b_Mo_find 315 = .ok (.getfield 48, 3) := by decide +kernel
theorem d_Mo_find_318 : decode b_Mo_find 318 = .ok (.ifCond .eq 8, 3) := by decide +kernel
theorem d_Mo_find_326 : decode b_Mo_find 326 = .ok (.iload_n 3, 1) := by decide +kernel
theorem d_Mo_find_327 : decode b_Mo_find 327 = .ok (.iconst 2, 1) := by decide +kernel
theorem d_Mo_find_328 : decode b_Mo_find 328 = .ok (.if_icmp .ne 12, 3) := by decide +kernel
theorem d_Mo_find_340 : decode b_Mo_find 340 = .ok (.iload 10, 2) := by decide +kernel
theorem d_Mo_find_342 : decode b_Mo_find 342 = .ok (.iconst 1, 1) := by decide +kernel
theorem d_Mo_find_343 : decode b_Mo_find 343 = .ok (.if_icmp .ne 26, 3) := by decide +kernel
theorem d_Mo_find_369 : decode b_Mo_find 369 = .ok (.lload 5, 2) := by decide +kernel
theorem d_Mo_find_371 : decode b_Mo_find 371 = .ok (.lload_n 1, 1) := by decide +kernel
theorem d_Mo_find_372 : decode b_Mo_find 372 = .ok (.iconst 0, 1) := by decide +kernel
theorem d_Mo_find_373 : decode b_Mo_find 373 = .ok (.bipush 11, 2) := by decide +kernel
theorem d_Mo_find_375 : decode b_Mo_find 375 = .ok (.invokestatic 56, 3) := by decide +kernel
theorem d_Mo_find_378 : decode b_Mo_find 378 = .ok (.ladd, 1) := by decide +kernel
theorem d_Mo_find_379 : decode b_Mo_find 379 = .ok (.lreturn, 1) := by decide +kernel
theorem d_Mo_find_346 : decode b_Mo_find 346 = .ok (.lload 11, 2) := by decide +kernel
theorem d_Mo_find_348 : decode b_Mo_find 348 = .ok (.bipush 21, 2) := by decide +kernel
theorem d_Mo_find_350 : decode b_Mo_find 350 = .ok (.bipush 51, 2) := by decide +kernel
theorem d_Mo_find_352 : decode b_Mo_find 352 = .ok (.invokestatic 56, 3) := by decide +kernel
theorem d_Mo_find_355 : decode b_Mo_find 355 = .ok (.bipush 21, 2) := by decide +kernel
theorem d_Mo_find_357 : decode b_Mo_find 357 = .ok (.lshl, 1) := by decide +kernel
theorem d_Mo_find_358 : decode b_Mo_find 358 = .ok (.lload_n 1, 1) := by decide +kernel
theorem d_Mo_find_359 : decode b_Mo_find 359 = .ok (.iconst 0, 1) := by decide +kernel
theorem d_Mo_find_360 : decode b_Mo_find 360 = .ok (.bipush 20, 2) := by decide +kernel
theorem d_Mo_find_362 : decode b_Mo_find 362 = .ok (.invokestatic 56, 3) := by decide +kernel
theorem d_Mo_find_365 : decode b_Mo_find 365 = .ok (.ladd, 1) := by decide +kernel
theorem d_Mo_find_366 : decode b_Mo_find 366 = .ok (.goto 13, 3) := by decide +kernel
theorem d_Mo_find_331 : decode b_Mo_find 331 = .ok (.iload 9, 2) := by decide +kernel
theorem d_Mo_find_333 : decode b_Mo_find 333 = .ok (.ifCond .ne 7, 3) := by decide +kernel
theorem d_Mo_find_336 : decode b_Mo_find 336 = .ok (.ldc2_w 71, 3) := by decide +kernel
theorem d_Mo_find_339 : decode b_Mo_find 339 = .ok (.lreturn, 1) := by decide +kernel
theorem d_Mo_find_321 : decode b_Mo_find 321 = .ok (.iload 8, 2) := by decide +kernel
theorem d_Mo_find_323 : decode b_Mo_find 323 = .ok (.ifCond .eq 13, 3) := by decide +kernel
theorem d_Mo_find_309 : decode b_Mo_find 309 = .ok (.iload 7, 2) := by decide +kernel
theorem d_Mo_find_311 : decode b_Mo_find 311 = .ok (.ifCond .eq 25, 3) := by decide +kernel
theorem d_Mo_find_76 : decode b_Mo_find 76 = .ok (.aload_n 0, 1) := by decide +kernel
theorem d_Mo_find_77 : decode b_Mo_find 77 = .ok (.lload 5, 2) := by decide +kernel
theorem d_Mo_find_79 : decode b_Mo_find 79 = .ok (.ldc2_w 60, 3) := by decide +kernel
theorem d_Mo_find_82 : decode b_Mo_find 82 = .ok (.lload_n 1, 1) := by decide +kernel
theorem d_Mo_find_83 : decode b_Mo_find 83 = .ok (.bipush 12, 2) := by decide +kernel
theorem d_Mo_find_85 : decode b_Mo_find 85 = .ok (.bipush 9, 2) := by decide +kernel
theorem d_Mo_find_87 : decode b_Mo_find 87 = .ok (.iload 10, 2) := by decide +kernel
theorem d_Mo_find_89 : decode b_Mo_find 89 = .ok (.imul, 1) := by decide +kernel
theorem d_Mo_find_90 : decode b_Mo_find 90 = .ok (.iadd, 1) := by decide +kernel
theorem d_Mo_find_91 : decode b_Mo_find 91 = .ok (.bipush 20, 2) := by decide +kernel
theorem d_Mo_find_93 : decode b_Mo_find 93 = .ok (.bipush 9, 2) := by decide +kernel
theorem d_Mo_find_95 : decode b_Mo_find 95 = .ok (.iload 10, 2) := by decide +kernel
theorem d_Mo_find_97 : decode b_Mo_find 97 = .ok (.imul, 1) := by decide +kernel
theorem d_Mo_find_98 : decode b_Mo_find 98 = .ok (.iadd, 1) := by decide +kernel
theorem d_Mo_find_99 : decode b_Mo_find 99 = .ok (.invokestatic 56, 3) := by decide +kernel
theorem d_Mo_find_102 : decode b_Mo_find 102 = .ok (.lmul, 1) := by decide +kernel
theorem d_Mo_find_103 : decode b_Mo_find 103 = .ok (.ladd, 1) := by decide +kernel
theorem d_Mo_find_104 : decode b_Mo_find 104 = .ok (.invokevirtual 62, 3) := by decide +kernel
theorem d_Mo_find_107 : decode b_Mo_find 107 = .ok (.lstore 11, 2) := by decide +kernel
theorem d_Mo_find_109 : decode b_Mo_find 109 = .ok (.iload 10, 2) := by decide +kernel
theorem d_Mo_find_111 : decode b_Mo_find 111 = .ok (.ifCond .le 18, 3) := by decide +kernel
theorem d_Mo_find_129 : decode b_Mo_find 129 = .ok (.iconst 0, 1) := by decide +kernel
theorem d_Mo_find_130 : decode b_Mo_find 130 = .ok (.istore 14, 2) := by decide +kernel
theorem d_Mo_find_132 : decode b_Mo_find 132 = .ok (.aload_n 0, 1) := by decide +kernel
theorem d_Mo_find_133 : decode b_Mo_find 133 = .ok (.iload 4, 2) := by decide +kernel
theorem d_Mo_find_135 : decode b_Mo_find 135 = .ok (.putfield 68, 3) := by decide +kernel
theorem d_Mo_find_138 : decode b_Mo_find 138 = .ok (.lload 11, 2) := by decide +kernel
theorem d_Mo_find_140 : decode b_Mo_find 140 = .ok (.lconst 1, 1) := by decide +kernel
theorem d_Mo_find_141 : decode b_Mo_find 141 = .ok (.land, 1) := by decide +kernel
theorem d_Mo_find_142 : decode b_Mo_find 142 = .ok (.lconst 0, 1) := by decide +kernel
theorem d_Mo_find_143 : decode b_Mo_find 143 = .ok (.lcmp, 1) := by decide +kernel
theorem d_Mo_find_144 : decode b_Mo_find 144 = .ok (.ifCond .ne 7, 3) := by decide +kernel
theorem d_Mo_find_151 : decode b_Mo_find 151 = .ok (.aload_n 0, 1) := by decide +kernel
theorem d_Mo_find_152 : decode b_Mo_find 152 = .ok (.iload 4, 2) := by decide +kernel
theorem d_Mo_find_154 : decode b_Mo_find 154 = .ok (.bipush 9, 2) := by decide +kernel
theorem d_Mo_find_156 : decode b_Mo_find 156 = .ok (.iadd, 1) := by decide +kernel
theorem d_Mo_find_157 : decode b_Mo_find 157 = .ok (.putfield 68, 3) := by decide +kernel
theorem d_Mo_find_160 : decode b_Mo_find 160 = .ok (.iload 14, 2) := by decide +kernel
theorem d_Mo_find_162 : decode b_Mo_find 162 = .ok (.ifCond .eq 27, 3) := by decide +kernel
theorem d_Mo_find_189 : decode b_Mo_find 189 = .ok (.iload 7, 2) := by decide +kernel
theorem d_Mo_find_191 : decode b_Mo_find 191 = .ok (.ifCond .eq 18, 3) := by decide +kernel
theorem d_Mo_find_209 : decode b_Mo_find 209 = .ok (.iconst 0, 1) := by decide +kernel
theorem d_Mo_find_210 : decode b_Mo_find 210 = .ok (.istore 7, 2) := by decide +kernel
theorem d_Mo_find_212 : decode b_Mo_find 212 = .ok (.iload 8, 2) := by decide +kernel
theorem d_Mo_find_214 : decode b_Mo_find 214 = .ok (.ifCond .eq 18, 3) := by decide +kernel
theorem d_Mo_find_232 : decode b_Mo_find 232 = .ok (.iconst 0, 1) := by decide +kernel
theorem d_Mo_find_233 : decode b_Mo_find 233 = .ok (.istore 8, 2) := by decide +kernel
theorem d_Mo_find_235 : decode b_Mo_find 235 = .ok (.iload 9, 2) := by decide +kernel
theorem d_Mo_find_237 : decode b_Mo_find 237 = .ok (.ifCond .eq 14, 3) := by decide +kernel
theorem d_Mo_find_251 : decode b_Mo_find 251 = .ok (.iconst 0, 1) := by decide +kernel
theorem d_Mo_find_252 : decode b_Mo_find 252 = .ok (.istore 9, 2) := by decide +kernel
theorem d_Mo_find_254 : decode b_Mo_find 254 = .ok (.lload 11, 2) := by decide +kernel
theorem d_Mo_find_256 : decode b_Mo_find 256 = .ok (.bipush 12, 2) := by decide +kernel
theorem d_Mo_find_258 : decode b_Mo_find 258 = .ok (.bipush 51, 2) := by decide +kernel
theorem d_Mo_find_260 : decode b_Mo_find 260 = .ok (.invokestatic 56, 3) := by decide +kernel
theorem d_Mo_find_263 : decode b_Mo_find 263 = .ok (.bipush 12, 2) := by decide +kernel
theorem d_Mo_find_265 : decode b_Mo_find 265 = .ok (.lshl, 1) := by decide +kernel
theorem d_Mo_find_266 : decode b_Mo_find 266 = .ok (.lstore 5, 2) := by decide +kernel
theorem d_Mo_find_268 : decode b_Mo_find 268 = .ok (.iload 14, 2) := by decide +kernel
theorem d_Mo_find_270 : decode b_Mo_find 270 = .ok (.ifCond .ne 8, 3) := by decide +kernel
theorem d_Mo_find_278 : decode b_Mo_find 278 = .ok (.iconst 1, 1) := by decide +kernel
theorem d_Mo_find_279 : decode b_Mo_find 279 = .ok (.goto 4, 3) := by decide +kernel
theorem d_Mo_find_283 : decode b_Mo_find 283 = .ok (.istore 13, 2) := by decide +kernel
theorem d_Mo_find_285 : decode b_Mo_find 285 = .ok (.iload 13, 2) := by decide +kernel
theorem d_Mo_find_287 : decode b_Mo_find 287 = .ok (.ifCond .ne 6, 3) := by decide +kernel
theorem d_Mo_find_293 : decode b_Mo_find 293 = .ok (.goto (-222), 3) := by decide +kernel
theorem d_Mo_find_290 : decode b_Mo_find 290 = .ok (.iinc 10 (-1), 3) := by decide +kernel
theorem d_Mo_find_273 : decode b_Mo_find 273 = .ok (.iload 10, 2) := by decide +kernel
theorem d_Mo_find_275 : decode b_Mo_find 275 = .ok (.ifCond .ne 7, 3) := by decide +kernel
theorem d_Mo_find_282 : decode b_Mo_find 282 = .ok (.iconst 0, 1) := by decide +kernel
theorem d_Mo_find_240 : decode b_Mo_find 240 = .ok (.lload 11, 2) := by decide +kernel
theorem d_Mo_find_242 : decode b_Mo_find 242 = .ok (.lconst 0, 1) := by decide +kernel
theorem d_Mo_find_243 : decode b_Mo_find 243 = .ok (.lcmp, 1) := by decide +kernel
theorem d_Mo_find_244 : decode b_Mo_find 244 = .ok (.ifCond .lt 7, 3) := by decide +kernel
theorem d_Mo_find_247 : decode b_Mo_find 247 = .ok (.iconst 1, 1) := by decide +kernel
theorem d_Mo_find_248 : decode b_Mo_find 248 = .ok (.goto 4, 3) := by decide +kernel
theorem d_Mo_find_217 : decode b_Mo_find 217 = .ok (.lload 11, 2) := by decide +kernel
theorem d_Mo_find_219 : decode b_Mo_find 219 = .ok (.ldc2_w 75, 3) := by decide +kernel
theorem d_Mo_find_222 : decode b_Mo_find 222 = .ok (.land, 1) := by decide +kernel
theorem d_Mo_find_223 : decode b_Mo_find 223 = .ok (.lconst 0, 1) := by decide +kernel
theorem d_Mo_find_224 : decode b_Mo_find 224 = .ok (.lcmp, 1) := by decide +kernel
theorem d_Mo_find_225 : decode b_Mo_find 225 = .ok (.ifCond .eq 7, 3) := by decide +kernel
theorem d_Mo_find_228 : decode b_Mo_find 228 = .ok (.iconst 1, 1) := by decide +kernel
theorem d_Mo_find_229 : decode b_Mo_find 229 = .ok (.goto 4, 3) := by decide +kernel
theorem d_Mo_find_194 : decode b_Mo_find 194 = .ok (.lload 11, 2) := by decide +kernel
theorem d_Mo_find_196 : decode b_Mo_find 196 = .ok (.ldc2_w 73, 3) := by decide +kernel
theorem d_Mo_find_199 : decode b_Mo_find 199 = .ok (.land, 1) := by decide +kernel
theorem d_Mo_find_200 : decode b_Mo_find 200 = .ok (.lconst 0, 1) := by decide +kernel
theorem d_Mo_find_201 : decode b_Mo_find 201 = .ok (.lcmp, 1) := by decide +kernel
theorem d_Mo_find_202 : decode b_Mo_find 202 = .ok (.ifCond .eq 7, 3) := by decide +kernel
theorem d_Mo_find_205 : decode b_Mo_find 205 = .ok (.iconst 1, 1) := by decide +kernel
theorem d_Mo_find_206 : decode b_Mo_find 206 = .ok (.goto 4, 3) := by decide +kernel
theorem d_Mo_find_165 : decode b_Mo_find 165 = .ok (.iload 10, 2) := by decide +kernel
theorem d_Mo_find_167 : decode b_Mo_find 167 = .ok (.iconst 1, 1) := by decide +kernel
theorem d_Mo_find_168 : decode b_Mo_find 168 = .ok (.if_icmp .gt 17, 3) := by decide +kernel
theorem d_Mo_find_185 : decode b_Mo_find 185 = .ok (.ldc2_w 71, 3) := by decide +kernel
theorem d_Mo_find_188 : decode b_Mo_find 188 = .ok (.lreturn, 1) := by decide +kernel
theorem d_Mo_find_171 : decode b_Mo_find 171 = .ok (.lload 11, 2) := by decide +kernel
theorem d_Mo_find_173 : decode b_Mo_find 173 = .ok (.bipush 13, 2) := by decide +kernel
theorem d_Mo_find_175 : decode b_Mo_find 175 = .ok (.bipush 20, 2) := by decide +kernel
theorem d_Mo_find_177 : decode b_Mo_find 177 = .ok (.invokestatic 56, 3) := by decide +kernel
theorem d_Mo_find_180 : decode b_Mo_find 180 = .ok (.lconst 0, 1) := by decide +kernel
theorem d_Mo_find_181 : decode b_Mo_find 181 = .ok (.lcmp, 1) := by decide +kernel
theorem d_Mo_find_182 : decode b_Mo_find 182 = .ok (.ifCond .eq 7, 3) := by decide +kernel
theorem d_Mo_find_147 : decode b_Mo_find 147 = .ok (.ldc2_w 71, 3) := by decide +kernel
theorem d_Mo_find_150 : decode b_Mo_find 150 = .ok (.lreturn, 1) := by decide +kernel
theorem d_Mo_find_114 : decode b_Mo_find 114 = .ok (.lload 11, 2) := by decide +kernel
theorem d_Mo_find_116 : decode b_Mo_find 116 = .ok (.ldc2_w 66, 3) := by decide +kernel
theorem d_Mo_find_119 : decode b_Mo_find 119 = .ok (.land, 1) := by decide +kernel
theorem d_Mo_find_120 : decode b_Mo_find 120 = .ok (.lconst 0, 1) := by decide +kernel
theorem d_Mo_find_121 : decode b_Mo_find 121 = .ok (.lcmp, 1) := by decide +kernel
theorem d_Mo_find_122 : decode b_Mo_find 122 = .ok (.ifCond .eq 7, 3) := by decide +kernel
theorem d_Mo_find_125 : decode b_Mo_find 125 = .ok (.iconst 1, 1) := by decide +kernel
theorem d_Mo_find_126 : decode b_Mo_find 126 = .ok (.goto 4, 3) := by decide +kernel
theorem d_Mo_find_28 : decode b_Mo_find 28 = .ok (.bipush 16, 2) := by decide +kernel
theorem d_Mo_find_30 : decode b_Mo_find 30 = .ok (.goto 4, 3) := by decide +kernel
theorem d_Mo_find_17 : decode b_Mo_find 17 = .ok (.iconst 4, 1) := by decide +kernel
theorem d_Mo_find_18 : decode b_Mo_find 18 = .ok (.goto 4, 3) := by decide +kernel
theorem d_Mo_find_5 : decode b_Mo_find 5 = .ok (.iconst 2, 1) := by decide +kernel
theorem d_Mo_find_6 : decode b_Mo_find 6 = .ok (.goto 4, 3) := by decide +kernel
theorem d_Mo_lookUp_59 : decode b_Mo_lookUp 59 = .ok (.invokevirtual 85, 3) := by decide +kernel
theorem d_Mo_lookUp_62 : decode b_Mo_lookUp 62 = .ok (.lastore, 1) := by decide +kernel
theorem d_Mo_lookUp_63 : decode b_Mo_lookUp 63 = .ok (.aload_n 0, 1) := by decide +kernel
theorem d_Mo_lookUp_64 : decode b_Mo_lookUp 64 = .ok (.getfield 39, 3) := by decide +kernel
theorem d_Mo_lookUp_67 : decode b_Mo_lookUp 67 = .ok (.iload 6, 2) := by decide +kernel
theorem d_Mo_lookUp_69 : decode b_Mo_lookUp 69 = .ok (.laload, 1) := by decide +kernel
theorem d_Mo_lookUp_70 : decode b_Mo_lookUp 70 = .ok (.lconst 0, 1) := by decide +kernel
theorem d_Mo_lookUp_71 : decode b_Mo_lookUp 71 = .ok (.lcmp, 1) := by decide +kernel
theorem d_Mo_lookUp_72 : decode b_Mo_lookUp 72 = .ok (.ifCond .lt 6, 3) := by decide +kernel
theorem d_Mo_lookUp_78 : decode b_Mo_lookUp 78 = .ok (.aload_n 0, 1) := by decide +kernel
theorem d_Mo_lookUp_79 : decode b_Mo_lookUp 79 = .ok (.bipush 14, 2) := by decide +kernel
theorem d_Mo_refuse_0 : decode b_Mo_refuse 0 = .ok (.aload_n 0, 1) := by decide +kernel
theorem d_Mo_refuse_1 : decode b_Mo_refuse 1 = .ok (.getfield 28, 3) := by decide +kernel
theorem d_Mo_refuse_4 : decode b_Mo_refuse 4 = .ok (.iconst (-1), 1) := by decide +kernel
theorem d_Mo_refuse_5 : decode b_Mo_refuse 5 = .ok (.if_icmp .ne 8, 3) := by decide +kernel
theorem d_Mo_refuse_13 : decode b_Mo_refuse 13 = .ok (.return_, 1) := by decide +kernel
theorem d_Mo_refuse_8 : decode b_Mo_refuse 8 = .ok (.aload_n 0, 1) := by decide +kernel
theorem d_Mo_refuse_9 : decode b_Mo_refuse 9 = .ok (.iload_n 1, 1) := by decide +kernel
theorem d_Mo_refuse_10 : decode b_Mo_refuse 10 = .ok (.putfield 28, 3) := by decide +kernel
theorem d_Mo_lookUp_81 : decode b_Mo_lookUp 81 = .ok (.invokevirtual 81, 3) := by decide +kernel
theorem d_Mo_lookUp_84 : decode b_Mo_lookUp 84 = .ok (.aload_n 0, 1) := by decide +kernel
theorem d_Mo_lookUp_85 : decode b_Mo_lookUp 85 = .ok (.lload_n 1, 1) := by decide +kernel
theorem d_Mo_lookUp_86 : decode b_Mo_lookUp 86 = .ok (.iload 6, 2) := by decide +kernel
theorem d_Mo_lookUp_88 : decode b_Mo_lookUp 88 = .ok (.i2l, 1) := by decide +kernel
theorem d_Mo_lookUp_89 : decode b_Mo_lookUp 89 = .ok (.ladd, 1) := by decide +kernel
theorem d_Mo_lookUp_90 : decode b_Mo_lookUp 90 = .ok (.putfield 89, 3) := by decide +kernel
theorem d_Mo_lookUp_93 : decode b_Mo_lookUp 93 = .ok (.aload_n 0, 1) := by decide +kernel
theorem d_Mo_lookUp_94 : decode b_Mo_lookUp 94 = .ok (.aload_n 0, 1) := by decide +kernel
theorem d_Mo_lookUp_95 : decode b_Mo_lookUp 95 = .ok (.getfield 68, 3) := by decide +kernel
theorem d_Mo_lookUp_98 : decode b_Mo_lookUp 98 = .ok (.putfield 92, 3) := by decide +kernel
theorem d_Mo_lookUp_101 : decode b_Mo_lookUp 101 = .ok (.iinc 6 1, 3) := by decide +kernel
theorem d_Mo_lookUp_104 : decode b_Mo_lookUp 104 = .ok (.goto (-101), 3) := by decide +kernel
theorem d_Mo_lookUp_75 : decode b_Mo_lookUp 75 = .ok (.goto 26, 3) := by decide +kernel
theorem d_Mo_lookUp_28 : decode b_Mo_lookUp 28 = .ok (.aload_n 0, 1) := by decide +kernel
theorem d_Mo_lookUp_29 : decode b_Mo_lookUp 29 = .ok (.iload 5, 2) := by decide +kernel
theorem d_Mo_lookUp_31 : decode b_Mo_lookUp 31 = .ok (.ifCond .eq 8, 3) := by decide +kernel
theorem d_Mo_lookUp_39 : decode b_Mo_lookUp 39 = .ok (.bipush 13, 2) := by decide +kernel
theorem d_Mo_lookUp_41 : decode b_Mo_lookUp 41 = .ok (.invokevirtual 81, 3) := by decide +kernel
theorem d_Mo_lookUp_44 : decode b_Mo_lookUp 44 = .ok (.return_, 1) := by decide +kernel
theorem d_Mo_lookUp_34 : decode b_Mo_lookUp 34 = .ok (.bipush 12, 2) := by decide +kernel
theorem d_Mo_lookUp_36 : decode b_Mo_lookUp 36 = .ok (.goto 5, 3) := by decide +kernel
theorem d_Mo_fetch_37 : decode b_Mo_fetch 37 = .ok (.invokevirtual 95, 3) := by decide +kernel
theorem d_Mo_fetch_40 : decode b_Mo_fetch 40 = .ok (.aload_n 0, 1) := by decide +kernel
theorem d_Mo_fetch_41 : decode b_Mo_fetch 41 = .ok (.getfield 28, 3) := by decide +kernel
theorem d_Mo_fetch_44 : decode b_Mo_fetch 44 = .ok (.iconst (-1), 1) := by decide +kernel
theorem d_Mo_fetch_45 : decode b_Mo_fetch 45 = .ok (.if_icmp .eq 5, 3) := by decide +kernel
theorem d_Mo_fetch_50 : decode b_Mo_fetch 50 = .ok (.aload_n 0, 1) := by decide +kernel
theorem d_Mo_fetch_51 : decode b_Mo_fetch 51 = .ok (.dup, 1) := by decide +kernel
end
section
theorem d_Mo_fetch_52 : decode b_Mo_fetch 52 = .ok (.getfield 108, 3) := by decide +kernel
theorem d_Mo_fetch_55 : decode b_Mo_fetch 55 = .ok (.iconst 1, 1) := by decide +kernel
theorem d_Mo_fetch_56 : decode b_Mo_fetch 56 = .ok (.iadd, 1) := by decide +kernel
theorem d_Mo_fetch_57 : decode b_Mo_fetch 57 = .ok (.putfield 108, 3) := by decide +kernel
theorem d_Mo_fetch_60 : decode b_Mo_fetch 60 = .ok (.aload_n 0, 1) := by decide +kernel
theorem d_Mo_fetch_61 : decode b_Mo_fetch 61 = .ok (.aload_n 0, 1) := by decide +kernel
theorem d_Mo_fetch_62 : decode b_Mo_fetch 62 = .ok (.getfield 39, 3) := by decide +kernel
theorem d_Mo_fetch_65 : decode b_Mo_fetch 65 = .ok (.iconst 0, 1) := by decide +kernel
theorem d_Mo_fetch_66 : decode b_Mo_fetch 66 = .ok (.laload, 1) := by decide +kernel
theorem d_Mo_fetch_67 : decode b_Mo_fetch 67 = .ok (.invokevirtual 44, 3) := by decide +kernel
theorem d_Mo_fetch_70 : decode b_Mo_fetch 70 = .ok (.ireturn, 1) := by decide +kernel
theorem d_Mo_fetch_48 : decode b_Mo_fetch 48 = .ok (.iconst 0, 1) := by decide +kernel
theorem d_Mo_fetch_49 : decode b_Mo_fetch 49 = .ok (.ireturn, 1) := by decide +kernel
theorem d_Mo_fetch_8 : decode b_Mo_fetch 8 = .ok (.aload_n 0, 1) := by decide +kernel
theorem d_Mo_fetch_9 : decode b_Mo_fetch 9 = .ok (.getfield 108, 3) := by decide +kernel
theorem d_Mo_fetch_12 : decode b_Mo_fetch 12 = .ok (.bipush 15, 2) := by decide +kernel
theorem d_Mo_fetch_14 : decode b_Mo_fetch 14 = .ok (.if_icmp .ne 9, 3) := by decide +kernel
theorem d_Mo_fetch_17 : decode b_Mo_fetch 17 = .ok (.aload_n 0, 1) := by decide +kernel
theorem d_Mo_fetch_18 : decode b_Mo_fetch 18 = .ok (.bipush 13, 2) := by decide +kernel
theorem d_Mo_fetch_20 : decode b_Mo_fetch 20 = .ok (.invokevirtual 81, 3) := by decide +kernel
theorem d_Mo_open_21 : decode b_Mo_open 21 = .ok (.invokevirtual 114, 3) := by decide +kernel
theorem d_Mo_open_24 : decode b_Mo_open 24 = .ok (.istore_n 1, 1) := by decide +kernel
theorem d_Mo_open_25 : decode b_Mo_open 25 = .ok (.aload_n 0, 1) := by decide +kernel
theorem d_Mo_open_26 : decode b_Mo_open 26 = .ok (.getfield 28, 3) := by decide +kernel
theorem d_Mo_open_29 : decode b_Mo_open 29 = .ok (.iconst (-1), 1) := by decide +kernel
theorem d_Mo_open_30 : decode b_Mo_open 30 = .ok (.if_icmp .ne 98, 3) := by decide +kernel
theorem d_Mo_open_128 : decode b_Mo_open 128 = .ok (.aload_n 0, 1) := by decide +kernel
theorem d_Mo_open_129 : decode b_Mo_open 129 = .ok (.iload_n 1, 1) := by decide +kernel
theorem d_Mo_open_130 : decode b_Mo_open 130 = .ok (.bipush 15, 2) := by decide +kernel
theorem d_Mo_open_132 : decode b_Mo_open 132 = .ok (.if_icmp .ne 15, 3) := by decide +kernel
theorem d_Mo_open_147 : decode b_Mo_open 147 = .ok (.iconst 0, 1) := by decide +kernel
theorem d_Mo_open_148 : decode b_Mo_open 148 = .ok (.putfield 130, 3) := by decide +kernel
theorem d_Mo_open_151 : decode b_Mo_open 151 = .ok (.aload_n 0, 1) := by decide +kernel
theorem d_Mo_open_152 : decode b_Mo_open 152 = .ok (.aload_n 0, 1) := by decide +kernel
theorem d_Mo_open_153 : decode b_Mo_open 153 = .ok (.getfield 130, 3) := by decide +kernel
theorem d_Mo_open_156 : decode b_Mo_open 156 = .ok (.ifCond .eq 10, 3) := by decide +kernel
theorem d_Mo_open_166 : decode b_Mo_open 166 = .ok (.iload_n 1, 1) := by decide +kernel
theorem d_Mo_open_167 : decode b_Mo_open 167 = .ok (.putfield 133, 3) := by decide +kernel
theorem d_Mo_open_170 : decode b_Mo_open 170 = .ok (.return_, 1) := by decide +kernel
theorem d_Mo_open_159 : decode b_Mo_open 159 = .ok (.aload_n 0, 1) := by decide +kernel
theorem d_Mo_open_160 : decode b_Mo_open 160 = .ok (.invokevirtual 114, 3) := by decide +kernel
theorem d_Mo_open_163 : decode b_Mo_open 163 = .ok (.goto 4, 3) := by decide +kernel
theorem d_Mo_open_135 : decode b_Mo_open 135 = .ok (.aload_n 0, 1) := by decide +kernel
theorem d_Mo_open_136 : decode b_Mo_open 136 = .ok (.getfield 28, 3) := by decide +kernel
theorem d_Mo_open_139 : decode b_Mo_open 139 = .ok (.iconst (-1), 1) := by decide +kernel
theorem d_Mo_open_140 : decode b_Mo_open 140 = .ok (.if_icmp .ne 7, 3) := by decide +kernel
theorem d_Mo_open_143 : decode b_Mo_open 143 = .ok (.iconst 1, 1) := by decide +kernel
theorem d_Mo_open_144 : decode b_Mo_open 144 = .ok (.goto 4, 3) := by decide +kernel
theorem d_Mo_open_33 : decode b_Mo_open 33 = .ok (.iload_n 1, 1) := by decide +kernel
theorem d_Mo_open_34 : decode b_Mo_open 34 = .ok (.bipush 102, 2) := by decide +kernel
theorem d_Mo_open_36 : decode b_Mo_open 36 = .ok (.if_icmp .eq 29, 3) := by decide +kernel
theorem d_Mo_open_65 : decode b_Mo_open 65 = .ok (.aload_n 0, 1) := by decide +kernel
theorem d_Mo_open_66 : decode b_Mo_open 66 = .ok (.iload_n 1, 1) := by decide +kernel
theorem d_Mo_open_67 : decode b_Mo_open 67 = .ok (.bipush 64, 2) := by decide +kernel
theorem d_Mo_open_69 : decode b_Mo_open 69 = .ok (.if_icmp .lt 13, 3) := by decide +kernel
theorem d_Mo_open_82 : decode b_Mo_open 82 = .ok (.iconst 0, 1) := by decide +kernel
theorem d_Mo_open_83 : decode b_Mo_open 83 = .ok (.putfield 121, 3) := by decide +kernel
theorem d_Mo_open_86 : decode b_Mo_open 86 = .ok (.aload_n 0, 1) := by decide +kernel
theorem d_Mo_open_87 : decode b_Mo_open 87 = .ok (.aload_n 0, 1) := by decide +kernel
theorem d_Mo_open_88 : decode b_Mo_open 88 = .ok (.getfield 127, 3) := by decide +kernel
theorem d_Mo_open_91 : decode b_Mo_open 91 = .ok (.ifCond .ne 9, 3) := by decide +kernel
theorem d_Mo_open_100 : decode b_Mo_open 100 = .ok (.iconst 1, 1) := by decide +kernel
theorem d_Mo_open_101 : decode b_Mo_open 101 = .ok (.goto 4, 3) := by decide +kernel
theorem d_Mo_open_105 : decode b_Mo_open 105 = .ok (.putfield 127, 3) := by decide +kernel
theorem d_Mo_open_108 : decode b_Mo_open 108 = .ok (.iload_n 1, 1) := by decide +kernel
theorem d_Mo_open_109 : decode b_Mo_open 109 = .ok (.sipush 240, 3) := by decide +kernel
theorem d_Mo_open_112 : decode b_Mo_open 112 = .ok (.if_icmp .le 8, 3) := by decide +kernel
theorem d_Mo_open_120 : decode b_Mo_open 120 = .ok (.aload_n 0, 1) := by decide +kernel
theorem d_Mo_open_121 : decode b_Mo_open 121 = .ok (.invokevirtual 114, 3) := by decide +kernel
theorem d_Mo_open_124 : decode b_Mo_open 124 = .ok (.istore_n 1, 1) := by decide +kernel
theorem d_Mo_open_125 : decode b_Mo_open 125 = .ok (.goto (-100), 3) := by decide +kernel
theorem d_Mo_open_115 : decode b_Mo_open 115 = .ok (.aload_n 0, 1) := by decide +kernel
theorem d_Mo_open_116 : decode b_Mo_open 116 = .ok (.iload_n 1, 1) := by decide +kernel
theorem d_Mo_open_117 : decode b_Mo_open 117 = .ok (.putfield 124, 3) := by decide +kernel
theorem d_Mo_open_94 : decode b_Mo_open 94 = .ok (.iload_n 1, 1) := by decide +kernel
theorem d_Mo_open_95 : decode b_Mo_open 95 = .ok (.bipush 102, 2) := by decide +kernel
theorem d_Mo_open_97 : decode b_Mo_open 97 = .ok (.if_icmp .ne 7, 3) := by decide +kernel
theorem d_Mo_open_104 : decode b_Mo_open 104 = .ok (.iconst 0, 1) := by decide +kernel
theorem d_Mo_open_72 : decode b_Mo_open 72 = .ok (.iload_n 1, 1) := by decide +kernel
theorem d_Mo_open_73 : decode b_Mo_open 73 = .ok (.bipush 79, 2) := by decide +kernel
theorem d_Mo_open_75 : decode b_Mo_open 75 = .ok (.if_icmp .gt 7, 3) := by decide +kernel
theorem d_Mo_open_78 : decode b_Mo_open 78 = .ok (.iload_n 1, 1) := by decide +kernel
theorem d_Mo_open_79 : decode b_Mo_open 79 = .ok (.goto 4, 3) := by decide +kernel
theorem d_Mo_open_39 : decode b_Mo_open 39 = .ok (.iload_n 1, 1) := by decide +kernel
theorem d_Mo_open_40 : decode b_Mo_open 40 = .ok (.sipush 242, 3) := by decide +kernel
theorem d_Mo_open_43 : decode b_Mo_open 43 = .ok (.if_icmp .eq 22, 3) := by decide +kernel
theorem d_Mo_open_46 : decode b_Mo_open 46 = .ok (.iload_n 1, 1) := by decide +kernel
theorem d_Mo_open_47 : decode b_Mo_open 47 = .ok (.sipush 243, 3) := by decide +kernel
theorem d_Mo_open_50 : decode b_Mo_open 50 = .ok (.if_icmp .eq 15, 3) := by decide +kernel
theorem d_Mo_open_53 : decode b_Mo_open 53 = .ok (.iload_n 1, 1) := by decide +kernel
theorem d_Mo_open_54 : decode b_Mo_open 54 = .ok (.bipush 64, 2) := by decide +kernel
theorem d_Mo_open_56 : decode b_Mo_open 56 = .ok (.if_icmp .lt 72, 3) := by decide +kernel
theorem d_Mo_open_59 : decode b_Mo_open 59 = .ok (.iload_n 1, 1) := by decide +kernel
theorem d_Mo_open_60 : decode b_Mo_open 60 = .ok (.bipush 79, 2) := by decide +kernel
theorem d_Mo_open_62 : decode b_Mo_open 62 = .ok (.if_icmp .gt 66, 3) := by decide +kernel
theorem d_Mo_step_71 : decode b_Mo_step 71 = .ok (.invokevirtual 232, 3) := by decide +kernel
theorem d_Mo_step_74 : decode b_Mo_step 74 = .ok (.aload_n 0, 1) := by decide +kernel
theorem d_Mo_step_75 : decode b_Mo_step 75 = .ok (.aload_n 0, 1) := by decide +kernel
theorem d_Mo_step_76 : decode b_Mo_step 76 = .ok (.getfield 111, 3) := by decide +kernel
theorem d_Mo_step_79 : decode b_Mo_step 79 = .ok (.aload_n 0, 1) := by decide +kernel
theorem d_Mo_step_80 : decode b_Mo_step 80 = .ok (.getfield 108, 3) := by decide +kernel
theorem d_Mo_step_83 : decode b_Mo_step 83 = .ok (.i2l, 1) := by decide +kernel
theorem d_Mo_step_84 : decode b_Mo_step 84 = .ok (.ladd, 1) := by decide +kernel
theorem d_Mo_step_85 : decode b_Mo_step 85 = .ok (.putfield 173, 3) := by decide +kernel
theorem d_Mo_step_88 : decode b_Mo_step 88 = .ok (.aload_n 0, 1) := by decide +kernel
theorem d_Mo_step_89 : decode b_Mo_step 89 = .ok (.getfield 28, 3) := by decide +kernel
theorem d_Mo_step_92 : decode b_Mo_step 92 = .ok (.iconst (-1), 1) := by decide +kernel
theorem d_Mo_step_93 : decode b_Mo_step 93 = .ok (.if_icmp .ne 63, 3) := by decide +kernel
theorem d_Mo_step_156 : decode b_Mo_step 156 = .ok (.aload_n 0, 1) := by decide +kernel
theorem d_Mo_step_157 : decode b_Mo_step 157 = .ok (.getfield 28, 3) := by decide +kernel
theorem d_Mo_step_160 : decode b_Mo_step 160 = .ok (.iconst (-1), 1) := by decide +kernel
theorem d_Mo_step_161 : decode b_Mo_step 161 = .ok (.if_icmp .ne 61, 3) := by decide +kernel
theorem d_Mo_step_222 : decode b_Mo_step 222 = .ok (.aload_n 0, 1) := by decide +kernel
theorem d_Mo_step_223 : decode b_Mo_step 223 = .ok (.aload_n 0, 1) := by decide +kernel
theorem d_Mo_step_224 : decode b_Mo_step 224 = .ok (.getfield 229, 3) := by decide +kernel
theorem d_Mo_step_227 : decode b_Mo_step 227 = .ok (.putfield 48, 3) := by decide +kernel
theorem d_Mo_step_230 : decode b_Mo_step 230 = .ok (.iconst 0, 1) := by decide +kernel
theorem d_Mo_step_231 : decode b_Mo_step 231 = .ok (.istore_n 1, 1) := by decide +kernel
theorem d_Mo_step_232 : decode b_Mo_step 232 = .ok (.iload_n 1, 1) := by decide +kernel
theorem d_Mo_step_233 : decode b_Mo_step 233 = .ok (.bipush 16, 2) := by decide +kernel
theorem d_Mo_step_235 : decode b_Mo_step 235 = .ok (.if_icmp .ge 21, 3) := by decide +kernel
theorem d_Mo_step_256 : decode b_Mo_step 256 = .ok (.iconst 0, 1) := by decide +kernel
theorem d_Mo_step_257 : decode b_Mo_step 257 = .ok (.istore_n 1, 1) := by decide +kernel
theorem d_Mo_step_258 : decode b_Mo_step 258 = .ok (.iload_n 1, 1) := by decide +kernel
theorem d_Mo_step_259 : decode b_Mo_step 259 = .ok (.bipush 7, 2) := by decide +kernel
theorem d_Mo_step_261 : decode b_Mo_step 261 = .ok (.if_icmp .ge 21, 3) := by decide +kernel
theorem d_Mo_step_282 : decode b_Mo_step 282 = .ok (.aload_n 0, 1) := by decide +kernel
theorem d_Mo_step_283 : decode b_Mo_step 283 = .ok (.getfield 28, 3) := by decide +kernel
theorem d_Mo_step_286 : decode b_Mo_step 286 = .ok (.ireturn, 1) := by decide +kernel
theorem d_Mo_step_264 : decode b_Mo_step 264 = .ok (.aload_n 0, 1) := by decide +kernel
theorem d_Mo_step_265 : decode b_Mo_step 265 = .ok (.getfield 21, 3) := by decide +kernel
theorem d_Mo_step_268 : decode b_Mo_step 268 = .ok (.iload_n 1, 1) := by decide +kernel
theorem d_Mo_step_269 : decode b_Mo_step 269 = .ok (.aload_n 0, 1) := by decide +kernel
theorem d_Mo_step_270 : decode b_Mo_step 270 = .ok (.getfield 25, 3) := by decide +kernel
theorem d_Mo_step_273 : decode b_Mo_step 273 = .ok (.iload_n 1, 1) := by decide +kernel
theorem d_Mo_step_274 : decode b_Mo_step 274 = .ok (.baload, 1) := by decide +kernel
theorem d_Mo_step_275 : decode b_Mo_step 275 = .ok (.bastore, 1) := by decide +kernel
theorem d_Mo_step_276 : decode b_Mo_step 276 = .ok (.iinc 1 1, 3) := by decide +kernel
theorem d_Mo_step_279 : decode b_Mo_step 279 = .ok (.goto (-21), 3) := by decide +kernel
theorem d_Mo_step_238 : decode b_Mo_step 238 = .ok (.aload_n 0, 1) := by decide +kernel
theorem d_Mo_step_239 : decode b_Mo_step 239 = .ok (.getfield 14, 3) := by decide +kernel
theorem d_Mo_step_242 : decode b_Mo_step 242 = .ok (.iload_n 1, 1) := by decide +kernel
theorem d_Mo_step_243 : decode b_Mo_step 243 = .ok (.aload_n 0, 1) := by decide +kernel
theorem d_Mo_step_244 : decode b_Mo_step 244 = .ok (.getfield 18, 3) := by decide +kernel
theorem d_Mo_step_247 : decode b_Mo_step 247 = .ok (.iload_n 1, 1) := by decide +kernel
theorem d_Mo_step_248 : decode b_Mo_step 248 = .ok (.laload, 1) := by decide +kernel
theorem d_Mo_step_249 : decode b_Mo_step 249 = .ok (.lastore, 1) := by decide +kernel
theorem d_Mo_step_250 : decode b_Mo_step 250 = .ok (.iinc 1 1, 3) := by decide +kernel
theorem d_Mo_step_253 : decode b_Mo_step 253 = .ok (.goto (-21), 3) := by decide +kernel
theorem d_Mo_step_164 : decode b_Mo_step 164 = .ok (.aload_n 0, 1) := by decide +kernel
theorem d_Mo_step_165 : decode b_Mo_step 165 = .ok (.aload_n 0, 1) := by decide +kernel
theorem d_Mo_step_166 : decode b_Mo_step 166 = .ok (.getfield 173, 3) := by decide +kernel
theorem d_Mo_step_169 : decode b_Mo_step 169 = .ok (.putfield 111, 3) := by decide +kernel
theorem d_Mo_step_172 : decode b_Mo_step 172 = .ok (.iconst 0, 1) := by decide +kernel
theorem d_Mo_step_173 : decode b_Mo_step 173 = .ok (.istore_n 1, 1) := by decide +kernel
theorem d_Mo_step_174 : decode b_Mo_step 174 = .ok (.iload_n 1, 1) := by decide +kernel
theorem d_Mo_step_175 : decode b_Mo_step 175 = .ok (.aload_n 0, 1) := by decide +kernel
theorem d_Mo_step_176 : decode b_Mo_step 176 = .ok (.getfield 103, 3) := by decide +kernel
theorem d_Mo_step_179 : decode b_Mo_step 179 = .ok (.if_icmp .ge 41, 3) := by decide +kernel
theorem d_Mo_step_220 : decode b_Mo_step 220 = .ok (.iconst (-1), 1) := by decide +kernel
theorem d_Mo_step_221 : decode b_Mo_step 221 = .ok (.ireturn, 1) := by decide +kernel
theorem d_Mo_step_182 : decode b_Mo_step 182 = .ok (.aload_n 0, 1) := by decide +kernel
theorem d_Mo_step_183 : decode b_Mo_step 183 = .ok (.getfield 32, 3) := by decide +kernel
theorem d_Mo_step_186 : decode b_Mo_step 186 = .ok (.iload_n 1, 1) := by decide +kernel
theorem d_Mo_step_187 : decode b_Mo_step 187 = .ok (.laload, 1) := by decide +kernel
theorem d_Mo_step_188 : decode b_Mo_step 188 = .ok (.ldc2_w 42, 3) := by decide +kernel
theorem d_Mo_step_191 : decode b_Mo_step 191 = .ok (.lcmp, 1) := by decide +kernel
theorem d_Mo_step_192 : decode b_Mo_step 192 = .ok (.ifCond .ge 22, 3) := by decide +kernel
theorem d_Mo_step_214 : decode b_Mo_step 214 = .ok (.iinc 1 1, 3) := by decide +kernel
theorem d_Mo_step_217 : decode b_Mo_step 217 = .ok (.goto (-43), 3) := by decide +kernel
theorem d_Mo_step_195 : decode b_Mo_step 195 = .ok (.aload_n 0, 1) := by decide +kernel
theorem d_Mo_step_196 : decode b_Mo_step 196 = .ok (.getfield 8, 3) := by decide +kernel
theorem d_Mo_step_199 : decode b_Mo_step 199 = .ok (.aload_n 0, 1) := by decide +kernel
theorem d_Mo_step_200 : decode b_Mo_step 200 = .ok (.getfield 32, 3) := by decide +kernel
theorem d_Mo_step_203 : decode b_Mo_step 203 = .ok (.iload_n 1, 1) := by decide +kernel
theorem d_Mo_step_204 : decode b_Mo_step 204 = .ok (.laload, 1) := by decide +kernel
theorem d_Mo_step_205 : decode b_Mo_step 205 = .ok (.l2i, 1) := by decide +kernel
theorem d_Mo_step_206 : decode b_Mo_step 206 = .ok (.aload_n 0, 1) := by decide +kernel
theorem d_Mo_step_207 : decode b_Mo_step 207 = .ok (.getfield 35, 3) := by decide +kernel
theorem d_Mo_step_210 : decode b_Mo_step 210 = .ok (.iload_n 1, 1) := by decide +kernel
theorem d_Mo_step_211 : decode b_Mo_step 211 = .ok (.iaload, 1) := by decide +kernel
theorem d_Mo_step_212 : decode b_Mo_step 212 = .ok (.i2b, 1) := by decide +kernel
theorem d_Mo_step_213 : decode b_Mo_step 213 = .ok (.bastore, 1) := by decide +kernel
theorem d_Mo_step_96 : decode b_Mo_step 96 = .ok (.aload_n 0, 1) := by decide +kernel
theorem d_Mo_step_97 : decode b_Mo_step 97 = .ok (.getfield 130, 3) := by decide +kernel
theorem d_Mo_step_100 : decode b_Mo_step 100 = .ok (.ifCond .eq 31, 3) := by decide +kernel
theorem d_Mo_step_131 : decode b_Mo_step 131 = .ok (.aload_n 0, 1) := by decide +kernel
theorem d_Mo_step_132 : decode b_Mo_step 132 = .ok (.aload_n 0, 1) := by decide +kernel
theorem d_Mo_step_133 : decode b_Mo_step 133 = .ok (.getfield 133, 3) := by decide +kernel
theorem d_Mo_step_136 : decode b_Mo_step 136 = .ok (.aload_n 0, 1) := by decide +kernel
theorem d_Mo_step_137 : decode b_Mo_step 137 = .ok (.getfield 133, 3) := by decide +kernel
theorem d_Mo_step_140 : decode b_Mo_step 140 = .ok (.iconst 1, 1) := by decide +kernel
theorem d_Mo_step_141 : decode b_Mo_step 141 = .ok (.iand, 1) := by decide +kernel
theorem d_Mo_step_142 : decode b_Mo_step 142 = .ok (.ifCond .ne 7, 3) := by decide +kernel
theorem d_Mo_step_149 : decode b_Mo_step 149 = .ok (.aload_n 0, 1) := by decide +kernel
theorem d_Mo_step_145 : decode b_Mo_step 145 = .ok (.iconst 1, 1) := by decide +kernel
theorem d_Mo_step_146 : decode b_Mo_step 146 = .ok (.goto 7, 3) := by decide +kernel
theorem d_Mo_step_103 : decode b_Mo_step 103 = .ok (.aload_n 0, 1) := by decide +kernel
theorem d_Mo_step_104 : decode b_Mo_step 104 = .ok (.aload_n 0, 1) := by decide +kernel
theorem d_Mo_step_105 : decode b_Mo_step 105 = .ok (.getfield 133, 3) := by decide +kernel
theorem d_Mo_step_108 : decode b_Mo_step 108 = .ok (.aload_n 0, 1) := by decide +kernel
theorem d_Mo_step_109 : decode b_Mo_step 109 = .ok (.getfield 133, 3) := by decide +kernel
theorem d_Mo_step_112 : decode b_Mo_step 112 = .ok (.iconst 1, 1) := by decide +kernel
theorem d_Mo_step_113 : decode b_Mo_step 113 = .ok (.iand, 1) := by decide +kernel
theorem d_Mo_step_114 : decode b_Mo_step 114 = .ok (.ifCond .ne 7, 3) := by decide +kernel
theorem d_Mo_step_121 : decode b_Mo_step 121 = .ok (.aload_n 0, 1) := by decide +kernel
theorem d_Mo_step_117 : decode b_Mo_step 117 = .ok (.iconst 1, 1) := by decide +kernel
theorem d_Mo_step_118 : decode b_Mo_step 118 = .ok (.goto 7, 3) := by decide +kernel
theorem d_Mo_step_52 : decode b_Mo_step 52 = .ok (.aload_n 0, 1) := by decide +kernel
theorem d_Mo_step_53 : decode b_Mo_step 53 = .ok (.getfield 25, 3) := by decide +kernel
theorem d_Mo_step_56 : decode b_Mo_step 56 = .ok (.iload_n 1, 1) := by decide +kernel
theorem d_Mo_step_57 : decode b_Mo_step 57 = .ok (.aload_n 0, 1) := by decide +kernel
theorem d_Mo_step_58 : decode b_Mo_step 58 = .ok (.getfield 21, 3) := by decide +kernel
theorem d_Mo_step_61 : decode b_Mo_step 61 = .ok (.iload_n 1, 1) := by decide +kernel
theorem d_Mo_step_62 : decode b_Mo_step 62 = .ok (.baload, 1) := by decide +kernel
theorem d_Mo_step_63 : decode b_Mo_step 63 = .ok (.bastore, 1) := by decide +kernel
theorem d_Mo_step_64 : decode b_Mo_step 64 = .ok (.iinc 1 1, 3) := by decide +kernel
theorem d_Mo_step_67 : decode b_Mo_step 67 = .ok (.goto (-21), 3) := by decide +kernel
theorem d_Mo_step_26 : decode b_Mo_step 26 = .ok (.aload_n 0, 1) := by decide +kernel
theorem d_Mo_step_27 : decode b_Mo_step 27 = .ok (.getfield 18, 3) := by decide +kernel
theorem d_Mo_step_30 : decode b_Mo_step 30 = .ok (.iload_n 1, 1) := by decide +kernel
theorem d_Mo_step_31 : decode b_Mo_step 31 = .ok (.aload_n 0, 1) := by decide +kernel
theorem d_Mo_step_32 : decode b_Mo_step 32 = .ok (.getfield 14, 3) := by decide +kernel
theorem d_Mo_step_35 : decode b_Mo_step 35 = .ok (.iload_n 1, 1) := by decide +kernel
theorem d_Mo_step_36 : decode b_Mo_step 36 = .ok (.laload, 1) := by decide +kernel
theorem d_Mo_step_37 : decode b_Mo_step 37 = .ok (.lastore, 1) := by decide +kernel
theorem d_Mo_step_38 : decode b_Mo_step 38 = .ok (.iinc 1 1, 3) := by decide +kernel
theorem d_Mo_step_41 : decode b_Mo_step 41 = .ok (.goto (-21), 3) := by decide +kernel
theorem d_Mo_run_0 : decode b_Mo_run 0 = .ok (.iload_n 1, 1) := by decide +kernel
theorem d_Mo_run_1 : decode b_Mo_run 1 = .ok (.ifCond .lt 10, 3) := by decide +kernel
theorem d_Mo_run_11 : decode b_Mo_run 11 = .ok (.iconst 0, 1) := by decide +kernel
theorem d_Mo_run_12 : decode b_Mo_run 12 = .ok (.ireturn, 1) := by decide +kernel
theorem d_Mo_run_4 : decode b_Mo_run 4 = .ok (.iload_n 1, 1) := by decide +kernel
theorem d_Mo_run_5 : decode b_Mo_run 5 = .ok (.sipush 1000, 3) := by decide +kernel
theorem d_Mo_run_8 : decode b_Mo_run 8 = .ok (.if_icmp .le 5, 3) := by decide +kernel
theorem d_Mo_run_13 : decode b_Mo_run 13 = .ok (.iconst 0, 1) := by decide +kernel
theorem d_Mo_run_14 : decode b_Mo_run 14 = .ok (.istore_n 2, 1) := by decide +kernel
theorem d_Mo_run_15 : decode b_Mo_run 15 = .ok (.iload_n 2, 1) := by decide +kernel
theorem d_Mo_run_16 : decode b_Mo_run 16 = .ok (.iload_n 1, 1) := by decide +kernel
theorem d_Mo_run_17 : decode b_Mo_run 17 = .ok (.if_icmp .ge 19, 3) := by decide +kernel
theorem d_Mo_run_36 : decode b_Mo_run 36 = .ok (.iload_n 2, 1) := by decide +kernel
theorem d_Mo_run_37 : decode b_Mo_run 37 = .ok (.ireturn, 1) := by decide +kernel
theorem d_Mo_run_20 : decode b_Mo_run 20 = .ok (.aload_n 0, 1) := by decide +kernel
theorem d_Mo_run_21 : decode b_Mo_run 21 = .ok (.invokevirtual 466, 3) := by decide +kernel
theorem d_Mo_run_24 : decode b_Mo_run 24 = .ok (.iconst (-1), 1) := by decide +kernel
theorem d_Mo_run_25 : decode b_Mo_run 25 = .ok (.if_icmp .eq 5, 3) := by decide +kernel
theorem d_Mo_run_30 : decode b_Mo_run 30 = .ok (.iinc 2 1, 3) := by decide +kernel
theorem d_Mo_run_33 : decode b_Mo_run 33 = .ok (.goto (-18), 3) := by decide +kernel
theorem d_Mo_run_28 : decode b_Mo_run 28 = .ok (.iload_n 2, 1) := by decide +kernel
theorem d_Mo_run_29 : decode b_Mo_run 29 = .ok (.ireturn, 1) := by decide +kernel
theorem d_Mo_look_0 : decode b_Mo_look 0 = .ok (.iload_n 1, 1) := by decide +kernel
theorem d_Mo_look_1 : decode b_Mo_look 1 = .ok (.iload_n 2, 1) := by decide +kernel
theorem d_Mo_look_2 : decode b_Mo_look 2 = .ok (.invokestatic 461, 3) := by decide +kernel
theorem d_Mo_look_5 : decode b_Mo_look 5 = .ok (.lstore 4, 2) := by decide +kernel
theorem d_Mo_look_7 : decode b_Mo_look 7 = .ok (.lload 4, 2) := by decide +kernel
theorem d_Mo_look_9 : decode b_Mo_look 9 = .ok (.invokestatic 77, 3) := by decide +kernel
theorem d_Mo_look_12 : decode b_Mo_look 12 = .ok (.ifCond .eq 7, 3) := by decide +kernel
theorem d_Mo_look_19 : decode b_Mo_look 19 = .ok (.aload_n 0, 1) := by decide +kernel
theorem d_Mo_look_20 : decode b_Mo_look 20 = .ok (.lload 4, 2) := by decide +kernel
theorem d_Mo_look_22 : decode b_Mo_look 22 = .ok (.iload_n 3, 1) := by decide +kernel
theorem d_Mo_look_23 : decode b_Mo_look 23 = .ok (.iconst 1, 1) := by decide +kernel
theorem d_Mo_look_24 : decode b_Mo_look 24 = .ok (.if_icmp .ne 7, 3) := by decide +kernel
theorem d_Mo_look_31 : decode b_Mo_look 31 = .ok (.iload_n 3, 1) := by decide +kernel
theorem d_Mo_look_32 : decode b_Mo_look 32 = .ok (.iconst 2, 1) := by decide +kernel
theorem d_Mo_look_33 : decode b_Mo_look 33 = .ok (.if_icmp .ne 7, 3) := by decide +kernel
theorem d_Mo_look_40 : decode b_Mo_look 40 = .ok (.iconst 0, 1) := by decide +kernel
theorem d_Mo_look_41 : decode b_Mo_look 41 = .ok (.invokevirtual 85, 3) := by decide +kernel
theorem d_Mo_look_44 : decode b_Mo_look 44 = .ok (.lstore 6, 2) := by decide +kernel
theorem d_Mo_look_46 : decode b_Mo_look 46 = .ok (.lload 6, 2) := by decide +kernel
theorem d_Mo_look_48 : decode b_Mo_look 48 = .ok (.lconst 0, 1) := by decide +kernel
theorem d_Mo_look_49 : decode b_Mo_look 49 = .ok (.lcmp, 1) := by decide +kernel
theorem d_Mo_look_50 : decode b_Mo_look 50 = .ok (.ifCond .ge 15, 3) := by decide +kernel
theorem d_Mo_look_65 : decode b_Mo_look 65 = .ok (.lload 6, 2) := by decide +kernel
theorem d_Mo_look_67 : decode b_Mo_look 67 = .ok (.lreturn, 1) := by decide +kernel
theorem d_Mo_look_53 : decode b_Mo_look 53 = .ok (.ldc2_w 469, 3) := by decide +kernel
theorem d_Mo_look_56 : decode b_Mo_look 56 = .ok (.aload_n 0, 1) := by decide +kernel
theorem d_Mo_look_57 : decode b_Mo_look 57 = .ok (.getfield 68, 3) := by decide +kernel
theorem d_Mo_look_60 : decode b_Mo_look 60 = .ok (.i2l, 1) := by decide +kernel
theorem d_Mo_look_61 : decode b_Mo_look 61 = .ok (.lsub, 1) := by decide +kernel
theorem d_Mo_look_62 : decode b_Mo_look 62 = .ok (.goto 5, 3) := by decide +kernel
theorem d_Mo_look_36 : decode b_Mo_look 36 = .ok (.iconst 2, 1) := by decide +kernel
theorem d_Mo_look_37 : decode b_Mo_look 37 = .ok (.goto 4, 3) := by decide +kernel
theorem d_Mo_look_27 : decode b_Mo_look 27 = .ok (.iconst 1, 1) := by decide +kernel
theorem d_Mo_look_28 : decode b_Mo_look 28 = .ok (.goto 13, 3) := by decide +kernel
theorem d_Mo_look_15 : decode b_Mo_look 15 = .ok (.ldc2_w 71, 3) := by decide +kernel
theorem d_Mo_look_18 : decode b_Mo_look 18 = .ok (.lreturn, 1) := by decide +kernel
end
section
def z_K (ad : Nat → Nat) (ca : Nat → ClassId) (x : z_Sg) : va_W := [(ad 0, .inr (0, [.ref (ad 1), .ref (ad 3), .ref (ad 5), .ref (ad 6), .ref (ad 11), .ref (ad 14), .ref (ad 19), .ref (ad 20)])),
  (ad 1, .inr (8, [.ref (ad 2), .long (z_gL x 0), .long (z_gL x 1), .long (z_gL x 2), .long (z_gL x 3), .long (z_gL x 4), .long (z_gL x 5), .int (z_gI x 0), .int (z_gI x 1), .int (z_gI x 2)])),
  (ad 2, .inl (ca 0, 16, .inr (.inl (z_gM x 0)))),
  (ad 3, .inr (6, [.ref (ad 1), .ref (ad 4)])),
  (ad 4, .inl (ca 1, 4096, .inr (.inl (z_gM x 1)))),
  (ad 5, .inr (2, [.ref (ad 1), .ref (ad 3), .int (z_gI x 3), .long (z_gL x 6), .int (z_gI x 4), .long (z_gL x 7), .int (z_gI x 5), .int (z_gI x 6), .int (z_gI x 7), .int (z_gI x 8), .int (z_gI x 9), .long (z_gL x 8), .int (z_gI x 10), .int (z_gI x 11), .int (z_gI x 12), .int (z_gI x 13), .int (z_gI x 14), .long (z_gL x 9), .long (z_gL x 10)])),
  (ad 6, .inr (5, [.ref (ad 1), .ref (ad 5), .ref (ad 7), .int (z_gI x 15)])),
  (ad 7, .inr (7, [.ref (ad 3), .ref (ad 8), .int (z_gI x 16)])),
  (ad 8, .inl (ca 2, 8, .inr (.inl (z_gM x 2)))),
  (ad 9, .inr (1, [.ref (ad 1)])),
  (ad 10, .inr (11, [.ref (ad 9), .long (z_gL x 11), .long (z_gL x 12)])),
  (ad 11, .inr (3, [.ref (ad 1), .ref (ad 5), .ref (ad 6), .ref (ad 9), .ref (ad 12)])),
  (ad 12, .inr (7, [.ref (ad 3), .ref (ad 13), .int (z_gI x 17)])),
  (ad 13, .inl (ca 3, 8, .inr (.inl (z_gM x 3)))),
  (ad 14, .inr (9, [.ref (ad 1), .ref (ad 5), .ref (ad 6), .ref (ad 9), .ref (ad 15), .ref (ad 17)])),
  (ad 15, .inr (7, [.ref (ad 3), .ref (ad 16), .int (z_gI x 18)])),
  (ad 16, .inl (ca 4, 8, .inr (.inl (z_gM x 4)))),
  (ad 17, .inr (7, [.ref (ad 3), .ref (ad 18), .int (z_gI x 19)])),
  (ad 18, .inl (ca 5, 8, .inr (.inl (z_gM x 5)))),
  (ad 19, .inr (4, [.ref (ad 1), .ref (ad 5), .ref (ad 6), .ref (ad 9), .ref (ad 10)])),
  (ad 20, .inr (10, [.ref (ad 5), .ref (ad 6), .ref (ad 9), .ref (ad 10)]))]
def z_Kt (ca : Nat → ClassId) : List (ClassId × FieldType) := [(ca 0, .long), (ca 1, .long), (ca 2, .long), (ca 3, .long), (ca 4, .long), (ca 5, .long)]
section Zz_K
variable {p : Program} {l : Launch} {e : Env} {R : Room} {s : State} {m : MethodId} {args : Array Value} {below : List Frame} {meth : Method} {c : Code} {H : Heap} {locs : List Loc} {cells slots : Nat} {Q : State → Prop} {own : String} {cc : ByteArray} {nL : Nat} {ret : Option FieldType} {D : va_G} {A : Nat → Prop} {rest : List Value} {pc : Nat} {ls : Array Slot} {ad : Nat → Nat} {ca : Nat → ClassId} {x : z_Sg}
theorem gfK_0_state {idx : Nat} (C0 : z_cx own cc nL ret D (z_Kt ca) A p s m args meth c) (hw : z_wd D (z_K ad ca x) A s H locs) (hk : Cond.fieldLink own idx "LongModeCore" "state" "LLongModeCore$State;" ∈ z_tbl) (d : decode cc pc = .ok (.getfield idx, 3)) (kk : W p l e R s m args below meth c H locs cells slots Q (F0 m (pc + 3) ls (.ref (ad 1) :: rest))) : W p l e R s m args below meth c H locs cells slots Q (F0 m pc ls (.ref (ad 0) :: rest)) := z_get C0 hw z_iCo 0 rfl rfl 0 (by decide) hk rfl d kk
theorem gfK_0_pages {idx : Nat} (C0 : z_cx own cc nL ret D (z_Kt ca) A p s m args meth c) (hw : z_wd D (z_K ad ca x) A s H locs) (hk : Cond.fieldLink own idx "LongModeCore" "pages" "LLongModeCore$Pages;" ∈ z_tbl) (d : decode cc pc = .ok (.getfield idx, 3)) (kk : W p l e R s m args below meth c H locs cells slots Q (F0 m (pc + 3) ls (.ref (ad 3) :: rest))) : W p l e R s m args below meth c H locs cells slots Q (F0 m pc ls (.ref (ad 0) :: rest)) := z_get C0 hw z_iCo 0 rfl rfl 1 (by decide) hk rfl d kk
theorem gfK_0_decoder {idx : Nat} (C0 : z_cx own cc nL ret D (z_Kt ca) A p s m args meth c) (hw : z_wd D (z_K ad ca x) A s H locs) (hk : Cond.fieldLink own idx "LongModeCore" "decoder" "LLongModeCore$Decoder;" ∈ z_tbl) (d : decode cc pc = .ok (.getfield idx, 3)) (kk : W p l e R s m args below meth c H locs cells slots Q (F0 m (pc + 3) ls (.ref (ad 5) :: rest))) : W p l e R s m args below meth c H locs cells slots Q (F0 m pc ls (.ref (ad 0) :: rest)) := z_get C0 hw z_iCo 0 rfl rfl 2 (by decide) hk rfl d kk
theorem gfK_0_operands {idx : Nat} (C0 : z_cx own cc nL ret D (z_Kt ca) A p s m args meth c) (hw : z_wd D (z_K ad ca x) A s H locs) (hk : Cond.fieldLink own idx "LongModeCore" "operands" "LLongModeCore$Operands;" ∈ z_tbl) (d : decode cc pc = .ok (.getfield idx, 3)) (kk : W p l e R s m args below meth c H locs cells slots Q (F0 m (pc + 3) ls (.ref (ad 6) :: rest))) : W p l e R s m args below meth c H locs cells slots Q (F0 m pc ls (.ref (ad 0) :: rest)) := z_get C0 hw z_iCo 0 rfl rfl 3 (by decide) hk rfl d kk
theorem gfK_0_flow {idx : Nat} (C0 : z_cx own cc nL ret D (z_Kt ca) A p s m args meth c) (hw : z_wd D (z_K ad ca x) A s H locs) (hk : Cond.fieldLink own idx "LongModeCore" "flow" "LLongModeCore$Flow;" ∈ z_tbl) (d : decode cc pc = .ok (.getfield idx, 3)) (kk : W p l e R s m args below meth c H locs cells slots Q (F0 m (pc + 3) ls (.ref (ad 11) :: rest))) : W p l e R s m args below meth c H locs cells slots Q (F0 m pc ls (.ref (ad 0) :: rest)) := z_get C0 hw z_iCo 0 rfl rfl 4 (by decide) hk rfl d kk
theorem gfK_0_strings {idx : Nat} (C0 : z_cx own cc nL ret D (z_Kt ca) A p s m args meth c) (hw : z_wd D (z_K ad ca x) A s H locs) (hk : Cond.fieldLink own idx "LongModeCore" "strings" "LLongModeCore$Strings;" ∈ z_tbl) (d : decode cc pc = .ok (.getfield idx, 3)) (kk : W p l e R s m args below meth c H locs cells slots Q (F0 m (pc + 3) ls (.ref (ad 14) :: rest))) : W p l e R s m args below meth c H locs cells slots Q (F0 m pc ls (.ref (ad 0) :: rest)) := z_get C0 hw z_iCo 0 rfl rfl 5 (by decide) hk rfl d kk
theorem gfK_0_oneByte {idx : Nat} (C0 : z_cx own cc nL ret D (z_Kt ca) A p s m args meth c) (hw : z_wd D (z_K ad ca x) A s H locs) (hk : Cond.fieldLink own idx "LongModeCore" "oneByte" "LLongModeCore$OneByte;" ∈ z_tbl) (d : decode cc pc = .ok (.getfield idx, 3)) (kk : W p l e R s m args below meth c H locs cells slots Q (F0 m (pc + 3) ls (.ref (ad 19) :: rest))) : W p l e R s m args below meth c H locs cells slots Q (F0 m pc ls (.ref (ad 0) :: rest)) := z_get C0 hw z_iCo 0 rfl rfl 6 (by decide) hk rfl d kk
theorem gfK_0_twoByte {idx : Nat} (C0 : z_cx own cc nL ret D (z_Kt ca) A p s m args meth c) (hw : z_wd D (z_K ad ca x) A s H locs) (hk : Cond.fieldLink own idx "LongModeCore" "twoByte" "LLongModeCore$TwoByte;" ∈ z_tbl) (d : decode cc pc = .ok (.getfield idx, 3)) (kk : W p l e R s m args below meth c H locs cells slots Q (F0 m (pc + 3) ls (.ref (ad 20) :: rest))) : W p l e R s m args below meth c H locs cells slots Q (F0 m pc ls (.ref (ad 0) :: rest)) := z_get C0 hw z_iCo 0 rfl rfl 7 (by decide) hk rfl d kk
theorem gfK_1_registers {idx : Nat} (C0 : z_cx own cc nL ret D (z_Kt ca) A p s m args meth c) (hw : z_wd D (z_K ad ca x) A s H locs) (hk : Cond.fieldLink own idx "LongModeCore$State" "registers" "[J" ∈ z_tbl) (d : decode cc pc = .ok (.getfield idx, 3)) (kk : W p l e R s m args below meth c H locs cells slots Q (F0 m (pc + 3) ls (.ref (ad 2) :: rest))) : W p l e R s m args below meth c H locs cells slots Q (F0 m pc ls (.ref (ad 1) :: rest)) := z_get C0 hw z_iSt 1 rfl rfl 0 (by decide) hk rfl d kk
theorem gfK_1_next {idx : Nat} (C0 : z_cx own cc nL ret D (z_Kt ca) A p s m args meth c) (hw : z_wd D (z_K ad ca x) A s H locs) (hk : Cond.fieldLink own idx "LongModeCore$State" "next" "J" ∈ z_tbl) (d : decode cc pc = .ok (.getfield idx, 3)) (kk : W p l e R s m args below meth c H locs cells slots Q (F0 m (pc + 3) ls (.long (z_gL x 0) :: rest))) : W p l e R s m args below meth c H locs cells slots Q (F0 m pc ls (.ref (ad 1) :: rest)) := z_get C0 hw z_iSt 1 rfl rfl 1 (by decide) hk rfl d kk
theorem pfK_1_next {idx : Nat} {v : Int64} (C0 : z_cx own cc nL ret D (z_Kt ca) A p s m args meth c) (hw : z_wd D (z_K ad ca x) A s H locs) (hk : Cond.fieldLink own idx "LongModeCore$State" "next" "J" ∈ z_tbl) (d : decode cc pc = .ok (.putfield idx, 3)) (kk : ∀ (H : Heap) (locs : List Loc), z_wd D (z_K ad ca (z_sL x 0 v)) A s H locs → W p l e R s m args below meth c H locs cells slots Q (F0 m (pc + 3) ls rest)) : W p l e R s m args below meth c H locs cells slots Q (F0 m pc ls (.long v :: .ref (ad 1) :: rest)) := z_put (ty := .long) C0 hw z_iSt z_ySt z_kSt z_nSt 1 rfl rfl 1 (by decide) hk rfl (by decide +kernel) rfl rfl (Nat.le_of_ble_eq_true rfl) d rfl kk
theorem gfK_1_table {idx : Nat} (C0 : z_cx own cc nL ret D (z_Kt ca) A p s m args meth c) (hw : z_wd D (z_K ad ca x) A s H locs) (hk : Cond.fieldLink own idx "LongModeCore$State" "table" "J" ∈ z_tbl) (d : decode cc pc = .ok (.getfield idx, 3)) (kk : W p l e R s m args below meth c H locs cells slots Q (F0 m (pc + 3) ls (.long (z_gL x 1) :: rest))) : W p l e R s m args below meth c H locs cells slots Q (F0 m pc ls (.ref (ad 1) :: rest)) := z_get C0 hw z_iSt 1 rfl rfl 2 (by decide) hk rfl d kk
theorem pfK_1_table {idx : Nat} {v : Int64} (C0 : z_cx own cc nL ret D (z_Kt ca) A p s m args meth c) (hw : z_wd D (z_K ad ca x) A s H locs) (hk : Cond.fieldLink own idx "LongModeCore$State" "table" "J" ∈ z_tbl) (d : decode cc pc = .ok (.putfield idx, 3)) (kk : ∀ (H : Heap) (locs : List Loc), z_wd D (z_K ad ca (z_sL x 1 v)) A s H locs → W p l e R s m args below meth c H locs cells slots Q (F0 m (pc + 3) ls rest)) : W p l e R s m args below meth c H locs cells slots Q (F0 m pc ls (.long v :: .ref (ad 1) :: rest)) := z_put (ty := .long) C0 hw z_iSt z_ySt z_kSt z_nSt 1 rfl rfl 2 (by decide) hk rfl (by decide +kernel) rfl rfl (Nat.le_of_ble_eq_true rfl) d rfl kk
theorem gfK_1_entry {idx : Nat} (C0 : z_cx own cc nL ret D (z_Kt ca) A p s m args meth c) (hw : z_wd D (z_K ad ca x) A s H locs) (hk : Cond.fieldLink own idx "LongModeCore$State" "entry" "J" ∈ z_tbl) (d : decode cc pc = .ok (.getfield idx, 3)) (kk : W p l e R s m args below meth c H locs cells slots Q (F0 m (pc + 3) ls (.long (z_gL x 2) :: rest))) : W p l e R s m args below meth c H locs cells slots Q (F0 m pc ls (.ref (ad 1) :: rest)) := z_get C0 hw z_iSt 1 rfl rfl 3 (by decide) hk rfl d kk
theorem pfK_1_entry {idx : Nat} {v : Int64} (C0 : z_cx own cc nL ret D (z_Kt ca) A p s m args meth c) (hw : z_wd D (z_K ad ca x) A s H locs) (hk : Cond.fieldLink own idx "LongModeCore$State" "entry" "J" ∈ z_tbl) (d : decode cc pc = .ok (.putfield idx, 3)) (kk : ∀ (H : Heap) (locs : List Loc), z_wd D (z_K ad ca (z_sL x 2 v)) A s H locs → W p l e R s m args below meth c H locs cells slots Q (F0 m (pc + 3) ls rest)) : W p l e R s m args below meth c H locs cells slots Q (F0 m pc ls (.long v :: .ref (ad 1) :: rest)) := z_put (ty := .long) C0 hw z_iSt z_ySt z_kSt z_nSt 1 rfl rfl 3 (by decide) hk rfl (by decide +kernel) rfl rfl (Nat.le_of_ble_eq_true rfl) d rfl kk
theorem gfK_1_mask {idx : Nat} (C0 : z_cx own cc nL ret D (z_Kt ca) A p s m args meth c) (hw : z_wd D (z_K ad ca x) A s H locs) (hk : Cond.fieldLink own idx "LongModeCore$State" "mask" "J" ∈ z_tbl) (d : decode cc pc = .ok (.getfield idx, 3)) (kk : W p l e R s m args below meth c H locs cells slots Q (F0 m (pc + 3) ls (.long (z_gL x 3) :: rest))) : W p l e R s m args below meth c H locs cells slots Q (F0 m pc ls (.ref (ad 1) :: rest)) := z_get C0 hw z_iSt 1 rfl rfl 4 (by decide) hk rfl d kk
theorem pfK_1_mask {idx : Nat} {v : Int64} (C0 : z_cx own cc nL ret D (z_Kt ca) A p s m args meth c) (hw : z_wd D (z_K ad ca x) A s H locs) (hk : Cond.fieldLink own idx "LongModeCore$State" "mask" "J" ∈ z_tbl) (d : decode cc pc = .ok (.putfield idx, 3)) (kk : ∀ (H : Heap) (locs : List Loc), z_wd D (z_K ad ca (z_sL x 3 v)) A s H locs → W p l e R s m args below meth c H locs cells slots Q (F0 m (pc + 3) ls rest)) : W p l e R s m args below meth c H locs cells slots Q (F0 m pc ls (.long v :: .ref (ad 1) :: rest)) := z_put (ty := .long) C0 hw z_iSt z_ySt z_kSt z_nSt 1 rfl rfl 4 (by decide) hk rfl (by decide +kernel) rfl rfl (Nat.le_of_ble_eq_true rfl) d rfl kk
theorem gfK_1_undefined {idx : Nat} (C0 : z_cx own cc nL ret D (z_Kt ca) A p s m args meth c) (hw : z_wd D (z_K ad ca x) A s H locs) (hk : Cond.fieldLink own idx "LongModeCore$State" "undefined" "J" ∈ z_tbl) (d : decode cc pc = .ok (.getfield idx, 3)) (kk : W p l e R s m args below meth c H locs cells slots Q (F0 m (pc + 3) ls (.long (z_gL x 4) :: rest))) : W p l e R s m args below meth c H locs cells slots Q (F0 m pc ls (.ref (ad 1) :: rest)) := z_get C0 hw z_iSt 1 rfl rfl 5 (by decide) hk rfl d kk
theorem pfK_1_undefined {idx : Nat} {v : Int64} (C0 : z_cx own cc nL ret D (z_Kt ca) A p s m args meth c) (hw : z_wd D (z_K ad ca x) A s H locs) (hk : Cond.fieldLink own idx "LongModeCore$State" "undefined" "J" ∈ z_tbl) (d : decode cc pc = .ok (.putfield idx, 3)) (kk : ∀ (H : Heap) (locs : List Loc), z_wd D (z_K ad ca (z_sL x 4 v)) A s H locs → W p l e R s m args below meth c H locs cells slots Q (F0 m (pc + 3) ls rest)) : W p l e R s m args below meth c H locs cells slots Q (F0 m pc ls (.long v :: .ref (ad 1) :: rest)) := z_put (ty := .long) C0 hw z_iSt z_ySt z_kSt z_nSt 1 rfl rfl 5 (by decide) hk rfl (by decide +kernel) rfl rfl (Nat.le_of_ble_eq_true rfl) d rfl kk
theorem gfK_1_fault {idx : Nat} (C0 : z_cx own cc nL ret D (z_Kt ca) A p s m args meth c) (hw : z_wd D (z_K ad ca x) A s H locs) (hk : Cond.fieldLink own idx "LongModeCore$State" "fault" "J" ∈ z_tbl) (d : decode cc pc = .ok (.getfield idx, 3)) (kk : W p l e R s m args below meth c H locs cells slots Q (F0 m (pc + 3) ls (.long (z_gL x 5) :: rest))) : W p l e R s m args below meth c H locs cells slots Q (F0 m pc ls (.ref (ad 1) :: rest)) := z_get C0 hw z_iSt 1 rfl rfl 6 (by decide) hk rfl d kk
theorem pfK_1_fault {idx : Nat} {v : Int64} (C0 : z_cx own cc nL ret D (z_Kt ca) A p s m args meth c) (hw : z_wd D (z_K ad ca x) A s H locs) (hk : Cond.fieldLink own idx "LongModeCore$State" "fault" "J" ∈ z_tbl) (d : decode cc pc = .ok (.putfield idx, 3)) (kk : ∀ (H : Heap) (locs : List Loc), z_wd D (z_K ad ca (z_sL x 5 v)) A s H locs → W p l e R s m args below meth c H locs cells slots Q (F0 m (pc + 3) ls rest)) : W p l e R s m args below meth c H locs cells slots Q (F0 m pc ls (.long v :: .ref (ad 1) :: rest)) := z_put (ty := .long) C0 hw z_iSt z_ySt z_kSt z_nSt 1 rfl rfl 6 (by decide) hk rfl (by decide +kernel) rfl rfl (Nat.le_of_ble_eq_true rfl) d rfl kk
theorem gfK_1_flags {idx : Nat} (C0 : z_cx own cc nL ret D (z_Kt ca) A p s m args meth c) (hw : z_wd D (z_K ad ca x) A s H locs) (hk : Cond.fieldLink own idx "LongModeCore$State" "flags" "I" ∈ z_tbl) (d : decode cc pc = .ok (.getfield idx, 3)) (kk : W p l e R s m args below meth c H locs cells slots Q (F0 m (pc + 3) ls (.int (z_gI x 0) :: rest))) : W p l e R s m args below meth c H locs cells slots Q (F0 m pc ls (.ref (ad 1) :: rest)) := z_get C0 hw z_iSt 1 rfl rfl 7 (by decide) hk rfl d kk
theorem pfK_1_flags {idx : Nat} {v : Int32} (C0 : z_cx own cc nL ret D (z_Kt ca) A p s m args meth c) (hw : z_wd D (z_K ad ca x) A s H locs) (hk : Cond.fieldLink own idx "LongModeCore$State" "flags" "I" ∈ z_tbl) (d : decode cc pc = .ok (.putfield idx, 3)) (kk : ∀ (H : Heap) (locs : List Loc), z_wd D (z_K ad ca (z_sI x 0 v)) A s H locs → W p l e R s m args below meth c H locs cells slots Q (F0 m (pc + 3) ls rest)) : W p l e R s m args below meth c H locs cells slots Q (F0 m pc ls (.int v :: .ref (ad 1) :: rest)) := z_put (ty := .int) C0 hw z_iSt z_ySt z_kSt z_nSt 1 rfl rfl 7 (by decide) hk rfl (by decide +kernel) rfl rfl (Nat.le_of_ble_eq_true rfl) d rfl kk
theorem gfK_1_code {idx : Nat} (C0 : z_cx own cc nL ret D (z_Kt ca) A p s m args meth c) (hw : z_wd D (z_K ad ca x) A s H locs) (hk : Cond.fieldLink own idx "LongModeCore$State" "code" "I" ∈ z_tbl) (d : decode cc pc = .ok (.getfield idx, 3)) (kk : W p l e R s m args below meth c H locs cells slots Q (F0 m (pc + 3) ls (.int (z_gI x 1) :: rest))) : W p l e R s m args below meth c H locs cells slots Q (F0 m pc ls (.ref (ad 1) :: rest)) := z_get C0 hw z_iSt 1 rfl rfl 8 (by decide) hk rfl d kk
theorem pfK_1_code {idx : Nat} {v : Int32} (C0 : z_cx own cc nL ret D (z_Kt ca) A p s m args meth c) (hw : z_wd D (z_K ad ca x) A s H locs) (hk : Cond.fieldLink own idx "LongModeCore$State" "code" "I" ∈ z_tbl) (d : decode cc pc = .ok (.putfield idx, 3)) (kk : ∀ (H : Heap) (locs : List Loc), z_wd D (z_K ad ca (z_sI x 1 v)) A s H locs → W p l e R s m args below meth c H locs cells slots Q (F0 m (pc + 3) ls rest)) : W p l e R s m args below meth c H locs cells slots Q (F0 m pc ls (.int v :: .ref (ad 1) :: rest)) := z_put (ty := .int) C0 hw z_iSt z_ySt z_kSt z_nSt 1 rfl rfl 8 (by decide) hk rfl (by decide +kernel) rfl rfl (Nat.le_of_ble_eq_true rfl) d rfl kk
theorem gfK_1_user {idx : Nat} (C0 : z_cx own cc nL ret D (z_Kt ca) A p s m args meth c) (hw : z_wd D (z_K ad ca x) A s H locs) (hk : Cond.fieldLink own idx "LongModeCore$State" "user" "Z" ∈ z_tbl) (d : decode cc pc = .ok (.getfield idx, 3)) (kk : W p l e R s m args below meth c H locs cells slots Q (F0 m (pc + 3) ls (.int (z_gI x 2) :: rest))) : W p l e R s m args below meth c H locs cells slots Q (F0 m pc ls (.ref (ad 1) :: rest)) := z_get C0 hw z_iSt 1 rfl rfl 9 (by decide) hk rfl d kk
theorem pfK_1_user {idx : Nat} {v : Int32} (C0 : z_cx own cc nL ret D (z_Kt ca) A p s m args meth c) (hw : z_wd D (z_K ad ca x) A s H locs) (hv : z_bo v) (hk : Cond.fieldLink own idx "LongModeCore$State" "user" "Z" ∈ z_tbl) (d : decode cc pc = .ok (.putfield idx, 3)) (kk : ∀ (H : Heap) (locs : List Loc), z_wd D (z_K ad ca (z_sI x 2 v)) A s H locs → W p l e R s m args below meth c H locs cells slots Q (F0 m (pc + 3) ls rest)) : W p l e R s m args below meth c H locs cells slots Q (F0 m pc ls (.int v :: .ref (ad 1) :: rest)) := z_put (ty := .boolean) C0 hw z_iSt z_ySt z_kSt z_nSt 1 rfl rfl 9 (by decide) hk rfl (by decide +kernel) (z_bo_n hv) (z_bo_f hv) (Nat.le_of_ble_eq_true rfl) d rfl kk
theorem gfK_3_state {idx : Nat} (C0 : z_cx own cc nL ret D (z_Kt ca) A p s m args meth c) (hw : z_wd D (z_K ad ca x) A s H locs) (hk : Cond.fieldLink own idx "LongModeCore$Pages" "state" "LLongModeCore$State;" ∈ z_tbl) (d : decode cc pc = .ok (.getfield idx, 3)) (kk : W p l e R s m args below meth c H locs cells slots Q (F0 m (pc + 3) ls (.ref (ad 1) :: rest))) : W p l e R s m args below meth c H locs cells slots Q (F0 m pc ls (.ref (ad 3) :: rest)) := z_get C0 hw z_iPa 3 rfl rfl 0 (by decide) hk rfl d kk
theorem gfK_3_words {idx : Nat} (C0 : z_cx own cc nL ret D (z_Kt ca) A p s m args meth c) (hw : z_wd D (z_K ad ca x) A s H locs) (hk : Cond.fieldLink own idx "LongModeCore$Pages" "words" "[J" ∈ z_tbl) (d : decode cc pc = .ok (.getfield idx, 3)) (kk : W p l e R s m args below meth c H locs cells slots Q (F0 m (pc + 3) ls (.ref (ad 4) :: rest))) : W p l e R s m args below meth c H locs cells slots Q (F0 m pc ls (.ref (ad 3) :: rest)) := z_get C0 hw z_iPa 3 rfl rfl 1 (by decide) hk rfl d kk
theorem gfK_5_state {idx : Nat} (C0 : z_cx own cc nL ret D (z_Kt ca) A p s m args meth c) (hw : z_wd D (z_K ad ca x) A s H locs) (hk : Cond.fieldLink own idx "LongModeCore$Decoder" "state" "LLongModeCore$State;" ∈ z_tbl) (d : decode cc pc = .ok (.getfield idx, 3)) (kk : W p l e R s m args below meth c H locs cells slots Q (F0 m (pc + 3) ls (.ref (ad 1) :: rest))) : W p l e R s m args below meth c H locs cells slots Q (F0 m pc ls (.ref (ad 5) :: rest)) := z_get C0 hw z_iDe 5 rfl rfl 0 (by decide) hk rfl d kk
theorem gfK_5_pages {idx : Nat} (C0 : z_cx own cc nL ret D (z_Kt ca) A p s m args meth c) (hw : z_wd D (z_K ad ca x) A s H locs) (hk : Cond.fieldLink own idx "LongModeCore$Decoder" "pages" "LLongModeCore$Pages;" ∈ z_tbl) (d : decode cc pc = .ok (.getfield idx, 3)) (kk : W p l e R s m args below meth c H locs cells slots Q (F0 m (pc + 3) ls (.ref (ad 3) :: rest))) : W p l e R s m args below meth c H locs cells slots Q (F0 m pc ls (.ref (ad 5) :: rest)) := z_get C0 hw z_iDe 5 rfl rfl 1 (by decide) hk rfl d kk
theorem gfK_5_count {idx : Nat} (C0 : z_cx own cc nL ret D (z_Kt ca) A p s m args meth c) (hw : z_wd D (z_K ad ca x) A s H locs) (hk : Cond.fieldLink own idx "LongModeCore$Decoder" "count" "I" ∈ z_tbl) (d : decode cc pc = .ok (.getfield idx, 3)) (kk : W p l e R s m args below meth c H locs cells slots Q (F0 m (pc + 3) ls (.int (z_gI x 3) :: rest))) : W p l e R s m args below meth c H locs cells slots Q (F0 m pc ls (.ref (ad 5) :: rest)) := z_get C0 hw z_iDe 5 rfl rfl 2 (by decide) hk rfl d kk
theorem pfK_5_count {idx : Nat} {v : Int32} (C0 : z_cx own cc nL ret D (z_Kt ca) A p s m args meth c) (hw : z_wd D (z_K ad ca x) A s H locs) (hk : Cond.fieldLink own idx "LongModeCore$Decoder" "count" "I" ∈ z_tbl) (d : decode cc pc = .ok (.putfield idx, 3)) (kk : ∀ (H : Heap) (locs : List Loc), z_wd D (z_K ad ca (z_sI x 3 v)) A s H locs → W p l e R s m args below meth c H locs cells slots Q (F0 m (pc + 3) ls rest)) : W p l e R s m args below meth c H locs cells slots Q (F0 m pc ls (.int v :: .ref (ad 5) :: rest)) := z_put (ty := .int) C0 hw z_iDe z_yDe z_kDe z_nDe 5 rfl rfl 2 (by decide) hk rfl (by decide +kernel) rfl rfl (Nat.le_of_ble_eq_true rfl) d rfl kk
theorem gfK_5_found {idx : Nat} (C0 : z_cx own cc nL ret D (z_Kt ca) A p s m args meth c) (hw : z_wd D (z_K ad ca x) A s H locs) (hk : Cond.fieldLink own idx "LongModeCore$Decoder" "found" "J" ∈ z_tbl) (d : decode cc pc = .ok (.getfield idx, 3)) (kk : W p l e R s m args below meth c H locs cells slots Q (F0 m (pc + 3) ls (.long (z_gL x 6) :: rest))) : W p l e R s m args below meth c H locs cells slots Q (F0 m pc ls (.ref (ad 5) :: rest)) := z_get C0 hw z_iDe 5 rfl rfl 3 (by decide) hk rfl d kk
theorem pfK_5_found {idx : Nat} {v : Int64} (C0 : z_cx own cc nL ret D (z_Kt ca) A p s m args meth c) (hw : z_wd D (z_K ad ca x) A s H locs) (hk : Cond.fieldLink own idx "LongModeCore$Decoder" "found" "J" ∈ z_tbl) (d : decode cc pc = .ok (.putfield idx, 3)) (kk : ∀ (H : Heap) (locs : List Loc), z_wd D (z_K ad ca (z_sL x 6 v)) A s H locs → W p l e R s m args below meth c H locs cells slots Q (F0 m (pc + 3) ls rest)) : W p l e R s m args below meth c H locs cells slots Q (F0 m pc ls (.long v :: .ref (ad 5) :: rest)) := z_put (ty := .long) C0 hw z_iDe z_yDe z_kDe z_nDe 5 rfl rfl 3 (by decide) hk rfl (by decide +kernel) rfl rfl (Nat.le_of_ble_eq_true rfl) d rfl kk
theorem gfK_5_last {idx : Nat} (C0 : z_cx own cc nL ret D (z_Kt ca) A p s m args meth c) (hw : z_wd D (z_K ad ca x) A s H locs) (hk : Cond.fieldLink own idx "LongModeCore$Decoder" "last" "I" ∈ z_tbl) (d : decode cc pc = .ok (.getfield idx, 3)) (kk : W p l e R s m args below meth c H locs cells slots Q (F0 m (pc + 3) ls (.int (z_gI x 4) :: rest))) : W p l e R s m args below meth c H locs cells slots Q (F0 m pc ls (.ref (ad 5) :: rest)) := z_get C0 hw z_iDe 5 rfl rfl 4 (by decide) hk rfl d kk
theorem pfK_5_last {idx : Nat} {v : Int32} (C0 : z_cx own cc nL ret D (z_Kt ca) A p s m args meth c) (hw : z_wd D (z_K ad ca x) A s H locs) (hk : Cond.fieldLink own idx "LongModeCore$Decoder" "last" "I" ∈ z_tbl) (d : decode cc pc = .ok (.putfield idx, 3)) (kk : ∀ (H : Heap) (locs : List Loc), z_wd D (z_K ad ca (z_sI x 4 v)) A s H locs → W p l e R s m args below meth c H locs cells slots Q (F0 m (pc + 3) ls rest)) : W p l e R s m args below meth c H locs cells slots Q (F0 m pc ls (.int v :: .ref (ad 5) :: rest)) := z_put (ty := .int) C0 hw z_iDe z_yDe z_kDe z_nDe 5 rfl rfl 4 (by decide) hk rfl (by decide +kernel) rfl rfl (Nat.le_of_ble_eq_true rfl) d rfl kk
theorem gfK_5_fetched {idx : Nat} (C0 : z_cx own cc nL ret D (z_Kt ca) A p s m args meth c) (hw : z_wd D (z_K ad ca x) A s H locs) (hk : Cond.fieldLink own idx "LongModeCore$Decoder" "fetched" "J" ∈ z_tbl) (d : decode cc pc = .ok (.getfield idx, 3)) (kk : W p l e R s m args below meth c H locs cells slots Q (F0 m (pc + 3) ls (.long (z_gL x 7) :: rest))) : W p l e R s m args below meth c H locs cells slots Q (F0 m pc ls (.ref (ad 5) :: rest)) := z_get C0 hw z_iDe 5 rfl rfl 5 (by decide) hk rfl d kk
theorem pfK_5_fetched {idx : Nat} {v : Int64} (C0 : z_cx own cc nL ret D (z_Kt ca) A p s m args meth c) (hw : z_wd D (z_K ad ca x) A s H locs) (hk : Cond.fieldLink own idx "LongModeCore$Decoder" "fetched" "J" ∈ z_tbl) (d : decode cc pc = .ok (.putfield idx, 3)) (kk : ∀ (H : Heap) (locs : List Loc), z_wd D (z_K ad ca (z_sL x 7 v)) A s H locs → W p l e R s m args below meth c H locs cells slots Q (F0 m (pc + 3) ls rest)) : W p l e R s m args below meth c H locs cells slots Q (F0 m pc ls (.long v :: .ref (ad 5) :: rest)) := z_put (ty := .long) C0 hw z_iDe z_yDe z_kDe z_nDe 5 rfl rfl 5 (by decide) hk rfl (by decide +kernel) rfl rfl (Nat.le_of_ble_eq_true rfl) d rfl kk
theorem gfK_5_shortened {idx : Nat} (C0 : z_cx own cc nL ret D (z_Kt ca) A p s m args meth c) (hw : z_wd D (z_K ad ca x) A s H locs) (hk : Cond.fieldLink own idx "LongModeCore$Decoder" "shortened" "Z" ∈ z_tbl) (d : decode cc pc = .ok (.getfield idx, 3)) (kk : W p l e R s m args below meth c H locs cells slots Q (F0 m (pc + 3) ls (.int (z_gI x 5) :: rest))) : W p l e R s m args below meth c H locs cells slots Q (F0 m pc ls (.ref (ad 5) :: rest)) := z_get C0 hw z_iDe 5 rfl rfl 6 (by decide) hk rfl d kk
theorem pfK_5_shortened {idx : Nat} {v : Int32} (C0 : z_cx own cc nL ret D (z_Kt ca) A p s m args meth c) (hw : z_wd D (z_K ad ca x) A s H locs) (hv : z_bo v) (hk : Cond.fieldLink own idx "LongModeCore$Decoder" "shortened" "Z" ∈ z_tbl) (d : decode cc pc = .ok (.putfield idx, 3)) (kk : ∀ (H : Heap) (locs : List Loc), z_wd D (z_K ad ca (z_sI x 5 v)) A s H locs → W p l e R s m args below meth c H locs cells slots Q (F0 m (pc + 3) ls rest)) : W p l e R s m args below meth c H locs cells slots Q (F0 m pc ls (.int v :: .ref (ad 5) :: rest)) := z_put (ty := .boolean) C0 hw z_iDe z_yDe z_kDe z_nDe 5 rfl rfl 6 (by decide) hk rfl (by decide +kernel) (z_bo_n hv) (z_bo_f hv) (Nat.le_of_ble_eq_true rfl) d rfl kk
theorem gfK_5_rex {idx : Nat} (C0 : z_cx own cc nL ret D (z_Kt ca) A p s m args meth c) (hw : z_wd D (z_K ad ca x) A s H locs) (hk : Cond.fieldLink own idx "LongModeCore$Decoder" "rex" "I" ∈ z_tbl) (d : decode cc pc = .ok (.getfield idx, 3)) (kk : W p l e R s m args below meth c H locs cells slots Q (F0 m (pc + 3) ls (.int (z_gI x 6) :: rest))) : W p l e R s m args below meth c H locs cells slots Q (F0 m pc ls (.ref (ad 5) :: rest)) := z_get C0 hw z_iDe 5 rfl rfl 7 (by decide) hk rfl d kk
theorem pfK_5_rex {idx : Nat} {v : Int32} (C0 : z_cx own cc nL ret D (z_Kt ca) A p s m args meth c) (hw : z_wd D (z_K ad ca x) A s H locs) (hk : Cond.fieldLink own idx "LongModeCore$Decoder" "rex" "I" ∈ z_tbl) (d : decode cc pc = .ok (.putfield idx, 3)) (kk : ∀ (H : Heap) (locs : List Loc), z_wd D (z_K ad ca (z_sI x 6 v)) A s H locs → W p l e R s m args below meth c H locs cells slots Q (F0 m (pc + 3) ls rest)) : W p l e R s m args below meth c H locs cells slots Q (F0 m pc ls (.int v :: .ref (ad 5) :: rest)) := z_put (ty := .int) C0 hw z_iDe z_yDe z_kDe z_nDe 5 rfl rfl 7 (by decide) hk rfl (by decide +kernel) rfl rfl (Nat.le_of_ble_eq_true rfl) d rfl kk
theorem gfK_5_base {idx : Nat} (C0 : z_cx own cc nL ret D (z_Kt ca) A p s m args meth c) (hw : z_wd D (z_K ad ca x) A s H locs) (hk : Cond.fieldLink own idx "LongModeCore$Decoder" "base" "I" ∈ z_tbl) (d : decode cc pc = .ok (.getfield idx, 3)) (kk : W p l e R s m args below meth c H locs cells slots Q (F0 m (pc + 3) ls (.int (z_gI x 7) :: rest))) : W p l e R s m args below meth c H locs cells slots Q (F0 m pc ls (.ref (ad 5) :: rest)) := z_get C0 hw z_iDe 5 rfl rfl 8 (by decide) hk rfl d kk
theorem pfK_5_base {idx : Nat} {v : Int32} (C0 : z_cx own cc nL ret D (z_Kt ca) A p s m args meth c) (hw : z_wd D (z_K ad ca x) A s H locs) (hk : Cond.fieldLink own idx "LongModeCore$Decoder" "base" "I" ∈ z_tbl) (d : decode cc pc = .ok (.putfield idx, 3)) (kk : ∀ (H : Heap) (locs : List Loc), z_wd D (z_K ad ca (z_sI x 7 v)) A s H locs → W p l e R s m args below meth c H locs cells slots Q (F0 m (pc + 3) ls rest)) : W p l e R s m args below meth c H locs cells slots Q (F0 m pc ls (.int v :: .ref (ad 5) :: rest)) := z_put (ty := .int) C0 hw z_iDe z_yDe z_kDe z_nDe 5 rfl rfl 8 (by decide) hk rfl (by decide +kernel) rfl rfl (Nat.le_of_ble_eq_true rfl) d rfl kk
theorem gfK_5_index {idx : Nat} (C0 : z_cx own cc nL ret D (z_Kt ca) A p s m args meth c) (hw : z_wd D (z_K ad ca x) A s H locs) (hk : Cond.fieldLink own idx "LongModeCore$Decoder" "index" "I" ∈ z_tbl) (d : decode cc pc = .ok (.getfield idx, 3)) (kk : W p l e R s m args below meth c H locs cells slots Q (F0 m (pc + 3) ls (.int (z_gI x 8) :: rest))) : W p l e R s m args below meth c H locs cells slots Q (F0 m pc ls (.ref (ad 5) :: rest)) := z_get C0 hw z_iDe 5 rfl rfl 9 (by decide) hk rfl d kk
theorem pfK_5_index {idx : Nat} {v : Int32} (C0 : z_cx own cc nL ret D (z_Kt ca) A p s m args meth c) (hw : z_wd D (z_K ad ca x) A s H locs) (hk : Cond.fieldLink own idx "LongModeCore$Decoder" "index" "I" ∈ z_tbl) (d : decode cc pc = .ok (.putfield idx, 3)) (kk : ∀ (H : Heap) (locs : List Loc), z_wd D (z_K ad ca (z_sI x 8 v)) A s H locs → W p l e R s m args below meth c H locs cells slots Q (F0 m (pc + 3) ls rest)) : W p l e R s m args below meth c H locs cells slots Q (F0 m pc ls (.int v :: .ref (ad 5) :: rest)) := z_put (ty := .int) C0 hw z_iDe z_yDe z_kDe z_nDe 5 rfl rfl 9 (by decide) hk rfl (by decide +kernel) rfl rfl (Nat.le_of_ble_eq_true rfl) d rfl kk
theorem gfK_5_scale {idx : Nat} (C0 : z_cx own cc nL ret D (z_Kt ca) A p s m args meth c) (hw : z_wd D (z_K ad ca x) A s H locs) (hk : Cond.fieldLink own idx "LongModeCore$Decoder" "scale" "I" ∈ z_tbl) (d : decode cc pc = .ok (.getfield idx, 3)) (kk : W p l e R s m args below meth c H locs cells slots Q (F0 m (pc + 3) ls (.int (z_gI x 9) :: rest))) : W p l e R s m args below meth c H locs cells slots Q (F0 m pc ls (.ref (ad 5) :: rest)) := z_get C0 hw z_iDe 5 rfl rfl 10 (by decide) hk rfl d kk
theorem pfK_5_scale {idx : Nat} {v : Int32} (C0 : z_cx own cc nL ret D (z_Kt ca) A p s m args meth c) (hw : z_wd D (z_K ad ca x) A s H locs) (hk : Cond.fieldLink own idx "LongModeCore$Decoder" "scale" "I" ∈ z_tbl) (d : decode cc pc = .ok (.putfield idx, 3)) (kk : ∀ (H : Heap) (locs : List Loc), z_wd D (z_K ad ca (z_sI x 9 v)) A s H locs → W p l e R s m args below meth c H locs cells slots Q (F0 m (pc + 3) ls rest)) : W p l e R s m args below meth c H locs cells slots Q (F0 m pc ls (.int v :: .ref (ad 5) :: rest)) := z_put (ty := .int) C0 hw z_iDe z_yDe z_kDe z_nDe 5 rfl rfl 10 (by decide) hk rfl (by decide +kernel) rfl rfl (Nat.le_of_ble_eq_true rfl) d rfl kk
theorem gfK_5_displacement {idx : Nat} (C0 : z_cx own cc nL ret D (z_Kt ca) A p s m args meth c) (hw : z_wd D (z_K ad ca x) A s H locs) (hk : Cond.fieldLink own idx "LongModeCore$Decoder" "displacement" "J" ∈ z_tbl) (d : decode cc pc = .ok (.getfield idx, 3)) (kk : W p l e R s m args below meth c H locs cells slots Q (F0 m (pc + 3) ls (.long (z_gL x 8) :: rest))) : W p l e R s m args below meth c H locs cells slots Q (F0 m pc ls (.ref (ad 5) :: rest)) := z_get C0 hw z_iDe 5 rfl rfl 11 (by decide) hk rfl d kk
theorem pfK_5_displacement {idx : Nat} {v : Int64} (C0 : z_cx own cc nL ret D (z_Kt ca) A p s m args meth c) (hw : z_wd D (z_K ad ca x) A s H locs) (hk : Cond.fieldLink own idx "LongModeCore$Decoder" "displacement" "J" ∈ z_tbl) (d : decode cc pc = .ok (.putfield idx, 3)) (kk : ∀ (H : Heap) (locs : List Loc), z_wd D (z_K ad ca (z_sL x 8 v)) A s H locs → W p l e R s m args below meth c H locs cells slots Q (F0 m (pc + 3) ls rest)) : W p l e R s m args below meth c H locs cells slots Q (F0 m pc ls (.long v :: .ref (ad 5) :: rest)) := z_put (ty := .long) C0 hw z_iDe z_yDe z_kDe z_nDe 5 rfl rfl 11 (by decide) hk rfl (by decide +kernel) rfl rfl (Nat.le_of_ble_eq_true rfl) d rfl kk
theorem gfK_5_repeat {idx : Nat} (C0 : z_cx own cc nL ret D (z_Kt ca) A p s m args meth c) (hw : z_wd D (z_K ad ca x) A s H locs) (hk : Cond.fieldLink own idx "LongModeCore$Decoder" "repeat" "I" ∈ z_tbl) (d : decode cc pc = .ok (.getfield idx, 3)) (kk : W p l e R s m args below meth c H locs cells slots Q (F0 m (pc + 3) ls (.int (z_gI x 10) :: rest))) : W p l e R s m args below meth c H locs cells slots Q (F0 m pc ls (.ref (ad 5) :: rest)) := z_get C0 hw z_iDe 5 rfl rfl 12 (by decide) hk rfl d kk
theorem pfK_5_repeat {idx : Nat} {v : Int32} (C0 : z_cx own cc nL ret D (z_Kt ca) A p s m args meth c) (hw : z_wd D (z_K ad ca x) A s H locs) (hk : Cond.fieldLink own idx "LongModeCore$Decoder" "repeat" "I" ∈ z_tbl) (d : decode cc pc = .ok (.putfield idx, 3)) (kk : ∀ (H : Heap) (locs : List Loc), z_wd D (z_K ad ca (z_sI x 10 v)) A s H locs → W p l e R s m args below meth c H locs cells slots Q (F0 m (pc + 3) ls rest)) : W p l e R s m args below meth c H locs cells slots Q (F0 m pc ls (.int v :: .ref (ad 5) :: rest)) := z_put (ty := .int) C0 hw z_iDe z_yDe z_kDe z_nDe 5 rfl rfl 12 (by decide) hk rfl (by decide +kernel) rfl rfl (Nat.le_of_ble_eq_true rfl) d rfl kk
theorem gfK_5_opcode {idx : Nat} (C0 : z_cx own cc nL ret D (z_Kt ca) A p s m args meth c) (hw : z_wd D (z_K ad ca x) A s H locs) (hk : Cond.fieldLink own idx "LongModeCore$Decoder" "opcode" "I" ∈ z_tbl) (d : decode cc pc = .ok (.getfield idx, 3)) (kk : W p l e R s m args below meth c H locs cells slots Q (F0 m (pc + 3) ls (.int (z_gI x 11) :: rest))) : W p l e R s m args below meth c H locs cells slots Q (F0 m pc ls (.ref (ad 5) :: rest)) := z_get C0 hw z_iDe 5 rfl rfl 13 (by decide) hk rfl d kk
theorem pfK_5_opcode {idx : Nat} {v : Int32} (C0 : z_cx own cc nL ret D (z_Kt ca) A p s m args meth c) (hw : z_wd D (z_K ad ca x) A s H locs) (hk : Cond.fieldLink own idx "LongModeCore$Decoder" "opcode" "I" ∈ z_tbl) (d : decode cc pc = .ok (.putfield idx, 3)) (kk : ∀ (H : Heap) (locs : List Loc), z_wd D (z_K ad ca (z_sI x 11 v)) A s H locs → W p l e R s m args below meth c H locs cells slots Q (F0 m (pc + 3) ls rest)) : W p l e R s m args below meth c H locs cells slots Q (F0 m pc ls (.int v :: .ref (ad 5) :: rest)) := z_put (ty := .int) C0 hw z_iDe z_yDe z_kDe z_nDe 5 rfl rfl 13 (by decide) hk rfl (by decide +kernel) rfl rfl (Nat.le_of_ble_eq_true rfl) d rfl kk
theorem gfK_5_mod {idx : Nat} (C0 : z_cx own cc nL ret D (z_Kt ca) A p s m args meth c) (hw : z_wd D (z_K ad ca x) A s H locs) (hk : Cond.fieldLink own idx "LongModeCore$Decoder" "mod" "I" ∈ z_tbl) (d : decode cc pc = .ok (.getfield idx, 3)) (kk : W p l e R s m args below meth c H locs cells slots Q (F0 m (pc + 3) ls (.int (z_gI x 12) :: rest))) : W p l e R s m args below meth c H locs cells slots Q (F0 m pc ls (.ref (ad 5) :: rest)) := z_get C0 hw z_iDe 5 rfl rfl 14 (by decide) hk rfl d kk
theorem pfK_5_mod {idx : Nat} {v : Int32} (C0 : z_cx own cc nL ret D (z_Kt ca) A p s m args meth c) (hw : z_wd D (z_K ad ca x) A s H locs) (hk : Cond.fieldLink own idx "LongModeCore$Decoder" "mod" "I" ∈ z_tbl) (d : decode cc pc = .ok (.putfield idx, 3)) (kk : ∀ (H : Heap) (locs : List Loc), z_wd D (z_K ad ca (z_sI x 12 v)) A s H locs → W p l e R s m args below meth c H locs cells slots Q (F0 m (pc + 3) ls rest)) : W p l e R s m args below meth c H locs cells slots Q (F0 m pc ls (.int v :: .ref (ad 5) :: rest)) := z_put (ty := .int) C0 hw z_iDe z_yDe z_kDe z_nDe 5 rfl rfl 14 (by decide) hk rfl (by decide +kernel) rfl rfl (Nat.le_of_ble_eq_true rfl) d rfl kk
theorem gfK_5_reg {idx : Nat} (C0 : z_cx own cc nL ret D (z_Kt ca) A p s m args meth c) (hw : z_wd D (z_K ad ca x) A s H locs) (hk : Cond.fieldLink own idx "LongModeCore$Decoder" "reg" "I" ∈ z_tbl) (d : decode cc pc = .ok (.getfield idx, 3)) (kk : W p l e R s m args below meth c H locs cells slots Q (F0 m (pc + 3) ls (.int (z_gI x 13) :: rest))) : W p l e R s m args below meth c H locs cells slots Q (F0 m pc ls (.ref (ad 5) :: rest)) := z_get C0 hw z_iDe 5 rfl rfl 15 (by decide) hk rfl d kk
theorem pfK_5_reg {idx : Nat} {v : Int32} (C0 : z_cx own cc nL ret D (z_Kt ca) A p s m args meth c) (hw : z_wd D (z_K ad ca x) A s H locs) (hk : Cond.fieldLink own idx "LongModeCore$Decoder" "reg" "I" ∈ z_tbl) (d : decode cc pc = .ok (.putfield idx, 3)) (kk : ∀ (H : Heap) (locs : List Loc), z_wd D (z_K ad ca (z_sI x 13 v)) A s H locs → W p l e R s m args below meth c H locs cells slots Q (F0 m (pc + 3) ls rest)) : W p l e R s m args below meth c H locs cells slots Q (F0 m pc ls (.int v :: .ref (ad 5) :: rest)) := z_put (ty := .int) C0 hw z_iDe z_yDe z_kDe z_nDe 5 rfl rfl 15 (by decide) hk rfl (by decide +kernel) rfl rfl (Nat.le_of_ble_eq_true rfl) d rfl kk
theorem gfK_5_rm {idx : Nat} (C0 : z_cx own cc nL ret D (z_Kt ca) A p s m args meth c) (hw : z_wd D (z_K ad ca x) A s H locs) (hk : Cond.fieldLink own idx "LongModeCore$Decoder" "rm" "I" ∈ z_tbl) (d : decode cc pc = .ok (.getfield idx, 3)) (kk : W p l e R s m args below meth c H locs cells slots Q (F0 m (pc + 3) ls (.int (z_gI x 14) :: rest))) : W p l e R s m args below meth c H locs cells slots Q (F0 m pc ls (.ref (ad 5) :: rest)) := z_get C0 hw z_iDe 5 rfl rfl 16 (by decide) hk rfl d kk
theorem pfK_5_rm {idx : Nat} {v : Int32} (C0 : z_cx own cc nL ret D (z_Kt ca) A p s m args meth c) (hw : z_wd D (z_K ad ca x) A s H locs) (hk : Cond.fieldLink own idx "LongModeCore$Decoder" "rm" "I" ∈ z_tbl) (d : decode cc pc = .ok (.putfield idx, 3)) (kk : ∀ (H : Heap) (locs : List Loc), z_wd D (z_K ad ca (z_sI x 14 v)) A s H locs → W p l e R s m args below meth c H locs cells slots Q (F0 m (pc + 3) ls rest)) : W p l e R s m args below meth c H locs cells slots Q (F0 m pc ls (.int v :: .ref (ad 5) :: rest)) := z_put (ty := .int) C0 hw z_iDe z_yDe z_kDe z_nDe 5 rfl rfl 16 (by decide) hk rfl (by decide +kernel) rfl rfl (Nat.le_of_ble_eq_true rfl) d rfl kk
theorem gfK_5_number {idx : Nat} (C0 : z_cx own cc nL ret D (z_Kt ca) A p s m args meth c) (hw : z_wd D (z_K ad ca x) A s H locs) (hk : Cond.fieldLink own idx "LongModeCore$Decoder" "number" "J" ∈ z_tbl) (d : decode cc pc = .ok (.getfield idx, 3)) (kk : W p l e R s m args below meth c H locs cells slots Q (F0 m (pc + 3) ls (.long (z_gL x 9) :: rest))) : W p l e R s m args below meth c H locs cells slots Q (F0 m pc ls (.ref (ad 5) :: rest)) := z_get C0 hw z_iDe 5 rfl rfl 17 (by decide) hk rfl d kk
theorem pfK_5_number {idx : Nat} {v : Int64} (C0 : z_cx own cc nL ret D (z_Kt ca) A p s m args meth c) (hw : z_wd D (z_K ad ca x) A s H locs) (hk : Cond.fieldLink own idx "LongModeCore$Decoder" "number" "J" ∈ z_tbl) (d : decode cc pc = .ok (.putfield idx, 3)) (kk : ∀ (H : Heap) (locs : List Loc), z_wd D (z_K ad ca (z_sL x 9 v)) A s H locs → W p l e R s m args below meth c H locs cells slots Q (F0 m (pc + 3) ls rest)) : W p l e R s m args below meth c H locs cells slots Q (F0 m pc ls (.long v :: .ref (ad 5) :: rest)) := z_put (ty := .long) C0 hw z_iDe z_yDe z_kDe z_nDe 5 rfl rfl 17 (by decide) hk rfl (by decide +kernel) rfl rfl (Nat.le_of_ble_eq_true rfl) d rfl kk
theorem gfK_5_onward {idx : Nat} (C0 : z_cx own cc nL ret D (z_Kt ca) A p s m args meth c) (hw : z_wd D (z_K ad ca x) A s H locs) (hk : Cond.fieldLink own idx "LongModeCore$Decoder" "onward" "J" ∈ z_tbl) (d : decode cc pc = .ok (.getfield idx, 3)) (kk : W p l e R s m args below meth c H locs cells slots Q (F0 m (pc + 3) ls (.long (z_gL x 10) :: rest))) : W p l e R s m args below meth c H locs cells slots Q (F0 m pc ls (.ref (ad 5) :: rest)) := z_get C0 hw z_iDe 5 rfl rfl 18 (by decide) hk rfl d kk
theorem pfK_5_onward {idx : Nat} {v : Int64} (C0 : z_cx own cc nL ret D (z_Kt ca) A p s m args meth c) (hw : z_wd D (z_K ad ca x) A s H locs) (hk : Cond.fieldLink own idx "LongModeCore$Decoder" "onward" "J" ∈ z_tbl) (d : decode cc pc = .ok (.putfield idx, 3)) (kk : ∀ (H : Heap) (locs : List Loc), z_wd D (z_K ad ca (z_sL x 10 v)) A s H locs → W p l e R s m args below meth c H locs cells slots Q (F0 m (pc + 3) ls rest)) : W p l e R s m args below meth c H locs cells slots Q (F0 m pc ls (.long v :: .ref (ad 5) :: rest)) := z_put (ty := .long) C0 hw z_iDe z_yDe z_kDe z_nDe 5 rfl rfl 18 (by decide) hk rfl (by decide +kernel) rfl rfl (Nat.le_of_ble_eq_true rfl) d rfl kk
theorem gfK_6_state {idx : Nat} (C0 : z_cx own cc nL ret D (z_Kt ca) A p s m args meth c) (hw : z_wd D (z_K ad ca x) A s H locs) (hk : Cond.fieldLink own idx "LongModeCore$Operands" "state" "LLongModeCore$State;" ∈ z_tbl) (d : decode cc pc = .ok (.getfield idx, 3)) (kk : W p l e R s m args below meth c H locs cells slots Q (F0 m (pc + 3) ls (.ref (ad 1) :: rest))) : W p l e R s m args below meth c H locs cells slots Q (F0 m pc ls (.ref (ad 6) :: rest)) := z_get C0 hw z_iOp 6 rfl rfl 0 (by decide) hk rfl d kk
theorem gfK_6_code {idx : Nat} (C0 : z_cx own cc nL ret D (z_Kt ca) A p s m args meth c) (hw : z_wd D (z_K ad ca x) A s H locs) (hk : Cond.fieldLink own idx "LongModeCore$Operands" "code" "LLongModeCore$Decoder;" ∈ z_tbl) (d : decode cc pc = .ok (.getfield idx, 3)) (kk : W p l e R s m args below meth c H locs cells slots Q (F0 m (pc + 3) ls (.ref (ad 5) :: rest))) : W p l e R s m args below meth c H locs cells slots Q (F0 m pc ls (.ref (ad 6) :: rest)) := z_get C0 hw z_iOp 6 rfl rfl 1 (by decide) hk rfl d kk
theorem gfK_6_span {idx : Nat} (C0 : z_cx own cc nL ret D (z_Kt ca) A p s m args meth c) (hw : z_wd D (z_K ad ca x) A s H locs) (hk : Cond.fieldLink own idx "LongModeCore$Operands" "span" "LLongModeCore$Span;" ∈ z_tbl) (d : decode cc pc = .ok (.getfield idx, 3)) (kk : W p l e R s m args below meth c H locs cells slots Q (F0 m (pc + 3) ls (.ref (ad 7) :: rest))) : W p l e R s m args below meth c H locs cells slots Q (F0 m pc ls (.ref (ad 6) :: rest)) := z_get C0 hw z_iOp 6 rfl rfl 2 (by decide) hk rfl d kk
theorem gfK_6_bytes {idx : Nat} (C0 : z_cx own cc nL ret D (z_Kt ca) A p s m args meth c) (hw : z_wd D (z_K ad ca x) A s H locs) (hk : Cond.fieldLink own idx "LongModeCore$Operands" "bytes" "I" ∈ z_tbl) (d : decode cc pc = .ok (.getfield idx, 3)) (kk : W p l e R s m args below meth c H locs cells slots Q (F0 m (pc + 3) ls (.int (z_gI x 15) :: rest))) : W p l e R s m args below meth c H locs cells slots Q (F0 m pc ls (.ref (ad 6) :: rest)) := z_get C0 hw z_iOp 6 rfl rfl 3 (by decide) hk rfl d kk
theorem pfK_6_bytes {idx : Nat} {v : Int32} (C0 : z_cx own cc nL ret D (z_Kt ca) A p s m args meth c) (hw : z_wd D (z_K ad ca x) A s H locs) (hk : Cond.fieldLink own idx "LongModeCore$Operands" "bytes" "I" ∈ z_tbl) (d : decode cc pc = .ok (.putfield idx, 3)) (kk : ∀ (H : Heap) (locs : List Loc), z_wd D (z_K ad ca (z_sI x 15 v)) A s H locs → W p l e R s m args below meth c H locs cells slots Q (F0 m (pc + 3) ls rest)) : W p l e R s m args below meth c H locs cells slots Q (F0 m pc ls (.int v :: .ref (ad 6) :: rest)) := z_put (ty := .int) C0 hw z_iOp z_yOp z_kOp z_nOp 6 rfl rfl 3 (by decide) hk rfl (by decide +kernel) rfl rfl (Nat.le_of_ble_eq_true rfl) d rfl kk
theorem gfK_7_pages {idx : Nat} (C0 : z_cx own cc nL ret D (z_Kt ca) A p s m args meth c) (hw : z_wd D (z_K ad ca x) A s H locs) (hk : Cond.fieldLink own idx "LongModeCore$Span" "pages" "LLongModeCore$Pages;" ∈ z_tbl) (d : decode cc pc = .ok (.getfield idx, 3)) (kk : W p l e R s m args below meth c H locs cells slots Q (F0 m (pc + 3) ls (.ref (ad 3) :: rest))) : W p l e R s m args below meth c H locs cells slots Q (F0 m pc ls (.ref (ad 7) :: rest)) := z_get C0 hw z_iSp 7 rfl rfl 0 (by decide) hk rfl d kk
theorem gfK_7_at {idx : Nat} (C0 : z_cx own cc nL ret D (z_Kt ca) A p s m args meth c) (hw : z_wd D (z_K ad ca x) A s H locs) (hk : Cond.fieldLink own idx "LongModeCore$Span" "at" "[J" ∈ z_tbl) (d : decode cc pc = .ok (.getfield idx, 3)) (kk : W p l e R s m args below meth c H locs cells slots Q (F0 m (pc + 3) ls (.ref (ad 8) :: rest))) : W p l e R s m args below meth c H locs cells slots Q (F0 m pc ls (.ref (ad 7) :: rest)) := z_get C0 hw z_iSp 7 rfl rfl 1 (by decide) hk rfl d kk
theorem gfK_7_length {idx : Nat} (C0 : z_cx own cc nL ret D (z_Kt ca) A p s m args meth c) (hw : z_wd D (z_K ad ca x) A s H locs) (hk : Cond.fieldLink own idx "LongModeCore$Span" "length" "I" ∈ z_tbl) (d : decode cc pc = .ok (.getfield idx, 3)) (kk : W p l e R s m args below meth c H locs cells slots Q (F0 m (pc + 3) ls (.int (z_gI x 16) :: rest))) : W p l e R s m args below meth c H locs cells slots Q (F0 m pc ls (.ref (ad 7) :: rest)) := z_get C0 hw z_iSp 7 rfl rfl 2 (by decide) hk rfl d kk
theorem pfK_7_length {idx : Nat} {v : Int32} (C0 : z_cx own cc nL ret D (z_Kt ca) A p s m args meth c) (hw : z_wd D (z_K ad ca x) A s H locs) (hk : Cond.fieldLink own idx "LongModeCore$Span" "length" "I" ∈ z_tbl) (d : decode cc pc = .ok (.putfield idx, 3)) (kk : ∀ (H : Heap) (locs : List Loc), z_wd D (z_K ad ca (z_sI x 16 v)) A s H locs → W p l e R s m args below meth c H locs cells slots Q (F0 m (pc + 3) ls rest)) : W p l e R s m args below meth c H locs cells slots Q (F0 m pc ls (.int v :: .ref (ad 7) :: rest)) := z_put (ty := .int) C0 hw z_iSp z_ySp z_kSp z_nSp 7 rfl rfl 2 (by decide) hk rfl (by decide +kernel) rfl rfl (Nat.le_of_ble_eq_true rfl) d rfl kk
theorem gfK_9_state {idx : Nat} (C0 : z_cx own cc nL ret D (z_Kt ca) A p s m args meth c) (hw : z_wd D (z_K ad ca x) A s H locs) (hk : Cond.fieldLink own idx "LongModeCore$Arithmetic" "state" "LLongModeCore$State;" ∈ z_tbl) (d : decode cc pc = .ok (.getfield idx, 3)) (kk : W p l e R s m args below meth c H locs cells slots Q (F0 m (pc + 3) ls (.ref (ad 1) :: rest))) : W p l e R s m args below meth c H locs cells slots Q (F0 m pc ls (.ref (ad 9) :: rest)) := z_get C0 hw z_iAr 9 rfl rfl 0 (by decide) hk rfl d kk
theorem gfK_10_arithmetic {idx : Nat} (C0 : z_cx own cc nL ret D (z_Kt ca) A p s m args meth c) (hw : z_wd D (z_K ad ca x) A s H locs) (hk : Cond.fieldLink own idx "LongModeCore$Wide" "arithmetic" "LLongModeCore$Arithmetic;" ∈ z_tbl) (d : decode cc pc = .ok (.getfield idx, 3)) (kk : W p l e R s m args below meth c H locs cells slots Q (F0 m (pc + 3) ls (.ref (ad 9) :: rest))) : W p l e R s m args below meth c H locs cells slots Q (F0 m pc ls (.ref (ad 10) :: rest)) := z_get C0 hw z_iWi 10 rfl rfl 0 (by decide) hk rfl d kk
theorem gfK_10_low {idx : Nat} (C0 : z_cx own cc nL ret D (z_Kt ca) A p s m args meth c) (hw : z_wd D (z_K ad ca x) A s H locs) (hk : Cond.fieldLink own idx "LongModeCore$Wide" "low" "J" ∈ z_tbl) (d : decode cc pc = .ok (.getfield idx, 3)) (kk : W p l e R s m args below meth c H locs cells slots Q (F0 m (pc + 3) ls (.long (z_gL x 11) :: rest))) : W p l e R s m args below meth c H locs cells slots Q (F0 m pc ls (.ref (ad 10) :: rest)) := z_get C0 hw z_iWi 10 rfl rfl 1 (by decide) hk rfl d kk
theorem pfK_10_low {idx : Nat} {v : Int64} (C0 : z_cx own cc nL ret D (z_Kt ca) A p s m args meth c) (hw : z_wd D (z_K ad ca x) A s H locs) (hk : Cond.fieldLink own idx "LongModeCore$Wide" "low" "J" ∈ z_tbl) (d : decode cc pc = .ok (.putfield idx, 3)) (kk : ∀ (H : Heap) (locs : List Loc), z_wd D (z_K ad ca (z_sL x 11 v)) A s H locs → W p l e R s m args below meth c H locs cells slots Q (F0 m (pc + 3) ls rest)) : W p l e R s m args below meth c H locs cells slots Q (F0 m pc ls (.long v :: .ref (ad 10) :: rest)) := z_put (ty := .long) C0 hw z_iWi z_yWi z_kWi z_nWi 10 rfl rfl 1 (by decide) hk rfl (by decide +kernel) rfl rfl (Nat.le_of_ble_eq_true rfl) d rfl kk
theorem gfK_10_high {idx : Nat} (C0 : z_cx own cc nL ret D (z_Kt ca) A p s m args meth c) (hw : z_wd D (z_K ad ca x) A s H locs) (hk : Cond.fieldLink own idx "LongModeCore$Wide" "high" "J" ∈ z_tbl) (d : decode cc pc = .ok (.getfield idx, 3)) (kk : W p l e R s m args below meth c H locs cells slots Q (F0 m (pc + 3) ls (.long (z_gL x 12) :: rest))) : W p l e R s m args below meth c H locs cells slots Q (F0 m pc ls (.ref (ad 10) :: rest)) := z_get C0 hw z_iWi 10 rfl rfl 2 (by decide) hk rfl d kk
theorem pfK_10_high {idx : Nat} {v : Int64} (C0 : z_cx own cc nL ret D (z_Kt ca) A p s m args meth c) (hw : z_wd D (z_K ad ca x) A s H locs) (hk : Cond.fieldLink own idx "LongModeCore$Wide" "high" "J" ∈ z_tbl) (d : decode cc pc = .ok (.putfield idx, 3)) (kk : ∀ (H : Heap) (locs : List Loc), z_wd D (z_K ad ca (z_sL x 12 v)) A s H locs → W p l e R s m args below meth c H locs cells slots Q (F0 m (pc + 3) ls rest)) : W p l e R s m args below meth c H locs cells slots Q (F0 m pc ls (.long v :: .ref (ad 10) :: rest)) := z_put (ty := .long) C0 hw z_iWi z_yWi z_kWi z_nWi 10 rfl rfl 2 (by decide) hk rfl (by decide +kernel) rfl rfl (Nat.le_of_ble_eq_true rfl) d rfl kk
theorem gfK_11_state {idx : Nat} (C0 : z_cx own cc nL ret D (z_Kt ca) A p s m args meth c) (hw : z_wd D (z_K ad ca x) A s H locs) (hk : Cond.fieldLink own idx "LongModeCore$Flow" "state" "LLongModeCore$State;" ∈ z_tbl) (d : decode cc pc = .ok (.getfield idx, 3)) (kk : W p l e R s m args below meth c H locs cells slots Q (F0 m (pc + 3) ls (.ref (ad 1) :: rest))) : W p l e R s m args below meth c H locs cells slots Q (F0 m pc ls (.ref (ad 11) :: rest)) := z_get C0 hw z_iFl 11 rfl rfl 0 (by decide) hk rfl d kk
theorem gfK_11_code {idx : Nat} (C0 : z_cx own cc nL ret D (z_Kt ca) A p s m args meth c) (hw : z_wd D (z_K ad ca x) A s H locs) (hk : Cond.fieldLink own idx "LongModeCore$Flow" "code" "LLongModeCore$Decoder;" ∈ z_tbl) (d : decode cc pc = .ok (.getfield idx, 3)) (kk : W p l e R s m args below meth c H locs cells slots Q (F0 m (pc + 3) ls (.ref (ad 5) :: rest))) : W p l e R s m args below meth c H locs cells slots Q (F0 m pc ls (.ref (ad 11) :: rest)) := z_get C0 hw z_iFl 11 rfl rfl 1 (by decide) hk rfl d kk
theorem gfK_11_operands {idx : Nat} (C0 : z_cx own cc nL ret D (z_Kt ca) A p s m args meth c) (hw : z_wd D (z_K ad ca x) A s H locs) (hk : Cond.fieldLink own idx "LongModeCore$Flow" "operands" "LLongModeCore$Operands;" ∈ z_tbl) (d : decode cc pc = .ok (.getfield idx, 3)) (kk : W p l e R s m args below meth c H locs cells slots Q (F0 m (pc + 3) ls (.ref (ad 6) :: rest))) : W p l e R s m args below meth c H locs cells slots Q (F0 m pc ls (.ref (ad 11) :: rest)) := z_get C0 hw z_iFl 11 rfl rfl 2 (by decide) hk rfl d kk
theorem gfK_11_arithmetic {idx : Nat} (C0 : z_cx own cc nL ret D (z_Kt ca) A p s m args meth c) (hw : z_wd D (z_K ad ca x) A s H locs) (hk : Cond.fieldLink own idx "LongModeCore$Flow" "arithmetic" "LLongModeCore$Arithmetic;" ∈ z_tbl) (d : decode cc pc = .ok (.getfield idx, 3)) (kk : W p l e R s m args below meth c H locs cells slots Q (F0 m (pc + 3) ls (.ref (ad 9) :: rest))) : W p l e R s m args below meth c H locs cells slots Q (F0 m pc ls (.ref (ad 11) :: rest)) := z_get C0 hw z_iFl 11 rfl rfl 3 (by decide) hk rfl d kk
theorem gfK_11_top {idx : Nat} (C0 : z_cx own cc nL ret D (z_Kt ca) A p s m args meth c) (hw : z_wd D (z_K ad ca x) A s H locs) (hk : Cond.fieldLink own idx "LongModeCore$Flow" "top" "LLongModeCore$Span;" ∈ z_tbl) (d : decode cc pc = .ok (.getfield idx, 3)) (kk : W p l e R s m args below meth c H locs cells slots Q (F0 m (pc + 3) ls (.ref (ad 12) :: rest))) : W p l e R s m args below meth c H locs cells slots Q (F0 m pc ls (.ref (ad 11) :: rest)) := z_get C0 hw z_iFl 11 rfl rfl 4 (by decide) hk rfl d kk
theorem gfK_12_pages {idx : Nat} (C0 : z_cx own cc nL ret D (z_Kt ca) A p s m args meth c) (hw : z_wd D (z_K ad ca x) A s H locs) (hk : Cond.fieldLink own idx "LongModeCore$Span" "pages" "LLongModeCore$Pages;" ∈ z_tbl) (d : decode cc pc = .ok (.getfield idx, 3)) (kk : W p l e R s m args below meth c H locs cells slots Q (F0 m (pc + 3) ls (.ref (ad 3) :: rest))) : W p l e R s m args below meth c H locs cells slots Q (F0 m pc ls (.ref (ad 12) :: rest)) := z_get C0 hw z_iSp 12 rfl rfl 0 (by decide) hk rfl d kk
theorem gfK_12_at {idx : Nat} (C0 : z_cx own cc nL ret D (z_Kt ca) A p s m args meth c) (hw : z_wd D (z_K ad ca x) A s H locs) (hk : Cond.fieldLink own idx "LongModeCore$Span" "at" "[J" ∈ z_tbl) (d : decode cc pc = .ok (.getfield idx, 3)) (kk : W p l e R s m args below meth c H locs cells slots Q (F0 m (pc + 3) ls (.ref (ad 13) :: rest))) : W p l e R s m args below meth c H locs cells slots Q (F0 m pc ls (.ref (ad 12) :: rest)) := z_get C0 hw z_iSp 12 rfl rfl 1 (by decide) hk rfl d kk
theorem gfK_12_length {idx : Nat} (C0 : z_cx own cc nL ret D (z_Kt ca) A p s m args meth c) (hw : z_wd D (z_K ad ca x) A s H locs) (hk : Cond.fieldLink own idx "LongModeCore$Span" "length" "I" ∈ z_tbl) (d : decode cc pc = .ok (.getfield idx, 3)) (kk : W p l e R s m args below meth c H locs cells slots Q (F0 m (pc + 3) ls (.int (z_gI x 17) :: rest))) : W p l e R s m args below meth c H locs cells slots Q (F0 m pc ls (.ref (ad 12) :: rest)) := z_get C0 hw z_iSp 12 rfl rfl 2 (by decide) hk rfl d kk
theorem pfK_12_length {idx : Nat} {v : Int32} (C0 : z_cx own cc nL ret D (z_Kt ca) A p s m args meth c) (hw : z_wd D (z_K ad ca x) A s H locs) (hk : Cond.fieldLink own idx "LongModeCore$Span" "length" "I" ∈ z_tbl) (d : decode cc pc = .ok (.putfield idx, 3)) (kk : ∀ (H : Heap) (locs : List Loc), z_wd D (z_K ad ca (z_sI x 17 v)) A s H locs → W p l e R s m args below meth c H locs cells slots Q (F0 m (pc + 3) ls rest)) : W p l e R s m args below meth c H locs cells slots Q (F0 m pc ls (.int v :: .ref (ad 12) :: rest)) := z_put (ty := .int) C0 hw z_iSp z_ySp z_kSp z_nSp 12 rfl rfl 2 (by decide) hk rfl (by decide +kernel) rfl rfl (Nat.le_of_ble_eq_true rfl) d rfl kk
theorem gfK_14_state {idx : Nat} (C0 : z_cx own cc nL ret D (z_Kt ca) A p s m args meth c) (hw : z_wd D (z_K ad ca x) A s H locs) (hk : Cond.fieldLink own idx "LongModeCore$Strings" "state" "LLongModeCore$State;" ∈ z_tbl) (d : decode cc pc = .ok (.getfield idx, 3)) (kk : W p l e R s m args below meth c H locs cells slots Q (F0 m (pc + 3) ls (.ref (ad 1) :: rest))) : W p l e R s m args below meth c H locs cells slots Q (F0 m pc ls (.ref (ad 14) :: rest)) := z_get C0 hw z_iSr 14 rfl rfl 0 (by decide) hk rfl d kk
theorem gfK_14_code {idx : Nat} (C0 : z_cx own cc nL ret D (z_Kt ca) A p s m args meth c) (hw : z_wd D (z_K ad ca x) A s H locs) (hk : Cond.fieldLink own idx "LongModeCore$Strings" "code" "LLongModeCore$Decoder;" ∈ z_tbl) (d : decode cc pc = .ok (.getfield idx, 3)) (kk : W p l e R s m args below meth c H locs cells slots Q (F0 m (pc + 3) ls (.ref (ad 5) :: rest))) : W p l e R s m args below meth c H locs cells slots Q (F0 m pc ls (.ref (ad 14) :: rest)) := z_get C0 hw z_iSr 14 rfl rfl 1 (by decide) hk rfl d kk
theorem gfK_14_operands {idx : Nat} (C0 : z_cx own cc nL ret D (z_Kt ca) A p s m args meth c) (hw : z_wd D (z_K ad ca x) A s H locs) (hk : Cond.fieldLink own idx "LongModeCore$Strings" "operands" "LLongModeCore$Operands;" ∈ z_tbl) (d : decode cc pc = .ok (.getfield idx, 3)) (kk : W p l e R s m args below meth c H locs cells slots Q (F0 m (pc + 3) ls (.ref (ad 6) :: rest))) : W p l e R s m args below meth c H locs cells slots Q (F0 m pc ls (.ref (ad 14) :: rest)) := z_get C0 hw z_iSr 14 rfl rfl 2 (by decide) hk rfl d kk
theorem gfK_14_arithmetic {idx : Nat} (C0 : z_cx own cc nL ret D (z_Kt ca) A p s m args meth c) (hw : z_wd D (z_K ad ca x) A s H locs) (hk : Cond.fieldLink own idx "LongModeCore$Strings" "arithmetic" "LLongModeCore$Arithmetic;" ∈ z_tbl) (d : decode cc pc = .ok (.getfield idx, 3)) (kk : W p l e R s m args below meth c H locs cells slots Q (F0 m (pc + 3) ls (.ref (ad 9) :: rest))) : W p l e R s m args below meth c H locs cells slots Q (F0 m pc ls (.ref (ad 14) :: rest)) := z_get C0 hw z_iSr 14 rfl rfl 3 (by decide) hk rfl d kk
theorem gfK_14_source {idx : Nat} (C0 : z_cx own cc nL ret D (z_Kt ca) A p s m args meth c) (hw : z_wd D (z_K ad ca x) A s H locs) (hk : Cond.fieldLink own idx "LongModeCore$Strings" "source" "LLongModeCore$Span;" ∈ z_tbl) (d : decode cc pc = .ok (.getfield idx, 3)) (kk : W p l e R s m args below meth c H locs cells slots Q (F0 m (pc + 3) ls (.ref (ad 15) :: rest))) : W p l e R s m args below meth c H locs cells slots Q (F0 m pc ls (.ref (ad 14) :: rest)) := z_get C0 hw z_iSr 14 rfl rfl 4 (by decide) hk rfl d kk
theorem gfK_14_goal {idx : Nat} (C0 : z_cx own cc nL ret D (z_Kt ca) A p s m args meth c) (hw : z_wd D (z_K ad ca x) A s H locs) (hk : Cond.fieldLink own idx "LongModeCore$Strings" "goal" "LLongModeCore$Span;" ∈ z_tbl) (d : decode cc pc = .ok (.getfield idx, 3)) (kk : W p l e R s m args below meth c H locs cells slots Q (F0 m (pc + 3) ls (.ref (ad 17) :: rest))) : W p l e R s m args below meth c H locs cells slots Q (F0 m pc ls (.ref (ad 14) :: rest)) := z_get C0 hw z_iSr 14 rfl rfl 5 (by decide) hk rfl d kk
theorem gfK_15_pages {idx : Nat} (C0 : z_cx own cc nL ret D (z_Kt ca) A p s m args meth c) (hw : z_wd D (z_K ad ca x) A s H locs) (hk : Cond.fieldLink own idx "LongModeCore$Span" "pages" "LLongModeCore$Pages;" ∈ z_tbl) (d : decode cc pc = .ok (.getfield idx, 3)) (kk : W p l e R s m args below meth c H locs cells slots Q (F0 m (pc + 3) ls (.ref (ad 3) :: rest))) : W p l e R s m args below meth c H locs cells slots Q (F0 m pc ls (.ref (ad 15) :: rest)) := z_get C0 hw z_iSp 15 rfl rfl 0 (by decide) hk rfl d kk
theorem gfK_15_at {idx : Nat} (C0 : z_cx own cc nL ret D (z_Kt ca) A p s m args meth c) (hw : z_wd D (z_K ad ca x) A s H locs) (hk : Cond.fieldLink own idx "LongModeCore$Span" "at" "[J" ∈ z_tbl) (d : decode cc pc = .ok (.getfield idx, 3)) (kk : W p l e R s m args below meth c H locs cells slots Q (F0 m (pc + 3) ls (.ref (ad 16) :: rest))) : W p l e R s m args below meth c H locs cells slots Q (F0 m pc ls (.ref (ad 15) :: rest)) := z_get C0 hw z_iSp 15 rfl rfl 1 (by decide) hk rfl d kk
theorem gfK_15_length {idx : Nat} (C0 : z_cx own cc nL ret D (z_Kt ca) A p s m args meth c) (hw : z_wd D (z_K ad ca x) A s H locs) (hk : Cond.fieldLink own idx "LongModeCore$Span" "length" "I" ∈ z_tbl) (d : decode cc pc = .ok (.getfield idx, 3)) (kk : W p l e R s m args below meth c H locs cells slots Q (F0 m (pc + 3) ls (.int (z_gI x 18) :: rest))) : W p l e R s m args below meth c H locs cells slots Q (F0 m pc ls (.ref (ad 15) :: rest)) := z_get C0 hw z_iSp 15 rfl rfl 2 (by decide) hk rfl d kk
theorem pfK_15_length {idx : Nat} {v : Int32} (C0 : z_cx own cc nL ret D (z_Kt ca) A p s m args meth c) (hw : z_wd D (z_K ad ca x) A s H locs) (hk : Cond.fieldLink own idx "LongModeCore$Span" "length" "I" ∈ z_tbl) (d : decode cc pc = .ok (.putfield idx, 3)) (kk : ∀ (H : Heap) (locs : List Loc), z_wd D (z_K ad ca (z_sI x 18 v)) A s H locs → W p l e R s m args below meth c H locs cells slots Q (F0 m (pc + 3) ls rest)) : W p l e R s m args below meth c H locs cells slots Q (F0 m pc ls (.int v :: .ref (ad 15) :: rest)) := z_put (ty := .int) C0 hw z_iSp z_ySp z_kSp z_nSp 15 rfl rfl 2 (by decide) hk rfl (by decide +kernel) rfl rfl (Nat.le_of_ble_eq_true rfl) d rfl kk
theorem gfK_17_pages {idx : Nat} (C0 : z_cx own cc nL ret D (z_Kt ca) A p s m args meth c) (hw : z_wd D (z_K ad ca x) A s H locs) (hk : Cond.fieldLink own idx "LongModeCore$Span" "pages" "LLongModeCore$Pages;" ∈ z_tbl) (d : decode cc pc = .ok (.getfield idx, 3)) (kk : W p l e R s m args below meth c H locs cells slots Q (F0 m (pc + 3) ls (.ref (ad 3) :: rest))) : W p l e R s m args below meth c H locs cells slots Q (F0 m pc ls (.ref (ad 17) :: rest)) := z_get C0 hw z_iSp 17 rfl rfl 0 (by decide) hk rfl d kk
theorem gfK_17_at {idx : Nat} (C0 : z_cx own cc nL ret D (z_Kt ca) A p s m args meth c) (hw : z_wd D (z_K ad ca x) A s H locs) (hk : Cond.fieldLink own idx "LongModeCore$Span" "at" "[J" ∈ z_tbl) (d : decode cc pc = .ok (.getfield idx, 3)) (kk : W p l e R s m args below meth c H locs cells slots Q (F0 m (pc + 3) ls (.ref (ad 18) :: rest))) : W p l e R s m args below meth c H locs cells slots Q (F0 m pc ls (.ref (ad 17) :: rest)) := z_get C0 hw z_iSp 17 rfl rfl 1 (by decide) hk rfl d kk
theorem gfK_17_length {idx : Nat} (C0 : z_cx own cc nL ret D (z_Kt ca) A p s m args meth c) (hw : z_wd D (z_K ad ca x) A s H locs) (hk : Cond.fieldLink own idx "LongModeCore$Span" "length" "I" ∈ z_tbl) (d : decode cc pc = .ok (.getfield idx, 3)) (kk : W p l e R s m args below meth c H locs cells slots Q (F0 m (pc + 3) ls (.int (z_gI x 19) :: rest))) : W p l e R s m args below meth c H locs cells slots Q (F0 m pc ls (.ref (ad 17) :: rest)) := z_get C0 hw z_iSp 17 rfl rfl 2 (by decide) hk rfl d kk
theorem pfK_17_length {idx : Nat} {v : Int32} (C0 : z_cx own cc nL ret D (z_Kt ca) A p s m args meth c) (hw : z_wd D (z_K ad ca x) A s H locs) (hk : Cond.fieldLink own idx "LongModeCore$Span" "length" "I" ∈ z_tbl) (d : decode cc pc = .ok (.putfield idx, 3)) (kk : ∀ (H : Heap) (locs : List Loc), z_wd D (z_K ad ca (z_sI x 19 v)) A s H locs → W p l e R s m args below meth c H locs cells slots Q (F0 m (pc + 3) ls rest)) : W p l e R s m args below meth c H locs cells slots Q (F0 m pc ls (.int v :: .ref (ad 17) :: rest)) := z_put (ty := .int) C0 hw z_iSp z_ySp z_kSp z_nSp 17 rfl rfl 2 (by decide) hk rfl (by decide +kernel) rfl rfl (Nat.le_of_ble_eq_true rfl) d rfl kk
theorem gfK_19_state {idx : Nat} (C0 : z_cx own cc nL ret D (z_Kt ca) A p s m args meth c) (hw : z_wd D (z_K ad ca x) A s H locs) (hk : Cond.fieldLink own idx "LongModeCore$OneByte" "state" "LLongModeCore$State;" ∈ z_tbl) (d : decode cc pc = .ok (.getfield idx, 3)) (kk : W p l e R s m args below meth c H locs cells slots Q (F0 m (pc + 3) ls (.ref (ad 1) :: rest))) : W p l e R s m args below meth c H locs cells slots Q (F0 m pc ls (.ref (ad 19) :: rest)) := z_get C0 hw z_iOn 19 rfl rfl 0 (by decide) hk rfl d kk
theorem gfK_19_code {idx : Nat} (C0 : z_cx own cc nL ret D (z_Kt ca) A p s m args meth c) (hw : z_wd D (z_K ad ca x) A s H locs) (hk : Cond.fieldLink own idx "LongModeCore$OneByte" "code" "LLongModeCore$Decoder;" ∈ z_tbl) (d : decode cc pc = .ok (.getfield idx, 3)) (kk : W p l e R s m args below meth c H locs cells slots Q (F0 m (pc + 3) ls (.ref (ad 5) :: rest))) : W p l e R s m args below meth c H locs cells slots Q (F0 m pc ls (.ref (ad 19) :: rest)) := z_get C0 hw z_iOn 19 rfl rfl 1 (by decide) hk rfl d kk
theorem gfK_19_operands {idx : Nat} (C0 : z_cx own cc nL ret D (z_Kt ca) A p s m args meth c) (hw : z_wd D (z_K ad ca x) A s H locs) (hk : Cond.fieldLink own idx "LongModeCore$OneByte" "operands" "LLongModeCore$Operands;" ∈ z_tbl) (d : decode cc pc = .ok (.getfield idx, 3)) (kk : W p l e R s m args below meth c H locs cells slots Q (F0 m (pc + 3) ls (.ref (ad 6) :: rest))) : W p l e R s m args below meth c H locs cells slots Q (F0 m pc ls (.ref (ad 19) :: rest)) := z_get C0 hw z_iOn 19 rfl rfl 2 (by decide) hk rfl d kk
theorem gfK_19_arithmetic {idx : Nat} (C0 : z_cx own cc nL ret D (z_Kt ca) A p s m args meth c) (hw : z_wd D (z_K ad ca x) A s H locs) (hk : Cond.fieldLink own idx "LongModeCore$OneByte" "arithmetic" "LLongModeCore$Arithmetic;" ∈ z_tbl) (d : decode cc pc = .ok (.getfield idx, 3)) (kk : W p l e R s m args below meth c H locs cells slots Q (F0 m (pc + 3) ls (.ref (ad 9) :: rest))) : W p l e R s m args below meth c H locs cells slots Q (F0 m pc ls (.ref (ad 19) :: rest)) := z_get C0 hw z_iOn 19 rfl rfl 3 (by decide) hk rfl d kk
theorem gfK_19_wide {idx : Nat} (C0 : z_cx own cc nL ret D (z_Kt ca) A p s m args meth c) (hw : z_wd D (z_K ad ca x) A s H locs) (hk : Cond.fieldLink own idx "LongModeCore$OneByte" "wide" "LLongModeCore$Wide;" ∈ z_tbl) (d : decode cc pc = .ok (.getfield idx, 3)) (kk : W p l e R s m args below meth c H locs cells slots Q (F0 m (pc + 3) ls (.ref (ad 10) :: rest))) : W p l e R s m args below meth c H locs cells slots Q (F0 m pc ls (.ref (ad 19) :: rest)) := z_get C0 hw z_iOn 19 rfl rfl 4 (by decide) hk rfl d kk
theorem gfK_20_code {idx : Nat} (C0 : z_cx own cc nL ret D (z_Kt ca) A p s m args meth c) (hw : z_wd D (z_K ad ca x) A s H locs) (hk : Cond.fieldLink own idx "LongModeCore$TwoByte" "code" "LLongModeCore$Decoder;" ∈ z_tbl) (d : decode cc pc = .ok (.getfield idx, 3)) (kk : W p l e R s m args below meth c H locs cells slots Q (F0 m (pc + 3) ls (.ref (ad 5) :: rest))) : W p l e R s m args below meth c H locs cells slots Q (F0 m pc ls (.ref (ad 20) :: rest)) := z_get C0 hw z_iTw 20 rfl rfl 0 (by decide) hk rfl d kk
theorem gfK_20_operands {idx : Nat} (C0 : z_cx own cc nL ret D (z_Kt ca) A p s m args meth c) (hw : z_wd D (z_K ad ca x) A s H locs) (hk : Cond.fieldLink own idx "LongModeCore$TwoByte" "operands" "LLongModeCore$Operands;" ∈ z_tbl) (d : decode cc pc = .ok (.getfield idx, 3)) (kk : W p l e R s m args below meth c H locs cells slots Q (F0 m (pc + 3) ls (.ref (ad 6) :: rest))) : W p l e R s m args below meth c H locs cells slots Q (F0 m pc ls (.ref (ad 20) :: rest)) := z_get C0 hw z_iTw 20 rfl rfl 1 (by decide) hk rfl d kk
theorem gfK_20_arithmetic {idx : Nat} (C0 : z_cx own cc nL ret D (z_Kt ca) A p s m args meth c) (hw : z_wd D (z_K ad ca x) A s H locs) (hk : Cond.fieldLink own idx "LongModeCore$TwoByte" "arithmetic" "LLongModeCore$Arithmetic;" ∈ z_tbl) (d : decode cc pc = .ok (.getfield idx, 3)) (kk : W p l e R s m args below meth c H locs cells slots Q (F0 m (pc + 3) ls (.ref (ad 9) :: rest))) : W p l e R s m args below meth c H locs cells slots Q (F0 m pc ls (.ref (ad 20) :: rest)) := z_get C0 hw z_iTw 20 rfl rfl 2 (by decide) hk rfl d kk
theorem gfK_20_wide {idx : Nat} (C0 : z_cx own cc nL ret D (z_Kt ca) A p s m args meth c) (hw : z_wd D (z_K ad ca x) A s H locs) (hk : Cond.fieldLink own idx "LongModeCore$TwoByte" "wide" "LLongModeCore$Wide;" ∈ z_tbl) (d : decode cc pc = .ok (.getfield idx, 3)) (kk : W p l e R s m args below meth c H locs cells slots Q (F0 m (pc + 3) ls (.ref (ad 10) :: rest))) : W p l e R s m args below meth c H locs cells slots Q (F0 m pc ls (.ref (ad 20) :: rest)) := z_get C0 hw z_iTw 20 rfl rfl 3 (by decide) hk rfl d kk
theorem alK_2 {i : Int32} (C0 : z_cx own cc nL ret D (z_Kt ca) A p s m args meth c) (hw : z_wd D (z_K ad ca x) A s H locs) (hb : ¬ z_bad i 16) (d : decode cc pc = .ok (.laload, 1)) (kk : W p l e R s m args below meth c H locs cells slots Q (F0 m (pc + 1) ls (.long (z_gM x 0 i.toNatClampNeg) :: rest))) : W p l e R s m args below meth c H locs cells slots Q (F0 m pc ls (.int i :: .ref (ad 2) :: rest)) := z_lald C0 hw 2 0 rfl rfl hb d kk
theorem asK_2 {i : Int32} {v : Int64} (C0 : z_cx own cc nL ret D (z_Kt ca) A p s m args meth c) (hw : z_wd D (z_K ad ca x) A s H locs) (hb : ¬ z_bad i 16) (d : decode cc pc = .ok (.lastore, 1)) (kk : ∀ (H : Heap) (locs : List Loc), z_wd D (z_K ad ca (z_sM x 0 i.toNatClampNeg v)) A s H locs → W p l e R s m args below meth c H locs cells slots Q (F0 m (pc + 1) ls rest)) : W p l e R s m args below meth c H locs cells slots Q (F0 m pc ls (.long v :: .int i :: .ref (ad 2) :: rest)) := z_last C0 hw 2 0 rfl rfl hb d rfl kk
theorem alK_4 {i : Int32} (C0 : z_cx own cc nL ret D (z_Kt ca) A p s m args meth c) (hw : z_wd D (z_K ad ca x) A s H locs) (hb : ¬ z_bad i 4096) (d : decode cc pc = .ok (.laload, 1)) (kk : W p l e R s m args below meth c H locs cells slots Q (F0 m (pc + 1) ls (.long (z_gM x 1 i.toNatClampNeg) :: rest))) : W p l e R s m args below meth c H locs cells slots Q (F0 m pc ls (.int i :: .ref (ad 4) :: rest)) := z_lald C0 hw 4 1 rfl rfl hb d kk
theorem asK_4 {i : Int32} {v : Int64} (C0 : z_cx own cc nL ret D (z_Kt ca) A p s m args meth c) (hw : z_wd D (z_K ad ca x) A s H locs) (hb : ¬ z_bad i 4096) (d : decode cc pc = .ok (.lastore, 1)) (kk : ∀ (H : Heap) (locs : List Loc), z_wd D (z_K ad ca (z_sM x 1 i.toNatClampNeg v)) A s H locs → W p l e R s m args below meth c H locs cells slots Q (F0 m (pc + 1) ls rest)) : W p l e R s m args below meth c H locs cells slots Q (F0 m pc ls (.long v :: .int i :: .ref (ad 4) :: rest)) := z_last C0 hw 4 1 rfl rfl hb d rfl kk
theorem alK_8 {i : Int32} (C0 : z_cx own cc nL ret D (z_Kt ca) A p s m args meth c) (hw : z_wd D (z_K ad ca x) A s H locs) (hb : ¬ z_bad i 8) (d : decode cc pc = .ok (.laload, 1)) (kk : W p l e R s m args below meth c H locs cells slots Q (F0 m (pc + 1) ls (.long (z_gM x 2 i.toNatClampNeg) :: rest))) : W p l e R s m args below meth c H locs cells slots Q (F0 m pc ls (.int i :: .ref (ad 8) :: rest)) := z_lald C0 hw 8 2 rfl rfl hb d kk
theorem asK_8 {i : Int32} {v : Int64} (C0 : z_cx own cc nL ret D (z_Kt ca) A p s m args meth c) (hw : z_wd D (z_K ad ca x) A s H locs) (hb : ¬ z_bad i 8) (d : decode cc pc = .ok (.lastore, 1)) (kk : ∀ (H : Heap) (locs : List Loc), z_wd D (z_K ad ca (z_sM x 2 i.toNatClampNeg v)) A s H locs → W p l e R s m args below meth c H locs cells slots Q (F0 m (pc + 1) ls rest)) : W p l e R s m args below meth c H locs cells slots Q (F0 m pc ls (.long v :: .int i :: .ref (ad 8) :: rest)) := z_last C0 hw 8 2 rfl rfl hb d rfl kk
theorem alK_13 {i : Int32} (C0 : z_cx own cc nL ret D (z_Kt ca) A p s m args meth c) (hw : z_wd D (z_K ad ca x) A s H locs) (hb : ¬ z_bad i 8) (d : decode cc pc = .ok (.laload, 1)) (kk : W p l e R s m args below meth c H locs cells slots Q (F0 m (pc + 1) ls (.long (z_gM x 3 i.toNatClampNeg) :: rest))) : W p l e R s m args below meth c H locs cells slots Q (F0 m pc ls (.int i :: .ref (ad 13) :: rest)) := z_lald C0 hw 13 3 rfl rfl hb d kk
theorem asK_13 {i : Int32} {v : Int64} (C0 : z_cx own cc nL ret D (z_Kt ca) A p s m args meth c) (hw : z_wd D (z_K ad ca x) A s H locs) (hb : ¬ z_bad i 8) (d : decode cc pc = .ok (.lastore, 1)) (kk : ∀ (H : Heap) (locs : List Loc), z_wd D (z_K ad ca (z_sM x 3 i.toNatClampNeg v)) A s H locs → W p l e R s m args below meth c H locs cells slots Q (F0 m (pc + 1) ls rest)) : W p l e R s m args below meth c H locs cells slots Q (F0 m pc ls (.long v :: .int i :: .ref (ad 13) :: rest)) := z_last C0 hw 13 3 rfl rfl hb d rfl kk
theorem alK_16 {i : Int32} (C0 : z_cx own cc nL ret D (z_Kt ca) A p s m args meth c) (hw : z_wd D (z_K ad ca x) A s H locs) (hb : ¬ z_bad i 8) (d : decode cc pc = .ok (.laload, 1)) (kk : W p l e R s m args below meth c H locs cells slots Q (F0 m (pc + 1) ls (.long (z_gM x 4 i.toNatClampNeg) :: rest))) : W p l e R s m args below meth c H locs cells slots Q (F0 m pc ls (.int i :: .ref (ad 16) :: rest)) := z_lald C0 hw 16 4 rfl rfl hb d kk
theorem asK_16 {i : Int32} {v : Int64} (C0 : z_cx own cc nL ret D (z_Kt ca) A p s m args meth c) (hw : z_wd D (z_K ad ca x) A s H locs) (hb : ¬ z_bad i 8) (d : decode cc pc = .ok (.lastore, 1)) (kk : ∀ (H : Heap) (locs : List Loc), z_wd D (z_K ad ca (z_sM x 4 i.toNatClampNeg v)) A s H locs → W p l e R s m args below meth c H locs cells slots Q (F0 m (pc + 1) ls rest)) : W p l e R s m args below meth c H locs cells slots Q (F0 m pc ls (.long v :: .int i :: .ref (ad 16) :: rest)) := z_last C0 hw 16 4 rfl rfl hb d rfl kk
theorem alK_18 {i : Int32} (C0 : z_cx own cc nL ret D (z_Kt ca) A p s m args meth c) (hw : z_wd D (z_K ad ca x) A s H locs) (hb : ¬ z_bad i 8) (d : decode cc pc = .ok (.laload, 1)) (kk : W p l e R s m args below meth c H locs cells slots Q (F0 m (pc + 1) ls (.long (z_gM x 5 i.toNatClampNeg) :: rest))) : W p l e R s m args below meth c H locs cells slots Q (F0 m pc ls (.int i :: .ref (ad 18) :: rest)) := z_lald C0 hw 18 5 rfl rfl hb d kk
theorem asK_18 {i : Int32} {v : Int64} (C0 : z_cx own cc nL ret D (z_Kt ca) A p s m args meth c) (hw : z_wd D (z_K ad ca x) A s H locs) (hb : ¬ z_bad i 8) (d : decode cc pc = .ok (.lastore, 1)) (kk : ∀ (H : Heap) (locs : List Loc), z_wd D (z_K ad ca (z_sM x 5 i.toNatClampNeg v)) A s H locs → W p l e R s m args below meth c H locs cells slots Q (F0 m (pc + 1) ls rest)) : W p l e R s m args below meth c H locs cells slots Q (F0 m pc ls (.long v :: .int i :: .ref (ad 18) :: rest)) := z_last C0 hw 18 5 rfl rfl hb d rfl kk
end Zz_K
end
section
def z_M (ad : Nat → Nat) (ca : Nat → ClassId) (x : z_Sg) : va_W := [(ad 0, .inr (12, [.ref (ad 1), .ref (ad 2), .ref (ad 3), .long (z_gL x 0), .long (z_gL x 1), .long (z_gL x 2), .long (z_gL x 3), .long (z_gL x 4), .long (z_gL x 5), .int (z_gI x 0), .int (z_gI x 1), .int (z_gI x 2), .int (z_gI x 3), .ref (ad 4), .ref (ad 5), .int (z_gI x 4), .ref (ad 6), .ref (ad 7), .int (z_gI x 5), .ref (ad 8), .int (z_gI x 6), .int (z_gI x 7), .int (z_gI x 8), .int (z_gI x 9), .int (z_gI x 10), .int (z_gI x 11), .int (z_gI x 12), .int (z_gI x 13), .int (z_gI x 14), .int (z_gI x 15), .int (z_gI x 16), .int (z_gI x 17), .int (z_gI x 18), .long (z_gL x 6), .long (z_gL x 7), .long (z_gL x 8), .long (z_gL x 9), .int (z_gI x 19)])),
  (ad 1, .inl (ca 0, 32768, .inl (z_gN x 0))),
  (ad 2, .inl (ca 1, 16, .inr (.inl (z_gM x 0)))),
  (ad 3, .inl (ca 2, 16, .inr (.inl (z_gM x 1)))),
  (ad 4, .inl (ca 3, 7, .inl (z_gN x 1))),
  (ad 5, .inl (ca 4, 7, .inl (z_gN x 2))),
  (ad 6, .inl (ca 5, 16, .inr (.inl (z_gM x 2)))),
  (ad 7, .inl (ca 6, 16, .inl (z_gN x 3))),
  (ad 8, .inl (ca 7, 8, .inr (.inl (z_gM x 3))))]
def z_Mt (ca : Nat → ClassId) : List (ClassId × FieldType) := [(ca 0, .byte), (ca 1, .long), (ca 2, .long), (ca 3, .boolean), (ca 4, .boolean), (ca 5, .long), (ca 6, .int), (ca 7, .long)]
section Zz_M
variable {p : Program} {l : Launch} {e : Env} {R : Room} {s : State} {m : MethodId} {args : Array Value} {below : List Frame} {meth : Method} {c : Code} {H : Heap} {locs : List Loc} {cells slots : Nat} {Q : State → Prop} {own : String} {cc : ByteArray} {nL : Nat} {ret : Option FieldType} {D : va_G} {A : Nat → Prop} {rest : List Value} {pc : Nat} {ls : Array Slot} {ad : Nat → Nat} {ca : Nat → ClassId} {x : z_Sg}
theorem gfM_0_memory {idx : Nat} (C0 : z_cx own cc nL ret D (z_Mt ca) A p s m args meth c) (hw : z_wd D (z_M ad ca x) A s H locs) (hk : Cond.fieldLink own idx "LongModeCoreModel" "memory" "[B" ∈ z_tbl) (d : decode cc pc = .ok (.getfield idx, 3)) (kk : W p l e R s m args below meth c H locs cells slots Q (F0 m (pc + 3) ls (.ref (ad 1) :: rest))) : W p l e R s m args below meth c H locs cells slots Q (F0 m pc ls (.ref (ad 0) :: rest)) := z_get C0 hw z_iMo 0 rfl rfl 0 (by decide) hk rfl d kk
theorem gfM_0_r {idx : Nat} (C0 : z_cx own cc nL ret D (z_Mt ca) A p s m args meth c) (hw : z_wd D (z_M ad ca x) A s H locs) (hk : Cond.fieldLink own idx "LongModeCoreModel" "\x72" "[J" ∈ z_tbl) (d : decode cc pc = .ok (.getfield idx, 3)) (kk : W p l e R s m args below meth c H locs cells slots Q (F0 m (pc + 3) ls (.ref (ad 2) :: rest))) : W p l e R s m args below meth c H locs cells slots Q (F0 m pc ls (.ref (ad 0) :: rest)) := z_get C0 hw z_iMo 0 rfl rfl 1 (by decide) hk rfl d kk
theorem gfM_0_old {idx : Nat} (C0 : z_cx own cc nL ret D (z_Mt ca) A p s m args meth c) (hw : z_wd D (z_M ad ca x) A s H locs) (hk : Cond.fieldLink own idx "LongModeCoreModel" "old" "[J" ∈ z_tbl) (d : decode cc pc = .ok (.getfield idx, 3)) (kk : W p l e R s m args below meth c H locs cells slots Q (F0 m (pc + 3) ls (.ref (ad 3) :: rest))) : W p l e R s m args below meth c H locs cells slots Q (F0 m pc ls (.ref (ad 0) :: rest)) := z_get C0 hw z_iMo 0 rfl rfl 2 (by decide) hk rfl d kk
theorem gfM_0_next {idx : Nat} (C0 : z_cx own cc nL ret D (z_Mt ca) A p s m args meth c) (hw : z_wd D (z_M ad ca x) A s H locs) (hk : Cond.fieldLink own idx "LongModeCoreModel" "next" "J" ∈ z_tbl) (d : decode cc pc = .ok (.getfield idx, 3)) (kk : W p l e R s m args below meth c H locs cells slots Q (F0 m (pc + 3) ls (.long (z_gL x 0) :: rest))) : W p l e R s m args below meth c H locs cells slots Q (F0 m pc ls (.ref (ad 0) :: rest)) := z_get C0 hw z_iMo 0 rfl rfl 3 (by decide) hk rfl d kk
theorem pfM_0_next {idx : Nat} {v : Int64} (C0 : z_cx own cc nL ret D (z_Mt ca) A p s m args meth c) (hw : z_wd D (z_M ad ca x) A s H locs) (hk : Cond.fieldLink own idx "LongModeCoreModel" "next" "J" ∈ z_tbl) (d : decode cc pc = .ok (.putfield idx, 3)) (kk : ∀ (H : Heap) (locs : List Loc), z_wd D (z_M ad ca (z_sL x 0 v)) A s H locs → W p l e R s m args below meth c H locs cells slots Q (F0 m (pc + 3) ls rest)) : W p l e R s m args below meth c H locs cells slots Q (F0 m pc ls (.long v :: .ref (ad 0) :: rest)) := z_put (ty := .long) C0 hw z_iMo z_yMo z_kMo z_nMo 0 rfl rfl 3 (by decide) hk rfl (by decide +kernel) rfl rfl (Nat.le_of_ble_eq_true rfl) d rfl kk
theorem gfM_0_table {idx : Nat} (C0 : z_cx own cc nL ret D (z_Mt ca) A p s m args meth c) (hw : z_wd D (z_M ad ca x) A s H locs) (hk : Cond.fieldLink own idx "LongModeCoreModel" "table" "J" ∈ z_tbl) (d : decode cc pc = .ok (.getfield idx, 3)) (kk : W p l e R s m args below meth c H locs cells slots Q (F0 m (pc + 3) ls (.long (z_gL x 1) :: rest))) : W p l e R s m args below meth c H locs cells slots Q (F0 m pc ls (.ref (ad 0) :: rest)) := z_get C0 hw z_iMo 0 rfl rfl 4 (by decide) hk rfl d kk
theorem pfM_0_table {idx : Nat} {v : Int64} (C0 : z_cx own cc nL ret D (z_Mt ca) A p s m args meth c) (hw : z_wd D (z_M ad ca x) A s H locs) (hk : Cond.fieldLink own idx "LongModeCoreModel" "table" "J" ∈ z_tbl) (d : decode cc pc = .ok (.putfield idx, 3)) (kk : ∀ (H : Heap) (locs : List Loc), z_wd D (z_M ad ca (z_sL x 1 v)) A s H locs → W p l e R s m args below meth c H locs cells slots Q (F0 m (pc + 3) ls rest)) : W p l e R s m args below meth c H locs cells slots Q (F0 m pc ls (.long v :: .ref (ad 0) :: rest)) := z_put (ty := .long) C0 hw z_iMo z_yMo z_kMo z_nMo 0 rfl rfl 4 (by decide) hk rfl (by decide +kernel) rfl rfl (Nat.le_of_ble_eq_true rfl) d rfl kk
theorem gfM_0_entryPlace {idx : Nat} (C0 : z_cx own cc nL ret D (z_Mt ca) A p s m args meth c) (hw : z_wd D (z_M ad ca x) A s H locs) (hk : Cond.fieldLink own idx "LongModeCoreModel" "entryPlace" "J" ∈ z_tbl) (d : decode cc pc = .ok (.getfield idx, 3)) (kk : W p l e R s m args below meth c H locs cells slots Q (F0 m (pc + 3) ls (.long (z_gL x 2) :: rest))) : W p l e R s m args below meth c H locs cells slots Q (F0 m pc ls (.ref (ad 0) :: rest)) := z_get C0 hw z_iMo 0 rfl rfl 5 (by decide) hk rfl d kk
theorem pfM_0_entryPlace {idx : Nat} {v : Int64} (C0 : z_cx own cc nL ret D (z_Mt ca) A p s m args meth c) (hw : z_wd D (z_M ad ca x) A s H locs) (hk : Cond.fieldLink own idx "LongModeCoreModel" "entryPlace" "J" ∈ z_tbl) (d : decode cc pc = .ok (.putfield idx, 3)) (kk : ∀ (H : Heap) (locs : List Loc), z_wd D (z_M ad ca (z_sL x 2 v)) A s H locs → W p l e R s m args below meth c H locs cells slots Q (F0 m (pc + 3) ls rest)) : W p l e R s m args below meth c H locs cells slots Q (F0 m pc ls (.long v :: .ref (ad 0) :: rest)) := z_put (ty := .long) C0 hw z_iMo z_yMo z_kMo z_nMo 0 rfl rfl 5 (by decide) hk rfl (by decide +kernel) rfl rfl (Nat.le_of_ble_eq_true rfl) d rfl kk
theorem gfM_0_mask {idx : Nat} (C0 : z_cx own cc nL ret D (z_Mt ca) A p s m args meth c) (hw : z_wd D (z_M ad ca x) A s H locs) (hk : Cond.fieldLink own idx "LongModeCoreModel" "mask" "J" ∈ z_tbl) (d : decode cc pc = .ok (.getfield idx, 3)) (kk : W p l e R s m args below meth c H locs cells slots Q (F0 m (pc + 3) ls (.long (z_gL x 3) :: rest))) : W p l e R s m args below meth c H locs cells slots Q (F0 m pc ls (.ref (ad 0) :: rest)) := z_get C0 hw z_iMo 0 rfl rfl 6 (by decide) hk rfl d kk
theorem pfM_0_mask {idx : Nat} {v : Int64} (C0 : z_cx own cc nL ret D (z_Mt ca) A p s m args meth c) (hw : z_wd D (z_M ad ca x) A s H locs) (hk : Cond.fieldLink own idx "LongModeCoreModel" "mask" "J" ∈ z_tbl) (d : decode cc pc = .ok (.putfield idx, 3)) (kk : ∀ (H : Heap) (locs : List Loc), z_wd D (z_M ad ca (z_sL x 3 v)) A s H locs → W p l e R s m args below meth c H locs cells slots Q (F0 m (pc + 3) ls rest)) : W p l e R s m args below meth c H locs cells slots Q (F0 m pc ls (.long v :: .ref (ad 0) :: rest)) := z_put (ty := .long) C0 hw z_iMo z_yMo z_kMo z_nMo 0 rfl rfl 6 (by decide) hk rfl (by decide +kernel) rfl rfl (Nat.le_of_ble_eq_true rfl) d rfl kk
theorem gfM_0_undefined {idx : Nat} (C0 : z_cx own cc nL ret D (z_Mt ca) A p s m args meth c) (hw : z_wd D (z_M ad ca x) A s H locs) (hk : Cond.fieldLink own idx "LongModeCoreModel" "undefined" "J" ∈ z_tbl) (d : decode cc pc = .ok (.getfield idx, 3)) (kk : W p l e R s m args below meth c H locs cells slots Q (F0 m (pc + 3) ls (.long (z_gL x 4) :: rest))) : W p l e R s m args below meth c H locs cells slots Q (F0 m pc ls (.ref (ad 0) :: rest)) := z_get C0 hw z_iMo 0 rfl rfl 7 (by decide) hk rfl d kk
theorem pfM_0_undefined {idx : Nat} {v : Int64} (C0 : z_cx own cc nL ret D (z_Mt ca) A p s m args meth c) (hw : z_wd D (z_M ad ca x) A s H locs) (hk : Cond.fieldLink own idx "LongModeCoreModel" "undefined" "J" ∈ z_tbl) (d : decode cc pc = .ok (.putfield idx, 3)) (kk : ∀ (H : Heap) (locs : List Loc), z_wd D (z_M ad ca (z_sL x 4 v)) A s H locs → W p l e R s m args below meth c H locs cells slots Q (F0 m (pc + 3) ls rest)) : W p l e R s m args below meth c H locs cells slots Q (F0 m pc ls (.long v :: .ref (ad 0) :: rest)) := z_put (ty := .long) C0 hw z_iMo z_yMo z_kMo z_nMo 0 rfl rfl 7 (by decide) hk rfl (by decide +kernel) rfl rfl (Nat.le_of_ble_eq_true rfl) d rfl kk
theorem gfM_0_fault {idx : Nat} (C0 : z_cx own cc nL ret D (z_Mt ca) A p s m args meth c) (hw : z_wd D (z_M ad ca x) A s H locs) (hk : Cond.fieldLink own idx "LongModeCoreModel" "fault" "J" ∈ z_tbl) (d : decode cc pc = .ok (.getfield idx, 3)) (kk : W p l e R s m args below meth c H locs cells slots Q (F0 m (pc + 3) ls (.long (z_gL x 5) :: rest))) : W p l e R s m args below meth c H locs cells slots Q (F0 m pc ls (.ref (ad 0) :: rest)) := z_get C0 hw z_iMo 0 rfl rfl 8 (by decide) hk rfl d kk
theorem pfM_0_fault {idx : Nat} {v : Int64} (C0 : z_cx own cc nL ret D (z_Mt ca) A p s m args meth c) (hw : z_wd D (z_M ad ca x) A s H locs) (hk : Cond.fieldLink own idx "LongModeCoreModel" "fault" "J" ∈ z_tbl) (d : decode cc pc = .ok (.putfield idx, 3)) (kk : ∀ (H : Heap) (locs : List Loc), z_wd D (z_M ad ca (z_sL x 5 v)) A s H locs → W p l e R s m args below meth c H locs cells slots Q (F0 m (pc + 3) ls rest)) : W p l e R s m args below meth c H locs cells slots Q (F0 m pc ls (.long v :: .ref (ad 0) :: rest)) := z_put (ty := .long) C0 hw z_iMo z_yMo z_kMo z_nMo 0 rfl rfl 8 (by decide) hk rfl (by decide +kernel) rfl rfl (Nat.le_of_ble_eq_true rfl) d rfl kk
theorem gfM_0_code {idx : Nat} (C0 : z_cx own cc nL ret D (z_Mt ca) A p s m args meth c) (hw : z_wd D (z_M ad ca x) A s H locs) (hk : Cond.fieldLink own idx "LongModeCoreModel" "code" "I" ∈ z_tbl) (d : decode cc pc = .ok (.getfield idx, 3)) (kk : W p l e R s m args below meth c H locs cells slots Q (F0 m (pc + 3) ls (.int (z_gI x 0) :: rest))) : W p l e R s m args below meth c H locs cells slots Q (F0 m pc ls (.ref (ad 0) :: rest)) := z_get C0 hw z_iMo 0 rfl rfl 9 (by decide) hk rfl d kk
theorem pfM_0_code {idx : Nat} {v : Int32} (C0 : z_cx own cc nL ret D (z_Mt ca) A p s m args meth c) (hw : z_wd D (z_M ad ca x) A s H locs) (hk : Cond.fieldLink own idx "LongModeCoreModel" "code" "I" ∈ z_tbl) (d : decode cc pc = .ok (.putfield idx, 3)) (kk : ∀ (H : Heap) (locs : List Loc), z_wd D (z_M ad ca (z_sI x 0 v)) A s H locs → W p l e R s m args below meth c H locs cells slots Q (F0 m (pc + 3) ls rest)) : W p l e R s m args below meth c H locs cells slots Q (F0 m pc ls (.int v :: .ref (ad 0) :: rest)) := z_put (ty := .int) C0 hw z_iMo z_yMo z_kMo z_nMo 0 rfl rfl 9 (by decide) hk rfl (by decide +kernel) rfl rfl (Nat.le_of_ble_eq_true rfl) d rfl kk
theorem gfM_0_lookCode {idx : Nat} (C0 : z_cx own cc nL ret D (z_Mt ca) A p s m args meth c) (hw : z_wd D (z_M ad ca x) A s H locs) (hk : Cond.fieldLink own idx "LongModeCoreModel" "lookCode" "I" ∈ z_tbl) (d : decode cc pc = .ok (.getfield idx, 3)) (kk : W p l e R s m args below meth c H locs cells slots Q (F0 m (pc + 3) ls (.int (z_gI x 1) :: rest))) : W p l e R s m args below meth c H locs cells slots Q (F0 m pc ls (.ref (ad 0) :: rest)) := z_get C0 hw z_iMo 0 rfl rfl 10 (by decide) hk rfl d kk
theorem pfM_0_lookCode {idx : Nat} {v : Int32} (C0 : z_cx own cc nL ret D (z_Mt ca) A p s m args meth c) (hw : z_wd D (z_M ad ca x) A s H locs) (hk : Cond.fieldLink own idx "LongModeCoreModel" "lookCode" "I" ∈ z_tbl) (d : decode cc pc = .ok (.putfield idx, 3)) (kk : ∀ (H : Heap) (locs : List Loc), z_wd D (z_M ad ca (z_sI x 1 v)) A s H locs → W p l e R s m args below meth c H locs cells slots Q (F0 m (pc + 3) ls rest)) : W p l e R s m args below meth c H locs cells slots Q (F0 m pc ls (.int v :: .ref (ad 0) :: rest)) := z_put (ty := .int) C0 hw z_iMo z_yMo z_kMo z_nMo 0 rfl rfl 10 (by decide) hk rfl (by decide +kernel) rfl rfl (Nat.le_of_ble_eq_true rfl) d rfl kk
theorem gfM_0_user {idx : Nat} (C0 : z_cx own cc nL ret D (z_Mt ca) A p s m args meth c) (hw : z_wd D (z_M ad ca x) A s H locs) (hk : Cond.fieldLink own idx "LongModeCoreModel" "user" "Z" ∈ z_tbl) (d : decode cc pc = .ok (.getfield idx, 3)) (kk : W p l e R s m args below meth c H locs cells slots Q (F0 m (pc + 3) ls (.int (z_gI x 2) :: rest))) : W p l e R s m args below meth c H locs cells slots Q (F0 m pc ls (.ref (ad 0) :: rest)) := z_get C0 hw z_iMo 0 rfl rfl 11 (by decide) hk rfl d kk
theorem pfM_0_user {idx : Nat} {v : Int32} (C0 : z_cx own cc nL ret D (z_Mt ca) A p s m args meth c) (hw : z_wd D (z_M ad ca x) A s H locs) (hv : z_bo v) (hk : Cond.fieldLink own idx "LongModeCoreModel" "user" "Z" ∈ z_tbl) (d : decode cc pc = .ok (.putfield idx, 3)) (kk : ∀ (H : Heap) (locs : List Loc), z_wd D (z_M ad ca (z_sI x 2 v)) A s H locs → W p l e R s m args below meth c H locs cells slots Q (F0 m (pc + 3) ls rest)) : W p l e R s m args below meth c H locs cells slots Q (F0 m pc ls (.int v :: .ref (ad 0) :: rest)) := z_put (ty := .boolean) C0 hw z_iMo z_yMo z_kMo z_nMo 0 rfl rfl 11 (by decide) hk rfl (by decide +kernel) (z_bo_n hv) (z_bo_f hv) (Nat.le_of_ble_eq_true rfl) d rfl kk
theorem gfM_0_oldUser {idx : Nat} (C0 : z_cx own cc nL ret D (z_Mt ca) A p s m args meth c) (hw : z_wd D (z_M ad ca x) A s H locs) (hk : Cond.fieldLink own idx "LongModeCoreModel" "oldUser" "Z" ∈ z_tbl) (d : decode cc pc = .ok (.getfield idx, 3)) (kk : W p l e R s m args below meth c H locs cells slots Q (F0 m (pc + 3) ls (.int (z_gI x 3) :: rest))) : W p l e R s m args below meth c H locs cells slots Q (F0 m pc ls (.ref (ad 0) :: rest)) := z_get C0 hw z_iMo 0 rfl rfl 12 (by decide) hk rfl d kk
theorem pfM_0_oldUser {idx : Nat} {v : Int32} (C0 : z_cx own cc nL ret D (z_Mt ca) A p s m args meth c) (hw : z_wd D (z_M ad ca x) A s H locs) (hv : z_bo v) (hk : Cond.fieldLink own idx "LongModeCoreModel" "oldUser" "Z" ∈ z_tbl) (d : decode cc pc = .ok (.putfield idx, 3)) (kk : ∀ (H : Heap) (locs : List Loc), z_wd D (z_M ad ca (z_sI x 3 v)) A s H locs → W p l e R s m args below meth c H locs cells slots Q (F0 m (pc + 3) ls rest)) : W p l e R s m args below meth c H locs cells slots Q (F0 m pc ls (.int v :: .ref (ad 0) :: rest)) := z_put (ty := .boolean) C0 hw z_iMo z_yMo z_kMo z_nMo 0 rfl rfl 12 (by decide) hk rfl (by decide +kernel) (z_bo_n hv) (z_bo_f hv) (Nat.le_of_ble_eq_true rfl) d rfl kk
theorem gfM_0_flag {idx : Nat} (C0 : z_cx own cc nL ret D (z_Mt ca) A p s m args meth c) (hw : z_wd D (z_M ad ca x) A s H locs) (hk : Cond.fieldLink own idx "LongModeCoreModel" "flag" "[Z" ∈ z_tbl) (d : decode cc pc = .ok (.getfield idx, 3)) (kk : W p l e R s m args below meth c H locs cells slots Q (F0 m (pc + 3) ls (.ref (ad 4) :: rest))) : W p l e R s m args below meth c H locs cells slots Q (F0 m pc ls (.ref (ad 0) :: rest)) := z_get C0 hw z_iMo 0 rfl rfl 13 (by decide) hk rfl d kk
theorem gfM_0_oldFlag {idx : Nat} (C0 : z_cx own cc nL ret D (z_Mt ca) A p s m args meth c) (hw : z_wd D (z_M ad ca x) A s H locs) (hk : Cond.fieldLink own idx "LongModeCoreModel" "oldFlag" "[Z" ∈ z_tbl) (d : decode cc pc = .ok (.getfield idx, 3)) (kk : W p l e R s m args below meth c H locs cells slots Q (F0 m (pc + 3) ls (.ref (ad 5) :: rest))) : W p l e R s m args below meth c H locs cells slots Q (F0 m pc ls (.ref (ad 0) :: rest)) := z_get C0 hw z_iMo 0 rfl rfl 14 (by decide) hk rfl d kk
theorem gfM_0_refused {idx : Nat} (C0 : z_cx own cc nL ret D (z_Mt ca) A p s m args meth c) (hw : z_wd D (z_M ad ca x) A s H locs) (hk : Cond.fieldLink own idx "LongModeCoreModel" "refused" "I" ∈ z_tbl) (d : decode cc pc = .ok (.getfield idx, 3)) (kk : W p l e R s m args below meth c H locs cells slots Q (F0 m (pc + 3) ls (.int (z_gI x 4) :: rest))) : W p l e R s m args below meth c H locs cells slots Q (F0 m pc ls (.ref (ad 0) :: rest)) := z_get C0 hw z_iMo 0 rfl rfl 15 (by decide) hk rfl d kk
theorem pfM_0_refused {idx : Nat} {v : Int32} (C0 : z_cx own cc nL ret D (z_Mt ca) A p s m args meth c) (hw : z_wd D (z_M ad ca x) A s H locs) (hk : Cond.fieldLink own idx "LongModeCoreModel" "refused" "I" ∈ z_tbl) (d : decode cc pc = .ok (.putfield idx, 3)) (kk : ∀ (H : Heap) (locs : List Loc), z_wd D (z_M ad ca (z_sI x 4 v)) A s H locs → W p l e R s m args below meth c H locs cells slots Q (F0 m (pc + 3) ls rest)) : W p l e R s m args below meth c H locs cells slots Q (F0 m pc ls (.int v :: .ref (ad 0) :: rest)) := z_put (ty := .int) C0 hw z_iMo z_yMo z_kMo z_nMo 0 rfl rfl 15 (by decide) hk rfl (by decide +kernel) rfl rfl (Nat.le_of_ble_eq_true rfl) d rfl kk
theorem gfM_0_waitAt {idx : Nat} (C0 : z_cx own cc nL ret D (z_Mt ca) A p s m args meth c) (hw : z_wd D (z_M ad ca x) A s H locs) (hk : Cond.fieldLink own idx "LongModeCoreModel" "waitAt" "[J" ∈ z_tbl) (d : decode cc pc = .ok (.getfield idx, 3)) (kk : W p l e R s m args below meth c H locs cells slots Q (F0 m (pc + 3) ls (.ref (ad 6) :: rest))) : W p l e R s m args below meth c H locs cells slots Q (F0 m pc ls (.ref (ad 0) :: rest)) := z_get C0 hw z_iMo 0 rfl rfl 16 (by decide) hk rfl d kk
theorem gfM_0_waitByte {idx : Nat} (C0 : z_cx own cc nL ret D (z_Mt ca) A p s m args meth c) (hw : z_wd D (z_M ad ca x) A s H locs) (hk : Cond.fieldLink own idx "LongModeCoreModel" "waitByte" "[I" ∈ z_tbl) (d : decode cc pc = .ok (.getfield idx, 3)) (kk : W p l e R s m args below meth c H locs cells slots Q (F0 m (pc + 3) ls (.ref (ad 7) :: rest))) : W p l e R s m args below meth c H locs cells slots Q (F0 m pc ls (.ref (ad 0) :: rest)) := z_get C0 hw z_iMo 0 rfl rfl 17 (by decide) hk rfl d kk
theorem gfM_0_waits {idx : Nat} (C0 : z_cx own cc nL ret D (z_Mt ca) A p s m args meth c) (hw : z_wd D (z_M ad ca x) A s H locs) (hk : Cond.fieldLink own idx "LongModeCoreModel" "waits" "I" ∈ z_tbl) (d : decode cc pc = .ok (.getfield idx, 3)) (kk : W p l e R s m args below meth c H locs cells slots Q (F0 m (pc + 3) ls (.int (z_gI x 5) :: rest))) : W p l e R s m args below meth c H locs cells slots Q (F0 m pc ls (.ref (ad 0) :: rest)) := z_get C0 hw z_iMo 0 rfl rfl 18 (by decide) hk rfl d kk
theorem pfM_0_waits {idx : Nat} {v : Int32} (C0 : z_cx own cc nL ret D (z_Mt ca) A p s m args meth c) (hw : z_wd D (z_M ad ca x) A s H locs) (hk : Cond.fieldLink own idx "LongModeCoreModel" "waits" "I" ∈ z_tbl) (d : decode cc pc = .ok (.putfield idx, 3)) (kk : ∀ (H : Heap) (locs : List Loc), z_wd D (z_M ad ca (z_sI x 5 v)) A s H locs → W p l e R s m args below meth c H locs cells slots Q (F0 m (pc + 3) ls rest)) : W p l e R s m args below meth c H locs cells slots Q (F0 m pc ls (.int v :: .ref (ad 0) :: rest)) := z_put (ty := .int) C0 hw z_iMo z_yMo z_kMo z_nMo 0 rfl rfl 18 (by decide) hk rfl (by decide +kernel) rfl rfl (Nat.le_of_ble_eq_true rfl) d rfl kk
theorem gfM_0_lies {idx : Nat} (C0 : z_cx own cc nL ret D (z_Mt ca) A p s m args meth c) (hw : z_wd D (z_M ad ca x) A s H locs) (hk : Cond.fieldLink own idx "LongModeCoreModel" "lies" "[J" ∈ z_tbl) (d : decode cc pc = .ok (.getfield idx, 3)) (kk : W p l e R s m args below meth c H locs cells slots Q (F0 m (pc + 3) ls (.ref (ad 8) :: rest))) : W p l e R s m args below meth c H locs cells slots Q (F0 m pc ls (.ref (ad 0) :: rest)) := z_get C0 hw z_iMo 0 rfl rfl 19 (by decide) hk rfl d kk
theorem gfM_0_length {idx : Nat} (C0 : z_cx own cc nL ret D (z_Mt ca) A p s m args meth c) (hw : z_wd D (z_M ad ca x) A s H locs) (hk : Cond.fieldLink own idx "LongModeCoreModel" "length" "I" ∈ z_tbl) (d : decode cc pc = .ok (.getfield idx, 3)) (kk : W p l e R s m args below meth c H locs cells slots Q (F0 m (pc + 3) ls (.int (z_gI x 6) :: rest))) : W p l e R s m args below meth c H locs cells slots Q (F0 m pc ls (.ref (ad 0) :: rest)) := z_get C0 hw z_iMo 0 rfl rfl 20 (by decide) hk rfl d kk
theorem pfM_0_length {idx : Nat} {v : Int32} (C0 : z_cx own cc nL ret D (z_Mt ca) A p s m args meth c) (hw : z_wd D (z_M ad ca x) A s H locs) (hk : Cond.fieldLink own idx "LongModeCoreModel" "length" "I" ∈ z_tbl) (d : decode cc pc = .ok (.putfield idx, 3)) (kk : ∀ (H : Heap) (locs : List Loc), z_wd D (z_M ad ca (z_sI x 6 v)) A s H locs → W p l e R s m args below meth c H locs cells slots Q (F0 m (pc + 3) ls rest)) : W p l e R s m args below meth c H locs cells slots Q (F0 m pc ls (.int v :: .ref (ad 0) :: rest)) := z_put (ty := .int) C0 hw z_iMo z_yMo z_kMo z_nMo 0 rfl rfl 20 (by decide) hk rfl (by decide +kernel) rfl rfl (Nat.le_of_ble_eq_true rfl) d rfl kk
theorem gfM_0_mod {idx : Nat} (C0 : z_cx own cc nL ret D (z_Mt ca) A p s m args meth c) (hw : z_wd D (z_M ad ca x) A s H locs) (hk : Cond.fieldLink own idx "LongModeCoreModel" "mod" "I" ∈ z_tbl) (d : decode cc pc = .ok (.getfield idx, 3)) (kk : W p l e R s m args below meth c H locs cells slots Q (F0 m (pc + 3) ls (.int (z_gI x 7) :: rest))) : W p l e R s m args below meth c H locs cells slots Q (F0 m pc ls (.ref (ad 0) :: rest)) := z_get C0 hw z_iMo 0 rfl rfl 21 (by decide) hk rfl d kk
theorem pfM_0_mod {idx : Nat} {v : Int32} (C0 : z_cx own cc nL ret D (z_Mt ca) A p s m args meth c) (hw : z_wd D (z_M ad ca x) A s H locs) (hk : Cond.fieldLink own idx "LongModeCoreModel" "mod" "I" ∈ z_tbl) (d : decode cc pc = .ok (.putfield idx, 3)) (kk : ∀ (H : Heap) (locs : List Loc), z_wd D (z_M ad ca (z_sI x 7 v)) A s H locs → W p l e R s m args below meth c H locs cells slots Q (F0 m (pc + 3) ls rest)) : W p l e R s m args below meth c H locs cells slots Q (F0 m pc ls (.int v :: .ref (ad 0) :: rest)) := z_put (ty := .int) C0 hw z_iMo z_yMo z_kMo z_nMo 0 rfl rfl 21 (by decide) hk rfl (by decide +kernel) rfl rfl (Nat.le_of_ble_eq_true rfl) d rfl kk
theorem gfM_0_reg {idx : Nat} (C0 : z_cx own cc nL ret D (z_Mt ca) A p s m args meth c) (hw : z_wd D (z_M ad ca x) A s H locs) (hk : Cond.fieldLink own idx "LongModeCoreModel" "reg" "I" ∈ z_tbl) (d : decode cc pc = .ok (.getfield idx, 3)) (kk : W p l e R s m args below meth c H locs cells slots Q (F0 m (pc + 3) ls (.int (z_gI x 8) :: rest))) : W p l e R s m args below meth c H locs cells slots Q (F0 m pc ls (.ref (ad 0) :: rest)) := z_get C0 hw z_iMo 0 rfl rfl 22 (by decide) hk rfl d kk
theorem pfM_0_reg {idx : Nat} {v : Int32} (C0 : z_cx own cc nL ret D (z_Mt ca) A p s m args meth c) (hw : z_wd D (z_M ad ca x) A s H locs) (hk : Cond.fieldLink own idx "LongModeCoreModel" "reg" "I" ∈ z_tbl) (d : decode cc pc = .ok (.putfield idx, 3)) (kk : ∀ (H : Heap) (locs : List Loc), z_wd D (z_M ad ca (z_sI x 8 v)) A s H locs → W p l e R s m args below meth c H locs cells slots Q (F0 m (pc + 3) ls rest)) : W p l e R s m args below meth c H locs cells slots Q (F0 m pc ls (.int v :: .ref (ad 0) :: rest)) := z_put (ty := .int) C0 hw z_iMo z_yMo z_kMo z_nMo 0 rfl rfl 22 (by decide) hk rfl (by decide +kernel) rfl rfl (Nat.le_of_ble_eq_true rfl) d rfl kk
theorem gfM_0_rm {idx : Nat} (C0 : z_cx own cc nL ret D (z_Mt ca) A p s m args meth c) (hw : z_wd D (z_M ad ca x) A s H locs) (hk : Cond.fieldLink own idx "LongModeCoreModel" "rm" "I" ∈ z_tbl) (d : decode cc pc = .ok (.getfield idx, 3)) (kk : W p l e R s m args below meth c H locs cells slots Q (F0 m (pc + 3) ls (.int (z_gI x 9) :: rest))) : W p l e R s m args below meth c H locs cells slots Q (F0 m pc ls (.ref (ad 0) :: rest)) := z_get C0 hw z_iMo 0 rfl rfl 23 (by decide) hk rfl d kk
theorem pfM_0_rm {idx : Nat} {v : Int32} (C0 : z_cx own cc nL ret D (z_Mt ca) A p s m args meth c) (hw : z_wd D (z_M ad ca x) A s H locs) (hk : Cond.fieldLink own idx "LongModeCoreModel" "rm" "I" ∈ z_tbl) (d : decode cc pc = .ok (.putfield idx, 3)) (kk : ∀ (H : Heap) (locs : List Loc), z_wd D (z_M ad ca (z_sI x 9 v)) A s H locs → W p l e R s m args below meth c H locs cells slots Q (F0 m (pc + 3) ls rest)) : W p l e R s m args below meth c H locs cells slots Q (F0 m pc ls (.int v :: .ref (ad 0) :: rest)) := z_put (ty := .int) C0 hw z_iMo z_yMo z_kMo z_nMo 0 rfl rfl 23 (by decide) hk rfl (by decide +kernel) rfl rfl (Nat.le_of_ble_eq_true rfl) d rfl kk
theorem gfM_0_rex {idx : Nat} (C0 : z_cx own cc nL ret D (z_Mt ca) A p s m args meth c) (hw : z_wd D (z_M ad ca x) A s H locs) (hk : Cond.fieldLink own idx "LongModeCoreModel" "rex" "I" ∈ z_tbl) (d : decode cc pc = .ok (.getfield idx, 3)) (kk : W p l e R s m args below meth c H locs cells slots Q (F0 m (pc + 3) ls (.int (z_gI x 10) :: rest))) : W p l e R s m args below meth c H locs cells slots Q (F0 m pc ls (.ref (ad 0) :: rest)) := z_get C0 hw z_iMo 0 rfl rfl 24 (by decide) hk rfl d kk
theorem pfM_0_rex {idx : Nat} {v : Int32} (C0 : z_cx own cc nL ret D (z_Mt ca) A p s m args meth c) (hw : z_wd D (z_M ad ca x) A s H locs) (hk : Cond.fieldLink own idx "LongModeCoreModel" "rex" "I" ∈ z_tbl) (d : decode cc pc = .ok (.putfield idx, 3)) (kk : ∀ (H : Heap) (locs : List Loc), z_wd D (z_M ad ca (z_sI x 10 v)) A s H locs → W p l e R s m args below meth c H locs cells slots Q (F0 m (pc + 3) ls rest)) : W p l e R s m args below meth c H locs cells slots Q (F0 m pc ls (.int v :: .ref (ad 0) :: rest)) := z_put (ty := .int) C0 hw z_iMo z_yMo z_kMo z_nMo 0 rfl rfl 24 (by decide) hk rfl (by decide +kernel) rfl rfl (Nat.le_of_ble_eq_true rfl) d rfl kk
theorem gfM_0_repeat {idx : Nat} (C0 : z_cx own cc nL ret D (z_Mt ca) A p s m args meth c) (hw : z_wd D (z_M ad ca x) A s H locs) (hk : Cond.fieldLink own idx "LongModeCoreModel" "repeat" "I" ∈ z_tbl) (d : decode cc pc = .ok (.getfield idx, 3)) (kk : W p l e R s m args below meth c H locs cells slots Q (F0 m (pc + 3) ls (.int (z_gI x 11) :: rest))) : W p l e R s m args below meth c H locs cells slots Q (F0 m pc ls (.ref (ad 0) :: rest)) := z_get C0 hw z_iMo 0 rfl rfl 25 (by decide) hk rfl d kk
theorem pfM_0_repeat {idx : Nat} {v : Int32} (C0 : z_cx own cc nL ret D (z_Mt ca) A p s m args meth c) (hw : z_wd D (z_M ad ca x) A s H locs) (hk : Cond.fieldLink own idx "LongModeCoreModel" "repeat" "I" ∈ z_tbl) (d : decode cc pc = .ok (.putfield idx, 3)) (kk : ∀ (H : Heap) (locs : List Loc), z_wd D (z_M ad ca (z_sI x 11 v)) A s H locs → W p l e R s m args below meth c H locs cells slots Q (F0 m (pc + 3) ls rest)) : W p l e R s m args below meth c H locs cells slots Q (F0 m pc ls (.int v :: .ref (ad 0) :: rest)) := z_put (ty := .int) C0 hw z_iMo z_yMo z_kMo z_nMo 0 rfl rfl 25 (by decide) hk rfl (by decide +kernel) rfl rfl (Nat.le_of_ble_eq_true rfl) d rfl kk
theorem gfM_0_scale {idx : Nat} (C0 : z_cx own cc nL ret D (z_Mt ca) A p s m args meth c) (hw : z_wd D (z_M ad ca x) A s H locs) (hk : Cond.fieldLink own idx "LongModeCoreModel" "scale" "I" ∈ z_tbl) (d : decode cc pc = .ok (.getfield idx, 3)) (kk : W p l e R s m args below meth c H locs cells slots Q (F0 m (pc + 3) ls (.int (z_gI x 12) :: rest))) : W p l e R s m args below meth c H locs cells slots Q (F0 m pc ls (.ref (ad 0) :: rest)) := z_get C0 hw z_iMo 0 rfl rfl 26 (by decide) hk rfl d kk
theorem pfM_0_scale {idx : Nat} {v : Int32} (C0 : z_cx own cc nL ret D (z_Mt ca) A p s m args meth c) (hw : z_wd D (z_M ad ca x) A s H locs) (hk : Cond.fieldLink own idx "LongModeCoreModel" "scale" "I" ∈ z_tbl) (d : decode cc pc = .ok (.putfield idx, 3)) (kk : ∀ (H : Heap) (locs : List Loc), z_wd D (z_M ad ca (z_sI x 12 v)) A s H locs → W p l e R s m args below meth c H locs cells slots Q (F0 m (pc + 3) ls rest)) : W p l e R s m args below meth c H locs cells slots Q (F0 m pc ls (.int v :: .ref (ad 0) :: rest)) := z_put (ty := .int) C0 hw z_iMo z_yMo z_kMo z_nMo 0 rfl rfl 26 (by decide) hk rfl (by decide +kernel) rfl rfl (Nat.le_of_ble_eq_true rfl) d rfl kk
theorem gfM_0_base {idx : Nat} (C0 : z_cx own cc nL ret D (z_Mt ca) A p s m args meth c) (hw : z_wd D (z_M ad ca x) A s H locs) (hk : Cond.fieldLink own idx "LongModeCoreModel" "base" "I" ∈ z_tbl) (d : decode cc pc = .ok (.getfield idx, 3)) (kk : W p l e R s m args below meth c H locs cells slots Q (F0 m (pc + 3) ls (.int (z_gI x 13) :: rest))) : W p l e R s m args below meth c H locs cells slots Q (F0 m pc ls (.ref (ad 0) :: rest)) := z_get C0 hw z_iMo 0 rfl rfl 27 (by decide) hk rfl d kk
theorem pfM_0_base {idx : Nat} {v : Int32} (C0 : z_cx own cc nL ret D (z_Mt ca) A p s m args meth c) (hw : z_wd D (z_M ad ca x) A s H locs) (hk : Cond.fieldLink own idx "LongModeCoreModel" "base" "I" ∈ z_tbl) (d : decode cc pc = .ok (.putfield idx, 3)) (kk : ∀ (H : Heap) (locs : List Loc), z_wd D (z_M ad ca (z_sI x 13 v)) A s H locs → W p l e R s m args below meth c H locs cells slots Q (F0 m (pc + 3) ls rest)) : W p l e R s m args below meth c H locs cells slots Q (F0 m pc ls (.int v :: .ref (ad 0) :: rest)) := z_put (ty := .int) C0 hw z_iMo z_yMo z_kMo z_nMo 0 rfl rfl 27 (by decide) hk rfl (by decide +kernel) rfl rfl (Nat.le_of_ble_eq_true rfl) d rfl kk
theorem gfM_0_index {idx : Nat} (C0 : z_cx own cc nL ret D (z_Mt ca) A p s m args meth c) (hw : z_wd D (z_M ad ca x) A s H locs) (hk : Cond.fieldLink own idx "LongModeCoreModel" "index" "I" ∈ z_tbl) (d : decode cc pc = .ok (.getfield idx, 3)) (kk : W p l e R s m args below meth c H locs cells slots Q (F0 m (pc + 3) ls (.int (z_gI x 14) :: rest))) : W p l e R s m args below meth c H locs cells slots Q (F0 m pc ls (.ref (ad 0) :: rest)) := z_get C0 hw z_iMo 0 rfl rfl 28 (by decide) hk rfl d kk
theorem pfM_0_index {idx : Nat} {v : Int32} (C0 : z_cx own cc nL ret D (z_Mt ca) A p s m args meth c) (hw : z_wd D (z_M ad ca x) A s H locs) (hk : Cond.fieldLink own idx "LongModeCoreModel" "index" "I" ∈ z_tbl) (d : decode cc pc = .ok (.putfield idx, 3)) (kk : ∀ (H : Heap) (locs : List Loc), z_wd D (z_M ad ca (z_sI x 14 v)) A s H locs → W p l e R s m args below meth c H locs cells slots Q (F0 m (pc + 3) ls rest)) : W p l e R s m args below meth c H locs cells slots Q (F0 m pc ls (.int v :: .ref (ad 0) :: rest)) := z_put (ty := .int) C0 hw z_iMo z_yMo z_kMo z_nMo 0 rfl rfl 28 (by decide) hk rfl (by decide +kernel) rfl rfl (Nat.le_of_ble_eq_true rfl) d rfl kk
theorem gfM_0_opcode {idx : Nat} (C0 : z_cx own cc nL ret D (z_Mt ca) A p s m args meth c) (hw : z_wd D (z_M ad ca x) A s H locs) (hk : Cond.fieldLink own idx "LongModeCoreModel" "opcode" "I" ∈ z_tbl) (d : decode cc pc = .ok (.getfield idx, 3)) (kk : W p l e R s m args below meth c H locs cells slots Q (F0 m (pc + 3) ls (.int (z_gI x 15) :: rest))) : W p l e R s m args below meth c H locs cells slots Q (F0 m pc ls (.ref (ad 0) :: rest)) := z_get C0 hw z_iMo 0 rfl rfl 29 (by decide) hk rfl d kk
theorem pfM_0_opcode {idx : Nat} {v : Int32} (C0 : z_cx own cc nL ret D (z_Mt ca) A p s m args meth c) (hw : z_wd D (z_M ad ca x) A s H locs) (hk : Cond.fieldLink own idx "LongModeCoreModel" "opcode" "I" ∈ z_tbl) (d : decode cc pc = .ok (.putfield idx, 3)) (kk : ∀ (H : Heap) (locs : List Loc), z_wd D (z_M ad ca (z_sI x 15 v)) A s H locs → W p l e R s m args below meth c H locs cells slots Q (F0 m (pc + 3) ls rest)) : W p l e R s m args below meth c H locs cells slots Q (F0 m pc ls (.int v :: .ref (ad 0) :: rest)) := z_put (ty := .int) C0 hw z_iMo z_yMo z_kMo z_nMo 0 rfl rfl 29 (by decide) hk rfl (by decide +kernel) rfl rfl (Nat.le_of_ble_eq_true rfl) d rfl kk
theorem gfM_0_small {idx : Nat} (C0 : z_cx own cc nL ret D (z_Mt ca) A p s m args meth c) (hw : z_wd D (z_M ad ca x) A s H locs) (hk : Cond.fieldLink own idx "LongModeCoreModel" "small" "Z" ∈ z_tbl) (d : decode cc pc = .ok (.getfield idx, 3)) (kk : W p l e R s m args below meth c H locs cells slots Q (F0 m (pc + 3) ls (.int (z_gI x 16) :: rest))) : W p l e R s m args below meth c H locs cells slots Q (F0 m pc ls (.ref (ad 0) :: rest)) := z_get C0 hw z_iMo 0 rfl rfl 30 (by decide) hk rfl d kk
theorem pfM_0_small {idx : Nat} {v : Int32} (C0 : z_cx own cc nL ret D (z_Mt ca) A p s m args meth c) (hw : z_wd D (z_M ad ca x) A s H locs) (hv : z_bo v) (hk : Cond.fieldLink own idx "LongModeCoreModel" "small" "Z" ∈ z_tbl) (d : decode cc pc = .ok (.putfield idx, 3)) (kk : ∀ (H : Heap) (locs : List Loc), z_wd D (z_M ad ca (z_sI x 16 v)) A s H locs → W p l e R s m args below meth c H locs cells slots Q (F0 m (pc + 3) ls rest)) : W p l e R s m args below meth c H locs cells slots Q (F0 m pc ls (.int v :: .ref (ad 0) :: rest)) := z_put (ty := .boolean) C0 hw z_iMo z_yMo z_kMo z_nMo 0 rfl rfl 30 (by decide) hk rfl (by decide +kernel) (z_bo_n hv) (z_bo_f hv) (Nat.le_of_ble_eq_true rfl) d rfl kk
theorem gfM_0_relative {idx : Nat} (C0 : z_cx own cc nL ret D (z_Mt ca) A p s m args meth c) (hw : z_wd D (z_M ad ca x) A s H locs) (hk : Cond.fieldLink own idx "LongModeCoreModel" "relative" "Z" ∈ z_tbl) (d : decode cc pc = .ok (.getfield idx, 3)) (kk : W p l e R s m args below meth c H locs cells slots Q (F0 m (pc + 3) ls (.int (z_gI x 17) :: rest))) : W p l e R s m args below meth c H locs cells slots Q (F0 m pc ls (.ref (ad 0) :: rest)) := z_get C0 hw z_iMo 0 rfl rfl 31 (by decide) hk rfl d kk
theorem pfM_0_relative {idx : Nat} {v : Int32} (C0 : z_cx own cc nL ret D (z_Mt ca) A p s m args meth c) (hw : z_wd D (z_M ad ca x) A s H locs) (hv : z_bo v) (hk : Cond.fieldLink own idx "LongModeCoreModel" "relative" "Z" ∈ z_tbl) (d : decode cc pc = .ok (.putfield idx, 3)) (kk : ∀ (H : Heap) (locs : List Loc), z_wd D (z_M ad ca (z_sI x 17 v)) A s H locs → W p l e R s m args below meth c H locs cells slots Q (F0 m (pc + 3) ls rest)) : W p l e R s m args below meth c H locs cells slots Q (F0 m pc ls (.int v :: .ref (ad 0) :: rest)) := z_put (ty := .boolean) C0 hw z_iMo z_yMo z_kMo z_nMo 0 rfl rfl 31 (by decide) hk rfl (by decide +kernel) (z_bo_n hv) (z_bo_f hv) (Nat.le_of_ble_eq_true rfl) d rfl kk
theorem gfM_0_two {idx : Nat} (C0 : z_cx own cc nL ret D (z_Mt ca) A p s m args meth c) (hw : z_wd D (z_M ad ca x) A s H locs) (hk : Cond.fieldLink own idx "LongModeCoreModel" "two" "Z" ∈ z_tbl) (d : decode cc pc = .ok (.getfield idx, 3)) (kk : W p l e R s m args below meth c H locs cells slots Q (F0 m (pc + 3) ls (.int (z_gI x 18) :: rest))) : W p l e R s m args below meth c H locs cells slots Q (F0 m pc ls (.ref (ad 0) :: rest)) := z_get C0 hw z_iMo 0 rfl rfl 32 (by decide) hk rfl d kk
theorem pfM_0_two {idx : Nat} {v : Int32} (C0 : z_cx own cc nL ret D (z_Mt ca) A p s m args meth c) (hw : z_wd D (z_M ad ca x) A s H locs) (hv : z_bo v) (hk : Cond.fieldLink own idx "LongModeCoreModel" "two" "Z" ∈ z_tbl) (d : decode cc pc = .ok (.putfield idx, 3)) (kk : ∀ (H : Heap) (locs : List Loc), z_wd D (z_M ad ca (z_sI x 18 v)) A s H locs → W p l e R s m args below meth c H locs cells slots Q (F0 m (pc + 3) ls rest)) : W p l e R s m args below meth c H locs cells slots Q (F0 m pc ls (.int v :: .ref (ad 0) :: rest)) := z_put (ty := .boolean) C0 hw z_iMo z_yMo z_kMo z_nMo 0 rfl rfl 32 (by decide) hk rfl (by decide +kernel) (z_bo_n hv) (z_bo_f hv) (Nat.le_of_ble_eq_true rfl) d rfl kk
theorem gfM_0_displacement {idx : Nat} (C0 : z_cx own cc nL ret D (z_Mt ca) A p s m args meth c) (hw : z_wd D (z_M ad ca x) A s H locs) (hk : Cond.fieldLink own idx "LongModeCoreModel" "displacement" "J" ∈ z_tbl) (d : decode cc pc = .ok (.getfield idx, 3)) (kk : W p l e R s m args below meth c H locs cells slots Q (F0 m (pc + 3) ls (.long (z_gL x 6) :: rest))) : W p l e R s m args below meth c H locs cells slots Q (F0 m pc ls (.ref (ad 0) :: rest)) := z_get C0 hw z_iMo 0 rfl rfl 33 (by decide) hk rfl d kk
theorem pfM_0_displacement {idx : Nat} {v : Int64} (C0 : z_cx own cc nL ret D (z_Mt ca) A p s m args meth c) (hw : z_wd D (z_M ad ca x) A s H locs) (hk : Cond.fieldLink own idx "LongModeCoreModel" "displacement" "J" ∈ z_tbl) (d : decode cc pc = .ok (.putfield idx, 3)) (kk : ∀ (H : Heap) (locs : List Loc), z_wd D (z_M ad ca (z_sL x 6 v)) A s H locs → W p l e R s m args below meth c H locs cells slots Q (F0 m (pc + 3) ls rest)) : W p l e R s m args below meth c H locs cells slots Q (F0 m pc ls (.long v :: .ref (ad 0) :: rest)) := z_put (ty := .long) C0 hw z_iMo z_yMo z_kMo z_nMo 0 rfl rfl 33 (by decide) hk rfl (by decide +kernel) rfl rfl (Nat.le_of_ble_eq_true rfl) d rfl kk
theorem gfM_0_goes {idx : Nat} (C0 : z_cx own cc nL ret D (z_Mt ca) A p s m args meth c) (hw : z_wd D (z_M ad ca x) A s H locs) (hk : Cond.fieldLink own idx "LongModeCoreModel" "goes" "J" ∈ z_tbl) (d : decode cc pc = .ok (.getfield idx, 3)) (kk : W p l e R s m args below meth c H locs cells slots Q (F0 m (pc + 3) ls (.long (z_gL x 7) :: rest))) : W p l e R s m args below meth c H locs cells slots Q (F0 m pc ls (.ref (ad 0) :: rest)) := z_get C0 hw z_iMo 0 rfl rfl 34 (by decide) hk rfl d kk
theorem pfM_0_goes {idx : Nat} {v : Int64} (C0 : z_cx own cc nL ret D (z_Mt ca) A p s m args meth c) (hw : z_wd D (z_M ad ca x) A s H locs) (hk : Cond.fieldLink own idx "LongModeCoreModel" "goes" "J" ∈ z_tbl) (d : decode cc pc = .ok (.putfield idx, 3)) (kk : ∀ (H : Heap) (locs : List Loc), z_wd D (z_M ad ca (z_sL x 7 v)) A s H locs → W p l e R s m args below meth c H locs cells slots Q (F0 m (pc + 3) ls rest)) : W p l e R s m args below meth c H locs cells slots Q (F0 m pc ls (.long v :: .ref (ad 0) :: rest)) := z_put (ty := .long) C0 hw z_iMo z_yMo z_kMo z_nMo 0 rfl rfl 34 (by decide) hk rfl (by decide +kernel) rfl rfl (Nat.le_of_ble_eq_true rfl) d rfl kk
theorem gfM_0_low {idx : Nat} (C0 : z_cx own cc nL ret D (z_Mt ca) A p s m args meth c) (hw : z_wd D (z_M ad ca x) A s H locs) (hk : Cond.fieldLink own idx "LongModeCoreModel" "low" "J" ∈ z_tbl) (d : decode cc pc = .ok (.getfield idx, 3)) (kk : W p l e R s m args below meth c H locs cells slots Q (F0 m (pc + 3) ls (.long (z_gL x 8) :: rest))) : W p l e R s m args below meth c H locs cells slots Q (F0 m pc ls (.ref (ad 0) :: rest)) := z_get C0 hw z_iMo 0 rfl rfl 35 (by decide) hk rfl d kk
theorem pfM_0_low {idx : Nat} {v : Int64} (C0 : z_cx own cc nL ret D (z_Mt ca) A p s m args meth c) (hw : z_wd D (z_M ad ca x) A s H locs) (hk : Cond.fieldLink own idx "LongModeCoreModel" "low" "J" ∈ z_tbl) (d : decode cc pc = .ok (.putfield idx, 3)) (kk : ∀ (H : Heap) (locs : List Loc), z_wd D (z_M ad ca (z_sL x 8 v)) A s H locs → W p l e R s m args below meth c H locs cells slots Q (F0 m (pc + 3) ls rest)) : W p l e R s m args below meth c H locs cells slots Q (F0 m pc ls (.long v :: .ref (ad 0) :: rest)) := z_put (ty := .long) C0 hw z_iMo z_yMo z_kMo z_nMo 0 rfl rfl 35 (by decide) hk rfl (by decide +kernel) rfl rfl (Nat.le_of_ble_eq_true rfl) d rfl kk
theorem gfM_0_high {idx : Nat} (C0 : z_cx own cc nL ret D (z_Mt ca) A p s m args meth c) (hw : z_wd D (z_M ad ca x) A s H locs) (hk : Cond.fieldLink own idx "LongModeCoreModel" "high" "J" ∈ z_tbl) (d : decode cc pc = .ok (.getfield idx, 3)) (kk : W p l e R s m args below meth c H locs cells slots Q (F0 m (pc + 3) ls (.long (z_gL x 9) :: rest))) : W p l e R s m args below meth c H locs cells slots Q (F0 m pc ls (.ref (ad 0) :: rest)) := z_get C0 hw z_iMo 0 rfl rfl 36 (by decide) hk rfl d kk
theorem pfM_0_high {idx : Nat} {v : Int64} (C0 : z_cx own cc nL ret D (z_Mt ca) A p s m args meth c) (hw : z_wd D (z_M ad ca x) A s H locs) (hk : Cond.fieldLink own idx "LongModeCoreModel" "high" "J" ∈ z_tbl) (d : decode cc pc = .ok (.putfield idx, 3)) (kk : ∀ (H : Heap) (locs : List Loc), z_wd D (z_M ad ca (z_sL x 9 v)) A s H locs → W p l e R s m args below meth c H locs cells slots Q (F0 m (pc + 3) ls rest)) : W p l e R s m args below meth c H locs cells slots Q (F0 m pc ls (.long v :: .ref (ad 0) :: rest)) := z_put (ty := .long) C0 hw z_iMo z_yMo z_kMo z_nMo 0 rfl rfl 36 (by decide) hk rfl (by decide +kernel) rfl rfl (Nat.le_of_ble_eq_true rfl) d rfl kk
theorem gfM_0_went {idx : Nat} (C0 : z_cx own cc nL ret D (z_Mt ca) A p s m args meth c) (hw : z_wd D (z_M ad ca x) A s H locs) (hk : Cond.fieldLink own idx "LongModeCoreModel" "went" "Z" ∈ z_tbl) (d : decode cc pc = .ok (.getfield idx, 3)) (kk : W p l e R s m args below meth c H locs cells slots Q (F0 m (pc + 3) ls (.int (z_gI x 19) :: rest))) : W p l e R s m args below meth c H locs cells slots Q (F0 m pc ls (.ref (ad 0) :: rest)) := z_get C0 hw z_iMo 0 rfl rfl 37 (by decide) hk rfl d kk
theorem pfM_0_went {idx : Nat} {v : Int32} (C0 : z_cx own cc nL ret D (z_Mt ca) A p s m args meth c) (hw : z_wd D (z_M ad ca x) A s H locs) (hv : z_bo v) (hk : Cond.fieldLink own idx "LongModeCoreModel" "went" "Z" ∈ z_tbl) (d : decode cc pc = .ok (.putfield idx, 3)) (kk : ∀ (H : Heap) (locs : List Loc), z_wd D (z_M ad ca (z_sI x 19 v)) A s H locs → W p l e R s m args below meth c H locs cells slots Q (F0 m (pc + 3) ls rest)) : W p l e R s m args below meth c H locs cells slots Q (F0 m pc ls (.int v :: .ref (ad 0) :: rest)) := z_put (ty := .boolean) C0 hw z_iMo z_yMo z_kMo z_nMo 0 rfl rfl 37 (by decide) hk rfl (by decide +kernel) (z_bo_n hv) (z_bo_f hv) (Nat.le_of_ble_eq_true rfl) d rfl kk
theorem alM_1 {i : Int32} (C0 : z_cx own cc nL ret D (z_Mt ca) A p s m args meth c) (hw : z_wd D (z_M ad ca x) A s H locs) (hb : ¬ z_bad i 32768) (d : decode cc pc = .ok (.baload, 1)) (kk : W p l e R s m args below meth c H locs cells slots Q (F0 m (pc + 1) ls (.int (z_gN x 0 i.toNatClampNeg) :: rest))) : W p l e R s m args below meth c H locs cells slots Q (F0 m pc ls (.int i :: .ref (ad 1) :: rest)) := z_bald C0 hw 1 0 rfl rfl hb d kk
theorem asM_1 {i : Int32} {v : Int32} (C0 : z_cx own cc nL ret D (z_Mt ca) A p s m args meth c) (hw : z_wd D (z_M ad ca x) A s H locs) (hb : ¬ z_bad i 32768) (d : decode cc pc = .ok (.bastore, 1)) (kk : ∀ (H : Heap) (locs : List Loc), z_wd D (z_M ad ca (z_sN x 0 i.toNatClampNeg (vp_nar .byte v))) A s H locs → W p l e R s m args below meth c H locs cells slots Q (F0 m (pc + 1) ls rest)) : W p l e R s m args below meth c H locs cells slots Q (F0 m pc ls (.int v :: .int i :: .ref (ad 1) :: rest)) := z_bast C0 hw 1 0 rfl rfl hb d rfl kk
theorem alM_2 {i : Int32} (C0 : z_cx own cc nL ret D (z_Mt ca) A p s m args meth c) (hw : z_wd D (z_M ad ca x) A s H locs) (hb : ¬ z_bad i 16) (d : decode cc pc = .ok (.laload, 1)) (kk : W p l e R s m args below meth c H locs cells slots Q (F0 m (pc + 1) ls (.long (z_gM x 0 i.toNatClampNeg) :: rest))) : W p l e R s m args below meth c H locs cells slots Q (F0 m pc ls (.int i :: .ref (ad 2) :: rest)) := z_lald C0 hw 2 1 rfl rfl hb d kk
theorem asM_2 {i : Int32} {v : Int64} (C0 : z_cx own cc nL ret D (z_Mt ca) A p s m args meth c) (hw : z_wd D (z_M ad ca x) A s H locs) (hb : ¬ z_bad i 16) (d : decode cc pc = .ok (.lastore, 1)) (kk : ∀ (H : Heap) (locs : List Loc), z_wd D (z_M ad ca (z_sM x 0 i.toNatClampNeg v)) A s H locs → W p l e R s m args below meth c H locs cells slots Q (F0 m (pc + 1) ls rest)) : W p l e R s m args below meth c H locs cells slots Q (F0 m pc ls (.long v :: .int i :: .ref (ad 2) :: rest)) := z_last C0 hw 2 1 rfl rfl hb d rfl kk
theorem alM_3 {i : Int32} (C0 : z_cx own cc nL ret D (z_Mt ca) A p s m args meth c) (hw : z_wd D (z_M ad ca x) A s H locs) (hb : ¬ z_bad i 16) (d : decode cc pc = .ok (.laload, 1)) (kk : W p l e R s m args below meth c H locs cells slots Q (F0 m (pc + 1) ls (.long (z_gM x 1 i.toNatClampNeg) :: rest))) : W p l e R s m args below meth c H locs cells slots Q (F0 m pc ls (.int i :: .ref (ad 3) :: rest)) := z_lald C0 hw 3 2 rfl rfl hb d kk
theorem asM_3 {i : Int32} {v : Int64} (C0 : z_cx own cc nL ret D (z_Mt ca) A p s m args meth c) (hw : z_wd D (z_M ad ca x) A s H locs) (hb : ¬ z_bad i 16) (d : decode cc pc = .ok (.lastore, 1)) (kk : ∀ (H : Heap) (locs : List Loc), z_wd D (z_M ad ca (z_sM x 1 i.toNatClampNeg v)) A s H locs → W p l e R s m args below meth c H locs cells slots Q (F0 m (pc + 1) ls rest)) : W p l e R s m args below meth c H locs cells slots Q (F0 m pc ls (.long v :: .int i :: .ref (ad 3) :: rest)) := z_last C0 hw 3 2 rfl rfl hb d rfl kk
theorem alM_4 {i : Int32} (C0 : z_cx own cc nL ret D (z_Mt ca) A p s m args meth c) (hw : z_wd D (z_M ad ca x) A s H locs) (hb : ¬ z_bad i 7) (d : decode cc pc = .ok (.baload, 1)) (kk : W p l e R s m args below meth c H locs cells slots Q (F0 m (pc + 1) ls (.int (z_gN x 1 i.toNatClampNeg) :: rest))) : W p l e R s m args below meth c H locs cells slots Q (F0 m pc ls (.int i :: .ref (ad 4) :: rest)) := z_zald C0 hw 4 3 rfl rfl hb d kk
theorem asM_4 {i : Int32} {v : Int32} (C0 : z_cx own cc nL ret D (z_Mt ca) A p s m args meth c) (hw : z_wd D (z_M ad ca x) A s H locs) (hb : ¬ z_bad i 7) (d : decode cc pc = .ok (.bastore, 1)) (kk : ∀ (H : Heap) (locs : List Loc), z_wd D (z_M ad ca (z_sN x 1 i.toNatClampNeg (vp_nar .boolean v))) A s H locs → W p l e R s m args below meth c H locs cells slots Q (F0 m (pc + 1) ls rest)) : W p l e R s m args below meth c H locs cells slots Q (F0 m pc ls (.int v :: .int i :: .ref (ad 4) :: rest)) := z_zast C0 hw 4 3 rfl rfl hb d rfl kk
theorem alM_5 {i : Int32} (C0 : z_cx own cc nL ret D (z_Mt ca) A p s m args meth c) (hw : z_wd D (z_M ad ca x) A s H locs) (hb : ¬ z_bad i 7) (d : decode cc pc = .ok (.baload, 1)) (kk : W p l e R s m args below meth c H locs cells slots Q (F0 m (pc + 1) ls (.int (z_gN x 2 i.toNatClampNeg) :: rest))) : W p l e R s m args below meth c H locs cells slots Q (F0 m pc ls (.int i :: .ref (ad 5) :: rest)) := z_zald C0 hw 5 4 rfl rfl hb d kk
theorem asM_5 {i : Int32} {v : Int32} (C0 : z_cx own cc nL ret D (z_Mt ca) A p s m args meth c) (hw : z_wd D (z_M ad ca x) A s H locs) (hb : ¬ z_bad i 7) (d : decode cc pc = .ok (.bastore, 1)) (kk : ∀ (H : Heap) (locs : List Loc), z_wd D (z_M ad ca (z_sN x 2 i.toNatClampNeg (vp_nar .boolean v))) A s H locs → W p l e R s m args below meth c H locs cells slots Q (F0 m (pc + 1) ls rest)) : W p l e R s m args below meth c H locs cells slots Q (F0 m pc ls (.int v :: .int i :: .ref (ad 5) :: rest)) := z_zast C0 hw 5 4 rfl rfl hb d rfl kk
theorem alM_6 {i : Int32} (C0 : z_cx own cc nL ret D (z_Mt ca) A p s m args meth c) (hw : z_wd D (z_M ad ca x) A s H locs) (hb : ¬ z_bad i 16) (d : decode cc pc = .ok (.laload, 1)) (kk : W p l e R s m args below meth c H locs cells slots Q (F0 m (pc + 1) ls (.long (z_gM x 2 i.toNatClampNeg) :: rest))) : W p l e R s m args below meth c H locs cells slots Q (F0 m pc ls (.int i :: .ref (ad 6) :: rest)) := z_lald C0 hw 6 5 rfl rfl hb d kk
theorem asM_6 {i : Int32} {v : Int64} (C0 : z_cx own cc nL ret D (z_Mt ca) A p s m args meth c) (hw : z_wd D (z_M ad ca x) A s H locs) (hb : ¬ z_bad i 16) (d : decode cc pc = .ok (.lastore, 1)) (kk : ∀ (H : Heap) (locs : List Loc), z_wd D (z_M ad ca (z_sM x 2 i.toNatClampNeg v)) A s H locs → W p l e R s m args below meth c H locs cells slots Q (F0 m (pc + 1) ls rest)) : W p l e R s m args below meth c H locs cells slots Q (F0 m pc ls (.long v :: .int i :: .ref (ad 6) :: rest)) := z_last C0 hw 6 5 rfl rfl hb d rfl kk
theorem alM_7 {i : Int32} (C0 : z_cx own cc nL ret D (z_Mt ca) A p s m args meth c) (hw : z_wd D (z_M ad ca x) A s H locs) (hb : ¬ z_bad i 16) (d : decode cc pc = .ok (.iaload, 1)) (kk : W p l e R s m args below meth c H locs cells slots Q (F0 m (pc + 1) ls (.int (z_gN x 3 i.toNatClampNeg) :: rest))) : W p l e R s m args below meth c H locs cells slots Q (F0 m pc ls (.int i :: .ref (ad 7) :: rest)) := z_iald C0 hw 7 6 rfl rfl hb d kk
theorem asM_7 {i : Int32} {v : Int32} (C0 : z_cx own cc nL ret D (z_Mt ca) A p s m args meth c) (hw : z_wd D (z_M ad ca x) A s H locs) (hb : ¬ z_bad i 16) (d : decode cc pc = .ok (.iastore, 1)) (kk : ∀ (H : Heap) (locs : List Loc), z_wd D (z_M ad ca (z_sN x 3 i.toNatClampNeg v)) A s H locs → W p l e R s m args below meth c H locs cells slots Q (F0 m (pc + 1) ls rest)) : W p l e R s m args below meth c H locs cells slots Q (F0 m pc ls (.int v :: .int i :: .ref (ad 7) :: rest)) := z_iast C0 hw 7 6 rfl rfl hb d rfl kk
theorem alM_8 {i : Int32} (C0 : z_cx own cc nL ret D (z_Mt ca) A p s m args meth c) (hw : z_wd D (z_M ad ca x) A s H locs) (hb : ¬ z_bad i 8) (d : decode cc pc = .ok (.laload, 1)) (kk : W p l e R s m args below meth c H locs cells slots Q (F0 m (pc + 1) ls (.long (z_gM x 3 i.toNatClampNeg) :: rest))) : W p l e R s m args below meth c H locs cells slots Q (F0 m pc ls (.int i :: .ref (ad 8) :: rest)) := z_lald C0 hw 8 7 rfl rfl hb d kk
theorem asM_8 {i : Int32} {v : Int64} (C0 : z_cx own cc nL ret D (z_Mt ca) A p s m args meth c) (hw : z_wd D (z_M ad ca x) A s H locs) (hb : ¬ z_bad i 8) (d : decode cc pc = .ok (.lastore, 1)) (kk : ∀ (H : Heap) (locs : List Loc), z_wd D (z_M ad ca (z_sM x 3 i.toNatClampNeg v)) A s H locs → W p l e R s m args below meth c H locs cells slots Q (F0 m (pc + 1) ls rest)) : W p l e R s m args below meth c H locs cells slots Q (F0 m pc ls (.long v :: .int i :: .ref (ad 8) :: rest)) := z_last C0 hw 8 7 rfl rfl hb d rfl kk
end Zz_M
end
section
def k_Pa_putByte_14 (q : z_Sg) : Option z_Sg :=
  some q
def f_Pa_putByte (x1 : Int64) (x3 : Int64) (q : z_Sg) : Option z_Sg :=
  if x1 < (0 : Int64) then (k_Pa_putByte_14 q) else (if x1 < (32768 : Int64) then (z_nm (((z_lushr x1 (3 : Int32)).toInt32)) (fun n3 => z_nm (((8 : Int32) * ((x1 &&& (7 : Int64)).toInt32))) (fun n4 => if z_bad n3 4096 then none else (if z_bad n3 4096 then none else (z_nm (z_sM q 1 n3.toNatClampNeg (((z_gM q 1 n3.toNatClampNeg) &&& ((z_lshl (255 : Int64) n4) ^^^ (-1 : Int64))) ||| (z_lshl (x3 &&& (255 : Int64)) n4))) (fun q7 => some q7)))))) else (k_Pa_putByte_14 q))
set_option maxHeartbeats 4000000 in
set_option maxRecDepth 100000 in
theorem w_Pa_putByte_14 {p : Program} {l : Launch} {e : Env} {s : State} {m : MethodId} {args : Array Value} {below : List Frame} {meth : Method} {c : Code} {D : va_G} {A : Nat → Prop} {ad : Nat → Nat} {ca : Nat → ClassId} (o : z_Sg) (C0 : z_cx z_RPa b_Pa_putByte 7 none D (z_Kt ca) A p s m args meth c) (q : z_Sg) (h : k_Pa_putByte_14 q = some o) : ∀ (H : Heap) (locs : List Loc) (ls : Array Slot), z_wd D (z_K ad ca q) A s H locs → lv_has ls 7 [] → W p l e (z_rm 0 0) s m args below meth c H locs 0 0 (z_qv below D (z_Kt ca) (z_K ad ca o) A s args) (F0 m 14 ls []) := by
  obtain ⟨hx, hb, hr, hlk, hml, hown, hts, hK, hA⟩ := id C0
  intro H locs ls hw hl
  have ho := Option.some.inj h
  subst ho
  exact z_rtv C0 hw d_Pa_putByte_14
set_option maxHeartbeats 4000000 in
set_option maxRecDepth 100000 in
theorem c_Pa_putByte {l : Launch} {D : va_G} {ad : Nat → Nat} {ca : Nat → ClassId} (x1 : Int64) (x3 : Int64) (q : z_Sg) (o : z_Sg) (h : f_Pa_putByte x1 x3 q = some o) : z_cv l y_Pa_putByte b_Pa_putByte 7 none 0 0 D (z_Kt ca) (z_K ad ca q) (z_K ad ca o) [.ref (ad 3), .long x1, .long x3] := by
  refine z_cv_of (own := z_RPa) (by decide) rfl ?_
  intro p e s m below meth c A C0 hw
  obtain ⟨hx, hb, hr, hlk, hml, hown, hts, hK, hA⟩ := id C0
  generalize hH : s.heap = H at hw ⊢
  generalize hlo : ([] : List Loc) = locs at hw ⊢
  refine z_entry (lv := [(0, .ref (ad 3)), (1, .long x1), (3, .long x3)]) (Nat.le_of_ble_eq_true rfl) rfl (fun ls hl => ?_)
  unfold f_Pa_putByte at h
  refine lv_lload_n hx hb d_Pa_putByte_0 rfl (lv_at hl 1 rfl) ?_
  refine lv_lconst (v := (0 : Int64)) hx hb d_Pa_putByte_1 (by decide) ?_
  refine W.lcmp hx hb d_Pa_putByte_2 ?_
  refine lv_if_lt (tgt := 14) hx hb d_Pa_putByte_3 (by decide) (fun c1 => ?_) (fun c1 => ?_)
  · have h := ok_t h ((lg_cmp_lt _ _).mp c1)
    exact w_Pa_putByte_14 o C0 q h H locs ls hw (lv_sub hl [] rfl)
  · have h := ok_f h (fun z => c1 ((lg_cmp_lt _ _).mpr z))
    refine lv_lload_n hx hb d_Pa_putByte_6 rfl (lv_at hl 1 rfl) ?_
    refine lv_ldc2 (own := z_RPa) hx hb hown (hts _ kl_Pa_19) d_Pa_putByte_7 ?_
    refine W.lcmp hx hb d_Pa_putByte_10 ?_
    refine lv_if_lt (tgt := 15) hx hb d_Pa_putByte_11 (by decide) (fun c2 => ?_) (fun c2 => ?_)
    · have h := ok_t h ((lg_cmp_lt _ _).mp c2)
      refine lv_lload_n hx hb d_Pa_putByte_15 rfl (lv_at hl 1 rfl) ?_
      refine lv_iconst (v := (3 : Int32)) hx hb d_Pa_putByte_16 (by decide) ?_
      refine lv_lushr (v := (z_lushr x1 (3 : Int32))) hx hb d_Pa_putByte_17 rfl ?_
      refine lv_l2i hx hb d_Pa_putByte_18 rfl ?_
      obtain ⟨n3, en3, h⟩ := ok_n h
      refine z_ti en3 ?_
      refine lv_istore (lv' := [(5, .int n3), (0, .ref (ad 3)), (1, .long x1), (3, .long x3)]) hx hb d_Pa_putByte_19 hl (by decide) rfl (fun ls hl => ?_)
      refine lv_bipush (v := (8 : Int32)) hx hb d_Pa_putByte_21 (by decide) ?_
      refine lv_lload_n hx hb d_Pa_putByte_23 rfl (lv_at hl 2 rfl) ?_
      refine lv_ldc2 (own := z_RPa) hx hb hown (hts _ kl_Pa_21) d_Pa_putByte_24 ?_
      refine lv_land hx hb d_Pa_putByte_27 ?_
      refine lv_l2i hx hb d_Pa_putByte_28 rfl ?_
      refine lv_imul hx hb d_Pa_putByte_29 ?_
      obtain ⟨n4, en4, h⟩ := ok_n h
      refine z_ti en4 ?_
      refine lv_istore (lv' := [(6, .int n4), (5, .int n3), (0, .ref (ad 3)), (1, .long x1), (3, .long x3)]) hx hb d_Pa_putByte_30 hl (by decide) rfl (fun ls hl => ?_)
      refine lv_aload_n hx hb d_Pa_putByte_32 rfl (lv_at hl 2 rfl) ?_
      refine gfK_3_words C0 hw fl_Pa_11 d_Pa_putByte_33 ?_
      refine lv_iload hx hb d_Pa_putByte_36 (lv_at hl 1 rfl) ?_
      refine lv_aload_n hx hb d_Pa_putByte_38 rfl (lv_at hl 2 rfl) ?_
      refine gfK_3_words C0 hw fl_Pa_11 d_Pa_putByte_39 ?_
      refine lv_iload hx hb d_Pa_putByte_42 (lv_at hl 1 rfl) ?_
      obtain ⟨b5, h⟩ := ok_g h
      refine alK_4 C0 hw b5 d_Pa_putByte_44 ?_
      refine lv_ldc2 (own := z_RPa) hx hb hown (hts _ kl_Pa_23) d_Pa_putByte_45 ?_
      refine lv_iload hx hb d_Pa_putByte_48 (lv_at hl 0 rfl) ?_
      refine lv_lshl (v := (z_lshl (255 : Int64) n4)) hx hb d_Pa_putByte_50 rfl ?_
      refine lv_ldc2 (own := z_RPa) hx hb hown (hts _ kl_Pa_25) d_Pa_putByte_51 ?_
      refine lv_lxor hx hb d_Pa_putByte_54 ?_
      refine lv_land hx hb d_Pa_putByte_55 ?_
      refine lv_lload_n hx hb d_Pa_putByte_56 rfl (lv_at hl 4 rfl) ?_
      refine lv_ldc2 (own := z_RPa) hx hb hown (hts _ kl_Pa_23) d_Pa_putByte_57 ?_
      refine lv_land hx hb d_Pa_putByte_60 ?_
      refine lv_iload hx hb d_Pa_putByte_61 (lv_at hl 0 rfl) ?_
      refine lv_lshl (v := (z_lshl (x3 &&& (255 : Int64)) n4)) hx hb d_Pa_putByte_63 rfl ?_
      refine lv_lor hx hb d_Pa_putByte_64 ?_
      obtain ⟨b6, h⟩ := ok_g h
      refine asK_4 C0 hw b6 d_Pa_putByte_65 (fun H locs hw => ?_)
      obtain ⟨q7, eq7, h⟩ := ok_n h
      rw [← eq7] at hw
      have ho := Option.some.inj h
      subst ho
      exact z_rtv C0 hw d_Pa_putByte_66
    · have h := ok_f h (fun z => c2 ((lg_cmp_lt _ _).mpr z))
      exact w_Pa_putByte_14 o C0 q h H locs ls hw (lv_sub hl [] rfl)
def k_Co_store_11 (q : z_Sg) : Option (Int32 × z_Sg) :=
  some ((0 : Int32), q)
def kb_Co_store_16 (ih16 : Int32 × Int32 × Int32 × Int32 × z_Sg → Option (Int32 × z_Sg)) (x1 : Int32) (x2 : Int32) (x3 : Int32) (x4 : Int32) (q : z_Sg) : Option (Int32 × z_Sg) :=
  if (4 : Int32) ≤ x4 then (some ((1 : Int32), q)) else ((f_Pa_putByte ((x1 + x4).toInt64) ((z_iushr x2 ((8 : Int32) * x4)).toInt64) q).bind (fun r4 => (f_Pa_putByte (((x1 + (4 : Int32)) + x4).toInt64) ((z_iushr x3 ((8 : Int32) * x4)).toInt64) r4).bind (fun r5 => z_nm (x4 + (1 : Int32)) (fun n6 => ih16 (x1, x2, x3, n6, r5)))))
def k_Co_store_16 (x1 : Int32) (x2 : Int32) (x3 : Int32) (x4 : Int32) (q : z_Sg) : Option (Int32 × z_Sg) := z_lo (fun ih16 a => kb_Co_store_16 ih16 a.1 a.2.1 a.2.2.1 a.2.2.2.1 a.2.2.2.2) 2000 (x1, x2, x3, x4, q)
def f_Co_store (x1 : Int32) (x2 : Int32) (x3 : Int32) (q : z_Sg) : Option (Int32 × z_Sg) :=
  if x1 < 0 then (k_Co_store_11 q) else (if x1 ≤ (32760 : Int32) then (k_Co_store_16 x1 x2 x3 (0 : Int32) q) else (k_Co_store_11 q))
set_option maxHeartbeats 4000000 in
set_option maxRecDepth 100000 in
theorem w_Co_store_11 {p : Program} {l : Launch} {e : Env} {s : State} {m : MethodId} {args : Array Value} {below : List Frame} {meth : Method} {c : Code} {D : va_G} {A : Nat → Prop} {ad : Nat → Nat} {ca : Nat → ClassId} (o : (Int32 × z_Sg)) (C0 : z_cx z_RCo b_Co_store 5 (some .boolean) D (z_Kt ca) A p s m args meth c) (q : z_Sg) (h : k_Co_store_11 q = some o) : ∀ (H : Heap) (locs : List Loc) (ls : Array Slot), z_wd D (z_K ad ca q) A s H locs → lv_has ls 5 [] → W p l e (z_rm 1 26) s m args below meth c H locs 0 0 (z_qi below D (z_Kt ca) (z_K ad ca o.2) A s args o.1) (F0 m 11 ls []) := by
  obtain ⟨hx, hb, hr, hlk, hml, hown, hts, hK, hA⟩ := id C0
  intro H locs ls hw hl
  refine lv_iconst (v := (0 : Int32)) hx hb d_Co_store_11 (by decide) ?_
  have ho := Option.some.inj h
  subst ho
  exact z_rtz C0 hw (z_bo_n (Or.inl rfl)) d_Co_store_12
set_option maxHeartbeats 4000000 in
set_option maxRecDepth 100000 in
theorem wb_Co_store_16 {p : Program} {l : Launch} {e : Env} {s : State} {m : MethodId} {args : Array Value} {below : List Frame} {meth : Method} {c : Code} {D : va_G} {A : Nat → Prop} {ad : Nat → Nat} {ca : Nat → ClassId} (o : (Int32 × z_Sg)) (C0 : z_cx z_RCo b_Co_store 5 (some .boolean) D (z_Kt ca) A p s m args meth c) (q : z_Sg) (ih16 : Int32 × Int32 × Int32 × Int32 × z_Sg → Option (Int32 × z_Sg)) (hi16 : ∀ a : Int32 × Int32 × Int32 × Int32 × z_Sg, ih16 a = some o → ∀ (H : Heap) (locs : List Loc) (ls : Array Slot), z_wd D (z_K ad ca a.2.2.2.2) A s H locs → lv_has ls 5 [(0, .ref (ad 0)), (1, .int a.1), (2, .int a.2.1), (3, .int a.2.2.1), (4, .int a.2.2.2.1)] → W p l e (z_rm 1 26) s m args below meth c H locs 0 0 (z_qi below D (z_Kt ca) (z_K ad ca o.2) A s args o.1) (F0 m 16 ls [])) (x1 : Int32) (x2 : Int32) (x3 : Int32) (x4 : Int32) (h : kb_Co_store_16 ih16 x1 x2 x3 x4 q = some o) : ∀ (H : Heap) (locs : List Loc) (ls : Array Slot), z_wd D (z_K ad ca q) A s H locs → lv_has ls 5 [(0, .ref (ad 0)), (1, .int x1), (2, .int x2), (3, .int x3), (4, .int x4)] → W p l e (z_rm 1 26) s m args below meth c H locs 0 0 (z_qi below D (z_Kt ca) (z_K ad ca o.2) A s args o.1) (F0 m 16 ls []) := by
  obtain ⟨hx, hb, hr, hlk, hml, hown, hts, hK, hA⟩ := id C0
  intro H locs ls hw hl
  refine lv_iload hx hb d_Co_store_16 (lv_at hl 4 rfl) ?_
  refine lv_iconst (v := (4 : Int32)) hx hb d_Co_store_18 (by decide) ?_
  refine lv_icmp_ge (tgt := 70) hx hb d_Co_store_19 (by decide) (fun c3 => ?_) (fun c3 => ?_)
  · have h := ok_t h c3
    refine lv_iconst (v := (1 : Int32)) hx hb d_Co_store_70 (by decide) ?_
    have ho := Option.some.inj h
    subst ho
    exact z_rtz C0 hw (z_bo_n (Or.inr rfl)) d_Co_store_71
  · have h := ok_f h c3
    refine lv_aload_n hx hb d_Co_store_22 rfl (lv_at hl 0 rfl) ?_
    refine gfK_0_pages C0 hw fl_Co_21 d_Co_store_23 ?_
    refine lv_iload_n hx hb d_Co_store_26 rfl (lv_at hl 1 rfl) ?_
    refine lv_iload hx hb d_Co_store_27 (lv_at hl 4 rfl) ?_
    refine lv_iadd hx hb d_Co_store_29 ?_
    refine lv_i2l hx hb d_Co_store_30 rfl ?_
    refine lv_iload_n hx hb d_Co_store_31 rfl (lv_at hl 2 rfl) ?_
    refine lv_bipush (v := (8 : Int32)) hx hb d_Co_store_32 (by decide) ?_
    refine lv_iload hx hb d_Co_store_34 (lv_at hl 4 rfl) ?_
    refine lv_imul hx hb d_Co_store_36 ?_
    refine lv_iushr (v := (z_iushr x2 ((8 : Int32) * x4))) hx hb d_Co_store_37 rfl ?_
    refine lv_i2l hx hb d_Co_store_38 rfl ?_
    obtain ⟨r4, er4, h⟩ := ok_b h
    refine z_vv (rest := []) C0 hw (c_Pa_putByte ((x1 + x4).toInt64) ((z_iushr x2 ((8 : Int32) * x4)).toInt64) q r4 er4) mw_Pa_putByte ml_Co_92 3 rfl ⟨Nat.le_of_ble_eq_true rfl, Nat.le_of_ble_eq_true rfl⟩ ⟨Nat.le_refl 0, Nat.le_refl 0⟩ rfl hl.1 rfl (Nat.le_of_ble_eq_true rfl) d_Co_store_39 (fun H locs hw => ?_)
    refine lv_aload_n hx hb d_Co_store_42 rfl (lv_at hl 0 rfl) ?_
    refine gfK_0_pages C0 hw fl_Co_21 d_Co_store_43 ?_
    refine lv_iload_n hx hb d_Co_store_46 rfl (lv_at hl 1 rfl) ?_
    refine lv_iconst (v := (4 : Int32)) hx hb d_Co_store_47 (by decide) ?_
    refine lv_iadd hx hb d_Co_store_48 ?_
    refine lv_iload hx hb d_Co_store_49 (lv_at hl 4 rfl) ?_
    refine lv_iadd hx hb d_Co_store_51 ?_
    refine lv_i2l hx hb d_Co_store_52 rfl ?_
    refine lv_iload_n hx hb d_Co_store_53 rfl (lv_at hl 3 rfl) ?_
    refine lv_bipush (v := (8 : Int32)) hx hb d_Co_store_54 (by decide) ?_
    refine lv_iload hx hb d_Co_store_56 (lv_at hl 4 rfl) ?_
    refine lv_imul hx hb d_Co_store_58 ?_
    refine lv_iushr (v := (z_iushr x3 ((8 : Int32) * x4))) hx hb d_Co_store_59 rfl ?_
    refine lv_i2l hx hb d_Co_store_60 rfl ?_
    obtain ⟨r5, er5, h⟩ := ok_b h
    refine z_vv (rest := []) C0 hw (c_Pa_putByte (((x1 + (4 : Int32)) + x4).toInt64) ((z_iushr x3 ((8 : Int32) * x4)).toInt64) r4 r5 er5) mw_Pa_putByte ml_Co_92 3 rfl ⟨Nat.le_of_ble_eq_true rfl, Nat.le_of_ble_eq_true rfl⟩ ⟨Nat.le_refl 0, Nat.le_refl 0⟩ rfl hl.1 rfl (Nat.le_of_ble_eq_true rfl) d_Co_store_61 (fun H locs hw => ?_)
    obtain ⟨n6, en6, h⟩ := ok_n h
    refine lv_iinc (v := n6) (lv' := [(4, .int n6), (0, .ref (ad 0)), (1, .int x1), (2, .int x2), (3, .int x3)]) hx hb d_Co_store_64 hl (k := 4) rfl (by rw [en6]; rfl) (by decide) rfl (fun ls hl => ?_)
    refine lv_goto (tgt := 16) hx hb d_Co_store_67 (by decide) ?_
    exact hi16 (x1, x2, x3, n6, r5) h H locs ls hw (lv_sub hl [1, 2, 3, 4, 0] rfl)
theorem w_Co_store_16 {p : Program} {l : Launch} {e : Env} {s : State} {m : MethodId} {args : Array Value} {below : List Frame} {meth : Method} {c : Code} {D : va_G} {A : Nat → Prop} {ad : Nat → Nat} {ca : Nat → ClassId} (o : (Int32 × z_Sg)) (C0 : z_cx z_RCo b_Co_store 5 (some .boolean) D (z_Kt ca) A p s m args meth c) (q : z_Sg) (x1 : Int32) (x2 : Int32) (x3 : Int32) (x4 : Int32) (h : k_Co_store_16 x1 x2 x3 x4 q = some o) : ∀ (H : Heap) (locs : List Loc) (ls : Array Slot), z_wd D (z_K ad ca q) A s H locs → lv_has ls 5 [(0, .ref (ad 0)), (1, .int x1), (2, .int x2), (3, .int x3), (4, .int x4)] → W p l e (z_rm 1 26) s m args below meth c H locs 0 0 (z_qi below D (z_Kt ca) (z_K ad ca o.2) A s args o.1) (F0 m 16 ls []) := by
  have key : ∀ (n : Nat) (a : Int32 × Int32 × Int32 × Int32 × z_Sg), z_lo (fun ih16 a => kb_Co_store_16 ih16 a.1 a.2.1 a.2.2.1 a.2.2.2.1 a.2.2.2.2) n a = some o → ∀ (H : Heap) (locs : List Loc) (ls : Array Slot), z_wd D (z_K ad ca a.2.2.2.2) A s H locs → lv_has ls 5 [(0, .ref (ad 0)), (1, .int a.1), (2, .int a.2.1), (3, .int a.2.2.1), (4, .int a.2.2.2.1)] → W p l e (z_rm 1 26) s m args below meth c H locs 0 0 (z_qi below D (z_Kt ca) (z_K ad ca o.2) A s args o.1) (F0 m 16 ls []) := by
    intro n
    induction n with
    | zero => intro a h; cases h
    | succ n ih => exact fun a h => wb_Co_store_16 o C0 a.2.2.2.2 (z_lo (fun ih16 a => kb_Co_store_16 ih16 a.1 a.2.1 a.2.2.1 a.2.2.2.1 a.2.2.2.2) n) ih a.1 a.2.1 a.2.2.1 a.2.2.2.1 h
  exact key 2000 (x1, x2, x3, x4, q) h
set_option maxHeartbeats 4000000 in
set_option maxRecDepth 100000 in
theorem c_Co_store {l : Launch} {D : va_G} {ad : Nat → Nat} {ca : Nat → ClassId} (x1 : Int32) (x2 : Int32) (x3 : Int32) (q : z_Sg) (o : (Int32 × z_Sg)) (h : f_Co_store x1 x2 x3 q = some o) : z_ci l y_Co_store b_Co_store 5 (some .boolean) 1 26 D (z_Kt ca) (z_K ad ca q) (z_K ad ca o.2) [.ref (ad 0), .int x1, .int x2, .int x3] o.1 := by
  refine z_ci_of (own := z_RCo) (by decide) rfl ?_
  intro p e s m below meth c A C0 hw
  obtain ⟨hx, hb, hr, hlk, hml, hown, hts, hK, hA⟩ := id C0
  generalize hH : s.heap = H at hw ⊢
  generalize hlo : ([] : List Loc) = locs at hw ⊢
  refine z_entry (lv := [(0, .ref (ad 0)), (1, .int x1), (2, .int x2), (3, .int x3)]) (Nat.le_of_ble_eq_true rfl) rfl (fun ls hl => ?_)
  unfold f_Co_store at h
  refine lv_iload_n hx hb d_Co_store_0 rfl (lv_at hl 1 rfl) ?_
  refine lv_if_lt (tgt := 11) hx hb d_Co_store_1 (by decide) (fun c1 => ?_) (fun c1 => ?_)
  · have h := ok_t h c1
    exact w_Co_store_11 o C0 q h H locs ls hw (lv_sub hl [] rfl)
  · have h := ok_f h c1
    refine lv_iload_n hx hb d_Co_store_4 rfl (lv_at hl 1 rfl) ?_
    refine lv_sipush (v := (32760 : Int32)) hx hb d_Co_store_5 (by decide) ?_
    refine lv_icmp_le (tgt := 13) hx hb d_Co_store_8 (by decide) (fun c2 => ?_) (fun c2 => ?_)
    · have h := ok_t h c2
      refine lv_iconst (v := (0 : Int32)) hx hb d_Co_store_13 (by decide) ?_
      refine lv_istore (lv' := [(4, .int (0 : Int32)), (0, .ref (ad 0)), (1, .int x1), (2, .int x2), (3, .int x3)]) hx hb d_Co_store_14 hl (by decide) rfl (fun ls hl => ?_)
      exact w_Co_store_16 o C0 q x1 x2 x3 (0 : Int32) h H locs ls hw (lv_sub hl [1, 2, 3, 4, 0] rfl)
    · have h := ok_f h c2
      exact w_Co_store_11 o C0 q h H locs ls hw (lv_sub hl [] rfl)
def k_Pa_byteAt_14 (q : z_Sg) : Option Int32 :=
  some (0 : Int32)
def f_Pa_byteAt (x1 : Int64) (q : z_Sg) : Option Int32 :=
  if x1 < (0 : Int64) then (k_Pa_byteAt_14 q) else (if x1 < (32768 : Int64) then (z_nm (((8 : Int32) * ((x1 &&& (7 : Int64)).toInt32))) (fun n3 => if z_bad ((z_lushr x1 (3 : Int32)).toInt32) 4096 then none else (some (((z_lushr (z_gM q 1 ((z_lushr x1 (3 : Int32)).toInt32).toNatClampNeg) n3).toInt32) &&& (255 : Int32))))) else (k_Pa_byteAt_14 q))
set_option maxHeartbeats 4000000 in
set_option maxRecDepth 100000 in
theorem w_Pa_byteAt_14 {p : Program} {l : Launch} {e : Env} {s : State} {m : MethodId} {args : Array Value} {below : List Frame} {meth : Method} {c : Code} {D : va_G} {A : Nat → Prop} {ad : Nat → Nat} {ca : Nat → ClassId} (o : Int32) (C0 : z_cx z_RPa b_Pa_byteAt 4 (some .int) D (z_Kt ca) A p s m args meth c) (q : z_Sg) (h : k_Pa_byteAt_14 q = some o) : ∀ (H : Heap) (locs : List Loc) (ls : Array Slot), z_wd D (z_K ad ca q) A s H locs → lv_has ls 4 [] → W p l e (z_rm 0 0) s m args below meth c H locs 0 0 (z_qi below D (z_Kt ca) (z_K ad ca q) A s args o) (F0 m 14 ls []) := by
  obtain ⟨hx, hb, hr, hlk, hml, hown, hts, hK, hA⟩ := id C0
  intro H locs ls hw hl
  refine lv_iconst (v := (0 : Int32)) hx hb d_Pa_byteAt_14 (by decide) ?_
  have ho := Option.some.inj h
  subst ho
  exact z_rti C0 hw d_Pa_byteAt_15
set_option maxHeartbeats 4000000 in
set_option maxRecDepth 100000 in
theorem c_Pa_byteAt {l : Launch} {D : va_G} {ad : Nat → Nat} {ca : Nat → ClassId} (x1 : Int64) (q : z_Sg) (o : Int32) (h : f_Pa_byteAt x1 q = some o) : z_ci l y_Pa_byteAt b_Pa_byteAt 4 (some .int) 0 0 D (z_Kt ca) (z_K ad ca q) (z_K ad ca q) [.ref (ad 3), .long x1] o := by
  refine z_ci_of (own := z_RPa) (by decide) rfl ?_
  intro p e s m below meth c A C0 hw
  obtain ⟨hx, hb, hr, hlk, hml, hown, hts, hK, hA⟩ := id C0
  generalize hH : s.heap = H at hw ⊢
  generalize hlo : ([] : List Loc) = locs at hw ⊢
  refine z_entry (lv := [(0, .ref (ad 3)), (1, .long x1)]) (Nat.le_of_ble_eq_true rfl) rfl (fun ls hl => ?_)
  unfold f_Pa_byteAt at h
  refine lv_lload_n hx hb d_Pa_byteAt_0 rfl (lv_at hl 1 rfl) ?_
  refine lv_lconst (v := (0 : Int64)) hx hb d_Pa_byteAt_1 (by decide) ?_
  refine W.lcmp hx hb d_Pa_byteAt_2 ?_
  refine lv_if_lt (tgt := 14) hx hb d_Pa_byteAt_3 (by decide) (fun c1 => ?_) (fun c1 => ?_)
  · have h := ok_t h ((lg_cmp_lt _ _).mp c1)
    exact w_Pa_byteAt_14 o C0 q h H locs ls hw (lv_sub hl [] rfl)
  · have h := ok_f h (fun z => c1 ((lg_cmp_lt _ _).mpr z))
    refine lv_lload_n hx hb d_Pa_byteAt_6 rfl (lv_at hl 1 rfl) ?_
    refine lv_ldc2 (own := z_RPa) hx hb hown (hts _ kl_Pa_19) d_Pa_byteAt_7 ?_
    refine W.lcmp hx hb d_Pa_byteAt_10 ?_
    refine lv_if_lt (tgt := 16) hx hb d_Pa_byteAt_11 (by decide) (fun c2 => ?_) (fun c2 => ?_)
    · have h := ok_t h ((lg_cmp_lt _ _).mp c2)
      refine lv_bipush (v := (8 : Int32)) hx hb d_Pa_byteAt_16 (by decide) ?_
      refine lv_lload_n hx hb d_Pa_byteAt_18 rfl (lv_at hl 1 rfl) ?_
      refine lv_ldc2 (own := z_RPa) hx hb hown (hts _ kl_Pa_21) d_Pa_byteAt_19 ?_
      refine lv_land hx hb d_Pa_byteAt_22 ?_
      refine lv_l2i hx hb d_Pa_byteAt_23 rfl ?_
      refine lv_imul hx hb d_Pa_byteAt_24 ?_
      obtain ⟨n3, en3, h⟩ := ok_n h
      refine z_ti en3 ?_
      refine lv_istore_n (lv' := [(3, .int n3), (0, .ref (ad 3)), (1, .long x1)]) hx hb d_Pa_byteAt_25 rfl hl (by decide) rfl (fun ls hl => ?_)
      refine lv_aload_n hx hb d_Pa_byteAt_26 rfl (lv_at hl 1 rfl) ?_
      refine gfK_3_words C0 hw fl_Pa_11 d_Pa_byteAt_27 ?_
      refine lv_lload_n hx hb d_Pa_byteAt_30 rfl (lv_at hl 2 rfl) ?_
      refine lv_iconst (v := (3 : Int32)) hx hb d_Pa_byteAt_31 (by decide) ?_
      refine lv_lushr (v := (z_lushr x1 (3 : Int32))) hx hb d_Pa_byteAt_32 rfl ?_
      refine lv_l2i hx hb d_Pa_byteAt_33 rfl ?_
      obtain ⟨b4, h⟩ := ok_g h
      refine alK_4 C0 hw b4 d_Pa_byteAt_34 ?_
      refine lv_iload_n hx hb d_Pa_byteAt_35 rfl (lv_at hl 0 rfl) ?_
      refine lv_lushr (v := (z_lushr (z_gM q 1 ((z_lushr x1 (3 : Int32)).toInt32).toNatClampNeg) n3)) hx hb d_Pa_byteAt_36 rfl ?_
      refine lv_l2i hx hb d_Pa_byteAt_37 rfl ?_
      refine lv_sipush (v := (255 : Int32)) hx hb d_Pa_byteAt_38 (by decide) ?_
      refine lv_iand hx hb d_Pa_byteAt_41 ?_
      have ho := Option.some.inj h
      subst ho
      exact z_rti C0 hw d_Pa_byteAt_42
    · have h := ok_f h (fun z => c2 ((lg_cmp_lt _ _).mpr z))
      exact w_Pa_byteAt_14 o C0 q h H locs ls hw (lv_sub hl [] rfl)
def kb_Co_stored_5 (ih5 : Int32 × Int64 × Int32 → Option Int64) (x1 : Int32) (x2 : Int64) (x4 : Int32) (q : z_Sg) : Option Int64 :=
  if (8 : Int32) ≤ x4 then (some x2) else ((f_Pa_byteAt ((x1.toInt64) + (x4.toInt64)) q).bind (fun r2 => z_nm ((x2 ||| (z_lshl (r2.toInt64) ((8 : Int32) * x4)))) (fun n3 => z_nm (x4 + (1 : Int32)) (fun n4 => ih5 (x1, n3, n4)))))
def k_Co_stored_5 (x1 : Int32) (x2 : Int64) (x4 : Int32) (q : z_Sg) : Option Int64 := z_lo (fun ih5 a => kb_Co_stored_5 ih5 a.1 a.2.1 a.2.2 q) 2000 (x1, x2, x4)
def f_Co_stored (x1 : Int32) (q : z_Sg) : Option Int64 :=
  k_Co_stored_5 x1 (0 : Int64) (0 : Int32) q
set_option maxHeartbeats 4000000 in
set_option maxRecDepth 100000 in
theorem wb_Co_stored_5 {p : Program} {l : Launch} {e : Env} {s : State} {m : MethodId} {args : Array Value} {below : List Frame} {meth : Method} {c : Code} {D : va_G} {A : Nat → Prop} {ad : Nat → Nat} {ca : Nat → ClassId} (o : Int64) (C0 : z_cx z_RCo b_Co_stored 5 (some .long) D (z_Kt ca) A p s m args meth c) (q : z_Sg) (ih5 : Int32 × Int64 × Int32 → Option Int64) (hi5 : ∀ a : Int32 × Int64 × Int32, ih5 a = some o → ∀ (H : Heap) (locs : List Loc) (ls : Array Slot), z_wd D (z_K ad ca q) A s H locs → lv_has ls 5 [(0, .ref (ad 0)), (1, .int a.1), (2, .long a.2.1), (4, .int a.2.2)] → W p l e (z_rm 1 23) s m args below meth c H locs 0 0 (z_ql below D (z_Kt ca) (z_K ad ca q) A s args o) (F0 m 5 ls [])) (x1 : Int32) (x2 : Int64) (x4 : Int32) (h : kb_Co_stored_5 ih5 x1 x2 x4 q = some o) : ∀ (H : Heap) (locs : List Loc) (ls : Array Slot), z_wd D (z_K ad ca q) A s H locs → lv_has ls 5 [(0, .ref (ad 0)), (1, .int x1), (2, .long x2), (4, .int x4)] → W p l e (z_rm 1 23) s m args below meth c H locs 0 0 (z_ql below D (z_Kt ca) (z_K ad ca q) A s args o) (F0 m 5 ls []) := by
  obtain ⟨hx, hb, hr, hlk, hml, hown, hts, hK, hA⟩ := id C0
  intro H locs ls hw hl
  refine lv_iload hx hb d_Co_stored_5 (lv_at hl 3 rfl) ?_
  refine lv_bipush (v := (8 : Int32)) hx hb d_Co_stored_7 (by decide) ?_
  refine lv_icmp_ge (tgt := 41) hx hb d_Co_stored_9 (by decide) (fun c1 => ?_) (fun c1 => ?_)
  · have h := ok_t h c1
    refine lv_lload_n hx hb d_Co_stored_41 rfl (lv_at hl 2 rfl) ?_
    have ho := Option.some.inj h
    subst ho
    exact z_rtl C0 hw d_Co_stored_42
  · have h := ok_f h c1
    refine lv_lload_n hx hb d_Co_stored_12 rfl (lv_at hl 2 rfl) ?_
    refine lv_aload_n hx hb d_Co_stored_13 rfl (lv_at hl 0 rfl) ?_
    refine gfK_0_pages C0 hw fl_Co_21 d_Co_stored_14 ?_
    refine lv_iload_n hx hb d_Co_stored_17 rfl (lv_at hl 1 rfl) ?_
    refine lv_i2l hx hb d_Co_stored_18 rfl ?_
    refine lv_iload hx hb d_Co_stored_19 (lv_at hl 3 rfl) ?_
    refine lv_i2l hx hb d_Co_stored_21 rfl ?_
    refine lv_ladd hx hb d_Co_stored_22 ?_
    obtain ⟨r2, er2, h⟩ := ok_b h
    refine z_vi (rest := [.long x2]) C0 hw (c_Pa_byteAt ((x1.toInt64) + (x4.toInt64)) q r2 er2) mw_Pa_byteAt ml_Co_96 3 rfl ⟨Nat.le_of_ble_eq_true rfl, Nat.le_of_ble_eq_true rfl⟩ ⟨Nat.le_refl 0, Nat.le_refl 0⟩ rfl hl.1 rfl (Nat.le_of_ble_eq_true rfl) d_Co_stored_23 (fun H locs hw => ?_)
    refine lv_i2l hx hb d_Co_stored_26 rfl ?_
    refine lv_bipush (v := (8 : Int32)) hx hb d_Co_stored_27 (by decide) ?_
    refine lv_iload hx hb d_Co_stored_29 (lv_at hl 3 rfl) ?_
    refine lv_imul hx hb d_Co_stored_31 ?_
    refine lv_lshl (v := (z_lshl (r2.toInt64) ((8 : Int32) * x4))) hx hb d_Co_stored_32 rfl ?_
    refine lv_lor hx hb d_Co_stored_33 ?_
    obtain ⟨n3, en3, h⟩ := ok_n h
    refine z_tl en3 ?_
    refine lv_lstore_n (lv' := [(2, .long n3), (0, .ref (ad 0)), (1, .int x1), (4, .int x4)]) hx hb d_Co_stored_34 rfl hl (by decide) rfl (fun ls hl => ?_)
    obtain ⟨n4, en4, h⟩ := ok_n h
    refine lv_iinc (v := n4) (lv' := [(4, .int n4), (2, .long n3), (0, .ref (ad 0)), (1, .int x1)]) hx hb d_Co_stored_35 hl (k := 3) rfl (by rw [en4]; rfl) (by decide) rfl (fun ls hl => ?_)
    refine lv_goto (tgt := 5) hx hb d_Co_stored_38 (by decide) ?_
    exact hi5 (x1, n3, n4) h H locs ls hw (lv_sub hl [2, 3, 1, 0] rfl)
theorem w_Co_stored_5 {p : Program} {l : Launch} {e : Env} {s : State} {m : MethodId} {args : Array Value} {below : List Frame} {meth : Method} {c : Code} {D : va_G} {A : Nat → Prop} {ad : Nat → Nat} {ca : Nat → ClassId} (o : Int64) (C0 : z_cx z_RCo b_Co_stored 5 (some .long) D (z_Kt ca) A p s m args meth c) (q : z_Sg) (x1 : Int32) (x2 : Int64) (x4 : Int32) (h : k_Co_stored_5 x1 x2 x4 q = some o) : ∀ (H : Heap) (locs : List Loc) (ls : Array Slot), z_wd D (z_K ad ca q) A s H locs → lv_has ls 5 [(0, .ref (ad 0)), (1, .int x1), (2, .long x2), (4, .int x4)] → W p l e (z_rm 1 23) s m args below meth c H locs 0 0 (z_ql below D (z_Kt ca) (z_K ad ca q) A s args o) (F0 m 5 ls []) := by
  have key : ∀ (n : Nat) (a : Int32 × Int64 × Int32), z_lo (fun ih5 a => kb_Co_stored_5 ih5 a.1 a.2.1 a.2.2 q) n a = some o → ∀ (H : Heap) (locs : List Loc) (ls : Array Slot), z_wd D (z_K ad ca q) A s H locs → lv_has ls 5 [(0, .ref (ad 0)), (1, .int a.1), (2, .long a.2.1), (4, .int a.2.2)] → W p l e (z_rm 1 23) s m args below meth c H locs 0 0 (z_ql below D (z_Kt ca) (z_K ad ca q) A s args o) (F0 m 5 ls []) := by
    intro n
    induction n with
    | zero => intro a h; cases h
    | succ n ih => exact fun a h => wb_Co_stored_5 o C0 q (z_lo (fun ih5 a => kb_Co_stored_5 ih5 a.1 a.2.1 a.2.2 q) n) ih a.1 a.2.1 a.2.2 h
  exact key 2000 (x1, x2, x4) h
set_option maxHeartbeats 4000000 in
set_option maxRecDepth 100000 in
theorem c_Co_stored {l : Launch} {D : va_G} {ad : Nat → Nat} {ca : Nat → ClassId} (x1 : Int32) (q : z_Sg) (o : Int64) (h : f_Co_stored x1 q = some o) : z_cl l y_Co_stored b_Co_stored 5 (some .long) 1 23 D (z_Kt ca) (z_K ad ca q) (z_K ad ca q) [.ref (ad 0), .int x1] o := by
  refine z_cl_of (own := z_RCo) (by decide) rfl ?_
  intro p e s m below meth c A C0 hw
  obtain ⟨hx, hb, hr, hlk, hml, hown, hts, hK, hA⟩ := id C0
  generalize hH : s.heap = H at hw ⊢
  generalize hlo : ([] : List Loc) = locs at hw ⊢
  refine z_entry (lv := [(0, .ref (ad 0)), (1, .int x1)]) (Nat.le_of_ble_eq_true rfl) rfl (fun ls hl => ?_)
  unfold f_Co_stored at h
  refine lv_lconst (v := (0 : Int64)) hx hb d_Co_stored_0 (by decide) ?_
  refine lv_lstore_n (lv' := [(2, .long (0 : Int64)), (0, .ref (ad 0)), (1, .int x1)]) hx hb d_Co_stored_1 rfl hl (by decide) rfl (fun ls hl => ?_)
  refine lv_iconst (v := (0 : Int32)) hx hb d_Co_stored_2 (by decide) ?_
  refine lv_istore (lv' := [(4, .int (0 : Int32)), (2, .long (0 : Int64)), (0, .ref (ad 0)), (1, .int x1)]) hx hb d_Co_stored_3 hl (by decide) rfl (fun ls hl => ?_)
  exact w_Co_stored_5 o C0 q x1 (0 : Int64) (0 : Int32) h H locs ls hw (lv_sub hl [2, 3, 1, 0] rfl)
def f_Co_joined (x0 : Int32) (x1 : Int32) (q : z_Sg) : Option Int64 :=
  some ((z_lshl (x0.toInt64) (32 : Int32)) ||| ((x1.toInt64) &&& (4294967295 : Int64)))
set_option maxHeartbeats 4000000 in
set_option maxRecDepth 100000 in
theorem c_Co_joined {l : Launch} {D : va_G} {ad : Nat → Nat} {ca : Nat → ClassId} (x0 : Int32) (x1 : Int32) (q : z_Sg) (o : Int64) (h : f_Co_joined x0 x1 q = some o) : z_cl l y_Co_joined b_Co_joined 2 (some .long) 0 0 D (z_Kt ca) (z_K ad ca q) (z_K ad ca q) [.int x0, .int x1] o := by
  refine z_cl_of (own := z_RCo) (by decide) rfl ?_
  intro p e s m below meth c A C0 hw
  obtain ⟨hx, hb, hr, hlk, hml, hown, hts, hK, hA⟩ := id C0
  generalize hH : s.heap = H at hw ⊢
  generalize hlo : ([] : List Loc) = locs at hw ⊢
  refine z_entry (lv := [(0, .int x0), (1, .int x1)]) (Nat.le_of_ble_eq_true rfl) rfl (fun ls hl => ?_)
  unfold f_Co_joined at h
  refine lv_iload_n hx hb d_Co_joined_0 rfl (lv_at hl 0 rfl) ?_
  refine lv_i2l hx hb d_Co_joined_1 rfl ?_
  refine lv_bipush (v := (32 : Int32)) hx hb d_Co_joined_2 (by decide) ?_
  refine lv_lshl (v := (z_lshl (x0.toInt64) (32 : Int32))) hx hb d_Co_joined_4 rfl ?_
  refine lv_iload_n hx hb d_Co_joined_5 rfl (lv_at hl 1 rfl) ?_
  refine lv_i2l hx hb d_Co_joined_6 rfl ?_
  refine lv_ldc2 (own := z_RCo) hx hb hown (hts _ kl_Co_166) d_Co_joined_7 ?_
  refine lv_land hx hb d_Co_joined_10 ?_
  refine lv_lor hx hb d_Co_joined_11 ?_
  have ho := Option.some.inj h
  subst ho
  exact z_rtl C0 hw d_Co_joined_12
def k_Co_set_30 (x1 : Int32) (x3 : Int32) (x4 : Int64) (q : z_Sg) : Option (Int32 × z_Sg) :=
  if x1 = (16 : Int32) then (z_nm (z_sL q 0 x4) (fun q4 => some ((1 : Int32), q4))) else (if x1 = (17 : Int32) then (z_nm (z_sL q 1 x4) (fun q6 => some ((1 : Int32), q6))) else (if x1 = (18 : Int32) then (z_nm (z_sL q 2 x4) (fun q8 => some ((1 : Int32), q8))) else (if x1 = (19 : Int32) then (z_nm (z_sL q 3 x4) (fun q10 => some ((1 : Int32), q10))) else (if x1 = (20 : Int32) then (z_nm (z_sI q 0 (x3 &&& (3285 : Int32))) (fun q12 => some ((1 : Int32), q12))) else (if x1 = (21 : Int32) then (z_nm (z_sL q 4 x4) (fun q14 => some ((1 : Int32), q14))) else (some ((0 : Int32), q)))))))
def f_Co_set (x1 : Int32) (x2 : Int32) (x3 : Int32) (q : z_Sg) : Option (Int32 × z_Sg) :=
  (f_Co_joined x2 x3 q).bind (fun r1 => if x1 < 0 then (k_Co_set_30 x1 x3 r1 q) else (if (16 : Int32) ≤ x1 then (k_Co_set_30 x1 x3 r1 q) else (if z_bad x1 16 then none else (z_nm (z_sM q 0 x1.toNatClampNeg r1) (fun q17 => some ((1 : Int32), q17))))))
set_option maxHeartbeats 4000000 in
set_option maxRecDepth 100000 in
theorem w_Co_set_30 {p : Program} {l : Launch} {e : Env} {s : State} {m : MethodId} {args : Array Value} {below : List Frame} {meth : Method} {c : Code} {D : va_G} {A : Nat → Prop} {ad : Nat → Nat} {ca : Nat → ClassId} (o : (Int32 × z_Sg)) (C0 : z_cx z_RCo b_Co_set 6 (some .boolean) D (z_Kt ca) A p s m args meth c) (q : z_Sg) (x1 : Int32) (x3 : Int32) (x4 : Int64) (h : k_Co_set_30 x1 x3 x4 q = some o) : ∀ (H : Heap) (locs : List Loc) (ls : Array Slot), z_wd D (z_K ad ca q) A s H locs → lv_has ls 6 [(0, .ref (ad 0)), (1, .int x1), (3, .int x3), (4, .long x4)] → W p l e (z_rm 1 21) s m args below meth c H locs 0 0 (z_qi below D (z_Kt ca) (z_K ad ca o.2) A s args o.1) (F0 m 30 ls []) := by
  obtain ⟨hx, hb, hr, hlk, hml, hown, hts, hK, hA⟩ := id C0
  intro H locs ls hw hl
  refine lv_iload_n hx hb d_Co_set_30 rfl (lv_at hl 1 rfl) ?_
  by_cases c3 : x1 = (16 : Int32)
  · have h := ok_t h c3
    refine lv_tableIn (off := 37) (tgt := 68) hx hb d_Co_set_31 (by rw [c3]; decide) (by rw [c3]; decide) (by rw [c3]; rfl) (by decide) ?_
    refine lv_aload_n hx hb d_Co_set_68 rfl (lv_at hl 0 rfl) ?_
    refine gfK_0_state C0 hw fl_Co_12 d_Co_set_69 ?_
    refine lv_lload hx hb d_Co_set_72 (lv_at hl 3 rfl) ?_
    refine pfK_1_next C0 hw fl_Co_108 d_Co_set_74 (fun H locs hw => ?_)
    obtain ⟨q4, eq4, h⟩ := ok_n h
    rw [← eq4] at hw
    refine lv_iconst (v := (1 : Int32)) hx hb d_Co_set_77 (by decide) ?_
    have ho := Option.some.inj h
    subst ho
    exact z_rtz C0 hw (z_bo_n (Or.inr rfl)) d_Co_set_78
  have h := ok_f h c3
  by_cases c5 : x1 = (17 : Int32)
  · have h := ok_t h c5
    refine lv_tableIn (off := 48) (tgt := 79) hx hb d_Co_set_31 (by rw [c5]; decide) (by rw [c5]; decide) (by rw [c5]; rfl) (by decide) ?_
    refine lv_aload_n hx hb d_Co_set_79 rfl (lv_at hl 0 rfl) ?_
    refine gfK_0_state C0 hw fl_Co_12 d_Co_set_80 ?_
    refine lv_lload hx hb d_Co_set_83 (lv_at hl 3 rfl) ?_
    refine pfK_1_table C0 hw fl_Co_112 d_Co_set_85 (fun H locs hw => ?_)
    obtain ⟨q6, eq6, h⟩ := ok_n h
    rw [← eq6] at hw
    refine lv_iconst (v := (1 : Int32)) hx hb d_Co_set_88 (by decide) ?_
    have ho := Option.some.inj h
    subst ho
    exact z_rtz C0 hw (z_bo_n (Or.inr rfl)) d_Co_set_89
  have h := ok_f h c5
  by_cases c7 : x1 = (18 : Int32)
  · have h := ok_t h c7
    refine lv_tableIn (off := 59) (tgt := 90) hx hb d_Co_set_31 (by rw [c7]; decide) (by rw [c7]; decide) (by rw [c7]; rfl) (by decide) ?_
    refine lv_aload_n hx hb d_Co_set_90 rfl (lv_at hl 0 rfl) ?_
    refine gfK_0_state C0 hw fl_Co_12 d_Co_set_91 ?_
    refine lv_lload hx hb d_Co_set_94 (lv_at hl 3 rfl) ?_
    refine pfK_1_entry C0 hw fl_Co_115 d_Co_set_96 (fun H locs hw => ?_)
    obtain ⟨q8, eq8, h⟩ := ok_n h
    rw [← eq8] at hw
    refine lv_iconst (v := (1 : Int32)) hx hb d_Co_set_99 (by decide) ?_
    have ho := Option.some.inj h
    subst ho
    exact z_rtz C0 hw (z_bo_n (Or.inr rfl)) d_Co_set_100
  have h := ok_f h c7
  by_cases c9 : x1 = (19 : Int32)
  · have h := ok_t h c9
    refine lv_tableIn (off := 70) (tgt := 101) hx hb d_Co_set_31 (by rw [c9]; decide) (by rw [c9]; decide) (by rw [c9]; rfl) (by decide) ?_
    refine lv_aload_n hx hb d_Co_set_101 rfl (lv_at hl 0 rfl) ?_
    refine gfK_0_state C0 hw fl_Co_12 d_Co_set_102 ?_
    refine lv_lload hx hb d_Co_set_105 (lv_at hl 3 rfl) ?_
    refine pfK_1_mask C0 hw fl_Co_118 d_Co_set_107 (fun H locs hw => ?_)
    obtain ⟨q10, eq10, h⟩ := ok_n h
    rw [← eq10] at hw
    refine lv_iconst (v := (1 : Int32)) hx hb d_Co_set_110 (by decide) ?_
    have ho := Option.some.inj h
    subst ho
    exact z_rtz C0 hw (z_bo_n (Or.inr rfl)) d_Co_set_111
  have h := ok_f h c9
  by_cases c11 : x1 = (20 : Int32)
  · have h := ok_t h c11
    refine lv_tableIn (off := 81) (tgt := 112) hx hb d_Co_set_31 (by rw [c11]; decide) (by rw [c11]; decide) (by rw [c11]; rfl) (by decide) ?_
    refine lv_aload_n hx hb d_Co_set_112 rfl (lv_at hl 0 rfl) ?_
    refine gfK_0_state C0 hw fl_Co_12 d_Co_set_113 ?_
    refine lv_iload_n hx hb d_Co_set_116 rfl (lv_at hl 2 rfl) ?_
    refine lv_sipush (v := (3285 : Int32)) hx hb d_Co_set_117 (by decide) ?_
    refine lv_iand hx hb d_Co_set_120 ?_
    refine pfK_1_flags C0 hw fl_Co_121 d_Co_set_121 (fun H locs hw => ?_)
    obtain ⟨q12, eq12, h⟩ := ok_n h
    rw [← eq12] at hw
    refine lv_iconst (v := (1 : Int32)) hx hb d_Co_set_124 (by decide) ?_
    have ho := Option.some.inj h
    subst ho
    exact z_rtz C0 hw (z_bo_n (Or.inr rfl)) d_Co_set_125
  have h := ok_f h c11
  by_cases c13 : x1 = (21 : Int32)
  · have h := ok_t h c13
    refine lv_tableIn (off := 95) (tgt := 126) hx hb d_Co_set_31 (by rw [c13]; decide) (by rw [c13]; decide) (by rw [c13]; rfl) (by decide) ?_
    refine lv_aload_n hx hb d_Co_set_126 rfl (lv_at hl 0 rfl) ?_
    refine gfK_0_state C0 hw fl_Co_12 d_Co_set_127 ?_
    refine lv_lload hx hb d_Co_set_130 (lv_at hl 3 rfl) ?_
    refine pfK_1_undefined C0 hw fl_Co_125 d_Co_set_132 (fun H locs hw => ?_)
    obtain ⟨q14, eq14, h⟩ := ok_n h
    rw [← eq14] at hw
    refine lv_iconst (v := (1 : Int32)) hx hb d_Co_set_135 (by decide) ?_
    have ho := Option.some.inj h
    subst ho
    exact z_rtz C0 hw (z_bo_n (Or.inr rfl)) d_Co_set_136
  have h := ok_f h c13
  refine lv_tableOut (tgt := 137) hx hb d_Co_set_31 (by have zc3 := lv_neT c3 (a := 16) rfl; have zc5 := lv_neT c5 (a := 17) rfl; have zc7 := lv_neT c7 (a := 18) rfl; have zc9 := lv_neT c9 (a := 19) rfl; have zc11 := lv_neT c11 (a := 20) rfl; have zc13 := lv_neT c13 (a := 21) rfl; omega) (by decide) ?_
  refine lv_iconst (v := (0 : Int32)) hx hb d_Co_set_137 (by decide) ?_
  have ho := Option.some.inj h
  subst ho
  exact z_rtz C0 hw (z_bo_n (Or.inl rfl)) d_Co_set_138
set_option maxHeartbeats 4000000 in
set_option maxRecDepth 100000 in
theorem c_Co_set {l : Launch} {D : va_G} {ad : Nat → Nat} {ca : Nat → ClassId} (x1 : Int32) (x2 : Int32) (x3 : Int32) (q : z_Sg) (o : (Int32 × z_Sg)) (h : f_Co_set x1 x2 x3 q = some o) : z_ci l y_Co_set b_Co_set 6 (some .boolean) 1 21 D (z_Kt ca) (z_K ad ca q) (z_K ad ca o.2) [.ref (ad 0), .int x1, .int x2, .int x3] o.1 := by
  refine z_ci_of (own := z_RCo) (by decide) rfl ?_
  intro p e s m below meth c A C0 hw
  obtain ⟨hx, hb, hr, hlk, hml, hown, hts, hK, hA⟩ := id C0
  generalize hH : s.heap = H at hw ⊢
  generalize hlo : ([] : List Loc) = locs at hw ⊢
  refine z_entry (lv := [(0, .ref (ad 0)), (1, .int x1), (2, .int x2), (3, .int x3)]) (Nat.le_of_ble_eq_true rfl) rfl (fun ls hl => ?_)
  unfold f_Co_set at h
  refine lv_iload_n hx hb d_Co_set_0 rfl (lv_at hl 2 rfl) ?_
  refine lv_iload_n hx hb d_Co_set_1 rfl (lv_at hl 3 rfl) ?_
  obtain ⟨r1, er1, h⟩ := ok_b h
  refine z_sl (rest := []) C0 hw (c_Co_joined x2 x3 q r1 er1) mw_Co_joined ml_Co_100 ⟨Nat.le_of_ble_eq_true rfl, Nat.le_of_ble_eq_true rfl⟩ ⟨Nat.le_refl 0, Nat.le_refl 0⟩ rfl hl.1 rfl (Nat.le_of_ble_eq_true rfl) d_Co_set_2 (fun H locs hw => ?_)
  refine lv_lstore (lv' := [(4, .long r1), (0, .ref (ad 0)), (1, .int x1), (2, .int x2), (3, .int x3)]) hx hb d_Co_set_5 hl (by decide) rfl (fun ls hl => ?_)
  refine lv_iload_n hx hb d_Co_set_7 rfl (lv_at hl 2 rfl) ?_
  refine lv_if_lt (tgt := 30) hx hb d_Co_set_8 (by decide) (fun c2 => ?_) (fun c2 => ?_)
  · have h := ok_t h c2
    exact w_Co_set_30 o C0 q x1 x3 r1 h H locs ls hw (lv_sub hl [1, 2, 4, 0] rfl)
  · have h := ok_f h c2
    refine lv_iload_n hx hb d_Co_set_11 rfl (lv_at hl 2 rfl) ?_
    refine lv_bipush (v := (16 : Int32)) hx hb d_Co_set_12 (by decide) ?_
    refine lv_icmp_ge (tgt := 30) hx hb d_Co_set_14 (by decide) (fun c15 => ?_) (fun c15 => ?_)
    · have h := ok_t h c15
      exact w_Co_set_30 o C0 q x1 x3 r1 h H locs ls hw (lv_sub hl [1, 2, 4, 0] rfl)
    · have h := ok_f h c15
      refine lv_aload_n hx hb d_Co_set_17 rfl (lv_at hl 1 rfl) ?_
      refine gfK_0_state C0 hw fl_Co_12 d_Co_set_18 ?_
      refine gfK_1_registers C0 hw fl_Co_104 d_Co_set_21 ?_
      refine lv_iload_n hx hb d_Co_set_24 rfl (lv_at hl 2 rfl) ?_
      refine lv_lload hx hb d_Co_set_25 (lv_at hl 0 rfl) ?_
      obtain ⟨b16, h⟩ := ok_g h
      refine asK_2 C0 hw b16 d_Co_set_27 (fun H locs hw => ?_)
      obtain ⟨q17, eq17, h⟩ := ok_n h
      rw [← eq17] at hw
      refine lv_iconst (v := (1 : Int32)) hx hb d_Co_set_28 (by decide) ?_
      have ho := Option.some.inj h
      subst ho
      exact z_rtz C0 hw (z_bo_n (Or.inr rfl)) d_Co_set_29
def k_Co_get_155 (t0 : Int64) (q : z_Sg) : Option Int64 :=
  some t0
def k_Co_get_20 (x1 : Int32) (q : z_Sg) : Option Int64 :=
  if x1 = (16 : Int32) then (some (z_gL q 0)) else (if x1 = (17 : Int32) then (some (z_gL q 1)) else (if x1 = (18 : Int32) then (some (z_gL q 2)) else (if x1 = (19 : Int32) then (some (z_gL q 3)) else (if x1 = (20 : Int32) then (some ((z_gI q 0).toInt64)) else (if x1 = (21 : Int32) then (some (z_gL q 4)) else (if x1 = (22 : Int32) then (some (z_gL q 5)) else (if x1 = (23 : Int32) then (some ((z_gI q 1).toInt64)) else (if x1 = (24 : Int32) then (if (z_gI q 2) = 0 then (k_Co_get_155 (0 : Int64) q) else (k_Co_get_155 (3 : Int64) q)) else (some (0 : Int64))))))))))
def f_Co_get (x1 : Int32) (q : z_Sg) : Option Int64 :=
  if x1 < 0 then (k_Co_get_20 x1 q) else (if (16 : Int32) ≤ x1 then (k_Co_get_20 x1 q) else (if z_bad x1 16 then none else (some (z_gM q 0 x1.toNatClampNeg))))
set_option maxHeartbeats 4000000 in
set_option maxRecDepth 100000 in
theorem w_Co_get_155 {p : Program} {l : Launch} {e : Env} {s : State} {m : MethodId} {args : Array Value} {below : List Frame} {meth : Method} {c : Code} {D : va_G} {A : Nat → Prop} {ad : Nat → Nat} {ca : Nat → ClassId} (o : Int64) (C0 : z_cx z_RCo b_Co_get 2 (some .long) D (z_Kt ca) A p s m args meth c) (q : z_Sg) (t0 : Int64) (h : k_Co_get_155 t0 q = some o) : ∀ (H : Heap) (locs : List Loc) (ls : Array Slot), z_wd D (z_K ad ca q) A s H locs → lv_has ls 2 [] → W p l e (z_rm 0 0) s m args below meth c H locs 0 0 (z_ql below D (z_Kt ca) (z_K ad ca q) A s args o) (F0 m 155 ls [.long t0]) := by
  obtain ⟨hx, hb, hr, hlk, hml, hown, hts, hK, hA⟩ := id C0
  intro H locs ls hw hl
  have ho := Option.some.inj h
  subst ho
  exact z_rtl C0 hw d_Co_get_155
set_option maxHeartbeats 4000000 in
set_option maxRecDepth 100000 in
theorem w_Co_get_20 {p : Program} {l : Launch} {e : Env} {s : State} {m : MethodId} {args : Array Value} {below : List Frame} {meth : Method} {c : Code} {D : va_G} {A : Nat → Prop} {ad : Nat → Nat} {ca : Nat → ClassId} (o : Int64) (C0 : z_cx z_RCo b_Co_get 2 (some .long) D (z_Kt ca) A p s m args meth c) (q : z_Sg) (x1 : Int32) (h : k_Co_get_20 x1 q = some o) : ∀ (H : Heap) (locs : List Loc) (ls : Array Slot), z_wd D (z_K ad ca q) A s H locs → lv_has ls 2 [(0, .ref (ad 0)), (1, .int x1)] → W p l e (z_rm 0 0) s m args below meth c H locs 0 0 (z_ql below D (z_Kt ca) (z_K ad ca q) A s args o) (F0 m 20 ls []) := by
  obtain ⟨hx, hb, hr, hlk, hml, hown, hts, hK, hA⟩ := id C0
  intro H locs ls hw hl
  refine lv_iload_n hx hb d_Co_get_20 rfl (lv_at hl 1 rfl) ?_
  by_cases c2 : x1 = (16 : Int32)
  · have h := ok_t h c2
    refine lv_tableIn (off := 51) (tgt := 72) hx hb d_Co_get_21 (by rw [c2]; decide) (by rw [c2]; decide) (by rw [c2]; rfl) (by decide) ?_
    refine lv_aload_n hx hb d_Co_get_72 rfl (lv_at hl 0 rfl) ?_
    refine gfK_0_state C0 hw fl_Co_12 d_Co_get_73 ?_
    refine gfK_1_next C0 hw fl_Co_108 d_Co_get_76 ?_
    have ho := Option.some.inj h
    subst ho
    exact z_rtl C0 hw d_Co_get_79
  have h := ok_f h c2
  by_cases c3 : x1 = (17 : Int32)
  · have h := ok_t h c3
    refine lv_tableIn (off := 59) (tgt := 80) hx hb d_Co_get_21 (by rw [c3]; decide) (by rw [c3]; decide) (by rw [c3]; rfl) (by decide) ?_
    refine lv_aload_n hx hb d_Co_get_80 rfl (lv_at hl 0 rfl) ?_
    refine gfK_0_state C0 hw fl_Co_12 d_Co_get_81 ?_
    refine gfK_1_table C0 hw fl_Co_112 d_Co_get_84 ?_
    have ho := Option.some.inj h
    subst ho
    exact z_rtl C0 hw d_Co_get_87
  have h := ok_f h c3
  by_cases c4 : x1 = (18 : Int32)
  · have h := ok_t h c4
    refine lv_tableIn (off := 67) (tgt := 88) hx hb d_Co_get_21 (by rw [c4]; decide) (by rw [c4]; decide) (by rw [c4]; rfl) (by decide) ?_
    refine lv_aload_n hx hb d_Co_get_88 rfl (lv_at hl 0 rfl) ?_
    refine gfK_0_state C0 hw fl_Co_12 d_Co_get_89 ?_
    refine gfK_1_entry C0 hw fl_Co_115 d_Co_get_92 ?_
    have ho := Option.some.inj h
    subst ho
    exact z_rtl C0 hw d_Co_get_95
  have h := ok_f h c4
  by_cases c5 : x1 = (19 : Int32)
  · have h := ok_t h c5
    refine lv_tableIn (off := 75) (tgt := 96) hx hb d_Co_get_21 (by rw [c5]; decide) (by rw [c5]; decide) (by rw [c5]; rfl) (by decide) ?_
    refine lv_aload_n hx hb d_Co_get_96 rfl (lv_at hl 0 rfl) ?_
    refine gfK_0_state C0 hw fl_Co_12 d_Co_get_97 ?_
    refine gfK_1_mask C0 hw fl_Co_118 d_Co_get_100 ?_
    have ho := Option.some.inj h
    subst ho
    exact z_rtl C0 hw d_Co_get_103
  have h := ok_f h c5
  by_cases c6 : x1 = (20 : Int32)
  · have h := ok_t h c6
    refine lv_tableIn (off := 83) (tgt := 104) hx hb d_Co_get_21 (by rw [c6]; decide) (by rw [c6]; decide) (by rw [c6]; rfl) (by decide) ?_
    refine lv_aload_n hx hb d_Co_get_104 rfl (lv_at hl 0 rfl) ?_
    refine gfK_0_state C0 hw fl_Co_12 d_Co_get_105 ?_
    refine gfK_1_flags C0 hw fl_Co_121 d_Co_get_108 ?_
    refine lv_i2l hx hb d_Co_get_111 rfl ?_
    have ho := Option.some.inj h
    subst ho
    exact z_rtl C0 hw d_Co_get_112
  have h := ok_f h c6
  by_cases c7 : x1 = (21 : Int32)
  · have h := ok_t h c7
    refine lv_tableIn (off := 92) (tgt := 113) hx hb d_Co_get_21 (by rw [c7]; decide) (by rw [c7]; decide) (by rw [c7]; rfl) (by decide) ?_
    refine lv_aload_n hx hb d_Co_get_113 rfl (lv_at hl 0 rfl) ?_
    refine gfK_0_state C0 hw fl_Co_12 d_Co_get_114 ?_
    refine gfK_1_undefined C0 hw fl_Co_125 d_Co_get_117 ?_
    have ho := Option.some.inj h
    subst ho
    exact z_rtl C0 hw d_Co_get_120
  have h := ok_f h c7
  by_cases c8 : x1 = (22 : Int32)
  · have h := ok_t h c8
    refine lv_tableIn (off := 100) (tgt := 121) hx hb d_Co_get_21 (by rw [c8]; decide) (by rw [c8]; decide) (by rw [c8]; rfl) (by decide) ?_
    refine lv_aload_n hx hb d_Co_get_121 rfl (lv_at hl 0 rfl) ?_
    refine gfK_0_state C0 hw fl_Co_12 d_Co_get_122 ?_
    refine gfK_1_fault C0 hw fl_Co_128 d_Co_get_125 ?_
    have ho := Option.some.inj h
    subst ho
    exact z_rtl C0 hw d_Co_get_128
  have h := ok_f h c8
  by_cases c9 : x1 = (23 : Int32)
  · have h := ok_t h c9
    refine lv_tableIn (off := 108) (tgt := 129) hx hb d_Co_get_21 (by rw [c9]; decide) (by rw [c9]; decide) (by rw [c9]; rfl) (by decide) ?_
    refine lv_aload_n hx hb d_Co_get_129 rfl (lv_at hl 0 rfl) ?_
    refine gfK_0_state C0 hw fl_Co_12 d_Co_get_130 ?_
    refine gfK_1_code C0 hw fl_Co_131 d_Co_get_133 ?_
    refine lv_i2l hx hb d_Co_get_136 rfl ?_
    have ho := Option.some.inj h
    subst ho
    exact z_rtl C0 hw d_Co_get_137
  have h := ok_f h c9
  by_cases c10 : x1 = (24 : Int32)
  · have h := ok_t h c10
    refine lv_tableIn (off := 117) (tgt := 138) hx hb d_Co_get_21 (by rw [c10]; decide) (by rw [c10]; decide) (by rw [c10]; rfl) (by decide) ?_
    refine lv_aload_n hx hb d_Co_get_138 rfl (lv_at hl 0 rfl) ?_
    refine gfK_0_state C0 hw fl_Co_12 d_Co_get_139 ?_
    refine gfK_1_user C0 hw fl_Co_134 d_Co_get_142 ?_
    refine lv_if_eq (tgt := 154) hx hb d_Co_get_145 (by decide) (fun c11 => ?_) (fun c11 => ?_)
    · have h := ok_t h c11
      refine lv_lconst (v := (0 : Int64)) hx hb d_Co_get_154 (by decide) ?_
      exact w_Co_get_155 o C0 q (0 : Int64) h H locs ls hw (lv_sub hl [] rfl)
    · have h := ok_f h c11
      refine lv_ldc2 (own := z_RCo) hx hb hown (hts _ kl_Co_138) d_Co_get_148 ?_
      refine lv_goto (tgt := 155) hx hb d_Co_get_151 (by decide) ?_
      exact w_Co_get_155 o C0 q (3 : Int64) h H locs ls hw (lv_sub hl [] rfl)
  have h := ok_f h c10
  refine lv_tableOut (tgt := 156) hx hb d_Co_get_21 (by have zc2 := lv_neT c2 (a := 16) rfl; have zc3 := lv_neT c3 (a := 17) rfl; have zc4 := lv_neT c4 (a := 18) rfl; have zc5 := lv_neT c5 (a := 19) rfl; have zc6 := lv_neT c6 (a := 20) rfl; have zc7 := lv_neT c7 (a := 21) rfl; have zc8 := lv_neT c8 (a := 22) rfl; have zc9 := lv_neT c9 (a := 23) rfl; have zc10 := lv_neT c10 (a := 24) rfl; omega) (by decide) ?_
  refine lv_lconst (v := (0 : Int64)) hx hb d_Co_get_156 (by decide) ?_
  have ho := Option.some.inj h
  subst ho
  exact z_rtl C0 hw d_Co_get_157
set_option maxHeartbeats 4000000 in
set_option maxRecDepth 100000 in
theorem c_Co_get {l : Launch} {D : va_G} {ad : Nat → Nat} {ca : Nat → ClassId} (x1 : Int32) (q : z_Sg) (o : Int64) (h : f_Co_get x1 q = some o) : z_cl l y_Co_get b_Co_get 2 (some .long) 0 0 D (z_Kt ca) (z_K ad ca q) (z_K ad ca q) [.ref (ad 0), .int x1] o := by
  refine z_cl_of (own := z_RCo) (by decide) rfl ?_
  intro p e s m below meth c A C0 hw
  obtain ⟨hx, hb, hr, hlk, hml, hown, hts, hK, hA⟩ := id C0
  generalize hH : s.heap = H at hw ⊢
  generalize hlo : ([] : List Loc) = locs at hw ⊢
  refine z_entry (lv := [(0, .ref (ad 0)), (1, .int x1)]) (Nat.le_of_ble_eq_true rfl) rfl (fun ls hl => ?_)
  unfold f_Co_get at h
  refine lv_iload_n hx hb d_Co_get_0 rfl (lv_at hl 1 rfl) ?_
  refine lv_if_lt (tgt := 20) hx hb d_Co_get_1 (by decide) (fun c1 => ?_) (fun c1 => ?_)
  · have h := ok_t h c1
    exact w_Co_get_20 o C0 q x1 h H locs ls hw (lv_sub hl [0, 1] rfl)
  · have h := ok_f h c1
    refine lv_iload_n hx hb d_Co_get_4 rfl (lv_at hl 1 rfl) ?_
    refine lv_bipush (v := (16 : Int32)) hx hb d_Co_get_5 (by decide) ?_
    refine lv_icmp_ge (tgt := 20) hx hb d_Co_get_7 (by decide) (fun c12 => ?_) (fun c12 => ?_)
    · have h := ok_t h c12
      exact w_Co_get_20 o C0 q x1 h H locs ls hw (lv_sub hl [0, 1] rfl)
    · have h := ok_f h c12
      refine lv_aload_n hx hb d_Co_get_10 rfl (lv_at hl 0 rfl) ?_
      refine gfK_0_state C0 hw fl_Co_12 d_Co_get_11 ?_
      refine gfK_1_registers C0 hw fl_Co_104 d_Co_get_14 ?_
      refine lv_iload_n hx hb d_Co_get_17 rfl (lv_at hl 1 rfl) ?_
      obtain ⟨b13, h⟩ := ok_g h
      refine alK_2 C0 hw b13 d_Co_get_18 ?_
      have ho := Option.some.inj h
      subst ho
      exact z_rtl C0 hw d_Co_get_19
def f_Co_level (x1 : Int32) (q : z_Sg) : Option z_Sg :=
  z_gd (z_bo x1) (z_nm (z_sI q 2 x1) (fun q2 => some q2))
set_option maxHeartbeats 4000000 in
set_option maxRecDepth 100000 in
theorem c_Co_level {l : Launch} {D : va_G} {ad : Nat → Nat} {ca : Nat → ClassId} (x1 : Int32) (q : z_Sg) (o : z_Sg) (h : f_Co_level x1 q = some o) : z_cv l y_Co_level b_Co_level 2 none 0 0 D (z_Kt ca) (z_K ad ca q) (z_K ad ca o) [.ref (ad 0), .int x1] := by
  refine z_cv_of (own := z_RCo) (by decide) rfl ?_
  intro p e s m below meth c A C0 hw
  obtain ⟨hx, hb, hr, hlk, hml, hown, hts, hK, hA⟩ := id C0
  generalize hH : s.heap = H at hw ⊢
  generalize hlo : ([] : List Loc) = locs at hw ⊢
  refine z_entry (lv := [(0, .ref (ad 0)), (1, .int x1)]) (Nat.le_of_ble_eq_true rfl) rfl (fun ls hl => ?_)
  unfold f_Co_level at h
  refine lv_aload_n hx hb d_Co_level_0 rfl (lv_at hl 0 rfl) ?_
  refine gfK_0_state C0 hw fl_Co_12 d_Co_level_1 ?_
  refine lv_iload_n hx hb d_Co_level_4 rfl (lv_at hl 1 rfl) ?_
  obtain ⟨b1, h⟩ := ok_G h
  refine pfK_1_user C0 hw b1 fl_Co_134 d_Co_level_5 (fun H locs hw => ?_)
  obtain ⟨q2, eq2, h⟩ := ok_n h
  rw [← eq2] at hw
  have ho := Option.some.inj h
  subst ho
  exact z_rtv C0 hw d_Co_level_8
def k_Pa_isWrong_24 (t0 : Int32) (q : z_Sg) : Option Int32 :=
  z_gd (z_bo t0) (some t0)
def k_Pa_isWrong_23 (q : z_Sg) : Option Int32 :=
  k_Pa_isWrong_24 (0 : Int32) q
def f_Pa_isWrong (x0 : Int64) (q : z_Sg) : Option Int32 :=
  z_nm ((z_lshr x0 (47 : Int32))) (fun n1 => if n1 = (0 : Int64) then (k_Pa_isWrong_23 q) else (if n1 = (-1 : Int64) then (k_Pa_isWrong_23 q) else (k_Pa_isWrong_24 (1 : Int32) q)))
set_option maxHeartbeats 4000000 in
set_option maxRecDepth 100000 in
theorem w_Pa_isWrong_24 {p : Program} {l : Launch} {e : Env} {s : State} {m : MethodId} {args : Array Value} {below : List Frame} {meth : Method} {c : Code} {D : va_G} {A : Nat → Prop} {ad : Nat → Nat} {ca : Nat → ClassId} (o : Int32) (C0 : z_cx z_RPa b_Pa_isWrong 4 (some .boolean) D (z_Kt ca) A p s m args meth c) (q : z_Sg) (t0 : Int32) (h : k_Pa_isWrong_24 t0 q = some o) : ∀ (H : Heap) (locs : List Loc) (ls : Array Slot), z_wd D (z_K ad ca q) A s H locs → lv_has ls 4 [] → W p l e (z_rm 0 0) s m args below meth c H locs 0 0 (z_qi below D (z_Kt ca) (z_K ad ca q) A s args o) (F0 m 24 ls [.int t0]) := by
  obtain ⟨hx, hb, hr, hlk, hml, hown, hts, hK, hA⟩ := id C0
  intro H locs ls hw hl
  obtain ⟨b3, h⟩ := ok_G h
  have ho := Option.some.inj h
  subst ho
  exact z_rtz C0 hw (z_bo_n b3) d_Pa_isWrong_24
set_option maxHeartbeats 4000000 in
set_option maxRecDepth 100000 in
theorem w_Pa_isWrong_23 {p : Program} {l : Launch} {e : Env} {s : State} {m : MethodId} {args : Array Value} {below : List Frame} {meth : Method} {c : Code} {D : va_G} {A : Nat → Prop} {ad : Nat → Nat} {ca : Nat → ClassId} (o : Int32) (C0 : z_cx z_RPa b_Pa_isWrong 4 (some .boolean) D (z_Kt ca) A p s m args meth c) (q : z_Sg) (h : k_Pa_isWrong_23 q = some o) : ∀ (H : Heap) (locs : List Loc) (ls : Array Slot), z_wd D (z_K ad ca q) A s H locs → lv_has ls 4 [] → W p l e (z_rm 0 0) s m args below meth c H locs 0 0 (z_qi below D (z_Kt ca) (z_K ad ca q) A s args o) (F0 m 23 ls []) := by
  obtain ⟨hx, hb, hr, hlk, hml, hown, hts, hK, hA⟩ := id C0
  intro H locs ls hw hl
  refine lv_iconst (v := (0 : Int32)) hx hb d_Pa_isWrong_23 (by decide) ?_
  exact w_Pa_isWrong_24 o C0 q (0 : Int32) h H locs ls hw (lv_sub hl [] rfl)
set_option maxHeartbeats 4000000 in
set_option maxRecDepth 100000 in
theorem c_Pa_isWrong {l : Launch} {D : va_G} {ad : Nat → Nat} {ca : Nat → ClassId} (x0 : Int64) (q : z_Sg) (o : Int32) (h : f_Pa_isWrong x0 q = some o) : z_ci l y_Pa_isWrong b_Pa_isWrong 4 (some .boolean) 0 0 D (z_Kt ca) (z_K ad ca q) (z_K ad ca q) [.long x0] o := by
  refine z_ci_of (own := z_RPa) (by decide) rfl ?_
  intro p e s m below meth c A C0 hw
  obtain ⟨hx, hb, hr, hlk, hml, hown, hts, hK, hA⟩ := id C0
  generalize hH : s.heap = H at hw ⊢
  generalize hlo : ([] : List Loc) = locs at hw ⊢
  refine z_entry (lv := [(0, .long x0)]) (Nat.le_of_ble_eq_true rfl) rfl (fun ls hl => ?_)
  unfold f_Pa_isWrong at h
  refine lv_lload_n hx hb d_Pa_isWrong_0 rfl (lv_at hl 0 rfl) ?_
  refine lv_bipush (v := (47 : Int32)) hx hb d_Pa_isWrong_1 (by decide) ?_
  refine lv_lshr (v := (z_lshr x0 (47 : Int32))) hx hb d_Pa_isWrong_3 rfl ?_
  obtain ⟨n1, en1, h⟩ := ok_n h
  refine z_tl en1 ?_
  refine lv_lstore_n (lv' := [(2, .long n1), (0, .long x0)]) hx hb d_Pa_isWrong_4 rfl hl (by decide) rfl (fun ls hl => ?_)
  refine lv_lload_n hx hb d_Pa_isWrong_5 rfl (lv_at hl 0 rfl) ?_
  refine lv_lconst (v := (0 : Int64)) hx hb d_Pa_isWrong_6 (by decide) ?_
  refine W.lcmp hx hb d_Pa_isWrong_7 ?_
  refine lv_if_eq (tgt := 23) hx hb d_Pa_isWrong_8 (by decide) (fun c2 => ?_) (fun c2 => ?_)
  · have h := ok_t h ((lg_cmp_eq _ _).mp c2)
    exact w_Pa_isWrong_23 o C0 q h H locs ls hw (lv_sub hl [] rfl)
  · have h := ok_f h (fun z => c2 ((lg_cmp_eq _ _).mpr z))
    refine lv_lload_n hx hb d_Pa_isWrong_11 rfl (lv_at hl 0 rfl) ?_
    refine lv_ldc2 (own := z_RPa) hx hb hown (hts _ kl_Pa_25) d_Pa_isWrong_12 ?_
    refine W.lcmp hx hb d_Pa_isWrong_15 ?_
    refine lv_if_eq (tgt := 23) hx hb d_Pa_isWrong_16 (by decide) (fun c4 => ?_) (fun c4 => ?_)
    · have h := ok_t h ((lg_cmp_eq _ _).mp c4)
      exact w_Pa_isWrong_23 o C0 q h H locs ls hw (lv_sub hl [] rfl)
    · have h := ok_f h (fun z => c4 ((lg_cmp_eq _ _).mpr z))
      refine lv_iconst (v := (1 : Int32)) hx hb d_Pa_isWrong_19 (by decide) ?_
      refine lv_goto (tgt := 24) hx hb d_Pa_isWrong_20 (by decide) ?_
      exact w_Pa_isWrong_24 o C0 q (1 : Int32) h H locs ls hw (lv_sub hl [] rfl)
def k_Pa_isForbidden_53 (t0 : Int32) (q : z_Sg) : Option Int32 :=
  z_gd (z_bo t0) (some t0)
def k_Pa_isForbidden_52 (q : z_Sg) : Option Int32 :=
  k_Pa_isForbidden_53 (0 : Int32) q
def k_Pa_isForbidden_48 (q : z_Sg) : Option Int32 :=
  k_Pa_isForbidden_53 (1 : Int32) q
def k_Pa_isForbidden_36 (x3 : Int64) (x5 : Int32) (q : z_Sg) : Option Int32 :=
  if x5 = (2 : Int32) then (if (0 : Int64) ≤ x3 then (k_Pa_isForbidden_52 q) else (k_Pa_isForbidden_48 q)) else (k_Pa_isForbidden_52 q)
def k_Pa_isForbidden_16 (x1 : Int64) (x3 : Int64) (x5 : Int32) (q : z_Sg) : Option Int32 :=
  if (z_gI q 2) = 0 then (k_Pa_isForbidden_36 x3 x5 q) else (if (x1 &&& (4 : Int64)) = (0 : Int64) then (k_Pa_isForbidden_48 q) else (k_Pa_isForbidden_36 x3 x5 q))
def f_Pa_isForbidden (x1 : Int64) (x3 : Int64) (x5 : Int32) (q : z_Sg) : Option Int32 :=
  if x5 = (1 : Int32) then (if (x1 &&& (2 : Int64)) = (0 : Int64) then (k_Pa_isForbidden_48 q) else (k_Pa_isForbidden_16 x1 x3 x5 q)) else (k_Pa_isForbidden_16 x1 x3 x5 q)
set_option maxHeartbeats 4000000 in
set_option maxRecDepth 100000 in
theorem w_Pa_isForbidden_53 {p : Program} {l : Launch} {e : Env} {s : State} {m : MethodId} {args : Array Value} {below : List Frame} {meth : Method} {c : Code} {D : va_G} {A : Nat → Prop} {ad : Nat → Nat} {ca : Nat → ClassId} (o : Int32) (C0 : z_cx z_RPa b_Pa_isForbidden 6 (some .boolean) D (z_Kt ca) A p s m args meth c) (q : z_Sg) (t0 : Int32) (h : k_Pa_isForbidden_53 t0 q = some o) : ∀ (H : Heap) (locs : List Loc) (ls : Array Slot), z_wd D (z_K ad ca q) A s H locs → lv_has ls 6 [] → W p l e (z_rm 0 0) s m args below meth c H locs 0 0 (z_qi below D (z_Kt ca) (z_K ad ca q) A s args o) (F0 m 53 ls [.int t0]) := by
  obtain ⟨hx, hb, hr, hlk, hml, hown, hts, hK, hA⟩ := id C0
  intro H locs ls hw hl
  obtain ⟨b4, h⟩ := ok_G h
  have ho := Option.some.inj h
  subst ho
  exact z_rtz C0 hw (z_bo_n b4) d_Pa_isForbidden_53
set_option maxHeartbeats 4000000 in
set_option maxRecDepth 100000 in
theorem w_Pa_isForbidden_52 {p : Program} {l : Launch} {e : Env} {s : State} {m : MethodId} {args : Array Value} {below : List Frame} {meth : Method} {c : Code} {D : va_G} {A : Nat → Prop} {ad : Nat → Nat} {ca : Nat → ClassId} (o : Int32) (C0 : z_cx z_RPa b_Pa_isForbidden 6 (some .boolean) D (z_Kt ca) A p s m args meth c) (q : z_Sg) (h : k_Pa_isForbidden_52 q = some o) : ∀ (H : Heap) (locs : List Loc) (ls : Array Slot), z_wd D (z_K ad ca q) A s H locs → lv_has ls 6 [] → W p l e (z_rm 0 0) s m args below meth c H locs 0 0 (z_qi below D (z_Kt ca) (z_K ad ca q) A s args o) (F0 m 52 ls []) := by
  obtain ⟨hx, hb, hr, hlk, hml, hown, hts, hK, hA⟩ := id C0
  intro H locs ls hw hl
  refine lv_iconst (v := (0 : Int32)) hx hb d_Pa_isForbidden_52 (by decide) ?_
  exact w_Pa_isForbidden_53 o C0 q (0 : Int32) h H locs ls hw (lv_sub hl [] rfl)
set_option maxHeartbeats 4000000 in
set_option maxRecDepth 100000 in
theorem w_Pa_isForbidden_48 {p : Program} {l : Launch} {e : Env} {s : State} {m : MethodId} {args : Array Value} {below : List Frame} {meth : Method} {c : Code} {D : va_G} {A : Nat → Prop} {ad : Nat → Nat} {ca : Nat → ClassId} (o : Int32) (C0 : z_cx z_RPa b_Pa_isForbidden 6 (some .boolean) D (z_Kt ca) A p s m args meth c) (q : z_Sg) (h : k_Pa_isForbidden_48 q = some o) : ∀ (H : Heap) (locs : List Loc) (ls : Array Slot), z_wd D (z_K ad ca q) A s H locs → lv_has ls 6 [] → W p l e (z_rm 0 0) s m args below meth c H locs 0 0 (z_qi below D (z_Kt ca) (z_K ad ca q) A s args o) (F0 m 48 ls []) := by
  obtain ⟨hx, hb, hr, hlk, hml, hown, hts, hK, hA⟩ := id C0
  intro H locs ls hw hl
  refine lv_iconst (v := (1 : Int32)) hx hb d_Pa_isForbidden_48 (by decide) ?_
  refine lv_goto (tgt := 53) hx hb d_Pa_isForbidden_49 (by decide) ?_
  exact w_Pa_isForbidden_53 o C0 q (1 : Int32) h H locs ls hw (lv_sub hl [] rfl)
set_option maxHeartbeats 4000000 in
set_option maxRecDepth 100000 in
theorem w_Pa_isForbidden_36 {p : Program} {l : Launch} {e : Env} {s : State} {m : MethodId} {args : Array Value} {below : List Frame} {meth : Method} {c : Code} {D : va_G} {A : Nat → Prop} {ad : Nat → Nat} {ca : Nat → ClassId} (o : Int32) (C0 : z_cx z_RPa b_Pa_isForbidden 6 (some .boolean) D (z_Kt ca) A p s m args meth c) (q : z_Sg) (x3 : Int64) (x5 : Int32) (h : k_Pa_isForbidden_36 x3 x5 q = some o) : ∀ (H : Heap) (locs : List Loc) (ls : Array Slot), z_wd D (z_K ad ca q) A s H locs → lv_has ls 6 [(3, .long x3), (5, .int x5)] → W p l e (z_rm 0 0) s m args below meth c H locs 0 0 (z_qi below D (z_Kt ca) (z_K ad ca q) A s args o) (F0 m 36 ls []) := by
  obtain ⟨hx, hb, hr, hlk, hml, hown, hts, hK, hA⟩ := id C0
  intro H locs ls hw hl
  refine lv_iload hx hb d_Pa_isForbidden_36 (lv_at hl 1 rfl) ?_
  refine lv_iconst (v := (2 : Int32)) hx hb d_Pa_isForbidden_38 (by decide) ?_
  refine lv_icmp_ne (tgt := 52) hx hb d_Pa_isForbidden_39 (by decide) (fun c3 => ?_) (fun c3 => ?_)
  · have h := ok_f h c3
    exact w_Pa_isForbidden_52 o C0 q h H locs ls hw (lv_sub hl [] rfl)
  · have h := ok_t h c3
    refine lv_lload_n hx hb d_Pa_isForbidden_42 rfl (lv_at hl 0 rfl) ?_
    refine lv_lconst (v := (0 : Int64)) hx hb d_Pa_isForbidden_43 (by decide) ?_
    refine W.lcmp hx hb d_Pa_isForbidden_44 ?_
    refine lv_if_ge (tgt := 52) hx hb d_Pa_isForbidden_45 (by decide) (fun c5 => ?_) (fun c5 => ?_)
    · have h := ok_t h ((lg_cmp_ge _ _).mp c5)
      exact w_Pa_isForbidden_52 o C0 q h H locs ls hw (lv_sub hl [] rfl)
    · have h := ok_f h (fun z => c5 ((lg_cmp_ge _ _).mpr z))
      exact w_Pa_isForbidden_48 o C0 q h H locs ls hw (lv_sub hl [] rfl)
set_option maxHeartbeats 4000000 in
set_option maxRecDepth 100000 in
theorem w_Pa_isForbidden_16 {p : Program} {l : Launch} {e : Env} {s : State} {m : MethodId} {args : Array Value} {below : List Frame} {meth : Method} {c : Code} {D : va_G} {A : Nat → Prop} {ad : Nat → Nat} {ca : Nat → ClassId} (o : Int32) (C0 : z_cx z_RPa b_Pa_isForbidden 6 (some .boolean) D (z_Kt ca) A p s m args meth c) (q : z_Sg) (x1 : Int64) (x3 : Int64) (x5 : Int32) (h : k_Pa_isForbidden_16 x1 x3 x5 q = some o) : ∀ (H : Heap) (locs : List Loc) (ls : Array Slot), z_wd D (z_K ad ca q) A s H locs → lv_has ls 6 [(0, .ref (ad 3)), (1, .long x1), (3, .long x3), (5, .int x5)] → W p l e (z_rm 0 0) s m args below meth c H locs 0 0 (z_qi below D (z_Kt ca) (z_K ad ca q) A s args o) (F0 m 16 ls []) := by
  obtain ⟨hx, hb, hr, hlk, hml, hown, hts, hK, hA⟩ := id C0
  intro H locs ls hw hl
  refine lv_aload_n hx hb d_Pa_isForbidden_16 rfl (lv_at hl 0 rfl) ?_
  refine gfK_3_state C0 hw fl_Pa_15 d_Pa_isForbidden_17 ?_
  refine gfK_1_user C0 hw fl_Pa_63 d_Pa_isForbidden_20 ?_
  refine lv_if_eq (tgt := 36) hx hb d_Pa_isForbidden_23 (by decide) (fun c2 => ?_) (fun c2 => ?_)
  · have h := ok_t h c2
    exact w_Pa_isForbidden_36 o C0 q x3 x5 h H locs ls hw (lv_sub hl [2, 3] rfl)
  · have h := ok_f h c2
    refine lv_lload_n hx hb d_Pa_isForbidden_26 rfl (lv_at hl 1 rfl) ?_
    refine lv_ldc2 (own := z_RPa) hx hb hown (hts _ kl_Pa_67) d_Pa_isForbidden_27 ?_
    refine lv_land hx hb d_Pa_isForbidden_30 ?_
    refine lv_lconst (v := (0 : Int64)) hx hb d_Pa_isForbidden_31 (by decide) ?_
    refine W.lcmp hx hb d_Pa_isForbidden_32 ?_
    refine lv_if_eq (tgt := 48) hx hb d_Pa_isForbidden_33 (by decide) (fun c6 => ?_) (fun c6 => ?_)
    · have h := ok_t h ((lg_cmp_eq _ _).mp c6)
      exact w_Pa_isForbidden_48 o C0 q h H locs ls hw (lv_sub hl [] rfl)
    · have h := ok_f h (fun z => c6 ((lg_cmp_eq _ _).mpr z))
      exact w_Pa_isForbidden_36 o C0 q x3 x5 h H locs ls hw (lv_sub hl [2, 3] rfl)
set_option maxHeartbeats 4000000 in
set_option maxRecDepth 100000 in
theorem c_Pa_isForbidden {l : Launch} {D : va_G} {ad : Nat → Nat} {ca : Nat → ClassId} (x1 : Int64) (x3 : Int64) (x5 : Int32) (q : z_Sg) (o : Int32) (h : f_Pa_isForbidden x1 x3 x5 q = some o) : z_ci l y_Pa_isForbidden b_Pa_isForbidden 6 (some .boolean) 0 0 D (z_Kt ca) (z_K ad ca q) (z_K ad ca q) [.ref (ad 3), .long x1, .long x3, .int x5] o := by
  refine z_ci_of (own := z_RPa) (by decide) rfl ?_
  intro p e s m below meth c A C0 hw
  obtain ⟨hx, hb, hr, hlk, hml, hown, hts, hK, hA⟩ := id C0
  generalize hH : s.heap = H at hw ⊢
  generalize hlo : ([] : List Loc) = locs at hw ⊢
  refine z_entry (lv := [(0, .ref (ad 3)), (1, .long x1), (3, .long x3), (5, .int x5)]) (Nat.le_of_ble_eq_true rfl) rfl (fun ls hl => ?_)
  unfold f_Pa_isForbidden at h
  refine lv_iload hx hb d_Pa_isForbidden_0 (lv_at hl 3 rfl) ?_
  refine lv_iconst (v := (1 : Int32)) hx hb d_Pa_isForbidden_2 (by decide) ?_
  refine lv_icmp_ne (tgt := 16) hx hb d_Pa_isForbidden_3 (by decide) (fun c1 => ?_) (fun c1 => ?_)
  · have h := ok_f h c1
    exact w_Pa_isForbidden_16 o C0 q x1 x3 x5 h H locs ls hw (lv_sub hl [0, 1, 2, 3] rfl)
  · have h := ok_t h c1
    refine lv_lload_n hx hb d_Pa_isForbidden_6 rfl (lv_at hl 1 rfl) ?_
    refine lv_ldc2 (own := z_RPa) hx hb hown (hts _ kl_Pa_61) d_Pa_isForbidden_7 ?_
    refine lv_land hx hb d_Pa_isForbidden_10 ?_
    refine lv_lconst (v := (0 : Int64)) hx hb d_Pa_isForbidden_11 (by decide) ?_
    refine W.lcmp hx hb d_Pa_isForbidden_12 ?_
    refine lv_if_eq (tgt := 48) hx hb d_Pa_isForbidden_13 (by decide) (fun c7 => ?_) (fun c7 => ?_)
    · have h := ok_t h ((lg_cmp_eq _ _).mp c7)
      exact w_Pa_isForbidden_48 o C0 q h H locs ls hw (lv_sub hl [] rfl)
    · have h := ok_f h (fun z => c7 ((lg_cmp_eq _ _).mpr z))
      exact w_Pa_isForbidden_16 o C0 q x1 x3 x5 h H locs ls hw (lv_sub hl [0, 1, 2, 3] rfl)
def k_Pa_refused_50 (t0 : Int64) (t1 : Int64) (q : z_Sg) : Option Int64 :=
  some (t0 - t1)
def k_Pa_refused_23 (x1 : Int64) (t0 : Int64) (q : z_Sg) : Option Int64 :=
  if (z_gI q 2) = 0 then (k_Pa_refused_50 (((-2 : Int64) - x1) - t0) (0 : Int64) q) else (k_Pa_refused_50 (((-2 : Int64) - x1) - t0) (4 : Int64) q)
def f_Pa_refused (x1 : Int64) (x3 : Int32) (q : z_Sg) : Option Int64 :=
  if x3 = (1 : Int32) then (k_Pa_refused_23 x1 (2 : Int64) q) else (if x3 = (2 : Int32) then (k_Pa_refused_23 x1 (16 : Int64) q) else (k_Pa_refused_23 x1 (0 : Int64) q))
set_option maxHeartbeats 4000000 in
set_option maxRecDepth 100000 in
theorem w_Pa_refused_50 {p : Program} {l : Launch} {e : Env} {s : State} {m : MethodId} {args : Array Value} {below : List Frame} {meth : Method} {c : Code} {D : va_G} {A : Nat → Prop} {ad : Nat → Nat} {ca : Nat → ClassId} (o : Int64) (C0 : z_cx z_RPa b_Pa_refused 6 (some .long) D (z_Kt ca) A p s m args meth c) (q : z_Sg) (t0 : Int64) (t1 : Int64) (h : k_Pa_refused_50 t0 t1 q = some o) : ∀ (H : Heap) (locs : List Loc) (ls : Array Slot), z_wd D (z_K ad ca q) A s H locs → lv_has ls 6 [] → W p l e (z_rm 0 0) s m args below meth c H locs 0 0 (z_ql below D (z_Kt ca) (z_K ad ca q) A s args o) (F0 m 50 ls [.long t1, .long t0]) := by
  obtain ⟨hx, hb, hr, hlk, hml, hown, hts, hK, hA⟩ := id C0
  intro H locs ls hw hl
  refine lv_lsub hx hb d_Pa_refused_50 ?_
  have ho := Option.some.inj h
  subst ho
  exact z_rtl C0 hw d_Pa_refused_51
set_option maxHeartbeats 4000000 in
set_option maxRecDepth 100000 in
theorem w_Pa_refused_23 {p : Program} {l : Launch} {e : Env} {s : State} {m : MethodId} {args : Array Value} {below : List Frame} {meth : Method} {c : Code} {D : va_G} {A : Nat → Prop} {ad : Nat → Nat} {ca : Nat → ClassId} (o : Int64) (C0 : z_cx z_RPa b_Pa_refused 6 (some .long) D (z_Kt ca) A p s m args meth c) (q : z_Sg) (x1 : Int64) (t0 : Int64) (h : k_Pa_refused_23 x1 t0 q = some o) : ∀ (H : Heap) (locs : List Loc) (ls : Array Slot), z_wd D (z_K ad ca q) A s H locs → lv_has ls 6 [(0, .ref (ad 3)), (1, .long x1)] → W p l e (z_rm 0 0) s m args below meth c H locs 0 0 (z_ql below D (z_Kt ca) (z_K ad ca q) A s args o) (F0 m 23 ls [.long t0]) := by
  obtain ⟨hx, hb, hr, hlk, hml, hown, hts, hK, hA⟩ := id C0
  intro H locs ls hw hl
  refine lv_lstore (lv' := [(4, .long t0), (0, .ref (ad 3)), (1, .long x1)]) hx hb d_Pa_refused_23 hl (by decide) rfl (fun ls hl => ?_)
  refine lv_ldc2 (own := z_RPa) hx hb hown (hts _ kl_Pa_71) d_Pa_refused_25 ?_
  refine lv_lload_n hx hb d_Pa_refused_28 rfl (lv_at hl 2 rfl) ?_
  refine lv_lsub hx hb d_Pa_refused_29 ?_
  refine lv_lload hx hb d_Pa_refused_30 (lv_at hl 0 rfl) ?_
  refine lv_lsub hx hb d_Pa_refused_32 ?_
  refine lv_aload_n hx hb d_Pa_refused_33 rfl (lv_at hl 1 rfl) ?_
  refine gfK_3_state C0 hw fl_Pa_15 d_Pa_refused_34 ?_
  refine gfK_1_user C0 hw fl_Pa_63 d_Pa_refused_37 ?_
  refine lv_if_eq (tgt := 49) hx hb d_Pa_refused_40 (by decide) (fun c3 => ?_) (fun c3 => ?_)
  · have h := ok_t h c3
    refine lv_lconst (v := (0 : Int64)) hx hb d_Pa_refused_49 (by decide) ?_
    exact w_Pa_refused_50 o C0 q (((-2 : Int64) - x1) - t0) (0 : Int64) h H locs ls hw (lv_sub hl [] rfl)
  · have h := ok_f h c3
    refine lv_ldc2 (own := z_RPa) hx hb hown (hts _ kl_Pa_67) d_Pa_refused_43 ?_
    refine lv_goto (tgt := 50) hx hb d_Pa_refused_46 (by decide) ?_
    exact w_Pa_refused_50 o C0 q (((-2 : Int64) - x1) - t0) (4 : Int64) h H locs ls hw (lv_sub hl [] rfl)
set_option maxHeartbeats 4000000 in
set_option maxRecDepth 100000 in
theorem c_Pa_refused {l : Launch} {D : va_G} {ad : Nat → Nat} {ca : Nat → ClassId} (x1 : Int64) (x3 : Int32) (q : z_Sg) (o : Int64) (h : f_Pa_refused x1 x3 q = some o) : z_cl l y_Pa_refused b_Pa_refused 6 (some .long) 0 0 D (z_Kt ca) (z_K ad ca q) (z_K ad ca q) [.ref (ad 3), .long x1, .int x3] o := by
  refine z_cl_of (own := z_RPa) (by decide) rfl ?_
  intro p e s m below meth c A C0 hw
  obtain ⟨hx, hb, hr, hlk, hml, hown, hts, hK, hA⟩ := id C0
  generalize hH : s.heap = H at hw ⊢
  generalize hlo : ([] : List Loc) = locs at hw ⊢
  refine z_entry (lv := [(0, .ref (ad 3)), (1, .long x1), (3, .int x3)]) (Nat.le_of_ble_eq_true rfl) rfl (fun ls hl => ?_)
  unfold f_Pa_refused at h
  refine lv_iload_n hx hb d_Pa_refused_0 rfl (lv_at hl 2 rfl) ?_
  refine lv_iconst (v := (1 : Int32)) hx hb d_Pa_refused_1 (by decide) ?_
  refine lv_icmp_ne (tgt := 11) hx hb d_Pa_refused_2 (by decide) (fun c1 => ?_) (fun c1 => ?_)
  · have h := ok_f h c1
    refine lv_iload_n hx hb d_Pa_refused_11 rfl (lv_at hl 2 rfl) ?_
    refine lv_iconst (v := (2 : Int32)) hx hb d_Pa_refused_12 (by decide) ?_
    refine lv_icmp_ne (tgt := 22) hx hb d_Pa_refused_13 (by decide) (fun c2 => ?_) (fun c2 => ?_)
    · have h := ok_f h c2
      refine lv_lconst (v := (0 : Int64)) hx hb d_Pa_refused_22 (by decide) ?_
      exact w_Pa_refused_23 o C0 q x1 (0 : Int64) h H locs ls hw (lv_sub hl [0, 1] rfl)
    · have h := ok_t h c2
      refine lv_ldc2 (own := z_RPa) hx hb hown (hts _ kl_Pa_69) d_Pa_refused_16 ?_
      refine lv_goto (tgt := 23) hx hb d_Pa_refused_19 (by decide) ?_
      exact w_Pa_refused_23 o C0 q x1 (16 : Int64) h H locs ls hw (lv_sub hl [0, 1] rfl)
  · have h := ok_t h c1
    refine lv_ldc2 (own := z_RPa) hx hb hown (hts _ kl_Pa_61) d_Pa_refused_5 ?_
    refine lv_goto (tgt := 23) hx hb d_Pa_refused_8 (by decide) ?_
    exact w_Pa_refused_23 o C0 q x1 (2 : Int64) h H locs ls hw (lv_sub hl [0, 1] rfl)
def k_Pa_locate_193 (x1 : Int64) (x3 : Int32) (x4 : Int64) (x6 : Int64) (x8 : Int64) (x10 : Int64) (q : z_Sg) : Option Int64 :=
  (f_Pa_isForbidden x6 x8 x3 q).bind (fun r5 => if r5 = 0 then (some (x4 ||| (x1 &&& x10))) else ((f_Pa_refused (1 : Int64) x3 q).bind (fun r7 => some r7)))
def k_Pa_locate_187 (ih41 : Int64 × Int32 × Int64 × Int64 × Int64 × Int64 × Int32 → Option Int64) (x1 : Int64) (x3 : Int32) (x4 : Int64) (x6 : Int64) (x8 : Int64) (x10 : Int64) (x12 : Int32) (q : z_Sg) : Option Int64 :=
  z_nm (x12 + (-9 : Int32)) (fun n15 => ih41 (x1, x3, x4, x6, x8, x10, n15))
def k_Pa_locate_162 (x3 : Int32) (q : z_Sg) : Option Int64 :=
  (f_Pa_refused (9 : Int64) x3 q).bind (fun r18 => some r18)
def k_Pa_locate_86 (ih41 : Int64 × Int32 × Int64 × Int64 × Int64 × Int64 × Int32 → Option Int64) (x1 : Int64) (x3 : Int32) (x6 : Int64) (x8 : Int64) (x10 : Int64) (x12 : Int32) (t0 : Int64) (q : z_Sg) : Option Int64 :=
  z_nm ((x6 &&& t0)) (fun n10 => z_nm ((x8 ||| t0)) (fun n11 => if (t0 &&& (1 : Int64)) = (0 : Int64) then ((f_Pa_refused (0 : Int64) x3 q).bind (fun r21 => some r21)) else (z_nm ((t0 &&& (4503599627366400 : Int64))) (fun n13 => if x12 ≤ (12 : Int32) then (k_Pa_locate_187 ih41 x1 x3 n13 n10 n11 x10 x12 q) else (if (t0 &&& (128 : Int64)) = (0 : Int64) then (k_Pa_locate_187 ih41 x1 x3 n13 n10 n11 x10 x12 q) else (if (21 : Int32) < x12 then (k_Pa_locate_162 x3 q) else (if (t0 &&& (2088960 : Int64)) = (0 : Int64) then (z_nm ((t0 &&& (4503599625273344 : Int64))) (fun n20 => k_Pa_locate_193 x1 x3 n20 n10 n11 (2097151 : Int64) q)) else (k_Pa_locate_162 x3 q))))))))
def kb_Pa_locate_41 (ih41 : Int64 × Int32 × Int64 × Int64 × Int64 × Int64 × Int32 → Option Int64) (x1 : Int64) (x3 : Int32) (x4 : Int64) (x6 : Int64) (x8 : Int64) (x10 : Int64) (x12 : Int32) (q : z_Sg) : Option Int64 :=
  if x12 < (12 : Int32) then (k_Pa_locate_193 x1 x3 x4 x6 x8 x10 q) else (z_nm ((x4 + (z_lshl ((z_lushr x1 x12) &&& (511 : Int64)) (3 : Int32)))) (fun n8 => if (32768 : Int64) ≤ n8 then (k_Pa_locate_86 ih41 x1 x3 x6 x8 x10 x12 (0 : Int64) q) else (if z_bad ((z_lushr n8 (3 : Int32)).toInt32) 4096 then none else (k_Pa_locate_86 ih41 x1 x3 x6 x8 x10 x12 (z_gM q 1 ((z_lushr n8 (3 : Int32)).toInt32).toNatClampNeg) q))))
def k_Pa_locate_41 (x1 : Int64) (x3 : Int32) (x4 : Int64) (x6 : Int64) (x8 : Int64) (x10 : Int64) (x12 : Int32) (q : z_Sg) : Option Int64 := z_lo (fun ih41 a => kb_Pa_locate_41 ih41 a.1 a.2.1 a.2.2.1 a.2.2.2.1 a.2.2.2.2.1 a.2.2.2.2.2.1 a.2.2.2.2.2.2 q) 2000 (x1, x3, x4, x6, x8, x10, x12)
def f_Pa_locate (x1 : Int64) (x3 : Int32) (q : z_Sg) : Option Int64 :=
  (f_Pa_isWrong x1 q).bind (fun r1 => if r1 = 0 then (z_nm (((z_gL q 1) &&& (4503599627366400 : Int64))) (fun n3 => k_Pa_locate_41 x1 x3 n3 (-1 : Int64) (0 : Int64) (4095 : Int64) (39 : Int32) q)) else (some (-1 : Int64)))
set_option maxHeartbeats 4000000 in
set_option maxRecDepth 100000 in
theorem w_Pa_locate_193 {p : Program} {l : Launch} {e : Env} {s : State} {m : MethodId} {args : Array Value} {below : List Frame} {meth : Method} {c : Code} {D : va_G} {A : Nat → Prop} {ad : Nat → Nat} {ca : Nat → ClassId} (o : Int64) (C0 : z_cx z_RPa b_Pa_locate 17 (some .long) D (z_Kt ca) A p s m args meth c) (q : z_Sg) (x1 : Int64) (x3 : Int32) (x4 : Int64) (x6 : Int64) (x8 : Int64) (x10 : Int64) (h : k_Pa_locate_193 x1 x3 x4 x6 x8 x10 q = some o) : ∀ (H : Heap) (locs : List Loc) (ls : Array Slot), z_wd D (z_K ad ca q) A s H locs → lv_has ls 17 [(0, .ref (ad 3)), (1, .long x1), (3, .int x3), (4, .long x4), (6, .long x6), (8, .long x8), (10, .long x10)] → W p l e (z_rm 1 25) s m args below meth c H locs 0 0 (z_ql below D (z_Kt ca) (z_K ad ca q) A s args o) (F0 m 193 ls []) := by
  obtain ⟨hx, hb, hr, hlk, hml, hown, hts, hK, hA⟩ := id C0
  intro H locs ls hw hl
  refine lv_aload_n hx hb d_Pa_locate_193 rfl (lv_at hl 0 rfl) ?_
  refine lv_lload hx hb d_Pa_locate_194 (lv_at hl 4 rfl) ?_
  refine lv_lload hx hb d_Pa_locate_196 (lv_at hl 5 rfl) ?_
  refine lv_iload_n hx hb d_Pa_locate_198 rfl (lv_at hl 2 rfl) ?_
  obtain ⟨r5, er5, h⟩ := ok_b h
  refine z_vi (rest := []) C0 hw (c_Pa_isForbidden x6 x8 x3 q r5 er5) mw_Pa_isForbidden ml_Pa_57 3 rfl ⟨Nat.le_of_ble_eq_true rfl, Nat.le_of_ble_eq_true rfl⟩ ⟨Nat.le_refl 0, Nat.le_refl 0⟩ rfl hl.1 rfl (Nat.le_of_ble_eq_true rfl) d_Pa_locate_199 (fun H locs hw => ?_)
  refine lv_if_eq (tgt := 212) hx hb d_Pa_locate_202 (by decide) (fun c6 => ?_) (fun c6 => ?_)
  · have h := ok_t h c6
    refine lv_lload hx hb d_Pa_locate_212 (lv_at hl 3 rfl) ?_
    refine lv_lload_n hx hb d_Pa_locate_214 rfl (lv_at hl 1 rfl) ?_
    refine lv_lload hx hb d_Pa_locate_215 (lv_at hl 6 rfl) ?_
    refine lv_land hx hb d_Pa_locate_217 ?_
    refine lv_lor hx hb d_Pa_locate_218 ?_
    have ho := Option.some.inj h
    subst ho
    exact z_rtl C0 hw d_Pa_locate_219
  · have h := ok_f h c6
    refine lv_aload_n hx hb d_Pa_locate_205 rfl (lv_at hl 0 rfl) ?_
    refine lv_lconst (v := (1 : Int64)) hx hb d_Pa_locate_206 (by decide) ?_
    refine lv_iload_n hx hb d_Pa_locate_207 rfl (lv_at hl 2 rfl) ?_
    obtain ⟨r7, er7, h⟩ := ok_b h
    refine z_vl (rest := []) C0 hw (c_Pa_refused (1 : Int64) x3 q r7 er7) mw_Pa_refused ml_Pa_43 3 rfl ⟨Nat.le_of_ble_eq_true rfl, Nat.le_of_ble_eq_true rfl⟩ ⟨Nat.le_refl 0, Nat.le_refl 0⟩ rfl hl.1 rfl (Nat.le_of_ble_eq_true rfl) d_Pa_locate_208 (fun H locs hw => ?_)
    have ho := Option.some.inj h
    subst ho
    exact z_rtl C0 hw d_Pa_locate_211
set_option maxHeartbeats 4000000 in
set_option maxRecDepth 100000 in
theorem w_Pa_locate_187 {p : Program} {l : Launch} {e : Env} {s : State} {m : MethodId} {args : Array Value} {below : List Frame} {meth : Method} {c : Code} {D : va_G} {A : Nat → Prop} {ad : Nat → Nat} {ca : Nat → ClassId} (o : Int64) (C0 : z_cx z_RPa b_Pa_locate 17 (some .long) D (z_Kt ca) A p s m args meth c) (q : z_Sg) (ih41 : Int64 × Int32 × Int64 × Int64 × Int64 × Int64 × Int32 → Option Int64) (hi41 : ∀ a : Int64 × Int32 × Int64 × Int64 × Int64 × Int64 × Int32, ih41 a = some o → ∀ (H : Heap) (locs : List Loc) (ls : Array Slot), z_wd D (z_K ad ca q) A s H locs → lv_has ls 17 [(0, .ref (ad 3)), (1, .long a.1), (3, .int a.2.1), (4, .long a.2.2.1), (6, .long a.2.2.2.1), (8, .long a.2.2.2.2.1), (10, .long a.2.2.2.2.2.1), (12, .int a.2.2.2.2.2.2)] → W p l e (z_rm 1 25) s m args below meth c H locs 0 0 (z_ql below D (z_Kt ca) (z_K ad ca q) A s args o) (F0 m 41 ls [])) (x1 : Int64) (x3 : Int32) (x4 : Int64) (x6 : Int64) (x8 : Int64) (x10 : Int64) (x12 : Int32) (h : k_Pa_locate_187 ih41 x1 x3 x4 x6 x8 x10 x12 q = some o) : ∀ (H : Heap) (locs : List Loc) (ls : Array Slot), z_wd D (z_K ad ca q) A s H locs → lv_has ls 17 [(0, .ref (ad 3)), (1, .long x1), (3, .int x3), (4, .long x4), (6, .long x6), (8, .long x8), (10, .long x10), (12, .int x12)] → W p l e (z_rm 1 25) s m args below meth c H locs 0 0 (z_ql below D (z_Kt ca) (z_K ad ca q) A s args o) (F0 m 187 ls []) := by
  obtain ⟨hx, hb, hr, hlk, hml, hown, hts, hK, hA⟩ := id C0
  intro H locs ls hw hl
  obtain ⟨n15, en15, h⟩ := ok_n h
  refine lv_iinc (v := n15) (lv' := [(12, .int n15), (0, .ref (ad 3)), (1, .long x1), (3, .int x3), (4, .long x4), (6, .long x6), (8, .long x8), (10, .long x10)]) hx hb d_Pa_locate_187 hl (k := 7) rfl (by rw [en15]; rfl) (by decide) rfl (fun ls hl => ?_)
  refine lv_goto (tgt := 41) hx hb d_Pa_locate_190 (by decide) ?_
  exact hi41 (x1, x3, x4, x6, x8, x10, n15) h H locs ls hw (lv_sub hl [1, 2, 3, 4, 5, 6, 7, 0] rfl)
set_option maxHeartbeats 4000000 in
set_option maxRecDepth 100000 in
theorem w_Pa_locate_162 {p : Program} {l : Launch} {e : Env} {s : State} {m : MethodId} {args : Array Value} {below : List Frame} {meth : Method} {c : Code} {D : va_G} {A : Nat → Prop} {ad : Nat → Nat} {ca : Nat → ClassId} (o : Int64) (C0 : z_cx z_RPa b_Pa_locate 17 (some .long) D (z_Kt ca) A p s m args meth c) (q : z_Sg) (x3 : Int32) (h : k_Pa_locate_162 x3 q = some o) : ∀ (H : Heap) (locs : List Loc) (ls : Array Slot), z_wd D (z_K ad ca q) A s H locs → lv_has ls 17 [(0, .ref (ad 3)), (3, .int x3)] → W p l e (z_rm 1 25) s m args below meth c H locs 0 0 (z_ql below D (z_Kt ca) (z_K ad ca q) A s args o) (F0 m 162 ls []) := by
  obtain ⟨hx, hb, hr, hlk, hml, hown, hts, hK, hA⟩ := id C0
  intro H locs ls hw hl
  refine lv_aload_n hx hb d_Pa_locate_162 rfl (lv_at hl 0 rfl) ?_
  refine lv_ldc2 (own := z_RPa) hx hb hown (hts _ kl_Pa_51) d_Pa_locate_163 ?_
  refine lv_iload_n hx hb d_Pa_locate_166 rfl (lv_at hl 1 rfl) ?_
  obtain ⟨r18, er18, h⟩ := ok_b h
  refine z_vl (rest := []) C0 hw (c_Pa_refused (9 : Int64) x3 q r18 er18) mw_Pa_refused ml_Pa_43 3 rfl ⟨Nat.le_of_ble_eq_true rfl, Nat.le_of_ble_eq_true rfl⟩ ⟨Nat.le_refl 0, Nat.le_refl 0⟩ rfl hl.1 rfl (Nat.le_of_ble_eq_true rfl) d_Pa_locate_167 (fun H locs hw => ?_)
  have ho := Option.some.inj h
  subst ho
  exact z_rtl C0 hw d_Pa_locate_170
set_option maxHeartbeats 4000000 in
set_option maxRecDepth 100000 in
theorem w_Pa_locate_86 {p : Program} {l : Launch} {e : Env} {s : State} {m : MethodId} {args : Array Value} {below : List Frame} {meth : Method} {c : Code} {D : va_G} {A : Nat → Prop} {ad : Nat → Nat} {ca : Nat → ClassId} (o : Int64) (C0 : z_cx z_RPa b_Pa_locate 17 (some .long) D (z_Kt ca) A p s m args meth c) (q : z_Sg) (ih41 : Int64 × Int32 × Int64 × Int64 × Int64 × Int64 × Int32 → Option Int64) (hi41 : ∀ a : Int64 × Int32 × Int64 × Int64 × Int64 × Int64 × Int32, ih41 a = some o → ∀ (H : Heap) (locs : List Loc) (ls : Array Slot), z_wd D (z_K ad ca q) A s H locs → lv_has ls 17 [(0, .ref (ad 3)), (1, .long a.1), (3, .int a.2.1), (4, .long a.2.2.1), (6, .long a.2.2.2.1), (8, .long a.2.2.2.2.1), (10, .long a.2.2.2.2.2.1), (12, .int a.2.2.2.2.2.2)] → W p l e (z_rm 1 25) s m args below meth c H locs 0 0 (z_ql below D (z_Kt ca) (z_K ad ca q) A s args o) (F0 m 41 ls [])) (x1 : Int64) (x3 : Int32) (x6 : Int64) (x8 : Int64) (x10 : Int64) (x12 : Int32) (t0 : Int64) (h : k_Pa_locate_86 ih41 x1 x3 x6 x8 x10 x12 t0 q = some o) : ∀ (H : Heap) (locs : List Loc) (ls : Array Slot), z_wd D (z_K ad ca q) A s H locs → lv_has ls 17 [(0, .ref (ad 3)), (1, .long x1), (3, .int x3), (6, .long x6), (8, .long x8), (10, .long x10), (12, .int x12)] → W p l e (z_rm 1 25) s m args below meth c H locs 0 0 (z_ql below D (z_Kt ca) (z_K ad ca q) A s args o) (F0 m 86 ls [.long t0]) := by
  obtain ⟨hx, hb, hr, hlk, hml, hown, hts, hK, hA⟩ := id C0
  intro H locs ls hw hl
  refine lv_lstore (lv' := [(15, .long t0), (0, .ref (ad 3)), (1, .long x1), (3, .int x3), (6, .long x6), (8, .long x8), (10, .long x10), (12, .int x12)]) hx hb d_Pa_locate_86 hl (by decide) rfl (fun ls hl => ?_)
  refine lv_lload hx hb d_Pa_locate_88 (lv_at hl 4 rfl) ?_
  refine lv_lload hx hb d_Pa_locate_90 (lv_at hl 0 rfl) ?_
  refine lv_land hx hb d_Pa_locate_92 ?_
  obtain ⟨n10, en10, h⟩ := ok_n h
  refine z_tl en10 ?_
  refine lv_lstore (lv' := [(6, .long n10), (15, .long t0), (0, .ref (ad 3)), (1, .long x1), (3, .int x3), (8, .long x8), (10, .long x10), (12, .int x12)]) hx hb d_Pa_locate_93 hl (by decide) rfl (fun ls hl => ?_)
  refine lv_lload hx hb d_Pa_locate_95 (lv_at hl 5 rfl) ?_
  refine lv_lload hx hb d_Pa_locate_97 (lv_at hl 1 rfl) ?_
  refine lv_lor hx hb d_Pa_locate_99 ?_
  obtain ⟨n11, en11, h⟩ := ok_n h
  refine z_tl en11 ?_
  refine lv_lstore (lv' := [(8, .long n11), (6, .long n10), (15, .long t0), (0, .ref (ad 3)), (1, .long x1), (3, .int x3), (10, .long x10), (12, .int x12)]) hx hb d_Pa_locate_100 hl (by decide) rfl (fun ls hl => ?_)
  refine lv_lload hx hb d_Pa_locate_102 (lv_at hl 2 rfl) ?_
  refine lv_lconst (v := (1 : Int64)) hx hb d_Pa_locate_104 (by decide) ?_
  refine lv_land hx hb d_Pa_locate_105 ?_
  refine lv_lconst (v := (0 : Int64)) hx hb d_Pa_locate_106 (by decide) ?_
  refine W.lcmp hx hb d_Pa_locate_107 ?_
  refine lv_if_ne (tgt := 118) hx hb d_Pa_locate_108 (by decide) (fun c12 => ?_) (fun c12 => ?_)
  · have h := ok_f h (fun z => c12 ((lg_cmp_eq _ _).mpr z))
    refine lv_lload hx hb d_Pa_locate_118 (lv_at hl 2 rfl) ?_
    refine lv_ldc2 (own := z_RPa) hx hb hown (hts _ kl_Pa_37) d_Pa_locate_120 ?_
    refine lv_land hx hb d_Pa_locate_123 ?_
    obtain ⟨n13, en13, h⟩ := ok_n h
    refine z_tl en13 ?_
    refine lv_lstore (lv' := [(4, .long n13), (8, .long n11), (6, .long n10), (15, .long t0), (0, .ref (ad 3)), (1, .long x1), (3, .int x3), (10, .long x10), (12, .int x12)]) hx hb d_Pa_locate_124 hl (by decide) rfl (fun ls hl => ?_)
    refine lv_iload hx hb d_Pa_locate_126 (lv_at hl 8 rfl) ?_
    refine lv_bipush (v := (12 : Int32)) hx hb d_Pa_locate_128 (by decide) ?_
    refine lv_icmp_le (tgt := 187) hx hb d_Pa_locate_130 (by decide) (fun c14 => ?_) (fun c14 => ?_)
    · have h := ok_t h c14
      exact w_Pa_locate_187 o C0 q ih41 hi41 x1 x3 n13 n10 n11 x10 x12 h H locs ls hw (lv_sub hl [4, 5, 6, 0, 2, 1, 7, 8] rfl)
    · have h := ok_f h c14
      refine lv_lload hx hb d_Pa_locate_133 (lv_at hl 3 rfl) ?_
      refine lv_ldc2 (own := z_RPa) hx hb hown (hts _ kl_Pa_47) d_Pa_locate_135 ?_
      refine lv_land hx hb d_Pa_locate_138 ?_
      refine lv_lconst (v := (0 : Int64)) hx hb d_Pa_locate_139 (by decide) ?_
      refine W.lcmp hx hb d_Pa_locate_140 ?_
      refine lv_if_eq (tgt := 187) hx hb d_Pa_locate_141 (by decide) (fun c16 => ?_) (fun c16 => ?_)
      · have h := ok_t h ((lg_cmp_eq _ _).mp c16)
        exact w_Pa_locate_187 o C0 q ih41 hi41 x1 x3 n13 n10 n11 x10 x12 h H locs ls hw (lv_sub hl [4, 5, 6, 0, 2, 1, 7, 8] rfl)
      · have h := ok_f h (fun z => c16 ((lg_cmp_eq _ _).mpr z))
        refine lv_iload hx hb d_Pa_locate_144 (lv_at hl 8 rfl) ?_
        refine lv_bipush (v := (21 : Int32)) hx hb d_Pa_locate_146 (by decide) ?_
        refine lv_icmp_gt (tgt := 162) hx hb d_Pa_locate_148 (by decide) (fun c17 => ?_) (fun c17 => ?_)
        · have h := ok_t h c17
          exact w_Pa_locate_162 o C0 q x3 h H locs ls hw (lv_sub hl [4, 6] rfl)
        · have h := ok_f h c17
          refine lv_lload hx hb d_Pa_locate_151 (lv_at hl 3 rfl) ?_
          refine lv_ldc2 (own := z_RPa) hx hb hown (hts _ kl_Pa_49) d_Pa_locate_153 ?_
          refine lv_land hx hb d_Pa_locate_156 ?_
          refine lv_lconst (v := (0 : Int64)) hx hb d_Pa_locate_157 (by decide) ?_
          refine W.lcmp hx hb d_Pa_locate_158 ?_
          refine lv_if_eq (tgt := 171) hx hb d_Pa_locate_159 (by decide) (fun c19 => ?_) (fun c19 => ?_)
          · have h := ok_t h ((lg_cmp_eq _ _).mp c19)
            refine lv_lload hx hb d_Pa_locate_171 (lv_at hl 3 rfl) ?_
            refine lv_ldc2 (own := z_RPa) hx hb hown (hts _ kl_Pa_53) d_Pa_locate_173 ?_
            refine lv_land hx hb d_Pa_locate_176 ?_
            obtain ⟨n20, en20, h⟩ := ok_n h
            refine z_tl en20 ?_
            refine lv_lstore (lv' := [(4, .long n20), (8, .long n11), (6, .long n10), (15, .long t0), (0, .ref (ad 3)), (1, .long x1), (3, .int x3), (10, .long x10), (12, .int x12)]) hx hb d_Pa_locate_177 hl (by decide) rfl (fun ls hl => ?_)
            refine lv_ldc2 (own := z_RPa) hx hb hown (hts _ kl_Pa_55) d_Pa_locate_179 ?_
            refine lv_lstore (lv' := [(10, .long (2097151 : Int64)), (4, .long n20), (8, .long n11), (6, .long n10), (15, .long t0), (0, .ref (ad 3)), (1, .long x1), (3, .int x3), (12, .int x12)]) hx hb d_Pa_locate_182 hl (by decide) rfl (fun ls hl => ?_)
            refine lv_goto (tgt := 193) hx hb d_Pa_locate_184 (by decide) ?_
            exact w_Pa_locate_193 o C0 q x1 x3 n20 n10 n11 (2097151 : Int64) h H locs ls hw (lv_sub hl [5, 6, 7, 1, 3, 2, 0] rfl)
          · have h := ok_f h (fun z => c19 ((lg_cmp_eq _ _).mpr z))
            exact w_Pa_locate_162 o C0 q x3 h H locs ls hw (lv_sub hl [4, 6] rfl)
  · have h := ok_t h ((lg_cmp_eq _ _).mp c12)
    refine lv_aload_n hx hb d_Pa_locate_111 rfl (lv_at hl 3 rfl) ?_
    refine lv_lconst (v := (0 : Int64)) hx hb d_Pa_locate_112 (by decide) ?_
    refine lv_iload_n hx hb d_Pa_locate_113 rfl (lv_at hl 5 rfl) ?_
    obtain ⟨r21, er21, h⟩ := ok_b h
    refine z_vl (rest := []) C0 hw (c_Pa_refused (0 : Int64) x3 q r21 er21) mw_Pa_refused ml_Pa_43 3 rfl ⟨Nat.le_of_ble_eq_true rfl, Nat.le_of_ble_eq_true rfl⟩ ⟨Nat.le_refl 0, Nat.le_refl 0⟩ rfl hl.1 rfl (Nat.le_of_ble_eq_true rfl) d_Pa_locate_114 (fun H locs hw => ?_)
    have ho := Option.some.inj h
    subst ho
    exact z_rtl C0 hw d_Pa_locate_117
set_option maxHeartbeats 4000000 in
set_option maxRecDepth 100000 in
theorem wb_Pa_locate_41 {p : Program} {l : Launch} {e : Env} {s : State} {m : MethodId} {args : Array Value} {below : List Frame} {meth : Method} {c : Code} {D : va_G} {A : Nat → Prop} {ad : Nat → Nat} {ca : Nat → ClassId} (o : Int64) (C0 : z_cx z_RPa b_Pa_locate 17 (some .long) D (z_Kt ca) A p s m args meth c) (q : z_Sg) (ih41 : Int64 × Int32 × Int64 × Int64 × Int64 × Int64 × Int32 → Option Int64) (hi41 : ∀ a : Int64 × Int32 × Int64 × Int64 × Int64 × Int64 × Int32, ih41 a = some o → ∀ (H : Heap) (locs : List Loc) (ls : Array Slot), z_wd D (z_K ad ca q) A s H locs → lv_has ls 17 [(0, .ref (ad 3)), (1, .long a.1), (3, .int a.2.1), (4, .long a.2.2.1), (6, .long a.2.2.2.1), (8, .long a.2.2.2.2.1), (10, .long a.2.2.2.2.2.1), (12, .int a.2.2.2.2.2.2)] → W p l e (z_rm 1 25) s m args below meth c H locs 0 0 (z_ql below D (z_Kt ca) (z_K ad ca q) A s args o) (F0 m 41 ls [])) (x1 : Int64) (x3 : Int32) (x4 : Int64) (x6 : Int64) (x8 : Int64) (x10 : Int64) (x12 : Int32) (h : kb_Pa_locate_41 ih41 x1 x3 x4 x6 x8 x10 x12 q = some o) : ∀ (H : Heap) (locs : List Loc) (ls : Array Slot), z_wd D (z_K ad ca q) A s H locs → lv_has ls 17 [(0, .ref (ad 3)), (1, .long x1), (3, .int x3), (4, .long x4), (6, .long x6), (8, .long x8), (10, .long x10), (12, .int x12)] → W p l e (z_rm 1 25) s m args below meth c H locs 0 0 (z_ql below D (z_Kt ca) (z_K ad ca q) A s args o) (F0 m 41 ls []) := by
  obtain ⟨hx, hb, hr, hlk, hml, hown, hts, hK, hA⟩ := id C0
  intro H locs ls hw hl
  refine lv_iload hx hb d_Pa_locate_41 (lv_at hl 7 rfl) ?_
  refine lv_bipush (v := (12 : Int32)) hx hb d_Pa_locate_43 (by decide) ?_
  refine lv_icmp_lt (tgt := 193) hx hb d_Pa_locate_45 (by decide) (fun c4 => ?_) (fun c4 => ?_)
  · have h := ok_t h c4
    exact w_Pa_locate_193 o C0 q x1 x3 x4 x6 x8 x10 h H locs ls hw (lv_sub hl [0, 1, 2, 3, 4, 5, 6] rfl)
  · have h := ok_f h c4
    refine lv_lload hx hb d_Pa_locate_48 (lv_at hl 3 rfl) ?_
    refine lv_lload_n hx hb d_Pa_locate_50 rfl (lv_at hl 1 rfl) ?_
    refine lv_iload hx hb d_Pa_locate_51 (lv_at hl 7 rfl) ?_
    refine lv_lushr (v := (z_lushr x1 x12)) hx hb d_Pa_locate_53 rfl ?_
    refine lv_ldc2 (own := z_RPa) hx hb hown (hts _ kl_Pa_41) d_Pa_locate_54 ?_
    refine lv_land hx hb d_Pa_locate_57 ?_
    refine lv_iconst (v := (3 : Int32)) hx hb d_Pa_locate_58 (by decide) ?_
    refine lv_lshl (v := (z_lshl ((z_lushr x1 x12) &&& (511 : Int64)) (3 : Int32))) hx hb d_Pa_locate_59 rfl ?_
    refine lv_ladd hx hb d_Pa_locate_60 ?_
    obtain ⟨n8, en8, h⟩ := ok_n h
    refine z_tl en8 ?_
    refine lv_lstore (lv' := [(13, .long n8), (0, .ref (ad 3)), (1, .long x1), (3, .int x3), (4, .long x4), (6, .long x6), (8, .long x8), (10, .long x10), (12, .int x12)]) hx hb d_Pa_locate_61 hl (by decide) rfl (fun ls hl => ?_)
    refine lv_lload hx hb d_Pa_locate_63 (lv_at hl 0 rfl) ?_
    refine lv_ldc2 (own := z_RPa) hx hb hown (hts _ kl_Pa_19) d_Pa_locate_65 ?_
    refine W.lcmp hx hb d_Pa_locate_68 ?_
    refine lv_if_ge (tgt := 85) hx hb d_Pa_locate_69 (by decide) (fun c9 => ?_) (fun c9 => ?_)
    · have h := ok_t h ((lg_cmp_ge _ _).mp c9)
      refine lv_lconst (v := (0 : Int64)) hx hb d_Pa_locate_85 (by decide) ?_
      exact w_Pa_locate_86 o C0 q ih41 hi41 x1 x3 x6 x8 x10 x12 (0 : Int64) h H locs ls hw (lv_sub hl [1, 2, 3, 5, 6, 7, 8] rfl)
    · have h := ok_f h (fun z => c9 ((lg_cmp_ge _ _).mpr z))
      refine lv_aload_n hx hb d_Pa_locate_72 rfl (lv_at hl 1 rfl) ?_
      refine gfK_3_words C0 hw fl_Pa_11 d_Pa_locate_73 ?_
      refine lv_lload hx hb d_Pa_locate_76 (lv_at hl 0 rfl) ?_
      refine lv_iconst (v := (3 : Int32)) hx hb d_Pa_locate_78 (by decide) ?_
      refine lv_lushr (v := (z_lushr n8 (3 : Int32))) hx hb d_Pa_locate_79 rfl ?_
      refine lv_l2i hx hb d_Pa_locate_80 rfl ?_
      obtain ⟨b22, h⟩ := ok_g h
      refine alK_4 C0 hw b22 d_Pa_locate_81 ?_
      refine lv_goto (tgt := 86) hx hb d_Pa_locate_82 (by decide) ?_
      exact w_Pa_locate_86 o C0 q ih41 hi41 x1 x3 x6 x8 x10 x12 (z_gM q 1 ((z_lushr n8 (3 : Int32)).toInt32).toNatClampNeg) h H locs ls hw (lv_sub hl [1, 2, 3, 5, 6, 7, 8] rfl)
theorem w_Pa_locate_41 {p : Program} {l : Launch} {e : Env} {s : State} {m : MethodId} {args : Array Value} {below : List Frame} {meth : Method} {c : Code} {D : va_G} {A : Nat → Prop} {ad : Nat → Nat} {ca : Nat → ClassId} (o : Int64) (C0 : z_cx z_RPa b_Pa_locate 17 (some .long) D (z_Kt ca) A p s m args meth c) (q : z_Sg) (x1 : Int64) (x3 : Int32) (x4 : Int64) (x6 : Int64) (x8 : Int64) (x10 : Int64) (x12 : Int32) (h : k_Pa_locate_41 x1 x3 x4 x6 x8 x10 x12 q = some o) : ∀ (H : Heap) (locs : List Loc) (ls : Array Slot), z_wd D (z_K ad ca q) A s H locs → lv_has ls 17 [(0, .ref (ad 3)), (1, .long x1), (3, .int x3), (4, .long x4), (6, .long x6), (8, .long x8), (10, .long x10), (12, .int x12)] → W p l e (z_rm 1 25) s m args below meth c H locs 0 0 (z_ql below D (z_Kt ca) (z_K ad ca q) A s args o) (F0 m 41 ls []) := by
  have key : ∀ (n : Nat) (a : Int64 × Int32 × Int64 × Int64 × Int64 × Int64 × Int32), z_lo (fun ih41 a => kb_Pa_locate_41 ih41 a.1 a.2.1 a.2.2.1 a.2.2.2.1 a.2.2.2.2.1 a.2.2.2.2.2.1 a.2.2.2.2.2.2 q) n a = some o → ∀ (H : Heap) (locs : List Loc) (ls : Array Slot), z_wd D (z_K ad ca q) A s H locs → lv_has ls 17 [(0, .ref (ad 3)), (1, .long a.1), (3, .int a.2.1), (4, .long a.2.2.1), (6, .long a.2.2.2.1), (8, .long a.2.2.2.2.1), (10, .long a.2.2.2.2.2.1), (12, .int a.2.2.2.2.2.2)] → W p l e (z_rm 1 25) s m args below meth c H locs 0 0 (z_ql below D (z_Kt ca) (z_K ad ca q) A s args o) (F0 m 41 ls []) := by
    intro n
    induction n with
    | zero => intro a h; cases h
    | succ n ih => exact fun a h => wb_Pa_locate_41 o C0 q (z_lo (fun ih41 a => kb_Pa_locate_41 ih41 a.1 a.2.1 a.2.2.1 a.2.2.2.1 a.2.2.2.2.1 a.2.2.2.2.2.1 a.2.2.2.2.2.2 q) n) ih a.1 a.2.1 a.2.2.1 a.2.2.2.1 a.2.2.2.2.1 a.2.2.2.2.2.1 a.2.2.2.2.2.2 h
  exact key 2000 (x1, x3, x4, x6, x8, x10, x12) h
set_option maxHeartbeats 4000000 in
set_option maxRecDepth 100000 in
theorem c_Pa_locate {l : Launch} {D : va_G} {ad : Nat → Nat} {ca : Nat → ClassId} (x1 : Int64) (x3 : Int32) (q : z_Sg) (o : Int64) (h : f_Pa_locate x1 x3 q = some o) : z_cl l y_Pa_locate b_Pa_locate 17 (some .long) 1 25 D (z_Kt ca) (z_K ad ca q) (z_K ad ca q) [.ref (ad 3), .long x1, .int x3] o := by
  refine z_cl_of (own := z_RPa) (by decide) rfl ?_
  intro p e s m below meth c A C0 hw
  obtain ⟨hx, hb, hr, hlk, hml, hown, hts, hK, hA⟩ := id C0
  generalize hH : s.heap = H at hw ⊢
  generalize hlo : ([] : List Loc) = locs at hw ⊢
  refine z_entry (lv := [(0, .ref (ad 3)), (1, .long x1), (3, .int x3)]) (Nat.le_of_ble_eq_true rfl) rfl (fun ls hl => ?_)
  unfold f_Pa_locate at h
  refine lv_lload_n hx hb d_Pa_locate_0 rfl (lv_at hl 1 rfl) ?_
  obtain ⟨r1, er1, h⟩ := ok_b h
  refine z_si (rest := []) C0 hw (c_Pa_isWrong x1 q r1 er1) mw_Pa_isWrong ml_Pa_27 ⟨Nat.le_of_ble_eq_true rfl, Nat.le_of_ble_eq_true rfl⟩ ⟨Nat.le_refl 0, Nat.le_refl 0⟩ rfl hl.1 rfl (Nat.le_of_ble_eq_true rfl) d_Pa_locate_1 (fun H locs hw => ?_)
  refine lv_if_eq (tgt := 11) hx hb d_Pa_locate_4 (by decide) (fun c2 => ?_) (fun c2 => ?_)
  · have h := ok_t h c2
    refine lv_aload_n hx hb d_Pa_locate_11 rfl (lv_at hl 0 rfl) ?_
    refine gfK_3_state C0 hw fl_Pa_15 d_Pa_locate_12 ?_
    refine gfK_1_table C0 hw fl_Pa_31 d_Pa_locate_15 ?_
    refine lv_ldc2 (own := z_RPa) hx hb hown (hts _ kl_Pa_37) d_Pa_locate_18 ?_
    refine lv_land hx hb d_Pa_locate_21 ?_
    obtain ⟨n3, en3, h⟩ := ok_n h
    refine z_tl en3 ?_
    refine lv_lstore (lv' := [(4, .long n3), (0, .ref (ad 3)), (1, .long x1), (3, .int x3)]) hx hb d_Pa_locate_22 hl (by decide) rfl (fun ls hl => ?_)
    refine lv_ldc2 (own := z_RPa) hx hb hown (hts _ kl_Pa_25) d_Pa_locate_24 ?_
    refine lv_lstore (lv' := [(6, .long (-1 : Int64)), (4, .long n3), (0, .ref (ad 3)), (1, .long x1), (3, .int x3)]) hx hb d_Pa_locate_27 hl (by decide) rfl (fun ls hl => ?_)
    refine lv_lconst (v := (0 : Int64)) hx hb d_Pa_locate_29 (by decide) ?_
    refine lv_lstore (lv' := [(8, .long (0 : Int64)), (6, .long (-1 : Int64)), (4, .long n3), (0, .ref (ad 3)), (1, .long x1), (3, .int x3)]) hx hb d_Pa_locate_30 hl (by decide) rfl (fun ls hl => ?_)
    refine lv_ldc2 (own := z_RPa) hx hb hown (hts _ kl_Pa_39) d_Pa_locate_32 ?_
    refine lv_lstore (lv' := [(10, .long (4095 : Int64)), (8, .long (0 : Int64)), (6, .long (-1 : Int64)), (4, .long n3), (0, .ref (ad 3)), (1, .long x1), (3, .int x3)]) hx hb d_Pa_locate_35 hl (by decide) rfl (fun ls hl => ?_)
    refine lv_bipush (v := (39 : Int32)) hx hb d_Pa_locate_37 (by decide) ?_
    refine lv_istore (lv' := [(12, .int (39 : Int32)), (10, .long (4095 : Int64)), (8, .long (0 : Int64)), (6, .long (-1 : Int64)), (4, .long n3), (0, .ref (ad 3)), (1, .long x1), (3, .int x3)]) hx hb d_Pa_locate_39 hl (by decide) rfl (fun ls hl => ?_)
    exact w_Pa_locate_41 o C0 q x1 x3 n3 (-1 : Int64) (0 : Int64) (4095 : Int64) (39 : Int32) h H locs ls hw (lv_sub hl [5, 6, 7, 4, 3, 2, 1, 0] rfl)
  · have h := ok_f h c2
    refine lv_ldc2 (own := z_RPa) hx hb hown (hts _ kl_Pa_25) d_Pa_locate_7 ?_
    have ho := Option.some.inj h
    subst ho
    exact z_rtl C0 hw d_Pa_locate_10
def f_Pa_refusal (x1 : Int64) (x3 : Int64) (x5 : Int32) (q : z_Sg) : Option (Int32 × z_Sg) :=
  if x3 = (-1 : Int64) then (some (x5, q)) else (z_nm (z_sL q 5 x1) (fun q2 => z_nm (z_sI q2 1 (((-2 : Int64) - x3).toInt32)) (fun q3 => some ((14 : Int32), q3))))
set_option maxHeartbeats 4000000 in
set_option maxRecDepth 100000 in
theorem c_Pa_refusal {l : Launch} {D : va_G} {ad : Nat → Nat} {ca : Nat → ClassId} (x1 : Int64) (x3 : Int64) (x5 : Int32) (q : z_Sg) (o : (Int32 × z_Sg)) (h : f_Pa_refusal x1 x3 x5 q = some o) : z_ci l y_Pa_refusal b_Pa_refusal 6 (some .int) 0 0 D (z_Kt ca) (z_K ad ca q) (z_K ad ca o.2) [.ref (ad 3), .long x1, .long x3, .int x5] o.1 := by
  refine z_ci_of (own := z_RPa) (by decide) rfl ?_
  intro p e s m below meth c A C0 hw
  obtain ⟨hx, hb, hr, hlk, hml, hown, hts, hK, hA⟩ := id C0
  generalize hH : s.heap = H at hw ⊢
  generalize hlo : ([] : List Loc) = locs at hw ⊢
  refine z_entry (lv := [(0, .ref (ad 3)), (1, .long x1), (3, .long x3), (5, .int x5)]) (Nat.le_of_ble_eq_true rfl) rfl (fun ls hl => ?_)
  unfold f_Pa_refusal at h
  refine lv_lload_n hx hb d_Pa_refusal_0 rfl (lv_at hl 2 rfl) ?_
  refine lv_ldc2 (own := z_RPa) hx hb hown (hts _ kl_Pa_25) d_Pa_refusal_1 ?_
  refine W.lcmp hx hb d_Pa_refusal_4 ?_
  refine lv_if_ne (tgt := 11) hx hb d_Pa_refusal_5 (by decide) (fun c1 => ?_) (fun c1 => ?_)
  · have h := ok_f h (fun z => c1 ((lg_cmp_eq _ _).mpr z))
    refine lv_aload_n hx hb d_Pa_refusal_11 rfl (lv_at hl 0 rfl) ?_
    refine gfK_3_state C0 hw fl_Pa_15 d_Pa_refusal_12 ?_
    refine lv_lload_n hx hb d_Pa_refusal_15 rfl (lv_at hl 1 rfl) ?_
    refine pfK_1_fault C0 hw fl_Pa_73 d_Pa_refusal_16 (fun H locs hw => ?_)
    obtain ⟨q2, eq2, h⟩ := ok_n h
    rw [← eq2] at hw
    refine lv_aload_n hx hb d_Pa_refusal_19 rfl (lv_at hl 0 rfl) ?_
    refine gfK_3_state C0 hw fl_Pa_15 d_Pa_refusal_20 ?_
    refine lv_ldc2 (own := z_RPa) hx hb hown (hts _ kl_Pa_71) d_Pa_refusal_23 ?_
    refine lv_lload_n hx hb d_Pa_refusal_26 rfl (lv_at hl 2 rfl) ?_
    refine lv_lsub hx hb d_Pa_refusal_27 ?_
    refine lv_l2i hx hb d_Pa_refusal_28 rfl ?_
    refine pfK_1_code C0 hw fl_Pa_76 d_Pa_refusal_29 (fun H locs hw => ?_)
    obtain ⟨q3, eq3, h⟩ := ok_n h
    rw [← eq3] at hw
    refine lv_bipush (v := (14 : Int32)) hx hb d_Pa_refusal_32 (by decide) ?_
    have ho := Option.some.inj h
    subst ho
    exact z_rti C0 hw d_Pa_refusal_34
  · have h := ok_t h ((lg_cmp_eq _ _).mp c1)
    refine lv_iload hx hb d_Pa_refusal_8 (lv_at hl 3 rfl) ?_
    have ho := Option.some.inj h
    subst ho
    exact z_rti C0 hw d_Pa_refusal_10
def k_De_fetch_93 (q : z_Sg) : Option (Int32 × z_Sg) :=
  (f_Pa_byteAt (z_gL q 6) q).bind (fun r7 => z_nm (z_sI q 4 r7) (fun q8 => z_nm (z_sI q8 3 ((z_gI q8 3) + (1 : Int32))) (fun q9 => some ((-1 : Int32), q9))))
def k_De_fetch_56 (x1 : Int64) (q : z_Sg) : Option (Int32 × z_Sg) :=
  (f_Pa_locate x1 (2 : Int32) q).bind (fun r4 => z_nm (z_sL q 6 r4) (fun q5 => if (0 : Int64) ≤ (z_gL q5 6) then (k_De_fetch_93 q5) else ((f_Pa_refusal x1 (z_gL q5 6) (13 : Int32) q5).bind (fun r10 => some (r10.1, r10.2)))))
def f_De_fetch (q : z_Sg) : Option (Int32 × z_Sg) :=
  if (z_gI q 3) < (15 : Int32) then (z_nm (((z_gL q 0) + ((z_gI q 3).toInt64))) (fun n2 => if (z_gI q 3) ≤ 0 then (k_De_fetch_56 n2 q) else (if (n2 &&& (4095 : Int64)) = (0 : Int64) then (k_De_fetch_56 n2 q) else (z_nm (z_sL q 6 ((z_gL q 6) + (1 : Int64))) (fun q12 => k_De_fetch_93 q12))))) else (some ((13 : Int32), q))
set_option maxHeartbeats 4000000 in
set_option maxRecDepth 100000 in
theorem w_De_fetch_93 {p : Program} {l : Launch} {e : Env} {s : State} {m : MethodId} {args : Array Value} {below : List Frame} {meth : Method} {c : Code} {D : va_G} {A : Nat → Prop} {ad : Nat → Nat} {ca : Nat → ClassId} (o : (Int32 × z_Sg)) (C0 : z_cx z_RDe b_De_fetch 3 (some .int) D (z_Kt ca) A p s m args meth c) (q : z_Sg) (h : k_De_fetch_93 q = some o) : ∀ (H : Heap) (locs : List Loc) (ls : Array Slot), z_wd D (z_K ad ca q) A s H locs → lv_has ls 3 [(0, .ref (ad 5))] → W p l e (z_rm 2 61) s m args below meth c H locs 0 0 (z_qi below D (z_Kt ca) (z_K ad ca o.2) A s args o.1) (F0 m 93 ls []) := by
  obtain ⟨hx, hb, hr, hlk, hml, hown, hts, hK, hA⟩ := id C0
  intro H locs ls hw hl
  refine lv_aload_n hx hb d_De_fetch_93 rfl (lv_at hl 0 rfl) ?_
  refine lv_aload_n hx hb d_De_fetch_94 rfl (lv_at hl 0 rfl) ?_
  refine gfK_5_pages C0 hw fl_De_15 d_De_fetch_95 ?_
  refine lv_aload_n hx hb d_De_fetch_98 rfl (lv_at hl 0 rfl) ?_
  refine gfK_5_found C0 hw fl_De_144 d_De_fetch_99 ?_
  obtain ⟨r7, er7, h⟩ := ok_b h
  refine z_vi (rest := [.ref (ad 5)]) C0 hw (c_Pa_byteAt (z_gL q 6) q r7 er7) mw_Pa_byteAt ml_De_154 3 rfl ⟨Nat.le_of_ble_eq_true rfl, Nat.le_of_ble_eq_true rfl⟩ ⟨Nat.le_refl 0, Nat.le_refl 0⟩ rfl hl.1 rfl (Nat.le_of_ble_eq_true rfl) d_De_fetch_102 (fun H locs hw => ?_)
  refine pfK_5_last C0 hw fl_De_84 d_De_fetch_105 (fun H locs hw => ?_)
  obtain ⟨q8, eq8, h⟩ := ok_n h
  rw [← eq8] at hw
  refine lv_aload_n hx hb d_De_fetch_108 rfl (lv_at hl 0 rfl) ?_
  refine lv_dup hx hb d_De_fetch_109 rfl ?_
  refine gfK_5_count C0 hw fl_De_65 d_De_fetch_110 ?_
  refine lv_iconst (v := (1 : Int32)) hx hb d_De_fetch_113 (by decide) ?_
  refine lv_iadd hx hb d_De_fetch_114 ?_
  refine pfK_5_count C0 hw fl_De_65 d_De_fetch_115 (fun H locs hw => ?_)
  obtain ⟨q9, eq9, h⟩ := ok_n h
  rw [← eq9] at hw
  refine lv_iconst (v := (-1 : Int32)) hx hb d_De_fetch_118 (by decide) ?_
  have ho := Option.some.inj h
  subst ho
  exact z_rti C0 hw d_De_fetch_119
set_option maxHeartbeats 4000000 in
set_option maxRecDepth 100000 in
theorem w_De_fetch_56 {p : Program} {l : Launch} {e : Env} {s : State} {m : MethodId} {args : Array Value} {below : List Frame} {meth : Method} {c : Code} {D : va_G} {A : Nat → Prop} {ad : Nat → Nat} {ca : Nat → ClassId} (o : (Int32 × z_Sg)) (C0 : z_cx z_RDe b_De_fetch 3 (some .int) D (z_Kt ca) A p s m args meth c) (q : z_Sg) (x1 : Int64) (h : k_De_fetch_56 x1 q = some o) : ∀ (H : Heap) (locs : List Loc) (ls : Array Slot), z_wd D (z_K ad ca q) A s H locs → lv_has ls 3 [(0, .ref (ad 5)), (1, .long x1)] → W p l e (z_rm 2 61) s m args below meth c H locs 0 0 (z_qi below D (z_Kt ca) (z_K ad ca o.2) A s args o.1) (F0 m 56 ls []) := by
  obtain ⟨hx, hb, hr, hlk, hml, hown, hts, hK, hA⟩ := id C0
  intro H locs ls hw hl
  refine lv_aload_n hx hb d_De_fetch_56 rfl (lv_at hl 0 rfl) ?_
  refine lv_aload_n hx hb d_De_fetch_57 rfl (lv_at hl 0 rfl) ?_
  refine gfK_5_pages C0 hw fl_De_15 d_De_fetch_58 ?_
  refine lv_lload_n hx hb d_De_fetch_61 rfl (lv_at hl 1 rfl) ?_
  refine lv_iconst (v := (2 : Int32)) hx hb d_De_fetch_62 (by decide) ?_
  obtain ⟨r4, er4, h⟩ := ok_b h
  refine z_vl (rest := [.ref (ad 5)]) C0 hw (c_Pa_locate x1 (2 : Int32) q r4 er4) mw_Pa_locate ml_De_147 3 rfl ⟨Nat.le_of_ble_eq_true rfl, Nat.le_of_ble_eq_true rfl⟩ ⟨Nat.le_refl 0, Nat.le_refl 0⟩ rfl hl.1 rfl (Nat.le_of_ble_eq_true rfl) d_De_fetch_63 (fun H locs hw => ?_)
  refine pfK_5_found C0 hw fl_De_144 d_De_fetch_66 (fun H locs hw => ?_)
  obtain ⟨q5, eq5, h⟩ := ok_n h
  rw [← eq5] at hw
  refine lv_aload_n hx hb d_De_fetch_69 rfl (lv_at hl 0 rfl) ?_
  refine gfK_5_found C0 hw fl_De_144 d_De_fetch_70 ?_
  refine lv_lconst (v := (0 : Int64)) hx hb d_De_fetch_73 (by decide) ?_
  refine W.lcmp hx hb d_De_fetch_74 ?_
  refine lv_if_ge (tgt := 93) hx hb d_De_fetch_75 (by decide) (fun c6 => ?_) (fun c6 => ?_)
  · have h := ok_t h ((lg_cmp_ge _ _).mp c6)
    exact w_De_fetch_93 o C0 q5 h H locs ls hw (lv_sub hl [0] rfl)
  · have h := ok_f h (fun z => c6 ((lg_cmp_ge _ _).mpr z))
    refine lv_aload_n hx hb d_De_fetch_78 rfl (lv_at hl 0 rfl) ?_
    refine gfK_5_pages C0 hw fl_De_15 d_De_fetch_79 ?_
    refine lv_lload_n hx hb d_De_fetch_82 rfl (lv_at hl 1 rfl) ?_
    refine lv_aload_n hx hb d_De_fetch_83 rfl (lv_at hl 0 rfl) ?_
    refine gfK_5_found C0 hw fl_De_144 d_De_fetch_84 ?_
    refine lv_bipush (v := (13 : Int32)) hx hb d_De_fetch_87 (by decide) ?_
    obtain ⟨r10, er10, h⟩ := ok_b h
    refine z_vi (rest := []) C0 hw (c_Pa_refusal x1 (z_gL q5 6) (13 : Int32) q5 r10 er10) mw_Pa_refusal ml_De_150 3 rfl ⟨Nat.le_of_ble_eq_true rfl, Nat.le_of_ble_eq_true rfl⟩ ⟨Nat.le_refl 0, Nat.le_refl 0⟩ rfl hl.1 rfl (Nat.le_of_ble_eq_true rfl) d_De_fetch_89 (fun H locs hw => ?_)
    have ho := Option.some.inj h
    subst ho
    exact z_rti C0 hw d_De_fetch_92
set_option maxHeartbeats 4000000 in
set_option maxRecDepth 100000 in
theorem c_De_fetch {l : Launch} {D : va_G} {ad : Nat → Nat} {ca : Nat → ClassId} (q : z_Sg) (o : (Int32 × z_Sg)) (h : f_De_fetch q = some o) : z_ci l y_De_fetch b_De_fetch 3 (some .int) 2 61 D (z_Kt ca) (z_K ad ca q) (z_K ad ca o.2) [.ref (ad 5)] o.1 := by
  refine z_ci_of (own := z_RDe) (by decide) rfl ?_
  intro p e s m below meth c A C0 hw
  obtain ⟨hx, hb, hr, hlk, hml, hown, hts, hK, hA⟩ := id C0
  generalize hH : s.heap = H at hw ⊢
  generalize hlo : ([] : List Loc) = locs at hw ⊢
  refine z_entry (lv := [(0, .ref (ad 5))]) (Nat.le_of_ble_eq_true rfl) rfl (fun ls hl => ?_)
  unfold f_De_fetch at h
  refine lv_aload_n hx hb d_De_fetch_0 rfl (lv_at hl 0 rfl) ?_
  refine gfK_5_count C0 hw fl_De_65 d_De_fetch_1 ?_
  refine lv_bipush (v := (15 : Int32)) hx hb d_De_fetch_4 (by decide) ?_
  refine lv_icmp_lt (tgt := 12) hx hb d_De_fetch_6 (by decide) (fun c1 => ?_) (fun c1 => ?_)
  · have h := ok_t h c1
    refine lv_aload_n hx hb d_De_fetch_12 rfl (lv_at hl 0 rfl) ?_
    refine gfK_5_state C0 hw fl_De_9 d_De_fetch_13 ?_
    refine gfK_1_next C0 hw fl_De_60 d_De_fetch_16 ?_
    refine lv_aload_n hx hb d_De_fetch_19 rfl (lv_at hl 0 rfl) ?_
    refine gfK_5_count C0 hw fl_De_65 d_De_fetch_20 ?_
    refine lv_i2l hx hb d_De_fetch_23 rfl ?_
    refine lv_ladd hx hb d_De_fetch_24 ?_
    obtain ⟨n2, en2, h⟩ := ok_n h
    refine z_tl en2 ?_
    refine lv_lstore_n (lv' := [(1, .long n2), (0, .ref (ad 5))]) hx hb d_De_fetch_25 rfl hl (by decide) rfl (fun ls hl => ?_)
    refine lv_aload_n hx hb d_De_fetch_26 rfl (lv_at hl 1 rfl) ?_
    refine gfK_5_count C0 hw fl_De_65 d_De_fetch_27 ?_
    refine lv_if_le (tgt := 56) hx hb d_De_fetch_30 (by decide) (fun c3 => ?_) (fun c3 => ?_)
    · have h := ok_t h c3
      exact w_De_fetch_56 o C0 q n2 h H locs ls hw (lv_sub hl [1, 0] rfl)
    · have h := ok_f h c3
      refine lv_lload_n hx hb d_De_fetch_33 rfl (lv_at hl 0 rfl) ?_
      refine lv_ldc2 (own := z_RDe) hx hb hown (hts _ kl_De_142) d_De_fetch_34 ?_
      refine lv_land hx hb d_De_fetch_37 ?_
      refine lv_lconst (v := (0 : Int64)) hx hb d_De_fetch_38 (by decide) ?_
      refine W.lcmp hx hb d_De_fetch_39 ?_
      refine lv_if_eq (tgt := 56) hx hb d_De_fetch_40 (by decide) (fun c11 => ?_) (fun c11 => ?_)
      · have h := ok_t h ((lg_cmp_eq _ _).mp c11)
        exact w_De_fetch_56 o C0 q n2 h H locs ls hw (lv_sub hl [1, 0] rfl)
      · have h := ok_f h (fun z => c11 ((lg_cmp_eq _ _).mpr z))
        refine lv_aload_n hx hb d_De_fetch_43 rfl (lv_at hl 1 rfl) ?_
        refine lv_dup hx hb d_De_fetch_44 rfl ?_
        refine gfK_5_found C0 hw fl_De_144 d_De_fetch_45 ?_
        refine lv_lconst (v := (1 : Int64)) hx hb d_De_fetch_48 (by decide) ?_
        refine lv_ladd hx hb d_De_fetch_49 ?_
        refine pfK_5_found C0 hw fl_De_144 d_De_fetch_50 (fun H locs hw => ?_)
        obtain ⟨q12, eq12, h⟩ := ok_n h
        rw [← eq12] at hw
        refine lv_goto (tgt := 93) hx hb d_De_fetch_53 (by decide) ?_
        exact w_De_fetch_93 o C0 q12 h H locs ls hw (lv_sub hl [1] rfl)
  · have h := ok_f h c1
    refine lv_bipush (v := (13 : Int32)) hx hb d_De_fetch_9 (by decide) ?_
    have ho := Option.some.inj h
    subst ho
    exact z_rti C0 hw d_De_fetch_11
def k_De_fetchOpcode_67 (q : z_Sg) : Option (Int32 × z_Sg) :=
  z_nm (z_sI q 11 (z_gI q 4)) (fun q6 => if (z_gI q6 11) = (15 : Int32) then ((f_De_fetch q6).bind (fun r8 => z_nm (z_sI r8.2 11 ((256 : Int32) + (z_gI r8.2 4))) (fun q9 => some (r8.1, q9)))) else (some ((-1 : Int32), q6)))
def kb_De_fetchOpcode_22 (ih22 : Int32 × z_Sg → Option (Int32 × z_Sg)) (x1 : Int32) (q : z_Sg) : Option (Int32 × z_Sg) :=
  if (15 : Int32) < x1 then (k_De_fetchOpcode_67 q) else ((f_De_fetch q).bind (fun r10 => if r10.1 = (-1 : Int32) then (none) else (some (r10.1, r10.2))))
def k_De_fetchOpcode_22 (x1 : Int32) (q : z_Sg) : Option (Int32 × z_Sg) := z_lo (fun ih22 a => kb_De_fetchOpcode_22 ih22 a.1 a.2) 2000 (x1, q)
def f_De_fetchOpcode (q : z_Sg) : Option (Int32 × z_Sg) :=
  z_nm (z_sI q 3 (0 : Int32)) (fun q1 => z_nm (z_sI q1 5 (0 : Int32)) (fun q2 => z_nm (z_sI q2 10 (0 : Int32)) (fun q3 => z_nm (z_sI q3 6 (0 : Int32)) (fun q4 => k_De_fetchOpcode_22 (0 : Int32) q4))))
set_option maxHeartbeats 4000000 in
set_option maxRecDepth 100000 in
theorem w_De_fetchOpcode_67 {p : Program} {l : Launch} {e : Env} {s : State} {m : MethodId} {args : Array Value} {below : List Frame} {meth : Method} {c : Code} {D : va_G} {A : Nat → Prop} {ad : Nat → Nat} {ca : Nat → ClassId} (o : (Int32 × z_Sg)) (C0 : z_cx z_RDe b_De_fetchOpcode 3 (some .int) D (z_Kt ca) A p s m args meth c) (q : z_Sg) (h : k_De_fetchOpcode_67 q = some o) : ∀ (H : Heap) (locs : List Loc) (ls : Array Slot), z_wd D (z_K ad ca q) A s H locs → lv_has ls 3 [(0, .ref (ad 5))] → W p l e (z_rm 3 83) s m args below meth c H locs 0 0 (z_qi below D (z_Kt ca) (z_K ad ca o.2) A s args o.1) (F0 m 67 ls []) := by
  obtain ⟨hx, hb, hr, hlk, hml, hown, hts, hK, hA⟩ := id C0
  intro H locs ls hw hl
  refine lv_aload_n hx hb d_De_fetchOpcode_67 rfl (lv_at hl 0 rfl) ?_
  refine lv_aload_n hx hb d_De_fetchOpcode_68 rfl (lv_at hl 0 rfl) ?_
  refine gfK_5_last C0 hw fl_De_84 d_De_fetchOpcode_69 ?_
  refine pfK_5_opcode C0 hw fl_De_23 d_De_fetchOpcode_72 (fun H locs hw => ?_)
  obtain ⟨q6, eq6, h⟩ := ok_n h
  rw [← eq6] at hw
  refine lv_aload_n hx hb d_De_fetchOpcode_75 rfl (lv_at hl 0 rfl) ?_
  refine gfK_5_opcode C0 hw fl_De_23 d_De_fetchOpcode_76 ?_
  refine lv_bipush (v := (15 : Int32)) hx hb d_De_fetchOpcode_79 (by decide) ?_
  refine lv_icmp_eq (tgt := 86) hx hb d_De_fetchOpcode_81 (by decide) (fun c7 => ?_) (fun c7 => ?_)
  · have h := ok_t h c7
    refine lv_aload_n hx hb d_De_fetchOpcode_86 rfl (lv_at hl 0 rfl) ?_
    obtain ⟨r8, er8, h⟩ := ok_b h
    refine z_vi (rest := []) C0 hw (c_De_fetch q6 r8 er8) mw_De_fetch ml_De_81 5 rfl ⟨Nat.le_of_ble_eq_true rfl, Nat.le_of_ble_eq_true rfl⟩ ⟨Nat.le_refl 0, Nat.le_refl 0⟩ rfl hl.1 rfl (Nat.le_of_ble_eq_true rfl) d_De_fetchOpcode_87 (fun H locs hw => ?_)
    refine lv_istore_n (lv' := [(1, .int r8.1), (0, .ref (ad 5))]) hx hb d_De_fetchOpcode_90 rfl hl (by decide) rfl (fun ls hl => ?_)
    refine lv_aload_n hx hb d_De_fetchOpcode_91 rfl (lv_at hl 1 rfl) ?_
    refine lv_sipush (v := (256 : Int32)) hx hb d_De_fetchOpcode_92 (by decide) ?_
    refine lv_aload_n hx hb d_De_fetchOpcode_95 rfl (lv_at hl 1 rfl) ?_
    refine gfK_5_last C0 hw fl_De_84 d_De_fetchOpcode_96 ?_
    refine lv_iadd hx hb d_De_fetchOpcode_99 ?_
    refine pfK_5_opcode C0 hw fl_De_23 d_De_fetchOpcode_100 (fun H locs hw => ?_)
    obtain ⟨q9, eq9, h⟩ := ok_n h
    rw [← eq9] at hw
    refine lv_iload_n hx hb d_De_fetchOpcode_103 rfl (lv_at hl 0 rfl) ?_
    have ho := Option.some.inj h
    subst ho
    exact z_rti C0 hw d_De_fetchOpcode_104
  · have h := ok_f h c7
    refine lv_iconst (v := (-1 : Int32)) hx hb d_De_fetchOpcode_84 (by decide) ?_
    have ho := Option.some.inj h
    subst ho
    exact z_rti C0 hw d_De_fetchOpcode_85
set_option maxHeartbeats 4000000 in
set_option maxRecDepth 100000 in
theorem wb_De_fetchOpcode_22 {p : Program} {l : Launch} {e : Env} {s : State} {m : MethodId} {args : Array Value} {below : List Frame} {meth : Method} {c : Code} {D : va_G} {A : Nat → Prop} {ad : Nat → Nat} {ca : Nat → ClassId} (o : (Int32 × z_Sg)) (C0 : z_cx z_RDe b_De_fetchOpcode 3 (some .int) D (z_Kt ca) A p s m args meth c) (q : z_Sg) (ih22 : Int32 × z_Sg → Option (Int32 × z_Sg)) (hi22 : ∀ a : Int32 × z_Sg, ih22 a = some o → ∀ (H : Heap) (locs : List Loc) (ls : Array Slot), z_wd D (z_K ad ca a.2) A s H locs → lv_has ls 3 [(0, .ref (ad 5)), (1, .int a.1)] → W p l e (z_rm 3 83) s m args below meth c H locs 0 0 (z_qi below D (z_Kt ca) (z_K ad ca o.2) A s args o.1) (F0 m 22 ls [])) (x1 : Int32) (h : kb_De_fetchOpcode_22 ih22 x1 q = some o) : ∀ (H : Heap) (locs : List Loc) (ls : Array Slot), z_wd D (z_K ad ca q) A s H locs → lv_has ls 3 [(0, .ref (ad 5)), (1, .int x1)] → W p l e (z_rm 3 83) s m args below meth c H locs 0 0 (z_qi below D (z_Kt ca) (z_K ad ca o.2) A s args o.1) (F0 m 22 ls []) := by
  obtain ⟨hx, hb, hr, hlk, hml, hown, hts, hK, hA⟩ := id C0
  intro H locs ls hw hl
  refine lv_iload_n hx hb d_De_fetchOpcode_22 rfl (lv_at hl 1 rfl) ?_
  refine lv_bipush (v := (15 : Int32)) hx hb d_De_fetchOpcode_23 (by decide) ?_
  refine lv_icmp_gt (tgt := 67) hx hb d_De_fetchOpcode_25 (by decide) (fun c5 => ?_) (fun c5 => ?_)
  · have h := ok_t h c5
    exact w_De_fetchOpcode_67 o C0 q h H locs ls hw (lv_sub hl [0] rfl)
  · have h := ok_f h c5
    refine lv_aload_n hx hb d_De_fetchOpcode_28 rfl (lv_at hl 0 rfl) ?_
    obtain ⟨r10, er10, h⟩ := ok_b h
    refine z_vi (rest := []) C0 hw (c_De_fetch q r10 er10) mw_De_fetch ml_De_81 5 rfl ⟨Nat.le_of_ble_eq_true rfl, Nat.le_of_ble_eq_true rfl⟩ ⟨Nat.le_refl 0, Nat.le_refl 0⟩ rfl hl.1 rfl (Nat.le_of_ble_eq_true rfl) d_De_fetchOpcode_29 (fun H locs hw => ?_)
    refine lv_istore_n (lv' := [(2, .int r10.1), (0, .ref (ad 5)), (1, .int x1)]) hx hb d_De_fetchOpcode_32 rfl hl (by decide) rfl (fun ls hl => ?_)
    refine lv_iload_n hx hb d_De_fetchOpcode_33 rfl (lv_at hl 0 rfl) ?_
    refine lv_iconst (v := (-1 : Int32)) hx hb d_De_fetchOpcode_34 (by decide) ?_
    refine lv_icmp_eq (tgt := 40) hx hb d_De_fetchOpcode_35 (by decide) (fun c11 => ?_) (fun c11 => ?_)
    · have h := ok_t h c11
      refine lv_aload_n hx hb d_De_fetchOpcode_40 rfl (lv_at hl 1 rfl) ?_
      refine gfK_5_last C0 hw fl_De_84 d_De_fetchOpcode_41 ?_
      cases h
    · have h := ok_f h c11
      refine lv_iload_n hx hb d_De_fetchOpcode_38 rfl (lv_at hl 0 rfl) ?_
      have ho := Option.some.inj h
      subst ho
      exact z_rti C0 hw d_De_fetchOpcode_39
theorem w_De_fetchOpcode_22 {p : Program} {l : Launch} {e : Env} {s : State} {m : MethodId} {args : Array Value} {below : List Frame} {meth : Method} {c : Code} {D : va_G} {A : Nat → Prop} {ad : Nat → Nat} {ca : Nat → ClassId} (o : (Int32 × z_Sg)) (C0 : z_cx z_RDe b_De_fetchOpcode 3 (some .int) D (z_Kt ca) A p s m args meth c) (q : z_Sg) (x1 : Int32) (h : k_De_fetchOpcode_22 x1 q = some o) : ∀ (H : Heap) (locs : List Loc) (ls : Array Slot), z_wd D (z_K ad ca q) A s H locs → lv_has ls 3 [(0, .ref (ad 5)), (1, .int x1)] → W p l e (z_rm 3 83) s m args below meth c H locs 0 0 (z_qi below D (z_Kt ca) (z_K ad ca o.2) A s args o.1) (F0 m 22 ls []) := by
  have key : ∀ (n : Nat) (a : Int32 × z_Sg), z_lo (fun ih22 a => kb_De_fetchOpcode_22 ih22 a.1 a.2) n a = some o → ∀ (H : Heap) (locs : List Loc) (ls : Array Slot), z_wd D (z_K ad ca a.2) A s H locs → lv_has ls 3 [(0, .ref (ad 5)), (1, .int a.1)] → W p l e (z_rm 3 83) s m args below meth c H locs 0 0 (z_qi below D (z_Kt ca) (z_K ad ca o.2) A s args o.1) (F0 m 22 ls []) := by
    intro n
    induction n with
    | zero => intro a h; cases h
    | succ n ih => exact fun a h => wb_De_fetchOpcode_22 o C0 a.2 (z_lo (fun ih22 a => kb_De_fetchOpcode_22 ih22 a.1 a.2) n) ih a.1 h
  exact key 2000 (x1, q) h
set_option maxHeartbeats 4000000 in
set_option maxRecDepth 100000 in
theorem c_De_fetchOpcode {l : Launch} {D : va_G} {ad : Nat → Nat} {ca : Nat → ClassId} (q : z_Sg) (o : (Int32 × z_Sg)) (h : f_De_fetchOpcode q = some o) : z_ci l y_De_fetchOpcode b_De_fetchOpcode 3 (some .int) 3 83 D (z_Kt ca) (z_K ad ca q) (z_K ad ca o.2) [.ref (ad 5)] o.1 := by
  refine z_ci_of (own := z_RDe) (by decide) rfl ?_
  intro p e s m below meth c A C0 hw
  obtain ⟨hx, hb, hr, hlk, hml, hown, hts, hK, hA⟩ := id C0
  generalize hH : s.heap = H at hw ⊢
  generalize hlo : ([] : List Loc) = locs at hw ⊢
  refine z_entry (lv := [(0, .ref (ad 5))]) (Nat.le_of_ble_eq_true rfl) rfl (fun ls hl => ?_)
  unfold f_De_fetchOpcode at h
  refine lv_aload_n hx hb d_De_fetchOpcode_0 rfl (lv_at hl 0 rfl) ?_
  refine lv_iconst (v := (0 : Int32)) hx hb d_De_fetchOpcode_1 (by decide) ?_
  refine pfK_5_count C0 hw fl_De_65 d_De_fetchOpcode_2 (fun H locs hw => ?_)
  obtain ⟨q1, eq1, h⟩ := ok_n h
  rw [← eq1] at hw
  refine lv_aload_n hx hb d_De_fetchOpcode_5 rfl (lv_at hl 0 rfl) ?_
  refine lv_iconst (v := (0 : Int32)) hx hb d_De_fetchOpcode_6 (by decide) ?_
  refine pfK_5_shortened C0 hw (Or.inl rfl) fl_De_71 d_De_fetchOpcode_7 (fun H locs hw => ?_)
  obtain ⟨q2, eq2, h⟩ := ok_n h
  rw [← eq2] at hw
  refine lv_aload_n hx hb d_De_fetchOpcode_10 rfl (lv_at hl 0 rfl) ?_
  refine lv_iconst (v := (0 : Int32)) hx hb d_De_fetchOpcode_11 (by decide) ?_
  refine pfK_5_repeat C0 hw fl_De_75 d_De_fetchOpcode_12 (fun H locs hw => ?_)
  obtain ⟨q3, eq3, h⟩ := ok_n h
  rw [← eq3] at hw
  refine lv_aload_n hx hb d_De_fetchOpcode_15 rfl (lv_at hl 0 rfl) ?_
  refine lv_iconst (v := (0 : Int32)) hx hb d_De_fetchOpcode_16 (by decide) ?_
  refine pfK_5_rex C0 hw fl_De_78 d_De_fetchOpcode_17 (fun H locs hw => ?_)
  obtain ⟨q4, eq4, h⟩ := ok_n h
  rw [← eq4] at hw
  refine lv_iconst (v := (0 : Int32)) hx hb d_De_fetchOpcode_20 (by decide) ?_
  refine lv_istore_n (lv' := [(1, .int (0 : Int32)), (0, .ref (ad 5))]) hx hb d_De_fetchOpcode_21 rfl hl (by decide) rfl (fun ls hl => ?_)
  exact w_De_fetchOpcode_22 o C0 q4 (0 : Int32) h H locs ls hw (lv_sub hl [1, 0] rfl)
def f_De_decode (q : z_Sg) : Option (Int32 × z_Sg) :=
  (f_De_fetchOpcode q).bind (fun r1 => if r1.1 = (-1 : Int32) then (if (256 : Int32) ≤ (z_gI r1.2 11) then (none) else (none)) else (some (r1.1, r1.2)))
set_option maxHeartbeats 4000000 in
set_option maxRecDepth 100000 in
theorem c_De_decode {l : Launch} {D : va_G} {ad : Nat → Nat} {ca : Nat → ClassId} (q : z_Sg) (o : (Int32 × z_Sg)) (h : f_De_decode q = some o) : z_ci l y_De_decode b_De_decode 3 (some .int) 4 105 D (z_Kt ca) (z_K ad ca q) (z_K ad ca o.2) [.ref (ad 5)] o.1 := by
  refine z_ci_of (own := z_RDe) (by decide) rfl ?_
  intro p e s m below meth c A C0 hw
  obtain ⟨hx, hb, hr, hlk, hml, hown, hts, hK, hA⟩ := id C0
  generalize hH : s.heap = H at hw ⊢
  generalize hlo : ([] : List Loc) = locs at hw ⊢
  refine z_entry (lv := [(0, .ref (ad 5))]) (Nat.le_of_ble_eq_true rfl) rfl (fun ls hl => ?_)
  unfold f_De_decode at h
  refine lv_aload_n hx hb d_De_decode_0 rfl (lv_at hl 0 rfl) ?_
  obtain ⟨r1, er1, h⟩ := ok_b h
  refine z_vi (rest := []) C0 hw (c_De_fetchOpcode q r1 er1) mw_De_fetchOpcode ml_De_19 5 rfl ⟨Nat.le_of_ble_eq_true rfl, Nat.le_of_ble_eq_true rfl⟩ ⟨Nat.le_refl 0, Nat.le_refl 0⟩ rfl hl.1 rfl (Nat.le_of_ble_eq_true rfl) d_De_decode_1 (fun H locs hw => ?_)
  refine lv_istore_n (lv' := [(1, .int r1.1), (0, .ref (ad 5))]) hx hb d_De_decode_4 rfl hl (by decide) rfl (fun ls hl => ?_)
  refine lv_iload_n hx hb d_De_decode_5 rfl (lv_at hl 0 rfl) ?_
  refine lv_iconst (v := (-1 : Int32)) hx hb d_De_decode_6 (by decide) ?_
  refine lv_icmp_eq (tgt := 12) hx hb d_De_decode_7 (by decide) (fun c2 => ?_) (fun c2 => ?_)
  · have h := ok_t h c2
    refine lv_aload_n hx hb d_De_decode_12 rfl (lv_at hl 1 rfl) ?_
    refine gfK_5_opcode C0 hw fl_De_23 d_De_decode_13 ?_
    refine lv_sipush (v := (256 : Int32)) hx hb d_De_decode_16 (by decide) ?_
    refine lv_icmp_ge (tgt := 32) hx hb d_De_decode_19 (by decide) (fun c3 => ?_) (fun c3 => ?_)
    · have h := ok_t h c3
      refine lv_aload_n hx hb d_De_decode_32 rfl (lv_at hl 1 rfl) ?_
      refine gfK_5_opcode C0 hw fl_De_23 d_De_decode_33 ?_
      refine lv_sipush (v := (256 : Int32)) hx hb d_De_decode_36 (by decide) ?_
      refine lv_isub hx hb d_De_decode_39 ?_
      cases h
    · have h := ok_f h c3
      refine lv_aload_n hx hb d_De_decode_22 rfl (lv_at hl 1 rfl) ?_
      refine gfK_5_opcode C0 hw fl_De_23 d_De_decode_23 ?_
      cases h
  · have h := ok_f h c2
    refine lv_iload_n hx hb d_De_decode_10 rfl (lv_at hl 0 rfl) ?_
    have ho := Option.some.inj h
    subst ho
    exact z_rti C0 hw d_De_decode_11
def k_Co_step_21 (x1 : Int32) (q : z_Sg) : Option (Int32 × z_Sg) :=
  if x1 = (-1 : Int32) then (none) else (some (x1, q))
def f_Co_step (q : z_Sg) : Option (Int32 × z_Sg) :=
  (f_De_decode q).bind (fun r1 => if r1.1 = (-1 : Int32) then (none) else (k_Co_step_21 r1.1 r1.2))
set_option maxHeartbeats 4000000 in
set_option maxRecDepth 100000 in
theorem w_Co_step_21 {p : Program} {l : Launch} {e : Env} {s : State} {m : MethodId} {args : Array Value} {below : List Frame} {meth : Method} {c : Code} {D : va_G} {A : Nat → Prop} {ad : Nat → Nat} {ca : Nat → ClassId} (o : (Int32 × z_Sg)) (C0 : z_cx z_RCo b_Co_step 2 (some .int) D (z_Kt ca) A p s m args meth c) (q : z_Sg) (x1 : Int32) (h : k_Co_step_21 x1 q = some o) : ∀ (H : Heap) (locs : List Loc) (ls : Array Slot), z_wd D (z_K ad ca q) A s H locs → lv_has ls 2 [(0, .ref (ad 0)), (1, .int x1)] → W p l e (z_rm 5 127) s m args below meth c H locs 0 0 (z_qi below D (z_Kt ca) (z_K ad ca o.2) A s args o.1) (F0 m 21 ls []) := by
  obtain ⟨hx, hb, hr, hlk, hml, hown, hts, hK, hA⟩ := id C0
  intro H locs ls hw hl
  refine lv_iload_n hx hb d_Co_step_21 rfl (lv_at hl 1 rfl) ?_
  refine lv_iconst (v := (-1 : Int32)) hx hb d_Co_step_22 (by decide) ?_
  refine lv_icmp_eq (tgt := 28) hx hb d_Co_step_23 (by decide) (fun c3 => ?_) (fun c3 => ?_)
  · have h := ok_t h c3
    refine lv_aload_n hx hb d_Co_step_28 rfl (lv_at hl 0 rfl) ?_
    refine gfK_0_flow C0 hw fl_Co_61 d_Co_step_29 ?_
    cases h
  · have h := ok_f h c3
    refine lv_iload_n hx hb d_Co_step_26 rfl (lv_at hl 1 rfl) ?_
    have ho := Option.some.inj h
    subst ho
    exact z_rti C0 hw d_Co_step_27
set_option maxHeartbeats 4000000 in
set_option maxRecDepth 100000 in
theorem c_Co_step {l : Launch} {D : va_G} {ad : Nat → Nat} {ca : Nat → ClassId} (q : z_Sg) (o : (Int32 × z_Sg)) (h : f_Co_step q = some o) : z_ci l y_Co_step b_Co_step 2 (some .int) 5 127 D (z_Kt ca) (z_K ad ca q) (z_K ad ca o.2) [.ref (ad 0)] o.1 := by
  refine z_ci_of (own := z_RCo) (by decide) rfl ?_
  intro p e s m below meth c A C0 hw
  obtain ⟨hx, hb, hr, hlk, hml, hown, hts, hK, hA⟩ := id C0
  generalize hH : s.heap = H at hw ⊢
  generalize hlo : ([] : List Loc) = locs at hw ⊢
  refine z_entry (lv := [(0, .ref (ad 0))]) (Nat.le_of_ble_eq_true rfl) rfl (fun ls hl => ?_)
  unfold f_Co_step at h
  refine lv_aload_n hx hb d_Co_step_0 rfl (lv_at hl 0 rfl) ?_
  refine gfK_0_decoder C0 hw fl_Co_30 d_Co_step_1 ?_
  obtain ⟨r1, er1, h⟩ := ok_b h
  refine z_vi (rest := []) C0 hw (c_De_decode q r1 er1) mw_De_decode ml_Co_140 5 rfl ⟨Nat.le_of_ble_eq_true rfl, Nat.le_of_ble_eq_true rfl⟩ ⟨Nat.le_refl 0, Nat.le_refl 0⟩ rfl hl.1 rfl (Nat.le_of_ble_eq_true rfl) d_Co_step_4 (fun H locs hw => ?_)
  refine lv_istore_n (lv' := [(1, .int r1.1), (0, .ref (ad 0))]) hx hb d_Co_step_7 rfl hl (by decide) rfl (fun ls hl => ?_)
  refine lv_iload_n hx hb d_Co_step_8 rfl (lv_at hl 0 rfl) ?_
  refine lv_iconst (v := (-1 : Int32)) hx hb d_Co_step_9 (by decide) ?_
  refine lv_icmp_ne (tgt := 21) hx hb d_Co_step_10 (by decide) (fun c2 => ?_) (fun c2 => ?_)
  · have h := ok_f h c2
    exact w_Co_step_21 o C0 r1.2 r1.1 h H locs ls hw (lv_sub hl [1, 0] rfl)
  · have h := ok_t h c2
    refine lv_aload_n hx hb d_Co_step_13 rfl (lv_at hl 1 rfl) ?_
    refine gfK_0_operands C0 hw fl_Co_44 d_Co_step_14 ?_
    cases h
def k_Co_run_11 (q : z_Sg) : Option (Int32 × z_Sg) :=
  some ((0 : Int32), q)
def kb_Co_run_15 (ih15 : Int32 × Int32 × z_Sg → Option (Int32 × z_Sg)) (x1 : Int32) (x2 : Int32) (q : z_Sg) : Option (Int32 × z_Sg) :=
  if x1 ≤ x2 then (some (x1, q)) else ((f_Co_step q).bind (fun r4 => if r4.1 = (-1 : Int32) then (z_nm (x2 + (1 : Int32)) (fun n6 => ih15 (x1, n6, r4.2))) else (some (x2, r4.2))))
def k_Co_run_15 (x1 : Int32) (x2 : Int32) (q : z_Sg) : Option (Int32 × z_Sg) := z_lo (fun ih15 a => kb_Co_run_15 ih15 a.1 a.2.1 a.2.2) 2000 (x1, x2, q)
def f_Co_run (x1 : Int32) (q : z_Sg) : Option (Int32 × z_Sg) :=
  if x1 < 0 then (k_Co_run_11 q) else (if x1 ≤ (1000 : Int32) then (k_Co_run_15 x1 (0 : Int32) q) else (k_Co_run_11 q))
set_option maxHeartbeats 4000000 in
set_option maxRecDepth 100000 in
theorem w_Co_run_11 {p : Program} {l : Launch} {e : Env} {s : State} {m : MethodId} {args : Array Value} {below : List Frame} {meth : Method} {c : Code} {D : va_G} {A : Nat → Prop} {ad : Nat → Nat} {ca : Nat → ClassId} (o : (Int32 × z_Sg)) (C0 : z_cx z_RCo b_Co_run 3 (some .int) D (z_Kt ca) A p s m args meth c) (q : z_Sg) (h : k_Co_run_11 q = some o) : ∀ (H : Heap) (locs : List Loc) (ls : Array Slot), z_wd D (z_K ad ca q) A s H locs → lv_has ls 3 [] → W p l e (z_rm 6 148) s m args below meth c H locs 0 0 (z_qi below D (z_Kt ca) (z_K ad ca o.2) A s args o.1) (F0 m 11 ls []) := by
  obtain ⟨hx, hb, hr, hlk, hml, hown, hts, hK, hA⟩ := id C0
  intro H locs ls hw hl
  refine lv_iconst (v := (0 : Int32)) hx hb d_Co_run_11 (by decide) ?_
  have ho := Option.some.inj h
  subst ho
  exact z_rti C0 hw d_Co_run_12
set_option maxHeartbeats 4000000 in
set_option maxRecDepth 100000 in
theorem wb_Co_run_15 {p : Program} {l : Launch} {e : Env} {s : State} {m : MethodId} {args : Array Value} {below : List Frame} {meth : Method} {c : Code} {D : va_G} {A : Nat → Prop} {ad : Nat → Nat} {ca : Nat → ClassId} (o : (Int32 × z_Sg)) (C0 : z_cx z_RCo b_Co_run 3 (some .int) D (z_Kt ca) A p s m args meth c) (q : z_Sg) (ih15 : Int32 × Int32 × z_Sg → Option (Int32 × z_Sg)) (hi15 : ∀ a : Int32 × Int32 × z_Sg, ih15 a = some o → ∀ (H : Heap) (locs : List Loc) (ls : Array Slot), z_wd D (z_K ad ca a.2.2) A s H locs → lv_has ls 3 [(0, .ref (ad 0)), (1, .int a.1), (2, .int a.2.1)] → W p l e (z_rm 6 148) s m args below meth c H locs 0 0 (z_qi below D (z_Kt ca) (z_K ad ca o.2) A s args o.1) (F0 m 15 ls [])) (x1 : Int32) (x2 : Int32) (h : kb_Co_run_15 ih15 x1 x2 q = some o) : ∀ (H : Heap) (locs : List Loc) (ls : Array Slot), z_wd D (z_K ad ca q) A s H locs → lv_has ls 3 [(0, .ref (ad 0)), (1, .int x1), (2, .int x2)] → W p l e (z_rm 6 148) s m args below meth c H locs 0 0 (z_qi below D (z_Kt ca) (z_K ad ca o.2) A s args o.1) (F0 m 15 ls []) := by
  obtain ⟨hx, hb, hr, hlk, hml, hown, hts, hK, hA⟩ := id C0
  intro H locs ls hw hl
  refine lv_iload_n hx hb d_Co_run_15 rfl (lv_at hl 2 rfl) ?_
  refine lv_iload_n hx hb d_Co_run_16 rfl (lv_at hl 1 rfl) ?_
  refine lv_icmp_ge (tgt := 36) hx hb d_Co_run_17 (by decide) (fun c3 => ?_) (fun c3 => ?_)
  · have h := ok_t h c3
    refine lv_iload_n hx hb d_Co_run_36 rfl (lv_at hl 1 rfl) ?_
    have ho := Option.some.inj h
    subst ho
    exact z_rti C0 hw d_Co_run_37
  · have h := ok_f h c3
    refine lv_aload_n hx hb d_Co_run_20 rfl (lv_at hl 0 rfl) ?_
    obtain ⟨r4, er4, h⟩ := ok_b h
    refine z_vi (rest := []) C0 hw (c_Co_step q r4 er4) mw_Co_step ml_Co_159 0 rfl ⟨Nat.le_of_ble_eq_true rfl, Nat.le_of_ble_eq_true rfl⟩ ⟨Nat.le_refl 0, Nat.le_refl 0⟩ rfl hl.1 rfl (Nat.le_of_ble_eq_true rfl) d_Co_run_21 (fun H locs hw => ?_)
    refine lv_iconst (v := (-1 : Int32)) hx hb d_Co_run_24 (by decide) ?_
    refine lv_icmp_eq (tgt := 30) hx hb d_Co_run_25 (by decide) (fun c5 => ?_) (fun c5 => ?_)
    · have h := ok_t h c5
      obtain ⟨n6, en6, h⟩ := ok_n h
      refine lv_iinc (v := n6) (lv' := [(2, .int n6), (0, .ref (ad 0)), (1, .int x1)]) hx hb d_Co_run_30 hl (k := 2) rfl (by rw [en6]; rfl) (by decide) rfl (fun ls hl => ?_)
      refine lv_goto (tgt := 15) hx hb d_Co_run_33 (by decide) ?_
      exact hi15 (x1, n6, r4.2) h H locs ls hw (lv_sub hl [1, 2, 0] rfl)
    · have h := ok_f h c5
      refine lv_iload_n hx hb d_Co_run_28 rfl (lv_at hl 2 rfl) ?_
      have ho := Option.some.inj h
      subst ho
      exact z_rti C0 hw d_Co_run_29
theorem w_Co_run_15 {p : Program} {l : Launch} {e : Env} {s : State} {m : MethodId} {args : Array Value} {below : List Frame} {meth : Method} {c : Code} {D : va_G} {A : Nat → Prop} {ad : Nat → Nat} {ca : Nat → ClassId} (o : (Int32 × z_Sg)) (C0 : z_cx z_RCo b_Co_run 3 (some .int) D (z_Kt ca) A p s m args meth c) (q : z_Sg) (x1 : Int32) (x2 : Int32) (h : k_Co_run_15 x1 x2 q = some o) : ∀ (H : Heap) (locs : List Loc) (ls : Array Slot), z_wd D (z_K ad ca q) A s H locs → lv_has ls 3 [(0, .ref (ad 0)), (1, .int x1), (2, .int x2)] → W p l e (z_rm 6 148) s m args below meth c H locs 0 0 (z_qi below D (z_Kt ca) (z_K ad ca o.2) A s args o.1) (F0 m 15 ls []) := by
  have key : ∀ (n : Nat) (a : Int32 × Int32 × z_Sg), z_lo (fun ih15 a => kb_Co_run_15 ih15 a.1 a.2.1 a.2.2) n a = some o → ∀ (H : Heap) (locs : List Loc) (ls : Array Slot), z_wd D (z_K ad ca a.2.2) A s H locs → lv_has ls 3 [(0, .ref (ad 0)), (1, .int a.1), (2, .int a.2.1)] → W p l e (z_rm 6 148) s m args below meth c H locs 0 0 (z_qi below D (z_Kt ca) (z_K ad ca o.2) A s args o.1) (F0 m 15 ls []) := by
    intro n
    induction n with
    | zero => intro a h; cases h
    | succ n ih => exact fun a h => wb_Co_run_15 o C0 a.2.2 (z_lo (fun ih15 a => kb_Co_run_15 ih15 a.1 a.2.1 a.2.2) n) ih a.1 a.2.1 h
  exact key 2000 (x1, x2, q) h
set_option maxHeartbeats 4000000 in
set_option maxRecDepth 100000 in
theorem c_Co_run {l : Launch} {D : va_G} {ad : Nat → Nat} {ca : Nat → ClassId} (x1 : Int32) (q : z_Sg) (o : (Int32 × z_Sg)) (h : f_Co_run x1 q = some o) : z_ci l y_Co_run b_Co_run 3 (some .int) 6 148 D (z_Kt ca) (z_K ad ca q) (z_K ad ca o.2) [.ref (ad 0), .int x1] o.1 := by
  refine z_ci_of (own := z_RCo) (by decide) rfl ?_
  intro p e s m below meth c A C0 hw
  obtain ⟨hx, hb, hr, hlk, hml, hown, hts, hK, hA⟩ := id C0
  generalize hH : s.heap = H at hw ⊢
  generalize hlo : ([] : List Loc) = locs at hw ⊢
  refine z_entry (lv := [(0, .ref (ad 0)), (1, .int x1)]) (Nat.le_of_ble_eq_true rfl) rfl (fun ls hl => ?_)
  unfold f_Co_run at h
  refine lv_iload_n hx hb d_Co_run_0 rfl (lv_at hl 1 rfl) ?_
  refine lv_if_lt (tgt := 11) hx hb d_Co_run_1 (by decide) (fun c1 => ?_) (fun c1 => ?_)
  · have h := ok_t h c1
    exact w_Co_run_11 o C0 q h H locs ls hw (lv_sub hl [] rfl)
  · have h := ok_f h c1
    refine lv_iload_n hx hb d_Co_run_4 rfl (lv_at hl 1 rfl) ?_
    refine lv_sipush (v := (1000 : Int32)) hx hb d_Co_run_5 (by decide) ?_
    refine lv_icmp_le (tgt := 13) hx hb d_Co_run_8 (by decide) (fun c2 => ?_) (fun c2 => ?_)
    · have h := ok_t h c2
      refine lv_iconst (v := (0 : Int32)) hx hb d_Co_run_13 (by decide) ?_
      refine lv_istore_n (lv' := [(2, .int (0 : Int32)), (0, .ref (ad 0)), (1, .int x1)]) hx hb d_Co_run_14 rfl hl (by decide) rfl (fun ls hl => ?_)
      exact w_Co_run_15 o C0 q x1 (0 : Int32) h H locs ls hw (lv_sub hl [1, 2, 0] rfl)
    · have h := ok_f h c2
      exact w_Co_run_11 o C0 q h H locs ls hw (lv_sub hl [] rfl)
def f_Co_look (x1 : Int32) (x2 : Int32) (x3 : Int32) (q : z_Sg) : Option Int64 :=
  (f_Co_joined x1 x2 q).bind (fun r1 => (f_Pa_locate r1 x3 q).bind (fun r2 => some r2))
set_option maxHeartbeats 4000000 in
set_option maxRecDepth 100000 in
theorem c_Co_look {l : Launch} {D : va_G} {ad : Nat → Nat} {ca : Nat → ClassId} (x1 : Int32) (x2 : Int32) (x3 : Int32) (q : z_Sg) (o : Int64) (h : f_Co_look x1 x2 x3 q = some o) : z_cl l y_Co_look b_Co_look 4 (some .long) 2 61 D (z_Kt ca) (z_K ad ca q) (z_K ad ca q) [.ref (ad 0), .int x1, .int x2, .int x3] o := by
  refine z_cl_of (own := z_RCo) (by decide) rfl ?_
  intro p e s m below meth c A C0 hw
  obtain ⟨hx, hb, hr, hlk, hml, hown, hts, hK, hA⟩ := id C0
  generalize hH : s.heap = H at hw ⊢
  generalize hlo : ([] : List Loc) = locs at hw ⊢
  refine z_entry (lv := [(0, .ref (ad 0)), (1, .int x1), (2, .int x2), (3, .int x3)]) (Nat.le_of_ble_eq_true rfl) rfl (fun ls hl => ?_)
  unfold f_Co_look at h
  refine lv_aload_n hx hb d_Co_look_0 rfl (lv_at hl 0 rfl) ?_
  refine gfK_0_pages C0 hw fl_Co_21 d_Co_look_1 ?_
  refine lv_iload_n hx hb d_Co_look_4 rfl (lv_at hl 1 rfl) ?_
  refine lv_iload_n hx hb d_Co_look_5 rfl (lv_at hl 2 rfl) ?_
  obtain ⟨r1, er1, h⟩ := ok_b h
  refine z_sl (rest := [.ref (ad 3)]) C0 hw (c_Co_joined x1 x2 q r1 er1) mw_Co_joined ml_Co_100 ⟨Nat.le_of_ble_eq_true rfl, Nat.le_of_ble_eq_true rfl⟩ ⟨Nat.le_refl 0, Nat.le_refl 0⟩ rfl hl.1 rfl (Nat.le_of_ble_eq_true rfl) d_Co_look_6 (fun H locs hw => ?_)
  refine lv_iload_n hx hb d_Co_look_9 rfl (lv_at hl 3 rfl) ?_
  obtain ⟨r2, er2, h⟩ := ok_b h
  refine z_vl (rest := []) C0 hw (c_Pa_locate r1 x3 q r2 er2) mw_Pa_locate ml_Co_162 3 rfl ⟨Nat.le_of_ble_eq_true rfl, Nat.le_of_ble_eq_true rfl⟩ ⟨Nat.le_refl 0, Nat.le_refl 0⟩ rfl hl.1 rfl (Nat.le_of_ble_eq_true rfl) d_Co_look_10 (fun H locs hw => ?_)
  have ho := Option.some.inj h
  subst ho
  exact z_rtl C0 hw d_Co_look_13
end
section
def k_Mo_store_17 (q : z_Sg) : Option (Int32 × z_Sg) :=
  some ((0 : Int32), q)
def k_Mo_store_48 (ih22 : Int32 × Int32 × Int32 × Int32 × z_Sg → Option (Int32 × z_Sg)) (x1 : Int32) (x2 : Int32) (x3 : Int32) (x4 : Int32) (t1 : Int32) (t2 : Int32) (q : z_Sg) : Option (Int32 × z_Sg) :=
  if z_bad t1 32768 then none else (z_nm (z_sN q 0 t1.toNatClampNeg (vp_nar .byte ((t2 >>> (((8 : Int32) * (x4 - x4 / (4 : Int32) * (4 : Int32))) &&& 31)).toInt8.toInt32))) (fun q6 => z_nm (x4 + (1 : Int32)) (fun n7 => ih22 (x1, x2, x3, n7, q6))))
def kb_Mo_store_22 (ih22 : Int32 × Int32 × Int32 × Int32 × z_Sg → Option (Int32 × z_Sg)) (x1 : Int32) (x2 : Int32) (x3 : Int32) (x4 : Int32) (q : z_Sg) : Option (Int32 × z_Sg) :=
  if (8 : Int32) ≤ x4 then (some ((1 : Int32), q)) else (if (4 : Int32) ≤ x4 then (k_Mo_store_48 ih22 x1 x2 x3 x4 (x1 + x4) x3 q) else (k_Mo_store_48 ih22 x1 x2 x3 x4 (x1 + x4) x2 q))
def k_Mo_store_22 (x1 : Int32) (x2 : Int32) (x3 : Int32) (x4 : Int32) (q : z_Sg) : Option (Int32 × z_Sg) := z_lo (fun ih22 a => kb_Mo_store_22 ih22 a.1 a.2.1 a.2.2.1 a.2.2.2.1 a.2.2.2.2) 2000 (x1, x2, x3, x4, q)
def f_Mo_store (x1 : Int32) (x2 : Int32) (x3 : Int32) (q : z_Sg) : Option (Int32 × z_Sg) :=
  if x1 < 0 then (k_Mo_store_17 q) else (if ((x1.toInt64) + (8 : Int64)) ≤ (32768 : Int64) then (k_Mo_store_22 x1 x2 x3 (0 : Int32) q) else (k_Mo_store_17 q))
set_option maxHeartbeats 4000000 in
set_option maxRecDepth 100000 in
theorem w_Mo_store_17 {p : Program} {l : Launch} {e : Env} {s : State} {m : MethodId} {args : Array Value} {below : List Frame} {meth : Method} {c : Code} {D : va_G} {A : Nat → Prop} {ad : Nat → Nat} {ca : Nat → ClassId} (o : (Int32 × z_Sg)) (C0 : z_cx z_RMo b_Mo_store 5 (some .boolean) D (z_Mt ca) A p s m args meth c) (q : z_Sg) (h : k_Mo_store_17 q = some o) : ∀ (H : Heap) (locs : List Loc) (ls : Array Slot), z_wd D (z_M ad ca q) A s H locs → lv_has ls 5 [] → W p l e (z_rm 0 0) s m args below meth c H locs 0 0 (z_qi below D (z_Mt ca) (z_M ad ca o.2) A s args o.1) (F0 m 17 ls []) := by
  obtain ⟨hx, hb, hr, hlk, hml, hown, hts, hK, hA⟩ := id C0
  intro H locs ls hw hl
  refine lv_iconst (v := (0 : Int32)) hx hb d_Mo_store_17 (by decide) ?_
  have ho := Option.some.inj h
  subst ho
  exact z_rtz C0 hw (z_bo_n (Or.inl rfl)) d_Mo_store_18
set_option maxHeartbeats 4000000 in
set_option maxRecDepth 100000 in
theorem w_Mo_store_48 {p : Program} {l : Launch} {e : Env} {s : State} {m : MethodId} {args : Array Value} {below : List Frame} {meth : Method} {c : Code} {D : va_G} {A : Nat → Prop} {ad : Nat → Nat} {ca : Nat → ClassId} (o : (Int32 × z_Sg)) (C0 : z_cx z_RMo b_Mo_store 5 (some .boolean) D (z_Mt ca) A p s m args meth c) (q : z_Sg) (ih22 : Int32 × Int32 × Int32 × Int32 × z_Sg → Option (Int32 × z_Sg)) (hi22 : ∀ a : Int32 × Int32 × Int32 × Int32 × z_Sg, ih22 a = some o → ∀ (H : Heap) (locs : List Loc) (ls : Array Slot), z_wd D (z_M ad ca a.2.2.2.2) A s H locs → lv_has ls 5 [(0, .ref (ad 0)), (1, .int a.1), (2, .int a.2.1), (3, .int a.2.2.1), (4, .int a.2.2.2.1)] → W p l e (z_rm 0 0) s m args below meth c H locs 0 0 (z_qi below D (z_Mt ca) (z_M ad ca o.2) A s args o.1) (F0 m 22 ls [])) (x1 : Int32) (x2 : Int32) (x3 : Int32) (x4 : Int32) (t1 : Int32) (t2 : Int32) (h : k_Mo_store_48 ih22 x1 x2 x3 x4 t1 t2 q = some o) : ∀ (H : Heap) (locs : List Loc) (ls : Array Slot), z_wd D (z_M ad ca q) A s H locs → lv_has ls 5 [(0, .ref (ad 0)), (1, .int x1), (2, .int x2), (3, .int x3), (4, .int x4)] → W p l e (z_rm 0 0) s m args below meth c H locs 0 0 (z_qi below D (z_Mt ca) (z_M ad ca o.2) A s args o.1) (F0 m 48 ls [.int t2, .int t1, .ref (ad 1)]) := by
  obtain ⟨hx, hb, hr, hlk, hml, hown, hts, hK, hA⟩ := id C0
  intro H locs ls hw hl
  refine lv_bipush (v := (8 : Int32)) hx hb d_Mo_store_48 (by decide) ?_
  refine lv_iload hx hb d_Mo_store_50 (lv_at hl 4 rfl) ?_
  refine lv_iconst (v := (4 : Int32)) hx hb d_Mo_store_52 (by decide) ?_
  refine lv_irem hx hb d_Mo_store_53 (by decide) ?_
  refine lv_imul hx hb d_Mo_store_54 ?_
  refine lv_ishr hx hb d_Mo_store_55 ?_
  refine lv_i2b hx hb d_Mo_store_56 rfl ?_
  obtain ⟨b5, h⟩ := ok_g h
  refine asM_1 C0 hw b5 d_Mo_store_57 (fun H locs hw => ?_)
  obtain ⟨q6, eq6, h⟩ := ok_n h
  rw [← eq6] at hw
  obtain ⟨n7, en7, h⟩ := ok_n h
  refine lv_iinc (v := n7) (lv' := [(4, .int n7), (0, .ref (ad 0)), (1, .int x1), (2, .int x2), (3, .int x3)]) hx hb d_Mo_store_58 hl (k := 4) rfl (by rw [en7]; rfl) (by decide) rfl (fun ls hl => ?_)
  refine lv_goto (tgt := 22) hx hb d_Mo_store_61 (by decide) ?_
  exact hi22 (x1, x2, x3, n7, q6) h H locs ls hw (lv_sub hl [1, 2, 3, 4, 0] rfl)
set_option maxHeartbeats 4000000 in
set_option maxRecDepth 100000 in
theorem wb_Mo_store_22 {p : Program} {l : Launch} {e : Env} {s : State} {m : MethodId} {args : Array Value} {below : List Frame} {meth : Method} {c : Code} {D : va_G} {A : Nat → Prop} {ad : Nat → Nat} {ca : Nat → ClassId} (o : (Int32 × z_Sg)) (C0 : z_cx z_RMo b_Mo_store 5 (some .boolean) D (z_Mt ca) A p s m args meth c) (q : z_Sg) (ih22 : Int32 × Int32 × Int32 × Int32 × z_Sg → Option (Int32 × z_Sg)) (hi22 : ∀ a : Int32 × Int32 × Int32 × Int32 × z_Sg, ih22 a = some o → ∀ (H : Heap) (locs : List Loc) (ls : Array Slot), z_wd D (z_M ad ca a.2.2.2.2) A s H locs → lv_has ls 5 [(0, .ref (ad 0)), (1, .int a.1), (2, .int a.2.1), (3, .int a.2.2.1), (4, .int a.2.2.2.1)] → W p l e (z_rm 0 0) s m args below meth c H locs 0 0 (z_qi below D (z_Mt ca) (z_M ad ca o.2) A s args o.1) (F0 m 22 ls [])) (x1 : Int32) (x2 : Int32) (x3 : Int32) (x4 : Int32) (h : kb_Mo_store_22 ih22 x1 x2 x3 x4 q = some o) : ∀ (H : Heap) (locs : List Loc) (ls : Array Slot), z_wd D (z_M ad ca q) A s H locs → lv_has ls 5 [(0, .ref (ad 0)), (1, .int x1), (2, .int x2), (3, .int x3), (4, .int x4)] → W p l e (z_rm 0 0) s m args below meth c H locs 0 0 (z_qi below D (z_Mt ca) (z_M ad ca o.2) A s args o.1) (F0 m 22 ls []) := by
  obtain ⟨hx, hb, hr, hlk, hml, hown, hts, hK, hA⟩ := id C0
  intro H locs ls hw hl
  refine lv_iload hx hb d_Mo_store_22 (lv_at hl 4 rfl) ?_
  refine lv_bipush (v := (8 : Int32)) hx hb d_Mo_store_24 (by decide) ?_
  refine lv_icmp_ge (tgt := 64) hx hb d_Mo_store_26 (by decide) (fun c3 => ?_) (fun c3 => ?_)
  · have h := ok_t h c3
    refine lv_iconst (v := (1 : Int32)) hx hb d_Mo_store_64 (by decide) ?_
    have ho := Option.some.inj h
    subst ho
    exact z_rtz C0 hw (z_bo_n (Or.inr rfl)) d_Mo_store_65
  · have h := ok_f h c3
    refine lv_aload_n hx hb d_Mo_store_29 rfl (lv_at hl 0 rfl) ?_
    refine gfM_0_memory C0 hw fl_Mo_8 d_Mo_store_30 ?_
    refine lv_iload_n hx hb d_Mo_store_33 rfl (lv_at hl 1 rfl) ?_
    refine lv_iload hx hb d_Mo_store_34 (lv_at hl 4 rfl) ?_
    refine lv_iadd hx hb d_Mo_store_36 ?_
    refine lv_iload hx hb d_Mo_store_37 (lv_at hl 4 rfl) ?_
    refine lv_iconst (v := (4 : Int32)) hx hb d_Mo_store_39 (by decide) ?_
    refine lv_icmp_ge (tgt := 47) hx hb d_Mo_store_40 (by decide) (fun c4 => ?_) (fun c4 => ?_)
    · have h := ok_t h c4
      refine lv_iload_n hx hb d_Mo_store_47 rfl (lv_at hl 3 rfl) ?_
      exact w_Mo_store_48 o C0 q ih22 hi22 x1 x2 x3 x4 (x1 + x4) x3 h H locs ls hw (lv_sub hl [0, 1, 2, 3, 4] rfl)
    · have h := ok_f h c4
      refine lv_iload_n hx hb d_Mo_store_43 rfl (lv_at hl 2 rfl) ?_
      refine lv_goto (tgt := 48) hx hb d_Mo_store_44 (by decide) ?_
      exact w_Mo_store_48 o C0 q ih22 hi22 x1 x2 x3 x4 (x1 + x4) x2 h H locs ls hw (lv_sub hl [0, 1, 2, 3, 4] rfl)
theorem w_Mo_store_22 {p : Program} {l : Launch} {e : Env} {s : State} {m : MethodId} {args : Array Value} {below : List Frame} {meth : Method} {c : Code} {D : va_G} {A : Nat → Prop} {ad : Nat → Nat} {ca : Nat → ClassId} (o : (Int32 × z_Sg)) (C0 : z_cx z_RMo b_Mo_store 5 (some .boolean) D (z_Mt ca) A p s m args meth c) (q : z_Sg) (x1 : Int32) (x2 : Int32) (x3 : Int32) (x4 : Int32) (h : k_Mo_store_22 x1 x2 x3 x4 q = some o) : ∀ (H : Heap) (locs : List Loc) (ls : Array Slot), z_wd D (z_M ad ca q) A s H locs → lv_has ls 5 [(0, .ref (ad 0)), (1, .int x1), (2, .int x2), (3, .int x3), (4, .int x4)] → W p l e (z_rm 0 0) s m args below meth c H locs 0 0 (z_qi below D (z_Mt ca) (z_M ad ca o.2) A s args o.1) (F0 m 22 ls []) := by
  have key : ∀ (n : Nat) (a : Int32 × Int32 × Int32 × Int32 × z_Sg), z_lo (fun ih22 a => kb_Mo_store_22 ih22 a.1 a.2.1 a.2.2.1 a.2.2.2.1 a.2.2.2.2) n a = some o → ∀ (H : Heap) (locs : List Loc) (ls : Array Slot), z_wd D (z_M ad ca a.2.2.2.2) A s H locs → lv_has ls 5 [(0, .ref (ad 0)), (1, .int a.1), (2, .int a.2.1), (3, .int a.2.2.1), (4, .int a.2.2.2.1)] → W p l e (z_rm 0 0) s m args below meth c H locs 0 0 (z_qi below D (z_Mt ca) (z_M ad ca o.2) A s args o.1) (F0 m 22 ls []) := by
    intro n
    induction n with
    | zero => intro a h; cases h
    | succ n ih => exact fun a h => wb_Mo_store_22 o C0 a.2.2.2.2 (z_lo (fun ih22 a => kb_Mo_store_22 ih22 a.1 a.2.1 a.2.2.1 a.2.2.2.1 a.2.2.2.2) n) ih a.1 a.2.1 a.2.2.1 a.2.2.2.1 h
  exact key 2000 (x1, x2, x3, x4, q) h
set_option maxHeartbeats 4000000 in
set_option maxRecDepth 100000 in
theorem c_Mo_store {l : Launch} {D : va_G} {ad : Nat → Nat} {ca : Nat → ClassId} (x1 : Int32) (x2 : Int32) (x3 : Int32) (q : z_Sg) (o : (Int32 × z_Sg)) (h : f_Mo_store x1 x2 x3 q = some o) : z_ci l y_Mo_store b_Mo_store 5 (some .boolean) 0 0 D (z_Mt ca) (z_M ad ca q) (z_M ad ca o.2) [.ref (ad 0), .int x1, .int x2, .int x3] o.1 := by
  refine z_ci_of (own := z_RMo) (by decide) rfl ?_
  intro p e s m below meth c A C0 hw
  obtain ⟨hx, hb, hr, hlk, hml, hown, hts, hK, hA⟩ := id C0
  generalize hH : s.heap = H at hw ⊢
  generalize hlo : ([] : List Loc) = locs at hw ⊢
  refine z_entry (lv := [(0, .ref (ad 0)), (1, .int x1), (2, .int x2), (3, .int x3)]) (Nat.le_of_ble_eq_true rfl) rfl (fun ls hl => ?_)
  unfold f_Mo_store at h
  refine lv_iload_n hx hb d_Mo_store_0 rfl (lv_at hl 1 rfl) ?_
  refine lv_if_lt (tgt := 17) hx hb d_Mo_store_1 (by decide) (fun c1 => ?_) (fun c1 => ?_)
  · have h := ok_t h c1
    exact w_Mo_store_17 o C0 q h H locs ls hw (lv_sub hl [] rfl)
  · have h := ok_f h c1
    refine lv_iload_n hx hb d_Mo_store_4 rfl (lv_at hl 1 rfl) ?_
    refine lv_i2l hx hb d_Mo_store_5 rfl ?_
    refine lv_ldc2 (own := z_RMo) hx hb hown (hts _ kl_Mo_60) d_Mo_store_6 ?_
    refine lv_ladd hx hb d_Mo_store_9 ?_
    refine lv_ldc2 (own := z_RMo) hx hb hown (hts _ kl_Mo_42) d_Mo_store_10 ?_
    refine W.lcmp hx hb d_Mo_store_13 ?_
    refine lv_if_le (tgt := 19) hx hb d_Mo_store_14 (by decide) (fun c2 => ?_) (fun c2 => ?_)
    · have h := ok_t h ((lg_cmp_le _ _).mp c2)
      refine lv_iconst (v := (0 : Int32)) hx hb d_Mo_store_19 (by decide) ?_
      refine lv_istore (lv' := [(4, .int (0 : Int32)), (0, .ref (ad 0)), (1, .int x1), (2, .int x2), (3, .int x3)]) hx hb d_Mo_store_20 hl (by decide) rfl (fun ls hl => ?_)
      exact w_Mo_store_22 o C0 q x1 x2 x3 (0 : Int32) h H locs ls hw (lv_sub hl [1, 2, 3, 4, 0] rfl)
    · have h := ok_f h (fun z => c2 ((lg_cmp_le _ _).mpr z))
      exact w_Mo_store_17 o C0 q h H locs ls hw (lv_sub hl [] rfl)
def k_Mo_byteAt_29 (t0 : Int32) (q : z_Sg) : Option Int32 :=
  some t0
def k_Mo_byteAt_14 (q : z_Sg) : Option Int32 :=
  k_Mo_byteAt_29 (0 : Int32) q
def f_Mo_byteAt (x1 : Int64) (q : z_Sg) : Option Int32 :=
  if x1 < (0 : Int64) then (k_Mo_byteAt_14 q) else (if x1 < (32768 : Int64) then (if z_bad (x1.toInt32) 32768 then none else (k_Mo_byteAt_29 ((z_gN q 0 (x1.toInt32).toNatClampNeg) &&& (255 : Int32)) q)) else (k_Mo_byteAt_14 q))
set_option maxHeartbeats 4000000 in
set_option maxRecDepth 100000 in
theorem w_Mo_byteAt_29 {p : Program} {l : Launch} {e : Env} {s : State} {m : MethodId} {args : Array Value} {below : List Frame} {meth : Method} {c : Code} {D : va_G} {A : Nat → Prop} {ad : Nat → Nat} {ca : Nat → ClassId} (o : Int32) (C0 : z_cx z_RMo b_Mo_byteAt 3 (some .int) D (z_Mt ca) A p s m args meth c) (q : z_Sg) (t0 : Int32) (h : k_Mo_byteAt_29 t0 q = some o) : ∀ (H : Heap) (locs : List Loc) (ls : Array Slot), z_wd D (z_M ad ca q) A s H locs → lv_has ls 3 [] → W p l e (z_rm 0 0) s m args below meth c H locs 0 0 (z_qi below D (z_Mt ca) (z_M ad ca q) A s args o) (F0 m 29 ls [.int t0]) := by
  obtain ⟨hx, hb, hr, hlk, hml, hown, hts, hK, hA⟩ := id C0
  intro H locs ls hw hl
  have ho := Option.some.inj h
  subst ho
  exact z_rti C0 hw d_Mo_byteAt_29
set_option maxHeartbeats 4000000 in
set_option maxRecDepth 100000 in
theorem w_Mo_byteAt_14 {p : Program} {l : Launch} {e : Env} {s : State} {m : MethodId} {args : Array Value} {below : List Frame} {meth : Method} {c : Code} {D : va_G} {A : Nat → Prop} {ad : Nat → Nat} {ca : Nat → ClassId} (o : Int32) (C0 : z_cx z_RMo b_Mo_byteAt 3 (some .int) D (z_Mt ca) A p s m args meth c) (q : z_Sg) (h : k_Mo_byteAt_14 q = some o) : ∀ (H : Heap) (locs : List Loc) (ls : Array Slot), z_wd D (z_M ad ca q) A s H locs → lv_has ls 3 [] → W p l e (z_rm 0 0) s m args below meth c H locs 0 0 (z_qi below D (z_Mt ca) (z_M ad ca q) A s args o) (F0 m 14 ls []) := by
  obtain ⟨hx, hb, hr, hlk, hml, hown, hts, hK, hA⟩ := id C0
  intro H locs ls hw hl
  refine lv_iconst (v := (0 : Int32)) hx hb d_Mo_byteAt_14 (by decide) ?_
  refine lv_goto (tgt := 29) hx hb d_Mo_byteAt_15 (by decide) ?_
  exact w_Mo_byteAt_29 o C0 q (0 : Int32) h H locs ls hw (lv_sub hl [] rfl)
set_option maxHeartbeats 4000000 in
set_option maxRecDepth 100000 in
theorem c_Mo_byteAt {l : Launch} {D : va_G} {ad : Nat → Nat} {ca : Nat → ClassId} (x1 : Int64) (q : z_Sg) (o : Int32) (h : f_Mo_byteAt x1 q = some o) : z_ci l y_Mo_byteAt b_Mo_byteAt 3 (some .int) 0 0 D (z_Mt ca) (z_M ad ca q) (z_M ad ca q) [.ref (ad 0), .long x1] o := by
  refine z_ci_of (own := z_RMo) (by decide) rfl ?_
  intro p e s m below meth c A C0 hw
  obtain ⟨hx, hb, hr, hlk, hml, hown, hts, hK, hA⟩ := id C0
  generalize hH : s.heap = H at hw ⊢
  generalize hlo : ([] : List Loc) = locs at hw ⊢
  refine z_entry (lv := [(0, .ref (ad 0)), (1, .long x1)]) (Nat.le_of_ble_eq_true rfl) rfl (fun ls hl => ?_)
  unfold f_Mo_byteAt at h
  refine lv_lload_n hx hb d_Mo_byteAt_0 rfl (lv_at hl 1 rfl) ?_
  refine lv_lconst (v := (0 : Int64)) hx hb d_Mo_byteAt_1 (by decide) ?_
  refine W.lcmp hx hb d_Mo_byteAt_2 ?_
  refine lv_if_lt (tgt := 14) hx hb d_Mo_byteAt_3 (by decide) (fun c1 => ?_) (fun c1 => ?_)
  · have h := ok_t h ((lg_cmp_lt _ _).mp c1)
    exact w_Mo_byteAt_14 o C0 q h H locs ls hw (lv_sub hl [] rfl)
  · have h := ok_f h (fun z => c1 ((lg_cmp_lt _ _).mpr z))
    refine lv_lload_n hx hb d_Mo_byteAt_6 rfl (lv_at hl 1 rfl) ?_
    refine lv_ldc2 (own := z_RMo) hx hb hown (hts _ kl_Mo_42) d_Mo_byteAt_7 ?_
    refine W.lcmp hx hb d_Mo_byteAt_10 ?_
    refine lv_if_lt (tgt := 18) hx hb d_Mo_byteAt_11 (by decide) (fun c2 => ?_) (fun c2 => ?_)
    · have h := ok_t h ((lg_cmp_lt _ _).mp c2)
      refine lv_aload_n hx hb d_Mo_byteAt_18 rfl (lv_at hl 0 rfl) ?_
      refine gfM_0_memory C0 hw fl_Mo_8 d_Mo_byteAt_19 ?_
      refine lv_lload_n hx hb d_Mo_byteAt_22 rfl (lv_at hl 1 rfl) ?_
      refine lv_l2i hx hb d_Mo_byteAt_23 rfl ?_
      obtain ⟨b3, h⟩ := ok_g h
      refine alM_1 C0 hw b3 d_Mo_byteAt_24 ?_
      refine lv_sipush (v := (255 : Int32)) hx hb d_Mo_byteAt_25 (by decide) ?_
      refine lv_iand hx hb d_Mo_byteAt_28 ?_
      exact w_Mo_byteAt_29 o C0 q ((z_gN q 0 (x1.toInt32).toNatClampNeg) &&& (255 : Int32)) h H locs ls hw (lv_sub hl [] rfl)
    · have h := ok_f h (fun z => c2 ((lg_cmp_lt _ _).mpr z))
      exact w_Mo_byteAt_14 o C0 q h H locs ls hw (lv_sub hl [] rfl)
def kb_Mo_eight_5 (ih5 : Int64 × Int64 × Int32 → Option Int64) (x1 : Int64) (x3 : Int64) (x5 : Int32) (q : z_Sg) : Option Int64 :=
  if (8 : Int32) ≤ x5 then (some x3) else ((f_Mo_byteAt (x1 + (x5.toInt64)) q).bind (fun r2 => z_nm ((x3 ||| (z_lshl (r2.toInt64) ((8 : Int32) * x5)))) (fun n3 => z_nm (x5 + (1 : Int32)) (fun n4 => ih5 (x1, n3, n4)))))
def k_Mo_eight_5 (x1 : Int64) (x3 : Int64) (x5 : Int32) (q : z_Sg) : Option Int64 := z_lo (fun ih5 a => kb_Mo_eight_5 ih5 a.1 a.2.1 a.2.2 q) 2000 (x1, x3, x5)
def f_Mo_eight (x1 : Int64) (q : z_Sg) : Option Int64 :=
  k_Mo_eight_5 x1 (0 : Int64) (0 : Int32) q
set_option maxHeartbeats 4000000 in
set_option maxRecDepth 100000 in
theorem wb_Mo_eight_5 {p : Program} {l : Launch} {e : Env} {s : State} {m : MethodId} {args : Array Value} {below : List Frame} {meth : Method} {c : Code} {D : va_G} {A : Nat → Prop} {ad : Nat → Nat} {ca : Nat → ClassId} (o : Int64) (C0 : z_cx z_RMo b_Mo_eight 6 (some .long) D (z_Mt ca) A p s m args meth c) (q : z_Sg) (ih5 : Int64 × Int64 × Int32 → Option Int64) (hi5 : ∀ a : Int64 × Int64 × Int32, ih5 a = some o → ∀ (H : Heap) (locs : List Loc) (ls : Array Slot), z_wd D (z_M ad ca q) A s H locs → lv_has ls 6 [(0, .ref (ad 0)), (1, .long a.1), (3, .long a.2.1), (5, .int a.2.2)] → W p l e (z_rm 1 22) s m args below meth c H locs 0 0 (z_ql below D (z_Mt ca) (z_M ad ca q) A s args o) (F0 m 5 ls [])) (x1 : Int64) (x3 : Int64) (x5 : Int32) (h : kb_Mo_eight_5 ih5 x1 x3 x5 q = some o) : ∀ (H : Heap) (locs : List Loc) (ls : Array Slot), z_wd D (z_M ad ca q) A s H locs → lv_has ls 6 [(0, .ref (ad 0)), (1, .long x1), (3, .long x3), (5, .int x5)] → W p l e (z_rm 1 22) s m args below meth c H locs 0 0 (z_ql below D (z_Mt ca) (z_M ad ca q) A s args o) (F0 m 5 ls []) := by
  obtain ⟨hx, hb, hr, hlk, hml, hown, hts, hK, hA⟩ := id C0
  intro H locs ls hw hl
  refine lv_iload hx hb d_Mo_eight_5 (lv_at hl 3 rfl) ?_
  refine lv_bipush (v := (8 : Int32)) hx hb d_Mo_eight_7 (by decide) ?_
  refine lv_icmp_ge (tgt := 37) hx hb d_Mo_eight_9 (by decide) (fun c1 => ?_) (fun c1 => ?_)
  · have h := ok_t h c1
    refine lv_lload_n hx hb d_Mo_eight_37 rfl (lv_at hl 2 rfl) ?_
    have ho := Option.some.inj h
    subst ho
    exact z_rtl C0 hw d_Mo_eight_38
  · have h := ok_f h c1
    refine lv_lload_n hx hb d_Mo_eight_12 rfl (lv_at hl 2 rfl) ?_
    refine lv_aload_n hx hb d_Mo_eight_13 rfl (lv_at hl 0 rfl) ?_
    refine lv_lload_n hx hb d_Mo_eight_14 rfl (lv_at hl 1 rfl) ?_
    refine lv_iload hx hb d_Mo_eight_15 (lv_at hl 3 rfl) ?_
    refine lv_i2l hx hb d_Mo_eight_17 rfl ?_
    refine lv_ladd hx hb d_Mo_eight_18 ?_
    obtain ⟨r2, er2, h⟩ := ok_b h
    refine z_vi (rest := [.long x3]) C0 hw (c_Mo_byteAt (x1 + (x5.toInt64)) q r2 er2) mw_Mo_byteAt ml_Mo_44 0 rfl ⟨Nat.le_of_ble_eq_true rfl, Nat.le_of_ble_eq_true rfl⟩ ⟨Nat.le_refl 0, Nat.le_refl 0⟩ rfl hl.1 rfl (Nat.le_of_ble_eq_true rfl) d_Mo_eight_19 (fun H locs hw => ?_)
    refine lv_i2l hx hb d_Mo_eight_22 rfl ?_
    refine lv_bipush (v := (8 : Int32)) hx hb d_Mo_eight_23 (by decide) ?_
    refine lv_iload hx hb d_Mo_eight_25 (lv_at hl 3 rfl) ?_
    refine lv_imul hx hb d_Mo_eight_27 ?_
    refine lv_lshl (v := (z_lshl (r2.toInt64) ((8 : Int32) * x5))) hx hb d_Mo_eight_28 rfl ?_
    refine lv_lor hx hb d_Mo_eight_29 ?_
    obtain ⟨n3, en3, h⟩ := ok_n h
    refine z_tl en3 ?_
    refine lv_lstore_n (lv' := [(3, .long n3), (0, .ref (ad 0)), (1, .long x1), (5, .int x5)]) hx hb d_Mo_eight_30 rfl hl (by decide) rfl (fun ls hl => ?_)
    obtain ⟨n4, en4, h⟩ := ok_n h
    refine lv_iinc (v := n4) (lv' := [(5, .int n4), (3, .long n3), (0, .ref (ad 0)), (1, .long x1)]) hx hb d_Mo_eight_31 hl (k := 3) rfl (by rw [en4]; rfl) (by decide) rfl (fun ls hl => ?_)
    refine lv_goto (tgt := 5) hx hb d_Mo_eight_34 (by decide) ?_
    exact hi5 (x1, n3, n4) h H locs ls hw (lv_sub hl [2, 3, 1, 0] rfl)
theorem w_Mo_eight_5 {p : Program} {l : Launch} {e : Env} {s : State} {m : MethodId} {args : Array Value} {below : List Frame} {meth : Method} {c : Code} {D : va_G} {A : Nat → Prop} {ad : Nat → Nat} {ca : Nat → ClassId} (o : Int64) (C0 : z_cx z_RMo b_Mo_eight 6 (some .long) D (z_Mt ca) A p s m args meth c) (q : z_Sg) (x1 : Int64) (x3 : Int64) (x5 : Int32) (h : k_Mo_eight_5 x1 x3 x5 q = some o) : ∀ (H : Heap) (locs : List Loc) (ls : Array Slot), z_wd D (z_M ad ca q) A s H locs → lv_has ls 6 [(0, .ref (ad 0)), (1, .long x1), (3, .long x3), (5, .int x5)] → W p l e (z_rm 1 22) s m args below meth c H locs 0 0 (z_ql below D (z_Mt ca) (z_M ad ca q) A s args o) (F0 m 5 ls []) := by
  have key : ∀ (n : Nat) (a : Int64 × Int64 × Int32), z_lo (fun ih5 a => kb_Mo_eight_5 ih5 a.1 a.2.1 a.2.2 q) n a = some o → ∀ (H : Heap) (locs : List Loc) (ls : Array Slot), z_wd D (z_M ad ca q) A s H locs → lv_has ls 6 [(0, .ref (ad 0)), (1, .long a.1), (3, .long a.2.1), (5, .int a.2.2)] → W p l e (z_rm 1 22) s m args below meth c H locs 0 0 (z_ql below D (z_Mt ca) (z_M ad ca q) A s args o) (F0 m 5 ls []) := by
    intro n
    induction n with
    | zero => intro a h; cases h
    | succ n ih => exact fun a h => wb_Mo_eight_5 o C0 q (z_lo (fun ih5 a => kb_Mo_eight_5 ih5 a.1 a.2.1 a.2.2 q) n) ih a.1 a.2.1 a.2.2 h
  exact key 2000 (x1, x3, x5) h
set_option maxHeartbeats 4000000 in
set_option maxRecDepth 100000 in
theorem c_Mo_eight {l : Launch} {D : va_G} {ad : Nat → Nat} {ca : Nat → ClassId} (x1 : Int64) (q : z_Sg) (o : Int64) (h : f_Mo_eight x1 q = some o) : z_cl l y_Mo_eight b_Mo_eight 6 (some .long) 1 22 D (z_Mt ca) (z_M ad ca q) (z_M ad ca q) [.ref (ad 0), .long x1] o := by
  refine z_cl_of (own := z_RMo) (by decide) rfl ?_
  intro p e s m below meth c A C0 hw
  obtain ⟨hx, hb, hr, hlk, hml, hown, hts, hK, hA⟩ := id C0
  generalize hH : s.heap = H at hw ⊢
  generalize hlo : ([] : List Loc) = locs at hw ⊢
  refine z_entry (lv := [(0, .ref (ad 0)), (1, .long x1)]) (Nat.le_of_ble_eq_true rfl) rfl (fun ls hl => ?_)
  unfold f_Mo_eight at h
  refine lv_lconst (v := (0 : Int64)) hx hb d_Mo_eight_0 (by decide) ?_
  refine lv_lstore_n (lv' := [(3, .long (0 : Int64)), (0, .ref (ad 0)), (1, .long x1)]) hx hb d_Mo_eight_1 rfl hl (by decide) rfl (fun ls hl => ?_)
  refine lv_iconst (v := (0 : Int32)) hx hb d_Mo_eight_2 (by decide) ?_
  refine lv_istore (lv' := [(5, .int (0 : Int32)), (3, .long (0 : Int64)), (0, .ref (ad 0)), (1, .long x1)]) hx hb d_Mo_eight_3 hl (by decide) rfl (fun ls hl => ?_)
  exact w_Mo_eight_5 o C0 q x1 (0 : Int64) (0 : Int32) h H locs ls hw (lv_sub hl [2, 3, 1, 0] rfl)
def f_Mo_stored (x1 : Int32) (q : z_Sg) : Option Int64 :=
  (f_Mo_eight (x1.toInt64) q).bind (fun r1 => some r1)
set_option maxHeartbeats 4000000 in
set_option maxRecDepth 100000 in
theorem c_Mo_stored {l : Launch} {D : va_G} {ad : Nat → Nat} {ca : Nat → ClassId} (x1 : Int32) (q : z_Sg) (o : Int64) (h : f_Mo_stored x1 q = some o) : z_cl l y_Mo_stored b_Mo_stored 2 (some .long) 2 47 D (z_Mt ca) (z_M ad ca q) (z_M ad ca q) [.ref (ad 0), .int x1] o := by
  refine z_cl_of (own := z_RMo) (by decide) rfl ?_
  intro p e s m below meth c A C0 hw
  obtain ⟨hx, hb, hr, hlk, hml, hown, hts, hK, hA⟩ := id C0
  generalize hH : s.heap = H at hw ⊢
  generalize hlo : ([] : List Loc) = locs at hw ⊢
  refine z_entry (lv := [(0, .ref (ad 0)), (1, .int x1)]) (Nat.le_of_ble_eq_true rfl) rfl (fun ls hl => ?_)
  unfold f_Mo_stored at h
  refine lv_aload_n hx hb d_Mo_stored_0 rfl (lv_at hl 0 rfl) ?_
  refine lv_iload_n hx hb d_Mo_stored_1 rfl (lv_at hl 1 rfl) ?_
  refine lv_i2l hx hb d_Mo_stored_2 rfl ?_
  obtain ⟨r1, er1, h⟩ := ok_b h
  refine z_vl (rest := []) C0 hw (c_Mo_eight (x1.toInt64) q r1 er1) mw_Mo_eight ml_Mo_62 0 rfl ⟨Nat.le_of_ble_eq_true rfl, Nat.le_of_ble_eq_true rfl⟩ ⟨Nat.le_refl 0, Nat.le_refl 0⟩ rfl hl.1 rfl (Nat.le_of_ble_eq_true rfl) d_Mo_stored_3 (fun H locs hw => ?_)
  have ho := Option.some.inj h
  subst ho
  exact z_rtl C0 hw d_Mo_stored_6
def f_Mo_join (x0 : Int32) (x1 : Int32) (q : z_Sg) : Option Int64 :=
  some ((z_lshl (x0.toInt64) (32 : Int32)) ||| ((x1.toInt64) &&& (4294967295 : Int64)))
set_option maxHeartbeats 4000000 in
set_option maxRecDepth 100000 in
theorem c_Mo_join {l : Launch} {D : va_G} {ad : Nat → Nat} {ca : Nat → ClassId} (x0 : Int32) (x1 : Int32) (q : z_Sg) (o : Int64) (h : f_Mo_join x0 x1 q = some o) : z_cl l y_Mo_join b_Mo_join 2 (some .long) 0 0 D (z_Mt ca) (z_M ad ca q) (z_M ad ca q) [.int x0, .int x1] o := by
  refine z_cl_of (own := z_RMo) (by decide) rfl ?_
  intro p e s m below meth c A C0 hw
  obtain ⟨hx, hb, hr, hlk, hml, hown, hts, hK, hA⟩ := id C0
  generalize hH : s.heap = H at hw ⊢
  generalize hlo : ([] : List Loc) = locs at hw ⊢
  refine z_entry (lv := [(0, .int x0), (1, .int x1)]) (Nat.le_of_ble_eq_true rfl) rfl (fun ls hl => ?_)
  unfold f_Mo_join at h
  refine lv_iload_n hx hb d_Mo_join_0 rfl (lv_at hl 0 rfl) ?_
  refine lv_i2l hx hb d_Mo_join_1 rfl ?_
  refine lv_bipush (v := (32 : Int32)) hx hb d_Mo_join_2 (by decide) ?_
  refine lv_lshl (v := (z_lshl (x0.toInt64) (32 : Int32))) hx hb d_Mo_join_4 rfl ?_
  refine lv_iload_n hx hb d_Mo_join_5 rfl (lv_at hl 1 rfl) ?_
  refine lv_i2l hx hb d_Mo_join_6 rfl ?_
  refine lv_ldc2 (own := z_RMo) hx hb hown (hts _ kl_Mo_459) d_Mo_join_7 ?_
  refine lv_land hx hb d_Mo_join_10 ?_
  refine lv_lor hx hb d_Mo_join_11 ?_
  have ho := Option.some.inj h
  subst ho
  exact z_rtl C0 hw d_Mo_join_12
def k_Mo_setFlags_145 (t1 : Int32) (t2 : Int32) (q : z_Sg) : Option z_Sg :=
  if z_bad t1 7 then none else (z_nm (z_sN q 1 t1.toNatClampNeg (vp_nar .boolean t2)) (fun q21 => some q21))
def k_Mo_setFlags_123 (x1 : Int64) (t1 : Int32) (t2 : Int32) (q : z_Sg) : Option z_Sg :=
  if z_bad t1 7 then none else (z_nm (z_sN q 1 t1.toNatClampNeg (vp_nar .boolean t2)) (fun q18 => if (x1 &&& (2048 : Int64)) = (0 : Int64) then (k_Mo_setFlags_145 (6 : Int32) (0 : Int32) q18) else (k_Mo_setFlags_145 (6 : Int32) (1 : Int32) q18)))
def k_Mo_setFlags_102 (x1 : Int64) (t1 : Int32) (t2 : Int32) (q : z_Sg) : Option z_Sg :=
  if z_bad t1 7 then none else (z_nm (z_sN q 1 t1.toNatClampNeg (vp_nar .boolean t2)) (fun q15 => if (x1 &&& (1024 : Int64)) = (0 : Int64) then (k_Mo_setFlags_123 x1 (5 : Int32) (0 : Int32) q15) else (k_Mo_setFlags_123 x1 (5 : Int32) (1 : Int32) q15)))
def k_Mo_setFlags_81 (x1 : Int64) (t1 : Int32) (t2 : Int32) (q : z_Sg) : Option z_Sg :=
  if z_bad t1 7 then none else (z_nm (z_sN q 1 t1.toNatClampNeg (vp_nar .boolean t2)) (fun q12 => if (x1 &&& (128 : Int64)) = (0 : Int64) then (k_Mo_setFlags_102 x1 (4 : Int32) (0 : Int32) q12) else (k_Mo_setFlags_102 x1 (4 : Int32) (1 : Int32) q12)))
def k_Mo_setFlags_60 (x1 : Int64) (t1 : Int32) (t2 : Int32) (q : z_Sg) : Option z_Sg :=
  if z_bad t1 7 then none else (z_nm (z_sN q 1 t1.toNatClampNeg (vp_nar .boolean t2)) (fun q9 => if (x1 &&& (64 : Int64)) = (0 : Int64) then (k_Mo_setFlags_81 x1 (3 : Int32) (0 : Int32) q9) else (k_Mo_setFlags_81 x1 (3 : Int32) (1 : Int32) q9)))
def k_Mo_setFlags_39 (x1 : Int64) (t1 : Int32) (t2 : Int32) (q : z_Sg) : Option z_Sg :=
  if z_bad t1 7 then none else (z_nm (z_sN q 1 t1.toNatClampNeg (vp_nar .boolean t2)) (fun q6 => if (x1 &&& (16 : Int64)) = (0 : Int64) then (k_Mo_setFlags_60 x1 (2 : Int32) (0 : Int32) q6) else (k_Mo_setFlags_60 x1 (2 : Int32) (1 : Int32) q6)))
def k_Mo_setFlags_18 (x1 : Int64) (t1 : Int32) (t2 : Int32) (q : z_Sg) : Option z_Sg :=
  if z_bad t1 7 then none else (z_nm (z_sN q 1 t1.toNatClampNeg (vp_nar .boolean t2)) (fun q3 => if (x1 &&& (4 : Int64)) = (0 : Int64) then (k_Mo_setFlags_39 x1 (1 : Int32) (0 : Int32) q3) else (k_Mo_setFlags_39 x1 (1 : Int32) (1 : Int32) q3)))
def f_Mo_setFlags (x1 : Int64) (q : z_Sg) : Option z_Sg :=
  if (x1 &&& (1 : Int64)) = (0 : Int64) then (k_Mo_setFlags_18 x1 (0 : Int32) (0 : Int32) q) else (k_Mo_setFlags_18 x1 (0 : Int32) (1 : Int32) q)
set_option maxHeartbeats 4000000 in
set_option maxRecDepth 100000 in
theorem w_Mo_setFlags_145 {p : Program} {l : Launch} {e : Env} {s : State} {m : MethodId} {args : Array Value} {below : List Frame} {meth : Method} {c : Code} {D : va_G} {A : Nat → Prop} {ad : Nat → Nat} {ca : Nat → ClassId} (o : z_Sg) (C0 : z_cx z_RMo b_Mo_setFlags 3 none D (z_Mt ca) A p s m args meth c) (q : z_Sg) (t1 : Int32) (t2 : Int32) (h : k_Mo_setFlags_145 t1 t2 q = some o) : ∀ (H : Heap) (locs : List Loc) (ls : Array Slot), z_wd D (z_M ad ca q) A s H locs → lv_has ls 3 [] → W p l e (z_rm 0 0) s m args below meth c H locs 0 0 (z_qv below D (z_Mt ca) (z_M ad ca o) A s args) (F0 m 145 ls [.int t2, .int t1, .ref (ad 4)]) := by
  obtain ⟨hx, hb, hr, hlk, hml, hown, hts, hK, hA⟩ := id C0
  intro H locs ls hw hl
  obtain ⟨b20, h⟩ := ok_g h
  refine asM_4 C0 hw b20 d_Mo_setFlags_145 (fun H locs hw => ?_)
  obtain ⟨q21, eq21, h⟩ := ok_n h
  rw [← eq21] at hw
  have ho := Option.some.inj h
  subst ho
  exact z_rtv C0 hw d_Mo_setFlags_146
set_option maxHeartbeats 4000000 in
set_option maxRecDepth 100000 in
theorem w_Mo_setFlags_123 {p : Program} {l : Launch} {e : Env} {s : State} {m : MethodId} {args : Array Value} {below : List Frame} {meth : Method} {c : Code} {D : va_G} {A : Nat → Prop} {ad : Nat → Nat} {ca : Nat → ClassId} (o : z_Sg) (C0 : z_cx z_RMo b_Mo_setFlags 3 none D (z_Mt ca) A p s m args meth c) (q : z_Sg) (x1 : Int64) (t1 : Int32) (t2 : Int32) (h : k_Mo_setFlags_123 x1 t1 t2 q = some o) : ∀ (H : Heap) (locs : List Loc) (ls : Array Slot), z_wd D (z_M ad ca q) A s H locs → lv_has ls 3 [(0, .ref (ad 0)), (1, .long x1)] → W p l e (z_rm 0 0) s m args below meth c H locs 0 0 (z_qv below D (z_Mt ca) (z_M ad ca o) A s args) (F0 m 123 ls [.int t2, .int t1, .ref (ad 4)]) := by
  obtain ⟨hx, hb, hr, hlk, hml, hown, hts, hK, hA⟩ := id C0
  intro H locs ls hw hl
  obtain ⟨b17, h⟩ := ok_g h
  refine asM_4 C0 hw b17 d_Mo_setFlags_123 (fun H locs hw => ?_)
  obtain ⟨q18, eq18, h⟩ := ok_n h
  rw [← eq18] at hw
  refine lv_aload_n hx hb d_Mo_setFlags_124 rfl (lv_at hl 0 rfl) ?_
  refine gfM_0_flag C0 hw fl_Mo_21 d_Mo_setFlags_125 ?_
  refine lv_bipush (v := (6 : Int32)) hx hb d_Mo_setFlags_128 (by decide) ?_
  refine lv_lload_n hx hb d_Mo_setFlags_130 rfl (lv_at hl 1 rfl) ?_
  refine lv_ldc2 (own := z_RMo) hx hb hown (hts _ kl_Mo_457) d_Mo_setFlags_131 ?_
  refine lv_land hx hb d_Mo_setFlags_134 ?_
  refine lv_lconst (v := (0 : Int64)) hx hb d_Mo_setFlags_135 (by decide) ?_
  refine W.lcmp hx hb d_Mo_setFlags_136 ?_
  refine lv_if_eq (tgt := 144) hx hb d_Mo_setFlags_137 (by decide) (fun c19 => ?_) (fun c19 => ?_)
  · have h := ok_t h ((lg_cmp_eq _ _).mp c19)
    refine lv_iconst (v := (0 : Int32)) hx hb d_Mo_setFlags_144 (by decide) ?_
    exact w_Mo_setFlags_145 o C0 q18 (6 : Int32) (0 : Int32) h H locs ls hw (lv_sub hl [] rfl)
  · have h := ok_f h (fun z => c19 ((lg_cmp_eq _ _).mpr z))
    refine lv_iconst (v := (1 : Int32)) hx hb d_Mo_setFlags_140 (by decide) ?_
    refine lv_goto (tgt := 145) hx hb d_Mo_setFlags_141 (by decide) ?_
    exact w_Mo_setFlags_145 o C0 q18 (6 : Int32) (1 : Int32) h H locs ls hw (lv_sub hl [] rfl)
set_option maxHeartbeats 4000000 in
set_option maxRecDepth 100000 in
theorem w_Mo_setFlags_102 {p : Program} {l : Launch} {e : Env} {s : State} {m : MethodId} {args : Array Value} {below : List Frame} {meth : Method} {c : Code} {D : va_G} {A : Nat → Prop} {ad : Nat → Nat} {ca : Nat → ClassId} (o : z_Sg) (C0 : z_cx z_RMo b_Mo_setFlags 3 none D (z_Mt ca) A p s m args meth c) (q : z_Sg) (x1 : Int64) (t1 : Int32) (t2 : Int32) (h : k_Mo_setFlags_102 x1 t1 t2 q = some o) : ∀ (H : Heap) (locs : List Loc) (ls : Array Slot), z_wd D (z_M ad ca q) A s H locs → lv_has ls 3 [(0, .ref (ad 0)), (1, .long x1)] → W p l e (z_rm 0 0) s m args below meth c H locs 0 0 (z_qv below D (z_Mt ca) (z_M ad ca o) A s args) (F0 m 102 ls [.int t2, .int t1, .ref (ad 4)]) := by
  obtain ⟨hx, hb, hr, hlk, hml, hown, hts, hK, hA⟩ := id C0
  intro H locs ls hw hl
  obtain ⟨b14, h⟩ := ok_g h
  refine asM_4 C0 hw b14 d_Mo_setFlags_102 (fun H locs hw => ?_)
  obtain ⟨q15, eq15, h⟩ := ok_n h
  rw [← eq15] at hw
  refine lv_aload_n hx hb d_Mo_setFlags_103 rfl (lv_at hl 0 rfl) ?_
  refine gfM_0_flag C0 hw fl_Mo_21 d_Mo_setFlags_104 ?_
  refine lv_iconst (v := (5 : Int32)) hx hb d_Mo_setFlags_107 (by decide) ?_
  refine lv_lload_n hx hb d_Mo_setFlags_108 rfl (lv_at hl 1 rfl) ?_
  refine lv_ldc2 (own := z_RMo) hx hb hown (hts _ kl_Mo_455) d_Mo_setFlags_109 ?_
  refine lv_land hx hb d_Mo_setFlags_112 ?_
  refine lv_lconst (v := (0 : Int64)) hx hb d_Mo_setFlags_113 (by decide) ?_
  refine W.lcmp hx hb d_Mo_setFlags_114 ?_
  refine lv_if_eq (tgt := 122) hx hb d_Mo_setFlags_115 (by decide) (fun c16 => ?_) (fun c16 => ?_)
  · have h := ok_t h ((lg_cmp_eq _ _).mp c16)
    refine lv_iconst (v := (0 : Int32)) hx hb d_Mo_setFlags_122 (by decide) ?_
    exact w_Mo_setFlags_123 o C0 q15 x1 (5 : Int32) (0 : Int32) h H locs ls hw (lv_sub hl [0, 1] rfl)
  · have h := ok_f h (fun z => c16 ((lg_cmp_eq _ _).mpr z))
    refine lv_iconst (v := (1 : Int32)) hx hb d_Mo_setFlags_118 (by decide) ?_
    refine lv_goto (tgt := 123) hx hb d_Mo_setFlags_119 (by decide) ?_
    exact w_Mo_setFlags_123 o C0 q15 x1 (5 : Int32) (1 : Int32) h H locs ls hw (lv_sub hl [0, 1] rfl)
set_option maxHeartbeats 4000000 in
set_option maxRecDepth 100000 in
theorem w_Mo_setFlags_81 {p : Program} {l : Launch} {e : Env} {s : State} {m : MethodId} {args : Array Value} {below : List Frame} {meth : Method} {c : Code} {D : va_G} {A : Nat → Prop} {ad : Nat → Nat} {ca : Nat → ClassId} (o : z_Sg) (C0 : z_cx z_RMo b_Mo_setFlags 3 none D (z_Mt ca) A p s m args meth c) (q : z_Sg) (x1 : Int64) (t1 : Int32) (t2 : Int32) (h : k_Mo_setFlags_81 x1 t1 t2 q = some o) : ∀ (H : Heap) (locs : List Loc) (ls : Array Slot), z_wd D (z_M ad ca q) A s H locs → lv_has ls 3 [(0, .ref (ad 0)), (1, .long x1)] → W p l e (z_rm 0 0) s m args below meth c H locs 0 0 (z_qv below D (z_Mt ca) (z_M ad ca o) A s args) (F0 m 81 ls [.int t2, .int t1, .ref (ad 4)]) := by
  obtain ⟨hx, hb, hr, hlk, hml, hown, hts, hK, hA⟩ := id C0
  intro H locs ls hw hl
  obtain ⟨b11, h⟩ := ok_g h
  refine asM_4 C0 hw b11 d_Mo_setFlags_81 (fun H locs hw => ?_)
  obtain ⟨q12, eq12, h⟩ := ok_n h
  rw [← eq12] at hw
  refine lv_aload_n hx hb d_Mo_setFlags_82 rfl (lv_at hl 0 rfl) ?_
  refine gfM_0_flag C0 hw fl_Mo_21 d_Mo_setFlags_83 ?_
  refine lv_iconst (v := (4 : Int32)) hx hb d_Mo_setFlags_86 (by decide) ?_
  refine lv_lload_n hx hb d_Mo_setFlags_87 rfl (lv_at hl 1 rfl) ?_
  refine lv_ldc2 (own := z_RMo) hx hb hown (hts _ kl_Mo_66) d_Mo_setFlags_88 ?_
  refine lv_land hx hb d_Mo_setFlags_91 ?_
  refine lv_lconst (v := (0 : Int64)) hx hb d_Mo_setFlags_92 (by decide) ?_
  refine W.lcmp hx hb d_Mo_setFlags_93 ?_
  refine lv_if_eq (tgt := 101) hx hb d_Mo_setFlags_94 (by decide) (fun c13 => ?_) (fun c13 => ?_)
  · have h := ok_t h ((lg_cmp_eq _ _).mp c13)
    refine lv_iconst (v := (0 : Int32)) hx hb d_Mo_setFlags_101 (by decide) ?_
    exact w_Mo_setFlags_102 o C0 q12 x1 (4 : Int32) (0 : Int32) h H locs ls hw (lv_sub hl [0, 1] rfl)
  · have h := ok_f h (fun z => c13 ((lg_cmp_eq _ _).mpr z))
    refine lv_iconst (v := (1 : Int32)) hx hb d_Mo_setFlags_97 (by decide) ?_
    refine lv_goto (tgt := 102) hx hb d_Mo_setFlags_98 (by decide) ?_
    exact w_Mo_setFlags_102 o C0 q12 x1 (4 : Int32) (1 : Int32) h H locs ls hw (lv_sub hl [0, 1] rfl)
set_option maxHeartbeats 4000000 in
set_option maxRecDepth 100000 in
theorem w_Mo_setFlags_60 {p : Program} {l : Launch} {e : Env} {s : State} {m : MethodId} {args : Array Value} {below : List Frame} {meth : Method} {c : Code} {D : va_G} {A : Nat → Prop} {ad : Nat → Nat} {ca : Nat → ClassId} (o : z_Sg) (C0 : z_cx z_RMo b_Mo_setFlags 3 none D (z_Mt ca) A p s m args meth c) (q : z_Sg) (x1 : Int64) (t1 : Int32) (t2 : Int32) (h : k_Mo_setFlags_60 x1 t1 t2 q = some o) : ∀ (H : Heap) (locs : List Loc) (ls : Array Slot), z_wd D (z_M ad ca q) A s H locs → lv_has ls 3 [(0, .ref (ad 0)), (1, .long x1)] → W p l e (z_rm 0 0) s m args below meth c H locs 0 0 (z_qv below D (z_Mt ca) (z_M ad ca o) A s args) (F0 m 60 ls [.int t2, .int t1, .ref (ad 4)]) := by
  obtain ⟨hx, hb, hr, hlk, hml, hown, hts, hK, hA⟩ := id C0
  intro H locs ls hw hl
  obtain ⟨b8, h⟩ := ok_g h
  refine asM_4 C0 hw b8 d_Mo_setFlags_60 (fun H locs hw => ?_)
  obtain ⟨q9, eq9, h⟩ := ok_n h
  rw [← eq9] at hw
  refine lv_aload_n hx hb d_Mo_setFlags_61 rfl (lv_at hl 0 rfl) ?_
  refine gfM_0_flag C0 hw fl_Mo_21 d_Mo_setFlags_62 ?_
  refine lv_iconst (v := (3 : Int32)) hx hb d_Mo_setFlags_65 (by decide) ?_
  refine lv_lload_n hx hb d_Mo_setFlags_66 rfl (lv_at hl 1 rfl) ?_
  refine lv_ldc2 (own := z_RMo) hx hb hown (hts _ kl_Mo_453) d_Mo_setFlags_67 ?_
  refine lv_land hx hb d_Mo_setFlags_70 ?_
  refine lv_lconst (v := (0 : Int64)) hx hb d_Mo_setFlags_71 (by decide) ?_
  refine W.lcmp hx hb d_Mo_setFlags_72 ?_
  refine lv_if_eq (tgt := 80) hx hb d_Mo_setFlags_73 (by decide) (fun c10 => ?_) (fun c10 => ?_)
  · have h := ok_t h ((lg_cmp_eq _ _).mp c10)
    refine lv_iconst (v := (0 : Int32)) hx hb d_Mo_setFlags_80 (by decide) ?_
    exact w_Mo_setFlags_81 o C0 q9 x1 (3 : Int32) (0 : Int32) h H locs ls hw (lv_sub hl [0, 1] rfl)
  · have h := ok_f h (fun z => c10 ((lg_cmp_eq _ _).mpr z))
    refine lv_iconst (v := (1 : Int32)) hx hb d_Mo_setFlags_76 (by decide) ?_
    refine lv_goto (tgt := 81) hx hb d_Mo_setFlags_77 (by decide) ?_
    exact w_Mo_setFlags_81 o C0 q9 x1 (3 : Int32) (1 : Int32) h H locs ls hw (lv_sub hl [0, 1] rfl)
set_option maxHeartbeats 4000000 in
set_option maxRecDepth 100000 in
theorem w_Mo_setFlags_39 {p : Program} {l : Launch} {e : Env} {s : State} {m : MethodId} {args : Array Value} {below : List Frame} {meth : Method} {c : Code} {D : va_G} {A : Nat → Prop} {ad : Nat → Nat} {ca : Nat → ClassId} (o : z_Sg) (C0 : z_cx z_RMo b_Mo_setFlags 3 none D (z_Mt ca) A p s m args meth c) (q : z_Sg) (x1 : Int64) (t1 : Int32) (t2 : Int32) (h : k_Mo_setFlags_39 x1 t1 t2 q = some o) : ∀ (H : Heap) (locs : List Loc) (ls : Array Slot), z_wd D (z_M ad ca q) A s H locs → lv_has ls 3 [(0, .ref (ad 0)), (1, .long x1)] → W p l e (z_rm 0 0) s m args below meth c H locs 0 0 (z_qv below D (z_Mt ca) (z_M ad ca o) A s args) (F0 m 39 ls [.int t2, .int t1, .ref (ad 4)]) := by
  obtain ⟨hx, hb, hr, hlk, hml, hown, hts, hK, hA⟩ := id C0
  intro H locs ls hw hl
  obtain ⟨b5, h⟩ := ok_g h
  refine asM_4 C0 hw b5 d_Mo_setFlags_39 (fun H locs hw => ?_)
  obtain ⟨q6, eq6, h⟩ := ok_n h
  rw [← eq6] at hw
  refine lv_aload_n hx hb d_Mo_setFlags_40 rfl (lv_at hl 0 rfl) ?_
  refine gfM_0_flag C0 hw fl_Mo_21 d_Mo_setFlags_41 ?_
  refine lv_iconst (v := (2 : Int32)) hx hb d_Mo_setFlags_44 (by decide) ?_
  refine lv_lload_n hx hb d_Mo_setFlags_45 rfl (lv_at hl 1 rfl) ?_
  refine lv_ldc2 (own := z_RMo) hx hb hown (hts _ kl_Mo_451) d_Mo_setFlags_46 ?_
  refine lv_land hx hb d_Mo_setFlags_49 ?_
  refine lv_lconst (v := (0 : Int64)) hx hb d_Mo_setFlags_50 (by decide) ?_
  refine W.lcmp hx hb d_Mo_setFlags_51 ?_
  refine lv_if_eq (tgt := 59) hx hb d_Mo_setFlags_52 (by decide) (fun c7 => ?_) (fun c7 => ?_)
  · have h := ok_t h ((lg_cmp_eq _ _).mp c7)
    refine lv_iconst (v := (0 : Int32)) hx hb d_Mo_setFlags_59 (by decide) ?_
    exact w_Mo_setFlags_60 o C0 q6 x1 (2 : Int32) (0 : Int32) h H locs ls hw (lv_sub hl [0, 1] rfl)
  · have h := ok_f h (fun z => c7 ((lg_cmp_eq _ _).mpr z))
    refine lv_iconst (v := (1 : Int32)) hx hb d_Mo_setFlags_55 (by decide) ?_
    refine lv_goto (tgt := 60) hx hb d_Mo_setFlags_56 (by decide) ?_
    exact w_Mo_setFlags_60 o C0 q6 x1 (2 : Int32) (1 : Int32) h H locs ls hw (lv_sub hl [0, 1] rfl)
set_option maxHeartbeats 4000000 in
set_option maxRecDepth 100000 in
theorem w_Mo_setFlags_18 {p : Program} {l : Launch} {e : Env} {s : State} {m : MethodId} {args : Array Value} {below : List Frame} {meth : Method} {c : Code} {D : va_G} {A : Nat → Prop} {ad : Nat → Nat} {ca : Nat → ClassId} (o : z_Sg) (C0 : z_cx z_RMo b_Mo_setFlags 3 none D (z_Mt ca) A p s m args meth c) (q : z_Sg) (x1 : Int64) (t1 : Int32) (t2 : Int32) (h : k_Mo_setFlags_18 x1 t1 t2 q = some o) : ∀ (H : Heap) (locs : List Loc) (ls : Array Slot), z_wd D (z_M ad ca q) A s H locs → lv_has ls 3 [(0, .ref (ad 0)), (1, .long x1)] → W p l e (z_rm 0 0) s m args below meth c H locs 0 0 (z_qv below D (z_Mt ca) (z_M ad ca o) A s args) (F0 m 18 ls [.int t2, .int t1, .ref (ad 4)]) := by
  obtain ⟨hx, hb, hr, hlk, hml, hown, hts, hK, hA⟩ := id C0
  intro H locs ls hw hl
  obtain ⟨b2, h⟩ := ok_g h
  refine asM_4 C0 hw b2 d_Mo_setFlags_18 (fun H locs hw => ?_)
  obtain ⟨q3, eq3, h⟩ := ok_n h
  rw [← eq3] at hw
  refine lv_aload_n hx hb d_Mo_setFlags_19 rfl (lv_at hl 0 rfl) ?_
  refine gfM_0_flag C0 hw fl_Mo_21 d_Mo_setFlags_20 ?_
  refine lv_iconst (v := (1 : Int32)) hx hb d_Mo_setFlags_23 (by decide) ?_
  refine lv_lload_n hx hb d_Mo_setFlags_24 rfl (lv_at hl 1 rfl) ?_
  refine lv_ldc2 (own := z_RMo) hx hb hown (hts _ kl_Mo_75) d_Mo_setFlags_25 ?_
  refine lv_land hx hb d_Mo_setFlags_28 ?_
  refine lv_lconst (v := (0 : Int64)) hx hb d_Mo_setFlags_29 (by decide) ?_
  refine W.lcmp hx hb d_Mo_setFlags_30 ?_
  refine lv_if_eq (tgt := 38) hx hb d_Mo_setFlags_31 (by decide) (fun c4 => ?_) (fun c4 => ?_)
  · have h := ok_t h ((lg_cmp_eq _ _).mp c4)
    refine lv_iconst (v := (0 : Int32)) hx hb d_Mo_setFlags_38 (by decide) ?_
    exact w_Mo_setFlags_39 o C0 q3 x1 (1 : Int32) (0 : Int32) h H locs ls hw (lv_sub hl [0, 1] rfl)
  · have h := ok_f h (fun z => c4 ((lg_cmp_eq _ _).mpr z))
    refine lv_iconst (v := (1 : Int32)) hx hb d_Mo_setFlags_34 (by decide) ?_
    refine lv_goto (tgt := 39) hx hb d_Mo_setFlags_35 (by decide) ?_
    exact w_Mo_setFlags_39 o C0 q3 x1 (1 : Int32) (1 : Int32) h H locs ls hw (lv_sub hl [0, 1] rfl)
set_option maxHeartbeats 4000000 in
set_option maxRecDepth 100000 in
theorem c_Mo_setFlags {l : Launch} {D : va_G} {ad : Nat → Nat} {ca : Nat → ClassId} (x1 : Int64) (q : z_Sg) (o : z_Sg) (h : f_Mo_setFlags x1 q = some o) : z_cv l y_Mo_setFlags b_Mo_setFlags 3 none 0 0 D (z_Mt ca) (z_M ad ca q) (z_M ad ca o) [.ref (ad 0), .long x1] := by
  refine z_cv_of (own := z_RMo) (by decide) rfl ?_
  intro p e s m below meth c A C0 hw
  obtain ⟨hx, hb, hr, hlk, hml, hown, hts, hK, hA⟩ := id C0
  generalize hH : s.heap = H at hw ⊢
  generalize hlo : ([] : List Loc) = locs at hw ⊢
  refine z_entry (lv := [(0, .ref (ad 0)), (1, .long x1)]) (Nat.le_of_ble_eq_true rfl) rfl (fun ls hl => ?_)
  unfold f_Mo_setFlags at h
  refine lv_aload_n hx hb d_Mo_setFlags_0 rfl (lv_at hl 0 rfl) ?_
  refine gfM_0_flag C0 hw fl_Mo_21 d_Mo_setFlags_1 ?_
  refine lv_iconst (v := (0 : Int32)) hx hb d_Mo_setFlags_4 (by decide) ?_
  refine lv_lload_n hx hb d_Mo_setFlags_5 rfl (lv_at hl 1 rfl) ?_
  refine lv_lconst (v := (1 : Int64)) hx hb d_Mo_setFlags_6 (by decide) ?_
  refine lv_land hx hb d_Mo_setFlags_7 ?_
  refine lv_lconst (v := (0 : Int64)) hx hb d_Mo_setFlags_8 (by decide) ?_
  refine W.lcmp hx hb d_Mo_setFlags_9 ?_
  refine lv_if_eq (tgt := 17) hx hb d_Mo_setFlags_10 (by decide) (fun c1 => ?_) (fun c1 => ?_)
  · have h := ok_t h ((lg_cmp_eq _ _).mp c1)
    refine lv_iconst (v := (0 : Int32)) hx hb d_Mo_setFlags_17 (by decide) ?_
    exact w_Mo_setFlags_18 o C0 q x1 (0 : Int32) (0 : Int32) h H locs ls hw (lv_sub hl [0, 1] rfl)
  · have h := ok_f h (fun z => c1 ((lg_cmp_eq _ _).mpr z))
    refine lv_iconst (v := (1 : Int32)) hx hb d_Mo_setFlags_13 (by decide) ?_
    refine lv_goto (tgt := 18) hx hb d_Mo_setFlags_14 (by decide) ?_
    exact w_Mo_setFlags_18 o C0 q x1 (0 : Int32) (1 : Int32) h H locs ls hw (lv_sub hl [0, 1] rfl)
def k_Mo_set_17 (q : z_Sg) : Option (Int32 × z_Sg) :=
  some ((0 : Int32), q)
def k_Mo_set_105 (q : z_Sg) : Option (Int32 × z_Sg) :=
  some ((1 : Int32), q)
def k_Mo_set_93 (x1 : Int32) (x4 : Int64) (q : z_Sg) : Option (Int32 × z_Sg) :=
  if x1 = (21 : Int32) then (z_nm (z_sL q 4 x4) (fun q11 => k_Mo_set_105 q11)) else (k_Mo_set_105 q)
def k_Mo_set_81 (x1 : Int32) (x4 : Int64) (q : z_Sg) : Option (Int32 × z_Sg) :=
  if x1 = (20 : Int32) then ((f_Mo_setFlags x4 q).bind (fun r12 => k_Mo_set_93 x1 x4 r12)) else (k_Mo_set_93 x1 x4 q)
def k_Mo_set_69 (x1 : Int32) (x4 : Int64) (q : z_Sg) : Option (Int32 × z_Sg) :=
  if x1 = (19 : Int32) then (z_nm (z_sL q 3 x4) (fun q13 => k_Mo_set_81 x1 x4 q13)) else (k_Mo_set_81 x1 x4 q)
def k_Mo_set_57 (x1 : Int32) (x4 : Int64) (q : z_Sg) : Option (Int32 × z_Sg) :=
  if x1 = (18 : Int32) then (z_nm (z_sL q 2 x4) (fun q14 => k_Mo_set_69 x1 x4 q14)) else (k_Mo_set_69 x1 x4 q)
def k_Mo_set_45 (x1 : Int32) (x4 : Int64) (q : z_Sg) : Option (Int32 × z_Sg) :=
  if x1 = (17 : Int32) then (z_nm (z_sL q 1 x4) (fun q15 => k_Mo_set_57 x1 x4 q15)) else (k_Mo_set_57 x1 x4 q)
def k_Mo_set_33 (x1 : Int32) (x4 : Int64) (q : z_Sg) : Option (Int32 × z_Sg) :=
  if x1 = (16 : Int32) then (z_nm (z_sL q 0 x4) (fun q16 => k_Mo_set_45 x1 x4 q16)) else (k_Mo_set_45 x1 x4 q)
def f_Mo_set (x1 : Int32) (x2 : Int32) (x3 : Int32) (q : z_Sg) : Option (Int32 × z_Sg) :=
  (f_Mo_join x2 x3 q).bind (fun r1 => if x1 < 0 then (k_Mo_set_17 q) else (if x1 ≤ (21 : Int32) then (if (16 : Int32) ≤ x1 then (k_Mo_set_33 x1 r1 q) else (if z_bad x1 16 then none else (z_nm (z_sM q 0 x1.toNatClampNeg r1) (fun q18 => k_Mo_set_33 x1 r1 q18)))) else (k_Mo_set_17 q)))
set_option maxHeartbeats 4000000 in
set_option maxRecDepth 100000 in
theorem w_Mo_set_17 {p : Program} {l : Launch} {e : Env} {s : State} {m : MethodId} {args : Array Value} {below : List Frame} {meth : Method} {c : Code} {D : va_G} {A : Nat → Prop} {ad : Nat → Nat} {ca : Nat → ClassId} (o : (Int32 × z_Sg)) (C0 : z_cx z_RMo b_Mo_set 6 (some .boolean) D (z_Mt ca) A p s m args meth c) (q : z_Sg) (h : k_Mo_set_17 q = some o) : ∀ (H : Heap) (locs : List Loc) (ls : Array Slot), z_wd D (z_M ad ca q) A s H locs → lv_has ls 6 [] → W p l e (z_rm 1 22) s m args below meth c H locs 0 0 (z_qi below D (z_Mt ca) (z_M ad ca o.2) A s args o.1) (F0 m 17 ls []) := by
  obtain ⟨hx, hb, hr, hlk, hml, hown, hts, hK, hA⟩ := id C0
  intro H locs ls hw hl
  refine lv_iconst (v := (0 : Int32)) hx hb d_Mo_set_17 (by decide) ?_
  have ho := Option.some.inj h
  subst ho
  exact z_rtz C0 hw (z_bo_n (Or.inl rfl)) d_Mo_set_18
set_option maxHeartbeats 4000000 in
set_option maxRecDepth 100000 in
theorem w_Mo_set_105 {p : Program} {l : Launch} {e : Env} {s : State} {m : MethodId} {args : Array Value} {below : List Frame} {meth : Method} {c : Code} {D : va_G} {A : Nat → Prop} {ad : Nat → Nat} {ca : Nat → ClassId} (o : (Int32 × z_Sg)) (C0 : z_cx z_RMo b_Mo_set 6 (some .boolean) D (z_Mt ca) A p s m args meth c) (q : z_Sg) (h : k_Mo_set_105 q = some o) : ∀ (H : Heap) (locs : List Loc) (ls : Array Slot), z_wd D (z_M ad ca q) A s H locs → lv_has ls 6 [] → W p l e (z_rm 1 22) s m args below meth c H locs 0 0 (z_qi below D (z_Mt ca) (z_M ad ca o.2) A s args o.1) (F0 m 105 ls []) := by
  obtain ⟨hx, hb, hr, hlk, hml, hown, hts, hK, hA⟩ := id C0
  intro H locs ls hw hl
  refine lv_iconst (v := (1 : Int32)) hx hb d_Mo_set_105 (by decide) ?_
  have ho := Option.some.inj h
  subst ho
  exact z_rtz C0 hw (z_bo_n (Or.inr rfl)) d_Mo_set_106
set_option maxHeartbeats 4000000 in
set_option maxRecDepth 100000 in
theorem w_Mo_set_93 {p : Program} {l : Launch} {e : Env} {s : State} {m : MethodId} {args : Array Value} {below : List Frame} {meth : Method} {c : Code} {D : va_G} {A : Nat → Prop} {ad : Nat → Nat} {ca : Nat → ClassId} (o : (Int32 × z_Sg)) (C0 : z_cx z_RMo b_Mo_set 6 (some .boolean) D (z_Mt ca) A p s m args meth c) (q : z_Sg) (x1 : Int32) (x4 : Int64) (h : k_Mo_set_93 x1 x4 q = some o) : ∀ (H : Heap) (locs : List Loc) (ls : Array Slot), z_wd D (z_M ad ca q) A s H locs → lv_has ls 6 [(0, .ref (ad 0)), (1, .int x1), (4, .long x4)] → W p l e (z_rm 1 22) s m args below meth c H locs 0 0 (z_qi below D (z_Mt ca) (z_M ad ca o.2) A s args o.1) (F0 m 93 ls []) := by
  obtain ⟨hx, hb, hr, hlk, hml, hown, hts, hK, hA⟩ := id C0
  intro H locs ls hw hl
  refine lv_iload_n hx hb d_Mo_set_93 rfl (lv_at hl 1 rfl) ?_
  refine lv_bipush (v := (21 : Int32)) hx hb d_Mo_set_94 (by decide) ?_
  refine lv_icmp_ne (tgt := 105) hx hb d_Mo_set_96 (by decide) (fun c10 => ?_) (fun c10 => ?_)
  · have h := ok_f h c10
    exact w_Mo_set_105 o C0 q h H locs ls hw (lv_sub hl [] rfl)
  · have h := ok_t h c10
    refine lv_aload_n hx hb d_Mo_set_99 rfl (lv_at hl 0 rfl) ?_
    refine lv_lload hx hb d_Mo_set_100 (lv_at hl 2 rfl) ?_
    refine pfM_0_undefined C0 hw fl_Mo_205 d_Mo_set_102 (fun H locs hw => ?_)
    obtain ⟨q11, eq11, h⟩ := ok_n h
    rw [← eq11] at hw
    exact w_Mo_set_105 o C0 q11 h H locs ls hw (lv_sub hl [] rfl)
set_option maxHeartbeats 4000000 in
set_option maxRecDepth 100000 in
theorem w_Mo_set_81 {p : Program} {l : Launch} {e : Env} {s : State} {m : MethodId} {args : Array Value} {below : List Frame} {meth : Method} {c : Code} {D : va_G} {A : Nat → Prop} {ad : Nat → Nat} {ca : Nat → ClassId} (o : (Int32 × z_Sg)) (C0 : z_cx z_RMo b_Mo_set 6 (some .boolean) D (z_Mt ca) A p s m args meth c) (q : z_Sg) (x1 : Int32) (x4 : Int64) (h : k_Mo_set_81 x1 x4 q = some o) : ∀ (H : Heap) (locs : List Loc) (ls : Array Slot), z_wd D (z_M ad ca q) A s H locs → lv_has ls 6 [(0, .ref (ad 0)), (1, .int x1), (4, .long x4)] → W p l e (z_rm 1 22) s m args below meth c H locs 0 0 (z_qi below D (z_Mt ca) (z_M ad ca o.2) A s args o.1) (F0 m 81 ls []) := by
  obtain ⟨hx, hb, hr, hlk, hml, hown, hts, hK, hA⟩ := id C0
  intro H locs ls hw hl
  refine lv_iload_n hx hb d_Mo_set_81 rfl (lv_at hl 1 rfl) ?_
  refine lv_bipush (v := (20 : Int32)) hx hb d_Mo_set_82 (by decide) ?_
  refine lv_icmp_ne (tgt := 93) hx hb d_Mo_set_84 (by decide) (fun c9 => ?_) (fun c9 => ?_)
  · have h := ok_f h c9
    exact w_Mo_set_93 o C0 q x1 x4 h H locs ls hw (lv_sub hl [0, 1, 2] rfl)
  · have h := ok_t h c9
    refine lv_aload_n hx hb d_Mo_set_87 rfl (lv_at hl 0 rfl) ?_
    refine lv_lload hx hb d_Mo_set_88 (lv_at hl 2 rfl) ?_
    obtain ⟨r12, er12, h⟩ := ok_b h
    refine z_vv (rest := []) C0 hw (c_Mo_setFlags x4 q r12 er12) mw_Mo_setFlags ml_Mo_316 0 rfl ⟨Nat.le_of_ble_eq_true rfl, Nat.le_of_ble_eq_true rfl⟩ ⟨Nat.le_refl 0, Nat.le_refl 0⟩ rfl hl.1 rfl (Nat.le_of_ble_eq_true rfl) d_Mo_set_90 (fun H locs hw => ?_)
    exact w_Mo_set_93 o C0 r12 x1 x4 h H locs ls hw (lv_sub hl [0, 1, 2] rfl)
set_option maxHeartbeats 4000000 in
set_option maxRecDepth 100000 in
theorem w_Mo_set_69 {p : Program} {l : Launch} {e : Env} {s : State} {m : MethodId} {args : Array Value} {below : List Frame} {meth : Method} {c : Code} {D : va_G} {A : Nat → Prop} {ad : Nat → Nat} {ca : Nat → ClassId} (o : (Int32 × z_Sg)) (C0 : z_cx z_RMo b_Mo_set 6 (some .boolean) D (z_Mt ca) A p s m args meth c) (q : z_Sg) (x1 : Int32) (x4 : Int64) (h : k_Mo_set_69 x1 x4 q = some o) : ∀ (H : Heap) (locs : List Loc) (ls : Array Slot), z_wd D (z_M ad ca q) A s H locs → lv_has ls 6 [(0, .ref (ad 0)), (1, .int x1), (4, .long x4)] → W p l e (z_rm 1 22) s m args below meth c H locs 0 0 (z_qi below D (z_Mt ca) (z_M ad ca o.2) A s args o.1) (F0 m 69 ls []) := by
  obtain ⟨hx, hb, hr, hlk, hml, hown, hts, hK, hA⟩ := id C0
  intro H locs ls hw hl
  refine lv_iload_n hx hb d_Mo_set_69 rfl (lv_at hl 1 rfl) ?_
  refine lv_bipush (v := (19 : Int32)) hx hb d_Mo_set_70 (by decide) ?_
  refine lv_icmp_ne (tgt := 81) hx hb d_Mo_set_72 (by decide) (fun c8 => ?_) (fun c8 => ?_)
  · have h := ok_f h c8
    exact w_Mo_set_81 o C0 q x1 x4 h H locs ls hw (lv_sub hl [0, 1, 2] rfl)
  · have h := ok_t h c8
    refine lv_aload_n hx hb d_Mo_set_75 rfl (lv_at hl 0 rfl) ?_
    refine lv_lload hx hb d_Mo_set_76 (lv_at hl 2 rfl) ?_
    refine pfM_0_mask C0 hw fl_Mo_448 d_Mo_set_78 (fun H locs hw => ?_)
    obtain ⟨q13, eq13, h⟩ := ok_n h
    rw [← eq13] at hw
    exact w_Mo_set_81 o C0 q13 x1 x4 h H locs ls hw (lv_sub hl [0, 1, 2] rfl)
set_option maxHeartbeats 4000000 in
set_option maxRecDepth 100000 in
theorem w_Mo_set_57 {p : Program} {l : Launch} {e : Env} {s : State} {m : MethodId} {args : Array Value} {below : List Frame} {meth : Method} {c : Code} {D : va_G} {A : Nat → Prop} {ad : Nat → Nat} {ca : Nat → ClassId} (o : (Int32 × z_Sg)) (C0 : z_cx z_RMo b_Mo_set 6 (some .boolean) D (z_Mt ca) A p s m args meth c) (q : z_Sg) (x1 : Int32) (x4 : Int64) (h : k_Mo_set_57 x1 x4 q = some o) : ∀ (H : Heap) (locs : List Loc) (ls : Array Slot), z_wd D (z_M ad ca q) A s H locs → lv_has ls 6 [(0, .ref (ad 0)), (1, .int x1), (4, .long x4)] → W p l e (z_rm 1 22) s m args below meth c H locs 0 0 (z_qi below D (z_Mt ca) (z_M ad ca o.2) A s args o.1) (F0 m 57 ls []) := by
  obtain ⟨hx, hb, hr, hlk, hml, hown, hts, hK, hA⟩ := id C0
  intro H locs ls hw hl
  refine lv_iload_n hx hb d_Mo_set_57 rfl (lv_at hl 1 rfl) ?_
  refine lv_bipush (v := (18 : Int32)) hx hb d_Mo_set_58 (by decide) ?_
  refine lv_icmp_ne (tgt := 69) hx hb d_Mo_set_60 (by decide) (fun c7 => ?_) (fun c7 => ?_)
  · have h := ok_f h c7
    exact w_Mo_set_69 o C0 q x1 x4 h H locs ls hw (lv_sub hl [0, 1, 2] rfl)
  · have h := ok_t h c7
    refine lv_aload_n hx hb d_Mo_set_63 rfl (lv_at hl 0 rfl) ?_
    refine lv_lload hx hb d_Mo_set_64 (lv_at hl 2 rfl) ?_
    refine pfM_0_entryPlace C0 hw fl_Mo_445 d_Mo_set_66 (fun H locs hw => ?_)
    obtain ⟨q14, eq14, h⟩ := ok_n h
    rw [← eq14] at hw
    exact w_Mo_set_69 o C0 q14 x1 x4 h H locs ls hw (lv_sub hl [0, 1, 2] rfl)
set_option maxHeartbeats 4000000 in
set_option maxRecDepth 100000 in
theorem w_Mo_set_45 {p : Program} {l : Launch} {e : Env} {s : State} {m : MethodId} {args : Array Value} {below : List Frame} {meth : Method} {c : Code} {D : va_G} {A : Nat → Prop} {ad : Nat → Nat} {ca : Nat → ClassId} (o : (Int32 × z_Sg)) (C0 : z_cx z_RMo b_Mo_set 6 (some .boolean) D (z_Mt ca) A p s m args meth c) (q : z_Sg) (x1 : Int32) (x4 : Int64) (h : k_Mo_set_45 x1 x4 q = some o) : ∀ (H : Heap) (locs : List Loc) (ls : Array Slot), z_wd D (z_M ad ca q) A s H locs → lv_has ls 6 [(0, .ref (ad 0)), (1, .int x1), (4, .long x4)] → W p l e (z_rm 1 22) s m args below meth c H locs 0 0 (z_qi below D (z_Mt ca) (z_M ad ca o.2) A s args o.1) (F0 m 45 ls []) := by
  obtain ⟨hx, hb, hr, hlk, hml, hown, hts, hK, hA⟩ := id C0
  intro H locs ls hw hl
  refine lv_iload_n hx hb d_Mo_set_45 rfl (lv_at hl 1 rfl) ?_
  refine lv_bipush (v := (17 : Int32)) hx hb d_Mo_set_46 (by decide) ?_
  refine lv_icmp_ne (tgt := 57) hx hb d_Mo_set_48 (by decide) (fun c6 => ?_) (fun c6 => ?_)
  · have h := ok_f h c6
    exact w_Mo_set_57 o C0 q x1 x4 h H locs ls hw (lv_sub hl [0, 1, 2] rfl)
  · have h := ok_t h c6
    refine lv_aload_n hx hb d_Mo_set_51 rfl (lv_at hl 0 rfl) ?_
    refine lv_lload hx hb d_Mo_set_52 (lv_at hl 2 rfl) ?_
    refine pfM_0_table C0 hw fl_Mo_52 d_Mo_set_54 (fun H locs hw => ?_)
    obtain ⟨q15, eq15, h⟩ := ok_n h
    rw [← eq15] at hw
    exact w_Mo_set_57 o C0 q15 x1 x4 h H locs ls hw (lv_sub hl [0, 1, 2] rfl)
set_option maxHeartbeats 4000000 in
set_option maxRecDepth 100000 in
theorem w_Mo_set_33 {p : Program} {l : Launch} {e : Env} {s : State} {m : MethodId} {args : Array Value} {below : List Frame} {meth : Method} {c : Code} {D : va_G} {A : Nat → Prop} {ad : Nat → Nat} {ca : Nat → ClassId} (o : (Int32 × z_Sg)) (C0 : z_cx z_RMo b_Mo_set 6 (some .boolean) D (z_Mt ca) A p s m args meth c) (q : z_Sg) (x1 : Int32) (x4 : Int64) (h : k_Mo_set_33 x1 x4 q = some o) : ∀ (H : Heap) (locs : List Loc) (ls : Array Slot), z_wd D (z_M ad ca q) A s H locs → lv_has ls 6 [(0, .ref (ad 0)), (1, .int x1), (4, .long x4)] → W p l e (z_rm 1 22) s m args below meth c H locs 0 0 (z_qi below D (z_Mt ca) (z_M ad ca o.2) A s args o.1) (F0 m 33 ls []) := by
  obtain ⟨hx, hb, hr, hlk, hml, hown, hts, hK, hA⟩ := id C0
  intro H locs ls hw hl
  refine lv_iload_n hx hb d_Mo_set_33 rfl (lv_at hl 1 rfl) ?_
  refine lv_bipush (v := (16 : Int32)) hx hb d_Mo_set_34 (by decide) ?_
  refine lv_icmp_ne (tgt := 45) hx hb d_Mo_set_36 (by decide) (fun c5 => ?_) (fun c5 => ?_)
  · have h := ok_f h c5
    exact w_Mo_set_45 o C0 q x1 x4 h H locs ls hw (lv_sub hl [0, 1, 2] rfl)
  · have h := ok_t h c5
    refine lv_aload_n hx hb d_Mo_set_39 rfl (lv_at hl 0 rfl) ?_
    refine lv_lload hx hb d_Mo_set_40 (lv_at hl 2 rfl) ?_
    refine pfM_0_next C0 hw fl_Mo_111 d_Mo_set_42 (fun H locs hw => ?_)
    obtain ⟨q16, eq16, h⟩ := ok_n h
    rw [← eq16] at hw
    exact w_Mo_set_45 o C0 q16 x1 x4 h H locs ls hw (lv_sub hl [0, 1, 2] rfl)
set_option maxHeartbeats 4000000 in
set_option maxRecDepth 100000 in
theorem c_Mo_set {l : Launch} {D : va_G} {ad : Nat → Nat} {ca : Nat → ClassId} (x1 : Int32) (x2 : Int32) (x3 : Int32) (q : z_Sg) (o : (Int32 × z_Sg)) (h : f_Mo_set x1 x2 x3 q = some o) : z_ci l y_Mo_set b_Mo_set 6 (some .boolean) 1 22 D (z_Mt ca) (z_M ad ca q) (z_M ad ca o.2) [.ref (ad 0), .int x1, .int x2, .int x3] o.1 := by
  refine z_ci_of (own := z_RMo) (by decide) rfl ?_
  intro p e s m below meth c A C0 hw
  obtain ⟨hx, hb, hr, hlk, hml, hown, hts, hK, hA⟩ := id C0
  generalize hH : s.heap = H at hw ⊢
  generalize hlo : ([] : List Loc) = locs at hw ⊢
  refine z_entry (lv := [(0, .ref (ad 0)), (1, .int x1), (2, .int x2), (3, .int x3)]) (Nat.le_of_ble_eq_true rfl) rfl (fun ls hl => ?_)
  unfold f_Mo_set at h
  refine lv_iload_n hx hb d_Mo_set_0 rfl (lv_at hl 2 rfl) ?_
  refine lv_iload_n hx hb d_Mo_set_1 rfl (lv_at hl 3 rfl) ?_
  obtain ⟨r1, er1, h⟩ := ok_b h
  refine z_sl (rest := []) C0 hw (c_Mo_join x2 x3 q r1 er1) mw_Mo_join ml_Mo_461 ⟨Nat.le_of_ble_eq_true rfl, Nat.le_of_ble_eq_true rfl⟩ ⟨Nat.le_refl 0, Nat.le_refl 0⟩ rfl hl.1 rfl (Nat.le_of_ble_eq_true rfl) d_Mo_set_2 (fun H locs hw => ?_)
  refine lv_lstore (lv' := [(4, .long r1), (0, .ref (ad 0)), (1, .int x1), (2, .int x2), (3, .int x3)]) hx hb d_Mo_set_5 hl (by decide) rfl (fun ls hl => ?_)
  refine lv_iload_n hx hb d_Mo_set_7 rfl (lv_at hl 2 rfl) ?_
  refine lv_if_lt (tgt := 17) hx hb d_Mo_set_8 (by decide) (fun c2 => ?_) (fun c2 => ?_)
  · have h := ok_t h c2
    exact w_Mo_set_17 o C0 q h H locs ls hw (lv_sub hl [] rfl)
  · have h := ok_f h c2
    refine lv_iload_n hx hb d_Mo_set_11 rfl (lv_at hl 2 rfl) ?_
    refine lv_bipush (v := (21 : Int32)) hx hb d_Mo_set_12 (by decide) ?_
    refine lv_icmp_le (tgt := 19) hx hb d_Mo_set_14 (by decide) (fun c3 => ?_) (fun c3 => ?_)
    · have h := ok_t h c3
      refine lv_iload_n hx hb d_Mo_set_19 rfl (lv_at hl 2 rfl) ?_
      refine lv_bipush (v := (16 : Int32)) hx hb d_Mo_set_20 (by decide) ?_
      refine lv_icmp_ge (tgt := 33) hx hb d_Mo_set_22 (by decide) (fun c4 => ?_) (fun c4 => ?_)
      · have h := ok_t h c4
        exact w_Mo_set_33 o C0 q x1 r1 h H locs ls hw (lv_sub hl [1, 2, 0] rfl)
      · have h := ok_f h c4
        refine lv_aload_n hx hb d_Mo_set_25 rfl (lv_at hl 1 rfl) ?_
        refine gfM_0_r C0 hw fl_Mo_14 d_Mo_set_26 ?_
        refine lv_iload_n hx hb d_Mo_set_29 rfl (lv_at hl 2 rfl) ?_
        refine lv_lload hx hb d_Mo_set_30 (lv_at hl 0 rfl) ?_
        obtain ⟨b17, h⟩ := ok_g h
        refine asM_2 C0 hw b17 d_Mo_set_32 (fun H locs hw => ?_)
        obtain ⟨q18, eq18, h⟩ := ok_n h
        rw [← eq18] at hw
        exact w_Mo_set_33 o C0 q18 x1 r1 h H locs ls hw (lv_sub hl [1, 2, 0] rfl)
    · have h := ok_f h c3
      exact w_Mo_set_17 o C0 q h H locs ls hw (lv_sub hl [] rfl)
def k_Mo_flags_116 (t0 : Int64) (t1 : Int64) (q : z_Sg) : Option Int64 :=
  some (t0 + t1)
def k_Mo_flags_98 (t0 : Int64) (t1 : Int64) (q : z_Sg) : Option Int64 :=
  if z_bad (6 : Int32) 7 then none else (if (z_gN q 1 (6 : Int32).toNatClampNeg) = 0 then (k_Mo_flags_116 (t0 + t1) (0 : Int64) q) else (k_Mo_flags_116 (t0 + t1) (2048 : Int64) q))
def k_Mo_flags_81 (t0 : Int64) (t1 : Int64) (q : z_Sg) : Option Int64 :=
  if z_bad (5 : Int32) 7 then none else (if (z_gN q 1 (5 : Int32).toNatClampNeg) = 0 then (k_Mo_flags_98 (t0 + t1) (0 : Int64) q) else (k_Mo_flags_98 (t0 + t1) (1024 : Int64) q))
def k_Mo_flags_64 (t0 : Int64) (t1 : Int64) (q : z_Sg) : Option Int64 :=
  if z_bad (4 : Int32) 7 then none else (if (z_gN q 1 (4 : Int32).toNatClampNeg) = 0 then (k_Mo_flags_81 (t0 + t1) (0 : Int64) q) else (k_Mo_flags_81 (t0 + t1) (128 : Int64) q))
def k_Mo_flags_47 (t0 : Int64) (t1 : Int64) (q : z_Sg) : Option Int64 :=
  if z_bad (3 : Int32) 7 then none else (if (z_gN q 1 (3 : Int32).toNatClampNeg) = 0 then (k_Mo_flags_64 (t0 + t1) (0 : Int64) q) else (k_Mo_flags_64 (t0 + t1) (64 : Int64) q))
def k_Mo_flags_30 (t0 : Int64) (t1 : Int64) (q : z_Sg) : Option Int64 :=
  if z_bad (2 : Int32) 7 then none else (if (z_gN q 1 (2 : Int32).toNatClampNeg) = 0 then (k_Mo_flags_47 (t0 + t1) (0 : Int64) q) else (k_Mo_flags_47 (t0 + t1) (16 : Int64) q))
def k_Mo_flags_14 (t0 : Int64) (q : z_Sg) : Option Int64 :=
  if z_bad (1 : Int32) 7 then none else (if (z_gN q 1 (1 : Int32).toNatClampNeg) = 0 then (k_Mo_flags_30 t0 (0 : Int64) q) else (k_Mo_flags_30 t0 (4 : Int64) q))
def f_Mo_flags (q : z_Sg) : Option Int64 :=
  if z_bad (0 : Int32) 7 then none else (if (z_gN q 1 (0 : Int32).toNatClampNeg) = 0 then (k_Mo_flags_14 (0 : Int64) q) else (k_Mo_flags_14 (1 : Int64) q))
set_option maxHeartbeats 4000000 in
set_option maxRecDepth 100000 in
theorem w_Mo_flags_116 {p : Program} {l : Launch} {e : Env} {s : State} {m : MethodId} {args : Array Value} {below : List Frame} {meth : Method} {c : Code} {D : va_G} {A : Nat → Prop} {ad : Nat → Nat} {ca : Nat → ClassId} (o : Int64) (C0 : z_cx z_RMo b_Mo_flags 1 (some .long) D (z_Mt ca) A p s m args meth c) (q : z_Sg) (t0 : Int64) (t1 : Int64) (h : k_Mo_flags_116 t0 t1 q = some o) : ∀ (H : Heap) (locs : List Loc) (ls : Array Slot), z_wd D (z_M ad ca q) A s H locs → lv_has ls 1 [] → W p l e (z_rm 0 0) s m args below meth c H locs 0 0 (z_ql below D (z_Mt ca) (z_M ad ca q) A s args o) (F0 m 116 ls [.long t1, .long t0]) := by
  obtain ⟨hx, hb, hr, hlk, hml, hown, hts, hK, hA⟩ := id C0
  intro H locs ls hw hl
  refine lv_ladd hx hb d_Mo_flags_116 ?_
  have ho := Option.some.inj h
  subst ho
  exact z_rtl C0 hw d_Mo_flags_117
set_option maxHeartbeats 4000000 in
set_option maxRecDepth 100000 in
theorem w_Mo_flags_98 {p : Program} {l : Launch} {e : Env} {s : State} {m : MethodId} {args : Array Value} {below : List Frame} {meth : Method} {c : Code} {D : va_G} {A : Nat → Prop} {ad : Nat → Nat} {ca : Nat → ClassId} (o : Int64) (C0 : z_cx z_RMo b_Mo_flags 1 (some .long) D (z_Mt ca) A p s m args meth c) (q : z_Sg) (t0 : Int64) (t1 : Int64) (h : k_Mo_flags_98 t0 t1 q = some o) : ∀ (H : Heap) (locs : List Loc) (ls : Array Slot), z_wd D (z_M ad ca q) A s H locs → lv_has ls 1 [(0, .ref (ad 0))] → W p l e (z_rm 0 0) s m args below meth c H locs 0 0 (z_ql below D (z_Mt ca) (z_M ad ca q) A s args o) (F0 m 98 ls [.long t1, .long t0]) := by
  obtain ⟨hx, hb, hr, hlk, hml, hown, hts, hK, hA⟩ := id C0
  intro H locs ls hw hl
  refine lv_ladd hx hb d_Mo_flags_98 ?_
  refine lv_aload_n hx hb d_Mo_flags_99 rfl (lv_at hl 0 rfl) ?_
  refine gfM_0_flag C0 hw fl_Mo_21 d_Mo_flags_100 ?_
  refine lv_bipush (v := (6 : Int32)) hx hb d_Mo_flags_103 (by decide) ?_
  obtain ⟨b13, h⟩ := ok_g h
  refine alM_4 C0 hw b13 d_Mo_flags_105 ?_
  refine lv_if_eq (tgt := 115) hx hb d_Mo_flags_106 (by decide) (fun c14 => ?_) (fun c14 => ?_)
  · have h := ok_t h c14
    refine lv_lconst (v := (0 : Int64)) hx hb d_Mo_flags_115 (by decide) ?_
    exact w_Mo_flags_116 o C0 q (t0 + t1) (0 : Int64) h H locs ls hw (lv_sub hl [] rfl)
  · have h := ok_f h c14
    refine lv_ldc2 (own := z_RMo) hx hb hown (hts _ kl_Mo_457) d_Mo_flags_109 ?_
    refine lv_goto (tgt := 116) hx hb d_Mo_flags_112 (by decide) ?_
    exact w_Mo_flags_116 o C0 q (t0 + t1) (2048 : Int64) h H locs ls hw (lv_sub hl [] rfl)
set_option maxHeartbeats 4000000 in
set_option maxRecDepth 100000 in
theorem w_Mo_flags_81 {p : Program} {l : Launch} {e : Env} {s : State} {m : MethodId} {args : Array Value} {below : List Frame} {meth : Method} {c : Code} {D : va_G} {A : Nat → Prop} {ad : Nat → Nat} {ca : Nat → ClassId} (o : Int64) (C0 : z_cx z_RMo b_Mo_flags 1 (some .long) D (z_Mt ca) A p s m args meth c) (q : z_Sg) (t0 : Int64) (t1 : Int64) (h : k_Mo_flags_81 t0 t1 q = some o) : ∀ (H : Heap) (locs : List Loc) (ls : Array Slot), z_wd D (z_M ad ca q) A s H locs → lv_has ls 1 [(0, .ref (ad 0))] → W p l e (z_rm 0 0) s m args below meth c H locs 0 0 (z_ql below D (z_Mt ca) (z_M ad ca q) A s args o) (F0 m 81 ls [.long t1, .long t0]) := by
  obtain ⟨hx, hb, hr, hlk, hml, hown, hts, hK, hA⟩ := id C0
  intro H locs ls hw hl
  refine lv_ladd hx hb d_Mo_flags_81 ?_
  refine lv_aload_n hx hb d_Mo_flags_82 rfl (lv_at hl 0 rfl) ?_
  refine gfM_0_flag C0 hw fl_Mo_21 d_Mo_flags_83 ?_
  refine lv_iconst (v := (5 : Int32)) hx hb d_Mo_flags_86 (by decide) ?_
  obtain ⟨b11, h⟩ := ok_g h
  refine alM_4 C0 hw b11 d_Mo_flags_87 ?_
  refine lv_if_eq (tgt := 97) hx hb d_Mo_flags_88 (by decide) (fun c12 => ?_) (fun c12 => ?_)
  · have h := ok_t h c12
    refine lv_lconst (v := (0 : Int64)) hx hb d_Mo_flags_97 (by decide) ?_
    exact w_Mo_flags_98 o C0 q (t0 + t1) (0 : Int64) h H locs ls hw (lv_sub hl [0] rfl)
  · have h := ok_f h c12
    refine lv_ldc2 (own := z_RMo) hx hb hown (hts _ kl_Mo_455) d_Mo_flags_91 ?_
    refine lv_goto (tgt := 98) hx hb d_Mo_flags_94 (by decide) ?_
    exact w_Mo_flags_98 o C0 q (t0 + t1) (1024 : Int64) h H locs ls hw (lv_sub hl [0] rfl)
set_option maxHeartbeats 4000000 in
set_option maxRecDepth 100000 in
theorem w_Mo_flags_64 {p : Program} {l : Launch} {e : Env} {s : State} {m : MethodId} {args : Array Value} {below : List Frame} {meth : Method} {c : Code} {D : va_G} {A : Nat → Prop} {ad : Nat → Nat} {ca : Nat → ClassId} (o : Int64) (C0 : z_cx z_RMo b_Mo_flags 1 (some .long) D (z_Mt ca) A p s m args meth c) (q : z_Sg) (t0 : Int64) (t1 : Int64) (h : k_Mo_flags_64 t0 t1 q = some o) : ∀ (H : Heap) (locs : List Loc) (ls : Array Slot), z_wd D (z_M ad ca q) A s H locs → lv_has ls 1 [(0, .ref (ad 0))] → W p l e (z_rm 0 0) s m args below meth c H locs 0 0 (z_ql below D (z_Mt ca) (z_M ad ca q) A s args o) (F0 m 64 ls [.long t1, .long t0]) := by
  obtain ⟨hx, hb, hr, hlk, hml, hown, hts, hK, hA⟩ := id C0
  intro H locs ls hw hl
  refine lv_ladd hx hb d_Mo_flags_64 ?_
  refine lv_aload_n hx hb d_Mo_flags_65 rfl (lv_at hl 0 rfl) ?_
  refine gfM_0_flag C0 hw fl_Mo_21 d_Mo_flags_66 ?_
  refine lv_iconst (v := (4 : Int32)) hx hb d_Mo_flags_69 (by decide) ?_
  obtain ⟨b9, h⟩ := ok_g h
  refine alM_4 C0 hw b9 d_Mo_flags_70 ?_
  refine lv_if_eq (tgt := 80) hx hb d_Mo_flags_71 (by decide) (fun c10 => ?_) (fun c10 => ?_)
  · have h := ok_t h c10
    refine lv_lconst (v := (0 : Int64)) hx hb d_Mo_flags_80 (by decide) ?_
    exact w_Mo_flags_81 o C0 q (t0 + t1) (0 : Int64) h H locs ls hw (lv_sub hl [0] rfl)
  · have h := ok_f h c10
    refine lv_ldc2 (own := z_RMo) hx hb hown (hts _ kl_Mo_66) d_Mo_flags_74 ?_
    refine lv_goto (tgt := 81) hx hb d_Mo_flags_77 (by decide) ?_
    exact w_Mo_flags_81 o C0 q (t0 + t1) (128 : Int64) h H locs ls hw (lv_sub hl [0] rfl)
set_option maxHeartbeats 4000000 in
set_option maxRecDepth 100000 in
theorem w_Mo_flags_47 {p : Program} {l : Launch} {e : Env} {s : State} {m : MethodId} {args : Array Value} {below : List Frame} {meth : Method} {c : Code} {D : va_G} {A : Nat → Prop} {ad : Nat → Nat} {ca : Nat → ClassId} (o : Int64) (C0 : z_cx z_RMo b_Mo_flags 1 (some .long) D (z_Mt ca) A p s m args meth c) (q : z_Sg) (t0 : Int64) (t1 : Int64) (h : k_Mo_flags_47 t0 t1 q = some o) : ∀ (H : Heap) (locs : List Loc) (ls : Array Slot), z_wd D (z_M ad ca q) A s H locs → lv_has ls 1 [(0, .ref (ad 0))] → W p l e (z_rm 0 0) s m args below meth c H locs 0 0 (z_ql below D (z_Mt ca) (z_M ad ca q) A s args o) (F0 m 47 ls [.long t1, .long t0]) := by
  obtain ⟨hx, hb, hr, hlk, hml, hown, hts, hK, hA⟩ := id C0
  intro H locs ls hw hl
  refine lv_ladd hx hb d_Mo_flags_47 ?_
  refine lv_aload_n hx hb d_Mo_flags_48 rfl (lv_at hl 0 rfl) ?_
  refine gfM_0_flag C0 hw fl_Mo_21 d_Mo_flags_49 ?_
  refine lv_iconst (v := (3 : Int32)) hx hb d_Mo_flags_52 (by decide) ?_
  obtain ⟨b7, h⟩ := ok_g h
  refine alM_4 C0 hw b7 d_Mo_flags_53 ?_
  refine lv_if_eq (tgt := 63) hx hb d_Mo_flags_54 (by decide) (fun c8 => ?_) (fun c8 => ?_)
  · have h := ok_t h c8
    refine lv_lconst (v := (0 : Int64)) hx hb d_Mo_flags_63 (by decide) ?_
    exact w_Mo_flags_64 o C0 q (t0 + t1) (0 : Int64) h H locs ls hw (lv_sub hl [0] rfl)
  · have h := ok_f h c8
    refine lv_ldc2 (own := z_RMo) hx hb hown (hts _ kl_Mo_453) d_Mo_flags_57 ?_
    refine lv_goto (tgt := 64) hx hb d_Mo_flags_60 (by decide) ?_
    exact w_Mo_flags_64 o C0 q (t0 + t1) (64 : Int64) h H locs ls hw (lv_sub hl [0] rfl)
set_option maxHeartbeats 4000000 in
set_option maxRecDepth 100000 in
theorem w_Mo_flags_30 {p : Program} {l : Launch} {e : Env} {s : State} {m : MethodId} {args : Array Value} {below : List Frame} {meth : Method} {c : Code} {D : va_G} {A : Nat → Prop} {ad : Nat → Nat} {ca : Nat → ClassId} (o : Int64) (C0 : z_cx z_RMo b_Mo_flags 1 (some .long) D (z_Mt ca) A p s m args meth c) (q : z_Sg) (t0 : Int64) (t1 : Int64) (h : k_Mo_flags_30 t0 t1 q = some o) : ∀ (H : Heap) (locs : List Loc) (ls : Array Slot), z_wd D (z_M ad ca q) A s H locs → lv_has ls 1 [(0, .ref (ad 0))] → W p l e (z_rm 0 0) s m args below meth c H locs 0 0 (z_ql below D (z_Mt ca) (z_M ad ca q) A s args o) (F0 m 30 ls [.long t1, .long t0]) := by
  obtain ⟨hx, hb, hr, hlk, hml, hown, hts, hK, hA⟩ := id C0
  intro H locs ls hw hl
  refine lv_ladd hx hb d_Mo_flags_30 ?_
  refine lv_aload_n hx hb d_Mo_flags_31 rfl (lv_at hl 0 rfl) ?_
  refine gfM_0_flag C0 hw fl_Mo_21 d_Mo_flags_32 ?_
  refine lv_iconst (v := (2 : Int32)) hx hb d_Mo_flags_35 (by decide) ?_
  obtain ⟨b5, h⟩ := ok_g h
  refine alM_4 C0 hw b5 d_Mo_flags_36 ?_
  refine lv_if_eq (tgt := 46) hx hb d_Mo_flags_37 (by decide) (fun c6 => ?_) (fun c6 => ?_)
  · have h := ok_t h c6
    refine lv_lconst (v := (0 : Int64)) hx hb d_Mo_flags_46 (by decide) ?_
    exact w_Mo_flags_47 o C0 q (t0 + t1) (0 : Int64) h H locs ls hw (lv_sub hl [0] rfl)
  · have h := ok_f h c6
    refine lv_ldc2 (own := z_RMo) hx hb hown (hts _ kl_Mo_451) d_Mo_flags_40 ?_
    refine lv_goto (tgt := 47) hx hb d_Mo_flags_43 (by decide) ?_
    exact w_Mo_flags_47 o C0 q (t0 + t1) (16 : Int64) h H locs ls hw (lv_sub hl [0] rfl)
set_option maxHeartbeats 4000000 in
set_option maxRecDepth 100000 in
theorem w_Mo_flags_14 {p : Program} {l : Launch} {e : Env} {s : State} {m : MethodId} {args : Array Value} {below : List Frame} {meth : Method} {c : Code} {D : va_G} {A : Nat → Prop} {ad : Nat → Nat} {ca : Nat → ClassId} (o : Int64) (C0 : z_cx z_RMo b_Mo_flags 1 (some .long) D (z_Mt ca) A p s m args meth c) (q : z_Sg) (t0 : Int64) (h : k_Mo_flags_14 t0 q = some o) : ∀ (H : Heap) (locs : List Loc) (ls : Array Slot), z_wd D (z_M ad ca q) A s H locs → lv_has ls 1 [(0, .ref (ad 0))] → W p l e (z_rm 0 0) s m args below meth c H locs 0 0 (z_ql below D (z_Mt ca) (z_M ad ca q) A s args o) (F0 m 14 ls [.long t0]) := by
  obtain ⟨hx, hb, hr, hlk, hml, hown, hts, hK, hA⟩ := id C0
  intro H locs ls hw hl
  refine lv_aload_n hx hb d_Mo_flags_14 rfl (lv_at hl 0 rfl) ?_
  refine gfM_0_flag C0 hw fl_Mo_21 d_Mo_flags_15 ?_
  refine lv_iconst (v := (1 : Int32)) hx hb d_Mo_flags_18 (by decide) ?_
  obtain ⟨b3, h⟩ := ok_g h
  refine alM_4 C0 hw b3 d_Mo_flags_19 ?_
  refine lv_if_eq (tgt := 29) hx hb d_Mo_flags_20 (by decide) (fun c4 => ?_) (fun c4 => ?_)
  · have h := ok_t h c4
    refine lv_lconst (v := (0 : Int64)) hx hb d_Mo_flags_29 (by decide) ?_
    exact w_Mo_flags_30 o C0 q t0 (0 : Int64) h H locs ls hw (lv_sub hl [0] rfl)
  · have h := ok_f h c4
    refine lv_ldc2 (own := z_RMo) hx hb hown (hts _ kl_Mo_75) d_Mo_flags_23 ?_
    refine lv_goto (tgt := 30) hx hb d_Mo_flags_26 (by decide) ?_
    exact w_Mo_flags_30 o C0 q t0 (4 : Int64) h H locs ls hw (lv_sub hl [0] rfl)
set_option maxHeartbeats 4000000 in
set_option maxRecDepth 100000 in
theorem c_Mo_flags {l : Launch} {D : va_G} {ad : Nat → Nat} {ca : Nat → ClassId} (q : z_Sg) (o : Int64) (h : f_Mo_flags q = some o) : z_cl l y_Mo_flags b_Mo_flags 1 (some .long) 0 0 D (z_Mt ca) (z_M ad ca q) (z_M ad ca q) [.ref (ad 0)] o := by
  refine z_cl_of (own := z_RMo) (by decide) rfl ?_
  intro p e s m below meth c A C0 hw
  obtain ⟨hx, hb, hr, hlk, hml, hown, hts, hK, hA⟩ := id C0
  generalize hH : s.heap = H at hw ⊢
  generalize hlo : ([] : List Loc) = locs at hw ⊢
  refine z_entry (lv := [(0, .ref (ad 0))]) (Nat.le_of_ble_eq_true rfl) rfl (fun ls hl => ?_)
  unfold f_Mo_flags at h
  refine lv_aload_n hx hb d_Mo_flags_0 rfl (lv_at hl 0 rfl) ?_
  refine gfM_0_flag C0 hw fl_Mo_21 d_Mo_flags_1 ?_
  refine lv_iconst (v := (0 : Int32)) hx hb d_Mo_flags_4 (by decide) ?_
  obtain ⟨b1, h⟩ := ok_g h
  refine alM_4 C0 hw b1 d_Mo_flags_5 ?_
  refine lv_if_eq (tgt := 13) hx hb d_Mo_flags_6 (by decide) (fun c2 => ?_) (fun c2 => ?_)
  · have h := ok_t h c2
    refine lv_lconst (v := (0 : Int64)) hx hb d_Mo_flags_13 (by decide) ?_
    exact w_Mo_flags_14 o C0 q (0 : Int64) h H locs ls hw (lv_sub hl [0] rfl)
  · have h := ok_f h c2
    refine lv_lconst (v := (1 : Int64)) hx hb d_Mo_flags_9 (by decide) ?_
    refine lv_goto (tgt := 14) hx hb d_Mo_flags_10 (by decide) ?_
    exact w_Mo_flags_14 o C0 q (1 : Int64) h H locs ls hw (lv_sub hl [0] rfl)
def k_Mo_get_10 (q : z_Sg) : Option Int64 :=
  some (0 : Int64)
def k_Mo_get_127 (t0 : Int64) (q : z_Sg) : Option Int64 :=
  some t0
def f_Mo_get (x1 : Int32) (q : z_Sg) : Option Int64 :=
  if x1 < 0 then (k_Mo_get_10 q) else (if x1 ≤ (24 : Int32) then (if (16 : Int32) ≤ x1 then (if x1 = (16 : Int32) then (some (z_gL q 0)) else (if x1 = (17 : Int32) then (some (z_gL q 1)) else (if x1 = (18 : Int32) then (some (z_gL q 2)) else (if x1 = (19 : Int32) then (some (z_gL q 3)) else (if x1 = (20 : Int32) then ((f_Mo_flags q).bind (fun r9 => some r9)) else (if x1 = (21 : Int32) then (some (z_gL q 4)) else (if x1 = (22 : Int32) then (some (z_gL q 5)) else (if x1 = (23 : Int32) then (some ((z_gI q 0).toInt64)) else (if (z_gI q 2) = 0 then (k_Mo_get_127 (0 : Int64) q) else (k_Mo_get_127 (3 : Int64) q)))))))))) else (if z_bad x1 16 then none else (some (z_gM q 0 x1.toNatClampNeg)))) else (k_Mo_get_10 q))
set_option maxHeartbeats 4000000 in
set_option maxRecDepth 100000 in
theorem w_Mo_get_10 {p : Program} {l : Launch} {e : Env} {s : State} {m : MethodId} {args : Array Value} {below : List Frame} {meth : Method} {c : Code} {D : va_G} {A : Nat → Prop} {ad : Nat → Nat} {ca : Nat → ClassId} (o : Int64) (C0 : z_cx z_RMo b_Mo_get 2 (some .long) D (z_Mt ca) A p s m args meth c) (q : z_Sg) (h : k_Mo_get_10 q = some o) : ∀ (H : Heap) (locs : List Loc) (ls : Array Slot), z_wd D (z_M ad ca q) A s H locs → lv_has ls 2 [] → W p l e (z_rm 1 20) s m args below meth c H locs 0 0 (z_ql below D (z_Mt ca) (z_M ad ca q) A s args o) (F0 m 10 ls []) := by
  obtain ⟨hx, hb, hr, hlk, hml, hown, hts, hK, hA⟩ := id C0
  intro H locs ls hw hl
  refine lv_lconst (v := (0 : Int64)) hx hb d_Mo_get_10 (by decide) ?_
  have ho := Option.some.inj h
  subst ho
  exact z_rtl C0 hw d_Mo_get_11
set_option maxHeartbeats 4000000 in
set_option maxRecDepth 100000 in
theorem w_Mo_get_127 {p : Program} {l : Launch} {e : Env} {s : State} {m : MethodId} {args : Array Value} {below : List Frame} {meth : Method} {c : Code} {D : va_G} {A : Nat → Prop} {ad : Nat → Nat} {ca : Nat → ClassId} (o : Int64) (C0 : z_cx z_RMo b_Mo_get 2 (some .long) D (z_Mt ca) A p s m args meth c) (q : z_Sg) (t0 : Int64) (h : k_Mo_get_127 t0 q = some o) : ∀ (H : Heap) (locs : List Loc) (ls : Array Slot), z_wd D (z_M ad ca q) A s H locs → lv_has ls 2 [] → W p l e (z_rm 1 20) s m args below meth c H locs 0 0 (z_ql below D (z_Mt ca) (z_M ad ca q) A s args o) (F0 m 127 ls [.long t0]) := by
  obtain ⟨hx, hb, hr, hlk, hml, hown, hts, hK, hA⟩ := id C0
  intro H locs ls hw hl
  have ho := Option.some.inj h
  subst ho
  exact z_rtl C0 hw d_Mo_get_127
set_option maxHeartbeats 4000000 in
set_option maxRecDepth 100000 in
theorem c_Mo_get {l : Launch} {D : va_G} {ad : Nat → Nat} {ca : Nat → ClassId} (x1 : Int32) (q : z_Sg) (o : Int64) (h : f_Mo_get x1 q = some o) : z_cl l y_Mo_get b_Mo_get 2 (some .long) 1 20 D (z_Mt ca) (z_M ad ca q) (z_M ad ca q) [.ref (ad 0), .int x1] o := by
  refine z_cl_of (own := z_RMo) (by decide) rfl ?_
  intro p e s m below meth c A C0 hw
  obtain ⟨hx, hb, hr, hlk, hml, hown, hts, hK, hA⟩ := id C0
  generalize hH : s.heap = H at hw ⊢
  generalize hlo : ([] : List Loc) = locs at hw ⊢
  refine z_entry (lv := [(0, .ref (ad 0)), (1, .int x1)]) (Nat.le_of_ble_eq_true rfl) rfl (fun ls hl => ?_)
  unfold f_Mo_get at h
  refine lv_iload_n hx hb d_Mo_get_0 rfl (lv_at hl 1 rfl) ?_
  refine lv_if_lt (tgt := 10) hx hb d_Mo_get_1 (by decide) (fun c1 => ?_) (fun c1 => ?_)
  · have h := ok_t h c1
    exact w_Mo_get_10 o C0 q h H locs ls hw (lv_sub hl [] rfl)
  · have h := ok_f h c1
    refine lv_iload_n hx hb d_Mo_get_4 rfl (lv_at hl 1 rfl) ?_
    refine lv_bipush (v := (24 : Int32)) hx hb d_Mo_get_5 (by decide) ?_
    refine lv_icmp_le (tgt := 12) hx hb d_Mo_get_7 (by decide) (fun c2 => ?_) (fun c2 => ?_)
    · have h := ok_t h c2
      refine lv_iload_n hx hb d_Mo_get_12 rfl (lv_at hl 1 rfl) ?_
      refine lv_bipush (v := (16 : Int32)) hx hb d_Mo_get_13 (by decide) ?_
      refine lv_icmp_ge (tgt := 25) hx hb d_Mo_get_15 (by decide) (fun c3 => ?_) (fun c3 => ?_)
      · have h := ok_t h c3
        refine lv_iload_n hx hb d_Mo_get_25 rfl (lv_at hl 1 rfl) ?_
        by_cases c4 : x1 = (16 : Int32)
        · have h := ok_t h c4
          refine lv_tableIn (off := 46) (tgt := 72) hx hb d_Mo_get_26 (by rw [c4]; decide) (by rw [c4]; decide) (by rw [c4]; rfl) (by decide) ?_
          refine lv_aload_n hx hb d_Mo_get_72 rfl (lv_at hl 0 rfl) ?_
          refine gfM_0_next C0 hw fl_Mo_111 d_Mo_get_73 ?_
          have ho := Option.some.inj h
          subst ho
          exact z_rtl C0 hw d_Mo_get_76
        have h := ok_f h c4
        by_cases c5 : x1 = (17 : Int32)
        · have h := ok_t h c5
          refine lv_tableIn (off := 51) (tgt := 77) hx hb d_Mo_get_26 (by rw [c5]; decide) (by rw [c5]; decide) (by rw [c5]; rfl) (by decide) ?_
          refine lv_aload_n hx hb d_Mo_get_77 rfl (lv_at hl 0 rfl) ?_
          refine gfM_0_table C0 hw fl_Mo_52 d_Mo_get_78 ?_
          have ho := Option.some.inj h
          subst ho
          exact z_rtl C0 hw d_Mo_get_81
        have h := ok_f h c5
        by_cases c6 : x1 = (18 : Int32)
        · have h := ok_t h c6
          refine lv_tableIn (off := 56) (tgt := 82) hx hb d_Mo_get_26 (by rw [c6]; decide) (by rw [c6]; decide) (by rw [c6]; rfl) (by decide) ?_
          refine lv_aload_n hx hb d_Mo_get_82 rfl (lv_at hl 0 rfl) ?_
          refine gfM_0_entryPlace C0 hw fl_Mo_445 d_Mo_get_83 ?_
          have ho := Option.some.inj h
          subst ho
          exact z_rtl C0 hw d_Mo_get_86
        have h := ok_f h c6
        by_cases c7 : x1 = (19 : Int32)
        · have h := ok_t h c7
          refine lv_tableIn (off := 61) (tgt := 87) hx hb d_Mo_get_26 (by rw [c7]; decide) (by rw [c7]; decide) (by rw [c7]; rfl) (by decide) ?_
          refine lv_aload_n hx hb d_Mo_get_87 rfl (lv_at hl 0 rfl) ?_
          refine gfM_0_mask C0 hw fl_Mo_448 d_Mo_get_88 ?_
          have ho := Option.some.inj h
          subst ho
          exact z_rtl C0 hw d_Mo_get_91
        have h := ok_f h c7
        by_cases c8 : x1 = (20 : Int32)
        · have h := ok_t h c8
          refine lv_tableIn (off := 66) (tgt := 92) hx hb d_Mo_get_26 (by rw [c8]; decide) (by rw [c8]; decide) (by rw [c8]; rfl) (by decide) ?_
          refine lv_aload_n hx hb d_Mo_get_92 rfl (lv_at hl 0 rfl) ?_
          obtain ⟨r9, er9, h⟩ := ok_b h
          refine z_vl (rest := []) C0 hw (c_Mo_flags q r9 er9) mw_Mo_flags ml_Mo_304 0 rfl ⟨Nat.le_of_ble_eq_true rfl, Nat.le_of_ble_eq_true rfl⟩ ⟨Nat.le_refl 0, Nat.le_refl 0⟩ rfl hl.1 rfl (Nat.le_of_ble_eq_true rfl) d_Mo_get_93 (fun H locs hw => ?_)
          have ho := Option.some.inj h
          subst ho
          exact z_rtl C0 hw d_Mo_get_96
        have h := ok_f h c8
        by_cases c10 : x1 = (21 : Int32)
        · have h := ok_t h c10
          refine lv_tableIn (off := 71) (tgt := 97) hx hb d_Mo_get_26 (by rw [c10]; decide) (by rw [c10]; decide) (by rw [c10]; rfl) (by decide) ?_
          refine lv_aload_n hx hb d_Mo_get_97 rfl (lv_at hl 0 rfl) ?_
          refine gfM_0_undefined C0 hw fl_Mo_205 d_Mo_get_98 ?_
          have ho := Option.some.inj h
          subst ho
          exact z_rtl C0 hw d_Mo_get_101
        have h := ok_f h c10
        by_cases c11 : x1 = (22 : Int32)
        · have h := ok_t h c11
          refine lv_tableIn (off := 76) (tgt := 102) hx hb d_Mo_get_26 (by rw [c11]; decide) (by rw [c11]; decide) (by rw [c11]; rfl) (by decide) ?_
          refine lv_aload_n hx hb d_Mo_get_102 rfl (lv_at hl 0 rfl) ?_
          refine gfM_0_fault C0 hw fl_Mo_89 d_Mo_get_103 ?_
          have ho := Option.some.inj h
          subst ho
          exact z_rtl C0 hw d_Mo_get_106
        have h := ok_f h c11
        by_cases c12 : x1 = (23 : Int32)
        · have h := ok_t h c12
          refine lv_tableIn (off := 81) (tgt := 107) hx hb d_Mo_get_26 (by rw [c12]; decide) (by rw [c12]; decide) (by rw [c12]; rfl) (by decide) ?_
          refine lv_aload_n hx hb d_Mo_get_107 rfl (lv_at hl 0 rfl) ?_
          refine gfM_0_code C0 hw fl_Mo_92 d_Mo_get_108 ?_
          refine lv_i2l hx hb d_Mo_get_111 rfl ?_
          have ho := Option.some.inj h
          subst ho
          exact z_rtl C0 hw d_Mo_get_112
        have h := ok_f h c12
        refine lv_tableOut (tgt := 113) hx hb d_Mo_get_26 (by have zc4 := lv_neT c4 (a := 16) rfl; have zc5 := lv_neT c5 (a := 17) rfl; have zc6 := lv_neT c6 (a := 18) rfl; have zc7 := lv_neT c7 (a := 19) rfl; have zc8 := lv_neT c8 (a := 20) rfl; have zc10 := lv_neT c10 (a := 21) rfl; have zc11 := lv_neT c11 (a := 22) rfl; have zc12 := lv_neT c12 (a := 23) rfl; omega) (by decide) ?_
        refine lv_aload_n hx hb d_Mo_get_113 rfl (lv_at hl 0 rfl) ?_
        refine gfM_0_user C0 hw fl_Mo_48 d_Mo_get_114 ?_
        refine lv_if_eq (tgt := 126) hx hb d_Mo_get_117 (by decide) (fun c13 => ?_) (fun c13 => ?_)
        · have h := ok_t h c13
          refine lv_lconst (v := (0 : Int64)) hx hb d_Mo_get_126 (by decide) ?_
          exact w_Mo_get_127 o C0 q (0 : Int64) h H locs ls hw (lv_sub hl [] rfl)
        · have h := ok_f h c13
          refine lv_ldc2 (own := z_RMo) hx hb hown (hts _ kl_Mo_464) d_Mo_get_120 ?_
          refine lv_goto (tgt := 127) hx hb d_Mo_get_123 (by decide) ?_
          exact w_Mo_get_127 o C0 q (3 : Int64) h H locs ls hw (lv_sub hl [] rfl)
      · have h := ok_f h c3
        refine lv_aload_n hx hb d_Mo_get_18 rfl (lv_at hl 0 rfl) ?_
        refine gfM_0_r C0 hw fl_Mo_14 d_Mo_get_19 ?_
        refine lv_iload_n hx hb d_Mo_get_22 rfl (lv_at hl 1 rfl) ?_
        obtain ⟨b14, h⟩ := ok_g h
        refine alM_2 C0 hw b14 d_Mo_get_23 ?_
        have ho := Option.some.inj h
        subst ho
        exact z_rtl C0 hw d_Mo_get_24
    · have h := ok_f h c2
      exact w_Mo_get_10 o C0 q h H locs ls hw (lv_sub hl [] rfl)
def f_Mo_level (x1 : Int32) (q : z_Sg) : Option z_Sg :=
  z_gd (z_bo x1) (z_nm (z_sI q 2 x1) (fun q2 => some q2))
set_option maxHeartbeats 4000000 in
set_option maxRecDepth 100000 in
theorem c_Mo_level {l : Launch} {D : va_G} {ad : Nat → Nat} {ca : Nat → ClassId} (x1 : Int32) (q : z_Sg) (o : z_Sg) (h : f_Mo_level x1 q = some o) : z_cv l y_Mo_level b_Mo_level 2 none 0 0 D (z_Mt ca) (z_M ad ca q) (z_M ad ca o) [.ref (ad 0), .int x1] := by
  refine z_cv_of (own := z_RMo) (by decide) rfl ?_
  intro p e s m below meth c A C0 hw
  obtain ⟨hx, hb, hr, hlk, hml, hown, hts, hK, hA⟩ := id C0
  generalize hH : s.heap = H at hw ⊢
  generalize hlo : ([] : List Loc) = locs at hw ⊢
  refine z_entry (lv := [(0, .ref (ad 0)), (1, .int x1)]) (Nat.le_of_ble_eq_true rfl) rfl (fun ls hl => ?_)
  unfold f_Mo_level at h
  refine lv_aload_n hx hb d_Mo_level_0 rfl (lv_at hl 0 rfl) ?_
  refine lv_iload_n hx hb d_Mo_level_1 rfl (lv_at hl 1 rfl) ?_
  obtain ⟨b1, h⟩ := ok_G h
  refine pfM_0_user C0 hw b1 fl_Mo_48 d_Mo_level_2 (fun H locs hw => ?_)
  obtain ⟨q2, eq2, h⟩ := ok_n h
  rw [← eq2] at hw
  have ho := Option.some.inj h
  subst ho
  exact z_rtv C0 hw d_Mo_level_5
def k_Mo_isWrong_59 (ih23 : Int64 × Int32 × Int32 × Int32 → Option Int32) (x0 : Int64) (x2 : Int32) (x4 : Int32) (t0 : Int32) (q : z_Sg) : Option Int32 :=
  z_nm (x4 + (1 : Int32)) (fun n5 => ih23 (x0, x2, t0, n5))
def k_Mo_isWrong_54 (ih23 : Int64 × Int32 × Int32 × Int32 → Option Int32) (x0 : Int64) (x2 : Int32) (x4 : Int32) (q : z_Sg) : Option Int32 :=
  k_Mo_isWrong_59 ih23 x0 x2 x4 (1 : Int32) q
def k_Mo_isWrong_50 (ih23 : Int64 × Int32 × Int32 × Int32 → Option Int32) (x0 : Int64) (x2 : Int32) (x4 : Int32) (t0 : Int32) (q : z_Sg) : Option Int32 :=
  if t0 = x2 then (k_Mo_isWrong_59 ih23 x0 x2 x4 (0 : Int32) q) else (k_Mo_isWrong_54 ih23 x0 x2 x4 q)
def kb_Mo_isWrong_23 (ih23 : Int64 × Int32 × Int32 × Int32 → Option Int32) (x0 : Int64) (x2 : Int32) (x3 : Int32) (x4 : Int32) (q : z_Sg) : Option Int32 :=
  if (64 : Int32) ≤ x4 then (z_gd (z_bo x3) (some x3)) else (if x3 = 0 then (if ((z_lushr x0 x4) &&& (1 : Int64)) = (1 : Int64) then (k_Mo_isWrong_50 ih23 x0 x2 x4 (1 : Int32) q) else (k_Mo_isWrong_50 ih23 x0 x2 x4 (0 : Int32) q)) else (k_Mo_isWrong_54 ih23 x0 x2 x4 q))
def k_Mo_isWrong_23 (x0 : Int64) (x2 : Int32) (x3 : Int32) (x4 : Int32) (q : z_Sg) : Option Int32 := z_lo (fun ih23 a => kb_Mo_isWrong_23 ih23 a.1 a.2.1 a.2.2.1 a.2.2.2 q) 2000 (x0, x2, x3, x4)
def k_Mo_isWrong_16 (x0 : Int64) (t0 : Int32) (q : z_Sg) : Option Int32 :=
  k_Mo_isWrong_23 x0 t0 (0 : Int32) (48 : Int32) q
def f_Mo_isWrong (x0 : Int64) (q : z_Sg) : Option Int32 :=
  if ((z_lushr x0 (47 : Int32)) &&& (1 : Int64)) = (1 : Int64) then (k_Mo_isWrong_16 x0 (1 : Int32) q) else (k_Mo_isWrong_16 x0 (0 : Int32) q)
set_option maxHeartbeats 4000000 in
set_option maxRecDepth 100000 in
theorem w_Mo_isWrong_59 {p : Program} {l : Launch} {e : Env} {s : State} {m : MethodId} {args : Array Value} {below : List Frame} {meth : Method} {c : Code} {D : va_G} {A : Nat → Prop} {ad : Nat → Nat} {ca : Nat → ClassId} (o : Int32) (C0 : z_cx z_RMo b_Mo_isWrong 5 (some .boolean) D (z_Mt ca) A p s m args meth c) (q : z_Sg) (ih23 : Int64 × Int32 × Int32 × Int32 → Option Int32) (hi23 : ∀ a : Int64 × Int32 × Int32 × Int32, ih23 a = some o → ∀ (H : Heap) (locs : List Loc) (ls : Array Slot), z_wd D (z_M ad ca q) A s H locs → lv_has ls 5 [(0, .long a.1), (2, .int a.2.1), (3, .int a.2.2.1), (4, .int a.2.2.2)] → W p l e (z_rm 0 0) s m args below meth c H locs 0 0 (z_qi below D (z_Mt ca) (z_M ad ca q) A s args o) (F0 m 23 ls [])) (x0 : Int64) (x2 : Int32) (x4 : Int32) (t0 : Int32) (h : k_Mo_isWrong_59 ih23 x0 x2 x4 t0 q = some o) : ∀ (H : Heap) (locs : List Loc) (ls : Array Slot), z_wd D (z_M ad ca q) A s H locs → lv_has ls 5 [(0, .long x0), (2, .int x2), (4, .int x4)] → W p l e (z_rm 0 0) s m args below meth c H locs 0 0 (z_qi below D (z_Mt ca) (z_M ad ca q) A s args o) (F0 m 59 ls [.int t0]) := by
  obtain ⟨hx, hb, hr, hlk, hml, hown, hts, hK, hA⟩ := id C0
  intro H locs ls hw hl
  refine lv_istore_n (lv' := [(3, .int t0), (0, .long x0), (2, .int x2), (4, .int x4)]) hx hb d_Mo_isWrong_59 rfl hl (by decide) rfl (fun ls hl => ?_)
  obtain ⟨n5, en5, h⟩ := ok_n h
  refine lv_iinc (v := n5) (lv' := [(4, .int n5), (3, .int t0), (0, .long x0), (2, .int x2)]) hx hb d_Mo_isWrong_60 hl (k := 3) rfl (by rw [en5]; rfl) (by decide) rfl (fun ls hl => ?_)
  refine lv_goto (tgt := 23) hx hb d_Mo_isWrong_63 (by decide) ?_
  exact hi23 (x0, x2, t0, n5) h H locs ls hw (lv_sub hl [2, 3, 1, 0] rfl)
set_option maxHeartbeats 4000000 in
set_option maxRecDepth 100000 in
theorem w_Mo_isWrong_54 {p : Program} {l : Launch} {e : Env} {s : State} {m : MethodId} {args : Array Value} {below : List Frame} {meth : Method} {c : Code} {D : va_G} {A : Nat → Prop} {ad : Nat → Nat} {ca : Nat → ClassId} (o : Int32) (C0 : z_cx z_RMo b_Mo_isWrong 5 (some .boolean) D (z_Mt ca) A p s m args meth c) (q : z_Sg) (ih23 : Int64 × Int32 × Int32 × Int32 → Option Int32) (hi23 : ∀ a : Int64 × Int32 × Int32 × Int32, ih23 a = some o → ∀ (H : Heap) (locs : List Loc) (ls : Array Slot), z_wd D (z_M ad ca q) A s H locs → lv_has ls 5 [(0, .long a.1), (2, .int a.2.1), (3, .int a.2.2.1), (4, .int a.2.2.2)] → W p l e (z_rm 0 0) s m args below meth c H locs 0 0 (z_qi below D (z_Mt ca) (z_M ad ca q) A s args o) (F0 m 23 ls [])) (x0 : Int64) (x2 : Int32) (x4 : Int32) (h : k_Mo_isWrong_54 ih23 x0 x2 x4 q = some o) : ∀ (H : Heap) (locs : List Loc) (ls : Array Slot), z_wd D (z_M ad ca q) A s H locs → lv_has ls 5 [(0, .long x0), (2, .int x2), (4, .int x4)] → W p l e (z_rm 0 0) s m args below meth c H locs 0 0 (z_qi below D (z_Mt ca) (z_M ad ca q) A s args o) (F0 m 54 ls []) := by
  obtain ⟨hx, hb, hr, hlk, hml, hown, hts, hK, hA⟩ := id C0
  intro H locs ls hw hl
  refine lv_iconst (v := (1 : Int32)) hx hb d_Mo_isWrong_54 (by decide) ?_
  refine lv_goto (tgt := 59) hx hb d_Mo_isWrong_55 (by decide) ?_
  exact w_Mo_isWrong_59 o C0 q ih23 hi23 x0 x2 x4 (1 : Int32) h H locs ls hw (lv_sub hl [0, 1, 2] rfl)
set_option maxHeartbeats 4000000 in
set_option maxRecDepth 100000 in
theorem w_Mo_isWrong_50 {p : Program} {l : Launch} {e : Env} {s : State} {m : MethodId} {args : Array Value} {below : List Frame} {meth : Method} {c : Code} {D : va_G} {A : Nat → Prop} {ad : Nat → Nat} {ca : Nat → ClassId} (o : Int32) (C0 : z_cx z_RMo b_Mo_isWrong 5 (some .boolean) D (z_Mt ca) A p s m args meth c) (q : z_Sg) (ih23 : Int64 × Int32 × Int32 × Int32 → Option Int32) (hi23 : ∀ a : Int64 × Int32 × Int32 × Int32, ih23 a = some o → ∀ (H : Heap) (locs : List Loc) (ls : Array Slot), z_wd D (z_M ad ca q) A s H locs → lv_has ls 5 [(0, .long a.1), (2, .int a.2.1), (3, .int a.2.2.1), (4, .int a.2.2.2)] → W p l e (z_rm 0 0) s m args below meth c H locs 0 0 (z_qi below D (z_Mt ca) (z_M ad ca q) A s args o) (F0 m 23 ls [])) (x0 : Int64) (x2 : Int32) (x4 : Int32) (t0 : Int32) (h : k_Mo_isWrong_50 ih23 x0 x2 x4 t0 q = some o) : ∀ (H : Heap) (locs : List Loc) (ls : Array Slot), z_wd D (z_M ad ca q) A s H locs → lv_has ls 5 [(0, .long x0), (2, .int x2), (4, .int x4)] → W p l e (z_rm 0 0) s m args below meth c H locs 0 0 (z_qi below D (z_Mt ca) (z_M ad ca q) A s args o) (F0 m 50 ls [.int t0]) := by
  obtain ⟨hx, hb, hr, hlk, hml, hown, hts, hK, hA⟩ := id C0
  intro H locs ls hw hl
  refine lv_iload_n hx hb d_Mo_isWrong_50 rfl (lv_at hl 1 rfl) ?_
  refine lv_icmp_eq (tgt := 58) hx hb d_Mo_isWrong_51 (by decide) (fun c7 => ?_) (fun c7 => ?_)
  · have h := ok_t h c7
    refine lv_iconst (v := (0 : Int32)) hx hb d_Mo_isWrong_58 (by decide) ?_
    exact w_Mo_isWrong_59 o C0 q ih23 hi23 x0 x2 x4 (0 : Int32) h H locs ls hw (lv_sub hl [0, 1, 2] rfl)
  · have h := ok_f h c7
    exact w_Mo_isWrong_54 o C0 q ih23 hi23 x0 x2 x4 h H locs ls hw (lv_sub hl [0, 1, 2] rfl)
set_option maxHeartbeats 4000000 in
set_option maxRecDepth 100000 in
theorem wb_Mo_isWrong_23 {p : Program} {l : Launch} {e : Env} {s : State} {m : MethodId} {args : Array Value} {below : List Frame} {meth : Method} {c : Code} {D : va_G} {A : Nat → Prop} {ad : Nat → Nat} {ca : Nat → ClassId} (o : Int32) (C0 : z_cx z_RMo b_Mo_isWrong 5 (some .boolean) D (z_Mt ca) A p s m args meth c) (q : z_Sg) (ih23 : Int64 × Int32 × Int32 × Int32 → Option Int32) (hi23 : ∀ a : Int64 × Int32 × Int32 × Int32, ih23 a = some o → ∀ (H : Heap) (locs : List Loc) (ls : Array Slot), z_wd D (z_M ad ca q) A s H locs → lv_has ls 5 [(0, .long a.1), (2, .int a.2.1), (3, .int a.2.2.1), (4, .int a.2.2.2)] → W p l e (z_rm 0 0) s m args below meth c H locs 0 0 (z_qi below D (z_Mt ca) (z_M ad ca q) A s args o) (F0 m 23 ls [])) (x0 : Int64) (x2 : Int32) (x3 : Int32) (x4 : Int32) (h : kb_Mo_isWrong_23 ih23 x0 x2 x3 x4 q = some o) : ∀ (H : Heap) (locs : List Loc) (ls : Array Slot), z_wd D (z_M ad ca q) A s H locs → lv_has ls 5 [(0, .long x0), (2, .int x2), (3, .int x3), (4, .int x4)] → W p l e (z_rm 0 0) s m args below meth c H locs 0 0 (z_qi below D (z_Mt ca) (z_M ad ca q) A s args o) (F0 m 23 ls []) := by
  obtain ⟨hx, hb, hr, hlk, hml, hown, hts, hK, hA⟩ := id C0
  intro H locs ls hw hl
  refine lv_iload hx hb d_Mo_isWrong_23 (lv_at hl 3 rfl) ?_
  refine lv_bipush (v := (64 : Int32)) hx hb d_Mo_isWrong_25 (by decide) ?_
  refine lv_icmp_ge (tgt := 66) hx hb d_Mo_isWrong_27 (by decide) (fun c2 => ?_) (fun c2 => ?_)
  · have h := ok_t h c2
    refine lv_iload_n hx hb d_Mo_isWrong_66 rfl (lv_at hl 2 rfl) ?_
    obtain ⟨b3, h⟩ := ok_G h
    have ho := Option.some.inj h
    subst ho
    exact z_rtz C0 hw (z_bo_n b3) d_Mo_isWrong_67
  · have h := ok_f h c2
    refine lv_iload_n hx hb d_Mo_isWrong_30 rfl (lv_at hl 2 rfl) ?_
    refine lv_if_ne (tgt := 54) hx hb d_Mo_isWrong_31 (by decide) (fun c4 => ?_) (fun c4 => ?_)
    · have h := ok_f h c4
      exact w_Mo_isWrong_54 o C0 q ih23 hi23 x0 x2 x4 h H locs ls hw (lv_sub hl [0, 1, 3] rfl)
    · have h := ok_t h c4
      refine lv_lload_n hx hb d_Mo_isWrong_34 rfl (lv_at hl 0 rfl) ?_
      refine lv_iload hx hb d_Mo_isWrong_35 (lv_at hl 3 rfl) ?_
      refine lv_lushr (v := (z_lushr x0 x4)) hx hb d_Mo_isWrong_37 rfl ?_
      refine lv_lconst (v := (1 : Int64)) hx hb d_Mo_isWrong_38 (by decide) ?_
      refine lv_land hx hb d_Mo_isWrong_39 ?_
      refine lv_lconst (v := (1 : Int64)) hx hb d_Mo_isWrong_40 (by decide) ?_
      refine W.lcmp hx hb d_Mo_isWrong_41 ?_
      refine lv_if_ne (tgt := 49) hx hb d_Mo_isWrong_42 (by decide) (fun c6 => ?_) (fun c6 => ?_)
      · have h := ok_f h (fun z => c6 ((lg_cmp_eq _ _).mpr z))
        refine lv_iconst (v := (0 : Int32)) hx hb d_Mo_isWrong_49 (by decide) ?_
        exact w_Mo_isWrong_50 o C0 q ih23 hi23 x0 x2 x4 (0 : Int32) h H locs ls hw (lv_sub hl [0, 1, 3] rfl)
      · have h := ok_t h ((lg_cmp_eq _ _).mp c6)
        refine lv_iconst (v := (1 : Int32)) hx hb d_Mo_isWrong_45 (by decide) ?_
        refine lv_goto (tgt := 50) hx hb d_Mo_isWrong_46 (by decide) ?_
        exact w_Mo_isWrong_50 o C0 q ih23 hi23 x0 x2 x4 (1 : Int32) h H locs ls hw (lv_sub hl [0, 1, 3] rfl)
theorem w_Mo_isWrong_23 {p : Program} {l : Launch} {e : Env} {s : State} {m : MethodId} {args : Array Value} {below : List Frame} {meth : Method} {c : Code} {D : va_G} {A : Nat → Prop} {ad : Nat → Nat} {ca : Nat → ClassId} (o : Int32) (C0 : z_cx z_RMo b_Mo_isWrong 5 (some .boolean) D (z_Mt ca) A p s m args meth c) (q : z_Sg) (x0 : Int64) (x2 : Int32) (x3 : Int32) (x4 : Int32) (h : k_Mo_isWrong_23 x0 x2 x3 x4 q = some o) : ∀ (H : Heap) (locs : List Loc) (ls : Array Slot), z_wd D (z_M ad ca q) A s H locs → lv_has ls 5 [(0, .long x0), (2, .int x2), (3, .int x3), (4, .int x4)] → W p l e (z_rm 0 0) s m args below meth c H locs 0 0 (z_qi below D (z_Mt ca) (z_M ad ca q) A s args o) (F0 m 23 ls []) := by
  have key : ∀ (n : Nat) (a : Int64 × Int32 × Int32 × Int32), z_lo (fun ih23 a => kb_Mo_isWrong_23 ih23 a.1 a.2.1 a.2.2.1 a.2.2.2 q) n a = some o → ∀ (H : Heap) (locs : List Loc) (ls : Array Slot), z_wd D (z_M ad ca q) A s H locs → lv_has ls 5 [(0, .long a.1), (2, .int a.2.1), (3, .int a.2.2.1), (4, .int a.2.2.2)] → W p l e (z_rm 0 0) s m args below meth c H locs 0 0 (z_qi below D (z_Mt ca) (z_M ad ca q) A s args o) (F0 m 23 ls []) := by
    intro n
    induction n with
    | zero => intro a h; cases h
    | succ n ih => exact fun a h => wb_Mo_isWrong_23 o C0 q (z_lo (fun ih23 a => kb_Mo_isWrong_23 ih23 a.1 a.2.1 a.2.2.1 a.2.2.2 q) n) ih a.1 a.2.1 a.2.2.1 a.2.2.2 h
  exact key 2000 (x0, x2, x3, x4) h
set_option maxHeartbeats 4000000 in
set_option maxRecDepth 100000 in
theorem w_Mo_isWrong_16 {p : Program} {l : Launch} {e : Env} {s : State} {m : MethodId} {args : Array Value} {below : List Frame} {meth : Method} {c : Code} {D : va_G} {A : Nat → Prop} {ad : Nat → Nat} {ca : Nat → ClassId} (o : Int32) (C0 : z_cx z_RMo b_Mo_isWrong 5 (some .boolean) D (z_Mt ca) A p s m args meth c) (q : z_Sg) (x0 : Int64) (t0 : Int32) (h : k_Mo_isWrong_16 x0 t0 q = some o) : ∀ (H : Heap) (locs : List Loc) (ls : Array Slot), z_wd D (z_M ad ca q) A s H locs → lv_has ls 5 [(0, .long x0)] → W p l e (z_rm 0 0) s m args below meth c H locs 0 0 (z_qi below D (z_Mt ca) (z_M ad ca q) A s args o) (F0 m 16 ls [.int t0]) := by
  obtain ⟨hx, hb, hr, hlk, hml, hown, hts, hK, hA⟩ := id C0
  intro H locs ls hw hl
  refine lv_istore_n (lv' := [(2, .int t0), (0, .long x0)]) hx hb d_Mo_isWrong_16 rfl hl (by decide) rfl (fun ls hl => ?_)
  refine lv_iconst (v := (0 : Int32)) hx hb d_Mo_isWrong_17 (by decide) ?_
  refine lv_istore_n (lv' := [(3, .int (0 : Int32)), (2, .int t0), (0, .long x0)]) hx hb d_Mo_isWrong_18 rfl hl (by decide) rfl (fun ls hl => ?_)
  refine lv_bipush (v := (48 : Int32)) hx hb d_Mo_isWrong_19 (by decide) ?_
  refine lv_istore (lv' := [(4, .int (48 : Int32)), (3, .int (0 : Int32)), (2, .int t0), (0, .long x0)]) hx hb d_Mo_isWrong_21 hl (by decide) rfl (fun ls hl => ?_)
  exact w_Mo_isWrong_23 o C0 q x0 t0 (0 : Int32) (48 : Int32) h H locs ls hw (lv_sub hl [3, 2, 1, 0] rfl)
set_option maxHeartbeats 4000000 in
set_option maxRecDepth 100000 in
theorem c_Mo_isWrong {l : Launch} {D : va_G} {ad : Nat → Nat} {ca : Nat → ClassId} (x0 : Int64) (q : z_Sg) (o : Int32) (h : f_Mo_isWrong x0 q = some o) : z_ci l y_Mo_isWrong b_Mo_isWrong 5 (some .boolean) 0 0 D (z_Mt ca) (z_M ad ca q) (z_M ad ca q) [.long x0] o := by
  refine z_ci_of (own := z_RMo) (by decide) rfl ?_
  intro p e s m below meth c A C0 hw
  obtain ⟨hx, hb, hr, hlk, hml, hown, hts, hK, hA⟩ := id C0
  generalize hH : s.heap = H at hw ⊢
  generalize hlo : ([] : List Loc) = locs at hw ⊢
  refine z_entry (lv := [(0, .long x0)]) (Nat.le_of_ble_eq_true rfl) rfl (fun ls hl => ?_)
  unfold f_Mo_isWrong at h
  refine lv_lload_n hx hb d_Mo_isWrong_0 rfl (lv_at hl 0 rfl) ?_
  refine lv_bipush (v := (47 : Int32)) hx hb d_Mo_isWrong_1 (by decide) ?_
  refine lv_lushr (v := (z_lushr x0 (47 : Int32))) hx hb d_Mo_isWrong_3 rfl ?_
  refine lv_lconst (v := (1 : Int64)) hx hb d_Mo_isWrong_4 (by decide) ?_
  refine lv_land hx hb d_Mo_isWrong_5 ?_
  refine lv_lconst (v := (1 : Int64)) hx hb d_Mo_isWrong_6 (by decide) ?_
  refine W.lcmp hx hb d_Mo_isWrong_7 ?_
  refine lv_if_ne (tgt := 15) hx hb d_Mo_isWrong_8 (by decide) (fun c1 => ?_) (fun c1 => ?_)
  · have h := ok_f h (fun z => c1 ((lg_cmp_eq _ _).mpr z))
    refine lv_iconst (v := (0 : Int32)) hx hb d_Mo_isWrong_15 (by decide) ?_
    exact w_Mo_isWrong_16 o C0 q x0 (0 : Int32) h H locs ls hw (lv_sub hl [0] rfl)
  · have h := ok_t h ((lg_cmp_eq _ _).mp c1)
    refine lv_iconst (v := (1 : Int32)) hx hb d_Mo_isWrong_11 (by decide) ?_
    refine lv_goto (tgt := 16) hx hb d_Mo_isWrong_12 (by decide) ?_
    exact w_Mo_isWrong_16 o C0 q x0 (1 : Int32) h H locs ls hw (lv_sub hl [0] rfl)
def f_Mo_bits (x0 : Int64) (x2 : Int32) (x3 : Int32) (q : z_Sg) : Option Int64 :=
  some ((z_lushr x0 x2) &&& ((z_lshl (1 : Int64) ((x3 - x2) + (1 : Int32))) - (1 : Int64)))
set_option maxHeartbeats 4000000 in
set_option maxRecDepth 100000 in
theorem c_Mo_bits {l : Launch} {D : va_G} {ad : Nat → Nat} {ca : Nat → ClassId} (x0 : Int64) (x2 : Int32) (x3 : Int32) (q : z_Sg) (o : Int64) (h : f_Mo_bits x0 x2 x3 q = some o) : z_cl l y_Mo_bits b_Mo_bits 4 (some .long) 0 0 D (z_Mt ca) (z_M ad ca q) (z_M ad ca q) [.long x0, .int x2, .int x3] o := by
  refine z_cl_of (own := z_RMo) (by decide) rfl ?_
  intro p e s m below meth c A C0 hw
  obtain ⟨hx, hb, hr, hlk, hml, hown, hts, hK, hA⟩ := id C0
  generalize hH : s.heap = H at hw ⊢
  generalize hlo : ([] : List Loc) = locs at hw ⊢
  refine z_entry (lv := [(0, .long x0), (2, .int x2), (3, .int x3)]) (Nat.le_of_ble_eq_true rfl) rfl (fun ls hl => ?_)
  unfold f_Mo_bits at h
  refine lv_lload_n hx hb d_Mo_bits_0 rfl (lv_at hl 0 rfl) ?_
  refine lv_iload_n hx hb d_Mo_bits_1 rfl (lv_at hl 1 rfl) ?_
  refine lv_lushr (v := (z_lushr x0 x2)) hx hb d_Mo_bits_2 rfl ?_
  refine lv_lconst (v := (1 : Int64)) hx hb d_Mo_bits_3 (by decide) ?_
  refine lv_iload_n hx hb d_Mo_bits_4 rfl (lv_at hl 2 rfl) ?_
  refine lv_iload_n hx hb d_Mo_bits_5 rfl (lv_at hl 1 rfl) ?_
  refine lv_isub hx hb d_Mo_bits_6 ?_
  refine lv_iconst (v := (1 : Int32)) hx hb d_Mo_bits_7 (by decide) ?_
  refine lv_iadd hx hb d_Mo_bits_8 ?_
  refine lv_lshl (v := (z_lshl (1 : Int64) ((x3 - x2) + (1 : Int32)))) hx hb d_Mo_bits_9 rfl ?_
  refine lv_lconst (v := (1 : Int64)) hx hb d_Mo_bits_10 (by decide) ?_
  refine lv_lsub hx hb d_Mo_bits_11 ?_
  refine lv_land hx hb d_Mo_bits_12 ?_
  have ho := Option.some.inj h
  subst ho
  exact z_rtl C0 hw d_Mo_bits_13
def k_Mo_find_379 (t0 : Int64) (q : z_Sg) : Option (Int64 × z_Sg) :=
  some (t0, q)
def k_Mo_find_340 (x1 : Int64) (x5 : Int64) (x10 : Int32) (x11 : Int64) (q : z_Sg) : Option (Int64 × z_Sg) :=
  if x10 = (1 : Int32) then ((f_Mo_bits x11 (21 : Int32) (51 : Int32) q).bind (fun r14 => (f_Mo_bits x1 (0 : Int32) (20 : Int32) q).bind (fun r15 => k_Mo_find_379 ((z_lshl r14 (21 : Int32)) + r15) q))) else ((f_Mo_bits x1 (0 : Int32) (11 : Int32) q).bind (fun r13 => k_Mo_find_379 (x5 + r13) q))
def k_Mo_find_336 (q : z_Sg) : Option (Int64 × z_Sg) :=
  some ((-1 : Int64), q)
def k_Mo_find_326 (x1 : Int64) (x3 : Int32) (x5 : Int64) (x9 : Int32) (x10 : Int32) (x11 : Int64) (q : z_Sg) : Option (Int64 × z_Sg) :=
  if x3 = (2 : Int32) then (if x9 = 0 then (k_Mo_find_336 q) else (k_Mo_find_340 x1 x5 x10 x11 q)) else (k_Mo_find_340 x1 x5 x10 x11 q)
def k_Mo_find_314 (x1 : Int64) (x3 : Int32) (x5 : Int64) (x8 : Int32) (x9 : Int32) (x10 : Int32) (x11 : Int64) (q : z_Sg) : Option (Int64 × z_Sg) :=
  if (z_gI q 2) = 0 then (k_Mo_find_326 x1 x3 x5 x9 x10 x11 q) else (if x8 = 0 then (k_Mo_find_336 q) else (k_Mo_find_326 x1 x3 x5 x9 x10 x11 q))
def k_Mo_find_293 (ih71 : Int64 × Int32 × Int32 × Int64 × Int32 × Int32 × Int32 × Int32 × Int64 × Int32 × z_Sg → Option (Int64 × z_Sg)) (x1 : Int64) (x3 : Int32) (x4 : Int32) (x5 : Int64) (x7 : Int32) (x8 : Int32) (x9 : Int32) (x10 : Int32) (x11 : Int64) (x13 : Int32) (q : z_Sg) : Option (Int64 × z_Sg) :=
  ih71 (x1, x3, x4, x5, x7, x8, x9, x10, x11, x13, q)
def k_Mo_find_283 (ih71 : Int64 × Int32 × Int32 × Int64 × Int32 × Int32 × Int32 × Int32 × Int64 × Int32 × z_Sg → Option (Int64 × z_Sg)) (x1 : Int64) (x3 : Int32) (x4 : Int32) (x5 : Int64) (x7 : Int32) (x8 : Int32) (x9 : Int32) (x10 : Int32) (x11 : Int64) (t0 : Int32) (q : z_Sg) : Option (Int64 × z_Sg) :=
  if t0 = 0 then (z_nm (x10 + (-1 : Int32)) (fun n33 => k_Mo_find_293 ih71 x1 x3 x4 x5 x7 x8 x9 n33 x11 t0 q)) else (k_Mo_find_293 ih71 x1 x3 x4 x5 x7 x8 x9 x10 x11 t0 q)
def k_Mo_find_278 (ih71 : Int64 × Int32 × Int32 × Int64 × Int32 × Int32 × Int32 × Int32 × Int64 × Int32 × z_Sg → Option (Int64 × z_Sg)) (x1 : Int64) (x3 : Int32) (x4 : Int32) (x5 : Int64) (x7 : Int32) (x8 : Int32) (x9 : Int32) (x10 : Int32) (x11 : Int64) (q : z_Sg) : Option (Int64 × z_Sg) :=
  k_Mo_find_283 ih71 x1 x3 x4 x5 x7 x8 x9 x10 x11 (1 : Int32) q
def k_Mo_find_252 (ih71 : Int64 × Int32 × Int32 × Int64 × Int32 × Int32 × Int32 × Int32 × Int64 × Int32 × z_Sg → Option (Int64 × z_Sg)) (x1 : Int64) (x3 : Int32) (x4 : Int32) (x7 : Int32) (x8 : Int32) (x10 : Int32) (x11 : Int64) (x14 : Int32) (t0 : Int32) (q : z_Sg) : Option (Int64 × z_Sg) :=
  (f_Mo_bits x11 (12 : Int32) (51 : Int32) q).bind (fun r29 => z_nm ((z_lshl r29 (12 : Int32))) (fun n30 => if x14 = 0 then (if x10 = 0 then (k_Mo_find_278 ih71 x1 x3 x4 n30 x7 x8 t0 x10 x11 q) else (k_Mo_find_283 ih71 x1 x3 x4 n30 x7 x8 t0 x10 x11 (0 : Int32) q)) else (k_Mo_find_278 ih71 x1 x3 x4 n30 x7 x8 t0 x10 x11 q)))
def k_Mo_find_251 (ih71 : Int64 × Int32 × Int32 × Int64 × Int32 × Int32 × Int32 × Int32 × Int64 × Int32 × z_Sg → Option (Int64 × z_Sg)) (x1 : Int64) (x3 : Int32) (x4 : Int32) (x7 : Int32) (x8 : Int32) (x10 : Int32) (x11 : Int64) (x14 : Int32) (q : z_Sg) : Option (Int64 × z_Sg) :=
  k_Mo_find_252 ih71 x1 x3 x4 x7 x8 x10 x11 x14 (0 : Int32) q
def k_Mo_find_233 (ih71 : Int64 × Int32 × Int32 × Int64 × Int32 × Int32 × Int32 × Int32 × Int64 × Int32 × z_Sg → Option (Int64 × z_Sg)) (x1 : Int64) (x3 : Int32) (x4 : Int32) (x7 : Int32) (x9 : Int32) (x10 : Int32) (x11 : Int64) (x14 : Int32) (t0 : Int32) (q : z_Sg) : Option (Int64 × z_Sg) :=
  if x9 = 0 then (k_Mo_find_251 ih71 x1 x3 x4 x7 t0 x10 x11 x14 q) else (if x11 < (0 : Int64) then (k_Mo_find_251 ih71 x1 x3 x4 x7 t0 x10 x11 x14 q) else (k_Mo_find_252 ih71 x1 x3 x4 x7 t0 x10 x11 x14 (1 : Int32) q))
def k_Mo_find_232 (ih71 : Int64 × Int32 × Int32 × Int64 × Int32 × Int32 × Int32 × Int32 × Int64 × Int32 × z_Sg → Option (Int64 × z_Sg)) (x1 : Int64) (x3 : Int32) (x4 : Int32) (x7 : Int32) (x9 : Int32) (x10 : Int32) (x11 : Int64) (x14 : Int32) (q : z_Sg) : Option (Int64 × z_Sg) :=
  k_Mo_find_233 ih71 x1 x3 x4 x7 x9 x10 x11 x14 (0 : Int32) q
def k_Mo_find_210 (ih71 : Int64 × Int32 × Int32 × Int64 × Int32 × Int32 × Int32 × Int32 × Int64 × Int32 × z_Sg → Option (Int64 × z_Sg)) (x1 : Int64) (x3 : Int32) (x4 : Int32) (x8 : Int32) (x9 : Int32) (x10 : Int32) (x11 : Int64) (x14 : Int32) (t0 : Int32) (q : z_Sg) : Option (Int64 × z_Sg) :=
  if x8 = 0 then (k_Mo_find_232 ih71 x1 x3 x4 t0 x9 x10 x11 x14 q) else (if (x11 &&& (4 : Int64)) = (0 : Int64) then (k_Mo_find_232 ih71 x1 x3 x4 t0 x9 x10 x11 x14 q) else (k_Mo_find_233 ih71 x1 x3 x4 t0 x9 x10 x11 x14 (1 : Int32) q))
def k_Mo_find_209 (ih71 : Int64 × Int32 × Int32 × Int64 × Int32 × Int32 × Int32 × Int32 × Int64 × Int32 × z_Sg → Option (Int64 × z_Sg)) (x1 : Int64) (x3 : Int32) (x4 : Int32) (x8 : Int32) (x9 : Int32) (x10 : Int32) (x11 : Int64) (x14 : Int32) (q : z_Sg) : Option (Int64 × z_Sg) :=
  k_Mo_find_210 ih71 x1 x3 x4 x8 x9 x10 x11 x14 (0 : Int32) q
def k_Mo_find_189 (ih71 : Int64 × Int32 × Int32 × Int64 × Int32 × Int32 × Int32 × Int32 × Int64 × Int32 × z_Sg → Option (Int64 × z_Sg)) (x1 : Int64) (x3 : Int32) (x4 : Int32) (x7 : Int32) (x8 : Int32) (x9 : Int32) (x10 : Int32) (x11 : Int64) (x14 : Int32) (q : z_Sg) : Option (Int64 × z_Sg) :=
  if x7 = 0 then (k_Mo_find_209 ih71 x1 x3 x4 x8 x9 x10 x11 x14 q) else (if (x11 &&& (2 : Int64)) = (0 : Int64) then (k_Mo_find_209 ih71 x1 x3 x4 x8 x9 x10 x11 x14 q) else (k_Mo_find_210 ih71 x1 x3 x4 x8 x9 x10 x11 x14 (1 : Int32) q))
def k_Mo_find_185 (q : z_Sg) : Option (Int64 × z_Sg) :=
  some ((-1 : Int64), q)
def k_Mo_find_130 (ih71 : Int64 × Int32 × Int32 × Int64 × Int32 × Int32 × Int32 × Int32 × Int64 × Int32 × z_Sg → Option (Int64 × z_Sg)) (x1 : Int64) (x3 : Int32) (x4 : Int32) (x7 : Int32) (x8 : Int32) (x9 : Int32) (x10 : Int32) (x11 : Int64) (t0 : Int32) (q : z_Sg) : Option (Int64 × z_Sg) :=
  z_nm (z_sI q 1 x4) (fun q22 => if (x11 &&& (1 : Int64)) = (0 : Int64) then (some ((-1 : Int64), q22)) else (z_nm (z_sI q22 1 (x4 + (9 : Int32))) (fun q24 => if t0 = 0 then (k_Mo_find_189 ih71 x1 x3 x4 x7 x8 x9 x10 x11 t0 q24) else (if (1 : Int32) < x10 then (k_Mo_find_185 q24) else ((f_Mo_bits x11 (13 : Int32) (20 : Int32) q24).bind (fun r39 => if r39 = (0 : Int64) then (k_Mo_find_189 ih71 x1 x3 x4 x7 x8 x9 x10 x11 t0 q24) else (k_Mo_find_185 q24)))))))
def k_Mo_find_129 (ih71 : Int64 × Int32 × Int32 × Int64 × Int32 × Int32 × Int32 × Int32 × Int64 × Int32 × z_Sg → Option (Int64 × z_Sg)) (x1 : Int64) (x3 : Int32) (x4 : Int32) (x7 : Int32) (x8 : Int32) (x9 : Int32) (x10 : Int32) (x11 : Int64) (q : z_Sg) : Option (Int64 × z_Sg) :=
  k_Mo_find_130 ih71 x1 x3 x4 x7 x8 x9 x10 x11 (0 : Int32) q
def kb_Mo_find_71 (ih71 : Int64 × Int32 × Int32 × Int64 × Int32 × Int32 × Int32 × Int32 × Int64 × Int32 × z_Sg → Option (Int64 × z_Sg)) (x1 : Int64) (x3 : Int32) (x4 : Int32) (x5 : Int64) (x7 : Int32) (x8 : Int32) (x9 : Int32) (x10 : Int32) (x11 : Int64) (x13 : Int32) (q : z_Sg) : Option (Int64 × z_Sg) :=
  if x13 = 0 then ((f_Mo_bits x1 ((12 : Int32) + ((9 : Int32) * x10)) ((20 : Int32) + ((9 : Int32) * x10)) q).bind (fun r19 => (f_Mo_eight (x5 + ((8 : Int64) * r19)) q).bind (fun r20 => if x10 ≤ 0 then (k_Mo_find_129 ih71 x1 x3 x4 x7 x8 x9 x10 r20 q) else (if (r20 &&& (128 : Int64)) = (0 : Int64) then (k_Mo_find_129 ih71 x1 x3 x4 x7 x8 x9 x10 r20 q) else (k_Mo_find_130 ih71 x1 x3 x4 x7 x8 x9 x10 r20 (1 : Int32) q))))) else (z_nm (z_sI q 1 (x4 + (1 : Int32))) (fun q8 => if x3 = (1 : Int32) then (if x7 = 0 then (k_Mo_find_336 q8) else (k_Mo_find_314 x1 x3 x5 x8 x9 x10 x11 q8)) else (k_Mo_find_314 x1 x3 x5 x8 x9 x10 x11 q8)))
def k_Mo_find_71 (x1 : Int64) (x3 : Int32) (x4 : Int32) (x5 : Int64) (x7 : Int32) (x8 : Int32) (x9 : Int32) (x10 : Int32) (x11 : Int64) (x13 : Int32) (q : z_Sg) : Option (Int64 × z_Sg) := z_lo (fun ih71 a => kb_Mo_find_71 ih71 a.1 a.2.1 a.2.2.1 a.2.2.2.1 a.2.2.2.2.1 a.2.2.2.2.2.1 a.2.2.2.2.2.2.1 a.2.2.2.2.2.2.2.1 a.2.2.2.2.2.2.2.2.1 a.2.2.2.2.2.2.2.2.2.1 a.2.2.2.2.2.2.2.2.2.2) 2000 (x1, x3, x4, x5, x7, x8, x9, x10, x11, x13, q)
def k_Mo_find_34 (x1 : Int64) (x3 : Int32) (t0 : Int32) (t1 : Int32) (q : z_Sg) : Option (Int64 × z_Sg) :=
  z_nm ((t0 + t1)) (fun n4 => (f_Mo_bits (z_gL q 1) (12 : Int32) (51 : Int32) q).bind (fun r5 => z_nm ((z_lshl r5 (12 : Int32))) (fun n6 => k_Mo_find_71 x1 x3 n4 n6 (1 : Int32) (1 : Int32) (1 : Int32) (3 : Int32) (0 : Int64) (0 : Int32) q)))
def k_Mo_find_22 (x1 : Int64) (x3 : Int32) (t0 : Int32) (t1 : Int32) (q : z_Sg) : Option (Int64 × z_Sg) :=
  if x3 = (2 : Int32) then (k_Mo_find_34 x1 x3 (t0 + t1) (16 : Int32) q) else (k_Mo_find_34 x1 x3 (t0 + t1) (0 : Int32) q)
def k_Mo_find_10 (x1 : Int64) (x3 : Int32) (t0 : Int32) (q : z_Sg) : Option (Int64 × z_Sg) :=
  if (z_gI q 2) = 0 then (k_Mo_find_22 x1 x3 t0 (0 : Int32) q) else (k_Mo_find_22 x1 x3 t0 (4 : Int32) q)
def f_Mo_find (x1 : Int64) (x3 : Int32) (q : z_Sg) : Option (Int64 × z_Sg) :=
  if x3 = (1 : Int32) then (k_Mo_find_10 x1 x3 (2 : Int32) q) else (k_Mo_find_10 x1 x3 (0 : Int32) q)
set_option maxHeartbeats 4000000 in
set_option maxRecDepth 100000 in
theorem w_Mo_find_379 {p : Program} {l : Launch} {e : Env} {s : State} {m : MethodId} {args : Array Value} {below : List Frame} {meth : Method} {c : Code} {D : va_G} {A : Nat → Prop} {ad : Nat → Nat} {ca : Nat → ClassId} (o : (Int64 × z_Sg)) (C0 : z_cx z_RMo b_Mo_find 15 (some .long) D (z_Mt ca) A p s m args meth c) (q : z_Sg) (t0 : Int64) (h : k_Mo_find_379 t0 q = some o) : ∀ (H : Heap) (locs : List Loc) (ls : Array Slot), z_wd D (z_M ad ca q) A s H locs → lv_has ls 15 [] → W p l e (z_rm 2 47) s m args below meth c H locs 0 0 (z_ql below D (z_Mt ca) (z_M ad ca o.2) A s args o.1) (F0 m 379 ls [.long t0]) := by
  obtain ⟨hx, hb, hr, hlk, hml, hown, hts, hK, hA⟩ := id C0
  intro H locs ls hw hl
  have ho := Option.some.inj h
  subst ho
  exact z_rtl C0 hw d_Mo_find_379
set_option maxHeartbeats 4000000 in
set_option maxRecDepth 100000 in
theorem w_Mo_find_340 {p : Program} {l : Launch} {e : Env} {s : State} {m : MethodId} {args : Array Value} {below : List Frame} {meth : Method} {c : Code} {D : va_G} {A : Nat → Prop} {ad : Nat → Nat} {ca : Nat → ClassId} (o : (Int64 × z_Sg)) (C0 : z_cx z_RMo b_Mo_find 15 (some .long) D (z_Mt ca) A p s m args meth c) (q : z_Sg) (x1 : Int64) (x5 : Int64) (x10 : Int32) (x11 : Int64) (h : k_Mo_find_340 x1 x5 x10 x11 q = some o) : ∀ (H : Heap) (locs : List Loc) (ls : Array Slot), z_wd D (z_M ad ca q) A s H locs → lv_has ls 15 [(1, .long x1), (5, .long x5), (10, .int x10), (11, .long x11)] → W p l e (z_rm 2 47) s m args below meth c H locs 0 0 (z_ql below D (z_Mt ca) (z_M ad ca o.2) A s args o.1) (F0 m 340 ls []) := by
  obtain ⟨hx, hb, hr, hlk, hml, hown, hts, hK, hA⟩ := id C0
  intro H locs ls hw hl
  refine lv_iload hx hb d_Mo_find_340 (lv_at hl 2 rfl) ?_
  refine lv_iconst (v := (1 : Int32)) hx hb d_Mo_find_342 (by decide) ?_
  refine lv_icmp_ne (tgt := 369) hx hb d_Mo_find_343 (by decide) (fun c12 => ?_) (fun c12 => ?_)
  · have h := ok_f h c12
    refine lv_lload hx hb d_Mo_find_369 (lv_at hl 1 rfl) ?_
    refine lv_lload_n hx hb d_Mo_find_371 rfl (lv_at hl 0 rfl) ?_
    refine lv_iconst (v := (0 : Int32)) hx hb d_Mo_find_372 (by decide) ?_
    refine lv_bipush (v := (11 : Int32)) hx hb d_Mo_find_373 (by decide) ?_
    obtain ⟨r13, er13, h⟩ := ok_b h
    refine z_sl (rest := [.long x5]) C0 hw (c_Mo_bits x1 (0 : Int32) (11 : Int32) q r13 er13) mw_Mo_bits ml_Mo_56 ⟨Nat.le_of_ble_eq_true rfl, Nat.le_of_ble_eq_true rfl⟩ ⟨Nat.le_refl 0, Nat.le_refl 0⟩ rfl hl.1 rfl (Nat.le_of_ble_eq_true rfl) d_Mo_find_375 (fun H locs hw => ?_)
    refine lv_ladd hx hb d_Mo_find_378 ?_
    exact w_Mo_find_379 o C0 q (x5 + r13) h H locs ls hw (lv_sub hl [] rfl)
  · have h := ok_t h c12
    refine lv_lload hx hb d_Mo_find_346 (lv_at hl 3 rfl) ?_
    refine lv_bipush (v := (21 : Int32)) hx hb d_Mo_find_348 (by decide) ?_
    refine lv_bipush (v := (51 : Int32)) hx hb d_Mo_find_350 (by decide) ?_
    obtain ⟨r14, er14, h⟩ := ok_b h
    refine z_sl (rest := []) C0 hw (c_Mo_bits x11 (21 : Int32) (51 : Int32) q r14 er14) mw_Mo_bits ml_Mo_56 ⟨Nat.le_of_ble_eq_true rfl, Nat.le_of_ble_eq_true rfl⟩ ⟨Nat.le_refl 0, Nat.le_refl 0⟩ rfl hl.1 rfl (Nat.le_of_ble_eq_true rfl) d_Mo_find_352 (fun H locs hw => ?_)
    refine lv_bipush (v := (21 : Int32)) hx hb d_Mo_find_355 (by decide) ?_
    refine lv_lshl (v := (z_lshl r14 (21 : Int32))) hx hb d_Mo_find_357 rfl ?_
    refine lv_lload_n hx hb d_Mo_find_358 rfl (lv_at hl 0 rfl) ?_
    refine lv_iconst (v := (0 : Int32)) hx hb d_Mo_find_359 (by decide) ?_
    refine lv_bipush (v := (20 : Int32)) hx hb d_Mo_find_360 (by decide) ?_
    obtain ⟨r15, er15, h⟩ := ok_b h
    refine z_sl (rest := [.long (z_lshl r14 (21 : Int32))]) C0 hw (c_Mo_bits x1 (0 : Int32) (20 : Int32) q r15 er15) mw_Mo_bits ml_Mo_56 ⟨Nat.le_of_ble_eq_true rfl, Nat.le_of_ble_eq_true rfl⟩ ⟨Nat.le_refl 0, Nat.le_refl 0⟩ rfl hl.1 rfl (Nat.le_of_ble_eq_true rfl) d_Mo_find_362 (fun H locs hw => ?_)
    refine lv_ladd hx hb d_Mo_find_365 ?_
    refine lv_goto (tgt := 379) hx hb d_Mo_find_366 (by decide) ?_
    exact w_Mo_find_379 o C0 q ((z_lshl r14 (21 : Int32)) + r15) h H locs ls hw (lv_sub hl [] rfl)
set_option maxHeartbeats 4000000 in
set_option maxRecDepth 100000 in
theorem w_Mo_find_336 {p : Program} {l : Launch} {e : Env} {s : State} {m : MethodId} {args : Array Value} {below : List Frame} {meth : Method} {c : Code} {D : va_G} {A : Nat → Prop} {ad : Nat → Nat} {ca : Nat → ClassId} (o : (Int64 × z_Sg)) (C0 : z_cx z_RMo b_Mo_find 15 (some .long) D (z_Mt ca) A p s m args meth c) (q : z_Sg) (h : k_Mo_find_336 q = some o) : ∀ (H : Heap) (locs : List Loc) (ls : Array Slot), z_wd D (z_M ad ca q) A s H locs → lv_has ls 15 [] → W p l e (z_rm 2 47) s m args below meth c H locs 0 0 (z_ql below D (z_Mt ca) (z_M ad ca o.2) A s args o.1) (F0 m 336 ls []) := by
  obtain ⟨hx, hb, hr, hlk, hml, hown, hts, hK, hA⟩ := id C0
  intro H locs ls hw hl
  refine lv_ldc2 (own := z_RMo) hx hb hown (hts _ kl_Mo_71) d_Mo_find_336 ?_
  have ho := Option.some.inj h
  subst ho
  exact z_rtl C0 hw d_Mo_find_339
set_option maxHeartbeats 4000000 in
set_option maxRecDepth 100000 in
theorem w_Mo_find_326 {p : Program} {l : Launch} {e : Env} {s : State} {m : MethodId} {args : Array Value} {below : List Frame} {meth : Method} {c : Code} {D : va_G} {A : Nat → Prop} {ad : Nat → Nat} {ca : Nat → ClassId} (o : (Int64 × z_Sg)) (C0 : z_cx z_RMo b_Mo_find 15 (some .long) D (z_Mt ca) A p s m args meth c) (q : z_Sg) (x1 : Int64) (x3 : Int32) (x5 : Int64) (x9 : Int32) (x10 : Int32) (x11 : Int64) (h : k_Mo_find_326 x1 x3 x5 x9 x10 x11 q = some o) : ∀ (H : Heap) (locs : List Loc) (ls : Array Slot), z_wd D (z_M ad ca q) A s H locs → lv_has ls 15 [(1, .long x1), (3, .int x3), (5, .long x5), (9, .int x9), (10, .int x10), (11, .long x11)] → W p l e (z_rm 2 47) s m args below meth c H locs 0 0 (z_ql below D (z_Mt ca) (z_M ad ca o.2) A s args o.1) (F0 m 326 ls []) := by
  obtain ⟨hx, hb, hr, hlk, hml, hown, hts, hK, hA⟩ := id C0
  intro H locs ls hw hl
  refine lv_iload_n hx hb d_Mo_find_326 rfl (lv_at hl 1 rfl) ?_
  refine lv_iconst (v := (2 : Int32)) hx hb d_Mo_find_327 (by decide) ?_
  refine lv_icmp_ne (tgt := 340) hx hb d_Mo_find_328 (by decide) (fun c11 => ?_) (fun c11 => ?_)
  · have h := ok_f h c11
    exact w_Mo_find_340 o C0 q x1 x5 x10 x11 h H locs ls hw (lv_sub hl [0, 2, 4, 5] rfl)
  · have h := ok_t h c11
    refine lv_iload hx hb d_Mo_find_331 (lv_at hl 3 rfl) ?_
    refine lv_if_ne (tgt := 340) hx hb d_Mo_find_333 (by decide) (fun c16 => ?_) (fun c16 => ?_)
    · have h := ok_f h c16
      exact w_Mo_find_340 o C0 q x1 x5 x10 x11 h H locs ls hw (lv_sub hl [0, 2, 4, 5] rfl)
    · have h := ok_t h c16
      exact w_Mo_find_336 o C0 q h H locs ls hw (lv_sub hl [] rfl)
set_option maxHeartbeats 4000000 in
set_option maxRecDepth 100000 in
theorem w_Mo_find_314 {p : Program} {l : Launch} {e : Env} {s : State} {m : MethodId} {args : Array Value} {below : List Frame} {meth : Method} {c : Code} {D : va_G} {A : Nat → Prop} {ad : Nat → Nat} {ca : Nat → ClassId} (o : (Int64 × z_Sg)) (C0 : z_cx z_RMo b_Mo_find 15 (some .long) D (z_Mt ca) A p s m args meth c) (q : z_Sg) (x1 : Int64) (x3 : Int32) (x5 : Int64) (x8 : Int32) (x9 : Int32) (x10 : Int32) (x11 : Int64) (h : k_Mo_find_314 x1 x3 x5 x8 x9 x10 x11 q = some o) : ∀ (H : Heap) (locs : List Loc) (ls : Array Slot), z_wd D (z_M ad ca q) A s H locs → lv_has ls 15 [(0, .ref (ad 0)), (1, .long x1), (3, .int x3), (5, .long x5), (8, .int x8), (9, .int x9), (10, .int x10), (11, .long x11)] → W p l e (z_rm 2 47) s m args below meth c H locs 0 0 (z_ql below D (z_Mt ca) (z_M ad ca o.2) A s args o.1) (F0 m 314 ls []) := by
  obtain ⟨hx, hb, hr, hlk, hml, hown, hts, hK, hA⟩ := id C0
  intro H locs ls hw hl
  refine lv_aload_n hx hb d_Mo_find_314 rfl (lv_at hl 0 rfl) ?_
  refine gfM_0_user C0 hw fl_Mo_48 d_Mo_find_315 ?_
  refine lv_if_eq (tgt := 326) hx hb d_Mo_find_318 (by decide) (fun c10 => ?_) (fun c10 => ?_)
  · have h := ok_t h c10
    exact w_Mo_find_326 o C0 q x1 x3 x5 x9 x10 x11 h H locs ls hw (lv_sub hl [1, 2, 3, 5, 6, 7] rfl)
  · have h := ok_f h c10
    refine lv_iload hx hb d_Mo_find_321 (lv_at hl 4 rfl) ?_
    refine lv_if_eq (tgt := 336) hx hb d_Mo_find_323 (by decide) (fun c17 => ?_) (fun c17 => ?_)
    · have h := ok_t h c17
      exact w_Mo_find_336 o C0 q h H locs ls hw (lv_sub hl [] rfl)
    · have h := ok_f h c17
      exact w_Mo_find_326 o C0 q x1 x3 x5 x9 x10 x11 h H locs ls hw (lv_sub hl [1, 2, 3, 5, 6, 7] rfl)
set_option maxHeartbeats 4000000 in
set_option maxRecDepth 100000 in
theorem w_Mo_find_293 {p : Program} {l : Launch} {e : Env} {s : State} {m : MethodId} {args : Array Value} {below : List Frame} {meth : Method} {c : Code} {D : va_G} {A : Nat → Prop} {ad : Nat → Nat} {ca : Nat → ClassId} (o : (Int64 × z_Sg)) (C0 : z_cx z_RMo b_Mo_find 15 (some .long) D (z_Mt ca) A p s m args meth c) (q : z_Sg) (ih71 : Int64 × Int32 × Int32 × Int64 × Int32 × Int32 × Int32 × Int32 × Int64 × Int32 × z_Sg → Option (Int64 × z_Sg)) (hi71 : ∀ a : Int64 × Int32 × Int32 × Int64 × Int32 × Int32 × Int32 × Int32 × Int64 × Int32 × z_Sg, ih71 a = some o → ∀ (H : Heap) (locs : List Loc) (ls : Array Slot), z_wd D (z_M ad ca a.2.2.2.2.2.2.2.2.2.2) A s H locs → lv_has ls 15 [(0, .ref (ad 0)), (1, .long a.1), (3, .int a.2.1), (4, .int a.2.2.1), (5, .long a.2.2.2.1), (7, .int a.2.2.2.2.1), (8, .int a.2.2.2.2.2.1), (9, .int a.2.2.2.2.2.2.1), (10, .int a.2.2.2.2.2.2.2.1), (11, .long a.2.2.2.2.2.2.2.2.1), (13, .int a.2.2.2.2.2.2.2.2.2.1)] → W p l e (z_rm 2 47) s m args below meth c H locs 0 0 (z_ql below D (z_Mt ca) (z_M ad ca o.2) A s args o.1) (F0 m 71 ls [])) (x1 : Int64) (x3 : Int32) (x4 : Int32) (x5 : Int64) (x7 : Int32) (x8 : Int32) (x9 : Int32) (x10 : Int32) (x11 : Int64) (x13 : Int32) (h : k_Mo_find_293 ih71 x1 x3 x4 x5 x7 x8 x9 x10 x11 x13 q = some o) : ∀ (H : Heap) (locs : List Loc) (ls : Array Slot), z_wd D (z_M ad ca q) A s H locs → lv_has ls 15 [(0, .ref (ad 0)), (1, .long x1), (3, .int x3), (4, .int x4), (5, .long x5), (7, .int x7), (8, .int x8), (9, .int x9), (10, .int x10), (11, .long x11), (13, .int x13)] → W p l e (z_rm 2 47) s m args below meth c H locs 0 0 (z_ql below D (z_Mt ca) (z_M ad ca o.2) A s args o.1) (F0 m 293 ls []) := by
  obtain ⟨hx, hb, hr, hlk, hml, hown, hts, hK, hA⟩ := id C0
  intro H locs ls hw hl
  refine lv_goto (tgt := 71) hx hb d_Mo_find_293 (by decide) ?_
  exact hi71 (x1, x3, x4, x5, x7, x8, x9, x10, x11, x13, q) h H locs ls hw (lv_sub hl [0, 1, 2, 3, 4, 5, 6, 7, 8, 9, 10] rfl)
set_option maxHeartbeats 4000000 in
set_option maxRecDepth 100000 in
theorem w_Mo_find_283 {p : Program} {l : Launch} {e : Env} {s : State} {m : MethodId} {args : Array Value} {below : List Frame} {meth : Method} {c : Code} {D : va_G} {A : Nat → Prop} {ad : Nat → Nat} {ca : Nat → ClassId} (o : (Int64 × z_Sg)) (C0 : z_cx z_RMo b_Mo_find 15 (some .long) D (z_Mt ca) A p s m args meth c) (q : z_Sg) (ih71 : Int64 × Int32 × Int32 × Int64 × Int32 × Int32 × Int32 × Int32 × Int64 × Int32 × z_Sg → Option (Int64 × z_Sg)) (hi71 : ∀ a : Int64 × Int32 × Int32 × Int64 × Int32 × Int32 × Int32 × Int32 × Int64 × Int32 × z_Sg, ih71 a = some o → ∀ (H : Heap) (locs : List Loc) (ls : Array Slot), z_wd D (z_M ad ca a.2.2.2.2.2.2.2.2.2.2) A s H locs → lv_has ls 15 [(0, .ref (ad 0)), (1, .long a.1), (3, .int a.2.1), (4, .int a.2.2.1), (5, .long a.2.2.2.1), (7, .int a.2.2.2.2.1), (8, .int a.2.2.2.2.2.1), (9, .int a.2.2.2.2.2.2.1), (10, .int a.2.2.2.2.2.2.2.1), (11, .long a.2.2.2.2.2.2.2.2.1), (13, .int a.2.2.2.2.2.2.2.2.2.1)] → W p l e (z_rm 2 47) s m args below meth c H locs 0 0 (z_ql below D (z_Mt ca) (z_M ad ca o.2) A s args o.1) (F0 m 71 ls [])) (x1 : Int64) (x3 : Int32) (x4 : Int32) (x5 : Int64) (x7 : Int32) (x8 : Int32) (x9 : Int32) (x10 : Int32) (x11 : Int64) (t0 : Int32) (h : k_Mo_find_283 ih71 x1 x3 x4 x5 x7 x8 x9 x10 x11 t0 q = some o) : ∀ (H : Heap) (locs : List Loc) (ls : Array Slot), z_wd D (z_M ad ca q) A s H locs → lv_has ls 15 [(0, .ref (ad 0)), (1, .long x1), (3, .int x3), (4, .int x4), (5, .long x5), (7, .int x7), (8, .int x8), (9, .int x9), (10, .int x10), (11, .long x11)] → W p l e (z_rm 2 47) s m args below meth c H locs 0 0 (z_ql below D (z_Mt ca) (z_M ad ca o.2) A s args o.1) (F0 m 283 ls [.int t0]) := by
  obtain ⟨hx, hb, hr, hlk, hml, hown, hts, hK, hA⟩ := id C0
  intro H locs ls hw hl
  refine lv_istore (lv' := [(13, .int t0), (0, .ref (ad 0)), (1, .long x1), (3, .int x3), (4, .int x4), (5, .long x5), (7, .int x7), (8, .int x8), (9, .int x9), (10, .int x10), (11, .long x11)]) hx hb d_Mo_find_283 hl (by decide) rfl (fun ls hl => ?_)
  refine lv_iload hx hb d_Mo_find_285 (lv_at hl 0 rfl) ?_
  refine lv_if_ne (tgt := 293) hx hb d_Mo_find_287 (by decide) (fun c32 => ?_) (fun c32 => ?_)
  · have h := ok_f h c32
    exact w_Mo_find_293 o C0 q ih71 hi71 x1 x3 x4 x5 x7 x8 x9 x10 x11 t0 h H locs ls hw (lv_sub hl [1, 2, 3, 4, 5, 6, 7, 8, 9, 10, 0] rfl)
  · have h := ok_t h c32
    obtain ⟨n33, en33, h⟩ := ok_n h
    refine lv_iinc (v := n33) (lv' := [(10, .int n33), (13, .int t0), (0, .ref (ad 0)), (1, .long x1), (3, .int x3), (4, .int x4), (5, .long x5), (7, .int x7), (8, .int x8), (9, .int x9), (11, .long x11)]) hx hb d_Mo_find_290 hl (k := 9) rfl (by rw [en33]; rfl) (by decide) rfl (fun ls hl => ?_)
    exact w_Mo_find_293 o C0 q ih71 hi71 x1 x3 x4 x5 x7 x8 x9 n33 x11 t0 h H locs ls hw (lv_sub hl [2, 3, 4, 5, 6, 7, 8, 9, 0, 10, 1] rfl)
set_option maxHeartbeats 4000000 in
set_option maxRecDepth 100000 in
theorem w_Mo_find_278 {p : Program} {l : Launch} {e : Env} {s : State} {m : MethodId} {args : Array Value} {below : List Frame} {meth : Method} {c : Code} {D : va_G} {A : Nat → Prop} {ad : Nat → Nat} {ca : Nat → ClassId} (o : (Int64 × z_Sg)) (C0 : z_cx z_RMo b_Mo_find 15 (some .long) D (z_Mt ca) A p s m args meth c) (q : z_Sg) (ih71 : Int64 × Int32 × Int32 × Int64 × Int32 × Int32 × Int32 × Int32 × Int64 × Int32 × z_Sg → Option (Int64 × z_Sg)) (hi71 : ∀ a : Int64 × Int32 × Int32 × Int64 × Int32 × Int32 × Int32 × Int32 × Int64 × Int32 × z_Sg, ih71 a = some o → ∀ (H : Heap) (locs : List Loc) (ls : Array Slot), z_wd D (z_M ad ca a.2.2.2.2.2.2.2.2.2.2) A s H locs → lv_has ls 15 [(0, .ref (ad 0)), (1, .long a.1), (3, .int a.2.1), (4, .int a.2.2.1), (5, .long a.2.2.2.1), (7, .int a.2.2.2.2.1), (8, .int a.2.2.2.2.2.1), (9, .int a.2.2.2.2.2.2.1), (10, .int a.2.2.2.2.2.2.2.1), (11, .long a.2.2.2.2.2.2.2.2.1), (13, .int a.2.2.2.2.2.2.2.2.2.1)] → W p l e (z_rm 2 47) s m args below meth c H locs 0 0 (z_ql below D (z_Mt ca) (z_M ad ca o.2) A s args o.1) (F0 m 71 ls [])) (x1 : Int64) (x3 : Int32) (x4 : Int32) (x5 : Int64) (x7 : Int32) (x8 : Int32) (x9 : Int32) (x10 : Int32) (x11 : Int64) (h : k_Mo_find_278 ih71 x1 x3 x4 x5 x7 x8 x9 x10 x11 q = some o) : ∀ (H : Heap) (locs : List Loc) (ls : Array Slot), z_wd D (z_M ad ca q) A s H locs → lv_has ls 15 [(0, .ref (ad 0)), (1, .long x1), (3, .int x3), (4, .int x4), (5, .long x5), (7, .int x7), (8, .int x8), (9, .int x9), (10, .int x10), (11, .long x11)] → W p l e (z_rm 2 47) s m args below meth c H locs 0 0 (z_ql below D (z_Mt ca) (z_M ad ca o.2) A s args o.1) (F0 m 278 ls []) := by
  obtain ⟨hx, hb, hr, hlk, hml, hown, hts, hK, hA⟩ := id C0
  intro H locs ls hw hl
  refine lv_iconst (v := (1 : Int32)) hx hb d_Mo_find_278 (by decide) ?_
  refine lv_goto (tgt := 283) hx hb d_Mo_find_279 (by decide) ?_
  exact w_Mo_find_283 o C0 q ih71 hi71 x1 x3 x4 x5 x7 x8 x9 x10 x11 (1 : Int32) h H locs ls hw (lv_sub hl [0, 1, 2, 3, 4, 5, 6, 7, 8, 9] rfl)
set_option maxHeartbeats 4000000 in
set_option maxRecDepth 100000 in
theorem w_Mo_find_252 {p : Program} {l : Launch} {e : Env} {s : State} {m : MethodId} {args : Array Value} {below : List Frame} {meth : Method} {c : Code} {D : va_G} {A : Nat → Prop} {ad : Nat → Nat} {ca : Nat → ClassId} (o : (Int64 × z_Sg)) (C0 : z_cx z_RMo b_Mo_find 15 (some .long) D (z_Mt ca) A p s m args meth c) (q : z_Sg) (ih71 : Int64 × Int32 × Int32 × Int64 × Int32 × Int32 × Int32 × Int32 × Int64 × Int32 × z_Sg → Option (Int64 × z_Sg)) (hi71 : ∀ a : Int64 × Int32 × Int32 × Int64 × Int32 × Int32 × Int32 × Int32 × Int64 × Int32 × z_Sg, ih71 a = some o → ∀ (H : Heap) (locs : List Loc) (ls : Array Slot), z_wd D (z_M ad ca a.2.2.2.2.2.2.2.2.2.2) A s H locs → lv_has ls 15 [(0, .ref (ad 0)), (1, .long a.1), (3, .int a.2.1), (4, .int a.2.2.1), (5, .long a.2.2.2.1), (7, .int a.2.2.2.2.1), (8, .int a.2.2.2.2.2.1), (9, .int a.2.2.2.2.2.2.1), (10, .int a.2.2.2.2.2.2.2.1), (11, .long a.2.2.2.2.2.2.2.2.1), (13, .int a.2.2.2.2.2.2.2.2.2.1)] → W p l e (z_rm 2 47) s m args below meth c H locs 0 0 (z_ql below D (z_Mt ca) (z_M ad ca o.2) A s args o.1) (F0 m 71 ls [])) (x1 : Int64) (x3 : Int32) (x4 : Int32) (x7 : Int32) (x8 : Int32) (x10 : Int32) (x11 : Int64) (x14 : Int32) (t0 : Int32) (h : k_Mo_find_252 ih71 x1 x3 x4 x7 x8 x10 x11 x14 t0 q = some o) : ∀ (H : Heap) (locs : List Loc) (ls : Array Slot), z_wd D (z_M ad ca q) A s H locs → lv_has ls 15 [(0, .ref (ad 0)), (1, .long x1), (3, .int x3), (4, .int x4), (7, .int x7), (8, .int x8), (10, .int x10), (11, .long x11), (14, .int x14)] → W p l e (z_rm 2 47) s m args below meth c H locs 0 0 (z_ql below D (z_Mt ca) (z_M ad ca o.2) A s args o.1) (F0 m 252 ls [.int t0]) := by
  obtain ⟨hx, hb, hr, hlk, hml, hown, hts, hK, hA⟩ := id C0
  intro H locs ls hw hl
  refine lv_istore (lv' := [(9, .int t0), (0, .ref (ad 0)), (1, .long x1), (3, .int x3), (4, .int x4), (7, .int x7), (8, .int x8), (10, .int x10), (11, .long x11), (14, .int x14)]) hx hb d_Mo_find_252 hl (by decide) rfl (fun ls hl => ?_)
  refine lv_lload hx hb d_Mo_find_254 (lv_at hl 8 rfl) ?_
  refine lv_bipush (v := (12 : Int32)) hx hb d_Mo_find_256 (by decide) ?_
  refine lv_bipush (v := (51 : Int32)) hx hb d_Mo_find_258 (by decide) ?_
  obtain ⟨r29, er29, h⟩ := ok_b h
  refine z_sl (rest := []) C0 hw (c_Mo_bits x11 (12 : Int32) (51 : Int32) q r29 er29) mw_Mo_bits ml_Mo_56 ⟨Nat.le_of_ble_eq_true rfl, Nat.le_of_ble_eq_true rfl⟩ ⟨Nat.le_refl 0, Nat.le_refl 0⟩ rfl hl.1 rfl (Nat.le_of_ble_eq_true rfl) d_Mo_find_260 (fun H locs hw => ?_)
  refine lv_bipush (v := (12 : Int32)) hx hb d_Mo_find_263 (by decide) ?_
  refine lv_lshl (v := (z_lshl r29 (12 : Int32))) hx hb d_Mo_find_265 rfl ?_
  obtain ⟨n30, en30, h⟩ := ok_n h
  refine z_tl en30 ?_
  refine lv_lstore (lv' := [(5, .long n30), (9, .int t0), (0, .ref (ad 0)), (1, .long x1), (3, .int x3), (4, .int x4), (7, .int x7), (8, .int x8), (10, .int x10), (11, .long x11), (14, .int x14)]) hx hb d_Mo_find_266 hl (by decide) rfl (fun ls hl => ?_)
  refine lv_iload hx hb d_Mo_find_268 (lv_at hl 10 rfl) ?_
  refine lv_if_ne (tgt := 278) hx hb d_Mo_find_270 (by decide) (fun c31 => ?_) (fun c31 => ?_)
  · have h := ok_f h c31
    exact w_Mo_find_278 o C0 q ih71 hi71 x1 x3 x4 n30 x7 x8 t0 x10 x11 h H locs ls hw (lv_sub hl [2, 3, 4, 5, 0, 6, 7, 1, 8, 9] rfl)
  · have h := ok_t h c31
    refine lv_iload hx hb d_Mo_find_273 (lv_at hl 8 rfl) ?_
    refine lv_if_ne (tgt := 282) hx hb d_Mo_find_275 (by decide) (fun c34 => ?_) (fun c34 => ?_)
    · have h := ok_f h c34
      refine lv_iconst (v := (0 : Int32)) hx hb d_Mo_find_282 (by decide) ?_
      exact w_Mo_find_283 o C0 q ih71 hi71 x1 x3 x4 n30 x7 x8 t0 x10 x11 (0 : Int32) h H locs ls hw (lv_sub hl [2, 3, 4, 5, 0, 6, 7, 1, 8, 9] rfl)
    · have h := ok_t h c34
      exact w_Mo_find_278 o C0 q ih71 hi71 x1 x3 x4 n30 x7 x8 t0 x10 x11 h H locs ls hw (lv_sub hl [2, 3, 4, 5, 0, 6, 7, 1, 8, 9] rfl)
set_option maxHeartbeats 4000000 in
set_option maxRecDepth 100000 in
theorem w_Mo_find_251 {p : Program} {l : Launch} {e : Env} {s : State} {m : MethodId} {args : Array Value} {below : List Frame} {meth : Method} {c : Code} {D : va_G} {A : Nat → Prop} {ad : Nat → Nat} {ca : Nat → ClassId} (o : (Int64 × z_Sg)) (C0 : z_cx z_RMo b_Mo_find 15 (some .long) D (z_Mt ca) A p s m args meth c) (q : z_Sg) (ih71 : Int64 × Int32 × Int32 × Int64 × Int32 × Int32 × Int32 × Int32 × Int64 × Int32 × z_Sg → Option (Int64 × z_Sg)) (hi71 : ∀ a : Int64 × Int32 × Int32 × Int64 × Int32 × Int32 × Int32 × Int32 × Int64 × Int32 × z_Sg, ih71 a = some o → ∀ (H : Heap) (locs : List Loc) (ls : Array Slot), z_wd D (z_M ad ca a.2.2.2.2.2.2.2.2.2.2) A s H locs → lv_has ls 15 [(0, .ref (ad 0)), (1, .long a.1), (3, .int a.2.1), (4, .int a.2.2.1), (5, .long a.2.2.2.1), (7, .int a.2.2.2.2.1), (8, .int a.2.2.2.2.2.1), (9, .int a.2.2.2.2.2.2.1), (10, .int a.2.2.2.2.2.2.2.1), (11, .long a.2.2.2.2.2.2.2.2.1), (13, .int a.2.2.2.2.2.2.2.2.2.1)] → W p l e (z_rm 2 47) s m args below meth c H locs 0 0 (z_ql below D (z_Mt ca) (z_M ad ca o.2) A s args o.1) (F0 m 71 ls [])) (x1 : Int64) (x3 : Int32) (x4 : Int32) (x7 : Int32) (x8 : Int32) (x10 : Int32) (x11 : Int64) (x14 : Int32) (h : k_Mo_find_251 ih71 x1 x3 x4 x7 x8 x10 x11 x14 q = some o) : ∀ (H : Heap) (locs : List Loc) (ls : Array Slot), z_wd D (z_M ad ca q) A s H locs → lv_has ls 15 [(0, .ref (ad 0)), (1, .long x1), (3, .int x3), (4, .int x4), (7, .int x7), (8, .int x8), (10, .int x10), (11, .long x11), (14, .int x14)] → W p l e (z_rm 2 47) s m args below meth c H locs 0 0 (z_ql below D (z_Mt ca) (z_M ad ca o.2) A s args o.1) (F0 m 251 ls []) := by
  obtain ⟨hx, hb, hr, hlk, hml, hown, hts, hK, hA⟩ := id C0
  intro H locs ls hw hl
  refine lv_iconst (v := (0 : Int32)) hx hb d_Mo_find_251 (by decide) ?_
  exact w_Mo_find_252 o C0 q ih71 hi71 x1 x3 x4 x7 x8 x10 x11 x14 (0 : Int32) h H locs ls hw (lv_sub hl [0, 1, 2, 3, 4, 5, 6, 7, 8] rfl)
set_option maxHeartbeats 4000000 in
set_option maxRecDepth 100000 in
theorem w_Mo_find_233 {p : Program} {l : Launch} {e : Env} {s : State} {m : MethodId} {args : Array Value} {below : List Frame} {meth : Method} {c : Code} {D : va_G} {A : Nat → Prop} {ad : Nat → Nat} {ca : Nat → ClassId} (o : (Int64 × z_Sg)) (C0 : z_cx z_RMo b_Mo_find 15 (some .long) D (z_Mt ca) A p s m args meth c) (q : z_Sg) (ih71 : Int64 × Int32 × Int32 × Int64 × Int32 × Int32 × Int32 × Int32 × Int64 × Int32 × z_Sg → Option (Int64 × z_Sg)) (hi71 : ∀ a : Int64 × Int32 × Int32 × Int64 × Int32 × Int32 × Int32 × Int32 × Int64 × Int32 × z_Sg, ih71 a = some o → ∀ (H : Heap) (locs : List Loc) (ls : Array Slot), z_wd D (z_M ad ca a.2.2.2.2.2.2.2.2.2.2) A s H locs → lv_has ls 15 [(0, .ref (ad 0)), (1, .long a.1), (3, .int a.2.1), (4, .int a.2.2.1), (5, .long a.2.2.2.1), (7, .int a.2.2.2.2.1), (8, .int a.2.2.2.2.2.1), (9, .int a.2.2.2.2.2.2.1), (10, .int a.2.2.2.2.2.2.2.1), (11, .long a.2.2.2.2.2.2.2.2.1), (13, .int a.2.2.2.2.2.2.2.2.2.1)] → W p l e (z_rm 2 47) s m args below meth c H locs 0 0 (z_ql below D (z_Mt ca) (z_M ad ca o.2) A s args o.1) (F0 m 71 ls [])) (x1 : Int64) (x3 : Int32) (x4 : Int32) (x7 : Int32) (x9 : Int32) (x10 : Int32) (x11 : Int64) (x14 : Int32) (t0 : Int32) (h : k_Mo_find_233 ih71 x1 x3 x4 x7 x9 x10 x11 x14 t0 q = some o) : ∀ (H : Heap) (locs : List Loc) (ls : Array Slot), z_wd D (z_M ad ca q) A s H locs → lv_has ls 15 [(0, .ref (ad 0)), (1, .long x1), (3, .int x3), (4, .int x4), (7, .int x7), (9, .int x9), (10, .int x10), (11, .long x11), (14, .int x14)] → W p l e (z_rm 2 47) s m args below meth c H locs 0 0 (z_ql below D (z_Mt ca) (z_M ad ca o.2) A s args o.1) (F0 m 233 ls [.int t0]) := by
  obtain ⟨hx, hb, hr, hlk, hml, hown, hts, hK, hA⟩ := id C0
  intro H locs ls hw hl
  refine lv_istore (lv' := [(8, .int t0), (0, .ref (ad 0)), (1, .long x1), (3, .int x3), (4, .int x4), (7, .int x7), (9, .int x9), (10, .int x10), (11, .long x11), (14, .int x14)]) hx hb d_Mo_find_233 hl (by decide) rfl (fun ls hl => ?_)
  refine lv_iload hx hb d_Mo_find_235 (lv_at hl 6 rfl) ?_
  refine lv_if_eq (tgt := 251) hx hb d_Mo_find_237 (by decide) (fun c28 => ?_) (fun c28 => ?_)
  · have h := ok_t h c28
    exact w_Mo_find_251 o C0 q ih71 hi71 x1 x3 x4 x7 t0 x10 x11 x14 h H locs ls hw (lv_sub hl [1, 2, 3, 4, 5, 0, 7, 8, 9] rfl)
  · have h := ok_f h c28
    refine lv_lload hx hb d_Mo_find_240 (lv_at hl 8 rfl) ?_
    refine lv_lconst (v := (0 : Int64)) hx hb d_Mo_find_242 (by decide) ?_
    refine W.lcmp hx hb d_Mo_find_243 ?_
    refine lv_if_lt (tgt := 251) hx hb d_Mo_find_244 (by decide) (fun c35 => ?_) (fun c35 => ?_)
    · have h := ok_t h ((lg_cmp_lt _ _).mp c35)
      exact w_Mo_find_251 o C0 q ih71 hi71 x1 x3 x4 x7 t0 x10 x11 x14 h H locs ls hw (lv_sub hl [1, 2, 3, 4, 5, 0, 7, 8, 9] rfl)
    · have h := ok_f h (fun z => c35 ((lg_cmp_lt _ _).mpr z))
      refine lv_iconst (v := (1 : Int32)) hx hb d_Mo_find_247 (by decide) ?_
      refine lv_goto (tgt := 252) hx hb d_Mo_find_248 (by decide) ?_
      exact w_Mo_find_252 o C0 q ih71 hi71 x1 x3 x4 x7 t0 x10 x11 x14 (1 : Int32) h H locs ls hw (lv_sub hl [1, 2, 3, 4, 5, 0, 7, 8, 9] rfl)
set_option maxHeartbeats 4000000 in
set_option maxRecDepth 100000 in
theorem w_Mo_find_232 {p : Program} {l : Launch} {e : Env} {s : State} {m : MethodId} {args : Array Value} {below : List Frame} {meth : Method} {c : Code} {D : va_G} {A : Nat → Prop} {ad : Nat → Nat} {ca : Nat → ClassId} (o : (Int64 × z_Sg)) (C0 : z_cx z_RMo b_Mo_find 15 (some .long) D (z_Mt ca) A p s m args meth c) (q : z_Sg) (ih71 : Int64 × Int32 × Int32 × Int64 × Int32 × Int32 × Int32 × Int32 × Int64 × Int32 × z_Sg → Option (Int64 × z_Sg)) (hi71 : ∀ a : Int64 × Int32 × Int32 × Int64 × Int32 × Int32 × Int32 × Int32 × Int64 × Int32 × z_Sg, ih71 a = some o → ∀ (H : Heap) (locs : List Loc) (ls : Array Slot), z_wd D (z_M ad ca a.2.2.2.2.2.2.2.2.2.2) A s H locs → lv_has ls 15 [(0, .ref (ad 0)), (1, .long a.1), (3, .int a.2.1), (4, .int a.2.2.1), (5, .long a.2.2.2.1), (7, .int a.2.2.2.2.1), (8, .int a.2.2.2.2.2.1), (9, .int a.2.2.2.2.2.2.1), (10, .int a.2.2.2.2.2.2.2.1), (11, .long a.2.2.2.2.2.2.2.2.1), (13, .int a.2.2.2.2.2.2.2.2.2.1)] → W p l e (z_rm 2 47) s m args below meth c H locs 0 0 (z_ql below D (z_Mt ca) (z_M ad ca o.2) A s args o.1) (F0 m 71 ls [])) (x1 : Int64) (x3 : Int32) (x4 : Int32) (x7 : Int32) (x9 : Int32) (x10 : Int32) (x11 : Int64) (x14 : Int32) (h : k_Mo_find_232 ih71 x1 x3 x4 x7 x9 x10 x11 x14 q = some o) : ∀ (H : Heap) (locs : List Loc) (ls : Array Slot), z_wd D (z_M ad ca q) A s H locs → lv_has ls 15 [(0, .ref (ad 0)), (1, .long x1), (3, .int x3), (4, .int x4), (7, .int x7), (9, .int x9), (10, .int x10), (11, .long x11), (14, .int x14)] → W p l e (z_rm 2 47) s m args below meth c H locs 0 0 (z_ql below D (z_Mt ca) (z_M ad ca o.2) A s args o.1) (F0 m 232 ls []) := by
  obtain ⟨hx, hb, hr, hlk, hml, hown, hts, hK, hA⟩ := id C0
  intro H locs ls hw hl
  refine lv_iconst (v := (0 : Int32)) hx hb d_Mo_find_232 (by decide) ?_
  exact w_Mo_find_233 o C0 q ih71 hi71 x1 x3 x4 x7 x9 x10 x11 x14 (0 : Int32) h H locs ls hw (lv_sub hl [0, 1, 2, 3, 4, 5, 6, 7, 8] rfl)
set_option maxHeartbeats 4000000 in
set_option maxRecDepth 100000 in
theorem w_Mo_find_210 {p : Program} {l : Launch} {e : Env} {s : State} {m : MethodId} {args : Array Value} {below : List Frame} {meth : Method} {c : Code} {D : va_G} {A : Nat → Prop} {ad : Nat → Nat} {ca : Nat → ClassId} (o : (Int64 × z_Sg)) (C0 : z_cx z_RMo b_Mo_find 15 (some .long) D (z_Mt ca) A p s m args meth c) (q : z_Sg) (ih71 : Int64 × Int32 × Int32 × Int64 × Int32 × Int32 × Int32 × Int32 × Int64 × Int32 × z_Sg → Option (Int64 × z_Sg)) (hi71 : ∀ a : Int64 × Int32 × Int32 × Int64 × Int32 × Int32 × Int32 × Int32 × Int64 × Int32 × z_Sg, ih71 a = some o → ∀ (H : Heap) (locs : List Loc) (ls : Array Slot), z_wd D (z_M ad ca a.2.2.2.2.2.2.2.2.2.2) A s H locs → lv_has ls 15 [(0, .ref (ad 0)), (1, .long a.1), (3, .int a.2.1), (4, .int a.2.2.1), (5, .long a.2.2.2.1), (7, .int a.2.2.2.2.1), (8, .int a.2.2.2.2.2.1), (9, .int a.2.2.2.2.2.2.1), (10, .int a.2.2.2.2.2.2.2.1), (11, .long a.2.2.2.2.2.2.2.2.1), (13, .int a.2.2.2.2.2.2.2.2.2.1)] → W p l e (z_rm 2 47) s m args below meth c H locs 0 0 (z_ql below D (z_Mt ca) (z_M ad ca o.2) A s args o.1) (F0 m 71 ls [])) (x1 : Int64) (x3 : Int32) (x4 : Int32) (x8 : Int32) (x9 : Int32) (x10 : Int32) (x11 : Int64) (x14 : Int32) (t0 : Int32) (h : k_Mo_find_210 ih71 x1 x3 x4 x8 x9 x10 x11 x14 t0 q = some o) : ∀ (H : Heap) (locs : List Loc) (ls : Array Slot), z_wd D (z_M ad ca q) A s H locs → lv_has ls 15 [(0, .ref (ad 0)), (1, .long x1), (3, .int x3), (4, .int x4), (8, .int x8), (9, .int x9), (10, .int x10), (11, .long x11), (14, .int x14)] → W p l e (z_rm 2 47) s m args below meth c H locs 0 0 (z_ql below D (z_Mt ca) (z_M ad ca o.2) A s args o.1) (F0 m 210 ls [.int t0]) := by
  obtain ⟨hx, hb, hr, hlk, hml, hown, hts, hK, hA⟩ := id C0
  intro H locs ls hw hl
  refine lv_istore (lv' := [(7, .int t0), (0, .ref (ad 0)), (1, .long x1), (3, .int x3), (4, .int x4), (8, .int x8), (9, .int x9), (10, .int x10), (11, .long x11), (14, .int x14)]) hx hb d_Mo_find_210 hl (by decide) rfl (fun ls hl => ?_)
  refine lv_iload hx hb d_Mo_find_212 (lv_at hl 5 rfl) ?_
  refine lv_if_eq (tgt := 232) hx hb d_Mo_find_214 (by decide) (fun c27 => ?_) (fun c27 => ?_)
  · have h := ok_t h c27
    exact w_Mo_find_232 o C0 q ih71 hi71 x1 x3 x4 t0 x9 x10 x11 x14 h H locs ls hw (lv_sub hl [1, 2, 3, 4, 0, 6, 7, 8, 9] rfl)
  · have h := ok_f h c27
    refine lv_lload hx hb d_Mo_find_217 (lv_at hl 8 rfl) ?_
    refine lv_ldc2 (own := z_RMo) hx hb hown (hts _ kl_Mo_75) d_Mo_find_219 ?_
    refine lv_land hx hb d_Mo_find_222 ?_
    refine lv_lconst (v := (0 : Int64)) hx hb d_Mo_find_223 (by decide) ?_
    refine W.lcmp hx hb d_Mo_find_224 ?_
    refine lv_if_eq (tgt := 232) hx hb d_Mo_find_225 (by decide) (fun c36 => ?_) (fun c36 => ?_)
    · have h := ok_t h ((lg_cmp_eq _ _).mp c36)
      exact w_Mo_find_232 o C0 q ih71 hi71 x1 x3 x4 t0 x9 x10 x11 x14 h H locs ls hw (lv_sub hl [1, 2, 3, 4, 0, 6, 7, 8, 9] rfl)
    · have h := ok_f h (fun z => c36 ((lg_cmp_eq _ _).mpr z))
      refine lv_iconst (v := (1 : Int32)) hx hb d_Mo_find_228 (by decide) ?_
      refine lv_goto (tgt := 233) hx hb d_Mo_find_229 (by decide) ?_
      exact w_Mo_find_233 o C0 q ih71 hi71 x1 x3 x4 t0 x9 x10 x11 x14 (1 : Int32) h H locs ls hw (lv_sub hl [1, 2, 3, 4, 0, 6, 7, 8, 9] rfl)
set_option maxHeartbeats 4000000 in
set_option maxRecDepth 100000 in
theorem w_Mo_find_209 {p : Program} {l : Launch} {e : Env} {s : State} {m : MethodId} {args : Array Value} {below : List Frame} {meth : Method} {c : Code} {D : va_G} {A : Nat → Prop} {ad : Nat → Nat} {ca : Nat → ClassId} (o : (Int64 × z_Sg)) (C0 : z_cx z_RMo b_Mo_find 15 (some .long) D (z_Mt ca) A p s m args meth c) (q : z_Sg) (ih71 : Int64 × Int32 × Int32 × Int64 × Int32 × Int32 × Int32 × Int32 × Int64 × Int32 × z_Sg → Option (Int64 × z_Sg)) (hi71 : ∀ a : Int64 × Int32 × Int32 × Int64 × Int32 × Int32 × Int32 × Int32 × Int64 × Int32 × z_Sg, ih71 a = some o → ∀ (H : Heap) (locs : List Loc) (ls : Array Slot), z_wd D (z_M ad ca a.2.2.2.2.2.2.2.2.2.2) A s H locs → lv_has ls 15 [(0, .ref (ad 0)), (1, .long a.1), (3, .int a.2.1), (4, .int a.2.2.1), (5, .long a.2.2.2.1), (7, .int a.2.2.2.2.1), (8, .int a.2.2.2.2.2.1), (9, .int a.2.2.2.2.2.2.1), (10, .int a.2.2.2.2.2.2.2.1), (11, .long a.2.2.2.2.2.2.2.2.1), (13, .int a.2.2.2.2.2.2.2.2.2.1)] → W p l e (z_rm 2 47) s m args below meth c H locs 0 0 (z_ql below D (z_Mt ca) (z_M ad ca o.2) A s args o.1) (F0 m 71 ls [])) (x1 : Int64) (x3 : Int32) (x4 : Int32) (x8 : Int32) (x9 : Int32) (x10 : Int32) (x11 : Int64) (x14 : Int32) (h : k_Mo_find_209 ih71 x1 x3 x4 x8 x9 x10 x11 x14 q = some o) : ∀ (H : Heap) (locs : List Loc) (ls : Array Slot), z_wd D (z_M ad ca q) A s H locs → lv_has ls 15 [(0, .ref (ad 0)), (1, .long x1), (3, .int x3), (4, .int x4), (8, .int x8), (9, .int x9), (10, .int x10), (11, .long x11), (14, .int x14)] → W p l e (z_rm 2 47) s m args below meth c H locs 0 0 (z_ql below D (z_Mt ca) (z_M ad ca o.2) A s args o.1) (F0 m 209 ls []) := by
  obtain ⟨hx, hb, hr, hlk, hml, hown, hts, hK, hA⟩ := id C0
  intro H locs ls hw hl
  refine lv_iconst (v := (0 : Int32)) hx hb d_Mo_find_209 (by decide) ?_
  exact w_Mo_find_210 o C0 q ih71 hi71 x1 x3 x4 x8 x9 x10 x11 x14 (0 : Int32) h H locs ls hw (lv_sub hl [0, 1, 2, 3, 4, 5, 6, 7, 8] rfl)
set_option maxHeartbeats 4000000 in
set_option maxRecDepth 100000 in
theorem w_Mo_find_189 {p : Program} {l : Launch} {e : Env} {s : State} {m : MethodId} {args : Array Value} {below : List Frame} {meth : Method} {c : Code} {D : va_G} {A : Nat → Prop} {ad : Nat → Nat} {ca : Nat → ClassId} (o : (Int64 × z_Sg)) (C0 : z_cx z_RMo b_Mo_find 15 (some .long) D (z_Mt ca) A p s m args meth c) (q : z_Sg) (ih71 : Int64 × Int32 × Int32 × Int64 × Int32 × Int32 × Int32 × Int32 × Int64 × Int32 × z_Sg → Option (Int64 × z_Sg)) (hi71 : ∀ a : Int64 × Int32 × Int32 × Int64 × Int32 × Int32 × Int32 × Int32 × Int64 × Int32 × z_Sg, ih71 a = some o → ∀ (H : Heap) (locs : List Loc) (ls : Array Slot), z_wd D (z_M ad ca a.2.2.2.2.2.2.2.2.2.2) A s H locs → lv_has ls 15 [(0, .ref (ad 0)), (1, .long a.1), (3, .int a.2.1), (4, .int a.2.2.1), (5, .long a.2.2.2.1), (7, .int a.2.2.2.2.1), (8, .int a.2.2.2.2.2.1), (9, .int a.2.2.2.2.2.2.1), (10, .int a.2.2.2.2.2.2.2.1), (11, .long a.2.2.2.2.2.2.2.2.1), (13, .int a.2.2.2.2.2.2.2.2.2.1)] → W p l e (z_rm 2 47) s m args below meth c H locs 0 0 (z_ql below D (z_Mt ca) (z_M ad ca o.2) A s args o.1) (F0 m 71 ls [])) (x1 : Int64) (x3 : Int32) (x4 : Int32) (x7 : Int32) (x8 : Int32) (x9 : Int32) (x10 : Int32) (x11 : Int64) (x14 : Int32) (h : k_Mo_find_189 ih71 x1 x3 x4 x7 x8 x9 x10 x11 x14 q = some o) : ∀ (H : Heap) (locs : List Loc) (ls : Array Slot), z_wd D (z_M ad ca q) A s H locs → lv_has ls 15 [(0, .ref (ad 0)), (1, .long x1), (3, .int x3), (4, .int x4), (7, .int x7), (8, .int x8), (9, .int x9), (10, .int x10), (11, .long x11), (14, .int x14)] → W p l e (z_rm 2 47) s m args below meth c H locs 0 0 (z_ql below D (z_Mt ca) (z_M ad ca o.2) A s args o.1) (F0 m 189 ls []) := by
  obtain ⟨hx, hb, hr, hlk, hml, hown, hts, hK, hA⟩ := id C0
  intro H locs ls hw hl
  refine lv_iload hx hb d_Mo_find_189 (lv_at hl 4 rfl) ?_
  refine lv_if_eq (tgt := 209) hx hb d_Mo_find_191 (by decide) (fun c26 => ?_) (fun c26 => ?_)
  · have h := ok_t h c26
    exact w_Mo_find_209 o C0 q ih71 hi71 x1 x3 x4 x8 x9 x10 x11 x14 h H locs ls hw (lv_sub hl [0, 1, 2, 3, 5, 6, 7, 8, 9] rfl)
  · have h := ok_f h c26
    refine lv_lload hx hb d_Mo_find_194 (lv_at hl 8 rfl) ?_
    refine lv_ldc2 (own := z_RMo) hx hb hown (hts _ kl_Mo_73) d_Mo_find_196 ?_
    refine lv_land hx hb d_Mo_find_199 ?_
    refine lv_lconst (v := (0 : Int64)) hx hb d_Mo_find_200 (by decide) ?_
    refine W.lcmp hx hb d_Mo_find_201 ?_
    refine lv_if_eq (tgt := 209) hx hb d_Mo_find_202 (by decide) (fun c37 => ?_) (fun c37 => ?_)
    · have h := ok_t h ((lg_cmp_eq _ _).mp c37)
      exact w_Mo_find_209 o C0 q ih71 hi71 x1 x3 x4 x8 x9 x10 x11 x14 h H locs ls hw (lv_sub hl [0, 1, 2, 3, 5, 6, 7, 8, 9] rfl)
    · have h := ok_f h (fun z => c37 ((lg_cmp_eq _ _).mpr z))
      refine lv_iconst (v := (1 : Int32)) hx hb d_Mo_find_205 (by decide) ?_
      refine lv_goto (tgt := 210) hx hb d_Mo_find_206 (by decide) ?_
      exact w_Mo_find_210 o C0 q ih71 hi71 x1 x3 x4 x8 x9 x10 x11 x14 (1 : Int32) h H locs ls hw (lv_sub hl [0, 1, 2, 3, 5, 6, 7, 8, 9] rfl)
set_option maxHeartbeats 4000000 in
set_option maxRecDepth 100000 in
theorem w_Mo_find_185 {p : Program} {l : Launch} {e : Env} {s : State} {m : MethodId} {args : Array Value} {below : List Frame} {meth : Method} {c : Code} {D : va_G} {A : Nat → Prop} {ad : Nat → Nat} {ca : Nat → ClassId} (o : (Int64 × z_Sg)) (C0 : z_cx z_RMo b_Mo_find 15 (some .long) D (z_Mt ca) A p s m args meth c) (q : z_Sg) (h : k_Mo_find_185 q = some o) : ∀ (H : Heap) (locs : List Loc) (ls : Array Slot), z_wd D (z_M ad ca q) A s H locs → lv_has ls 15 [] → W p l e (z_rm 2 47) s m args below meth c H locs 0 0 (z_ql below D (z_Mt ca) (z_M ad ca o.2) A s args o.1) (F0 m 185 ls []) := by
  obtain ⟨hx, hb, hr, hlk, hml, hown, hts, hK, hA⟩ := id C0
  intro H locs ls hw hl
  refine lv_ldc2 (own := z_RMo) hx hb hown (hts _ kl_Mo_71) d_Mo_find_185 ?_
  have ho := Option.some.inj h
  subst ho
  exact z_rtl C0 hw d_Mo_find_188
set_option maxHeartbeats 4000000 in
set_option maxRecDepth 100000 in
theorem w_Mo_find_130 {p : Program} {l : Launch} {e : Env} {s : State} {m : MethodId} {args : Array Value} {below : List Frame} {meth : Method} {c : Code} {D : va_G} {A : Nat → Prop} {ad : Nat → Nat} {ca : Nat → ClassId} (o : (Int64 × z_Sg)) (C0 : z_cx z_RMo b_Mo_find 15 (some .long) D (z_Mt ca) A p s m args meth c) (q : z_Sg) (ih71 : Int64 × Int32 × Int32 × Int64 × Int32 × Int32 × Int32 × Int32 × Int64 × Int32 × z_Sg → Option (Int64 × z_Sg)) (hi71 : ∀ a : Int64 × Int32 × Int32 × Int64 × Int32 × Int32 × Int32 × Int32 × Int64 × Int32 × z_Sg, ih71 a = some o → ∀ (H : Heap) (locs : List Loc) (ls : Array Slot), z_wd D (z_M ad ca a.2.2.2.2.2.2.2.2.2.2) A s H locs → lv_has ls 15 [(0, .ref (ad 0)), (1, .long a.1), (3, .int a.2.1), (4, .int a.2.2.1), (5, .long a.2.2.2.1), (7, .int a.2.2.2.2.1), (8, .int a.2.2.2.2.2.1), (9, .int a.2.2.2.2.2.2.1), (10, .int a.2.2.2.2.2.2.2.1), (11, .long a.2.2.2.2.2.2.2.2.1), (13, .int a.2.2.2.2.2.2.2.2.2.1)] → W p l e (z_rm 2 47) s m args below meth c H locs 0 0 (z_ql below D (z_Mt ca) (z_M ad ca o.2) A s args o.1) (F0 m 71 ls [])) (x1 : Int64) (x3 : Int32) (x4 : Int32) (x7 : Int32) (x8 : Int32) (x9 : Int32) (x10 : Int32) (x11 : Int64) (t0 : Int32) (h : k_Mo_find_130 ih71 x1 x3 x4 x7 x8 x9 x10 x11 t0 q = some o) : ∀ (H : Heap) (locs : List Loc) (ls : Array Slot), z_wd D (z_M ad ca q) A s H locs → lv_has ls 15 [(0, .ref (ad 0)), (1, .long x1), (3, .int x3), (4, .int x4), (7, .int x7), (8, .int x8), (9, .int x9), (10, .int x10), (11, .long x11)] → W p l e (z_rm 2 47) s m args below meth c H locs 0 0 (z_ql below D (z_Mt ca) (z_M ad ca o.2) A s args o.1) (F0 m 130 ls [.int t0]) := by
  obtain ⟨hx, hb, hr, hlk, hml, hown, hts, hK, hA⟩ := id C0
  intro H locs ls hw hl
  refine lv_istore (lv' := [(14, .int t0), (0, .ref (ad 0)), (1, .long x1), (3, .int x3), (4, .int x4), (7, .int x7), (8, .int x8), (9, .int x9), (10, .int x10), (11, .long x11)]) hx hb d_Mo_find_130 hl (by decide) rfl (fun ls hl => ?_)
  refine lv_aload_n hx hb d_Mo_find_132 rfl (lv_at hl 1 rfl) ?_
  refine lv_iload hx hb d_Mo_find_133 (lv_at hl 4 rfl) ?_
  refine pfM_0_lookCode C0 hw fl_Mo_68 d_Mo_find_135 (fun H locs hw => ?_)
  obtain ⟨q22, eq22, h⟩ := ok_n h
  rw [← eq22] at hw
  refine lv_lload hx hb d_Mo_find_138 (lv_at hl 9 rfl) ?_
  refine lv_lconst (v := (1 : Int64)) hx hb d_Mo_find_140 (by decide) ?_
  refine lv_land hx hb d_Mo_find_141 ?_
  refine lv_lconst (v := (0 : Int64)) hx hb d_Mo_find_142 (by decide) ?_
  refine W.lcmp hx hb d_Mo_find_143 ?_
  refine lv_if_ne (tgt := 151) hx hb d_Mo_find_144 (by decide) (fun c23 => ?_) (fun c23 => ?_)
  · have h := ok_f h (fun z => c23 ((lg_cmp_eq _ _).mpr z))
    refine lv_aload_n hx hb d_Mo_find_151 rfl (lv_at hl 1 rfl) ?_
    refine lv_iload hx hb d_Mo_find_152 (lv_at hl 4 rfl) ?_
    refine lv_bipush (v := (9 : Int32)) hx hb d_Mo_find_154 (by decide) ?_
    refine lv_iadd hx hb d_Mo_find_156 ?_
    refine pfM_0_lookCode C0 hw fl_Mo_68 d_Mo_find_157 (fun H locs hw => ?_)
    obtain ⟨q24, eq24, h⟩ := ok_n h
    rw [← eq24] at hw
    refine lv_iload hx hb d_Mo_find_160 (lv_at hl 0 rfl) ?_
    refine lv_if_eq (tgt := 189) hx hb d_Mo_find_162 (by decide) (fun c25 => ?_) (fun c25 => ?_)
    · have h := ok_t h c25
      exact w_Mo_find_189 o C0 q24 ih71 hi71 x1 x3 x4 x7 x8 x9 x10 x11 t0 h H locs ls hw (lv_sub hl [1, 2, 3, 4, 5, 6, 7, 8, 9, 0] rfl)
    · have h := ok_f h c25
      refine lv_iload hx hb d_Mo_find_165 (lv_at hl 8 rfl) ?_
      refine lv_iconst (v := (1 : Int32)) hx hb d_Mo_find_167 (by decide) ?_
      refine lv_icmp_gt (tgt := 185) hx hb d_Mo_find_168 (by decide) (fun c38 => ?_) (fun c38 => ?_)
      · have h := ok_t h c38
        exact w_Mo_find_185 o C0 q24 h H locs ls hw (lv_sub hl [] rfl)
      · have h := ok_f h c38
        refine lv_lload hx hb d_Mo_find_171 (lv_at hl 9 rfl) ?_
        refine lv_bipush (v := (13 : Int32)) hx hb d_Mo_find_173 (by decide) ?_
        refine lv_bipush (v := (20 : Int32)) hx hb d_Mo_find_175 (by decide) ?_
        obtain ⟨r39, er39, h⟩ := ok_b h
        refine z_sl (rest := []) C0 hw (c_Mo_bits x11 (13 : Int32) (20 : Int32) q24 r39 er39) mw_Mo_bits ml_Mo_56 ⟨Nat.le_of_ble_eq_true rfl, Nat.le_of_ble_eq_true rfl⟩ ⟨Nat.le_refl 0, Nat.le_refl 0⟩ rfl hl.1 rfl (Nat.le_of_ble_eq_true rfl) d_Mo_find_177 (fun H locs hw => ?_)
        refine lv_lconst (v := (0 : Int64)) hx hb d_Mo_find_180 (by decide) ?_
        refine W.lcmp hx hb d_Mo_find_181 ?_
        refine lv_if_eq (tgt := 189) hx hb d_Mo_find_182 (by decide) (fun c40 => ?_) (fun c40 => ?_)
        · have h := ok_t h ((lg_cmp_eq _ _).mp c40)
          exact w_Mo_find_189 o C0 q24 ih71 hi71 x1 x3 x4 x7 x8 x9 x10 x11 t0 h H locs ls hw (lv_sub hl [1, 2, 3, 4, 5, 6, 7, 8, 9, 0] rfl)
        · have h := ok_f h (fun z => c40 ((lg_cmp_eq _ _).mpr z))
          exact w_Mo_find_185 o C0 q24 h H locs ls hw (lv_sub hl [] rfl)
  · have h := ok_t h ((lg_cmp_eq _ _).mp c23)
    refine lv_ldc2 (own := z_RMo) hx hb hown (hts _ kl_Mo_71) d_Mo_find_147 ?_
    have ho := Option.some.inj h
    subst ho
    exact z_rtl C0 hw d_Mo_find_150
set_option maxHeartbeats 4000000 in
set_option maxRecDepth 100000 in
theorem w_Mo_find_129 {p : Program} {l : Launch} {e : Env} {s : State} {m : MethodId} {args : Array Value} {below : List Frame} {meth : Method} {c : Code} {D : va_G} {A : Nat → Prop} {ad : Nat → Nat} {ca : Nat → ClassId} (o : (Int64 × z_Sg)) (C0 : z_cx z_RMo b_Mo_find 15 (some .long) D (z_Mt ca) A p s m args meth c) (q : z_Sg) (ih71 : Int64 × Int32 × Int32 × Int64 × Int32 × Int32 × Int32 × Int32 × Int64 × Int32 × z_Sg → Option (Int64 × z_Sg)) (hi71 : ∀ a : Int64 × Int32 × Int32 × Int64 × Int32 × Int32 × Int32 × Int32 × Int64 × Int32 × z_Sg, ih71 a = some o → ∀ (H : Heap) (locs : List Loc) (ls : Array Slot), z_wd D (z_M ad ca a.2.2.2.2.2.2.2.2.2.2) A s H locs → lv_has ls 15 [(0, .ref (ad 0)), (1, .long a.1), (3, .int a.2.1), (4, .int a.2.2.1), (5, .long a.2.2.2.1), (7, .int a.2.2.2.2.1), (8, .int a.2.2.2.2.2.1), (9, .int a.2.2.2.2.2.2.1), (10, .int a.2.2.2.2.2.2.2.1), (11, .long a.2.2.2.2.2.2.2.2.1), (13, .int a.2.2.2.2.2.2.2.2.2.1)] → W p l e (z_rm 2 47) s m args below meth c H locs 0 0 (z_ql below D (z_Mt ca) (z_M ad ca o.2) A s args o.1) (F0 m 71 ls [])) (x1 : Int64) (x3 : Int32) (x4 : Int32) (x7 : Int32) (x8 : Int32) (x9 : Int32) (x10 : Int32) (x11 : Int64) (h : k_Mo_find_129 ih71 x1 x3 x4 x7 x8 x9 x10 x11 q = some o) : ∀ (H : Heap) (locs : List Loc) (ls : Array Slot), z_wd D (z_M ad ca q) A s H locs → lv_has ls 15 [(0, .ref (ad 0)), (1, .long x1), (3, .int x3), (4, .int x4), (7, .int x7), (8, .int x8), (9, .int x9), (10, .int x10), (11, .long x11)] → W p l e (z_rm 2 47) s m args below meth c H locs 0 0 (z_ql below D (z_Mt ca) (z_M ad ca o.2) A s args o.1) (F0 m 129 ls []) := by
  obtain ⟨hx, hb, hr, hlk, hml, hown, hts, hK, hA⟩ := id C0
  intro H locs ls hw hl
  refine lv_iconst (v := (0 : Int32)) hx hb d_Mo_find_129 (by decide) ?_
  exact w_Mo_find_130 o C0 q ih71 hi71 x1 x3 x4 x7 x8 x9 x10 x11 (0 : Int32) h H locs ls hw (lv_sub hl [0, 1, 2, 3, 4, 5, 6, 7, 8] rfl)
set_option maxHeartbeats 4000000 in
set_option maxRecDepth 100000 in
theorem wb_Mo_find_71 {p : Program} {l : Launch} {e : Env} {s : State} {m : MethodId} {args : Array Value} {below : List Frame} {meth : Method} {c : Code} {D : va_G} {A : Nat → Prop} {ad : Nat → Nat} {ca : Nat → ClassId} (o : (Int64 × z_Sg)) (C0 : z_cx z_RMo b_Mo_find 15 (some .long) D (z_Mt ca) A p s m args meth c) (q : z_Sg) (ih71 : Int64 × Int32 × Int32 × Int64 × Int32 × Int32 × Int32 × Int32 × Int64 × Int32 × z_Sg → Option (Int64 × z_Sg)) (hi71 : ∀ a : Int64 × Int32 × Int32 × Int64 × Int32 × Int32 × Int32 × Int32 × Int64 × Int32 × z_Sg, ih71 a = some o → ∀ (H : Heap) (locs : List Loc) (ls : Array Slot), z_wd D (z_M ad ca a.2.2.2.2.2.2.2.2.2.2) A s H locs → lv_has ls 15 [(0, .ref (ad 0)), (1, .long a.1), (3, .int a.2.1), (4, .int a.2.2.1), (5, .long a.2.2.2.1), (7, .int a.2.2.2.2.1), (8, .int a.2.2.2.2.2.1), (9, .int a.2.2.2.2.2.2.1), (10, .int a.2.2.2.2.2.2.2.1), (11, .long a.2.2.2.2.2.2.2.2.1), (13, .int a.2.2.2.2.2.2.2.2.2.1)] → W p l e (z_rm 2 47) s m args below meth c H locs 0 0 (z_ql below D (z_Mt ca) (z_M ad ca o.2) A s args o.1) (F0 m 71 ls [])) (x1 : Int64) (x3 : Int32) (x4 : Int32) (x5 : Int64) (x7 : Int32) (x8 : Int32) (x9 : Int32) (x10 : Int32) (x11 : Int64) (x13 : Int32) (h : kb_Mo_find_71 ih71 x1 x3 x4 x5 x7 x8 x9 x10 x11 x13 q = some o) : ∀ (H : Heap) (locs : List Loc) (ls : Array Slot), z_wd D (z_M ad ca q) A s H locs → lv_has ls 15 [(0, .ref (ad 0)), (1, .long x1), (3, .int x3), (4, .int x4), (5, .long x5), (7, .int x7), (8, .int x8), (9, .int x9), (10, .int x10), (11, .long x11), (13, .int x13)] → W p l e (z_rm 2 47) s m args below meth c H locs 0 0 (z_ql below D (z_Mt ca) (z_M ad ca o.2) A s args o.1) (F0 m 71 ls []) := by
  obtain ⟨hx, hb, hr, hlk, hml, hown, hts, hK, hA⟩ := id C0
  intro H locs ls hw hl
  refine lv_iload hx hb d_Mo_find_71 (lv_at hl 10 rfl) ?_
  refine lv_if_ne (tgt := 296) hx hb d_Mo_find_73 (by decide) (fun c7 => ?_) (fun c7 => ?_)
  · have h := ok_f h c7
    refine lv_aload_n hx hb d_Mo_find_296 rfl (lv_at hl 0 rfl) ?_
    refine lv_iload hx hb d_Mo_find_297 (lv_at hl 3 rfl) ?_
    refine lv_iconst (v := (1 : Int32)) hx hb d_Mo_find_299 (by decide) ?_
    refine lv_iadd hx hb d_Mo_find_300 ?_
    refine pfM_0_lookCode C0 hw fl_Mo_68 d_Mo_find_301 (fun H locs hw => ?_)
    obtain ⟨q8, eq8, h⟩ := ok_n h
    rw [← eq8] at hw
    refine lv_iload_n hx hb d_Mo_find_304 rfl (lv_at hl 2 rfl) ?_
    refine lv_iconst (v := (1 : Int32)) hx hb d_Mo_find_305 (by decide) ?_
    refine lv_icmp_ne (tgt := 314) hx hb d_Mo_find_306 (by decide) (fun c9 => ?_) (fun c9 => ?_)
    · have h := ok_f h c9
      exact w_Mo_find_314 o C0 q8 x1 x3 x5 x8 x9 x10 x11 h H locs ls hw (lv_sub hl [0, 1, 2, 4, 6, 7, 8, 9] rfl)
    · have h := ok_t h c9
      refine lv_iload hx hb d_Mo_find_309 (lv_at hl 5 rfl) ?_
      refine lv_if_eq (tgt := 336) hx hb d_Mo_find_311 (by decide) (fun c18 => ?_) (fun c18 => ?_)
      · have h := ok_t h c18
        exact w_Mo_find_336 o C0 q8 h H locs ls hw (lv_sub hl [] rfl)
      · have h := ok_f h c18
        exact w_Mo_find_314 o C0 q8 x1 x3 x5 x8 x9 x10 x11 h H locs ls hw (lv_sub hl [0, 1, 2, 4, 6, 7, 8, 9] rfl)
  · have h := ok_t h c7
    refine lv_aload_n hx hb d_Mo_find_76 rfl (lv_at hl 0 rfl) ?_
    refine lv_lload hx hb d_Mo_find_77 (lv_at hl 4 rfl) ?_
    refine lv_ldc2 (own := z_RMo) hx hb hown (hts _ kl_Mo_60) d_Mo_find_79 ?_
    refine lv_lload_n hx hb d_Mo_find_82 rfl (lv_at hl 1 rfl) ?_
    refine lv_bipush (v := (12 : Int32)) hx hb d_Mo_find_83 (by decide) ?_
    refine lv_bipush (v := (9 : Int32)) hx hb d_Mo_find_85 (by decide) ?_
    refine lv_iload hx hb d_Mo_find_87 (lv_at hl 8 rfl) ?_
    refine lv_imul hx hb d_Mo_find_89 ?_
    refine lv_iadd hx hb d_Mo_find_90 ?_
    refine lv_bipush (v := (20 : Int32)) hx hb d_Mo_find_91 (by decide) ?_
    refine lv_bipush (v := (9 : Int32)) hx hb d_Mo_find_93 (by decide) ?_
    refine lv_iload hx hb d_Mo_find_95 (lv_at hl 8 rfl) ?_
    refine lv_imul hx hb d_Mo_find_97 ?_
    refine lv_iadd hx hb d_Mo_find_98 ?_
    obtain ⟨r19, er19, h⟩ := ok_b h
    refine z_sl (rest := [.long (8 : Int64), .long x5, .ref (ad 0)]) C0 hw (c_Mo_bits x1 ((12 : Int32) + ((9 : Int32) * x10)) ((20 : Int32) + ((9 : Int32) * x10)) q r19 er19) mw_Mo_bits ml_Mo_56 ⟨Nat.le_of_ble_eq_true rfl, Nat.le_of_ble_eq_true rfl⟩ ⟨Nat.le_refl 0, Nat.le_refl 0⟩ rfl hl.1 rfl (Nat.le_of_ble_eq_true rfl) d_Mo_find_99 (fun H locs hw => ?_)
    refine lv_lmul hx hb d_Mo_find_102 ?_
    refine lv_ladd hx hb d_Mo_find_103 ?_
    obtain ⟨r20, er20, h⟩ := ok_b h
    refine z_vl (rest := []) C0 hw (c_Mo_eight (x5 + ((8 : Int64) * r19)) q r20 er20) mw_Mo_eight ml_Mo_62 0 rfl ⟨Nat.le_of_ble_eq_true rfl, Nat.le_of_ble_eq_true rfl⟩ ⟨Nat.le_refl 0, Nat.le_refl 0⟩ rfl hl.1 rfl (Nat.le_of_ble_eq_true rfl) d_Mo_find_104 (fun H locs hw => ?_)
    refine lv_lstore (lv' := [(11, .long r20), (0, .ref (ad 0)), (1, .long x1), (3, .int x3), (4, .int x4), (5, .long x5), (7, .int x7), (8, .int x8), (9, .int x9), (10, .int x10), (13, .int x13)]) hx hb d_Mo_find_107 hl (by decide) rfl (fun ls hl => ?_)
    refine lv_iload hx hb d_Mo_find_109 (lv_at hl 9 rfl) ?_
    refine lv_if_le (tgt := 129) hx hb d_Mo_find_111 (by decide) (fun c21 => ?_) (fun c21 => ?_)
    · have h := ok_t h c21
      exact w_Mo_find_129 o C0 q ih71 hi71 x1 x3 x4 x7 x8 x9 x10 r20 h H locs ls hw (lv_sub hl [1, 2, 3, 4, 6, 7, 8, 9, 0] rfl)
    · have h := ok_f h c21
      refine lv_lload hx hb d_Mo_find_114 (lv_at hl 0 rfl) ?_
      refine lv_ldc2 (own := z_RMo) hx hb hown (hts _ kl_Mo_66) d_Mo_find_116 ?_
      refine lv_land hx hb d_Mo_find_119 ?_
      refine lv_lconst (v := (0 : Int64)) hx hb d_Mo_find_120 (by decide) ?_
      refine W.lcmp hx hb d_Mo_find_121 ?_
      refine lv_if_eq (tgt := 129) hx hb d_Mo_find_122 (by decide) (fun c41 => ?_) (fun c41 => ?_)
      · have h := ok_t h ((lg_cmp_eq _ _).mp c41)
        exact w_Mo_find_129 o C0 q ih71 hi71 x1 x3 x4 x7 x8 x9 x10 r20 h H locs ls hw (lv_sub hl [1, 2, 3, 4, 6, 7, 8, 9, 0] rfl)
      · have h := ok_f h (fun z => c41 ((lg_cmp_eq _ _).mpr z))
        refine lv_iconst (v := (1 : Int32)) hx hb d_Mo_find_125 (by decide) ?_
        refine lv_goto (tgt := 130) hx hb d_Mo_find_126 (by decide) ?_
        exact w_Mo_find_130 o C0 q ih71 hi71 x1 x3 x4 x7 x8 x9 x10 r20 (1 : Int32) h H locs ls hw (lv_sub hl [1, 2, 3, 4, 6, 7, 8, 9, 0] rfl)
theorem w_Mo_find_71 {p : Program} {l : Launch} {e : Env} {s : State} {m : MethodId} {args : Array Value} {below : List Frame} {meth : Method} {c : Code} {D : va_G} {A : Nat → Prop} {ad : Nat → Nat} {ca : Nat → ClassId} (o : (Int64 × z_Sg)) (C0 : z_cx z_RMo b_Mo_find 15 (some .long) D (z_Mt ca) A p s m args meth c) (q : z_Sg) (x1 : Int64) (x3 : Int32) (x4 : Int32) (x5 : Int64) (x7 : Int32) (x8 : Int32) (x9 : Int32) (x10 : Int32) (x11 : Int64) (x13 : Int32) (h : k_Mo_find_71 x1 x3 x4 x5 x7 x8 x9 x10 x11 x13 q = some o) : ∀ (H : Heap) (locs : List Loc) (ls : Array Slot), z_wd D (z_M ad ca q) A s H locs → lv_has ls 15 [(0, .ref (ad 0)), (1, .long x1), (3, .int x3), (4, .int x4), (5, .long x5), (7, .int x7), (8, .int x8), (9, .int x9), (10, .int x10), (11, .long x11), (13, .int x13)] → W p l e (z_rm 2 47) s m args below meth c H locs 0 0 (z_ql below D (z_Mt ca) (z_M ad ca o.2) A s args o.1) (F0 m 71 ls []) := by
  have key : ∀ (n : Nat) (a : Int64 × Int32 × Int32 × Int64 × Int32 × Int32 × Int32 × Int32 × Int64 × Int32 × z_Sg), z_lo (fun ih71 a => kb_Mo_find_71 ih71 a.1 a.2.1 a.2.2.1 a.2.2.2.1 a.2.2.2.2.1 a.2.2.2.2.2.1 a.2.2.2.2.2.2.1 a.2.2.2.2.2.2.2.1 a.2.2.2.2.2.2.2.2.1 a.2.2.2.2.2.2.2.2.2.1 a.2.2.2.2.2.2.2.2.2.2) n a = some o → ∀ (H : Heap) (locs : List Loc) (ls : Array Slot), z_wd D (z_M ad ca a.2.2.2.2.2.2.2.2.2.2) A s H locs → lv_has ls 15 [(0, .ref (ad 0)), (1, .long a.1), (3, .int a.2.1), (4, .int a.2.2.1), (5, .long a.2.2.2.1), (7, .int a.2.2.2.2.1), (8, .int a.2.2.2.2.2.1), (9, .int a.2.2.2.2.2.2.1), (10, .int a.2.2.2.2.2.2.2.1), (11, .long a.2.2.2.2.2.2.2.2.1), (13, .int a.2.2.2.2.2.2.2.2.2.1)] → W p l e (z_rm 2 47) s m args below meth c H locs 0 0 (z_ql below D (z_Mt ca) (z_M ad ca o.2) A s args o.1) (F0 m 71 ls []) := by
    intro n
    induction n with
    | zero => intro a h; cases h
    | succ n ih => exact fun a h => wb_Mo_find_71 o C0 a.2.2.2.2.2.2.2.2.2.2 (z_lo (fun ih71 a => kb_Mo_find_71 ih71 a.1 a.2.1 a.2.2.1 a.2.2.2.1 a.2.2.2.2.1 a.2.2.2.2.2.1 a.2.2.2.2.2.2.1 a.2.2.2.2.2.2.2.1 a.2.2.2.2.2.2.2.2.1 a.2.2.2.2.2.2.2.2.2.1 a.2.2.2.2.2.2.2.2.2.2) n) ih a.1 a.2.1 a.2.2.1 a.2.2.2.1 a.2.2.2.2.1 a.2.2.2.2.2.1 a.2.2.2.2.2.2.1 a.2.2.2.2.2.2.2.1 a.2.2.2.2.2.2.2.2.1 a.2.2.2.2.2.2.2.2.2.1 h
  exact key 2000 (x1, x3, x4, x5, x7, x8, x9, x10, x11, x13, q) h
set_option maxHeartbeats 4000000 in
set_option maxRecDepth 100000 in
theorem w_Mo_find_34 {p : Program} {l : Launch} {e : Env} {s : State} {m : MethodId} {args : Array Value} {below : List Frame} {meth : Method} {c : Code} {D : va_G} {A : Nat → Prop} {ad : Nat → Nat} {ca : Nat → ClassId} (o : (Int64 × z_Sg)) (C0 : z_cx z_RMo b_Mo_find 15 (some .long) D (z_Mt ca) A p s m args meth c) (q : z_Sg) (x1 : Int64) (x3 : Int32) (t0 : Int32) (t1 : Int32) (h : k_Mo_find_34 x1 x3 t0 t1 q = some o) : ∀ (H : Heap) (locs : List Loc) (ls : Array Slot), z_wd D (z_M ad ca q) A s H locs → lv_has ls 15 [(0, .ref (ad 0)), (1, .long x1), (3, .int x3)] → W p l e (z_rm 2 47) s m args below meth c H locs 0 0 (z_ql below D (z_Mt ca) (z_M ad ca o.2) A s args o.1) (F0 m 34 ls [.int t1, .int t0]) := by
  obtain ⟨hx, hb, hr, hlk, hml, hown, hts, hK, hA⟩ := id C0
  intro H locs ls hw hl
  refine lv_iadd hx hb d_Mo_find_34 ?_
  obtain ⟨n4, en4, h⟩ := ok_n h
  refine z_ti en4 ?_
  refine lv_istore (lv' := [(4, .int n4), (0, .ref (ad 0)), (1, .long x1), (3, .int x3)]) hx hb d_Mo_find_35 hl (by decide) rfl (fun ls hl => ?_)
  refine lv_aload_n hx hb d_Mo_find_37 rfl (lv_at hl 1 rfl) ?_
  refine gfM_0_table C0 hw fl_Mo_52 d_Mo_find_38 ?_
  refine lv_bipush (v := (12 : Int32)) hx hb d_Mo_find_41 (by decide) ?_
  refine lv_bipush (v := (51 : Int32)) hx hb d_Mo_find_43 (by decide) ?_
  obtain ⟨r5, er5, h⟩ := ok_b h
  refine z_sl (rest := []) C0 hw (c_Mo_bits (z_gL q 1) (12 : Int32) (51 : Int32) q r5 er5) mw_Mo_bits ml_Mo_56 ⟨Nat.le_of_ble_eq_true rfl, Nat.le_of_ble_eq_true rfl⟩ ⟨Nat.le_refl 0, Nat.le_refl 0⟩ rfl hl.1 rfl (Nat.le_of_ble_eq_true rfl) d_Mo_find_45 (fun H locs hw => ?_)
  refine lv_bipush (v := (12 : Int32)) hx hb d_Mo_find_48 (by decide) ?_
  refine lv_lshl (v := (z_lshl r5 (12 : Int32))) hx hb d_Mo_find_50 rfl ?_
  obtain ⟨n6, en6, h⟩ := ok_n h
  refine z_tl en6 ?_
  refine lv_lstore (lv' := [(5, .long n6), (4, .int n4), (0, .ref (ad 0)), (1, .long x1), (3, .int x3)]) hx hb d_Mo_find_51 hl (by decide) rfl (fun ls hl => ?_)
  refine lv_iconst (v := (1 : Int32)) hx hb d_Mo_find_53 (by decide) ?_
  refine lv_istore (lv' := [(7, .int (1 : Int32)), (5, .long n6), (4, .int n4), (0, .ref (ad 0)), (1, .long x1), (3, .int x3)]) hx hb d_Mo_find_54 hl (by decide) rfl (fun ls hl => ?_)
  refine lv_iconst (v := (1 : Int32)) hx hb d_Mo_find_56 (by decide) ?_
  refine lv_istore (lv' := [(8, .int (1 : Int32)), (7, .int (1 : Int32)), (5, .long n6), (4, .int n4), (0, .ref (ad 0)), (1, .long x1), (3, .int x3)]) hx hb d_Mo_find_57 hl (by decide) rfl (fun ls hl => ?_)
  refine lv_iconst (v := (1 : Int32)) hx hb d_Mo_find_59 (by decide) ?_
  refine lv_istore (lv' := [(9, .int (1 : Int32)), (8, .int (1 : Int32)), (7, .int (1 : Int32)), (5, .long n6), (4, .int n4), (0, .ref (ad 0)), (1, .long x1), (3, .int x3)]) hx hb d_Mo_find_60 hl (by decide) rfl (fun ls hl => ?_)
  refine lv_iconst (v := (3 : Int32)) hx hb d_Mo_find_62 (by decide) ?_
  refine lv_istore (lv' := [(10, .int (3 : Int32)), (9, .int (1 : Int32)), (8, .int (1 : Int32)), (7, .int (1 : Int32)), (5, .long n6), (4, .int n4), (0, .ref (ad 0)), (1, .long x1), (3, .int x3)]) hx hb d_Mo_find_63 hl (by decide) rfl (fun ls hl => ?_)
  refine lv_lconst (v := (0 : Int64)) hx hb d_Mo_find_65 (by decide) ?_
  refine lv_lstore (lv' := [(11, .long (0 : Int64)), (10, .int (3 : Int32)), (9, .int (1 : Int32)), (8, .int (1 : Int32)), (7, .int (1 : Int32)), (5, .long n6), (4, .int n4), (0, .ref (ad 0)), (1, .long x1), (3, .int x3)]) hx hb d_Mo_find_66 hl (by decide) rfl (fun ls hl => ?_)
  refine lv_iconst (v := (0 : Int32)) hx hb d_Mo_find_68 (by decide) ?_
  refine lv_istore (lv' := [(13, .int (0 : Int32)), (11, .long (0 : Int64)), (10, .int (3 : Int32)), (9, .int (1 : Int32)), (8, .int (1 : Int32)), (7, .int (1 : Int32)), (5, .long n6), (4, .int n4), (0, .ref (ad 0)), (1, .long x1), (3, .int x3)]) hx hb d_Mo_find_69 hl (by decide) rfl (fun ls hl => ?_)
  exact w_Mo_find_71 o C0 q x1 x3 n4 n6 (1 : Int32) (1 : Int32) (1 : Int32) (3 : Int32) (0 : Int64) (0 : Int32) h H locs ls hw (lv_sub hl [8, 9, 10, 7, 6, 5, 4, 3, 2, 1, 0] rfl)
set_option maxHeartbeats 4000000 in
set_option maxRecDepth 100000 in
theorem w_Mo_find_22 {p : Program} {l : Launch} {e : Env} {s : State} {m : MethodId} {args : Array Value} {below : List Frame} {meth : Method} {c : Code} {D : va_G} {A : Nat → Prop} {ad : Nat → Nat} {ca : Nat → ClassId} (o : (Int64 × z_Sg)) (C0 : z_cx z_RMo b_Mo_find 15 (some .long) D (z_Mt ca) A p s m args meth c) (q : z_Sg) (x1 : Int64) (x3 : Int32) (t0 : Int32) (t1 : Int32) (h : k_Mo_find_22 x1 x3 t0 t1 q = some o) : ∀ (H : Heap) (locs : List Loc) (ls : Array Slot), z_wd D (z_M ad ca q) A s H locs → lv_has ls 15 [(0, .ref (ad 0)), (1, .long x1), (3, .int x3)] → W p l e (z_rm 2 47) s m args below meth c H locs 0 0 (z_ql below D (z_Mt ca) (z_M ad ca o.2) A s args o.1) (F0 m 22 ls [.int t1, .int t0]) := by
  obtain ⟨hx, hb, hr, hlk, hml, hown, hts, hK, hA⟩ := id C0
  intro H locs ls hw hl
  refine lv_iadd hx hb d_Mo_find_22 ?_
  refine lv_iload_n hx hb d_Mo_find_23 rfl (lv_at hl 2 rfl) ?_
  refine lv_iconst (v := (2 : Int32)) hx hb d_Mo_find_24 (by decide) ?_
  refine lv_icmp_ne (tgt := 33) hx hb d_Mo_find_25 (by decide) (fun c3 => ?_) (fun c3 => ?_)
  · have h := ok_f h c3
    refine lv_iconst (v := (0 : Int32)) hx hb d_Mo_find_33 (by decide) ?_
    exact w_Mo_find_34 o C0 q x1 x3 (t0 + t1) (0 : Int32) h H locs ls hw (lv_sub hl [0, 1, 2] rfl)
  · have h := ok_t h c3
    refine lv_bipush (v := (16 : Int32)) hx hb d_Mo_find_28 (by decide) ?_
    refine lv_goto (tgt := 34) hx hb d_Mo_find_30 (by decide) ?_
    exact w_Mo_find_34 o C0 q x1 x3 (t0 + t1) (16 : Int32) h H locs ls hw (lv_sub hl [0, 1, 2] rfl)
set_option maxHeartbeats 4000000 in
set_option maxRecDepth 100000 in
theorem w_Mo_find_10 {p : Program} {l : Launch} {e : Env} {s : State} {m : MethodId} {args : Array Value} {below : List Frame} {meth : Method} {c : Code} {D : va_G} {A : Nat → Prop} {ad : Nat → Nat} {ca : Nat → ClassId} (o : (Int64 × z_Sg)) (C0 : z_cx z_RMo b_Mo_find 15 (some .long) D (z_Mt ca) A p s m args meth c) (q : z_Sg) (x1 : Int64) (x3 : Int32) (t0 : Int32) (h : k_Mo_find_10 x1 x3 t0 q = some o) : ∀ (H : Heap) (locs : List Loc) (ls : Array Slot), z_wd D (z_M ad ca q) A s H locs → lv_has ls 15 [(0, .ref (ad 0)), (1, .long x1), (3, .int x3)] → W p l e (z_rm 2 47) s m args below meth c H locs 0 0 (z_ql below D (z_Mt ca) (z_M ad ca o.2) A s args o.1) (F0 m 10 ls [.int t0]) := by
  obtain ⟨hx, hb, hr, hlk, hml, hown, hts, hK, hA⟩ := id C0
  intro H locs ls hw hl
  refine lv_aload_n hx hb d_Mo_find_10 rfl (lv_at hl 0 rfl) ?_
  refine gfM_0_user C0 hw fl_Mo_48 d_Mo_find_11 ?_
  refine lv_if_eq (tgt := 21) hx hb d_Mo_find_14 (by decide) (fun c2 => ?_) (fun c2 => ?_)
  · have h := ok_t h c2
    refine lv_iconst (v := (0 : Int32)) hx hb d_Mo_find_21 (by decide) ?_
    exact w_Mo_find_22 o C0 q x1 x3 t0 (0 : Int32) h H locs ls hw (lv_sub hl [0, 1, 2] rfl)
  · have h := ok_f h c2
    refine lv_iconst (v := (4 : Int32)) hx hb d_Mo_find_17 (by decide) ?_
    refine lv_goto (tgt := 22) hx hb d_Mo_find_18 (by decide) ?_
    exact w_Mo_find_22 o C0 q x1 x3 t0 (4 : Int32) h H locs ls hw (lv_sub hl [0, 1, 2] rfl)
set_option maxHeartbeats 4000000 in
set_option maxRecDepth 100000 in
theorem c_Mo_find {l : Launch} {D : va_G} {ad : Nat → Nat} {ca : Nat → ClassId} (x1 : Int64) (x3 : Int32) (q : z_Sg) (o : (Int64 × z_Sg)) (h : f_Mo_find x1 x3 q = some o) : z_cl l y_Mo_find b_Mo_find 15 (some .long) 2 47 D (z_Mt ca) (z_M ad ca q) (z_M ad ca o.2) [.ref (ad 0), .long x1, .int x3] o.1 := by
  refine z_cl_of (own := z_RMo) (by decide) rfl ?_
  intro p e s m below meth c A C0 hw
  obtain ⟨hx, hb, hr, hlk, hml, hown, hts, hK, hA⟩ := id C0
  generalize hH : s.heap = H at hw ⊢
  generalize hlo : ([] : List Loc) = locs at hw ⊢
  refine z_entry (lv := [(0, .ref (ad 0)), (1, .long x1), (3, .int x3)]) (Nat.le_of_ble_eq_true rfl) rfl (fun ls hl => ?_)
  unfold f_Mo_find at h
  refine lv_iload_n hx hb d_Mo_find_0 rfl (lv_at hl 2 rfl) ?_
  refine lv_iconst (v := (1 : Int32)) hx hb d_Mo_find_1 (by decide) ?_
  refine lv_icmp_ne (tgt := 9) hx hb d_Mo_find_2 (by decide) (fun c1 => ?_) (fun c1 => ?_)
  · have h := ok_f h c1
    refine lv_iconst (v := (0 : Int32)) hx hb d_Mo_find_9 (by decide) ?_
    exact w_Mo_find_10 o C0 q x1 x3 (0 : Int32) h H locs ls hw (lv_sub hl [0, 1, 2] rfl)
  · have h := ok_t h c1
    refine lv_iconst (v := (2 : Int32)) hx hb d_Mo_find_5 (by decide) ?_
    refine lv_goto (tgt := 10) hx hb d_Mo_find_6 (by decide) ?_
    exact w_Mo_find_10 o C0 q x1 x3 (2 : Int32) h H locs ls hw (lv_sub hl [0, 1, 2] rfl)
def k_Mo_refuse_13 (q : z_Sg) : Option z_Sg :=
  some q
def f_Mo_refuse (x1 : Int32) (q : z_Sg) : Option z_Sg :=
  if (z_gI q 4) = (-1 : Int32) then (z_nm (z_sI q 4 x1) (fun q2 => k_Mo_refuse_13 q2)) else (k_Mo_refuse_13 q)
set_option maxHeartbeats 4000000 in
set_option maxRecDepth 100000 in
theorem w_Mo_refuse_13 {p : Program} {l : Launch} {e : Env} {s : State} {m : MethodId} {args : Array Value} {below : List Frame} {meth : Method} {c : Code} {D : va_G} {A : Nat → Prop} {ad : Nat → Nat} {ca : Nat → ClassId} (o : z_Sg) (C0 : z_cx z_RMo b_Mo_refuse 2 none D (z_Mt ca) A p s m args meth c) (q : z_Sg) (h : k_Mo_refuse_13 q = some o) : ∀ (H : Heap) (locs : List Loc) (ls : Array Slot), z_wd D (z_M ad ca q) A s H locs → lv_has ls 2 [] → W p l e (z_rm 0 0) s m args below meth c H locs 0 0 (z_qv below D (z_Mt ca) (z_M ad ca o) A s args) (F0 m 13 ls []) := by
  obtain ⟨hx, hb, hr, hlk, hml, hown, hts, hK, hA⟩ := id C0
  intro H locs ls hw hl
  have ho := Option.some.inj h
  subst ho
  exact z_rtv C0 hw d_Mo_refuse_13
set_option maxHeartbeats 4000000 in
set_option maxRecDepth 100000 in
theorem c_Mo_refuse {l : Launch} {D : va_G} {ad : Nat → Nat} {ca : Nat → ClassId} (x1 : Int32) (q : z_Sg) (o : z_Sg) (h : f_Mo_refuse x1 q = some o) : z_cv l y_Mo_refuse b_Mo_refuse 2 none 0 0 D (z_Mt ca) (z_M ad ca q) (z_M ad ca o) [.ref (ad 0), .int x1] := by
  refine z_cv_of (own := z_RMo) (by decide) rfl ?_
  intro p e s m below meth c A C0 hw
  obtain ⟨hx, hb, hr, hlk, hml, hown, hts, hK, hA⟩ := id C0
  generalize hH : s.heap = H at hw ⊢
  generalize hlo : ([] : List Loc) = locs at hw ⊢
  refine z_entry (lv := [(0, .ref (ad 0)), (1, .int x1)]) (Nat.le_of_ble_eq_true rfl) rfl (fun ls hl => ?_)
  unfold f_Mo_refuse at h
  refine lv_aload_n hx hb d_Mo_refuse_0 rfl (lv_at hl 0 rfl) ?_
  refine gfM_0_refused C0 hw fl_Mo_28 d_Mo_refuse_1 ?_
  refine lv_iconst (v := (-1 : Int32)) hx hb d_Mo_refuse_4 (by decide) ?_
  refine lv_icmp_ne (tgt := 13) hx hb d_Mo_refuse_5 (by decide) (fun c1 => ?_) (fun c1 => ?_)
  · have h := ok_f h c1
    exact w_Mo_refuse_13 o C0 q h H locs ls hw (lv_sub hl [] rfl)
  · have h := ok_t h c1
    refine lv_aload_n hx hb d_Mo_refuse_8 rfl (lv_at hl 0 rfl) ?_
    refine lv_iload_n hx hb d_Mo_refuse_9 rfl (lv_at hl 1 rfl) ?_
    refine pfM_0_refused C0 hw fl_Mo_28 d_Mo_refuse_10 (fun H locs hw => ?_)
    obtain ⟨q2, eq2, h⟩ := ok_n h
    rw [← eq2] at hw
    exact w_Mo_refuse_13 o C0 q2 h H locs ls hw (lv_sub hl [] rfl)
def k_Mo_lookUp_107 (q : z_Sg) : Option z_Sg :=
  some q
def k_Mo_lookUp_101 (ih3 : Int64 × Int32 × Int32 × Int32 × Int32 × z_Sg → Option z_Sg) (x1 : Int64) (x3 : Int32) (x4 : Int32) (x5 : Int32) (x6 : Int32) (q : z_Sg) : Option z_Sg :=
  z_nm (x6 + (1 : Int32)) (fun n13 => ih3 (x1, x3, x4, x5, n13, q))
def k_Mo_lookUp_41 (t1 : Int32) (q : z_Sg) : Option z_Sg :=
  (f_Mo_refuse t1 q).bind (fun r15 => some r15)
def kb_Mo_lookUp_3 (ih3 : Int64 × Int32 × Int32 × Int32 × Int32 × z_Sg → Option z_Sg) (x1 : Int64) (x3 : Int32) (x4 : Int32) (x5 : Int32) (x6 : Int32) (q : z_Sg) : Option z_Sg :=
  if x3 ≤ x6 then (k_Mo_lookUp_107 q) else (if (z_gI q 4) = (-1 : Int32) then ((f_Mo_isWrong (x1 + (x6.toInt64)) q).bind (fun r3 => if r3 = 0 then ((f_Mo_find (x1 + (x6.toInt64)) x4 q).bind (fun r5 => if z_bad x6 8 then none else (z_nm (z_sM r5.2 3 x6.toNatClampNeg r5.1) (fun q7 => if z_bad x6 8 then none else (if (z_gM q7 3 x6.toNatClampNeg) < (0 : Int64) then ((f_Mo_refuse (14 : Int32) q7).bind (fun r10 => z_nm (z_sL r10 5 (x1 + (x6.toInt64))) (fun q11 => z_nm (z_sI q11 0 (z_gI q11 1)) (fun q12 => k_Mo_lookUp_101 ih3 x1 x3 x4 x5 x6 q12)))) else (k_Mo_lookUp_101 ih3 x1 x3 x4 x5 x6 q7)))))) else (if x5 = 0 then (k_Mo_lookUp_41 (13 : Int32) q) else (k_Mo_lookUp_41 (12 : Int32) q)))) else (k_Mo_lookUp_107 q))
def k_Mo_lookUp_3 (x1 : Int64) (x3 : Int32) (x4 : Int32) (x5 : Int32) (x6 : Int32) (q : z_Sg) : Option z_Sg := z_lo (fun ih3 a => kb_Mo_lookUp_3 ih3 a.1 a.2.1 a.2.2.1 a.2.2.2.1 a.2.2.2.2.1 a.2.2.2.2.2) 2000 (x1, x3, x4, x5, x6, q)
def f_Mo_lookUp (x1 : Int64) (x3 : Int32) (x4 : Int32) (x5 : Int32) (q : z_Sg) : Option z_Sg :=
  k_Mo_lookUp_3 x1 x3 x4 x5 (0 : Int32) q
set_option maxHeartbeats 4000000 in
set_option maxRecDepth 100000 in
theorem w_Mo_lookUp_107 {p : Program} {l : Launch} {e : Env} {s : State} {m : MethodId} {args : Array Value} {below : List Frame} {meth : Method} {c : Code} {D : va_G} {A : Nat → Prop} {ad : Nat → Nat} {ca : Nat → ClassId} (o : z_Sg) (C0 : z_cx z_RMo b_Mo_lookUp 7 none D (z_Mt ca) A p s m args meth c) (q : z_Sg) (h : k_Mo_lookUp_107 q = some o) : ∀ (H : Heap) (locs : List Loc) (ls : Array Slot), z_wd D (z_M ad ca q) A s H locs → lv_has ls 7 [] → W p l e (z_rm 3 81) s m args below meth c H locs 0 0 (z_qv below D (z_Mt ca) (z_M ad ca o) A s args) (F0 m 107 ls []) := by
  obtain ⟨hx, hb, hr, hlk, hml, hown, hts, hK, hA⟩ := id C0
  intro H locs ls hw hl
  have ho := Option.some.inj h
  subst ho
  exact z_rtv C0 hw d_Mo_lookUp_107
set_option maxHeartbeats 4000000 in
set_option maxRecDepth 100000 in
theorem w_Mo_lookUp_101 {p : Program} {l : Launch} {e : Env} {s : State} {m : MethodId} {args : Array Value} {below : List Frame} {meth : Method} {c : Code} {D : va_G} {A : Nat → Prop} {ad : Nat → Nat} {ca : Nat → ClassId} (o : z_Sg) (C0 : z_cx z_RMo b_Mo_lookUp 7 none D (z_Mt ca) A p s m args meth c) (q : z_Sg) (ih3 : Int64 × Int32 × Int32 × Int32 × Int32 × z_Sg → Option z_Sg) (hi3 : ∀ a : Int64 × Int32 × Int32 × Int32 × Int32 × z_Sg, ih3 a = some o → ∀ (H : Heap) (locs : List Loc) (ls : Array Slot), z_wd D (z_M ad ca a.2.2.2.2.2) A s H locs → lv_has ls 7 [(0, .ref (ad 0)), (1, .long a.1), (3, .int a.2.1), (4, .int a.2.2.1), (5, .int a.2.2.2.1), (6, .int a.2.2.2.2.1)] → W p l e (z_rm 3 81) s m args below meth c H locs 0 0 (z_qv below D (z_Mt ca) (z_M ad ca o) A s args) (F0 m 3 ls [])) (x1 : Int64) (x3 : Int32) (x4 : Int32) (x5 : Int32) (x6 : Int32) (h : k_Mo_lookUp_101 ih3 x1 x3 x4 x5 x6 q = some o) : ∀ (H : Heap) (locs : List Loc) (ls : Array Slot), z_wd D (z_M ad ca q) A s H locs → lv_has ls 7 [(0, .ref (ad 0)), (1, .long x1), (3, .int x3), (4, .int x4), (5, .int x5), (6, .int x6)] → W p l e (z_rm 3 81) s m args below meth c H locs 0 0 (z_qv below D (z_Mt ca) (z_M ad ca o) A s args) (F0 m 101 ls []) := by
  obtain ⟨hx, hb, hr, hlk, hml, hown, hts, hK, hA⟩ := id C0
  intro H locs ls hw hl
  obtain ⟨n13, en13, h⟩ := ok_n h
  refine lv_iinc (v := n13) (lv' := [(6, .int n13), (0, .ref (ad 0)), (1, .long x1), (3, .int x3), (4, .int x4), (5, .int x5)]) hx hb d_Mo_lookUp_101 hl (k := 5) rfl (by rw [en13]; rfl) (by decide) rfl (fun ls hl => ?_)
  refine lv_goto (tgt := 3) hx hb d_Mo_lookUp_104 (by decide) ?_
  exact hi3 (x1, x3, x4, x5, n13, q) h H locs ls hw (lv_sub hl [1, 2, 3, 4, 5, 0] rfl)
set_option maxHeartbeats 4000000 in
set_option maxRecDepth 100000 in
theorem w_Mo_lookUp_41 {p : Program} {l : Launch} {e : Env} {s : State} {m : MethodId} {args : Array Value} {below : List Frame} {meth : Method} {c : Code} {D : va_G} {A : Nat → Prop} {ad : Nat → Nat} {ca : Nat → ClassId} (o : z_Sg) (C0 : z_cx z_RMo b_Mo_lookUp 7 none D (z_Mt ca) A p s m args meth c) (q : z_Sg) (t1 : Int32) (h : k_Mo_lookUp_41 t1 q = some o) : ∀ (H : Heap) (locs : List Loc) (ls : Array Slot), z_wd D (z_M ad ca q) A s H locs → lv_has ls 7 [] → W p l e (z_rm 3 81) s m args below meth c H locs 0 0 (z_qv below D (z_Mt ca) (z_M ad ca o) A s args) (F0 m 41 ls [.int t1, .ref (ad 0)]) := by
  obtain ⟨hx, hb, hr, hlk, hml, hown, hts, hK, hA⟩ := id C0
  intro H locs ls hw hl
  obtain ⟨r15, er15, h⟩ := ok_b h
  refine z_vv (rest := []) C0 hw (c_Mo_refuse t1 q r15 er15) mw_Mo_refuse ml_Mo_81 0 rfl ⟨Nat.le_of_ble_eq_true rfl, Nat.le_of_ble_eq_true rfl⟩ ⟨Nat.le_refl 0, Nat.le_refl 0⟩ rfl hl.1 rfl (Nat.le_of_ble_eq_true rfl) d_Mo_lookUp_41 (fun H locs hw => ?_)
  have ho := Option.some.inj h
  subst ho
  exact z_rtv C0 hw d_Mo_lookUp_44
set_option maxHeartbeats 4000000 in
set_option maxRecDepth 100000 in
theorem wb_Mo_lookUp_3 {p : Program} {l : Launch} {e : Env} {s : State} {m : MethodId} {args : Array Value} {below : List Frame} {meth : Method} {c : Code} {D : va_G} {A : Nat → Prop} {ad : Nat → Nat} {ca : Nat → ClassId} (o : z_Sg) (C0 : z_cx z_RMo b_Mo_lookUp 7 none D (z_Mt ca) A p s m args meth c) (q : z_Sg) (ih3 : Int64 × Int32 × Int32 × Int32 × Int32 × z_Sg → Option z_Sg) (hi3 : ∀ a : Int64 × Int32 × Int32 × Int32 × Int32 × z_Sg, ih3 a = some o → ∀ (H : Heap) (locs : List Loc) (ls : Array Slot), z_wd D (z_M ad ca a.2.2.2.2.2) A s H locs → lv_has ls 7 [(0, .ref (ad 0)), (1, .long a.1), (3, .int a.2.1), (4, .int a.2.2.1), (5, .int a.2.2.2.1), (6, .int a.2.2.2.2.1)] → W p l e (z_rm 3 81) s m args below meth c H locs 0 0 (z_qv below D (z_Mt ca) (z_M ad ca o) A s args) (F0 m 3 ls [])) (x1 : Int64) (x3 : Int32) (x4 : Int32) (x5 : Int32) (x6 : Int32) (h : kb_Mo_lookUp_3 ih3 x1 x3 x4 x5 x6 q = some o) : ∀ (H : Heap) (locs : List Loc) (ls : Array Slot), z_wd D (z_M ad ca q) A s H locs → lv_has ls 7 [(0, .ref (ad 0)), (1, .long x1), (3, .int x3), (4, .int x4), (5, .int x5), (6, .int x6)] → W p l e (z_rm 3 81) s m args below meth c H locs 0 0 (z_qv below D (z_Mt ca) (z_M ad ca o) A s args) (F0 m 3 ls []) := by
  obtain ⟨hx, hb, hr, hlk, hml, hown, hts, hK, hA⟩ := id C0
  intro H locs ls hw hl
  refine lv_iload hx hb d_Mo_lookUp_3 (lv_at hl 5 rfl) ?_
  refine lv_iload_n hx hb d_Mo_lookUp_5 rfl (lv_at hl 2 rfl) ?_
  refine lv_icmp_ge (tgt := 107) hx hb d_Mo_lookUp_6 (by decide) (fun c1 => ?_) (fun c1 => ?_)
  · have h := ok_t h c1
    exact w_Mo_lookUp_107 o C0 q h H locs ls hw (lv_sub hl [] rfl)
  · have h := ok_f h c1
    refine lv_aload_n hx hb d_Mo_lookUp_9 rfl (lv_at hl 0 rfl) ?_
    refine gfM_0_refused C0 hw fl_Mo_28 d_Mo_lookUp_10 ?_
    refine lv_iconst (v := (-1 : Int32)) hx hb d_Mo_lookUp_13 (by decide) ?_
    refine lv_icmp_ne (tgt := 107) hx hb d_Mo_lookUp_14 (by decide) (fun c2 => ?_) (fun c2 => ?_)
    · have h := ok_f h c2
      exact w_Mo_lookUp_107 o C0 q h H locs ls hw (lv_sub hl [] rfl)
    · have h := ok_t h c2
      refine lv_lload_n hx hb d_Mo_lookUp_17 rfl (lv_at hl 1 rfl) ?_
      refine lv_iload hx hb d_Mo_lookUp_18 (lv_at hl 5 rfl) ?_
      refine lv_i2l hx hb d_Mo_lookUp_20 rfl ?_
      refine lv_ladd hx hb d_Mo_lookUp_21 ?_
      obtain ⟨r3, er3, h⟩ := ok_b h
      refine z_si (rest := []) C0 hw (c_Mo_isWrong (x1 + (x6.toInt64)) q r3 er3) mw_Mo_isWrong ml_Mo_77 ⟨Nat.le_of_ble_eq_true rfl, Nat.le_of_ble_eq_true rfl⟩ ⟨Nat.le_refl 0, Nat.le_refl 0⟩ rfl hl.1 rfl (Nat.le_of_ble_eq_true rfl) d_Mo_lookUp_22 (fun H locs hw => ?_)
      refine lv_if_eq (tgt := 45) hx hb d_Mo_lookUp_25 (by decide) (fun c4 => ?_) (fun c4 => ?_)
      · have h := ok_t h c4
        refine lv_aload_n hx hb d_Mo_lookUp_45 rfl (lv_at hl 0 rfl) ?_
        refine gfM_0_lies C0 hw fl_Mo_39 d_Mo_lookUp_46 ?_
        refine lv_iload hx hb d_Mo_lookUp_49 (lv_at hl 5 rfl) ?_
        refine lv_aload_n hx hb d_Mo_lookUp_51 rfl (lv_at hl 0 rfl) ?_
        refine lv_lload_n hx hb d_Mo_lookUp_52 rfl (lv_at hl 1 rfl) ?_
        refine lv_iload hx hb d_Mo_lookUp_53 (lv_at hl 5 rfl) ?_
        refine lv_i2l hx hb d_Mo_lookUp_55 rfl ?_
        refine lv_ladd hx hb d_Mo_lookUp_56 ?_
        refine lv_iload hx hb d_Mo_lookUp_57 (lv_at hl 3 rfl) ?_
        obtain ⟨r5, er5, h⟩ := ok_b h
        refine z_vl (rest := [.int x6, .ref (ad 8)]) C0 hw (c_Mo_find (x1 + (x6.toInt64)) x4 q r5 er5) mw_Mo_find ml_Mo_85 0 rfl ⟨Nat.le_of_ble_eq_true rfl, Nat.le_of_ble_eq_true rfl⟩ ⟨Nat.le_refl 0, Nat.le_refl 0⟩ rfl hl.1 rfl (Nat.le_of_ble_eq_true rfl) d_Mo_lookUp_59 (fun H locs hw => ?_)
        obtain ⟨b6, h⟩ := ok_g h
        refine asM_8 C0 hw b6 d_Mo_lookUp_62 (fun H locs hw => ?_)
        obtain ⟨q7, eq7, h⟩ := ok_n h
        rw [← eq7] at hw
        refine lv_aload_n hx hb d_Mo_lookUp_63 rfl (lv_at hl 0 rfl) ?_
        refine gfM_0_lies C0 hw fl_Mo_39 d_Mo_lookUp_64 ?_
        refine lv_iload hx hb d_Mo_lookUp_67 (lv_at hl 5 rfl) ?_
        obtain ⟨b8, h⟩ := ok_g h
        refine alM_8 C0 hw b8 d_Mo_lookUp_69 ?_
        refine lv_lconst (v := (0 : Int64)) hx hb d_Mo_lookUp_70 (by decide) ?_
        refine W.lcmp hx hb d_Mo_lookUp_71 ?_
        refine lv_if_lt (tgt := 78) hx hb d_Mo_lookUp_72 (by decide) (fun c9 => ?_) (fun c9 => ?_)
        · have h := ok_t h ((lg_cmp_lt _ _).mp c9)
          refine lv_aload_n hx hb d_Mo_lookUp_78 rfl (lv_at hl 0 rfl) ?_
          refine lv_bipush (v := (14 : Int32)) hx hb d_Mo_lookUp_79 (by decide) ?_
          obtain ⟨r10, er10, h⟩ := ok_b h
          refine z_vv (rest := []) C0 hw (c_Mo_refuse (14 : Int32) q7 r10 er10) mw_Mo_refuse ml_Mo_81 0 rfl ⟨Nat.le_of_ble_eq_true rfl, Nat.le_of_ble_eq_true rfl⟩ ⟨Nat.le_refl 0, Nat.le_refl 0⟩ rfl hl.1 rfl (Nat.le_of_ble_eq_true rfl) d_Mo_lookUp_81 (fun H locs hw => ?_)
          refine lv_aload_n hx hb d_Mo_lookUp_84 rfl (lv_at hl 0 rfl) ?_
          refine lv_lload_n hx hb d_Mo_lookUp_85 rfl (lv_at hl 1 rfl) ?_
          refine lv_iload hx hb d_Mo_lookUp_86 (lv_at hl 5 rfl) ?_
          refine lv_i2l hx hb d_Mo_lookUp_88 rfl ?_
          refine lv_ladd hx hb d_Mo_lookUp_89 ?_
          refine pfM_0_fault C0 hw fl_Mo_89 d_Mo_lookUp_90 (fun H locs hw => ?_)
          obtain ⟨q11, eq11, h⟩ := ok_n h
          rw [← eq11] at hw
          refine lv_aload_n hx hb d_Mo_lookUp_93 rfl (lv_at hl 0 rfl) ?_
          refine lv_aload_n hx hb d_Mo_lookUp_94 rfl (lv_at hl 0 rfl) ?_
          refine gfM_0_lookCode C0 hw fl_Mo_68 d_Mo_lookUp_95 ?_
          refine pfM_0_code C0 hw fl_Mo_92 d_Mo_lookUp_98 (fun H locs hw => ?_)
          obtain ⟨q12, eq12, h⟩ := ok_n h
          rw [← eq12] at hw
          exact w_Mo_lookUp_101 o C0 q12 ih3 hi3 x1 x3 x4 x5 x6 h H locs ls hw (lv_sub hl [0, 1, 2, 3, 4, 5] rfl)
        · have h := ok_f h (fun z => c9 ((lg_cmp_lt _ _).mpr z))
          refine lv_goto (tgt := 101) hx hb d_Mo_lookUp_75 (by decide) ?_
          exact w_Mo_lookUp_101 o C0 q7 ih3 hi3 x1 x3 x4 x5 x6 h H locs ls hw (lv_sub hl [0, 1, 2, 3, 4, 5] rfl)
      · have h := ok_f h c4
        refine lv_aload_n hx hb d_Mo_lookUp_28 rfl (lv_at hl 0 rfl) ?_
        refine lv_iload hx hb d_Mo_lookUp_29 (lv_at hl 4 rfl) ?_
        refine lv_if_eq (tgt := 39) hx hb d_Mo_lookUp_31 (by decide) (fun c14 => ?_) (fun c14 => ?_)
        · have h := ok_t h c14
          refine lv_bipush (v := (13 : Int32)) hx hb d_Mo_lookUp_39 (by decide) ?_
          exact w_Mo_lookUp_41 o C0 q (13 : Int32) h H locs ls hw (lv_sub hl [] rfl)
        · have h := ok_f h c14
          refine lv_bipush (v := (12 : Int32)) hx hb d_Mo_lookUp_34 (by decide) ?_
          refine lv_goto (tgt := 41) hx hb d_Mo_lookUp_36 (by decide) ?_
          exact w_Mo_lookUp_41 o C0 q (12 : Int32) h H locs ls hw (lv_sub hl [] rfl)
theorem w_Mo_lookUp_3 {p : Program} {l : Launch} {e : Env} {s : State} {m : MethodId} {args : Array Value} {below : List Frame} {meth : Method} {c : Code} {D : va_G} {A : Nat → Prop} {ad : Nat → Nat} {ca : Nat → ClassId} (o : z_Sg) (C0 : z_cx z_RMo b_Mo_lookUp 7 none D (z_Mt ca) A p s m args meth c) (q : z_Sg) (x1 : Int64) (x3 : Int32) (x4 : Int32) (x5 : Int32) (x6 : Int32) (h : k_Mo_lookUp_3 x1 x3 x4 x5 x6 q = some o) : ∀ (H : Heap) (locs : List Loc) (ls : Array Slot), z_wd D (z_M ad ca q) A s H locs → lv_has ls 7 [(0, .ref (ad 0)), (1, .long x1), (3, .int x3), (4, .int x4), (5, .int x5), (6, .int x6)] → W p l e (z_rm 3 81) s m args below meth c H locs 0 0 (z_qv below D (z_Mt ca) (z_M ad ca o) A s args) (F0 m 3 ls []) := by
  have key : ∀ (n : Nat) (a : Int64 × Int32 × Int32 × Int32 × Int32 × z_Sg), z_lo (fun ih3 a => kb_Mo_lookUp_3 ih3 a.1 a.2.1 a.2.2.1 a.2.2.2.1 a.2.2.2.2.1 a.2.2.2.2.2) n a = some o → ∀ (H : Heap) (locs : List Loc) (ls : Array Slot), z_wd D (z_M ad ca a.2.2.2.2.2) A s H locs → lv_has ls 7 [(0, .ref (ad 0)), (1, .long a.1), (3, .int a.2.1), (4, .int a.2.2.1), (5, .int a.2.2.2.1), (6, .int a.2.2.2.2.1)] → W p l e (z_rm 3 81) s m args below meth c H locs 0 0 (z_qv below D (z_Mt ca) (z_M ad ca o) A s args) (F0 m 3 ls []) := by
    intro n
    induction n with
    | zero => intro a h; cases h
    | succ n ih => exact fun a h => wb_Mo_lookUp_3 o C0 a.2.2.2.2.2 (z_lo (fun ih3 a => kb_Mo_lookUp_3 ih3 a.1 a.2.1 a.2.2.1 a.2.2.2.1 a.2.2.2.2.1 a.2.2.2.2.2) n) ih a.1 a.2.1 a.2.2.1 a.2.2.2.1 a.2.2.2.2.1 h
  exact key 2000 (x1, x3, x4, x5, x6, q) h
set_option maxHeartbeats 4000000 in
set_option maxRecDepth 100000 in
theorem c_Mo_lookUp {l : Launch} {D : va_G} {ad : Nat → Nat} {ca : Nat → ClassId} (x1 : Int64) (x3 : Int32) (x4 : Int32) (x5 : Int32) (q : z_Sg) (o : z_Sg) (h : f_Mo_lookUp x1 x3 x4 x5 q = some o) : z_cv l y_Mo_lookUp b_Mo_lookUp 7 none 3 81 D (z_Mt ca) (z_M ad ca q) (z_M ad ca o) [.ref (ad 0), .long x1, .int x3, .int x4, .int x5] := by
  refine z_cv_of (own := z_RMo) (by decide) rfl ?_
  intro p e s m below meth c A C0 hw
  obtain ⟨hx, hb, hr, hlk, hml, hown, hts, hK, hA⟩ := id C0
  generalize hH : s.heap = H at hw ⊢
  generalize hlo : ([] : List Loc) = locs at hw ⊢
  refine z_entry (lv := [(0, .ref (ad 0)), (1, .long x1), (3, .int x3), (4, .int x4), (5, .int x5)]) (Nat.le_of_ble_eq_true rfl) rfl (fun ls hl => ?_)
  unfold f_Mo_lookUp at h
  refine lv_iconst (v := (0 : Int32)) hx hb d_Mo_lookUp_0 (by decide) ?_
  refine lv_istore (lv' := [(6, .int (0 : Int32)), (0, .ref (ad 0)), (1, .long x1), (3, .int x3), (4, .int x4), (5, .int x5)]) hx hb d_Mo_lookUp_1 hl (by decide) rfl (fun ls hl => ?_)
  exact w_Mo_lookUp_3 o C0 q x1 x3 x4 x5 (0 : Int32) h H locs ls hw (lv_sub hl [1, 2, 3, 4, 5, 0] rfl)
def k_Mo_fetch_23 (q : z_Sg) : Option (Int32 × z_Sg) :=
  (f_Mo_lookUp ((z_gL q 0) + ((z_gI q 6).toInt64)) (1 : Int32) (2 : Int32) (0 : Int32) q).bind (fun r2 => if (z_gI r2 4) = (-1 : Int32) then (z_nm (z_sI r2 6 ((z_gI r2 6) + (1 : Int32))) (fun q4 => if z_bad (0 : Int32) 8 then none else ((f_Mo_byteAt (z_gM q4 3 (0 : Int32).toNatClampNeg) q4).bind (fun r6 => some (r6, q4))))) else (some ((0 : Int32), r2)))
def f_Mo_fetch (q : z_Sg) : Option (Int32 × z_Sg) :=
  if (z_gI q 4) = (-1 : Int32) then (if (z_gI q 6) = (15 : Int32) then ((f_Mo_refuse (13 : Int32) q).bind (fun r8 => k_Mo_fetch_23 r8)) else (k_Mo_fetch_23 q)) else (k_Mo_fetch_23 q)
set_option maxHeartbeats 4000000 in
set_option maxRecDepth 100000 in
theorem w_Mo_fetch_23 {p : Program} {l : Launch} {e : Env} {s : State} {m : MethodId} {args : Array Value} {below : List Frame} {meth : Method} {c : Code} {D : va_G} {A : Nat → Prop} {ad : Nat → Nat} {ca : Nat → ClassId} (o : (Int32 × z_Sg)) (C0 : z_cx z_RMo b_Mo_fetch 1 (some .int) D (z_Mt ca) A p s m args meth c) (q : z_Sg) (h : k_Mo_fetch_23 q = some o) : ∀ (H : Heap) (locs : List Loc) (ls : Array Slot), z_wd D (z_M ad ca q) A s H locs → lv_has ls 1 [(0, .ref (ad 0))] → W p l e (z_rm 4 107) s m args below meth c H locs 0 0 (z_qi below D (z_Mt ca) (z_M ad ca o.2) A s args o.1) (F0 m 23 ls []) := by
  obtain ⟨hx, hb, hr, hlk, hml, hown, hts, hK, hA⟩ := id C0
  intro H locs ls hw hl
  refine lv_aload_n hx hb d_Mo_fetch_23 rfl (lv_at hl 0 rfl) ?_
  refine lv_aload_n hx hb d_Mo_fetch_24 rfl (lv_at hl 0 rfl) ?_
  refine gfM_0_next C0 hw fl_Mo_111 d_Mo_fetch_25 ?_
  refine lv_aload_n hx hb d_Mo_fetch_28 rfl (lv_at hl 0 rfl) ?_
  refine gfM_0_length C0 hw fl_Mo_108 d_Mo_fetch_29 ?_
  refine lv_i2l hx hb d_Mo_fetch_32 rfl ?_
  refine lv_ladd hx hb d_Mo_fetch_33 ?_
  refine lv_iconst (v := (1 : Int32)) hx hb d_Mo_fetch_34 (by decide) ?_
  refine lv_iconst (v := (2 : Int32)) hx hb d_Mo_fetch_35 (by decide) ?_
  refine lv_iconst (v := (0 : Int32)) hx hb d_Mo_fetch_36 (by decide) ?_
  obtain ⟨r2, er2, h⟩ := ok_b h
  refine z_vv (rest := []) C0 hw (c_Mo_lookUp ((z_gL q 0) + ((z_gI q 6).toInt64)) (1 : Int32) (2 : Int32) (0 : Int32) q r2 er2) mw_Mo_lookUp ml_Mo_95 0 rfl ⟨Nat.le_of_ble_eq_true rfl, Nat.le_of_ble_eq_true rfl⟩ ⟨Nat.le_refl 0, Nat.le_refl 0⟩ rfl hl.1 rfl (Nat.le_of_ble_eq_true rfl) d_Mo_fetch_37 (fun H locs hw => ?_)
  refine lv_aload_n hx hb d_Mo_fetch_40 rfl (lv_at hl 0 rfl) ?_
  refine gfM_0_refused C0 hw fl_Mo_28 d_Mo_fetch_41 ?_
  refine lv_iconst (v := (-1 : Int32)) hx hb d_Mo_fetch_44 (by decide) ?_
  refine lv_icmp_eq (tgt := 50) hx hb d_Mo_fetch_45 (by decide) (fun c3 => ?_) (fun c3 => ?_)
  · have h := ok_t h c3
    refine lv_aload_n hx hb d_Mo_fetch_50 rfl (lv_at hl 0 rfl) ?_
    refine lv_dup hx hb d_Mo_fetch_51 rfl ?_
    refine gfM_0_length C0 hw fl_Mo_108 d_Mo_fetch_52 ?_
    refine lv_iconst (v := (1 : Int32)) hx hb d_Mo_fetch_55 (by decide) ?_
    refine lv_iadd hx hb d_Mo_fetch_56 ?_
    refine pfM_0_length C0 hw fl_Mo_108 d_Mo_fetch_57 (fun H locs hw => ?_)
    obtain ⟨q4, eq4, h⟩ := ok_n h
    rw [← eq4] at hw
    refine lv_aload_n hx hb d_Mo_fetch_60 rfl (lv_at hl 0 rfl) ?_
    refine lv_aload_n hx hb d_Mo_fetch_61 rfl (lv_at hl 0 rfl) ?_
    refine gfM_0_lies C0 hw fl_Mo_39 d_Mo_fetch_62 ?_
    refine lv_iconst (v := (0 : Int32)) hx hb d_Mo_fetch_65 (by decide) ?_
    obtain ⟨b5, h⟩ := ok_g h
    refine alM_8 C0 hw b5 d_Mo_fetch_66 ?_
    obtain ⟨r6, er6, h⟩ := ok_b h
    refine z_vi (rest := []) C0 hw (c_Mo_byteAt (z_gM q4 3 (0 : Int32).toNatClampNeg) q4 r6 er6) mw_Mo_byteAt ml_Mo_44 0 rfl ⟨Nat.le_of_ble_eq_true rfl, Nat.le_of_ble_eq_true rfl⟩ ⟨Nat.le_refl 0, Nat.le_refl 0⟩ rfl hl.1 rfl (Nat.le_of_ble_eq_true rfl) d_Mo_fetch_67 (fun H locs hw => ?_)
    have ho := Option.some.inj h
    subst ho
    exact z_rti C0 hw d_Mo_fetch_70
  · have h := ok_f h c3
    refine lv_iconst (v := (0 : Int32)) hx hb d_Mo_fetch_48 (by decide) ?_
    have ho := Option.some.inj h
    subst ho
    exact z_rti C0 hw d_Mo_fetch_49
set_option maxHeartbeats 4000000 in
set_option maxRecDepth 100000 in
theorem c_Mo_fetch {l : Launch} {D : va_G} {ad : Nat → Nat} {ca : Nat → ClassId} (q : z_Sg) (o : (Int32 × z_Sg)) (h : f_Mo_fetch q = some o) : z_ci l y_Mo_fetch b_Mo_fetch 1 (some .int) 4 107 D (z_Mt ca) (z_M ad ca q) (z_M ad ca o.2) [.ref (ad 0)] o.1 := by
  refine z_ci_of (own := z_RMo) (by decide) rfl ?_
  intro p e s m below meth c A C0 hw
  obtain ⟨hx, hb, hr, hlk, hml, hown, hts, hK, hA⟩ := id C0
  generalize hH : s.heap = H at hw ⊢
  generalize hlo : ([] : List Loc) = locs at hw ⊢
  refine z_entry (lv := [(0, .ref (ad 0))]) (Nat.le_of_ble_eq_true rfl) rfl (fun ls hl => ?_)
  unfold f_Mo_fetch at h
  refine lv_aload_n hx hb d_Mo_fetch_0 rfl (lv_at hl 0 rfl) ?_
  refine gfM_0_refused C0 hw fl_Mo_28 d_Mo_fetch_1 ?_
  refine lv_iconst (v := (-1 : Int32)) hx hb d_Mo_fetch_4 (by decide) ?_
  refine lv_icmp_ne (tgt := 23) hx hb d_Mo_fetch_5 (by decide) (fun c1 => ?_) (fun c1 => ?_)
  · have h := ok_f h c1
    exact w_Mo_fetch_23 o C0 q h H locs ls hw (lv_sub hl [0] rfl)
  · have h := ok_t h c1
    refine lv_aload_n hx hb d_Mo_fetch_8 rfl (lv_at hl 0 rfl) ?_
    refine gfM_0_length C0 hw fl_Mo_108 d_Mo_fetch_9 ?_
    refine lv_bipush (v := (15 : Int32)) hx hb d_Mo_fetch_12 (by decide) ?_
    refine lv_icmp_ne (tgt := 23) hx hb d_Mo_fetch_14 (by decide) (fun c7 => ?_) (fun c7 => ?_)
    · have h := ok_f h c7
      exact w_Mo_fetch_23 o C0 q h H locs ls hw (lv_sub hl [0] rfl)
    · have h := ok_t h c7
      refine lv_aload_n hx hb d_Mo_fetch_17 rfl (lv_at hl 0 rfl) ?_
      refine lv_bipush (v := (13 : Int32)) hx hb d_Mo_fetch_18 (by decide) ?_
      obtain ⟨r8, er8, h⟩ := ok_b h
      refine z_vv (rest := []) C0 hw (c_Mo_refuse (13 : Int32) q r8 er8) mw_Mo_refuse ml_Mo_81 0 rfl ⟨Nat.le_of_ble_eq_true rfl, Nat.le_of_ble_eq_true rfl⟩ ⟨Nat.le_refl 0, Nat.le_refl 0⟩ rfl hl.1 rfl (Nat.le_of_ble_eq_true rfl) d_Mo_fetch_20 (fun H locs hw => ?_)
      exact w_Mo_fetch_23 o C0 r8 h H locs ls hw (lv_sub hl [0] rfl)
def k_Mo_open_167 (t1 : Int32) (q : z_Sg) : Option z_Sg :=
  z_nm (z_sI q 15 t1) (fun q11 => some q11)
def k_Mo_open_148 (x1 : Int32) (t1 : Int32) (q : z_Sg) : Option z_Sg :=
  z_gd (z_bo t1) (z_nm (z_sI q 18 t1) (fun q9 => if (z_gI q9 18) = 0 then (k_Mo_open_167 x1 q9) else ((f_Mo_fetch q9).bind (fun r12 => k_Mo_open_167 r12.1 r12.2))))
def k_Mo_open_147 (x1 : Int32) (q : z_Sg) : Option z_Sg :=
  k_Mo_open_148 x1 (0 : Int32) q
def k_Mo_open_128 (x1 : Int32) (q : z_Sg) : Option z_Sg :=
  if x1 = (15 : Int32) then (if (z_gI q 4) = (-1 : Int32) then (k_Mo_open_148 x1 (1 : Int32) q) else (k_Mo_open_147 x1 q)) else (k_Mo_open_147 x1 q)
def k_Mo_open_120 (ih25 : Int32 × z_Sg → Option z_Sg) (q : z_Sg) : Option z_Sg :=
  (f_Mo_fetch q).bind (fun r21 => ih25 (r21.1, r21.2))
def k_Mo_open_105 (ih25 : Int32 × z_Sg → Option z_Sg) (x1 : Int32) (t1 : Int32) (q : z_Sg) : Option z_Sg :=
  z_gd (z_bo t1) (z_nm (z_sI q 16 t1) (fun q19 => if x1 ≤ (240 : Int32) then (k_Mo_open_120 ih25 q19) else (z_nm (z_sI q19 11 x1) (fun q22 => k_Mo_open_120 ih25 q22))))
def k_Mo_open_100 (ih25 : Int32 × z_Sg → Option z_Sg) (x1 : Int32) (q : z_Sg) : Option z_Sg :=
  k_Mo_open_105 ih25 x1 (1 : Int32) q
def k_Mo_open_83 (ih25 : Int32 × z_Sg → Option z_Sg) (x1 : Int32) (t1 : Int32) (q : z_Sg) : Option z_Sg :=
  z_nm (z_sI q 10 t1) (fun q16 => if (z_gI q16 16) = 0 then (if x1 = (102 : Int32) then (k_Mo_open_100 ih25 x1 q16) else (k_Mo_open_105 ih25 x1 (0 : Int32) q16)) else (k_Mo_open_100 ih25 x1 q16))
def k_Mo_open_82 (ih25 : Int32 × z_Sg → Option z_Sg) (x1 : Int32) (q : z_Sg) : Option z_Sg :=
  k_Mo_open_83 ih25 x1 (0 : Int32) q
def k_Mo_open_65 (ih25 : Int32 × z_Sg → Option z_Sg) (x1 : Int32) (q : z_Sg) : Option z_Sg :=
  if x1 < (64 : Int32) then (k_Mo_open_82 ih25 x1 q) else (if (79 : Int32) < x1 then (k_Mo_open_82 ih25 x1 q) else (k_Mo_open_83 ih25 x1 x1 q))
def kb_Mo_open_25 (ih25 : Int32 × z_Sg → Option z_Sg) (x1 : Int32) (q : z_Sg) : Option z_Sg :=
  if (z_gI q 4) = (-1 : Int32) then (if x1 = (102 : Int32) then (k_Mo_open_65 ih25 x1 q) else (if x1 = (242 : Int32) then (k_Mo_open_65 ih25 x1 q) else (if x1 = (243 : Int32) then (k_Mo_open_65 ih25 x1 q) else (if x1 < (64 : Int32) then (k_Mo_open_128 x1 q) else (if (79 : Int32) < x1 then (k_Mo_open_128 x1 q) else (k_Mo_open_65 ih25 x1 q)))))) else (k_Mo_open_128 x1 q)
def k_Mo_open_25 (x1 : Int32) (q : z_Sg) : Option z_Sg := z_lo (fun ih25 a => kb_Mo_open_25 ih25 a.1 a.2) 2000 (x1, q)
def f_Mo_open (q : z_Sg) : Option z_Sg :=
  z_nm (z_sI q 6 (0 : Int32)) (fun q1 => z_nm (z_sI q1 10 (0 : Int32)) (fun q2 => z_nm (z_sI q2 11 (0 : Int32)) (fun q3 => z_nm (z_sI q3 16 (0 : Int32)) (fun q4 => (f_Mo_fetch q4).bind (fun r5 => k_Mo_open_25 r5.1 r5.2)))))
set_option maxHeartbeats 4000000 in
set_option maxRecDepth 100000 in
theorem w_Mo_open_167 {p : Program} {l : Launch} {e : Env} {s : State} {m : MethodId} {args : Array Value} {below : List Frame} {meth : Method} {c : Code} {D : va_G} {A : Nat → Prop} {ad : Nat → Nat} {ca : Nat → ClassId} (o : z_Sg) (C0 : z_cx z_RMo b_Mo_open 2 none D (z_Mt ca) A p s m args meth c) (q : z_Sg) (t1 : Int32) (h : k_Mo_open_167 t1 q = some o) : ∀ (H : Heap) (locs : List Loc) (ls : Array Slot), z_wd D (z_M ad ca q) A s H locs → lv_has ls 2 [] → W p l e (z_rm 5 127) s m args below meth c H locs 0 0 (z_qv below D (z_Mt ca) (z_M ad ca o) A s args) (F0 m 167 ls [.int t1, .ref (ad 0)]) := by
  obtain ⟨hx, hb, hr, hlk, hml, hown, hts, hK, hA⟩ := id C0
  intro H locs ls hw hl
  refine pfM_0_opcode C0 hw fl_Mo_133 d_Mo_open_167 (fun H locs hw => ?_)
  obtain ⟨q11, eq11, h⟩ := ok_n h
  rw [← eq11] at hw
  have ho := Option.some.inj h
  subst ho
  exact z_rtv C0 hw d_Mo_open_170
set_option maxHeartbeats 4000000 in
set_option maxRecDepth 100000 in
theorem w_Mo_open_148 {p : Program} {l : Launch} {e : Env} {s : State} {m : MethodId} {args : Array Value} {below : List Frame} {meth : Method} {c : Code} {D : va_G} {A : Nat → Prop} {ad : Nat → Nat} {ca : Nat → ClassId} (o : z_Sg) (C0 : z_cx z_RMo b_Mo_open 2 none D (z_Mt ca) A p s m args meth c) (q : z_Sg) (x1 : Int32) (t1 : Int32) (h : k_Mo_open_148 x1 t1 q = some o) : ∀ (H : Heap) (locs : List Loc) (ls : Array Slot), z_wd D (z_M ad ca q) A s H locs → lv_has ls 2 [(0, .ref (ad 0)), (1, .int x1)] → W p l e (z_rm 5 127) s m args below meth c H locs 0 0 (z_qv below D (z_Mt ca) (z_M ad ca o) A s args) (F0 m 148 ls [.int t1, .ref (ad 0)]) := by
  obtain ⟨hx, hb, hr, hlk, hml, hown, hts, hK, hA⟩ := id C0
  intro H locs ls hw hl
  obtain ⟨b8, h⟩ := ok_G h
  refine pfM_0_two C0 hw b8 fl_Mo_130 d_Mo_open_148 (fun H locs hw => ?_)
  obtain ⟨q9, eq9, h⟩ := ok_n h
  rw [← eq9] at hw
  refine lv_aload_n hx hb d_Mo_open_151 rfl (lv_at hl 0 rfl) ?_
  refine lv_aload_n hx hb d_Mo_open_152 rfl (lv_at hl 0 rfl) ?_
  refine gfM_0_two C0 hw fl_Mo_130 d_Mo_open_153 ?_
  refine lv_if_eq (tgt := 166) hx hb d_Mo_open_156 (by decide) (fun c10 => ?_) (fun c10 => ?_)
  · have h := ok_t h c10
    refine lv_iload_n hx hb d_Mo_open_166 rfl (lv_at hl 1 rfl) ?_
    exact w_Mo_open_167 o C0 q9 x1 h H locs ls hw (lv_sub hl [] rfl)
  · have h := ok_f h c10
    refine lv_aload_n hx hb d_Mo_open_159 rfl (lv_at hl 0 rfl) ?_
    obtain ⟨r12, er12, h⟩ := ok_b h
    refine z_vi (rest := [.ref (ad 0)]) C0 hw (c_Mo_fetch q9 r12 er12) mw_Mo_fetch ml_Mo_114 0 rfl ⟨Nat.le_of_ble_eq_true rfl, Nat.le_of_ble_eq_true rfl⟩ ⟨Nat.le_refl 0, Nat.le_refl 0⟩ rfl hl.1 rfl (Nat.le_of_ble_eq_true rfl) d_Mo_open_160 (fun H locs hw => ?_)
    refine lv_goto (tgt := 167) hx hb d_Mo_open_163 (by decide) ?_
    exact w_Mo_open_167 o C0 r12.2 r12.1 h H locs ls hw (lv_sub hl [] rfl)
set_option maxHeartbeats 4000000 in
set_option maxRecDepth 100000 in
theorem w_Mo_open_147 {p : Program} {l : Launch} {e : Env} {s : State} {m : MethodId} {args : Array Value} {below : List Frame} {meth : Method} {c : Code} {D : va_G} {A : Nat → Prop} {ad : Nat → Nat} {ca : Nat → ClassId} (o : z_Sg) (C0 : z_cx z_RMo b_Mo_open 2 none D (z_Mt ca) A p s m args meth c) (q : z_Sg) (x1 : Int32) (h : k_Mo_open_147 x1 q = some o) : ∀ (H : Heap) (locs : List Loc) (ls : Array Slot), z_wd D (z_M ad ca q) A s H locs → lv_has ls 2 [(0, .ref (ad 0)), (1, .int x1)] → W p l e (z_rm 5 127) s m args below meth c H locs 0 0 (z_qv below D (z_Mt ca) (z_M ad ca o) A s args) (F0 m 147 ls [.ref (ad 0)]) := by
  obtain ⟨hx, hb, hr, hlk, hml, hown, hts, hK, hA⟩ := id C0
  intro H locs ls hw hl
  refine lv_iconst (v := (0 : Int32)) hx hb d_Mo_open_147 (by decide) ?_
  exact w_Mo_open_148 o C0 q x1 (0 : Int32) h H locs ls hw (lv_sub hl [0, 1] rfl)
set_option maxHeartbeats 4000000 in
set_option maxRecDepth 100000 in
theorem w_Mo_open_128 {p : Program} {l : Launch} {e : Env} {s : State} {m : MethodId} {args : Array Value} {below : List Frame} {meth : Method} {c : Code} {D : va_G} {A : Nat → Prop} {ad : Nat → Nat} {ca : Nat → ClassId} (o : z_Sg) (C0 : z_cx z_RMo b_Mo_open 2 none D (z_Mt ca) A p s m args meth c) (q : z_Sg) (x1 : Int32) (h : k_Mo_open_128 x1 q = some o) : ∀ (H : Heap) (locs : List Loc) (ls : Array Slot), z_wd D (z_M ad ca q) A s H locs → lv_has ls 2 [(0, .ref (ad 0)), (1, .int x1)] → W p l e (z_rm 5 127) s m args below meth c H locs 0 0 (z_qv below D (z_Mt ca) (z_M ad ca o) A s args) (F0 m 128 ls []) := by
  obtain ⟨hx, hb, hr, hlk, hml, hown, hts, hK, hA⟩ := id C0
  intro H locs ls hw hl
  refine lv_aload_n hx hb d_Mo_open_128 rfl (lv_at hl 0 rfl) ?_
  refine lv_iload_n hx hb d_Mo_open_129 rfl (lv_at hl 1 rfl) ?_
  refine lv_bipush (v := (15 : Int32)) hx hb d_Mo_open_130 (by decide) ?_
  refine lv_icmp_ne (tgt := 147) hx hb d_Mo_open_132 (by decide) (fun c7 => ?_) (fun c7 => ?_)
  · have h := ok_f h c7
    exact w_Mo_open_147 o C0 q x1 h H locs ls hw (lv_sub hl [0, 1] rfl)
  · have h := ok_t h c7
    refine lv_aload_n hx hb d_Mo_open_135 rfl (lv_at hl 0 rfl) ?_
    refine gfM_0_refused C0 hw fl_Mo_28 d_Mo_open_136 ?_
    refine lv_iconst (v := (-1 : Int32)) hx hb d_Mo_open_139 (by decide) ?_
    refine lv_icmp_ne (tgt := 147) hx hb d_Mo_open_140 (by decide) (fun c13 => ?_) (fun c13 => ?_)
    · have h := ok_f h c13
      exact w_Mo_open_147 o C0 q x1 h H locs ls hw (lv_sub hl [0, 1] rfl)
    · have h := ok_t h c13
      refine lv_iconst (v := (1 : Int32)) hx hb d_Mo_open_143 (by decide) ?_
      refine lv_goto (tgt := 148) hx hb d_Mo_open_144 (by decide) ?_
      exact w_Mo_open_148 o C0 q x1 (1 : Int32) h H locs ls hw (lv_sub hl [0, 1] rfl)
set_option maxHeartbeats 4000000 in
set_option maxRecDepth 100000 in
theorem w_Mo_open_120 {p : Program} {l : Launch} {e : Env} {s : State} {m : MethodId} {args : Array Value} {below : List Frame} {meth : Method} {c : Code} {D : va_G} {A : Nat → Prop} {ad : Nat → Nat} {ca : Nat → ClassId} (o : z_Sg) (C0 : z_cx z_RMo b_Mo_open 2 none D (z_Mt ca) A p s m args meth c) (q : z_Sg) (ih25 : Int32 × z_Sg → Option z_Sg) (hi25 : ∀ a : Int32 × z_Sg, ih25 a = some o → ∀ (H : Heap) (locs : List Loc) (ls : Array Slot), z_wd D (z_M ad ca a.2) A s H locs → lv_has ls 2 [(0, .ref (ad 0)), (1, .int a.1)] → W p l e (z_rm 5 127) s m args below meth c H locs 0 0 (z_qv below D (z_Mt ca) (z_M ad ca o) A s args) (F0 m 25 ls [])) (h : k_Mo_open_120 ih25 q = some o) : ∀ (H : Heap) (locs : List Loc) (ls : Array Slot), z_wd D (z_M ad ca q) A s H locs → lv_has ls 2 [(0, .ref (ad 0))] → W p l e (z_rm 5 127) s m args below meth c H locs 0 0 (z_qv below D (z_Mt ca) (z_M ad ca o) A s args) (F0 m 120 ls []) := by
  obtain ⟨hx, hb, hr, hlk, hml, hown, hts, hK, hA⟩ := id C0
  intro H locs ls hw hl
  refine lv_aload_n hx hb d_Mo_open_120 rfl (lv_at hl 0 rfl) ?_
  obtain ⟨r21, er21, h⟩ := ok_b h
  refine z_vi (rest := []) C0 hw (c_Mo_fetch q r21 er21) mw_Mo_fetch ml_Mo_114 0 rfl ⟨Nat.le_of_ble_eq_true rfl, Nat.le_of_ble_eq_true rfl⟩ ⟨Nat.le_refl 0, Nat.le_refl 0⟩ rfl hl.1 rfl (Nat.le_of_ble_eq_true rfl) d_Mo_open_121 (fun H locs hw => ?_)
  refine lv_istore_n (lv' := [(1, .int r21.1), (0, .ref (ad 0))]) hx hb d_Mo_open_124 rfl hl (by decide) rfl (fun ls hl => ?_)
  refine lv_goto (tgt := 25) hx hb d_Mo_open_125 (by decide) ?_
  exact hi25 (r21.1, r21.2) h H locs ls hw (lv_sub hl [1, 0] rfl)
set_option maxHeartbeats 4000000 in
set_option maxRecDepth 100000 in
theorem w_Mo_open_105 {p : Program} {l : Launch} {e : Env} {s : State} {m : MethodId} {args : Array Value} {below : List Frame} {meth : Method} {c : Code} {D : va_G} {A : Nat → Prop} {ad : Nat → Nat} {ca : Nat → ClassId} (o : z_Sg) (C0 : z_cx z_RMo b_Mo_open 2 none D (z_Mt ca) A p s m args meth c) (q : z_Sg) (ih25 : Int32 × z_Sg → Option z_Sg) (hi25 : ∀ a : Int32 × z_Sg, ih25 a = some o → ∀ (H : Heap) (locs : List Loc) (ls : Array Slot), z_wd D (z_M ad ca a.2) A s H locs → lv_has ls 2 [(0, .ref (ad 0)), (1, .int a.1)] → W p l e (z_rm 5 127) s m args below meth c H locs 0 0 (z_qv below D (z_Mt ca) (z_M ad ca o) A s args) (F0 m 25 ls [])) (x1 : Int32) (t1 : Int32) (h : k_Mo_open_105 ih25 x1 t1 q = some o) : ∀ (H : Heap) (locs : List Loc) (ls : Array Slot), z_wd D (z_M ad ca q) A s H locs → lv_has ls 2 [(0, .ref (ad 0)), (1, .int x1)] → W p l e (z_rm 5 127) s m args below meth c H locs 0 0 (z_qv below D (z_Mt ca) (z_M ad ca o) A s args) (F0 m 105 ls [.int t1, .ref (ad 0)]) := by
  obtain ⟨hx, hb, hr, hlk, hml, hown, hts, hK, hA⟩ := id C0
  intro H locs ls hw hl
  obtain ⟨b18, h⟩ := ok_G h
  refine pfM_0_small C0 hw b18 fl_Mo_127 d_Mo_open_105 (fun H locs hw => ?_)
  obtain ⟨q19, eq19, h⟩ := ok_n h
  rw [← eq19] at hw
  refine lv_iload_n hx hb d_Mo_open_108 rfl (lv_at hl 1 rfl) ?_
  refine lv_sipush (v := (240 : Int32)) hx hb d_Mo_open_109 (by decide) ?_
  refine lv_icmp_le (tgt := 120) hx hb d_Mo_open_112 (by decide) (fun c20 => ?_) (fun c20 => ?_)
  · have h := ok_t h c20
    exact w_Mo_open_120 o C0 q19 ih25 hi25 h H locs ls hw (lv_sub hl [0] rfl)
  · have h := ok_f h c20
    refine lv_aload_n hx hb d_Mo_open_115 rfl (lv_at hl 0 rfl) ?_
    refine lv_iload_n hx hb d_Mo_open_116 rfl (lv_at hl 1 rfl) ?_
    refine pfM_0_repeat C0 hw fl_Mo_124 d_Mo_open_117 (fun H locs hw => ?_)
    obtain ⟨q22, eq22, h⟩ := ok_n h
    rw [← eq22] at hw
    exact w_Mo_open_120 o C0 q22 ih25 hi25 h H locs ls hw (lv_sub hl [0] rfl)
set_option maxHeartbeats 4000000 in
set_option maxRecDepth 100000 in
theorem w_Mo_open_100 {p : Program} {l : Launch} {e : Env} {s : State} {m : MethodId} {args : Array Value} {below : List Frame} {meth : Method} {c : Code} {D : va_G} {A : Nat → Prop} {ad : Nat → Nat} {ca : Nat → ClassId} (o : z_Sg) (C0 : z_cx z_RMo b_Mo_open 2 none D (z_Mt ca) A p s m args meth c) (q : z_Sg) (ih25 : Int32 × z_Sg → Option z_Sg) (hi25 : ∀ a : Int32 × z_Sg, ih25 a = some o → ∀ (H : Heap) (locs : List Loc) (ls : Array Slot), z_wd D (z_M ad ca a.2) A s H locs → lv_has ls 2 [(0, .ref (ad 0)), (1, .int a.1)] → W p l e (z_rm 5 127) s m args below meth c H locs 0 0 (z_qv below D (z_Mt ca) (z_M ad ca o) A s args) (F0 m 25 ls [])) (x1 : Int32) (h : k_Mo_open_100 ih25 x1 q = some o) : ∀ (H : Heap) (locs : List Loc) (ls : Array Slot), z_wd D (z_M ad ca q) A s H locs → lv_has ls 2 [(0, .ref (ad 0)), (1, .int x1)] → W p l e (z_rm 5 127) s m args below meth c H locs 0 0 (z_qv below D (z_Mt ca) (z_M ad ca o) A s args) (F0 m 100 ls [.ref (ad 0)]) := by
  obtain ⟨hx, hb, hr, hlk, hml, hown, hts, hK, hA⟩ := id C0
  intro H locs ls hw hl
  refine lv_iconst (v := (1 : Int32)) hx hb d_Mo_open_100 (by decide) ?_
  refine lv_goto (tgt := 105) hx hb d_Mo_open_101 (by decide) ?_
  exact w_Mo_open_105 o C0 q ih25 hi25 x1 (1 : Int32) h H locs ls hw (lv_sub hl [0, 1] rfl)
set_option maxHeartbeats 4000000 in
set_option maxRecDepth 100000 in
theorem w_Mo_open_83 {p : Program} {l : Launch} {e : Env} {s : State} {m : MethodId} {args : Array Value} {below : List Frame} {meth : Method} {c : Code} {D : va_G} {A : Nat → Prop} {ad : Nat → Nat} {ca : Nat → ClassId} (o : z_Sg) (C0 : z_cx z_RMo b_Mo_open 2 none D (z_Mt ca) A p s m args meth c) (q : z_Sg) (ih25 : Int32 × z_Sg → Option z_Sg) (hi25 : ∀ a : Int32 × z_Sg, ih25 a = some o → ∀ (H : Heap) (locs : List Loc) (ls : Array Slot), z_wd D (z_M ad ca a.2) A s H locs → lv_has ls 2 [(0, .ref (ad 0)), (1, .int a.1)] → W p l e (z_rm 5 127) s m args below meth c H locs 0 0 (z_qv below D (z_Mt ca) (z_M ad ca o) A s args) (F0 m 25 ls [])) (x1 : Int32) (t1 : Int32) (h : k_Mo_open_83 ih25 x1 t1 q = some o) : ∀ (H : Heap) (locs : List Loc) (ls : Array Slot), z_wd D (z_M ad ca q) A s H locs → lv_has ls 2 [(0, .ref (ad 0)), (1, .int x1)] → W p l e (z_rm 5 127) s m args below meth c H locs 0 0 (z_qv below D (z_Mt ca) (z_M ad ca o) A s args) (F0 m 83 ls [.int t1, .ref (ad 0)]) := by
  obtain ⟨hx, hb, hr, hlk, hml, hown, hts, hK, hA⟩ := id C0
  intro H locs ls hw hl
  refine pfM_0_rex C0 hw fl_Mo_121 d_Mo_open_83 (fun H locs hw => ?_)
  obtain ⟨q16, eq16, h⟩ := ok_n h
  rw [← eq16] at hw
  refine lv_aload_n hx hb d_Mo_open_86 rfl (lv_at hl 0 rfl) ?_
  refine lv_aload_n hx hb d_Mo_open_87 rfl (lv_at hl 0 rfl) ?_
  refine gfM_0_small C0 hw fl_Mo_127 d_Mo_open_88 ?_
  refine lv_if_ne (tgt := 100) hx hb d_Mo_open_91 (by decide) (fun c17 => ?_) (fun c17 => ?_)
  · have h := ok_f h c17
    exact w_Mo_open_100 o C0 q16 ih25 hi25 x1 h H locs ls hw (lv_sub hl [0, 1] rfl)
  · have h := ok_t h c17
    refine lv_iload_n hx hb d_Mo_open_94 rfl (lv_at hl 1 rfl) ?_
    refine lv_bipush (v := (102 : Int32)) hx hb d_Mo_open_95 (by decide) ?_
    refine lv_icmp_ne (tgt := 104) hx hb d_Mo_open_97 (by decide) (fun c23 => ?_) (fun c23 => ?_)
    · have h := ok_f h c23
      refine lv_iconst (v := (0 : Int32)) hx hb d_Mo_open_104 (by decide) ?_
      exact w_Mo_open_105 o C0 q16 ih25 hi25 x1 (0 : Int32) h H locs ls hw (lv_sub hl [0, 1] rfl)
    · have h := ok_t h c23
      exact w_Mo_open_100 o C0 q16 ih25 hi25 x1 h H locs ls hw (lv_sub hl [0, 1] rfl)
set_option maxHeartbeats 4000000 in
set_option maxRecDepth 100000 in
theorem w_Mo_open_82 {p : Program} {l : Launch} {e : Env} {s : State} {m : MethodId} {args : Array Value} {below : List Frame} {meth : Method} {c : Code} {D : va_G} {A : Nat → Prop} {ad : Nat → Nat} {ca : Nat → ClassId} (o : z_Sg) (C0 : z_cx z_RMo b_Mo_open 2 none D (z_Mt ca) A p s m args meth c) (q : z_Sg) (ih25 : Int32 × z_Sg → Option z_Sg) (hi25 : ∀ a : Int32 × z_Sg, ih25 a = some o → ∀ (H : Heap) (locs : List Loc) (ls : Array Slot), z_wd D (z_M ad ca a.2) A s H locs → lv_has ls 2 [(0, .ref (ad 0)), (1, .int a.1)] → W p l e (z_rm 5 127) s m args below meth c H locs 0 0 (z_qv below D (z_Mt ca) (z_M ad ca o) A s args) (F0 m 25 ls [])) (x1 : Int32) (h : k_Mo_open_82 ih25 x1 q = some o) : ∀ (H : Heap) (locs : List Loc) (ls : Array Slot), z_wd D (z_M ad ca q) A s H locs → lv_has ls 2 [(0, .ref (ad 0)), (1, .int x1)] → W p l e (z_rm 5 127) s m args below meth c H locs 0 0 (z_qv below D (z_Mt ca) (z_M ad ca o) A s args) (F0 m 82 ls [.ref (ad 0)]) := by
  obtain ⟨hx, hb, hr, hlk, hml, hown, hts, hK, hA⟩ := id C0
  intro H locs ls hw hl
  refine lv_iconst (v := (0 : Int32)) hx hb d_Mo_open_82 (by decide) ?_
  exact w_Mo_open_83 o C0 q ih25 hi25 x1 (0 : Int32) h H locs ls hw (lv_sub hl [0, 1] rfl)
set_option maxHeartbeats 4000000 in
set_option maxRecDepth 100000 in
theorem w_Mo_open_65 {p : Program} {l : Launch} {e : Env} {s : State} {m : MethodId} {args : Array Value} {below : List Frame} {meth : Method} {c : Code} {D : va_G} {A : Nat → Prop} {ad : Nat → Nat} {ca : Nat → ClassId} (o : z_Sg) (C0 : z_cx z_RMo b_Mo_open 2 none D (z_Mt ca) A p s m args meth c) (q : z_Sg) (ih25 : Int32 × z_Sg → Option z_Sg) (hi25 : ∀ a : Int32 × z_Sg, ih25 a = some o → ∀ (H : Heap) (locs : List Loc) (ls : Array Slot), z_wd D (z_M ad ca a.2) A s H locs → lv_has ls 2 [(0, .ref (ad 0)), (1, .int a.1)] → W p l e (z_rm 5 127) s m args below meth c H locs 0 0 (z_qv below D (z_Mt ca) (z_M ad ca o) A s args) (F0 m 25 ls [])) (x1 : Int32) (h : k_Mo_open_65 ih25 x1 q = some o) : ∀ (H : Heap) (locs : List Loc) (ls : Array Slot), z_wd D (z_M ad ca q) A s H locs → lv_has ls 2 [(0, .ref (ad 0)), (1, .int x1)] → W p l e (z_rm 5 127) s m args below meth c H locs 0 0 (z_qv below D (z_Mt ca) (z_M ad ca o) A s args) (F0 m 65 ls []) := by
  obtain ⟨hx, hb, hr, hlk, hml, hown, hts, hK, hA⟩ := id C0
  intro H locs ls hw hl
  refine lv_aload_n hx hb d_Mo_open_65 rfl (lv_at hl 0 rfl) ?_
  refine lv_iload_n hx hb d_Mo_open_66 rfl (lv_at hl 1 rfl) ?_
  refine lv_bipush (v := (64 : Int32)) hx hb d_Mo_open_67 (by decide) ?_
  refine lv_icmp_lt (tgt := 82) hx hb d_Mo_open_69 (by decide) (fun c15 => ?_) (fun c15 => ?_)
  · have h := ok_t h c15
    exact w_Mo_open_82 o C0 q ih25 hi25 x1 h H locs ls hw (lv_sub hl [0, 1] rfl)
  · have h := ok_f h c15
    refine lv_iload_n hx hb d_Mo_open_72 rfl (lv_at hl 1 rfl) ?_
    refine lv_bipush (v := (79 : Int32)) hx hb d_Mo_open_73 (by decide) ?_
    refine lv_icmp_gt (tgt := 82) hx hb d_Mo_open_75 (by decide) (fun c24 => ?_) (fun c24 => ?_)
    · have h := ok_t h c24
      exact w_Mo_open_82 o C0 q ih25 hi25 x1 h H locs ls hw (lv_sub hl [0, 1] rfl)
    · have h := ok_f h c24
      refine lv_iload_n hx hb d_Mo_open_78 rfl (lv_at hl 1 rfl) ?_
      refine lv_goto (tgt := 83) hx hb d_Mo_open_79 (by decide) ?_
      exact w_Mo_open_83 o C0 q ih25 hi25 x1 x1 h H locs ls hw (lv_sub hl [0, 1] rfl)
set_option maxHeartbeats 4000000 in
set_option maxRecDepth 100000 in
theorem wb_Mo_open_25 {p : Program} {l : Launch} {e : Env} {s : State} {m : MethodId} {args : Array Value} {below : List Frame} {meth : Method} {c : Code} {D : va_G} {A : Nat → Prop} {ad : Nat → Nat} {ca : Nat → ClassId} (o : z_Sg) (C0 : z_cx z_RMo b_Mo_open 2 none D (z_Mt ca) A p s m args meth c) (q : z_Sg) (ih25 : Int32 × z_Sg → Option z_Sg) (hi25 : ∀ a : Int32 × z_Sg, ih25 a = some o → ∀ (H : Heap) (locs : List Loc) (ls : Array Slot), z_wd D (z_M ad ca a.2) A s H locs → lv_has ls 2 [(0, .ref (ad 0)), (1, .int a.1)] → W p l e (z_rm 5 127) s m args below meth c H locs 0 0 (z_qv below D (z_Mt ca) (z_M ad ca o) A s args) (F0 m 25 ls [])) (x1 : Int32) (h : kb_Mo_open_25 ih25 x1 q = some o) : ∀ (H : Heap) (locs : List Loc) (ls : Array Slot), z_wd D (z_M ad ca q) A s H locs → lv_has ls 2 [(0, .ref (ad 0)), (1, .int x1)] → W p l e (z_rm 5 127) s m args below meth c H locs 0 0 (z_qv below D (z_Mt ca) (z_M ad ca o) A s args) (F0 m 25 ls []) := by
  obtain ⟨hx, hb, hr, hlk, hml, hown, hts, hK, hA⟩ := id C0
  intro H locs ls hw hl
  refine lv_aload_n hx hb d_Mo_open_25 rfl (lv_at hl 0 rfl) ?_
  refine gfM_0_refused C0 hw fl_Mo_28 d_Mo_open_26 ?_
  refine lv_iconst (v := (-1 : Int32)) hx hb d_Mo_open_29 (by decide) ?_
  refine lv_icmp_ne (tgt := 128) hx hb d_Mo_open_30 (by decide) (fun c6 => ?_) (fun c6 => ?_)
  · have h := ok_f h c6
    exact w_Mo_open_128 o C0 q x1 h H locs ls hw (lv_sub hl [0, 1] rfl)
  · have h := ok_t h c6
    refine lv_iload_n hx hb d_Mo_open_33 rfl (lv_at hl 1 rfl) ?_
    refine lv_bipush (v := (102 : Int32)) hx hb d_Mo_open_34 (by decide) ?_
    refine lv_icmp_eq (tgt := 65) hx hb d_Mo_open_36 (by decide) (fun c14 => ?_) (fun c14 => ?_)
    · have h := ok_t h c14
      exact w_Mo_open_65 o C0 q ih25 hi25 x1 h H locs ls hw (lv_sub hl [0, 1] rfl)
    · have h := ok_f h c14
      refine lv_iload_n hx hb d_Mo_open_39 rfl (lv_at hl 1 rfl) ?_
      refine lv_sipush (v := (242 : Int32)) hx hb d_Mo_open_40 (by decide) ?_
      refine lv_icmp_eq (tgt := 65) hx hb d_Mo_open_43 (by decide) (fun c25 => ?_) (fun c25 => ?_)
      · have h := ok_t h c25
        exact w_Mo_open_65 o C0 q ih25 hi25 x1 h H locs ls hw (lv_sub hl [0, 1] rfl)
      · have h := ok_f h c25
        refine lv_iload_n hx hb d_Mo_open_46 rfl (lv_at hl 1 rfl) ?_
        refine lv_sipush (v := (243 : Int32)) hx hb d_Mo_open_47 (by decide) ?_
        refine lv_icmp_eq (tgt := 65) hx hb d_Mo_open_50 (by decide) (fun c26 => ?_) (fun c26 => ?_)
        · have h := ok_t h c26
          exact w_Mo_open_65 o C0 q ih25 hi25 x1 h H locs ls hw (lv_sub hl [0, 1] rfl)
        · have h := ok_f h c26
          refine lv_iload_n hx hb d_Mo_open_53 rfl (lv_at hl 1 rfl) ?_
          refine lv_bipush (v := (64 : Int32)) hx hb d_Mo_open_54 (by decide) ?_
          refine lv_icmp_lt (tgt := 128) hx hb d_Mo_open_56 (by decide) (fun c27 => ?_) (fun c27 => ?_)
          · have h := ok_t h c27
            exact w_Mo_open_128 o C0 q x1 h H locs ls hw (lv_sub hl [0, 1] rfl)
          · have h := ok_f h c27
            refine lv_iload_n hx hb d_Mo_open_59 rfl (lv_at hl 1 rfl) ?_
            refine lv_bipush (v := (79 : Int32)) hx hb d_Mo_open_60 (by decide) ?_
            refine lv_icmp_gt (tgt := 128) hx hb d_Mo_open_62 (by decide) (fun c28 => ?_) (fun c28 => ?_)
            · have h := ok_t h c28
              exact w_Mo_open_128 o C0 q x1 h H locs ls hw (lv_sub hl [0, 1] rfl)
            · have h := ok_f h c28
              exact w_Mo_open_65 o C0 q ih25 hi25 x1 h H locs ls hw (lv_sub hl [0, 1] rfl)
theorem w_Mo_open_25 {p : Program} {l : Launch} {e : Env} {s : State} {m : MethodId} {args : Array Value} {below : List Frame} {meth : Method} {c : Code} {D : va_G} {A : Nat → Prop} {ad : Nat → Nat} {ca : Nat → ClassId} (o : z_Sg) (C0 : z_cx z_RMo b_Mo_open 2 none D (z_Mt ca) A p s m args meth c) (q : z_Sg) (x1 : Int32) (h : k_Mo_open_25 x1 q = some o) : ∀ (H : Heap) (locs : List Loc) (ls : Array Slot), z_wd D (z_M ad ca q) A s H locs → lv_has ls 2 [(0, .ref (ad 0)), (1, .int x1)] → W p l e (z_rm 5 127) s m args below meth c H locs 0 0 (z_qv below D (z_Mt ca) (z_M ad ca o) A s args) (F0 m 25 ls []) := by
  have key : ∀ (n : Nat) (a : Int32 × z_Sg), z_lo (fun ih25 a => kb_Mo_open_25 ih25 a.1 a.2) n a = some o → ∀ (H : Heap) (locs : List Loc) (ls : Array Slot), z_wd D (z_M ad ca a.2) A s H locs → lv_has ls 2 [(0, .ref (ad 0)), (1, .int a.1)] → W p l e (z_rm 5 127) s m args below meth c H locs 0 0 (z_qv below D (z_Mt ca) (z_M ad ca o) A s args) (F0 m 25 ls []) := by
    intro n
    induction n with
    | zero => intro a h; cases h
    | succ n ih => exact fun a h => wb_Mo_open_25 o C0 a.2 (z_lo (fun ih25 a => kb_Mo_open_25 ih25 a.1 a.2) n) ih a.1 h
  exact key 2000 (x1, q) h
set_option maxHeartbeats 4000000 in
set_option maxRecDepth 100000 in
theorem c_Mo_open {l : Launch} {D : va_G} {ad : Nat → Nat} {ca : Nat → ClassId} (q : z_Sg) (o : z_Sg) (h : f_Mo_open q = some o) : z_cv l y_Mo_open b_Mo_open 2 none 5 127 D (z_Mt ca) (z_M ad ca q) (z_M ad ca o) [.ref (ad 0)] := by
  refine z_cv_of (own := z_RMo) (by decide) rfl ?_
  intro p e s m below meth c A C0 hw
  obtain ⟨hx, hb, hr, hlk, hml, hown, hts, hK, hA⟩ := id C0
  generalize hH : s.heap = H at hw ⊢
  generalize hlo : ([] : List Loc) = locs at hw ⊢
  refine z_entry (lv := [(0, .ref (ad 0))]) (Nat.le_of_ble_eq_true rfl) rfl (fun ls hl => ?_)
  unfold f_Mo_open at h
  refine lv_aload_n hx hb d_Mo_open_0 rfl (lv_at hl 0 rfl) ?_
  refine lv_iconst (v := (0 : Int32)) hx hb d_Mo_open_1 (by decide) ?_
  refine pfM_0_length C0 hw fl_Mo_108 d_Mo_open_2 (fun H locs hw => ?_)
  obtain ⟨q1, eq1, h⟩ := ok_n h
  rw [← eq1] at hw
  refine lv_aload_n hx hb d_Mo_open_5 rfl (lv_at hl 0 rfl) ?_
  refine lv_iconst (v := (0 : Int32)) hx hb d_Mo_open_6 (by decide) ?_
  refine pfM_0_rex C0 hw fl_Mo_121 d_Mo_open_7 (fun H locs hw => ?_)
  obtain ⟨q2, eq2, h⟩ := ok_n h
  rw [← eq2] at hw
  refine lv_aload_n hx hb d_Mo_open_10 rfl (lv_at hl 0 rfl) ?_
  refine lv_iconst (v := (0 : Int32)) hx hb d_Mo_open_11 (by decide) ?_
  refine pfM_0_repeat C0 hw fl_Mo_124 d_Mo_open_12 (fun H locs hw => ?_)
  obtain ⟨q3, eq3, h⟩ := ok_n h
  rw [← eq3] at hw
  refine lv_aload_n hx hb d_Mo_open_15 rfl (lv_at hl 0 rfl) ?_
  refine lv_iconst (v := (0 : Int32)) hx hb d_Mo_open_16 (by decide) ?_
  refine pfM_0_small C0 hw (Or.inl rfl) fl_Mo_127 d_Mo_open_17 (fun H locs hw => ?_)
  obtain ⟨q4, eq4, h⟩ := ok_n h
  rw [← eq4] at hw
  refine lv_aload_n hx hb d_Mo_open_20 rfl (lv_at hl 0 rfl) ?_
  obtain ⟨r5, er5, h⟩ := ok_b h
  refine z_vi (rest := []) C0 hw (c_Mo_fetch q4 r5 er5) mw_Mo_fetch ml_Mo_114 0 rfl ⟨Nat.le_of_ble_eq_true rfl, Nat.le_of_ble_eq_true rfl⟩ ⟨Nat.le_refl 0, Nat.le_refl 0⟩ rfl hl.1 rfl (Nat.le_of_ble_eq_true rfl) d_Mo_open_21 (fun H locs hw => ?_)
  refine lv_istore_n (lv' := [(1, .int r5.1), (0, .ref (ad 0))]) hx hb d_Mo_open_24 rfl hl (by decide) rfl (fun ls hl => ?_)
  exact w_Mo_open_25 o C0 r5.2 r5.1 h H locs ls hw (lv_sub hl [1, 0] rfl)
def kb_Mo_step_258 (ih258 : Int32 × z_Sg → Option (Int32 × z_Sg)) (x1 : Int32) (q : z_Sg) : Option (Int32 × z_Sg) :=
  if (7 : Int32) ≤ x1 then (some ((z_gI q 4), q)) else (if z_bad x1 7 then none else (if z_bad x1 7 then none else (z_nm (z_sN q 1 x1.toNatClampNeg (vp_nar .boolean (z_gN q 2 x1.toNatClampNeg))) (fun q17 => z_nm (x1 + (1 : Int32)) (fun n18 => ih258 (n18, q17))))))
def k_Mo_step_258 (x1 : Int32) (q : z_Sg) : Option (Int32 × z_Sg) := z_lo (fun ih258 a => kb_Mo_step_258 ih258 a.1 a.2) 2000 (x1, q)
def kb_Mo_step_232 (ih232 : Int32 × z_Sg → Option (Int32 × z_Sg)) (x1 : Int32) (q : z_Sg) : Option (Int32 × z_Sg) :=
  if (16 : Int32) ≤ x1 then (k_Mo_step_258 (0 : Int32) q) else (if z_bad x1 16 then none else (if z_bad x1 16 then none else (z_nm (z_sM q 0 x1.toNatClampNeg (z_gM q 1 x1.toNatClampNeg)) (fun q21 => z_nm (x1 + (1 : Int32)) (fun n22 => ih232 (n22, q21))))))
def k_Mo_step_232 (x1 : Int32) (q : z_Sg) : Option (Int32 × z_Sg) := z_lo (fun ih232 a => kb_Mo_step_232 ih232 a.1 a.2) 2000 (x1, q)
def k_Mo_step_214 (ih174 : Int32 × z_Sg → Option (Int32 × z_Sg)) (x1 : Int32) (q : z_Sg) : Option (Int32 × z_Sg) :=
  z_nm (x1 + (1 : Int32)) (fun n27 => ih174 (n27, q))
def kb_Mo_step_174 (ih174 : Int32 × z_Sg → Option (Int32 × z_Sg)) (x1 : Int32) (q : z_Sg) : Option (Int32 × z_Sg) :=
  if (z_gI q 5) ≤ x1 then (some ((-1 : Int32), q)) else (if z_bad x1 16 then none else (if (32768 : Int64) ≤ (z_gM q 2 x1.toNatClampNeg) then (k_Mo_step_214 ih174 x1 q) else (if z_bad x1 16 then none else (if z_bad x1 16 then none else (if z_bad ((z_gM q 2 x1.toNatClampNeg).toInt32) 32768 then none else (z_nm (z_sN q 0 ((z_gM q 2 x1.toNatClampNeg).toInt32).toNatClampNeg (vp_nar .byte ((z_gN q 3 x1.toNatClampNeg).toInt8.toInt32))) (fun q31 => k_Mo_step_214 ih174 x1 q31)))))))
def k_Mo_step_174 (x1 : Int32) (q : z_Sg) : Option (Int32 × z_Sg) := z_lo (fun ih174 a => kb_Mo_step_174 ih174 a.1 a.2) 2000 (x1, q)
def k_Mo_step_156 (q : z_Sg) : Option (Int32 × z_Sg) :=
  if (z_gI q 4) = (-1 : Int32) then (z_nm (z_sL q 0 (z_gL q 7)) (fun q23 => k_Mo_step_174 (0 : Int32) q23)) else (z_gd (z_bo (z_gI q 3)) (z_nm (z_sI q 2 (z_gI q 3)) (fun q12 => k_Mo_step_232 (0 : Int32) q12)))
def k_Mo_step_153 (t1 : Int32) (t2 : Int32) (q : z_Sg) : Option (Int32 × z_Sg) :=
  none
def k_Mo_step_125 (t1 : Int32) (t2 : Int32) (q : z_Sg) : Option (Int32 × z_Sg) :=
  none
def kb_Mo_step_46 (ih46 : Int32 × z_Sg → Option (Int32 × z_Sg)) (x1 : Int32) (q : z_Sg) : Option (Int32 × z_Sg) :=
  if (7 : Int32) ≤ x1 then ((f_Mo_open q).bind (fun r7 => z_nm (z_sL r7 7 ((z_gL r7 0) + ((z_gI r7 6).toInt64))) (fun q8 => if (z_gI q8 4) = (-1 : Int32) then (if (z_gI q8 18) = 0 then (if ((z_gI q8 15) &&& (1 : Int32)) = 0 then (k_Mo_step_153 (z_gI q8 15) (1 : Int32) q8) else (none)) else (if ((z_gI q8 15) &&& (1 : Int32)) = 0 then (k_Mo_step_125 (z_gI q8 15) (1 : Int32) q8) else (none))) else (k_Mo_step_156 q8)))) else (if z_bad x1 7 then none else (if z_bad x1 7 then none else (z_nm (z_sN q 2 x1.toNatClampNeg (vp_nar .boolean (z_gN q 1 x1.toNatClampNeg))) (fun q37 => z_nm (x1 + (1 : Int32)) (fun n38 => ih46 (n38, q37))))))
def k_Mo_step_46 (x1 : Int32) (q : z_Sg) : Option (Int32 × z_Sg) := z_lo (fun ih46 a => kb_Mo_step_46 ih46 a.1 a.2) 2000 (x1, q)
def kb_Mo_step_20 (ih20 : Int32 × z_Sg → Option (Int32 × z_Sg)) (x1 : Int32) (q : z_Sg) : Option (Int32 × z_Sg) :=
  if (16 : Int32) ≤ x1 then (k_Mo_step_46 (0 : Int32) q) else (if z_bad x1 16 then none else (if z_bad x1 16 then none else (z_nm (z_sM q 1 x1.toNatClampNeg (z_gM q 0 x1.toNatClampNeg)) (fun q41 => z_nm (x1 + (1 : Int32)) (fun n42 => ih20 (n42, q41))))))
def k_Mo_step_20 (x1 : Int32) (q : z_Sg) : Option (Int32 × z_Sg) := z_lo (fun ih20 a => kb_Mo_step_20 ih20 a.1 a.2) 2000 (x1, q)
def f_Mo_step (q : z_Sg) : Option (Int32 × z_Sg) :=
  z_nm (z_sI q 4 (-1 : Int32)) (fun q1 => z_nm (z_sI q1 5 (0 : Int32)) (fun q2 => z_gd (z_bo (z_gI q2 2)) (z_nm (z_sI q2 3 (z_gI q2 2)) (fun q4 => k_Mo_step_20 (0 : Int32) q4))))
set_option maxHeartbeats 4000000 in
set_option maxRecDepth 100000 in
theorem wb_Mo_step_258 {p : Program} {l : Launch} {e : Env} {s : State} {m : MethodId} {args : Array Value} {below : List Frame} {meth : Method} {c : Code} {D : va_G} {A : Nat → Prop} {ad : Nat → Nat} {ca : Nat → ClassId} (o : (Int32 × z_Sg)) (C0 : z_cx z_RMo b_Mo_step 2 (some .int) D (z_Mt ca) A p s m args meth c) (q : z_Sg) (ih258 : Int32 × z_Sg → Option (Int32 × z_Sg)) (hi258 : ∀ a : Int32 × z_Sg, ih258 a = some o → ∀ (H : Heap) (locs : List Loc) (ls : Array Slot), z_wd D (z_M ad ca a.2) A s H locs → lv_has ls 2 [(0, .ref (ad 0)), (1, .int a.1)] → W p l e (z_rm 6 148) s m args below meth c H locs 0 0 (z_qi below D (z_Mt ca) (z_M ad ca o.2) A s args o.1) (F0 m 258 ls [])) (x1 : Int32) (h : kb_Mo_step_258 ih258 x1 q = some o) : ∀ (H : Heap) (locs : List Loc) (ls : Array Slot), z_wd D (z_M ad ca q) A s H locs → lv_has ls 2 [(0, .ref (ad 0)), (1, .int x1)] → W p l e (z_rm 6 148) s m args below meth c H locs 0 0 (z_qi below D (z_Mt ca) (z_M ad ca o.2) A s args o.1) (F0 m 258 ls []) := by
  obtain ⟨hx, hb, hr, hlk, hml, hown, hts, hK, hA⟩ := id C0
  intro H locs ls hw hl
  refine lv_iload_n hx hb d_Mo_step_258 rfl (lv_at hl 1 rfl) ?_
  refine lv_bipush (v := (7 : Int32)) hx hb d_Mo_step_259 (by decide) ?_
  refine lv_icmp_ge (tgt := 282) hx hb d_Mo_step_261 (by decide) (fun c14 => ?_) (fun c14 => ?_)
  · have h := ok_t h c14
    refine lv_aload_n hx hb d_Mo_step_282 rfl (lv_at hl 0 rfl) ?_
    refine gfM_0_refused C0 hw fl_Mo_28 d_Mo_step_283 ?_
    have ho := Option.some.inj h
    subst ho
    exact z_rti C0 hw d_Mo_step_286
  · have h := ok_f h c14
    refine lv_aload_n hx hb d_Mo_step_264 rfl (lv_at hl 0 rfl) ?_
    refine gfM_0_flag C0 hw fl_Mo_21 d_Mo_step_265 ?_
    refine lv_iload_n hx hb d_Mo_step_268 rfl (lv_at hl 1 rfl) ?_
    refine lv_aload_n hx hb d_Mo_step_269 rfl (lv_at hl 0 rfl) ?_
    refine gfM_0_oldFlag C0 hw fl_Mo_25 d_Mo_step_270 ?_
    refine lv_iload_n hx hb d_Mo_step_273 rfl (lv_at hl 1 rfl) ?_
    obtain ⟨b15, h⟩ := ok_g h
    refine alM_5 C0 hw b15 d_Mo_step_274 ?_
    obtain ⟨b16, h⟩ := ok_g h
    refine asM_4 C0 hw b16 d_Mo_step_275 (fun H locs hw => ?_)
    obtain ⟨q17, eq17, h⟩ := ok_n h
    rw [← eq17] at hw
    obtain ⟨n18, en18, h⟩ := ok_n h
    refine lv_iinc (v := n18) (lv' := [(1, .int n18), (0, .ref (ad 0))]) hx hb d_Mo_step_276 hl (k := 1) rfl (by rw [en18]; rfl) (by decide) rfl (fun ls hl => ?_)
    refine lv_goto (tgt := 258) hx hb d_Mo_step_279 (by decide) ?_
    exact hi258 (n18, q17) h H locs ls hw (lv_sub hl [1, 0] rfl)
theorem w_Mo_step_258 {p : Program} {l : Launch} {e : Env} {s : State} {m : MethodId} {args : Array Value} {below : List Frame} {meth : Method} {c : Code} {D : va_G} {A : Nat → Prop} {ad : Nat → Nat} {ca : Nat → ClassId} (o : (Int32 × z_Sg)) (C0 : z_cx z_RMo b_Mo_step 2 (some .int) D (z_Mt ca) A p s m args meth c) (q : z_Sg) (x1 : Int32) (h : k_Mo_step_258 x1 q = some o) : ∀ (H : Heap) (locs : List Loc) (ls : Array Slot), z_wd D (z_M ad ca q) A s H locs → lv_has ls 2 [(0, .ref (ad 0)), (1, .int x1)] → W p l e (z_rm 6 148) s m args below meth c H locs 0 0 (z_qi below D (z_Mt ca) (z_M ad ca o.2) A s args o.1) (F0 m 258 ls []) := by
  have key : ∀ (n : Nat) (a : Int32 × z_Sg), z_lo (fun ih258 a => kb_Mo_step_258 ih258 a.1 a.2) n a = some o → ∀ (H : Heap) (locs : List Loc) (ls : Array Slot), z_wd D (z_M ad ca a.2) A s H locs → lv_has ls 2 [(0, .ref (ad 0)), (1, .int a.1)] → W p l e (z_rm 6 148) s m args below meth c H locs 0 0 (z_qi below D (z_Mt ca) (z_M ad ca o.2) A s args o.1) (F0 m 258 ls []) := by
    intro n
    induction n with
    | zero => intro a h; cases h
    | succ n ih => exact fun a h => wb_Mo_step_258 o C0 a.2 (z_lo (fun ih258 a => kb_Mo_step_258 ih258 a.1 a.2) n) ih a.1 h
  exact key 2000 (x1, q) h
set_option maxHeartbeats 4000000 in
set_option maxRecDepth 100000 in
theorem wb_Mo_step_232 {p : Program} {l : Launch} {e : Env} {s : State} {m : MethodId} {args : Array Value} {below : List Frame} {meth : Method} {c : Code} {D : va_G} {A : Nat → Prop} {ad : Nat → Nat} {ca : Nat → ClassId} (o : (Int32 × z_Sg)) (C0 : z_cx z_RMo b_Mo_step 2 (some .int) D (z_Mt ca) A p s m args meth c) (q : z_Sg) (ih232 : Int32 × z_Sg → Option (Int32 × z_Sg)) (hi232 : ∀ a : Int32 × z_Sg, ih232 a = some o → ∀ (H : Heap) (locs : List Loc) (ls : Array Slot), z_wd D (z_M ad ca a.2) A s H locs → lv_has ls 2 [(0, .ref (ad 0)), (1, .int a.1)] → W p l e (z_rm 6 148) s m args below meth c H locs 0 0 (z_qi below D (z_Mt ca) (z_M ad ca o.2) A s args o.1) (F0 m 232 ls [])) (x1 : Int32) (h : kb_Mo_step_232 ih232 x1 q = some o) : ∀ (H : Heap) (locs : List Loc) (ls : Array Slot), z_wd D (z_M ad ca q) A s H locs → lv_has ls 2 [(0, .ref (ad 0)), (1, .int x1)] → W p l e (z_rm 6 148) s m args below meth c H locs 0 0 (z_qi below D (z_Mt ca) (z_M ad ca o.2) A s args o.1) (F0 m 232 ls []) := by
  obtain ⟨hx, hb, hr, hlk, hml, hown, hts, hK, hA⟩ := id C0
  intro H locs ls hw hl
  refine lv_iload_n hx hb d_Mo_step_232 rfl (lv_at hl 1 rfl) ?_
  refine lv_bipush (v := (16 : Int32)) hx hb d_Mo_step_233 (by decide) ?_
  refine lv_icmp_ge (tgt := 256) hx hb d_Mo_step_235 (by decide) (fun c13 => ?_) (fun c13 => ?_)
  · have h := ok_t h c13
    refine lv_iconst (v := (0 : Int32)) hx hb d_Mo_step_256 (by decide) ?_
    refine lv_istore_n (lv' := [(1, .int (0 : Int32)), (0, .ref (ad 0))]) hx hb d_Mo_step_257 rfl hl (by decide) rfl (fun ls hl => ?_)
    exact w_Mo_step_258 o C0 q (0 : Int32) h H locs ls hw (lv_sub hl [1, 0] rfl)
  · have h := ok_f h c13
    refine lv_aload_n hx hb d_Mo_step_238 rfl (lv_at hl 0 rfl) ?_
    refine gfM_0_r C0 hw fl_Mo_14 d_Mo_step_239 ?_
    refine lv_iload_n hx hb d_Mo_step_242 rfl (lv_at hl 1 rfl) ?_
    refine lv_aload_n hx hb d_Mo_step_243 rfl (lv_at hl 0 rfl) ?_
    refine gfM_0_old C0 hw fl_Mo_18 d_Mo_step_244 ?_
    refine lv_iload_n hx hb d_Mo_step_247 rfl (lv_at hl 1 rfl) ?_
    obtain ⟨b19, h⟩ := ok_g h
    refine alM_3 C0 hw b19 d_Mo_step_248 ?_
    obtain ⟨b20, h⟩ := ok_g h
    refine asM_2 C0 hw b20 d_Mo_step_249 (fun H locs hw => ?_)
    obtain ⟨q21, eq21, h⟩ := ok_n h
    rw [← eq21] at hw
    obtain ⟨n22, en22, h⟩ := ok_n h
    refine lv_iinc (v := n22) (lv' := [(1, .int n22), (0, .ref (ad 0))]) hx hb d_Mo_step_250 hl (k := 1) rfl (by rw [en22]; rfl) (by decide) rfl (fun ls hl => ?_)
    refine lv_goto (tgt := 232) hx hb d_Mo_step_253 (by decide) ?_
    exact hi232 (n22, q21) h H locs ls hw (lv_sub hl [1, 0] rfl)
theorem w_Mo_step_232 {p : Program} {l : Launch} {e : Env} {s : State} {m : MethodId} {args : Array Value} {below : List Frame} {meth : Method} {c : Code} {D : va_G} {A : Nat → Prop} {ad : Nat → Nat} {ca : Nat → ClassId} (o : (Int32 × z_Sg)) (C0 : z_cx z_RMo b_Mo_step 2 (some .int) D (z_Mt ca) A p s m args meth c) (q : z_Sg) (x1 : Int32) (h : k_Mo_step_232 x1 q = some o) : ∀ (H : Heap) (locs : List Loc) (ls : Array Slot), z_wd D (z_M ad ca q) A s H locs → lv_has ls 2 [(0, .ref (ad 0)), (1, .int x1)] → W p l e (z_rm 6 148) s m args below meth c H locs 0 0 (z_qi below D (z_Mt ca) (z_M ad ca o.2) A s args o.1) (F0 m 232 ls []) := by
  have key : ∀ (n : Nat) (a : Int32 × z_Sg), z_lo (fun ih232 a => kb_Mo_step_232 ih232 a.1 a.2) n a = some o → ∀ (H : Heap) (locs : List Loc) (ls : Array Slot), z_wd D (z_M ad ca a.2) A s H locs → lv_has ls 2 [(0, .ref (ad 0)), (1, .int a.1)] → W p l e (z_rm 6 148) s m args below meth c H locs 0 0 (z_qi below D (z_Mt ca) (z_M ad ca o.2) A s args o.1) (F0 m 232 ls []) := by
    intro n
    induction n with
    | zero => intro a h; cases h
    | succ n ih => exact fun a h => wb_Mo_step_232 o C0 a.2 (z_lo (fun ih232 a => kb_Mo_step_232 ih232 a.1 a.2) n) ih a.1 h
  exact key 2000 (x1, q) h
set_option maxHeartbeats 4000000 in
set_option maxRecDepth 100000 in
theorem w_Mo_step_214 {p : Program} {l : Launch} {e : Env} {s : State} {m : MethodId} {args : Array Value} {below : List Frame} {meth : Method} {c : Code} {D : va_G} {A : Nat → Prop} {ad : Nat → Nat} {ca : Nat → ClassId} (o : (Int32 × z_Sg)) (C0 : z_cx z_RMo b_Mo_step 2 (some .int) D (z_Mt ca) A p s m args meth c) (q : z_Sg) (ih174 : Int32 × z_Sg → Option (Int32 × z_Sg)) (hi174 : ∀ a : Int32 × z_Sg, ih174 a = some o → ∀ (H : Heap) (locs : List Loc) (ls : Array Slot), z_wd D (z_M ad ca a.2) A s H locs → lv_has ls 2 [(0, .ref (ad 0)), (1, .int a.1)] → W p l e (z_rm 6 148) s m args below meth c H locs 0 0 (z_qi below D (z_Mt ca) (z_M ad ca o.2) A s args o.1) (F0 m 174 ls [])) (x1 : Int32) (h : k_Mo_step_214 ih174 x1 q = some o) : ∀ (H : Heap) (locs : List Loc) (ls : Array Slot), z_wd D (z_M ad ca q) A s H locs → lv_has ls 2 [(0, .ref (ad 0)), (1, .int x1)] → W p l e (z_rm 6 148) s m args below meth c H locs 0 0 (z_qi below D (z_Mt ca) (z_M ad ca o.2) A s args o.1) (F0 m 214 ls []) := by
  obtain ⟨hx, hb, hr, hlk, hml, hown, hts, hK, hA⟩ := id C0
  intro H locs ls hw hl
  obtain ⟨n27, en27, h⟩ := ok_n h
  refine lv_iinc (v := n27) (lv' := [(1, .int n27), (0, .ref (ad 0))]) hx hb d_Mo_step_214 hl (k := 1) rfl (by rw [en27]; rfl) (by decide) rfl (fun ls hl => ?_)
  refine lv_goto (tgt := 174) hx hb d_Mo_step_217 (by decide) ?_
  exact hi174 (n27, q) h H locs ls hw (lv_sub hl [1, 0] rfl)
set_option maxHeartbeats 4000000 in
set_option maxRecDepth 100000 in
theorem wb_Mo_step_174 {p : Program} {l : Launch} {e : Env} {s : State} {m : MethodId} {args : Array Value} {below : List Frame} {meth : Method} {c : Code} {D : va_G} {A : Nat → Prop} {ad : Nat → Nat} {ca : Nat → ClassId} (o : (Int32 × z_Sg)) (C0 : z_cx z_RMo b_Mo_step 2 (some .int) D (z_Mt ca) A p s m args meth c) (q : z_Sg) (ih174 : Int32 × z_Sg → Option (Int32 × z_Sg)) (hi174 : ∀ a : Int32 × z_Sg, ih174 a = some o → ∀ (H : Heap) (locs : List Loc) (ls : Array Slot), z_wd D (z_M ad ca a.2) A s H locs → lv_has ls 2 [(0, .ref (ad 0)), (1, .int a.1)] → W p l e (z_rm 6 148) s m args below meth c H locs 0 0 (z_qi below D (z_Mt ca) (z_M ad ca o.2) A s args o.1) (F0 m 174 ls [])) (x1 : Int32) (h : kb_Mo_step_174 ih174 x1 q = some o) : ∀ (H : Heap) (locs : List Loc) (ls : Array Slot), z_wd D (z_M ad ca q) A s H locs → lv_has ls 2 [(0, .ref (ad 0)), (1, .int x1)] → W p l e (z_rm 6 148) s m args below meth c H locs 0 0 (z_qi below D (z_Mt ca) (z_M ad ca o.2) A s args o.1) (F0 m 174 ls []) := by
  obtain ⟨hx, hb, hr, hlk, hml, hown, hts, hK, hA⟩ := id C0
  intro H locs ls hw hl
  refine lv_iload_n hx hb d_Mo_step_174 rfl (lv_at hl 1 rfl) ?_
  refine lv_aload_n hx hb d_Mo_step_175 rfl (lv_at hl 0 rfl) ?_
  refine gfM_0_waits C0 hw fl_Mo_103 d_Mo_step_176 ?_
  refine lv_icmp_ge (tgt := 220) hx hb d_Mo_step_179 (by decide) (fun c24 => ?_) (fun c24 => ?_)
  · have h := ok_t h c24
    refine lv_iconst (v := (-1 : Int32)) hx hb d_Mo_step_220 (by decide) ?_
    have ho := Option.some.inj h
    subst ho
    exact z_rti C0 hw d_Mo_step_221
  · have h := ok_f h c24
    refine lv_aload_n hx hb d_Mo_step_182 rfl (lv_at hl 0 rfl) ?_
    refine gfM_0_waitAt C0 hw fl_Mo_32 d_Mo_step_183 ?_
    refine lv_iload_n hx hb d_Mo_step_186 rfl (lv_at hl 1 rfl) ?_
    obtain ⟨b25, h⟩ := ok_g h
    refine alM_6 C0 hw b25 d_Mo_step_187 ?_
    refine lv_ldc2 (own := z_RMo) hx hb hown (hts _ kl_Mo_42) d_Mo_step_188 ?_
    refine W.lcmp hx hb d_Mo_step_191 ?_
    refine lv_if_ge (tgt := 214) hx hb d_Mo_step_192 (by decide) (fun c26 => ?_) (fun c26 => ?_)
    · have h := ok_t h ((lg_cmp_ge _ _).mp c26)
      exact w_Mo_step_214 o C0 q ih174 hi174 x1 h H locs ls hw (lv_sub hl [0, 1] rfl)
    · have h := ok_f h (fun z => c26 ((lg_cmp_ge _ _).mpr z))
      refine lv_aload_n hx hb d_Mo_step_195 rfl (lv_at hl 0 rfl) ?_
      refine gfM_0_memory C0 hw fl_Mo_8 d_Mo_step_196 ?_
      refine lv_aload_n hx hb d_Mo_step_199 rfl (lv_at hl 0 rfl) ?_
      refine gfM_0_waitAt C0 hw fl_Mo_32 d_Mo_step_200 ?_
      refine lv_iload_n hx hb d_Mo_step_203 rfl (lv_at hl 1 rfl) ?_
      obtain ⟨b28, h⟩ := ok_g h
      refine alM_6 C0 hw b28 d_Mo_step_204 ?_
      refine lv_l2i hx hb d_Mo_step_205 rfl ?_
      refine lv_aload_n hx hb d_Mo_step_206 rfl (lv_at hl 0 rfl) ?_
      refine gfM_0_waitByte C0 hw fl_Mo_35 d_Mo_step_207 ?_
      refine lv_iload_n hx hb d_Mo_step_210 rfl (lv_at hl 1 rfl) ?_
      obtain ⟨b29, h⟩ := ok_g h
      refine alM_7 C0 hw b29 d_Mo_step_211 ?_
      refine lv_i2b hx hb d_Mo_step_212 rfl ?_
      obtain ⟨b30, h⟩ := ok_g h
      refine asM_1 C0 hw b30 d_Mo_step_213 (fun H locs hw => ?_)
      obtain ⟨q31, eq31, h⟩ := ok_n h
      rw [← eq31] at hw
      exact w_Mo_step_214 o C0 q31 ih174 hi174 x1 h H locs ls hw (lv_sub hl [0, 1] rfl)
theorem w_Mo_step_174 {p : Program} {l : Launch} {e : Env} {s : State} {m : MethodId} {args : Array Value} {below : List Frame} {meth : Method} {c : Code} {D : va_G} {A : Nat → Prop} {ad : Nat → Nat} {ca : Nat → ClassId} (o : (Int32 × z_Sg)) (C0 : z_cx z_RMo b_Mo_step 2 (some .int) D (z_Mt ca) A p s m args meth c) (q : z_Sg) (x1 : Int32) (h : k_Mo_step_174 x1 q = some o) : ∀ (H : Heap) (locs : List Loc) (ls : Array Slot), z_wd D (z_M ad ca q) A s H locs → lv_has ls 2 [(0, .ref (ad 0)), (1, .int x1)] → W p l e (z_rm 6 148) s m args below meth c H locs 0 0 (z_qi below D (z_Mt ca) (z_M ad ca o.2) A s args o.1) (F0 m 174 ls []) := by
  have key : ∀ (n : Nat) (a : Int32 × z_Sg), z_lo (fun ih174 a => kb_Mo_step_174 ih174 a.1 a.2) n a = some o → ∀ (H : Heap) (locs : List Loc) (ls : Array Slot), z_wd D (z_M ad ca a.2) A s H locs → lv_has ls 2 [(0, .ref (ad 0)), (1, .int a.1)] → W p l e (z_rm 6 148) s m args below meth c H locs 0 0 (z_qi below D (z_Mt ca) (z_M ad ca o.2) A s args o.1) (F0 m 174 ls []) := by
    intro n
    induction n with
    | zero => intro a h; cases h
    | succ n ih => exact fun a h => wb_Mo_step_174 o C0 a.2 (z_lo (fun ih174 a => kb_Mo_step_174 ih174 a.1 a.2) n) ih a.1 h
  exact key 2000 (x1, q) h
set_option maxHeartbeats 4000000 in
set_option maxRecDepth 100000 in
theorem w_Mo_step_156 {p : Program} {l : Launch} {e : Env} {s : State} {m : MethodId} {args : Array Value} {below : List Frame} {meth : Method} {c : Code} {D : va_G} {A : Nat → Prop} {ad : Nat → Nat} {ca : Nat → ClassId} (o : (Int32 × z_Sg)) (C0 : z_cx z_RMo b_Mo_step 2 (some .int) D (z_Mt ca) A p s m args meth c) (q : z_Sg) (h : k_Mo_step_156 q = some o) : ∀ (H : Heap) (locs : List Loc) (ls : Array Slot), z_wd D (z_M ad ca q) A s H locs → lv_has ls 2 [(0, .ref (ad 0))] → W p l e (z_rm 6 148) s m args below meth c H locs 0 0 (z_qi below D (z_Mt ca) (z_M ad ca o.2) A s args o.1) (F0 m 156 ls []) := by
  obtain ⟨hx, hb, hr, hlk, hml, hown, hts, hK, hA⟩ := id C0
  intro H locs ls hw hl
  refine lv_aload_n hx hb d_Mo_step_156 rfl (lv_at hl 0 rfl) ?_
  refine gfM_0_refused C0 hw fl_Mo_28 d_Mo_step_157 ?_
  refine lv_iconst (v := (-1 : Int32)) hx hb d_Mo_step_160 (by decide) ?_
  refine lv_icmp_ne (tgt := 222) hx hb d_Mo_step_161 (by decide) (fun c10 => ?_) (fun c10 => ?_)
  · have h := ok_f h c10
    refine lv_aload_n hx hb d_Mo_step_222 rfl (lv_at hl 0 rfl) ?_
    refine lv_aload_n hx hb d_Mo_step_223 rfl (lv_at hl 0 rfl) ?_
    refine gfM_0_oldUser C0 hw fl_Mo_229 d_Mo_step_224 ?_
    obtain ⟨b11, h⟩ := ok_G h
    refine pfM_0_user C0 hw b11 fl_Mo_48 d_Mo_step_227 (fun H locs hw => ?_)
    obtain ⟨q12, eq12, h⟩ := ok_n h
    rw [← eq12] at hw
    refine lv_iconst (v := (0 : Int32)) hx hb d_Mo_step_230 (by decide) ?_
    refine lv_istore_n (lv' := [(1, .int (0 : Int32)), (0, .ref (ad 0))]) hx hb d_Mo_step_231 rfl hl (by decide) rfl (fun ls hl => ?_)
    exact w_Mo_step_232 o C0 q12 (0 : Int32) h H locs ls hw (lv_sub hl [1, 0] rfl)
  · have h := ok_t h c10
    refine lv_aload_n hx hb d_Mo_step_164 rfl (lv_at hl 0 rfl) ?_
    refine lv_aload_n hx hb d_Mo_step_165 rfl (lv_at hl 0 rfl) ?_
    refine gfM_0_goes C0 hw fl_Mo_173 d_Mo_step_166 ?_
    refine pfM_0_next C0 hw fl_Mo_111 d_Mo_step_169 (fun H locs hw => ?_)
    obtain ⟨q23, eq23, h⟩ := ok_n h
    rw [← eq23] at hw
    refine lv_iconst (v := (0 : Int32)) hx hb d_Mo_step_172 (by decide) ?_
    refine lv_istore_n (lv' := [(1, .int (0 : Int32)), (0, .ref (ad 0))]) hx hb d_Mo_step_173 rfl hl (by decide) rfl (fun ls hl => ?_)
    exact w_Mo_step_174 o C0 q23 (0 : Int32) h H locs ls hw (lv_sub hl [1, 0] rfl)
set_option maxHeartbeats 4000000 in
set_option maxRecDepth 100000 in
theorem w_Mo_step_153 {p : Program} {l : Launch} {e : Env} {s : State} {m : MethodId} {args : Array Value} {below : List Frame} {meth : Method} {c : Code} {D : va_G} {A : Nat → Prop} {ad : Nat → Nat} {ca : Nat → ClassId} (o : (Int32 × z_Sg)) (C0 : z_cx z_RMo b_Mo_step 2 (some .int) D (z_Mt ca) A p s m args meth c) (q : z_Sg) (t1 : Int32) (t2 : Int32) (h : k_Mo_step_153 t1 t2 q = some o) : ∀ (H : Heap) (locs : List Loc) (ls : Array Slot), z_wd D (z_M ad ca q) A s H locs → lv_has ls 2 [(0, .ref (ad 0))] → W p l e (z_rm 6 148) s m args below meth c H locs 0 0 (z_qi below D (z_Mt ca) (z_M ad ca o.2) A s args o.1) (F0 m 153 ls [.int t2, .int t1, .ref (ad 0)]) := by
  obtain ⟨hx, hb, hr, hlk, hml, hown, hts, hK, hA⟩ := id C0
  intro H locs ls hw hl
  cases h
set_option maxHeartbeats 4000000 in
set_option maxRecDepth 100000 in
theorem w_Mo_step_125 {p : Program} {l : Launch} {e : Env} {s : State} {m : MethodId} {args : Array Value} {below : List Frame} {meth : Method} {c : Code} {D : va_G} {A : Nat → Prop} {ad : Nat → Nat} {ca : Nat → ClassId} (o : (Int32 × z_Sg)) (C0 : z_cx z_RMo b_Mo_step 2 (some .int) D (z_Mt ca) A p s m args meth c) (q : z_Sg) (t1 : Int32) (t2 : Int32) (h : k_Mo_step_125 t1 t2 q = some o) : ∀ (H : Heap) (locs : List Loc) (ls : Array Slot), z_wd D (z_M ad ca q) A s H locs → lv_has ls 2 [(0, .ref (ad 0))] → W p l e (z_rm 6 148) s m args below meth c H locs 0 0 (z_qi below D (z_Mt ca) (z_M ad ca o.2) A s args o.1) (F0 m 125 ls [.int t2, .int t1, .ref (ad 0)]) := by
  obtain ⟨hx, hb, hr, hlk, hml, hown, hts, hK, hA⟩ := id C0
  intro H locs ls hw hl
  cases h
set_option maxHeartbeats 4000000 in
set_option maxRecDepth 100000 in
theorem wb_Mo_step_46 {p : Program} {l : Launch} {e : Env} {s : State} {m : MethodId} {args : Array Value} {below : List Frame} {meth : Method} {c : Code} {D : va_G} {A : Nat → Prop} {ad : Nat → Nat} {ca : Nat → ClassId} (o : (Int32 × z_Sg)) (C0 : z_cx z_RMo b_Mo_step 2 (some .int) D (z_Mt ca) A p s m args meth c) (q : z_Sg) (ih46 : Int32 × z_Sg → Option (Int32 × z_Sg)) (hi46 : ∀ a : Int32 × z_Sg, ih46 a = some o → ∀ (H : Heap) (locs : List Loc) (ls : Array Slot), z_wd D (z_M ad ca a.2) A s H locs → lv_has ls 2 [(0, .ref (ad 0)), (1, .int a.1)] → W p l e (z_rm 6 148) s m args below meth c H locs 0 0 (z_qi below D (z_Mt ca) (z_M ad ca o.2) A s args o.1) (F0 m 46 ls [])) (x1 : Int32) (h : kb_Mo_step_46 ih46 x1 q = some o) : ∀ (H : Heap) (locs : List Loc) (ls : Array Slot), z_wd D (z_M ad ca q) A s H locs → lv_has ls 2 [(0, .ref (ad 0)), (1, .int x1)] → W p l e (z_rm 6 148) s m args below meth c H locs 0 0 (z_qi below D (z_Mt ca) (z_M ad ca o.2) A s args o.1) (F0 m 46 ls []) := by
  obtain ⟨hx, hb, hr, hlk, hml, hown, hts, hK, hA⟩ := id C0
  intro H locs ls hw hl
  refine lv_iload_n hx hb d_Mo_step_46 rfl (lv_at hl 1 rfl) ?_
  refine lv_bipush (v := (7 : Int32)) hx hb d_Mo_step_47 (by decide) ?_
  refine lv_icmp_ge (tgt := 70) hx hb d_Mo_step_49 (by decide) (fun c6 => ?_) (fun c6 => ?_)
  · have h := ok_t h c6
    refine lv_aload_n hx hb d_Mo_step_70 rfl (lv_at hl 0 rfl) ?_
    obtain ⟨r7, er7, h⟩ := ok_b h
    refine z_vv (rest := []) C0 hw (c_Mo_open q r7 er7) mw_Mo_open ml_Mo_232 0 rfl ⟨Nat.le_of_ble_eq_true rfl, Nat.le_of_ble_eq_true rfl⟩ ⟨Nat.le_refl 0, Nat.le_refl 0⟩ rfl hl.1 rfl (Nat.le_of_ble_eq_true rfl) d_Mo_step_71 (fun H locs hw => ?_)
    refine lv_aload_n hx hb d_Mo_step_74 rfl (lv_at hl 0 rfl) ?_
    refine lv_aload_n hx hb d_Mo_step_75 rfl (lv_at hl 0 rfl) ?_
    refine gfM_0_next C0 hw fl_Mo_111 d_Mo_step_76 ?_
    refine lv_aload_n hx hb d_Mo_step_79 rfl (lv_at hl 0 rfl) ?_
    refine gfM_0_length C0 hw fl_Mo_108 d_Mo_step_80 ?_
    refine lv_i2l hx hb d_Mo_step_83 rfl ?_
    refine lv_ladd hx hb d_Mo_step_84 ?_
    refine pfM_0_goes C0 hw fl_Mo_173 d_Mo_step_85 (fun H locs hw => ?_)
    obtain ⟨q8, eq8, h⟩ := ok_n h
    rw [← eq8] at hw
    refine lv_aload_n hx hb d_Mo_step_88 rfl (lv_at hl 0 rfl) ?_
    refine gfM_0_refused C0 hw fl_Mo_28 d_Mo_step_89 ?_
    refine lv_iconst (v := (-1 : Int32)) hx hb d_Mo_step_92 (by decide) ?_
    refine lv_icmp_ne (tgt := 156) hx hb d_Mo_step_93 (by decide) (fun c9 => ?_) (fun c9 => ?_)
    · have h := ok_f h c9
      exact w_Mo_step_156 o C0 q8 h H locs ls hw (lv_sub hl [0] rfl)
    · have h := ok_t h c9
      refine lv_aload_n hx hb d_Mo_step_96 rfl (lv_at hl 0 rfl) ?_
      refine gfM_0_two C0 hw fl_Mo_130 d_Mo_step_97 ?_
      refine lv_if_eq (tgt := 131) hx hb d_Mo_step_100 (by decide) (fun c32 => ?_) (fun c32 => ?_)
      · have h := ok_t h c32
        refine lv_aload_n hx hb d_Mo_step_131 rfl (lv_at hl 0 rfl) ?_
        refine lv_aload_n hx hb d_Mo_step_132 rfl (lv_at hl 0 rfl) ?_
        refine gfM_0_opcode C0 hw fl_Mo_133 d_Mo_step_133 ?_
        refine lv_aload_n hx hb d_Mo_step_136 rfl (lv_at hl 0 rfl) ?_
        refine gfM_0_opcode C0 hw fl_Mo_133 d_Mo_step_137 ?_
        refine lv_iconst (v := (1 : Int32)) hx hb d_Mo_step_140 (by decide) ?_
        refine lv_iand hx hb d_Mo_step_141 ?_
        refine lv_if_ne (tgt := 149) hx hb d_Mo_step_142 (by decide) (fun c33 => ?_) (fun c33 => ?_)
        · have h := ok_f h c33
          refine lv_aload_n hx hb d_Mo_step_149 rfl (lv_at hl 0 rfl) ?_
          cases h
        · have h := ok_t h c33
          refine lv_iconst (v := (1 : Int32)) hx hb d_Mo_step_145 (by decide) ?_
          refine lv_goto (tgt := 153) hx hb d_Mo_step_146 (by decide) ?_
          exact w_Mo_step_153 o C0 q8 (z_gI q8 15) (1 : Int32) h H locs ls hw (lv_sub hl [0] rfl)
      · have h := ok_f h c32
        refine lv_aload_n hx hb d_Mo_step_103 rfl (lv_at hl 0 rfl) ?_
        refine lv_aload_n hx hb d_Mo_step_104 rfl (lv_at hl 0 rfl) ?_
        refine gfM_0_opcode C0 hw fl_Mo_133 d_Mo_step_105 ?_
        refine lv_aload_n hx hb d_Mo_step_108 rfl (lv_at hl 0 rfl) ?_
        refine gfM_0_opcode C0 hw fl_Mo_133 d_Mo_step_109 ?_
        refine lv_iconst (v := (1 : Int32)) hx hb d_Mo_step_112 (by decide) ?_
        refine lv_iand hx hb d_Mo_step_113 ?_
        refine lv_if_ne (tgt := 121) hx hb d_Mo_step_114 (by decide) (fun c34 => ?_) (fun c34 => ?_)
        · have h := ok_f h c34
          refine lv_aload_n hx hb d_Mo_step_121 rfl (lv_at hl 0 rfl) ?_
          cases h
        · have h := ok_t h c34
          refine lv_iconst (v := (1 : Int32)) hx hb d_Mo_step_117 (by decide) ?_
          refine lv_goto (tgt := 125) hx hb d_Mo_step_118 (by decide) ?_
          exact w_Mo_step_125 o C0 q8 (z_gI q8 15) (1 : Int32) h H locs ls hw (lv_sub hl [0] rfl)
  · have h := ok_f h c6
    refine lv_aload_n hx hb d_Mo_step_52 rfl (lv_at hl 0 rfl) ?_
    refine gfM_0_oldFlag C0 hw fl_Mo_25 d_Mo_step_53 ?_
    refine lv_iload_n hx hb d_Mo_step_56 rfl (lv_at hl 1 rfl) ?_
    refine lv_aload_n hx hb d_Mo_step_57 rfl (lv_at hl 0 rfl) ?_
    refine gfM_0_flag C0 hw fl_Mo_21 d_Mo_step_58 ?_
    refine lv_iload_n hx hb d_Mo_step_61 rfl (lv_at hl 1 rfl) ?_
    obtain ⟨b35, h⟩ := ok_g h
    refine alM_4 C0 hw b35 d_Mo_step_62 ?_
    obtain ⟨b36, h⟩ := ok_g h
    refine asM_5 C0 hw b36 d_Mo_step_63 (fun H locs hw => ?_)
    obtain ⟨q37, eq37, h⟩ := ok_n h
    rw [← eq37] at hw
    obtain ⟨n38, en38, h⟩ := ok_n h
    refine lv_iinc (v := n38) (lv' := [(1, .int n38), (0, .ref (ad 0))]) hx hb d_Mo_step_64 hl (k := 1) rfl (by rw [en38]; rfl) (by decide) rfl (fun ls hl => ?_)
    refine lv_goto (tgt := 46) hx hb d_Mo_step_67 (by decide) ?_
    exact hi46 (n38, q37) h H locs ls hw (lv_sub hl [1, 0] rfl)
theorem w_Mo_step_46 {p : Program} {l : Launch} {e : Env} {s : State} {m : MethodId} {args : Array Value} {below : List Frame} {meth : Method} {c : Code} {D : va_G} {A : Nat → Prop} {ad : Nat → Nat} {ca : Nat → ClassId} (o : (Int32 × z_Sg)) (C0 : z_cx z_RMo b_Mo_step 2 (some .int) D (z_Mt ca) A p s m args meth c) (q : z_Sg) (x1 : Int32) (h : k_Mo_step_46 x1 q = some o) : ∀ (H : Heap) (locs : List Loc) (ls : Array Slot), z_wd D (z_M ad ca q) A s H locs → lv_has ls 2 [(0, .ref (ad 0)), (1, .int x1)] → W p l e (z_rm 6 148) s m args below meth c H locs 0 0 (z_qi below D (z_Mt ca) (z_M ad ca o.2) A s args o.1) (F0 m 46 ls []) := by
  have key : ∀ (n : Nat) (a : Int32 × z_Sg), z_lo (fun ih46 a => kb_Mo_step_46 ih46 a.1 a.2) n a = some o → ∀ (H : Heap) (locs : List Loc) (ls : Array Slot), z_wd D (z_M ad ca a.2) A s H locs → lv_has ls 2 [(0, .ref (ad 0)), (1, .int a.1)] → W p l e (z_rm 6 148) s m args below meth c H locs 0 0 (z_qi below D (z_Mt ca) (z_M ad ca o.2) A s args o.1) (F0 m 46 ls []) := by
    intro n
    induction n with
    | zero => intro a h; cases h
    | succ n ih => exact fun a h => wb_Mo_step_46 o C0 a.2 (z_lo (fun ih46 a => kb_Mo_step_46 ih46 a.1 a.2) n) ih a.1 h
  exact key 2000 (x1, q) h
set_option maxHeartbeats 4000000 in
set_option maxRecDepth 100000 in
theorem wb_Mo_step_20 {p : Program} {l : Launch} {e : Env} {s : State} {m : MethodId} {args : Array Value} {below : List Frame} {meth : Method} {c : Code} {D : va_G} {A : Nat → Prop} {ad : Nat → Nat} {ca : Nat → ClassId} (o : (Int32 × z_Sg)) (C0 : z_cx z_RMo b_Mo_step 2 (some .int) D (z_Mt ca) A p s m args meth c) (q : z_Sg) (ih20 : Int32 × z_Sg → Option (Int32 × z_Sg)) (hi20 : ∀ a : Int32 × z_Sg, ih20 a = some o → ∀ (H : Heap) (locs : List Loc) (ls : Array Slot), z_wd D (z_M ad ca a.2) A s H locs → lv_has ls 2 [(0, .ref (ad 0)), (1, .int a.1)] → W p l e (z_rm 6 148) s m args below meth c H locs 0 0 (z_qi below D (z_Mt ca) (z_M ad ca o.2) A s args o.1) (F0 m 20 ls [])) (x1 : Int32) (h : kb_Mo_step_20 ih20 x1 q = some o) : ∀ (H : Heap) (locs : List Loc) (ls : Array Slot), z_wd D (z_M ad ca q) A s H locs → lv_has ls 2 [(0, .ref (ad 0)), (1, .int x1)] → W p l e (z_rm 6 148) s m args below meth c H locs 0 0 (z_qi below D (z_Mt ca) (z_M ad ca o.2) A s args o.1) (F0 m 20 ls []) := by
  obtain ⟨hx, hb, hr, hlk, hml, hown, hts, hK, hA⟩ := id C0
  intro H locs ls hw hl
  refine lv_iload_n hx hb d_Mo_step_20 rfl (lv_at hl 1 rfl) ?_
  refine lv_bipush (v := (16 : Int32)) hx hb d_Mo_step_21 (by decide) ?_
  refine lv_icmp_ge (tgt := 44) hx hb d_Mo_step_23 (by decide) (fun c5 => ?_) (fun c5 => ?_)
  · have h := ok_t h c5
    refine lv_iconst (v := (0 : Int32)) hx hb d_Mo_step_44 (by decide) ?_
    refine lv_istore_n (lv' := [(1, .int (0 : Int32)), (0, .ref (ad 0))]) hx hb d_Mo_step_45 rfl hl (by decide) rfl (fun ls hl => ?_)
    exact w_Mo_step_46 o C0 q (0 : Int32) h H locs ls hw (lv_sub hl [1, 0] rfl)
  · have h := ok_f h c5
    refine lv_aload_n hx hb d_Mo_step_26 rfl (lv_at hl 0 rfl) ?_
    refine gfM_0_old C0 hw fl_Mo_18 d_Mo_step_27 ?_
    refine lv_iload_n hx hb d_Mo_step_30 rfl (lv_at hl 1 rfl) ?_
    refine lv_aload_n hx hb d_Mo_step_31 rfl (lv_at hl 0 rfl) ?_
    refine gfM_0_r C0 hw fl_Mo_14 d_Mo_step_32 ?_
    refine lv_iload_n hx hb d_Mo_step_35 rfl (lv_at hl 1 rfl) ?_
    obtain ⟨b39, h⟩ := ok_g h
    refine alM_2 C0 hw b39 d_Mo_step_36 ?_
    obtain ⟨b40, h⟩ := ok_g h
    refine asM_3 C0 hw b40 d_Mo_step_37 (fun H locs hw => ?_)
    obtain ⟨q41, eq41, h⟩ := ok_n h
    rw [← eq41] at hw
    obtain ⟨n42, en42, h⟩ := ok_n h
    refine lv_iinc (v := n42) (lv' := [(1, .int n42), (0, .ref (ad 0))]) hx hb d_Mo_step_38 hl (k := 1) rfl (by rw [en42]; rfl) (by decide) rfl (fun ls hl => ?_)
    refine lv_goto (tgt := 20) hx hb d_Mo_step_41 (by decide) ?_
    exact hi20 (n42, q41) h H locs ls hw (lv_sub hl [1, 0] rfl)
theorem w_Mo_step_20 {p : Program} {l : Launch} {e : Env} {s : State} {m : MethodId} {args : Array Value} {below : List Frame} {meth : Method} {c : Code} {D : va_G} {A : Nat → Prop} {ad : Nat → Nat} {ca : Nat → ClassId} (o : (Int32 × z_Sg)) (C0 : z_cx z_RMo b_Mo_step 2 (some .int) D (z_Mt ca) A p s m args meth c) (q : z_Sg) (x1 : Int32) (h : k_Mo_step_20 x1 q = some o) : ∀ (H : Heap) (locs : List Loc) (ls : Array Slot), z_wd D (z_M ad ca q) A s H locs → lv_has ls 2 [(0, .ref (ad 0)), (1, .int x1)] → W p l e (z_rm 6 148) s m args below meth c H locs 0 0 (z_qi below D (z_Mt ca) (z_M ad ca o.2) A s args o.1) (F0 m 20 ls []) := by
  have key : ∀ (n : Nat) (a : Int32 × z_Sg), z_lo (fun ih20 a => kb_Mo_step_20 ih20 a.1 a.2) n a = some o → ∀ (H : Heap) (locs : List Loc) (ls : Array Slot), z_wd D (z_M ad ca a.2) A s H locs → lv_has ls 2 [(0, .ref (ad 0)), (1, .int a.1)] → W p l e (z_rm 6 148) s m args below meth c H locs 0 0 (z_qi below D (z_Mt ca) (z_M ad ca o.2) A s args o.1) (F0 m 20 ls []) := by
    intro n
    induction n with
    | zero => intro a h; cases h
    | succ n ih => exact fun a h => wb_Mo_step_20 o C0 a.2 (z_lo (fun ih20 a => kb_Mo_step_20 ih20 a.1 a.2) n) ih a.1 h
  exact key 2000 (x1, q) h
set_option maxHeartbeats 4000000 in
set_option maxRecDepth 100000 in
theorem c_Mo_step {l : Launch} {D : va_G} {ad : Nat → Nat} {ca : Nat → ClassId} (q : z_Sg) (o : (Int32 × z_Sg)) (h : f_Mo_step q = some o) : z_ci l y_Mo_step b_Mo_step 2 (some .int) 6 148 D (z_Mt ca) (z_M ad ca q) (z_M ad ca o.2) [.ref (ad 0)] o.1 := by
  refine z_ci_of (own := z_RMo) (by decide) rfl ?_
  intro p e s m below meth c A C0 hw
  obtain ⟨hx, hb, hr, hlk, hml, hown, hts, hK, hA⟩ := id C0
  generalize hH : s.heap = H at hw ⊢
  generalize hlo : ([] : List Loc) = locs at hw ⊢
  refine z_entry (lv := [(0, .ref (ad 0))]) (Nat.le_of_ble_eq_true rfl) rfl (fun ls hl => ?_)
  unfold f_Mo_step at h
  refine lv_aload_n hx hb d_Mo_step_0 rfl (lv_at hl 0 rfl) ?_
  refine lv_iconst (v := (-1 : Int32)) hx hb d_Mo_step_1 (by decide) ?_
  refine pfM_0_refused C0 hw fl_Mo_28 d_Mo_step_2 (fun H locs hw => ?_)
  obtain ⟨q1, eq1, h⟩ := ok_n h
  rw [← eq1] at hw
  refine lv_aload_n hx hb d_Mo_step_5 rfl (lv_at hl 0 rfl) ?_
  refine lv_iconst (v := (0 : Int32)) hx hb d_Mo_step_6 (by decide) ?_
  refine pfM_0_waits C0 hw fl_Mo_103 d_Mo_step_7 (fun H locs hw => ?_)
  obtain ⟨q2, eq2, h⟩ := ok_n h
  rw [← eq2] at hw
  refine lv_aload_n hx hb d_Mo_step_10 rfl (lv_at hl 0 rfl) ?_
  refine lv_aload_n hx hb d_Mo_step_11 rfl (lv_at hl 0 rfl) ?_
  refine gfM_0_user C0 hw fl_Mo_48 d_Mo_step_12 ?_
  obtain ⟨b3, h⟩ := ok_G h
  refine pfM_0_oldUser C0 hw b3 fl_Mo_229 d_Mo_step_15 (fun H locs hw => ?_)
  obtain ⟨q4, eq4, h⟩ := ok_n h
  rw [← eq4] at hw
  refine lv_iconst (v := (0 : Int32)) hx hb d_Mo_step_18 (by decide) ?_
  refine lv_istore_n (lv' := [(1, .int (0 : Int32)), (0, .ref (ad 0))]) hx hb d_Mo_step_19 rfl hl (by decide) rfl (fun ls hl => ?_)
  exact w_Mo_step_20 o C0 q4 (0 : Int32) h H locs ls hw (lv_sub hl [1, 0] rfl)
def k_Mo_run_11 (q : z_Sg) : Option (Int32 × z_Sg) :=
  some ((0 : Int32), q)
def kb_Mo_run_15 (ih15 : Int32 × Int32 × z_Sg → Option (Int32 × z_Sg)) (x1 : Int32) (x2 : Int32) (q : z_Sg) : Option (Int32 × z_Sg) :=
  if x1 ≤ x2 then (some (x2, q)) else ((f_Mo_step q).bind (fun r4 => if r4.1 = (-1 : Int32) then (z_nm (x2 + (1 : Int32)) (fun n6 => ih15 (x1, n6, r4.2))) else (some (x2, r4.2))))
def k_Mo_run_15 (x1 : Int32) (x2 : Int32) (q : z_Sg) : Option (Int32 × z_Sg) := z_lo (fun ih15 a => kb_Mo_run_15 ih15 a.1 a.2.1 a.2.2) 2000 (x1, x2, q)
def f_Mo_run (x1 : Int32) (q : z_Sg) : Option (Int32 × z_Sg) :=
  if x1 < 0 then (k_Mo_run_11 q) else (if x1 ≤ (1000 : Int32) then (k_Mo_run_15 x1 (0 : Int32) q) else (k_Mo_run_11 q))
set_option maxHeartbeats 4000000 in
set_option maxRecDepth 100000 in
theorem w_Mo_run_11 {p : Program} {l : Launch} {e : Env} {s : State} {m : MethodId} {args : Array Value} {below : List Frame} {meth : Method} {c : Code} {D : va_G} {A : Nat → Prop} {ad : Nat → Nat} {ca : Nat → ClassId} (o : (Int32 × z_Sg)) (C0 : z_cx z_RMo b_Mo_run 3 (some .int) D (z_Mt ca) A p s m args meth c) (q : z_Sg) (h : k_Mo_run_11 q = some o) : ∀ (H : Heap) (locs : List Loc) (ls : Array Slot), z_wd D (z_M ad ca q) A s H locs → lv_has ls 3 [] → W p l e (z_rm 7 169) s m args below meth c H locs 0 0 (z_qi below D (z_Mt ca) (z_M ad ca o.2) A s args o.1) (F0 m 11 ls []) := by
  obtain ⟨hx, hb, hr, hlk, hml, hown, hts, hK, hA⟩ := id C0
  intro H locs ls hw hl
  refine lv_iconst (v := (0 : Int32)) hx hb d_Mo_run_11 (by decide) ?_
  have ho := Option.some.inj h
  subst ho
  exact z_rti C0 hw d_Mo_run_12
set_option maxHeartbeats 4000000 in
set_option maxRecDepth 100000 in
theorem wb_Mo_run_15 {p : Program} {l : Launch} {e : Env} {s : State} {m : MethodId} {args : Array Value} {below : List Frame} {meth : Method} {c : Code} {D : va_G} {A : Nat → Prop} {ad : Nat → Nat} {ca : Nat → ClassId} (o : (Int32 × z_Sg)) (C0 : z_cx z_RMo b_Mo_run 3 (some .int) D (z_Mt ca) A p s m args meth c) (q : z_Sg) (ih15 : Int32 × Int32 × z_Sg → Option (Int32 × z_Sg)) (hi15 : ∀ a : Int32 × Int32 × z_Sg, ih15 a = some o → ∀ (H : Heap) (locs : List Loc) (ls : Array Slot), z_wd D (z_M ad ca a.2.2) A s H locs → lv_has ls 3 [(0, .ref (ad 0)), (1, .int a.1), (2, .int a.2.1)] → W p l e (z_rm 7 169) s m args below meth c H locs 0 0 (z_qi below D (z_Mt ca) (z_M ad ca o.2) A s args o.1) (F0 m 15 ls [])) (x1 : Int32) (x2 : Int32) (h : kb_Mo_run_15 ih15 x1 x2 q = some o) : ∀ (H : Heap) (locs : List Loc) (ls : Array Slot), z_wd D (z_M ad ca q) A s H locs → lv_has ls 3 [(0, .ref (ad 0)), (1, .int x1), (2, .int x2)] → W p l e (z_rm 7 169) s m args below meth c H locs 0 0 (z_qi below D (z_Mt ca) (z_M ad ca o.2) A s args o.1) (F0 m 15 ls []) := by
  obtain ⟨hx, hb, hr, hlk, hml, hown, hts, hK, hA⟩ := id C0
  intro H locs ls hw hl
  refine lv_iload_n hx hb d_Mo_run_15 rfl (lv_at hl 2 rfl) ?_
  refine lv_iload_n hx hb d_Mo_run_16 rfl (lv_at hl 1 rfl) ?_
  refine lv_icmp_ge (tgt := 36) hx hb d_Mo_run_17 (by decide) (fun c3 => ?_) (fun c3 => ?_)
  · have h := ok_t h c3
    refine lv_iload_n hx hb d_Mo_run_36 rfl (lv_at hl 2 rfl) ?_
    have ho := Option.some.inj h
    subst ho
    exact z_rti C0 hw d_Mo_run_37
  · have h := ok_f h c3
    refine lv_aload_n hx hb d_Mo_run_20 rfl (lv_at hl 0 rfl) ?_
    obtain ⟨r4, er4, h⟩ := ok_b h
    refine z_vi (rest := []) C0 hw (c_Mo_step q r4 er4) mw_Mo_step ml_Mo_466 0 rfl ⟨Nat.le_of_ble_eq_true rfl, Nat.le_of_ble_eq_true rfl⟩ ⟨Nat.le_refl 0, Nat.le_refl 0⟩ rfl hl.1 rfl (Nat.le_of_ble_eq_true rfl) d_Mo_run_21 (fun H locs hw => ?_)
    refine lv_iconst (v := (-1 : Int32)) hx hb d_Mo_run_24 (by decide) ?_
    refine lv_icmp_eq (tgt := 30) hx hb d_Mo_run_25 (by decide) (fun c5 => ?_) (fun c5 => ?_)
    · have h := ok_t h c5
      obtain ⟨n6, en6, h⟩ := ok_n h
      refine lv_iinc (v := n6) (lv' := [(2, .int n6), (0, .ref (ad 0)), (1, .int x1)]) hx hb d_Mo_run_30 hl (k := 2) rfl (by rw [en6]; rfl) (by decide) rfl (fun ls hl => ?_)
      refine lv_goto (tgt := 15) hx hb d_Mo_run_33 (by decide) ?_
      exact hi15 (x1, n6, r4.2) h H locs ls hw (lv_sub hl [1, 2, 0] rfl)
    · have h := ok_f h c5
      refine lv_iload_n hx hb d_Mo_run_28 rfl (lv_at hl 2 rfl) ?_
      have ho := Option.some.inj h
      subst ho
      exact z_rti C0 hw d_Mo_run_29
theorem w_Mo_run_15 {p : Program} {l : Launch} {e : Env} {s : State} {m : MethodId} {args : Array Value} {below : List Frame} {meth : Method} {c : Code} {D : va_G} {A : Nat → Prop} {ad : Nat → Nat} {ca : Nat → ClassId} (o : (Int32 × z_Sg)) (C0 : z_cx z_RMo b_Mo_run 3 (some .int) D (z_Mt ca) A p s m args meth c) (q : z_Sg) (x1 : Int32) (x2 : Int32) (h : k_Mo_run_15 x1 x2 q = some o) : ∀ (H : Heap) (locs : List Loc) (ls : Array Slot), z_wd D (z_M ad ca q) A s H locs → lv_has ls 3 [(0, .ref (ad 0)), (1, .int x1), (2, .int x2)] → W p l e (z_rm 7 169) s m args below meth c H locs 0 0 (z_qi below D (z_Mt ca) (z_M ad ca o.2) A s args o.1) (F0 m 15 ls []) := by
  have key : ∀ (n : Nat) (a : Int32 × Int32 × z_Sg), z_lo (fun ih15 a => kb_Mo_run_15 ih15 a.1 a.2.1 a.2.2) n a = some o → ∀ (H : Heap) (locs : List Loc) (ls : Array Slot), z_wd D (z_M ad ca a.2.2) A s H locs → lv_has ls 3 [(0, .ref (ad 0)), (1, .int a.1), (2, .int a.2.1)] → W p l e (z_rm 7 169) s m args below meth c H locs 0 0 (z_qi below D (z_Mt ca) (z_M ad ca o.2) A s args o.1) (F0 m 15 ls []) := by
    intro n
    induction n with
    | zero => intro a h; cases h
    | succ n ih => exact fun a h => wb_Mo_run_15 o C0 a.2.2 (z_lo (fun ih15 a => kb_Mo_run_15 ih15 a.1 a.2.1 a.2.2) n) ih a.1 a.2.1 h
  exact key 2000 (x1, x2, q) h
set_option maxHeartbeats 4000000 in
set_option maxRecDepth 100000 in
theorem c_Mo_run {l : Launch} {D : va_G} {ad : Nat → Nat} {ca : Nat → ClassId} (x1 : Int32) (q : z_Sg) (o : (Int32 × z_Sg)) (h : f_Mo_run x1 q = some o) : z_ci l y_Mo_run b_Mo_run 3 (some .int) 7 169 D (z_Mt ca) (z_M ad ca q) (z_M ad ca o.2) [.ref (ad 0), .int x1] o.1 := by
  refine z_ci_of (own := z_RMo) (by decide) rfl ?_
  intro p e s m below meth c A C0 hw
  obtain ⟨hx, hb, hr, hlk, hml, hown, hts, hK, hA⟩ := id C0
  generalize hH : s.heap = H at hw ⊢
  generalize hlo : ([] : List Loc) = locs at hw ⊢
  refine z_entry (lv := [(0, .ref (ad 0)), (1, .int x1)]) (Nat.le_of_ble_eq_true rfl) rfl (fun ls hl => ?_)
  unfold f_Mo_run at h
  refine lv_iload_n hx hb d_Mo_run_0 rfl (lv_at hl 1 rfl) ?_
  refine lv_if_lt (tgt := 11) hx hb d_Mo_run_1 (by decide) (fun c1 => ?_) (fun c1 => ?_)
  · have h := ok_t h c1
    exact w_Mo_run_11 o C0 q h H locs ls hw (lv_sub hl [] rfl)
  · have h := ok_f h c1
    refine lv_iload_n hx hb d_Mo_run_4 rfl (lv_at hl 1 rfl) ?_
    refine lv_sipush (v := (1000 : Int32)) hx hb d_Mo_run_5 (by decide) ?_
    refine lv_icmp_le (tgt := 13) hx hb d_Mo_run_8 (by decide) (fun c2 => ?_) (fun c2 => ?_)
    · have h := ok_t h c2
      refine lv_iconst (v := (0 : Int32)) hx hb d_Mo_run_13 (by decide) ?_
      refine lv_istore_n (lv' := [(2, .int (0 : Int32)), (0, .ref (ad 0)), (1, .int x1)]) hx hb d_Mo_run_14 rfl hl (by decide) rfl (fun ls hl => ?_)
      exact w_Mo_run_15 o C0 q x1 (0 : Int32) h H locs ls hw (lv_sub hl [1, 2, 0] rfl)
    · have h := ok_f h c2
      exact w_Mo_run_11 o C0 q h H locs ls hw (lv_sub hl [] rfl)
def k_Mo_look_67 (t0 : Int64) (q : z_Sg) : Option (Int64 × z_Sg) :=
  some (t0, q)
def k_Mo_look_41 (t1 : Int64) (t2 : Int32) (q : z_Sg) : Option (Int64 × z_Sg) :=
  (f_Mo_find t1 t2 q).bind (fun r6 => if (0 : Int64) ≤ r6.1 then (k_Mo_look_67 r6.1 r6.2) else (k_Mo_look_67 ((-2 : Int64) - ((z_gI r6.2 1).toInt64)) r6.2))
def f_Mo_look (x1 : Int32) (x2 : Int32) (x3 : Int32) (q : z_Sg) : Option (Int64 × z_Sg) :=
  (f_Mo_join x1 x2 q).bind (fun r1 => (f_Mo_isWrong r1 q).bind (fun r2 => if r2 = 0 then (if x3 = (1 : Int32) then (k_Mo_look_41 r1 (1 : Int32) q) else (if x3 = (2 : Int32) then (k_Mo_look_41 r1 (2 : Int32) q) else (k_Mo_look_41 r1 (0 : Int32) q))) else (some ((-1 : Int64), q))))
set_option maxHeartbeats 4000000 in
set_option maxRecDepth 100000 in
theorem w_Mo_look_67 {p : Program} {l : Launch} {e : Env} {s : State} {m : MethodId} {args : Array Value} {below : List Frame} {meth : Method} {c : Code} {D : va_G} {A : Nat → Prop} {ad : Nat → Nat} {ca : Nat → ClassId} (o : (Int64 × z_Sg)) (C0 : z_cx z_RMo b_Mo_look 8 (some .long) D (z_Mt ca) A p s m args meth c) (q : z_Sg) (t0 : Int64) (h : k_Mo_look_67 t0 q = some o) : ∀ (H : Heap) (locs : List Loc) (ls : Array Slot), z_wd D (z_M ad ca q) A s H locs → lv_has ls 8 [] → W p l e (z_rm 3 81) s m args below meth c H locs 0 0 (z_ql below D (z_Mt ca) (z_M ad ca o.2) A s args o.1) (F0 m 67 ls [.long t0]) := by
  obtain ⟨hx, hb, hr, hlk, hml, hown, hts, hK, hA⟩ := id C0
  intro H locs ls hw hl
  have ho := Option.some.inj h
  subst ho
  exact z_rtl C0 hw d_Mo_look_67
set_option maxHeartbeats 4000000 in
set_option maxRecDepth 100000 in
theorem w_Mo_look_41 {p : Program} {l : Launch} {e : Env} {s : State} {m : MethodId} {args : Array Value} {below : List Frame} {meth : Method} {c : Code} {D : va_G} {A : Nat → Prop} {ad : Nat → Nat} {ca : Nat → ClassId} (o : (Int64 × z_Sg)) (C0 : z_cx z_RMo b_Mo_look 8 (some .long) D (z_Mt ca) A p s m args meth c) (q : z_Sg) (t1 : Int64) (t2 : Int32) (h : k_Mo_look_41 t1 t2 q = some o) : ∀ (H : Heap) (locs : List Loc) (ls : Array Slot), z_wd D (z_M ad ca q) A s H locs → lv_has ls 8 [(0, .ref (ad 0))] → W p l e (z_rm 3 81) s m args below meth c H locs 0 0 (z_ql below D (z_Mt ca) (z_M ad ca o.2) A s args o.1) (F0 m 41 ls [.int t2, .long t1, .ref (ad 0)]) := by
  obtain ⟨hx, hb, hr, hlk, hml, hown, hts, hK, hA⟩ := id C0
  intro H locs ls hw hl
  obtain ⟨r6, er6, h⟩ := ok_b h
  refine z_vl (rest := []) C0 hw (c_Mo_find t1 t2 q r6 er6) mw_Mo_find ml_Mo_85 0 rfl ⟨Nat.le_of_ble_eq_true rfl, Nat.le_of_ble_eq_true rfl⟩ ⟨Nat.le_refl 0, Nat.le_refl 0⟩ rfl hl.1 rfl (Nat.le_of_ble_eq_true rfl) d_Mo_look_41 (fun H locs hw => ?_)
  refine lv_lstore (lv' := [(6, .long r6.1), (0, .ref (ad 0))]) hx hb d_Mo_look_44 hl (by decide) rfl (fun ls hl => ?_)
  refine lv_lload hx hb d_Mo_look_46 (lv_at hl 0 rfl) ?_
  refine lv_lconst (v := (0 : Int64)) hx hb d_Mo_look_48 (by decide) ?_
  refine W.lcmp hx hb d_Mo_look_49 ?_
  refine lv_if_ge (tgt := 65) hx hb d_Mo_look_50 (by decide) (fun c7 => ?_) (fun c7 => ?_)
  · have h := ok_t h ((lg_cmp_ge _ _).mp c7)
    refine lv_lload hx hb d_Mo_look_65 (lv_at hl 0 rfl) ?_
    exact w_Mo_look_67 o C0 r6.2 r6.1 h H locs ls hw (lv_sub hl [] rfl)
  · have h := ok_f h (fun z => c7 ((lg_cmp_ge _ _).mpr z))
    refine lv_ldc2 (own := z_RMo) hx hb hown (hts _ kl_Mo_469) d_Mo_look_53 ?_
    refine lv_aload_n hx hb d_Mo_look_56 rfl (lv_at hl 1 rfl) ?_
    refine gfM_0_lookCode C0 hw fl_Mo_68 d_Mo_look_57 ?_
    refine lv_i2l hx hb d_Mo_look_60 rfl ?_
    refine lv_lsub hx hb d_Mo_look_61 ?_
    refine lv_goto (tgt := 67) hx hb d_Mo_look_62 (by decide) ?_
    exact w_Mo_look_67 o C0 r6.2 ((-2 : Int64) - ((z_gI r6.2 1).toInt64)) h H locs ls hw (lv_sub hl [] rfl)
set_option maxHeartbeats 4000000 in
set_option maxRecDepth 100000 in
theorem c_Mo_look {l : Launch} {D : va_G} {ad : Nat → Nat} {ca : Nat → ClassId} (x1 : Int32) (x2 : Int32) (x3 : Int32) (q : z_Sg) (o : (Int64 × z_Sg)) (h : f_Mo_look x1 x2 x3 q = some o) : z_cl l y_Mo_look b_Mo_look 8 (some .long) 3 81 D (z_Mt ca) (z_M ad ca q) (z_M ad ca o.2) [.ref (ad 0), .int x1, .int x2, .int x3] o.1 := by
  refine z_cl_of (own := z_RMo) (by decide) rfl ?_
  intro p e s m below meth c A C0 hw
  obtain ⟨hx, hb, hr, hlk, hml, hown, hts, hK, hA⟩ := id C0
  generalize hH : s.heap = H at hw ⊢
  generalize hlo : ([] : List Loc) = locs at hw ⊢
  refine z_entry (lv := [(0, .ref (ad 0)), (1, .int x1), (2, .int x2), (3, .int x3)]) (Nat.le_of_ble_eq_true rfl) rfl (fun ls hl => ?_)
  unfold f_Mo_look at h
  refine lv_iload_n hx hb d_Mo_look_0 rfl (lv_at hl 1 rfl) ?_
  refine lv_iload_n hx hb d_Mo_look_1 rfl (lv_at hl 2 rfl) ?_
  obtain ⟨r1, er1, h⟩ := ok_b h
  refine z_sl (rest := []) C0 hw (c_Mo_join x1 x2 q r1 er1) mw_Mo_join ml_Mo_461 ⟨Nat.le_of_ble_eq_true rfl, Nat.le_of_ble_eq_true rfl⟩ ⟨Nat.le_refl 0, Nat.le_refl 0⟩ rfl hl.1 rfl (Nat.le_of_ble_eq_true rfl) d_Mo_look_2 (fun H locs hw => ?_)
  refine lv_lstore (lv' := [(4, .long r1), (0, .ref (ad 0)), (1, .int x1), (2, .int x2), (3, .int x3)]) hx hb d_Mo_look_5 hl (by decide) rfl (fun ls hl => ?_)
  refine lv_lload hx hb d_Mo_look_7 (lv_at hl 0 rfl) ?_
  obtain ⟨r2, er2, h⟩ := ok_b h
  refine z_si (rest := []) C0 hw (c_Mo_isWrong r1 q r2 er2) mw_Mo_isWrong ml_Mo_77 ⟨Nat.le_of_ble_eq_true rfl, Nat.le_of_ble_eq_true rfl⟩ ⟨Nat.le_refl 0, Nat.le_refl 0⟩ rfl hl.1 rfl (Nat.le_of_ble_eq_true rfl) d_Mo_look_9 (fun H locs hw => ?_)
  refine lv_if_eq (tgt := 19) hx hb d_Mo_look_12 (by decide) (fun c3 => ?_) (fun c3 => ?_)
  · have h := ok_t h c3
    refine lv_aload_n hx hb d_Mo_look_19 rfl (lv_at hl 1 rfl) ?_
    refine lv_lload hx hb d_Mo_look_20 (lv_at hl 0 rfl) ?_
    refine lv_iload_n hx hb d_Mo_look_22 rfl (lv_at hl 4 rfl) ?_
    refine lv_iconst (v := (1 : Int32)) hx hb d_Mo_look_23 (by decide) ?_
    refine lv_icmp_ne (tgt := 31) hx hb d_Mo_look_24 (by decide) (fun c4 => ?_) (fun c4 => ?_)
    · have h := ok_f h c4
      refine lv_iload_n hx hb d_Mo_look_31 rfl (lv_at hl 4 rfl) ?_
      refine lv_iconst (v := (2 : Int32)) hx hb d_Mo_look_32 (by decide) ?_
      refine lv_icmp_ne (tgt := 40) hx hb d_Mo_look_33 (by decide) (fun c5 => ?_) (fun c5 => ?_)
      · have h := ok_f h c5
        refine lv_iconst (v := (0 : Int32)) hx hb d_Mo_look_40 (by decide) ?_
        exact w_Mo_look_41 o C0 q r1 (0 : Int32) h H locs ls hw (lv_sub hl [1] rfl)
      · have h := ok_t h c5
        refine lv_iconst (v := (2 : Int32)) hx hb d_Mo_look_36 (by decide) ?_
        refine lv_goto (tgt := 41) hx hb d_Mo_look_37 (by decide) ?_
        exact w_Mo_look_41 o C0 q r1 (2 : Int32) h H locs ls hw (lv_sub hl [1] rfl)
    · have h := ok_t h c4
      refine lv_iconst (v := (1 : Int32)) hx hb d_Mo_look_27 (by decide) ?_
      refine lv_goto (tgt := 41) hx hb d_Mo_look_28 (by decide) ?_
      exact w_Mo_look_41 o C0 q r1 (1 : Int32) h H locs ls hw (lv_sub hl [1] rfl)
  · have h := ok_f h c3
    refine lv_ldc2 (own := z_RMo) hx hb hown (hts _ kl_Mo_71) d_Mo_look_15 ?_
    have ho := Option.some.inj h
    subst ho
    exact z_rtl C0 hw d_Mo_look_18
end
