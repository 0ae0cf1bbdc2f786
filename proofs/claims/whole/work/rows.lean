section
-- ===== PART A: goes FIRST, ahead of the names: the tables' words, and 'selects' of the private methods out of them =====
/-- a private method of a class that the tables say can be made, by its rows of tables_1 -/
def lw_okq (q : MethodName × Nat) : Prop := (q.1.cls ≠ "java/lang/invoke/MethodHandle" ∧ q.1.cls ≠ "java/lang/invoke/VarHandle") ∧ Cond.instantiable q.1.cls q.2 ∈ tables_1 ∧ Cond.privateMethod q.1 ∈ tables_1 ∧ Cond.instanceMethod q.1 ∈ tables_1
theorem lw_p0 : lw_okq (⟨"java/lang/Throwable", "fillInStackTrace", "(I)Ljava/lang/Throwable;"⟩, 6) := ⟨⟨by decide +kernel, by decide +kernel⟩, List.mem_of_getElem? (i := 173) (by decide +kernel), List.mem_of_getElem? (i := 171) (by decide +kernel), List.mem_of_getElem? (i := 172) (by decide +kernel)⟩
theorem lw_p1 : lw_okq (⟨"DecimalReader", "appendBytes", "(I)V"⟩, 13) := ⟨⟨by decide +kernel, by decide +kernel⟩, List.mem_of_getElem? (i := 21) (by decide +kernel), List.mem_of_getElem? (i := 202) (by decide +kernel), List.mem_of_getElem? (i := 203) (by decide +kernel)⟩
theorem lw_p2 : lw_okq (⟨"DecimalReader", "readTape", "()Z"⟩, 13) := ⟨⟨by decide +kernel, by decide +kernel⟩, List.mem_of_getElem? (i := 21) (by decide +kernel), List.mem_of_getElem? (i := 238) (by decide +kernel), List.mem_of_getElem? (i := 239) (by decide +kernel)⟩
theorem lw_p3 : lw_okq (⟨"DecimalReader", "scanText", "()Z"⟩, 13) := ⟨⟨by decide +kernel, by decide +kernel⟩, List.mem_of_getElem? (i := 21) (by decide +kernel), List.mem_of_getElem? (i := 242) (by decide +kernel), List.mem_of_getElem? (i := 243) (by decide +kernel)⟩
theorem lw_p4 : lw_okq (⟨"DecimalReader", "leaveBlanksOut", "()V"⟩, 13) := ⟨⟨by decide +kernel, by decide +kernel⟩, List.mem_of_getElem? (i := 21) (by decide +kernel), List.mem_of_getElem? (i := 246) (by decide +kernel), List.mem_of_getElem? (i := 247) (by decide +kernel)⟩
theorem lw_p5 : lw_okq (⟨"DecimalReader", "takeSign", "()Z"⟩, 13) := ⟨⟨by decide +kernel, by decide +kernel⟩, List.mem_of_getElem? (i := 21) (by decide +kernel), List.mem_of_getElem? (i := 253) (by decide +kernel), List.mem_of_getElem? (i := 254) (by decide +kernel)⟩
theorem lw_p6 : lw_okq (⟨"DecimalReader", "take", "(C)Z"⟩, 13) := ⟨⟨by decide +kernel, by decide +kernel⟩, List.mem_of_getElem? (i := 21) (by decide +kernel), List.mem_of_getElem? (i := 257) (by decide +kernel), List.mem_of_getElem? (i := 258) (by decide +kernel)⟩
theorem lw_p7 : lw_okq (⟨"DecimalReader", "restIs", "(Ljava/lang/String;)Z"⟩, 13) := ⟨⟨by decide +kernel, by decide +kernel⟩, List.mem_of_getElem? (i := 21) (by decide +kernel), List.mem_of_getElem? (i := 262) (by decide +kernel), List.mem_of_getElem? (i := 263) (by decide +kernel)⟩
theorem lw_p8 : lw_okq (⟨"DecimalReader", "scanDigits", "()Z"⟩, 13) := ⟨⟨by decide +kernel, by decide +kernel⟩, List.mem_of_getElem? (i := 21) (by decide +kernel), List.mem_of_getElem? (i := 315) (by decide +kernel), List.mem_of_getElem? (i := 316) (by decide +kernel)⟩
theorem lw_p9 : lw_okq (⟨"DecimalReader", "takeHexStart", "()Z"⟩, 13) := ⟨⟨by decide +kernel, by decide +kernel⟩, List.mem_of_getElem? (i := 21) (by decide +kernel), List.mem_of_getElem? (i := 319) (by decide +kernel), List.mem_of_getElem? (i := 320) (by decide +kernel)⟩
theorem lw_p10 : lw_okq (⟨"DecimalReader", "skipDigits", "(I)I"⟩, 13) := ⟨⟨by decide +kernel, by decide +kernel⟩, List.mem_of_getElem? (i := 21) (by decide +kernel), List.mem_of_getElem? (i := 323) (by decide +kernel), List.mem_of_getElem? (i := 324) (by decide +kernel)⟩
theorem lw_p11 : lw_okq (⟨"DecimalReader", "scanExponent", "()Z"⟩, 13) := ⟨⟨by decide +kernel, by decide +kernel⟩, List.mem_of_getElem? (i := 21) (by decide +kernel), List.mem_of_getElem? (i := 330) (by decide +kernel), List.mem_of_getElem? (i := 331) (by decide +kernel)⟩
theorem lw_p12 : lw_okq (⟨"DecimalReader", "restIsSuffix", "()Z"⟩, 13) := ⟨⟨by decide +kernel, by decide +kernel⟩, List.mem_of_getElem? (i := 21) (by decide +kernel), List.mem_of_getElem? (i := 335) (by decide +kernel), List.mem_of_getElem? (i := 336) (by decide +kernel)⟩
theorem lw_p13 : lw_okq (⟨"DecimalReader", "placeDigits", "()V"⟩, 13) := ⟨⟨by decide +kernel, by decide +kernel⟩, List.mem_of_getElem? (i := 21) (by decide +kernel), List.mem_of_getElem? (i := 343) (by decide +kernel), List.mem_of_getElem? (i := 344) (by decide +kernel)⟩
theorem lw_p14 : lw_okq (⟨"DecimalReader", "placeDigit", "(II)V"⟩, 13) := ⟨⟨by decide +kernel, by decide +kernel⟩, List.mem_of_getElem? (i := 21) (by decide +kernel), List.mem_of_getElem? (i := 354) (by decide +kernel), List.mem_of_getElem? (i := 355) (by decide +kernel)⟩
theorem lw_p15 : lw_okq (⟨"DecimalReader$Value", "addBit", "(I)V"⟩, 4) := ⟨⟨by decide +kernel, by decide +kernel⟩, List.mem_of_getElem? (i := 66) (by decide +kernel), List.mem_of_getElem? (i := 362) (by decide +kernel), List.mem_of_getElem? (i := 363) (by decide +kernel)⟩
def lw_privs_1 : List (MethodName × Nat) := [(⟨"java/lang/Throwable", "fillInStackTrace", "(I)Ljava/lang/Throwable;"⟩, 6), (⟨"DecimalReader", "appendBytes", "(I)V"⟩, 13), (⟨"DecimalReader", "readTape", "()Z"⟩, 13), (⟨"DecimalReader", "scanText", "()Z"⟩, 13), (⟨"DecimalReader", "leaveBlanksOut", "()V"⟩, 13), (⟨"DecimalReader", "takeSign", "()Z"⟩, 13), (⟨"DecimalReader", "take", "(C)Z"⟩, 13), (⟨"DecimalReader", "restIs", "(Ljava/lang/String;)Z"⟩, 13), (⟨"DecimalReader", "scanDigits", "()Z"⟩, 13), (⟨"DecimalReader", "takeHexStart", "()Z"⟩, 13), (⟨"DecimalReader", "skipDigits", "(I)I"⟩, 13), (⟨"DecimalReader", "scanExponent", "()Z"⟩, 13), (⟨"DecimalReader", "restIsSuffix", "()Z"⟩, 13), (⟨"DecimalReader", "placeDigits", "()V"⟩, 13), (⟨"DecimalReader", "placeDigit", "(II)V"⟩, 13), (⟨"DecimalReader$Value", "addBit", "(I)V"⟩, 4)]
theorem lw_r1 : ∀ q ∈ lw_privs_1, lw_okq q := List.forall_mem_cons.mpr ⟨lw_p0, List.forall_mem_cons.mpr ⟨lw_p1, List.forall_mem_cons.mpr ⟨lw_p2, List.forall_mem_cons.mpr ⟨lw_p3, List.forall_mem_cons.mpr ⟨lw_p4, List.forall_mem_cons.mpr ⟨lw_p5, List.forall_mem_cons.mpr ⟨lw_p6, List.forall_mem_cons.mpr ⟨lw_p7, List.forall_mem_cons.mpr ⟨lw_p8, List.forall_mem_cons.mpr ⟨lw_p9, List.forall_mem_cons.mpr ⟨lw_p10, List.forall_mem_cons.mpr ⟨lw_p11, List.forall_mem_cons.mpr ⟨lw_p12, List.forall_mem_cons.mpr ⟨lw_p13, List.forall_mem_cons.mpr ⟨lw_p14, List.forall_mem_cons.mpr ⟨lw_p15, fun _ h => absurd h List.not_mem_nil⟩⟩⟩⟩⟩⟩⟩⟩⟩⟩⟩⟩⟩⟩⟩⟩
theorem lw_p16 : lw_okq (⟨"DecimalReader$Value", "usedLimbs", "()I"⟩, 4) := ⟨⟨by decide +kernel, by decide +kernel⟩, List.mem_of_getElem? (i := 66) (by decide +kernel), List.mem_of_getElem? (i := 382) (by decide +kernel), List.mem_of_getElem? (i := 383) (by decide +kernel)⟩
theorem lw_p17 : lw_okq (⟨"DecimalReader$Value", "appendWholeLimb", "(I)V"⟩, 4) := ⟨⟨by decide +kernel, by decide +kernel⟩, List.mem_of_getElem? (i := 66) (by decide +kernel), List.mem_of_getElem? (i := 386) (by decide +kernel), List.mem_of_getElem? (i := 387) (by decide +kernel)⟩
theorem lw_p18 : lw_okq (⟨"DecimalReader$Value", "takeFractionWord", "(I)I"⟩, 4) := ⟨⟨by decide +kernel, by decide +kernel⟩, List.mem_of_getElem? (i := 66) (by decide +kernel), List.mem_of_getElem? (i := 392) (by decide +kernel), List.mem_of_getElem? (i := 393) (by decide +kernel)⟩
theorem lw_p19 : lw_okq (⟨"DecimalReader", "answerAs", "(LDecimalReader$Kind;)J"⟩, 13) := ⟨⟨by decide +kernel, by decide +kernel⟩, List.mem_of_getElem? (i := 21) (by decide +kernel), List.mem_of_getElem? (i := 412) (by decide +kernel), List.mem_of_getElem? (i := 413) (by decide +kernel)⟩
theorem lw_p20 : lw_okq (⟨"DecimalReader$Value", "topPower", "()I"⟩, 4) := ⟨⟨by decide +kernel, by decide +kernel⟩, List.mem_of_getElem? (i := 66) (by decide +kernel), List.mem_of_getElem? (i := 420) (by decide +kernel), List.mem_of_getElem? (i := 421) (by decide +kernel)⟩
theorem lw_p21 : lw_okq (⟨"DecimalReader$Value", "bitAt", "(I)I"⟩, 4) := ⟨⟨by decide +kernel, by decide +kernel⟩, List.mem_of_getElem? (i := 66) (by decide +kernel), List.mem_of_getElem? (i := 424) (by decide +kernel), List.mem_of_getElem? (i := 425) (by decide +kernel)⟩
theorem lw_p22 : lw_okq (⟨"DecimalReader$Value", "isMoreBelow", "(I)Z"⟩, 4) := ⟨⟨by decide +kernel, by decide +kernel⟩, List.mem_of_getElem? (i := 66) (by decide +kernel), List.mem_of_getElem? (i := 432) (by decide +kernel), List.mem_of_getElem? (i := 433) (by decide +kernel)⟩
theorem lw_p23 : lw_okq (⟨"DecimalReaderModel", "good", "(ZI)Z"⟩, 14) := ⟨⟨by decide +kernel, by decide +kernel⟩, List.mem_of_getElem? (i := 443) (by decide +kernel), List.mem_of_getElem? (i := 518) (by decide +kernel), List.mem_of_getElem? (i := 519) (by decide +kernel)⟩
theorem lw_p24 : lw_okq (⟨"DecimalReaderModel", "word4", "(I)V"⟩, 14) := ⟨⟨by decide +kernel, by decide +kernel⟩, List.mem_of_getElem? (i := 443) (by decide +kernel), List.mem_of_getElem? (i := 522) (by decide +kernel), List.mem_of_getElem? (i := 523) (by decide +kernel)⟩
theorem lw_p25 : lw_okq (⟨"DecimalReaderModel", "kind", "(Z)V"⟩, 14) := ⟨⟨by decide +kernel, by decide +kernel⟩, List.mem_of_getElem? (i := 443) (by decide +kernel), List.mem_of_getElem? (i := 534) (by decide +kernel), List.mem_of_getElem? (i := 535) (by decide +kernel)⟩
theorem lw_p26 : lw_okq (⟨"DecimalReaderModel", "value", "()J"⟩, 14) := ⟨⟨by decide +kernel, by decide +kernel⟩, List.mem_of_getElem? (i := 443) (by decide +kernel), List.mem_of_getElem? (i := 538) (by decide +kernel), List.mem_of_getElem? (i := 539) (by decide +kernel)⟩
theorem lw_p27 : lw_okq (⟨"DecimalReaderModel", "is", "(I)Z"⟩, 14) := ⟨⟨by decide +kernel, by decide +kernel⟩, List.mem_of_getElem? (i := 443) (by decide +kernel), List.mem_of_getElem? (i := 542) (by decide +kernel), List.mem_of_getElem? (i := 543) (by decide +kernel)⟩
theorem lw_p28 : lw_okq (⟨"DecimalReaderModel", "sign", "()J"⟩, 14) := ⟨⟨by decide +kernel, by decide +kernel⟩, List.mem_of_getElem? (i := 443) (by decide +kernel), List.mem_of_getElem? (i := 546) (by decide +kernel), List.mem_of_getElem? (i := 547) (by decide +kernel)⟩
theorem lw_p29 : lw_okq (⟨"DecimalReaderModel", "word", "(Ljava/lang/String;)Z"⟩, 14) := ⟨⟨by decide +kernel, by decide +kernel⟩, List.mem_of_getElem? (i := 443) (by decide +kernel), List.mem_of_getElem? (i := 553) (by decide +kernel), List.mem_of_getElem? (i := 554) (by decide +kernel)⟩
theorem lw_p30 : lw_okq (⟨"DecimalReaderModel", "none", "()J"⟩, 14) := ⟨⟨by decide +kernel, by decide +kernel⟩, List.mem_of_getElem? (i := 443) (by decide +kernel), List.mem_of_getElem? (i := 559) (by decide +kernel), List.mem_of_getElem? (i := 560) (by decide +kernel)⟩
theorem lw_p31 : lw_okq (⟨"DecimalReaderModel", "infinity", "()J"⟩, 14) := ⟨⟨by decide +kernel, by decide +kernel⟩, List.mem_of_getElem? (i := 443) (by decide +kernel), List.mem_of_getElem? (i := 563) (by decide +kernel), List.mem_of_getElem? (i := 564) (by decide +kernel)⟩
def lw_privs_2 : List (MethodName × Nat) := [(⟨"DecimalReader$Value", "usedLimbs", "()I"⟩, 4), (⟨"DecimalReader$Value", "appendWholeLimb", "(I)V"⟩, 4), (⟨"DecimalReader$Value", "takeFractionWord", "(I)I"⟩, 4), (⟨"DecimalReader", "answerAs", "(LDecimalReader$Kind;)J"⟩, 13), (⟨"DecimalReader$Value", "topPower", "()I"⟩, 4), (⟨"DecimalReader$Value", "bitAt", "(I)I"⟩, 4), (⟨"DecimalReader$Value", "isMoreBelow", "(I)Z"⟩, 4), (⟨"DecimalReaderModel", "good", "(ZI)Z"⟩, 14), (⟨"DecimalReaderModel", "word4", "(I)V"⟩, 14), (⟨"DecimalReaderModel", "kind", "(Z)V"⟩, 14), (⟨"DecimalReaderModel", "value", "()J"⟩, 14), (⟨"DecimalReaderModel", "is", "(I)Z"⟩, 14), (⟨"DecimalReaderModel", "sign", "()J"⟩, 14), (⟨"DecimalReaderModel", "word", "(Ljava/lang/String;)Z"⟩, 14), (⟨"DecimalReaderModel", "none", "()J"⟩, 14), (⟨"DecimalReaderModel", "infinity", "()J"⟩, 14)]
theorem lw_r2 : ∀ q ∈ lw_privs_2, lw_okq q := List.forall_mem_cons.mpr ⟨lw_p16, List.forall_mem_cons.mpr ⟨lw_p17, List.forall_mem_cons.mpr ⟨lw_p18, List.forall_mem_cons.mpr ⟨lw_p19, List.forall_mem_cons.mpr ⟨lw_p20, List.forall_mem_cons.mpr ⟨lw_p21, List.forall_mem_cons.mpr ⟨lw_p22, List.forall_mem_cons.mpr ⟨lw_p23, List.forall_mem_cons.mpr ⟨lw_p24, List.forall_mem_cons.mpr ⟨lw_p25, List.forall_mem_cons.mpr ⟨lw_p26, List.forall_mem_cons.mpr ⟨lw_p27, List.forall_mem_cons.mpr ⟨lw_p28, List.forall_mem_cons.mpr ⟨lw_p29, List.forall_mem_cons.mpr ⟨lw_p30, List.forall_mem_cons.mpr ⟨lw_p31, fun _ h => absurd h List.not_mem_nil⟩⟩⟩⟩⟩⟩⟩⟩⟩⟩⟩⟩⟩⟩⟩⟩
theorem lw_p32 : lw_okq (⟨"DecimalReaderModel", "hexadecimal", "()J"⟩, 14) := ⟨⟨by decide +kernel, by decide +kernel⟩, List.mem_of_getElem? (i := 443) (by decide +kernel), List.mem_of_getElem? (i := 570) (by decide +kernel), List.mem_of_getElem? (i := 571) (by decide +kernel)⟩
theorem lw_p33 : lw_okq (⟨"DecimalReaderModel", "hexDigit", "()I"⟩, 14) := ⟨⟨by decide +kernel, by decide +kernel⟩, List.mem_of_getElem? (i := 443) (by decide +kernel), List.mem_of_getElem? (i := 574) (by decide +kernel), List.mem_of_getElem? (i := 575) (by decide +kernel)⟩
theorem lw_p34 : lw_okq (⟨"DecimalReaderModel", "exponent", "()J"⟩, 14) := ⟨⟨by decide +kernel, by decide +kernel⟩, List.mem_of_getElem? (i := 443) (by decide +kernel), List.mem_of_getElem? (i := 580) (by decide +kernel), List.mem_of_getElem? (i := 581) (by decide +kernel)⟩
theorem lw_p35 : lw_okq (⟨"DecimalReaderModel", "isDigit", "()Z"⟩, 14) := ⟨⟨by decide +kernel, by decide +kernel⟩, List.mem_of_getElem? (i := 443) (by decide +kernel), List.mem_of_getElem? (i := 584) (by decide +kernel), List.mem_of_getElem? (i := 585) (by decide +kernel)⟩
theorem lw_p36 : lw_okq (⟨"DecimalReaderModel", "rounded", "(JJZ)J"⟩, 14) := ⟨⟨by decide +kernel, by decide +kernel⟩, List.mem_of_getElem? (i := 443) (by decide +kernel), List.mem_of_getElem? (i := 591) (by decide +kernel), List.mem_of_getElem? (i := 592) (by decide +kernel)⟩
theorem lw_p37 : lw_okq (⟨"DecimalReaderModel", "fraction", "()J"⟩, 14) := ⟨⟨by decide +kernel, by decide +kernel⟩, List.mem_of_getElem? (i := 443) (by decide +kernel), List.mem_of_getElem? (i := 605) (by decide +kernel), List.mem_of_getElem? (i := 606) (by decide +kernel)⟩
theorem lw_p38 : lw_okq (⟨"DecimalReaderModel", "decimal", "()J"⟩, 14) := ⟨⟨by decide +kernel, by decide +kernel⟩, List.mem_of_getElem? (i := 443) (by decide +kernel), List.mem_of_getElem? (i := 609) (by decide +kernel), List.mem_of_getElem? (i := 610) (by decide +kernel)⟩
theorem lw_p39 : lw_okq (⟨"DecimalReaderModel", "nearest", "()J"⟩, 14) := ⟨⟨by decide +kernel, by decide +kernel⟩, List.mem_of_getElem? (i := 443) (by decide +kernel), List.mem_of_getElem? (i := 613) (by decide +kernel), List.mem_of_getElem? (i := 614) (by decide +kernel)⟩
theorem lw_p40 : lw_okq (⟨"DecimalReaderModel", "c", "(J)J"⟩, 14) := ⟨⟨by decide +kernel, by decide +kernel⟩, List.mem_of_getElem? (i := 443) (by decide +kernel), List.mem_of_getElem? (i := 619) (by decide +kernel), List.mem_of_getElem? (i := 620) (by decide +kernel)⟩
theorem lw_p41 : lw_okq (⟨"DecimalReaderModel", "q", "(J)I"⟩, 14) := ⟨⟨by decide +kernel, by decide +kernel⟩, List.mem_of_getElem? (i := 443) (by decide +kernel), List.mem_of_getElem? (i := 623) (by decide +kernel), List.mem_of_getElem? (i := 624) (by decide +kernel)⟩
theorem lw_p42 : lw_okq (⟨"DecimalReaderModel", "row", "(JILDecimalReaderModel$Row;)V"⟩, 14) := ⟨⟨by decide +kernel, by decide +kernel⟩, List.mem_of_getElem? (i := 443) (by decide +kernel), List.mem_of_getElem? (i := 627) (by decide +kernel), List.mem_of_getElem? (i := 628) (by decide +kernel)⟩
theorem lw_p43 : lw_okq (⟨"DecimalReaderModel", "times", "(J)V"⟩, 14) := ⟨⟨by decide +kernel, by decide +kernel⟩, List.mem_of_getElem? (i := 443) (by decide +kernel), List.mem_of_getElem? (i := 633) (by decide +kernel), List.mem_of_getElem? (i := 634) (by decide +kernel)⟩
def lw_privs_3 : List (MethodName × Nat) := [(⟨"DecimalReaderModel", "hexadecimal", "()J"⟩, 14), (⟨"DecimalReaderModel", "hexDigit", "()I"⟩, 14), (⟨"DecimalReaderModel", "exponent", "()J"⟩, 14), (⟨"DecimalReaderModel", "isDigit", "()Z"⟩, 14), (⟨"DecimalReaderModel", "rounded", "(JJZ)J"⟩, 14), (⟨"DecimalReaderModel", "fraction", "()J"⟩, 14), (⟨"DecimalReaderModel", "decimal", "()J"⟩, 14), (⟨"DecimalReaderModel", "nearest", "()J"⟩, 14), (⟨"DecimalReaderModel", "c", "(J)J"⟩, 14), (⟨"DecimalReaderModel", "q", "(J)I"⟩, 14), (⟨"DecimalReaderModel", "row", "(JILDecimalReaderModel$Row;)V"⟩, 14), (⟨"DecimalReaderModel", "times", "(J)V"⟩, 14)]
theorem lw_r3 : ∀ q ∈ lw_privs_3, lw_okq q := List.forall_mem_cons.mpr ⟨lw_p32, List.forall_mem_cons.mpr ⟨lw_p33, List.forall_mem_cons.mpr ⟨lw_p34, List.forall_mem_cons.mpr ⟨lw_p35, List.forall_mem_cons.mpr ⟨lw_p36, List.forall_mem_cons.mpr ⟨lw_p37, List.forall_mem_cons.mpr ⟨lw_p38, List.forall_mem_cons.mpr ⟨lw_p39, List.forall_mem_cons.mpr ⟨lw_p40, List.forall_mem_cons.mpr ⟨lw_p41, List.forall_mem_cons.mpr ⟨lw_p42, List.forall_mem_cons.mpr ⟨lw_p43, fun _ h => absurd h List.not_mem_nil⟩⟩⟩⟩⟩⟩⟩⟩⟩⟩⟩⟩
def lw_privs : List (MethodName × Nat) := lw_privs_1 ++ (lw_privs_2 ++ (lw_privs_3))
def lw_tbl : List Cond := k2_sels lw_privs ++ tables_1
theorem lw_privs_ok : ∀ q ∈ lw_privs, lw_okq q := by
  show ∀ q ∈ lw_privs_1 ++ (lw_privs_2 ++ (lw_privs_3)), lw_okq q
  exact List.forall_mem_append.mpr ⟨lw_r1, List.forall_mem_append.mpr ⟨lw_r2, lw_r3⟩⟩
-- ===== end of PART A; then your names; then what follows =====
end
section
/-! ===== BEGIN exceptions that leave a method, and their catching by the caller (launches without stack traces) ===== -/
section VXA
/-! The laws vx_back, vx_callV, vx_callS, vx_callSW, vx_throw0, vx_throwS follow proofs of the library, with one case more: JvmDerived/Free/Laws.lean (Back.of_free), Shelf42/LK1.lean (callV, callS), Shelf/KitTraced.lean (throwNew0V, throwNewS). -/
/-- where a method has thrown q: the class by its name, the cell, what was written, the world -/
def vx_T (XC : String → State → State → Prop) (st : State) (q : Addr) (t : State) (mc ms : Nat) (free : Addr → Prop) : Prop :=
  ∃ (E : String) (ce : Cell) (L : List Loc), XC E st t ∧ t.heap[q]? = some ce ∧ ce.vm = .none ∧ st.vm.findClass E = some ce.cls ∧ st.WarmedH t.vm ∧ st.sameButNew ({ t with vm := st.vm } : State) L mc ms ∧ ∀ z ∈ L, free z.base
def vx_Q (Qc : Array Value → State → Outcome → State → Prop) (XC : String → State → State → Prop) (mc ms : Nat) (free : Addr → Prop) : Array Value → State → Outcome → State → Prop := fun a st o t =>
  (Qc a st o t ∧ ∃ L, FrameEnd st o t L mc ms ∧ ∀ q ∈ L, free q.base) ∨ ∃ q, o = .threw q ∧ vx_T XC st q t mc ms free
/-- a callee that returns or throws -/
def vx_Met (l : Launch) (y : MethodName) (ws : List Cond) (rm : Room) (Pc : Array Value → State → Prop) (Qc : Array Value → State → Outcome → State → Prop) (XC : String → State → State → Prop) (mc ms : Nat) (free : Addr → Prop) : Prop :=
  MetFree l y (headSpec ws rm) Pc (fun _ _ _ _ _ => True) (vx_Q Qc XC mc ms free)
def vx_Post (XC : String → State → State → Prop) (mc ms : Nat) (free : Addr → Prop) : Pt → Array Value → Addr → Pt → Prop := fun A a q B =>
  ∃ (g : JFrame) (mk : MethodId) (t : State) (L : List Loc) (E : String) (ce : Cell), B.U.heap = t.heap ∧ B.U.vm = t.vm ∧ XC E (A.U.calling g mk a) t ∧ t.heap[q]? = some ce ∧ ce.vm = .none ∧ A.U.vm.findClass E = some ce.cls ∧ B.locs = A.locs ++ L ∧ (∀ z ∈ L, free z.base) ∧ B.cells = A.cells + mc ∧ B.slots = A.slots + ms
def vx_Back (l : Launch) (R : Room) (p : Program) (e : Env) (below : List Frame) (s : State) (sargs : Array Value) (y : MethodName) (len W9 : Nat)
    (Pre : Pt → Array Value → Prop) (Post : Pt → Array Value → Option Value → Pt → Prop) (PostX : Pt → Array Value → Addr → Pt → Prop) : Prop :=
  ∀ (m : MethodId) (meth : Method) (c : Code) (A : Pt) (g : JFrame) (ig : Instr) (mk : MethodId) (a : Array Value),
    Stand p l e R s m sargs below meth c A.U A.locs A.cells A.slots → g.method = m → g.locals.size = c.maxLocals → decode c.code g.pc = .ok (ig, len) →
    2 * g.monitorRoom + (g.stack.map fun v => v.category).sum ≤ W9 → A.U.methodNamed? y = some mk → Pre A a →
    (∃ (v : Option Value) (B : Pt), Stand p l e R s m sargs below meth c B.U B.locs B.cells B.slots ∧ Post A a v B ∧
      Steps p.tables e below (doInvoke e (A.U.setTop g) [] mk a).1 (B.U.setTop { g with pc := g.pc + len, stack := v.toList ++ g.stack })) ∨
    (∃ (q : Addr) (B : Pt), Stand p l e R s m sargs below meth c B.U B.locs B.cells B.slots ∧ PostX A a q B ∧
      Steps p.tables e below (doInvoke e (A.U.setTop g) [] mk a).1 ((B.U.setTop g).pushFrame (.throwing q)))
section Payer
variable {l : Launch} {R : Room} {p : Program} {e : Env} {below : List Frame} {s : State} {sargs : Array Value} {y : MethodName} {len W9 : Nat}
theorem vx_back {ws : List Cond} {rm : Room} {Pc : Array Value → State → Prop} {Qc : Array Value → State → Outcome → State → Prop} {XC : String → State → State → Prop} {mc ms : Nat} {free : Addr → Prop} {bytes : ByteArray} {maxL : Nat} {ret : Option FieldType}
    (hM : vx_Met l y ws rm Pc Qc XC mc ms free) (hblind : FrameBlind Pc) (hrc : rm.cells = mc) (hrs : rm.slots = ms)
    (hframes : rm.frames + 1 ≤ R.frames) (hlocals : W9 + (maxL + 11) + rm.locals ≤ R.locals)
    (hws : ∀ w ∈ ws, ∀ a' U, s.WarmedH U.vm → w.before a' U = true) (hcode : Cond.code y bytes maxL ret ∈ ws) (hinit : ∀ a' U, s.WarmedH U.vm → (Cond.initialized y.cls).before a' U = true) :
    vx_Back l R p e below s sargs y len W9 (PreOf R mc ms Pc) (PostOf Qc mc ms free) (vx_Post XC mc ms free) := by
  intro m meth c A g ig mk a X hg hsize hdg hW hn hp
  have h1 : (headSpec ws rm).pre.before a A.U = true := atoms_intro fun w hw => hws w hw _ _ X.warmed
  have h2 : (Cond.code y bytes maxL ret).before a A.U = true := hws _ hcode _ _ X.warmed
  have h3 : (Cond.initialized y.cls).before a A.U = true := hinit _ _ X.warmed
  have h4 : A.cells + (headSpec ws rm).room.cells ≤ R.cells := by rw [show (headSpec ws rm).room.cells = mc from hrc]; exact hp.1
  have h5 : A.slots + (headSpec ws rm).room.slots ≤ R.slots := by rw [show (headSpec ws rm).room.slots = ms from hrs]; exact hp.2.1
  have hPc : Pc a (A.U.calling g mk a) := hblind _ _ _ _ hp.2.2
  obtain ⟨U, Ls, c0, s0⟩ := A
  dsimp only [Pt.U, Pt.locs, Pt.cells, Pt.slots] at h1 h2 h3 h4 h5 X hn hPc ⊢
  obtain ⟨methY, cY, hmY, hcY, -, hlY, -, -, -, -⟩ := Cond.code_spec hn h2
  obtain ⟨kY, hkY, -⟩ := className_of_methodNamed hn
  have hinitY : kY.init = .initialized := Cond.initialized_spec (findClass_of_methodNamed hn) hkY h3
  have h : At U g.method c below := by rw [hg]; exact X.here
  have hlocals9 : W9 + (maxL + 11) + (headSpec ws rm).room.locals ≤ R.locals := hlocals
  have happ : (headSpec ws rm).appliesLoose y e.platform (U.calling g mk a) = true :=
    Spec.appliesLoose_calling (g := g) h hdg hn hkY hinitY
      (X.room_calling (g := g) (R' := (headSpec ws rm).room) hsize hmY hcY hframes (by rw [hlY]; omega) h4 h5) h1
  obtain ⟨mid, hmid⟩ := h.above
  have hfr : (U.setTop g).frames = (.java g :: mid) ++ below := by rw [State.frames_setTop' g h.top, hmid]; rfl
  obtain ⟨o, s₂, hsteps, -, hend, hq⟩ := Steps.callFree hM p X.admits X.cas X.clock (acts := []) hfr happ hPc trivial
  have hq' : vx_Q Qc XC mc ms free a (U.calling g mk a) o s₂ := hq
  rw [State.frames_setTop' g h.top] at hend
  obtain ⟨g₀, hg0⟩ := Option.isSome_iff_exists.mp h.top
  obtain ⟨r, hr⟩ := State.topJava?_eq_some.mp hg0
  have hr' : (({ U with heap := s₂.heap, slotsUsed := s₂.slotsUsed } : State).setVm s₂.vm).frames = .java g₀ :: r := hr
  rcases hq' with ⟨hqc, L, hfe, hL⟩ | ⟨q, rfl, E, ce, L, hx, hce, hcv, hcl, hW₂, hsm, hL⟩
  · obtain ⟨⟨v, rfl⟩, hW₂, e2, q2, q3, q4, q5, q6⟩ := id hfe
    have e3 : s₂ = ({ (U.calling g mk a).setFrames s₂.frames with heap := s₂.heap, slotsUsed := s₂.slotsUsed } : State).setVm s₂.vm := by
      have : s₂ = ({ s₂ with vm := (U.calling g mk a).vm } : State).setVm s₂.vm := rfl
      rw [e2] at this
      exact this
    obtain ⟨c₂, i₂, len₂, hc₂, hd₂, hf₂⟩ := hend
    have hW' : U.WarmedH s₂.vm := hW₂
    have hcc : c₂ = c := by
      have h1 : s₂.code? g.method = U.code? g.method := by
        rw [State.code?_eq, State.code?_eq, hW'.alike.method?]
      exact Option.some.inj (hc₂.symm.trans (h1.trans h.code))
    subst hcc
    have hlen : len₂ = len := by rw [hdg] at hd₂; cases hd₂; rfl
    subst hlen
    have hs₂ : s₂ = (({ U with heap := s₂.heap, slotsUsed := s₂.slotsUsed } : State).setVm s₂.vm).setTop { g with pc := g.pc + len₂, stack := v.toList ++ g.stack } := by
      refine e3.trans ?_
      rw [hf₂, State.calling_eq h.top, State.setFrames_setFrames, State.setTop_of_frames _ hr', hr]
      rfl
    have hsame : U.sameButNew ({ U with heap := s₂.heap, slotsUsed := s₂.slotsUsed } : State) L mc ms := by
      refine ⟨?_, q2, q3, q4, q5, q6⟩
      obtain ⟨t, ht, -⟩ := State.frames_cons hr
      show ({ U with heap := s₂.heap, slotsUsed := s₂.slotsUsed } : State) = { U.setFrames U.frames with heap := s₂.heap, slotsUsed := s₂.slotsUsed }
      rw [State.setFrames_self ht]
    subst hg
    refine Or.inl ⟨v, ⟨(({ U with heap := s₂.heap, slotsUsed := s₂.slotsUsed } : State).setVm s₂.vm), Ls ++ L, c0 + mc, s0 + ms⟩,
      ⟨X.admits, X.cas, X.clock, X.frames, X.room, X.hears, X.method, X.code, (X.here.setHeapUsed s₂.heap s₂.slotsUsed).setVm hW'.alike, X.tail, State.WarmedH.trans X.warmed hW', X.limits, X.bytes, X.same.trans (hsame.setVm s.vm)⟩,
      ⟨g, mk, s₂, L, rfl, rfl, hqc, rfl, hL, rfl, rfl⟩, ?_⟩
    show Steps p.tables e below _ ((({ U with heap := s₂.heap, slotsUsed := s₂.slotsUsed } : State).setVm s₂.vm).setTop { g with pc := g.pc + len₂, stack := v.toList ++ g.stack })
    rw [← hs₂]
    exact hsteps
  · obtain ⟨e2, q2, q3, q4, q5, q6⟩ := id hsm
    have e3 : s₂ = ({ (U.calling g mk a).setFrames s₂.frames with heap := s₂.heap, slotsUsed := s₂.slotsUsed } : State).setVm s₂.vm := by
      have : s₂ = ({ s₂ with vm := (U.calling g mk a).vm } : State).setVm s₂.vm := rfl
      rw [e2] at this
      exact this
    have hf₂ : s₂.frames = .throwing q :: .java g :: U.frames.tail := hend
    have hW' : U.WarmedH s₂.vm := hW₂
    have hs₂ : s₂ = ((({ U with heap := s₂.heap, slotsUsed := s₂.slotsUsed } : State).setVm s₂.vm).setTop g).pushFrame (.throwing q) := by
      refine e3.trans ?_
      rw [hf₂, State.calling_eq h.top, State.setFrames_setFrames, State.pushFrame, State.frames_setTop _ hr', State.setTop_of_frames _ hr', State.setFrames_setFrames, hr]
      rfl
    have hsame : U.sameButNew ({ U with heap := s₂.heap, slotsUsed := s₂.slotsUsed } : State) L mc ms := by
      refine ⟨?_, q2, q3, q4, q5, q6⟩
      obtain ⟨t, ht, -⟩ := State.frames_cons hr
      show ({ U with heap := s₂.heap, slotsUsed := s₂.slotsUsed } : State) = { U.setFrames U.frames with heap := s₂.heap, slotsUsed := s₂.slotsUsed }
      rw [State.setFrames_self ht]
    subst hg
    refine Or.inr ⟨q, ⟨(({ U with heap := s₂.heap, slotsUsed := s₂.slotsUsed } : State).setVm s₂.vm), Ls ++ L, c0 + mc, s0 + ms⟩,
      ⟨X.admits, X.cas, X.clock, X.frames, X.room, X.hears, X.method, X.code, (X.here.setHeapUsed s₂.heap s₂.slotsUsed).setVm hW'.alike, X.tail, State.WarmedH.trans X.warmed hW', X.limits, X.bytes, X.same.trans (hsame.setVm s.vm)⟩,
      ⟨g, mk, s₂, L, E, ce, rfl, rfl, hx, hce, hcv, hcl, rfl, hL, rfl, rfl⟩, ?_⟩
    show Steps p.tables e below _ (((({ U with heap := s₂.heap, slotsUsed := s₂.slotsUsed } : State).setVm s₂.vm).setTop g).pushFrame (.throwing q))
    rw [← hs₂]
    exact hsteps
end Payer
section Calls
variable {p : Program} {l : Launch} {e : Env} {R : Room} {s : State} {m : MethodId} {args : Array Value} {below : List Frame} {meth : Method} {c : Code} {T : State} {locs : List Loc} {cells slots : Nat}
theorem vx_callV (X : Stand p l e R s m args below meth c T locs cells slots) (hexec : p.tables.exec = Jvm.exec) {own C : String} {index : Nat} {y : MethodName} {bytes : ByteArray} {maxL : Nat} {ret : Option FieldType}
    (hown : s.vm.findClass own = some m.cls) (hlink : (Cond.methodLink own index y).before args s = true) (hinst : (Cond.instanceMethod y).before args s = true) (hsel : (Cond.selects C y y).before args s = true)
    (hcode : (Cond.code y bytes maxL ret).before args s = true) (hy : y.cls ≠ "java/lang/invoke/MethodHandle" ∧ y.cls ≠ "java/lang/invoke/VarHandle")
    {W9 : Nat} {Pre : Pt → Array Value → Prop} {Post : Pt → Array Value → Option Value → Pt → Prop} {PostX : Pt → Array Value → Addr → Pt → Prop} (hK : vx_Back l R p e below s args y 3 W9 Pre Post PostX)
    {b : Addr} {cellB : Cell} (hcell : T.heap[b]? = some cellB) (hobj : cellB.vm.isStatics = false) (hcls : s.vm.findClass C = some cellB.cls)
    {g : JFrame} (hg : g.method = m) (hsize : g.locals.size = c.maxLocals) {argsL rest : List Value} (hlen : ∀ sig, parseMethodDescriptor y.desc = some sig → argsL.length = sig.parameters.length)
    (hstack : g.stack = argsL.reverse ++ .ref b :: rest) (hW : 2 * g.monitorRoom + (rest.map fun v => v.category).sum ≤ W9) (hdg : decode c.code g.pc = .ok (.invokevirtual index, 3))
    (hpre : ∀ vm₁, s.WarmedH vm₁ → Pre ⟨T.setVm vm₁, locs, cells, slots⟩ (Value.ref b :: argsL).toArray) :
    (∃ (v : Option Value) (vm₁ : Vm) (B : Pt), s.WarmedH vm₁ ∧ Stand p l e R s m args below meth c B.U B.locs B.cells B.slots ∧ Post ⟨T.setVm vm₁, locs, cells, slots⟩ (Value.ref b :: argsL).toArray v B ∧
      ∀ target, Steps p.tables e below (B.U.setTop { g with pc := g.pc + 3, stack := v.toList ++ rest }) target → Steps p.tables e below (T.setTop g) target) ∨
    (∃ (q : Addr) (vm₁ : Vm) (B : Pt), s.WarmedH vm₁ ∧ Stand p l e R s m args below meth c B.U B.locs B.cells B.slots ∧ PostX ⟨T.setVm vm₁, locs, cells, slots⟩ (Value.ref b :: argsL).toArray q B ∧
      Steps p.tables e below (T.setTop g) ((B.U.setTop { g with stack := rest }).pushFrame (.throwing q))) := by
  obtain ⟨mk, methM, hnamed, hmethM, hstM, habM⟩ := Cond.instanceMethod_spec hinst
  obtain ⟨methM', cM, hmethM', -, -, -, -, -, -, hsigM⟩ := Cond.code_spec hnamed hcode
  cases hmethM.symm.trans hmethM'
  obtain ⟨c2, r2, m2, q1, q2, q3, q4, kP, hkP, hkPi⟩ := Cond.selects_spec hsel
  cases hcls.symm.trans q1
  cases (State.methodFound?_of_named hnamed hy).symm.trans q2
  cases hnamed.symm.trans q3
  have hselP : selectMethod e.platform s.vm cellB.cls mk = .method mk := by rw [Launch.admits_selectMethod X.admits]; exact q4
  obtain ⟨vm₁, X₁, hstep₁⟩ := X.invokevirtual hexec hown hlink hnamed hmethM hstM hkP hkPi hy (a := b) (cell := cellB) hcell
    (fun z h => by rw [h] at hobj; cases hobj) hselP hmethM habM hkP hkPi (g := g) hg (argsL := argsL) (rest := rest) (hlen _ hsigM) hstack hdg
  rcases hK m meth c ⟨T.setVm vm₁, locs, cells, slots⟩ { g with stack := rest } (.invokevirtual index) mk (Value.ref b :: argsL).toArray X₁ hg hsize hdg hW (X₁.named hnamed) (hpre vm₁ X₁.warmed) with ⟨v, B, X', hpost, hsteps⟩ | ⟨q, B, X', hpost, hsteps⟩
  · exact Or.inl ⟨v, vm₁, B, X₁.warmed, X', hpost, fun target h => hstep₁ _ fun acts => by rw [doInvoke_state]; exact hsteps.trans h⟩
  · exact Or.inr ⟨q, vm₁, B, X₁.warmed, X', hpost, hstep₁ _ fun acts => by rw [doInvoke_state]; exact hsteps⟩
theorem vx_callS (X : Stand p l e R s m args below meth c T locs cells slots) (hexec : p.tables.exec = Jvm.exec) {own : String} {index : Nat} {y : MethodName} {bytes : ByteArray} {maxL : Nat} {ret : Option FieldType}
    (hown : s.vm.findClass own = some m.cls) (hlink : (Cond.methodLink own index y).before args s = true) (hstat : (Cond.static y).before args s = true) (hinit : (Cond.initialized y.cls).before args s = true)
    (hcode : (Cond.code y bytes maxL ret).before args s = true) (hy : y.cls ≠ "java/lang/invoke/MethodHandle" ∧ y.cls ≠ "java/lang/invoke/VarHandle")
    {W9 : Nat} {Pre : Pt → Array Value → Prop} {Post : Pt → Array Value → Option Value → Pt → Prop} {PostX : Pt → Array Value → Addr → Pt → Prop} (hK : vx_Back l R p e below s args y 3 W9 Pre Post PostX)
    {g : JFrame} (hg : g.method = m) (hsize : g.locals.size = c.maxLocals) {argsL rest : List Value} (hlen : ∀ sig, parseMethodDescriptor y.desc = some sig → argsL.length = sig.parameters.length)
    (hstack : g.stack = argsL.reverse ++ rest) (hW : 2 * g.monitorRoom + (rest.map fun v => v.category).sum ≤ W9) (hdg : decode c.code g.pc = .ok (.invokestatic index, 3))
    (hpre : ∀ vm₁, s.WarmedH vm₁ → Pre ⟨T.setVm vm₁, locs, cells, slots⟩ argsL.toArray) :
    (∃ (v : Option Value) (vm₁ : Vm) (B : Pt), s.WarmedH vm₁ ∧ Stand p l e R s m args below meth c B.U B.locs B.cells B.slots ∧ Post ⟨T.setVm vm₁, locs, cells, slots⟩ argsL.toArray v B ∧
      ∀ target, Steps p.tables e below (B.U.setTop { g with pc := g.pc + 3, stack := v.toList ++ rest }) target → Steps p.tables e below (T.setTop g) target) ∨
    (∃ (q : Addr) (vm₁ : Vm) (B : Pt), s.WarmedH vm₁ ∧ Stand p l e R s m args below meth c B.U B.locs B.cells B.slots ∧ PostX ⟨T.setVm vm₁, locs, cells, slots⟩ argsL.toArray q B ∧
      Steps p.tables e below (T.setTop g) ((B.U.setTop { g with stack := rest }).pushFrame (.throwing q))) := by
  obtain ⟨mk, hnamed⟩ := Cond.code_named hcode
  obtain ⟨methM, cM, hmethM, -, -, -, -, -, -, hsigM⟩ := Cond.code_spec hnamed hcode
  have hstatic : methM.isStatic = true := Cond.static_spec hnamed hmethM hstat
  obtain ⟨kP, hkP, -⟩ := className_of_methodNamed hnamed
  have hinitP : kP.init = .initialized := Cond.initialized_spec (findClass_of_methodNamed hnamed) hkP hinit
  obtain ⟨vm₁, X₁, hstep₁⟩ := X.invokestatic hexec hown hlink hnamed hmethM hstatic hkP hinitP hy (g := g) hg (argsL := argsL) (rest := rest) (hlen _ hsigM) hstack hdg
  rcases hK m meth c ⟨T.setVm vm₁, locs, cells, slots⟩ { g with stack := rest } (.invokestatic index) mk argsL.toArray X₁ hg hsize hdg hW (X₁.named hnamed) (hpre vm₁ X₁.warmed) with ⟨v, B, X', hpost, hsteps⟩ | ⟨q, B, X', hpost, hsteps⟩
  · exact Or.inl ⟨v, vm₁, B, X₁.warmed, X', hpost, fun target h => hstep₁ _ fun acts => by rw [doInvoke_state]; exact hsteps.trans h⟩
  · exact Or.inr ⟨q, vm₁, B, X₁.warmed, X', hpost, hstep₁ _ fun acts => by rw [doInvoke_state]; exact hsteps⟩
end Calls
theorem vx_cls {s : State} {T : State} {vm₁ : Vm} {E : String} {k : ClassId} (hW : s.WarmedH vm₁) (h : (T.setVm vm₁).vm.findClass E = some k) : s.vm.findClass E = some k := by
  have h1 : vm₁.findClass E = some k := h
  rw [hW.alike.findClass] at h1
  exact h1
/-- the method's frame g, with q thrown over it -/
def vx_W (p : Program) (l : Launch) (e : Env) (R : Room) (s : State) (m : MethodId) (args : Array Value) (below : List Frame) (meth : Method) (c : Code) (H : Heap) (locs : List Loc) (cells slots : Nat) (Q : State → Prop) (g : JFrame) (q : Addr) : Prop :=
  ∀ T : State, T.heap = H → Stand p l e R s m args below meth c T locs cells slots → ∃ t, Steps p.tables e below ((T.setTop g).pushFrame (.throwing q)) t ∧ Q t
def vx_Run (p : Program) (l : Launch) (e : Env) (R : Room) (s : State) (m : MethodId) (args : Array Value) (below : List Frame) (meth : Method) (c : Code) (H : Heap) (locs : List Loc) (cells slots mc ms : Nat) (g : JFrame) (rest : List Value) (Qa : State → Outcome → State → Prop) (XC : String → State → State → Prop) (free : Addr → Prop) : Prop :=
  ∀ T : State, T.heap = H → Stand p l e R s m args below meth c T locs cells slots →
    (∃ (v : Option Value) (st₀ t T' : State) (L : List Loc), st₀.heap = H ∧ Stand p l e R s m args below meth c T' (locs ++ L) (cells + mc) (slots + ms) ∧ (∀ q ∈ L, free q.base) ∧ T'.heap = t.heap ∧ T'.vm = t.vm ∧ Qa st₀ (.returned v) t ∧
      Goes p e below T g T' { g with pc := g.pc + 3, stack := v.toList ++ rest }) ∨
    (∃ (q : Addr) (st₀ t T' : State) (L : List Loc) (E : String) (ce : Cell), st₀.heap = H ∧ Stand p l e R s m args below meth c T' (locs ++ L) (cells + mc) (slots + ms) ∧ (∀ z ∈ L, free z.base) ∧ T'.heap = t.heap ∧ T'.vm = t.vm ∧ XC E st₀ t ∧ t.heap[q]? = some ce ∧ ce.vm = .none ∧ s.vm.findClass E = some ce.cls ∧
      Steps p.tables e below (T.setTop g) ((T'.setTop { g with stack := rest }).pushFrame (.throwing q)))
def vx_X {S : Type} (px : S → Prop) (B : String → S → State → Prop) (A : Nat → Prop) : String → State → State → Prop := fun E st t => ∃ u : S, px u ∧ B E u t ∧ va_F A st t
section Runs
variable {p : Program} {l : Launch} {e : Env} {R : Room} {s : State} {m : MethodId} {args : Array Value} {below : List Frame} {meth : Method} {c : Code} {H : Heap} {locs : List Loc} {cells slots : Nat}
variable {y : MethodName} {bytes cc : ByteArray} {maxL nL mc ms n index : Nat} {ret : Option FieldType} {ws : List Cond} {rm : Room} {Pc : Array Value → State → Prop} {Qc : Array Value → State → Outcome → State → Prop} {XC : String → State → State → Prop} {free : Addr → Prop} {Ts : List Cond} {own C : String} {b : Addr} {As rest : List Value} {g : JFrame}
theorem vx_callBack (cb : CallB R s args own index y bytes maxL ret ws rm mc ms n) (hM : vx_Met l y ws rm Pc Qc XC mc ms free) (hbl : FrameBlind Pc) : vx_Back l R p e below s args y 3 8 (PreOf R mc ms Pc) (PostOf Qc mc ms free) (vx_Post XC mc ms free) := by
  obtain ⟨hrc, hrs, hfr, hlo, hws, hcw, -, hini, -⟩ := cb
  exact vx_back (bytes := bytes) (maxL := maxL) (ret := ret) hM hbl hrc hrs hfr hlo hws hcw (fun a' U hW => word_at hW (Or.inl (by first | rfl | simp [Cond.onTables, Cond.keeps, Cond.steady])) hini)
theorem vx_runV (S : CallFix p m c cc nL s args Ts own) (hM : vx_Met l y ws rm Pc Qc XC mc ms free) (cw : CallW R s args own C index y bytes maxL ret ws rm mc ms n) (hp : PreV s H C b Pc As)
    (hg : g.method = m) (hn : As.length = n) (hsize : g.locals.size = nL) (hstack : g.stack = As.reverse ++ .ref b :: rest) (hW : 2 * g.monitorRoom + (rest.map fun v => v.category).sum ≤ 8) (hdg : decode cc g.pc = .ok (.invokevirtual index, 3)) (hf : cells + mc ≤ R.cells ∧ slots + ms ≤ R.slots) :
    vx_Run p l e R s m args below meth c H locs cells slots mc ms g rest (Qc (Value.ref b :: As).toArray) XC free := by
  have hK : vx_Back l R p e below s args y 3 8 (PreOf R mc ms Pc) (PostOf Qc mc ms free) (vx_Post XC mc ms free) := vx_callBack cw.1 hM hp.1
  obtain ⟨⟨-, -, -, -, -, -, hcode, -, hy, hlen, hl⟩, hin, hse⟩ := cw
  obtain ⟨hx, hb, hml, ho, -⟩ := S
  obtain ⟨-, ⟨cellB, hcB, hoB, hclB⟩, hPc⟩ := hp
  intro T hT X
  rcases vx_callV X hx (C := C) (bytes := bytes) (maxL := maxL) (ret := ret) ho hl hin hse hcode hy hK (by rw [hT]; exact hcB) hoB hclB hg (hsize.trans hml.symm) (argsL := As) (rest := rest) (fun sig h => hn.trans (hlen sig h)) hstack hW (by rw [hb]; exact hdg)
    (fun vm₁ hW₁ => ⟨hf.1, hf.2, hPc (T.setVm vm₁) hT hW₁⟩) with ⟨v, vm₁, ⟨U', l2, c2, s2⟩, hW₁, X', ⟨g', mk, t, L, e1, e2, hq, h1, hL, h2, h3⟩, st⟩ | ⟨q, vm₁, ⟨U', l2, c2, s2⟩, hW₁, X', ⟨g', mk, t, L, E, ce, e1, e2, hq, hce, hcv, hcl, h1, hL, h2, h3⟩, st⟩
  · dsimp only [Pt.U, Pt.locs, Pt.cells, Pt.slots] at X' e1 e2 h1 h2 h3 st
    subst h1; subst h2; subst h3
    exact Or.inl ⟨v, (T.setVm vm₁).calling g' mk (Value.ref b :: As).toArray, t, U', L, hT, X', hL, e1, e2, hq, st⟩
  · dsimp only [Pt.U, Pt.locs, Pt.cells, Pt.slots] at X' e1 e2 h1 h2 h3 st hcl
    subst h1; subst h2; subst h3
    exact Or.inr ⟨q, (T.setVm vm₁).calling g' mk (Value.ref b :: As).toArray, t, U', L, E, ce, hT, X', hL, e1, e2, hq, hce, hcv, vx_cls hW₁ hcl, st⟩
theorem vx_runS (S : CallFix p m c cc nL s args Ts own) (hM : vx_Met l y ws rm Pc Qc XC mc ms free) (cw : CallB R s args own index y bytes maxL ret ws rm mc ms n ∧ (Cond.static y).before args s = true) (hp : PreS s H Pc As)
    (hg : g.method = m) (hn : As.length = n) (hsize : g.locals.size = nL) (hstack : g.stack = As.reverse ++ rest) (hW : 2 * g.monitorRoom + (rest.map fun v => v.category).sum ≤ 8) (hdg : decode cc g.pc = .ok (.invokestatic index, 3)) (hf : cells + mc ≤ R.cells ∧ slots + ms ≤ R.slots) :
    vx_Run p l e R s m args below meth c H locs cells slots mc ms g rest (Qc As.toArray) XC free := by
  have hK : vx_Back l R p e below s args y 3 8 (PreOf R mc ms Pc) (PostOf Qc mc ms free) (vx_Post XC mc ms free) := vx_callBack cw.1 hM hp.1
  obtain ⟨⟨-, -, -, -, -, -, hcode, hini, hy, hlen, hl⟩, hstt⟩ := cw
  obtain ⟨hx, hb, hml, ho, -⟩ := S
  intro T hT X
  rcases vx_callS X hx (bytes := bytes) (maxL := maxL) (ret := ret) ho hl hstt hini hcode hy hK hg (hsize.trans hml.symm) (argsL := As) (rest := rest) (fun sig h => hn.trans (hlen sig h)) hstack hW (by rw [hb]; exact hdg)
    (fun vm₁ hW₁ => ⟨hf.1, hf.2, hp.2 (T.setVm vm₁) hT hW₁⟩) with ⟨v, vm₁, ⟨U', l2, c2, s2⟩, hW₁, X', ⟨g', mk, t, L, e1, e2, hq, h1, hL, h2, h3⟩, st⟩ | ⟨q, vm₁, ⟨U', l2, c2, s2⟩, hW₁, X', ⟨g', mk, t, L, E, ce, e1, e2, hq, hce, hcv, hcl, h1, hL, h2, h3⟩, st⟩
  · dsimp only [Pt.U, Pt.locs, Pt.cells, Pt.slots] at X' e1 e2 h1 h2 h3 st
    subst h1; subst h2; subst h3
    exact Or.inl ⟨v, (T.setVm vm₁).calling g' mk As.toArray, t, U', L, hT, X', hL, e1, e2, hq, st⟩
  · dsimp only [Pt.U, Pt.locs, Pt.cells, Pt.slots] at X' e1 e2 h1 h2 h3 st hcl
    subst h1; subst h2; subst h3
    exact Or.inr ⟨q, (T.setVm vm₁).calling g' mk As.toArray, t, U', L, E, ce, hT, X', hL, e1, e2, hq, hce, hcv, vx_cls hW₁ hcl, st⟩
end Runs
section Rows
variable {p : Program} {l : Launch} {e : Env} {R : Room} {s : State} {m : MethodId} {args : Array Value} {below : List Frame} {meth : Method} {c : Code} {H : Heap} {locs : List Loc} {cells slots : Nat} {Q : State → Prop}
variable {mc ms : Nat} {free : Addr → Prop} {A0 A1 : Nat → Prop} {H0 : Heap} {a : Array Value} {pc : Nat} {ls : Array Slot} {st0 rest : List Value}
theorem vx_keep {st₀ t T' : State} {L : List Loc} (h0 : st₀.heap = H) (e1 : T'.heap = t.heap) (hS : va_S A0 H0 H locs) (hA : ∀ q, q < H.size → A1 q → A0 q) (hf : ∀ q, free q → A0 q) (hL : ∀ q ∈ L, free q.base) (hF : va_F A1 st₀ t) :
    H.size ≤ T'.heap.size ∧ (∀ q : Nat, q < H.size → ¬ A1 q → T'.heap[q]? = H[q]?) ∧ va_S A0 H0 T'.heap (locs ++ L) := by
  obtain ⟨hz, hk⟩ := hF
  rw [h0] at hz hk
  exact ⟨by rw [e1]; exact hz, fun q h1 h2 => by rw [e1]; exact hk q h1 h2,
    ⟨Nat.le_trans hS.1 (by rw [e1]; exact hz), fun q h1 h2 => by rw [e1, hk q (Nat.lt_of_lt_of_le h1 hS.1) (fun z => h2 (hA q (Nat.lt_of_lt_of_le h1 hS.1) z))]; exact hS.2.1 q h1 h2, fun q hq => by
      rcases List.mem_append.mp hq with h | h
      · exact hS.2.2 q h
      · exact hf _ (hL q h)⟩⟩
theorem vx_calli {S SX : Type} {post : Int32 → S → Prop} {px : SX → Prop} {B : S → State → Prop} {BX : String → SX → State → Prop} {AX : Nat → Prop} (hr : vx_Run p l e R s m args below meth c H locs cells slots mc ms (F0 m pc ls st0) rest (va_Qi post B A1 a) (vx_X px BX AX) free) (hS : va_S A0 H0 H locs) (hA : ∀ q, q < H.size → A1 q → A0 q) (hf : ∀ q, free q → A0 q) (hAX : ∀ q, q < H.size → AX q → A0 q)
    (kx : ∀ (E : String) (ce : Cell) (q9 : Addr) (u : SX) (t : State) (H1 : Heap) (locs1 : List Loc), t.heap = H1 → s.vm.Alike t.vm → px u → BX E u t → H.size ≤ H1.size → (∀ q : Nat, q < H.size → ¬ AX q → H1[q]? = H[q]?) → va_S A0 H0 H1 locs1 → H1[q9]? = some ce → ce.vm = .none → s.vm.findClass E = some ce.cls → vx_W p l e R s m args below meth c H1 locs1 (cells + mc) (slots + ms) Q (F0 m pc ls rest) q9)
    (kk : ∀ (r : Int32) (u : S) (t : State) (H1 : Heap) (locs1 : List Loc), t.heap = H1 → s.vm.Alike t.vm → post r u → B u t → H.size ≤ H1.size → (∀ q : Nat, q < H.size → ¬ A1 q → H1[q]? = H[q]?) → va_S A0 H0 H1 locs1 → W p l e R s m args below meth c H1 locs1 (cells + mc) (slots + ms) Q (F0 m (pc + 3) ls (.int r :: rest))) : W p l e R s m args below meth c H locs cells slots Q (F0 m pc ls st0) := by
  intro T hT X
  rcases hr T hT X with ⟨v, st₀, t, T', L, h0, X', hL, e1, e2, ⟨⟨r, u, hv, hp, hb⟩, hF⟩, st⟩ | ⟨q, st₀, t, T', L, E, ce, h0, X', hL, e1, e2, ⟨u, hp, hb, hF⟩, hce, hcv, hcl, st⟩
  · cases hv
    obtain ⟨k1, k2, k3⟩ := vx_keep h0 e1 hS hA hf hL hF
    obtain ⟨t2, a1, b1⟩ := kk r u t T'.heap (locs ++ L) e1.symm (by rw [← e2]; exact X'.warmed.alike) hp hb k1 k2 k3 T' rfl X'
    exact ⟨t2, st t2 a1, b1⟩
  · obtain ⟨k1, k2, k3⟩ := vx_keep h0 e1 hS hAX hf hL hF
    obtain ⟨t2, a1, b1⟩ := kx E ce q u t T'.heap (locs ++ L) e1.symm (by rw [← e2]; exact X'.warmed.alike) hp hb k1 k2 k3 (by rw [e1]; exact hce) hcv hcl T' rfl X'
    exact ⟨t2, st.trans a1, b1⟩
theorem vx_calll {S SX : Type} {post : Int64 → S → Prop} {px : SX → Prop} {B : S → State → Prop} {BX : String → SX → State → Prop} {AX : Nat → Prop} (hr : vx_Run p l e R s m args below meth c H locs cells slots mc ms (F0 m pc ls st0) rest (va_Ql post B A1 a) (vx_X px BX AX) free) (hS : va_S A0 H0 H locs) (hA : ∀ q, q < H.size → A1 q → A0 q) (hf : ∀ q, free q → A0 q) (hAX : ∀ q, q < H.size → AX q → A0 q)
    (kx : ∀ (E : String) (ce : Cell) (q9 : Addr) (u : SX) (t : State) (H1 : Heap) (locs1 : List Loc), t.heap = H1 → s.vm.Alike t.vm → px u → BX E u t → H.size ≤ H1.size → (∀ q : Nat, q < H.size → ¬ AX q → H1[q]? = H[q]?) → va_S A0 H0 H1 locs1 → H1[q9]? = some ce → ce.vm = .none → s.vm.findClass E = some ce.cls → vx_W p l e R s m args below meth c H1 locs1 (cells + mc) (slots + ms) Q (F0 m pc ls rest) q9)
    (kk : ∀ (r : Int64) (u : S) (t : State) (H1 : Heap) (locs1 : List Loc), t.heap = H1 → s.vm.Alike t.vm → post r u → B u t → H.size ≤ H1.size → (∀ q : Nat, q < H.size → ¬ A1 q → H1[q]? = H[q]?) → va_S A0 H0 H1 locs1 → W p l e R s m args below meth c H1 locs1 (cells + mc) (slots + ms) Q (F0 m (pc + 3) ls (.long r :: rest))) : W p l e R s m args below meth c H locs cells slots Q (F0 m pc ls st0) := by
  intro T hT X
  rcases hr T hT X with ⟨v, st₀, t, T', L, h0, X', hL, e1, e2, ⟨⟨r, u, hv, hp, hb⟩, hF⟩, st⟩ | ⟨q, st₀, t, T', L, E, ce, h0, X', hL, e1, e2, ⟨u, hp, hb, hF⟩, hce, hcv, hcl, st⟩
  · cases hv
    obtain ⟨k1, k2, k3⟩ := vx_keep h0 e1 hS hA hf hL hF
    obtain ⟨t2, a1, b1⟩ := kk r u t T'.heap (locs ++ L) e1.symm (by rw [← e2]; exact X'.warmed.alike) hp hb k1 k2 k3 T' rfl X'
    exact ⟨t2, st t2 a1, b1⟩
  · obtain ⟨k1, k2, k3⟩ := vx_keep h0 e1 hS hAX hf hL hF
    obtain ⟨t2, a1, b1⟩ := kx E ce q u t T'.heap (locs ++ L) e1.symm (by rw [← e2]; exact X'.warmed.alike) hp hb k1 k2 k3 (by rw [e1]; exact hce) hcv hcl T' rfl X'
    exact ⟨t2, st.trans a1, b1⟩
theorem vx_callf {S SX : Type} {post : UInt32 → S → Prop} {px : SX → Prop} {B : S → State → Prop} {BX : String → SX → State → Prop} {AX : Nat → Prop} (hr : vx_Run p l e R s m args below meth c H locs cells slots mc ms (F0 m pc ls st0) rest (va_Qf post B A1 a) (vx_X px BX AX) free) (hS : va_S A0 H0 H locs) (hA : ∀ q, q < H.size → A1 q → A0 q) (hf : ∀ q, free q → A0 q) (hAX : ∀ q, q < H.size → AX q → A0 q)
    (kx : ∀ (E : String) (ce : Cell) (q9 : Addr) (u : SX) (t : State) (H1 : Heap) (locs1 : List Loc), t.heap = H1 → s.vm.Alike t.vm → px u → BX E u t → H.size ≤ H1.size → (∀ q : Nat, q < H.size → ¬ AX q → H1[q]? = H[q]?) → va_S A0 H0 H1 locs1 → H1[q9]? = some ce → ce.vm = .none → s.vm.findClass E = some ce.cls → vx_W p l e R s m args below meth c H1 locs1 (cells + mc) (slots + ms) Q (F0 m pc ls rest) q9)
    (kk : ∀ (r : UInt32) (u : S) (t : State) (H1 : Heap) (locs1 : List Loc), t.heap = H1 → s.vm.Alike t.vm → post r u → B u t → H.size ≤ H1.size → (∀ q : Nat, q < H.size → ¬ A1 q → H1[q]? = H[q]?) → va_S A0 H0 H1 locs1 → W p l e R s m args below meth c H1 locs1 (cells + mc) (slots + ms) Q (F0 m (pc + 3) ls (.float r :: rest))) : W p l e R s m args below meth c H locs cells slots Q (F0 m pc ls st0) := by
  intro T hT X
  rcases hr T hT X with ⟨v, st₀, t, T', L, h0, X', hL, e1, e2, ⟨⟨r, u, hv, hp, hb⟩, hF⟩, st⟩ | ⟨q, st₀, t, T', L, E, ce, h0, X', hL, e1, e2, ⟨u, hp, hb, hF⟩, hce, hcv, hcl, st⟩
  · cases hv
    obtain ⟨k1, k2, k3⟩ := vx_keep h0 e1 hS hA hf hL hF
    obtain ⟨t2, a1, b1⟩ := kk r u t T'.heap (locs ++ L) e1.symm (by rw [← e2]; exact X'.warmed.alike) hp hb k1 k2 k3 T' rfl X'
    exact ⟨t2, st t2 a1, b1⟩
  · obtain ⟨k1, k2, k3⟩ := vx_keep h0 e1 hS hAX hf hL hF
    obtain ⟨t2, a1, b1⟩ := kx E ce q u t T'.heap (locs ++ L) e1.symm (by rw [← e2]; exact X'.warmed.alike) hp hb k1 k2 k3 (by rw [e1]; exact hce) hcv hcl T' rfl X'
    exact ⟨t2, st.trans a1, b1⟩
theorem vx_calld {S SX : Type} {post : UInt64 → S → Prop} {px : SX → Prop} {B : S → State → Prop} {BX : String → SX → State → Prop} {AX : Nat → Prop} (hr : vx_Run p l e R s m args below meth c H locs cells slots mc ms (F0 m pc ls st0) rest (va_Qd post B A1 a) (vx_X px BX AX) free) (hS : va_S A0 H0 H locs) (hA : ∀ q, q < H.size → A1 q → A0 q) (hf : ∀ q, free q → A0 q) (hAX : ∀ q, q < H.size → AX q → A0 q)
    (kx : ∀ (E : String) (ce : Cell) (q9 : Addr) (u : SX) (t : State) (H1 : Heap) (locs1 : List Loc), t.heap = H1 → s.vm.Alike t.vm → px u → BX E u t → H.size ≤ H1.size → (∀ q : Nat, q < H.size → ¬ AX q → H1[q]? = H[q]?) → va_S A0 H0 H1 locs1 → H1[q9]? = some ce → ce.vm = .none → s.vm.findClass E = some ce.cls → vx_W p l e R s m args below meth c H1 locs1 (cells + mc) (slots + ms) Q (F0 m pc ls rest) q9)
    (kk : ∀ (r : UInt64) (u : S) (t : State) (H1 : Heap) (locs1 : List Loc), t.heap = H1 → s.vm.Alike t.vm → post r u → B u t → H.size ≤ H1.size → (∀ q : Nat, q < H.size → ¬ A1 q → H1[q]? = H[q]?) → va_S A0 H0 H1 locs1 → W p l e R s m args below meth c H1 locs1 (cells + mc) (slots + ms) Q (F0 m (pc + 3) ls (.double r :: rest))) : W p l e R s m args below meth c H locs cells slots Q (F0 m pc ls st0) := by
  intro T hT X
  rcases hr T hT X with ⟨v, st₀, t, T', L, h0, X', hL, e1, e2, ⟨⟨r, u, hv, hp, hb⟩, hF⟩, st⟩ | ⟨q, st₀, t, T', L, E, ce, h0, X', hL, e1, e2, ⟨u, hp, hb, hF⟩, hce, hcv, hcl, st⟩
  · cases hv
    obtain ⟨k1, k2, k3⟩ := vx_keep h0 e1 hS hA hf hL hF
    obtain ⟨t2, a1, b1⟩ := kk r u t T'.heap (locs ++ L) e1.symm (by rw [← e2]; exact X'.warmed.alike) hp hb k1 k2 k3 T' rfl X'
    exact ⟨t2, st t2 a1, b1⟩
  · obtain ⟨k1, k2, k3⟩ := vx_keep h0 e1 hS hAX hf hL hF
    obtain ⟨t2, a1, b1⟩ := kx E ce q u t T'.heap (locs ++ L) e1.symm (by rw [← e2]; exact X'.warmed.alike) hp hb k1 k2 k3 (by rw [e1]; exact hce) hcv hcl T' rfl X'
    exact ⟨t2, st.trans a1, b1⟩
theorem vx_callv {S SX : Type} {post : S → Prop} {px : SX → Prop} {B : S → State → Prop} {BX : String → SX → State → Prop} {AX : Nat → Prop} (hr : vx_Run p l e R s m args below meth c H locs cells slots mc ms (F0 m pc ls st0) rest (va_Qv post B A1 a) (vx_X px BX AX) free) (hS : va_S A0 H0 H locs) (hA : ∀ q, q < H.size → A1 q → A0 q) (hf : ∀ q, free q → A0 q) (hAX : ∀ q, q < H.size → AX q → A0 q)
    (kx : ∀ (E : String) (ce : Cell) (q9 : Addr) (u : SX) (t : State) (H1 : Heap) (locs1 : List Loc), t.heap = H1 → s.vm.Alike t.vm → px u → BX E u t → H.size ≤ H1.size → (∀ q : Nat, q < H.size → ¬ AX q → H1[q]? = H[q]?) → va_S A0 H0 H1 locs1 → H1[q9]? = some ce → ce.vm = .none → s.vm.findClass E = some ce.cls → vx_W p l e R s m args below meth c H1 locs1 (cells + mc) (slots + ms) Q (F0 m pc ls rest) q9)
    (kk : ∀ (u : S) (t : State) (H1 : Heap) (locs1 : List Loc), t.heap = H1 → s.vm.Alike t.vm → post u → B u t → H.size ≤ H1.size → (∀ q : Nat, q < H.size → ¬ A1 q → H1[q]? = H[q]?) → va_S A0 H0 H1 locs1 → W p l e R s m args below meth c H1 locs1 (cells + mc) (slots + ms) Q (F0 m (pc + 3) ls (rest))) : W p l e R s m args below meth c H locs cells slots Q (F0 m pc ls st0) := by
  intro T hT X
  rcases hr T hT X with ⟨v, st₀, t, T', L, h0, X', hL, e1, e2, ⟨⟨u, hv, hp, hb⟩, hF⟩, st⟩ | ⟨q, st₀, t, T', L, E, ce, h0, X', hL, e1, e2, ⟨u, hp, hb, hF⟩, hce, hcv, hcl, st⟩
  · cases hv
    obtain ⟨k1, k2, k3⟩ := vx_keep h0 e1 hS hA hf hL hF
    obtain ⟨t2, a1, b1⟩ := kk u t T'.heap (locs ++ L) e1.symm (by rw [← e2]; exact X'.warmed.alike) hp hb k1 k2 k3 T' rfl X'
    exact ⟨t2, st t2 a1, b1⟩
  · obtain ⟨k1, k2, k3⟩ := vx_keep h0 e1 hS hAX hf hL hF
    obtain ⟨t2, a1, b1⟩ := kx E ce q u t T'.heap (locs ++ L) e1.symm (by rw [← e2]; exact X'.warmed.alike) hp hb k1 k2 k3 (by rw [e1]; exact hce) hcv hcl T' rfl X'
    exact ⟨t2, st.trans a1, b1⟩
/-- caught by the row x of this method's table; the rows ahead don't take it -/
theorem vx_catch {own name : String} {E : String} {ce : Cell} {q : Addr} (hown : s.vm.findClass own = some m.cls) (pre : List ExceptionTableEntry) (x : ExceptionTableEntry) (suf : List ExceptionTableEntry) (hsplit : c.exceptionTable.toList = pre ++ x :: suf)
    (hpass : ∀ z ∈ pre, covers z pc = false ∨ (z.catchType ≠ 0 ∧ ∃ nm : String, (Cond.classLink own z.catchType nm).before args s = true ∧ va_Nc E nm s)) (hx : covers x pc = true) (h0 : x.catchType ≠ 0)
    (hlink : (Cond.classLink own x.catchType name).before args s = true) (hcast : (Cond.castable E name).before args s = true) (hcell : H[q]? = some ce) (hv : ce.vm = .none) (hcl : s.vm.findClass E = some ce.cls)
    (kk : W p l e R s m args below meth c H locs cells slots Q (F0 m x.handlerPc ls [.ref q])) : vx_W p l e R s m args below meth c H locs cells slots Q (F0 m pc ls rest) q := by
  intro T hT X
  have hpl : e.platform.magicAccessors = ({} : Platform).magicAccessors := by rw [X.admits.platform]
  obtain ⟨c3, c4, hc3, hc4, hasg⟩ := Cond.castable_spec hcast
  cases Option.some.inj (hc3.symm.trans hcl)
  obtain ⟨c5, hc5, hcl5⟩ := Cond.classLink_spec hown hlink e.platform hpl
  cases Option.some.inj (hc4.symm.trans hc5)
  obtain ⟨vm', X', st⟩ := X.thenCaughtThrough q (g := F0 m pc ls rest) rfl (Steps.refl _) (by rw [hT]; exact hcell) (by rw [hv]; rfl) (by obtain ⟨k9, h9, -⟩ := Vm.findClass_spec hcl; exact ⟨k9, h9⟩) pre x suf hsplit
    (fun z hz => by
      rcases hpass z hz with h | ⟨hz0, nm, hl1, hn1⟩
      · exact Or.inl h
      · obtain ⟨c6, hc6, hcl6⟩ := Cond.classLink_spec hown hl1 e.platform hpl
        obtain ⟨a8, b8, h1, h2, h3⟩ := hn1
        cases Option.some.inj (h1.symm.trans hcl)
        cases Option.some.inj (h2.symm.trans hc6)
        exact Or.inr ⟨hz0, _, hcl6, h3⟩) hx (Or.inr ⟨h0, c4, hcl5, hasg⟩)
  obtain ⟨t, a1, b1⟩ := kk (T.setVm vm') hT X'
  exact ⟨t, st.trans a1, b1⟩
end Rows
section Ends
variable {p : Program} {l : Launch} {e : Env} {R : Room} {s : State} {m : MethodId} {args : Array Value} {below : List Frame} {meth : Method} {c : Code} {H : Heap} {locs : List Loc} {cells slots : Nat} {Q : State → Prop}
variable {mc ms : Nat} {free : Addr → Prop} {A0 A1 : Nat → Prop} {H0 : Heap} {a : Array Value} {ls : Array Slot} {st0 rest : List Value}
variable {Qc : Array Value → State → Outcome → State → Prop} {XC : String → State → State → Prop}
/-- what a body that may throw owes at its end -/
def vx_MQ (below : List Frame) (Qc : Array Value → State → Outcome → State → Prop) (XC : String → State → State → Prop) (a : Array Value) (s : State) (mc ms : Nat) (free : Addr → Prop) : State → Prop := fun t =>
  ∃ o, t.status = .running ∧ Ended t below o ∧ vx_Q Qc XC mc ms free a s o t
theorem vx_ret {g : JFrame} {mc ms : Nat} (k : W p l e R s m args below meth c H locs cells slots (MQ below Qc args s mc ms free) g) : W p l e R s m args below meth c H locs cells slots (vx_MQ below Qc XC args s mc ms free) g := by
  intro T hT X
  obtain ⟨t, a1, o, b1, b2, b3, b4⟩ := k T hT X
  exact ⟨t, a1, o, b1, b2, Or.inl ⟨b3, b4⟩⟩
/-- not caught here: it goes on to the caller -/
theorem vx_widen {g : JFrame} {q : Addr} {k n : Nat} (h1 : cells ≤ k) (h2 : slots ≤ n) (kk : vx_W p l e R s m args below meth c H locs k n Q g q) : vx_W p l e R s m args below meth c H locs cells slots Q g q := fun T hT X => kk T hT (stand_widen X h1 h2)
theorem vx_out {pc : Nat} {E : String} {ce : Cell} {q : Addr} {mc ms : Nat} (hout : ∀ x ∈ c.exceptionTable.toList, covers x pc = false) (hlocks : meth.locks = false) (hcell : H[q]? = some ce) (hv : ce.vm = .none) (hcl : s.vm.findClass E = some ce.cls)
    (hx : ∀ t : State, t.heap = H → s.vm.Alike t.vm → XC E s t) (hf : ∀ z ∈ locs, free z.base) (hc : cells ≤ mc) (hs : slots ≤ ms) :
    vx_W p l e R s m args below meth c H locs cells slots (vx_MQ below Qc XC args s mc ms free) (F0 m pc ls rest) q := by
  intro T hT X
  obtain ⟨st1, hrun, hend, hW, hsm⟩ := X.leaveThrown q (g := F0 m pc ls rest) rfl rfl rfl hout hlocks
  have hcell9 : (T.setFrames (.throwing q :: below)).heap[q]? = some ce := by
    show T.heap[q]? = some ce
    rw [hT]; exact hcell
  exact ⟨_, st1, .threw q, hrun, hend, Or.inr ⟨q, rfl, E, ce, locs, hx _ hT hW.alike, hcell9, hv, hcl, hW, hsm.mono hc hs, hf⟩⟩
theorem vx_frame {U : State} {k n : Nat} (h : s.sameButNew ({ U with vm := s.vm } : State) locs k n) : s.heap.size ≤ U.heap.size ∧ ∀ q : Nat, q < s.heap.size → (∀ z ∈ locs, z.base ≠ q) → U.heap[q]? = s.heap[q]? := by
  obtain ⟨-, h2, -, -, -, h6⟩ := h
  refine ⟨h2, fun q hq hz => ?_⟩
  obtain ⟨c9, e1, e2, e3, e4⟩ := h6 q _ (Array.getElem?_eq_getElem hq)
  have hs : c9.slots = (s.heap[q]).slots := Array.ext_getElem? fun i => e4 i fun hm => hz _ hm rfl
  have h9 : c9 = s.heap[q] := by
    rw [hs] at e2
    exact e2
  have e5 : U.heap[q]? = some c9 := e1
  rw [e5, h9, Array.getElem?_eq_getElem hq]
/-- the words of a throw but the four that speak of the heap -/
def vx_no (w : Cond) : Bool := decide (w ≠ .isRef (.static Bundle.tN "UNASSIGNED_STACK" Bundle.steD)) && decide (w ≠ .isRef (.static Bundle.tN "SUPPRESSED_SENTINEL" Bundle.listD)) && decide (w ≠ .laysStatic Bundle.tN "UNASSIGNED_STACK" Bundle.steD) && decide (w ≠ .laysStatic Bundle.tN "SUPPRESSED_SENTINEL" Bundle.listD)
def vx_at0 (own : String) (ic : Nat) (X : String) (names : List String) : List Cond := (Bundle.ownAtoms0 own ic X names).filter vx_no
def vx_atS (own : String) (ic : Nat) (X : String) (names : List String) : List Cond := (Bundle.ownAtoms own ic X names).filter vx_no
/-- a word that the tables alone decide, or a good one -/
def vx_ot (w : Cond) : Bool := w.onTables || goodWord w
theorem vx_ot_at {args a' : Array Value} {s U : State} {w : Cond} (hW : s.WarmedH U.vm) (hvm : s.vm = U.vm) (hg : vx_ot w = true) (h : w.before args s = true) : w.before a' U = true := by
  simp only [vx_ot, Bool.or_eq_true] at hg
  rcases hg with hg | hg
  · exact va_tabs hg hvm h
  · exact word_at hW (good_of_word hg) h
/-- a list's words: the good ones out of the method's own list, the others by premises of their own -/
theorem vx_hat {args : Array Value} {s : State} {L B : List Cond} (h1 : ∀ w ∈ L.filter goodWord, w.before args s = true) (h2 : ∀ w ∈ L.filter (fun w => !goodWord w), w ∈ B) (h3 : ∀ w ∈ B, w.before args s = true) : ∀ w ∈ L, w.before args s = true := by
  intro w hw
  by_cases g : goodWord w = true
  · exact h1 w (List.mem_filter.mpr ⟨hw, g⟩)
  · refine h3 w (h2 w (List.mem_filter.mpr ⟨hw, ?_⟩))
    show (!goodWord w) = true
    cases hgw : goodWord w
    · rfl
    · exact absurd hgw g
theorem vx_c {args : Array Value} {s : State} {w : Cond} {B : List Cond} (h : w.before args s = true) (t : ∀ w ∈ B, w.before args s = true) : ∀ w' ∈ w :: B, w'.before args s = true := fun w' h' => (List.mem_cons.mp h').elim (fun e => by rw [e]; exact h) (t w')
theorem vx_n {args : Array Value} {s : State} : ∀ w ∈ ([] : List Cond), w.before args s = true := fun _ h => nomatch h
theorem vx_own {args : Array Value} {s : State} {L : List Cond} (h1 : ∀ w ∈ L.filter vx_no, w.before args s = true)
    (hU : (Cond.isRef (.static Bundle.tN "UNASSIGNED_STACK" Bundle.steD)).before args s = true) (hN : (Cond.isRef (.static Bundle.tN "SUPPRESSED_SENTINEL" Bundle.listD)).before args s = true)
    (lU : (Cond.laysStatic Bundle.tN "UNASSIGNED_STACK" Bundle.steD).before args s = true) (lN : (Cond.laysStatic Bundle.tN "SUPPRESSED_SENTINEL" Bundle.listD).before args s = true) : ∀ w ∈ L, w.before args s = true := by
  intro w hw
  by_cases e1 : w = .isRef (.static Bundle.tN "UNASSIGNED_STACK" Bundle.steD)
  · rw [e1]; exact hU
  · by_cases e2 : w = .isRef (.static Bundle.tN "SUPPRESSED_SENTINEL" Bundle.listD)
    · rw [e2]; exact hN
    · by_cases e3 : w = .laysStatic Bundle.tN "UNASSIGNED_STACK" Bundle.steD
      · rw [e3]; exact lU
      · by_cases e4 : w = .laysStatic Bundle.tN "SUPPRESSED_SENTINEL" Bundle.listD
        · rw [e4]; exact lN
        · exact h1 w (List.mem_filter.mpr ⟨hw, by unfold vx_no; rw [decide_eq_true e1, decide_eq_true e2, decide_eq_true e3, decide_eq_true e4]; rfl⟩)
/-- where a static field lies, its class's statics cell in H -/
def vx_L (C n d : String) (A : Nat → Prop) (U : State) (H : Heap) : Prop := ∃ (c : ClassId) (k : Class) (i : Nat) (f : Field) (a : Nat) (cell : Cell), U.vm.findClass C = some c ∧ U.fieldFound? C n d = some (c, k, i, f) ∧ f.isStatic = true ∧ k.statics = some a ∧ H[a]? = some cell ∧ cell.vm.isStatics = true ∧ cell.cls = c ∧ f.slot < cell.slots.size ∧ k.staticTypes[f.slot]? = some f.type ∧ ¬ A a
theorem vx_L.moved {C n d : String} {A : Nat → Prop} {u U : State} {H : Heap} (hvm : u.vm.Alike U.vm) (h : vx_L C n d A u H) : vx_L C n d A U H := by
  obtain ⟨c, k, i, f, a, cell, h1, h2, h3, h4, h5, h6, h7, h8, h9, h10⟩ := h
  obtain ⟨k', hi', he⟩ := State.fieldFound?_setVm hvm h2
  exact ⟨c, k', i, f, a, cell, by rw [hvm.findClass]; exact h1, hi', h3, by rw [he]; exact h4, h5, h6, h7, h8, by rw [he]; exact h9, h10⟩
theorem vx_L.kept {C n d : String} {A : Nat → Prop} {U : State} {H H1 : Heap} (h : vx_L C n d A U H) (hq : ∀ a : Nat, a < H.size → ¬ A a → H1[a]? = H[a]?) : vx_L C n d A U H1 := by
  obtain ⟨c, k, i, f, a, cell, h1, h2, h3, h4, h5, h6, h7, h8, h9, h10⟩ := h
  exact ⟨c, k, i, f, a, cell, h1, h2, h3, h4, by rw [hq a (Array.getElem?_eq_some_iff.mp h5).1 h10]; exact h5, h6, h7, h8, h9, h10⟩
theorem vx_L.narrow {C n d : String} {A B : Nat → Prop} {U : State} {H : Heap} (h : vx_L C n d A U H) (hAB : ∀ q, B q → A q) : vx_L C n d B U H := by
  obtain ⟨c, k, i, f, a, cell, h1, h2, h3, h4, h5, h6, h7, h8, h9, h10⟩ := h
  exact ⟨c, k, i, f, a, cell, h1, h2, h3, h4, h5, h6, h7, h8, h9, fun z => h10 (hAB _ z)⟩
theorem vx_L.word {C n d : String} {A : Nat → Prop} {s : State} {args : Array Value} (h : vx_L C n d A s s.heap) : (Cond.laysStatic C n d).before args s = true := by
  obtain ⟨c, k, i, f, a, cell, h1, h2, h3, h4, h5, h6, h7, h8, h9, -⟩ := h
  show (Cond.laysStatic C n d).holds args s none s [] = true
  exact Cond.laysStatic_of h1 h2 h3 h4 h5 h6 h7 h8 h9
/-- .. and what it holds: null or some reference -/
def vx_Zq (C n d : String) (A : Nat → Prop) (U : State) (H : Heap) : Prop := va_Zq C n d A U H ∧ vx_L C n d A U H
theorem vx_Zq.moved {C n d : String} {A : Nat → Prop} {u U : State} {H : Heap} (hvm : u.vm.Alike U.vm) (h : vx_Zq C n d A u H) : vx_Zq C n d A U H := ⟨va_Zq.moved hvm h.1, vx_L.moved hvm h.2⟩
theorem vx_Zq.kept {C n d : String} {A : Nat → Prop} {U : State} {H H1 : Heap} (h : vx_Zq C n d A U H) (hq : ∀ a : Nat, a < H.size → ¬ A a → H1[a]? = H[a]?) : vx_Zq C n d A U H1 := ⟨va_Zq.kept h.1 hq, vx_L.kept h.2 hq⟩
theorem vx_Zq.narrow {C n d : String} {A B : Nat → Prop} {U : State} {H : Heap} (h : vx_Zq C n d A U H) (hAB : ∀ q, B q → A q) : vx_Zq C n d B U H := ⟨va_Zq.narrow h.1 hAB, vx_L.narrow h.2 hAB⟩
theorem vx_Zqof {args : Array Value} {s : State} {C n d : String} {A : Nat → Prop} (hl : (Cond.laysStatic C n d).before args s = true) (hini : (Cond.initialized C).before args s = true) (h : (Cond.isRef (.static C n d)).before args s = true) (hA : ∀ a : Nat, a < s.heap.size → ¬ A a) : vx_Zq C n d A s s.heap := by
  refine ⟨va_Zqof hl hini h hA, ?_⟩
  obtain ⟨c, k, i, f, a, cell, h1, h2, h3, h4, h5, h6, h7, h8, h9⟩ := Cond.laysStatic_spec hl
  exact ⟨c, k, i, f, a, cell, h1, h2, h3, h4, h5, h6, h7, h8, h9, hA a (Array.getElem?_eq_some_iff.mp h5).1⟩
theorem vx_isRef {C n d : String} {v : Value} {A : Nat → Prop} {s : State} {args : Array Value} (h : va_Z C n d v A s s.heap) (hv : v.isRef = true) : (Cond.isRef (.static C n d)).before args s = true := by
  obtain ⟨cf, kf, fi, f, a, cell, h1, h2, h3, h4, h5, h6, h7, -⟩ := h
  have he : (Term.static C n d).eval args s none [] s = some v := by
    simp [Term.eval, State.fieldNamed?, h1, h2, h4, h5, h6, h7]
  simp only [Cond.before, Cond.holds, Cond.value, he]
  cases v <;> simp_all [Value.isRef]
theorem vx_isRefq {C n d : String} {A : Nat → Prop} {s : State} {args : Array Value} (h : va_Zq C n d A s s.heap) : (Cond.isRef (.static C n d)).before args s = true := by
  rcases h with h | ⟨t, h⟩
  · exact vx_isRef h rfl
  · exact vx_isRef h rfl
/-- the same frame, seen from here: as if the method were called anew in this heap -/
theorem vx_rebase {T : State} (X : Stand p l e R s m args below meth c T locs cells slots) {R' : Room} (hf : R'.frames ≤ R.frames) (hl : R'.locals ≤ R.locals) (hc : cells + R'.cells ≤ R.cells) (hs : slots + R'.slots ≤ R.slots) :
    Stand p l e R' ((T.setVm s.vm).setFrames (.invoking m args :: below)) m args below meth c T [] 0 0 := by
  have htop : (T.setVm s.vm).topJava?.isSome := X.here.top
  have hF : ((T.setVm s.vm).setFrames (.invoking m args :: below)).frames = .invoking m args :: below := State.frames_setFrames _ (State.cur_lt_of_top htop)
  obtain ⟨g₀, hg0⟩ := Option.isSome_iff_exists.mp htop
  obtain ⟨r, hr⟩ := State.topJava?_eq_some.mp hg0
  have hl9 : e.platform.stackLimits (T.setVm s.vm).me = e.platform.stackLimits s.me := X.limits
  have hb9 : (T.setVm s.vm).me.stackBytes = s.me.stackBytes := X.bytes
  refine ⟨X.admits, X.cas, X.clock, hF, ?_, X.hears, X.method, X.code, X.here, X.tail, X.warmed, ?_, ?_, ?_⟩
  · have h := X.room
    have hU : ((T.setVm s.vm).setFrames (.invoking m args :: below)).localsInUse = s.localsInUse := by
      rw [State.localsInUse_invoking hF (meth := meth) (c := c) X.method X.code, State.localsInUse_invoking X.frames X.method X.code]
    simp only [State.hasRoom, Bool.and_eq_true, decide_eq_true_eq] at h ⊢
    obtain ⟨⟨⟨⟨h1, h2, h3, h4, h5, h6⟩, h7⟩, h8⟩, h9⟩ := h
    rw [X.frames, List.length_cons] at h2 h3
    have q1 := X.heapSize
    have q2 := X.used
    simp only [hF, hU, List.length_cons, State.stackLimits_setFrames, State.stackBytes_setFrames, hl9, hb9]
    refine ⟨⟨⟨⟨by omega, by omega, by omega, by omega, by omega, h6⟩, ?_⟩, ?_⟩, X.book⟩
    · show T.heap.size + R'.cells ≤ e.platform.maxCells
      omega
    · show T.slotsUsed + R'.slots ≤ e.platform.maxSlots
      omega
  · rw [State.stackLimits_setFrames]; rfl
  · rw [State.stackBytes_setFrames]; rfl
  · refine ⟨?_, Nat.le_refl _, Nat.le_refl _, ?_, ?_, fun a c9 h9 => ⟨c9, h9, rfl, rfl, fun _ _ => rfl⟩⟩
    · obtain ⟨t, ht, -⟩ := State.frames_cons hr
      show T.setVm s.vm = { ((T.setVm s.vm).setFrames (.invoking m args :: below)).setFrames (T.setVm s.vm).frames with heap := T.heap, slotsUsed := T.slotsUsed }
      rw [State.setFrames_setFrames, State.setFrames_self ht]
      rfl
    · show T.slotsUsed = T.slotsUsed + ((T.heap.toList.drop T.heap.size).map (·.slots.size)).sum
      rw [List.drop_eq_nil_of_le (Nat.le_of_eq Array.length_toList)]
      rfl
    · show ((T.heap.toList.drop T.heap.size).map (·.slots.size)).sum ≤ 0
      rw [List.drop_eq_nil_of_le (Nat.le_of_eq Array.length_toList)]
      exact Nat.le_refl _
/-- 'throw new E()': new; dup; invokespecial; athrow -/
theorem vx_throw0 {cc : ByteArray} {pc : Nat} (hexec : p.tables.exec = Jvm.exec) (hb : c.code = cc) (hl : l.stackTraces = false) {own cls : String} {names : List String} {ik ic mc ms : Nat} {A : Nat → Prop}
    (hown : s.vm.findClass own = some m.cls) (hcls : Bundle.fit cls = true) (hnames : ∀ n ∈ names, Bundle.fit n = true)
    (hk : (Cond.classLink own ik cls).before args s = true) (hini : (Cond.initialized cls).before args s = true) (hat : ∀ w ∈ vx_at0 own ic cls names, w.before args s = true)
    (hgood : ∀ w ∈ Cond.classLink own ik cls :: Cond.initialized cls :: vx_at0 own ic cls names, vx_ot w = true)
    (hU : vx_Zq Bundle.tN "UNASSIGNED_STACK" Bundle.steD A s s.heap) (hN : vx_Zq Bundle.tN "SUPPRESSED_SENTINEL" Bundle.listD A s s.heap) (hS : va_S A s.heap H locs) (hsize : ls.size = c.maxLocals)
    (d0 : decode cc pc = .ok (.new ik, 3)) (d3 : decode cc (pc + 3) = .ok (.dup, 1)) (d4 : decode cc (pc + 4) = .ok (.invokespecial ic, 3)) (d7 : decode cc (pc + 7) = .ok (.athrow, 1))
    (hout : ∀ x ∈ c.exceptionTable.toList, covers x (pc + 7) = false)
    (hRframes : names.length + 3 < R.frames) (hRlocals : (rest.map fun v => v.category).sum + (13 * (names.length + 1) + 42) ≤ R.locals) (hRcells : cells + 1 ≤ R.cells) (hRslots : slots + 6 ≤ R.slots) (hlocks : meth.locks = false)
    (hx : ∀ t : State, s.vm.Alike t.vm → H.size ≤ t.heap.size → (∀ q : Nat, q < H.size → t.heap[q]? = H[q]?) → XC cls s t)
    (hf : ∀ z ∈ locs, free z.base) (hc : cells + 1 ≤ mc) (hs : slots + 6 ≤ ms) :
    W p l e R s m args below meth c H locs cells slots (vx_MQ below Qc XC args s mc ms free) (F0 m pc ls rest) := by
  intro T hT X
  have htr : e.platform.stackTraces = false := (show e.platform.stackTraces = l.stackTraces by rw [X.admits.platform]).trans hl
  have Y := vx_rebase X (R' := { frames := R.frames, locals := R.locals, cells := 1, slots := 6 }) (Nat.le_refl _) (Nat.le_refl _) hRcells hRslots
  obtain ⟨s', hA⟩ : ∃ z, z = (T.setVm s.vm).setFrames (.invoking m args :: below) := ⟨_, rfl⟩
  rw [← hA] at Y
  have hvm : s'.vm = s.vm := by rw [hA]; rfl
  have hhp : s'.heap = H := by rw [hA]; exact hT
  have hW0 : s.WarmedH s'.vm := by rw [hvm]; exact State.WarmedH.refl s
  have hat' : ∀ w ∈ vx_at0 own ic cls names, w.before args s' = true := fun w hw => vx_ot_at hW0 hvm.symm (hgood w (List.mem_cons_of_mem _ (List.mem_cons_of_mem _ hw))) (hat w hw)
  have hk' : (Cond.classLink own ik cls).before args s' = true := vx_ot_at hW0 hvm.symm (hgood _ List.mem_cons_self) hk
  have hini' : (Cond.initialized cls).before args s' = true := vx_ot_at hW0 hvm.symm (hgood _ (List.mem_cons_of_mem _ List.mem_cons_self)) hini
  have hU' : vx_Zq Bundle.tN "UNASSIGNED_STACK" Bundle.steD A s' s'.heap := by rw [hhp]; exact vx_Zq.moved hW0.alike (hU.kept hS.2.1)
  have hN' : vx_Zq Bundle.tN "SUPPRESSED_SENTINEL" Bundle.listD A s' s'.heap := by rw [hhp]; exact vx_Zq.moved hW0.alike (hN.kept hS.2.1)
  have h : ∀ w ∈ Bundle.ownAtoms0 own ic cls names, w.before args s' = true := vx_own hat' (vx_isRefq hU'.1) (vx_isRefq hN'.1) hU'.2.word hN'.2.word
  have hown' : s'.vm.findClass own = some m.cls := by rw [hvm]; exact hown
  have hins : (Cond.instantiable cls 6).before args s' = true := h _ (by simp [Bundle.ownAtoms0])
  obtain ⟨vm₁, cX, kX, hfX, hkX, -, -, X₁, st1⟩ := Y.newCold hexec (own := own) (C := cls) (index := ik) (n := 6) hown' hk' hins hini'
    (g := F0 m pc ls rest) rfl (by rw [hb]; exact d0) (Nat.le_refl _) (Nat.le_refl _)
  generalize hT1 : (T.setVm vm₁).pushCell { cls := cX, slots := kX.instanceTypes.map defaultValue, vm := .none } = T1 at X₁ st1
  have hcat : (Value.ref T.heap.size).category = 1 := rfl
  have hcellA : T1.heap[T.heap.size]? = some (freshCell cX kX) := by rw [← hT1]; exact State.heap_pushCell_size _ _
  have d3' : decode c.code (pc + 3) = .ok (.dup, 1) := by rw [hb]; exact d3
  obtain ⟨U, hsteps, hrun, hend, hW, hsame, ce, hce, hO⟩ := X₁.ctorThrow0 hexec htr (own := own) (cls := cls) (names := names) (ic := ic) hown' hcls hnames h (fun x hx => nomatch hx) hfX hkX hcellA (by rw [hhp, hT]; exact Nat.le_refl _)
    (g := { method := m, pc := pc + 4, locals := ls, stack := .ref T.heap.size :: .ref T.heap.size :: rest, locked := none }) rfl hsize rfl rfl (rest := rest) rfl
    (by rw [hb]; exact d4) (by rw [hb]; exact d7) hout hRframes (by simp only [List.map_cons, List.sum_cons, hcat]; omega) hlocks
  obtain ⟨f1, f2⟩ := vx_frame hsame
  rw [hhp] at f1 f2
  have hWs : s.WarmedH U.vm := State.WarmedH.trans hW0 hW
  have hcl : s.vm.findClass cls = some ce.cls := by
    have h9 := hO.cls
    rw [hvm] at h9
    exact h9
  have hall : s.sameButNew ({ U with vm := s.vm } : State) locs mc ms := by
    subst hA
    obtain ⟨e1, e2⟩ := hsame
    rw [State.setFrames_setFrames] at e1
    have h2 : (T.setVm s.vm).sameButNew ({ U with vm := s.vm } : State) [] (0 + 1) (0 + 6) := ⟨e1, e2⟩
    have h3 := X.same.trans h2
    rw [List.append_nil] at h3
    exact h3.mono hc hs
  refine ⟨U, ?_, .threw T.heap.size, hrun, hend, Or.inr ⟨T.heap.size, rfl, cls, ce, locs, hx U hWs.alike f1 (fun q hq => f2 q hq (fun z hz => nomatch hz)), hce, hO.vm, hcl, hWs, hall, hf⟩⟩
  refine st1 _ ?_
  show Steps p.tables e below (T1.setTop { method := m, pc := pc + 3, locals := ls, stack := .ref T.heap.size :: rest, locked := none }) _
  jvm_step X₁.here [X₁.here.top, hexec, d3', Value.category]
  exact hsteps
/-- 'throw new E("text")': new; dup; ldc; invokespecial; athrow -/
theorem vx_throwS {cc : ByteArray} {pc : Nat} (hexec : p.tables.exec = Jvm.exec) (hb : c.code = cc) (hl : l.stackTraces = false) {own cls text : String} {names : List String} {ik is ic mc ms sa : Nat} {A : Nat → Prop}
    (hown : s.vm.findClass own = some m.cls) (hcls : Bundle.fit cls = true) (hnames : ∀ n ∈ names, Bundle.fit n = true)
    (hk : (Cond.classLink own ik cls).before args s = true) (hini : (Cond.initialized cls).before args s = true) (hstr : vk_R own is text sa s) (hat : ∀ w ∈ vx_atS own ic cls names, w.before args s = true)
    (hgood : ∀ w ∈ Cond.classLink own ik cls :: Cond.initialized cls :: vx_atS own ic cls names, vx_ot w = true)
    (hU : vx_Zq Bundle.tN "UNASSIGNED_STACK" Bundle.steD A s s.heap) (hN : vx_Zq Bundle.tN "SUPPRESSED_SENTINEL" Bundle.listD A s s.heap) (hS : va_S A s.heap H locs) (hsize : ls.size = c.maxLocals)
    (d0 : decode cc pc = .ok (.new ik, 3)) (d3 : decode cc (pc + 3) = .ok (.dup, 1)) (d4 : decode cc (pc + 4) = .ok (.ldc is, 2)) (d6 : decode cc (pc + 6) = .ok (.invokespecial ic, 3)) (d9 : decode cc (pc + 9) = .ok (.athrow, 1))
    (hout : ∀ x ∈ c.exceptionTable.toList, covers x (pc + 9) = false)
    (hRframes : names.length + 3 < R.frames) (hRlocals : (rest.map fun v => v.category).sum + (13 * (names.length + 1) + 43) ≤ R.locals) (hRcells : cells + 1 ≤ R.cells) (hRslots : slots + 6 ≤ R.slots) (hlocks : meth.locks = false)
    (hx : ∀ t : State, s.vm.Alike t.vm → H.size ≤ t.heap.size → (∀ q : Nat, q < H.size → t.heap[q]? = H[q]?) → XC cls s t)
    (hf : ∀ z ∈ locs, free z.base) (hc : cells + 1 ≤ mc) (hs : slots + 6 ≤ ms) :
    W p l e R s m args below meth c H locs cells slots (vx_MQ below Qc XC args s mc ms free) (F0 m pc ls rest) := by
  intro T hT X
  have htr : e.platform.stackTraces = false := (show e.platform.stackTraces = l.stackTraces by rw [X.admits.platform]).trans hl
  have Y := vx_rebase X (R' := { frames := R.frames, locals := R.locals, cells := 1, slots := 6 }) (Nat.le_refl _) (Nat.le_refl _) hRcells hRslots
  obtain ⟨s', hA⟩ : ∃ z, z = (T.setVm s.vm).setFrames (.invoking m args :: below) := ⟨_, rfl⟩
  rw [← hA] at Y
  have hvm : s'.vm = s.vm := by rw [hA]; rfl
  have hhp : s'.heap = H := by rw [hA]; exact hT
  have hW0 : s.WarmedH s'.vm := by rw [hvm]; exact State.WarmedH.refl s
  have hat' : ∀ w ∈ vx_atS own ic cls names, w.before args s' = true := fun w hw => vx_ot_at hW0 hvm.symm (hgood w (List.mem_cons_of_mem _ (List.mem_cons_of_mem _ hw))) (hat w hw)
  have hk' : (Cond.classLink own ik cls).before args s' = true := vx_ot_at hW0 hvm.symm (hgood _ List.mem_cons_self) hk
  have hini' : (Cond.initialized cls).before args s' = true := vx_ot_at hW0 hvm.symm (hgood _ (List.mem_cons_of_mem _ List.mem_cons_self)) hini
  have hU' : vx_Zq Bundle.tN "UNASSIGNED_STACK" Bundle.steD A s' s'.heap := by rw [hhp]; exact vx_Zq.moved hW0.alike (hU.kept hS.2.1)
  have hN' : vx_Zq Bundle.tN "SUPPRESSED_SENTINEL" Bundle.listD A s' s'.heap := by rw [hhp]; exact vx_Zq.moved hW0.alike (hN.kept hS.2.1)
  have h : ∀ w ∈ Bundle.ownAtoms own ic cls names, w.before args s' = true := vx_own hat' (vx_isRefq hU'.1) (vx_isRefq hN'.1) hU'.2.word hN'.2.word
  have hown' : s'.vm.findClass own = some m.cls := by rw [hvm]; exact hown
  have hins : (Cond.instantiable cls 6).before args s' = true := h _ (by simp [Bundle.ownAtoms])
  obtain ⟨vm₁, cX, kX, hfX, hkX, -, -, X₁, st1⟩ := Y.newCold hexec (own := own) (C := cls) (index := ik) (n := 6) hown' hk' hins hini'
    (g := F0 m pc ls rest) rfl (by rw [hb]; exact d0) (Nat.le_refl _) (Nat.le_refl _)
  generalize hT1 : (T.setVm vm₁).pushCell { cls := cX, slots := kX.instanceTypes.map defaultValue, vm := .none } = T1 at X₁ st1
  have hcat : (Value.ref T.heap.size).category = 1 := rfl
  have hcellA : T1.heap[T.heap.size]? = some (freshCell cX kX) := by rw [← hT1]; exact State.heap_pushCell_size _ _
  have d3' : decode c.code (pc + 3) = .ok (.dup, 1) := by rw [hb]; exact d3
  have d4' : decode c.code (pc + 4) = .ok (.ldc is, 2) := by rw [hb]; exact d4
  have hstr' : vk_R own is text sa s' := vk_R.warm hW0 hstr
  obtain ⟨U, hsteps, hrun, hend, hW, hsame, ce, hce, hO⟩ := X₁.ctorThrowS hexec htr (own := own) (cls := cls) (names := names) (ic := ic) hown' hcls hnames h (fun x hx => nomatch hx) hfX hkX hcellA (by rw [hhp, hT]; exact Nat.le_refl _) (msg := .ref sa) rfl
    (g := { method := m, pc := pc + 6, locals := ls, stack := .ref sa :: .ref T.heap.size :: .ref T.heap.size :: rest, locked := none }) rfl hsize rfl rfl (rest := rest) rfl
    (by rw [hb]; exact d6) (by rw [hb]; exact d9) hout hRframes (by simp only [List.map_cons, List.sum_cons, hcat]; omega) hlocks
  obtain ⟨f1, f2⟩ := vx_frame hsame
  rw [hhp] at f1 f2
  have hWs : s.WarmedH U.vm := State.WarmedH.trans hW0 hW
  have hcl : s.vm.findClass cls = some ce.cls := by
    have h9 := hO.cls
    rw [hvm] at h9
    exact h9
  have hall : s.sameButNew ({ U with vm := s.vm } : State) locs mc ms := by
    subst hA
    obtain ⟨e1, e2⟩ := hsame
    rw [State.setFrames_setFrames] at e1
    have h2 : (T.setVm s.vm).sameButNew ({ U with vm := s.vm } : State) [] (0 + 1) (0 + 6) := ⟨e1, e2⟩
    have h3 := X.same.trans h2
    rw [List.append_nil] at h3
    exact h3.mono hc hs
  refine ⟨U, ?_, .threw T.heap.size, hrun, hend, Or.inr ⟨T.heap.size, rfl, cls, ce, locs, hx U hWs.alike f1 (fun q hq => f2 q hq (fun z hz => nomatch hz)), hce, hO.vm, hcl, hWs, hall, hf⟩⟩
  refine st1 _ ?_
  show Steps p.tables e below (T1.setTop { method := m, pc := pc + 3, locals := ls, stack := .ref T.heap.size :: rest, locked := none }) _
  jvm_step X₁.here [X₁.here.top, hexec, d3', Value.category]
  exact X₁.ldcString hexec (own := own) (text := text) (index := is) (a := sa) hown' hstr'.1 hstr'.2
    (g := { method := m, pc := pc + 4, locals := ls, stack := .ref T.heap.size :: .ref T.heap.size :: rest, locked := none }) rfl d4' _ hsteps
/-- 'throw new E("text")', the text by a wide index -/
theorem vx_throwSW {cc : ByteArray} {pc : Nat} (hexec : p.tables.exec = Jvm.exec) (hb : c.code = cc) (hl : l.stackTraces = false) {own cls text : String} {names : List String} {ik is ic mc ms sa : Nat} {A : Nat → Prop}
    (hown : s.vm.findClass own = some m.cls) (hcls : Bundle.fit cls = true) (hnames : ∀ n ∈ names, Bundle.fit n = true)
    (hk : (Cond.classLink own ik cls).before args s = true) (hini : (Cond.initialized cls).before args s = true) (hstr : vk_R own is text sa s) (hat : ∀ w ∈ vx_atS own ic cls names, w.before args s = true)
    (hgood : ∀ w ∈ Cond.classLink own ik cls :: Cond.initialized cls :: vx_atS own ic cls names, vx_ot w = true)
    (hU : vx_Zq Bundle.tN "UNASSIGNED_STACK" Bundle.steD A s s.heap) (hN : vx_Zq Bundle.tN "SUPPRESSED_SENTINEL" Bundle.listD A s s.heap) (hS : va_S A s.heap H locs) (hsize : ls.size = c.maxLocals)
    (d0 : decode cc pc = .ok (.new ik, 3)) (d3 : decode cc (pc + 3) = .ok (.dup, 1)) (d4 : decode cc (pc + 4) = .ok (.ldc_w is, 3)) (d7 : decode cc (pc + 7) = .ok (.invokespecial ic, 3)) (d10 : decode cc (pc + 10) = .ok (.athrow, 1))
    (hout : ∀ x ∈ c.exceptionTable.toList, covers x (pc + 10) = false)
    (hRframes : names.length + 3 < R.frames) (hRlocals : (rest.map fun v => v.category).sum + (13 * (names.length + 1) + 43) ≤ R.locals) (hRcells : cells + 1 ≤ R.cells) (hRslots : slots + 6 ≤ R.slots) (hlocks : meth.locks = false)
    (hx : ∀ t : State, s.vm.Alike t.vm → H.size ≤ t.heap.size → (∀ q : Nat, q < H.size → t.heap[q]? = H[q]?) → XC cls s t)
    (hf : ∀ z ∈ locs, free z.base) (hc : cells + 1 ≤ mc) (hs : slots + 6 ≤ ms) :
    W p l e R s m args below meth c H locs cells slots (vx_MQ below Qc XC args s mc ms free) (F0 m pc ls rest) := by
  intro T hT X
  have htr : e.platform.stackTraces = false := (show e.platform.stackTraces = l.stackTraces by rw [X.admits.platform]).trans hl
  have Y := vx_rebase X (R' := { frames := R.frames, locals := R.locals, cells := 1, slots := 6 }) (Nat.le_refl _) (Nat.le_refl _) hRcells hRslots
  obtain ⟨s', hA⟩ : ∃ z, z = (T.setVm s.vm).setFrames (.invoking m args :: below) := ⟨_, rfl⟩
  rw [← hA] at Y
  have hvm : s'.vm = s.vm := by rw [hA]; rfl
  have hhp : s'.heap = H := by rw [hA]; exact hT
  have hW0 : s.WarmedH s'.vm := by rw [hvm]; exact State.WarmedH.refl s
  have hat' : ∀ w ∈ vx_atS own ic cls names, w.before args s' = true := fun w hw => vx_ot_at hW0 hvm.symm (hgood w (List.mem_cons_of_mem _ (List.mem_cons_of_mem _ hw))) (hat w hw)
  have hk' : (Cond.classLink own ik cls).before args s' = true := vx_ot_at hW0 hvm.symm (hgood _ List.mem_cons_self) hk
  have hini' : (Cond.initialized cls).before args s' = true := vx_ot_at hW0 hvm.symm (hgood _ (List.mem_cons_of_mem _ List.mem_cons_self)) hini
  have hU' : vx_Zq Bundle.tN "UNASSIGNED_STACK" Bundle.steD A s' s'.heap := by rw [hhp]; exact vx_Zq.moved hW0.alike (hU.kept hS.2.1)
  have hN' : vx_Zq Bundle.tN "SUPPRESSED_SENTINEL" Bundle.listD A s' s'.heap := by rw [hhp]; exact vx_Zq.moved hW0.alike (hN.kept hS.2.1)
  have h : ∀ w ∈ Bundle.ownAtoms own ic cls names, w.before args s' = true := vx_own hat' (vx_isRefq hU'.1) (vx_isRefq hN'.1) hU'.2.word hN'.2.word
  have hown' : s'.vm.findClass own = some m.cls := by rw [hvm]; exact hown
  have hins : (Cond.instantiable cls 6).before args s' = true := h _ (by simp [Bundle.ownAtoms])
  obtain ⟨vm₁, cX, kX, hfX, hkX, -, -, X₁, st1⟩ := Y.newCold hexec (own := own) (C := cls) (index := ik) (n := 6) hown' hk' hins hini'
    (g := F0 m pc ls rest) rfl (by rw [hb]; exact d0) (Nat.le_refl _) (Nat.le_refl _)
  generalize hT1 : (T.setVm vm₁).pushCell { cls := cX, slots := kX.instanceTypes.map defaultValue, vm := .none } = T1 at X₁ st1
  have hcat : (Value.ref T.heap.size).category = 1 := rfl
  have hcellA : T1.heap[T.heap.size]? = some (freshCell cX kX) := by rw [← hT1]; exact State.heap_pushCell_size _ _
  have d3' : decode c.code (pc + 3) = .ok (.dup, 1) := by rw [hb]; exact d3
  have d4' : decode c.code (pc + 4) = .ok (.ldc_w is, 3) := by rw [hb]; exact d4
  have hstr' : vk_R own is text sa s' := vk_R.warm hW0 hstr
  obtain ⟨U, hsteps, hrun, hend, hW, hsame, ce, hce, hO⟩ := X₁.ctorThrowS hexec htr (own := own) (cls := cls) (names := names) (ic := ic) hown' hcls hnames h (fun x hx => nomatch hx) hfX hkX hcellA (by rw [hhp, hT]; exact Nat.le_refl _) (msg := .ref sa) rfl
    (g := { method := m, pc := pc + 7, locals := ls, stack := .ref sa :: .ref T.heap.size :: .ref T.heap.size :: rest, locked := none }) rfl hsize rfl rfl (rest := rest) rfl
    (by rw [hb]; exact d7) (by rw [hb]; exact d10) hout hRframes (by simp only [List.map_cons, List.sum_cons, hcat]; omega) hlocks
  obtain ⟨f1, f2⟩ := vx_frame hsame
  rw [hhp] at f1 f2
  have hWs : s.WarmedH U.vm := State.WarmedH.trans hW0 hW
  have hcl : s.vm.findClass cls = some ce.cls := by
    have h9 := hO.cls
    rw [hvm] at h9
    exact h9
  have hall : s.sameButNew ({ U with vm := s.vm } : State) locs mc ms := by
    subst hA
    obtain ⟨e1, e2⟩ := hsame
    rw [State.setFrames_setFrames] at e1
    have h2 : (T.setVm s.vm).sameButNew ({ U with vm := s.vm } : State) [] (0 + 1) (0 + 6) := ⟨e1, e2⟩
    have h3 := X.same.trans h2
    rw [List.append_nil] at h3
    exact h3.mono hc hs
  refine ⟨U, ?_, .threw T.heap.size, hrun, hend, Or.inr ⟨T.heap.size, rfl, cls, ce, locs, hx U hWs.alike f1 (fun q hq => f2 q hq (fun z hz => nomatch hz)), hce, hO.vm, hcl, hWs, hall, hf⟩⟩
  refine st1 _ ?_
  show Steps p.tables e below (T1.setTop { method := m, pc := pc + 3, locals := ls, stack := .ref T.heap.size :: rest, locked := none }) _
  jvm_step X₁.here [X₁.here.top, hexec, d3', Value.category]
  exact X₁.ldcStringW hexec (own := own) (text := text) (index := is) (a := sa) hown' hstr'.1 hstr'.2
    (g := { method := m, pc := pc + 4, locals := ls, stack := .ref T.heap.size :: .ref T.heap.size :: rest, locked := none }) rfl d4' _ hsteps
end Ends
section Bodies
variable {l : Launch}
theorem vx_ofW {y : MethodName} {ws ws' : List Cond} {rm : Room} {Pc : Array Value → State → Prop} {Qc : Array Value → State → Outcome → State → Prop} {XC : String → State → State → Prop} {mc ms : Nat} {free : Addr → Prop} {cc : ByteArray} {maxL : Nat} {ret : Option FieldType}
    (hy : plainName y.cls = true) (hw : ws = Cond.code y cc maxL ret :: ws')
    (body : ∀ p e s m args below meth c s₁, BodyLoose p l y (headSpec ws rm) cc maxL ret e s m args below meth c s₁ → c.maxLocals = maxL → (∀ x ∈ c.exceptionTable.toList, False) → Pc args s →
      W p l e (headSpec ws rm).room s m args below meth c s.heap [] 0 0 (vx_MQ below Qc XC args s mc ms free) (entryFrame m args maxL)) : vx_Met l y ws rm Pc Qc XC mc ms free := by
  refine MetFree.of_bodyS (code := cc) (maxLocals := maxL) (ret := ret) hy ?_ ?_
  · intro args s m h hn
    obtain ⟨meth, c, h1, h2, h3, h4, h5, h6, -, -⟩ := Cond.code_spec hn (atoms_spec (ws := ws) h _ (by rw [hw]; exact List.mem_cons_self))
    exact ⟨meth, c, h1, h2, h3, h4, h5, h6⟩
  · intro p e s m args below meth c s₁ B hml hP _
    have hh0 : s₁.heap = s.heap := by rw [B.state]; rfl
    have ht : ∀ x ∈ c.exceptionTable.toList, False := by
      obtain ⟨meth9, c9, h1, h2, -, -, -, -, h7, -⟩ := Cond.code_spec B.named (atoms_spec (ws := ws) B.pre _ (by rw [hw]; exact List.mem_cons_self))
      cases Option.some.inj (h1.symm.trans B.method)
      cases Option.some.inj (h2.symm.trans (Stand.of_body B).code)
      intro x hx
      rw [Array.isEmpty_iff.mp h7] at hx
      cases hx
    obtain ⟨t, a1, o, b1, b2, b3⟩ := body p e s m args below meth c s₁ B hml ht hP s₁ hh0 (Stand.of_body B)
    exact ⟨t, o, a1, b1, b2, b3⟩
/-- the table of a body with handlers -/
theorem vx_table {p : Program} {x y : MethodName} {S : Spec} {cc bytes : ByteArray} {maxL maxL' : Nat} {ret ret' : Option FieldType} {e : Env} {s s₁ : State} {m : MethodId} {args : Array Value} {below : List Frame} {meth : Method} {c : Code} {hh : List (Nat × Nat × Nat × Nat)}
    (B : BodyLoose p l y S cc maxL ret e s m args below meth c s₁) (h : (Cond.codeWith y bytes maxL' ret' hh).before args s = true) : c.exceptionTable.toList = tableOf hh := by
  obtain ⟨m9, meth9, c9, hn9, h1, h2, -, -, h6, -⟩ := Cond.codeWith_spec h
  cases Option.some.inj (hn9.symm.trans B.named)
  cases Option.some.inj (h1.symm.trans B.method)
  cases Option.some.inj (h2.symm.trans (Stand.of_body B).code)
  rw [← h6, table_eq]
end Bodies
end VXA
/-! ===== END ===== -/
/-! ===== BEGIN a static call of a method with an exception table ===== -/
section VXS
variable {p : Program} {l : Launch} {e : Env} {R : Room} {s : State} {m : MethodId} {args : Array Value} {below : List Frame} {meth : Method} {c : Code} {T : State} {H : Heap} {locs : List Loc} {cells slots : Nat}
abbrev vx_CSW (R : Room) (s : State) (args : Array Value) (own : String) (index : Nat) (y : MethodName) (bytes : ByteArray) (maxL : Nat) (ret : Option FieldType) (hh : List (Nat × Nat × Nat × Nat)) (ws : List Cond) (rm : Room) (mc ms n : Nat) : Prop :=
  (rm.cells = mc ∧ rm.slots = ms ∧ rm.frames + 1 ≤ R.frames ∧ 8 + (maxL + 11) + rm.locals ≤ R.locals ∧ (∀ w ∈ ws, ∀ (a' : Array Value) (U : State), s.WarmedH U.vm → w.before a' U = true) ∧ Cond.codeWith y bytes maxL ret hh ∈ ws) ∧
  (Cond.codeWith y bytes maxL ret hh).before args s = true ∧ (Cond.initialized y.cls).before args s = true ∧ (y.cls ≠ "java/lang/invoke/MethodHandle" ∧ y.cls ≠ "java/lang/invoke/VarHandle") ∧
  (∀ sig, parseMethodDescriptor y.desc = some sig → n = sig.parameters.length) ∧ (Cond.methodLink own index y).before args s = true ∧ (Cond.static y).before args s = true
theorem vx_cwSW {own : String} {index maxL mc ms : Nat} {y : MethodName} {bytes : ByteArray} {ret : Option FieldType} {hh : List (Nat × Nat × Nat × Nat)} {Ts ws ws' : List Cond} {rm : Room} (n : Nat) (ht : ∀ w ∈ Ts, w.before args s = true) (hT : GoodIn Ts (va_wsS own index y ws)) (hw : ws = Cond.codeWith y bytes maxL ret hh :: ws') (hrc : rm.cells = mc) (hrs : rm.slots = ms)
    (hd : y.cls ≠ "java/lang/invoke/MethodHandle" ∧ y.cls ≠ "java/lang/invoke/VarHandle" ∧ (parseMethodDescriptor y.desc).map (fun d => d.parameters.length) = some n) (hR : rm.frames + 1 ≤ R.frames ∧ 8 + (maxL + 11) + rm.locals ≤ R.locals) :
    vx_CSW R s args own index y bytes maxL ret hh ws rm mc ms n := by
  have ok : ∀ w ∈ va_wsS own index y ws, w.before args s = true := fun w h => ht w (hT w h).1
  have hG : GoodIn Ts ws := fun w h => hT w (by unfold va_wsS; exact List.mem_append_right _ h)
  have hc : Cond.codeWith y bytes maxL ret hh ∈ ws := by rw [hw]; exact List.mem_cons_self
  refine ⟨⟨hrc, hrs, hR.1, hR.2, pay_in ht hG, hc⟩, ht _ (hG _ hc).1, ok _ (by simp [va_wsS]), ⟨hd.1, hd.2.1⟩, fun sig h => ?_, ok _ (by simp [va_wsS]), ok _ (by simp [va_wsS])⟩
  have h2 := hd.2.2
  rw [h] at h2
  exact (Option.some.inj h2).symm
theorem vx_callSW (X : Stand p l e R s m args below meth c T locs cells slots) (hexec : p.tables.exec = Jvm.exec) {own : String} {index : Nat} {y : MethodName} {bytes : ByteArray} {maxL : Nat} {ret : Option FieldType} {hh : List (Nat × Nat × Nat × Nat)}
    (hown : s.vm.findClass own = some m.cls) (hlink : (Cond.methodLink own index y).before args s = true) (hstat : (Cond.static y).before args s = true) (hinit : (Cond.initialized y.cls).before args s = true)
    (hcode : (Cond.codeWith y bytes maxL ret hh).before args s = true) (hy : y.cls ≠ "java/lang/invoke/MethodHandle" ∧ y.cls ≠ "java/lang/invoke/VarHandle")
    {W9 : Nat} {Pre : Pt → Array Value → Prop} {Post : Pt → Array Value → Option Value → Pt → Prop} (hK : Back l R p e below s args y 3 W9 Pre Post)
    {g : JFrame} (hg : g.method = m) (hsize : g.locals.size = c.maxLocals) {argsL rest : List Value} (hlen : ∀ sig, parseMethodDescriptor y.desc = some sig → argsL.length = sig.parameters.length)
    (hstack : g.stack = argsL.reverse ++ rest) (hW : 2 * g.monitorRoom + (rest.map fun v => v.category).sum ≤ W9) (hdg : decode c.code g.pc = .ok (.invokestatic index, 3))
    (hpre : ∀ vm₁, s.WarmedH vm₁ → Pre ⟨T.setVm vm₁, locs, cells, slots⟩ argsL.toArray) :
    ∃ (v : Option Value) (vm₁ : Vm) (B : Pt), s.WarmedH vm₁ ∧ Stand p l e R s m args below meth c B.U B.locs B.cells B.slots ∧ Post ⟨T.setVm vm₁, locs, cells, slots⟩ argsL.toArray v B ∧
      ∀ target, Steps p.tables e below (B.U.setTop { g with pc := g.pc + 3, stack := v.toList ++ rest }) target → Steps p.tables e below (T.setTop g) target := by
  obtain ⟨mk, methM, cM, hnamed, hmethM, -, -, -, -, -, -, hsigM⟩ := Cond.codeWith_spec hcode
  have hstatic : methM.isStatic = true := Cond.static_spec hnamed hmethM hstat
  obtain ⟨kP, hkP, -⟩ := className_of_methodNamed hnamed
  have hinitP : kP.init = .initialized := Cond.initialized_spec (findClass_of_methodNamed hnamed) hkP hinit
  obtain ⟨vm₁, X₁, hstep₁⟩ := X.invokestatic hexec hown hlink hnamed hmethM hstatic hkP hinitP hy (g := g) hg (argsL := argsL) (rest := rest) (hlen _ hsigM) hstack hdg
  obtain ⟨v, B, X', hpost, hsteps⟩ := hK m meth c ⟨T.setVm vm₁, locs, cells, slots⟩ { g with stack := rest } (.invokestatic index) mk argsL.toArray X₁ hg hsize hdg hW (X₁.named hnamed) (hpre vm₁ X₁.warmed)
  exact ⟨v, vm₁, B, X₁.warmed, X', hpost, fun target h => hstep₁ _ fun acts => by rw [doInvoke_state]; exact hsteps.trans h⟩
theorem vx_runSW {y : MethodName} {bytes cc : ByteArray} {maxL nL mc ms n index : Nat} {ret : Option FieldType} {hh : List (Nat × Nat × Nat × Nat)} {ws : List Cond} {rm : Room} {Pc : Array Value → State → Prop} {Qc : Array Value → State → Outcome → State → Prop} {free : Addr → Prop} {Ts : List Cond} {own : String} {As rest : List Value} {g : JFrame}
    (S : CallFix p m c cc nL s args Ts own) (hM : Met l y ws rm Pc Qc mc ms free) (cw : vx_CSW R s args own index y bytes maxL ret hh ws rm mc ms n) (hp : PreS s H Pc As)
    (hg : g.method = m) (hn : As.length = n) (hsize : g.locals.size = nL) (hstack : g.stack = As.reverse ++ rest) (hW : 2 * g.monitorRoom + (rest.map fun v => v.category).sum ≤ 8) (hdg : decode cc g.pc = .ok (.invokestatic index, 3)) (hf : cells + mc ≤ R.cells ∧ slots + ms ≤ R.slots) :
    va_Run p l e R s m args below meth c H locs cells slots mc ms g rest (Qc As.toArray) (free) := by
  obtain ⟨⟨hrc, hrs, hfr, hlo, hws, hcw⟩, hcode, hini, hy, hlen, hl, hstt⟩ := cw
  have hK : Back l R p e below s args y 3 8 (PreOf R mc ms Pc) (PostOf Qc mc ms free) := va_backW (hh := hh) (bytes := bytes) (maxL := maxL) (ret := ret) hM hp.1 hrc hrs hfr hlo hws hcw (fun a' U hW => word_at hW (Or.inl (by first | rfl | simp [Cond.onTables, Cond.keeps, Cond.steady])) hini)
  obtain ⟨hx, hb, hml, ho, -⟩ := S
  intro T hT X
  obtain ⟨v, vm₁, ⟨U', l2, c2, s2⟩, hW₁, X', ⟨g', mk, t, L, e1, e2, hq, h1, hL, h2, h3⟩, st⟩ := vx_callSW X hx (hh := hh) (bytes := bytes) (maxL := maxL) (ret := ret) ho hl hstt hini hcode hy hK hg (hsize.trans hml.symm) (argsL := As) (rest := rest) (fun sig h => hn.trans (hlen sig h)) hstack hW (by rw [hb]; exact hdg)
    (fun vm₁ hW₁ => ⟨hf.1, hf.2, hp.2 (T.setVm vm₁) hT hW₁⟩)
  dsimp only [Pt.U, Pt.locs, Pt.cells, Pt.slots] at X' e1 e2 h1 h2 h3 st
  subst h1; subst h2; subst h3
  exact ⟨v, (T.setVm vm₁).calling g' mk As.toArray, t, U', L, hT, X', hL, e1, e2, hq, st⟩
/-- not caught here, past rows that name other classes: it goes on to the caller -/
theorem vx_outP {p : Program} {l : Launch} {e : Env} {R : Room} {s : State} {m : MethodId} {args : Array Value} {below : List Frame} {meth : Method} {c : Code} {H : Heap} {locs : List Loc} {cells slots : Nat} {free : Addr → Prop} {ls : Array Slot} {rest : List Value} {Qc : Array Value → State → Outcome → State → Prop} {XC : String → State → State → Prop}
    {pc : Nat} {own E : String} {ce : Cell} {q : Addr} {mc ms : Nat} (hown : s.vm.findClass own = some m.cls) (hlocks : meth.locks = false)
    (hpass : ∀ z ∈ c.exceptionTable.toList, covers z pc = false ∨ (z.catchType ≠ 0 ∧ ∃ nm : String, (Cond.classLink own z.catchType nm).before args s = true ∧ va_Nc E nm s)) (hcell : H[q]? = some ce) (hv : ce.vm = .none) (hcl : s.vm.findClass E = some ce.cls)
    (hx : ∀ t : State, t.heap = H → s.vm.Alike t.vm → XC E s t) (hf : ∀ z ∈ locs, free z.base) (hc : cells ≤ mc) (hs : slots ≤ ms) :
    vx_W p l e R s m args below meth c H locs cells slots (vx_MQ below Qc XC args s mc ms free) (F0 m pc ls rest) q := by
  intro T hT X
  have hpl : e.platform.magicAccessors = ({} : Platform).magicAccessors := by rw [X.admits.platform]
  obtain ⟨vm', hW', X', st⟩ := X.outThrough hlocks q (g := F0 m pc ls rest) rfl rfl rfl (cell := ce) (by rw [hT]; exact hcell) (by rw [hv]; rfl)
    (by obtain ⟨k9, h9, -⟩ := Vm.findClass_spec hcl; exact ⟨k9, h9⟩) (fun z hz => by
      rcases hpass z hz with h | ⟨hz0, nm, hl1, hn1⟩
      · exact Or.inl h
      · obtain ⟨c6, hc6, hcl6⟩ := Cond.classLink_spec hown hl1 e.platform hpl
        obtain ⟨a8, b8, h1, h2, h3⟩ := hn1
        cases Option.some.inj (h1.symm.trans hcl)
        cases Option.some.inj (h2.symm.trans hc6)
        exact Or.inr ⟨hz0, _, hcl6, h3⟩)
  obtain ⟨g₀, hfr⟩ := X'.frames_eq
  have hcell9 : ((T.setVm vm').setFrames (.throwing q :: below)).heap[q]? = some ce := by
    show T.heap[q]? = some ce
    rw [hT]; exact hcell
  have hend : Ended ((T.setVm vm').setFrames (.throwing q :: below)) below (.threw q) := State.frames_setFrames _ (State.cur_lt_of_frames hfr)
  refine ⟨(T.setVm vm').setFrames (.throwing q :: below), ?_, .threw q, X'.here.running, hend, Or.inr ⟨q, rfl, E, ce, locs, hx _ hT (X'.ends _).1.alike, hcell9, hv, hcl, (X'.ends _).1, (X'.ends _).2.mono hc hs, hf⟩⟩
  rw [X.pushThrowing_eq]
  exact st
/-- a thing of a world lies in the heap -/
theorem vx_lt {D : va_G} {cl : List vw_C} {ws : va_W} {H1 : Heap} (h : va_P D cl ws H1) {k : Nat} {q : Nat × va_E} (hk : ws[k]? = some q) : q.1 < H1.size := (h k q hk).lt
end VXS
/-! ===== END ===== -/
/-! ===== BEGIN methods with a table of their own: called by a name, returning or throwing ===== -/
section VXH
/-! vx_backW, vx_callVX, vx_callSX, vx_callVW, vx_runVW, vx_runVX, vx_runSX, vx_ofWH follow the same proofs as their sisters above (Free/Laws.lean, Shelf42/LK1.lean); vx_outP calls Shelf42/NT130.lean (outThrough). -/
section
variable {l : Launch} {R : Room} {p : Program} {e : Env} {below : List Frame} {s : State} {sargs : Array Value} {y : MethodName} {len W9 : Nat}
theorem vx_backW {ws : List Cond} {rm : Room} {Pc : Array Value → State → Prop} {Qc : Array Value → State → Outcome → State → Prop} {XC : String → State → State → Prop} {mc ms : Nat} {free : Addr → Prop} {bytes : ByteArray} {maxL : Nat} {ret : Option FieldType} {hh : List (Nat × Nat × Nat × Nat)}
    (hM : vx_Met l y ws rm Pc Qc XC mc ms free) (hblind : FrameBlind Pc) (hrc : rm.cells = mc) (hrs : rm.slots = ms)
    (hframes : rm.frames + 1 ≤ R.frames) (hlocals : W9 + (maxL + 11) + rm.locals ≤ R.locals)
    (hws : ∀ w ∈ ws, ∀ a' U, s.WarmedH U.vm → w.before a' U = true) (hcode : Cond.codeWith y bytes maxL ret hh ∈ ws) (hinit : ∀ a' U, s.WarmedH U.vm → (Cond.initialized y.cls).before a' U = true) :
    vx_Back l R p e below s sargs y len W9 (PreOf R mc ms Pc) (PostOf Qc mc ms free) (vx_Post XC mc ms free) := by
  intro m meth c A g ig mk a X hg hsize hdg hW hn hp
  have h1 : (headSpec ws rm).pre.before a A.U = true := atoms_intro fun w hw => hws w hw _ _ X.warmed
  have h2 : (Cond.codeWith y bytes maxL ret hh).before a A.U = true := hws _ hcode _ _ X.warmed
  have h3 : (Cond.initialized y.cls).before a A.U = true := hinit _ _ X.warmed
  have h4 : A.cells + (headSpec ws rm).room.cells ≤ R.cells := by rw [show (headSpec ws rm).room.cells = mc from hrc]; exact hp.1
  have h5 : A.slots + (headSpec ws rm).room.slots ≤ R.slots := by rw [show (headSpec ws rm).room.slots = ms from hrs]; exact hp.2.1
  have hPc : Pc a (A.U.calling g mk a) := hblind _ _ _ _ hp.2.2
  obtain ⟨U, Ls, c0, s0⟩ := A
  dsimp only [Pt.U, Pt.locs, Pt.cells, Pt.slots] at h1 h2 h3 h4 h5 X hn hPc ⊢
  obtain ⟨m9, methY, cY, hn9, hmY, hcY, -, hlY, -⟩ := Cond.codeWith_spec h2
  cases Option.some.inj (hn9.symm.trans hn)
  obtain ⟨kY, hkY, -⟩ := className_of_methodNamed hn
  have hinitY : kY.init = .initialized := Cond.initialized_spec (findClass_of_methodNamed hn) hkY h3
  have h : At U g.method c below := by rw [hg]; exact X.here
  have hlocals9 : W9 + (maxL + 11) + (headSpec ws rm).room.locals ≤ R.locals := hlocals
  have happ : (headSpec ws rm).appliesLoose y e.platform (U.calling g mk a) = true :=
    Spec.appliesLoose_calling (g := g) h hdg hn hkY hinitY
      (X.room_calling (g := g) (R' := (headSpec ws rm).room) hsize hmY hcY hframes (by rw [hlY]; omega) h4 h5) h1
  obtain ⟨mid, hmid⟩ := h.above
  have hfr : (U.setTop g).frames = (.java g :: mid) ++ below := by rw [State.frames_setTop' g h.top, hmid]; rfl
  obtain ⟨o, s₂, hsteps, -, hend, hq⟩ := Steps.callFree hM p X.admits X.cas X.clock (acts := []) hfr happ hPc trivial
  have hq' : vx_Q Qc XC mc ms free a (U.calling g mk a) o s₂ := hq
  rw [State.frames_setTop' g h.top] at hend
  obtain ⟨g₀, hg0⟩ := Option.isSome_iff_exists.mp h.top
  obtain ⟨r, hr⟩ := State.topJava?_eq_some.mp hg0
  have hr' : (({ U with heap := s₂.heap, slotsUsed := s₂.slotsUsed } : State).setVm s₂.vm).frames = .java g₀ :: r := hr
  rcases hq' with ⟨hqc, L, hfe, hL⟩ | ⟨q, rfl, E, ce, L, hx, hce, hcv, hcl, hW₂, hsm, hL⟩
  · obtain ⟨⟨v, rfl⟩, hW₂, e2, q2, q3, q4, q5, q6⟩ := id hfe
    have e3 : s₂ = ({ (U.calling g mk a).setFrames s₂.frames with heap := s₂.heap, slotsUsed := s₂.slotsUsed } : State).setVm s₂.vm := by
      have : s₂ = ({ s₂ with vm := (U.calling g mk a).vm } : State).setVm s₂.vm := rfl
      rw [e2] at this
      exact this
    obtain ⟨c₂, i₂, len₂, hc₂, hd₂, hf₂⟩ := hend
    have hW' : U.WarmedH s₂.vm := hW₂
    have hcc : c₂ = c := by
      have h1 : s₂.code? g.method = U.code? g.method := by
        rw [State.code?_eq, State.code?_eq, hW'.alike.method?]
      exact Option.some.inj (hc₂.symm.trans (h1.trans h.code))
    subst hcc
    have hlen : len₂ = len := by rw [hdg] at hd₂; cases hd₂; rfl
    subst hlen
    have hs₂ : s₂ = (({ U with heap := s₂.heap, slotsUsed := s₂.slotsUsed } : State).setVm s₂.vm).setTop { g with pc := g.pc + len₂, stack := v.toList ++ g.stack } := by
      refine e3.trans ?_
      rw [hf₂, State.calling_eq h.top, State.setFrames_setFrames, State.setTop_of_frames _ hr', hr]
      rfl
    have hsame : U.sameButNew ({ U with heap := s₂.heap, slotsUsed := s₂.slotsUsed } : State) L mc ms := by
      refine ⟨?_, q2, q3, q4, q5, q6⟩
      obtain ⟨t, ht, -⟩ := State.frames_cons hr
      show ({ U with heap := s₂.heap, slotsUsed := s₂.slotsUsed } : State) = { U.setFrames U.frames with heap := s₂.heap, slotsUsed := s₂.slotsUsed }
      rw [State.setFrames_self ht]
    subst hg
    refine Or.inl ⟨v, ⟨(({ U with heap := s₂.heap, slotsUsed := s₂.slotsUsed } : State).setVm s₂.vm), Ls ++ L, c0 + mc, s0 + ms⟩,
      ⟨X.admits, X.cas, X.clock, X.frames, X.room, X.hears, X.method, X.code, (X.here.setHeapUsed s₂.heap s₂.slotsUsed).setVm hW'.alike, X.tail, State.WarmedH.trans X.warmed hW', X.limits, X.bytes, X.same.trans (hsame.setVm s.vm)⟩,
      ⟨g, mk, s₂, L, rfl, rfl, hqc, rfl, hL, rfl, rfl⟩, ?_⟩
    show Steps p.tables e below _ ((({ U with heap := s₂.heap, slotsUsed := s₂.slotsUsed } : State).setVm s₂.vm).setTop { g with pc := g.pc + len₂, stack := v.toList ++ g.stack })
    rw [← hs₂]
    exact hsteps
  · obtain ⟨e2, q2, q3, q4, q5, q6⟩ := id hsm
    have e3 : s₂ = ({ (U.calling g mk a).setFrames s₂.frames with heap := s₂.heap, slotsUsed := s₂.slotsUsed } : State).setVm s₂.vm := by
      have : s₂ = ({ s₂ with vm := (U.calling g mk a).vm } : State).setVm s₂.vm := rfl
      rw [e2] at this
      exact this
    have hf₂ : s₂.frames = .throwing q :: .java g :: U.frames.tail := hend
    have hW' : U.WarmedH s₂.vm := hW₂
    have hs₂ : s₂ = ((({ U with heap := s₂.heap, slotsUsed := s₂.slotsUsed } : State).setVm s₂.vm).setTop g).pushFrame (.throwing q) := by
      refine e3.trans ?_
      rw [hf₂, State.calling_eq h.top, State.setFrames_setFrames, State.pushFrame, State.frames_setTop _ hr', State.setTop_of_frames _ hr', State.setFrames_setFrames, hr]
      rfl
    have hsame : U.sameButNew ({ U with heap := s₂.heap, slotsUsed := s₂.slotsUsed } : State) L mc ms := by
      refine ⟨?_, q2, q3, q4, q5, q6⟩
      obtain ⟨t, ht, -⟩ := State.frames_cons hr
      show ({ U with heap := s₂.heap, slotsUsed := s₂.slotsUsed } : State) = { U.setFrames U.frames with heap := s₂.heap, slotsUsed := s₂.slotsUsed }
      rw [State.setFrames_self ht]
    subst hg
    refine Or.inr ⟨q, ⟨(({ U with heap := s₂.heap, slotsUsed := s₂.slotsUsed } : State).setVm s₂.vm), Ls ++ L, c0 + mc, s0 + ms⟩,
      ⟨X.admits, X.cas, X.clock, X.frames, X.room, X.hears, X.method, X.code, (X.here.setHeapUsed s₂.heap s₂.slotsUsed).setVm hW'.alike, X.tail, State.WarmedH.trans X.warmed hW', X.limits, X.bytes, X.same.trans (hsame.setVm s.vm)⟩,
      ⟨g, mk, s₂, L, E, ce, rfl, rfl, hx, hce, hcv, hcl, rfl, hL, rfl, rfl⟩, ?_⟩
    show Steps p.tables e below _ (((({ U with heap := s₂.heap, slotsUsed := s₂.slotsUsed } : State).setVm s₂.vm).setTop g).pushFrame (.throwing q))
    rw [← hs₂]
    exact hsteps
end
variable {p : Program} {l : Launch} {e : Env} {R : Room} {s : State} {m : MethodId} {args : Array Value} {below : List Frame} {meth : Method} {c : Code} {T : State} {H : Heap} {locs : List Loc} {cells slots : Nat}
theorem vx_callVX (X : Stand p l e R s m args below meth c T locs cells slots) (hexec : p.tables.exec = Jvm.exec) {own C : String} {index : Nat} {y : MethodName} {bytes : ByteArray} {maxL : Nat} {ret : Option FieldType} {hh : List (Nat × Nat × Nat × Nat)}
    (hown : s.vm.findClass own = some m.cls) (hlink : (Cond.methodLink own index y).before args s = true) (hinst : (Cond.instanceMethod y).before args s = true) (hsel : (Cond.selects C y y).before args s = true)
    (hcode : (Cond.codeWith y bytes maxL ret hh).before args s = true) (hy : y.cls ≠ "java/lang/invoke/MethodHandle" ∧ y.cls ≠ "java/lang/invoke/VarHandle")
    {W9 : Nat} {Pre : Pt → Array Value → Prop} {Post : Pt → Array Value → Option Value → Pt → Prop} {PostX : Pt → Array Value → Addr → Pt → Prop} (hK : vx_Back l R p e below s args y 3 W9 Pre Post PostX)
    {b : Addr} {cellB : Cell} (hcell : T.heap[b]? = some cellB) (hobj : cellB.vm.isStatics = false) (hcls : s.vm.findClass C = some cellB.cls)
    {g : JFrame} (hg : g.method = m) (hsize : g.locals.size = c.maxLocals) {argsL rest : List Value} (hlen : ∀ sig, parseMethodDescriptor y.desc = some sig → argsL.length = sig.parameters.length)
    (hstack : g.stack = argsL.reverse ++ .ref b :: rest) (hW : 2 * g.monitorRoom + (rest.map fun v => v.category).sum ≤ W9) (hdg : decode c.code g.pc = .ok (.invokevirtual index, 3))
    (hpre : ∀ vm₁, s.WarmedH vm₁ → Pre ⟨T.setVm vm₁, locs, cells, slots⟩ (Value.ref b :: argsL).toArray) :
    (∃ (v : Option Value) (vm₁ : Vm) (B : Pt), s.WarmedH vm₁ ∧ Stand p l e R s m args below meth c B.U B.locs B.cells B.slots ∧ Post ⟨T.setVm vm₁, locs, cells, slots⟩ (Value.ref b :: argsL).toArray v B ∧
      ∀ target, Steps p.tables e below (B.U.setTop { g with pc := g.pc + 3, stack := v.toList ++ rest }) target → Steps p.tables e below (T.setTop g) target) ∨
    (∃ (q : Addr) (vm₁ : Vm) (B : Pt), s.WarmedH vm₁ ∧ Stand p l e R s m args below meth c B.U B.locs B.cells B.slots ∧ PostX ⟨T.setVm vm₁, locs, cells, slots⟩ (Value.ref b :: argsL).toArray q B ∧
      Steps p.tables e below (T.setTop g) ((B.U.setTop { g with stack := rest }).pushFrame (.throwing q))) := by
  obtain ⟨mk, methM, hnamed, hmethM, hstM, habM⟩ := Cond.instanceMethod_spec hinst
  obtain ⟨m8, methM', cM, hn8, hmethM', -, -, -, -, -, -, hsigM⟩ := Cond.codeWith_spec hcode
  cases Option.some.inj (hn8.symm.trans hnamed)
  cases hmethM.symm.trans hmethM'
  obtain ⟨c2, r2, m2, q1, q2, q3, q4, kP, hkP, hkPi⟩ := Cond.selects_spec hsel
  cases hcls.symm.trans q1
  cases (State.methodFound?_of_named hnamed hy).symm.trans q2
  cases hnamed.symm.trans q3
  have hselP : selectMethod e.platform s.vm cellB.cls mk = .method mk := by rw [Launch.admits_selectMethod X.admits]; exact q4
  obtain ⟨vm₁, X₁, hstep₁⟩ := X.invokevirtual hexec hown hlink hnamed hmethM hstM hkP hkPi hy (a := b) (cell := cellB) hcell
    (fun z h => by rw [h] at hobj; cases hobj) hselP hmethM habM hkP hkPi (g := g) hg (argsL := argsL) (rest := rest) (hlen _ hsigM) hstack hdg
  rcases hK m meth c ⟨T.setVm vm₁, locs, cells, slots⟩ { g with stack := rest } (.invokevirtual index) mk (Value.ref b :: argsL).toArray X₁ hg hsize hdg hW (X₁.named hnamed) (hpre vm₁ X₁.warmed) with ⟨v, B, X', hpost, hsteps⟩ | ⟨q, B, X', hpost, hsteps⟩
  · exact Or.inl ⟨v, vm₁, B, X₁.warmed, X', hpost, fun target h => hstep₁ _ fun acts => by rw [doInvoke_state]; exact hsteps.trans h⟩
  · exact Or.inr ⟨q, vm₁, B, X₁.warmed, X', hpost, hstep₁ _ fun acts => by rw [doInvoke_state]; exact hsteps⟩
theorem vx_callSX (X : Stand p l e R s m args below meth c T locs cells slots) (hexec : p.tables.exec = Jvm.exec) {own : String} {index : Nat} {y : MethodName} {bytes : ByteArray} {maxL : Nat} {ret : Option FieldType} {hh : List (Nat × Nat × Nat × Nat)}
    (hown : s.vm.findClass own = some m.cls) (hlink : (Cond.methodLink own index y).before args s = true) (hstat : (Cond.static y).before args s = true) (hinit : (Cond.initialized y.cls).before args s = true)
    (hcode : (Cond.codeWith y bytes maxL ret hh).before args s = true) (hy : y.cls ≠ "java/lang/invoke/MethodHandle" ∧ y.cls ≠ "java/lang/invoke/VarHandle")
    {W9 : Nat} {Pre : Pt → Array Value → Prop} {Post : Pt → Array Value → Option Value → Pt → Prop} {PostX : Pt → Array Value → Addr → Pt → Prop} (hK : vx_Back l R p e below s args y 3 W9 Pre Post PostX)
    {g : JFrame} (hg : g.method = m) (hsize : g.locals.size = c.maxLocals) {argsL rest : List Value} (hlen : ∀ sig, parseMethodDescriptor y.desc = some sig → argsL.length = sig.parameters.length)
    (hstack : g.stack = argsL.reverse ++ rest) (hW : 2 * g.monitorRoom + (rest.map fun v => v.category).sum ≤ W9) (hdg : decode c.code g.pc = .ok (.invokestatic index, 3))
    (hpre : ∀ vm₁, s.WarmedH vm₁ → Pre ⟨T.setVm vm₁, locs, cells, slots⟩ argsL.toArray) :
    (∃ (v : Option Value) (vm₁ : Vm) (B : Pt), s.WarmedH vm₁ ∧ Stand p l e R s m args below meth c B.U B.locs B.cells B.slots ∧ Post ⟨T.setVm vm₁, locs, cells, slots⟩ argsL.toArray v B ∧
      ∀ target, Steps p.tables e below (B.U.setTop { g with pc := g.pc + 3, stack := v.toList ++ rest }) target → Steps p.tables e below (T.setTop g) target) ∨
    (∃ (q : Addr) (vm₁ : Vm) (B : Pt), s.WarmedH vm₁ ∧ Stand p l e R s m args below meth c B.U B.locs B.cells B.slots ∧ PostX ⟨T.setVm vm₁, locs, cells, slots⟩ argsL.toArray q B ∧
      Steps p.tables e below (T.setTop g) ((B.U.setTop { g with stack := rest }).pushFrame (.throwing q))) := by
  obtain ⟨mk, methM, cM, hnamed, hmethM, -, -, -, -, -, -, hsigM⟩ := Cond.codeWith_spec hcode
  have hstatic : methM.isStatic = true := Cond.static_spec hnamed hmethM hstat
  obtain ⟨kP, hkP, -⟩ := className_of_methodNamed hnamed
  have hinitP : kP.init = .initialized := Cond.initialized_spec (findClass_of_methodNamed hnamed) hkP hinit
  obtain ⟨vm₁, X₁, hstep₁⟩ := X.invokestatic hexec hown hlink hnamed hmethM hstatic hkP hinitP hy (g := g) hg (argsL := argsL) (rest := rest) (hlen _ hsigM) hstack hdg
  rcases hK m meth c ⟨T.setVm vm₁, locs, cells, slots⟩ { g with stack := rest } (.invokestatic index) mk argsL.toArray X₁ hg hsize hdg hW (X₁.named hnamed) (hpre vm₁ X₁.warmed) with ⟨v, B, X', hpost, hsteps⟩ | ⟨q, B, X', hpost, hsteps⟩
  · exact Or.inl ⟨v, vm₁, B, X₁.warmed, X', hpost, fun target h => hstep₁ _ fun acts => by rw [doInvoke_state]; exact hsteps.trans h⟩
  · exact Or.inr ⟨q, vm₁, B, X₁.warmed, X', hpost, hstep₁ _ fun acts => by rw [doInvoke_state]; exact hsteps⟩
theorem vx_callVW (X : Stand p l e R s m args below meth c T locs cells slots) (hexec : p.tables.exec = Jvm.exec) {own C : String} {index : Nat} {y : MethodName} {bytes : ByteArray} {maxL : Nat} {ret : Option FieldType} {hh : List (Nat × Nat × Nat × Nat)}
    (hown : s.vm.findClass own = some m.cls) (hlink : (Cond.methodLink own index y).before args s = true) (hinst : (Cond.instanceMethod y).before args s = true) (hsel : (Cond.selects C y y).before args s = true)
    (hcode : (Cond.codeWith y bytes maxL ret hh).before args s = true) (hy : y.cls ≠ "java/lang/invoke/MethodHandle" ∧ y.cls ≠ "java/lang/invoke/VarHandle")
    {W9 : Nat} {Pre : Pt → Array Value → Prop} {Post : Pt → Array Value → Option Value → Pt → Prop} (hK : Back l R p e below s args y 3 W9 Pre Post)
    {b : Addr} {cellB : Cell} (hcell : T.heap[b]? = some cellB) (hobj : cellB.vm.isStatics = false) (hcls : s.vm.findClass C = some cellB.cls)
    {g : JFrame} (hg : g.method = m) (hsize : g.locals.size = c.maxLocals) {argsL rest : List Value} (hlen : ∀ sig, parseMethodDescriptor y.desc = some sig → argsL.length = sig.parameters.length)
    (hstack : g.stack = argsL.reverse ++ .ref b :: rest) (hW : 2 * g.monitorRoom + (rest.map fun v => v.category).sum ≤ W9) (hdg : decode c.code g.pc = .ok (.invokevirtual index, 3))
    (hpre : ∀ vm₁, s.WarmedH vm₁ → Pre ⟨T.setVm vm₁, locs, cells, slots⟩ (Value.ref b :: argsL).toArray) :
    ∃ (v : Option Value) (vm₁ : Vm) (B : Pt), s.WarmedH vm₁ ∧ Stand p l e R s m args below meth c B.U B.locs B.cells B.slots ∧ Post ⟨T.setVm vm₁, locs, cells, slots⟩ (Value.ref b :: argsL).toArray v B ∧
      ∀ target, Steps p.tables e below (B.U.setTop { g with pc := g.pc + 3, stack := v.toList ++ rest }) target → Steps p.tables e below (T.setTop g) target := by
  obtain ⟨mk, methM, hnamed, hmethM, hstM, habM⟩ := Cond.instanceMethod_spec hinst
  obtain ⟨m8, methM', cM, hn8, hmethM', -, -, -, -, -, -, hsigM⟩ := Cond.codeWith_spec hcode
  cases Option.some.inj (hn8.symm.trans hnamed)
  cases hmethM.symm.trans hmethM'
  obtain ⟨c2, r2, m2, q1, q2, q3, q4, kP, hkP, hkPi⟩ := Cond.selects_spec hsel
  cases hcls.symm.trans q1
  cases (State.methodFound?_of_named hnamed hy).symm.trans q2
  cases hnamed.symm.trans q3
  have hselP : selectMethod e.platform s.vm cellB.cls mk = .method mk := by rw [Launch.admits_selectMethod X.admits]; exact q4
  obtain ⟨vm₁, X₁, hstep₁⟩ := X.invokevirtual hexec hown hlink hnamed hmethM hstM hkP hkPi hy (a := b) (cell := cellB) hcell
    (fun z h => by rw [h] at hobj; cases hobj) hselP hmethM habM hkP hkPi (g := g) hg (argsL := argsL) (rest := rest) (hlen _ hsigM) hstack hdg
  obtain ⟨v, B, X', hpost, hsteps⟩ := hK m meth c ⟨T.setVm vm₁, locs, cells, slots⟩ { g with stack := rest } (.invokevirtual index) mk (Value.ref b :: argsL).toArray X₁ hg hsize hdg hW (X₁.named hnamed) (hpre vm₁ X₁.warmed)
  exact ⟨v, vm₁, B, X₁.warmed, X', hpost, fun target h => hstep₁ _ fun acts => by rw [doInvoke_state]; exact hsteps.trans h⟩
abbrev vx_CVW (R : Room) (s : State) (args : Array Value) (own C : String) (index : Nat) (y : MethodName) (bytes : ByteArray) (maxL : Nat) (ret : Option FieldType) (hh : List (Nat × Nat × Nat × Nat)) (ws : List Cond) (rm : Room) (mc ms n : Nat) : Prop :=
  (rm.cells = mc ∧ rm.slots = ms ∧ rm.frames + 1 ≤ R.frames ∧ 8 + (maxL + 11) + rm.locals ≤ R.locals ∧ (∀ w ∈ ws, ∀ (a' : Array Value) (U : State), s.WarmedH U.vm → w.before a' U = true) ∧ Cond.codeWith y bytes maxL ret hh ∈ ws) ∧
  (Cond.codeWith y bytes maxL ret hh).before args s = true ∧ (Cond.initialized y.cls).before args s = true ∧ (y.cls ≠ "java/lang/invoke/MethodHandle" ∧ y.cls ≠ "java/lang/invoke/VarHandle") ∧
  (∀ sig, parseMethodDescriptor y.desc = some sig → n = sig.parameters.length) ∧ (Cond.methodLink own index y).before args s = true ∧ (Cond.instanceMethod y).before args s = true ∧ (Cond.selects C y y).before args s = true
theorem vx_cwVW {own C : String} {index maxL mc ms : Nat} {y : MethodName} {bytes : ByteArray} {ret : Option FieldType} {hh : List (Nat × Nat × Nat × Nat)} {Ts ws ws' : List Cond} {rm : Room} (n : Nat) (ht : ∀ w ∈ Ts, w.before args s = true) (hT : GoodIn Ts (wsV own index C y ws)) (hw : ws = Cond.codeWith y bytes maxL ret hh :: ws') (hrc : rm.cells = mc) (hrs : rm.slots = ms)
    (hd : y.cls = C ∧ y.cls ≠ "java/lang/invoke/MethodHandle" ∧ y.cls ≠ "java/lang/invoke/VarHandle" ∧ (parseMethodDescriptor y.desc).map (fun d => d.parameters.length) = some n) (hR : rm.frames + 1 ≤ R.frames ∧ 8 + (maxL + 11) + rm.locals ≤ R.locals) :
    vx_CVW R s args own C index y bytes maxL ret hh ws rm mc ms n := by
  obtain ⟨hC, hd⟩ := hd
  subst hC
  have ok : ∀ w ∈ wsV own index y.cls y ws, w.before args s = true := fun w h => ht w (hT w h).1
  have hG : GoodIn Ts ws := fun w h => hT w (by unfold wsV; exact List.mem_append_right _ h)
  have hc : Cond.codeWith y bytes maxL ret hh ∈ ws := by rw [hw]; exact List.mem_cons_self
  refine ⟨⟨hrc, hrs, hR.1, hR.2, pay_in ht hG, hc⟩, ht _ (hG _ hc).1, ok _ (by simp [wsV]), ⟨hd.1, hd.2.1⟩, fun sig h => ?_, ok _ (by simp [wsV]), ok _ (by simp [wsV]), ok _ (by simp [wsV])⟩
  have h2 := hd.2.2
  rw [h] at h2
  exact (Option.some.inj h2).symm
theorem vx_runVW {y : MethodName} {bytes cc : ByteArray} {maxL nL mc ms n index : Nat} {ret : Option FieldType} {hh : List (Nat × Nat × Nat × Nat)} {ws : List Cond} {rm : Room} {Pc : Array Value → State → Prop} {Qc : Array Value → State → Outcome → State → Prop} {free : Addr → Prop} {Ts : List Cond} {own C : String} {b : Addr} {As rest : List Value} {g : JFrame}
    (S : CallFix p m c cc nL s args Ts own) (hM : Met l y ws rm Pc Qc mc ms free) (cw : vx_CVW R s args own C index y bytes maxL ret hh ws rm mc ms n) (hp : PreV s H C b Pc As)
    (hg : g.method = m) (hn : As.length = n) (hsize : g.locals.size = nL) (hstack : g.stack = As.reverse ++ .ref b :: rest) (hW : 2 * g.monitorRoom + (rest.map fun v => v.category).sum ≤ 8) (hdg : decode cc g.pc = .ok (.invokevirtual index, 3)) (hf : cells + mc ≤ R.cells ∧ slots + ms ≤ R.slots) :
    va_Run p l e R s m args below meth c H locs cells slots mc ms g rest (Qc (Value.ref b :: As).toArray) free := by
  obtain ⟨⟨hrc, hrs, hfr, hlo, hws, hcw⟩, hcode, hini, hy, hlen, hl, hin, hse⟩ := cw
  have hK : Back l R p e below s args y 3 8 (PreOf R mc ms Pc) (PostOf Qc mc ms free) := va_backW (hh := hh) (bytes := bytes) (maxL := maxL) (ret := ret) hM hp.1 hrc hrs hfr hlo hws hcw (fun a' U hW => word_at hW (Or.inl (by first | rfl | simp [Cond.onTables, Cond.keeps, Cond.steady])) hini)
  obtain ⟨hx, hb, hml, ho, -⟩ := S
  obtain ⟨-, ⟨cellB, hcB, hoB, hclB⟩, hPc⟩ := hp
  intro T hT X
  obtain ⟨v, vm₁, ⟨U', l2, c2, s2⟩, hW₁, X', ⟨g', mk, t, L, e1, e2, hq, h1, hL, h2, h3⟩, st⟩ := vx_callVW X hx (C := C) (hh := hh) (bytes := bytes) (maxL := maxL) (ret := ret) ho hl hin hse hcode hy hK (by rw [hT]; exact hcB) hoB hclB hg (hsize.trans hml.symm) (argsL := As) (rest := rest) (fun sig h => hn.trans (hlen sig h)) hstack hW (by rw [hb]; exact hdg)
    (fun vm₁ hW₁ => ⟨hf.1, hf.2, hPc (T.setVm vm₁) hT hW₁⟩)
  dsimp only [Pt.U, Pt.locs, Pt.cells, Pt.slots] at X' e1 e2 h1 h2 h3 st
  subst h1; subst h2; subst h3
  exact ⟨v, (T.setVm vm₁).calling g' mk (Value.ref b :: As).toArray, t, U', L, hT, X', hL, e1, e2, hq, st⟩
section
variable {y : MethodName} {bytes cc : ByteArray} {maxL nL mc ms n index : Nat} {ret : Option FieldType} {ws : List Cond} {rm : Room} {Pc : Array Value → State → Prop} {Qc : Array Value → State → Outcome → State → Prop} {XC : String → State → State → Prop} {free : Addr → Prop} {Ts : List Cond} {own C : String} {b : Addr} {As rest : List Value} {g : JFrame}
theorem vx_runVX {hh : List (Nat × Nat × Nat × Nat)} (S : CallFix p m c cc nL s args Ts own) (hM : vx_Met l y ws rm Pc Qc XC mc ms free) (cw : vx_CVW R s args own C index y bytes maxL ret hh ws rm mc ms n) (hp : PreV s H C b Pc As)
    (hg : g.method = m) (hn : As.length = n) (hsize : g.locals.size = nL) (hstack : g.stack = As.reverse ++ .ref b :: rest) (hW : 2 * g.monitorRoom + (rest.map fun v => v.category).sum ≤ 8) (hdg : decode cc g.pc = .ok (.invokevirtual index, 3)) (hf : cells + mc ≤ R.cells ∧ slots + ms ≤ R.slots) :
    vx_Run p l e R s m args below meth c H locs cells slots mc ms g rest (Qc (Value.ref b :: As).toArray) XC free := by
  obtain ⟨⟨hrc, hrs, hfr, hlo, hws, hcw⟩, hcode, hini, hy, hlen, hl, hin, hse⟩ := cw
  have hK : vx_Back l R p e below s args y 3 8 (PreOf R mc ms Pc) (PostOf Qc mc ms free) (vx_Post XC mc ms free) := vx_backW (hh := hh) (bytes := bytes) (maxL := maxL) (ret := ret) hM hp.1 hrc hrs hfr hlo hws hcw (fun a' U hW => word_at hW (Or.inl (by first | rfl | simp [Cond.onTables, Cond.keeps, Cond.steady])) hini)
  obtain ⟨hx, hb, hml, ho, -⟩ := S
  obtain ⟨-, ⟨cellB, hcB, hoB, hclB⟩, hPc⟩ := hp
  intro T hT X
  rcases vx_callVX X hx (C := C) (hh := hh) (bytes := bytes) (maxL := maxL) (ret := ret) ho hl hin hse hcode hy hK (by rw [hT]; exact hcB) hoB hclB hg (hsize.trans hml.symm) (argsL := As) (rest := rest) (fun sig h => hn.trans (hlen sig h)) hstack hW (by rw [hb]; exact hdg)
    (fun vm₁ hW₁ => ⟨hf.1, hf.2, hPc (T.setVm vm₁) hT hW₁⟩) with ⟨v, vm₁, ⟨U', l2, c2, s2⟩, hW₁, X', ⟨g', mk, t, L, e1, e2, hq, h1, hL, h2, h3⟩, st⟩ | ⟨q, vm₁, ⟨U', l2, c2, s2⟩, hW₁, X', ⟨g', mk, t, L, E, ce, e1, e2, hq, hce, hcv, hcl, h1, hL, h2, h3⟩, st⟩
  · dsimp only [Pt.U, Pt.locs, Pt.cells, Pt.slots] at X' e1 e2 h1 h2 h3 st
    subst h1; subst h2; subst h3
    exact Or.inl ⟨v, (T.setVm vm₁).calling g' mk (Value.ref b :: As).toArray, t, U', L, hT, X', hL, e1, e2, hq, st⟩
  · dsimp only [Pt.U, Pt.locs, Pt.cells, Pt.slots] at X' e1 e2 h1 h2 h3 st hcl
    subst h1; subst h2; subst h3
    exact Or.inr ⟨q, (T.setVm vm₁).calling g' mk (Value.ref b :: As).toArray, t, U', L, E, ce, hT, X', hL, e1, e2, hq, hce, hcv, vx_cls hW₁ hcl, st⟩
theorem vx_runSX {hh : List (Nat × Nat × Nat × Nat)} (S : CallFix p m c cc nL s args Ts own) (hM : vx_Met l y ws rm Pc Qc XC mc ms free) (cw : vx_CSW R s args own index y bytes maxL ret hh ws rm mc ms n) (hp : PreS s H Pc As)
    (hg : g.method = m) (hn : As.length = n) (hsize : g.locals.size = nL) (hstack : g.stack = As.reverse ++ rest) (hW : 2 * g.monitorRoom + (rest.map fun v => v.category).sum ≤ 8) (hdg : decode cc g.pc = .ok (.invokestatic index, 3)) (hf : cells + mc ≤ R.cells ∧ slots + ms ≤ R.slots) :
    vx_Run p l e R s m args below meth c H locs cells slots mc ms g rest (Qc As.toArray) XC free := by
  obtain ⟨⟨hrc, hrs, hfr, hlo, hws, hcw⟩, hcode, hini, hy, hlen, hl, hstt⟩ := cw
  have hK : vx_Back l R p e below s args y 3 8 (PreOf R mc ms Pc) (PostOf Qc mc ms free) (vx_Post XC mc ms free) := vx_backW (hh := hh) (bytes := bytes) (maxL := maxL) (ret := ret) hM hp.1 hrc hrs hfr hlo hws hcw (fun a' U hW => word_at hW (Or.inl (by first | rfl | simp [Cond.onTables, Cond.keeps, Cond.steady])) hini)
  obtain ⟨hx, hb, hml, ho, -⟩ := S
  intro T hT X
  rcases vx_callSX X hx (hh := hh) (bytes := bytes) (maxL := maxL) (ret := ret) ho hl hstt hini hcode hy hK hg (hsize.trans hml.symm) (argsL := As) (rest := rest) (fun sig h => hn.trans (hlen sig h)) hstack hW (by rw [hb]; exact hdg)
    (fun vm₁ hW₁ => ⟨hf.1, hf.2, hp.2 (T.setVm vm₁) hT hW₁⟩) with ⟨v, vm₁, ⟨U', l2, c2, s2⟩, hW₁, X', ⟨g', mk, t, L, e1, e2, hq, h1, hL, h2, h3⟩, st⟩ | ⟨q, vm₁, ⟨U', l2, c2, s2⟩, hW₁, X', ⟨g', mk, t, L, E, ce, e1, e2, hq, hce, hcv, hcl, h1, hL, h2, h3⟩, st⟩
  · dsimp only [Pt.U, Pt.locs, Pt.cells, Pt.slots] at X' e1 e2 h1 h2 h3 st
    subst h1; subst h2; subst h3
    exact Or.inl ⟨v, (T.setVm vm₁).calling g' mk As.toArray, t, U', L, hT, X', hL, e1, e2, hq, st⟩
  · dsimp only [Pt.U, Pt.locs, Pt.cells, Pt.slots] at X' e1 e2 h1 h2 h3 st hcl
    subst h1; subst h2; subst h3
    exact Or.inr ⟨q, (T.setVm vm₁).calling g' mk As.toArray, t, U', L, E, ce, hT, X', hL, e1, e2, hq, hce, hcv, vx_cls hW₁ hcl, st⟩
end
end VXH
theorem vx_ofWH {l : Launch} {y : MethodName} {ws ws' : List Cond} {rm : Room} {Pc : Array Value → State → Prop} {Qc : Array Value → State → Outcome → State → Prop} {XC : String → State → State → Prop} {mc ms : Nat} {free : Addr → Prop} {cc : ByteArray} {maxL : Nat} {ret : Option FieldType} {hh : List (Nat × Nat × Nat × Nat)}
    (hy : plainName y.cls = true) (hw : ws = Cond.codeWith y cc maxL ret hh :: ws')
    (body : ∀ p e s m args below meth c s₁, BodyLoose p l y (headSpec ws rm) cc maxL ret e s m args below meth c s₁ → c.maxLocals = maxL → Pc args s →
      W p l e (headSpec ws rm).room s m args below meth c s.heap [] 0 0 (vx_MQ below Qc XC args s mc ms free) (entryFrame m args maxL)) : vx_Met l y ws rm Pc Qc XC mc ms free := by
  refine MetFree.of_bodyS (code := cc) (maxLocals := maxL) (ret := ret) hy ?_ ?_
  · intro args s m h hn
    obtain ⟨m9, meth, c, hn9, h1, h2, h3, h4, -, h5, h6, -⟩ := Cond.codeWith_spec (atoms_spec (ws := ws) h _ (by rw [hw]; exact List.mem_cons_self))
    cases hn.symm.trans hn9
    exact ⟨meth, c, h1, h2, h3, h4, h5, h6⟩
  · intro p e s m args below meth c s₁ B hml hP _
    have hh0 : s₁.heap = s.heap := by rw [B.state]; rfl
    obtain ⟨t, a1, o, b1, b2, b3⟩ := body p e s m args below meth c s₁ B hml hP s₁ hh0 (Stand.of_body B)
    exact ⟨t, o, a1, b1, b2, b3⟩
/-! ===== END ===== -/
end
section
def al_ws : List Cond := lw_tbl.filter goodWord
theorem al_good : GoodIn al_ws al_ws := fun w h => ⟨h, good_of_word (List.mem_filter.mp h).2⟩
theorem al_tbl : ∀ w ∈ al_ws, w ∈ lw_tbl := fun w h => (List.mem_filter.mp h).1
def R_DecimalReader : String := "DecimalReader"
def F_DecimalReader : u_T := fun k => match k with
  | 0 => ("DecimalReader", "doubles", "LDecimalReader$Kind;", true)
  | 1 => ("DecimalReader", "floats", "LDecimalReader$Kind;", true)
  | 2 => ("DecimalReader", "value", "LDecimalReader$Value;", true)
  | 3 => ("DecimalReader", "tape", "[B", true)
  | 4 => ("DecimalReader", "length", "I", false)
  | 5 => ("DecimalReader", "at", "I", false)
  | 6 => ("DecimalReader", "stop", "I", false)
  | 7 => ("DecimalReader", "negative", "Z", false)
  | 8 => ("DecimalReader", "form", "I", false)
  | 9 => ("DecimalReader", "digitsFrom", "I", false)
  | 10 => ("DecimalReader", "digitsTo", "I", false)
  | 11 => ("DecimalReader", "wholeDigits", "I", false)
  | _ => ("DecimalReader", "exponent", "I", false)
def t_DecimalReader : Nat → FieldType := fun k => match k with
  | 0 => (.object "DecimalReader$Kind")
  | 1 => (.object "DecimalReader$Kind")
  | 2 => (.object "DecimalReader$Value")
  | 3 => (.array .byte)
  | 4 => .int
  | 5 => .int
  | 6 => .int
  | 7 => .boolean
  | 8 => .int
  | 9 => .int
  | 10 => .int
  | 11 => .int
  | _ => .int
theorem n_DecimalReader : ∀ a, a < 13 → ∀ b, b < 13 → a ≠ b → (F_DecimalReader a).2.1 ≠ (F_DecimalReader b).2.1 := by decide +kernel
theorem t_DecimalReader_ok : ∀ k, k < 13 → parseFieldDescriptor (F_DecimalReader k).2.2.1 = some (t_DecimalReader k) := by decide +kernel
theorem i_DecimalReader : ∀ w ∈ u_ws R_DecimalReader F_DecimalReader 13, w ∈ al_ws := by decide +kernel
def R_Kind : String := "DecimalReader$Kind"
def F_Kind : u_T := fun k => match k with
  | 0 => ("DecimalReader$Kind", "precision", "I", true)
  | 1 => ("DecimalReader$Kind", "leastPower", "I", true)
  | 2 => ("DecimalReader$Kind", "greatestPower", "I", true)
  | 3 => ("DecimalReader$Kind", "exponentUnit", "J", true)
  | 4 => ("DecimalReader$Kind", "infinity", "J", true)
  | 5 => ("DecimalReader$Kind", "nan", "J", true)
  | _ => ("DecimalReader$Kind", "sign", "J", true)
def t_Kind : Nat → FieldType := fun k => match k with
  | 0 => .int
  | 1 => .int
  | 2 => .int
  | 3 => .long
  | 4 => .long
  | 5 => .long
  | _ => .long
theorem n_Kind : ∀ a, a < 7 → ∀ b, b < 7 → a ≠ b → (F_Kind a).2.1 ≠ (F_Kind b).2.1 := by decide +kernel
theorem t_Kind_ok : ∀ k, k < 7 → parseFieldDescriptor (F_Kind k).2.2.1 = some (t_Kind k) := by decide +kernel
theorem i_Kind : ∀ w ∈ u_ws R_Kind F_Kind 7, w ∈ al_ws := by decide +kernel
def R_Value : String := "DecimalReader$Value"
def F_Value : u_T := fun k => match k with
  | 0 => ("DecimalReader$Value", "limbs", "[I", true)
  | 1 => ("DecimalReader$Value", "words", "[I", true)
  | 2 => ("DecimalReader$Value", "isHuge", "Z", false)
  | _ => ("DecimalReader$Value", "hasMore", "Z", false)
def t_Value : Nat → FieldType := fun k => match k with
  | 0 => (.array .int)
  | 1 => (.array .int)
  | 2 => .boolean
  | _ => .boolean
theorem n_Value : ∀ a, a < 4 → ∀ b, b < 4 → a ≠ b → (F_Value a).2.1 ≠ (F_Value b).2.1 := by decide +kernel
theorem t_Value_ok : ∀ k, k < 4 → parseFieldDescriptor (F_Value k).2.2.1 = some (t_Value k) := by decide +kernel
theorem i_Value : ∀ w ∈ u_ws R_Value F_Value 4, w ∈ al_ws := by decide +kernel
def R_Model : String := "DecimalReaderModel"
def F_Model : u_T := fun k => match k with
  | 0 => ("DecimalReaderModel", "tape", "[B", true)
  | 1 => ("DecimalReaderModel", "taped", "I", false)
  | 2 => ("DecimalReaderModel", "code", "I", false)
  | 3 => ("DecimalReaderModel", "bits", "I", false)
  | 4 => ("DecimalReaderModel", "least", "I", false)
  | 5 => ("DecimalReaderModel", "limbs", "[J", true)
  | 6 => ("DecimalReaderModel", "used", "I", false)
  | 7 => ("DecimalReaderModel", "exact", "LDecimalReaderModel$Row;", true)
  | 8 => ("DecimalReaderModel", "high", "LDecimalReaderModel$Row;", true)
  | 9 => ("DecimalReaderModel", "digits", "[B", true)
  | 10 => ("DecimalReaderModel", "digitCount", "I", false)
  | 11 => ("DecimalReaderModel", "point", "J", false)
  | 12 => ("DecimalReaderModel", "at", "I", false)
  | _ => ("DecimalReaderModel", "stop", "I", false)
def t_Model : Nat → FieldType := fun k => match k with
  | 0 => (.array .byte)
  | 1 => .int
  | 2 => .int
  | 3 => .int
  | 4 => .int
  | 5 => (.array .long)
  | 6 => .int
  | 7 => (.object "DecimalReaderModel$Row")
  | 8 => (.object "DecimalReaderModel$Row")
  | 9 => (.array .byte)
  | 10 => .int
  | 11 => .long
  | 12 => .int
  | _ => .int
theorem n_Model : ∀ a, a < 14 → ∀ b, b < 14 → a ≠ b → (F_Model a).2.1 ≠ (F_Model b).2.1 := by decide +kernel
theorem t_Model_ok : ∀ k, k < 14 → parseFieldDescriptor (F_Model k).2.2.1 = some (t_Model k) := by decide +kernel
theorem i_Model : ∀ w ∈ u_ws R_Model F_Model 14, w ∈ al_ws := by decide +kernel
def R_Row : String := "DecimalReaderModel$Row"
def F_Row : u_T := fun k => match k with
  | 0 => ("DecimalReaderModel$Row", "d", "[B", true)
  | 1 => ("DecimalReaderModel$Row", "n", "I", false)
  | _ => ("DecimalReaderModel$Row", "p", "I", false)
def t_Row : Nat → FieldType := fun k => match k with
  | 0 => (.array .byte)
  | 1 => .int
  | _ => .int
theorem n_Row : ∀ a, a < 3 → ∀ b, b < 3 → a ≠ b → (F_Row a).2.1 ≠ (F_Row b).2.1 := by decide +kernel
theorem t_Row_ok : ∀ k, k < 3 → parseFieldDescriptor (F_Row k).2.2.1 = some (t_Row k) := by decide +kernel
theorem i_Row : ∀ w ∈ u_ws R_Row F_Row 3, w ∈ al_ws := by decide +kernel
def classes : List vw_C := [(R_DecimalReader, F_DecimalReader, 13), (R_Kind, F_Kind, 7), (R_Value, F_Value, 4), (R_Model, F_Model, 14), (R_Row, F_Row, 3)]
abbrev b_init : ByteArray := prog_1_method_1_code
def y_init : MethodName := ⟨R_DecimalReader, "<init>", "()V"⟩
abbrev b_feed : ByteArray := prog_1_method_2_code
def y_feed : MethodName := ⟨R_DecimalReader, "feed", "(IIIII)I"⟩
abbrev b_end : ByteArray := prog_1_method_3_code
def y_end : MethodName := ⟨R_DecimalReader, "end", "(I)I"⟩
abbrev b_parse : ByteArray := prog_1_method_4_code
def y_parse : MethodName := ⟨R_DecimalReader, "parse", "()J"⟩
abbrev b_parseFloat : ByteArray := prog_1_method_5_code
def y_parseFloat : MethodName := ⟨R_DecimalReader, "parseFloat", "()I"⟩
abbrev b_appendBytes : ByteArray := prog_1_method_6_code
def y_appendBytes : MethodName := ⟨R_DecimalReader, "appendBytes", "(I)V"⟩
abbrev b_readTape : ByteArray := prog_1_method_7_code
def y_readTape : MethodName := ⟨R_DecimalReader, "readTape", "()Z"⟩
abbrev b_answerAs : ByteArray := prog_1_method_8_code
def y_answerAs : MethodName := ⟨R_DecimalReader, "answerAs", "(LDecimalReader$Kind;)J"⟩
abbrev b_scanText : ByteArray := prog_1_method_9_code
def y_scanText : MethodName := ⟨R_DecimalReader, "scanText", "()Z"⟩
abbrev b_leaveBlanksOut : ByteArray := prog_1_method_10_code
def y_leaveBlanksOut : MethodName := ⟨R_DecimalReader, "leaveBlanksOut", "()V"⟩
abbrev b_scanDigits : ByteArray := prog_1_method_11_code
def y_scanDigits : MethodName := ⟨R_DecimalReader, "scanDigits", "()Z"⟩
abbrev b_scanExponent : ByteArray := prog_1_method_12_code
def y_scanExponent : MethodName := ⟨R_DecimalReader, "scanExponent", "()Z"⟩
abbrev b_restIsSuffix : ByteArray := prog_1_method_13_code
def y_restIsSuffix : MethodName := ⟨R_DecimalReader, "restIsSuffix", "()Z"⟩
abbrev b_takeSign : ByteArray := prog_1_method_14_code
def y_takeSign : MethodName := ⟨R_DecimalReader, "takeSign", "()Z"⟩
abbrev b_takeHexStart : ByteArray := prog_1_method_15_code
def y_takeHexStart : MethodName := ⟨R_DecimalReader, "takeHexStart", "()Z"⟩
abbrev b_take : ByteArray := prog_1_method_16_code
def y_take : MethodName := ⟨R_DecimalReader, "take", "(C)Z"⟩
abbrev b_restIs : ByteArray := prog_1_method_17_code
def y_restIs : MethodName := ⟨R_DecimalReader, "restIs", "(Ljava/lang/String;)Z"⟩
abbrev b_skipDigits : ByteArray := prog_1_method_18_code
def y_skipDigits : MethodName := ⟨R_DecimalReader, "skipDigits", "(I)I"⟩
abbrev b_placeDigits : ByteArray := prog_1_method_19_code
def y_placeDigits : MethodName := ⟨R_DecimalReader, "placeDigits", "()V"⟩
abbrev b_placeDigit : ByteArray := prog_1_method_20_code
def y_placeDigit : MethodName := ⟨R_DecimalReader, "placeDigit", "(II)V"⟩
abbrev b_isBlank : ByteArray := prog_1_method_21_code
def y_isBlank : MethodName := ⟨R_DecimalReader, "isBlank", "(B)Z"⟩
abbrev b_digitOf : ByteArray := prog_1_method_22_code
def y_digitOf : MethodName := ⟨R_DecimalReader, "digitOf", "(B)I"⟩
abbrev b_m_init : ByteArray := prog_5_method_1_code
def y_m_init : MethodName := ⟨R_Model, "<init>", "()V"⟩
abbrev b_m_thrown : ByteArray := prog_5_method_2_code
def y_m_thrown : MethodName := ⟨R_Model, "thrown", "()I"⟩
abbrev b_m_good : ByteArray := prog_5_method_3_code
def y_m_good : MethodName := ⟨R_Model, "good", "(ZI)Z"⟩
abbrev b_m_feed : ByteArray := prog_5_method_4_code
def y_m_feed : MethodName := ⟨R_Model, "feed", "(IIIII)I"⟩
abbrev b_m_word4 : ByteArray := prog_5_method_5_code
def y_m_word4 : MethodName := ⟨R_Model, "word4", "(I)V"⟩
abbrev b_m_end : ByteArray := prog_5_method_6_code
def y_m_end : MethodName := ⟨R_Model, "end", "(I)I"⟩
abbrev b_m_kind : ByteArray := prog_5_method_7_code
def y_m_kind : MethodName := ⟨R_Model, "kind", "(Z)V"⟩
abbrev b_m_infinity : ByteArray := prog_5_method_8_code
def y_m_infinity : MethodName := ⟨R_Model, "infinity", "()J"⟩
abbrev b_m_fraction : ByteArray := prog_5_method_9_code
def y_m_fraction : MethodName := ⟨R_Model, "fraction", "()J"⟩
abbrev b_m_sign : ByteArray := prog_5_method_10_code
def y_m_sign : MethodName := ⟨R_Model, "sign", "()J"⟩
abbrev b_m_none : ByteArray := prog_5_method_12_code
def y_m_none : MethodName := ⟨R_Model, "none", "()J"⟩
abbrev b_m_c : ByteArray := prog_5_method_13_code
def y_m_c : MethodName := ⟨R_Model, "c", "(J)J"⟩
abbrev b_m_q : ByteArray := prog_5_method_14_code
def y_m_q : MethodName := ⟨R_Model, "q", "(J)I"⟩
abbrev b_m_times : ByteArray := prog_5_method_15_code
def y_m_times : MethodName := ⟨R_Model, "times", "(J)V"⟩
abbrev b_m_row : ByteArray := prog_5_method_16_code
def y_m_row : MethodName := ⟨R_Model, "row", "(JILDecimalReaderModel$Row;)V"⟩
abbrev b_m_compare : ByteArray := prog_5_method_17_code
def y_m_compare : MethodName := ⟨R_Model, "compare", "([BIJLDecimalReaderModel$Row;)I"⟩
abbrev b_m_is : ByteArray := prog_5_method_18_code
def y_m_is : MethodName := ⟨R_Model, "is", "(I)Z"⟩
abbrev b_m_isDigit : ByteArray := prog_5_method_19_code
def y_m_isDigit : MethodName := ⟨R_Model, "isDigit", "()Z"⟩
abbrev b_m_hexDigit : ByteArray := prog_5_method_20_code
def y_m_hexDigit : MethodName := ⟨R_Model, "hexDigit", "()I"⟩
abbrev b_m_word : ByteArray := prog_5_method_21_code
def y_m_word : MethodName := ⟨R_Model, "word", "(Ljava/lang/String;)Z"⟩
abbrev b_m_value : ByteArray := prog_5_method_22_code
def y_m_value : MethodName := ⟨R_Model, "value", "()J"⟩
abbrev b_m_exponent : ByteArray := prog_5_method_23_code
def y_m_exponent : MethodName := ⟨R_Model, "exponent", "()J"⟩
abbrev b_m_decimal : ByteArray := prog_5_method_24_code
def y_m_decimal : MethodName := ⟨R_Model, "decimal", "()J"⟩
abbrev b_m_nearest : ByteArray := prog_5_method_25_code
def y_m_nearest : MethodName := ⟨R_Model, "nearest", "()J"⟩
abbrev b_m_hexadecimal : ByteArray := prog_5_method_26_code
def y_m_hexadecimal : MethodName := ⟨R_Model, "hexadecimal", "()J"⟩
abbrev b_m_rounded : ByteArray := prog_5_method_27_code
def y_m_rounded : MethodName := ⟨R_Model, "rounded", "(JJZ)J"⟩
abbrev b_m_parse : ByteArray := prog_5_method_28_code
def y_m_parse : MethodName := ⟨R_Model, "parse", "()J"⟩
abbrev b_m_parseFloat : ByteArray := prog_5_method_29_code
def y_m_parseFloat : MethodName := ⟨R_Model, "parseFloat", "()I"⟩
abbrev b_k_init : ByteArray := prog_2_method_1_code
def y_k_init : MethodName := ⟨R_Kind, "<init>", "(III)V"⟩
abbrev b_v_init : ByteArray := prog_3_method_1_code
def y_v_init : MethodName := ⟨R_Value, "<init>", "()V"⟩
abbrev b_v_clear : ByteArray := prog_3_method_2_code
def y_v_clear : MethodName := ⟨R_Value, "clear", "()V"⟩
abbrev b_v_addDecimalDigit : ByteArray := prog_3_method_3_code
def y_v_addDecimalDigit : MethodName := ⟨R_Value, "addDecimalDigit", "(II)V"⟩
abbrev b_v_addHexDigit : ByteArray := prog_3_method_4_code
def y_v_addHexDigit : MethodName := ⟨R_Value, "addHexDigit", "(II)V"⟩
abbrev b_v_addBit : ByteArray := prog_3_method_5_code
def y_v_addBit : MethodName := ⟨R_Value, "addBit", "(I)V"⟩
abbrev b_v_turnBinary : ByteArray := prog_3_method_6_code
def y_v_turnBinary : MethodName := ⟨R_Value, "turnBinary", "()V"⟩
abbrev b_v_usedLimbs : ByteArray := prog_3_method_7_code
def y_v_usedLimbs : MethodName := ⟨R_Value, "usedLimbs", "()I"⟩
abbrev b_v_appendWholeLimb : ByteArray := prog_3_method_8_code
def y_v_appendWholeLimb : MethodName := ⟨R_Value, "appendWholeLimb", "(I)V"⟩
abbrev b_v_takeFractionWord : ByteArray := prog_3_method_9_code
def y_v_takeFractionWord : MethodName := ⟨R_Value, "takeFractionWord", "(I)I"⟩
abbrev b_v_rounded : ByteArray := prog_3_method_10_code
def y_v_rounded : MethodName := ⟨R_Value, "rounded", "(LDecimalReader$Kind;)J"⟩
abbrev b_v_topPower : ByteArray := prog_3_method_11_code
def y_v_topPower : MethodName := ⟨R_Value, "topPower", "()I"⟩
abbrev b_v_isMoreBelow : ByteArray := prog_3_method_12_code
def y_v_isMoreBelow : MethodName := ⟨R_Value, "isMoreBelow", "(I)Z"⟩
abbrev b_v_bitAt : ByteArray := prog_3_method_13_code
def y_v_bitAt : MethodName := ⟨R_Value, "bitAt", "(I)I"⟩
abbrev b_v_wordOf : ByteArray := prog_3_method_14_code
def y_v_wordOf : MethodName := ⟨R_Value, "wordOf", "(I)I"⟩
abbrev b_v_shiftOf : ByteArray := prog_3_method_15_code
def y_v_shiftOf : MethodName := ⟨R_Value, "shiftOf", "(I)I"⟩
abbrev b_r_init : ByteArray := prog_6_method_1_code
def y_r_init : MethodName := ⟨R_Row, "<init>", "()V"⟩
abbrev b_l_feed : ByteArray := method_3_code
def y_l_feed : MethodName := ⟨"DecimalReaderLaw", "feed", "(LDecimalReader;IIIII[J)I"⟩
abbrev b_l_end : ByteArray := method_4_code
def y_l_end : MethodName := ⟨"DecimalReaderLaw", "end", "(LDecimalReader;I[J)I"⟩
abbrev b_l_parse : ByteArray := method_5_code
def y_l_parse : MethodName := ⟨"DecimalReaderLaw", "parse", "(LDecimalReader;[J)I"⟩
abbrev b_l_parseFloat : ByteArray := method_6_code
def y_l_parseFloat : MethodName := ⟨"DecimalReaderLaw", "parseFloat", "(LDecimalReader;[J)I"⟩
end
section
theorem d_init_0 : decode b_init 0 = .ok (.aload_n 0, 1) := by decide +kernel
theorem d_init_1 : decode b_init 1 = .ok (.invokespecial 1, 3) := by decide +kernel
theorem d_init_4 : decode b_init 4 = .ok (.aload_n 0, 1) := by decide +kernel
theorem d_init_5 : decode b_init 5 = .ok (.new 7, 3) := by decide +kernel
theorem d_init_8 : decode b_init 8 = .ok (.dup, 1) := by decide +kernel
theorem d_init_9 : decode b_init 9 = .ok (.bipush 53, 2) := by decide +kernel
theorem d_init_11 : decode b_init 11 = .ok (.sipush (-1074), 3) := by decide +kernel
theorem d_init_14 : decode b_init 14 = .ok (.sipush 971, 3) := by decide +kernel
theorem d_init_17 : decode b_init 17 = .ok (.invokespecial 9, 3) := by decide +kernel
theorem d_init_20 : decode b_init 20 = .ok (.putfield 12, 3) := by decide +kernel
theorem d_init_23 : decode b_init 23 = .ok (.aload_n 0, 1) := by decide +kernel
theorem d_init_24 : decode b_init 24 = .ok (.new 7, 3) := by decide +kernel
theorem d_init_27 : decode b_init 27 = .ok (.dup, 1) := by decide +kernel
theorem d_init_28 : decode b_init 28 = .ok (.bipush 24, 2) := by decide +kernel
theorem d_init_30 : decode b_init 30 = .ok (.sipush (-149), 3) := by decide +kernel
theorem d_init_33 : decode b_init 33 = .ok (.bipush 104, 2) := by decide +kernel
theorem d_init_35 : decode b_init 35 = .ok (.invokespecial 9, 3) := by decide +kernel
theorem d_init_38 : decode b_init 38 = .ok (.putfield 18, 3) := by decide +kernel
theorem d_init_41 : decode b_init 41 = .ok (.aload_n 0, 1) := by decide +kernel
theorem d_init_42 : decode b_init 42 = .ok (.new 21, 3) := by decide +kernel
theorem d_init_45 : decode b_init 45 = .ok (.dup, 1) := by decide +kernel
theorem d_init_46 : decode b_init 46 = .ok (.invokespecial 23, 3) := by decide +kernel
theorem d_init_49 : decode b_init 49 = .ok (.putfield 24, 3) := by decide +kernel
theorem d_init_52 : decode b_init 52 = .ok (.aload_n 0, 1) := by decide +kernel
theorem d_init_53 : decode b_init 53 = .ok (.sipush 8192, 3) := by decide +kernel
theorem d_init_56 : decode b_init 56 = .ok (.newarray .byte, 2) := by decide +kernel
theorem d_init_58 : decode b_init 58 = .ok (.putfield 28, 3) := by decide +kernel
theorem d_init_61 : decode b_init 61 = .ok (.aload_n 0, 1) := by decide +kernel
theorem d_init_62 : decode b_init 62 = .ok (.iconst 0, 1) := by decide +kernel
theorem d_init_63 : decode b_init 63 = .ok (.putfield 32, 3) := by decide +kernel
theorem d_init_66 : decode b_init 66 = .ok (.return_, 1) := by decide +kernel
theorem d_feed_0 : decode b_feed 0 = .ok (.aload_n 0, 1) := by decide +kernel
theorem d_feed_1 : decode b_feed 1 = .ok (.getfield 32, 3) := by decide +kernel
theorem d_feed_4 : decode b_feed 4 = .ok (.sipush 8172, 3) := by decide +kernel
theorem d_feed_7 : decode b_feed 7 = .ok (.if_icmp .le 13, 3) := by decide +kernel
theorem d_feed_10 : decode b_feed 10 = .ok (.new 36, 3) := by decide +kernel
theorem d_feed_13 : decode b_feed 13 = .ok (.dup, 1) := by decide +kernel
theorem d_feed_14 : decode b_feed 14 = .ok (.ldc 38, 2) := by decide +kernel
theorem d_feed_16 : decode b_feed 16 = .ok (.invokespecial 40, 3) := by decide +kernel
theorem d_feed_19 : decode b_feed 19 = .ok (.athrow, 1) := by decide +kernel
theorem d_feed_20 : decode b_feed 20 = .ok (.aload_n 0, 1) := by decide +kernel
theorem d_feed_21 : decode b_feed 21 = .ok (.iload_n 1, 1) := by decide +kernel
theorem d_feed_22 : decode b_feed 22 = .ok (.invokevirtual 43, 3) := by decide +kernel
theorem d_feed_25 : decode b_feed 25 = .ok (.aload_n 0, 1) := by decide +kernel
theorem d_feed_26 : decode b_feed 26 = .ok (.iload_n 2, 1) := by decide +kernel
theorem d_feed_27 : decode b_feed 27 = .ok (.invokevirtual 43, 3) := by decide +kernel
theorem d_feed_30 : decode b_feed 30 = .ok (.aload_n 0, 1) := by decide +kernel
theorem d_feed_31 : decode b_feed 31 = .ok (.iload_n 3, 1) := by decide +kernel
theorem d_feed_32 : decode b_feed 32 = .ok (.invokevirtual 43, 3) := by decide +kernel
theorem d_feed_35 : decode b_feed 35 = .ok (.aload_n 0, 1) := by decide +kernel
theorem d_feed_36 : decode b_feed 36 = .ok (.iload 4, 2) := by decide +kernel
theorem d_feed_38 : decode b_feed 38 = .ok (.invokevirtual 43, 3) := by decide +kernel
theorem d_feed_41 : decode b_feed 41 = .ok (.aload_n 0, 1) := by decide +kernel
theorem d_feed_42 : decode b_feed 42 = .ok (.iload 5, 2) := by decide +kernel
theorem d_feed_44 : decode b_feed 44 = .ok (.invokevirtual 43, 3) := by decide +kernel
theorem d_feed_47 : decode b_feed 47 = .ok (.aload_n 0, 1) := by decide +kernel
theorem d_feed_48 : decode b_feed 48 = .ok (.getfield 32, 3) := by decide +kernel
theorem d_feed_51 : decode b_feed 51 = .ok (.ireturn, 1) := by decide +kernel
theorem d_end_0 : decode b_end 0 = .ok (.iload_n 1, 1) := by decide +kernel
theorem d_end_1 : decode b_end 1 = .ok (.ifCond .lt 11, 3) := by decide +kernel
theorem d_end_4 : decode b_end 4 = .ok (.iload_n 1, 1) := by decide +kernel
theorem d_end_5 : decode b_end 5 = .ok (.aload_n 0, 1) := by decide +kernel
theorem d_end_6 : decode b_end 6 = .ok (.getfield 32, 3) := by decide +kernel
theorem d_end_9 : decode b_end 9 = .ok (.if_icmp .le 13, 3) := by decide +kernel
theorem d_end_12 : decode b_end 12 = .ok (.new 47, 3) := by decide +kernel
theorem d_end_15 : decode b_end 15 = .ok (.dup, 1) := by decide +kernel
theorem d_end_16 : decode b_end 16 = .ok (.ldc 49, 2) := by decide +kernel
theorem d_end_18 : decode b_end 18 = .ok (.invokespecial 51, 3) := by decide +kernel
theorem d_end_21 : decode b_end 21 = .ok (.athrow, 1) := by decide +kernel
theorem d_end_22 : decode b_end 22 = .ok (.aload_n 0, 1) := by decide +kernel
theorem d_end_23 : decode b_end 23 = .ok (.iload_n 1, 1) := by decide +kernel
theorem d_end_24 : decode b_end 24 = .ok (.putfield 32, 3) := by decide +kernel
theorem d_end_27 : decode b_end 27 = .ok (.iload_n 1, 1) := by decide +kernel
theorem d_end_28 : decode b_end 28 = .ok (.ireturn, 1) := by decide +kernel
theorem d_parse_0 : decode b_parse 0 = .ok (.aload_n 0, 1) := by decide +kernel
theorem d_parse_1 : decode b_parse 1 = .ok (.invokevirtual 52, 3) := by decide +kernel
theorem d_parse_4 : decode b_parse 4 = .ok (.ifCond .ne 13, 3) := by decide +kernel
theorem d_parse_7 : decode b_parse 7 = .ok (.new 56, 3) := by decide +kernel
theorem d_parse_10 : decode b_parse 10 = .ok (.dup, 1) := by decide +kernel
theorem d_parse_11 : decode b_parse 11 = .ok (.ldc 58, 2) := by decide +kernel
theorem d_parse_13 : decode b_parse 13 = .ok (.invokespecial 60, 3) := by decide +kernel
theorem d_parse_16 : decode b_parse 16 = .ok (.athrow, 1) := by decide +kernel
theorem d_parse_17 : decode b_parse 17 = .ok (.aload_n 0, 1) := by decide +kernel
theorem d_parse_18 : decode b_parse 18 = .ok (.aload_n 0, 1) := by decide +kernel
theorem d_parse_19 : decode b_parse 19 = .ok (.getfield 12, 3) := by decide +kernel
theorem d_parse_22 : decode b_parse 22 = .ok (.invokevirtual 61, 3) := by decide +kernel
theorem d_parse_25 : decode b_parse 25 = .ok (.lreturn, 1) := by decide +kernel
theorem d_parseFloat_0 : decode b_parseFloat 0 = .ok (.aload_n 0, 1) := by decide +kernel
theorem d_parseFloat_1 : decode b_parseFloat 1 = .ok (.invokevirtual 52, 3) := by decide +kernel
theorem d_parseFloat_4 : decode b_parseFloat 4 = .ok (.ifCond .ne 13, 3) := by decide +kernel
theorem d_parseFloat_7 : decode b_parseFloat 7 = .ok (.new 56, 3) := by decide +kernel
theorem d_parseFloat_10 : decode b_parseFloat 10 = .ok (.dup, 1) := by decide +kernel
theorem d_parseFloat_11 : decode b_parseFloat 11 = .ok (.ldc 58, 2) := by decide +kernel
theorem d_parseFloat_13 : decode b_parseFloat 13 = .ok (.invokespecial 60, 3) := by decide +kernel
theorem d_parseFloat_16 : decode b_parseFloat 16 = .ok (.athrow, 1) := by decide +kernel
theorem d_parseFloat_17 : decode b_parseFloat 17 = .ok (.aload_n 0, 1) := by decide +kernel
theorem d_parseFloat_18 : decode b_parseFloat 18 = .ok (.aload_n 0, 1) := by decide +kernel
theorem d_parseFloat_19 : decode b_parseFloat 19 = .ok (.getfield 18, 3) := by decide +kernel
theorem d_parseFloat_22 : decode b_parseFloat 22 = .ok (.invokevirtual 61, 3) := by decide +kernel
theorem d_parseFloat_25 : decode b_parseFloat 25 = .ok (.l2i, 1) := by decide +kernel
theorem d_parseFloat_26 : decode b_parseFloat 26 = .ok (.ireturn, 1) := by decide +kernel
theorem d_appendBytes_0 : decode b_appendBytes 0 = .ok (.bipush 24, 2) := by decide +kernel
theorem d_appendBytes_2 : decode b_appendBytes 2 = .ok (.istore_n 2, 1) := by decide +kernel
theorem d_appendBytes_3 : decode b_appendBytes 3 = .ok (.iload_n 2, 1) := by decide +kernel
theorem d_appendBytes_4 : decode b_appendBytes 4 = .ok (.ifCond .lt 32, 3) := by decide +kernel
theorem d_appendBytes_7 : decode b_appendBytes 7 = .ok (.aload_n 0, 1) := by decide +kernel
theorem d_appendBytes_8 : decode b_appendBytes 8 = .ok (.getfield 28, 3) := by decide +kernel
theorem d_appendBytes_11 : decode b_appendBytes 11 = .ok (.aload_n 0, 1) := by decide +kernel
theorem d_appendBytes_12 : decode b_appendBytes 12 = .ok (.getfield 32, 3) := by decide +kernel
theorem d_appendBytes_15 : decode b_appendBytes 15 = .ok (.iload_n 1, 1) := by decide +kernel
theorem d_appendBytes_16 : decode b_appendBytes 16 = .ok (.iload_n 2, 1) := by decide +kernel
theorem d_appendBytes_17 : decode b_appendBytes 17 = .ok (.iushr, 1) := by decide +kernel
theorem d_appendBytes_18 : decode b_appendBytes 18 = .ok (.i2b, 1) := by decide +kernel
theorem d_appendBytes_19 : decode b_appendBytes 19 = .ok (.bastore, 1) := by decide +kernel
theorem d_appendBytes_20 : decode b_appendBytes 20 = .ok (.aload_n 0, 1) := by decide +kernel
theorem d_appendBytes_21 : decode b_appendBytes 21 = .ok (.dup, 1) := by decide +kernel
theorem d_appendBytes_22 : decode b_appendBytes 22 = .ok (.getfield 32, 3) := by decide +kernel
theorem d_appendBytes_25 : decode b_appendBytes 25 = .ok (.iconst 1, 1) := by decide +kernel
theorem d_appendBytes_26 : decode b_appendBytes 26 = .ok (.iadd, 1) := by decide +kernel
theorem d_appendBytes_27 : decode b_appendBytes 27 = .ok (.putfield 32, 3) := by decide +kernel
theorem d_appendBytes_30 : decode b_appendBytes 30 = .ok (.iinc 2 (-8), 3) := by decide +kernel
theorem d_appendBytes_33 : decode b_appendBytes 33 = .ok (.goto (-30), 3) := by decide +kernel
theorem d_appendBytes_36 : decode b_appendBytes 36 = .ok (.return_, 1) := by decide +kernel
theorem d_readTape_0 : decode b_readTape 0 = .ok (.aload_n 0, 1) := by decide +kernel
theorem d_readTape_1 : decode b_readTape 1 = .ok (.invokevirtual 65, 3) := by decide +kernel
theorem d_readTape_4 : decode b_readTape 4 = .ok (.istore_n 1, 1) := by decide +kernel
theorem d_readTape_5 : decode b_readTape 5 = .ok (.iload_n 1, 1) := by decide +kernel
theorem d_readTape_6 : decode b_readTape 6 = .ok (.ifCond .eq 23, 3) := by decide +kernel
theorem d_readTape_9 : decode b_readTape 9 = .ok (.aload_n 0, 1) := by decide +kernel
theorem d_readTape_10 : decode b_readTape 10 = .ok (.getfield 68, 3) := by decide +kernel
theorem d_readTape_13 : decode b_readTape 13 = .ok (.iconst 2, 1) := by decide +kernel
theorem d_readTape_14 : decode b_readTape 14 = .ok (.if_icmp .eq 11, 3) := by decide +kernel
theorem d_readTape_17 : decode b_readTape 17 = .ok (.aload_n 0, 1) := by decide +kernel
theorem d_readTape_18 : decode b_readTape 18 = .ok (.getfield 68, 3) := by decide +kernel
theorem d_readTape_21 : decode b_readTape 21 = .ok (.iconst 3, 1) := by decide +kernel
theorem d_readTape_22 : decode b_readTape 22 = .ok (.if_icmp .ne 7, 3) := by decide +kernel
theorem d_readTape_25 : decode b_readTape 25 = .ok (.aload_n 0, 1) := by decide +kernel
theorem d_readTape_26 : decode b_readTape 26 = .ok (.invokevirtual 71, 3) := by decide +kernel
theorem d_readTape_29 : decode b_readTape 29 = .ok (.aload_n 0, 1) := by decide +kernel
theorem d_readTape_30 : decode b_readTape 30 = .ok (.iconst 0, 1) := by decide +kernel
theorem d_readTape_31 : decode b_readTape 31 = .ok (.putfield 32, 3) := by decide +kernel
theorem d_readTape_34 : decode b_readTape 34 = .ok (.iload_n 1, 1) := by decide +kernel
theorem d_readTape_35 : decode b_readTape 35 = .ok (.ireturn, 1) := by decide +kernel
theorem d_answerAs_0 : decode b_answerAs 0 = .ok (.aload_n 0, 1) := by decide +kernel
theorem d_answerAs_1 : decode b_answerAs 1 = .ok (.getfield 68, 3) := by decide +kernel
theorem d_answerAs_4 : decode b_answerAs 4 = .ok (.ifCond .ne 8, 3) := by decide +kernel
theorem d_answerAs_7 : decode b_answerAs 7 = .ok (.aload_n 1, 1) := by decide +kernel
theorem d_answerAs_8 : decode b_answerAs 8 = .ok (.getfield 74, 3) := by decide +kernel
theorem d_answerAs_11 : decode b_answerAs 11 = .ok (.lreturn, 1) := by decide +kernel
theorem d_answerAs_12 : decode b_answerAs 12 = .ok (.aload_n 0, 1) := by decide +kernel
theorem d_answerAs_13 : decode b_answerAs 13 = .ok (.getfield 68, 3) := by decide +kernel
theorem d_answerAs_16 : decode b_answerAs 16 = .ok (.iconst 1, 1) := by decide +kernel
theorem d_answerAs_17 : decode b_answerAs 17 = .ok (.if_icmp .ne 10, 3) := by decide +kernel
theorem d_answerAs_20 : decode b_answerAs 20 = .ok (.aload_n 1, 1) := by decide +kernel
theorem d_answerAs_21 : decode b_answerAs 21 = .ok (.getfield 78, 3) := by decide +kernel
theorem d_answerAs_24 : decode b_answerAs 24 = .ok (.goto 11, 3) := by decide +kernel
theorem d_answerAs_27 : decode b_answerAs 27 = .ok (.aload_n 0, 1) := by decide +kernel
theorem d_answerAs_28 : decode b_answerAs 28 = .ok (.getfield 24, 3) := by decide +kernel
theorem d_answerAs_31 : decode b_answerAs 31 = .ok (.aload_n 1, 1) := by decide +kernel
theorem d_answerAs_32 : decode b_answerAs 32 = .ok (.invokevirtual 81, 3) := by decide +kernel
theorem d_answerAs_35 : decode b_answerAs 35 = .ok (.lstore_n 2, 1) := by decide +kernel
theorem d_answerAs_36 : decode b_answerAs 36 = .ok (.aload_n 0, 1) := by decide +kernel
theorem d_answerAs_37 : decode b_answerAs 37 = .ok (.getfield 84, 3) := by decide +kernel
theorem d_answerAs_40 : decode b_answerAs 40 = .ok (.ifCond .eq 12, 3) := by decide +kernel
theorem d_answerAs_43 : decode b_answerAs 43 = .ok (.lload_n 2, 1) := by decide +kernel
theorem d_answerAs_44 : decode b_answerAs 44 = .ok (.aload_n 1, 1) := by decide +kernel
theorem d_answerAs_45 : decode b_answerAs 45 = .ok (.getfield 88, 3) := by decide +kernel
theorem d_answerAs_48 : decode b_answerAs 48 = .ok (.lor, 1) := by decide +kernel
theorem d_answerAs_49 : decode b_answerAs 49 = .ok (.goto 4, 3) := by decide +kernel
theorem d_answerAs_52 : decode b_answerAs 52 = .ok (.lload_n 2, 1) := by decide +kernel
theorem d_answerAs_53 : decode b_answerAs 53 = .ok (.lreturn, 1) := by decide +kernel
theorem d_scanText_0 : decode b_scanText 0 = .ok (.aload_n 0, 1) := by decide +kernel
theorem d_scanText_1 : decode b_scanText 1 = .ok (.invokevirtual 91, 3) := by decide +kernel
theorem d_scanText_4 : decode b_scanText 4 = .ok (.aload_n 0, 1) := by decide +kernel
theorem d_scanText_5 : decode b_scanText 5 = .ok (.aload_n 0, 1) := by decide +kernel
theorem d_scanText_6 : decode b_scanText 6 = .ok (.invokevirtual 94, 3) := by decide +kernel
theorem d_scanText_9 : decode b_scanText 9 = .ok (.putfield 84, 3) := by decide +kernel
theorem d_scanText_12 : decode b_scanText 12 = .ok (.aload_n 0, 1) := by decide +kernel
theorem d_scanText_13 : decode b_scanText 13 = .ok (.ldc 97, 2) := by decide +kernel
theorem d_scanText_15 : decode b_scanText 15 = .ok (.invokevirtual 99, 3) := by decide +kernel
theorem d_scanText_18 : decode b_scanText 18 = .ok (.ifCond .eq 10, 3) := by decide +kernel
theorem d_scanText_21 : decode b_scanText 21 = .ok (.aload_n 0, 1) := by decide +kernel
theorem d_scanText_22 : decode b_scanText 22 = .ok (.iconst 0, 1) := by decide +kernel
theorem d_scanText_23 : decode b_scanText 23 = .ok (.putfield 68, 3) := by decide +kernel
theorem d_scanText_26 : decode b_scanText 26 = .ok (.iconst 1, 1) := by decide +kernel
theorem d_scanText_27 : decode b_scanText 27 = .ok (.ireturn, 1) := by decide +kernel
theorem d_scanText_28 : decode b_scanText 28 = .ok (.aload_n 0, 1) := by decide +kernel
theorem d_scanText_29 : decode b_scanText 29 = .ok (.ldc 103, 2) := by decide +kernel
theorem d_scanText_31 : decode b_scanText 31 = .ok (.invokevirtual 99, 3) := by decide +kernel
theorem d_scanText_34 : decode b_scanText 34 = .ok (.ifCond .eq 10, 3) := by decide +kernel
theorem d_scanText_37 : decode b_scanText 37 = .ok (.aload_n 0, 1) := by decide +kernel
theorem d_scanText_38 : decode b_scanText 38 = .ok (.iconst 1, 1) := by decide +kernel
theorem d_scanText_39 : decode b_scanText 39 = .ok (.putfield 68, 3) := by decide +kernel
theorem d_scanText_42 : decode b_scanText 42 = .ok (.iconst 1, 1) := by decide +kernel
theorem d_scanText_43 : decode b_scanText 43 = .ok (.ireturn, 1) := by decide +kernel
theorem d_scanText_44 : decode b_scanText 44 = .ok (.aload_n 0, 1) := by decide +kernel
theorem d_scanText_45 : decode b_scanText 45 = .ok (.invokevirtual 105, 3) := by decide +kernel
theorem d_scanText_48 : decode b_scanText 48 = .ok (.ifCond .eq 21, 3) := by decide +kernel
theorem d_scanText_51 : decode b_scanText 51 = .ok (.aload_n 0, 1) := by decide +kernel
theorem d_scanText_52 : decode b_scanText 52 = .ok (.invokevirtual 108, 3) := by decide +kernel
theorem d_scanText_55 : decode b_scanText 55 = .ok (.ifCond .eq 14, 3) := by decide +kernel
theorem d_scanText_58 : decode b_scanText 58 = .ok (.aload_n 0, 1) := by decide +kernel
theorem d_scanText_59 : decode b_scanText 59 = .ok (.invokevirtual 111, 3) := by decide +kernel
theorem d_scanText_62 : decode b_scanText 62 = .ok (.ifCond .eq 7, 3) := by decide +kernel
theorem d_scanText_65 : decode b_scanText 65 = .ok (.iconst 1, 1) := by decide +kernel
theorem d_scanText_66 : decode b_scanText 66 = .ok (.goto 4, 3) := by decide +kernel
theorem d_scanText_69 : decode b_scanText 69 = .ok (.iconst 0, 1) := by decide +kernel
theorem d_scanText_70 : decode b_scanText 70 = .ok (.ireturn, 1) := by decide +kernel
theorem d_leaveBlanksOut_0 : decode b_leaveBlanksOut 0 = .ok (.aload_n 0, 1) := by decide +kernel
theorem d_leaveBlanksOut_1 : decode b_leaveBlanksOut 1 = .ok (.iconst 0, 1) := by decide +kernel
theorem d_leaveBlanksOut_2 : decode b_leaveBlanksOut 2 = .ok (.putfield 114, 3) := by decide +kernel
theorem d_leaveBlanksOut_5 : decode b_leaveBlanksOut 5 = .ok (.aload_n 0, 1) := by decide +kernel
theorem d_leaveBlanksOut_6 : decode b_leaveBlanksOut 6 = .ok (.aload_n 0, 1) := by decide +kernel
theorem d_leaveBlanksOut_7 : decode b_leaveBlanksOut 7 = .ok (.getfield 32, 3) := by decide +kernel
theorem d_leaveBlanksOut_10 : decode b_leaveBlanksOut 10 = .ok (.putfield 117, 3) := by decide +kernel
theorem d_leaveBlanksOut_13 : decode b_leaveBlanksOut 13 = .ok (.aload_n 0, 1) := by decide +kernel
theorem d_leaveBlanksOut_14 : decode b_leaveBlanksOut 14 = .ok (.getfield 114, 3) := by decide +kernel
theorem d_leaveBlanksOut_17 : decode b_leaveBlanksOut 17 = .ok (.aload_n 0, 1) := by decide +kernel
theorem d_leaveBlanksOut_18 : decode b_leaveBlanksOut 18 = .ok (.getfield 117, 3) := by decide +kernel
theorem d_leaveBlanksOut_21 : decode b_leaveBlanksOut 21 = .ok (.if_icmp .ge 31, 3) := by decide +kernel
theorem d_leaveBlanksOut_24 : decode b_leaveBlanksOut 24 = .ok (.aload_n 0, 1) := by decide +kernel
theorem d_leaveBlanksOut_25 : decode b_leaveBlanksOut 25 = .ok (.getfield 28, 3) := by decide +kernel
theorem d_leaveBlanksOut_28 : decode b_leaveBlanksOut 28 = .ok (.aload_n 0, 1) := by decide +kernel
theorem d_leaveBlanksOut_29 : decode b_leaveBlanksOut 29 = .ok (.getfield 114, 3) := by decide +kernel
theorem d_leaveBlanksOut_32 : decode b_leaveBlanksOut 32 = .ok (.baload, 1) := by decide +kernel
theorem d_leaveBlanksOut_33 : decode b_leaveBlanksOut 33 = .ok (.invokestatic 120, 3) := by decide +kernel
theorem d_leaveBlanksOut_36 : decode b_leaveBlanksOut 36 = .ok (.ifCond .eq 16, 3) := by decide +kernel
theorem d_leaveBlanksOut_39 : decode b_leaveBlanksOut 39 = .ok (.aload_n 0, 1) := by decide +kernel
theorem d_leaveBlanksOut_40 : decode b_leaveBlanksOut 40 = .ok (.dup, 1) := by decide +kernel
theorem d_leaveBlanksOut_41 : decode b_leaveBlanksOut 41 = .ok (.getfield 114, 3) := by decide +kernel
theorem d_leaveBlanksOut_44 : decode b_leaveBlanksOut 44 = .ok (.iconst 1, 1) := by decide +kernel
theorem d_leaveBlanksOut_45 : decode b_leaveBlanksOut 45 = .ok (.iadd, 1) := by decide +kernel
theorem d_leaveBlanksOut_46 : decode b_leaveBlanksOut 46 = .ok (.putfield 114, 3) := by decide +kernel
theorem d_leaveBlanksOut_49 : decode b_leaveBlanksOut 49 = .ok (.goto (-36), 3) := by decide +kernel
theorem d_leaveBlanksOut_52 : decode b_leaveBlanksOut 52 = .ok (.aload_n 0, 1) := by decide +kernel
theorem d_leaveBlanksOut_53 : decode b_leaveBlanksOut 53 = .ok (.getfield 117, 3) := by decide +kernel
theorem d_leaveBlanksOut_56 : decode b_leaveBlanksOut 56 = .ok (.aload_n 0, 1) := by decide +kernel
theorem d_leaveBlanksOut_57 : decode b_leaveBlanksOut 57 = .ok (.getfield 114, 3) := by decide +kernel
theorem d_leaveBlanksOut_60 : decode b_leaveBlanksOut 60 = .ok (.if_icmp .le 33, 3) := by decide +kernel
theorem d_leaveBlanksOut_63 : decode b_leaveBlanksOut 63 = .ok (.aload_n 0, 1) := by decide +kernel
theorem d_leaveBlanksOut_64 : decode b_leaveBlanksOut 64 = .ok (.getfield 28, 3) := by decide +kernel
theorem d_leaveBlanksOut_67 : decode b_leaveBlanksOut 67 = .ok (.aload_n 0, 1) := by decide +kernel
theorem d_leaveBlanksOut_68 : decode b_leaveBlanksOut 68 = .ok (.getfield 117, 3) := by decide +kernel
theorem d_leaveBlanksOut_71 : decode b_leaveBlanksOut 71 = .ok (.iconst 1, 1) := by decide +kernel
theorem d_leaveBlanksOut_72 : decode b_leaveBlanksOut 72 = .ok (.isub, 1) := by decide +kernel
theorem d_leaveBlanksOut_73 : decode b_leaveBlanksOut 73 = .ok (.baload, 1) := by decide +kernel
theorem d_leaveBlanksOut_74 : decode b_leaveBlanksOut 74 = .ok (.invokestatic 120, 3) := by decide +kernel
theorem d_leaveBlanksOut_77 : decode b_leaveBlanksOut 77 = .ok (.ifCond .eq 16, 3) := by decide +kernel
theorem d_leaveBlanksOut_80 : decode b_leaveBlanksOut 80 = .ok (.aload_n 0, 1) := by decide +kernel
theorem d_leaveBlanksOut_81 : decode b_leaveBlanksOut 81 = .ok (.dup, 1) := by decide +kernel
theorem d_leaveBlanksOut_82 : decode b_leaveBlanksOut 82 = .ok (.getfield 117, 3) := by decide +kernel
theorem d_leaveBlanksOut_85 : decode b_leaveBlanksOut 85 = .ok (.iconst 1, 1) := by decide +kernel
theorem d_leaveBlanksOut_86 : decode b_leaveBlanksOut 86 = .ok (.isub, 1) := by decide +kernel
theorem d_leaveBlanksOut_87 : decode b_leaveBlanksOut 87 = .ok (.putfield 117, 3) := by decide +kernel
theorem d_leaveBlanksOut_90 : decode b_leaveBlanksOut 90 = .ok (.goto (-38), 3) := by decide +kernel
theorem d_leaveBlanksOut_93 : decode b_leaveBlanksOut 93 = .ok (.return_, 1) := by decide +kernel
theorem d_scanDigits_0 : decode b_scanDigits 0 = .ok (.aload_n 0, 1) := by decide +kernel
theorem d_scanDigits_1 : decode b_scanDigits 1 = .ok (.aload_n 0, 1) := by decide +kernel
theorem d_scanDigits_2 : decode b_scanDigits 2 = .ok (.invokevirtual 124, 3) := by decide +kernel
theorem d_scanDigits_5 : decode b_scanDigits 5 = .ok (.ifCond .eq 7, 3) := by decide +kernel
theorem d_scanDigits_8 : decode b_scanDigits 8 = .ok (.iconst 3, 1) := by decide +kernel
theorem d_scanDigits_9 : decode b_scanDigits 9 = .ok (.goto 4, 3) := by decide +kernel
theorem d_scanDigits_12 : decode b_scanDigits 12 = .ok (.iconst 2, 1) := by decide +kernel
theorem d_scanDigits_13 : decode b_scanDigits 13 = .ok (.putfield 68, 3) := by decide +kernel
theorem d_scanDigits_16 : decode b_scanDigits 16 = .ok (.aload_n 0, 1) := by decide +kernel
theorem d_scanDigits_17 : decode b_scanDigits 17 = .ok (.getfield 68, 3) := by decide +kernel
theorem d_scanDigits_20 : decode b_scanDigits 20 = .ok (.iconst 3, 1) := by decide +kernel
theorem d_scanDigits_21 : decode b_scanDigits 21 = .ok (.if_icmp .ne 8, 3) := by decide +kernel
theorem d_scanDigits_24 : decode b_scanDigits 24 = .ok (.bipush 16, 2) := by decide +kernel
theorem d_scanDigits_26 : decode b_scanDigits 26 = .ok (.goto 5, 3) := by decide +kernel
theorem d_scanDigits_29 : decode b_scanDigits 29 = .ok (.bipush 10, 2) := by decide +kernel
theorem d_scanDigits_31 : decode b_scanDigits 31 = .ok (.istore_n 1, 1) := by decide +kernel
theorem d_scanDigits_32 : decode b_scanDigits 32 = .ok (.aload_n 0, 1) := by decide +kernel
theorem d_scanDigits_33 : decode b_scanDigits 33 = .ok (.aload_n 0, 1) := by decide +kernel
theorem d_scanDigits_34 : decode b_scanDigits 34 = .ok (.getfield 114, 3) := by decide +kernel
theorem d_scanDigits_37 : decode b_scanDigits 37 = .ok (.putfield 127, 3) := by decide +kernel
theorem d_scanDigits_40 : decode b_scanDigits 40 = .ok (.aload_n 0, 1) := by decide +kernel
theorem d_scanDigits_41 : decode b_scanDigits 41 = .ok (.aload_n 0, 1) := by decide +kernel
theorem d_scanDigits_42 : decode b_scanDigits 42 = .ok (.iload_n 1, 1) := by decide +kernel
theorem d_scanDigits_43 : decode b_scanDigits 43 = .ok (.invokevirtual 130, 3) := by decide +kernel
theorem d_scanDigits_46 : decode b_scanDigits 46 = .ok (.putfield 134, 3) := by decide +kernel
theorem d_scanDigits_49 : decode b_scanDigits 49 = .ok (.aload_n 0, 1) := by decide +kernel
theorem d_scanDigits_50 : decode b_scanDigits 50 = .ok (.getfield 134, 3) := by decide +kernel
theorem d_scanDigits_53 : decode b_scanDigits 53 = .ok (.istore_n 2, 1) := by decide +kernel
theorem d_scanDigits_54 : decode b_scanDigits 54 = .ok (.aload_n 0, 1) := by decide +kernel
theorem d_scanDigits_55 : decode b_scanDigits 55 = .ok (.bipush 46, 2) := by decide +kernel
theorem d_scanDigits_57 : decode b_scanDigits 57 = .ok (.invokevirtual 137, 3) := by decide +kernel
theorem d_scanDigits_60 : decode b_scanDigits 60 = .ok (.ifCond .eq 11, 3) := by decide +kernel
theorem d_scanDigits_63 : decode b_scanDigits 63 = .ok (.iload_n 2, 1) := by decide +kernel
theorem d_scanDigits_64 : decode b_scanDigits 64 = .ok (.aload_n 0, 1) := by decide +kernel
theorem d_scanDigits_65 : decode b_scanDigits 65 = .ok (.iload_n 1, 1) := by decide +kernel
theorem d_scanDigits_66 : decode b_scanDigits 66 = .ok (.invokevirtual 130, 3) := by decide +kernel
theorem d_scanDigits_69 : decode b_scanDigits 69 = .ok (.iadd, 1) := by decide +kernel
theorem d_scanDigits_70 : decode b_scanDigits 70 = .ok (.istore_n 2, 1) := by decide +kernel
theorem d_scanDigits_71 : decode b_scanDigits 71 = .ok (.aload_n 0, 1) := by decide +kernel
theorem d_scanDigits_72 : decode b_scanDigits 72 = .ok (.aload_n 0, 1) := by decide +kernel
theorem d_scanDigits_73 : decode b_scanDigits 73 = .ok (.getfield 114, 3) := by decide +kernel
theorem d_scanDigits_76 : decode b_scanDigits 76 = .ok (.putfield 141, 3) := by decide +kernel
theorem d_scanDigits_79 : decode b_scanDigits 79 = .ok (.iload_n 2, 1) := by decide +kernel
theorem d_scanDigits_80 : decode b_scanDigits 80 = .ok (.ifCond .le 7, 3) := by decide +kernel
theorem d_scanDigits_83 : decode b_scanDigits 83 = .ok (.iconst 1, 1) := by decide +kernel
theorem d_scanDigits_84 : decode b_scanDigits 84 = .ok (.goto 4, 3) := by decide +kernel
theorem d_scanDigits_87 : decode b_scanDigits 87 = .ok (.iconst 0, 1) := by decide +kernel
theorem d_scanDigits_88 : decode b_scanDigits 88 = .ok (.ireturn, 1) := by decide +kernel
theorem d_scanExponent_0 : decode b_scanExponent 0 = .ok (.aload_n 0, 1) := by decide +kernel
theorem d_scanExponent_1 : decode b_scanExponent 1 = .ok (.iconst 0, 1) := by decide +kernel
theorem d_scanExponent_2 : decode b_scanExponent 2 = .ok (.putfield 144, 3) := by decide +kernel
theorem d_scanExponent_5 : decode b_scanExponent 5 = .ok (.aload_n 0, 1) := by decide +kernel
theorem d_scanExponent_6 : decode b_scanExponent 6 = .ok (.getfield 68, 3) := by decide +kernel
theorem d_scanExponent_9 : decode b_scanExponent 9 = .ok (.iconst 3, 1) := by decide +kernel
theorem d_scanExponent_10 : decode b_scanExponent 10 = .ok (.if_icmp .ne 29, 3) := by decide +kernel
theorem d_scanExponent_13 : decode b_scanExponent 13 = .ok (.aload_n 0, 1) := by decide +kernel
theorem d_scanExponent_14 : decode b_scanExponent 14 = .ok (.bipush 112, 2) := by decide +kernel
theorem d_scanExponent_16 : decode b_scanExponent 16 = .ok (.invokevirtual 137, 3) := by decide +kernel
theorem d_scanExponent_19 : decode b_scanExponent 19 = .ok (.ifCond .ne 12, 3) := by decide +kernel
theorem d_scanExponent_22 : decode b_scanExponent 22 = .ok (.aload_n 0, 1) := by decide +kernel
theorem d_scanExponent_23 : decode b_scanExponent 23 = .ok (.bipush 80, 2) := by decide +kernel
theorem d_scanExponent_25 : decode b_scanExponent 25 = .ok (.invokevirtual 137, 3) := by decide +kernel
theorem d_scanExponent_28 : decode b_scanExponent 28 = .ok (.ifCond .eq 7, 3) := by decide +kernel
theorem d_scanExponent_31 : decode b_scanExponent 31 = .ok (.iconst 1, 1) := by decide +kernel
theorem d_scanExponent_32 : decode b_scanExponent 32 = .ok (.goto 30, 3) := by decide +kernel
theorem d_scanExponent_35 : decode b_scanExponent 35 = .ok (.iconst 0, 1) := by decide +kernel
theorem d_scanExponent_36 : decode b_scanExponent 36 = .ok (.goto 26, 3) := by decide +kernel
theorem d_scanExponent_39 : decode b_scanExponent 39 = .ok (.aload_n 0, 1) := by decide +kernel
theorem d_scanExponent_40 : decode b_scanExponent 40 = .ok (.bipush 101, 2) := by decide +kernel
theorem d_scanExponent_42 : decode b_scanExponent 42 = .ok (.invokevirtual 137, 3) := by decide +kernel
theorem d_scanExponent_45 : decode b_scanExponent 45 = .ok (.ifCond .ne 12, 3) := by decide +kernel
theorem d_scanExponent_48 : decode b_scanExponent 48 = .ok (.aload_n 0, 1) := by decide +kernel
theorem d_scanExponent_49 : decode b_scanExponent 49 = .ok (.bipush 69, 2) := by decide +kernel
theorem d_scanExponent_51 : decode b_scanExponent 51 = .ok (.invokevirtual 137, 3) := by decide +kernel
theorem d_scanExponent_54 : decode b_scanExponent 54 = .ok (.ifCond .eq 7, 3) := by decide +kernel
theorem d_scanExponent_57 : decode b_scanExponent 57 = .ok (.iconst 1, 1) := by decide +kernel
theorem d_scanExponent_58 : decode b_scanExponent 58 = .ok (.goto 4, 3) := by decide +kernel
theorem d_scanExponent_61 : decode b_scanExponent 61 = .ok (.iconst 0, 1) := by decide +kernel
theorem d_scanExponent_62 : decode b_scanExponent 62 = .ok (.istore_n 1, 1) := by decide +kernel
theorem d_scanExponent_63 : decode b_scanExponent 63 = .ok (.iload_n 1, 1) := by decide +kernel
theorem d_scanExponent_64 : decode b_scanExponent 64 = .ok (.ifCond .ne 17, 3) := by decide +kernel
theorem d_scanExponent_67 : decode b_scanExponent 67 = .ok (.aload_n 0, 1) := by decide +kernel
theorem d_scanExponent_68 : decode b_scanExponent 68 = .ok (.getfield 68, 3) := by decide +kernel
theorem d_scanExponent_71 : decode b_scanExponent 71 = .ok (.iconst 2, 1) := by decide +kernel
theorem d_scanExponent_72 : decode b_scanExponent 72 = .ok (.if_icmp .ne 7, 3) := by decide +kernel
theorem d_scanExponent_75 : decode b_scanExponent 75 = .ok (.iconst 1, 1) := by decide +kernel
theorem d_scanExponent_76 : decode b_scanExponent 76 = .ok (.goto 4, 3) := by decide +kernel
theorem d_scanExponent_79 : decode b_scanExponent 79 = .ok (.iconst 0, 1) := by decide +kernel
theorem d_scanExponent_80 : decode b_scanExponent 80 = .ok (.ireturn, 1) := by decide +kernel
theorem d_scanExponent_81 : decode b_scanExponent 81 = .ok (.aload_n 0, 1) := by decide +kernel
theorem d_scanExponent_82 : decode b_scanExponent 82 = .ok (.invokevirtual 94, 3) := by decide +kernel
theorem d_scanExponent_85 : decode b_scanExponent 85 = .ok (.istore_n 2, 1) := by decide +kernel
theorem d_scanExponent_86 : decode b_scanExponent 86 = .ok (.aload_n 0, 1) := by decide +kernel
theorem d_scanExponent_87 : decode b_scanExponent 87 = .ok (.getfield 114, 3) := by decide +kernel
theorem d_scanExponent_90 : decode b_scanExponent 90 = .ok (.istore_n 3, 1) := by decide +kernel
theorem d_scanExponent_91 : decode b_scanExponent 91 = .ok (.iload_n 3, 1) := by decide +kernel
theorem d_scanExponent_92 : decode b_scanExponent 92 = .ok (.aload_n 0, 1) := by decide +kernel
theorem d_scanExponent_93 : decode b_scanExponent 93 = .ok (.bipush 10, 2) := by decide +kernel
theorem d_scanExponent_95 : decode b_scanExponent 95 = .ok (.invokevirtual 130, 3) := by decide +kernel
theorem d_scanExponent_98 : decode b_scanExponent 98 = .ok (.iadd, 1) := by decide +kernel
theorem d_scanExponent_99 : decode b_scanExponent 99 = .ok (.istore 4, 2) := by decide +kernel
theorem d_scanExponent_101 : decode b_scanExponent 101 = .ok (.iload_n 3, 1) := by decide +kernel
theorem d_scanExponent_102 : decode b_scanExponent 102 = .ok (.istore 5, 2) := by decide +kernel
theorem d_scanExponent_104 : decode b_scanExponent 104 = .ok (.iload 5, 2) := by decide +kernel
theorem d_scanExponent_106 : decode b_scanExponent 106 = .ok (.iload 4, 2) := by decide +kernel
theorem d_scanExponent_108 : decode b_scanExponent 108 = .ok (.if_icmp .ge 40, 3) := by decide +kernel
theorem d_scanExponent_111 : decode b_scanExponent 111 = .ok (.aload_n 0, 1) := by decide +kernel
theorem d_scanExponent_112 : decode b_scanExponent 112 = .ok (.getfield 144, 3) := by decide +kernel
theorem d_scanExponent_115 : decode b_scanExponent 115 = .ok (.ldc 147, 2) := by decide +kernel
theorem d_scanExponent_117 : decode b_scanExponent 117 = .ok (.if_icmp .ge 31, 3) := by decide +kernel
theorem d_scanExponent_120 : decode b_scanExponent 120 = .ok (.aload_n 0, 1) := by decide +kernel
theorem d_scanExponent_121 : decode b_scanExponent 121 = .ok (.bipush 10, 2) := by decide +kernel
theorem d_scanExponent_123 : decode b_scanExponent 123 = .ok (.aload_n 0, 1) := by decide +kernel
theorem d_scanExponent_124 : decode b_scanExponent 124 = .ok (.getfield 144, 3) := by decide +kernel
theorem d_scanExponent_127 : decode b_scanExponent 127 = .ok (.imul, 1) := by decide +kernel
theorem d_scanExponent_128 : decode b_scanExponent 128 = .ok (.aload_n 0, 1) := by decide +kernel
theorem d_scanExponent_129 : decode b_scanExponent 129 = .ok (.getfield 28, 3) := by decide +kernel
theorem d_scanExponent_132 : decode b_scanExponent 132 = .ok (.iload 5, 2) := by decide +kernel
theorem d_scanExponent_134 : decode b_scanExponent 134 = .ok (.baload, 1) := by decide +kernel
theorem d_scanExponent_135 : decode b_scanExponent 135 = .ok (.invokestatic 148, 3) := by decide +kernel
theorem d_scanExponent_138 : decode b_scanExponent 138 = .ok (.iadd, 1) := by decide +kernel
theorem d_scanExponent_139 : decode b_scanExponent 139 = .ok (.putfield 144, 3) := by decide +kernel
theorem d_scanExponent_142 : decode b_scanExponent 142 = .ok (.iinc 5 1, 3) := by decide +kernel
theorem d_scanExponent_145 : decode b_scanExponent 145 = .ok (.goto (-41), 3) := by decide +kernel
theorem d_scanExponent_148 : decode b_scanExponent 148 = .ok (.iload_n 2, 1) := by decide +kernel
theorem d_scanExponent_149 : decode b_scanExponent 149 = .ok (.ifCond .eq 12, 3) := by decide +kernel
theorem d_scanExponent_152 : decode b_scanExponent 152 = .ok (.aload_n 0, 1) := by decide +kernel
theorem d_scanExponent_153 : decode b_scanExponent 153 = .ok (.aload_n 0, 1) := by decide +kernel
theorem d_scanExponent_154 : decode b_scanExponent 154 = .ok (.getfield 144, 3) := by decide +kernel
theorem d_scanExponent_157 : decode b_scanExponent 157 = .ok (.ineg, 1) := by decide +kernel
theorem d_scanExponent_158 : decode b_scanExponent 158 = .ok (.putfield 144, 3) := by decide +kernel
theorem d_scanExponent_161 : decode b_scanExponent 161 = .ok (.iload 4, 2) := by decide +kernel
theorem d_scanExponent_163 : decode b_scanExponent 163 = .ok (.iload_n 3, 1) := by decide +kernel
theorem d_scanExponent_164 : decode b_scanExponent 164 = .ok (.if_icmp .le 7, 3) := by decide +kernel
theorem d_scanExponent_167 : decode b_scanExponent 167 = .ok (.iconst 1, 1) := by decide +kernel
theorem d_scanExponent_168 : decode b_scanExponent 168 = .ok (.goto 4, 3) := by decide +kernel
theorem d_scanExponent_171 : decode b_scanExponent 171 = .ok (.iconst 0, 1) := by decide +kernel
theorem d_scanExponent_172 : decode b_scanExponent 172 = .ok (.ireturn, 1) := by decide +kernel
theorem d_restIsSuffix_0 : decode b_restIsSuffix 0 = .ok (.aload_n 0, 1) := by decide +kernel
theorem d_restIsSuffix_1 : decode b_restIsSuffix 1 = .ok (.getfield 114, 3) := by decide +kernel
theorem d_restIsSuffix_4 : decode b_restIsSuffix 4 = .ok (.aload_n 0, 1) := by decide +kernel
theorem d_restIsSuffix_5 : decode b_restIsSuffix 5 = .ok (.getfield 117, 3) := by decide +kernel
theorem d_restIsSuffix_8 : decode b_restIsSuffix 8 = .ok (.if_icmp .eq 39, 3) := by decide +kernel
theorem d_restIsSuffix_11 : decode b_restIsSuffix 11 = .ok (.aload_n 0, 1) := by decide +kernel
theorem d_restIsSuffix_12 : decode b_restIsSuffix 12 = .ok (.ldc 152, 2) := by decide +kernel
theorem d_restIsSuffix_14 : decode b_restIsSuffix 14 = .ok (.invokevirtual 99, 3) := by decide +kernel
theorem d_restIsSuffix_17 : decode b_restIsSuffix 17 = .ok (.ifCond .ne 30, 3) := by decide +kernel
theorem d_restIsSuffix_20 : decode b_restIsSuffix 20 = .ok (.aload_n 0, 1) := by decide +kernel
theorem d_restIsSuffix_21 : decode b_restIsSuffix 21 = .ok (.ldc 154, 2) := by decide +kernel
theorem d_restIsSuffix_23 : decode b_restIsSuffix 23 = .ok (.invokevirtual 99, 3) := by decide +kernel
theorem d_restIsSuffix_26 : decode b_restIsSuffix 26 = .ok (.ifCond .ne 21, 3) := by decide +kernel
theorem d_restIsSuffix_29 : decode b_restIsSuffix 29 = .ok (.aload_n 0, 1) := by decide +kernel
theorem d_restIsSuffix_30 : decode b_restIsSuffix 30 = .ok (.ldc 156, 2) := by decide +kernel
theorem d_restIsSuffix_32 : decode b_restIsSuffix 32 = .ok (.invokevirtual 99, 3) := by decide +kernel
theorem d_restIsSuffix_35 : decode b_restIsSuffix 35 = .ok (.ifCond .ne 12, 3) := by decide +kernel
theorem d_restIsSuffix_38 : decode b_restIsSuffix 38 = .ok (.aload_n 0, 1) := by decide +kernel
theorem d_restIsSuffix_39 : decode b_restIsSuffix 39 = .ok (.ldc 158, 2) := by decide +kernel
theorem d_restIsSuffix_41 : decode b_restIsSuffix 41 = .ok (.invokevirtual 99, 3) := by decide +kernel
theorem d_restIsSuffix_44 : decode b_restIsSuffix 44 = .ok (.ifCond .eq 7, 3) := by decide +kernel
theorem d_restIsSuffix_47 : decode b_restIsSuffix 47 = .ok (.iconst 1, 1) := by decide +kernel
theorem d_restIsSuffix_48 : decode b_restIsSuffix 48 = .ok (.goto 4, 3) := by decide +kernel
theorem d_restIsSuffix_51 : decode b_restIsSuffix 51 = .ok (.iconst 0, 1) := by decide +kernel
theorem d_restIsSuffix_52 : decode b_restIsSuffix 52 = .ok (.ireturn, 1) := by decide +kernel
theorem d_takeSign_0 : decode b_takeSign 0 = .ok (.aload_n 0, 1) := by decide +kernel
theorem d_takeSign_1 : decode b_takeSign 1 = .ok (.bipush 45, 2) := by decide +kernel
theorem d_takeSign_3 : decode b_takeSign 3 = .ok (.invokevirtual 137, 3) := by decide +kernel
theorem d_takeSign_6 : decode b_takeSign 6 = .ok (.ifCond .eq 5, 3) := by decide +kernel
theorem d_takeSign_9 : decode b_takeSign 9 = .ok (.iconst 1, 1) := by decide +kernel
theorem d_takeSign_10 : decode b_takeSign 10 = .ok (.ireturn, 1) := by decide +kernel
theorem d_takeSign_11 : decode b_takeSign 11 = .ok (.aload_n 0, 1) := by decide +kernel
theorem d_takeSign_12 : decode b_takeSign 12 = .ok (.bipush 43, 2) := by decide +kernel
theorem d_takeSign_14 : decode b_takeSign 14 = .ok (.invokevirtual 137, 3) := by decide +kernel
theorem d_takeSign_17 : decode b_takeSign 17 = .ok (.pop, 1) := by decide +kernel
theorem d_takeSign_18 : decode b_takeSign 18 = .ok (.iconst 0, 1) := by decide +kernel
theorem d_takeSign_19 : decode b_takeSign 19 = .ok (.ireturn, 1) := by decide +kernel
theorem d_takeHexStart_0 : decode b_takeHexStart 0 = .ok (.aload_n 0, 1) := by decide +kernel
theorem d_takeHexStart_1 : decode b_takeHexStart 1 = .ok (.getfield 114, 3) := by decide +kernel
theorem d_takeHexStart_4 : decode b_takeHexStart 4 = .ok (.iconst 1, 1) := by decide +kernel
theorem d_takeHexStart_5 : decode b_takeHexStart 5 = .ok (.iadd, 1) := by decide +kernel
theorem d_takeHexStart_6 : decode b_takeHexStart 6 = .ok (.aload_n 0, 1) := by decide +kernel
theorem d_takeHexStart_7 : decode b_takeHexStart 7 = .ok (.getfield 117, 3) := by decide +kernel
theorem d_takeHexStart_10 : decode b_takeHexStart 10 = .ok (.if_icmp .ge 53, 3) := by decide +kernel
theorem d_takeHexStart_13 : decode b_takeHexStart 13 = .ok (.aload_n 0, 1) := by decide +kernel
theorem d_takeHexStart_14 : decode b_takeHexStart 14 = .ok (.getfield 28, 3) := by decide +kernel
theorem d_takeHexStart_17 : decode b_takeHexStart 17 = .ok (.aload_n 0, 1) := by decide +kernel
theorem d_takeHexStart_18 : decode b_takeHexStart 18 = .ok (.getfield 114, 3) := by decide +kernel
theorem d_takeHexStart_21 : decode b_takeHexStart 21 = .ok (.baload, 1) := by decide +kernel
theorem d_takeHexStart_22 : decode b_takeHexStart 22 = .ok (.bipush 48, 2) := by decide +kernel
theorem d_takeHexStart_24 : decode b_takeHexStart 24 = .ok (.if_icmp .ne 39, 3) := by decide +kernel
theorem d_takeHexStart_27 : decode b_takeHexStart 27 = .ok (.aload_n 0, 1) := by decide +kernel
theorem d_takeHexStart_28 : decode b_takeHexStart 28 = .ok (.getfield 28, 3) := by decide +kernel
theorem d_takeHexStart_31 : decode b_takeHexStart 31 = .ok (.aload_n 0, 1) := by decide +kernel
theorem d_takeHexStart_32 : decode b_takeHexStart 32 = .ok (.getfield 114, 3) := by decide +kernel
theorem d_takeHexStart_35 : decode b_takeHexStart 35 = .ok (.iconst 1, 1) := by decide +kernel
theorem d_takeHexStart_36 : decode b_takeHexStart 36 = .ok (.iadd, 1) := by decide +kernel
theorem d_takeHexStart_37 : decode b_takeHexStart 37 = .ok (.baload, 1) := by decide +kernel
theorem d_takeHexStart_38 : decode b_takeHexStart 38 = .ok (.bipush 120, 2) := by decide +kernel
theorem d_takeHexStart_40 : decode b_takeHexStart 40 = .ok (.if_icmp .eq 19, 3) := by decide +kernel
theorem d_takeHexStart_43 : decode b_takeHexStart 43 = .ok (.aload_n 0, 1) := by decide +kernel
theorem d_takeHexStart_44 : decode b_takeHexStart 44 = .ok (.getfield 28, 3) := by decide +kernel
theorem d_takeHexStart_47 : decode b_takeHexStart 47 = .ok (.aload_n 0, 1) := by decide +kernel
theorem d_takeHexStart_48 : decode b_takeHexStart 48 = .ok (.getfield 114, 3) := by decide +kernel
theorem d_takeHexStart_51 : decode b_takeHexStart 51 = .ok (.iconst 1, 1) := by decide +kernel
theorem d_takeHexStart_52 : decode b_takeHexStart 52 = .ok (.iadd, 1) := by decide +kernel
theorem d_takeHexStart_53 : decode b_takeHexStart 53 = .ok (.baload, 1) := by decide +kernel
theorem d_takeHexStart_54 : decode b_takeHexStart 54 = .ok (.bipush 88, 2) := by decide +kernel
theorem d_takeHexStart_56 : decode b_takeHexStart 56 = .ok (.if_icmp .ne 7, 3) := by decide +kernel
theorem d_takeHexStart_59 : decode b_takeHexStart 59 = .ok (.iconst 1, 1) := by decide +kernel
theorem d_takeHexStart_60 : decode b_takeHexStart 60 = .ok (.goto 4, 3) := by decide +kernel
theorem d_takeHexStart_63 : decode b_takeHexStart 63 = .ok (.iconst 0, 1) := by decide +kernel
theorem d_takeHexStart_64 : decode b_takeHexStart 64 = .ok (.istore_n 1, 1) := by decide +kernel
theorem d_takeHexStart_65 : decode b_takeHexStart 65 = .ok (.iload_n 1, 1) := by decide +kernel
theorem d_takeHexStart_66 : decode b_takeHexStart 66 = .ok (.ifCond .eq 13, 3) := by decide +kernel
theorem d_takeHexStart_69 : decode b_takeHexStart 69 = .ok (.aload_n 0, 1) := by decide +kernel
theorem d_takeHexStart_70 : decode b_takeHexStart 70 = .ok (.dup, 1) := by decide +kernel
theorem d_takeHexStart_71 : decode b_takeHexStart 71 = .ok (.getfield 114, 3) := by decide +kernel
theorem d_takeHexStart_74 : decode b_takeHexStart 74 = .ok (.iconst 2, 1) := by decide +kernel
theorem d_takeHexStart_75 : decode b_takeHexStart 75 = .ok (.iadd, 1) := by decide +kernel
theorem d_takeHexStart_76 : decode b_takeHexStart 76 = .ok (.putfield 114, 3) := by decide +kernel
theorem d_takeHexStart_79 : decode b_takeHexStart 79 = .ok (.iload_n 1, 1) := by decide +kernel
theorem d_takeHexStart_80 : decode b_takeHexStart 80 = .ok (.ireturn, 1) := by decide +kernel
theorem d_take_0 : decode b_take 0 = .ok (.aload_n 0, 1) := by decide +kernel
theorem d_take_1 : decode b_take 1 = .ok (.getfield 114, 3) := by decide +kernel
theorem d_take_4 : decode b_take 4 = .ok (.aload_n 0, 1) := by decide +kernel
theorem d_take_5 : decode b_take 5 = .ok (.getfield 117, 3) := by decide +kernel
theorem d_take_8 : decode b_take 8 = .ok (.if_icmp .ge 16, 3) := by decide +kernel
theorem d_take_11 : decode b_take 11 = .ok (.aload_n 0, 1) := by decide +kernel
theorem d_take_12 : decode b_take 12 = .ok (.getfield 28, 3) := by decide +kernel
theorem d_take_15 : decode b_take 15 = .ok (.aload_n 0, 1) := by decide +kernel
theorem d_take_16 : decode b_take 16 = .ok (.getfield 114, 3) := by decide +kernel
theorem d_take_19 : decode b_take 19 = .ok (.baload, 1) := by decide +kernel
theorem d_take_20 : decode b_take 20 = .ok (.iload_n 1, 1) := by decide +kernel
theorem d_take_21 : decode b_take 21 = .ok (.if_icmp .eq 5, 3) := by decide +kernel
theorem d_take_24 : decode b_take 24 = .ok (.iconst 0, 1) := by decide +kernel
theorem d_take_25 : decode b_take 25 = .ok (.ireturn, 1) := by decide +kernel
theorem d_take_26 : decode b_take 26 = .ok (.aload_n 0, 1) := by decide +kernel
theorem d_take_27 : decode b_take 27 = .ok (.dup, 1) := by decide +kernel
theorem d_take_28 : decode b_take 28 = .ok (.getfield 114, 3) := by decide +kernel
theorem d_take_31 : decode b_take 31 = .ok (.iconst 1, 1) := by decide +kernel
theorem d_take_32 : decode b_take 32 = .ok (.iadd, 1) := by decide +kernel
theorem d_take_33 : decode b_take 33 = .ok (.putfield 114, 3) := by decide +kernel
theorem d_take_36 : decode b_take 36 = .ok (.iconst 1, 1) := by decide +kernel
theorem d_take_37 : decode b_take 37 = .ok (.ireturn, 1) := by decide +kernel
theorem d_restIs_0 : decode b_restIs 0 = .ok (.aload_n 0, 1) := by decide +kernel
theorem d_restIs_1 : decode b_restIs 1 = .ok (.getfield 117, 3) := by decide +kernel
theorem d_restIs_4 : decode b_restIs 4 = .ok (.aload_n 0, 1) := by decide +kernel
theorem d_restIs_5 : decode b_restIs 5 = .ok (.getfield 114, 3) := by decide +kernel
theorem d_restIs_8 : decode b_restIs 8 = .ok (.isub, 1) := by decide +kernel
theorem d_restIs_9 : decode b_restIs 9 = .ok (.aload_n 1, 1) := by decide +kernel
theorem d_restIs_10 : decode b_restIs 10 = .ok (.invokevirtual 160, 3) := by decide +kernel
theorem d_restIs_13 : decode b_restIs 13 = .ok (.if_icmp .eq 5, 3) := by decide +kernel
theorem d_restIs_16 : decode b_restIs 16 = .ok (.iconst 0, 1) := by decide +kernel
theorem d_restIs_17 : decode b_restIs 17 = .ok (.ireturn, 1) := by decide +kernel
theorem d_restIs_18 : decode b_restIs 18 = .ok (.iconst 0, 1) := by decide +kernel
theorem d_restIs_19 : decode b_restIs 19 = .ok (.istore_n 2, 1) := by decide +kernel
theorem d_restIs_20 : decode b_restIs 20 = .ok (.iload_n 2, 1) := by decide +kernel
theorem d_restIs_21 : decode b_restIs 21 = .ok (.aload_n 1, 1) := by decide +kernel
theorem d_restIs_22 : decode b_restIs 22 = .ok (.invokevirtual 160, 3) := by decide +kernel
theorem d_restIs_25 : decode b_restIs 25 = .ok (.if_icmp .ge 30, 3) := by decide +kernel
theorem d_restIs_28 : decode b_restIs 28 = .ok (.aload_n 0, 1) := by decide +kernel
theorem d_restIs_29 : decode b_restIs 29 = .ok (.getfield 28, 3) := by decide +kernel
theorem d_restIs_32 : decode b_restIs 32 = .ok (.aload_n 0, 1) := by decide +kernel
theorem d_restIs_33 : decode b_restIs 33 = .ok (.getfield 114, 3) := by decide +kernel
theorem d_restIs_36 : decode b_restIs 36 = .ok (.iload_n 2, 1) := by decide +kernel
theorem d_restIs_37 : decode b_restIs 37 = .ok (.iadd, 1) := by decide +kernel
theorem d_restIs_38 : decode b_restIs 38 = .ok (.baload, 1) := by decide +kernel
theorem d_restIs_39 : decode b_restIs 39 = .ok (.aload_n 1, 1) := by decide +kernel
theorem d_restIs_40 : decode b_restIs 40 = .ok (.iload_n 2, 1) := by decide +kernel
theorem d_restIs_41 : decode b_restIs 41 = .ok (.invokevirtual 165, 3) := by decide +kernel
theorem d_restIs_44 : decode b_restIs 44 = .ok (.if_icmp .eq 5, 3) := by decide +kernel
theorem d_restIs_47 : decode b_restIs 47 = .ok (.iconst 0, 1) := by decide +kernel
theorem d_restIs_48 : decode b_restIs 48 = .ok (.ireturn, 1) := by decide +kernel
theorem d_restIs_49 : decode b_restIs 49 = .ok (.iinc 2 1, 3) := by decide +kernel
theorem d_restIs_52 : decode b_restIs 52 = .ok (.goto (-32), 3) := by decide +kernel
theorem d_restIs_55 : decode b_restIs 55 = .ok (.iconst 1, 1) := by decide +kernel
theorem d_restIs_56 : decode b_restIs 56 = .ok (.ireturn, 1) := by decide +kernel
theorem d_skipDigits_0 : decode b_skipDigits 0 = .ok (.aload_n 0, 1) := by decide +kernel
theorem d_skipDigits_1 : decode b_skipDigits 1 = .ok (.getfield 114, 3) := by decide +kernel
theorem d_skipDigits_4 : decode b_skipDigits 4 = .ok (.istore_n 2, 1) := by decide +kernel
theorem d_skipDigits_5 : decode b_skipDigits 5 = .ok (.aload_n 0, 1) := by decide +kernel
theorem d_skipDigits_6 : decode b_skipDigits 6 = .ok (.getfield 114, 3) := by decide +kernel
theorem d_skipDigits_9 : decode b_skipDigits 9 = .ok (.aload_n 0, 1) := by decide +kernel
theorem d_skipDigits_10 : decode b_skipDigits 10 = .ok (.getfield 117, 3) := by decide +kernel
theorem d_skipDigits_13 : decode b_skipDigits 13 = .ok (.if_icmp .ge 32, 3) := by decide +kernel
theorem d_skipDigits_16 : decode b_skipDigits 16 = .ok (.aload_n 0, 1) := by decide +kernel
theorem d_skipDigits_17 : decode b_skipDigits 17 = .ok (.getfield 28, 3) := by decide +kernel
theorem d_skipDigits_20 : decode b_skipDigits 20 = .ok (.aload_n 0, 1) := by decide +kernel
theorem d_skipDigits_21 : decode b_skipDigits 21 = .ok (.getfield 114, 3) := by decide +kernel
theorem d_skipDigits_24 : decode b_skipDigits 24 = .ok (.baload, 1) := by decide +kernel
theorem d_skipDigits_25 : decode b_skipDigits 25 = .ok (.invokestatic 148, 3) := by decide +kernel
theorem d_skipDigits_28 : decode b_skipDigits 28 = .ok (.iload_n 1, 1) := by decide +kernel
theorem d_skipDigits_29 : decode b_skipDigits 29 = .ok (.if_icmp .ge 16, 3) := by decide +kernel
theorem d_skipDigits_32 : decode b_skipDigits 32 = .ok (.aload_n 0, 1) := by decide +kernel
theorem d_skipDigits_33 : decode b_skipDigits 33 = .ok (.dup, 1) := by decide +kernel
theorem d_skipDigits_34 : decode b_skipDigits 34 = .ok (.getfield 114, 3) := by decide +kernel
theorem d_skipDigits_37 : decode b_skipDigits 37 = .ok (.iconst 1, 1) := by decide +kernel
theorem d_skipDigits_38 : decode b_skipDigits 38 = .ok (.iadd, 1) := by decide +kernel
theorem d_skipDigits_39 : decode b_skipDigits 39 = .ok (.putfield 114, 3) := by decide +kernel
theorem d_skipDigits_42 : decode b_skipDigits 42 = .ok (.goto (-37), 3) := by decide +kernel
theorem d_skipDigits_45 : decode b_skipDigits 45 = .ok (.aload_n 0, 1) := by decide +kernel
theorem d_skipDigits_46 : decode b_skipDigits 46 = .ok (.getfield 114, 3) := by decide +kernel
theorem d_skipDigits_49 : decode b_skipDigits 49 = .ok (.iload_n 2, 1) := by decide +kernel
theorem d_skipDigits_50 : decode b_skipDigits 50 = .ok (.isub, 1) := by decide +kernel
theorem d_skipDigits_51 : decode b_skipDigits 51 = .ok (.ireturn, 1) := by decide +kernel
theorem d_placeDigits_0 : decode b_placeDigits 0 = .ok (.aload_n 0, 1) := by decide +kernel
theorem d_placeDigits_1 : decode b_placeDigits 1 = .ok (.getfield 24, 3) := by decide +kernel
theorem d_placeDigits_4 : decode b_placeDigits 4 = .ok (.invokevirtual 169, 3) := by decide +kernel
theorem d_placeDigits_7 : decode b_placeDigits 7 = .ok (.aload_n 0, 1) := by decide +kernel
theorem d_placeDigits_8 : decode b_placeDigits 8 = .ok (.getfield 68, 3) := by decide +kernel
theorem d_placeDigits_11 : decode b_placeDigits 11 = .ok (.iconst 3, 1) := by decide +kernel
theorem d_placeDigits_12 : decode b_placeDigits 12 = .ok (.if_icmp .ne 7, 3) := by decide +kernel
theorem d_placeDigits_15 : decode b_placeDigits 15 = .ok (.iconst 4, 1) := by decide +kernel
theorem d_placeDigits_16 : decode b_placeDigits 16 = .ok (.goto 4, 3) := by decide +kernel
theorem d_placeDigits_19 : decode b_placeDigits 19 = .ok (.iconst 1, 1) := by decide +kernel
theorem d_placeDigits_20 : decode b_placeDigits 20 = .ok (.istore_n 1, 1) := by decide +kernel
theorem d_placeDigits_21 : decode b_placeDigits 21 = .ok (.aload_n 0, 1) := by decide +kernel
theorem d_placeDigits_22 : decode b_placeDigits 22 = .ok (.getfield 144, 3) := by decide +kernel
theorem d_placeDigits_25 : decode b_placeDigits 25 = .ok (.iload_n 1, 1) := by decide +kernel
theorem d_placeDigits_26 : decode b_placeDigits 26 = .ok (.aload_n 0, 1) := by decide +kernel
theorem d_placeDigits_27 : decode b_placeDigits 27 = .ok (.getfield 134, 3) := by decide +kernel
theorem d_placeDigits_30 : decode b_placeDigits 30 = .ok (.iconst 1, 1) := by decide +kernel
theorem d_placeDigits_31 : decode b_placeDigits 31 = .ok (.isub, 1) := by decide +kernel
theorem d_placeDigits_32 : decode b_placeDigits 32 = .ok (.imul, 1) := by decide +kernel
theorem d_placeDigits_33 : decode b_placeDigits 33 = .ok (.iadd, 1) := by decide +kernel
theorem d_placeDigits_34 : decode b_placeDigits 34 = .ok (.istore_n 2, 1) := by decide +kernel
theorem d_placeDigits_35 : decode b_placeDigits 35 = .ok (.aload_n 0, 1) := by decide +kernel
theorem d_placeDigits_36 : decode b_placeDigits 36 = .ok (.getfield 127, 3) := by decide +kernel
theorem d_placeDigits_39 : decode b_placeDigits 39 = .ok (.istore_n 3, 1) := by decide +kernel
theorem d_placeDigits_40 : decode b_placeDigits 40 = .ok (.iload_n 3, 1) := by decide +kernel
theorem d_placeDigits_41 : decode b_placeDigits 41 = .ok (.aload_n 0, 1) := by decide +kernel
theorem d_placeDigits_42 : decode b_placeDigits 42 = .ok (.getfield 141, 3) := by decide +kernel
theorem d_placeDigits_45 : decode b_placeDigits 45 = .ok (.if_icmp .ge 38, 3) := by decide +kernel
theorem d_placeDigits_48 : decode b_placeDigits 48 = .ok (.aload_n 0, 1) := by decide +kernel
theorem d_placeDigits_49 : decode b_placeDigits 49 = .ok (.getfield 28, 3) := by decide +kernel
theorem d_placeDigits_52 : decode b_placeDigits 52 = .ok (.iload_n 3, 1) := by decide +kernel
theorem d_placeDigits_53 : decode b_placeDigits 53 = .ok (.baload, 1) := by decide +kernel
theorem d_placeDigits_54 : decode b_placeDigits 54 = .ok (.bipush 46, 2) := by decide +kernel
theorem d_placeDigits_56 : decode b_placeDigits 56 = .ok (.if_icmp .eq 21, 3) := by decide +kernel
theorem d_placeDigits_59 : decode b_placeDigits 59 = .ok (.aload_n 0, 1) := by decide +kernel
theorem d_placeDigits_60 : decode b_placeDigits 60 = .ok (.aload_n 0, 1) := by decide +kernel
theorem d_placeDigits_61 : decode b_placeDigits 61 = .ok (.getfield 28, 3) := by decide +kernel
theorem d_placeDigits_64 : decode b_placeDigits 64 = .ok (.iload_n 3, 1) := by decide +kernel
theorem d_placeDigits_65 : decode b_placeDigits 65 = .ok (.baload, 1) := by decide +kernel
theorem d_placeDigits_66 : decode b_placeDigits 66 = .ok (.invokestatic 148, 3) := by decide +kernel
theorem d_placeDigits_69 : decode b_placeDigits 69 = .ok (.iload_n 2, 1) := by decide +kernel
theorem d_placeDigits_70 : decode b_placeDigits 70 = .ok (.invokevirtual 172, 3) := by decide +kernel
theorem d_placeDigits_73 : decode b_placeDigits 73 = .ok (.iload_n 2, 1) := by decide +kernel
theorem d_placeDigits_74 : decode b_placeDigits 74 = .ok (.iload_n 1, 1) := by decide +kernel
theorem d_placeDigits_75 : decode b_placeDigits 75 = .ok (.isub, 1) := by decide +kernel
theorem d_placeDigits_76 : decode b_placeDigits 76 = .ok (.istore_n 2, 1) := by decide +kernel
theorem d_placeDigits_77 : decode b_placeDigits 77 = .ok (.iinc 3 1, 3) := by decide +kernel
theorem d_placeDigits_80 : decode b_placeDigits 80 = .ok (.goto (-40), 3) := by decide +kernel
theorem d_placeDigits_83 : decode b_placeDigits 83 = .ok (.aload_n 0, 1) := by decide +kernel
theorem d_placeDigits_84 : decode b_placeDigits 84 = .ok (.getfield 24, 3) := by decide +kernel
theorem d_placeDigits_87 : decode b_placeDigits 87 = .ok (.invokevirtual 176, 3) := by decide +kernel
theorem d_placeDigits_90 : decode b_placeDigits 90 = .ok (.return_, 1) := by decide +kernel
theorem d_placeDigit_0 : decode b_placeDigit 0 = .ok (.aload_n 0, 1) := by decide +kernel
theorem d_placeDigit_1 : decode b_placeDigit 1 = .ok (.getfield 68, 3) := by decide +kernel
theorem d_placeDigit_4 : decode b_placeDigit 4 = .ok (.iconst 3, 1) := by decide +kernel
theorem d_placeDigit_5 : decode b_placeDigit 5 = .ok (.if_icmp .ne 15, 3) := by decide +kernel
theorem d_placeDigit_8 : decode b_placeDigit 8 = .ok (.aload_n 0, 1) := by decide +kernel
theorem d_placeDigit_9 : decode b_placeDigit 9 = .ok (.getfield 24, 3) := by decide +kernel
theorem d_placeDigit_12 : decode b_placeDigit 12 = .ok (.iload_n 1, 1) := by decide +kernel
theorem d_placeDigit_13 : decode b_placeDigit 13 = .ok (.iload_n 2, 1) := by decide +kernel
theorem d_placeDigit_14 : decode b_placeDigit 14 = .ok (.invokevirtual 179, 3) := by decide +kernel
theorem d_placeDigit_17 : decode b_placeDigit 17 = .ok (.goto 12, 3) := by decide +kernel
theorem d_placeDigit_20 : decode b_placeDigit 20 = .ok (.aload_n 0, 1) := by decide +kernel
theorem d_placeDigit_21 : decode b_placeDigit 21 = .ok (.getfield 24, 3) := by decide +kernel
theorem d_placeDigit_24 : decode b_placeDigit 24 = .ok (.iload_n 1, 1) := by decide +kernel
theorem d_placeDigit_25 : decode b_placeDigit 25 = .ok (.iload_n 2, 1) := by decide +kernel
theorem d_placeDigit_26 : decode b_placeDigit 26 = .ok (.invokevirtual 182, 3) := by decide +kernel
theorem d_placeDigit_29 : decode b_placeDigit 29 = .ok (.return_, 1) := by decide +kernel
theorem d_isBlank_0 : decode b_isBlank 0 = .ok (.iload_n 0, 1) := by decide +kernel
theorem d_isBlank_1 : decode b_isBlank 1 = .ok (.ifCond .lt 13, 3) := by decide +kernel
theorem d_isBlank_4 : decode b_isBlank 4 = .ok (.iload_n 0, 1) := by decide +kernel
theorem d_isBlank_5 : decode b_isBlank 5 = .ok (.bipush 32, 2) := by decide +kernel
theorem d_isBlank_7 : decode b_isBlank 7 = .ok (.if_icmp .gt 7, 3) := by decide +kernel
theorem d_isBlank_10 : decode b_isBlank 10 = .ok (.iconst 1, 1) := by decide +kernel
theorem d_isBlank_11 : decode b_isBlank 11 = .ok (.goto 4, 3) := by decide +kernel
theorem d_isBlank_14 : decode b_isBlank 14 = .ok (.iconst 0, 1) := by decide +kernel
theorem d_isBlank_15 : decode b_isBlank 15 = .ok (.ireturn, 1) := by decide +kernel
theorem d_digitOf_0 : decode b_digitOf 0 = .ok (.iload_n 0, 1) := by decide +kernel
theorem d_digitOf_1 : decode b_digitOf 1 = .ok (.bipush 48, 2) := by decide +kernel
theorem d_digitOf_3 : decode b_digitOf 3 = .ok (.if_icmp .lt 14, 3) := by decide +kernel
theorem d_digitOf_6 : decode b_digitOf 6 = .ok (.iload_n 0, 1) := by decide +kernel
theorem d_digitOf_7 : decode b_digitOf 7 = .ok (.bipush 57, 2) := by decide +kernel
theorem d_digitOf_9 : decode b_digitOf 9 = .ok (.if_icmp .gt 8, 3) := by decide +kernel
theorem d_digitOf_12 : decode b_digitOf 12 = .ok (.iload_n 0, 1) := by decide +kernel
theorem d_digitOf_13 : decode b_digitOf 13 = .ok (.bipush 48, 2) := by decide +kernel
theorem d_digitOf_15 : decode b_digitOf 15 = .ok (.isub, 1) := by decide +kernel
theorem d_digitOf_16 : decode b_digitOf 16 = .ok (.ireturn, 1) := by decide +kernel
theorem d_digitOf_17 : decode b_digitOf 17 = .ok (.iload_n 0, 1) := by decide +kernel
theorem d_digitOf_18 : decode b_digitOf 18 = .ok (.bipush 97, 2) := by decide +kernel
theorem d_digitOf_20 : decode b_digitOf 20 = .ok (.if_icmp .lt 17, 3) := by decide +kernel
theorem d_digitOf_23 : decode b_digitOf 23 = .ok (.iload_n 0, 1) := by decide +kernel
theorem d_digitOf_24 : decode b_digitOf 24 = .ok (.bipush 102, 2) := by decide +kernel
theorem d_digitOf_26 : decode b_digitOf 26 = .ok (.if_icmp .gt 11, 3) := by decide +kernel
theorem d_digitOf_29 : decode b_digitOf 29 = .ok (.iload_n 0, 1) := by decide +kernel
theorem d_digitOf_30 : decode b_digitOf 30 = .ok (.bipush 97, 2) := by decide +kernel
theorem d_digitOf_32 : decode b_digitOf 32 = .ok (.isub, 1) := by decide +kernel
theorem d_digitOf_33 : decode b_digitOf 33 = .ok (.bipush 10, 2) := by decide +kernel
theorem d_digitOf_35 : decode b_digitOf 35 = .ok (.iadd, 1) := by decide +kernel
theorem d_digitOf_36 : decode b_digitOf 36 = .ok (.ireturn, 1) := by decide +kernel
theorem d_digitOf_37 : decode b_digitOf 37 = .ok (.iload_n 0, 1) := by decide +kernel
theorem d_digitOf_38 : decode b_digitOf 38 = .ok (.bipush 65, 2) := by decide +kernel
theorem d_digitOf_40 : decode b_digitOf 40 = .ok (.if_icmp .lt 17, 3) := by decide +kernel
theorem d_digitOf_43 : decode b_digitOf 43 = .ok (.iload_n 0, 1) := by decide +kernel
theorem d_digitOf_44 : decode b_digitOf 44 = .ok (.bipush 70, 2) := by decide +kernel
theorem d_digitOf_46 : decode b_digitOf 46 = .ok (.if_icmp .gt 11, 3) := by decide +kernel
theorem d_digitOf_49 : decode b_digitOf 49 = .ok (.iload_n 0, 1) := by decide +kernel
theorem d_digitOf_50 : decode b_digitOf 50 = .ok (.bipush 65, 2) := by decide +kernel
theorem d_digitOf_52 : decode b_digitOf 52 = .ok (.isub, 1) := by decide +kernel
theorem d_digitOf_53 : decode b_digitOf 53 = .ok (.bipush 10, 2) := by decide +kernel
theorem d_digitOf_55 : decode b_digitOf 55 = .ok (.iadd, 1) := by decide +kernel
theorem d_digitOf_56 : decode b_digitOf 56 = .ok (.ireturn, 1) := by decide +kernel
theorem d_digitOf_57 : decode b_digitOf 57 = .ok (.bipush 16, 2) := by decide +kernel
theorem d_digitOf_59 : decode b_digitOf 59 = .ok (.ireturn, 1) := by decide +kernel
end
section
theorem d_k_init_0 : decode b_k_init 0 = .ok (.aload_n 0, 1) := by decide +kernel
theorem d_k_init_1 : decode b_k_init 1 = .ok (.invokespecial 1, 3) := by decide +kernel
theorem d_k_init_4 : decode b_k_init 4 = .ok (.aload_n 0, 1) := by decide +kernel
theorem d_k_init_5 : decode b_k_init 5 = .ok (.iload_n 1, 1) := by decide +kernel
theorem d_k_init_6 : decode b_k_init 6 = .ok (.putfield 7, 3) := by decide +kernel
theorem d_k_init_9 : decode b_k_init 9 = .ok (.aload_n 0, 1) := by decide +kernel
theorem d_k_init_10 : decode b_k_init 10 = .ok (.iload_n 2, 1) := by decide +kernel
theorem d_k_init_11 : decode b_k_init 11 = .ok (.putfield 13, 3) := by decide +kernel
theorem d_k_init_14 : decode b_k_init 14 = .ok (.aload_n 0, 1) := by decide +kernel
theorem d_k_init_15 : decode b_k_init 15 = .ok (.iload_n 3, 1) := by decide +kernel
theorem d_k_init_16 : decode b_k_init 16 = .ok (.putfield 16, 3) := by decide +kernel
theorem d_k_init_19 : decode b_k_init 19 = .ok (.aload_n 0, 1) := by decide +kernel
theorem d_k_init_20 : decode b_k_init 20 = .ok (.lconst 1, 1) := by decide +kernel
theorem d_k_init_21 : decode b_k_init 21 = .ok (.iload_n 1, 1) := by decide +kernel
theorem d_k_init_22 : decode b_k_init 22 = .ok (.iconst 1, 1) := by decide +kernel
theorem d_k_init_23 : decode b_k_init 23 = .ok (.isub, 1) := by decide +kernel
theorem d_k_init_24 : decode b_k_init 24 = .ok (.lshl, 1) := by decide +kernel
theorem d_k_init_25 : decode b_k_init 25 = .ok (.putfield 19, 3) := by decide +kernel
theorem d_k_init_28 : decode b_k_init 28 = .ok (.aload_n 0, 1) := by decide +kernel
theorem d_k_init_29 : decode b_k_init 29 = .ok (.iload_n 3, 1) := by decide +kernel
theorem d_k_init_30 : decode b_k_init 30 = .ok (.iload_n 2, 1) := by decide +kernel
theorem d_k_init_31 : decode b_k_init 31 = .ok (.isub, 1) := by decide +kernel
theorem d_k_init_32 : decode b_k_init 32 = .ok (.iconst 2, 1) := by decide +kernel
theorem d_k_init_33 : decode b_k_init 33 = .ok (.iadd, 1) := by decide +kernel
theorem d_k_init_34 : decode b_k_init 34 = .ok (.i2l, 1) := by decide +kernel
theorem d_k_init_35 : decode b_k_init 35 = .ok (.aload_n 0, 1) := by decide +kernel
theorem d_k_init_36 : decode b_k_init 36 = .ok (.getfield 19, 3) := by decide +kernel
theorem d_k_init_39 : decode b_k_init 39 = .ok (.lmul, 1) := by decide +kernel
theorem d_k_init_40 : decode b_k_init 40 = .ok (.putfield 23, 3) := by decide +kernel
theorem d_k_init_43 : decode b_k_init 43 = .ok (.aload_n 0, 1) := by decide +kernel
theorem d_k_init_44 : decode b_k_init 44 = .ok (.aload_n 0, 1) := by decide +kernel
theorem d_k_init_45 : decode b_k_init 45 = .ok (.getfield 23, 3) := by decide +kernel
theorem d_k_init_48 : decode b_k_init 48 = .ok (.aload_n 0, 1) := by decide +kernel
theorem d_k_init_49 : decode b_k_init 49 = .ok (.getfield 19, 3) := by decide +kernel
theorem d_k_init_52 : decode b_k_init 52 = .ok (.ldc2_w 26, 3) := by decide +kernel
theorem d_k_init_55 : decode b_k_init 55 = .ok (.ldiv, 1) := by decide +kernel
theorem d_k_init_56 : decode b_k_init 56 = .ok (.ladd, 1) := by decide +kernel
theorem d_k_init_57 : decode b_k_init 57 = .ok (.putfield 28, 3) := by decide +kernel
theorem d_k_init_60 : decode b_k_init 60 = .ok (.aload_n 0, 1) := by decide +kernel
theorem d_k_init_61 : decode b_k_init 61 = .ok (.aload_n 0, 1) := by decide +kernel
theorem d_k_init_62 : decode b_k_init 62 = .ok (.getfield 23, 3) := by decide +kernel
theorem d_k_init_65 : decode b_k_init 65 = .ok (.aload_n 0, 1) := by decide +kernel
theorem d_k_init_66 : decode b_k_init 66 = .ok (.getfield 19, 3) := by decide +kernel
theorem d_k_init_69 : decode b_k_init 69 = .ok (.ladd, 1) := by decide +kernel
theorem d_k_init_70 : decode b_k_init 70 = .ok (.putfield 31, 3) := by decide +kernel
theorem d_k_init_73 : decode b_k_init 73 = .ok (.return_, 1) := by decide +kernel
theorem d_v_init_0 : decode b_v_init 0 = .ok (.aload_n 0, 1) := by decide +kernel
theorem d_v_init_1 : decode b_v_init 1 = .ok (.invokespecial 3, 3) := by decide +kernel
theorem d_v_init_4 : decode b_v_init 4 = .ok (.aload_n 0, 1) := by decide +kernel
theorem d_v_init_5 : decode b_v_init 5 = .ok (.sipush 155, 3) := by decide +kernel
theorem d_v_init_8 : decode b_v_init 8 = .ok (.newarray .int, 2) := by decide +kernel
theorem d_v_init_10 : decode b_v_init 10 = .ok (.putfield 9, 3) := by decide +kernel
theorem d_v_init_13 : decode b_v_init 13 = .ok (.aload_n 0, 1) := by decide +kernel
theorem d_v_init_14 : decode b_v_init 14 = .ok (.bipush 67, 2) := by decide +kernel
theorem d_v_init_16 : decode b_v_init 16 = .ok (.newarray .int, 2) := by decide +kernel
theorem d_v_init_18 : decode b_v_init 18 = .ok (.putfield 13, 3) := by decide +kernel
theorem d_v_init_21 : decode b_v_init 21 = .ok (.aload_n 0, 1) := by decide +kernel
theorem d_v_init_22 : decode b_v_init 22 = .ok (.iconst 0, 1) := by decide +kernel
theorem d_v_init_23 : decode b_v_init 23 = .ok (.putfield 16, 3) := by decide +kernel
theorem d_v_init_26 : decode b_v_init 26 = .ok (.aload_n 0, 1) := by decide +kernel
theorem d_v_init_27 : decode b_v_init 27 = .ok (.iconst 0, 1) := by decide +kernel
theorem d_v_init_28 : decode b_v_init 28 = .ok (.putfield 20, 3) := by decide +kernel
theorem d_v_init_31 : decode b_v_init 31 = .ok (.return_, 1) := by decide +kernel
theorem d_v_clear_0 : decode b_v_clear 0 = .ok (.aload_n 0, 1) := by decide +kernel
theorem d_v_clear_1 : decode b_v_clear 1 = .ok (.getfield 9, 3) := by decide +kernel
theorem d_v_clear_4 : decode b_v_clear 4 = .ok (.iconst 0, 1) := by decide +kernel
theorem d_v_clear_5 : decode b_v_clear 5 = .ok (.invokestatic 23, 3) := by decide +kernel
theorem d_v_clear_8 : decode b_v_clear 8 = .ok (.aload_n 0, 1) := by decide +kernel
theorem d_v_clear_9 : decode b_v_clear 9 = .ok (.getfield 13, 3) := by decide +kernel
theorem d_v_clear_12 : decode b_v_clear 12 = .ok (.iconst 0, 1) := by decide +kernel
theorem d_v_clear_13 : decode b_v_clear 13 = .ok (.invokestatic 23, 3) := by decide +kernel
theorem d_v_clear_16 : decode b_v_clear 16 = .ok (.aload_n 0, 1) := by decide +kernel
theorem d_v_clear_17 : decode b_v_clear 17 = .ok (.iconst 0, 1) := by decide +kernel
theorem d_v_clear_18 : decode b_v_clear 18 = .ok (.putfield 16, 3) := by decide +kernel
theorem d_v_clear_21 : decode b_v_clear 21 = .ok (.aload_n 0, 1) := by decide +kernel
theorem d_v_clear_22 : decode b_v_clear 22 = .ok (.iconst 0, 1) := by decide +kernel
theorem d_v_clear_23 : decode b_v_clear 23 = .ok (.putfield 20, 3) := by decide +kernel
theorem d_v_clear_26 : decode b_v_clear 26 = .ok (.return_, 1) := by decide +kernel
theorem d_v_addDecimalDigit_0 : decode b_v_addDecimalDigit 0 = .ok (.iload_n 1, 1) := by decide +kernel
theorem d_v_addDecimalDigit_1 : decode b_v_addDecimalDigit 1 = .ok (.ifCond .ne 4, 3) := by decide +kernel
theorem d_v_addDecimalDigit_4 : decode b_v_addDecimalDigit 4 = .ok (.return_, 1) := by decide +kernel
theorem d_v_addDecimalDigit_5 : decode b_v_addDecimalDigit 5 = .ok (.iload_n 2, 1) := by decide +kernel
theorem d_v_addDecimalDigit_6 : decode b_v_addDecimalDigit 6 = .ok (.sipush 314, 3) := by decide +kernel
theorem d_v_addDecimalDigit_9 : decode b_v_addDecimalDigit 9 = .ok (.if_icmp .le 11, 3) := by decide +kernel
theorem d_v_addDecimalDigit_12 : decode b_v_addDecimalDigit 12 = .ok (.aload_n 0, 1) := by decide +kernel
theorem d_v_addDecimalDigit_13 : decode b_v_addDecimalDigit 13 = .ok (.iconst 1, 1) := by decide +kernel
theorem d_v_addDecimalDigit_14 : decode b_v_addDecimalDigit 14 = .ok (.putfield 16, 3) := by decide +kernel
theorem d_v_addDecimalDigit_17 : decode b_v_addDecimalDigit 17 = .ok (.goto 53, 3) := by decide +kernel
theorem d_v_addDecimalDigit_20 : decode b_v_addDecimalDigit 20 = .ok (.iload_n 2, 1) := by decide +kernel
theorem d_v_addDecimalDigit_21 : decode b_v_addDecimalDigit 21 = .ok (.sipush (-1080), 3) := by decide +kernel
theorem d_v_addDecimalDigit_24 : decode b_v_addDecimalDigit 24 = .ok (.if_icmp .ge 11, 3) := by decide +kernel
theorem d_v_addDecimalDigit_27 : decode b_v_addDecimalDigit 27 = .ok (.aload_n 0, 1) := by decide +kernel
theorem d_v_addDecimalDigit_28 : decode b_v_addDecimalDigit 28 = .ok (.iconst 1, 1) := by decide +kernel
theorem d_v_addDecimalDigit_29 : decode b_v_addDecimalDigit 29 = .ok (.putfield 20, 3) := by decide +kernel
theorem d_v_addDecimalDigit_32 : decode b_v_addDecimalDigit 32 = .ok (.goto 38, 3) := by decide +kernel
theorem d_v_addDecimalDigit_35 : decode b_v_addDecimalDigit 35 = .ok (.sipush 314, 3) := by decide +kernel
theorem d_v_addDecimalDigit_38 : decode b_v_addDecimalDigit 38 = .ok (.iload_n 2, 1) := by decide +kernel
theorem d_v_addDecimalDigit_39 : decode b_v_addDecimalDigit 39 = .ok (.isub, 1) := by decide +kernel
theorem d_v_addDecimalDigit_40 : decode b_v_addDecimalDigit 40 = .ok (.istore_n 3, 1) := by decide +kernel
theorem d_v_addDecimalDigit_41 : decode b_v_addDecimalDigit 41 = .ok (.getstatic 29, 3) := by decide +kernel
theorem d_v_addDecimalDigit_44 : decode b_v_addDecimalDigit 44 = .ok (.bipush 8, 2) := by decide +kernel
theorem d_v_addDecimalDigit_46 : decode b_v_addDecimalDigit 46 = .ok (.iload_n 3, 1) := by decide +kernel
theorem d_v_addDecimalDigit_47 : decode b_v_addDecimalDigit 47 = .ok (.bipush 9, 2) := by decide +kernel
theorem d_v_addDecimalDigit_49 : decode b_v_addDecimalDigit 49 = .ok (.irem, 1) := by decide +kernel
theorem d_v_addDecimalDigit_50 : decode b_v_addDecimalDigit 50 = .ok (.isub, 1) := by decide +kernel
theorem d_v_addDecimalDigit_51 : decode b_v_addDecimalDigit 51 = .ok (.iaload, 1) := by decide +kernel
theorem d_v_addDecimalDigit_52 : decode b_v_addDecimalDigit 52 = .ok (.istore 4, 2) := by decide +kernel
theorem d_v_addDecimalDigit_54 : decode b_v_addDecimalDigit 54 = .ok (.aload_n 0, 1) := by decide +kernel
theorem d_v_addDecimalDigit_55 : decode b_v_addDecimalDigit 55 = .ok (.getfield 9, 3) := by decide +kernel
theorem d_v_addDecimalDigit_58 : decode b_v_addDecimalDigit 58 = .ok (.iload_n 3, 1) := by decide +kernel
theorem d_v_addDecimalDigit_59 : decode b_v_addDecimalDigit 59 = .ok (.bipush 9, 2) := by decide +kernel
theorem d_v_addDecimalDigit_61 : decode b_v_addDecimalDigit 61 = .ok (.idiv, 1) := by decide +kernel
theorem d_v_addDecimalDigit_62 : decode b_v_addDecimalDigit 62 = .ok (.dup2, 1) := by decide +kernel
theorem d_v_addDecimalDigit_63 : decode b_v_addDecimalDigit 63 = .ok (.iaload, 1) := by decide +kernel
theorem d_v_addDecimalDigit_64 : decode b_v_addDecimalDigit 64 = .ok (.iload_n 1, 1) := by decide +kernel
theorem d_v_addDecimalDigit_65 : decode b_v_addDecimalDigit 65 = .ok (.iload 4, 2) := by decide +kernel
theorem d_v_addDecimalDigit_67 : decode b_v_addDecimalDigit 67 = .ok (.imul, 1) := by decide +kernel
theorem d_v_addDecimalDigit_68 : decode b_v_addDecimalDigit 68 = .ok (.iadd, 1) := by decide +kernel
theorem d_v_addDecimalDigit_69 : decode b_v_addDecimalDigit 69 = .ok (.iastore, 1) := by decide +kernel
theorem d_v_addDecimalDigit_70 : decode b_v_addDecimalDigit 70 = .ok (.return_, 1) := by decide +kernel
theorem d_v_addHexDigit_0 : decode b_v_addHexDigit 0 = .ok (.iconst 0, 1) := by decide +kernel
theorem d_v_addHexDigit_1 : decode b_v_addHexDigit 1 = .ok (.istore_n 3, 1) := by decide +kernel
theorem d_v_addHexDigit_2 : decode b_v_addHexDigit 2 = .ok (.iload_n 3, 1) := by decide +kernel
theorem d_v_addHexDigit_3 : decode b_v_addHexDigit 3 = .ok (.iconst 4, 1) := by decide +kernel
theorem d_v_addHexDigit_4 : decode b_v_addHexDigit 4 = .ok (.if_icmp .ge 24, 3) := by decide +kernel
theorem d_v_addHexDigit_7 : decode b_v_addHexDigit 7 = .ok (.iload_n 1, 1) := by decide +kernel
theorem d_v_addHexDigit_8 : decode b_v_addHexDigit 8 = .ok (.iload_n 3, 1) := by decide +kernel
theorem d_v_addHexDigit_9 : decode b_v_addHexDigit 9 = .ok (.iushr, 1) := by decide +kernel
theorem d_v_addHexDigit_10 : decode b_v_addHexDigit 10 = .ok (.iconst 1, 1) := by decide +kernel
theorem d_v_addHexDigit_11 : decode b_v_addHexDigit 11 = .ok (.iand, 1) := by decide +kernel
theorem d_v_addHexDigit_12 : decode b_v_addHexDigit 12 = .ok (.ifCond .eq 10, 3) := by decide +kernel
theorem d_v_addHexDigit_15 : decode b_v_addHexDigit 15 = .ok (.aload_n 0, 1) := by decide +kernel
theorem d_v_addHexDigit_16 : decode b_v_addHexDigit 16 = .ok (.iload_n 2, 1) := by decide +kernel
theorem d_v_addHexDigit_17 : decode b_v_addHexDigit 17 = .ok (.iload_n 3, 1) := by decide +kernel
theorem d_v_addHexDigit_18 : decode b_v_addHexDigit 18 = .ok (.iadd, 1) := by decide +kernel
theorem d_v_addHexDigit_19 : decode b_v_addHexDigit 19 = .ok (.invokevirtual 32, 3) := by decide +kernel
theorem d_v_addHexDigit_22 : decode b_v_addHexDigit 22 = .ok (.iinc 3 1, 3) := by decide +kernel
theorem d_v_addHexDigit_25 : decode b_v_addHexDigit 25 = .ok (.goto (-23), 3) := by decide +kernel
theorem d_v_addHexDigit_28 : decode b_v_addHexDigit 28 = .ok (.return_, 1) := by decide +kernel
theorem d_v_addBit_0 : decode b_v_addBit 0 = .ok (.iload_n 1, 1) := by decide +kernel
theorem d_v_addBit_1 : decode b_v_addBit 1 = .ok (.sipush 1055, 3) := by decide +kernel
theorem d_v_addBit_4 : decode b_v_addBit 4 = .ok (.if_icmp .le 11, 3) := by decide +kernel
theorem d_v_addBit_7 : decode b_v_addBit 7 = .ok (.aload_n 0, 1) := by decide +kernel
theorem d_v_addBit_8 : decode b_v_addBit 8 = .ok (.iconst 1, 1) := by decide +kernel
theorem d_v_addBit_9 : decode b_v_addBit 9 = .ok (.putfield 16, 3) := by decide +kernel
theorem d_v_addBit_12 : decode b_v_addBit 12 = .ok (.goto 36, 3) := by decide +kernel
theorem d_v_addBit_15 : decode b_v_addBit 15 = .ok (.iload_n 1, 1) := by decide +kernel
theorem d_v_addBit_16 : decode b_v_addBit 16 = .ok (.sipush (-1088), 3) := by decide +kernel
theorem d_v_addBit_19 : decode b_v_addBit 19 = .ok (.if_icmp .ge 11, 3) := by decide +kernel
theorem d_v_addBit_22 : decode b_v_addBit 22 = .ok (.aload_n 0, 1) := by decide +kernel
theorem d_v_addBit_23 : decode b_v_addBit 23 = .ok (.iconst 1, 1) := by decide +kernel
theorem d_v_addBit_24 : decode b_v_addBit 24 = .ok (.putfield 20, 3) := by decide +kernel
theorem d_v_addBit_27 : decode b_v_addBit 27 = .ok (.goto 21, 3) := by decide +kernel
theorem d_v_addBit_30 : decode b_v_addBit 30 = .ok (.aload_n 0, 1) := by decide +kernel
theorem d_v_addBit_31 : decode b_v_addBit 31 = .ok (.getfield 13, 3) := by decide +kernel
theorem d_v_addBit_34 : decode b_v_addBit 34 = .ok (.iload_n 1, 1) := by decide +kernel
theorem d_v_addBit_35 : decode b_v_addBit 35 = .ok (.invokestatic 36, 3) := by decide +kernel
theorem d_v_addBit_38 : decode b_v_addBit 38 = .ok (.dup2, 1) := by decide +kernel
theorem d_v_addBit_39 : decode b_v_addBit 39 = .ok (.iaload, 1) := by decide +kernel
theorem d_v_addBit_40 : decode b_v_addBit 40 = .ok (.iconst 1, 1) := by decide +kernel
theorem d_v_addBit_41 : decode b_v_addBit 41 = .ok (.iload_n 1, 1) := by decide +kernel
theorem d_v_addBit_42 : decode b_v_addBit 42 = .ok (.invokestatic 40, 3) := by decide +kernel
theorem d_v_addBit_45 : decode b_v_addBit 45 = .ok (.ishl, 1) := by decide +kernel
theorem d_v_addBit_46 : decode b_v_addBit 46 = .ok (.ior, 1) := by decide +kernel
theorem d_v_addBit_47 : decode b_v_addBit 47 = .ok (.iastore, 1) := by decide +kernel
theorem d_v_addBit_48 : decode b_v_addBit 48 = .ok (.return_, 1) := by decide +kernel
theorem d_v_turnBinary_0 : decode b_v_turnBinary 0 = .ok (.aload_n 0, 1) := by decide +kernel
theorem d_v_turnBinary_1 : decode b_v_turnBinary 1 = .ok (.invokevirtual 43, 3) := by decide +kernel
theorem d_v_turnBinary_4 : decode b_v_turnBinary 4 = .ok (.istore_n 1, 1) := by decide +kernel
theorem d_v_turnBinary_5 : decode b_v_turnBinary 5 = .ok (.iconst 0, 1) := by decide +kernel
theorem d_v_turnBinary_6 : decode b_v_turnBinary 6 = .ok (.istore_n 2, 1) := by decide +kernel
theorem d_v_turnBinary_7 : decode b_v_turnBinary 7 = .ok (.iconst 0, 1) := by decide +kernel
theorem d_v_turnBinary_8 : decode b_v_turnBinary 8 = .ok (.istore_n 3, 1) := by decide +kernel
theorem d_v_turnBinary_9 : decode b_v_turnBinary 9 = .ok (.iload_n 3, 1) := by decide +kernel
theorem d_v_turnBinary_10 : decode b_v_turnBinary 10 = .ok (.bipush 35, 2) := by decide +kernel
theorem d_v_turnBinary_12 : decode b_v_turnBinary 12 = .ok (.if_icmp .ge 42, 3) := by decide +kernel
theorem d_v_turnBinary_15 : decode b_v_turnBinary 15 = .ok (.iload_n 2, 1) := by decide +kernel
theorem d_v_turnBinary_16 : decode b_v_turnBinary 16 = .ok (.ifCond .ne 12, 3) := by decide +kernel
theorem d_v_turnBinary_19 : decode b_v_turnBinary 19 = .ok (.aload_n 0, 1) := by decide +kernel
theorem d_v_turnBinary_20 : decode b_v_turnBinary 20 = .ok (.getfield 9, 3) := by decide +kernel
theorem d_v_turnBinary_23 : decode b_v_turnBinary 23 = .ok (.iload_n 3, 1) := by decide +kernel
theorem d_v_turnBinary_24 : decode b_v_turnBinary 24 = .ok (.iaload, 1) := by decide +kernel
theorem d_v_turnBinary_25 : decode b_v_turnBinary 25 = .ok (.ifCond .eq 7, 3) := by decide +kernel
theorem d_v_turnBinary_28 : decode b_v_turnBinary 28 = .ok (.iconst 1, 1) := by decide +kernel
theorem d_v_turnBinary_29 : decode b_v_turnBinary 29 = .ok (.goto 4, 3) := by decide +kernel
theorem d_v_turnBinary_32 : decode b_v_turnBinary 32 = .ok (.iconst 0, 1) := by decide +kernel
theorem d_v_turnBinary_33 : decode b_v_turnBinary 33 = .ok (.istore_n 2, 1) := by decide +kernel
theorem d_v_turnBinary_34 : decode b_v_turnBinary 34 = .ok (.iload_n 2, 1) := by decide +kernel
theorem d_v_turnBinary_35 : decode b_v_turnBinary 35 = .ok (.ifCond .eq 13, 3) := by decide +kernel
theorem d_v_turnBinary_38 : decode b_v_turnBinary 38 = .ok (.aload_n 0, 1) := by decide +kernel
theorem d_v_turnBinary_39 : decode b_v_turnBinary 39 = .ok (.aload_n 0, 1) := by decide +kernel
theorem d_v_turnBinary_40 : decode b_v_turnBinary 40 = .ok (.getfield 9, 3) := by decide +kernel
theorem d_v_turnBinary_43 : decode b_v_turnBinary 43 = .ok (.iload_n 3, 1) := by decide +kernel
theorem d_v_turnBinary_44 : decode b_v_turnBinary 44 = .ok (.iaload, 1) := by decide +kernel
theorem d_v_turnBinary_45 : decode b_v_turnBinary 45 = .ok (.invokevirtual 47, 3) := by decide +kernel
theorem d_v_turnBinary_48 : decode b_v_turnBinary 48 = .ok (.iinc 3 1, 3) := by decide +kernel
theorem d_v_turnBinary_51 : decode b_v_turnBinary 51 = .ok (.goto (-42), 3) := by decide +kernel
theorem d_v_turnBinary_54 : decode b_v_turnBinary 54 = .ok (.bipush 33, 2) := by decide +kernel
theorem d_v_turnBinary_56 : decode b_v_turnBinary 56 = .ok (.istore_n 3, 1) := by decide +kernel
theorem d_v_turnBinary_57 : decode b_v_turnBinary 57 = .ok (.iload_n 3, 1) := by decide +kernel
theorem d_v_turnBinary_58 : decode b_v_turnBinary 58 = .ok (.bipush 67, 2) := by decide +kernel
theorem d_v_turnBinary_60 : decode b_v_turnBinary 60 = .ok (.if_icmp .ge 26, 3) := by decide +kernel
theorem d_v_turnBinary_63 : decode b_v_turnBinary 63 = .ok (.iload_n 1, 1) := by decide +kernel
theorem d_v_turnBinary_64 : decode b_v_turnBinary 64 = .ok (.bipush 35, 2) := by decide +kernel
theorem d_v_turnBinary_66 : decode b_v_turnBinary 66 = .ok (.if_icmp .le 20, 3) := by decide +kernel
theorem d_v_turnBinary_69 : decode b_v_turnBinary 69 = .ok (.aload_n 0, 1) := by decide +kernel
theorem d_v_turnBinary_70 : decode b_v_turnBinary 70 = .ok (.getfield 13, 3) := by decide +kernel
theorem d_v_turnBinary_73 : decode b_v_turnBinary 73 = .ok (.iload_n 3, 1) := by decide +kernel
theorem d_v_turnBinary_74 : decode b_v_turnBinary 74 = .ok (.aload_n 0, 1) := by decide +kernel
theorem d_v_turnBinary_75 : decode b_v_turnBinary 75 = .ok (.iload_n 1, 1) := by decide +kernel
theorem d_v_turnBinary_76 : decode b_v_turnBinary 76 = .ok (.invokevirtual 50, 3) := by decide +kernel
theorem d_v_turnBinary_79 : decode b_v_turnBinary 79 = .ok (.iastore, 1) := by decide +kernel
theorem d_v_turnBinary_80 : decode b_v_turnBinary 80 = .ok (.iinc 3 1, 3) := by decide +kernel
theorem d_v_turnBinary_83 : decode b_v_turnBinary 83 = .ok (.goto (-26), 3) := by decide +kernel
theorem d_v_turnBinary_86 : decode b_v_turnBinary 86 = .ok (.bipush 35, 2) := by decide +kernel
theorem d_v_turnBinary_88 : decode b_v_turnBinary 88 = .ok (.istore_n 3, 1) := by decide +kernel
theorem d_v_turnBinary_89 : decode b_v_turnBinary 89 = .ok (.iload_n 3, 1) := by decide +kernel
theorem d_v_turnBinary_90 : decode b_v_turnBinary 90 = .ok (.iload_n 1, 1) := by decide +kernel
theorem d_v_turnBinary_91 : decode b_v_turnBinary 91 = .ok (.if_icmp .ge 34, 3) := by decide +kernel
theorem d_v_turnBinary_94 : decode b_v_turnBinary 94 = .ok (.aload_n 0, 1) := by decide +kernel
theorem d_v_turnBinary_95 : decode b_v_turnBinary 95 = .ok (.aload_n 0, 1) := by decide +kernel
theorem d_v_turnBinary_96 : decode b_v_turnBinary 96 = .ok (.getfield 20, 3) := by decide +kernel
theorem d_v_turnBinary_99 : decode b_v_turnBinary 99 = .ok (.ifCond .ne 12, 3) := by decide +kernel
theorem d_v_turnBinary_102 : decode b_v_turnBinary 102 = .ok (.aload_n 0, 1) := by decide +kernel
theorem d_v_turnBinary_103 : decode b_v_turnBinary 103 = .ok (.getfield 9, 3) := by decide +kernel
theorem d_v_turnBinary_106 : decode b_v_turnBinary 106 = .ok (.iload_n 3, 1) := by decide +kernel
theorem d_v_turnBinary_107 : decode b_v_turnBinary 107 = .ok (.iaload, 1) := by decide +kernel
theorem d_v_turnBinary_108 : decode b_v_turnBinary 108 = .ok (.ifCond .eq 7, 3) := by decide +kernel
theorem d_v_turnBinary_111 : decode b_v_turnBinary 111 = .ok (.iconst 1, 1) := by decide +kernel
theorem d_v_turnBinary_112 : decode b_v_turnBinary 112 = .ok (.goto 4, 3) := by decide +kernel
theorem d_v_turnBinary_115 : decode b_v_turnBinary 115 = .ok (.iconst 0, 1) := by decide +kernel
theorem d_v_turnBinary_116 : decode b_v_turnBinary 116 = .ok (.putfield 20, 3) := by decide +kernel
theorem d_v_turnBinary_119 : decode b_v_turnBinary 119 = .ok (.iinc 3 1, 3) := by decide +kernel
theorem d_v_turnBinary_122 : decode b_v_turnBinary 122 = .ok (.goto (-33), 3) := by decide +kernel
theorem d_v_turnBinary_125 : decode b_v_turnBinary 125 = .ok (.return_, 1) := by decide +kernel
theorem d_v_usedLimbs_0 : decode b_v_usedLimbs 0 = .ok (.sipush 155, 3) := by decide +kernel
theorem d_v_usedLimbs_3 : decode b_v_usedLimbs 3 = .ok (.istore_n 1, 1) := by decide +kernel
theorem d_v_usedLimbs_4 : decode b_v_usedLimbs 4 = .ok (.iload_n 1, 1) := by decide +kernel
theorem d_v_usedLimbs_5 : decode b_v_usedLimbs 5 = .ok (.ifCond .le 20, 3) := by decide +kernel
theorem d_v_usedLimbs_8 : decode b_v_usedLimbs 8 = .ok (.aload_n 0, 1) := by decide +kernel
theorem d_v_usedLimbs_9 : decode b_v_usedLimbs 9 = .ok (.getfield 9, 3) := by decide +kernel
theorem d_v_usedLimbs_12 : decode b_v_usedLimbs 12 = .ok (.iload_n 1, 1) := by decide +kernel
theorem d_v_usedLimbs_13 : decode b_v_usedLimbs 13 = .ok (.iconst 1, 1) := by decide +kernel
theorem d_v_usedLimbs_14 : decode b_v_usedLimbs 14 = .ok (.isub, 1) := by decide +kernel
theorem d_v_usedLimbs_15 : decode b_v_usedLimbs 15 = .ok (.iaload, 1) := by decide +kernel
theorem d_v_usedLimbs_16 : decode b_v_usedLimbs 16 = .ok (.ifCond .ne 9, 3) := by decide +kernel
theorem d_v_usedLimbs_19 : decode b_v_usedLimbs 19 = .ok (.iinc 1 (-1), 3) := by decide +kernel
theorem d_v_usedLimbs_22 : decode b_v_usedLimbs 22 = .ok (.goto (-18), 3) := by decide +kernel
theorem d_v_usedLimbs_25 : decode b_v_usedLimbs 25 = .ok (.iload_n 1, 1) := by decide +kernel
theorem d_v_usedLimbs_26 : decode b_v_usedLimbs 26 = .ok (.ireturn, 1) := by decide +kernel
theorem d_v_appendWholeLimb_0 : decode b_v_appendWholeLimb 0 = .ok (.iload_n 1, 1) := by decide +kernel
theorem d_v_appendWholeLimb_1 : decode b_v_appendWholeLimb 1 = .ok (.i2l, 1) := by decide +kernel
theorem d_v_appendWholeLimb_2 : decode b_v_appendWholeLimb 2 = .ok (.lstore_n 2, 1) := by decide +kernel
theorem d_v_appendWholeLimb_3 : decode b_v_appendWholeLimb 3 = .ok (.bipush 32, 2) := by decide +kernel
theorem d_v_appendWholeLimb_5 : decode b_v_appendWholeLimb 5 = .ok (.istore 4, 2) := by decide +kernel
theorem d_v_appendWholeLimb_7 : decode b_v_appendWholeLimb 7 = .ok (.iload 4, 2) := by decide +kernel
theorem d_v_appendWholeLimb_9 : decode b_v_appendWholeLimb 9 = .ok (.ifCond .lt 45, 3) := by decide +kernel
theorem d_v_appendWholeLimb_12 : decode b_v_appendWholeLimb 12 = .ok (.aload_n 0, 1) := by decide +kernel
theorem d_v_appendWholeLimb_13 : decode b_v_appendWholeLimb 13 = .ok (.getfield 13, 3) := by decide +kernel
theorem d_v_appendWholeLimb_16 : decode b_v_appendWholeLimb 16 = .ok (.iload 4, 2) := by decide +kernel
theorem d_v_appendWholeLimb_18 : decode b_v_appendWholeLimb 18 = .ok (.iaload, 1) := by decide +kernel
theorem d_v_appendWholeLimb_19 : decode b_v_appendWholeLimb 19 = .ok (.i2l, 1) := by decide +kernel
theorem d_v_appendWholeLimb_20 : decode b_v_appendWholeLimb 20 = .ok (.ldc2_w 53, 3) := by decide +kernel
theorem d_v_appendWholeLimb_23 : decode b_v_appendWholeLimb 23 = .ok (.land, 1) := by decide +kernel
theorem d_v_appendWholeLimb_24 : decode b_v_appendWholeLimb 24 = .ok (.ldc2_w 55, 3) := by decide +kernel
theorem d_v_appendWholeLimb_27 : decode b_v_appendWholeLimb 27 = .ok (.lmul, 1) := by decide +kernel
theorem d_v_appendWholeLimb_28 : decode b_v_appendWholeLimb 28 = .ok (.lload_n 2, 1) := by decide +kernel
theorem d_v_appendWholeLimb_29 : decode b_v_appendWholeLimb 29 = .ok (.ladd, 1) := by decide +kernel
theorem d_v_appendWholeLimb_30 : decode b_v_appendWholeLimb 30 = .ok (.lstore 5, 2) := by decide +kernel
theorem d_v_appendWholeLimb_32 : decode b_v_appendWholeLimb 32 = .ok (.aload_n 0, 1) := by decide +kernel
theorem d_v_appendWholeLimb_33 : decode b_v_appendWholeLimb 33 = .ok (.getfield 13, 3) := by decide +kernel
theorem d_v_appendWholeLimb_36 : decode b_v_appendWholeLimb 36 = .ok (.iload 4, 2) := by decide +kernel
theorem d_v_appendWholeLimb_38 : decode b_v_appendWholeLimb 38 = .ok (.lload 5, 2) := by decide +kernel
theorem d_v_appendWholeLimb_40 : decode b_v_appendWholeLimb 40 = .ok (.l2i, 1) := by decide +kernel
theorem d_v_appendWholeLimb_41 : decode b_v_appendWholeLimb 41 = .ok (.iastore, 1) := by decide +kernel
theorem d_v_appendWholeLimb_42 : decode b_v_appendWholeLimb 42 = .ok (.lload 5, 2) := by decide +kernel
theorem d_v_appendWholeLimb_44 : decode b_v_appendWholeLimb 44 = .ok (.bipush 32, 2) := by decide +kernel
theorem d_v_appendWholeLimb_46 : decode b_v_appendWholeLimb 46 = .ok (.lushr, 1) := by decide +kernel
theorem d_v_appendWholeLimb_47 : decode b_v_appendWholeLimb 47 = .ok (.lstore_n 2, 1) := by decide +kernel
theorem d_v_appendWholeLimb_48 : decode b_v_appendWholeLimb 48 = .ok (.iinc 4 (-1), 3) := by decide +kernel
theorem d_v_appendWholeLimb_51 : decode b_v_appendWholeLimb 51 = .ok (.goto (-44), 3) := by decide +kernel
theorem d_v_appendWholeLimb_54 : decode b_v_appendWholeLimb 54 = .ok (.return_, 1) := by decide +kernel
theorem d_v_takeFractionWord_0 : decode b_v_takeFractionWord 0 = .ok (.lconst 0, 1) := by decide +kernel
theorem d_v_takeFractionWord_1 : decode b_v_takeFractionWord 1 = .ok (.lstore_n 2, 1) := by decide +kernel
theorem d_v_takeFractionWord_2 : decode b_v_takeFractionWord 2 = .ok (.iload_n 1, 1) := by decide +kernel
theorem d_v_takeFractionWord_3 : decode b_v_takeFractionWord 3 = .ok (.iconst 1, 1) := by decide +kernel
theorem d_v_takeFractionWord_4 : decode b_v_takeFractionWord 4 = .ok (.isub, 1) := by decide +kernel
theorem d_v_takeFractionWord_5 : decode b_v_takeFractionWord 5 = .ok (.istore 4, 2) := by decide +kernel
theorem d_v_takeFractionWord_7 : decode b_v_takeFractionWord 7 = .ok (.iload 4, 2) := by decide +kernel
theorem d_v_takeFractionWord_9 : decode b_v_takeFractionWord 9 = .ok (.bipush 35, 2) := by decide +kernel
theorem d_v_takeFractionWord_11 : decode b_v_takeFractionWord 11 = .ok (.if_icmp .lt 45, 3) := by decide +kernel
theorem d_v_takeFractionWord_14 : decode b_v_takeFractionWord 14 = .ok (.aload_n 0, 1) := by decide +kernel
theorem d_v_takeFractionWord_15 : decode b_v_takeFractionWord 15 = .ok (.getfield 9, 3) := by decide +kernel
theorem d_v_takeFractionWord_18 : decode b_v_takeFractionWord 18 = .ok (.iload 4, 2) := by decide +kernel
theorem d_v_takeFractionWord_20 : decode b_v_takeFractionWord 20 = .ok (.iaload, 1) := by decide +kernel
theorem d_v_takeFractionWord_21 : decode b_v_takeFractionWord 21 = .ok (.i2l, 1) := by decide +kernel
theorem d_v_takeFractionWord_22 : decode b_v_takeFractionWord 22 = .ok (.bipush 32, 2) := by decide +kernel
theorem d_v_takeFractionWord_24 : decode b_v_takeFractionWord 24 = .ok (.lshl, 1) := by decide +kernel
theorem d_v_takeFractionWord_25 : decode b_v_takeFractionWord 25 = .ok (.lload_n 2, 1) := by decide +kernel
theorem d_v_takeFractionWord_26 : decode b_v_takeFractionWord 26 = .ok (.ladd, 1) := by decide +kernel
theorem d_v_takeFractionWord_27 : decode b_v_takeFractionWord 27 = .ok (.lstore 5, 2) := by decide +kernel
theorem d_v_takeFractionWord_29 : decode b_v_takeFractionWord 29 = .ok (.aload_n 0, 1) := by decide +kernel
theorem d_v_takeFractionWord_30 : decode b_v_takeFractionWord 30 = .ok (.getfield 9, 3) := by decide +kernel
theorem d_v_takeFractionWord_33 : decode b_v_takeFractionWord 33 = .ok (.iload 4, 2) := by decide +kernel
theorem d_v_takeFractionWord_35 : decode b_v_takeFractionWord 35 = .ok (.lload 5, 2) := by decide +kernel
theorem d_v_takeFractionWord_37 : decode b_v_takeFractionWord 37 = .ok (.ldc2_w 55, 3) := by decide +kernel
theorem d_v_takeFractionWord_40 : decode b_v_takeFractionWord 40 = .ok (.lrem, 1) := by decide +kernel
theorem d_v_takeFractionWord_41 : decode b_v_takeFractionWord 41 = .ok (.l2i, 1) := by decide +kernel
theorem d_v_takeFractionWord_42 : decode b_v_takeFractionWord 42 = .ok (.iastore, 1) := by decide +kernel
theorem d_v_takeFractionWord_43 : decode b_v_takeFractionWord 43 = .ok (.lload 5, 2) := by decide +kernel
theorem d_v_takeFractionWord_45 : decode b_v_takeFractionWord 45 = .ok (.ldc2_w 55, 3) := by decide +kernel
theorem d_v_takeFractionWord_48 : decode b_v_takeFractionWord 48 = .ok (.ldiv, 1) := by decide +kernel
theorem d_v_takeFractionWord_49 : decode b_v_takeFractionWord 49 = .ok (.lstore_n 2, 1) := by decide +kernel
theorem d_v_takeFractionWord_50 : decode b_v_takeFractionWord 50 = .ok (.iinc 4 (-1), 3) := by decide +kernel
theorem d_v_takeFractionWord_53 : decode b_v_takeFractionWord 53 = .ok (.goto (-46), 3) := by decide +kernel
theorem d_v_takeFractionWord_56 : decode b_v_takeFractionWord 56 = .ok (.lload_n 2, 1) := by decide +kernel
theorem d_v_takeFractionWord_57 : decode b_v_takeFractionWord 57 = .ok (.l2i, 1) := by decide +kernel
theorem d_v_takeFractionWord_58 : decode b_v_takeFractionWord 58 = .ok (.ireturn, 1) := by decide +kernel
theorem d_v_rounded_0 : decode b_v_rounded 0 = .ok (.aload_n 0, 1) := by decide +kernel
theorem d_v_rounded_1 : decode b_v_rounded 1 = .ok (.invokevirtual 57, 3) := by decide +kernel
theorem d_v_rounded_4 : decode b_v_rounded 4 = .ok (.istore_n 2, 1) := by decide +kernel
theorem d_v_rounded_5 : decode b_v_rounded 5 = .ok (.iload_n 2, 1) := by decide +kernel
theorem d_v_rounded_6 : decode b_v_rounded 6 = .ok (.aload_n 1, 1) := by decide +kernel
theorem d_v_rounded_7 : decode b_v_rounded 7 = .ok (.getfield 60, 3) := by decide +kernel
theorem d_v_rounded_10 : decode b_v_rounded 10 = .ok (.isub, 1) := by decide +kernel
theorem d_v_rounded_11 : decode b_v_rounded 11 = .ok (.iconst 1, 1) := by decide +kernel
theorem d_v_rounded_12 : decode b_v_rounded 12 = .ok (.iadd, 1) := by decide +kernel
theorem d_v_rounded_13 : decode b_v_rounded 13 = .ok (.aload_n 1, 1) := by decide +kernel
theorem d_v_rounded_14 : decode b_v_rounded 14 = .ok (.getfield 66, 3) := by decide +kernel
theorem d_v_rounded_17 : decode b_v_rounded 17 = .ok (.invokestatic 69, 3) := by decide +kernel
theorem d_v_rounded_20 : decode b_v_rounded 20 = .ok (.istore_n 3, 1) := by decide +kernel
theorem d_v_rounded_21 : decode b_v_rounded 21 = .ok (.aload_n 0, 1) := by decide +kernel
theorem d_v_rounded_22 : decode b_v_rounded 22 = .ok (.getfield 16, 3) := by decide +kernel
theorem d_v_rounded_25 : decode b_v_rounded 25 = .ok (.ifCond .ne 11, 3) := by decide +kernel
theorem d_v_rounded_28 : decode b_v_rounded 28 = .ok (.iload_n 3, 1) := by decide +kernel
theorem d_v_rounded_29 : decode b_v_rounded 29 = .ok (.aload_n 1, 1) := by decide +kernel
theorem d_v_rounded_30 : decode b_v_rounded 30 = .ok (.getfield 75, 3) := by decide +kernel
theorem d_v_rounded_33 : decode b_v_rounded 33 = .ok (.if_icmp .le 8, 3) := by decide +kernel
theorem d_v_rounded_36 : decode b_v_rounded 36 = .ok (.aload_n 1, 1) := by decide +kernel
theorem d_v_rounded_37 : decode b_v_rounded 37 = .ok (.getfield 78, 3) := by decide +kernel
theorem d_v_rounded_40 : decode b_v_rounded 40 = .ok (.lreturn, 1) := by decide +kernel
theorem d_v_rounded_41 : decode b_v_rounded 41 = .ok (.lconst 0, 1) := by decide +kernel
theorem d_v_rounded_42 : decode b_v_rounded 42 = .ok (.lstore 4, 2) := by decide +kernel
theorem d_v_rounded_44 : decode b_v_rounded 44 = .ok (.iload_n 2, 1) := by decide +kernel
theorem d_v_rounded_45 : decode b_v_rounded 45 = .ok (.istore 6, 2) := by decide +kernel
theorem d_v_rounded_47 : decode b_v_rounded 47 = .ok (.iload 6, 2) := by decide +kernel
theorem d_v_rounded_49 : decode b_v_rounded 49 = .ok (.iload_n 3, 1) := by decide +kernel
theorem d_v_rounded_50 : decode b_v_rounded 50 = .ok (.if_icmp .lt 25, 3) := by decide +kernel
theorem d_v_rounded_53 : decode b_v_rounded 53 = .ok (.ldc2_w 82, 3) := by decide +kernel
theorem d_v_rounded_56 : decode b_v_rounded 56 = .ok (.lload 4, 2) := by decide +kernel
theorem d_v_rounded_58 : decode b_v_rounded 58 = .ok (.lmul, 1) := by decide +kernel
theorem d_v_rounded_59 : decode b_v_rounded 59 = .ok (.aload_n 0, 1) := by decide +kernel
theorem d_v_rounded_60 : decode b_v_rounded 60 = .ok (.iload 6, 2) := by decide +kernel
theorem d_v_rounded_62 : decode b_v_rounded 62 = .ok (.invokevirtual 84, 3) := by decide +kernel
theorem d_v_rounded_65 : decode b_v_rounded 65 = .ok (.i2l, 1) := by decide +kernel
theorem d_v_rounded_66 : decode b_v_rounded 66 = .ok (.ladd, 1) := by decide +kernel
theorem d_v_rounded_67 : decode b_v_rounded 67 = .ok (.lstore 4, 2) := by decide +kernel
theorem d_v_rounded_69 : decode b_v_rounded 69 = .ok (.iinc 6 (-1), 3) := by decide +kernel
theorem d_v_rounded_72 : decode b_v_rounded 72 = .ok (.goto (-25), 3) := by decide +kernel
theorem d_v_rounded_75 : decode b_v_rounded 75 = .ok (.aload_n 0, 1) := by decide +kernel
theorem d_v_rounded_76 : decode b_v_rounded 76 = .ok (.iload_n 3, 1) := by decide +kernel
theorem d_v_rounded_77 : decode b_v_rounded 77 = .ok (.iconst 1, 1) := by decide +kernel
theorem d_v_rounded_78 : decode b_v_rounded 78 = .ok (.isub, 1) := by decide +kernel
theorem d_v_rounded_79 : decode b_v_rounded 79 = .ok (.invokevirtual 84, 3) := by decide +kernel
theorem d_v_rounded_82 : decode b_v_rounded 82 = .ok (.iconst 1, 1) := by decide +kernel
theorem d_v_rounded_83 : decode b_v_rounded 83 = .ok (.if_icmp .ne 30, 3) := by decide +kernel
theorem d_v_rounded_86 : decode b_v_rounded 86 = .ok (.lload 4, 2) := by decide +kernel
theorem d_v_rounded_88 : decode b_v_rounded 88 = .ok (.ldc2_w 82, 3) := by decide +kernel
theorem d_v_rounded_91 : decode b_v_rounded 91 = .ok (.lrem, 1) := by decide +kernel
theorem d_v_rounded_92 : decode b_v_rounded 92 = .ok (.lconst 1, 1) := by decide +kernel
theorem d_v_rounded_93 : decode b_v_rounded 93 = .ok (.lcmp, 1) := by decide +kernel
theorem d_v_rounded_94 : decode b_v_rounded 94 = .ok (.ifCond .eq 13, 3) := by decide +kernel
theorem d_v_rounded_97 : decode b_v_rounded 97 = .ok (.aload_n 0, 1) := by decide +kernel
theorem d_v_rounded_98 : decode b_v_rounded 98 = .ok (.iload_n 3, 1) := by decide +kernel
theorem d_v_rounded_99 : decode b_v_rounded 99 = .ok (.iconst 1, 1) := by decide +kernel
theorem d_v_rounded_100 : decode b_v_rounded 100 = .ok (.isub, 1) := by decide +kernel
theorem d_v_rounded_101 : decode b_v_rounded 101 = .ok (.invokevirtual 87, 3) := by decide +kernel
theorem d_v_rounded_104 : decode b_v_rounded 104 = .ok (.ifCond .eq 9, 3) := by decide +kernel
theorem d_v_rounded_107 : decode b_v_rounded 107 = .ok (.lload 4, 2) := by decide +kernel
theorem d_v_rounded_109 : decode b_v_rounded 109 = .ok (.lconst 1, 1) := by decide +kernel
theorem d_v_rounded_110 : decode b_v_rounded 110 = .ok (.ladd, 1) := by decide +kernel
theorem d_v_rounded_111 : decode b_v_rounded 111 = .ok (.lstore 4, 2) := by decide +kernel
theorem d_v_rounded_113 : decode b_v_rounded 113 = .ok (.iload_n 3, 1) := by decide +kernel
theorem d_v_rounded_114 : decode b_v_rounded 114 = .ok (.aload_n 1, 1) := by decide +kernel
theorem d_v_rounded_115 : decode b_v_rounded 115 = .ok (.getfield 66, 3) := by decide +kernel
theorem d_v_rounded_118 : decode b_v_rounded 118 = .ok (.isub, 1) := by decide +kernel
theorem d_v_rounded_119 : decode b_v_rounded 119 = .ok (.i2l, 1) := by decide +kernel
theorem d_v_rounded_120 : decode b_v_rounded 120 = .ok (.aload_n 1, 1) := by decide +kernel
theorem d_v_rounded_121 : decode b_v_rounded 121 = .ok (.getfield 91, 3) := by decide +kernel
theorem d_v_rounded_124 : decode b_v_rounded 124 = .ok (.lmul, 1) := by decide +kernel
theorem d_v_rounded_125 : decode b_v_rounded 125 = .ok (.lload 4, 2) := by decide +kernel
theorem d_v_rounded_127 : decode b_v_rounded 127 = .ok (.ladd, 1) := by decide +kernel
theorem d_v_rounded_128 : decode b_v_rounded 128 = .ok (.lreturn, 1) := by decide +kernel
theorem d_v_topPower_0 : decode b_v_topPower 0 = .ok (.sipush 1055, 3) := by decide +kernel
theorem d_v_topPower_3 : decode b_v_topPower 3 = .ok (.istore_n 1, 1) := by decide +kernel
theorem d_v_topPower_4 : decode b_v_topPower 4 = .ok (.iload_n 1, 1) := by decide +kernel
theorem d_v_topPower_5 : decode b_v_topPower 5 = .ok (.sipush (-1088), 3) := by decide +kernel
theorem d_v_topPower_8 : decode b_v_topPower 8 = .ok (.if_icmp .lt 21, 3) := by decide +kernel
theorem d_v_topPower_11 : decode b_v_topPower 11 = .ok (.aload_n 0, 1) := by decide +kernel
theorem d_v_topPower_12 : decode b_v_topPower 12 = .ok (.getfield 13, 3) := by decide +kernel
theorem d_v_topPower_15 : decode b_v_topPower 15 = .ok (.iload_n 1, 1) := by decide +kernel
theorem d_v_topPower_16 : decode b_v_topPower 16 = .ok (.invokestatic 36, 3) := by decide +kernel
theorem d_v_topPower_19 : decode b_v_topPower 19 = .ok (.iaload, 1) := by decide +kernel
theorem d_v_topPower_20 : decode b_v_topPower 20 = .ok (.ifCond .ne 9, 3) := by decide +kernel
theorem d_v_topPower_23 : decode b_v_topPower 23 = .ok (.iinc 1 (-32), 3) := by decide +kernel
theorem d_v_topPower_26 : decode b_v_topPower 26 = .ok (.goto (-22), 3) := by decide +kernel
theorem d_v_topPower_29 : decode b_v_topPower 29 = .ok (.iload_n 1, 1) := by decide +kernel
theorem d_v_topPower_30 : decode b_v_topPower 30 = .ok (.sipush (-1088), 3) := by decide +kernel
theorem d_v_topPower_33 : decode b_v_topPower 33 = .ok (.if_icmp .lt 17, 3) := by decide +kernel
theorem d_v_topPower_36 : decode b_v_topPower 36 = .ok (.aload_n 0, 1) := by decide +kernel
theorem d_v_topPower_37 : decode b_v_topPower 37 = .ok (.iload_n 1, 1) := by decide +kernel
theorem d_v_topPower_38 : decode b_v_topPower 38 = .ok (.invokevirtual 84, 3) := by decide +kernel
theorem d_v_topPower_41 : decode b_v_topPower 41 = .ok (.ifCond .ne 9, 3) := by decide +kernel
theorem d_v_topPower_44 : decode b_v_topPower 44 = .ok (.iinc 1 (-1), 3) := by decide +kernel
theorem d_v_topPower_47 : decode b_v_topPower 47 = .ok (.goto (-18), 3) := by decide +kernel
theorem d_v_topPower_50 : decode b_v_topPower 50 = .ok (.iload_n 1, 1) := by decide +kernel
theorem d_v_topPower_51 : decode b_v_topPower 51 = .ok (.ireturn, 1) := by decide +kernel
theorem d_v_isMoreBelow_0 : decode b_v_isMoreBelow 0 = .ok (.iload_n 1, 1) := by decide +kernel
theorem d_v_isMoreBelow_1 : decode b_v_isMoreBelow 1 = .ok (.invokestatic 36, 3) := by decide +kernel
theorem d_v_isMoreBelow_4 : decode b_v_isMoreBelow 4 = .ok (.istore_n 2, 1) := by decide +kernel
theorem d_v_isMoreBelow_5 : decode b_v_isMoreBelow 5 = .ok (.aload_n 0, 1) := by decide +kernel
theorem d_v_isMoreBelow_6 : decode b_v_isMoreBelow 6 = .ok (.getfield 20, 3) := by decide +kernel
theorem d_v_isMoreBelow_9 : decode b_v_isMoreBelow 9 = .ok (.ifCond .ne 21, 3) := by decide +kernel
theorem d_v_isMoreBelow_12 : decode b_v_isMoreBelow 12 = .ok (.aload_n 0, 1) := by decide +kernel
theorem d_v_isMoreBelow_13 : decode b_v_isMoreBelow 13 = .ok (.getfield 13, 3) := by decide +kernel
theorem d_v_isMoreBelow_16 : decode b_v_isMoreBelow 16 = .ok (.iload_n 2, 1) := by decide +kernel
theorem d_v_isMoreBelow_17 : decode b_v_isMoreBelow 17 = .ok (.iaload, 1) := by decide +kernel
theorem d_v_isMoreBelow_18 : decode b_v_isMoreBelow 18 = .ok (.iconst 1, 1) := by decide +kernel
theorem d_v_isMoreBelow_19 : decode b_v_isMoreBelow 19 = .ok (.iload_n 1, 1) := by decide +kernel
theorem d_v_isMoreBelow_20 : decode b_v_isMoreBelow 20 = .ok (.invokestatic 40, 3) := by decide +kernel
theorem d_v_isMoreBelow_23 : decode b_v_isMoreBelow 23 = .ok (.ishl, 1) := by decide +kernel
theorem d_v_isMoreBelow_24 : decode b_v_isMoreBelow 24 = .ok (.iconst 1, 1) := by decide +kernel
theorem d_v_isMoreBelow_25 : decode b_v_isMoreBelow 25 = .ok (.isub, 1) := by decide +kernel
theorem d_v_isMoreBelow_26 : decode b_v_isMoreBelow 26 = .ok (.iand, 1) := by decide +kernel
theorem d_v_isMoreBelow_27 : decode b_v_isMoreBelow 27 = .ok (.ifCond .eq 5, 3) := by decide +kernel
theorem d_v_isMoreBelow_30 : decode b_v_isMoreBelow 30 = .ok (.iconst 1, 1) := by decide +kernel
theorem d_v_isMoreBelow_31 : decode b_v_isMoreBelow 31 = .ok (.ireturn, 1) := by decide +kernel
theorem d_v_isMoreBelow_32 : decode b_v_isMoreBelow 32 = .ok (.iload_n 2, 1) := by decide +kernel
theorem d_v_isMoreBelow_33 : decode b_v_isMoreBelow 33 = .ok (.iconst 1, 1) := by decide +kernel
theorem d_v_isMoreBelow_34 : decode b_v_isMoreBelow 34 = .ok (.iadd, 1) := by decide +kernel
theorem d_v_isMoreBelow_35 : decode b_v_isMoreBelow 35 = .ok (.istore_n 3, 1) := by decide +kernel
theorem d_v_isMoreBelow_36 : decode b_v_isMoreBelow 36 = .ok (.iload_n 3, 1) := by decide +kernel
theorem d_v_isMoreBelow_37 : decode b_v_isMoreBelow 37 = .ok (.bipush 67, 2) := by decide +kernel
theorem d_v_isMoreBelow_39 : decode b_v_isMoreBelow 39 = .ok (.if_icmp .ge 20, 3) := by decide +kernel
theorem d_v_isMoreBelow_42 : decode b_v_isMoreBelow 42 = .ok (.aload_n 0, 1) := by decide +kernel
theorem d_v_isMoreBelow_43 : decode b_v_isMoreBelow 43 = .ok (.getfield 13, 3) := by decide +kernel
theorem d_v_isMoreBelow_46 : decode b_v_isMoreBelow 46 = .ok (.iload_n 3, 1) := by decide +kernel
theorem d_v_isMoreBelow_47 : decode b_v_isMoreBelow 47 = .ok (.iaload, 1) := by decide +kernel
theorem d_v_isMoreBelow_48 : decode b_v_isMoreBelow 48 = .ok (.ifCond .eq 5, 3) := by decide +kernel
theorem d_v_isMoreBelow_51 : decode b_v_isMoreBelow 51 = .ok (.iconst 1, 1) := by decide +kernel
theorem d_v_isMoreBelow_52 : decode b_v_isMoreBelow 52 = .ok (.ireturn, 1) := by decide +kernel
theorem d_v_isMoreBelow_53 : decode b_v_isMoreBelow 53 = .ok (.iinc 3 1, 3) := by decide +kernel
theorem d_v_isMoreBelow_56 : decode b_v_isMoreBelow 56 = .ok (.goto (-20), 3) := by decide +kernel
theorem d_v_isMoreBelow_59 : decode b_v_isMoreBelow 59 = .ok (.iconst 0, 1) := by decide +kernel
theorem d_v_isMoreBelow_60 : decode b_v_isMoreBelow 60 = .ok (.ireturn, 1) := by decide +kernel
theorem d_v_bitAt_0 : decode b_v_bitAt 0 = .ok (.aload_n 0, 1) := by decide +kernel
theorem d_v_bitAt_1 : decode b_v_bitAt 1 = .ok (.getfield 13, 3) := by decide +kernel
theorem d_v_bitAt_4 : decode b_v_bitAt 4 = .ok (.iload_n 1, 1) := by decide +kernel
theorem d_v_bitAt_5 : decode b_v_bitAt 5 = .ok (.invokestatic 36, 3) := by decide +kernel
theorem d_v_bitAt_8 : decode b_v_bitAt 8 = .ok (.iaload, 1) := by decide +kernel
theorem d_v_bitAt_9 : decode b_v_bitAt 9 = .ok (.iload_n 1, 1) := by decide +kernel
theorem d_v_bitAt_10 : decode b_v_bitAt 10 = .ok (.invokestatic 40, 3) := by decide +kernel
theorem d_v_bitAt_13 : decode b_v_bitAt 13 = .ok (.iushr, 1) := by decide +kernel
theorem d_v_bitAt_14 : decode b_v_bitAt 14 = .ok (.iconst 1, 1) := by decide +kernel
theorem d_v_bitAt_15 : decode b_v_bitAt 15 = .ok (.iand, 1) := by decide +kernel
theorem d_v_bitAt_16 : decode b_v_bitAt 16 = .ok (.ireturn, 1) := by decide +kernel
theorem d_v_wordOf_0 : decode b_v_wordOf 0 = .ok (.sipush 1055, 3) := by decide +kernel
theorem d_v_wordOf_3 : decode b_v_wordOf 3 = .ok (.iload_n 0, 1) := by decide +kernel
theorem d_v_wordOf_4 : decode b_v_wordOf 4 = .ok (.isub, 1) := by decide +kernel
theorem d_v_wordOf_5 : decode b_v_wordOf 5 = .ok (.bipush 32, 2) := by decide +kernel
theorem d_v_wordOf_7 : decode b_v_wordOf 7 = .ok (.idiv, 1) := by decide +kernel
theorem d_v_wordOf_8 : decode b_v_wordOf 8 = .ok (.ireturn, 1) := by decide +kernel
theorem d_v_shiftOf_0 : decode b_v_shiftOf 0 = .ok (.bipush 31, 2) := by decide +kernel
theorem d_v_shiftOf_2 : decode b_v_shiftOf 2 = .ok (.sipush 1055, 3) := by decide +kernel
theorem d_v_shiftOf_5 : decode b_v_shiftOf 5 = .ok (.iload_n 0, 1) := by decide +kernel
theorem d_v_shiftOf_6 : decode b_v_shiftOf 6 = .ok (.isub, 1) := by decide +kernel
theorem d_v_shiftOf_7 : decode b_v_shiftOf 7 = .ok (.bipush 32, 2) := by decide +kernel
theorem d_v_shiftOf_9 : decode b_v_shiftOf 9 = .ok (.irem, 1) := by decide +kernel
theorem d_v_shiftOf_10 : decode b_v_shiftOf 10 = .ok (.isub, 1) := by decide +kernel
theorem d_v_shiftOf_11 : decode b_v_shiftOf 11 = .ok (.ireturn, 1) := by decide +kernel
end
section
theorem d_m_init_0 : decode b_m_init 0 = .ok (.aload_n 0, 1) := by decide +kernel
theorem d_m_init_1 : decode b_m_init 1 = .ok (.invokespecial 1, 3) := by decide +kernel
theorem d_m_init_4 : decode b_m_init 4 = .ok (.aload_n 0, 1) := by decide +kernel
theorem d_m_init_5 : decode b_m_init 5 = .ok (.sipush 8192, 3) := by decide +kernel
theorem d_m_init_8 : decode b_m_init 8 = .ok (.newarray .byte, 2) := by decide +kernel
theorem d_m_init_10 : decode b_m_init 10 = .ok (.putfield 9, 3) := by decide +kernel
theorem d_m_init_13 : decode b_m_init 13 = .ok (.aload_n 0, 1) := by decide +kernel
theorem d_m_init_14 : decode b_m_init 14 = .ok (.sipush 160, 3) := by decide +kernel
theorem d_m_init_17 : decode b_m_init 17 = .ok (.newarray .long, 2) := by decide +kernel
theorem d_m_init_19 : decode b_m_init 19 = .ok (.putfield 13, 3) := by decide +kernel
theorem d_m_init_22 : decode b_m_init 22 = .ok (.aload_n 0, 1) := by decide +kernel
theorem d_m_init_23 : decode b_m_init 23 = .ok (.new 17, 3) := by decide +kernel
theorem d_m_init_26 : decode b_m_init 26 = .ok (.dup, 1) := by decide +kernel
theorem d_m_init_27 : decode b_m_init 27 = .ok (.invokespecial 19, 3) := by decide +kernel
theorem d_m_init_30 : decode b_m_init 30 = .ok (.putfield 20, 3) := by decide +kernel
theorem d_m_init_33 : decode b_m_init 33 = .ok (.aload_n 0, 1) := by decide +kernel
theorem d_m_init_34 : decode b_m_init 34 = .ok (.new 17, 3) := by decide +kernel
theorem d_m_init_37 : decode b_m_init 37 = .ok (.dup, 1) := by decide +kernel
theorem d_m_init_38 : decode b_m_init 38 = .ok (.invokespecial 19, 3) := by decide +kernel
theorem d_m_init_41 : decode b_m_init 41 = .ok (.putfield 24, 3) := by decide +kernel
theorem d_m_init_44 : decode b_m_init 44 = .ok (.aload_n 0, 1) := by decide +kernel
theorem d_m_init_45 : decode b_m_init 45 = .ok (.sipush 8192, 3) := by decide +kernel
theorem d_m_init_48 : decode b_m_init 48 = .ok (.newarray .byte, 2) := by decide +kernel
theorem d_m_init_50 : decode b_m_init 50 = .ok (.putfield 27, 3) := by decide +kernel
theorem d_m_init_53 : decode b_m_init 53 = .ok (.return_, 1) := by decide +kernel
theorem d_m_thrown_0 : decode b_m_thrown 0 = .ok (.aload_n 0, 1) := by decide +kernel
theorem d_m_thrown_1 : decode b_m_thrown 1 = .ok (.getfield 30, 3) := by decide +kernel
theorem d_m_thrown_4 : decode b_m_thrown 4 = .ok (.ireturn, 1) := by decide +kernel
theorem d_m_good_0 : decode b_m_good 0 = .ok (.aload_n 0, 1) := by decide +kernel
theorem d_m_good_1 : decode b_m_good 1 = .ok (.iload_n 1, 1) := by decide +kernel
theorem d_m_good_2 : decode b_m_good 2 = .ok (.ifCond .eq 7, 3) := by decide +kernel
theorem d_m_good_5 : decode b_m_good 5 = .ok (.iconst 0, 1) := by decide +kernel
theorem d_m_good_6 : decode b_m_good 6 = .ok (.goto 4, 3) := by decide +kernel
theorem d_m_good_9 : decode b_m_good 9 = .ok (.iload_n 2, 1) := by decide +kernel
theorem d_m_good_10 : decode b_m_good 10 = .ok (.putfield 30, 3) := by decide +kernel
theorem d_m_good_13 : decode b_m_good 13 = .ok (.iload_n 1, 1) := by decide +kernel
theorem d_m_good_14 : decode b_m_good 14 = .ok (.ireturn, 1) := by decide +kernel
theorem d_m_feed_0 : decode b_m_feed 0 = .ok (.aload_n 0, 1) := by decide +kernel
theorem d_m_feed_1 : decode b_m_feed 1 = .ok (.aload_n 0, 1) := by decide +kernel
theorem d_m_feed_2 : decode b_m_feed 2 = .ok (.getfield 34, 3) := by decide +kernel
theorem d_m_feed_5 : decode b_m_feed 5 = .ok (.bipush 20, 2) := by decide +kernel
theorem d_m_feed_7 : decode b_m_feed 7 = .ok (.iadd, 1) := by decide +kernel
theorem d_m_feed_8 : decode b_m_feed 8 = .ok (.sipush 8192, 3) := by decide +kernel
theorem d_m_feed_11 : decode b_m_feed 11 = .ok (.if_icmp .gt 7, 3) := by decide +kernel
theorem d_m_feed_14 : decode b_m_feed 14 = .ok (.iconst 1, 1) := by decide +kernel
theorem d_m_feed_15 : decode b_m_feed 15 = .ok (.goto 4, 3) := by decide +kernel
theorem d_m_feed_18 : decode b_m_feed 18 = .ok (.iconst 0, 1) := by decide +kernel
theorem d_m_feed_19 : decode b_m_feed 19 = .ok (.iconst 1, 1) := by decide +kernel
theorem d_m_feed_20 : decode b_m_feed 20 = .ok (.invokevirtual 37, 3) := by decide +kernel
theorem d_m_feed_23 : decode b_m_feed 23 = .ok (.ifCond .ne 5, 3) := by decide +kernel
theorem d_m_feed_26 : decode b_m_feed 26 = .ok (.iconst 0, 1) := by decide +kernel
theorem d_m_feed_27 : decode b_m_feed 27 = .ok (.ireturn, 1) := by decide +kernel
theorem d_m_feed_28 : decode b_m_feed 28 = .ok (.aload_n 0, 1) := by decide +kernel
theorem d_m_feed_29 : decode b_m_feed 29 = .ok (.iload_n 1, 1) := by decide +kernel
theorem d_m_feed_30 : decode b_m_feed 30 = .ok (.invokevirtual 41, 3) := by decide +kernel
theorem d_m_feed_33 : decode b_m_feed 33 = .ok (.aload_n 0, 1) := by decide +kernel
theorem d_m_feed_34 : decode b_m_feed 34 = .ok (.iload_n 2, 1) := by decide +kernel
theorem d_m_feed_35 : decode b_m_feed 35 = .ok (.invokevirtual 41, 3) := by decide +kernel
theorem d_m_feed_38 : decode b_m_feed 38 = .ok (.aload_n 0, 1) := by decide +kernel
theorem d_m_feed_39 : decode b_m_feed 39 = .ok (.iload_n 3, 1) := by decide +kernel
theorem d_m_feed_40 : decode b_m_feed 40 = .ok (.invokevirtual 41, 3) := by decide +kernel
theorem d_m_feed_43 : decode b_m_feed 43 = .ok (.aload_n 0, 1) := by decide +kernel
theorem d_m_feed_44 : decode b_m_feed 44 = .ok (.iload 4, 2) := by decide +kernel
theorem d_m_feed_46 : decode b_m_feed 46 = .ok (.invokevirtual 41, 3) := by decide +kernel
theorem d_m_feed_49 : decode b_m_feed 49 = .ok (.aload_n 0, 1) := by decide +kernel
theorem d_m_feed_50 : decode b_m_feed 50 = .ok (.iload 5, 2) := by decide +kernel
theorem d_m_feed_52 : decode b_m_feed 52 = .ok (.invokevirtual 41, 3) := by decide +kernel
theorem d_m_feed_55 : decode b_m_feed 55 = .ok (.aload_n 0, 1) := by decide +kernel
theorem d_m_feed_56 : decode b_m_feed 56 = .ok (.getfield 34, 3) := by decide +kernel
theorem d_m_feed_59 : decode b_m_feed 59 = .ok (.ireturn, 1) := by decide +kernel
theorem d_m_word4_0 : decode b_m_word4 0 = .ok (.bipush 24, 2) := by decide +kernel
theorem d_m_word4_2 : decode b_m_word4 2 = .ok (.istore_n 2, 1) := by decide +kernel
theorem d_m_word4_3 : decode b_m_word4 3 = .ok (.iload_n 2, 1) := by decide +kernel
theorem d_m_word4_4 : decode b_m_word4 4 = .ok (.ifCond .lt 32, 3) := by decide +kernel
theorem d_m_word4_7 : decode b_m_word4 7 = .ok (.aload_n 0, 1) := by decide +kernel
theorem d_m_word4_8 : decode b_m_word4 8 = .ok (.getfield 9, 3) := by decide +kernel
theorem d_m_word4_11 : decode b_m_word4 11 = .ok (.aload_n 0, 1) := by decide +kernel
theorem d_m_word4_12 : decode b_m_word4 12 = .ok (.getfield 34, 3) := by decide +kernel
theorem d_m_word4_15 : decode b_m_word4 15 = .ok (.iload_n 1, 1) := by decide +kernel
theorem d_m_word4_16 : decode b_m_word4 16 = .ok (.iload_n 2, 1) := by decide +kernel
theorem d_m_word4_17 : decode b_m_word4 17 = .ok (.ishr, 1) := by decide +kernel
theorem d_m_word4_18 : decode b_m_word4 18 = .ok (.i2b, 1) := by decide +kernel
theorem d_m_word4_19 : decode b_m_word4 19 = .ok (.bastore, 1) := by decide +kernel
theorem d_m_word4_20 : decode b_m_word4 20 = .ok (.aload_n 0, 1) := by decide +kernel
theorem d_m_word4_21 : decode b_m_word4 21 = .ok (.dup, 1) := by decide +kernel
theorem d_m_word4_22 : decode b_m_word4 22 = .ok (.getfield 34, 3) := by decide +kernel
theorem d_m_word4_25 : decode b_m_word4 25 = .ok (.iconst 1, 1) := by decide +kernel
theorem d_m_word4_26 : decode b_m_word4 26 = .ok (.iadd, 1) := by decide +kernel
theorem d_m_word4_27 : decode b_m_word4 27 = .ok (.putfield 34, 3) := by decide +kernel
theorem d_m_word4_30 : decode b_m_word4 30 = .ok (.iinc 2 (-8), 3) := by decide +kernel
theorem d_m_word4_33 : decode b_m_word4 33 = .ok (.goto (-30), 3) := by decide +kernel
theorem d_m_word4_36 : decode b_m_word4 36 = .ok (.return_, 1) := by decide +kernel
theorem d_m_end_0 : decode b_m_end 0 = .ok (.aload_n 0, 1) := by decide +kernel
theorem d_m_end_1 : decode b_m_end 1 = .ok (.iload_n 1, 1) := by decide +kernel
theorem d_m_end_2 : decode b_m_end 2 = .ok (.ifCond .lt 15, 3) := by decide +kernel
theorem d_m_end_5 : decode b_m_end 5 = .ok (.iload_n 1, 1) := by decide +kernel
theorem d_m_end_6 : decode b_m_end 6 = .ok (.aload_n 0, 1) := by decide +kernel
theorem d_m_end_7 : decode b_m_end 7 = .ok (.getfield 34, 3) := by decide +kernel
theorem d_m_end_10 : decode b_m_end 10 = .ok (.if_icmp .gt 7, 3) := by decide +kernel
theorem d_m_end_13 : decode b_m_end 13 = .ok (.iconst 1, 1) := by decide +kernel
theorem d_m_end_14 : decode b_m_end 14 = .ok (.goto 4, 3) := by decide +kernel
theorem d_m_end_17 : decode b_m_end 17 = .ok (.iconst 0, 1) := by decide +kernel
theorem d_m_end_18 : decode b_m_end 18 = .ok (.iconst 1, 1) := by decide +kernel
theorem d_m_end_19 : decode b_m_end 19 = .ok (.invokevirtual 37, 3) := by decide +kernel
theorem d_m_end_22 : decode b_m_end 22 = .ok (.ifCond .ne 5, 3) := by decide +kernel
theorem d_m_end_25 : decode b_m_end 25 = .ok (.iconst 0, 1) := by decide +kernel
theorem d_m_end_26 : decode b_m_end 26 = .ok (.ireturn, 1) := by decide +kernel
theorem d_m_end_27 : decode b_m_end 27 = .ok (.aload_n 0, 1) := by decide +kernel
theorem d_m_end_28 : decode b_m_end 28 = .ok (.iload_n 1, 1) := by decide +kernel
theorem d_m_end_29 : decode b_m_end 29 = .ok (.putfield 34, 3) := by decide +kernel
theorem d_m_end_32 : decode b_m_end 32 = .ok (.iload_n 1, 1) := by decide +kernel
theorem d_m_end_33 : decode b_m_end 33 = .ok (.ireturn, 1) := by decide +kernel
theorem d_m_kind_0 : decode b_m_kind 0 = .ok (.aload_n 0, 1) := by decide +kernel
theorem d_m_kind_1 : decode b_m_kind 1 = .ok (.iload_n 1, 1) := by decide +kernel
theorem d_m_kind_2 : decode b_m_kind 2 = .ok (.ifCond .eq 8, 3) := by decide +kernel
theorem d_m_kind_5 : decode b_m_kind 5 = .ok (.bipush 53, 2) := by decide +kernel
theorem d_m_kind_7 : decode b_m_kind 7 = .ok (.goto 5, 3) := by decide +kernel
theorem d_m_kind_10 : decode b_m_kind 10 = .ok (.bipush 24, 2) := by decide +kernel
theorem d_m_kind_12 : decode b_m_kind 12 = .ok (.putfield 45, 3) := by decide +kernel
theorem d_m_kind_15 : decode b_m_kind 15 = .ok (.aload_n 0, 1) := by decide +kernel
theorem d_m_kind_16 : decode b_m_kind 16 = .ok (.iload_n 1, 1) := by decide +kernel
theorem d_m_kind_17 : decode b_m_kind 17 = .ok (.ifCond .eq 9, 3) := by decide +kernel
theorem d_m_kind_20 : decode b_m_kind 20 = .ok (.sipush (-1074), 3) := by decide +kernel
theorem d_m_kind_23 : decode b_m_kind 23 = .ok (.goto 6, 3) := by decide +kernel
theorem d_m_kind_26 : decode b_m_kind 26 = .ok (.sipush (-149), 3) := by decide +kernel
theorem d_m_kind_29 : decode b_m_kind 29 = .ok (.putfield 48, 3) := by decide +kernel
theorem d_m_kind_32 : decode b_m_kind 32 = .ok (.return_, 1) := by decide +kernel
theorem d_m_infinity_0 : decode b_m_infinity 0 = .ok (.aload_n 0, 1) := by decide +kernel
theorem d_m_infinity_1 : decode b_m_infinity 1 = .ok (.getfield 45, 3) := by decide +kernel
theorem d_m_infinity_4 : decode b_m_infinity 4 = .ok (.bipush 53, 2) := by decide +kernel
theorem d_m_infinity_6 : decode b_m_infinity 6 = .ok (.if_icmp .ne 9, 3) := by decide +kernel
theorem d_m_infinity_9 : decode b_m_infinity 9 = .ok (.ldc2_w 51, 3) := by decide +kernel
theorem d_m_infinity_12 : decode b_m_infinity 12 = .ok (.goto 6, 3) := by decide +kernel
theorem d_m_infinity_15 : decode b_m_infinity 15 = .ok (.ldc2_w 53, 3) := by decide +kernel
theorem d_m_infinity_18 : decode b_m_infinity 18 = .ok (.lreturn, 1) := by decide +kernel
theorem d_m_fraction_0 : decode b_m_fraction 0 = .ok (.lconst 1, 1) := by decide +kernel
theorem d_m_fraction_1 : decode b_m_fraction 1 = .ok (.aload_n 0, 1) := by decide +kernel
theorem d_m_fraction_2 : decode b_m_fraction 2 = .ok (.getfield 45, 3) := by decide +kernel
theorem d_m_fraction_5 : decode b_m_fraction 5 = .ok (.iconst 1, 1) := by decide +kernel
theorem d_m_fraction_6 : decode b_m_fraction 6 = .ok (.isub, 1) := by decide +kernel
theorem d_m_fraction_7 : decode b_m_fraction 7 = .ok (.lshl, 1) := by decide +kernel
theorem d_m_fraction_8 : decode b_m_fraction 8 = .ok (.lconst 1, 1) := by decide +kernel
theorem d_m_fraction_9 : decode b_m_fraction 9 = .ok (.lsub, 1) := by decide +kernel
theorem d_m_fraction_10 : decode b_m_fraction 10 = .ok (.lreturn, 1) := by decide +kernel
theorem d_m_sign_0 : decode b_m_sign 0 = .ok (.aload_n 0, 1) := by decide +kernel
theorem d_m_sign_1 : decode b_m_sign 1 = .ok (.getfield 45, 3) := by decide +kernel
theorem d_m_sign_4 : decode b_m_sign 4 = .ok (.bipush 53, 2) := by decide +kernel
theorem d_m_sign_6 : decode b_m_sign 6 = .ok (.if_icmp .ne 9, 3) := by decide +kernel
theorem d_m_sign_9 : decode b_m_sign 9 = .ok (.ldc2_w 55, 3) := by decide +kernel
theorem d_m_sign_12 : decode b_m_sign 12 = .ok (.goto 6, 3) := by decide +kernel
theorem d_m_sign_15 : decode b_m_sign 15 = .ok (.ldc2_w 57, 3) := by decide +kernel
theorem d_m_sign_18 : decode b_m_sign 18 = .ok (.lreturn, 1) := by decide +kernel
theorem d_m_none_0 : decode b_m_none 0 = .ok (.aload_n 0, 1) := by decide +kernel
theorem d_m_none_1 : decode b_m_none 1 = .ok (.invokevirtual 59, 3) := by decide +kernel
theorem d_m_none_4 : decode b_m_none 4 = .ok (.lconst 1, 1) := by decide +kernel
theorem d_m_none_5 : decode b_m_none 5 = .ok (.aload_n 0, 1) := by decide +kernel
theorem d_m_none_6 : decode b_m_none 6 = .ok (.getfield 45, 3) := by decide +kernel
theorem d_m_none_9 : decode b_m_none 9 = .ok (.iconst 2, 1) := by decide +kernel
theorem d_m_none_10 : decode b_m_none 10 = .ok (.isub, 1) := by decide +kernel
theorem d_m_none_11 : decode b_m_none 11 = .ok (.lshl, 1) := by decide +kernel
theorem d_m_none_12 : decode b_m_none 12 = .ok (.lor, 1) := by decide +kernel
theorem d_m_none_13 : decode b_m_none 13 = .ok (.lreturn, 1) := by decide +kernel
theorem d_m_c_0 : decode b_m_c 0 = .ok (.lload_n 1, 1) := by decide +kernel
theorem d_m_c_1 : decode b_m_c 1 = .ok (.aload_n 0, 1) := by decide +kernel
theorem d_m_c_2 : decode b_m_c 2 = .ok (.invokevirtual 63, 3) := by decide +kernel
theorem d_m_c_5 : decode b_m_c 5 = .ok (.land, 1) := by decide +kernel
theorem d_m_c_6 : decode b_m_c 6 = .ok (.lstore_n 3, 1) := by decide +kernel
theorem d_m_c_7 : decode b_m_c 7 = .ok (.lload_n 1, 1) := by decide +kernel
theorem d_m_c_8 : decode b_m_c 8 = .ok (.aload_n 0, 1) := by decide +kernel
theorem d_m_c_9 : decode b_m_c 9 = .ok (.invokevirtual 63, 3) := by decide +kernel
theorem d_m_c_12 : decode b_m_c 12 = .ok (.lcmp, 1) := by decide +kernel
theorem d_m_c_13 : decode b_m_c 13 = .ok (.ifCond .le 14, 3) := by decide +kernel
theorem d_m_c_16 : decode b_m_c 16 = .ok (.lload_n 3, 1) := by decide +kernel
theorem d_m_c_17 : decode b_m_c 17 = .ok (.aload_n 0, 1) := by decide +kernel
theorem d_m_c_18 : decode b_m_c 18 = .ok (.invokevirtual 63, 3) := by decide +kernel
theorem d_m_c_21 : decode b_m_c 21 = .ok (.lconst 1, 1) := by decide +kernel
theorem d_m_c_22 : decode b_m_c 22 = .ok (.ladd, 1) := by decide +kernel
theorem d_m_c_23 : decode b_m_c 23 = .ok (.lor, 1) := by decide +kernel
theorem d_m_c_24 : decode b_m_c 24 = .ok (.goto 4, 3) := by decide +kernel
theorem d_m_c_27 : decode b_m_c 27 = .ok (.lload_n 3, 1) := by decide +kernel
theorem d_m_c_28 : decode b_m_c 28 = .ok (.lreturn, 1) := by decide +kernel
theorem d_m_q_0 : decode b_m_q 0 = .ok (.lload_n 1, 1) := by decide +kernel
theorem d_m_q_1 : decode b_m_q 1 = .ok (.aload_n 0, 1) := by decide +kernel
theorem d_m_q_2 : decode b_m_q 2 = .ok (.getfield 45, 3) := by decide +kernel
theorem d_m_q_5 : decode b_m_q 5 = .ok (.iconst 1, 1) := by decide +kernel
theorem d_m_q_6 : decode b_m_q 6 = .ok (.isub, 1) := by decide +kernel
theorem d_m_q_7 : decode b_m_q 7 = .ok (.lushr, 1) := by decide +kernel
theorem d_m_q_8 : decode b_m_q 8 = .ok (.lstore_n 3, 1) := by decide +kernel
theorem d_m_q_9 : decode b_m_q 9 = .ok (.lload_n 3, 1) := by decide +kernel
theorem d_m_q_10 : decode b_m_q 10 = .ok (.lconst 0, 1) := by decide +kernel
theorem d_m_q_11 : decode b_m_q 11 = .ok (.lcmp, 1) := by decide +kernel
theorem d_m_q_12 : decode b_m_q 12 = .ok (.ifCond .ne 10, 3) := by decide +kernel
theorem d_m_q_15 : decode b_m_q 15 = .ok (.aload_n 0, 1) := by decide +kernel
theorem d_m_q_16 : decode b_m_q 16 = .ok (.getfield 48, 3) := by decide +kernel
theorem d_m_q_19 : decode b_m_q 19 = .ok (.goto 12, 3) := by decide +kernel
theorem d_m_q_22 : decode b_m_q 22 = .ok (.aload_n 0, 1) := by decide +kernel
theorem d_m_q_23 : decode b_m_q 23 = .ok (.getfield 48, 3) := by decide +kernel
theorem d_m_q_26 : decode b_m_q 26 = .ok (.lload_n 3, 1) := by decide +kernel
theorem d_m_q_27 : decode b_m_q 27 = .ok (.l2i, 1) := by decide +kernel
theorem d_m_q_28 : decode b_m_q 28 = .ok (.iadd, 1) := by decide +kernel
theorem d_m_q_29 : decode b_m_q 29 = .ok (.iconst 1, 1) := by decide +kernel
theorem d_m_q_30 : decode b_m_q 30 = .ok (.isub, 1) := by decide +kernel
theorem d_m_q_31 : decode b_m_q 31 = .ok (.ireturn, 1) := by decide +kernel
theorem d_m_times_0 : decode b_m_times 0 = .ok (.lconst 0, 1) := by decide +kernel
theorem d_m_times_1 : decode b_m_times 1 = .ok (.lstore_n 3, 1) := by decide +kernel
theorem d_m_times_2 : decode b_m_times 2 = .ok (.iconst 0, 1) := by decide +kernel
theorem d_m_times_3 : decode b_m_times 3 = .ok (.istore 5, 2) := by decide +kernel
theorem d_m_times_5 : decode b_m_times 5 = .ok (.iload 5, 2) := by decide +kernel
theorem d_m_times_7 : decode b_m_times 7 = .ok (.aload_n 0, 1) := by decide +kernel
theorem d_m_times_8 : decode b_m_times 8 = .ok (.getfield 66, 3) := by decide +kernel
theorem d_m_times_11 : decode b_m_times 11 = .ok (.if_icmp .ge 39, 3) := by decide +kernel
theorem d_m_times_14 : decode b_m_times 14 = .ok (.lload_n 3, 1) := by decide +kernel
theorem d_m_times_15 : decode b_m_times 15 = .ok (.aload_n 0, 1) := by decide +kernel
theorem d_m_times_16 : decode b_m_times 16 = .ok (.getfield 13, 3) := by decide +kernel
theorem d_m_times_19 : decode b_m_times 19 = .ok (.iload 5, 2) := by decide +kernel
theorem d_m_times_21 : decode b_m_times 21 = .ok (.laload, 1) := by decide +kernel
theorem d_m_times_22 : decode b_m_times 22 = .ok (.lload_n 1, 1) := by decide +kernel
theorem d_m_times_23 : decode b_m_times 23 = .ok (.lmul, 1) := by decide +kernel
theorem d_m_times_24 : decode b_m_times 24 = .ok (.ladd, 1) := by decide +kernel
theorem d_m_times_25 : decode b_m_times 25 = .ok (.lstore_n 3, 1) := by decide +kernel
theorem d_m_times_26 : decode b_m_times 26 = .ok (.aload_n 0, 1) := by decide +kernel
theorem d_m_times_27 : decode b_m_times 27 = .ok (.getfield 13, 3) := by decide +kernel
theorem d_m_times_30 : decode b_m_times 30 = .ok (.iload 5, 2) := by decide +kernel
theorem d_m_times_32 : decode b_m_times 32 = .ok (.lload_n 3, 1) := by decide +kernel
theorem d_m_times_33 : decode b_m_times 33 = .ok (.ldc2_w 69, 3) := by decide +kernel
theorem d_m_times_36 : decode b_m_times 36 = .ok (.lrem, 1) := by decide +kernel
theorem d_m_times_37 : decode b_m_times 37 = .ok (.lastore, 1) := by decide +kernel
theorem d_m_times_38 : decode b_m_times 38 = .ok (.lload_n 3, 1) := by decide +kernel
theorem d_m_times_39 : decode b_m_times 39 = .ok (.ldc2_w 69, 3) := by decide +kernel
theorem d_m_times_42 : decode b_m_times 42 = .ok (.ldiv, 1) := by decide +kernel
theorem d_m_times_43 : decode b_m_times 43 = .ok (.lstore_n 3, 1) := by decide +kernel
theorem d_m_times_44 : decode b_m_times 44 = .ok (.iinc 5 1, 3) := by decide +kernel
theorem d_m_times_47 : decode b_m_times 47 = .ok (.goto (-42), 3) := by decide +kernel
theorem d_m_times_50 : decode b_m_times 50 = .ok (.lload_n 3, 1) := by decide +kernel
theorem d_m_times_51 : decode b_m_times 51 = .ok (.lconst 0, 1) := by decide +kernel
theorem d_m_times_52 : decode b_m_times 52 = .ok (.lcmp, 1) := by decide +kernel
theorem d_m_times_53 : decode b_m_times 53 = .ok (.ifCond .le 23, 3) := by decide +kernel
theorem d_m_times_56 : decode b_m_times 56 = .ok (.aload_n 0, 1) := by decide +kernel
theorem d_m_times_57 : decode b_m_times 57 = .ok (.getfield 13, 3) := by decide +kernel
theorem d_m_times_60 : decode b_m_times 60 = .ok (.aload_n 0, 1) := by decide +kernel
theorem d_m_times_61 : decode b_m_times 61 = .ok (.getfield 66, 3) := by decide +kernel
theorem d_m_times_64 : decode b_m_times 64 = .ok (.lload_n 3, 1) := by decide +kernel
theorem d_m_times_65 : decode b_m_times 65 = .ok (.lastore, 1) := by decide +kernel
theorem d_m_times_66 : decode b_m_times 66 = .ok (.aload_n 0, 1) := by decide +kernel
theorem d_m_times_67 : decode b_m_times 67 = .ok (.dup, 1) := by decide +kernel
theorem d_m_times_68 : decode b_m_times 68 = .ok (.getfield 66, 3) := by decide +kernel
theorem d_m_times_71 : decode b_m_times 71 = .ok (.iconst 1, 1) := by decide +kernel
theorem d_m_times_72 : decode b_m_times 72 = .ok (.iadd, 1) := by decide +kernel
theorem d_m_times_73 : decode b_m_times 73 = .ok (.putfield 66, 3) := by decide +kernel
theorem d_m_times_76 : decode b_m_times 76 = .ok (.return_, 1) := by decide +kernel
theorem d_m_row_0 : decode b_m_row 0 = .ok (.aload_n 0, 1) := by decide +kernel
theorem d_m_row_1 : decode b_m_row 1 = .ok (.iconst 0, 1) := by decide +kernel
theorem d_m_row_2 : decode b_m_row 2 = .ok (.putfield 66, 3) := by decide +kernel
theorem d_m_row_5 : decode b_m_row 5 = .ok (.lload_n 1, 1) := by decide +kernel
theorem d_m_row_6 : decode b_m_row 6 = .ok (.lstore 5, 2) := by decide +kernel
theorem d_m_row_8 : decode b_m_row 8 = .ok (.lload 5, 2) := by decide +kernel
theorem d_m_row_10 : decode b_m_row 10 = .ok (.lconst 0, 1) := by decide +kernel
theorem d_m_row_11 : decode b_m_row 11 = .ok (.lcmp, 1) := by decide +kernel
theorem d_m_row_12 : decode b_m_row 12 = .ok (.ifCond .le 39, 3) := by decide +kernel
theorem d_m_row_15 : decode b_m_row 15 = .ok (.aload_n 0, 1) := by decide +kernel
theorem d_m_row_16 : decode b_m_row 16 = .ok (.getfield 13, 3) := by decide +kernel
theorem d_m_row_19 : decode b_m_row 19 = .ok (.aload_n 0, 1) := by decide +kernel
theorem d_m_row_20 : decode b_m_row 20 = .ok (.getfield 66, 3) := by decide +kernel
theorem d_m_row_23 : decode b_m_row 23 = .ok (.lload 5, 2) := by decide +kernel
theorem d_m_row_25 : decode b_m_row 25 = .ok (.ldc2_w 69, 3) := by decide +kernel
theorem d_m_row_28 : decode b_m_row 28 = .ok (.lrem, 1) := by decide +kernel
theorem d_m_row_29 : decode b_m_row 29 = .ok (.lastore, 1) := by decide +kernel
theorem d_m_row_30 : decode b_m_row 30 = .ok (.aload_n 0, 1) := by decide +kernel
theorem d_m_row_31 : decode b_m_row 31 = .ok (.dup, 1) := by decide +kernel
theorem d_m_row_32 : decode b_m_row 32 = .ok (.getfield 66, 3) := by decide +kernel
theorem d_m_row_35 : decode b_m_row 35 = .ok (.iconst 1, 1) := by decide +kernel
theorem d_m_row_36 : decode b_m_row 36 = .ok (.iadd, 1) := by decide +kernel
theorem d_m_row_37 : decode b_m_row 37 = .ok (.putfield 66, 3) := by decide +kernel
theorem d_m_row_40 : decode b_m_row 40 = .ok (.lload 5, 2) := by decide +kernel
theorem d_m_row_42 : decode b_m_row 42 = .ok (.ldc2_w 69, 3) := by decide +kernel
theorem d_m_row_45 : decode b_m_row 45 = .ok (.ldiv, 1) := by decide +kernel
theorem d_m_row_46 : decode b_m_row 46 = .ok (.lstore 5, 2) := by decide +kernel
theorem d_m_row_48 : decode b_m_row 48 = .ok (.goto (-40), 3) := by decide +kernel
theorem d_m_row_51 : decode b_m_row 51 = .ok (.iconst 0, 1) := by decide +kernel
theorem d_m_row_52 : decode b_m_row 52 = .ok (.istore 5, 2) := by decide +kernel
theorem d_m_row_54 : decode b_m_row 54 = .ok (.iload 5, 2) := by decide +kernel
theorem d_m_row_56 : decode b_m_row 56 = .ok (.bipush 29, 2) := by decide +kernel
theorem d_m_row_58 : decode b_m_row 58 = .ok (.iadd, 1) := by decide +kernel
theorem d_m_row_59 : decode b_m_row 59 = .ok (.iload_n 3, 1) := by decide +kernel
theorem d_m_row_60 : decode b_m_row 60 = .ok (.if_icmp .gt 16, 3) := by decide +kernel
theorem d_m_row_63 : decode b_m_row 63 = .ok (.aload_n 0, 1) := by decide +kernel
theorem d_m_row_64 : decode b_m_row 64 = .ok (.ldc2_w 71, 3) := by decide +kernel
theorem d_m_row_67 : decode b_m_row 67 = .ok (.invokevirtual 73, 3) := by decide +kernel
theorem d_m_row_70 : decode b_m_row 70 = .ok (.iinc 5 29, 3) := by decide +kernel
theorem d_m_row_73 : decode b_m_row 73 = .ok (.goto (-19), 3) := by decide +kernel
theorem d_m_row_76 : decode b_m_row 76 = .ok (.iload_n 3, 1) := by decide +kernel
theorem d_m_row_77 : decode b_m_row 77 = .ok (.ifCond .le 13, 3) := by decide +kernel
theorem d_m_row_80 : decode b_m_row 80 = .ok (.aload_n 0, 1) := by decide +kernel
theorem d_m_row_81 : decode b_m_row 81 = .ok (.lconst 1, 1) := by decide +kernel
theorem d_m_row_82 : decode b_m_row 82 = .ok (.iload_n 3, 1) := by decide +kernel
theorem d_m_row_83 : decode b_m_row 83 = .ok (.bipush 29, 2) := by decide +kernel
theorem d_m_row_85 : decode b_m_row 85 = .ok (.irem, 1) := by decide +kernel
theorem d_m_row_86 : decode b_m_row 86 = .ok (.lshl, 1) := by decide +kernel
theorem d_m_row_87 : decode b_m_row 87 = .ok (.invokevirtual 73, 3) := by decide +kernel
theorem d_m_row_90 : decode b_m_row 90 = .ok (.iconst 0, 1) := by decide +kernel
theorem d_m_row_91 : decode b_m_row 91 = .ok (.istore 5, 2) := by decide +kernel
theorem d_m_row_93 : decode b_m_row 93 = .ok (.iload 5, 2) := by decide +kernel
theorem d_m_row_95 : decode b_m_row 95 = .ok (.bipush 12, 2) := by decide +kernel
theorem d_m_row_97 : decode b_m_row 97 = .ok (.iadd, 1) := by decide +kernel
theorem d_m_row_98 : decode b_m_row 98 = .ok (.iload_n 3, 1) := by decide +kernel
theorem d_m_row_99 : decode b_m_row 99 = .ok (.ineg, 1) := by decide +kernel
theorem d_m_row_100 : decode b_m_row 100 = .ok (.if_icmp .gt 16, 3) := by decide +kernel
theorem d_m_row_103 : decode b_m_row 103 = .ok (.aload_n 0, 1) := by decide +kernel
theorem d_m_row_104 : decode b_m_row 104 = .ok (.ldc2_w 77, 3) := by decide +kernel
theorem d_m_row_107 : decode b_m_row 107 = .ok (.invokevirtual 73, 3) := by decide +kernel
theorem d_m_row_110 : decode b_m_row 110 = .ok (.iinc 5 12, 3) := by decide +kernel
theorem d_m_row_113 : decode b_m_row 113 = .ok (.goto (-20), 3) := by decide +kernel
theorem d_m_row_116 : decode b_m_row 116 = .ok (.iconst 0, 1) := by decide +kernel
theorem d_m_row_117 : decode b_m_row 117 = .ok (.istore 5, 2) := by decide +kernel
theorem d_m_row_119 : decode b_m_row 119 = .ok (.iload 5, 2) := by decide +kernel
theorem d_m_row_121 : decode b_m_row 121 = .ok (.iload_n 3, 1) := by decide +kernel
theorem d_m_row_122 : decode b_m_row 122 = .ok (.ifCond .ge 11, 3) := by decide +kernel
theorem d_m_row_125 : decode b_m_row 125 = .ok (.iload_n 3, 1) := by decide +kernel
theorem d_m_row_126 : decode b_m_row 126 = .ok (.ineg, 1) := by decide +kernel
theorem d_m_row_127 : decode b_m_row 127 = .ok (.bipush 12, 2) := by decide +kernel
theorem d_m_row_129 : decode b_m_row 129 = .ok (.irem, 1) := by decide +kernel
theorem d_m_row_130 : decode b_m_row 130 = .ok (.goto 4, 3) := by decide +kernel
theorem d_m_row_133 : decode b_m_row 133 = .ok (.iconst 0, 1) := by decide +kernel
theorem d_m_row_134 : decode b_m_row 134 = .ok (.if_icmp .ge 16, 3) := by decide +kernel
theorem d_m_row_137 : decode b_m_row 137 = .ok (.aload_n 0, 1) := by decide +kernel
theorem d_m_row_138 : decode b_m_row 138 = .ok (.ldc2_w 79, 3) := by decide +kernel
theorem d_m_row_141 : decode b_m_row 141 = .ok (.invokevirtual 73, 3) := by decide +kernel
theorem d_m_row_144 : decode b_m_row 144 = .ok (.iinc 5 1, 3) := by decide +kernel
theorem d_m_row_147 : decode b_m_row 147 = .ok (.goto (-28), 3) := by decide +kernel
theorem d_m_row_150 : decode b_m_row 150 = .ok (.aload 4, 2) := by decide +kernel
theorem d_m_row_152 : decode b_m_row 152 = .ok (.iconst 0, 1) := by decide +kernel
theorem d_m_row_153 : decode b_m_row 153 = .ok (.putfield 81, 3) := by decide +kernel
theorem d_m_row_156 : decode b_m_row 156 = .ok (.aload_n 0, 1) := by decide +kernel
theorem d_m_row_157 : decode b_m_row 157 = .ok (.getfield 66, 3) := by decide +kernel
theorem d_m_row_160 : decode b_m_row 160 = .ok (.iconst 1, 1) := by decide +kernel
theorem d_m_row_161 : decode b_m_row 161 = .ok (.isub, 1) := by decide +kernel
theorem d_m_row_162 : decode b_m_row 162 = .ok (.istore 5, 2) := by decide +kernel
theorem d_m_row_164 : decode b_m_row 164 = .ok (.iload 5, 2) := by decide +kernel
theorem d_m_row_166 : decode b_m_row 166 = .ok (.ifCond .lt 90, 3) := by decide +kernel
theorem d_m_row_169 : decode b_m_row 169 = .ok (.ldc2_w 84, 3) := by decide +kernel
theorem d_m_row_172 : decode b_m_row 172 = .ok (.lstore 6, 2) := by decide +kernel
theorem d_m_row_174 : decode b_m_row 174 = .ok (.lload 6, 2) := by decide +kernel
theorem d_m_row_176 : decode b_m_row 176 = .ok (.lconst 0, 1) := by decide +kernel
theorem d_m_row_177 : decode b_m_row 177 = .ok (.lcmp, 1) := by decide +kernel
theorem d_m_row_178 : decode b_m_row 178 = .ok (.ifCond .le 72, 3) := by decide +kernel
theorem d_m_row_181 : decode b_m_row 181 = .ok (.aload_n 0, 1) := by decide +kernel
theorem d_m_row_182 : decode b_m_row 182 = .ok (.getfield 13, 3) := by decide +kernel
theorem d_m_row_185 : decode b_m_row 185 = .ok (.iload 5, 2) := by decide +kernel
theorem d_m_row_187 : decode b_m_row 187 = .ok (.laload, 1) := by decide +kernel
theorem d_m_row_188 : decode b_m_row 188 = .ok (.lload 6, 2) := by decide +kernel
theorem d_m_row_190 : decode b_m_row 190 = .ok (.ldiv, 1) := by decide +kernel
theorem d_m_row_191 : decode b_m_row 191 = .ok (.ldc2_w 86, 3) := by decide +kernel
theorem d_m_row_194 : decode b_m_row 194 = .ok (.lrem, 1) := by decide +kernel
theorem d_m_row_195 : decode b_m_row 195 = .ok (.l2i, 1) := by decide +kernel
theorem d_m_row_196 : decode b_m_row 196 = .ok (.i2b, 1) := by decide +kernel
theorem d_m_row_197 : decode b_m_row 197 = .ok (.istore 8, 2) := by decide +kernel
theorem d_m_row_199 : decode b_m_row 199 = .ok (.aload 4, 2) := by decide +kernel
theorem d_m_row_201 : decode b_m_row 201 = .ok (.getfield 81, 3) := by decide +kernel
theorem d_m_row_204 : decode b_m_row 204 = .ok (.ifCond .ne 11, 3) := by decide +kernel
theorem d_m_row_207 : decode b_m_row 207 = .ok (.iload 8, 2) := by decide +kernel
theorem d_m_row_209 : decode b_m_row 209 = .ok (.ifCond .ne 6, 3) := by decide +kernel
theorem d_m_row_212 : decode b_m_row 212 = .ok (.goto 27, 3) := by decide +kernel
theorem d_m_row_215 : decode b_m_row 215 = .ok (.aload 4, 2) := by decide +kernel
theorem d_m_row_217 : decode b_m_row 217 = .ok (.getfield 88, 3) := by decide +kernel
theorem d_m_row_220 : decode b_m_row 220 = .ok (.aload 4, 2) := by decide +kernel
theorem d_m_row_222 : decode b_m_row 222 = .ok (.getfield 81, 3) := by decide +kernel
theorem d_m_row_225 : decode b_m_row 225 = .ok (.iload 8, 2) := by decide +kernel
theorem d_m_row_227 : decode b_m_row 227 = .ok (.bastore, 1) := by decide +kernel
theorem d_m_row_228 : decode b_m_row 228 = .ok (.aload 4, 2) := by decide +kernel
theorem d_m_row_230 : decode b_m_row 230 = .ok (.dup, 1) := by decide +kernel
theorem d_m_row_231 : decode b_m_row 231 = .ok (.getfield 81, 3) := by decide +kernel
theorem d_m_row_234 : decode b_m_row 234 = .ok (.iconst 1, 1) := by decide +kernel
theorem d_m_row_235 : decode b_m_row 235 = .ok (.iadd, 1) := by decide +kernel
theorem d_m_row_236 : decode b_m_row 236 = .ok (.putfield 81, 3) := by decide +kernel
theorem d_m_row_239 : decode b_m_row 239 = .ok (.lload 6, 2) := by decide +kernel
theorem d_m_row_241 : decode b_m_row 241 = .ok (.ldc2_w 86, 3) := by decide +kernel
theorem d_m_row_244 : decode b_m_row 244 = .ok (.ldiv, 1) := by decide +kernel
theorem d_m_row_245 : decode b_m_row 245 = .ok (.lstore 6, 2) := by decide +kernel
theorem d_m_row_247 : decode b_m_row 247 = .ok (.goto (-73), 3) := by decide +kernel
theorem d_m_row_250 : decode b_m_row 250 = .ok (.iinc 5 (-1), 3) := by decide +kernel
theorem d_m_row_253 : decode b_m_row 253 = .ok (.goto (-89), 3) := by decide +kernel
theorem d_m_row_256 : decode b_m_row 256 = .ok (.aload 4, 2) := by decide +kernel
theorem d_m_row_258 : decode b_m_row 258 = .ok (.aload 4, 2) := by decide +kernel
theorem d_m_row_260 : decode b_m_row 260 = .ok (.getfield 81, 3) := by decide +kernel
theorem d_m_row_263 : decode b_m_row 263 = .ok (.iload_n 3, 1) := by decide +kernel
theorem d_m_row_264 : decode b_m_row 264 = .ok (.ifCond .ge 7, 3) := by decide +kernel
theorem d_m_row_267 : decode b_m_row 267 = .ok (.iload_n 3, 1) := by decide +kernel
theorem d_m_row_268 : decode b_m_row 268 = .ok (.goto 4, 3) := by decide +kernel
theorem d_m_row_271 : decode b_m_row 271 = .ok (.iconst 0, 1) := by decide +kernel
theorem d_m_row_272 : decode b_m_row 272 = .ok (.iadd, 1) := by decide +kernel
theorem d_m_row_273 : decode b_m_row 273 = .ok (.putfield 91, 3) := by decide +kernel
theorem d_m_row_276 : decode b_m_row 276 = .ok (.aload 4, 2) := by decide +kernel
theorem d_m_row_278 : decode b_m_row 278 = .ok (.getfield 81, 3) := by decide +kernel
theorem d_m_row_281 : decode b_m_row 281 = .ok (.ifCond .le 33, 3) := by decide +kernel
theorem d_m_row_284 : decode b_m_row 284 = .ok (.aload 4, 2) := by decide +kernel
theorem d_m_row_286 : decode b_m_row 286 = .ok (.getfield 88, 3) := by decide +kernel
theorem d_m_row_289 : decode b_m_row 289 = .ok (.aload 4, 2) := by decide +kernel
theorem d_m_row_291 : decode b_m_row 291 = .ok (.getfield 81, 3) := by decide +kernel
theorem d_m_row_294 : decode b_m_row 294 = .ok (.iconst 1, 1) := by decide +kernel
theorem d_m_row_295 : decode b_m_row 295 = .ok (.isub, 1) := by decide +kernel
theorem d_m_row_296 : decode b_m_row 296 = .ok (.baload, 1) := by decide +kernel
theorem d_m_row_297 : decode b_m_row 297 = .ok (.ifCond .ne 17, 3) := by decide +kernel
theorem d_m_row_300 : decode b_m_row 300 = .ok (.aload 4, 2) := by decide +kernel
theorem d_m_row_302 : decode b_m_row 302 = .ok (.dup, 1) := by decide +kernel
theorem d_m_row_303 : decode b_m_row 303 = .ok (.getfield 81, 3) := by decide +kernel
theorem d_m_row_306 : decode b_m_row 306 = .ok (.iconst 1, 1) := by decide +kernel
theorem d_m_row_307 : decode b_m_row 307 = .ok (.isub, 1) := by decide +kernel
theorem d_m_row_308 : decode b_m_row 308 = .ok (.putfield 81, 3) := by decide +kernel
theorem d_m_row_311 : decode b_m_row 311 = .ok (.goto (-35), 3) := by decide +kernel
theorem d_m_row_314 : decode b_m_row 314 = .ok (.return_, 1) := by decide +kernel
theorem d_m_compare_0 : decode b_m_compare 0 = .ok (.iload_n 1, 1) := by decide +kernel
theorem d_m_compare_1 : decode b_m_compare 1 = .ok (.ifCond .eq 11, 3) := by decide +kernel
theorem d_m_compare_4 : decode b_m_compare 4 = .ok (.aload 4, 2) := by decide +kernel
theorem d_m_compare_6 : decode b_m_compare 6 = .ok (.getfield 81, 3) := by decide +kernel
theorem d_m_compare_9 : decode b_m_compare 9 = .ok (.ifCond .ne 25, 3) := by decide +kernel
theorem d_m_compare_12 : decode b_m_compare 12 = .ok (.iload_n 1, 1) := by decide +kernel
theorem d_m_compare_13 : decode b_m_compare 13 = .ok (.ifCond .ne 19, 3) := by decide +kernel
theorem d_m_compare_16 : decode b_m_compare 16 = .ok (.aload 4, 2) := by decide +kernel
theorem d_m_compare_18 : decode b_m_compare 18 = .ok (.getfield 81, 3) := by decide +kernel
theorem d_m_compare_21 : decode b_m_compare 21 = .ok (.ifCond .ne 7, 3) := by decide +kernel
theorem d_m_compare_24 : decode b_m_compare 24 = .ok (.iconst 0, 1) := by decide +kernel
theorem d_m_compare_25 : decode b_m_compare 25 = .ok (.goto 8, 3) := by decide +kernel
theorem d_m_compare_28 : decode b_m_compare 28 = .ok (.iconst (-1), 1) := by decide +kernel
theorem d_m_compare_29 : decode b_m_compare 29 = .ok (.goto 4, 3) := by decide +kernel
theorem d_m_compare_32 : decode b_m_compare 32 = .ok (.iconst 1, 1) := by decide +kernel
theorem d_m_compare_33 : decode b_m_compare 33 = .ok (.ireturn, 1) := by decide +kernel
theorem d_m_compare_34 : decode b_m_compare 34 = .ok (.lload_n 2, 1) := by decide +kernel
theorem d_m_compare_35 : decode b_m_compare 35 = .ok (.aload 4, 2) := by decide +kernel
theorem d_m_compare_37 : decode b_m_compare 37 = .ok (.getfield 91, 3) := by decide +kernel
theorem d_m_compare_40 : decode b_m_compare 40 = .ok (.i2l, 1) := by decide +kernel
theorem d_m_compare_41 : decode b_m_compare 41 = .ok (.lcmp, 1) := by decide +kernel
theorem d_m_compare_42 : decode b_m_compare 42 = .ok (.ifCond .eq 20, 3) := by decide +kernel
theorem d_m_compare_45 : decode b_m_compare 45 = .ok (.lload_n 2, 1) := by decide +kernel
theorem d_m_compare_46 : decode b_m_compare 46 = .ok (.aload 4, 2) := by decide +kernel
theorem d_m_compare_48 : decode b_m_compare 48 = .ok (.getfield 91, 3) := by decide +kernel
theorem d_m_compare_51 : decode b_m_compare 51 = .ok (.i2l, 1) := by decide +kernel
theorem d_m_compare_52 : decode b_m_compare 52 = .ok (.lcmp, 1) := by decide +kernel
theorem d_m_compare_53 : decode b_m_compare 53 = .ok (.ifCond .ge 7, 3) := by decide +kernel
theorem d_m_compare_56 : decode b_m_compare 56 = .ok (.iconst (-1), 1) := by decide +kernel
theorem d_m_compare_57 : decode b_m_compare 57 = .ok (.goto 4, 3) := by decide +kernel
theorem d_m_compare_60 : decode b_m_compare 60 = .ok (.iconst 1, 1) := by decide +kernel
theorem d_m_compare_61 : decode b_m_compare 61 = .ok (.ireturn, 1) := by decide +kernel
theorem d_m_compare_62 : decode b_m_compare 62 = .ok (.iconst 0, 1) := by decide +kernel
theorem d_m_compare_63 : decode b_m_compare 63 = .ok (.istore 5, 2) := by decide +kernel
theorem d_m_compare_65 : decode b_m_compare 65 = .ok (.iload 5, 2) := by decide +kernel
theorem d_m_compare_67 : decode b_m_compare 67 = .ok (.iload_n 1, 1) := by decide +kernel
theorem d_m_compare_68 : decode b_m_compare 68 = .ok (.if_icmp .lt 13, 3) := by decide +kernel
theorem d_m_compare_71 : decode b_m_compare 71 = .ok (.iload 5, 2) := by decide +kernel
theorem d_m_compare_73 : decode b_m_compare 73 = .ok (.aload 4, 2) := by decide +kernel
theorem d_m_compare_75 : decode b_m_compare 75 = .ok (.getfield 81, 3) := by decide +kernel
theorem d_m_compare_78 : decode b_m_compare 78 = .ok (.if_icmp .ge 69, 3) := by decide +kernel
theorem d_m_compare_81 : decode b_m_compare 81 = .ok (.iload 5, 2) := by decide +kernel
theorem d_m_compare_83 : decode b_m_compare 83 = .ok (.iload_n 1, 1) := by decide +kernel
theorem d_m_compare_84 : decode b_m_compare 84 = .ok (.if_icmp .ge 10, 3) := by decide +kernel
theorem d_m_compare_87 : decode b_m_compare 87 = .ok (.aload_n 0, 1) := by decide +kernel
theorem d_m_compare_88 : decode b_m_compare 88 = .ok (.iload 5, 2) := by decide +kernel
theorem d_m_compare_90 : decode b_m_compare 90 = .ok (.baload, 1) := by decide +kernel
theorem d_m_compare_91 : decode b_m_compare 91 = .ok (.goto 4, 3) := by decide +kernel
theorem d_m_compare_94 : decode b_m_compare 94 = .ok (.iconst 0, 1) := by decide +kernel
theorem d_m_compare_95 : decode b_m_compare 95 = .ok (.istore 6, 2) := by decide +kernel
theorem d_m_compare_97 : decode b_m_compare 97 = .ok (.iload 5, 2) := by decide +kernel
theorem d_m_compare_99 : decode b_m_compare 99 = .ok (.aload 4, 2) := by decide +kernel
theorem d_m_compare_101 : decode b_m_compare 101 = .ok (.getfield 81, 3) := by decide +kernel
theorem d_m_compare_104 : decode b_m_compare 104 = .ok (.if_icmp .ge 14, 3) := by decide +kernel
theorem d_m_compare_107 : decode b_m_compare 107 = .ok (.aload 4, 2) := by decide +kernel
theorem d_m_compare_109 : decode b_m_compare 109 = .ok (.getfield 88, 3) := by decide +kernel
theorem d_m_compare_112 : decode b_m_compare 112 = .ok (.iload 5, 2) := by decide +kernel
theorem d_m_compare_114 : decode b_m_compare 114 = .ok (.baload, 1) := by decide +kernel
theorem d_m_compare_115 : decode b_m_compare 115 = .ok (.goto 4, 3) := by decide +kernel
theorem d_m_compare_118 : decode b_m_compare 118 = .ok (.iconst 0, 1) := by decide +kernel
theorem d_m_compare_119 : decode b_m_compare 119 = .ok (.istore 7, 2) := by decide +kernel
theorem d_m_compare_121 : decode b_m_compare 121 = .ok (.iload 6, 2) := by decide +kernel
theorem d_m_compare_123 : decode b_m_compare 123 = .ok (.iload 7, 2) := by decide +kernel
theorem d_m_compare_125 : decode b_m_compare 125 = .ok (.if_icmp .eq 16, 3) := by decide +kernel
theorem d_m_compare_128 : decode b_m_compare 128 = .ok (.iload 6, 2) := by decide +kernel
theorem d_m_compare_130 : decode b_m_compare 130 = .ok (.iload 7, 2) := by decide +kernel
theorem d_m_compare_132 : decode b_m_compare 132 = .ok (.if_icmp .ge 7, 3) := by decide +kernel
theorem d_m_compare_135 : decode b_m_compare 135 = .ok (.iconst (-1), 1) := by decide +kernel
theorem d_m_compare_136 : decode b_m_compare 136 = .ok (.goto 4, 3) := by decide +kernel
theorem d_m_compare_139 : decode b_m_compare 139 = .ok (.iconst 1, 1) := by decide +kernel
theorem d_m_compare_140 : decode b_m_compare 140 = .ok (.ireturn, 1) := by decide +kernel
theorem d_m_compare_141 : decode b_m_compare 141 = .ok (.iinc 5 1, 3) := by decide +kernel
theorem d_m_compare_144 : decode b_m_compare 144 = .ok (.goto (-79), 3) := by decide +kernel
theorem d_m_compare_147 : decode b_m_compare 147 = .ok (.iconst 0, 1) := by decide +kernel
theorem d_m_compare_148 : decode b_m_compare 148 = .ok (.ireturn, 1) := by decide +kernel
theorem d_m_is_0 : decode b_m_is 0 = .ok (.aload_n 0, 1) := by decide +kernel
theorem d_m_is_1 : decode b_m_is 1 = .ok (.getfield 94, 3) := by decide +kernel
theorem d_m_is_4 : decode b_m_is 4 = .ok (.aload_n 0, 1) := by decide +kernel
theorem d_m_is_5 : decode b_m_is 5 = .ok (.getfield 97, 3) := by decide +kernel
theorem d_m_is_8 : decode b_m_is 8 = .ok (.if_icmp .ge 20, 3) := by decide +kernel
theorem d_m_is_11 : decode b_m_is 11 = .ok (.aload_n 0, 1) := by decide +kernel
theorem d_m_is_12 : decode b_m_is 12 = .ok (.getfield 9, 3) := by decide +kernel
theorem d_m_is_15 : decode b_m_is 15 = .ok (.aload_n 0, 1) := by decide +kernel
theorem d_m_is_16 : decode b_m_is 16 = .ok (.getfield 94, 3) := by decide +kernel
theorem d_m_is_19 : decode b_m_is 19 = .ok (.baload, 1) := by decide +kernel
theorem d_m_is_20 : decode b_m_is 20 = .ok (.iload_n 1, 1) := by decide +kernel
theorem d_m_is_21 : decode b_m_is 21 = .ok (.if_icmp .ne 7, 3) := by decide +kernel
theorem d_m_is_24 : decode b_m_is 24 = .ok (.iconst 1, 1) := by decide +kernel
theorem d_m_is_25 : decode b_m_is 25 = .ok (.goto 4, 3) := by decide +kernel
theorem d_m_is_28 : decode b_m_is 28 = .ok (.iconst 0, 1) := by decide +kernel
theorem d_m_is_29 : decode b_m_is 29 = .ok (.ireturn, 1) := by decide +kernel
theorem d_m_isDigit_0 : decode b_m_isDigit 0 = .ok (.aload_n 0, 1) := by decide +kernel
theorem d_m_isDigit_1 : decode b_m_isDigit 1 = .ok (.getfield 94, 3) := by decide +kernel
theorem d_m_isDigit_4 : decode b_m_isDigit 4 = .ok (.aload_n 0, 1) := by decide +kernel
theorem d_m_isDigit_5 : decode b_m_isDigit 5 = .ok (.getfield 97, 3) := by decide +kernel
theorem d_m_isDigit_8 : decode b_m_isDigit 8 = .ok (.if_icmp .ge 35, 3) := by decide +kernel
theorem d_m_isDigit_11 : decode b_m_isDigit 11 = .ok (.aload_n 0, 1) := by decide +kernel
theorem d_m_isDigit_12 : decode b_m_isDigit 12 = .ok (.getfield 9, 3) := by decide +kernel
theorem d_m_isDigit_15 : decode b_m_isDigit 15 = .ok (.aload_n 0, 1) := by decide +kernel
theorem d_m_isDigit_16 : decode b_m_isDigit 16 = .ok (.getfield 94, 3) := by decide +kernel
theorem d_m_isDigit_19 : decode b_m_isDigit 19 = .ok (.baload, 1) := by decide +kernel
theorem d_m_isDigit_20 : decode b_m_isDigit 20 = .ok (.bipush 48, 2) := by decide +kernel
theorem d_m_isDigit_22 : decode b_m_isDigit 22 = .ok (.if_icmp .lt 21, 3) := by decide +kernel
theorem d_m_isDigit_25 : decode b_m_isDigit 25 = .ok (.aload_n 0, 1) := by decide +kernel
theorem d_m_isDigit_26 : decode b_m_isDigit 26 = .ok (.getfield 9, 3) := by decide +kernel
theorem d_m_isDigit_29 : decode b_m_isDigit 29 = .ok (.aload_n 0, 1) := by decide +kernel
theorem d_m_isDigit_30 : decode b_m_isDigit 30 = .ok (.getfield 94, 3) := by decide +kernel
theorem d_m_isDigit_33 : decode b_m_isDigit 33 = .ok (.baload, 1) := by decide +kernel
theorem d_m_isDigit_34 : decode b_m_isDigit 34 = .ok (.bipush 57, 2) := by decide +kernel
theorem d_m_isDigit_36 : decode b_m_isDigit 36 = .ok (.if_icmp .gt 7, 3) := by decide +kernel
theorem d_m_isDigit_39 : decode b_m_isDigit 39 = .ok (.iconst 1, 1) := by decide +kernel
theorem d_m_isDigit_40 : decode b_m_isDigit 40 = .ok (.goto 4, 3) := by decide +kernel
theorem d_m_isDigit_43 : decode b_m_isDigit 43 = .ok (.iconst 0, 1) := by decide +kernel
theorem d_m_isDigit_44 : decode b_m_isDigit 44 = .ok (.ireturn, 1) := by decide +kernel
theorem d_m_hexDigit_0 : decode b_m_hexDigit 0 = .ok (.aload_n 0, 1) := by decide +kernel
theorem d_m_hexDigit_1 : decode b_m_hexDigit 1 = .ok (.getfield 94, 3) := by decide +kernel
theorem d_m_hexDigit_4 : decode b_m_hexDigit 4 = .ok (.aload_n 0, 1) := by decide +kernel
theorem d_m_hexDigit_5 : decode b_m_hexDigit 5 = .ok (.getfield 97, 3) := by decide +kernel
theorem d_m_hexDigit_8 : decode b_m_hexDigit 8 = .ok (.if_icmp .lt 5, 3) := by decide +kernel
theorem d_m_hexDigit_11 : decode b_m_hexDigit 11 = .ok (.iconst (-1), 1) := by decide +kernel
theorem d_m_hexDigit_12 : decode b_m_hexDigit 12 = .ok (.ireturn, 1) := by decide +kernel
theorem d_m_hexDigit_13 : decode b_m_hexDigit 13 = .ok (.aload_n 0, 1) := by decide +kernel
theorem d_m_hexDigit_14 : decode b_m_hexDigit 14 = .ok (.getfield 9, 3) := by decide +kernel
theorem d_m_hexDigit_17 : decode b_m_hexDigit 17 = .ok (.aload_n 0, 1) := by decide +kernel
theorem d_m_hexDigit_18 : decode b_m_hexDigit 18 = .ok (.getfield 94, 3) := by decide +kernel
theorem d_m_hexDigit_21 : decode b_m_hexDigit 21 = .ok (.baload, 1) := by decide +kernel
theorem d_m_hexDigit_22 : decode b_m_hexDigit 22 = .ok (.istore_n 1, 1) := by decide +kernel
theorem d_m_hexDigit_23 : decode b_m_hexDigit 23 = .ok (.iload_n 1, 1) := by decide +kernel
theorem d_m_hexDigit_24 : decode b_m_hexDigit 24 = .ok (.bipush 48, 2) := by decide +kernel
theorem d_m_hexDigit_26 : decode b_m_hexDigit 26 = .ok (.if_icmp .lt 16, 3) := by decide +kernel
theorem d_m_hexDigit_29 : decode b_m_hexDigit 29 = .ok (.iload_n 1, 1) := by decide +kernel
theorem d_m_hexDigit_30 : decode b_m_hexDigit 30 = .ok (.bipush 57, 2) := by decide +kernel
theorem d_m_hexDigit_32 : decode b_m_hexDigit 32 = .ok (.if_icmp .gt 10, 3) := by decide +kernel
theorem d_m_hexDigit_35 : decode b_m_hexDigit 35 = .ok (.iload_n 1, 1) := by decide +kernel
theorem d_m_hexDigit_36 : decode b_m_hexDigit 36 = .ok (.bipush 48, 2) := by decide +kernel
theorem d_m_hexDigit_38 : decode b_m_hexDigit 38 = .ok (.isub, 1) := by decide +kernel
theorem d_m_hexDigit_39 : decode b_m_hexDigit 39 = .ok (.goto 48, 3) := by decide +kernel
theorem d_m_hexDigit_42 : decode b_m_hexDigit 42 = .ok (.iload_n 1, 1) := by decide +kernel
theorem d_m_hexDigit_43 : decode b_m_hexDigit 43 = .ok (.bipush 97, 2) := by decide +kernel
theorem d_m_hexDigit_45 : decode b_m_hexDigit 45 = .ok (.if_icmp .lt 19, 3) := by decide +kernel
theorem d_m_hexDigit_48 : decode b_m_hexDigit 48 = .ok (.iload_n 1, 1) := by decide +kernel
theorem d_m_hexDigit_49 : decode b_m_hexDigit 49 = .ok (.bipush 102, 2) := by decide +kernel
theorem d_m_hexDigit_51 : decode b_m_hexDigit 51 = .ok (.if_icmp .gt 13, 3) := by decide +kernel
theorem d_m_hexDigit_54 : decode b_m_hexDigit 54 = .ok (.iload_n 1, 1) := by decide +kernel
theorem d_m_hexDigit_55 : decode b_m_hexDigit 55 = .ok (.bipush 97, 2) := by decide +kernel
theorem d_m_hexDigit_57 : decode b_m_hexDigit 57 = .ok (.isub, 1) := by decide +kernel
theorem d_m_hexDigit_58 : decode b_m_hexDigit 58 = .ok (.bipush 10, 2) := by decide +kernel
theorem d_m_hexDigit_60 : decode b_m_hexDigit 60 = .ok (.iadd, 1) := by decide +kernel
theorem d_m_hexDigit_61 : decode b_m_hexDigit 61 = .ok (.goto 26, 3) := by decide +kernel
theorem d_m_hexDigit_64 : decode b_m_hexDigit 64 = .ok (.iload_n 1, 1) := by decide +kernel
theorem d_m_hexDigit_65 : decode b_m_hexDigit 65 = .ok (.bipush 65, 2) := by decide +kernel
theorem d_m_hexDigit_67 : decode b_m_hexDigit 67 = .ok (.if_icmp .lt 19, 3) := by decide +kernel
theorem d_m_hexDigit_70 : decode b_m_hexDigit 70 = .ok (.iload_n 1, 1) := by decide +kernel
theorem d_m_hexDigit_71 : decode b_m_hexDigit 71 = .ok (.bipush 70, 2) := by decide +kernel
theorem d_m_hexDigit_73 : decode b_m_hexDigit 73 = .ok (.if_icmp .gt 13, 3) := by decide +kernel
theorem d_m_hexDigit_76 : decode b_m_hexDigit 76 = .ok (.iload_n 1, 1) := by decide +kernel
theorem d_m_hexDigit_77 : decode b_m_hexDigit 77 = .ok (.bipush 65, 2) := by decide +kernel
theorem d_m_hexDigit_79 : decode b_m_hexDigit 79 = .ok (.isub, 1) := by decide +kernel
theorem d_m_hexDigit_80 : decode b_m_hexDigit 80 = .ok (.bipush 10, 2) := by decide +kernel
theorem d_m_hexDigit_82 : decode b_m_hexDigit 82 = .ok (.iadd, 1) := by decide +kernel
theorem d_m_hexDigit_83 : decode b_m_hexDigit 83 = .ok (.goto 4, 3) := by decide +kernel
theorem d_m_hexDigit_86 : decode b_m_hexDigit 86 = .ok (.iconst (-1), 1) := by decide +kernel
theorem d_m_hexDigit_87 : decode b_m_hexDigit 87 = .ok (.ireturn, 1) := by decide +kernel
theorem d_m_word_0 : decode b_m_word 0 = .ok (.aload_n 0, 1) := by decide +kernel
theorem d_m_word_1 : decode b_m_word 1 = .ok (.getfield 97, 3) := by decide +kernel
theorem d_m_word_4 : decode b_m_word 4 = .ok (.aload_n 0, 1) := by decide +kernel
theorem d_m_word_5 : decode b_m_word 5 = .ok (.getfield 94, 3) := by decide +kernel
theorem d_m_word_8 : decode b_m_word 8 = .ok (.isub, 1) := by decide +kernel
theorem d_m_word_9 : decode b_m_word 9 = .ok (.aload_n 1, 1) := by decide +kernel
theorem d_m_word_10 : decode b_m_word 10 = .ok (.invokevirtual 100, 3) := by decide +kernel
theorem d_m_word_13 : decode b_m_word 13 = .ok (.if_icmp .eq 5, 3) := by decide +kernel
theorem d_m_word_16 : decode b_m_word 16 = .ok (.iconst 0, 1) := by decide +kernel
theorem d_m_word_17 : decode b_m_word 17 = .ok (.ireturn, 1) := by decide +kernel
theorem d_m_word_18 : decode b_m_word 18 = .ok (.iconst 0, 1) := by decide +kernel
theorem d_m_word_19 : decode b_m_word 19 = .ok (.istore_n 2, 1) := by decide +kernel
theorem d_m_word_20 : decode b_m_word 20 = .ok (.iload_n 2, 1) := by decide +kernel
theorem d_m_word_21 : decode b_m_word 21 = .ok (.aload_n 1, 1) := by decide +kernel
theorem d_m_word_22 : decode b_m_word 22 = .ok (.invokevirtual 100, 3) := by decide +kernel
theorem d_m_word_25 : decode b_m_word 25 = .ok (.if_icmp .ge 31, 3) := by decide +kernel
theorem d_m_word_28 : decode b_m_word 28 = .ok (.aload_n 0, 1) := by decide +kernel
theorem d_m_word_29 : decode b_m_word 29 = .ok (.getfield 9, 3) := by decide +kernel
theorem d_m_word_32 : decode b_m_word 32 = .ok (.aload_n 0, 1) := by decide +kernel
theorem d_m_word_33 : decode b_m_word 33 = .ok (.getfield 94, 3) := by decide +kernel
theorem d_m_word_36 : decode b_m_word 36 = .ok (.iload_n 2, 1) := by decide +kernel
theorem d_m_word_37 : decode b_m_word 37 = .ok (.iadd, 1) := by decide +kernel
theorem d_m_word_38 : decode b_m_word 38 = .ok (.baload, 1) := by decide +kernel
theorem d_m_word_39 : decode b_m_word 39 = .ok (.aload_n 1, 1) := by decide +kernel
theorem d_m_word_40 : decode b_m_word 40 = .ok (.iload_n 2, 1) := by decide +kernel
theorem d_m_word_41 : decode b_m_word 41 = .ok (.invokevirtual 106, 3) := by decide +kernel
theorem d_m_word_44 : decode b_m_word 44 = .ok (.i2b, 1) := by decide +kernel
theorem d_m_word_45 : decode b_m_word 45 = .ok (.if_icmp .eq 5, 3) := by decide +kernel
theorem d_m_word_48 : decode b_m_word 48 = .ok (.iconst 0, 1) := by decide +kernel
theorem d_m_word_49 : decode b_m_word 49 = .ok (.ireturn, 1) := by decide +kernel
theorem d_m_word_50 : decode b_m_word 50 = .ok (.iinc 2 1, 3) := by decide +kernel
theorem d_m_word_53 : decode b_m_word 53 = .ok (.goto (-33), 3) := by decide +kernel
theorem d_m_word_56 : decode b_m_word 56 = .ok (.iconst 1, 1) := by decide +kernel
theorem d_m_word_57 : decode b_m_word 57 = .ok (.ireturn, 1) := by decide +kernel
theorem d_m_value_0 : decode b_m_value 0 = .ok (.aload_n 0, 1) := by decide +kernel
theorem d_m_value_1 : decode b_m_value 1 = .ok (.iconst 0, 1) := by decide +kernel
theorem d_m_value_2 : decode b_m_value 2 = .ok (.putfield 94, 3) := by decide +kernel
theorem d_m_value_5 : decode b_m_value 5 = .ok (.aload_n 0, 1) := by decide +kernel
theorem d_m_value_6 : decode b_m_value 6 = .ok (.aload_n 0, 1) := by decide +kernel
theorem d_m_value_7 : decode b_m_value 7 = .ok (.getfield 34, 3) := by decide +kernel
theorem d_m_value_10 : decode b_m_value 10 = .ok (.putfield 97, 3) := by decide +kernel
theorem d_m_value_13 : decode b_m_value 13 = .ok (.aload_n 0, 1) := by decide +kernel
theorem d_m_value_14 : decode b_m_value 14 = .ok (.iconst 0, 1) := by decide +kernel
theorem d_m_value_15 : decode b_m_value 15 = .ok (.putfield 34, 3) := by decide +kernel
theorem d_m_value_18 : decode b_m_value 18 = .ok (.aload_n 0, 1) := by decide +kernel
theorem d_m_value_19 : decode b_m_value 19 = .ok (.getfield 94, 3) := by decide +kernel
theorem d_m_value_22 : decode b_m_value 22 = .ok (.aload_n 0, 1) := by decide +kernel
theorem d_m_value_23 : decode b_m_value 23 = .ok (.getfield 97, 3) := by decide +kernel
theorem d_m_value_26 : decode b_m_value 26 = .ok (.if_icmp .ge 42, 3) := by decide +kernel
theorem d_m_value_29 : decode b_m_value 29 = .ok (.aload_n 0, 1) := by decide +kernel
theorem d_m_value_30 : decode b_m_value 30 = .ok (.getfield 9, 3) := by decide +kernel
theorem d_m_value_33 : decode b_m_value 33 = .ok (.aload_n 0, 1) := by decide +kernel
theorem d_m_value_34 : decode b_m_value 34 = .ok (.getfield 94, 3) := by decide +kernel
theorem d_m_value_37 : decode b_m_value 37 = .ok (.baload, 1) := by decide +kernel
theorem d_m_value_38 : decode b_m_value 38 = .ok (.ifCond .lt 30, 3) := by decide +kernel
theorem d_m_value_41 : decode b_m_value 41 = .ok (.aload_n 0, 1) := by decide +kernel
theorem d_m_value_42 : decode b_m_value 42 = .ok (.getfield 9, 3) := by decide +kernel
theorem d_m_value_45 : decode b_m_value 45 = .ok (.aload_n 0, 1) := by decide +kernel
theorem d_m_value_46 : decode b_m_value 46 = .ok (.getfield 94, 3) := by decide +kernel
theorem d_m_value_49 : decode b_m_value 49 = .ok (.baload, 1) := by decide +kernel
theorem d_m_value_50 : decode b_m_value 50 = .ok (.bipush 32, 2) := by decide +kernel
theorem d_m_value_52 : decode b_m_value 52 = .ok (.if_icmp .gt 16, 3) := by decide +kernel
theorem d_m_value_55 : decode b_m_value 55 = .ok (.aload_n 0, 1) := by decide +kernel
theorem d_m_value_56 : decode b_m_value 56 = .ok (.dup, 1) := by decide +kernel
theorem d_m_value_57 : decode b_m_value 57 = .ok (.getfield 94, 3) := by decide +kernel
theorem d_m_value_60 : decode b_m_value 60 = .ok (.iconst 1, 1) := by decide +kernel
theorem d_m_value_61 : decode b_m_value 61 = .ok (.iadd, 1) := by decide +kernel
theorem d_m_value_62 : decode b_m_value 62 = .ok (.putfield 94, 3) := by decide +kernel
theorem d_m_value_65 : decode b_m_value 65 = .ok (.goto (-47), 3) := by decide +kernel
theorem d_m_value_68 : decode b_m_value 68 = .ok (.aload_n 0, 1) := by decide +kernel
theorem d_m_value_69 : decode b_m_value 69 = .ok (.getfield 97, 3) := by decide +kernel
theorem d_m_value_72 : decode b_m_value 72 = .ok (.aload_n 0, 1) := by decide +kernel
theorem d_m_value_73 : decode b_m_value 73 = .ok (.getfield 94, 3) := by decide +kernel
theorem d_m_value_76 : decode b_m_value 76 = .ok (.if_icmp .le 46, 3) := by decide +kernel
theorem d_m_value_79 : decode b_m_value 79 = .ok (.aload_n 0, 1) := by decide +kernel
theorem d_m_value_80 : decode b_m_value 80 = .ok (.getfield 9, 3) := by decide +kernel
theorem d_m_value_83 : decode b_m_value 83 = .ok (.aload_n 0, 1) := by decide +kernel
theorem d_m_value_84 : decode b_m_value 84 = .ok (.getfield 97, 3) := by decide +kernel
theorem d_m_value_87 : decode b_m_value 87 = .ok (.iconst 1, 1) := by decide +kernel
theorem d_m_value_88 : decode b_m_value 88 = .ok (.isub, 1) := by decide +kernel
theorem d_m_value_89 : decode b_m_value 89 = .ok (.baload, 1) := by decide +kernel
theorem d_m_value_90 : decode b_m_value 90 = .ok (.ifCond .lt 32, 3) := by decide +kernel
theorem d_m_value_93 : decode b_m_value 93 = .ok (.aload_n 0, 1) := by decide +kernel
theorem d_m_value_94 : decode b_m_value 94 = .ok (.getfield 9, 3) := by decide +kernel
theorem d_m_value_97 : decode b_m_value 97 = .ok (.aload_n 0, 1) := by decide +kernel
theorem d_m_value_98 : decode b_m_value 98 = .ok (.getfield 97, 3) := by decide +kernel
theorem d_m_value_101 : decode b_m_value 101 = .ok (.iconst 1, 1) := by decide +kernel
theorem d_m_value_102 : decode b_m_value 102 = .ok (.isub, 1) := by decide +kernel
theorem d_m_value_103 : decode b_m_value 103 = .ok (.baload, 1) := by decide +kernel
theorem d_m_value_104 : decode b_m_value 104 = .ok (.bipush 32, 2) := by decide +kernel
theorem d_m_value_106 : decode b_m_value 106 = .ok (.if_icmp .gt 16, 3) := by decide +kernel
theorem d_m_value_109 : decode b_m_value 109 = .ok (.aload_n 0, 1) := by decide +kernel
theorem d_m_value_110 : decode b_m_value 110 = .ok (.dup, 1) := by decide +kernel
theorem d_m_value_111 : decode b_m_value 111 = .ok (.getfield 97, 3) := by decide +kernel
theorem d_m_value_114 : decode b_m_value 114 = .ok (.iconst 1, 1) := by decide +kernel
theorem d_m_value_115 : decode b_m_value 115 = .ok (.isub, 1) := by decide +kernel
theorem d_m_value_116 : decode b_m_value 116 = .ok (.putfield 97, 3) := by decide +kernel
theorem d_m_value_119 : decode b_m_value 119 = .ok (.goto (-51), 3) := by decide +kernel
theorem d_m_value_122 : decode b_m_value 122 = .ok (.aload_n 0, 1) := by decide +kernel
theorem d_m_value_123 : decode b_m_value 123 = .ok (.bipush 45, 2) := by decide +kernel
theorem d_m_value_125 : decode b_m_value 125 = .ok (.invokevirtual 110, 3) := by decide +kernel
theorem d_m_value_128 : decode b_m_value 128 = .ok (.istore_n 1, 1) := by decide +kernel
theorem d_m_value_129 : decode b_m_value 129 = .ok (.iload_n 1, 1) := by decide +kernel
theorem d_m_value_130 : decode b_m_value 130 = .ok (.ifCond .ne 12, 3) := by decide +kernel
theorem d_m_value_133 : decode b_m_value 133 = .ok (.aload_n 0, 1) := by decide +kernel
theorem d_m_value_134 : decode b_m_value 134 = .ok (.bipush 43, 2) := by decide +kernel
theorem d_m_value_136 : decode b_m_value 136 = .ok (.invokevirtual 110, 3) := by decide +kernel
theorem d_m_value_139 : decode b_m_value 139 = .ok (.ifCond .eq 13, 3) := by decide +kernel
theorem d_m_value_142 : decode b_m_value 142 = .ok (.aload_n 0, 1) := by decide +kernel
theorem d_m_value_143 : decode b_m_value 143 = .ok (.dup, 1) := by decide +kernel
theorem d_m_value_144 : decode b_m_value 144 = .ok (.getfield 94, 3) := by decide +kernel
theorem d_m_value_147 : decode b_m_value 147 = .ok (.iconst 1, 1) := by decide +kernel
theorem d_m_value_148 : decode b_m_value 148 = .ok (.iadd, 1) := by decide +kernel
theorem d_m_value_149 : decode b_m_value 149 = .ok (.putfield 94, 3) := by decide +kernel
theorem d_m_value_152 : decode b_m_value 152 = .ok (.iload_n 1, 1) := by decide +kernel
theorem d_m_value_153 : decode b_m_value 153 = .ok (.ifCond .eq 10, 3) := by decide +kernel
theorem d_m_value_156 : decode b_m_value 156 = .ok (.aload_n 0, 1) := by decide +kernel
theorem d_m_value_157 : decode b_m_value 157 = .ok (.invokevirtual 114, 3) := by decide +kernel
theorem d_m_value_160 : decode b_m_value 160 = .ok (.goto 4, 3) := by decide +kernel
theorem d_m_value_163 : decode b_m_value 163 = .ok (.lconst 0, 1) := by decide +kernel
theorem d_m_value_164 : decode b_m_value 164 = .ok (.lstore_n 2, 1) := by decide +kernel
theorem d_m_value_165 : decode b_m_value 165 = .ok (.aload_n 0, 1) := by decide +kernel
theorem d_m_value_166 : decode b_m_value 166 = .ok (.iconst 0, 1) := by decide +kernel
theorem d_m_value_167 : decode b_m_value 167 = .ok (.putfield 30, 3) := by decide +kernel
theorem d_m_value_170 : decode b_m_value 170 = .ok (.aload_n 0, 1) := by decide +kernel
theorem d_m_value_171 : decode b_m_value 171 = .ok (.ldc 117, 2) := by decide +kernel
theorem d_m_value_173 : decode b_m_value 173 = .ok (.invokevirtual 119, 3) := by decide +kernel
theorem d_m_value_176 : decode b_m_value 176 = .ok (.ifCond .eq 8, 3) := by decide +kernel
theorem d_m_value_179 : decode b_m_value 179 = .ok (.aload_n 0, 1) := by decide +kernel
theorem d_m_value_180 : decode b_m_value 180 = .ok (.invokevirtual 123, 3) := by decide +kernel
theorem d_m_value_183 : decode b_m_value 183 = .ok (.lreturn, 1) := by decide +kernel
theorem d_m_value_184 : decode b_m_value 184 = .ok (.aload_n 0, 1) := by decide +kernel
theorem d_m_value_185 : decode b_m_value 185 = .ok (.ldc 126, 2) := by decide +kernel
theorem d_m_value_187 : decode b_m_value 187 = .ok (.invokevirtual 119, 3) := by decide +kernel
theorem d_m_value_190 : decode b_m_value 190 = .ok (.ifCond .eq 10, 3) := by decide +kernel
theorem d_m_value_193 : decode b_m_value 193 = .ok (.lload_n 2, 1) := by decide +kernel
theorem d_m_value_194 : decode b_m_value 194 = .ok (.aload_n 0, 1) := by decide +kernel
theorem d_m_value_195 : decode b_m_value 195 = .ok (.invokevirtual 59, 3) := by decide +kernel
theorem d_m_value_198 : decode b_m_value 198 = .ok (.lor, 1) := by decide +kernel
theorem d_m_value_199 : decode b_m_value 199 = .ok (.lreturn, 1) := by decide +kernel
theorem d_m_value_200 : decode b_m_value 200 = .ok (.aload_n 0, 1) := by decide +kernel
theorem d_m_value_201 : decode b_m_value 201 = .ok (.getfield 94, 3) := by decide +kernel
theorem d_m_value_204 : decode b_m_value 204 = .ok (.iconst 1, 1) := by decide +kernel
theorem d_m_value_205 : decode b_m_value 205 = .ok (.iadd, 1) := by decide +kernel
theorem d_m_value_206 : decode b_m_value 206 = .ok (.aload_n 0, 1) := by decide +kernel
theorem d_m_value_207 : decode b_m_value 207 = .ok (.getfield 97, 3) := by decide +kernel
theorem d_m_value_210 : decode b_m_value 210 = .ok (.if_icmp .ge 53, 3) := by decide +kernel
theorem d_m_value_213 : decode b_m_value 213 = .ok (.aload_n 0, 1) := by decide +kernel
theorem d_m_value_214 : decode b_m_value 214 = .ok (.getfield 9, 3) := by decide +kernel
theorem d_m_value_217 : decode b_m_value 217 = .ok (.aload_n 0, 1) := by decide +kernel
theorem d_m_value_218 : decode b_m_value 218 = .ok (.getfield 94, 3) := by decide +kernel
theorem d_m_value_221 : decode b_m_value 221 = .ok (.baload, 1) := by decide +kernel
theorem d_m_value_222 : decode b_m_value 222 = .ok (.bipush 48, 2) := by decide +kernel
theorem d_m_value_224 : decode b_m_value 224 = .ok (.if_icmp .ne 39, 3) := by decide +kernel
theorem d_m_value_227 : decode b_m_value 227 = .ok (.aload_n 0, 1) := by decide +kernel
theorem d_m_value_228 : decode b_m_value 228 = .ok (.getfield 9, 3) := by decide +kernel
theorem d_m_value_231 : decode b_m_value 231 = .ok (.aload_n 0, 1) := by decide +kernel
theorem d_m_value_232 : decode b_m_value 232 = .ok (.getfield 94, 3) := by decide +kernel
theorem d_m_value_235 : decode b_m_value 235 = .ok (.iconst 1, 1) := by decide +kernel
theorem d_m_value_236 : decode b_m_value 236 = .ok (.iadd, 1) := by decide +kernel
theorem d_m_value_237 : decode b_m_value 237 = .ok (.baload, 1) := by decide +kernel
theorem d_m_value_238 : decode b_m_value 238 = .ok (.bipush 120, 2) := by decide +kernel
theorem d_m_value_240 : decode b_m_value 240 = .ok (.if_icmp .eq 19, 3) := by decide +kernel
theorem d_m_value_243 : decode b_m_value 243 = .ok (.aload_n 0, 1) := by decide +kernel
theorem d_m_value_244 : decode b_m_value 244 = .ok (.getfield 9, 3) := by decide +kernel
theorem d_m_value_247 : decode b_m_value 247 = .ok (.aload_n 0, 1) := by decide +kernel
theorem d_m_value_248 : decode b_m_value 248 = .ok (.getfield 94, 3) := by decide +kernel
theorem d_m_value_251 : decode b_m_value 251 = .ok (.iconst 1, 1) := by decide +kernel
theorem d_m_value_252 : decode b_m_value 252 = .ok (.iadd, 1) := by decide +kernel
theorem d_m_value_253 : decode b_m_value 253 = .ok (.baload, 1) := by decide +kernel
theorem d_m_value_254 : decode b_m_value 254 = .ok (.bipush 88, 2) := by decide +kernel
theorem d_m_value_256 : decode b_m_value 256 = .ok (.if_icmp .ne 7, 3) := by decide +kernel
theorem d_m_value_259 : decode b_m_value 259 = .ok (.iconst 1, 1) := by decide +kernel
theorem d_m_value_260 : decode b_m_value 260 = .ok (.goto 4, 3) := by decide +kernel
theorem d_m_value_263 : decode b_m_value 263 = .ok (.iconst 0, 1) := by decide +kernel
theorem d_m_value_264 : decode b_m_value 264 = .ok (.istore 4, 2) := by decide +kernel
theorem d_m_value_266 : decode b_m_value 266 = .ok (.iload 4, 2) := by decide +kernel
theorem d_m_value_268 : decode b_m_value 268 = .ok (.ifCond .eq 10, 3) := by decide +kernel
theorem d_m_value_271 : decode b_m_value 271 = .ok (.aload_n 0, 1) := by decide +kernel
theorem d_m_value_272 : decode b_m_value 272 = .ok (.invokevirtual 128, 3) := by decide +kernel
theorem d_m_value_275 : decode b_m_value 275 = .ok (.goto 7, 3) := by decide +kernel
theorem d_m_value_278 : decode b_m_value 278 = .ok (.aload_n 0, 1) := by decide +kernel
theorem d_m_value_279 : decode b_m_value 279 = .ok (.invokevirtual 131, 3) := by decide +kernel
theorem d_m_value_282 : decode b_m_value 282 = .ok (.lstore 5, 2) := by decide +kernel
theorem d_m_value_284 : decode b_m_value 284 = .ok (.aload_n 0, 1) := by decide +kernel
theorem d_m_value_285 : decode b_m_value 285 = .ok (.getfield 94, 3) := by decide +kernel
theorem d_m_value_288 : decode b_m_value 288 = .ok (.aload_n 0, 1) := by decide +kernel
theorem d_m_value_289 : decode b_m_value 289 = .ok (.getfield 97, 3) := by decide +kernel
theorem d_m_value_292 : decode b_m_value 292 = .ok (.if_icmp .ge 69, 3) := by decide +kernel
theorem d_m_value_295 : decode b_m_value 295 = .ok (.aload_n 0, 1) := by decide +kernel
theorem d_m_value_296 : decode b_m_value 296 = .ok (.getfield 9, 3) := by decide +kernel
theorem d_m_value_299 : decode b_m_value 299 = .ok (.aload_n 0, 1) := by decide +kernel
theorem d_m_value_300 : decode b_m_value 300 = .ok (.getfield 94, 3) := by decide +kernel
theorem d_m_value_303 : decode b_m_value 303 = .ok (.baload, 1) := by decide +kernel
theorem d_m_value_304 : decode b_m_value 304 = .ok (.bipush 102, 2) := by decide +kernel
theorem d_m_value_306 : decode b_m_value 306 = .ok (.if_icmp .eq 45, 3) := by decide +kernel
theorem d_m_value_309 : decode b_m_value 309 = .ok (.aload_n 0, 1) := by decide +kernel
theorem d_m_value_310 : decode b_m_value 310 = .ok (.getfield 9, 3) := by decide +kernel
theorem d_m_value_313 : decode b_m_value 313 = .ok (.aload_n 0, 1) := by decide +kernel
theorem d_m_value_314 : decode b_m_value 314 = .ok (.getfield 94, 3) := by decide +kernel
theorem d_m_value_317 : decode b_m_value 317 = .ok (.baload, 1) := by decide +kernel
theorem d_m_value_318 : decode b_m_value 318 = .ok (.bipush 70, 2) := by decide +kernel
theorem d_m_value_320 : decode b_m_value 320 = .ok (.if_icmp .eq 31, 3) := by decide +kernel
theorem d_m_value_323 : decode b_m_value 323 = .ok (.aload_n 0, 1) := by decide +kernel
theorem d_m_value_324 : decode b_m_value 324 = .ok (.getfield 9, 3) := by decide +kernel
theorem d_m_value_327 : decode b_m_value 327 = .ok (.aload_n 0, 1) := by decide +kernel
theorem d_m_value_328 : decode b_m_value 328 = .ok (.getfield 94, 3) := by decide +kernel
theorem d_m_value_331 : decode b_m_value 331 = .ok (.baload, 1) := by decide +kernel
theorem d_m_value_332 : decode b_m_value 332 = .ok (.bipush 100, 2) := by decide +kernel
theorem d_m_value_334 : decode b_m_value 334 = .ok (.if_icmp .eq 17, 3) := by decide +kernel
theorem d_m_value_337 : decode b_m_value 337 = .ok (.aload_n 0, 1) := by decide +kernel
theorem d_m_value_338 : decode b_m_value 338 = .ok (.getfield 9, 3) := by decide +kernel
theorem d_m_value_341 : decode b_m_value 341 = .ok (.aload_n 0, 1) := by decide +kernel
theorem d_m_value_342 : decode b_m_value 342 = .ok (.getfield 94, 3) := by decide +kernel
theorem d_m_value_345 : decode b_m_value 345 = .ok (.baload, 1) := by decide +kernel
theorem d_m_value_346 : decode b_m_value 346 = .ok (.bipush 68, 2) := by decide +kernel
theorem d_m_value_348 : decode b_m_value 348 = .ok (.if_icmp .ne 13, 3) := by decide +kernel
theorem d_m_value_351 : decode b_m_value 351 = .ok (.aload_n 0, 1) := by decide +kernel
theorem d_m_value_352 : decode b_m_value 352 = .ok (.dup, 1) := by decide +kernel
theorem d_m_value_353 : decode b_m_value 353 = .ok (.getfield 94, 3) := by decide +kernel
theorem d_m_value_356 : decode b_m_value 356 = .ok (.iconst 1, 1) := by decide +kernel
theorem d_m_value_357 : decode b_m_value 357 = .ok (.iadd, 1) := by decide +kernel
theorem d_m_value_358 : decode b_m_value 358 = .ok (.putfield 94, 3) := by decide +kernel
theorem d_m_value_361 : decode b_m_value 361 = .ok (.lload 5, 2) := by decide +kernel
theorem d_m_value_363 : decode b_m_value 363 = .ok (.lconst 0, 1) := by decide +kernel
theorem d_m_value_364 : decode b_m_value 364 = .ok (.lcmp, 1) := by decide +kernel
theorem d_m_value_365 : decode b_m_value 365 = .ok (.ifCond .lt 14, 3) := by decide +kernel
theorem d_m_value_368 : decode b_m_value 368 = .ok (.aload_n 0, 1) := by decide +kernel
theorem d_m_value_369 : decode b_m_value 369 = .ok (.getfield 94, 3) := by decide +kernel
theorem d_m_value_372 : decode b_m_value 372 = .ok (.aload_n 0, 1) := by decide +kernel
theorem d_m_value_373 : decode b_m_value 373 = .ok (.getfield 97, 3) := by decide +kernel
theorem d_m_value_376 : decode b_m_value 376 = .ok (.if_icmp .ge 10, 3) := by decide +kernel
theorem d_m_value_379 : decode b_m_value 379 = .ok (.aload_n 0, 1) := by decide +kernel
theorem d_m_value_380 : decode b_m_value 380 = .ok (.iconst 1, 1) := by decide +kernel
theorem d_m_value_381 : decode b_m_value 381 = .ok (.putfield 30, 3) := by decide +kernel
theorem d_m_value_384 : decode b_m_value 384 = .ok (.lconst 0, 1) := by decide +kernel
theorem d_m_value_385 : decode b_m_value 385 = .ok (.lreturn, 1) := by decide +kernel
theorem d_m_value_386 : decode b_m_value 386 = .ok (.lload_n 2, 1) := by decide +kernel
theorem d_m_value_387 : decode b_m_value 387 = .ok (.lload 5, 2) := by decide +kernel
theorem d_m_value_389 : decode b_m_value 389 = .ok (.lor, 1) := by decide +kernel
theorem d_m_value_390 : decode b_m_value 390 = .ok (.lreturn, 1) := by decide +kernel
theorem d_m_exponent_0 : decode b_m_exponent 0 = .ok (.aload_n 0, 1) := by decide +kernel
theorem d_m_exponent_1 : decode b_m_exponent 1 = .ok (.bipush 45, 2) := by decide +kernel
theorem d_m_exponent_3 : decode b_m_exponent 3 = .ok (.invokevirtual 110, 3) := by decide +kernel
theorem d_m_exponent_6 : decode b_m_exponent 6 = .ok (.istore_n 1, 1) := by decide +kernel
theorem d_m_exponent_7 : decode b_m_exponent 7 = .ok (.iload_n 1, 1) := by decide +kernel
theorem d_m_exponent_8 : decode b_m_exponent 8 = .ok (.ifCond .ne 12, 3) := by decide +kernel
theorem d_m_exponent_11 : decode b_m_exponent 11 = .ok (.aload_n 0, 1) := by decide +kernel
theorem d_m_exponent_12 : decode b_m_exponent 12 = .ok (.bipush 43, 2) := by decide +kernel
theorem d_m_exponent_14 : decode b_m_exponent 14 = .ok (.invokevirtual 110, 3) := by decide +kernel
theorem d_m_exponent_17 : decode b_m_exponent 17 = .ok (.ifCond .eq 13, 3) := by decide +kernel
theorem d_m_exponent_20 : decode b_m_exponent 20 = .ok (.aload_n 0, 1) := by decide +kernel
theorem d_m_exponent_21 : decode b_m_exponent 21 = .ok (.dup, 1) := by decide +kernel
theorem d_m_exponent_22 : decode b_m_exponent 22 = .ok (.getfield 94, 3) := by decide +kernel
theorem d_m_exponent_25 : decode b_m_exponent 25 = .ok (.iconst 1, 1) := by decide +kernel
theorem d_m_exponent_26 : decode b_m_exponent 26 = .ok (.iadd, 1) := by decide +kernel
theorem d_m_exponent_27 : decode b_m_exponent 27 = .ok (.putfield 94, 3) := by decide +kernel
theorem d_m_exponent_30 : decode b_m_exponent 30 = .ok (.aload_n 0, 1) := by decide +kernel
theorem d_m_exponent_31 : decode b_m_exponent 31 = .ok (.invokevirtual 134, 3) := by decide +kernel
theorem d_m_exponent_34 : decode b_m_exponent 34 = .ok (.ifCond .ne 7, 3) := by decide +kernel
theorem d_m_exponent_37 : decode b_m_exponent 37 = .ok (.ldc2_w 55, 3) := by decide +kernel
theorem d_m_exponent_40 : decode b_m_exponent 40 = .ok (.lreturn, 1) := by decide +kernel
theorem d_m_exponent_41 : decode b_m_exponent 41 = .ok (.lconst 0, 1) := by decide +kernel
theorem d_m_exponent_42 : decode b_m_exponent 42 = .ok (.lstore_n 2, 1) := by decide +kernel
theorem d_m_exponent_43 : decode b_m_exponent 43 = .ok (.aload_n 0, 1) := by decide +kernel
theorem d_m_exponent_44 : decode b_m_exponent 44 = .ok (.invokevirtual 134, 3) := by decide +kernel
theorem d_m_exponent_47 : decode b_m_exponent 47 = .ok (.ifCond .eq 45, 3) := by decide +kernel
theorem d_m_exponent_50 : decode b_m_exponent 50 = .ok (.lload_n 2, 1) := by decide +kernel
theorem d_m_exponent_51 : decode b_m_exponent 51 = .ok (.ldc2_w 140, 3) := by decide +kernel
theorem d_m_exponent_54 : decode b_m_exponent 54 = .ok (.lcmp, 1) := by decide +kernel
theorem d_m_exponent_55 : decode b_m_exponent 55 = .ok (.ifCond .ge 24, 3) := by decide +kernel
theorem d_m_exponent_58 : decode b_m_exponent 58 = .ok (.ldc2_w 86, 3) := by decide +kernel
theorem d_m_exponent_61 : decode b_m_exponent 61 = .ok (.lload_n 2, 1) := by decide +kernel
theorem d_m_exponent_62 : decode b_m_exponent 62 = .ok (.lmul, 1) := by decide +kernel
theorem d_m_exponent_63 : decode b_m_exponent 63 = .ok (.aload_n 0, 1) := by decide +kernel
theorem d_m_exponent_64 : decode b_m_exponent 64 = .ok (.getfield 9, 3) := by decide +kernel
theorem d_m_exponent_67 : decode b_m_exponent 67 = .ok (.aload_n 0, 1) := by decide +kernel
theorem d_m_exponent_68 : decode b_m_exponent 68 = .ok (.getfield 94, 3) := by decide +kernel
theorem d_m_exponent_71 : decode b_m_exponent 71 = .ok (.baload, 1) := by decide +kernel
theorem d_m_exponent_72 : decode b_m_exponent 72 = .ok (.i2l, 1) := by decide +kernel
theorem d_m_exponent_73 : decode b_m_exponent 73 = .ok (.ladd, 1) := by decide +kernel
theorem d_m_exponent_74 : decode b_m_exponent 74 = .ok (.ldc2_w 142, 3) := by decide +kernel
theorem d_m_exponent_77 : decode b_m_exponent 77 = .ok (.lsub, 1) := by decide +kernel
theorem d_m_exponent_78 : decode b_m_exponent 78 = .ok (.lstore_n 2, 1) := by decide +kernel
theorem d_m_exponent_79 : decode b_m_exponent 79 = .ok (.aload_n 0, 1) := by decide +kernel
theorem d_m_exponent_80 : decode b_m_exponent 80 = .ok (.dup, 1) := by decide +kernel
theorem d_m_exponent_81 : decode b_m_exponent 81 = .ok (.getfield 94, 3) := by decide +kernel
theorem d_m_exponent_84 : decode b_m_exponent 84 = .ok (.iconst 1, 1) := by decide +kernel
theorem d_m_exponent_85 : decode b_m_exponent 85 = .ok (.iadd, 1) := by decide +kernel
theorem d_m_exponent_86 : decode b_m_exponent 86 = .ok (.putfield 94, 3) := by decide +kernel
theorem d_m_exponent_89 : decode b_m_exponent 89 = .ok (.goto (-46), 3) := by decide +kernel
theorem d_m_exponent_92 : decode b_m_exponent 92 = .ok (.iload_n 1, 1) := by decide +kernel
theorem d_m_exponent_93 : decode b_m_exponent 93 = .ok (.ifCond .eq 8, 3) := by decide +kernel
theorem d_m_exponent_96 : decode b_m_exponent 96 = .ok (.lload_n 2, 1) := by decide +kernel
theorem d_m_exponent_97 : decode b_m_exponent 97 = .ok (.lneg, 1) := by decide +kernel
theorem d_m_exponent_98 : decode b_m_exponent 98 = .ok (.goto 4, 3) := by decide +kernel
theorem d_m_exponent_101 : decode b_m_exponent 101 = .ok (.lload_n 2, 1) := by decide +kernel
theorem d_m_exponent_102 : decode b_m_exponent 102 = .ok (.lreturn, 1) := by decide +kernel
theorem d_m_decimal_0 : decode b_m_decimal 0 = .ok (.aload_n 0, 1) := by decide +kernel
theorem d_m_decimal_1 : decode b_m_decimal 1 = .ok (.iconst 0, 1) := by decide +kernel
theorem d_m_decimal_2 : decode b_m_decimal 2 = .ok (.putfield 144, 3) := by decide +kernel
theorem d_m_decimal_5 : decode b_m_decimal 5 = .ok (.aload_n 0, 1) := by decide +kernel
theorem d_m_decimal_6 : decode b_m_decimal 6 = .ok (.lconst 0, 1) := by decide +kernel
theorem d_m_decimal_7 : decode b_m_decimal 7 = .ok (.putfield 147, 3) := by decide +kernel
theorem d_m_decimal_10 : decode b_m_decimal 10 = .ok (.iconst 0, 1) := by decide +kernel
theorem d_m_decimal_11 : decode b_m_decimal 11 = .ok (.istore_n 1, 1) := by decide +kernel
theorem d_m_decimal_12 : decode b_m_decimal 12 = .ok (.iconst 0, 1) := by decide +kernel
theorem d_m_decimal_13 : decode b_m_decimal 13 = .ok (.istore_n 2, 1) := by decide +kernel
theorem d_m_decimal_14 : decode b_m_decimal 14 = .ok (.aload_n 0, 1) := by decide +kernel
theorem d_m_decimal_15 : decode b_m_decimal 15 = .ok (.invokevirtual 134, 3) := by decide +kernel
theorem d_m_decimal_18 : decode b_m_decimal 18 = .ok (.ifCond .ne 16, 3) := by decide +kernel
theorem d_m_decimal_21 : decode b_m_decimal 21 = .ok (.aload_n 0, 1) := by decide +kernel
theorem d_m_decimal_22 : decode b_m_decimal 22 = .ok (.bipush 46, 2) := by decide +kernel
theorem d_m_decimal_24 : decode b_m_decimal 24 = .ok (.invokevirtual 110, 3) := by decide +kernel
theorem d_m_decimal_27 : decode b_m_decimal 27 = .ok (.ifCond .eq 121, 3) := by decide +kernel
theorem d_m_decimal_30 : decode b_m_decimal 30 = .ok (.iload_n 2, 1) := by decide +kernel
theorem d_m_decimal_31 : decode b_m_decimal 31 = .ok (.ifCond .ne 117, 3) := by decide +kernel
theorem d_m_decimal_34 : decode b_m_decimal 34 = .ok (.aload_n 0, 1) := by decide +kernel
theorem d_m_decimal_35 : decode b_m_decimal 35 = .ok (.bipush 46, 2) := by decide +kernel
theorem d_m_decimal_37 : decode b_m_decimal 37 = .ok (.invokevirtual 110, 3) := by decide +kernel
theorem d_m_decimal_40 : decode b_m_decimal 40 = .ok (.ifCond .eq 8, 3) := by decide +kernel
theorem d_m_decimal_43 : decode b_m_decimal 43 = .ok (.iconst 1, 1) := by decide +kernel
theorem d_m_decimal_44 : decode b_m_decimal 44 = .ok (.istore_n 2, 1) := by decide +kernel
theorem d_m_decimal_45 : decode b_m_decimal 45 = .ok (.goto 90, 3) := by decide +kernel
theorem d_m_decimal_48 : decode b_m_decimal 48 = .ok (.iinc 1 1, 3) := by decide +kernel
theorem d_m_decimal_51 : decode b_m_decimal 51 = .ok (.aload_n 0, 1) := by decide +kernel
theorem d_m_decimal_52 : decode b_m_decimal 52 = .ok (.getfield 144, 3) := by decide +kernel
theorem d_m_decimal_55 : decode b_m_decimal 55 = .ok (.ifCond .gt 17, 3) := by decide +kernel
theorem d_m_decimal_58 : decode b_m_decimal 58 = .ok (.aload_n 0, 1) := by decide +kernel
theorem d_m_decimal_59 : decode b_m_decimal 59 = .ok (.getfield 9, 3) := by decide +kernel
theorem d_m_decimal_62 : decode b_m_decimal 62 = .ok (.aload_n 0, 1) := by decide +kernel
theorem d_m_decimal_63 : decode b_m_decimal 63 = .ok (.getfield 94, 3) := by decide +kernel
theorem d_m_decimal_66 : decode b_m_decimal 66 = .ok (.baload, 1) := by decide +kernel
theorem d_m_decimal_67 : decode b_m_decimal 67 = .ok (.bipush 48, 2) := by decide +kernel
theorem d_m_decimal_69 : decode b_m_decimal 69 = .ok (.if_icmp .eq 52, 3) := by decide +kernel
theorem d_m_decimal_72 : decode b_m_decimal 72 = .ok (.aload_n 0, 1) := by decide +kernel
theorem d_m_decimal_73 : decode b_m_decimal 73 = .ok (.getfield 27, 3) := by decide +kernel
theorem d_m_decimal_76 : decode b_m_decimal 76 = .ok (.aload_n 0, 1) := by decide +kernel
theorem d_m_decimal_77 : decode b_m_decimal 77 = .ok (.getfield 144, 3) := by decide +kernel
theorem d_m_decimal_80 : decode b_m_decimal 80 = .ok (.aload_n 0, 1) := by decide +kernel
theorem d_m_decimal_81 : decode b_m_decimal 81 = .ok (.getfield 9, 3) := by decide +kernel
theorem d_m_decimal_84 : decode b_m_decimal 84 = .ok (.aload_n 0, 1) := by decide +kernel
theorem d_m_decimal_85 : decode b_m_decimal 85 = .ok (.getfield 94, 3) := by decide +kernel
theorem d_m_decimal_88 : decode b_m_decimal 88 = .ok (.baload, 1) := by decide +kernel
theorem d_m_decimal_89 : decode b_m_decimal 89 = .ok (.bipush 48, 2) := by decide +kernel
theorem d_m_decimal_91 : decode b_m_decimal 91 = .ok (.isub, 1) := by decide +kernel
theorem d_m_decimal_92 : decode b_m_decimal 92 = .ok (.i2b, 1) := by decide +kernel
theorem d_m_decimal_93 : decode b_m_decimal 93 = .ok (.bastore, 1) := by decide +kernel
theorem d_m_decimal_94 : decode b_m_decimal 94 = .ok (.aload_n 0, 1) := by decide +kernel
theorem d_m_decimal_95 : decode b_m_decimal 95 = .ok (.dup, 1) := by decide +kernel
theorem d_m_decimal_96 : decode b_m_decimal 96 = .ok (.getfield 144, 3) := by decide +kernel
theorem d_m_decimal_99 : decode b_m_decimal 99 = .ok (.iconst 1, 1) := by decide +kernel
theorem d_m_decimal_100 : decode b_m_decimal 100 = .ok (.iadd, 1) := by decide +kernel
theorem d_m_decimal_101 : decode b_m_decimal 101 = .ok (.putfield 144, 3) := by decide +kernel
theorem d_m_decimal_104 : decode b_m_decimal 104 = .ok (.iload_n 2, 1) := by decide +kernel
theorem d_m_decimal_105 : decode b_m_decimal 105 = .ok (.ifCond .ne 30, 3) := by decide +kernel
theorem d_m_decimal_108 : decode b_m_decimal 108 = .ok (.aload_n 0, 1) := by decide +kernel
theorem d_m_decimal_109 : decode b_m_decimal 109 = .ok (.dup, 1) := by decide +kernel
theorem d_m_decimal_110 : decode b_m_decimal 110 = .ok (.getfield 147, 3) := by decide +kernel
theorem d_m_decimal_113 : decode b_m_decimal 113 = .ok (.lconst 1, 1) := by decide +kernel
theorem d_m_decimal_114 : decode b_m_decimal 114 = .ok (.ladd, 1) := by decide +kernel
theorem d_m_decimal_115 : decode b_m_decimal 115 = .ok (.putfield 147, 3) := by decide +kernel
theorem d_m_decimal_118 : decode b_m_decimal 118 = .ok (.goto 17, 3) := by decide +kernel
theorem d_m_decimal_121 : decode b_m_decimal 121 = .ok (.iload_n 2, 1) := by decide +kernel
theorem d_m_decimal_122 : decode b_m_decimal 122 = .ok (.ifCond .eq 13, 3) := by decide +kernel
theorem d_m_decimal_125 : decode b_m_decimal 125 = .ok (.aload_n 0, 1) := by decide +kernel
theorem d_m_decimal_126 : decode b_m_decimal 126 = .ok (.dup, 1) := by decide +kernel
theorem d_m_decimal_127 : decode b_m_decimal 127 = .ok (.getfield 147, 3) := by decide +kernel
theorem d_m_decimal_130 : decode b_m_decimal 130 = .ok (.lconst 1, 1) := by decide +kernel
theorem d_m_decimal_131 : decode b_m_decimal 131 = .ok (.lsub, 1) := by decide +kernel
theorem d_m_decimal_132 : decode b_m_decimal 132 = .ok (.putfield 147, 3) := by decide +kernel
theorem d_m_decimal_135 : decode b_m_decimal 135 = .ok (.aload_n 0, 1) := by decide +kernel
theorem d_m_decimal_136 : decode b_m_decimal 136 = .ok (.dup, 1) := by decide +kernel
theorem d_m_decimal_137 : decode b_m_decimal 137 = .ok (.getfield 94, 3) := by decide +kernel
theorem d_m_decimal_140 : decode b_m_decimal 140 = .ok (.iconst 1, 1) := by decide +kernel
theorem d_m_decimal_141 : decode b_m_decimal 141 = .ok (.iadd, 1) := by decide +kernel
theorem d_m_decimal_142 : decode b_m_decimal 142 = .ok (.putfield 94, 3) := by decide +kernel
theorem d_m_decimal_145 : decode b_m_decimal 145 = .ok (.goto (-131), 3) := by decide +kernel
theorem d_m_decimal_148 : decode b_m_decimal 148 = .ok (.iload_n 1, 1) := by decide +kernel
theorem d_m_decimal_149 : decode b_m_decimal 149 = .ok (.ifCond .ne 7, 3) := by decide +kernel
theorem d_m_decimal_152 : decode b_m_decimal 152 = .ok (.ldc2_w 151, 3) := by decide +kernel
theorem d_m_decimal_155 : decode b_m_decimal 155 = .ok (.lreturn, 1) := by decide +kernel
theorem d_m_decimal_156 : decode b_m_decimal 156 = .ok (.aload_n 0, 1) := by decide +kernel
theorem d_m_decimal_157 : decode b_m_decimal 157 = .ok (.bipush 101, 2) := by decide +kernel
theorem d_m_decimal_159 : decode b_m_decimal 159 = .ok (.invokevirtual 110, 3) := by decide +kernel
theorem d_m_decimal_162 : decode b_m_decimal 162 = .ok (.ifCond .ne 12, 3) := by decide +kernel
theorem d_m_decimal_165 : decode b_m_decimal 165 = .ok (.aload_n 0, 1) := by decide +kernel
theorem d_m_decimal_166 : decode b_m_decimal 166 = .ok (.bipush 69, 2) := by decide +kernel
theorem d_m_decimal_168 : decode b_m_decimal 168 = .ok (.invokevirtual 110, 3) := by decide +kernel
theorem d_m_decimal_171 : decode b_m_decimal 171 = .ok (.ifCond .eq 40, 3) := by decide +kernel
theorem d_m_decimal_174 : decode b_m_decimal 174 = .ok (.aload_n 0, 1) := by decide +kernel
theorem d_m_decimal_175 : decode b_m_decimal 175 = .ok (.dup, 1) := by decide +kernel
theorem d_m_decimal_176 : decode b_m_decimal 176 = .ok (.getfield 94, 3) := by decide +kernel
theorem d_m_decimal_179 : decode b_m_decimal 179 = .ok (.iconst 1, 1) := by decide +kernel
theorem d_m_decimal_180 : decode b_m_decimal 180 = .ok (.iadd, 1) := by decide +kernel
theorem d_m_decimal_181 : decode b_m_decimal 181 = .ok (.putfield 94, 3) := by decide +kernel
theorem d_m_decimal_184 : decode b_m_decimal 184 = .ok (.aload_n 0, 1) := by decide +kernel
theorem d_m_decimal_185 : decode b_m_decimal 185 = .ok (.invokevirtual 153, 3) := by decide +kernel
theorem d_m_decimal_188 : decode b_m_decimal 188 = .ok (.lstore_n 3, 1) := by decide +kernel
theorem d_m_decimal_189 : decode b_m_decimal 189 = .ok (.lload_n 3, 1) := by decide +kernel
theorem d_m_decimal_190 : decode b_m_decimal 190 = .ok (.ldc2_w 55, 3) := by decide +kernel
theorem d_m_decimal_193 : decode b_m_decimal 193 = .ok (.lcmp, 1) := by decide +kernel
theorem d_m_decimal_194 : decode b_m_decimal 194 = .ok (.ifCond .ne 7, 3) := by decide +kernel
theorem d_m_decimal_197 : decode b_m_decimal 197 = .ok (.ldc2_w 151, 3) := by decide +kernel
theorem d_m_decimal_200 : decode b_m_decimal 200 = .ok (.lreturn, 1) := by decide +kernel
theorem d_m_decimal_201 : decode b_m_decimal 201 = .ok (.aload_n 0, 1) := by decide +kernel
theorem d_m_decimal_202 : decode b_m_decimal 202 = .ok (.dup, 1) := by decide +kernel
theorem d_m_decimal_203 : decode b_m_decimal 203 = .ok (.getfield 147, 3) := by decide +kernel
theorem d_m_decimal_206 : decode b_m_decimal 206 = .ok (.lload_n 3, 1) := by decide +kernel
theorem d_m_decimal_207 : decode b_m_decimal 207 = .ok (.ladd, 1) := by decide +kernel
theorem d_m_decimal_208 : decode b_m_decimal 208 = .ok (.putfield 147, 3) := by decide +kernel
theorem d_m_decimal_211 : decode b_m_decimal 211 = .ok (.aload_n 0, 1) := by decide +kernel
theorem d_m_decimal_212 : decode b_m_decimal 212 = .ok (.getfield 144, 3) := by decide +kernel
theorem d_m_decimal_215 : decode b_m_decimal 215 = .ok (.ifCond .le 30, 3) := by decide +kernel
theorem d_m_decimal_218 : decode b_m_decimal 218 = .ok (.aload_n 0, 1) := by decide +kernel
theorem d_m_decimal_219 : decode b_m_decimal 219 = .ok (.getfield 27, 3) := by decide +kernel
theorem d_m_decimal_222 : decode b_m_decimal 222 = .ok (.aload_n 0, 1) := by decide +kernel
theorem d_m_decimal_223 : decode b_m_decimal 223 = .ok (.getfield 144, 3) := by decide +kernel
theorem d_m_decimal_226 : decode b_m_decimal 226 = .ok (.iconst 1, 1) := by decide +kernel
theorem d_m_decimal_227 : decode b_m_decimal 227 = .ok (.isub, 1) := by decide +kernel
theorem d_m_decimal_228 : decode b_m_decimal 228 = .ok (.baload, 1) := by decide +kernel
theorem d_m_decimal_229 : decode b_m_decimal 229 = .ok (.ifCond .ne 16, 3) := by decide +kernel
theorem d_m_decimal_232 : decode b_m_decimal 232 = .ok (.aload_n 0, 1) := by decide +kernel
theorem d_m_decimal_233 : decode b_m_decimal 233 = .ok (.dup, 1) := by decide +kernel
theorem d_m_decimal_234 : decode b_m_decimal 234 = .ok (.getfield 144, 3) := by decide +kernel
theorem d_m_decimal_237 : decode b_m_decimal 237 = .ok (.iconst 1, 1) := by decide +kernel
theorem d_m_decimal_238 : decode b_m_decimal 238 = .ok (.isub, 1) := by decide +kernel
theorem d_m_decimal_239 : decode b_m_decimal 239 = .ok (.putfield 144, 3) := by decide +kernel
theorem d_m_decimal_242 : decode b_m_decimal 242 = .ok (.goto (-31), 3) := by decide +kernel
theorem d_m_decimal_245 : decode b_m_decimal 245 = .ok (.aload_n 0, 1) := by decide +kernel
theorem d_m_decimal_246 : decode b_m_decimal 246 = .ok (.getfield 144, 3) := by decide +kernel
theorem d_m_decimal_249 : decode b_m_decimal 249 = .ok (.ifCond .ne 7, 3) := by decide +kernel
theorem d_m_decimal_252 : decode b_m_decimal 252 = .ok (.lconst 0, 1) := by decide +kernel
theorem d_m_decimal_253 : decode b_m_decimal 253 = .ok (.goto 7, 3) := by decide +kernel
theorem d_m_decimal_256 : decode b_m_decimal 256 = .ok (.aload_n 0, 1) := by decide +kernel
theorem d_m_decimal_257 : decode b_m_decimal 257 = .ok (.invokevirtual 156, 3) := by decide +kernel
theorem d_m_decimal_260 : decode b_m_decimal 260 = .ok (.lreturn, 1) := by decide +kernel
theorem d_m_nearest_0 : decode b_m_nearest 0 = .ok (.aload_n 0, 1) := by decide +kernel
theorem d_m_nearest_1 : decode b_m_nearest 1 = .ok (.getfield 147, 3) := by decide +kernel
theorem d_m_nearest_4 : decode b_m_nearest 4 = .ok (.ldc2_w 159, 3) := by decide +kernel
theorem d_m_nearest_7 : decode b_m_nearest 7 = .ok (.lcmp, 1) := by decide +kernel
theorem d_m_nearest_8 : decode b_m_nearest 8 = .ok (.ifCond .le 8, 3) := by decide +kernel
theorem d_m_nearest_11 : decode b_m_nearest 11 = .ok (.aload_n 0, 1) := by decide +kernel
theorem d_m_nearest_12 : decode b_m_nearest 12 = .ok (.invokevirtual 59, 3) := by decide +kernel
theorem d_m_nearest_15 : decode b_m_nearest 15 = .ok (.lreturn, 1) := by decide +kernel
theorem d_m_nearest_16 : decode b_m_nearest 16 = .ok (.aload_n 0, 1) := by decide +kernel
theorem d_m_nearest_17 : decode b_m_nearest 17 = .ok (.getfield 147, 3) := by decide +kernel
theorem d_m_nearest_20 : decode b_m_nearest 20 = .ok (.ldc2_w 161, 3) := by decide +kernel
theorem d_m_nearest_23 : decode b_m_nearest 23 = .ok (.lcmp, 1) := by decide +kernel
theorem d_m_nearest_24 : decode b_m_nearest 24 = .ok (.ifCond .ge 5, 3) := by decide +kernel
theorem d_m_nearest_27 : decode b_m_nearest 27 = .ok (.lconst 0, 1) := by decide +kernel
theorem d_m_nearest_28 : decode b_m_nearest 28 = .ok (.lreturn, 1) := by decide +kernel
theorem d_m_nearest_29 : decode b_m_nearest 29 = .ok (.lconst 0, 1) := by decide +kernel
theorem d_m_nearest_30 : decode b_m_nearest 30 = .ok (.lstore_n 1, 1) := by decide +kernel
theorem d_m_nearest_31 : decode b_m_nearest 31 = .ok (.aload_n 0, 1) := by decide +kernel
theorem d_m_nearest_32 : decode b_m_nearest 32 = .ok (.invokevirtual 59, 3) := by decide +kernel
theorem d_m_nearest_35 : decode b_m_nearest 35 = .ok (.lconst 1, 1) := by decide +kernel
theorem d_m_nearest_36 : decode b_m_nearest 36 = .ok (.lsub, 1) := by decide +kernel
theorem d_m_nearest_37 : decode b_m_nearest 37 = .ok (.lstore_n 3, 1) := by decide +kernel
theorem d_m_nearest_38 : decode b_m_nearest 38 = .ok (.lload_n 1, 1) := by decide +kernel
theorem d_m_nearest_39 : decode b_m_nearest 39 = .ok (.lload_n 3, 1) := by decide +kernel
theorem d_m_nearest_40 : decode b_m_nearest 40 = .ok (.lcmp, 1) := by decide +kernel
theorem d_m_nearest_41 : decode b_m_nearest 41 = .ok (.ifCond .ge 72, 3) := by decide +kernel
theorem d_m_nearest_44 : decode b_m_nearest 44 = .ok (.lload_n 1, 1) := by decide +kernel
theorem d_m_nearest_45 : decode b_m_nearest 45 = .ok (.lload_n 3, 1) := by decide +kernel
theorem d_m_nearest_46 : decode b_m_nearest 46 = .ok (.lload_n 1, 1) := by decide +kernel
theorem d_m_nearest_47 : decode b_m_nearest 47 = .ok (.lsub, 1) := by decide +kernel
theorem d_m_nearest_48 : decode b_m_nearest 48 = .ok (.lconst 1, 1) := by decide +kernel
theorem d_m_nearest_49 : decode b_m_nearest 49 = .ok (.ladd, 1) := by decide +kernel
theorem d_m_nearest_50 : decode b_m_nearest 50 = .ok (.ldc2_w 163, 3) := by decide +kernel
theorem d_m_nearest_53 : decode b_m_nearest 53 = .ok (.ldiv, 1) := by decide +kernel
theorem d_m_nearest_54 : decode b_m_nearest 54 = .ok (.ladd, 1) := by decide +kernel
theorem d_m_nearest_55 : decode b_m_nearest 55 = .ok (.lstore 5, 2) := by decide +kernel
theorem d_m_nearest_57 : decode b_m_nearest 57 = .ok (.aload_n 0, 1) := by decide +kernel
theorem d_m_nearest_58 : decode b_m_nearest 58 = .ok (.aload_n 0, 1) := by decide +kernel
theorem d_m_nearest_59 : decode b_m_nearest 59 = .ok (.lload 5, 2) := by decide +kernel
theorem d_m_nearest_61 : decode b_m_nearest 61 = .ok (.invokevirtual 165, 3) := by decide +kernel
theorem d_m_nearest_64 : decode b_m_nearest 64 = .ok (.aload_n 0, 1) := by decide +kernel
theorem d_m_nearest_65 : decode b_m_nearest 65 = .ok (.lload 5, 2) := by decide +kernel
theorem d_m_nearest_67 : decode b_m_nearest 67 = .ok (.invokevirtual 169, 3) := by decide +kernel
theorem d_m_nearest_70 : decode b_m_nearest 70 = .ok (.aload_n 0, 1) := by decide +kernel
theorem d_m_nearest_71 : decode b_m_nearest 71 = .ok (.getfield 20, 3) := by decide +kernel
theorem d_m_nearest_74 : decode b_m_nearest 74 = .ok (.invokevirtual 173, 3) := by decide +kernel
theorem d_m_nearest_77 : decode b_m_nearest 77 = .ok (.aload_n 0, 1) := by decide +kernel
theorem d_m_nearest_78 : decode b_m_nearest 78 = .ok (.getfield 27, 3) := by decide +kernel
theorem d_m_nearest_81 : decode b_m_nearest 81 = .ok (.aload_n 0, 1) := by decide +kernel
theorem d_m_nearest_82 : decode b_m_nearest 82 = .ok (.getfield 144, 3) := by decide +kernel
theorem d_m_nearest_85 : decode b_m_nearest 85 = .ok (.aload_n 0, 1) := by decide +kernel
theorem d_m_nearest_86 : decode b_m_nearest 86 = .ok (.getfield 147, 3) := by decide +kernel
theorem d_m_nearest_89 : decode b_m_nearest 89 = .ok (.aload_n 0, 1) := by decide +kernel
theorem d_m_nearest_90 : decode b_m_nearest 90 = .ok (.getfield 20, 3) := by decide +kernel
theorem d_m_nearest_93 : decode b_m_nearest 93 = .ok (.invokestatic 177, 3) := by decide +kernel
theorem d_m_nearest_96 : decode b_m_nearest 96 = .ok (.ifCond .lt 9, 3) := by decide +kernel
theorem d_m_nearest_99 : decode b_m_nearest 99 = .ok (.lload 5, 2) := by decide +kernel
theorem d_m_nearest_101 : decode b_m_nearest 101 = .ok (.lstore_n 1, 1) := by decide +kernel
theorem d_m_nearest_102 : decode b_m_nearest 102 = .ok (.goto 8, 3) := by decide +kernel
theorem d_m_nearest_105 : decode b_m_nearest 105 = .ok (.lload 5, 2) := by decide +kernel
theorem d_m_nearest_107 : decode b_m_nearest 107 = .ok (.lconst 1, 1) := by decide +kernel
theorem d_m_nearest_108 : decode b_m_nearest 108 = .ok (.lsub, 1) := by decide +kernel
theorem d_m_nearest_109 : decode b_m_nearest 109 = .ok (.lstore_n 3, 1) := by decide +kernel
theorem d_m_nearest_110 : decode b_m_nearest 110 = .ok (.goto (-72), 3) := by decide +kernel
theorem d_m_nearest_113 : decode b_m_nearest 113 = .ok (.aload_n 0, 1) := by decide +kernel
theorem d_m_nearest_114 : decode b_m_nearest 114 = .ok (.ldc2_w 163, 3) := by decide +kernel
theorem d_m_nearest_117 : decode b_m_nearest 117 = .ok (.aload_n 0, 1) := by decide +kernel
theorem d_m_nearest_118 : decode b_m_nearest 118 = .ok (.lload_n 1, 1) := by decide +kernel
theorem d_m_nearest_119 : decode b_m_nearest 119 = .ok (.invokevirtual 165, 3) := by decide +kernel
theorem d_m_nearest_122 : decode b_m_nearest 122 = .ok (.lmul, 1) := by decide +kernel
theorem d_m_nearest_123 : decode b_m_nearest 123 = .ok (.lconst 1, 1) := by decide +kernel
theorem d_m_nearest_124 : decode b_m_nearest 124 = .ok (.ladd, 1) := by decide +kernel
theorem d_m_nearest_125 : decode b_m_nearest 125 = .ok (.aload_n 0, 1) := by decide +kernel
theorem d_m_nearest_126 : decode b_m_nearest 126 = .ok (.lload_n 1, 1) := by decide +kernel
theorem d_m_nearest_127 : decode b_m_nearest 127 = .ok (.invokevirtual 169, 3) := by decide +kernel
theorem d_m_nearest_130 : decode b_m_nearest 130 = .ok (.iconst 1, 1) := by decide +kernel
theorem d_m_nearest_131 : decode b_m_nearest 131 = .ok (.isub, 1) := by decide +kernel
theorem d_m_nearest_132 : decode b_m_nearest 132 = .ok (.aload_n 0, 1) := by decide +kernel
theorem d_m_nearest_133 : decode b_m_nearest 133 = .ok (.getfield 24, 3) := by decide +kernel
theorem d_m_nearest_136 : decode b_m_nearest 136 = .ok (.invokevirtual 173, 3) := by decide +kernel
theorem d_m_nearest_139 : decode b_m_nearest 139 = .ok (.aload_n 0, 1) := by decide +kernel
theorem d_m_nearest_140 : decode b_m_nearest 140 = .ok (.getfield 27, 3) := by decide +kernel
theorem d_m_nearest_143 : decode b_m_nearest 143 = .ok (.aload_n 0, 1) := by decide +kernel
theorem d_m_nearest_144 : decode b_m_nearest 144 = .ok (.getfield 144, 3) := by decide +kernel
theorem d_m_nearest_147 : decode b_m_nearest 147 = .ok (.aload_n 0, 1) := by decide +kernel
theorem d_m_nearest_148 : decode b_m_nearest 148 = .ok (.getfield 147, 3) := by decide +kernel
theorem d_m_nearest_151 : decode b_m_nearest 151 = .ok (.aload_n 0, 1) := by decide +kernel
theorem d_m_nearest_152 : decode b_m_nearest 152 = .ok (.getfield 24, 3) := by decide +kernel
theorem d_m_nearest_155 : decode b_m_nearest 155 = .ok (.invokestatic 177, 3) := by decide +kernel
theorem d_m_nearest_158 : decode b_m_nearest 158 = .ok (.istore 5, 2) := by decide +kernel
theorem d_m_nearest_160 : decode b_m_nearest 160 = .ok (.iload 5, 2) := by decide +kernel
theorem d_m_nearest_162 : decode b_m_nearest 162 = .ok (.ifCond .lt 16, 3) := by decide +kernel
theorem d_m_nearest_165 : decode b_m_nearest 165 = .ok (.iload 5, 2) := by decide +kernel
theorem d_m_nearest_167 : decode b_m_nearest 167 = .ok (.ifCond .ne 15, 3) := by decide +kernel
theorem d_m_nearest_170 : decode b_m_nearest 170 = .ok (.lload_n 1, 1) := by decide +kernel
theorem d_m_nearest_171 : decode b_m_nearest 171 = .ok (.lconst 1, 1) := by decide +kernel
theorem d_m_nearest_172 : decode b_m_nearest 172 = .ok (.land, 1) := by decide +kernel
theorem d_m_nearest_173 : decode b_m_nearest 173 = .ok (.lconst 0, 1) := by decide +kernel
theorem d_m_nearest_174 : decode b_m_nearest 174 = .ok (.lcmp, 1) := by decide +kernel
theorem d_m_nearest_175 : decode b_m_nearest 175 = .ok (.ifCond .ne 7, 3) := by decide +kernel
theorem d_m_nearest_178 : decode b_m_nearest 178 = .ok (.lload_n 1, 1) := by decide +kernel
theorem d_m_nearest_179 : decode b_m_nearest 179 = .ok (.goto 6, 3) := by decide +kernel
theorem d_m_nearest_182 : decode b_m_nearest 182 = .ok (.lload_n 1, 1) := by decide +kernel
theorem d_m_nearest_183 : decode b_m_nearest 183 = .ok (.lconst 1, 1) := by decide +kernel
theorem d_m_nearest_184 : decode b_m_nearest 184 = .ok (.ladd, 1) := by decide +kernel
theorem d_m_nearest_185 : decode b_m_nearest 185 = .ok (.lreturn, 1) := by decide +kernel
theorem d_m_hexadecimal_0 : decode b_m_hexadecimal 0 = .ok (.aload_n 0, 1) := by decide +kernel
theorem d_m_hexadecimal_1 : decode b_m_hexadecimal 1 = .ok (.dup, 1) := by decide +kernel
theorem d_m_hexadecimal_2 : decode b_m_hexadecimal 2 = .ok (.getfield 94, 3) := by decide +kernel
theorem d_m_hexadecimal_5 : decode b_m_hexadecimal 5 = .ok (.iconst 2, 1) := by decide +kernel
theorem d_m_hexadecimal_6 : decode b_m_hexadecimal 6 = .ok (.iadd, 1) := by decide +kernel
theorem d_m_hexadecimal_7 : decode b_m_hexadecimal 7 = .ok (.putfield 94, 3) := by decide +kernel
theorem d_m_hexadecimal_10 : decode b_m_hexadecimal 10 = .ok (.lconst 0, 1) := by decide +kernel
theorem d_m_hexadecimal_11 : decode b_m_hexadecimal 11 = .ok (.lstore_n 1, 1) := by decide +kernel
theorem d_m_hexadecimal_12 : decode b_m_hexadecimal 12 = .ok (.lconst 0, 1) := by decide +kernel
theorem d_m_hexadecimal_13 : decode b_m_hexadecimal 13 = .ok (.lstore_n 3, 1) := by decide +kernel
theorem d_m_hexadecimal_14 : decode b_m_hexadecimal 14 = .ok (.iconst 0, 1) := by decide +kernel
theorem d_m_hexadecimal_15 : decode b_m_hexadecimal 15 = .ok (.istore 5, 2) := by decide +kernel
theorem d_m_hexadecimal_17 : decode b_m_hexadecimal 17 = .ok (.iconst 0, 1) := by decide +kernel
theorem d_m_hexadecimal_18 : decode b_m_hexadecimal 18 = .ok (.istore 6, 2) := by decide +kernel
theorem d_m_hexadecimal_20 : decode b_m_hexadecimal 20 = .ok (.iconst 0, 1) := by decide +kernel
theorem d_m_hexadecimal_21 : decode b_m_hexadecimal 21 = .ok (.istore 7, 2) := by decide +kernel
theorem d_m_hexadecimal_23 : decode b_m_hexadecimal 23 = .ok (.aload_n 0, 1) := by decide +kernel
theorem d_m_hexadecimal_24 : decode b_m_hexadecimal 24 = .ok (.invokevirtual 181, 3) := by decide +kernel
theorem d_m_hexadecimal_27 : decode b_m_hexadecimal 27 = .ok (.ifCond .ge 17, 3) := by decide +kernel
theorem d_m_hexadecimal_30 : decode b_m_hexadecimal 30 = .ok (.aload_n 0, 1) := by decide +kernel
theorem d_m_hexadecimal_31 : decode b_m_hexadecimal 31 = .ok (.bipush 46, 2) := by decide +kernel
theorem d_m_hexadecimal_33 : decode b_m_hexadecimal 33 = .ok (.invokevirtual 110, 3) := by decide +kernel
theorem d_m_hexadecimal_36 : decode b_m_hexadecimal 36 = .ok (.ifCond .eq 105, 3) := by decide +kernel
theorem d_m_hexadecimal_39 : decode b_m_hexadecimal 39 = .ok (.iload 6, 2) := by decide +kernel
theorem d_m_hexadecimal_41 : decode b_m_hexadecimal 41 = .ok (.ifCond .ne 100, 3) := by decide +kernel
theorem d_m_hexadecimal_44 : decode b_m_hexadecimal 44 = .ok (.aload_n 0, 1) := by decide +kernel
theorem d_m_hexadecimal_45 : decode b_m_hexadecimal 45 = .ok (.bipush 46, 2) := by decide +kernel
theorem d_m_hexadecimal_47 : decode b_m_hexadecimal 47 = .ok (.invokevirtual 110, 3) := by decide +kernel
theorem d_m_hexadecimal_50 : decode b_m_hexadecimal 50 = .ok (.ifCond .eq 19, 3) := by decide +kernel
theorem d_m_hexadecimal_53 : decode b_m_hexadecimal 53 = .ok (.iconst 1, 1) := by decide +kernel
theorem d_m_hexadecimal_54 : decode b_m_hexadecimal 54 = .ok (.istore 6, 2) := by decide +kernel
theorem d_m_hexadecimal_56 : decode b_m_hexadecimal 56 = .ok (.aload_n 0, 1) := by decide +kernel
theorem d_m_hexadecimal_57 : decode b_m_hexadecimal 57 = .ok (.dup, 1) := by decide +kernel
theorem d_m_hexadecimal_58 : decode b_m_hexadecimal 58 = .ok (.getfield 94, 3) := by decide +kernel
theorem d_m_hexadecimal_61 : decode b_m_hexadecimal 61 = .ok (.iconst 1, 1) := by decide +kernel
theorem d_m_hexadecimal_62 : decode b_m_hexadecimal 62 = .ok (.iadd, 1) := by decide +kernel
theorem d_m_hexadecimal_63 : decode b_m_hexadecimal 63 = .ok (.putfield 94, 3) := by decide +kernel
theorem d_m_hexadecimal_66 : decode b_m_hexadecimal 66 = .ok (.goto (-43), 3) := by decide +kernel
theorem d_m_hexadecimal_69 : decode b_m_hexadecimal 69 = .ok (.aload_n 0, 1) := by decide +kernel
theorem d_m_hexadecimal_70 : decode b_m_hexadecimal 70 = .ok (.invokevirtual 181, 3) := by decide +kernel
theorem d_m_hexadecimal_73 : decode b_m_hexadecimal 73 = .ok (.istore 8, 2) := by decide +kernel
theorem d_m_hexadecimal_75 : decode b_m_hexadecimal 75 = .ok (.iinc 7 1, 3) := by decide +kernel
theorem d_m_hexadecimal_78 : decode b_m_hexadecimal 78 = .ok (.aload_n 0, 1) := by decide +kernel
theorem d_m_hexadecimal_79 : decode b_m_hexadecimal 79 = .ok (.dup, 1) := by decide +kernel
theorem d_m_hexadecimal_80 : decode b_m_hexadecimal 80 = .ok (.getfield 94, 3) := by decide +kernel
theorem d_m_hexadecimal_83 : decode b_m_hexadecimal 83 = .ok (.iconst 1, 1) := by decide +kernel
theorem d_m_hexadecimal_84 : decode b_m_hexadecimal 84 = .ok (.iadd, 1) := by decide +kernel
theorem d_m_hexadecimal_85 : decode b_m_hexadecimal 85 = .ok (.putfield 94, 3) := by decide +kernel
theorem d_m_hexadecimal_88 : decode b_m_hexadecimal 88 = .ok (.lload_n 1, 1) := by decide +kernel
theorem d_m_hexadecimal_89 : decode b_m_hexadecimal 89 = .ok (.bipush 58, 2) := by decide +kernel
theorem d_m_hexadecimal_91 : decode b_m_hexadecimal 91 = .ok (.lushr, 1) := by decide +kernel
theorem d_m_hexadecimal_92 : decode b_m_hexadecimal 92 = .ok (.lconst 0, 1) := by decide +kernel
theorem d_m_hexadecimal_93 : decode b_m_hexadecimal 93 = .ok (.lcmp, 1) := by decide +kernel
theorem d_m_hexadecimal_94 : decode b_m_hexadecimal 94 = .ok (.ifCond .ne 25, 3) := by decide +kernel
theorem d_m_hexadecimal_97 : decode b_m_hexadecimal 97 = .ok (.lload_n 1, 1) := by decide +kernel
theorem d_m_hexadecimal_98 : decode b_m_hexadecimal 98 = .ok (.iconst 4, 1) := by decide +kernel
theorem d_m_hexadecimal_99 : decode b_m_hexadecimal 99 = .ok (.lshl, 1) := by decide +kernel
theorem d_m_hexadecimal_100 : decode b_m_hexadecimal 100 = .ok (.iload 8, 2) := by decide +kernel
theorem d_m_hexadecimal_102 : decode b_m_hexadecimal 102 = .ok (.i2l, 1) := by decide +kernel
theorem d_m_hexadecimal_103 : decode b_m_hexadecimal 103 = .ok (.lor, 1) := by decide +kernel
theorem d_m_hexadecimal_104 : decode b_m_hexadecimal 104 = .ok (.lstore_n 1, 1) := by decide +kernel
theorem d_m_hexadecimal_105 : decode b_m_hexadecimal 105 = .ok (.iload 6, 2) := by decide +kernel
theorem d_m_hexadecimal_107 : decode b_m_hexadecimal 107 = .ok (.ifCond .eq 31, 3) := by decide +kernel
theorem d_m_hexadecimal_110 : decode b_m_hexadecimal 110 = .ok (.lload_n 3, 1) := by decide +kernel
theorem d_m_hexadecimal_111 : decode b_m_hexadecimal 111 = .ok (.ldc2_w 184, 3) := by decide +kernel
theorem d_m_hexadecimal_114 : decode b_m_hexadecimal 114 = .ok (.lsub, 1) := by decide +kernel
theorem d_m_hexadecimal_115 : decode b_m_hexadecimal 115 = .ok (.lstore_n 3, 1) := by decide +kernel
theorem d_m_hexadecimal_116 : decode b_m_hexadecimal 116 = .ok (.goto 22, 3) := by decide +kernel
theorem d_m_hexadecimal_119 : decode b_m_hexadecimal 119 = .ok (.iload 8, 2) := by decide +kernel
theorem d_m_hexadecimal_121 : decode b_m_hexadecimal 121 = .ok (.ifCond .eq 6, 3) := by decide +kernel
theorem d_m_hexadecimal_124 : decode b_m_hexadecimal 124 = .ok (.iconst 1, 1) := by decide +kernel
theorem d_m_hexadecimal_125 : decode b_m_hexadecimal 125 = .ok (.istore 5, 2) := by decide +kernel
theorem d_m_hexadecimal_127 : decode b_m_hexadecimal 127 = .ok (.iload 6, 2) := by decide +kernel
theorem d_m_hexadecimal_129 : decode b_m_hexadecimal 129 = .ok (.ifCond .ne 9, 3) := by decide +kernel
theorem d_m_hexadecimal_132 : decode b_m_hexadecimal 132 = .ok (.lload_n 3, 1) := by decide +kernel
theorem d_m_hexadecimal_133 : decode b_m_hexadecimal 133 = .ok (.ldc2_w 184, 3) := by decide +kernel
theorem d_m_hexadecimal_136 : decode b_m_hexadecimal 136 = .ok (.ladd, 1) := by decide +kernel
theorem d_m_hexadecimal_137 : decode b_m_hexadecimal 137 = .ok (.lstore_n 3, 1) := by decide +kernel
theorem d_m_hexadecimal_138 : decode b_m_hexadecimal 138 = .ok (.goto (-115), 3) := by decide +kernel
theorem d_m_hexadecimal_141 : decode b_m_hexadecimal 141 = .ok (.iload 7, 2) := by decide +kernel
theorem d_m_hexadecimal_143 : decode b_m_hexadecimal 143 = .ok (.ifCond .eq 21, 3) := by decide +kernel
theorem d_m_hexadecimal_146 : decode b_m_hexadecimal 146 = .ok (.aload_n 0, 1) := by decide +kernel
theorem d_m_hexadecimal_147 : decode b_m_hexadecimal 147 = .ok (.bipush 112, 2) := by decide +kernel
theorem d_m_hexadecimal_149 : decode b_m_hexadecimal 149 = .ok (.invokevirtual 110, 3) := by decide +kernel
theorem d_m_hexadecimal_152 : decode b_m_hexadecimal 152 = .ok (.ifCond .ne 16, 3) := by decide +kernel
theorem d_m_hexadecimal_155 : decode b_m_hexadecimal 155 = .ok (.aload_n 0, 1) := by decide +kernel
theorem d_m_hexadecimal_156 : decode b_m_hexadecimal 156 = .ok (.bipush 80, 2) := by decide +kernel
theorem d_m_hexadecimal_158 : decode b_m_hexadecimal 158 = .ok (.invokevirtual 110, 3) := by decide +kernel
theorem d_m_hexadecimal_161 : decode b_m_hexadecimal 161 = .ok (.ifCond .ne 7, 3) := by decide +kernel
theorem d_m_hexadecimal_164 : decode b_m_hexadecimal 164 = .ok (.ldc2_w 151, 3) := by decide +kernel
theorem d_m_hexadecimal_167 : decode b_m_hexadecimal 167 = .ok (.lreturn, 1) := by decide +kernel
theorem d_m_hexadecimal_168 : decode b_m_hexadecimal 168 = .ok (.aload_n 0, 1) := by decide +kernel
theorem d_m_hexadecimal_169 : decode b_m_hexadecimal 169 = .ok (.dup, 1) := by decide +kernel
theorem d_m_hexadecimal_170 : decode b_m_hexadecimal 170 = .ok (.getfield 94, 3) := by decide +kernel
theorem d_m_hexadecimal_173 : decode b_m_hexadecimal 173 = .ok (.iconst 1, 1) := by decide +kernel
theorem d_m_hexadecimal_174 : decode b_m_hexadecimal 174 = .ok (.iadd, 1) := by decide +kernel
theorem d_m_hexadecimal_175 : decode b_m_hexadecimal 175 = .ok (.putfield 94, 3) := by decide +kernel
theorem d_m_hexadecimal_178 : decode b_m_hexadecimal 178 = .ok (.aload_n 0, 1) := by decide +kernel
theorem d_m_hexadecimal_179 : decode b_m_hexadecimal 179 = .ok (.invokevirtual 153, 3) := by decide +kernel
theorem d_m_hexadecimal_182 : decode b_m_hexadecimal 182 = .ok (.lstore 8, 2) := by decide +kernel
theorem d_m_hexadecimal_184 : decode b_m_hexadecimal 184 = .ok (.lload 8, 2) := by decide +kernel
theorem d_m_hexadecimal_186 : decode b_m_hexadecimal 186 = .ok (.ldc2_w 55, 3) := by decide +kernel
theorem d_m_hexadecimal_189 : decode b_m_hexadecimal 189 = .ok (.lcmp, 1) := by decide +kernel
theorem d_m_hexadecimal_190 : decode b_m_hexadecimal 190 = .ok (.ifCond .ne 7, 3) := by decide +kernel
theorem d_m_hexadecimal_193 : decode b_m_hexadecimal 193 = .ok (.ldc2_w 151, 3) := by decide +kernel
theorem d_m_hexadecimal_196 : decode b_m_hexadecimal 196 = .ok (.lreturn, 1) := by decide +kernel
theorem d_m_hexadecimal_197 : decode b_m_hexadecimal 197 = .ok (.aload_n 0, 1) := by decide +kernel
theorem d_m_hexadecimal_198 : decode b_m_hexadecimal 198 = .ok (.lload_n 1, 1) := by decide +kernel
theorem d_m_hexadecimal_199 : decode b_m_hexadecimal 199 = .ok (.lload_n 3, 1) := by decide +kernel
theorem d_m_hexadecimal_200 : decode b_m_hexadecimal 200 = .ok (.lload 8, 2) := by decide +kernel
theorem d_m_hexadecimal_202 : decode b_m_hexadecimal 202 = .ok (.ladd, 1) := by decide +kernel
theorem d_m_hexadecimal_203 : decode b_m_hexadecimal 203 = .ok (.iload 5, 2) := by decide +kernel
theorem d_m_hexadecimal_205 : decode b_m_hexadecimal 205 = .ok (.invokevirtual 186, 3) := by decide +kernel
theorem d_m_hexadecimal_208 : decode b_m_hexadecimal 208 = .ok (.lreturn, 1) := by decide +kernel
theorem d_m_rounded_0 : decode b_m_rounded 0 = .ok (.lload_n 1, 1) := by decide +kernel
theorem d_m_rounded_1 : decode b_m_rounded 1 = .ok (.lconst 0, 1) := by decide +kernel
theorem d_m_rounded_2 : decode b_m_rounded 2 = .ok (.lcmp, 1) := by decide +kernel
theorem d_m_rounded_3 : decode b_m_rounded 3 = .ok (.ifCond .ne 5, 3) := by decide +kernel
theorem d_m_rounded_6 : decode b_m_rounded 6 = .ok (.lconst 0, 1) := by decide +kernel
theorem d_m_rounded_7 : decode b_m_rounded 7 = .ok (.lreturn, 1) := by decide +kernel
theorem d_m_rounded_8 : decode b_m_rounded 8 = .ok (.bipush 64, 2) := by decide +kernel
theorem d_m_rounded_10 : decode b_m_rounded 10 = .ok (.lload_n 1, 1) := by decide +kernel
theorem d_m_rounded_11 : decode b_m_rounded 11 = .ok (.invokestatic 190, 3) := by decide +kernel
theorem d_m_rounded_14 : decode b_m_rounded 14 = .ok (.isub, 1) := by decide +kernel
theorem d_m_rounded_15 : decode b_m_rounded 15 = .ok (.istore 6, 2) := by decide +kernel
theorem d_m_rounded_17 : decode b_m_rounded 17 = .ok (.lload_n 3, 1) := by decide +kernel
theorem d_m_rounded_18 : decode b_m_rounded 18 = .ok (.iload 6, 2) := by decide +kernel
theorem d_m_rounded_20 : decode b_m_rounded 20 = .ok (.i2l, 1) := by decide +kernel
theorem d_m_rounded_21 : decode b_m_rounded 21 = .ok (.ladd, 1) := by decide +kernel
theorem d_m_rounded_22 : decode b_m_rounded 22 = .ok (.lstore 7, 2) := by decide +kernel
theorem d_m_rounded_24 : decode b_m_rounded 24 = .ok (.lload 7, 2) := by decide +kernel
theorem d_m_rounded_26 : decode b_m_rounded 26 = .ok (.ldc2_w 193, 3) := by decide +kernel
theorem d_m_rounded_29 : decode b_m_rounded 29 = .ok (.lcmp, 1) := by decide +kernel
theorem d_m_rounded_30 : decode b_m_rounded 30 = .ok (.ifCond .le 8, 3) := by decide +kernel
theorem d_m_rounded_33 : decode b_m_rounded 33 = .ok (.aload_n 0, 1) := by decide +kernel
theorem d_m_rounded_34 : decode b_m_rounded 34 = .ok (.invokevirtual 59, 3) := by decide +kernel
theorem d_m_rounded_37 : decode b_m_rounded 37 = .ok (.lreturn, 1) := by decide +kernel
theorem d_m_rounded_38 : decode b_m_rounded 38 = .ok (.lload 7, 2) := by decide +kernel
theorem d_m_rounded_40 : decode b_m_rounded 40 = .ok (.ldc2_w 195, 3) := by decide +kernel
theorem d_m_rounded_43 : decode b_m_rounded 43 = .ok (.lcmp, 1) := by decide +kernel
theorem d_m_rounded_44 : decode b_m_rounded 44 = .ok (.ifCond .ge 5, 3) := by decide +kernel
theorem d_m_rounded_47 : decode b_m_rounded 47 = .ok (.lconst 0, 1) := by decide +kernel
theorem d_m_rounded_48 : decode b_m_rounded 48 = .ok (.lreturn, 1) := by decide +kernel
theorem d_m_rounded_49 : decode b_m_rounded 49 = .ok (.lload 7, 2) := by decide +kernel
theorem d_m_rounded_51 : decode b_m_rounded 51 = .ok (.l2i, 1) := by decide +kernel
theorem d_m_rounded_52 : decode b_m_rounded 52 = .ok (.aload_n 0, 1) := by decide +kernel
theorem d_m_rounded_53 : decode b_m_rounded 53 = .ok (.getfield 45, 3) := by decide +kernel
theorem d_m_rounded_56 : decode b_m_rounded 56 = .ok (.isub, 1) := by decide +kernel
theorem d_m_rounded_57 : decode b_m_rounded 57 = .ok (.aload_n 0, 1) := by decide +kernel
theorem d_m_rounded_58 : decode b_m_rounded 58 = .ok (.getfield 48, 3) := by decide +kernel
theorem d_m_rounded_61 : decode b_m_rounded 61 = .ok (.if_icmp .le 14, 3) := by decide +kernel
theorem d_m_rounded_64 : decode b_m_rounded 64 = .ok (.lload 7, 2) := by decide +kernel
theorem d_m_rounded_66 : decode b_m_rounded 66 = .ok (.l2i, 1) := by decide +kernel
theorem d_m_rounded_67 : decode b_m_rounded 67 = .ok (.aload_n 0, 1) := by decide +kernel
theorem d_m_rounded_68 : decode b_m_rounded 68 = .ok (.getfield 45, 3) := by decide +kernel
theorem d_m_rounded_71 : decode b_m_rounded 71 = .ok (.isub, 1) := by decide +kernel
theorem d_m_rounded_72 : decode b_m_rounded 72 = .ok (.goto 7, 3) := by decide +kernel
theorem d_m_rounded_75 : decode b_m_rounded 75 = .ok (.aload_n 0, 1) := by decide +kernel
theorem d_m_rounded_76 : decode b_m_rounded 76 = .ok (.getfield 48, 3) := by decide +kernel
theorem d_m_rounded_79 : decode b_m_rounded 79 = .ok (.istore 9, 2) := by decide +kernel
theorem d_m_rounded_81 : decode b_m_rounded 81 = .ok (.iload 9, 2) := by decide +kernel
theorem d_m_rounded_83 : decode b_m_rounded 83 = .ok (.lload_n 3, 1) := by decide +kernel
theorem d_m_rounded_84 : decode b_m_rounded 84 = .ok (.l2i, 1) := by decide +kernel
theorem d_m_rounded_85 : decode b_m_rounded 85 = .ok (.isub, 1) := by decide +kernel
theorem d_m_rounded_86 : decode b_m_rounded 86 = .ok (.istore 10, 2) := by decide +kernel
theorem d_m_rounded_88 : decode b_m_rounded 88 = .ok (.iload 10, 2) := by decide +kernel
theorem d_m_rounded_90 : decode b_m_rounded 90 = .ok (.ifCond .gt 13, 3) := by decide +kernel
theorem d_m_rounded_93 : decode b_m_rounded 93 = .ok (.lload_n 1, 1) := by decide +kernel
theorem d_m_rounded_94 : decode b_m_rounded 94 = .ok (.iload 10, 2) := by decide +kernel
theorem d_m_rounded_96 : decode b_m_rounded 96 = .ok (.ineg, 1) := by decide +kernel
theorem d_m_rounded_97 : decode b_m_rounded 97 = .ok (.lshl, 1) := by decide +kernel
theorem d_m_rounded_98 : decode b_m_rounded 98 = .ok (.lstore 11, 2) := by decide +kernel
theorem d_m_rounded_100 : decode b_m_rounded 100 = .ok (.goto 97, 3) := by decide +kernel
theorem d_m_rounded_103 : decode b_m_rounded 103 = .ok (.iload 10, 2) := by decide +kernel
theorem d_m_rounded_105 : decode b_m_rounded 105 = .ok (.iload 6, 2) := by decide +kernel
theorem d_m_rounded_107 : decode b_m_rounded 107 = .ok (.if_icmp .le 9, 3) := by decide +kernel
theorem d_m_rounded_110 : decode b_m_rounded 110 = .ok (.lconst 0, 1) := by decide +kernel
theorem d_m_rounded_111 : decode b_m_rounded 111 = .ok (.lstore 11, 2) := by decide +kernel
theorem d_m_rounded_113 : decode b_m_rounded 113 = .ok (.goto 84, 3) := by decide +kernel
theorem d_m_rounded_116 : decode b_m_rounded 116 = .ok (.iload 10, 2) := by decide +kernel
theorem d_m_rounded_118 : decode b_m_rounded 118 = .ok (.bipush 63, 2) := by decide +kernel
theorem d_m_rounded_120 : decode b_m_rounded 120 = .ok (.if_icmp .le 7, 3) := by decide +kernel
theorem d_m_rounded_123 : decode b_m_rounded 123 = .ok (.lconst 0, 1) := by decide +kernel
theorem d_m_rounded_124 : decode b_m_rounded 124 = .ok (.goto 7, 3) := by decide +kernel
theorem d_m_rounded_127 : decode b_m_rounded 127 = .ok (.lload_n 1, 1) := by decide +kernel
theorem d_m_rounded_128 : decode b_m_rounded 128 = .ok (.iload 10, 2) := by decide +kernel
theorem d_m_rounded_130 : decode b_m_rounded 130 = .ok (.lushr, 1) := by decide +kernel
theorem d_m_rounded_131 : decode b_m_rounded 131 = .ok (.lstore 11, 2) := by decide +kernel
theorem d_m_rounded_133 : decode b_m_rounded 133 = .ok (.lload_n 1, 1) := by decide +kernel
theorem d_m_rounded_134 : decode b_m_rounded 134 = .ok (.iload 10, 2) := by decide +kernel
theorem d_m_rounded_136 : decode b_m_rounded 136 = .ok (.bipush 63, 2) := by decide +kernel
theorem d_m_rounded_138 : decode b_m_rounded 138 = .ok (.if_icmp .le 7, 3) := by decide +kernel
theorem d_m_rounded_141 : decode b_m_rounded 141 = .ok (.lconst 0, 1) := by decide +kernel
theorem d_m_rounded_142 : decode b_m_rounded 142 = .ok (.goto 8, 3) := by decide +kernel
theorem d_m_rounded_145 : decode b_m_rounded 145 = .ok (.lload 11, 2) := by decide +kernel
theorem d_m_rounded_147 : decode b_m_rounded 147 = .ok (.iload 10, 2) := by decide +kernel
theorem d_m_rounded_149 : decode b_m_rounded 149 = .ok (.lshl, 1) := by decide +kernel
theorem d_m_rounded_150 : decode b_m_rounded 150 = .ok (.lsub, 1) := by decide +kernel
theorem d_m_rounded_151 : decode b_m_rounded 151 = .ok (.lstore 13, 2) := by decide +kernel
theorem d_m_rounded_153 : decode b_m_rounded 153 = .ok (.lconst 1, 1) := by decide +kernel
theorem d_m_rounded_154 : decode b_m_rounded 154 = .ok (.iload 10, 2) := by decide +kernel
theorem d_m_rounded_156 : decode b_m_rounded 156 = .ok (.iconst 1, 1) := by decide +kernel
theorem d_m_rounded_157 : decode b_m_rounded 157 = .ok (.isub, 1) := by decide +kernel
theorem d_m_rounded_158 : decode b_m_rounded 158 = .ok (.lshl, 1) := by decide +kernel
theorem d_m_rounded_159 : decode b_m_rounded 159 = .ok (.lstore 15, 2) := by decide +kernel
theorem d_m_rounded_161 : decode b_m_rounded 161 = .ok (.lload 13, 2) := by decide +kernel
theorem d_m_rounded_163 : decode b_m_rounded 163 = .ok (.lload 15, 2) := by decide +kernel
theorem d_m_rounded_165 : decode b_m_rounded 165 = .ok (.lcmp, 1) := by decide +kernel
theorem d_m_rounded_166 : decode b_m_rounded 166 = .ok (.ifCond .gt 25, 3) := by decide +kernel
theorem d_m_rounded_169 : decode b_m_rounded 169 = .ok (.lload 13, 2) := by decide +kernel
theorem d_m_rounded_171 : decode b_m_rounded 171 = .ok (.lload 15, 2) := by decide +kernel
theorem d_m_rounded_173 : decode b_m_rounded 173 = .ok (.lcmp, 1) := by decide +kernel
theorem d_m_rounded_174 : decode b_m_rounded 174 = .ok (.ifCond .ne 23, 3) := by decide +kernel
theorem d_m_rounded_177 : decode b_m_rounded 177 = .ok (.iload 5, 2) := by decide +kernel
theorem d_m_rounded_179 : decode b_m_rounded 179 = .ok (.ifCond .ne 12, 3) := by decide +kernel
theorem d_m_rounded_182 : decode b_m_rounded 182 = .ok (.lload 11, 2) := by decide +kernel
theorem d_m_rounded_184 : decode b_m_rounded 184 = .ok (.lconst 1, 1) := by decide +kernel
theorem d_m_rounded_185 : decode b_m_rounded 185 = .ok (.land, 1) := by decide +kernel
theorem d_m_rounded_186 : decode b_m_rounded 186 = .ok (.lconst 1, 1) := by decide +kernel
theorem d_m_rounded_187 : decode b_m_rounded 187 = .ok (.lcmp, 1) := by decide +kernel
theorem d_m_rounded_188 : decode b_m_rounded 188 = .ok (.ifCond .ne 9, 3) := by decide +kernel
theorem d_m_rounded_191 : decode b_m_rounded 191 = .ok (.lload 11, 2) := by decide +kernel
theorem d_m_rounded_193 : decode b_m_rounded 193 = .ok (.lconst 1, 1) := by decide +kernel
theorem d_m_rounded_194 : decode b_m_rounded 194 = .ok (.ladd, 1) := by decide +kernel
theorem d_m_rounded_195 : decode b_m_rounded 195 = .ok (.lstore 11, 2) := by decide +kernel
theorem d_m_rounded_197 : decode b_m_rounded 197 = .ok (.lload 11, 2) := by decide +kernel
theorem d_m_rounded_199 : decode b_m_rounded 199 = .ok (.ldc2_w 163, 3) := by decide +kernel
theorem d_m_rounded_202 : decode b_m_rounded 202 = .ok (.aload_n 0, 1) := by decide +kernel
theorem d_m_rounded_203 : decode b_m_rounded 203 = .ok (.invokevirtual 63, 3) := by decide +kernel
theorem d_m_rounded_206 : decode b_m_rounded 206 = .ok (.lmul, 1) := by decide +kernel
theorem d_m_rounded_207 : decode b_m_rounded 207 = .ok (.lconst 1, 1) := by decide +kernel
theorem d_m_rounded_208 : decode b_m_rounded 208 = .ok (.ladd, 1) := by decide +kernel
theorem d_m_rounded_209 : decode b_m_rounded 209 = .ok (.lcmp, 1) := by decide +kernel
theorem d_m_rounded_210 : decode b_m_rounded 210 = .ok (.ifCond .le 12, 3) := by decide +kernel
theorem d_m_rounded_213 : decode b_m_rounded 213 = .ok (.lload 11, 2) := by decide +kernel
theorem d_m_rounded_215 : decode b_m_rounded 215 = .ok (.iconst 1, 1) := by decide +kernel
theorem d_m_rounded_216 : decode b_m_rounded 216 = .ok (.lshr, 1) := by decide +kernel
theorem d_m_rounded_217 : decode b_m_rounded 217 = .ok (.lstore 11, 2) := by decide +kernel
theorem d_m_rounded_219 : decode b_m_rounded 219 = .ok (.iinc 9 1, 3) := by decide +kernel
theorem d_m_rounded_222 : decode b_m_rounded 222 = .ok (.lload 11, 2) := by decide +kernel
theorem d_m_rounded_224 : decode b_m_rounded 224 = .ok (.aload_n 0, 1) := by decide +kernel
theorem d_m_rounded_225 : decode b_m_rounded 225 = .ok (.invokevirtual 63, 3) := by decide +kernel
theorem d_m_rounded_228 : decode b_m_rounded 228 = .ok (.lcmp, 1) := by decide +kernel
theorem d_m_rounded_229 : decode b_m_rounded 229 = .ok (.ifCond .gt 6, 3) := by decide +kernel
theorem d_m_rounded_232 : decode b_m_rounded 232 = .ok (.lload 11, 2) := by decide +kernel
theorem d_m_rounded_234 : decode b_m_rounded 234 = .ok (.lreturn, 1) := by decide +kernel
theorem d_m_rounded_235 : decode b_m_rounded 235 = .ok (.iload 9, 2) := by decide +kernel
theorem d_m_rounded_237 : decode b_m_rounded 237 = .ok (.aload_n 0, 1) := by decide +kernel
theorem d_m_rounded_238 : decode b_m_rounded 238 = .ok (.getfield 48, 3) := by decide +kernel
theorem d_m_rounded_241 : decode b_m_rounded 241 = .ok (.isub, 1) := by decide +kernel
theorem d_m_rounded_242 : decode b_m_rounded 242 = .ok (.iconst 1, 1) := by decide +kernel
theorem d_m_rounded_243 : decode b_m_rounded 243 = .ok (.iadd, 1) := by decide +kernel
theorem d_m_rounded_244 : decode b_m_rounded 244 = .ok (.i2l, 1) := by decide +kernel
theorem d_m_rounded_245 : decode b_m_rounded 245 = .ok (.lstore 13, 2) := by decide +kernel
theorem d_m_rounded_247 : decode b_m_rounded 247 = .ok (.lload 13, 2) := by decide +kernel
theorem d_m_rounded_249 : decode b_m_rounded 249 = .ok (.aload_n 0, 1) := by decide +kernel
theorem d_m_rounded_250 : decode b_m_rounded 250 = .ok (.invokevirtual 59, 3) := by decide +kernel
theorem d_m_rounded_253 : decode b_m_rounded 253 = .ok (.aload_n 0, 1) := by decide +kernel
theorem d_m_rounded_254 : decode b_m_rounded 254 = .ok (.getfield 45, 3) := by decide +kernel
theorem d_m_rounded_257 : decode b_m_rounded 257 = .ok (.iconst 1, 1) := by decide +kernel
theorem d_m_rounded_258 : decode b_m_rounded 258 = .ok (.isub, 1) := by decide +kernel
theorem d_m_rounded_259 : decode b_m_rounded 259 = .ok (.lushr, 1) := by decide +kernel
theorem d_m_rounded_260 : decode b_m_rounded 260 = .ok (.lcmp, 1) := by decide +kernel
theorem d_m_rounded_261 : decode b_m_rounded 261 = .ok (.ifCond .lt 10, 3) := by decide +kernel
theorem d_m_rounded_264 : decode b_m_rounded 264 = .ok (.aload_n 0, 1) := by decide +kernel
theorem d_m_rounded_265 : decode b_m_rounded 265 = .ok (.invokevirtual 59, 3) := by decide +kernel
theorem d_m_rounded_268 : decode b_m_rounded 268 = .ok (.goto 20, 3) := by decide +kernel
theorem d_m_rounded_271 : decode b_m_rounded 271 = .ok (.lload 13, 2) := by decide +kernel
theorem d_m_rounded_273 : decode b_m_rounded 273 = .ok (.aload_n 0, 1) := by decide +kernel
theorem d_m_rounded_274 : decode b_m_rounded 274 = .ok (.getfield 45, 3) := by decide +kernel
theorem d_m_rounded_277 : decode b_m_rounded 277 = .ok (.iconst 1, 1) := by decide +kernel
theorem d_m_rounded_278 : decode b_m_rounded 278 = .ok (.isub, 1) := by decide +kernel
theorem d_m_rounded_279 : decode b_m_rounded 279 = .ok (.lshl, 1) := by decide +kernel
theorem d_m_rounded_280 : decode b_m_rounded 280 = .ok (.lload 11, 2) := by decide +kernel
theorem d_m_rounded_282 : decode b_m_rounded 282 = .ok (.aload_n 0, 1) := by decide +kernel
theorem d_m_rounded_283 : decode b_m_rounded 283 = .ok (.invokevirtual 63, 3) := by decide +kernel
theorem d_m_rounded_286 : decode b_m_rounded 286 = .ok (.land, 1) := by decide +kernel
theorem d_m_rounded_287 : decode b_m_rounded 287 = .ok (.lor, 1) := by decide +kernel
theorem d_m_rounded_288 : decode b_m_rounded 288 = .ok (.lreturn, 1) := by decide +kernel
theorem d_m_parse_0 : decode b_m_parse 0 = .ok (.aload_n 0, 1) := by decide +kernel
theorem d_m_parse_1 : decode b_m_parse 1 = .ok (.iconst 1, 1) := by decide +kernel
theorem d_m_parse_2 : decode b_m_parse 2 = .ok (.invokevirtual 197, 3) := by decide +kernel
theorem d_m_parse_5 : decode b_m_parse 5 = .ok (.aload_n 0, 1) := by decide +kernel
theorem d_m_parse_6 : decode b_m_parse 6 = .ok (.invokevirtual 201, 3) := by decide +kernel
theorem d_m_parse_9 : decode b_m_parse 9 = .ok (.lreturn, 1) := by decide +kernel
theorem d_m_parseFloat_0 : decode b_m_parseFloat 0 = .ok (.aload_n 0, 1) := by decide +kernel
theorem d_m_parseFloat_1 : decode b_m_parseFloat 1 = .ok (.iconst 0, 1) := by decide +kernel
theorem d_m_parseFloat_2 : decode b_m_parseFloat 2 = .ok (.invokevirtual 197, 3) := by decide +kernel
theorem d_m_parseFloat_5 : decode b_m_parseFloat 5 = .ok (.aload_n 0, 1) := by decide +kernel
theorem d_m_parseFloat_6 : decode b_m_parseFloat 6 = .ok (.invokevirtual 201, 3) := by decide +kernel
theorem d_m_parseFloat_9 : decode b_m_parseFloat 9 = .ok (.l2i, 1) := by decide +kernel
theorem d_m_parseFloat_10 : decode b_m_parseFloat 10 = .ok (.ireturn, 1) := by decide +kernel
theorem d_r_init_0 : decode b_r_init 0 = .ok (.aload_n 0, 1) := by decide +kernel
theorem d_r_init_1 : decode b_r_init 1 = .ok (.invokespecial 1, 3) := by decide +kernel
theorem d_r_init_4 : decode b_r_init 4 = .ok (.aload_n 0, 1) := by decide +kernel
theorem d_r_init_5 : decode b_r_init 5 = .ok (.sipush 1300, 3) := by decide +kernel
theorem d_r_init_8 : decode b_r_init 8 = .ok (.newarray .byte, 2) := by decide +kernel
theorem d_r_init_10 : decode b_r_init 10 = .ok (.putfield 7, 3) := by decide +kernel
theorem d_r_init_13 : decode b_r_init 13 = .ok (.return_, 1) := by decide +kernel
end
section
/-! what no method changes: the table of powers of ten, String's switch, the String constants, what throwing reads; X: where the table lies, where the constants and their bytes lie -/
abbrev jX : Type := Nat × (Nat → Nat) × (Nat → Nat)
def st_len : List Nat := [3, 8, 1, 1, 1, 1]
def st_byt : List (List Int32) := [[78, 97, 78], [73, 110, 102, 105, 110, 105, 116, 121], [102], [70], [100], [68]]
def jR (X : jX) (U : State) : Prop := (vk_R "DecimalReader" 97 "NaN" (X.2.1 0) U ∧ vk_R "DecimalReader" 103 "Infinity" (X.2.1 1) U ∧ vk_R "DecimalReader" 152 "f" (X.2.1 2) U ∧ vk_R "DecimalReader" 154 "F" (X.2.1 3) U ∧ vk_R "DecimalReader" 156 "d" (X.2.1 4) U ∧ vk_R "DecimalReader" 158 "D" (X.2.1 5) U ∧ vk_R "DecimalReaderModel" 117 "NaN" (X.2.1 0) U ∧ vk_R "DecimalReaderModel" 126 "Infinity" (X.2.1 1) U) ∧ ∃ a1 a2 a3 : Nat, vk_R "DecimalReader" 38 "the tape has no room for 20 bytes more" a1 U ∧ vk_R "DecimalReader" 49 "the tape has no such length to keep" a2 U ∧ vk_R "DecimalReader" 58 "the tape is no number text" a3 U
def jS (A : Nat → Prop) (U : State) (H : Heap) : Prop := va_Zq "jdk/internal/util/Preconditions" "SIOOBE_FORMATTER" "Ljava/util/function/BiFunction;" A U H ∧ vx_Zq "java/lang/Throwable" "UNASSIGNED_STACK" "[Ljava/lang/StackTraceElement;" A U H ∧ vx_Zq "java/lang/Throwable" "SUPPRESSED_SENTINEL" "Ljava/util/List;" A U H
theorem jS.kept {A : Nat → Prop} {U : State} {H H1 : Heap} (h : jS A U H) (hq : ∀ a : Nat, a < H.size → ¬ A a → H1[a]? = H[a]?) : jS A U H1 := ⟨h.1.kept hq, h.2.1.kept hq, h.2.2.kept hq⟩
theorem jS.narrow {A B : Nat → Prop} {U : State} {H : Heap} (h : jS A U H) (hAB : ∀ q, B q → A q) : jS B U H := ⟨h.1.narrow hAB, h.2.1.narrow hAB, h.2.2.narrow hAB⟩
theorem jS.moved {A : Nat → Prop} {u U : State} {H : Heap} (hvm : u.vm.Alike U.vm) (h : jS A u H) : jS A U H := ⟨h.1.moved hvm, h.2.1.moved hvm, h.2.2.moved hvm⟩
def jE (X : jX) (A : Nat → Prop) (U : State) (H : Heap) : Prop := va_Z "DecimalReader$Value" "POWERS_OF_TEN" "[I" (.ref X.1) A U H ∧ va_T .int X.1 9 (fun j => .int (nI (10 ^ j))) A U H ∧ va_Z "java/lang/String" "COMPACT_STRINGS" "Z" (.int 1) A U H ∧ vk_S 6 st_len st_byt X.2.1 X.2.2 A U H ∧ jS A U H ∧ jR X U
theorem jE.kept {X : jX} {A : Nat → Prop} {U : State} {H H1 : Heap} (h : jE X A U H) (hq : ∀ a : Nat, a < H.size → ¬ A a → H1[a]? = H[a]?) : jE X A U H1 := ⟨h.1.kept hq, h.2.1.kept hq, h.2.2.1.kept hq, h.2.2.2.1.kept hq, h.2.2.2.2.1.kept hq, h.2.2.2.2.2⟩
theorem jE.narrow {X : jX} {A B : Nat → Prop} {U : State} {H : Heap} (h : jE X A U H) (hAB : ∀ q, B q → A q) : jE X B U H := ⟨h.1.narrow hAB, h.2.1.narrow hAB, h.2.2.1.narrow hAB, h.2.2.2.1.narrow hAB, h.2.2.2.2.1.narrow hAB, h.2.2.2.2.2⟩
theorem jR.warm {X : jX} {s U : State} (hW : s.WarmedH U.vm) (h : jR X s) : jR X U := by
  obtain ⟨⟨h1, h2, h3, h4, h5, h6, h7, h8⟩, a1, a2, a3, k1, k2, k3⟩ := h
  exact ⟨⟨h1.warm hW, h2.warm hW, h3.warm hW, h4.warm hW, h5.warm hW, h6.warm hW, h7.warm hW, h8.warm hW⟩, a1, a2, a3, k1.warm hW, k2.warm hW, k3.warm hW⟩
theorem jR.same {X : jX} {u U : State} (hv : U.vm = u.vm) (h : jR X u) : jR X U := by
  obtain ⟨⟨h1, h2, h3, h4, h5, h6, h7, h8⟩, a1, a2, a3, k1, k2, k3⟩ := h
  exact ⟨⟨h1.same hv, h2.same hv, h3.same hv, h4.same hv, h5.same hv, h6.same hv, h7.same hv, h8.same hv⟩, a1, a2, a3, k1.same hv, k2.same hv, k3.same hv⟩
theorem jE.warm {X : jX} {A : Nat → Prop} {s U : State} {H : Heap} (hW : s.WarmedH U.vm) (h : jE X A s H) : jE X A U H := ⟨va_Z.moved hW.alike h.1, va_T.moved hW.alike h.2.1, va_Z.moved hW.alike h.2.2.1, vk_S.moved hW.alike h.2.2.2.1, jS.moved hW.alike h.2.2.2.2.1, h.2.2.2.2.2.warm hW⟩
theorem jE.same {X : jX} {A : Nat → Prop} {u U : State} {H : Heap} (hv : U.vm = u.vm) (h : jE X A u H) : jE X A U H := by
  have ha : u.vm.Alike U.vm := by rw [hv]; exact Vm.Alike.refl _
  exact ⟨va_Z.moved ha h.1, va_T.moved ha h.2.1, va_Z.moved ha h.2.2.1, vk_S.moved ha h.2.2.2.1, jS.moved ha h.2.2.2.2.1, h.2.2.2.2.2.same hv⟩
end
section
/-! THE J KIT: J .. pc L S w: from pc, with locals L (by place; none: not known), stack S, and a heap that holds the world w, the machine comes to Q -/
def jp : Nat → List (Option Value) → List (Nat × Value)
  | _, [] => []
  | i, none :: T => jp (i + 1) T
  | i, some v :: T => (i, v) :: jp (i + 1) T
theorem jp_mem : ∀ (L : List (Option Value)) (i j : Nat) (v : Value), (j, v) ∈ jp i L ↔ ∃ k, j = i + k ∧ L[k]? = some (some v)
  | [], i, j, v => by simp [jp]
  | none :: T, i, j, v => by
    rw [jp, jp_mem T (i + 1) j v]
    constructor
    · rintro ⟨k, hk, h⟩
      exact ⟨k + 1, by omega, by simpa using h⟩
    · rintro ⟨k, hk, h⟩
      cases k with
      | zero => simp at h
      | succ k => exact ⟨k, by omega, by simpa using h⟩
  | some u :: T, i, j, v => by
    rw [jp, List.mem_cons, jp_mem T (i + 1) j v]
    constructor
    · rintro (h | ⟨k, hk, h⟩)
      · cases h
        exact ⟨0, rfl, rfl⟩
      · exact ⟨k + 1, by omega, by simpa using h⟩
    · rintro ⟨k, hk, h⟩
      cases k with
      | zero =>
        left
        simp at h
        rw [hk, h]
        rfl
      | succ k =>
        right
        exact ⟨k, by omega, by simpa using h⟩
/-- the locals hold what L says -/
def jl (ls : Array Slot) (nL : Nat) (L : List (Option Value)) : Prop := lv_has ls nL (jp 0 L)
theorem jl_at {ls : Array Slot} {nL : Nat} {L : List (Option Value)} {i : Nat} {v : Value} (h : jl ls nL L) (hi : L[i]? = some (some v)) : ls[i]? = some (.val v) := h.2.2 (i, v) ((jp_mem L 0 i v).mpr ⟨i, by omega, hi⟩)
theorem jl_weak {ls : Array Slot} {nL : Nat} {L L' : List (Option Value)} (h : jl ls nL L) (hw : ∀ (i : Nat) (v : Value), L'[i]? = some (some v) → L[i]? = some (some v)) : jl ls nL L' := by
  refine ⟨h.1, h.2.1, fun q hq => ?_⟩
  obtain ⟨j, v⟩ := q
  obtain ⟨k, hk, h2⟩ := (jp_mem L' 0 j v).mp hq
  have : j = k := by omega
  subst this
  exact jl_at h (hw j v h2)
/-- fewer known locals: each place as it was, or not known -/
def jle : List (Option Value) → List (Option Value) → Prop
  | [], _ => True
  | none :: T, [] => jle T []
  | some _ :: _, [] => False
  | none :: T, _ :: U => jle T U
  | some v :: T, u :: U => some v = u ∧ jle T U
theorem jle_at : ∀ (L' L : List (Option Value)), jle L' L → ∀ (i : Nat) (v : Value), L'[i]? = some (some v) → L[i]? = some (some v)
  | [], _, _, i, v, h => by simp at h
  | none :: T, [], hj, i, v, h => by
    cases i with
    | zero => simp at h
    | succ i =>
      have := jle_at T [] hj i v (by simpa using h)
      simp at this
  | some _ :: _, [], hj, i, v, h => absurd hj id
  | none :: T, _ :: U, hj, i, v, h => by
    cases i with
    | zero => simp at h
    | succ i => simpa using jle_at T U hj i v (by simpa using h)
  | some a :: T, u :: U, hj, i, v, h => by
    cases i with
    | zero =>
      simp at h
      subst h
      simp [hj.1]
    | succ i => simpa using jle_at T U hj.2 i v (by simpa using h)
theorem jl_put1 {ls' : Array Slot} {nL i : Nat} {x : Value} {L L' : List (Option Value)} (h : lv_has ls' nL ((i, x) :: (jp 0 L).filter (fun q => !(q.1 == i) && !(q.1 + 1 == i && q.2.category == 2)))) (hL : ∀ (j : Nat) (v : Value), L'[j]? = some (some v) → (j = i ∧ v = x) ∨ (j ≠ i ∧ ¬ (j + 1 = i ∧ v.category = 2) ∧ L[j]? = some (some v))) : jl ls' nL L' := by
  refine ⟨h.1, h.2.1, fun q hq => ?_⟩
  obtain ⟨j, v⟩ := q
  obtain ⟨k, hk, h2⟩ := (jp_mem L' 0 j v).mp hq
  have hjk : j = k := by omega
  subst hjk
  refine h.2.2 (j, v) ?_
  rcases hL j v h2 with ⟨h3, h4⟩ | ⟨h3, h4, h5⟩
  · rw [h3, h4]
    exact List.mem_cons_self
  · refine List.mem_cons_of_mem _ (List.mem_filter.mpr ⟨(jp_mem L 0 j v).mpr ⟨j, by omega, h5⟩, ?_⟩)
    simp only [Bool.and_eq_true, Bool.not_eq_true', beq_eq_false_iff_ne, Bool.and_eq_false_iff, beq_iff_eq]
    refine ⟨h3, ?_⟩
    by_cases h6 : j + 1 = i
    · right
      intro h7
      exact h4 ⟨h6, h7⟩
    · left
      exact h6
theorem jl_put2 {ls' : Array Slot} {nL i : Nat} {x : Value} {L L' : List (Option Value)} (h : lv_has ls' nL ((i, x) :: (jp 0 L).filter (fun q => !(q.1 == i) && (!(q.1 == i + 1) && !(q.1 + 1 == i && q.2.category == 2))))) (hL : ∀ (j : Nat) (v : Value), L'[j]? = some (some v) → (j = i ∧ v = x) ∨ (j ≠ i ∧ j ≠ i + 1 ∧ ¬ (j + 1 = i ∧ v.category = 2) ∧ L[j]? = some (some v))) : jl ls' nL L' := by
  refine ⟨h.1, h.2.1, fun q hq => ?_⟩
  obtain ⟨j, v⟩ := q
  obtain ⟨k, hk, h2⟩ := (jp_mem L' 0 j v).mp hq
  have hjk : j = k := by omega
  subst hjk
  refine h.2.2 (j, v) ?_
  rcases hL j v h2 with ⟨h3, h4⟩ | ⟨h3, h3b, h4, h5⟩
  · rw [h3, h4]
    exact List.mem_cons_self
  · refine List.mem_cons_of_mem _ (List.mem_filter.mpr ⟨(jp_mem L 0 j v).mpr ⟨j, by omega, h5⟩, ?_⟩)
    simp only [Bool.and_eq_true, Bool.not_eq_true', beq_eq_false_iff_ne, Bool.and_eq_false_iff, beq_iff_eq]
    refine ⟨h3, h3b, ?_⟩
    by_cases h6 : j + 1 = i
    · right
      intro h7
      exact h4 ⟨h6, h7⟩
    · left
      exact h6
/-- does the place before a store hold no long -/
def jok : Option Value → Prop
  | some v => v.category = 1
  | none => True
def jokL : List (Option Value) → Prop
  | [] => True
  | [o] => jok o
  | _ :: o :: T => jokL (o :: T)
theorem jokL_at : ∀ (pre : List (Option Value)), jokL pre → ∀ (j : Nat) (v : Value), j + 1 = pre.length → pre[j]? = some (some v) → v.category = 1
  | [], _, j, v, h, h2 => by simp at h2
  | [o], hk, j, v, h, h2 => by
    have : j = 0 := by simpa using h
    subst this
    simp at h2
    subst h2
    exact hk
  | a :: o :: T, hk, j, v, h, h2 => by
    cases j with
    | zero => simp at h
    | succ j => exact jokL_at (o :: T) hk j v (by simpa using h) (by simpa using h2)
theorem jl_set1 {pre T : List (Option Value)} {o : Option Value} {ls' : Array Slot} {nL : Nat} {x : Value} (hk : jokL pre) (h : lv_has ls' nL ((pre.length, x) :: (jp 0 (pre ++ o :: T)).filter (fun q => !(q.1 == pre.length) && !(q.1 + 1 == pre.length && q.2.category == 2)))) : jl ls' nL (pre ++ some x :: T) := by
  refine jl_put1 h fun j v hv => ?_
  by_cases h1 : j = pre.length
  · left
    subst h1
    simp at hv
    exact ⟨rfl, hv.symm⟩
  · right
    rcases Nat.lt_or_gt_of_ne h1 with h2 | h2
    · rw [List.getElem?_append_left h2] at hv ⊢
      refine ⟨h1, fun h3 => ?_, hv⟩
      have := jokL_at pre hk j v h3.1 hv
      omega
    · rw [List.getElem?_append_right (by omega)] at hv ⊢
      have h3 : j - pre.length = (j - pre.length - 1) + 1 := by omega
      rw [h3, List.getElem?_cons_succ] at hv ⊢
      exact ⟨h1, fun h4 => by omega, hv⟩
theorem jl_set2 {pre T : List (Option Value)} {o o2 : Option Value} {ls' : Array Slot} {nL : Nat} {x : Value} (hk : jokL pre) (h : lv_has ls' nL ((pre.length, x) :: (jp 0 (pre ++ o :: o2 :: T)).filter (fun q => !(q.1 == pre.length) && (!(q.1 == pre.length + 1) && !(q.1 + 1 == pre.length && q.2.category == 2))))) : jl ls' nL (pre ++ some x :: none :: T) := by
  refine jl_put2 h fun j v hv => ?_
  by_cases h1 : j = pre.length
  · left
    subst h1
    simp at hv
    exact ⟨rfl, hv.symm⟩
  · right
    rcases Nat.lt_or_gt_of_ne h1 with h2 | h2
    · rw [List.getElem?_append_left h2] at hv ⊢
      refine ⟨h1, by omega, fun h3 => ?_, hv⟩
      have := jokL_at pre hk j v h3.1 hv
      omega
    · rw [List.getElem?_append_right (by omega)] at hv ⊢
      have h3 : j - pre.length = (j - pre.length - 1) + 1 := by omega
      rw [h3, List.getElem?_cons_succ] at hv ⊢
      by_cases h5 : j = pre.length + 1
      · rw [h5] at hv
        simp at hv
      · have h6 : j - pre.length - 1 = (j - pre.length - 2) + 1 := by omega
        rw [h6, List.getElem?_cons_succ] at hv ⊢
        exact ⟨h1, h5, fun h4 => by omega, hv⟩

/-- the context of a walk -/
def jC (p : Program) (s : State) (m : MethodId) (args : Array Value) (meth : Method) (c : Code) (cc : ByteArray) (nL : Nat) (ret : Option FieldType) (own : String) (D : va_G) (tys : List (ClassId × FieldType)) (A : Nat → Prop) (X : jX) : Prop :=
  p.tables.exec = Jvm.exec ∧ c.code = cc ∧ c.maxLocals = nL ∧ s.vm.findClass own = some m.cls ∧ (∀ w ∈ al_ws, w.before args s = true) ∧ va_K D classes tys s ∧ (∀ q, s.heap.size ≤ q → A q) ∧ meth.sig.returnType = ret ∧ meth.locks = false ∧ jE X A s s.heap
def J (p : Program) (l : Launch) (e : Env) (R : Room) (s : State) (m : MethodId) (args : Array Value) (below : List Frame) (meth : Method) (c : Code) (D : va_G) (A : Nat → Prop) (nL : Nat) (Q : State → Prop) (pc : Nat) (L : List (Option Value)) (S : List Value) (w : va_W) : Prop :=
  ∀ (H : Heap) (locs : List Loc) (ls : Array Slot), jl ls nL L → va_P D classes w H → va_D A w → va_S A s.heap H locs → W p l e R s m args below meth c H locs 0 0 Q (F0 m pc ls S)
section JK
variable {p : Program} {l : Launch} {e : Env} {R : Room} {s : State} {m : MethodId} {args : Array Value} {below : List Frame} {meth : Method} {c : Code} {D : va_G} {A : Nat → Prop} {nL : Nat} {Q : State → Prop} {pc : Nat} {L : List (Option Value)} {S : List Value} {w : va_W}
variable {cc : ByteArray} {ret : Option FieldType} {own : String} {tys : List (ClassId × FieldType)} {X : jX}
theorem J.weak {L' : List (Option Value)} (hj : jle L' L) (k : J p l e R s m args below meth c D A nL Q pc L' S w) : J p l e R s m args below meth c D A nL Q pc L S w := fun H locs ls hl hP hD hS => k H locs ls (jl_weak hl (jle_at L' L hj)) hP hD hS
theorem J.topi {x y : Int32} (h : x = y) (k : J p l e R s m args below meth c D A nL Q pc L (.int y :: S) w) : J p l e R s m args below meth c D A nL Q pc L (.int x :: S) w := h ▸ k
theorem J.topl {x y : Int64} (h : x = y) (k : J p l e R s m args below meth c D A nL Q pc L (.long y :: S) w) : J p l e R s m args below meth c D A nL Q pc L (.long x :: S) w := h ▸ k
theorem J.to {pc' : Nat} {L' : List (Option Value)} {S' : List Value} {w' : va_W} (h1 : pc' = pc) (h2 : L' = L) (h3 : S' = S) (h4 : w' = w) (k : J p l e R s m args below meth c D A nL Q pc' L' S' w') : J p l e R s m args below meth c D A nL Q pc L S w := by
  subst h1 h2 h3 h4; exact k
theorem j_iconst (hC : jC p s m args meth c cc nL ret own D tys A X) {n : Int} {v : Int32} (hd : decode cc pc = .ok (.iconst n, 1)) (hv : Int32.ofInt n = v) (k : J p l e R s m args below meth c D A nL Q (pc + 1) L (.int v :: S) w) : J p l e R s m args below meth c D A nL Q pc L S w := fun H locs ls hl hP hD hS => lv_iconst hC.1 hC.2.1 hd hv (k H locs ls hl hP hD hS)
theorem j_bipush (hC : jC p s m args meth c cc nL ret own D tys A X) {n : Int} {v : Int32} (hd : decode cc pc = .ok (.bipush n, 2)) (hv : (Int8.ofInt n).toInt32 = v) (k : J p l e R s m args below meth c D A nL Q (pc + 2) L (.int v :: S) w) : J p l e R s m args below meth c D A nL Q pc L S w := fun H locs ls hl hP hD hS => lv_bipush hC.1 hC.2.1 hd hv (k H locs ls hl hP hD hS)
theorem j_sipush (hC : jC p s m args meth c cc nL ret own D tys A X) {n : Int} {v : Int32} (hd : decode cc pc = .ok (.sipush n, 3)) (hv : (Int16.ofInt n).toInt32 = v) (k : J p l e R s m args below meth c D A nL Q (pc + 3) L (.int v :: S) w) : J p l e R s m args below meth c D A nL Q pc L S w := fun H locs ls hl hP hD hS => lv_sipush hC.1 hC.2.1 hd hv (k H locs ls hl hP hD hS)
theorem j_lconst (hC : jC p s m args meth c cc nL ret own D tys A X) {n : Fin 2} {v : Int64} (hd : decode cc pc = .ok (.lconst n, 1)) (hv : Int64.ofNat (n : Nat) = v) (k : J p l e R s m args below meth c D A nL Q (pc + 1) L (.long v :: S) w) : J p l e R s m args below meth c D A nL Q pc L S w := fun H locs ls hl hP hD hS => lv_lconst hC.1 hC.2.1 hd hv (k H locs ls hl hP hD hS)
theorem j_ldc (hC : jC p s m args meth c cc nL ret own D tys A X) {index : Nat} {v : Int32} (hc : Cond.constant own index v ∈ al_ws) (hd : decode cc pc = .ok (.ldc index, 2)) (k : J p l e R s m args below meth c D A nL Q (pc + 2) L (.int v :: S) w) : J p l e R s m args below meth c D A nL Q pc L S w := fun H locs ls hl hP hD hS => lv_ldc hC.1 hC.2.1 hC.2.2.2.1 (hC.2.2.2.2.1 _ hc) hd (k H locs ls hl hP hD hS)
theorem j_ldc2 (hC : jC p s m args meth c cc nL ret own D tys A X) {index : Nat} {v : Int64} (hc : Cond.constantLong own index v ∈ al_ws) (hd : decode cc pc = .ok (.ldc2_w index, 3)) (k : J p l e R s m args below meth c D A nL Q (pc + 3) L (.long v :: S) w) : J p l e R s m args below meth c D A nL Q pc L S w := fun H locs ls hl hP hD hS => lv_ldc2 hC.1 hC.2.1 hC.2.2.2.1 (hC.2.2.2.2.1 _ hc) hd (k H locs ls hl hP hD hS)
theorem j_iadd (hC : jC p s m args meth c cc nL ret own D tys A X) {x y : Int32} (hd : decode cc pc = .ok (.iadd, 1)) (k : J p l e R s m args below meth c D A nL Q (pc + 1) L (.int (x + y) :: S) w) : J p l e R s m args below meth c D A nL Q pc L (.int y :: .int x :: S) w := fun H locs ls hl hP hD hS => lv_iadd hC.1 hC.2.1 hd (k H locs ls hl hP hD hS)
theorem j_isub (hC : jC p s m args meth c cc nL ret own D tys A X) {x y : Int32} (hd : decode cc pc = .ok (.isub, 1)) (k : J p l e R s m args below meth c D A nL Q (pc + 1) L (.int (x - y) :: S) w) : J p l e R s m args below meth c D A nL Q pc L (.int y :: .int x :: S) w := fun H locs ls hl hP hD hS => lv_isub hC.1 hC.2.1 hd (k H locs ls hl hP hD hS)
theorem j_imul (hC : jC p s m args meth c cc nL ret own D tys A X) {x y : Int32} (hd : decode cc pc = .ok (.imul, 1)) (k : J p l e R s m args below meth c D A nL Q (pc + 1) L (.int (x * y) :: S) w) : J p l e R s m args below meth c D A nL Q pc L (.int y :: .int x :: S) w := fun H locs ls hl hP hD hS => lv_imul hC.1 hC.2.1 hd (k H locs ls hl hP hD hS)
theorem j_iand (hC : jC p s m args meth c cc nL ret own D tys A X) {x y : Int32} (hd : decode cc pc = .ok (.iand, 1)) (k : J p l e R s m args below meth c D A nL Q (pc + 1) L (.int (x &&& y) :: S) w) : J p l e R s m args below meth c D A nL Q pc L (.int y :: .int x :: S) w := fun H locs ls hl hP hD hS => lv_iand hC.1 hC.2.1 hd (k H locs ls hl hP hD hS)
theorem j_ior (hC : jC p s m args meth c cc nL ret own D tys A X) {x y : Int32} (hd : decode cc pc = .ok (.ior, 1)) (k : J p l e R s m args below meth c D A nL Q (pc + 1) L (.int (x ||| y) :: S) w) : J p l e R s m args below meth c D A nL Q pc L (.int y :: .int x :: S) w := fun H locs ls hl hP hD hS => lv_ior hC.1 hC.2.1 hd (k H locs ls hl hP hD hS)
theorem j_ixor (hC : jC p s m args meth c cc nL ret own D tys A X) {x y : Int32} (hd : decode cc pc = .ok (.ixor, 1)) (k : J p l e R s m args below meth c D A nL Q (pc + 1) L (.int (x ^^^ y) :: S) w) : J p l e R s m args below meth c D A nL Q pc L (.int y :: .int x :: S) w := fun H locs ls hl hP hD hS => lv_ixor hC.1 hC.2.1 hd (k H locs ls hl hP hD hS)
theorem j_ishl (hC : jC p s m args meth c cc nL ret own D tys A X) {x y : Int32} (hd : decode cc pc = .ok (.ishl, 1)) (k : J p l e R s m args below meth c D A nL Q (pc + 1) L (.int (x <<< (y &&& 31)) :: S) w) : J p l e R s m args below meth c D A nL Q pc L (.int y :: .int x :: S) w := fun H locs ls hl hP hD hS => lv_ishl hC.1 hC.2.1 hd (k H locs ls hl hP hD hS)
theorem j_ishr (hC : jC p s m args meth c cc nL ret own D tys A X) {x y : Int32} (hd : decode cc pc = .ok (.ishr, 1)) (k : J p l e R s m args below meth c D A nL Q (pc + 1) L (.int (x >>> (y &&& 31)) :: S) w) : J p l e R s m args below meth c D A nL Q pc L (.int y :: .int x :: S) w := fun H locs ls hl hP hD hS => lv_ishr hC.1 hC.2.1 hd (k H locs ls hl hP hD hS)
theorem j_idiv (hC : jC p s m args meth c cc nL ret own D tys A X) {x y : Int32} (hd : decode cc pc = .ok (.idiv, 1)) (hne : ¬ y = 0) (k : J p l e R s m args below meth c D A nL Q (pc + 1) L (.int (x / y) :: S) w) : J p l e R s m args below meth c D A nL Q pc L (.int y :: .int x :: S) w := fun H locs ls hl hP hD hS => lv_idiv hC.1 hC.2.1 hd hne (k H locs ls hl hP hD hS)
theorem j_irem (hC : jC p s m args meth c cc nL ret own D tys A X) {x y : Int32} (hd : decode cc pc = .ok (.irem, 1)) (hne : ¬ y = 0) (k : J p l e R s m args below meth c D A nL Q (pc + 1) L (.int (x - x / y * y) :: S) w) : J p l e R s m args below meth c D A nL Q pc L (.int y :: .int x :: S) w := fun H locs ls hl hP hD hS => lv_irem hC.1 hC.2.1 hd hne (k H locs ls hl hP hD hS)
theorem j_ineg (hC : jC p s m args meth c cc nL ret own D tys A X) {x : Int32} (hd : decode cc pc = .ok (.ineg, 1)) (k : J p l e R s m args below meth c D A nL Q (pc + 1) L (.int (-x) :: S) w) : J p l e R s m args below meth c D A nL Q pc L (.int x :: S) w := fun H locs ls hl hP hD hS => lv_ineg hC.1 hC.2.1 hd (k H locs ls hl hP hD hS)
theorem j_iushr (hC : jC p s m args meth c cc nL ret own D tys A X) {x y : Int32} (hd : decode cc pc = .ok (.iushr, 1)) (k : J p l e R s m args below meth c D A nL Q (pc + 1) L (.int (x.toUInt32 >>> (y.toUInt32 &&& Int32.toUInt32 31)).toInt32 :: S) w) : J p l e R s m args below meth c D A nL Q pc L (.int y :: .int x :: S) w := fun H locs ls hl hP hD hS => lv_iushr hC.1 hC.2.1 hd rfl (k H locs ls hl hP hD hS)
theorem j_ladd (hC : jC p s m args meth c cc nL ret own D tys A X) {x y : Int64} (hd : decode cc pc = .ok (.ladd, 1)) (k : J p l e R s m args below meth c D A nL Q (pc + 1) L (.long (x + y) :: S) w) : J p l e R s m args below meth c D A nL Q pc L (.long y :: .long x :: S) w := fun H locs ls hl hP hD hS => lv_ladd hC.1 hC.2.1 hd (k H locs ls hl hP hD hS)
theorem j_lsub (hC : jC p s m args meth c cc nL ret own D tys A X) {x y : Int64} (hd : decode cc pc = .ok (.lsub, 1)) (k : J p l e R s m args below meth c D A nL Q (pc + 1) L (.long (x - y) :: S) w) : J p l e R s m args below meth c D A nL Q pc L (.long y :: .long x :: S) w := fun H locs ls hl hP hD hS => lv_lsub hC.1 hC.2.1 hd (k H locs ls hl hP hD hS)
theorem j_lmul (hC : jC p s m args meth c cc nL ret own D tys A X) {x y : Int64} (hd : decode cc pc = .ok (.lmul, 1)) (k : J p l e R s m args below meth c D A nL Q (pc + 1) L (.long (x * y) :: S) w) : J p l e R s m args below meth c D A nL Q pc L (.long y :: .long x :: S) w := fun H locs ls hl hP hD hS => lv_lmul hC.1 hC.2.1 hd (k H locs ls hl hP hD hS)
theorem j_land (hC : jC p s m args meth c cc nL ret own D tys A X) {x y : Int64} (hd : decode cc pc = .ok (.land, 1)) (k : J p l e R s m args below meth c D A nL Q (pc + 1) L (.long (x &&& y) :: S) w) : J p l e R s m args below meth c D A nL Q pc L (.long y :: .long x :: S) w := fun H locs ls hl hP hD hS => lv_land hC.1 hC.2.1 hd (k H locs ls hl hP hD hS)
theorem j_lor (hC : jC p s m args meth c cc nL ret own D tys A X) {x y : Int64} (hd : decode cc pc = .ok (.lor, 1)) (k : J p l e R s m args below meth c D A nL Q (pc + 1) L (.long (x ||| y) :: S) w) : J p l e R s m args below meth c D A nL Q pc L (.long y :: .long x :: S) w := fun H locs ls hl hP hD hS => lv_lor hC.1 hC.2.1 hd (k H locs ls hl hP hD hS)
theorem j_lxor (hC : jC p s m args meth c cc nL ret own D tys A X) {x y : Int64} (hd : decode cc pc = .ok (.lxor, 1)) (k : J p l e R s m args below meth c D A nL Q (pc + 1) L (.long (x ^^^ y) :: S) w) : J p l e R s m args below meth c D A nL Q pc L (.long y :: .long x :: S) w := fun H locs ls hl hP hD hS => lv_lxor hC.1 hC.2.1 hd (k H locs ls hl hP hD hS)
theorem j_ldiv (hC : jC p s m args meth c cc nL ret own D tys A X) {x y : Int64} (hd : decode cc pc = .ok (.ldiv, 1)) (hne : ¬ y = 0) (k : J p l e R s m args below meth c D A nL Q (pc + 1) L (.long (x / y) :: S) w) : J p l e R s m args below meth c D A nL Q pc L (.long y :: .long x :: S) w := fun H locs ls hl hP hD hS => lv_ldiv hC.1 hC.2.1 hd hne (k H locs ls hl hP hD hS)
theorem j_lrem (hC : jC p s m args meth c cc nL ret own D tys A X) {x y : Int64} (hd : decode cc pc = .ok (.lrem, 1)) (hne : ¬ y = 0) (k : J p l e R s m args below meth c D A nL Q (pc + 1) L (.long (x - x / y * y) :: S) w) : J p l e R s m args below meth c D A nL Q pc L (.long y :: .long x :: S) w := fun H locs ls hl hP hD hS => lv_lrem hC.1 hC.2.1 hd hne (k H locs ls hl hP hD hS)
theorem j_lneg (hC : jC p s m args meth c cc nL ret own D tys A X) {x : Int64} (hd : decode cc pc = .ok (.lneg, 1)) (k : J p l e R s m args below meth c D A nL Q (pc + 1) L (.long (-x) :: S) w) : J p l e R s m args below meth c D A nL Q pc L (.long x :: S) w := fun H locs ls hl hP hD hS => lv_lneg hC.1 hC.2.1 hd (k H locs ls hl hP hD hS)
theorem j_lshl (hC : jC p s m args meth c cc nL ret own D tys A X) {x : Int64} {y : Int32} (hd : decode cc pc = .ok (.lshl, 1)) (k : J p l e R s m args below meth c D A nL Q (pc + 1) L (.long (x <<< (y.toInt64 &&& 63)) :: S) w) : J p l e R s m args below meth c D A nL Q pc L (.int y :: .long x :: S) w := fun H locs ls hl hP hD hS => lv_lshl hC.1 hC.2.1 hd rfl (k H locs ls hl hP hD hS)
theorem j_lshr (hC : jC p s m args meth c cc nL ret own D tys A X) {x : Int64} {y : Int32} (hd : decode cc pc = .ok (.lshr, 1)) (k : J p l e R s m args below meth c D A nL Q (pc + 1) L (.long (x >>> (y.toInt64 &&& 63)) :: S) w) : J p l e R s m args below meth c D A nL Q pc L (.int y :: .long x :: S) w := fun H locs ls hl hP hD hS => lv_lshr hC.1 hC.2.1 hd rfl (k H locs ls hl hP hD hS)
theorem j_lushr (hC : jC p s m args meth c cc nL ret own D tys A X) {x : Int64} {y : Int32} (hd : decode cc pc = .ok (.lushr, 1)) (k : J p l e R s m args below meth c D A nL Q (pc + 1) L (.long (x.toUInt64 >>> (y.toInt64.toUInt64 &&& Int64.toUInt64 63)).toInt64 :: S) w) : J p l e R s m args below meth c D A nL Q pc L (.int y :: .long x :: S) w := fun H locs ls hl hP hD hS => lv_lushr hC.1 hC.2.1 hd rfl (k H locs ls hl hP hD hS)
theorem j_lcmp (hC : jC p s m args meth c cc nL ret own D tys A X) {x y : Int64} (hd : decode cc pc = .ok (.lcmp, 1)) (k : J p l e R s m args below meth c D A nL Q (pc + 1) L (.int (lg_cmp x y) :: S) w) : J p l e R s m args below meth c D A nL Q pc L (.long y :: .long x :: S) w := fun H locs ls hl hP hD hS => W.lcmp hC.1 hC.2.1 hd (k H locs ls hl hP hD hS)
theorem j_i2l (hC : jC p s m args meth c cc nL ret own D tys A X) {x : Int32} (hd : decode cc pc = .ok (.i2l, 1)) (k : J p l e R s m args below meth c D A nL Q (pc + 1) L (.long x.toInt64 :: S) w) : J p l e R s m args below meth c D A nL Q pc L (.int x :: S) w := fun H locs ls hl hP hD hS => lv_i2l hC.1 hC.2.1 hd rfl (k H locs ls hl hP hD hS)
theorem j_l2i (hC : jC p s m args meth c cc nL ret own D tys A X) {x : Int64} (hd : decode cc pc = .ok (.l2i, 1)) (k : J p l e R s m args below meth c D A nL Q (pc + 1) L (.int x.toInt32 :: S) w) : J p l e R s m args below meth c D A nL Q pc L (.long x :: S) w := fun H locs ls hl hP hD hS => lv_l2i hC.1 hC.2.1 hd rfl (k H locs ls hl hP hD hS)
theorem j_i2b (hC : jC p s m args meth c cc nL ret own D tys A X) {x : Int32} (hd : decode cc pc = .ok (.i2b, 1)) (k : J p l e R s m args below meth c D A nL Q (pc + 1) L (.int x.toInt8.toInt32 :: S) w) : J p l e R s m args below meth c D A nL Q pc L (.int x :: S) w := fun H locs ls hl hP hD hS => lv_i2b hC.1 hC.2.1 hd rfl (k H locs ls hl hP hD hS)
theorem j_i2c (hC : jC p s m args meth c cc nL ret own D tys A X) {x : Int32} (hd : decode cc pc = .ok (.i2c, 1)) (k : J p l e R s m args below meth c D A nL Q (pc + 1) L (.int (x.toUInt32 % 65536).toInt32 :: S) w) : J p l e R s m args below meth c D A nL Q pc L (.int x :: S) w := fun H locs ls hl hP hD hS => lv_i2c hC.1 hC.2.1 hd rfl (k H locs ls hl hP hD hS)
theorem j_dup (hC : jC p s m args meth c cc nL ret own D tys A X) {va : Value} (hd : decode cc pc = .ok (.dup, 1)) (h1 : va.category = 1) (k : J p l e R s m args below meth c D A nL Q (pc + 1) L (va :: va :: S) w) : J p l e R s m args below meth c D A nL Q pc L (va :: S) w := fun H locs ls hl hP hD hS => lv_dup hC.1 hC.2.1 hd h1 (k H locs ls hl hP hD hS)
theorem j_pop (hC : jC p s m args meth c cc nL ret own D tys A X) {va : Value} (hd : decode cc pc = .ok (.pop, 1)) (h1 : va.category = 1) (k : J p l e R s m args below meth c D A nL Q (pc + 1) L S w) : J p l e R s m args below meth c D A nL Q pc L (va :: S) w := fun H locs ls hl hP hD hS => lv_pop hC.1 hC.2.1 hd h1 (k H locs ls hl hP hD hS)
theorem j_dup_x1 (hC : jC p s m args meth c cc nL ret own D tys A X) {va vb : Value} (hd : decode cc pc = .ok (.dup_x1, 1)) (h1 : va.category = 1) (h2 : vb.category = 1) (k : J p l e R s m args below meth c D A nL Q (pc + 1) L (va :: vb :: va :: S) w) : J p l e R s m args below meth c D A nL Q pc L (va :: vb :: S) w := fun H locs ls hl hP hD hS => lv_dup_x1 hC.1 hC.2.1 hd h1 h2 (k H locs ls hl hP hD hS)
theorem j_dup2 (hC : jC p s m args meth c cc nL ret own D tys A X) {va vb : Value} (hd : decode cc pc = .ok (.dup2, 1)) (h1 : va.category = 1) (h2 : vb.category = 1) (k : J p l e R s m args below meth c D A nL Q (pc + 1) L (va :: vb :: va :: vb :: S) w) : J p l e R s m args below meth c D A nL Q pc L (va :: vb :: S) w := fun H locs ls hl hP hD hS => lv_dup2_11 hC.1 hC.2.1 hd h1 h2 (k H locs ls hl hP hD hS)
theorem j_dup2L (hC : jC p s m args meth c cc nL ret own D tys A X) {va : Value} (hd : decode cc pc = .ok (.dup2, 1)) (h1 : va.category = 2) (k : J p l e R s m args below meth c D A nL Q (pc + 1) L (va :: va :: S) w) : J p l e R s m args below meth c D A nL Q pc L (va :: S) w := fun H locs ls hl hP hD hS => lv_dup2_2 hC.1 hC.2.1 hd h1 (k H locs ls hl hP hD hS)
theorem j_if_eq (hC : jC p s m args meth c cc nL ret own D tys A X) {x : Int32} {off : Int} (tgt : Nat) (hd : decode cc pc = .ok (.ifCond .eq off, 3)) (ht : (pc : Int) + off = (tgt : Int)) (kt : x = 0 → J p l e R s m args below meth c D A nL Q tgt L S w) (kf : ¬ x = 0 → J p l e R s m args below meth c D A nL Q (pc + 3) L S w) : J p l e R s m args below meth c D A nL Q pc L (.int x :: S) w := fun H locs ls hl hP hD hS => lv_if_eq hC.1 hC.2.1 hd ht (fun z => kt z H locs ls hl hP hD hS) (fun z => kf z H locs ls hl hP hD hS)
theorem j_icmp_eq (hC : jC p s m args meth c cc nL ret own D tys A X) {x y : Int32} {off : Int} (tgt : Nat) (hd : decode cc pc = .ok (.if_icmp .eq off, 3)) (ht : (pc : Int) + off = (tgt : Int)) (kt : x = y → J p l e R s m args below meth c D A nL Q tgt L S w) (kf : ¬ x = y → J p l e R s m args below meth c D A nL Q (pc + 3) L S w) : J p l e R s m args below meth c D A nL Q pc L (.int y :: .int x :: S) w := fun H locs ls hl hP hD hS => lv_icmp_eq hC.1 hC.2.1 hd ht (fun z => kt z H locs ls hl hP hD hS) (fun z => kf z H locs ls hl hP hD hS)
theorem j_if_ne (hC : jC p s m args meth c cc nL ret own D tys A X) {x : Int32} {off : Int} (tgt : Nat) (hd : decode cc pc = .ok (.ifCond .ne off, 3)) (ht : (pc : Int) + off = (tgt : Int)) (kt : ¬ x = 0 → J p l e R s m args below meth c D A nL Q tgt L S w) (kf : x = 0 → J p l e R s m args below meth c D A nL Q (pc + 3) L S w) : J p l e R s m args below meth c D A nL Q pc L (.int x :: S) w := fun H locs ls hl hP hD hS => lv_if_ne hC.1 hC.2.1 hd ht (fun z => kt z H locs ls hl hP hD hS) (fun z => kf z H locs ls hl hP hD hS)
theorem j_icmp_ne (hC : jC p s m args meth c cc nL ret own D tys A X) {x y : Int32} {off : Int} (tgt : Nat) (hd : decode cc pc = .ok (.if_icmp .ne off, 3)) (ht : (pc : Int) + off = (tgt : Int)) (kt : ¬ x = y → J p l e R s m args below meth c D A nL Q tgt L S w) (kf : x = y → J p l e R s m args below meth c D A nL Q (pc + 3) L S w) : J p l e R s m args below meth c D A nL Q pc L (.int y :: .int x :: S) w := fun H locs ls hl hP hD hS => lv_icmp_ne hC.1 hC.2.1 hd ht (fun z => kt z H locs ls hl hP hD hS) (fun z => kf z H locs ls hl hP hD hS)
theorem j_if_lt (hC : jC p s m args meth c cc nL ret own D tys A X) {x : Int32} {off : Int} (tgt : Nat) (hd : decode cc pc = .ok (.ifCond .lt off, 3)) (ht : (pc : Int) + off = (tgt : Int)) (kt : x < 0 → J p l e R s m args below meth c D A nL Q tgt L S w) (kf : ¬ x < 0 → J p l e R s m args below meth c D A nL Q (pc + 3) L S w) : J p l e R s m args below meth c D A nL Q pc L (.int x :: S) w := fun H locs ls hl hP hD hS => lv_if_lt hC.1 hC.2.1 hd ht (fun z => kt z H locs ls hl hP hD hS) (fun z => kf z H locs ls hl hP hD hS)
theorem j_icmp_lt (hC : jC p s m args meth c cc nL ret own D tys A X) {x y : Int32} {off : Int} (tgt : Nat) (hd : decode cc pc = .ok (.if_icmp .lt off, 3)) (ht : (pc : Int) + off = (tgt : Int)) (kt : x < y → J p l e R s m args below meth c D A nL Q tgt L S w) (kf : ¬ x < y → J p l e R s m args below meth c D A nL Q (pc + 3) L S w) : J p l e R s m args below meth c D A nL Q pc L (.int y :: .int x :: S) w := fun H locs ls hl hP hD hS => lv_icmp_lt hC.1 hC.2.1 hd ht (fun z => kt z H locs ls hl hP hD hS) (fun z => kf z H locs ls hl hP hD hS)
theorem j_if_ge (hC : jC p s m args meth c cc nL ret own D tys A X) {x : Int32} {off : Int} (tgt : Nat) (hd : decode cc pc = .ok (.ifCond .ge off, 3)) (ht : (pc : Int) + off = (tgt : Int)) (kt : 0 ≤ x → J p l e R s m args below meth c D A nL Q tgt L S w) (kf : ¬ 0 ≤ x → J p l e R s m args below meth c D A nL Q (pc + 3) L S w) : J p l e R s m args below meth c D A nL Q pc L (.int x :: S) w := fun H locs ls hl hP hD hS => lv_if_ge hC.1 hC.2.1 hd ht (fun z => kt z H locs ls hl hP hD hS) (fun z => kf z H locs ls hl hP hD hS)
theorem j_icmp_ge (hC : jC p s m args meth c cc nL ret own D tys A X) {x y : Int32} {off : Int} (tgt : Nat) (hd : decode cc pc = .ok (.if_icmp .ge off, 3)) (ht : (pc : Int) + off = (tgt : Int)) (kt : y ≤ x → J p l e R s m args below meth c D A nL Q tgt L S w) (kf : ¬ y ≤ x → J p l e R s m args below meth c D A nL Q (pc + 3) L S w) : J p l e R s m args below meth c D A nL Q pc L (.int y :: .int x :: S) w := fun H locs ls hl hP hD hS => lv_icmp_ge hC.1 hC.2.1 hd ht (fun z => kt z H locs ls hl hP hD hS) (fun z => kf z H locs ls hl hP hD hS)
theorem j_if_gt (hC : jC p s m args meth c cc nL ret own D tys A X) {x : Int32} {off : Int} (tgt : Nat) (hd : decode cc pc = .ok (.ifCond .gt off, 3)) (ht : (pc : Int) + off = (tgt : Int)) (kt : 0 < x → J p l e R s m args below meth c D A nL Q tgt L S w) (kf : ¬ 0 < x → J p l e R s m args below meth c D A nL Q (pc + 3) L S w) : J p l e R s m args below meth c D A nL Q pc L (.int x :: S) w := fun H locs ls hl hP hD hS => lv_if_gt hC.1 hC.2.1 hd ht (fun z => kt z H locs ls hl hP hD hS) (fun z => kf z H locs ls hl hP hD hS)
theorem j_icmp_gt (hC : jC p s m args meth c cc nL ret own D tys A X) {x y : Int32} {off : Int} (tgt : Nat) (hd : decode cc pc = .ok (.if_icmp .gt off, 3)) (ht : (pc : Int) + off = (tgt : Int)) (kt : y < x → J p l e R s m args below meth c D A nL Q tgt L S w) (kf : ¬ y < x → J p l e R s m args below meth c D A nL Q (pc + 3) L S w) : J p l e R s m args below meth c D A nL Q pc L (.int y :: .int x :: S) w := fun H locs ls hl hP hD hS => lv_icmp_gt hC.1 hC.2.1 hd ht (fun z => kt z H locs ls hl hP hD hS) (fun z => kf z H locs ls hl hP hD hS)
theorem j_if_le (hC : jC p s m args meth c cc nL ret own D tys A X) {x : Int32} {off : Int} (tgt : Nat) (hd : decode cc pc = .ok (.ifCond .le off, 3)) (ht : (pc : Int) + off = (tgt : Int)) (kt : x ≤ 0 → J p l e R s m args below meth c D A nL Q tgt L S w) (kf : ¬ x ≤ 0 → J p l e R s m args below meth c D A nL Q (pc + 3) L S w) : J p l e R s m args below meth c D A nL Q pc L (.int x :: S) w := fun H locs ls hl hP hD hS => lv_if_le hC.1 hC.2.1 hd ht (fun z => kt z H locs ls hl hP hD hS) (fun z => kf z H locs ls hl hP hD hS)
theorem j_icmp_le (hC : jC p s m args meth c cc nL ret own D tys A X) {x y : Int32} {off : Int} (tgt : Nat) (hd : decode cc pc = .ok (.if_icmp .le off, 3)) (ht : (pc : Int) + off = (tgt : Int)) (kt : x ≤ y → J p l e R s m args below meth c D A nL Q tgt L S w) (kf : ¬ x ≤ y → J p l e R s m args below meth c D A nL Q (pc + 3) L S w) : J p l e R s m args below meth c D A nL Q pc L (.int y :: .int x :: S) w := fun H locs ls hl hP hD hS => lv_icmp_le hC.1 hC.2.1 hd ht (fun z => kt z H locs ls hl hP hD hS) (fun z => kf z H locs ls hl hP hD hS)
theorem j_goto (hC : jC p s m args meth c cc nL ret own D tys A X) {off : Int} (tgt : Nat) (hd : decode cc pc = .ok (.goto off, 3)) (ht : (pc : Int) + off = (tgt : Int)) (k : J p l e R s m args below meth c D A nL Q tgt L S w) : J p l e R s m args below meth c D A nL Q pc L S w := fun H locs ls hl hP hD hS => lv_goto hC.1 hC.2.1 hd ht (k H locs ls hl hP hD hS)
theorem j_iload0 (hC : jC p s m args meth c cc nL ret own D tys A X) {T : List (Option Value)} {x : Int32} (hd : decode cc pc = .ok (.iload 0, 2)) (k : J p l e R s m args below meth c D A nL Q (pc + 2) (some (.int x) :: T) (.int x :: S) w) : J p l e R s m args below meth c D A nL Q pc (some (.int x) :: T) S w := fun H locs ls hl hP hD hS => lv_iload hC.1 hC.2.1 hd (jl_at hl (i := 0) rfl) (k H locs ls hl hP hD hS)
theorem j_iloadn0 (hC : jC p s m args meth c cc nL ret own D tys A X) {T : List (Option Value)} {x : Int32} (hd : decode cc pc = .ok (.iload_n 0, 1)) (k : J p l e R s m args below meth c D A nL Q (pc + 1) (some (.int x) :: T) (.int x :: S) w) : J p l e R s m args below meth c D A nL Q pc (some (.int x) :: T) S w := fun H locs ls hl hP hD hS => lv_iload_n hC.1 hC.2.1 hd rfl (jl_at hl (i := 0) rfl) (k H locs ls hl hP hD hS)
theorem j_iload1 (hC : jC p s m args meth c cc nL ret own D tys A X) {a0 : Option Value} {T : List (Option Value)} {x : Int32} (hd : decode cc pc = .ok (.iload 1, 2)) (k : J p l e R s m args below meth c D A nL Q (pc + 2) (a0 :: some (.int x) :: T) (.int x :: S) w) : J p l e R s m args below meth c D A nL Q pc (a0 :: some (.int x) :: T) S w := fun H locs ls hl hP hD hS => lv_iload hC.1 hC.2.1 hd (jl_at hl (i := 1) rfl) (k H locs ls hl hP hD hS)
theorem j_iloadn1 (hC : jC p s m args meth c cc nL ret own D tys A X) {a0 : Option Value} {T : List (Option Value)} {x : Int32} (hd : decode cc pc = .ok (.iload_n 1, 1)) (k : J p l e R s m args below meth c D A nL Q (pc + 1) (a0 :: some (.int x) :: T) (.int x :: S) w) : J p l e R s m args below meth c D A nL Q pc (a0 :: some (.int x) :: T) S w := fun H locs ls hl hP hD hS => lv_iload_n hC.1 hC.2.1 hd rfl (jl_at hl (i := 1) rfl) (k H locs ls hl hP hD hS)
theorem j_iload2 (hC : jC p s m args meth c cc nL ret own D tys A X) {a0 a1 : Option Value} {T : List (Option Value)} {x : Int32} (hd : decode cc pc = .ok (.iload 2, 2)) (k : J p l e R s m args below meth c D A nL Q (pc + 2) (a0 :: a1 :: some (.int x) :: T) (.int x :: S) w) : J p l e R s m args below meth c D A nL Q pc (a0 :: a1 :: some (.int x) :: T) S w := fun H locs ls hl hP hD hS => lv_iload hC.1 hC.2.1 hd (jl_at hl (i := 2) rfl) (k H locs ls hl hP hD hS)
theorem j_iloadn2 (hC : jC p s m args meth c cc nL ret own D tys A X) {a0 a1 : Option Value} {T : List (Option Value)} {x : Int32} (hd : decode cc pc = .ok (.iload_n 2, 1)) (k : J p l e R s m args below meth c D A nL Q (pc + 1) (a0 :: a1 :: some (.int x) :: T) (.int x :: S) w) : J p l e R s m args below meth c D A nL Q pc (a0 :: a1 :: some (.int x) :: T) S w := fun H locs ls hl hP hD hS => lv_iload_n hC.1 hC.2.1 hd rfl (jl_at hl (i := 2) rfl) (k H locs ls hl hP hD hS)
theorem j_iload3 (hC : jC p s m args meth c cc nL ret own D tys A X) {a0 a1 a2 : Option Value} {T : List (Option Value)} {x : Int32} (hd : decode cc pc = .ok (.iload 3, 2)) (k : J p l e R s m args below meth c D A nL Q (pc + 2) (a0 :: a1 :: a2 :: some (.int x) :: T) (.int x :: S) w) : J p l e R s m args below meth c D A nL Q pc (a0 :: a1 :: a2 :: some (.int x) :: T) S w := fun H locs ls hl hP hD hS => lv_iload hC.1 hC.2.1 hd (jl_at hl (i := 3) rfl) (k H locs ls hl hP hD hS)
theorem j_iloadn3 (hC : jC p s m args meth c cc nL ret own D tys A X) {a0 a1 a2 : Option Value} {T : List (Option Value)} {x : Int32} (hd : decode cc pc = .ok (.iload_n 3, 1)) (k : J p l e R s m args below meth c D A nL Q (pc + 1) (a0 :: a1 :: a2 :: some (.int x) :: T) (.int x :: S) w) : J p l e R s m args below meth c D A nL Q pc (a0 :: a1 :: a2 :: some (.int x) :: T) S w := fun H locs ls hl hP hD hS => lv_iload_n hC.1 hC.2.1 hd rfl (jl_at hl (i := 3) rfl) (k H locs ls hl hP hD hS)
theorem j_iload4 (hC : jC p s m args meth c cc nL ret own D tys A X) {a0 a1 a2 a3 : Option Value} {T : List (Option Value)} {x : Int32} (hd : decode cc pc = .ok (.iload 4, 2)) (k : J p l e R s m args below meth c D A nL Q (pc + 2) (a0 :: a1 :: a2 :: a3 :: some (.int x) :: T) (.int x :: S) w) : J p l e R s m args below meth c D A nL Q pc (a0 :: a1 :: a2 :: a3 :: some (.int x) :: T) S w := fun H locs ls hl hP hD hS => lv_iload hC.1 hC.2.1 hd (jl_at hl (i := 4) rfl) (k H locs ls hl hP hD hS)
theorem j_iload5 (hC : jC p s m args meth c cc nL ret own D tys A X) {a0 a1 a2 a3 a4 : Option Value} {T : List (Option Value)} {x : Int32} (hd : decode cc pc = .ok (.iload 5, 2)) (k : J p l e R s m args below meth c D A nL Q (pc + 2) (a0 :: a1 :: a2 :: a3 :: a4 :: some (.int x) :: T) (.int x :: S) w) : J p l e R s m args below meth c D A nL Q pc (a0 :: a1 :: a2 :: a3 :: a4 :: some (.int x) :: T) S w := fun H locs ls hl hP hD hS => lv_iload hC.1 hC.2.1 hd (jl_at hl (i := 5) rfl) (k H locs ls hl hP hD hS)
theorem j_iload6 (hC : jC p s m args meth c cc nL ret own D tys A X) {a0 a1 a2 a3 a4 a5 : Option Value} {T : List (Option Value)} {x : Int32} (hd : decode cc pc = .ok (.iload 6, 2)) (k : J p l e R s m args below meth c D A nL Q (pc + 2) (a0 :: a1 :: a2 :: a3 :: a4 :: a5 :: some (.int x) :: T) (.int x :: S) w) : J p l e R s m args below meth c D A nL Q pc (a0 :: a1 :: a2 :: a3 :: a4 :: a5 :: some (.int x) :: T) S w := fun H locs ls hl hP hD hS => lv_iload hC.1 hC.2.1 hd (jl_at hl (i := 6) rfl) (k H locs ls hl hP hD hS)
theorem j_iload7 (hC : jC p s m args meth c cc nL ret own D tys A X) {a0 a1 a2 a3 a4 a5 a6 : Option Value} {T : List (Option Value)} {x : Int32} (hd : decode cc pc = .ok (.iload 7, 2)) (k : J p l e R s m args below meth c D A nL Q (pc + 2) (a0 :: a1 :: a2 :: a3 :: a4 :: a5 :: a6 :: some (.int x) :: T) (.int x :: S) w) : J p l e R s m args below meth c D A nL Q pc (a0 :: a1 :: a2 :: a3 :: a4 :: a5 :: a6 :: some (.int x) :: T) S w := fun H locs ls hl hP hD hS => lv_iload hC.1 hC.2.1 hd (jl_at hl (i := 7) rfl) (k H locs ls hl hP hD hS)
theorem j_iload8 (hC : jC p s m args meth c cc nL ret own D tys A X) {a0 a1 a2 a3 a4 a5 a6 a7 : Option Value} {T : List (Option Value)} {x : Int32} (hd : decode cc pc = .ok (.iload 8, 2)) (k : J p l e R s m args below meth c D A nL Q (pc + 2) (a0 :: a1 :: a2 :: a3 :: a4 :: a5 :: a6 :: a7 :: some (.int x) :: T) (.int x :: S) w) : J p l e R s m args below meth c D A nL Q pc (a0 :: a1 :: a2 :: a3 :: a4 :: a5 :: a6 :: a7 :: some (.int x) :: T) S w := fun H locs ls hl hP hD hS => lv_iload hC.1 hC.2.1 hd (jl_at hl (i := 8) rfl) (k H locs ls hl hP hD hS)
theorem j_iload9 (hC : jC p s m args meth c cc nL ret own D tys A X) {a0 a1 a2 a3 a4 a5 a6 a7 a8 : Option Value} {T : List (Option Value)} {x : Int32} (hd : decode cc pc = .ok (.iload 9, 2)) (k : J p l e R s m args below meth c D A nL Q (pc + 2) (a0 :: a1 :: a2 :: a3 :: a4 :: a5 :: a6 :: a7 :: a8 :: some (.int x) :: T) (.int x :: S) w) : J p l e R s m args below meth c D A nL Q pc (a0 :: a1 :: a2 :: a3 :: a4 :: a5 :: a6 :: a7 :: a8 :: some (.int x) :: T) S w := fun H locs ls hl hP hD hS => lv_iload hC.1 hC.2.1 hd (jl_at hl (i := 9) rfl) (k H locs ls hl hP hD hS)
theorem j_iload10 (hC : jC p s m args meth c cc nL ret own D tys A X) {a0 a1 a2 a3 a4 a5 a6 a7 a8 a9 : Option Value} {T : List (Option Value)} {x : Int32} (hd : decode cc pc = .ok (.iload 10, 2)) (k : J p l e R s m args below meth c D A nL Q (pc + 2) (a0 :: a1 :: a2 :: a3 :: a4 :: a5 :: a6 :: a7 :: a8 :: a9 :: some (.int x) :: T) (.int x :: S) w) : J p l e R s m args below meth c D A nL Q pc (a0 :: a1 :: a2 :: a3 :: a4 :: a5 :: a6 :: a7 :: a8 :: a9 :: some (.int x) :: T) S w := fun H locs ls hl hP hD hS => lv_iload hC.1 hC.2.1 hd (jl_at hl (i := 10) rfl) (k H locs ls hl hP hD hS)
theorem j_iload11 (hC : jC p s m args meth c cc nL ret own D tys A X) {a0 a1 a2 a3 a4 a5 a6 a7 a8 a9 a10 : Option Value} {T : List (Option Value)} {x : Int32} (hd : decode cc pc = .ok (.iload 11, 2)) (k : J p l e R s m args below meth c D A nL Q (pc + 2) (a0 :: a1 :: a2 :: a3 :: a4 :: a5 :: a6 :: a7 :: a8 :: a9 :: a10 :: some (.int x) :: T) (.int x :: S) w) : J p l e R s m args below meth c D A nL Q pc (a0 :: a1 :: a2 :: a3 :: a4 :: a5 :: a6 :: a7 :: a8 :: a9 :: a10 :: some (.int x) :: T) S w := fun H locs ls hl hP hD hS => lv_iload hC.1 hC.2.1 hd (jl_at hl (i := 11) rfl) (k H locs ls hl hP hD hS)
theorem j_iload12 (hC : jC p s m args meth c cc nL ret own D tys A X) {a0 a1 a2 a3 a4 a5 a6 a7 a8 a9 a10 a11 : Option Value} {T : List (Option Value)} {x : Int32} (hd : decode cc pc = .ok (.iload 12, 2)) (k : J p l e R s m args below meth c D A nL Q (pc + 2) (a0 :: a1 :: a2 :: a3 :: a4 :: a5 :: a6 :: a7 :: a8 :: a9 :: a10 :: a11 :: some (.int x) :: T) (.int x :: S) w) : J p l e R s m args below meth c D A nL Q pc (a0 :: a1 :: a2 :: a3 :: a4 :: a5 :: a6 :: a7 :: a8 :: a9 :: a10 :: a11 :: some (.int x) :: T) S w := fun H locs ls hl hP hD hS => lv_iload hC.1 hC.2.1 hd (jl_at hl (i := 12) rfl) (k H locs ls hl hP hD hS)
theorem j_iload13 (hC : jC p s m args meth c cc nL ret own D tys A X) {a0 a1 a2 a3 a4 a5 a6 a7 a8 a9 a10 a11 a12 : Option Value} {T : List (Option Value)} {x : Int32} (hd : decode cc pc = .ok (.iload 13, 2)) (k : J p l e R s m args below meth c D A nL Q (pc + 2) (a0 :: a1 :: a2 :: a3 :: a4 :: a5 :: a6 :: a7 :: a8 :: a9 :: a10 :: a11 :: a12 :: some (.int x) :: T) (.int x :: S) w) : J p l e R s m args below meth c D A nL Q pc (a0 :: a1 :: a2 :: a3 :: a4 :: a5 :: a6 :: a7 :: a8 :: a9 :: a10 :: a11 :: a12 :: some (.int x) :: T) S w := fun H locs ls hl hP hD hS => lv_iload hC.1 hC.2.1 hd (jl_at hl (i := 13) rfl) (k H locs ls hl hP hD hS)
theorem j_iload14 (hC : jC p s m args meth c cc nL ret own D tys A X) {a0 a1 a2 a3 a4 a5 a6 a7 a8 a9 a10 a11 a12 a13 : Option Value} {T : List (Option Value)} {x : Int32} (hd : decode cc pc = .ok (.iload 14, 2)) (k : J p l e R s m args below meth c D A nL Q (pc + 2) (a0 :: a1 :: a2 :: a3 :: a4 :: a5 :: a6 :: a7 :: a8 :: a9 :: a10 :: a11 :: a12 :: a13 :: some (.int x) :: T) (.int x :: S) w) : J p l e R s m args below meth c D A nL Q pc (a0 :: a1 :: a2 :: a3 :: a4 :: a5 :: a6 :: a7 :: a8 :: a9 :: a10 :: a11 :: a12 :: a13 :: some (.int x) :: T) S w := fun H locs ls hl hP hD hS => lv_iload hC.1 hC.2.1 hd (jl_at hl (i := 14) rfl) (k H locs ls hl hP hD hS)
theorem j_iload15 (hC : jC p s m args meth c cc nL ret own D tys A X) {a0 a1 a2 a3 a4 a5 a6 a7 a8 a9 a10 a11 a12 a13 a14 : Option Value} {T : List (Option Value)} {x : Int32} (hd : decode cc pc = .ok (.iload 15, 2)) (k : J p l e R s m args below meth c D A nL Q (pc + 2) (a0 :: a1 :: a2 :: a3 :: a4 :: a5 :: a6 :: a7 :: a8 :: a9 :: a10 :: a11 :: a12 :: a13 :: a14 :: some (.int x) :: T) (.int x :: S) w) : J p l e R s m args below meth c D A nL Q pc (a0 :: a1 :: a2 :: a3 :: a4 :: a5 :: a6 :: a7 :: a8 :: a9 :: a10 :: a11 :: a12 :: a13 :: a14 :: some (.int x) :: T) S w := fun H locs ls hl hP hD hS => lv_iload hC.1 hC.2.1 hd (jl_at hl (i := 15) rfl) (k H locs ls hl hP hD hS)
theorem j_iload16 (hC : jC p s m args meth c cc nL ret own D tys A X) {a0 a1 a2 a3 a4 a5 a6 a7 a8 a9 a10 a11 a12 a13 a14 a15 : Option Value} {T : List (Option Value)} {x : Int32} (hd : decode cc pc = .ok (.iload 16, 2)) (k : J p l e R s m args below meth c D A nL Q (pc + 2) (a0 :: a1 :: a2 :: a3 :: a4 :: a5 :: a6 :: a7 :: a8 :: a9 :: a10 :: a11 :: a12 :: a13 :: a14 :: a15 :: some (.int x) :: T) (.int x :: S) w) : J p l e R s m args below meth c D A nL Q pc (a0 :: a1 :: a2 :: a3 :: a4 :: a5 :: a6 :: a7 :: a8 :: a9 :: a10 :: a11 :: a12 :: a13 :: a14 :: a15 :: some (.int x) :: T) S w := fun H locs ls hl hP hD hS => lv_iload hC.1 hC.2.1 hd (jl_at hl (i := 16) rfl) (k H locs ls hl hP hD hS)
theorem j_iload17 (hC : jC p s m args meth c cc nL ret own D tys A X) {a0 a1 a2 a3 a4 a5 a6 a7 a8 a9 a10 a11 a12 a13 a14 a15 a16 : Option Value} {T : List (Option Value)} {x : Int32} (hd : decode cc pc = .ok (.iload 17, 2)) (k : J p l e R s m args below meth c D A nL Q (pc + 2) (a0 :: a1 :: a2 :: a3 :: a4 :: a5 :: a6 :: a7 :: a8 :: a9 :: a10 :: a11 :: a12 :: a13 :: a14 :: a15 :: a16 :: some (.int x) :: T) (.int x :: S) w) : J p l e R s m args below meth c D A nL Q pc (a0 :: a1 :: a2 :: a3 :: a4 :: a5 :: a6 :: a7 :: a8 :: a9 :: a10 :: a11 :: a12 :: a13 :: a14 :: a15 :: a16 :: some (.int x) :: T) S w := fun H locs ls hl hP hD hS => lv_iload hC.1 hC.2.1 hd (jl_at hl (i := 17) rfl) (k H locs ls hl hP hD hS)
theorem j_lload0 (hC : jC p s m args meth c cc nL ret own D tys A X) {T : List (Option Value)} {x : Int64} (hd : decode cc pc = .ok (.lload 0, 2)) (k : J p l e R s m args below meth c D A nL Q (pc + 2) (some (.long x) :: T) (.long x :: S) w) : J p l e R s m args below meth c D A nL Q pc (some (.long x) :: T) S w := fun H locs ls hl hP hD hS => lv_lload hC.1 hC.2.1 hd (jl_at hl (i := 0) rfl) (k H locs ls hl hP hD hS)
theorem j_lloadn0 (hC : jC p s m args meth c cc nL ret own D tys A X) {T : List (Option Value)} {x : Int64} (hd : decode cc pc = .ok (.lload_n 0, 1)) (k : J p l e R s m args below meth c D A nL Q (pc + 1) (some (.long x) :: T) (.long x :: S) w) : J p l e R s m args below meth c D A nL Q pc (some (.long x) :: T) S w := fun H locs ls hl hP hD hS => lv_lload_n hC.1 hC.2.1 hd rfl (jl_at hl (i := 0) rfl) (k H locs ls hl hP hD hS)
theorem j_lload1 (hC : jC p s m args meth c cc nL ret own D tys A X) {a0 : Option Value} {T : List (Option Value)} {x : Int64} (hd : decode cc pc = .ok (.lload 1, 2)) (k : J p l e R s m args below meth c D A nL Q (pc + 2) (a0 :: some (.long x) :: T) (.long x :: S) w) : J p l e R s m args below meth c D A nL Q pc (a0 :: some (.long x) :: T) S w := fun H locs ls hl hP hD hS => lv_lload hC.1 hC.2.1 hd (jl_at hl (i := 1) rfl) (k H locs ls hl hP hD hS)
theorem j_lloadn1 (hC : jC p s m args meth c cc nL ret own D tys A X) {a0 : Option Value} {T : List (Option Value)} {x : Int64} (hd : decode cc pc = .ok (.lload_n 1, 1)) (k : J p l e R s m args below meth c D A nL Q (pc + 1) (a0 :: some (.long x) :: T) (.long x :: S) w) : J p l e R s m args below meth c D A nL Q pc (a0 :: some (.long x) :: T) S w := fun H locs ls hl hP hD hS => lv_lload_n hC.1 hC.2.1 hd rfl (jl_at hl (i := 1) rfl) (k H locs ls hl hP hD hS)
theorem j_lload2 (hC : jC p s m args meth c cc nL ret own D tys A X) {a0 a1 : Option Value} {T : List (Option Value)} {x : Int64} (hd : decode cc pc = .ok (.lload 2, 2)) (k : J p l e R s m args below meth c D A nL Q (pc + 2) (a0 :: a1 :: some (.long x) :: T) (.long x :: S) w) : J p l e R s m args below meth c D A nL Q pc (a0 :: a1 :: some (.long x) :: T) S w := fun H locs ls hl hP hD hS => lv_lload hC.1 hC.2.1 hd (jl_at hl (i := 2) rfl) (k H locs ls hl hP hD hS)
theorem j_lloadn2 (hC : jC p s m args meth c cc nL ret own D tys A X) {a0 a1 : Option Value} {T : List (Option Value)} {x : Int64} (hd : decode cc pc = .ok (.lload_n 2, 1)) (k : J p l e R s m args below meth c D A nL Q (pc + 1) (a0 :: a1 :: some (.long x) :: T) (.long x :: S) w) : J p l e R s m args below meth c D A nL Q pc (a0 :: a1 :: some (.long x) :: T) S w := fun H locs ls hl hP hD hS => lv_lload_n hC.1 hC.2.1 hd rfl (jl_at hl (i := 2) rfl) (k H locs ls hl hP hD hS)
theorem j_lload3 (hC : jC p s m args meth c cc nL ret own D tys A X) {a0 a1 a2 : Option Value} {T : List (Option Value)} {x : Int64} (hd : decode cc pc = .ok (.lload 3, 2)) (k : J p l e R s m args below meth c D A nL Q (pc + 2) (a0 :: a1 :: a2 :: some (.long x) :: T) (.long x :: S) w) : J p l e R s m args below meth c D A nL Q pc (a0 :: a1 :: a2 :: some (.long x) :: T) S w := fun H locs ls hl hP hD hS => lv_lload hC.1 hC.2.1 hd (jl_at hl (i := 3) rfl) (k H locs ls hl hP hD hS)
theorem j_lloadn3 (hC : jC p s m args meth c cc nL ret own D tys A X) {a0 a1 a2 : Option Value} {T : List (Option Value)} {x : Int64} (hd : decode cc pc = .ok (.lload_n 3, 1)) (k : J p l e R s m args below meth c D A nL Q (pc + 1) (a0 :: a1 :: a2 :: some (.long x) :: T) (.long x :: S) w) : J p l e R s m args below meth c D A nL Q pc (a0 :: a1 :: a2 :: some (.long x) :: T) S w := fun H locs ls hl hP hD hS => lv_lload_n hC.1 hC.2.1 hd rfl (jl_at hl (i := 3) rfl) (k H locs ls hl hP hD hS)
theorem j_lload4 (hC : jC p s m args meth c cc nL ret own D tys A X) {a0 a1 a2 a3 : Option Value} {T : List (Option Value)} {x : Int64} (hd : decode cc pc = .ok (.lload 4, 2)) (k : J p l e R s m args below meth c D A nL Q (pc + 2) (a0 :: a1 :: a2 :: a3 :: some (.long x) :: T) (.long x :: S) w) : J p l e R s m args below meth c D A nL Q pc (a0 :: a1 :: a2 :: a3 :: some (.long x) :: T) S w := fun H locs ls hl hP hD hS => lv_lload hC.1 hC.2.1 hd (jl_at hl (i := 4) rfl) (k H locs ls hl hP hD hS)
theorem j_lload5 (hC : jC p s m args meth c cc nL ret own D tys A X) {a0 a1 a2 a3 a4 : Option Value} {T : List (Option Value)} {x : Int64} (hd : decode cc pc = .ok (.lload 5, 2)) (k : J p l e R s m args below meth c D A nL Q (pc + 2) (a0 :: a1 :: a2 :: a3 :: a4 :: some (.long x) :: T) (.long x :: S) w) : J p l e R s m args below meth c D A nL Q pc (a0 :: a1 :: a2 :: a3 :: a4 :: some (.long x) :: T) S w := fun H locs ls hl hP hD hS => lv_lload hC.1 hC.2.1 hd (jl_at hl (i := 5) rfl) (k H locs ls hl hP hD hS)
theorem j_lload6 (hC : jC p s m args meth c cc nL ret own D tys A X) {a0 a1 a2 a3 a4 a5 : Option Value} {T : List (Option Value)} {x : Int64} (hd : decode cc pc = .ok (.lload 6, 2)) (k : J p l e R s m args below meth c D A nL Q (pc + 2) (a0 :: a1 :: a2 :: a3 :: a4 :: a5 :: some (.long x) :: T) (.long x :: S) w) : J p l e R s m args below meth c D A nL Q pc (a0 :: a1 :: a2 :: a3 :: a4 :: a5 :: some (.long x) :: T) S w := fun H locs ls hl hP hD hS => lv_lload hC.1 hC.2.1 hd (jl_at hl (i := 6) rfl) (k H locs ls hl hP hD hS)
theorem j_lload7 (hC : jC p s m args meth c cc nL ret own D tys A X) {a0 a1 a2 a3 a4 a5 a6 : Option Value} {T : List (Option Value)} {x : Int64} (hd : decode cc pc = .ok (.lload 7, 2)) (k : J p l e R s m args below meth c D A nL Q (pc + 2) (a0 :: a1 :: a2 :: a3 :: a4 :: a5 :: a6 :: some (.long x) :: T) (.long x :: S) w) : J p l e R s m args below meth c D A nL Q pc (a0 :: a1 :: a2 :: a3 :: a4 :: a5 :: a6 :: some (.long x) :: T) S w := fun H locs ls hl hP hD hS => lv_lload hC.1 hC.2.1 hd (jl_at hl (i := 7) rfl) (k H locs ls hl hP hD hS)
theorem j_lload8 (hC : jC p s m args meth c cc nL ret own D tys A X) {a0 a1 a2 a3 a4 a5 a6 a7 : Option Value} {T : List (Option Value)} {x : Int64} (hd : decode cc pc = .ok (.lload 8, 2)) (k : J p l e R s m args below meth c D A nL Q (pc + 2) (a0 :: a1 :: a2 :: a3 :: a4 :: a5 :: a6 :: a7 :: some (.long x) :: T) (.long x :: S) w) : J p l e R s m args below meth c D A nL Q pc (a0 :: a1 :: a2 :: a3 :: a4 :: a5 :: a6 :: a7 :: some (.long x) :: T) S w := fun H locs ls hl hP hD hS => lv_lload hC.1 hC.2.1 hd (jl_at hl (i := 8) rfl) (k H locs ls hl hP hD hS)
theorem j_lload9 (hC : jC p s m args meth c cc nL ret own D tys A X) {a0 a1 a2 a3 a4 a5 a6 a7 a8 : Option Value} {T : List (Option Value)} {x : Int64} (hd : decode cc pc = .ok (.lload 9, 2)) (k : J p l e R s m args below meth c D A nL Q (pc + 2) (a0 :: a1 :: a2 :: a3 :: a4 :: a5 :: a6 :: a7 :: a8 :: some (.long x) :: T) (.long x :: S) w) : J p l e R s m args below meth c D A nL Q pc (a0 :: a1 :: a2 :: a3 :: a4 :: a5 :: a6 :: a7 :: a8 :: some (.long x) :: T) S w := fun H locs ls hl hP hD hS => lv_lload hC.1 hC.2.1 hd (jl_at hl (i := 9) rfl) (k H locs ls hl hP hD hS)
theorem j_lload10 (hC : jC p s m args meth c cc nL ret own D tys A X) {a0 a1 a2 a3 a4 a5 a6 a7 a8 a9 : Option Value} {T : List (Option Value)} {x : Int64} (hd : decode cc pc = .ok (.lload 10, 2)) (k : J p l e R s m args below meth c D A nL Q (pc + 2) (a0 :: a1 :: a2 :: a3 :: a4 :: a5 :: a6 :: a7 :: a8 :: a9 :: some (.long x) :: T) (.long x :: S) w) : J p l e R s m args below meth c D A nL Q pc (a0 :: a1 :: a2 :: a3 :: a4 :: a5 :: a6 :: a7 :: a8 :: a9 :: some (.long x) :: T) S w := fun H locs ls hl hP hD hS => lv_lload hC.1 hC.2.1 hd (jl_at hl (i := 10) rfl) (k H locs ls hl hP hD hS)
theorem j_lload11 (hC : jC p s m args meth c cc nL ret own D tys A X) {a0 a1 a2 a3 a4 a5 a6 a7 a8 a9 a10 : Option Value} {T : List (Option Value)} {x : Int64} (hd : decode cc pc = .ok (.lload 11, 2)) (k : J p l e R s m args below meth c D A nL Q (pc + 2) (a0 :: a1 :: a2 :: a3 :: a4 :: a5 :: a6 :: a7 :: a8 :: a9 :: a10 :: some (.long x) :: T) (.long x :: S) w) : J p l e R s m args below meth c D A nL Q pc (a0 :: a1 :: a2 :: a3 :: a4 :: a5 :: a6 :: a7 :: a8 :: a9 :: a10 :: some (.long x) :: T) S w := fun H locs ls hl hP hD hS => lv_lload hC.1 hC.2.1 hd (jl_at hl (i := 11) rfl) (k H locs ls hl hP hD hS)
theorem j_lload12 (hC : jC p s m args meth c cc nL ret own D tys A X) {a0 a1 a2 a3 a4 a5 a6 a7 a8 a9 a10 a11 : Option Value} {T : List (Option Value)} {x : Int64} (hd : decode cc pc = .ok (.lload 12, 2)) (k : J p l e R s m args below meth c D A nL Q (pc + 2) (a0 :: a1 :: a2 :: a3 :: a4 :: a5 :: a6 :: a7 :: a8 :: a9 :: a10 :: a11 :: some (.long x) :: T) (.long x :: S) w) : J p l e R s m args below meth c D A nL Q pc (a0 :: a1 :: a2 :: a3 :: a4 :: a5 :: a6 :: a7 :: a8 :: a9 :: a10 :: a11 :: some (.long x) :: T) S w := fun H locs ls hl hP hD hS => lv_lload hC.1 hC.2.1 hd (jl_at hl (i := 12) rfl) (k H locs ls hl hP hD hS)
theorem j_lload13 (hC : jC p s m args meth c cc nL ret own D tys A X) {a0 a1 a2 a3 a4 a5 a6 a7 a8 a9 a10 a11 a12 : Option Value} {T : List (Option Value)} {x : Int64} (hd : decode cc pc = .ok (.lload 13, 2)) (k : J p l e R s m args below meth c D A nL Q (pc + 2) (a0 :: a1 :: a2 :: a3 :: a4 :: a5 :: a6 :: a7 :: a8 :: a9 :: a10 :: a11 :: a12 :: some (.long x) :: T) (.long x :: S) w) : J p l e R s m args below meth c D A nL Q pc (a0 :: a1 :: a2 :: a3 :: a4 :: a5 :: a6 :: a7 :: a8 :: a9 :: a10 :: a11 :: a12 :: some (.long x) :: T) S w := fun H locs ls hl hP hD hS => lv_lload hC.1 hC.2.1 hd (jl_at hl (i := 13) rfl) (k H locs ls hl hP hD hS)
theorem j_lload14 (hC : jC p s m args meth c cc nL ret own D tys A X) {a0 a1 a2 a3 a4 a5 a6 a7 a8 a9 a10 a11 a12 a13 : Option Value} {T : List (Option Value)} {x : Int64} (hd : decode cc pc = .ok (.lload 14, 2)) (k : J p l e R s m args below meth c D A nL Q (pc + 2) (a0 :: a1 :: a2 :: a3 :: a4 :: a5 :: a6 :: a7 :: a8 :: a9 :: a10 :: a11 :: a12 :: a13 :: some (.long x) :: T) (.long x :: S) w) : J p l e R s m args below meth c D A nL Q pc (a0 :: a1 :: a2 :: a3 :: a4 :: a5 :: a6 :: a7 :: a8 :: a9 :: a10 :: a11 :: a12 :: a13 :: some (.long x) :: T) S w := fun H locs ls hl hP hD hS => lv_lload hC.1 hC.2.1 hd (jl_at hl (i := 14) rfl) (k H locs ls hl hP hD hS)
theorem j_lload15 (hC : jC p s m args meth c cc nL ret own D tys A X) {a0 a1 a2 a3 a4 a5 a6 a7 a8 a9 a10 a11 a12 a13 a14 : Option Value} {T : List (Option Value)} {x : Int64} (hd : decode cc pc = .ok (.lload 15, 2)) (k : J p l e R s m args below meth c D A nL Q (pc + 2) (a0 :: a1 :: a2 :: a3 :: a4 :: a5 :: a6 :: a7 :: a8 :: a9 :: a10 :: a11 :: a12 :: a13 :: a14 :: some (.long x) :: T) (.long x :: S) w) : J p l e R s m args below meth c D A nL Q pc (a0 :: a1 :: a2 :: a3 :: a4 :: a5 :: a6 :: a7 :: a8 :: a9 :: a10 :: a11 :: a12 :: a13 :: a14 :: some (.long x) :: T) S w := fun H locs ls hl hP hD hS => lv_lload hC.1 hC.2.1 hd (jl_at hl (i := 15) rfl) (k H locs ls hl hP hD hS)
theorem j_lload16 (hC : jC p s m args meth c cc nL ret own D tys A X) {a0 a1 a2 a3 a4 a5 a6 a7 a8 a9 a10 a11 a12 a13 a14 a15 : Option Value} {T : List (Option Value)} {x : Int64} (hd : decode cc pc = .ok (.lload 16, 2)) (k : J p l e R s m args below meth c D A nL Q (pc + 2) (a0 :: a1 :: a2 :: a3 :: a4 :: a5 :: a6 :: a7 :: a8 :: a9 :: a10 :: a11 :: a12 :: a13 :: a14 :: a15 :: some (.long x) :: T) (.long x :: S) w) : J p l e R s m args below meth c D A nL Q pc (a0 :: a1 :: a2 :: a3 :: a4 :: a5 :: a6 :: a7 :: a8 :: a9 :: a10 :: a11 :: a12 :: a13 :: a14 :: a15 :: some (.long x) :: T) S w := fun H locs ls hl hP hD hS => lv_lload hC.1 hC.2.1 hd (jl_at hl (i := 16) rfl) (k H locs ls hl hP hD hS)
theorem j_lload17 (hC : jC p s m args meth c cc nL ret own D tys A X) {a0 a1 a2 a3 a4 a5 a6 a7 a8 a9 a10 a11 a12 a13 a14 a15 a16 : Option Value} {T : List (Option Value)} {x : Int64} (hd : decode cc pc = .ok (.lload 17, 2)) (k : J p l e R s m args below meth c D A nL Q (pc + 2) (a0 :: a1 :: a2 :: a3 :: a4 :: a5 :: a6 :: a7 :: a8 :: a9 :: a10 :: a11 :: a12 :: a13 :: a14 :: a15 :: a16 :: some (.long x) :: T) (.long x :: S) w) : J p l e R s m args below meth c D A nL Q pc (a0 :: a1 :: a2 :: a3 :: a4 :: a5 :: a6 :: a7 :: a8 :: a9 :: a10 :: a11 :: a12 :: a13 :: a14 :: a15 :: a16 :: some (.long x) :: T) S w := fun H locs ls hl hP hD hS => lv_lload hC.1 hC.2.1 hd (jl_at hl (i := 17) rfl) (k H locs ls hl hP hD hS)
theorem j_aload0 (hC : jC p s m args meth c cc nL ret own D tys A X) {T : List (Option Value)} {x : Nat} (hd : decode cc pc = .ok (.aload 0, 2)) (k : J p l e R s m args below meth c D A nL Q (pc + 2) (some (.ref x) :: T) (.ref x :: S) w) : J p l e R s m args below meth c D A nL Q pc (some (.ref x) :: T) S w := fun H locs ls hl hP hD hS => lv_aload hC.1 hC.2.1 hd (jl_at hl (i := 0) rfl) (k H locs ls hl hP hD hS)
theorem j_aloadn0 (hC : jC p s m args meth c cc nL ret own D tys A X) {T : List (Option Value)} {x : Nat} (hd : decode cc pc = .ok (.aload_n 0, 1)) (k : J p l e R s m args below meth c D A nL Q (pc + 1) (some (.ref x) :: T) (.ref x :: S) w) : J p l e R s m args below meth c D A nL Q pc (some (.ref x) :: T) S w := fun H locs ls hl hP hD hS => lv_aload_n hC.1 hC.2.1 hd rfl (jl_at hl (i := 0) rfl) (k H locs ls hl hP hD hS)
theorem j_aload1 (hC : jC p s m args meth c cc nL ret own D tys A X) {a0 : Option Value} {T : List (Option Value)} {x : Nat} (hd : decode cc pc = .ok (.aload 1, 2)) (k : J p l e R s m args below meth c D A nL Q (pc + 2) (a0 :: some (.ref x) :: T) (.ref x :: S) w) : J p l e R s m args below meth c D A nL Q pc (a0 :: some (.ref x) :: T) S w := fun H locs ls hl hP hD hS => lv_aload hC.1 hC.2.1 hd (jl_at hl (i := 1) rfl) (k H locs ls hl hP hD hS)
theorem j_aloadn1 (hC : jC p s m args meth c cc nL ret own D tys A X) {a0 : Option Value} {T : List (Option Value)} {x : Nat} (hd : decode cc pc = .ok (.aload_n 1, 1)) (k : J p l e R s m args below meth c D A nL Q (pc + 1) (a0 :: some (.ref x) :: T) (.ref x :: S) w) : J p l e R s m args below meth c D A nL Q pc (a0 :: some (.ref x) :: T) S w := fun H locs ls hl hP hD hS => lv_aload_n hC.1 hC.2.1 hd rfl (jl_at hl (i := 1) rfl) (k H locs ls hl hP hD hS)
theorem j_aload2 (hC : jC p s m args meth c cc nL ret own D tys A X) {a0 a1 : Option Value} {T : List (Option Value)} {x : Nat} (hd : decode cc pc = .ok (.aload 2, 2)) (k : J p l e R s m args below meth c D A nL Q (pc + 2) (a0 :: a1 :: some (.ref x) :: T) (.ref x :: S) w) : J p l e R s m args below meth c D A nL Q pc (a0 :: a1 :: some (.ref x) :: T) S w := fun H locs ls hl hP hD hS => lv_aload hC.1 hC.2.1 hd (jl_at hl (i := 2) rfl) (k H locs ls hl hP hD hS)
theorem j_aloadn2 (hC : jC p s m args meth c cc nL ret own D tys A X) {a0 a1 : Option Value} {T : List (Option Value)} {x : Nat} (hd : decode cc pc = .ok (.aload_n 2, 1)) (k : J p l e R s m args below meth c D A nL Q (pc + 1) (a0 :: a1 :: some (.ref x) :: T) (.ref x :: S) w) : J p l e R s m args below meth c D A nL Q pc (a0 :: a1 :: some (.ref x) :: T) S w := fun H locs ls hl hP hD hS => lv_aload_n hC.1 hC.2.1 hd rfl (jl_at hl (i := 2) rfl) (k H locs ls hl hP hD hS)
theorem j_aload3 (hC : jC p s m args meth c cc nL ret own D tys A X) {a0 a1 a2 : Option Value} {T : List (Option Value)} {x : Nat} (hd : decode cc pc = .ok (.aload 3, 2)) (k : J p l e R s m args below meth c D A nL Q (pc + 2) (a0 :: a1 :: a2 :: some (.ref x) :: T) (.ref x :: S) w) : J p l e R s m args below meth c D A nL Q pc (a0 :: a1 :: a2 :: some (.ref x) :: T) S w := fun H locs ls hl hP hD hS => lv_aload hC.1 hC.2.1 hd (jl_at hl (i := 3) rfl) (k H locs ls hl hP hD hS)
theorem j_aloadn3 (hC : jC p s m args meth c cc nL ret own D tys A X) {a0 a1 a2 : Option Value} {T : List (Option Value)} {x : Nat} (hd : decode cc pc = .ok (.aload_n 3, 1)) (k : J p l e R s m args below meth c D A nL Q (pc + 1) (a0 :: a1 :: a2 :: some (.ref x) :: T) (.ref x :: S) w) : J p l e R s m args below meth c D A nL Q pc (a0 :: a1 :: a2 :: some (.ref x) :: T) S w := fun H locs ls hl hP hD hS => lv_aload_n hC.1 hC.2.1 hd rfl (jl_at hl (i := 3) rfl) (k H locs ls hl hP hD hS)
theorem j_aload4 (hC : jC p s m args meth c cc nL ret own D tys A X) {a0 a1 a2 a3 : Option Value} {T : List (Option Value)} {x : Nat} (hd : decode cc pc = .ok (.aload 4, 2)) (k : J p l e R s m args below meth c D A nL Q (pc + 2) (a0 :: a1 :: a2 :: a3 :: some (.ref x) :: T) (.ref x :: S) w) : J p l e R s m args below meth c D A nL Q pc (a0 :: a1 :: a2 :: a3 :: some (.ref x) :: T) S w := fun H locs ls hl hP hD hS => lv_aload hC.1 hC.2.1 hd (jl_at hl (i := 4) rfl) (k H locs ls hl hP hD hS)
theorem j_aload5 (hC : jC p s m args meth c cc nL ret own D tys A X) {a0 a1 a2 a3 a4 : Option Value} {T : List (Option Value)} {x : Nat} (hd : decode cc pc = .ok (.aload 5, 2)) (k : J p l e R s m args below meth c D A nL Q (pc + 2) (a0 :: a1 :: a2 :: a3 :: a4 :: some (.ref x) :: T) (.ref x :: S) w) : J p l e R s m args below meth c D A nL Q pc (a0 :: a1 :: a2 :: a3 :: a4 :: some (.ref x) :: T) S w := fun H locs ls hl hP hD hS => lv_aload hC.1 hC.2.1 hd (jl_at hl (i := 5) rfl) (k H locs ls hl hP hD hS)
theorem j_aload6 (hC : jC p s m args meth c cc nL ret own D tys A X) {a0 a1 a2 a3 a4 a5 : Option Value} {T : List (Option Value)} {x : Nat} (hd : decode cc pc = .ok (.aload 6, 2)) (k : J p l e R s m args below meth c D A nL Q (pc + 2) (a0 :: a1 :: a2 :: a3 :: a4 :: a5 :: some (.ref x) :: T) (.ref x :: S) w) : J p l e R s m args below meth c D A nL Q pc (a0 :: a1 :: a2 :: a3 :: a4 :: a5 :: some (.ref x) :: T) S w := fun H locs ls hl hP hD hS => lv_aload hC.1 hC.2.1 hd (jl_at hl (i := 6) rfl) (k H locs ls hl hP hD hS)
theorem j_aload7 (hC : jC p s m args meth c cc nL ret own D tys A X) {a0 a1 a2 a3 a4 a5 a6 : Option Value} {T : List (Option Value)} {x : Nat} (hd : decode cc pc = .ok (.aload 7, 2)) (k : J p l e R s m args below meth c D A nL Q (pc + 2) (a0 :: a1 :: a2 :: a3 :: a4 :: a5 :: a6 :: some (.ref x) :: T) (.ref x :: S) w) : J p l e R s m args below meth c D A nL Q pc (a0 :: a1 :: a2 :: a3 :: a4 :: a5 :: a6 :: some (.ref x) :: T) S w := fun H locs ls hl hP hD hS => lv_aload hC.1 hC.2.1 hd (jl_at hl (i := 7) rfl) (k H locs ls hl hP hD hS)
theorem j_aload8 (hC : jC p s m args meth c cc nL ret own D tys A X) {a0 a1 a2 a3 a4 a5 a6 a7 : Option Value} {T : List (Option Value)} {x : Nat} (hd : decode cc pc = .ok (.aload 8, 2)) (k : J p l e R s m args below meth c D A nL Q (pc + 2) (a0 :: a1 :: a2 :: a3 :: a4 :: a5 :: a6 :: a7 :: some (.ref x) :: T) (.ref x :: S) w) : J p l e R s m args below meth c D A nL Q pc (a0 :: a1 :: a2 :: a3 :: a4 :: a5 :: a6 :: a7 :: some (.ref x) :: T) S w := fun H locs ls hl hP hD hS => lv_aload hC.1 hC.2.1 hd (jl_at hl (i := 8) rfl) (k H locs ls hl hP hD hS)
theorem j_aload9 (hC : jC p s m args meth c cc nL ret own D tys A X) {a0 a1 a2 a3 a4 a5 a6 a7 a8 : Option Value} {T : List (Option Value)} {x : Nat} (hd : decode cc pc = .ok (.aload 9, 2)) (k : J p l e R s m args below meth c D A nL Q (pc + 2) (a0 :: a1 :: a2 :: a3 :: a4 :: a5 :: a6 :: a7 :: a8 :: some (.ref x) :: T) (.ref x :: S) w) : J p l e R s m args below meth c D A nL Q pc (a0 :: a1 :: a2 :: a3 :: a4 :: a5 :: a6 :: a7 :: a8 :: some (.ref x) :: T) S w := fun H locs ls hl hP hD hS => lv_aload hC.1 hC.2.1 hd (jl_at hl (i := 9) rfl) (k H locs ls hl hP hD hS)
theorem j_aload10 (hC : jC p s m args meth c cc nL ret own D tys A X) {a0 a1 a2 a3 a4 a5 a6 a7 a8 a9 : Option Value} {T : List (Option Value)} {x : Nat} (hd : decode cc pc = .ok (.aload 10, 2)) (k : J p l e R s m args below meth c D A nL Q (pc + 2) (a0 :: a1 :: a2 :: a3 :: a4 :: a5 :: a6 :: a7 :: a8 :: a9 :: some (.ref x) :: T) (.ref x :: S) w) : J p l e R s m args below meth c D A nL Q pc (a0 :: a1 :: a2 :: a3 :: a4 :: a5 :: a6 :: a7 :: a8 :: a9 :: some (.ref x) :: T) S w := fun H locs ls hl hP hD hS => lv_aload hC.1 hC.2.1 hd (jl_at hl (i := 10) rfl) (k H locs ls hl hP hD hS)
theorem j_aload11 (hC : jC p s m args meth c cc nL ret own D tys A X) {a0 a1 a2 a3 a4 a5 a6 a7 a8 a9 a10 : Option Value} {T : List (Option Value)} {x : Nat} (hd : decode cc pc = .ok (.aload 11, 2)) (k : J p l e R s m args below meth c D A nL Q (pc + 2) (a0 :: a1 :: a2 :: a3 :: a4 :: a5 :: a6 :: a7 :: a8 :: a9 :: a10 :: some (.ref x) :: T) (.ref x :: S) w) : J p l e R s m args below meth c D A nL Q pc (a0 :: a1 :: a2 :: a3 :: a4 :: a5 :: a6 :: a7 :: a8 :: a9 :: a10 :: some (.ref x) :: T) S w := fun H locs ls hl hP hD hS => lv_aload hC.1 hC.2.1 hd (jl_at hl (i := 11) rfl) (k H locs ls hl hP hD hS)
theorem j_aload12 (hC : jC p s m args meth c cc nL ret own D tys A X) {a0 a1 a2 a3 a4 a5 a6 a7 a8 a9 a10 a11 : Option Value} {T : List (Option Value)} {x : Nat} (hd : decode cc pc = .ok (.aload 12, 2)) (k : J p l e R s m args below meth c D A nL Q (pc + 2) (a0 :: a1 :: a2 :: a3 :: a4 :: a5 :: a6 :: a7 :: a8 :: a9 :: a10 :: a11 :: some (.ref x) :: T) (.ref x :: S) w) : J p l e R s m args below meth c D A nL Q pc (a0 :: a1 :: a2 :: a3 :: a4 :: a5 :: a6 :: a7 :: a8 :: a9 :: a10 :: a11 :: some (.ref x) :: T) S w := fun H locs ls hl hP hD hS => lv_aload hC.1 hC.2.1 hd (jl_at hl (i := 12) rfl) (k H locs ls hl hP hD hS)
theorem j_aload13 (hC : jC p s m args meth c cc nL ret own D tys A X) {a0 a1 a2 a3 a4 a5 a6 a7 a8 a9 a10 a11 a12 : Option Value} {T : List (Option Value)} {x : Nat} (hd : decode cc pc = .ok (.aload 13, 2)) (k : J p l e R s m args below meth c D A nL Q (pc + 2) (a0 :: a1 :: a2 :: a3 :: a4 :: a5 :: a6 :: a7 :: a8 :: a9 :: a10 :: a11 :: a12 :: some (.ref x) :: T) (.ref x :: S) w) : J p l e R s m args below meth c D A nL Q pc (a0 :: a1 :: a2 :: a3 :: a4 :: a5 :: a6 :: a7 :: a8 :: a9 :: a10 :: a11 :: a12 :: some (.ref x) :: T) S w := fun H locs ls hl hP hD hS => lv_aload hC.1 hC.2.1 hd (jl_at hl (i := 13) rfl) (k H locs ls hl hP hD hS)
theorem j_aload14 (hC : jC p s m args meth c cc nL ret own D tys A X) {a0 a1 a2 a3 a4 a5 a6 a7 a8 a9 a10 a11 a12 a13 : Option Value} {T : List (Option Value)} {x : Nat} (hd : decode cc pc = .ok (.aload 14, 2)) (k : J p l e R s m args below meth c D A nL Q (pc + 2) (a0 :: a1 :: a2 :: a3 :: a4 :: a5 :: a6 :: a7 :: a8 :: a9 :: a10 :: a11 :: a12 :: a13 :: some (.ref x) :: T) (.ref x :: S) w) : J p l e R s m args below meth c D A nL Q pc (a0 :: a1 :: a2 :: a3 :: a4 :: a5 :: a6 :: a7 :: a8 :: a9 :: a10 :: a11 :: a12 :: a13 :: some (.ref x) :: T) S w := fun H locs ls hl hP hD hS => lv_aload hC.1 hC.2.1 hd (jl_at hl (i := 14) rfl) (k H locs ls hl hP hD hS)
theorem j_aload15 (hC : jC p s m args meth c cc nL ret own D tys A X) {a0 a1 a2 a3 a4 a5 a6 a7 a8 a9 a10 a11 a12 a13 a14 : Option Value} {T : List (Option Value)} {x : Nat} (hd : decode cc pc = .ok (.aload 15, 2)) (k : J p l e R s m args below meth c D A nL Q (pc + 2) (a0 :: a1 :: a2 :: a3 :: a4 :: a5 :: a6 :: a7 :: a8 :: a9 :: a10 :: a11 :: a12 :: a13 :: a14 :: some (.ref x) :: T) (.ref x :: S) w) : J p l e R s m args below meth c D A nL Q pc (a0 :: a1 :: a2 :: a3 :: a4 :: a5 :: a6 :: a7 :: a8 :: a9 :: a10 :: a11 :: a12 :: a13 :: a14 :: some (.ref x) :: T) S w := fun H locs ls hl hP hD hS => lv_aload hC.1 hC.2.1 hd (jl_at hl (i := 15) rfl) (k H locs ls hl hP hD hS)
theorem j_aload16 (hC : jC p s m args meth c cc nL ret own D tys A X) {a0 a1 a2 a3 a4 a5 a6 a7 a8 a9 a10 a11 a12 a13 a14 a15 : Option Value} {T : List (Option Value)} {x : Nat} (hd : decode cc pc = .ok (.aload 16, 2)) (k : J p l e R s m args below meth c D A nL Q (pc + 2) (a0 :: a1 :: a2 :: a3 :: a4 :: a5 :: a6 :: a7 :: a8 :: a9 :: a10 :: a11 :: a12 :: a13 :: a14 :: a15 :: some (.ref x) :: T) (.ref x :: S) w) : J p l e R s m args below meth c D A nL Q pc (a0 :: a1 :: a2 :: a3 :: a4 :: a5 :: a6 :: a7 :: a8 :: a9 :: a10 :: a11 :: a12 :: a13 :: a14 :: a15 :: some (.ref x) :: T) S w := fun H locs ls hl hP hD hS => lv_aload hC.1 hC.2.1 hd (jl_at hl (i := 16) rfl) (k H locs ls hl hP hD hS)
theorem j_aload17 (hC : jC p s m args meth c cc nL ret own D tys A X) {a0 a1 a2 a3 a4 a5 a6 a7 a8 a9 a10 a11 a12 a13 a14 a15 a16 : Option Value} {T : List (Option Value)} {x : Nat} (hd : decode cc pc = .ok (.aload 17, 2)) (k : J p l e R s m args below meth c D A nL Q (pc + 2) (a0 :: a1 :: a2 :: a3 :: a4 :: a5 :: a6 :: a7 :: a8 :: a9 :: a10 :: a11 :: a12 :: a13 :: a14 :: a15 :: a16 :: some (.ref x) :: T) (.ref x :: S) w) : J p l e R s m args below meth c D A nL Q pc (a0 :: a1 :: a2 :: a3 :: a4 :: a5 :: a6 :: a7 :: a8 :: a9 :: a10 :: a11 :: a12 :: a13 :: a14 :: a15 :: a16 :: some (.ref x) :: T) S w := fun H locs ls hl hP hD hS => lv_aload hC.1 hC.2.1 hd (jl_at hl (i := 17) rfl) (k H locs ls hl hP hD hS)
theorem j_istore0 (hC : jC p s m args meth c cc nL ret own D tys A X) {o : Option Value} {T : List (Option Value)} {x : Int32} (hd : decode cc pc = .ok (.istore 0, 2)) (hn : 0 < nL) (hk : jokL []) (k : J p l e R s m args below meth c D A nL Q (pc + 2) (some (.int x) :: T) S w) : J p l e R s m args below meth c D A nL Q pc (o :: T) (.int x :: S) w := fun H locs ls hl hP hD hS => lv_istore hC.1 hC.2.1 hd hl hn rfl (fun ls' hl' => k H locs ls' (jl_set1 (pre := []) (o := o) (T := T) hk hl') hP hD hS)
theorem j_istoren0 (hC : jC p s m args meth c cc nL ret own D tys A X) {o : Option Value} {T : List (Option Value)} {x : Int32} (hd : decode cc pc = .ok (.istore_n 0, 1)) (hn : 0 < nL) (hk : jokL []) (k : J p l e R s m args below meth c D A nL Q (pc + 1) (some (.int x) :: T) S w) : J p l e R s m args below meth c D A nL Q pc (o :: T) (.int x :: S) w := fun H locs ls hl hP hD hS => lv_istore_n hC.1 hC.2.1 hd rfl hl hn rfl (fun ls' hl' => k H locs ls' (jl_set1 (pre := []) (o := o) (T := T) hk hl') hP hD hS)
theorem j_istore1 (hC : jC p s m args meth c cc nL ret own D tys A X) {a0 : Option Value} {o : Option Value} {T : List (Option Value)} {x : Int32} (hd : decode cc pc = .ok (.istore 1, 2)) (hn : 1 < nL) (hk : jokL [a0]) (k : J p l e R s m args below meth c D A nL Q (pc + 2) (a0 :: some (.int x) :: T) S w) : J p l e R s m args below meth c D A nL Q pc (a0 :: o :: T) (.int x :: S) w := fun H locs ls hl hP hD hS => lv_istore hC.1 hC.2.1 hd hl hn rfl (fun ls' hl' => k H locs ls' (jl_set1 (pre := [a0]) (o := o) (T := T) hk hl') hP hD hS)
theorem j_istoren1 (hC : jC p s m args meth c cc nL ret own D tys A X) {a0 : Option Value} {o : Option Value} {T : List (Option Value)} {x : Int32} (hd : decode cc pc = .ok (.istore_n 1, 1)) (hn : 1 < nL) (hk : jokL [a0]) (k : J p l e R s m args below meth c D A nL Q (pc + 1) (a0 :: some (.int x) :: T) S w) : J p l e R s m args below meth c D A nL Q pc (a0 :: o :: T) (.int x :: S) w := fun H locs ls hl hP hD hS => lv_istore_n hC.1 hC.2.1 hd rfl hl hn rfl (fun ls' hl' => k H locs ls' (jl_set1 (pre := [a0]) (o := o) (T := T) hk hl') hP hD hS)
theorem j_istore2 (hC : jC p s m args meth c cc nL ret own D tys A X) {a0 a1 : Option Value} {o : Option Value} {T : List (Option Value)} {x : Int32} (hd : decode cc pc = .ok (.istore 2, 2)) (hn : 2 < nL) (hk : jokL [a0, a1]) (k : J p l e R s m args below meth c D A nL Q (pc + 2) (a0 :: a1 :: some (.int x) :: T) S w) : J p l e R s m args below meth c D A nL Q pc (a0 :: a1 :: o :: T) (.int x :: S) w := fun H locs ls hl hP hD hS => lv_istore hC.1 hC.2.1 hd hl hn rfl (fun ls' hl' => k H locs ls' (jl_set1 (pre := [a0, a1]) (o := o) (T := T) hk hl') hP hD hS)
theorem j_istoren2 (hC : jC p s m args meth c cc nL ret own D tys A X) {a0 a1 : Option Value} {o : Option Value} {T : List (Option Value)} {x : Int32} (hd : decode cc pc = .ok (.istore_n 2, 1)) (hn : 2 < nL) (hk : jokL [a0, a1]) (k : J p l e R s m args below meth c D A nL Q (pc + 1) (a0 :: a1 :: some (.int x) :: T) S w) : J p l e R s m args below meth c D A nL Q pc (a0 :: a1 :: o :: T) (.int x :: S) w := fun H locs ls hl hP hD hS => lv_istore_n hC.1 hC.2.1 hd rfl hl hn rfl (fun ls' hl' => k H locs ls' (jl_set1 (pre := [a0, a1]) (o := o) (T := T) hk hl') hP hD hS)
theorem j_istore3 (hC : jC p s m args meth c cc nL ret own D tys A X) {a0 a1 a2 : Option Value} {o : Option Value} {T : List (Option Value)} {x : Int32} (hd : decode cc pc = .ok (.istore 3, 2)) (hn : 3 < nL) (hk : jokL [a0, a1, a2]) (k : J p l e R s m args below meth c D A nL Q (pc + 2) (a0 :: a1 :: a2 :: some (.int x) :: T) S w) : J p l e R s m args below meth c D A nL Q pc (a0 :: a1 :: a2 :: o :: T) (.int x :: S) w := fun H locs ls hl hP hD hS => lv_istore hC.1 hC.2.1 hd hl hn rfl (fun ls' hl' => k H locs ls' (jl_set1 (pre := [a0, a1, a2]) (o := o) (T := T) hk hl') hP hD hS)
theorem j_istoren3 (hC : jC p s m args meth c cc nL ret own D tys A X) {a0 a1 a2 : Option Value} {o : Option Value} {T : List (Option Value)} {x : Int32} (hd : decode cc pc = .ok (.istore_n 3, 1)) (hn : 3 < nL) (hk : jokL [a0, a1, a2]) (k : J p l e R s m args below meth c D A nL Q (pc + 1) (a0 :: a1 :: a2 :: some (.int x) :: T) S w) : J p l e R s m args below meth c D A nL Q pc (a0 :: a1 :: a2 :: o :: T) (.int x :: S) w := fun H locs ls hl hP hD hS => lv_istore_n hC.1 hC.2.1 hd rfl hl hn rfl (fun ls' hl' => k H locs ls' (jl_set1 (pre := [a0, a1, a2]) (o := o) (T := T) hk hl') hP hD hS)
theorem j_istore4 (hC : jC p s m args meth c cc nL ret own D tys A X) {a0 a1 a2 a3 : Option Value} {o : Option Value} {T : List (Option Value)} {x : Int32} (hd : decode cc pc = .ok (.istore 4, 2)) (hn : 4 < nL) (hk : jokL [a0, a1, a2, a3]) (k : J p l e R s m args below meth c D A nL Q (pc + 2) (a0 :: a1 :: a2 :: a3 :: some (.int x) :: T) S w) : J p l e R s m args below meth c D A nL Q pc (a0 :: a1 :: a2 :: a3 :: o :: T) (.int x :: S) w := fun H locs ls hl hP hD hS => lv_istore hC.1 hC.2.1 hd hl hn rfl (fun ls' hl' => k H locs ls' (jl_set1 (pre := [a0, a1, a2, a3]) (o := o) (T := T) hk hl') hP hD hS)
theorem j_istore5 (hC : jC p s m args meth c cc nL ret own D tys A X) {a0 a1 a2 a3 a4 : Option Value} {o : Option Value} {T : List (Option Value)} {x : Int32} (hd : decode cc pc = .ok (.istore 5, 2)) (hn : 5 < nL) (hk : jokL [a0, a1, a2, a3, a4]) (k : J p l e R s m args below meth c D A nL Q (pc + 2) (a0 :: a1 :: a2 :: a3 :: a4 :: some (.int x) :: T) S w) : J p l e R s m args below meth c D A nL Q pc (a0 :: a1 :: a2 :: a3 :: a4 :: o :: T) (.int x :: S) w := fun H locs ls hl hP hD hS => lv_istore hC.1 hC.2.1 hd hl hn rfl (fun ls' hl' => k H locs ls' (jl_set1 (pre := [a0, a1, a2, a3, a4]) (o := o) (T := T) hk hl') hP hD hS)
theorem j_istore6 (hC : jC p s m args meth c cc nL ret own D tys A X) {a0 a1 a2 a3 a4 a5 : Option Value} {o : Option Value} {T : List (Option Value)} {x : Int32} (hd : decode cc pc = .ok (.istore 6, 2)) (hn : 6 < nL) (hk : jokL [a0, a1, a2, a3, a4, a5]) (k : J p l e R s m args below meth c D A nL Q (pc + 2) (a0 :: a1 :: a2 :: a3 :: a4 :: a5 :: some (.int x) :: T) S w) : J p l e R s m args below meth c D A nL Q pc (a0 :: a1 :: a2 :: a3 :: a4 :: a5 :: o :: T) (.int x :: S) w := fun H locs ls hl hP hD hS => lv_istore hC.1 hC.2.1 hd hl hn rfl (fun ls' hl' => k H locs ls' (jl_set1 (pre := [a0, a1, a2, a3, a4, a5]) (o := o) (T := T) hk hl') hP hD hS)
theorem j_istore7 (hC : jC p s m args meth c cc nL ret own D tys A X) {a0 a1 a2 a3 a4 a5 a6 : Option Value} {o : Option Value} {T : List (Option Value)} {x : Int32} (hd : decode cc pc = .ok (.istore 7, 2)) (hn : 7 < nL) (hk : jokL [a0, a1, a2, a3, a4, a5, a6]) (k : J p l e R s m args below meth c D A nL Q (pc + 2) (a0 :: a1 :: a2 :: a3 :: a4 :: a5 :: a6 :: some (.int x) :: T) S w) : J p l e R s m args below meth c D A nL Q pc (a0 :: a1 :: a2 :: a3 :: a4 :: a5 :: a6 :: o :: T) (.int x :: S) w := fun H locs ls hl hP hD hS => lv_istore hC.1 hC.2.1 hd hl hn rfl (fun ls' hl' => k H locs ls' (jl_set1 (pre := [a0, a1, a2, a3, a4, a5, a6]) (o := o) (T := T) hk hl') hP hD hS)
theorem j_istore8 (hC : jC p s m args meth c cc nL ret own D tys A X) {a0 a1 a2 a3 a4 a5 a6 a7 : Option Value} {o : Option Value} {T : List (Option Value)} {x : Int32} (hd : decode cc pc = .ok (.istore 8, 2)) (hn : 8 < nL) (hk : jokL [a0, a1, a2, a3, a4, a5, a6, a7]) (k : J p l e R s m args below meth c D A nL Q (pc + 2) (a0 :: a1 :: a2 :: a3 :: a4 :: a5 :: a6 :: a7 :: some (.int x) :: T) S w) : J p l e R s m args below meth c D A nL Q pc (a0 :: a1 :: a2 :: a3 :: a4 :: a5 :: a6 :: a7 :: o :: T) (.int x :: S) w := fun H locs ls hl hP hD hS => lv_istore hC.1 hC.2.1 hd hl hn rfl (fun ls' hl' => k H locs ls' (jl_set1 (pre := [a0, a1, a2, a3, a4, a5, a6, a7]) (o := o) (T := T) hk hl') hP hD hS)
theorem j_istore9 (hC : jC p s m args meth c cc nL ret own D tys A X) {a0 a1 a2 a3 a4 a5 a6 a7 a8 : Option Value} {o : Option Value} {T : List (Option Value)} {x : Int32} (hd : decode cc pc = .ok (.istore 9, 2)) (hn : 9 < nL) (hk : jokL [a0, a1, a2, a3, a4, a5, a6, a7, a8]) (k : J p l e R s m args below meth c D A nL Q (pc + 2) (a0 :: a1 :: a2 :: a3 :: a4 :: a5 :: a6 :: a7 :: a8 :: some (.int x) :: T) S w) : J p l e R s m args below meth c D A nL Q pc (a0 :: a1 :: a2 :: a3 :: a4 :: a5 :: a6 :: a7 :: a8 :: o :: T) (.int x :: S) w := fun H locs ls hl hP hD hS => lv_istore hC.1 hC.2.1 hd hl hn rfl (fun ls' hl' => k H locs ls' (jl_set1 (pre := [a0, a1, a2, a3, a4, a5, a6, a7, a8]) (o := o) (T := T) hk hl') hP hD hS)
theorem j_istore10 (hC : jC p s m args meth c cc nL ret own D tys A X) {a0 a1 a2 a3 a4 a5 a6 a7 a8 a9 : Option Value} {o : Option Value} {T : List (Option Value)} {x : Int32} (hd : decode cc pc = .ok (.istore 10, 2)) (hn : 10 < nL) (hk : jokL [a0, a1, a2, a3, a4, a5, a6, a7, a8, a9]) (k : J p l e R s m args below meth c D A nL Q (pc + 2) (a0 :: a1 :: a2 :: a3 :: a4 :: a5 :: a6 :: a7 :: a8 :: a9 :: some (.int x) :: T) S w) : J p l e R s m args below meth c D A nL Q pc (a0 :: a1 :: a2 :: a3 :: a4 :: a5 :: a6 :: a7 :: a8 :: a9 :: o :: T) (.int x :: S) w := fun H locs ls hl hP hD hS => lv_istore hC.1 hC.2.1 hd hl hn rfl (fun ls' hl' => k H locs ls' (jl_set1 (pre := [a0, a1, a2, a3, a4, a5, a6, a7, a8, a9]) (o := o) (T := T) hk hl') hP hD hS)
theorem j_istore11 (hC : jC p s m args meth c cc nL ret own D tys A X) {a0 a1 a2 a3 a4 a5 a6 a7 a8 a9 a10 : Option Value} {o : Option Value} {T : List (Option Value)} {x : Int32} (hd : decode cc pc = .ok (.istore 11, 2)) (hn : 11 < nL) (hk : jokL [a0, a1, a2, a3, a4, a5, a6, a7, a8, a9, a10]) (k : J p l e R s m args below meth c D A nL Q (pc + 2) (a0 :: a1 :: a2 :: a3 :: a4 :: a5 :: a6 :: a7 :: a8 :: a9 :: a10 :: some (.int x) :: T) S w) : J p l e R s m args below meth c D A nL Q pc (a0 :: a1 :: a2 :: a3 :: a4 :: a5 :: a6 :: a7 :: a8 :: a9 :: a10 :: o :: T) (.int x :: S) w := fun H locs ls hl hP hD hS => lv_istore hC.1 hC.2.1 hd hl hn rfl (fun ls' hl' => k H locs ls' (jl_set1 (pre := [a0, a1, a2, a3, a4, a5, a6, a7, a8, a9, a10]) (o := o) (T := T) hk hl') hP hD hS)
theorem j_istore12 (hC : jC p s m args meth c cc nL ret own D tys A X) {a0 a1 a2 a3 a4 a5 a6 a7 a8 a9 a10 a11 : Option Value} {o : Option Value} {T : List (Option Value)} {x : Int32} (hd : decode cc pc = .ok (.istore 12, 2)) (hn : 12 < nL) (hk : jokL [a0, a1, a2, a3, a4, a5, a6, a7, a8, a9, a10, a11]) (k : J p l e R s m args below meth c D A nL Q (pc + 2) (a0 :: a1 :: a2 :: a3 :: a4 :: a5 :: a6 :: a7 :: a8 :: a9 :: a10 :: a11 :: some (.int x) :: T) S w) : J p l e R s m args below meth c D A nL Q pc (a0 :: a1 :: a2 :: a3 :: a4 :: a5 :: a6 :: a7 :: a8 :: a9 :: a10 :: a11 :: o :: T) (.int x :: S) w := fun H locs ls hl hP hD hS => lv_istore hC.1 hC.2.1 hd hl hn rfl (fun ls' hl' => k H locs ls' (jl_set1 (pre := [a0, a1, a2, a3, a4, a5, a6, a7, a8, a9, a10, a11]) (o := o) (T := T) hk hl') hP hD hS)
theorem j_istore13 (hC : jC p s m args meth c cc nL ret own D tys A X) {a0 a1 a2 a3 a4 a5 a6 a7 a8 a9 a10 a11 a12 : Option Value} {o : Option Value} {T : List (Option Value)} {x : Int32} (hd : decode cc pc = .ok (.istore 13, 2)) (hn : 13 < nL) (hk : jokL [a0, a1, a2, a3, a4, a5, a6, a7, a8, a9, a10, a11, a12]) (k : J p l e R s m args below meth c D A nL Q (pc + 2) (a0 :: a1 :: a2 :: a3 :: a4 :: a5 :: a6 :: a7 :: a8 :: a9 :: a10 :: a11 :: a12 :: some (.int x) :: T) S w) : J p l e R s m args below meth c D A nL Q pc (a0 :: a1 :: a2 :: a3 :: a4 :: a5 :: a6 :: a7 :: a8 :: a9 :: a10 :: a11 :: a12 :: o :: T) (.int x :: S) w := fun H locs ls hl hP hD hS => lv_istore hC.1 hC.2.1 hd hl hn rfl (fun ls' hl' => k H locs ls' (jl_set1 (pre := [a0, a1, a2, a3, a4, a5, a6, a7, a8, a9, a10, a11, a12]) (o := o) (T := T) hk hl') hP hD hS)
theorem j_istore14 (hC : jC p s m args meth c cc nL ret own D tys A X) {a0 a1 a2 a3 a4 a5 a6 a7 a8 a9 a10 a11 a12 a13 : Option Value} {o : Option Value} {T : List (Option Value)} {x : Int32} (hd : decode cc pc = .ok (.istore 14, 2)) (hn : 14 < nL) (hk : jokL [a0, a1, a2, a3, a4, a5, a6, a7, a8, a9, a10, a11, a12, a13]) (k : J p l e R s m args below meth c D A nL Q (pc + 2) (a0 :: a1 :: a2 :: a3 :: a4 :: a5 :: a6 :: a7 :: a8 :: a9 :: a10 :: a11 :: a12 :: a13 :: some (.int x) :: T) S w) : J p l e R s m args below meth c D A nL Q pc (a0 :: a1 :: a2 :: a3 :: a4 :: a5 :: a6 :: a7 :: a8 :: a9 :: a10 :: a11 :: a12 :: a13 :: o :: T) (.int x :: S) w := fun H locs ls hl hP hD hS => lv_istore hC.1 hC.2.1 hd hl hn rfl (fun ls' hl' => k H locs ls' (jl_set1 (pre := [a0, a1, a2, a3, a4, a5, a6, a7, a8, a9, a10, a11, a12, a13]) (o := o) (T := T) hk hl') hP hD hS)
theorem j_istore15 (hC : jC p s m args meth c cc nL ret own D tys A X) {a0 a1 a2 a3 a4 a5 a6 a7 a8 a9 a10 a11 a12 a13 a14 : Option Value} {o : Option Value} {T : List (Option Value)} {x : Int32} (hd : decode cc pc = .ok (.istore 15, 2)) (hn : 15 < nL) (hk : jokL [a0, a1, a2, a3, a4, a5, a6, a7, a8, a9, a10, a11, a12, a13, a14]) (k : J p l e R s m args below meth c D A nL Q (pc + 2) (a0 :: a1 :: a2 :: a3 :: a4 :: a5 :: a6 :: a7 :: a8 :: a9 :: a10 :: a11 :: a12 :: a13 :: a14 :: some (.int x) :: T) S w) : J p l e R s m args below meth c D A nL Q pc (a0 :: a1 :: a2 :: a3 :: a4 :: a5 :: a6 :: a7 :: a8 :: a9 :: a10 :: a11 :: a12 :: a13 :: a14 :: o :: T) (.int x :: S) w := fun H locs ls hl hP hD hS => lv_istore hC.1 hC.2.1 hd hl hn rfl (fun ls' hl' => k H locs ls' (jl_set1 (pre := [a0, a1, a2, a3, a4, a5, a6, a7, a8, a9, a10, a11, a12, a13, a14]) (o := o) (T := T) hk hl') hP hD hS)
theorem j_istore16 (hC : jC p s m args meth c cc nL ret own D tys A X) {a0 a1 a2 a3 a4 a5 a6 a7 a8 a9 a10 a11 a12 a13 a14 a15 : Option Value} {o : Option Value} {T : List (Option Value)} {x : Int32} (hd : decode cc pc = .ok (.istore 16, 2)) (hn : 16 < nL) (hk : jokL [a0, a1, a2, a3, a4, a5, a6, a7, a8, a9, a10, a11, a12, a13, a14, a15]) (k : J p l e R s m args below meth c D A nL Q (pc + 2) (a0 :: a1 :: a2 :: a3 :: a4 :: a5 :: a6 :: a7 :: a8 :: a9 :: a10 :: a11 :: a12 :: a13 :: a14 :: a15 :: some (.int x) :: T) S w) : J p l e R s m args below meth c D A nL Q pc (a0 :: a1 :: a2 :: a3 :: a4 :: a5 :: a6 :: a7 :: a8 :: a9 :: a10 :: a11 :: a12 :: a13 :: a14 :: a15 :: o :: T) (.int x :: S) w := fun H locs ls hl hP hD hS => lv_istore hC.1 hC.2.1 hd hl hn rfl (fun ls' hl' => k H locs ls' (jl_set1 (pre := [a0, a1, a2, a3, a4, a5, a6, a7, a8, a9, a10, a11, a12, a13, a14, a15]) (o := o) (T := T) hk hl') hP hD hS)
theorem j_istore17 (hC : jC p s m args meth c cc nL ret own D tys A X) {a0 a1 a2 a3 a4 a5 a6 a7 a8 a9 a10 a11 a12 a13 a14 a15 a16 : Option Value} {o : Option Value} {T : List (Option Value)} {x : Int32} (hd : decode cc pc = .ok (.istore 17, 2)) (hn : 17 < nL) (hk : jokL [a0, a1, a2, a3, a4, a5, a6, a7, a8, a9, a10, a11, a12, a13, a14, a15, a16]) (k : J p l e R s m args below meth c D A nL Q (pc + 2) (a0 :: a1 :: a2 :: a3 :: a4 :: a5 :: a6 :: a7 :: a8 :: a9 :: a10 :: a11 :: a12 :: a13 :: a14 :: a15 :: a16 :: some (.int x) :: T) S w) : J p l e R s m args below meth c D A nL Q pc (a0 :: a1 :: a2 :: a3 :: a4 :: a5 :: a6 :: a7 :: a8 :: a9 :: a10 :: a11 :: a12 :: a13 :: a14 :: a15 :: a16 :: o :: T) (.int x :: S) w := fun H locs ls hl hP hD hS => lv_istore hC.1 hC.2.1 hd hl hn rfl (fun ls' hl' => k H locs ls' (jl_set1 (pre := [a0, a1, a2, a3, a4, a5, a6, a7, a8, a9, a10, a11, a12, a13, a14, a15, a16]) (o := o) (T := T) hk hl') hP hD hS)
theorem j_astore0 (hC : jC p s m args meth c cc nL ret own D tys A X) {o : Option Value} {T : List (Option Value)} {x : Nat} (hd : decode cc pc = .ok (.astore 0, 2)) (hn : 0 < nL) (hk : jokL []) (k : J p l e R s m args below meth c D A nL Q (pc + 2) (some (.ref x) :: T) S w) : J p l e R s m args below meth c D A nL Q pc (o :: T) (.ref x :: S) w := fun H locs ls hl hP hD hS => lv_astore hC.1 hC.2.1 hd hl hn rfl (fun ls' hl' => k H locs ls' (jl_set1 (pre := []) (o := o) (T := T) hk hl') hP hD hS)
theorem j_astoren0 (hC : jC p s m args meth c cc nL ret own D tys A X) {o : Option Value} {T : List (Option Value)} {x : Nat} (hd : decode cc pc = .ok (.astore_n 0, 1)) (hn : 0 < nL) (hk : jokL []) (k : J p l e R s m args below meth c D A nL Q (pc + 1) (some (.ref x) :: T) S w) : J p l e R s m args below meth c D A nL Q pc (o :: T) (.ref x :: S) w := fun H locs ls hl hP hD hS => lv_astore_n hC.1 hC.2.1 hd rfl hl hn rfl (fun ls' hl' => k H locs ls' (jl_set1 (pre := []) (o := o) (T := T) hk hl') hP hD hS)
theorem j_astore1 (hC : jC p s m args meth c cc nL ret own D tys A X) {a0 : Option Value} {o : Option Value} {T : List (Option Value)} {x : Nat} (hd : decode cc pc = .ok (.astore 1, 2)) (hn : 1 < nL) (hk : jokL [a0]) (k : J p l e R s m args below meth c D A nL Q (pc + 2) (a0 :: some (.ref x) :: T) S w) : J p l e R s m args below meth c D A nL Q pc (a0 :: o :: T) (.ref x :: S) w := fun H locs ls hl hP hD hS => lv_astore hC.1 hC.2.1 hd hl hn rfl (fun ls' hl' => k H locs ls' (jl_set1 (pre := [a0]) (o := o) (T := T) hk hl') hP hD hS)
theorem j_astoren1 (hC : jC p s m args meth c cc nL ret own D tys A X) {a0 : Option Value} {o : Option Value} {T : List (Option Value)} {x : Nat} (hd : decode cc pc = .ok (.astore_n 1, 1)) (hn : 1 < nL) (hk : jokL [a0]) (k : J p l e R s m args below meth c D A nL Q (pc + 1) (a0 :: some (.ref x) :: T) S w) : J p l e R s m args below meth c D A nL Q pc (a0 :: o :: T) (.ref x :: S) w := fun H locs ls hl hP hD hS => lv_astore_n hC.1 hC.2.1 hd rfl hl hn rfl (fun ls' hl' => k H locs ls' (jl_set1 (pre := [a0]) (o := o) (T := T) hk hl') hP hD hS)
theorem j_astore2 (hC : jC p s m args meth c cc nL ret own D tys A X) {a0 a1 : Option Value} {o : Option Value} {T : List (Option Value)} {x : Nat} (hd : decode cc pc = .ok (.astore 2, 2)) (hn : 2 < nL) (hk : jokL [a0, a1]) (k : J p l e R s m args below meth c D A nL Q (pc + 2) (a0 :: a1 :: some (.ref x) :: T) S w) : J p l e R s m args below meth c D A nL Q pc (a0 :: a1 :: o :: T) (.ref x :: S) w := fun H locs ls hl hP hD hS => lv_astore hC.1 hC.2.1 hd hl hn rfl (fun ls' hl' => k H locs ls' (jl_set1 (pre := [a0, a1]) (o := o) (T := T) hk hl') hP hD hS)
theorem j_astoren2 (hC : jC p s m args meth c cc nL ret own D tys A X) {a0 a1 : Option Value} {o : Option Value} {T : List (Option Value)} {x : Nat} (hd : decode cc pc = .ok (.astore_n 2, 1)) (hn : 2 < nL) (hk : jokL [a0, a1]) (k : J p l e R s m args below meth c D A nL Q (pc + 1) (a0 :: a1 :: some (.ref x) :: T) S w) : J p l e R s m args below meth c D A nL Q pc (a0 :: a1 :: o :: T) (.ref x :: S) w := fun H locs ls hl hP hD hS => lv_astore_n hC.1 hC.2.1 hd rfl hl hn rfl (fun ls' hl' => k H locs ls' (jl_set1 (pre := [a0, a1]) (o := o) (T := T) hk hl') hP hD hS)
theorem j_astore3 (hC : jC p s m args meth c cc nL ret own D tys A X) {a0 a1 a2 : Option Value} {o : Option Value} {T : List (Option Value)} {x : Nat} (hd : decode cc pc = .ok (.astore 3, 2)) (hn : 3 < nL) (hk : jokL [a0, a1, a2]) (k : J p l e R s m args below meth c D A nL Q (pc + 2) (a0 :: a1 :: a2 :: some (.ref x) :: T) S w) : J p l e R s m args below meth c D A nL Q pc (a0 :: a1 :: a2 :: o :: T) (.ref x :: S) w := fun H locs ls hl hP hD hS => lv_astore hC.1 hC.2.1 hd hl hn rfl (fun ls' hl' => k H locs ls' (jl_set1 (pre := [a0, a1, a2]) (o := o) (T := T) hk hl') hP hD hS)
theorem j_astoren3 (hC : jC p s m args meth c cc nL ret own D tys A X) {a0 a1 a2 : Option Value} {o : Option Value} {T : List (Option Value)} {x : Nat} (hd : decode cc pc = .ok (.astore_n 3, 1)) (hn : 3 < nL) (hk : jokL [a0, a1, a2]) (k : J p l e R s m args below meth c D A nL Q (pc + 1) (a0 :: a1 :: a2 :: some (.ref x) :: T) S w) : J p l e R s m args below meth c D A nL Q pc (a0 :: a1 :: a2 :: o :: T) (.ref x :: S) w := fun H locs ls hl hP hD hS => lv_astore_n hC.1 hC.2.1 hd rfl hl hn rfl (fun ls' hl' => k H locs ls' (jl_set1 (pre := [a0, a1, a2]) (o := o) (T := T) hk hl') hP hD hS)
theorem j_astore4 (hC : jC p s m args meth c cc nL ret own D tys A X) {a0 a1 a2 a3 : Option Value} {o : Option Value} {T : List (Option Value)} {x : Nat} (hd : decode cc pc = .ok (.astore 4, 2)) (hn : 4 < nL) (hk : jokL [a0, a1, a2, a3]) (k : J p l e R s m args below meth c D A nL Q (pc + 2) (a0 :: a1 :: a2 :: a3 :: some (.ref x) :: T) S w) : J p l e R s m args below meth c D A nL Q pc (a0 :: a1 :: a2 :: a3 :: o :: T) (.ref x :: S) w := fun H locs ls hl hP hD hS => lv_astore hC.1 hC.2.1 hd hl hn rfl (fun ls' hl' => k H locs ls' (jl_set1 (pre := [a0, a1, a2, a3]) (o := o) (T := T) hk hl') hP hD hS)
theorem j_astore5 (hC : jC p s m args meth c cc nL ret own D tys A X) {a0 a1 a2 a3 a4 : Option Value} {o : Option Value} {T : List (Option Value)} {x : Nat} (hd : decode cc pc = .ok (.astore 5, 2)) (hn : 5 < nL) (hk : jokL [a0, a1, a2, a3, a4]) (k : J p l e R s m args below meth c D A nL Q (pc + 2) (a0 :: a1 :: a2 :: a3 :: a4 :: some (.ref x) :: T) S w) : J p l e R s m args below meth c D A nL Q pc (a0 :: a1 :: a2 :: a3 :: a4 :: o :: T) (.ref x :: S) w := fun H locs ls hl hP hD hS => lv_astore hC.1 hC.2.1 hd hl hn rfl (fun ls' hl' => k H locs ls' (jl_set1 (pre := [a0, a1, a2, a3, a4]) (o := o) (T := T) hk hl') hP hD hS)
theorem j_astore6 (hC : jC p s m args meth c cc nL ret own D tys A X) {a0 a1 a2 a3 a4 a5 : Option Value} {o : Option Value} {T : List (Option Value)} {x : Nat} (hd : decode cc pc = .ok (.astore 6, 2)) (hn : 6 < nL) (hk : jokL [a0, a1, a2, a3, a4, a5]) (k : J p l e R s m args below meth c D A nL Q (pc + 2) (a0 :: a1 :: a2 :: a3 :: a4 :: a5 :: some (.ref x) :: T) S w) : J p l e R s m args below meth c D A nL Q pc (a0 :: a1 :: a2 :: a3 :: a4 :: a5 :: o :: T) (.ref x :: S) w := fun H locs ls hl hP hD hS => lv_astore hC.1 hC.2.1 hd hl hn rfl (fun ls' hl' => k H locs ls' (jl_set1 (pre := [a0, a1, a2, a3, a4, a5]) (o := o) (T := T) hk hl') hP hD hS)
theorem j_astore7 (hC : jC p s m args meth c cc nL ret own D tys A X) {a0 a1 a2 a3 a4 a5 a6 : Option Value} {o : Option Value} {T : List (Option Value)} {x : Nat} (hd : decode cc pc = .ok (.astore 7, 2)) (hn : 7 < nL) (hk : jokL [a0, a1, a2, a3, a4, a5, a6]) (k : J p l e R s m args below meth c D A nL Q (pc + 2) (a0 :: a1 :: a2 :: a3 :: a4 :: a5 :: a6 :: some (.ref x) :: T) S w) : J p l e R s m args below meth c D A nL Q pc (a0 :: a1 :: a2 :: a3 :: a4 :: a5 :: a6 :: o :: T) (.ref x :: S) w := fun H locs ls hl hP hD hS => lv_astore hC.1 hC.2.1 hd hl hn rfl (fun ls' hl' => k H locs ls' (jl_set1 (pre := [a0, a1, a2, a3, a4, a5, a6]) (o := o) (T := T) hk hl') hP hD hS)
theorem j_astore8 (hC : jC p s m args meth c cc nL ret own D tys A X) {a0 a1 a2 a3 a4 a5 a6 a7 : Option Value} {o : Option Value} {T : List (Option Value)} {x : Nat} (hd : decode cc pc = .ok (.astore 8, 2)) (hn : 8 < nL) (hk : jokL [a0, a1, a2, a3, a4, a5, a6, a7]) (k : J p l e R s m args below meth c D A nL Q (pc + 2) (a0 :: a1 :: a2 :: a3 :: a4 :: a5 :: a6 :: a7 :: some (.ref x) :: T) S w) : J p l e R s m args below meth c D A nL Q pc (a0 :: a1 :: a2 :: a3 :: a4 :: a5 :: a6 :: a7 :: o :: T) (.ref x :: S) w := fun H locs ls hl hP hD hS => lv_astore hC.1 hC.2.1 hd hl hn rfl (fun ls' hl' => k H locs ls' (jl_set1 (pre := [a0, a1, a2, a3, a4, a5, a6, a7]) (o := o) (T := T) hk hl') hP hD hS)
theorem j_astore9 (hC : jC p s m args meth c cc nL ret own D tys A X) {a0 a1 a2 a3 a4 a5 a6 a7 a8 : Option Value} {o : Option Value} {T : List (Option Value)} {x : Nat} (hd : decode cc pc = .ok (.astore 9, 2)) (hn : 9 < nL) (hk : jokL [a0, a1, a2, a3, a4, a5, a6, a7, a8]) (k : J p l e R s m args below meth c D A nL Q (pc + 2) (a0 :: a1 :: a2 :: a3 :: a4 :: a5 :: a6 :: a7 :: a8 :: some (.ref x) :: T) S w) : J p l e R s m args below meth c D A nL Q pc (a0 :: a1 :: a2 :: a3 :: a4 :: a5 :: a6 :: a7 :: a8 :: o :: T) (.ref x :: S) w := fun H locs ls hl hP hD hS => lv_astore hC.1 hC.2.1 hd hl hn rfl (fun ls' hl' => k H locs ls' (jl_set1 (pre := [a0, a1, a2, a3, a4, a5, a6, a7, a8]) (o := o) (T := T) hk hl') hP hD hS)
theorem j_astore10 (hC : jC p s m args meth c cc nL ret own D tys A X) {a0 a1 a2 a3 a4 a5 a6 a7 a8 a9 : Option Value} {o : Option Value} {T : List (Option Value)} {x : Nat} (hd : decode cc pc = .ok (.astore 10, 2)) (hn : 10 < nL) (hk : jokL [a0, a1, a2, a3, a4, a5, a6, a7, a8, a9]) (k : J p l e R s m args below meth c D A nL Q (pc + 2) (a0 :: a1 :: a2 :: a3 :: a4 :: a5 :: a6 :: a7 :: a8 :: a9 :: some (.ref x) :: T) S w) : J p l e R s m args below meth c D A nL Q pc (a0 :: a1 :: a2 :: a3 :: a4 :: a5 :: a6 :: a7 :: a8 :: a9 :: o :: T) (.ref x :: S) w := fun H locs ls hl hP hD hS => lv_astore hC.1 hC.2.1 hd hl hn rfl (fun ls' hl' => k H locs ls' (jl_set1 (pre := [a0, a1, a2, a3, a4, a5, a6, a7, a8, a9]) (o := o) (T := T) hk hl') hP hD hS)
theorem j_astore11 (hC : jC p s m args meth c cc nL ret own D tys A X) {a0 a1 a2 a3 a4 a5 a6 a7 a8 a9 a10 : Option Value} {o : Option Value} {T : List (Option Value)} {x : Nat} (hd : decode cc pc = .ok (.astore 11, 2)) (hn : 11 < nL) (hk : jokL [a0, a1, a2, a3, a4, a5, a6, a7, a8, a9, a10]) (k : J p l e R s m args below meth c D A nL Q (pc + 2) (a0 :: a1 :: a2 :: a3 :: a4 :: a5 :: a6 :: a7 :: a8 :: a9 :: a10 :: some (.ref x) :: T) S w) : J p l e R s m args below meth c D A nL Q pc (a0 :: a1 :: a2 :: a3 :: a4 :: a5 :: a6 :: a7 :: a8 :: a9 :: a10 :: o :: T) (.ref x :: S) w := fun H locs ls hl hP hD hS => lv_astore hC.1 hC.2.1 hd hl hn rfl (fun ls' hl' => k H locs ls' (jl_set1 (pre := [a0, a1, a2, a3, a4, a5, a6, a7, a8, a9, a10]) (o := o) (T := T) hk hl') hP hD hS)
theorem j_astore12 (hC : jC p s m args meth c cc nL ret own D tys A X) {a0 a1 a2 a3 a4 a5 a6 a7 a8 a9 a10 a11 : Option Value} {o : Option Value} {T : List (Option Value)} {x : Nat} (hd : decode cc pc = .ok (.astore 12, 2)) (hn : 12 < nL) (hk : jokL [a0, a1, a2, a3, a4, a5, a6, a7, a8, a9, a10, a11]) (k : J p l e R s m args below meth c D A nL Q (pc + 2) (a0 :: a1 :: a2 :: a3 :: a4 :: a5 :: a6 :: a7 :: a8 :: a9 :: a10 :: a11 :: some (.ref x) :: T) S w) : J p l e R s m args below meth c D A nL Q pc (a0 :: a1 :: a2 :: a3 :: a4 :: a5 :: a6 :: a7 :: a8 :: a9 :: a10 :: a11 :: o :: T) (.ref x :: S) w := fun H locs ls hl hP hD hS => lv_astore hC.1 hC.2.1 hd hl hn rfl (fun ls' hl' => k H locs ls' (jl_set1 (pre := [a0, a1, a2, a3, a4, a5, a6, a7, a8, a9, a10, a11]) (o := o) (T := T) hk hl') hP hD hS)
theorem j_astore13 (hC : jC p s m args meth c cc nL ret own D tys A X) {a0 a1 a2 a3 a4 a5 a6 a7 a8 a9 a10 a11 a12 : Option Value} {o : Option Value} {T : List (Option Value)} {x : Nat} (hd : decode cc pc = .ok (.astore 13, 2)) (hn : 13 < nL) (hk : jokL [a0, a1, a2, a3, a4, a5, a6, a7, a8, a9, a10, a11, a12]) (k : J p l e R s m args below meth c D A nL Q (pc + 2) (a0 :: a1 :: a2 :: a3 :: a4 :: a5 :: a6 :: a7 :: a8 :: a9 :: a10 :: a11 :: a12 :: some (.ref x) :: T) S w) : J p l e R s m args below meth c D A nL Q pc (a0 :: a1 :: a2 :: a3 :: a4 :: a5 :: a6 :: a7 :: a8 :: a9 :: a10 :: a11 :: a12 :: o :: T) (.ref x :: S) w := fun H locs ls hl hP hD hS => lv_astore hC.1 hC.2.1 hd hl hn rfl (fun ls' hl' => k H locs ls' (jl_set1 (pre := [a0, a1, a2, a3, a4, a5, a6, a7, a8, a9, a10, a11, a12]) (o := o) (T := T) hk hl') hP hD hS)
theorem j_astore14 (hC : jC p s m args meth c cc nL ret own D tys A X) {a0 a1 a2 a3 a4 a5 a6 a7 a8 a9 a10 a11 a12 a13 : Option Value} {o : Option Value} {T : List (Option Value)} {x : Nat} (hd : decode cc pc = .ok (.astore 14, 2)) (hn : 14 < nL) (hk : jokL [a0, a1, a2, a3, a4, a5, a6, a7, a8, a9, a10, a11, a12, a13]) (k : J p l e R s m args below meth c D A nL Q (pc + 2) (a0 :: a1 :: a2 :: a3 :: a4 :: a5 :: a6 :: a7 :: a8 :: a9 :: a10 :: a11 :: a12 :: a13 :: some (.ref x) :: T) S w) : J p l e R s m args below meth c D A nL Q pc (a0 :: a1 :: a2 :: a3 :: a4 :: a5 :: a6 :: a7 :: a8 :: a9 :: a10 :: a11 :: a12 :: a13 :: o :: T) (.ref x :: S) w := fun H locs ls hl hP hD hS => lv_astore hC.1 hC.2.1 hd hl hn rfl (fun ls' hl' => k H locs ls' (jl_set1 (pre := [a0, a1, a2, a3, a4, a5, a6, a7, a8, a9, a10, a11, a12, a13]) (o := o) (T := T) hk hl') hP hD hS)
theorem j_astore15 (hC : jC p s m args meth c cc nL ret own D tys A X) {a0 a1 a2 a3 a4 a5 a6 a7 a8 a9 a10 a11 a12 a13 a14 : Option Value} {o : Option Value} {T : List (Option Value)} {x : Nat} (hd : decode cc pc = .ok (.astore 15, 2)) (hn : 15 < nL) (hk : jokL [a0, a1, a2, a3, a4, a5, a6, a7, a8, a9, a10, a11, a12, a13, a14]) (k : J p l e R s m args below meth c D A nL Q (pc + 2) (a0 :: a1 :: a2 :: a3 :: a4 :: a5 :: a6 :: a7 :: a8 :: a9 :: a10 :: a11 :: a12 :: a13 :: a14 :: some (.ref x) :: T) S w) : J p l e R s m args below meth c D A nL Q pc (a0 :: a1 :: a2 :: a3 :: a4 :: a5 :: a6 :: a7 :: a8 :: a9 :: a10 :: a11 :: a12 :: a13 :: a14 :: o :: T) (.ref x :: S) w := fun H locs ls hl hP hD hS => lv_astore hC.1 hC.2.1 hd hl hn rfl (fun ls' hl' => k H locs ls' (jl_set1 (pre := [a0, a1, a2, a3, a4, a5, a6, a7, a8, a9, a10, a11, a12, a13, a14]) (o := o) (T := T) hk hl') hP hD hS)
theorem j_astore16 (hC : jC p s m args meth c cc nL ret own D tys A X) {a0 a1 a2 a3 a4 a5 a6 a7 a8 a9 a10 a11 a12 a13 a14 a15 : Option Value} {o : Option Value} {T : List (Option Value)} {x : Nat} (hd : decode cc pc = .ok (.astore 16, 2)) (hn : 16 < nL) (hk : jokL [a0, a1, a2, a3, a4, a5, a6, a7, a8, a9, a10, a11, a12, a13, a14, a15]) (k : J p l e R s m args below meth c D A nL Q (pc + 2) (a0 :: a1 :: a2 :: a3 :: a4 :: a5 :: a6 :: a7 :: a8 :: a9 :: a10 :: a11 :: a12 :: a13 :: a14 :: a15 :: some (.ref x) :: T) S w) : J p l e R s m args below meth c D A nL Q pc (a0 :: a1 :: a2 :: a3 :: a4 :: a5 :: a6 :: a7 :: a8 :: a9 :: a10 :: a11 :: a12 :: a13 :: a14 :: a15 :: o :: T) (.ref x :: S) w := fun H locs ls hl hP hD hS => lv_astore hC.1 hC.2.1 hd hl hn rfl (fun ls' hl' => k H locs ls' (jl_set1 (pre := [a0, a1, a2, a3, a4, a5, a6, a7, a8, a9, a10, a11, a12, a13, a14, a15]) (o := o) (T := T) hk hl') hP hD hS)
theorem j_astore17 (hC : jC p s m args meth c cc nL ret own D tys A X) {a0 a1 a2 a3 a4 a5 a6 a7 a8 a9 a10 a11 a12 a13 a14 a15 a16 : Option Value} {o : Option Value} {T : List (Option Value)} {x : Nat} (hd : decode cc pc = .ok (.astore 17, 2)) (hn : 17 < nL) (hk : jokL [a0, a1, a2, a3, a4, a5, a6, a7, a8, a9, a10, a11, a12, a13, a14, a15, a16]) (k : J p l e R s m args below meth c D A nL Q (pc + 2) (a0 :: a1 :: a2 :: a3 :: a4 :: a5 :: a6 :: a7 :: a8 :: a9 :: a10 :: a11 :: a12 :: a13 :: a14 :: a15 :: a16 :: some (.ref x) :: T) S w) : J p l e R s m args below meth c D A nL Q pc (a0 :: a1 :: a2 :: a3 :: a4 :: a5 :: a6 :: a7 :: a8 :: a9 :: a10 :: a11 :: a12 :: a13 :: a14 :: a15 :: a16 :: o :: T) (.ref x :: S) w := fun H locs ls hl hP hD hS => lv_astore hC.1 hC.2.1 hd hl hn rfl (fun ls' hl' => k H locs ls' (jl_set1 (pre := [a0, a1, a2, a3, a4, a5, a6, a7, a8, a9, a10, a11, a12, a13, a14, a15, a16]) (o := o) (T := T) hk hl') hP hD hS)
theorem j_lstore0 (hC : jC p s m args meth c cc nL ret own D tys A X) {o o2 : Option Value} {T : List (Option Value)} {x : Int64} (hd : decode cc pc = .ok (.lstore 0, 2)) (hn : 0 + 1 < nL) (hk : jokL []) (k : J p l e R s m args below meth c D A nL Q (pc + 2) (some (.long x) :: none :: T) S w) : J p l e R s m args below meth c D A nL Q pc (o :: o2 :: T) (.long x :: S) w := fun H locs ls hl hP hD hS => lv_lstore hC.1 hC.2.1 hd hl hn rfl (fun ls' hl' => k H locs ls' (jl_set2 (pre := []) (o := o) (o2 := o2) (T := T) hk hl') hP hD hS)
theorem j_lstoren0 (hC : jC p s m args meth c cc nL ret own D tys A X) {o o2 : Option Value} {T : List (Option Value)} {x : Int64} (hd : decode cc pc = .ok (.lstore_n 0, 1)) (hn : 0 + 1 < nL) (hk : jokL []) (k : J p l e R s m args below meth c D A nL Q (pc + 1) (some (.long x) :: none :: T) S w) : J p l e R s m args below meth c D A nL Q pc (o :: o2 :: T) (.long x :: S) w := fun H locs ls hl hP hD hS => lv_lstore_n hC.1 hC.2.1 hd rfl hl hn rfl (fun ls' hl' => k H locs ls' (jl_set2 (pre := []) (o := o) (o2 := o2) (T := T) hk hl') hP hD hS)
theorem j_lstore1 (hC : jC p s m args meth c cc nL ret own D tys A X) {a0 : Option Value} {o o2 : Option Value} {T : List (Option Value)} {x : Int64} (hd : decode cc pc = .ok (.lstore 1, 2)) (hn : 1 + 1 < nL) (hk : jokL [a0]) (k : J p l e R s m args below meth c D A nL Q (pc + 2) (a0 :: some (.long x) :: none :: T) S w) : J p l e R s m args below meth c D A nL Q pc (a0 :: o :: o2 :: T) (.long x :: S) w := fun H locs ls hl hP hD hS => lv_lstore hC.1 hC.2.1 hd hl hn rfl (fun ls' hl' => k H locs ls' (jl_set2 (pre := [a0]) (o := o) (o2 := o2) (T := T) hk hl') hP hD hS)
theorem j_lstoren1 (hC : jC p s m args meth c cc nL ret own D tys A X) {a0 : Option Value} {o o2 : Option Value} {T : List (Option Value)} {x : Int64} (hd : decode cc pc = .ok (.lstore_n 1, 1)) (hn : 1 + 1 < nL) (hk : jokL [a0]) (k : J p l e R s m args below meth c D A nL Q (pc + 1) (a0 :: some (.long x) :: none :: T) S w) : J p l e R s m args below meth c D A nL Q pc (a0 :: o :: o2 :: T) (.long x :: S) w := fun H locs ls hl hP hD hS => lv_lstore_n hC.1 hC.2.1 hd rfl hl hn rfl (fun ls' hl' => k H locs ls' (jl_set2 (pre := [a0]) (o := o) (o2 := o2) (T := T) hk hl') hP hD hS)
theorem j_lstore2 (hC : jC p s m args meth c cc nL ret own D tys A X) {a0 a1 : Option Value} {o o2 : Option Value} {T : List (Option Value)} {x : Int64} (hd : decode cc pc = .ok (.lstore 2, 2)) (hn : 2 + 1 < nL) (hk : jokL [a0, a1]) (k : J p l e R s m args below meth c D A nL Q (pc + 2) (a0 :: a1 :: some (.long x) :: none :: T) S w) : J p l e R s m args below meth c D A nL Q pc (a0 :: a1 :: o :: o2 :: T) (.long x :: S) w := fun H locs ls hl hP hD hS => lv_lstore hC.1 hC.2.1 hd hl hn rfl (fun ls' hl' => k H locs ls' (jl_set2 (pre := [a0, a1]) (o := o) (o2 := o2) (T := T) hk hl') hP hD hS)
theorem j_lstoren2 (hC : jC p s m args meth c cc nL ret own D tys A X) {a0 a1 : Option Value} {o o2 : Option Value} {T : List (Option Value)} {x : Int64} (hd : decode cc pc = .ok (.lstore_n 2, 1)) (hn : 2 + 1 < nL) (hk : jokL [a0, a1]) (k : J p l e R s m args below meth c D A nL Q (pc + 1) (a0 :: a1 :: some (.long x) :: none :: T) S w) : J p l e R s m args below meth c D A nL Q pc (a0 :: a1 :: o :: o2 :: T) (.long x :: S) w := fun H locs ls hl hP hD hS => lv_lstore_n hC.1 hC.2.1 hd rfl hl hn rfl (fun ls' hl' => k H locs ls' (jl_set2 (pre := [a0, a1]) (o := o) (o2 := o2) (T := T) hk hl') hP hD hS)
theorem j_lstore3 (hC : jC p s m args meth c cc nL ret own D tys A X) {a0 a1 a2 : Option Value} {o o2 : Option Value} {T : List (Option Value)} {x : Int64} (hd : decode cc pc = .ok (.lstore 3, 2)) (hn : 3 + 1 < nL) (hk : jokL [a0, a1, a2]) (k : J p l e R s m args below meth c D A nL Q (pc + 2) (a0 :: a1 :: a2 :: some (.long x) :: none :: T) S w) : J p l e R s m args below meth c D A nL Q pc (a0 :: a1 :: a2 :: o :: o2 :: T) (.long x :: S) w := fun H locs ls hl hP hD hS => lv_lstore hC.1 hC.2.1 hd hl hn rfl (fun ls' hl' => k H locs ls' (jl_set2 (pre := [a0, a1, a2]) (o := o) (o2 := o2) (T := T) hk hl') hP hD hS)
theorem j_lstoren3 (hC : jC p s m args meth c cc nL ret own D tys A X) {a0 a1 a2 : Option Value} {o o2 : Option Value} {T : List (Option Value)} {x : Int64} (hd : decode cc pc = .ok (.lstore_n 3, 1)) (hn : 3 + 1 < nL) (hk : jokL [a0, a1, a2]) (k : J p l e R s m args below meth c D A nL Q (pc + 1) (a0 :: a1 :: a2 :: some (.long x) :: none :: T) S w) : J p l e R s m args below meth c D A nL Q pc (a0 :: a1 :: a2 :: o :: o2 :: T) (.long x :: S) w := fun H locs ls hl hP hD hS => lv_lstore_n hC.1 hC.2.1 hd rfl hl hn rfl (fun ls' hl' => k H locs ls' (jl_set2 (pre := [a0, a1, a2]) (o := o) (o2 := o2) (T := T) hk hl') hP hD hS)
theorem j_lstore4 (hC : jC p s m args meth c cc nL ret own D tys A X) {a0 a1 a2 a3 : Option Value} {o o2 : Option Value} {T : List (Option Value)} {x : Int64} (hd : decode cc pc = .ok (.lstore 4, 2)) (hn : 4 + 1 < nL) (hk : jokL [a0, a1, a2, a3]) (k : J p l e R s m args below meth c D A nL Q (pc + 2) (a0 :: a1 :: a2 :: a3 :: some (.long x) :: none :: T) S w) : J p l e R s m args below meth c D A nL Q pc (a0 :: a1 :: a2 :: a3 :: o :: o2 :: T) (.long x :: S) w := fun H locs ls hl hP hD hS => lv_lstore hC.1 hC.2.1 hd hl hn rfl (fun ls' hl' => k H locs ls' (jl_set2 (pre := [a0, a1, a2, a3]) (o := o) (o2 := o2) (T := T) hk hl') hP hD hS)
theorem j_lstore5 (hC : jC p s m args meth c cc nL ret own D tys A X) {a0 a1 a2 a3 a4 : Option Value} {o o2 : Option Value} {T : List (Option Value)} {x : Int64} (hd : decode cc pc = .ok (.lstore 5, 2)) (hn : 5 + 1 < nL) (hk : jokL [a0, a1, a2, a3, a4]) (k : J p l e R s m args below meth c D A nL Q (pc + 2) (a0 :: a1 :: a2 :: a3 :: a4 :: some (.long x) :: none :: T) S w) : J p l e R s m args below meth c D A nL Q pc (a0 :: a1 :: a2 :: a3 :: a4 :: o :: o2 :: T) (.long x :: S) w := fun H locs ls hl hP hD hS => lv_lstore hC.1 hC.2.1 hd hl hn rfl (fun ls' hl' => k H locs ls' (jl_set2 (pre := [a0, a1, a2, a3, a4]) (o := o) (o2 := o2) (T := T) hk hl') hP hD hS)
theorem j_lstore6 (hC : jC p s m args meth c cc nL ret own D tys A X) {a0 a1 a2 a3 a4 a5 : Option Value} {o o2 : Option Value} {T : List (Option Value)} {x : Int64} (hd : decode cc pc = .ok (.lstore 6, 2)) (hn : 6 + 1 < nL) (hk : jokL [a0, a1, a2, a3, a4, a5]) (k : J p l e R s m args below meth c D A nL Q (pc + 2) (a0 :: a1 :: a2 :: a3 :: a4 :: a5 :: some (.long x) :: none :: T) S w) : J p l e R s m args below meth c D A nL Q pc (a0 :: a1 :: a2 :: a3 :: a4 :: a5 :: o :: o2 :: T) (.long x :: S) w := fun H locs ls hl hP hD hS => lv_lstore hC.1 hC.2.1 hd hl hn rfl (fun ls' hl' => k H locs ls' (jl_set2 (pre := [a0, a1, a2, a3, a4, a5]) (o := o) (o2 := o2) (T := T) hk hl') hP hD hS)
theorem j_lstore7 (hC : jC p s m args meth c cc nL ret own D tys A X) {a0 a1 a2 a3 a4 a5 a6 : Option Value} {o o2 : Option Value} {T : List (Option Value)} {x : Int64} (hd : decode cc pc = .ok (.lstore 7, 2)) (hn : 7 + 1 < nL) (hk : jokL [a0, a1, a2, a3, a4, a5, a6]) (k : J p l e R s m args below meth c D A nL Q (pc + 2) (a0 :: a1 :: a2 :: a3 :: a4 :: a5 :: a6 :: some (.long x) :: none :: T) S w) : J p l e R s m args below meth c D A nL Q pc (a0 :: a1 :: a2 :: a3 :: a4 :: a5 :: a6 :: o :: o2 :: T) (.long x :: S) w := fun H locs ls hl hP hD hS => lv_lstore hC.1 hC.2.1 hd hl hn rfl (fun ls' hl' => k H locs ls' (jl_set2 (pre := [a0, a1, a2, a3, a4, a5, a6]) (o := o) (o2 := o2) (T := T) hk hl') hP hD hS)
theorem j_lstore8 (hC : jC p s m args meth c cc nL ret own D tys A X) {a0 a1 a2 a3 a4 a5 a6 a7 : Option Value} {o o2 : Option Value} {T : List (Option Value)} {x : Int64} (hd : decode cc pc = .ok (.lstore 8, 2)) (hn : 8 + 1 < nL) (hk : jokL [a0, a1, a2, a3, a4, a5, a6, a7]) (k : J p l e R s m args below meth c D A nL Q (pc + 2) (a0 :: a1 :: a2 :: a3 :: a4 :: a5 :: a6 :: a7 :: some (.long x) :: none :: T) S w) : J p l e R s m args below meth c D A nL Q pc (a0 :: a1 :: a2 :: a3 :: a4 :: a5 :: a6 :: a7 :: o :: o2 :: T) (.long x :: S) w := fun H locs ls hl hP hD hS => lv_lstore hC.1 hC.2.1 hd hl hn rfl (fun ls' hl' => k H locs ls' (jl_set2 (pre := [a0, a1, a2, a3, a4, a5, a6, a7]) (o := o) (o2 := o2) (T := T) hk hl') hP hD hS)
theorem j_lstore9 (hC : jC p s m args meth c cc nL ret own D tys A X) {a0 a1 a2 a3 a4 a5 a6 a7 a8 : Option Value} {o o2 : Option Value} {T : List (Option Value)} {x : Int64} (hd : decode cc pc = .ok (.lstore 9, 2)) (hn : 9 + 1 < nL) (hk : jokL [a0, a1, a2, a3, a4, a5, a6, a7, a8]) (k : J p l e R s m args below meth c D A nL Q (pc + 2) (a0 :: a1 :: a2 :: a3 :: a4 :: a5 :: a6 :: a7 :: a8 :: some (.long x) :: none :: T) S w) : J p l e R s m args below meth c D A nL Q pc (a0 :: a1 :: a2 :: a3 :: a4 :: a5 :: a6 :: a7 :: a8 :: o :: o2 :: T) (.long x :: S) w := fun H locs ls hl hP hD hS => lv_lstore hC.1 hC.2.1 hd hl hn rfl (fun ls' hl' => k H locs ls' (jl_set2 (pre := [a0, a1, a2, a3, a4, a5, a6, a7, a8]) (o := o) (o2 := o2) (T := T) hk hl') hP hD hS)
theorem j_lstore10 (hC : jC p s m args meth c cc nL ret own D tys A X) {a0 a1 a2 a3 a4 a5 a6 a7 a8 a9 : Option Value} {o o2 : Option Value} {T : List (Option Value)} {x : Int64} (hd : decode cc pc = .ok (.lstore 10, 2)) (hn : 10 + 1 < nL) (hk : jokL [a0, a1, a2, a3, a4, a5, a6, a7, a8, a9]) (k : J p l e R s m args below meth c D A nL Q (pc + 2) (a0 :: a1 :: a2 :: a3 :: a4 :: a5 :: a6 :: a7 :: a8 :: a9 :: some (.long x) :: none :: T) S w) : J p l e R s m args below meth c D A nL Q pc (a0 :: a1 :: a2 :: a3 :: a4 :: a5 :: a6 :: a7 :: a8 :: a9 :: o :: o2 :: T) (.long x :: S) w := fun H locs ls hl hP hD hS => lv_lstore hC.1 hC.2.1 hd hl hn rfl (fun ls' hl' => k H locs ls' (jl_set2 (pre := [a0, a1, a2, a3, a4, a5, a6, a7, a8, a9]) (o := o) (o2 := o2) (T := T) hk hl') hP hD hS)
theorem j_lstore11 (hC : jC p s m args meth c cc nL ret own D tys A X) {a0 a1 a2 a3 a4 a5 a6 a7 a8 a9 a10 : Option Value} {o o2 : Option Value} {T : List (Option Value)} {x : Int64} (hd : decode cc pc = .ok (.lstore 11, 2)) (hn : 11 + 1 < nL) (hk : jokL [a0, a1, a2, a3, a4, a5, a6, a7, a8, a9, a10]) (k : J p l e R s m args below meth c D A nL Q (pc + 2) (a0 :: a1 :: a2 :: a3 :: a4 :: a5 :: a6 :: a7 :: a8 :: a9 :: a10 :: some (.long x) :: none :: T) S w) : J p l e R s m args below meth c D A nL Q pc (a0 :: a1 :: a2 :: a3 :: a4 :: a5 :: a6 :: a7 :: a8 :: a9 :: a10 :: o :: o2 :: T) (.long x :: S) w := fun H locs ls hl hP hD hS => lv_lstore hC.1 hC.2.1 hd hl hn rfl (fun ls' hl' => k H locs ls' (jl_set2 (pre := [a0, a1, a2, a3, a4, a5, a6, a7, a8, a9, a10]) (o := o) (o2 := o2) (T := T) hk hl') hP hD hS)
theorem j_lstore12 (hC : jC p s m args meth c cc nL ret own D tys A X) {a0 a1 a2 a3 a4 a5 a6 a7 a8 a9 a10 a11 : Option Value} {o o2 : Option Value} {T : List (Option Value)} {x : Int64} (hd : decode cc pc = .ok (.lstore 12, 2)) (hn : 12 + 1 < nL) (hk : jokL [a0, a1, a2, a3, a4, a5, a6, a7, a8, a9, a10, a11]) (k : J p l e R s m args below meth c D A nL Q (pc + 2) (a0 :: a1 :: a2 :: a3 :: a4 :: a5 :: a6 :: a7 :: a8 :: a9 :: a10 :: a11 :: some (.long x) :: none :: T) S w) : J p l e R s m args below meth c D A nL Q pc (a0 :: a1 :: a2 :: a3 :: a4 :: a5 :: a6 :: a7 :: a8 :: a9 :: a10 :: a11 :: o :: o2 :: T) (.long x :: S) w := fun H locs ls hl hP hD hS => lv_lstore hC.1 hC.2.1 hd hl hn rfl (fun ls' hl' => k H locs ls' (jl_set2 (pre := [a0, a1, a2, a3, a4, a5, a6, a7, a8, a9, a10, a11]) (o := o) (o2 := o2) (T := T) hk hl') hP hD hS)
theorem j_lstore13 (hC : jC p s m args meth c cc nL ret own D tys A X) {a0 a1 a2 a3 a4 a5 a6 a7 a8 a9 a10 a11 a12 : Option Value} {o o2 : Option Value} {T : List (Option Value)} {x : Int64} (hd : decode cc pc = .ok (.lstore 13, 2)) (hn : 13 + 1 < nL) (hk : jokL [a0, a1, a2, a3, a4, a5, a6, a7, a8, a9, a10, a11, a12]) (k : J p l e R s m args below meth c D A nL Q (pc + 2) (a0 :: a1 :: a2 :: a3 :: a4 :: a5 :: a6 :: a7 :: a8 :: a9 :: a10 :: a11 :: a12 :: some (.long x) :: none :: T) S w) : J p l e R s m args below meth c D A nL Q pc (a0 :: a1 :: a2 :: a3 :: a4 :: a5 :: a6 :: a7 :: a8 :: a9 :: a10 :: a11 :: a12 :: o :: o2 :: T) (.long x :: S) w := fun H locs ls hl hP hD hS => lv_lstore hC.1 hC.2.1 hd hl hn rfl (fun ls' hl' => k H locs ls' (jl_set2 (pre := [a0, a1, a2, a3, a4, a5, a6, a7, a8, a9, a10, a11, a12]) (o := o) (o2 := o2) (T := T) hk hl') hP hD hS)
theorem j_lstore14 (hC : jC p s m args meth c cc nL ret own D tys A X) {a0 a1 a2 a3 a4 a5 a6 a7 a8 a9 a10 a11 a12 a13 : Option Value} {o o2 : Option Value} {T : List (Option Value)} {x : Int64} (hd : decode cc pc = .ok (.lstore 14, 2)) (hn : 14 + 1 < nL) (hk : jokL [a0, a1, a2, a3, a4, a5, a6, a7, a8, a9, a10, a11, a12, a13]) (k : J p l e R s m args below meth c D A nL Q (pc + 2) (a0 :: a1 :: a2 :: a3 :: a4 :: a5 :: a6 :: a7 :: a8 :: a9 :: a10 :: a11 :: a12 :: a13 :: some (.long x) :: none :: T) S w) : J p l e R s m args below meth c D A nL Q pc (a0 :: a1 :: a2 :: a3 :: a4 :: a5 :: a6 :: a7 :: a8 :: a9 :: a10 :: a11 :: a12 :: a13 :: o :: o2 :: T) (.long x :: S) w := fun H locs ls hl hP hD hS => lv_lstore hC.1 hC.2.1 hd hl hn rfl (fun ls' hl' => k H locs ls' (jl_set2 (pre := [a0, a1, a2, a3, a4, a5, a6, a7, a8, a9, a10, a11, a12, a13]) (o := o) (o2 := o2) (T := T) hk hl') hP hD hS)
theorem j_lstore15 (hC : jC p s m args meth c cc nL ret own D tys A X) {a0 a1 a2 a3 a4 a5 a6 a7 a8 a9 a10 a11 a12 a13 a14 : Option Value} {o o2 : Option Value} {T : List (Option Value)} {x : Int64} (hd : decode cc pc = .ok (.lstore 15, 2)) (hn : 15 + 1 < nL) (hk : jokL [a0, a1, a2, a3, a4, a5, a6, a7, a8, a9, a10, a11, a12, a13, a14]) (k : J p l e R s m args below meth c D A nL Q (pc + 2) (a0 :: a1 :: a2 :: a3 :: a4 :: a5 :: a6 :: a7 :: a8 :: a9 :: a10 :: a11 :: a12 :: a13 :: a14 :: some (.long x) :: none :: T) S w) : J p l e R s m args below meth c D A nL Q pc (a0 :: a1 :: a2 :: a3 :: a4 :: a5 :: a6 :: a7 :: a8 :: a9 :: a10 :: a11 :: a12 :: a13 :: a14 :: o :: o2 :: T) (.long x :: S) w := fun H locs ls hl hP hD hS => lv_lstore hC.1 hC.2.1 hd hl hn rfl (fun ls' hl' => k H locs ls' (jl_set2 (pre := [a0, a1, a2, a3, a4, a5, a6, a7, a8, a9, a10, a11, a12, a13, a14]) (o := o) (o2 := o2) (T := T) hk hl') hP hD hS)
theorem j_lstore16 (hC : jC p s m args meth c cc nL ret own D tys A X) {a0 a1 a2 a3 a4 a5 a6 a7 a8 a9 a10 a11 a12 a13 a14 a15 : Option Value} {o o2 : Option Value} {T : List (Option Value)} {x : Int64} (hd : decode cc pc = .ok (.lstore 16, 2)) (hn : 16 + 1 < nL) (hk : jokL [a0, a1, a2, a3, a4, a5, a6, a7, a8, a9, a10, a11, a12, a13, a14, a15]) (k : J p l e R s m args below meth c D A nL Q (pc + 2) (a0 :: a1 :: a2 :: a3 :: a4 :: a5 :: a6 :: a7 :: a8 :: a9 :: a10 :: a11 :: a12 :: a13 :: a14 :: a15 :: some (.long x) :: none :: T) S w) : J p l e R s m args below meth c D A nL Q pc (a0 :: a1 :: a2 :: a3 :: a4 :: a5 :: a6 :: a7 :: a8 :: a9 :: a10 :: a11 :: a12 :: a13 :: a14 :: a15 :: o :: o2 :: T) (.long x :: S) w := fun H locs ls hl hP hD hS => lv_lstore hC.1 hC.2.1 hd hl hn rfl (fun ls' hl' => k H locs ls' (jl_set2 (pre := [a0, a1, a2, a3, a4, a5, a6, a7, a8, a9, a10, a11, a12, a13, a14, a15]) (o := o) (o2 := o2) (T := T) hk hl') hP hD hS)
theorem j_lstore17 (hC : jC p s m args meth c cc nL ret own D tys A X) {a0 a1 a2 a3 a4 a5 a6 a7 a8 a9 a10 a11 a12 a13 a14 a15 a16 : Option Value} {o o2 : Option Value} {T : List (Option Value)} {x : Int64} (hd : decode cc pc = .ok (.lstore 17, 2)) (hn : 17 + 1 < nL) (hk : jokL [a0, a1, a2, a3, a4, a5, a6, a7, a8, a9, a10, a11, a12, a13, a14, a15, a16]) (k : J p l e R s m args below meth c D A nL Q (pc + 2) (a0 :: a1 :: a2 :: a3 :: a4 :: a5 :: a6 :: a7 :: a8 :: a9 :: a10 :: a11 :: a12 :: a13 :: a14 :: a15 :: a16 :: some (.long x) :: none :: T) S w) : J p l e R s m args below meth c D A nL Q pc (a0 :: a1 :: a2 :: a3 :: a4 :: a5 :: a6 :: a7 :: a8 :: a9 :: a10 :: a11 :: a12 :: a13 :: a14 :: a15 :: a16 :: o :: o2 :: T) (.long x :: S) w := fun H locs ls hl hP hD hS => lv_lstore hC.1 hC.2.1 hd hl hn rfl (fun ls' hl' => k H locs ls' (jl_set2 (pre := [a0, a1, a2, a3, a4, a5, a6, a7, a8, a9, a10, a11, a12, a13, a14, a15, a16]) (o := o) (o2 := o2) (T := T) hk hl') hP hD hS)
theorem jp_find {L : List (Option Value)} {i : Nat} {v : Value} (h : L[i]? = some (some v)) : ∃ k : Nat, (jp 0 L)[k]? = some (i, v) := List.getElem?_of_mem ((jp_mem L 0 i v).mpr ⟨i, by omega, h⟩)
theorem j_iinc0 (hC : jC p s m args meth c cc nL ret own D tys A X) {T : List (Option Value)} {x : Int32} {n : Int} (hd : decode cc pc = .ok (.iinc 0 n, 3)) (hn : 0 < nL) (hk : jokL []) (k : J p l e R s m args below meth c D A nL Q (pc + 3) (some (.int (x + Int32.ofInt n)) :: T) S w) : J p l e R s m args below meth c D A nL Q pc (some (.int x) :: T) S w := by
  intro H locs ls hl hP hD hS
  obtain ⟨q, hq⟩ := jp_find (L := (some (.int x) :: T)) (i := 0) (v := .int x) rfl
  exact lv_iinc hC.1 hC.2.1 hd hl hq rfl hn rfl (fun ls' hl' => k H locs ls' (jl_set1 (pre := []) (o := some (.int x)) (T := T) hk hl') hP hD hS)
theorem j_iinc1 (hC : jC p s m args meth c cc nL ret own D tys A X) {a0 : Option Value} {T : List (Option Value)} {x : Int32} {n : Int} (hd : decode cc pc = .ok (.iinc 1 n, 3)) (hn : 1 < nL) (hk : jokL [a0]) (k : J p l e R s m args below meth c D A nL Q (pc + 3) (a0 :: some (.int (x + Int32.ofInt n)) :: T) S w) : J p l e R s m args below meth c D A nL Q pc (a0 :: some (.int x) :: T) S w := by
  intro H locs ls hl hP hD hS
  obtain ⟨q, hq⟩ := jp_find (L := (a0 :: some (.int x) :: T)) (i := 1) (v := .int x) rfl
  exact lv_iinc hC.1 hC.2.1 hd hl hq rfl hn rfl (fun ls' hl' => k H locs ls' (jl_set1 (pre := [a0]) (o := some (.int x)) (T := T) hk hl') hP hD hS)
theorem j_iinc2 (hC : jC p s m args meth c cc nL ret own D tys A X) {a0 a1 : Option Value} {T : List (Option Value)} {x : Int32} {n : Int} (hd : decode cc pc = .ok (.iinc 2 n, 3)) (hn : 2 < nL) (hk : jokL [a0, a1]) (k : J p l e R s m args below meth c D A nL Q (pc + 3) (a0 :: a1 :: some (.int (x + Int32.ofInt n)) :: T) S w) : J p l e R s m args below meth c D A nL Q pc (a0 :: a1 :: some (.int x) :: T) S w := by
  intro H locs ls hl hP hD hS
  obtain ⟨q, hq⟩ := jp_find (L := (a0 :: a1 :: some (.int x) :: T)) (i := 2) (v := .int x) rfl
  exact lv_iinc hC.1 hC.2.1 hd hl hq rfl hn rfl (fun ls' hl' => k H locs ls' (jl_set1 (pre := [a0, a1]) (o := some (.int x)) (T := T) hk hl') hP hD hS)
theorem j_iinc3 (hC : jC p s m args meth c cc nL ret own D tys A X) {a0 a1 a2 : Option Value} {T : List (Option Value)} {x : Int32} {n : Int} (hd : decode cc pc = .ok (.iinc 3 n, 3)) (hn : 3 < nL) (hk : jokL [a0, a1, a2]) (k : J p l e R s m args below meth c D A nL Q (pc + 3) (a0 :: a1 :: a2 :: some (.int (x + Int32.ofInt n)) :: T) S w) : J p l e R s m args below meth c D A nL Q pc (a0 :: a1 :: a2 :: some (.int x) :: T) S w := by
  intro H locs ls hl hP hD hS
  obtain ⟨q, hq⟩ := jp_find (L := (a0 :: a1 :: a2 :: some (.int x) :: T)) (i := 3) (v := .int x) rfl
  exact lv_iinc hC.1 hC.2.1 hd hl hq rfl hn rfl (fun ls' hl' => k H locs ls' (jl_set1 (pre := [a0, a1, a2]) (o := some (.int x)) (T := T) hk hl') hP hD hS)
theorem j_iinc4 (hC : jC p s m args meth c cc nL ret own D tys A X) {a0 a1 a2 a3 : Option Value} {T : List (Option Value)} {x : Int32} {n : Int} (hd : decode cc pc = .ok (.iinc 4 n, 3)) (hn : 4 < nL) (hk : jokL [a0, a1, a2, a3]) (k : J p l e R s m args below meth c D A nL Q (pc + 3) (a0 :: a1 :: a2 :: a3 :: some (.int (x + Int32.ofInt n)) :: T) S w) : J p l e R s m args below meth c D A nL Q pc (a0 :: a1 :: a2 :: a3 :: some (.int x) :: T) S w := by
  intro H locs ls hl hP hD hS
  obtain ⟨q, hq⟩ := jp_find (L := (a0 :: a1 :: a2 :: a3 :: some (.int x) :: T)) (i := 4) (v := .int x) rfl
  exact lv_iinc hC.1 hC.2.1 hd hl hq rfl hn rfl (fun ls' hl' => k H locs ls' (jl_set1 (pre := [a0, a1, a2, a3]) (o := some (.int x)) (T := T) hk hl') hP hD hS)
theorem j_iinc5 (hC : jC p s m args meth c cc nL ret own D tys A X) {a0 a1 a2 a3 a4 : Option Value} {T : List (Option Value)} {x : Int32} {n : Int} (hd : decode cc pc = .ok (.iinc 5 n, 3)) (hn : 5 < nL) (hk : jokL [a0, a1, a2, a3, a4]) (k : J p l e R s m args below meth c D A nL Q (pc + 3) (a0 :: a1 :: a2 :: a3 :: a4 :: some (.int (x + Int32.ofInt n)) :: T) S w) : J p l e R s m args below meth c D A nL Q pc (a0 :: a1 :: a2 :: a3 :: a4 :: some (.int x) :: T) S w := by
  intro H locs ls hl hP hD hS
  obtain ⟨q, hq⟩ := jp_find (L := (a0 :: a1 :: a2 :: a3 :: a4 :: some (.int x) :: T)) (i := 5) (v := .int x) rfl
  exact lv_iinc hC.1 hC.2.1 hd hl hq rfl hn rfl (fun ls' hl' => k H locs ls' (jl_set1 (pre := [a0, a1, a2, a3, a4]) (o := some (.int x)) (T := T) hk hl') hP hD hS)
theorem j_iinc6 (hC : jC p s m args meth c cc nL ret own D tys A X) {a0 a1 a2 a3 a4 a5 : Option Value} {T : List (Option Value)} {x : Int32} {n : Int} (hd : decode cc pc = .ok (.iinc 6 n, 3)) (hn : 6 < nL) (hk : jokL [a0, a1, a2, a3, a4, a5]) (k : J p l e R s m args below meth c D A nL Q (pc + 3) (a0 :: a1 :: a2 :: a3 :: a4 :: a5 :: some (.int (x + Int32.ofInt n)) :: T) S w) : J p l e R s m args below meth c D A nL Q pc (a0 :: a1 :: a2 :: a3 :: a4 :: a5 :: some (.int x) :: T) S w := by
  intro H locs ls hl hP hD hS
  obtain ⟨q, hq⟩ := jp_find (L := (a0 :: a1 :: a2 :: a3 :: a4 :: a5 :: some (.int x) :: T)) (i := 6) (v := .int x) rfl
  exact lv_iinc hC.1 hC.2.1 hd hl hq rfl hn rfl (fun ls' hl' => k H locs ls' (jl_set1 (pre := [a0, a1, a2, a3, a4, a5]) (o := some (.int x)) (T := T) hk hl') hP hD hS)
theorem j_iinc7 (hC : jC p s m args meth c cc nL ret own D tys A X) {a0 a1 a2 a3 a4 a5 a6 : Option Value} {T : List (Option Value)} {x : Int32} {n : Int} (hd : decode cc pc = .ok (.iinc 7 n, 3)) (hn : 7 < nL) (hk : jokL [a0, a1, a2, a3, a4, a5, a6]) (k : J p l e R s m args below meth c D A nL Q (pc + 3) (a0 :: a1 :: a2 :: a3 :: a4 :: a5 :: a6 :: some (.int (x + Int32.ofInt n)) :: T) S w) : J p l e R s m args below meth c D A nL Q pc (a0 :: a1 :: a2 :: a3 :: a4 :: a5 :: a6 :: some (.int x) :: T) S w := by
  intro H locs ls hl hP hD hS
  obtain ⟨q, hq⟩ := jp_find (L := (a0 :: a1 :: a2 :: a3 :: a4 :: a5 :: a6 :: some (.int x) :: T)) (i := 7) (v := .int x) rfl
  exact lv_iinc hC.1 hC.2.1 hd hl hq rfl hn rfl (fun ls' hl' => k H locs ls' (jl_set1 (pre := [a0, a1, a2, a3, a4, a5, a6]) (o := some (.int x)) (T := T) hk hl') hP hD hS)
theorem j_iinc8 (hC : jC p s m args meth c cc nL ret own D tys A X) {a0 a1 a2 a3 a4 a5 a6 a7 : Option Value} {T : List (Option Value)} {x : Int32} {n : Int} (hd : decode cc pc = .ok (.iinc 8 n, 3)) (hn : 8 < nL) (hk : jokL [a0, a1, a2, a3, a4, a5, a6, a7]) (k : J p l e R s m args below meth c D A nL Q (pc + 3) (a0 :: a1 :: a2 :: a3 :: a4 :: a5 :: a6 :: a7 :: some (.int (x + Int32.ofInt n)) :: T) S w) : J p l e R s m args below meth c D A nL Q pc (a0 :: a1 :: a2 :: a3 :: a4 :: a5 :: a6 :: a7 :: some (.int x) :: T) S w := by
  intro H locs ls hl hP hD hS
  obtain ⟨q, hq⟩ := jp_find (L := (a0 :: a1 :: a2 :: a3 :: a4 :: a5 :: a6 :: a7 :: some (.int x) :: T)) (i := 8) (v := .int x) rfl
  exact lv_iinc hC.1 hC.2.1 hd hl hq rfl hn rfl (fun ls' hl' => k H locs ls' (jl_set1 (pre := [a0, a1, a2, a3, a4, a5, a6, a7]) (o := some (.int x)) (T := T) hk hl') hP hD hS)
theorem j_iinc9 (hC : jC p s m args meth c cc nL ret own D tys A X) {a0 a1 a2 a3 a4 a5 a6 a7 a8 : Option Value} {T : List (Option Value)} {x : Int32} {n : Int} (hd : decode cc pc = .ok (.iinc 9 n, 3)) (hn : 9 < nL) (hk : jokL [a0, a1, a2, a3, a4, a5, a6, a7, a8]) (k : J p l e R s m args below meth c D A nL Q (pc + 3) (a0 :: a1 :: a2 :: a3 :: a4 :: a5 :: a6 :: a7 :: a8 :: some (.int (x + Int32.ofInt n)) :: T) S w) : J p l e R s m args below meth c D A nL Q pc (a0 :: a1 :: a2 :: a3 :: a4 :: a5 :: a6 :: a7 :: a8 :: some (.int x) :: T) S w := by
  intro H locs ls hl hP hD hS
  obtain ⟨q, hq⟩ := jp_find (L := (a0 :: a1 :: a2 :: a3 :: a4 :: a5 :: a6 :: a7 :: a8 :: some (.int x) :: T)) (i := 9) (v := .int x) rfl
  exact lv_iinc hC.1 hC.2.1 hd hl hq rfl hn rfl (fun ls' hl' => k H locs ls' (jl_set1 (pre := [a0, a1, a2, a3, a4, a5, a6, a7, a8]) (o := some (.int x)) (T := T) hk hl') hP hD hS)
theorem j_iinc10 (hC : jC p s m args meth c cc nL ret own D tys A X) {a0 a1 a2 a3 a4 a5 a6 a7 a8 a9 : Option Value} {T : List (Option Value)} {x : Int32} {n : Int} (hd : decode cc pc = .ok (.iinc 10 n, 3)) (hn : 10 < nL) (hk : jokL [a0, a1, a2, a3, a4, a5, a6, a7, a8, a9]) (k : J p l e R s m args below meth c D A nL Q (pc + 3) (a0 :: a1 :: a2 :: a3 :: a4 :: a5 :: a6 :: a7 :: a8 :: a9 :: some (.int (x + Int32.ofInt n)) :: T) S w) : J p l e R s m args below meth c D A nL Q pc (a0 :: a1 :: a2 :: a3 :: a4 :: a5 :: a6 :: a7 :: a8 :: a9 :: some (.int x) :: T) S w := by
  intro H locs ls hl hP hD hS
  obtain ⟨q, hq⟩ := jp_find (L := (a0 :: a1 :: a2 :: a3 :: a4 :: a5 :: a6 :: a7 :: a8 :: a9 :: some (.int x) :: T)) (i := 10) (v := .int x) rfl
  exact lv_iinc hC.1 hC.2.1 hd hl hq rfl hn rfl (fun ls' hl' => k H locs ls' (jl_set1 (pre := [a0, a1, a2, a3, a4, a5, a6, a7, a8, a9]) (o := some (.int x)) (T := T) hk hl') hP hD hS)
theorem j_iinc11 (hC : jC p s m args meth c cc nL ret own D tys A X) {a0 a1 a2 a3 a4 a5 a6 a7 a8 a9 a10 : Option Value} {T : List (Option Value)} {x : Int32} {n : Int} (hd : decode cc pc = .ok (.iinc 11 n, 3)) (hn : 11 < nL) (hk : jokL [a0, a1, a2, a3, a4, a5, a6, a7, a8, a9, a10]) (k : J p l e R s m args below meth c D A nL Q (pc + 3) (a0 :: a1 :: a2 :: a3 :: a4 :: a5 :: a6 :: a7 :: a8 :: a9 :: a10 :: some (.int (x + Int32.ofInt n)) :: T) S w) : J p l e R s m args below meth c D A nL Q pc (a0 :: a1 :: a2 :: a3 :: a4 :: a5 :: a6 :: a7 :: a8 :: a9 :: a10 :: some (.int x) :: T) S w := by
  intro H locs ls hl hP hD hS
  obtain ⟨q, hq⟩ := jp_find (L := (a0 :: a1 :: a2 :: a3 :: a4 :: a5 :: a6 :: a7 :: a8 :: a9 :: a10 :: some (.int x) :: T)) (i := 11) (v := .int x) rfl
  exact lv_iinc hC.1 hC.2.1 hd hl hq rfl hn rfl (fun ls' hl' => k H locs ls' (jl_set1 (pre := [a0, a1, a2, a3, a4, a5, a6, a7, a8, a9, a10]) (o := some (.int x)) (T := T) hk hl') hP hD hS)
theorem j_iinc12 (hC : jC p s m args meth c cc nL ret own D tys A X) {a0 a1 a2 a3 a4 a5 a6 a7 a8 a9 a10 a11 : Option Value} {T : List (Option Value)} {x : Int32} {n : Int} (hd : decode cc pc = .ok (.iinc 12 n, 3)) (hn : 12 < nL) (hk : jokL [a0, a1, a2, a3, a4, a5, a6, a7, a8, a9, a10, a11]) (k : J p l e R s m args below meth c D A nL Q (pc + 3) (a0 :: a1 :: a2 :: a3 :: a4 :: a5 :: a6 :: a7 :: a8 :: a9 :: a10 :: a11 :: some (.int (x + Int32.ofInt n)) :: T) S w) : J p l e R s m args below meth c D A nL Q pc (a0 :: a1 :: a2 :: a3 :: a4 :: a5 :: a6 :: a7 :: a8 :: a9 :: a10 :: a11 :: some (.int x) :: T) S w := by
  intro H locs ls hl hP hD hS
  obtain ⟨q, hq⟩ := jp_find (L := (a0 :: a1 :: a2 :: a3 :: a4 :: a5 :: a6 :: a7 :: a8 :: a9 :: a10 :: a11 :: some (.int x) :: T)) (i := 12) (v := .int x) rfl
  exact lv_iinc hC.1 hC.2.1 hd hl hq rfl hn rfl (fun ls' hl' => k H locs ls' (jl_set1 (pre := [a0, a1, a2, a3, a4, a5, a6, a7, a8, a9, a10, a11]) (o := some (.int x)) (T := T) hk hl') hP hD hS)
theorem j_iinc13 (hC : jC p s m args meth c cc nL ret own D tys A X) {a0 a1 a2 a3 a4 a5 a6 a7 a8 a9 a10 a11 a12 : Option Value} {T : List (Option Value)} {x : Int32} {n : Int} (hd : decode cc pc = .ok (.iinc 13 n, 3)) (hn : 13 < nL) (hk : jokL [a0, a1, a2, a3, a4, a5, a6, a7, a8, a9, a10, a11, a12]) (k : J p l e R s m args below meth c D A nL Q (pc + 3) (a0 :: a1 :: a2 :: a3 :: a4 :: a5 :: a6 :: a7 :: a8 :: a9 :: a10 :: a11 :: a12 :: some (.int (x + Int32.ofInt n)) :: T) S w) : J p l e R s m args below meth c D A nL Q pc (a0 :: a1 :: a2 :: a3 :: a4 :: a5 :: a6 :: a7 :: a8 :: a9 :: a10 :: a11 :: a12 :: some (.int x) :: T) S w := by
  intro H locs ls hl hP hD hS
  obtain ⟨q, hq⟩ := jp_find (L := (a0 :: a1 :: a2 :: a3 :: a4 :: a5 :: a6 :: a7 :: a8 :: a9 :: a10 :: a11 :: a12 :: some (.int x) :: T)) (i := 13) (v := .int x) rfl
  exact lv_iinc hC.1 hC.2.1 hd hl hq rfl hn rfl (fun ls' hl' => k H locs ls' (jl_set1 (pre := [a0, a1, a2, a3, a4, a5, a6, a7, a8, a9, a10, a11, a12]) (o := some (.int x)) (T := T) hk hl') hP hD hS)
theorem j_iinc14 (hC : jC p s m args meth c cc nL ret own D tys A X) {a0 a1 a2 a3 a4 a5 a6 a7 a8 a9 a10 a11 a12 a13 : Option Value} {T : List (Option Value)} {x : Int32} {n : Int} (hd : decode cc pc = .ok (.iinc 14 n, 3)) (hn : 14 < nL) (hk : jokL [a0, a1, a2, a3, a4, a5, a6, a7, a8, a9, a10, a11, a12, a13]) (k : J p l e R s m args below meth c D A nL Q (pc + 3) (a0 :: a1 :: a2 :: a3 :: a4 :: a5 :: a6 :: a7 :: a8 :: a9 :: a10 :: a11 :: a12 :: a13 :: some (.int (x + Int32.ofInt n)) :: T) S w) : J p l e R s m args below meth c D A nL Q pc (a0 :: a1 :: a2 :: a3 :: a4 :: a5 :: a6 :: a7 :: a8 :: a9 :: a10 :: a11 :: a12 :: a13 :: some (.int x) :: T) S w := by
  intro H locs ls hl hP hD hS
  obtain ⟨q, hq⟩ := jp_find (L := (a0 :: a1 :: a2 :: a3 :: a4 :: a5 :: a6 :: a7 :: a8 :: a9 :: a10 :: a11 :: a12 :: a13 :: some (.int x) :: T)) (i := 14) (v := .int x) rfl
  exact lv_iinc hC.1 hC.2.1 hd hl hq rfl hn rfl (fun ls' hl' => k H locs ls' (jl_set1 (pre := [a0, a1, a2, a3, a4, a5, a6, a7, a8, a9, a10, a11, a12, a13]) (o := some (.int x)) (T := T) hk hl') hP hD hS)
theorem j_iinc15 (hC : jC p s m args meth c cc nL ret own D tys A X) {a0 a1 a2 a3 a4 a5 a6 a7 a8 a9 a10 a11 a12 a13 a14 : Option Value} {T : List (Option Value)} {x : Int32} {n : Int} (hd : decode cc pc = .ok (.iinc 15 n, 3)) (hn : 15 < nL) (hk : jokL [a0, a1, a2, a3, a4, a5, a6, a7, a8, a9, a10, a11, a12, a13, a14]) (k : J p l e R s m args below meth c D A nL Q (pc + 3) (a0 :: a1 :: a2 :: a3 :: a4 :: a5 :: a6 :: a7 :: a8 :: a9 :: a10 :: a11 :: a12 :: a13 :: a14 :: some (.int (x + Int32.ofInt n)) :: T) S w) : J p l e R s m args below meth c D A nL Q pc (a0 :: a1 :: a2 :: a3 :: a4 :: a5 :: a6 :: a7 :: a8 :: a9 :: a10 :: a11 :: a12 :: a13 :: a14 :: some (.int x) :: T) S w := by
  intro H locs ls hl hP hD hS
  obtain ⟨q, hq⟩ := jp_find (L := (a0 :: a1 :: a2 :: a3 :: a4 :: a5 :: a6 :: a7 :: a8 :: a9 :: a10 :: a11 :: a12 :: a13 :: a14 :: some (.int x) :: T)) (i := 15) (v := .int x) rfl
  exact lv_iinc hC.1 hC.2.1 hd hl hq rfl hn rfl (fun ls' hl' => k H locs ls' (jl_set1 (pre := [a0, a1, a2, a3, a4, a5, a6, a7, a8, a9, a10, a11, a12, a13, a14]) (o := some (.int x)) (T := T) hk hl') hP hD hS)
theorem j_iinc16 (hC : jC p s m args meth c cc nL ret own D tys A X) {a0 a1 a2 a3 a4 a5 a6 a7 a8 a9 a10 a11 a12 a13 a14 a15 : Option Value} {T : List (Option Value)} {x : Int32} {n : Int} (hd : decode cc pc = .ok (.iinc 16 n, 3)) (hn : 16 < nL) (hk : jokL [a0, a1, a2, a3, a4, a5, a6, a7, a8, a9, a10, a11, a12, a13, a14, a15]) (k : J p l e R s m args below meth c D A nL Q (pc + 3) (a0 :: a1 :: a2 :: a3 :: a4 :: a5 :: a6 :: a7 :: a8 :: a9 :: a10 :: a11 :: a12 :: a13 :: a14 :: a15 :: some (.int (x + Int32.ofInt n)) :: T) S w) : J p l e R s m args below meth c D A nL Q pc (a0 :: a1 :: a2 :: a3 :: a4 :: a5 :: a6 :: a7 :: a8 :: a9 :: a10 :: a11 :: a12 :: a13 :: a14 :: a15 :: some (.int x) :: T) S w := by
  intro H locs ls hl hP hD hS
  obtain ⟨q, hq⟩ := jp_find (L := (a0 :: a1 :: a2 :: a3 :: a4 :: a5 :: a6 :: a7 :: a8 :: a9 :: a10 :: a11 :: a12 :: a13 :: a14 :: a15 :: some (.int x) :: T)) (i := 16) (v := .int x) rfl
  exact lv_iinc hC.1 hC.2.1 hd hl hq rfl hn rfl (fun ls' hl' => k H locs ls' (jl_set1 (pre := [a0, a1, a2, a3, a4, a5, a6, a7, a8, a9, a10, a11, a12, a13, a14, a15]) (o := some (.int x)) (T := T) hk hl') hP hD hS)
theorem j_iinc17 (hC : jC p s m args meth c cc nL ret own D tys A X) {a0 a1 a2 a3 a4 a5 a6 a7 a8 a9 a10 a11 a12 a13 a14 a15 a16 : Option Value} {T : List (Option Value)} {x : Int32} {n : Int} (hd : decode cc pc = .ok (.iinc 17 n, 3)) (hn : 17 < nL) (hk : jokL [a0, a1, a2, a3, a4, a5, a6, a7, a8, a9, a10, a11, a12, a13, a14, a15, a16]) (k : J p l e R s m args below meth c D A nL Q (pc + 3) (a0 :: a1 :: a2 :: a3 :: a4 :: a5 :: a6 :: a7 :: a8 :: a9 :: a10 :: a11 :: a12 :: a13 :: a14 :: a15 :: a16 :: some (.int (x + Int32.ofInt n)) :: T) S w) : J p l e R s m args below meth c D A nL Q pc (a0 :: a1 :: a2 :: a3 :: a4 :: a5 :: a6 :: a7 :: a8 :: a9 :: a10 :: a11 :: a12 :: a13 :: a14 :: a15 :: a16 :: some (.int x) :: T) S w := by
  intro H locs ls hl hP hD hS
  obtain ⟨q, hq⟩ := jp_find (L := (a0 :: a1 :: a2 :: a3 :: a4 :: a5 :: a6 :: a7 :: a8 :: a9 :: a10 :: a11 :: a12 :: a13 :: a14 :: a15 :: a16 :: some (.int x) :: T)) (i := 17) (v := .int x) rfl
  exact lv_iinc hC.1 hC.2.1 hd hl hq rfl hn rfl (fun ls' hl' => k H locs ls' (jl_set1 (pre := [a0, a1, a2, a3, a4, a5, a6, a7, a8, a9, a10, a11, a12, a13, a14, a15, a16]) (o := some (.int x)) (T := T) hk hl') hP hD hS)
theorem j_get (hC : jC p s m args meth c cc nL ret own D tys A X) {C0 : String} {T : u_T} {N ci index q0 : Nat} {ref : String} {fs : List Value} {a : Nat} {v : Value} (k0 : Nat) (hin : ∀ w ∈ u_ws C0 T N, w ∈ al_ws) (he : w[q0]? = some (a, .inr (ci, fs))) (hc : classes[ci]? = some (C0, T, N)) (hk : k0 < N) (hlink : Cond.fieldLink own index ref (T k0).2.1 (T k0).2.2.1 ∈ al_ws) (hsame : (T k0).1 = ref) (hv : fs[k0]? = some v) (hd : decode cc pc = .ok (.getfield index, 3)) (k : J p l e R s m args below meth c D A nL Q (pc + 3) L (v :: S) w) : J p l e R s m args below meth c D A nL Q pc L (.ref a :: S) w := fun H locs ls hl hP hD hS =>
  va_get (q0 := q0) hC.1 hC.2.1 hC.2.2.2.2.1 hin hC.2.2.2.1 hC.2.2.2.2.2.1 hP he hc k0 hk (hC.2.2.2.2.1 _ hlink) (fun x h => by rw [← hsame]; exact h) hv hd (k H locs ls hl hP hD hS)
theorem j_put (hC : jC p s m args meth c cc nL ret own D tys A X) {C0 : String} {T : u_T} {N ci index q0 : Nat} {ref : String} {fs : List Value} {a : Nat} {v : Value} {ty : FieldType} {w' : va_W} (k0 : Nat) (hin : ∀ w ∈ u_ws C0 T N, w ∈ al_ws) (ty0 : Nat → FieldType) (hty : ∀ k, k < N → parseFieldDescriptor (T k).2.2.1 = some (ty0 k)) (hnm : ∀ a, a < N → ∀ b, b < N → a ≠ b → (T a).2.1 ≠ (T b).2.1) (he : w[q0]? = some (a, .inr (ci, fs))) (hc : classes[ci]? = some (C0, T, N)) (hk : k0 < N) (hlink : Cond.fieldLink own index ref (T k0).2.1 (T k0).2.2.1 ∈ al_ws) (hsame : (T k0).1 = ref) (hfin : (T k0).2.2.2 = false) (hde : parseFieldDescriptor (T k0).2.2.1 = some ty) (hna : narrow ty v = v) (hfit : fits ty v = true) (hl0 : k0 < fs.length) (hw : w.set q0 (a, .inr (ci, fs.set k0 v)) = w') (hd : decode cc pc = .ok (.putfield index, 3)) (k : J p l e R s m args below meth c D A nL Q (pc + 3) L S w') : J p l e R s m args below meth c D A nL Q pc L (v :: .ref a :: S) w := fun H locs ls hl hP hD hS =>
  va_put (q0 := q0) hC.1 hC.2.1 hC.2.2.2.2.1 hin ty0 hty hnm hC.2.2.2.1 hC.2.2.2.2.2.1 hP hD hS he hc k0 hk (hC.2.2.2.2.1 _ hlink) (fun x h => by rw [← hsame]; exact h) hfin hde hna hfit hl0 hd (fun H1 locs1 hP1 hD1 hS1 => k H1 locs1 ls hl (hw ▸ hP1) (hw ▸ hD1) hS1)
theorem j_bald (hC : jC p s m args meth c cc nL ret own D tys A X) {q0 t0 : Nat} {cA : ClassId} {n a : Nat} {f : Nat → Int32} (ha : w[q0]? = some (a, .inl (cA, n, .inl f))) (ht : tys[t0]? = some (cA, .byte)) {i : Int32} (hin : vp_in i n) (hd : decode cc pc = .ok (.baload, 1)) (k : J p l e R s m args below meth c D A nL Q (pc + 1) L (.int (f i.toNatClampNeg) :: S) w) : J p l e R s m args below meth c D A nL Q pc L (.int i :: .ref a :: S) w := fun H locs ls hl hP hD hS => va_bald (q0 := q0) (t0 := t0) hC.1 hC.2.1 hC.2.2.2.2.2.1 hP ha ht hin hd (k H locs ls hl hP hD hS)
theorem j_iald (hC : jC p s m args meth c cc nL ret own D tys A X) {q0 t0 : Nat} {cA : ClassId} {n a : Nat} {f : Nat → Int32} (ha : w[q0]? = some (a, .inl (cA, n, .inl f))) (ht : tys[t0]? = some (cA, .int)) {i : Int32} (hin : vp_in i n) (hd : decode cc pc = .ok (.iaload, 1)) (k : J p l e R s m args below meth c D A nL Q (pc + 1) L (.int (f i.toNatClampNeg) :: S) w) : J p l e R s m args below meth c D A nL Q pc L (.int i :: .ref a :: S) w := fun H locs ls hl hP hD hS => va_iald (q0 := q0) (t0 := t0) hC.1 hC.2.1 hC.2.2.2.2.2.1 hP ha ht hin hd (k H locs ls hl hP hD hS)
theorem j_lald (hC : jC p s m args meth c cc nL ret own D tys A X) {q0 t0 : Nat} {cA : ClassId} {n a : Nat} {f : Nat → Int64} (ha : w[q0]? = some (a, .inl (cA, n, .inr (.inl f)))) (ht : tys[t0]? = some (cA, .long)) {i : Int32} (hin : vp_in i n) (hd : decode cc pc = .ok (.laload, 1)) (k : J p l e R s m args below meth c D A nL Q (pc + 1) L (.long (f i.toNatClampNeg) :: S) w) : J p l e R s m args below meth c D A nL Q pc L (.int i :: .ref a :: S) w := fun H locs ls hl hP hD hS => va_lald (q0 := q0) (t0 := t0) hC.1 hC.2.1 hC.2.2.2.2.2.1 hP ha ht hin hd (k H locs ls hl hP hD hS)
theorem j_bast (hC : jC p s m args meth c cc nL ret own D tys A X) {q0 t0 : Nat} {cA : ClassId} {n a : Nat} {f : Nat → Int32} {w' : va_W} (ha : w[q0]? = some (a, .inl (cA, n, .inl f))) (ht : tys[t0]? = some (cA, .byte)) {i : Int32} {x : Int32} (hin : vp_in i n) (hw : w.set q0 (a, .inl (cA, n, .inl (upd f i.toNatClampNeg (vp_nar .byte x)))) = w') (hd : decode cc pc = .ok (.bastore, 1)) (k : J p l e R s m args below meth c D A nL Q (pc + 1) L S w') : J p l e R s m args below meth c D A nL Q pc L (.int x :: .int i :: .ref a :: S) w := fun H locs ls hl hP hD hS => va_bast (q0 := q0) (t0 := t0) hC.1 hC.2.1 hC.2.2.2.2.2.1 hP hD hS ha ht hin hd (fun H1 locs1 hP1 hD1 hS1 => k H1 locs1 ls hl (hw ▸ hP1) (hw ▸ hD1) hS1)
theorem j_iast (hC : jC p s m args meth c cc nL ret own D tys A X) {q0 t0 : Nat} {cA : ClassId} {n a : Nat} {f : Nat → Int32} {w' : va_W} (ha : w[q0]? = some (a, .inl (cA, n, .inl f))) (ht : tys[t0]? = some (cA, .int)) {i : Int32} {x : Int32} (hin : vp_in i n) (hw : w.set q0 (a, .inl (cA, n, .inl (upd f i.toNatClampNeg x))) = w') (hd : decode cc pc = .ok (.iastore, 1)) (k : J p l e R s m args below meth c D A nL Q (pc + 1) L S w') : J p l e R s m args below meth c D A nL Q pc L (.int x :: .int i :: .ref a :: S) w := fun H locs ls hl hP hD hS => va_iast (q0 := q0) (t0 := t0) hC.1 hC.2.1 hC.2.2.2.2.2.1 hP hD hS ha ht hin hd (fun H1 locs1 hP1 hD1 hS1 => k H1 locs1 ls hl (hw ▸ hP1) (hw ▸ hD1) hS1)
theorem j_last (hC : jC p s m args meth c cc nL ret own D tys A X) {q0 t0 : Nat} {cA : ClassId} {n a : Nat} {f : Nat → Int64} {w' : va_W} (ha : w[q0]? = some (a, .inl (cA, n, .inr (.inl f)))) (ht : tys[t0]? = some (cA, .long)) {i : Int32} {x : Int64} (hin : vp_in i n) (hw : w.set q0 (a, .inl (cA, n, .inr (.inl (vp_updL f i.toNatClampNeg x)))) = w') (hd : decode cc pc = .ok (.lastore, 1)) (k : J p l e R s m args below meth c D A nL Q (pc + 1) L S w') : J p l e R s m args below meth c D A nL Q pc L (.long x :: .int i :: .ref a :: S) w := fun H locs ls hl hP hD hS => va_last (q0 := q0) (t0 := t0) hC.1 hC.2.1 hC.2.2.2.2.2.1 hP hD hS ha ht hin hd (fun H1 locs1 hP1 hD1 hS1 => k H1 locs1 ls hl (hw ▸ hP1) (hw ▸ hD1) hS1)
end JK
/-- a method's contract over one world: it is called with av at a heap that holds w, it returns v and a heap that holds w', with 'post v w'' -/
def jQ (D : va_G) (w : va_W) (sz : Nat) (post : Option Value → va_W → Prop) : Array Value → State → Outcome → State → Prop := fun _ st oc t => (∃ (v : Option Value) (w' : va_W), oc = .returned v ∧ post v w' ∧ va_P D classes w' t.heap ∧ va_D (va_A w sz) w') ∧ va_F (va_A w sz) st t
def jB (D : va_G) (tys : List (ClassId × FieldType)) (X : jX) (w : va_W) (sz : Nat) : State → Prop := fun U => U.heap.size = sz ∧ va_P D classes w U.heap ∧ va_K D classes tys U ∧ va_D (fun _ => True) w ∧ jE X (va_A w sz) U U.heap
def jM (l : Launch) (y : MethodName) (cc : ByteArray) (nL : Nat) (ret : Option FieldType) (rm : Room) (D : va_G) (tys : List (ClassId × FieldType)) (X : jX) (av : List Value) (w : va_W) (post : Option Value → va_W → Prop) : Prop :=
  ∀ sz : Nat, Met l y (Cond.code y cc nL ret :: al_ws) rm (va_Pc av (jB D tys X w sz)) (jQ D w sz post) 0 0 (va_A w sz)
/-- the locals at a method's entry, by place -/
def jent : List Value → List (Option Value)
  | [] => []
  | v :: vs => if v.category = 2 then some v :: none :: jent vs else some v :: jent vs
theorem jent_jp : ∀ (vs : List Value) (i : Nat), jp i (jent vs) = lv_args i vs
  | [], i => rfl
  | v :: vs, i => by
    simp only [jent, lv_args]
    by_cases h : v.category = 2
    · simp only [h, if_true, jp]
      rw [jent_jp vs (i + 2)]
    · simp only [h, if_false, jp]
      rw [jent_jp vs (i + 1)]
theorem jl_entry (vs : List Value) {n : Nat} (h : (lg_sl vs).length ≤ n) : jl ((lg_sl vs ++ List.replicate (n - (lg_sl vs).length) Slot.unset).toArray) n (jent vs) := by
  unfold jl
  rw [jent_jp]
  exact lv_entry vs h
theorem jM.of {l : Launch} {y : MethodName} {cc : ByteArray} {nL : Nat} {ret : Option FieldType} {rm : Room} {D : va_G} {tys : List (ClassId × FieldType)} {X : jX} {av : List Value} {w : va_W} {post : Option Value → va_W → Prop} (L : List (Option Value)) (hL : jle L (jent av)) (hy : plainName y.cls = true) (hn : (lg_sl av).length ≤ nL)
    (body : ∀ (p : Program) (e : Env) (s : State) (m : MethodId) (args : Array Value) (below : List Frame) (meth : Method) (c : Code) (sz : Nat), jC p s m args meth c cc nL ret y.cls D tys (va_A w sz) X →
      J p l e rm s m args below meth c D (va_A w sz) nL (MQ below (jQ D w sz post) args s 0 0 (va_A w sz)) 0 L [] w) : jM l y cc nL ret rm D tys X av w post := by
  intro sz
  refine Met.ofW (cc := cc) (maxL := nL) (ret := ret) hy rfl ?_
  intro p e s m args below meth c s₁ B hml hv
  obtain ⟨rfl, hsz, hP, hK, hD0, hE⟩ := hv
  have hts := atoms_spec (ws := Cond.code y cc nL ret :: al_ws) B.pre
  have hD := hD0.self (sz := sz)
  have hA : ∀ q : Nat, s.heap.size ≤ q → va_A w sz q := fun q h => Or.inr (by rw [← hsz]; exact h)
  have hl := jl_entry av hn
  rw [lg_entry_eq]
  exact body p e s m av.toArray below meth c sz ⟨B.exec, B.bytes, hml, findClass_of_methodNamed B.named, fun w h => hts w (List.mem_cons_of_mem _ h), hK, hA, B.returns, B.notSynchronized, hE⟩ s.heap [] _ (jl_weak hl (jle_at L _ hL)) hP hD va_S.rf
section JR
variable {p : Program} {l : Launch} {e : Env} {R : Room} {s : State} {m : MethodId} {args : Array Value} {below : List Frame} {meth : Method} {c : Code} {D : va_G} {nL : Nat} {pc : Nat} {L : List (Option Value)} {S : List Value} {w w0 : va_W} {sz : Nat} {post : Option Value → va_W → Prop}
variable {cc : ByteArray} {own : String} {tys : List (ClassId × FieldType)} {X : jX}
theorem j_ret_ok {A : Nat → Prop} {v : Option Value} {H : Heap} {locs : List Loc} (hp : post v w) (hP : va_P D classes w H) (hD : va_D (va_A w0 sz) w) (hS : va_S (va_A w0 sz) s.heap H locs) : ∀ t : State, t.heap = H → s.WarmedH t.vm → jQ D w0 sz post args s (.returned v) t := fun t ht _ => ⟨⟨v, w, rfl, hp, by rw [ht]; exact hP, hD⟩, hS.F ht⟩
theorem j_iret {v : Int32} (hC : jC p s m args meth c cc nL (some .int) own D tys (va_A w0 sz) X) (hd : decode cc pc = .ok (.ireturn, 1)) (hp : post (some (.int v)) w) : J p l e R s m args below meth c D (va_A w0 sz) nL (MQ below (jQ D w0 sz post) args s 0 0 (va_A w0 sz)) pc L [.int v] w := fun H locs ls hl hP hD hS => W.iret hC.1 hC.2.1 hC.2.2.2.2.2.2.2.1 (j_ret_ok (A := va_A w0 sz) hp hP hD hS) hS.2.2 hd (hlocks := hC.2.2.2.2.2.2.2.2.1)
theorem j_zret {v : Int32} {ty : FieldType} (hC : jC p s m args meth c cc nL (some ty) own D tys (va_A w0 sz) X) (hna : narrow ty (.int v) = .int v) (hd : decode cc pc = .ok (.ireturn, 1)) (hp : post (some (.int v)) w) : J p l e R s m args below meth c D (va_A w0 sz) nL (MQ below (jQ D w0 sz post) args s 0 0 (va_A w0 sz)) pc L [.int v] w := fun H locs ls hl hP hD hS => W.zret hC.1 hC.2.1 hC.2.2.2.2.2.2.2.1 hna (j_ret_ok (A := va_A w0 sz) hp hP hD hS) hS.2.2 hd (hlocks := hC.2.2.2.2.2.2.2.2.1)
theorem j_lret {v : Int64} (hC : jC p s m args meth c cc nL (some .long) own D tys (va_A w0 sz) X) (hd : decode cc pc = .ok (.lreturn, 1)) (hp : post (some (.long v)) w) : J p l e R s m args below meth c D (va_A w0 sz) nL (MQ below (jQ D w0 sz post) args s 0 0 (va_A w0 sz)) pc L [.long v] w := fun H locs ls hl hP hD hS => W.lret hC.1 hC.2.1 hC.2.2.2.2.2.2.2.1 (j_ret_ok (A := va_A w0 sz) hp hP hD hS) hS.2.2 hd (hlocks := hC.2.2.2.2.2.2.2.2.1)
theorem j_vret (hC : jC p s m args meth c cc nL none own D tys (va_A w0 sz) X) (hd : decode cc pc = .ok (.return_, 1)) (hp : post none w) : J p l e R s m args below meth c D (va_A w0 sz) nL (MQ below (jQ D w0 sz post) args s 0 0 (va_A w0 sz)) pc L [] w := fun H locs ls hl hP hD hS => W.vret hC.1 hC.2.1 hC.2.2.2.2.2.2.2.1 (j_ret_ok (A := va_A w0 sz) hp hP hD hS) hS.2.2 hd (hlocks := hC.2.2.2.2.2.2.2.2.1)
end JR
section JCALL
variable {p : Program} {l : Launch} {e : Env} {R : Room} {s : State} {m : MethodId} {args : Array Value} {below : List Frame} {meth : Method} {c : Code} {D : va_G} {A : Nat → Prop} {nL : Nat} {Q : State → Prop} {pc : Nat} {L : List (Option Value)} {S : List Value} {w : va_W}
variable {cc : ByteArray} {ret : Option FieldType} {own : String} {tys : List (ClassId × FieldType)} {X : jX}
variable {y : MethodName} {bytes : ByteArray} {maxL idx n : Nat} {ret' : Option FieldType} {rm : Room} {As : List Value} {post : Option Value → va_W → Prop}
/-- the words of a call of y at the place idx of own's pool -/
def jwB (own : String) (idx : Nat) (y : MethodName) (bytes : ByteArray) (maxL : Nat) (ret : Option FieldType) (n : Nat) : Prop :=
  Cond.code y bytes maxL ret ∈ al_ws ∧ Cond.initialized y.cls ∈ al_ws ∧ Cond.methodLink own idx y ∈ al_ws ∧ (y.cls ≠ "java/lang/invoke/MethodHandle" ∧ y.cls ≠ "java/lang/invoke/VarHandle") ∧ (parseMethodDescriptor y.desc).map (fun d => d.parameters.length) = some n
def jwV (own : String) (idx : Nat) (y : MethodName) (bytes : ByteArray) (maxL : Nat) (ret : Option FieldType) (n : Nat) : Prop := jwB own idx y bytes maxL ret n ∧ Cond.instanceMethod y ∈ al_ws ∧ Cond.selects y.cls y y ∈ al_ws
def jwS (own : String) (idx : Nat) (y : MethodName) (bytes : ByteArray) (maxL : Nat) (ret : Option FieldType) (n : Nat) : Prop := jwB own idx y bytes maxL ret n ∧ Cond.static y ∈ al_ws
/-- the room of a callee in its caller's -/
def jroom (rm R : Room) (maxL : Nat) : Prop := rm.cells = 0 ∧ rm.slots = 0 ∧ rm.frames + 1 ≤ R.frames ∧ 8 + (maxL + 11) + rm.locals ≤ R.locals
theorem j_callB (hC : jC p s m args meth c cc nL ret own D tys A X) (hw : jwB own idx y bytes maxL ret' n) (hR : jroom rm R maxL) : CallB R s args own idx y bytes maxL ret' (Cond.code y bytes maxL ret' :: al_ws) rm 0 0 n := by
  have hts := hC.2.2.2.2.1
  refine callB_of (ws' := al_ws) (Ts := al_ws) n hts (fun x hx => ?_) rfl hR.1 hR.2.1 (hts _ hw.2.1) (hts _ hw.2.2.1) ⟨hw.2.2.2.1.1, hw.2.2.2.1.2, hw.2.2.2.2⟩ hR.2.2
  rcases List.mem_cons.mp hx with h | h
  · rw [h]
    exact al_good _ hw.1
  · exact al_good _ h
theorem j_free {H : Heap} {locs : List Loc} (hC : jC p s m args meth c cc nL ret own D tys A X) (hD : va_D A w) (hS : va_S A s.heap H locs) : ∀ q, va_A w H.size q → A q := by
  intro q h
  rcases h with ⟨k, e, h⟩ | h
  · exact hD.2 k _ h
  · exact hC.2.2.2.2.2.2.1 q (Nat.le_trans hS.1 h)
theorem j_blind {sz : Nat} {av : List Value} : FrameBlind (va_Pc av (jB D tys X w sz)) := fun a U g mk q => by
  obtain ⟨q0, q1, qP, qK, qD, qE⟩ := q
  exact ⟨q0, q1, qP, va_K.moved (u := U) (U := U.calling g mk a) (Vm.Alike.refl U.vm) qK, qD, jE.same (u := U) (U := U.calling g mk a) rfl qE⟩
theorem j_pre {H : Heap} {locs : List Loc} {av : List Value} (hC : jC p s m args meth c cc nL ret own D tys A X) (hP : va_P D classes w H) (hD : va_D A w) (hS : va_S A s.heap H locs) : ∀ U : State, U.heap = H → s.WarmedH U.vm → va_Pc av (jB D tys X w H.size) av.toArray U := fun U hU hW => by
  refine ⟨rfl, by rw [hU], by rw [hU]; exact hP, va_K.moved hW.alike hC.2.2.2.2.2.1, hD.weaken (fun _ _ _ _ => trivial), ?_⟩
  rw [hU]
  exact jE.warm hW ((hC.2.2.2.2.2.2.2.2.2.kept hS.2.1).narrow (j_free hC hD hS))
theorem j_back {H : Heap} {locs : List Loc} {ls : Array Slot} {st0 rest : List Value} {a : Array Value} (hC : jC p s m args meth c cc nL ret own D tys A X) (hl : jl ls nL L) (hD : va_D A w) (hS : va_S A s.heap H locs)
    (run : va_Run p l e R s m args below meth c H locs 0 0 0 0 (F0 m pc ls st0) rest (jQ D w H.size post a) (va_A w H.size))
    (kk : ∀ (v : Option Value) (w' : va_W), post v w' → J p l e R s m args below meth c D A nL Q (pc + 3) L (v.toList ++ rest) w') : W p l e R s m args below meth c H locs 0 0 Q (F0 m pc ls st0) := by
  have hF := j_free hC hD hS
  intro T hT X'
  obtain ⟨v, st₀, t, T', Lc, h0, X1, hLc, e1, e2, ⟨⟨v', w', hv, hp, hP', hD'⟩, hz, hk⟩, st⟩ := run T hT X'
  cases hv
  rw [h0] at hz hk
  obtain ⟨t2, a1, b1⟩ := kk v w' hp T'.heap (locs ++ Lc) ls hl (by rw [e1]; exact hP') (hD'.weaken fun _ q _ h => hF q.1 h)
    ⟨Nat.le_trans hS.1 (by rw [e1]; exact hz), fun q h1 h2 => by rw [e1, hk q (Nat.lt_of_lt_of_le h1 hS.1) (fun z => h2 (hF q z))]; exact hS.2.1 q h1 h2, fun q hq => by
      rcases List.mem_append.mp hq with h | h
      · exact hS.2.2 q h
      · exact hF _ (hLc q h)⟩ T' rfl X1
  exact ⟨t2, st t2 a1, b1⟩
theorem j_callV {b : Nat} {q0 ci : Nat} {fs : List Value} {T : u_T} {N : Nat} (hC : jC p s m args meth c cc nL ret own D tys A X) (hw : jwV own idx y bytes maxL ret' n) (hR : jroom rm R maxL) (hn : As.length = n) (hroom : (S.map fun v => v.category).sum ≤ 8) (hc : classes[ci]? = some (y.cls, T, N)) (he : w[q0]? = some (b, .inr (ci, fs))) (hd : decode cc pc = .ok (.invokevirtual idx, 3))
    (hM : jM l y bytes maxL ret' rm D tys X (.ref b :: As) w post)
    (kk : ∀ (v : Option Value) (w' : va_W), post v w' → J p l e R s m args below meth c D A nL Q (pc + 3) L (v.toList ++ S) w') : J p l e R s m args below meth c D A nL Q pc L (As.reverse ++ .ref b :: S) w := by
  intro H locs ls hl hP hD hS
  have hts := hC.2.2.2.2.1
  have run := va_runV (p := p) (l := l) (e := e) (R := R) (s := s) (m := m) (args := args) (below := below) (meth := meth) (c := c) (H := H) (locs := locs) (cells := 0) (slots := 0) (As := As) (rest := S) (C := y.cls) (b := b) (g := F0 m pc ls (As.reverse ++ .ref b :: S)) ⟨hC.1, hC.2.1, hC.2.2.1, hC.2.2.2.1, hts⟩ (hM H.size) ⟨j_callB hC hw.1 hR, hts _ hw.2.1, hts _ hw.2.2⟩ ⟨j_blind, va_recv hC.2.2.2.2.2.1 hP (ci := ci) (q0 := q0) hc he, j_pre (av := .ref b :: As) hC hP hD hS⟩ rfl hn hl.1 rfl (lv_room hroom) hd ⟨Nat.zero_le _, Nat.zero_le _⟩
  exact j_back hC hl hD hS run kk
theorem j_callS (hC : jC p s m args meth c cc nL ret own D tys A X) (hw : jwS own idx y bytes maxL ret' n) (hR : jroom rm R maxL) (hn : As.length = n) (hroom : (S.map fun v => v.category).sum ≤ 8) (hd : decode cc pc = .ok (.invokestatic idx, 3))
    (hM : jM l y bytes maxL ret' rm D tys X As w post)
    (kk : ∀ (v : Option Value) (w' : va_W), post v w' → J p l e R s m args below meth c D A nL Q (pc + 3) L (v.toList ++ S) w') : J p l e R s m args below meth c D A nL Q pc L (As.reverse ++ S) w := by
  intro H locs ls hl hP hD hS
  have hts := hC.2.2.2.2.1
  have run := va_runS (p := p) (l := l) (e := e) (R := R) (s := s) (m := m) (args := args) (below := below) (meth := meth) (c := c) (H := H) (locs := locs) (cells := 0) (slots := 0) (As := As) (rest := S) (g := F0 m pc ls (As.reverse ++ S)) ⟨hC.1, hC.2.1, hC.2.2.1, hC.2.2.2.1, hts⟩ (hM H.size) ⟨j_callB hC hw.1 hR, hts _ hw.2⟩ ⟨j_blind, j_pre (av := As) hC hP hD hS⟩ rfl hn hl.1 rfl (lv_room hroom) hd ⟨Nat.zero_le _, Nat.zero_le _⟩
  exact j_back hC hl hD hS run kk
end JCALL
/-- answers by kind -/
def jPi (q : Int32 → va_W → Prop) : Option Value → va_W → Prop := fun v w => ∃ r : Int32, v = some (.int r) ∧ q r w
def jPl (q : Int64 → va_W → Prop) : Option Value → va_W → Prop := fun v w => ∃ r : Int64, v = some (.long r) ∧ q r w
def jPv (q : va_W → Prop) : Option Value → va_W → Prop := fun v w => v = none ∧ q w
section JCALL2
variable {p : Program} {l : Launch} {e : Env} {R : Room} {s : State} {m : MethodId} {args : Array Value} {below : List Frame} {meth : Method} {c : Code} {D : va_G} {A : Nat → Prop} {nL : Nat} {Q : State → Prop} {pc : Nat} {L : List (Option Value)} {S : List Value} {w : va_W}
variable {cc : ByteArray} {ret : Option FieldType} {own : String} {tys : List (ClassId × FieldType)} {X : jX}
variable {y : MethodName} {bytes : ByteArray} {maxL idx : Nat} {ret' : Option FieldType} {rm : Room}
theorem j_V0i {q : Int32 → va_W → Prop} {b : Nat} {q0 ci : Nat} {fs : List Value} {T : u_T} {N : Nat} (hC : jC p s m args meth c cc nL ret own D tys A X) (hw : jwV own idx y bytes maxL ret' 0) (hR : jroom rm R maxL) (hroom : (S.map fun v => v.category).sum ≤ 8) (hc : classes[ci]? = some (y.cls, T, N)) (he : w[q0]? = some (b, .inr (ci, fs))) (hd : decode cc pc = .ok (.invokevirtual idx, 3)) (hM : jM l y bytes maxL ret' rm D tys X (.ref b :: []) w (jPi q)) (kk : ∀ (r : Int32) (w2 : va_W), q r w2 → J p l e R s m args below meth c D A nL Q (pc + 3) L (.int r :: S) w2) : J p l e R s m args below meth c D A nL Q pc L (.ref b :: S) w := j_callV (As := []) hC hw hR rfl hroom hc he hd hM (fun v w2 h => by obtain ⟨r, rfl, h⟩ := h; exact kk r w2 h)
theorem j_S0i {q : Int32 → va_W → Prop} (hC : jC p s m args meth c cc nL ret own D tys A X) (hw : jwS own idx y bytes maxL ret' 0) (hR : jroom rm R maxL) (hroom : (S.map fun v => v.category).sum ≤ 8) (hd : decode cc pc = .ok (.invokestatic idx, 3)) (hM : jM l y bytes maxL ret' rm D tys X [] w (jPi q)) (kk : ∀ (r : Int32) (w2 : va_W), q r w2 → J p l e R s m args below meth c D A nL Q (pc + 3) L (.int r :: S) w2) : J p l e R s m args below meth c D A nL Q pc L (S) w := j_callS (As := []) hC hw hR rfl hroom hd hM (fun v w2 h => by obtain ⟨r, rfl, h⟩ := h; exact kk r w2 h)
theorem j_V0l {q : Int64 → va_W → Prop} {b : Nat} {q0 ci : Nat} {fs : List Value} {T : u_T} {N : Nat} (hC : jC p s m args meth c cc nL ret own D tys A X) (hw : jwV own idx y bytes maxL ret' 0) (hR : jroom rm R maxL) (hroom : (S.map fun v => v.category).sum ≤ 8) (hc : classes[ci]? = some (y.cls, T, N)) (he : w[q0]? = some (b, .inr (ci, fs))) (hd : decode cc pc = .ok (.invokevirtual idx, 3)) (hM : jM l y bytes maxL ret' rm D tys X (.ref b :: []) w (jPl q)) (kk : ∀ (r : Int64) (w2 : va_W), q r w2 → J p l e R s m args below meth c D A nL Q (pc + 3) L (.long r :: S) w2) : J p l e R s m args below meth c D A nL Q pc L (.ref b :: S) w := j_callV (As := []) hC hw hR rfl hroom hc he hd hM (fun v w2 h => by obtain ⟨r, rfl, h⟩ := h; exact kk r w2 h)
theorem j_S0l {q : Int64 → va_W → Prop} (hC : jC p s m args meth c cc nL ret own D tys A X) (hw : jwS own idx y bytes maxL ret' 0) (hR : jroom rm R maxL) (hroom : (S.map fun v => v.category).sum ≤ 8) (hd : decode cc pc = .ok (.invokestatic idx, 3)) (hM : jM l y bytes maxL ret' rm D tys X [] w (jPl q)) (kk : ∀ (r : Int64) (w2 : va_W), q r w2 → J p l e R s m args below meth c D A nL Q (pc + 3) L (.long r :: S) w2) : J p l e R s m args below meth c D A nL Q pc L (S) w := j_callS (As := []) hC hw hR rfl hroom hd hM (fun v w2 h => by obtain ⟨r, rfl, h⟩ := h; exact kk r w2 h)
theorem j_V0v {q : va_W → Prop} {b : Nat} {q0 ci : Nat} {fs : List Value} {T : u_T} {N : Nat} (hC : jC p s m args meth c cc nL ret own D tys A X) (hw : jwV own idx y bytes maxL ret' 0) (hR : jroom rm R maxL) (hroom : (S.map fun v => v.category).sum ≤ 8) (hc : classes[ci]? = some (y.cls, T, N)) (he : w[q0]? = some (b, .inr (ci, fs))) (hd : decode cc pc = .ok (.invokevirtual idx, 3)) (hM : jM l y bytes maxL ret' rm D tys X (.ref b :: []) w (jPv q)) (kk : ∀ (w2 : va_W), q w2 → J p l e R s m args below meth c D A nL Q (pc + 3) L S w2) : J p l e R s m args below meth c D A nL Q pc L (.ref b :: S) w := j_callV (As := []) hC hw hR rfl hroom hc he hd hM (fun v w2 h => by obtain ⟨rfl, h⟩ := h; exact kk w2 h)
theorem j_S0v {q : va_W → Prop} (hC : jC p s m args meth c cc nL ret own D tys A X) (hw : jwS own idx y bytes maxL ret' 0) (hR : jroom rm R maxL) (hroom : (S.map fun v => v.category).sum ≤ 8) (hd : decode cc pc = .ok (.invokestatic idx, 3)) (hM : jM l y bytes maxL ret' rm D tys X [] w (jPv q)) (kk : ∀ (w2 : va_W), q w2 → J p l e R s m args below meth c D A nL Q (pc + 3) L S w2) : J p l e R s m args below meth c D A nL Q pc L (S) w := j_callS (As := []) hC hw hR rfl hroom hd hM (fun v w2 h => by obtain ⟨rfl, h⟩ := h; exact kk w2 h)
theorem j_V1i {q : Int32 → va_W → Prop} {b : Nat} {q0 ci : Nat} {fs : List Value} {T : u_T} {N : Nat} {v0 : Value} (hC : jC p s m args meth c cc nL ret own D tys A X) (hw : jwV own idx y bytes maxL ret' 1) (hR : jroom rm R maxL) (hroom : (S.map fun v => v.category).sum ≤ 8) (hc : classes[ci]? = some (y.cls, T, N)) (he : w[q0]? = some (b, .inr (ci, fs))) (hd : decode cc pc = .ok (.invokevirtual idx, 3)) (hM : jM l y bytes maxL ret' rm D tys X (.ref b :: [v0]) w (jPi q)) (kk : ∀ (r : Int32) (w2 : va_W), q r w2 → J p l e R s m args below meth c D A nL Q (pc + 3) L (.int r :: S) w2) : J p l e R s m args below meth c D A nL Q pc L (v0 :: .ref b :: S) w := j_callV (As := [v0]) hC hw hR rfl hroom hc he hd hM (fun v w2 h => by obtain ⟨r, rfl, h⟩ := h; exact kk r w2 h)
theorem j_S1i {q : Int32 → va_W → Prop} {v0 : Value} (hC : jC p s m args meth c cc nL ret own D tys A X) (hw : jwS own idx y bytes maxL ret' 1) (hR : jroom rm R maxL) (hroom : (S.map fun v => v.category).sum ≤ 8) (hd : decode cc pc = .ok (.invokestatic idx, 3)) (hM : jM l y bytes maxL ret' rm D tys X [v0] w (jPi q)) (kk : ∀ (r : Int32) (w2 : va_W), q r w2 → J p l e R s m args below meth c D A nL Q (pc + 3) L (.int r :: S) w2) : J p l e R s m args below meth c D A nL Q pc L (v0 :: S) w := j_callS (As := [v0]) hC hw hR rfl hroom hd hM (fun v w2 h => by obtain ⟨r, rfl, h⟩ := h; exact kk r w2 h)
theorem j_V1l {q : Int64 → va_W → Prop} {b : Nat} {q0 ci : Nat} {fs : List Value} {T : u_T} {N : Nat} {v0 : Value} (hC : jC p s m args meth c cc nL ret own D tys A X) (hw : jwV own idx y bytes maxL ret' 1) (hR : jroom rm R maxL) (hroom : (S.map fun v => v.category).sum ≤ 8) (hc : classes[ci]? = some (y.cls, T, N)) (he : w[q0]? = some (b, .inr (ci, fs))) (hd : decode cc pc = .ok (.invokevirtual idx, 3)) (hM : jM l y bytes maxL ret' rm D tys X (.ref b :: [v0]) w (jPl q)) (kk : ∀ (r : Int64) (w2 : va_W), q r w2 → J p l e R s m args below meth c D A nL Q (pc + 3) L (.long r :: S) w2) : J p l e R s m args below meth c D A nL Q pc L (v0 :: .ref b :: S) w := j_callV (As := [v0]) hC hw hR rfl hroom hc he hd hM (fun v w2 h => by obtain ⟨r, rfl, h⟩ := h; exact kk r w2 h)
theorem j_S1l {q : Int64 → va_W → Prop} {v0 : Value} (hC : jC p s m args meth c cc nL ret own D tys A X) (hw : jwS own idx y bytes maxL ret' 1) (hR : jroom rm R maxL) (hroom : (S.map fun v => v.category).sum ≤ 8) (hd : decode cc pc = .ok (.invokestatic idx, 3)) (hM : jM l y bytes maxL ret' rm D tys X [v0] w (jPl q)) (kk : ∀ (r : Int64) (w2 : va_W), q r w2 → J p l e R s m args below meth c D A nL Q (pc + 3) L (.long r :: S) w2) : J p l e R s m args below meth c D A nL Q pc L (v0 :: S) w := j_callS (As := [v0]) hC hw hR rfl hroom hd hM (fun v w2 h => by obtain ⟨r, rfl, h⟩ := h; exact kk r w2 h)
theorem j_V1v {q : va_W → Prop} {b : Nat} {q0 ci : Nat} {fs : List Value} {T : u_T} {N : Nat} {v0 : Value} (hC : jC p s m args meth c cc nL ret own D tys A X) (hw : jwV own idx y bytes maxL ret' 1) (hR : jroom rm R maxL) (hroom : (S.map fun v => v.category).sum ≤ 8) (hc : classes[ci]? = some (y.cls, T, N)) (he : w[q0]? = some (b, .inr (ci, fs))) (hd : decode cc pc = .ok (.invokevirtual idx, 3)) (hM : jM l y bytes maxL ret' rm D tys X (.ref b :: [v0]) w (jPv q)) (kk : ∀ (w2 : va_W), q w2 → J p l e R s m args below meth c D A nL Q (pc + 3) L S w2) : J p l e R s m args below meth c D A nL Q pc L (v0 :: .ref b :: S) w := j_callV (As := [v0]) hC hw hR rfl hroom hc he hd hM (fun v w2 h => by obtain ⟨rfl, h⟩ := h; exact kk w2 h)
theorem j_S1v {q : va_W → Prop} {v0 : Value} (hC : jC p s m args meth c cc nL ret own D tys A X) (hw : jwS own idx y bytes maxL ret' 1) (hR : jroom rm R maxL) (hroom : (S.map fun v => v.category).sum ≤ 8) (hd : decode cc pc = .ok (.invokestatic idx, 3)) (hM : jM l y bytes maxL ret' rm D tys X [v0] w (jPv q)) (kk : ∀ (w2 : va_W), q w2 → J p l e R s m args below meth c D A nL Q (pc + 3) L S w2) : J p l e R s m args below meth c D A nL Q pc L (v0 :: S) w := j_callS (As := [v0]) hC hw hR rfl hroom hd hM (fun v w2 h => by obtain ⟨rfl, h⟩ := h; exact kk w2 h)
theorem j_V2i {q : Int32 → va_W → Prop} {b : Nat} {q0 ci : Nat} {fs : List Value} {T : u_T} {N : Nat} {v0 v1 : Value} (hC : jC p s m args meth c cc nL ret own D tys A X) (hw : jwV own idx y bytes maxL ret' 2) (hR : jroom rm R maxL) (hroom : (S.map fun v => v.category).sum ≤ 8) (hc : classes[ci]? = some (y.cls, T, N)) (he : w[q0]? = some (b, .inr (ci, fs))) (hd : decode cc pc = .ok (.invokevirtual idx, 3)) (hM : jM l y bytes maxL ret' rm D tys X (.ref b :: [v0, v1]) w (jPi q)) (kk : ∀ (r : Int32) (w2 : va_W), q r w2 → J p l e R s m args below meth c D A nL Q (pc + 3) L (.int r :: S) w2) : J p l e R s m args below meth c D A nL Q pc L (v1 :: v0 :: .ref b :: S) w := j_callV (As := [v0, v1]) hC hw hR rfl hroom hc he hd hM (fun v w2 h => by obtain ⟨r, rfl, h⟩ := h; exact kk r w2 h)
theorem j_S2i {q : Int32 → va_W → Prop} {v0 v1 : Value} (hC : jC p s m args meth c cc nL ret own D tys A X) (hw : jwS own idx y bytes maxL ret' 2) (hR : jroom rm R maxL) (hroom : (S.map fun v => v.category).sum ≤ 8) (hd : decode cc pc = .ok (.invokestatic idx, 3)) (hM : jM l y bytes maxL ret' rm D tys X [v0, v1] w (jPi q)) (kk : ∀ (r : Int32) (w2 : va_W), q r w2 → J p l e R s m args below meth c D A nL Q (pc + 3) L (.int r :: S) w2) : J p l e R s m args below meth c D A nL Q pc L (v1 :: v0 :: S) w := j_callS (As := [v0, v1]) hC hw hR rfl hroom hd hM (fun v w2 h => by obtain ⟨r, rfl, h⟩ := h; exact kk r w2 h)
theorem j_V2l {q : Int64 → va_W → Prop} {b : Nat} {q0 ci : Nat} {fs : List Value} {T : u_T} {N : Nat} {v0 v1 : Value} (hC : jC p s m args meth c cc nL ret own D tys A X) (hw : jwV own idx y bytes maxL ret' 2) (hR : jroom rm R maxL) (hroom : (S.map fun v => v.category).sum ≤ 8) (hc : classes[ci]? = some (y.cls, T, N)) (he : w[q0]? = some (b, .inr (ci, fs))) (hd : decode cc pc = .ok (.invokevirtual idx, 3)) (hM : jM l y bytes maxL ret' rm D tys X (.ref b :: [v0, v1]) w (jPl q)) (kk : ∀ (r : Int64) (w2 : va_W), q r w2 → J p l e R s m args below meth c D A nL Q (pc + 3) L (.long r :: S) w2) : J p l e R s m args below meth c D A nL Q pc L (v1 :: v0 :: .ref b :: S) w := j_callV (As := [v0, v1]) hC hw hR rfl hroom hc he hd hM (fun v w2 h => by obtain ⟨r, rfl, h⟩ := h; exact kk r w2 h)
theorem j_S2l {q : Int64 → va_W → Prop} {v0 v1 : Value} (hC : jC p s m args meth c cc nL ret own D tys A X) (hw : jwS own idx y bytes maxL ret' 2) (hR : jroom rm R maxL) (hroom : (S.map fun v => v.category).sum ≤ 8) (hd : decode cc pc = .ok (.invokestatic idx, 3)) (hM : jM l y bytes maxL ret' rm D tys X [v0, v1] w (jPl q)) (kk : ∀ (r : Int64) (w2 : va_W), q r w2 → J p l e R s m args below meth c D A nL Q (pc + 3) L (.long r :: S) w2) : J p l e R s m args below meth c D A nL Q pc L (v1 :: v0 :: S) w := j_callS (As := [v0, v1]) hC hw hR rfl hroom hd hM (fun v w2 h => by obtain ⟨r, rfl, h⟩ := h; exact kk r w2 h)
theorem j_V2v {q : va_W → Prop} {b : Nat} {q0 ci : Nat} {fs : List Value} {T : u_T} {N : Nat} {v0 v1 : Value} (hC : jC p s m args meth c cc nL ret own D tys A X) (hw : jwV own idx y bytes maxL ret' 2) (hR : jroom rm R maxL) (hroom : (S.map fun v => v.category).sum ≤ 8) (hc : classes[ci]? = some (y.cls, T, N)) (he : w[q0]? = some (b, .inr (ci, fs))) (hd : decode cc pc = .ok (.invokevirtual idx, 3)) (hM : jM l y bytes maxL ret' rm D tys X (.ref b :: [v0, v1]) w (jPv q)) (kk : ∀ (w2 : va_W), q w2 → J p l e R s m args below meth c D A nL Q (pc + 3) L S w2) : J p l e R s m args below meth c D A nL Q pc L (v1 :: v0 :: .ref b :: S) w := j_callV (As := [v0, v1]) hC hw hR rfl hroom hc he hd hM (fun v w2 h => by obtain ⟨rfl, h⟩ := h; exact kk w2 h)
theorem j_S2v {q : va_W → Prop} {v0 v1 : Value} (hC : jC p s m args meth c cc nL ret own D tys A X) (hw : jwS own idx y bytes maxL ret' 2) (hR : jroom rm R maxL) (hroom : (S.map fun v => v.category).sum ≤ 8) (hd : decode cc pc = .ok (.invokestatic idx, 3)) (hM : jM l y bytes maxL ret' rm D tys X [v0, v1] w (jPv q)) (kk : ∀ (w2 : va_W), q w2 → J p l e R s m args below meth c D A nL Q (pc + 3) L S w2) : J p l e R s m args below meth c D A nL Q pc L (v1 :: v0 :: S) w := j_callS (As := [v0, v1]) hC hw hR rfl hroom hd hM (fun v w2 h => by obtain ⟨rfl, h⟩ := h; exact kk w2 h)
theorem j_V3i {q : Int32 → va_W → Prop} {b : Nat} {q0 ci : Nat} {fs : List Value} {T : u_T} {N : Nat} {v0 v1 v2 : Value} (hC : jC p s m args meth c cc nL ret own D tys A X) (hw : jwV own idx y bytes maxL ret' 3) (hR : jroom rm R maxL) (hroom : (S.map fun v => v.category).sum ≤ 8) (hc : classes[ci]? = some (y.cls, T, N)) (he : w[q0]? = some (b, .inr (ci, fs))) (hd : decode cc pc = .ok (.invokevirtual idx, 3)) (hM : jM l y bytes maxL ret' rm D tys X (.ref b :: [v0, v1, v2]) w (jPi q)) (kk : ∀ (r : Int32) (w2 : va_W), q r w2 → J p l e R s m args below meth c D A nL Q (pc + 3) L (.int r :: S) w2) : J p l e R s m args below meth c D A nL Q pc L (v2 :: v1 :: v0 :: .ref b :: S) w := j_callV (As := [v0, v1, v2]) hC hw hR rfl hroom hc he hd hM (fun v w2 h => by obtain ⟨r, rfl, h⟩ := h; exact kk r w2 h)
theorem j_S3i {q : Int32 → va_W → Prop} {v0 v1 v2 : Value} (hC : jC p s m args meth c cc nL ret own D tys A X) (hw : jwS own idx y bytes maxL ret' 3) (hR : jroom rm R maxL) (hroom : (S.map fun v => v.category).sum ≤ 8) (hd : decode cc pc = .ok (.invokestatic idx, 3)) (hM : jM l y bytes maxL ret' rm D tys X [v0, v1, v2] w (jPi q)) (kk : ∀ (r : Int32) (w2 : va_W), q r w2 → J p l e R s m args below meth c D A nL Q (pc + 3) L (.int r :: S) w2) : J p l e R s m args below meth c D A nL Q pc L (v2 :: v1 :: v0 :: S) w := j_callS (As := [v0, v1, v2]) hC hw hR rfl hroom hd hM (fun v w2 h => by obtain ⟨r, rfl, h⟩ := h; exact kk r w2 h)
theorem j_V3l {q : Int64 → va_W → Prop} {b : Nat} {q0 ci : Nat} {fs : List Value} {T : u_T} {N : Nat} {v0 v1 v2 : Value} (hC : jC p s m args meth c cc nL ret own D tys A X) (hw : jwV own idx y bytes maxL ret' 3) (hR : jroom rm R maxL) (hroom : (S.map fun v => v.category).sum ≤ 8) (hc : classes[ci]? = some (y.cls, T, N)) (he : w[q0]? = some (b, .inr (ci, fs))) (hd : decode cc pc = .ok (.invokevirtual idx, 3)) (hM : jM l y bytes maxL ret' rm D tys X (.ref b :: [v0, v1, v2]) w (jPl q)) (kk : ∀ (r : Int64) (w2 : va_W), q r w2 → J p l e R s m args below meth c D A nL Q (pc + 3) L (.long r :: S) w2) : J p l e R s m args below meth c D A nL Q pc L (v2 :: v1 :: v0 :: .ref b :: S) w := j_callV (As := [v0, v1, v2]) hC hw hR rfl hroom hc he hd hM (fun v w2 h => by obtain ⟨r, rfl, h⟩ := h; exact kk r w2 h)
theorem j_S3l {q : Int64 → va_W → Prop} {v0 v1 v2 : Value} (hC : jC p s m args meth c cc nL ret own D tys A X) (hw : jwS own idx y bytes maxL ret' 3) (hR : jroom rm R maxL) (hroom : (S.map fun v => v.category).sum ≤ 8) (hd : decode cc pc = .ok (.invokestatic idx, 3)) (hM : jM l y bytes maxL ret' rm D tys X [v0, v1, v2] w (jPl q)) (kk : ∀ (r : Int64) (w2 : va_W), q r w2 → J p l e R s m args below meth c D A nL Q (pc + 3) L (.long r :: S) w2) : J p l e R s m args below meth c D A nL Q pc L (v2 :: v1 :: v0 :: S) w := j_callS (As := [v0, v1, v2]) hC hw hR rfl hroom hd hM (fun v w2 h => by obtain ⟨r, rfl, h⟩ := h; exact kk r w2 h)
theorem j_V3v {q : va_W → Prop} {b : Nat} {q0 ci : Nat} {fs : List Value} {T : u_T} {N : Nat} {v0 v1 v2 : Value} (hC : jC p s m args meth c cc nL ret own D tys A X) (hw : jwV own idx y bytes maxL ret' 3) (hR : jroom rm R maxL) (hroom : (S.map fun v => v.category).sum ≤ 8) (hc : classes[ci]? = some (y.cls, T, N)) (he : w[q0]? = some (b, .inr (ci, fs))) (hd : decode cc pc = .ok (.invokevirtual idx, 3)) (hM : jM l y bytes maxL ret' rm D tys X (.ref b :: [v0, v1, v2]) w (jPv q)) (kk : ∀ (w2 : va_W), q w2 → J p l e R s m args below meth c D A nL Q (pc + 3) L S w2) : J p l e R s m args below meth c D A nL Q pc L (v2 :: v1 :: v0 :: .ref b :: S) w := j_callV (As := [v0, v1, v2]) hC hw hR rfl hroom hc he hd hM (fun v w2 h => by obtain ⟨rfl, h⟩ := h; exact kk w2 h)
theorem j_S3v {q : va_W → Prop} {v0 v1 v2 : Value} (hC : jC p s m args meth c cc nL ret own D tys A X) (hw : jwS own idx y bytes maxL ret' 3) (hR : jroom rm R maxL) (hroom : (S.map fun v => v.category).sum ≤ 8) (hd : decode cc pc = .ok (.invokestatic idx, 3)) (hM : jM l y bytes maxL ret' rm D tys X [v0, v1, v2] w (jPv q)) (kk : ∀ (w2 : va_W), q w2 → J p l e R s m args below meth c D A nL Q (pc + 3) L S w2) : J p l e R s m args below meth c D A nL Q pc L (v2 :: v1 :: v0 :: S) w := j_callS (As := [v0, v1, v2]) hC hw hR rfl hroom hd hM (fun v w2 h => by obtain ⟨rfl, h⟩ := h; exact kk w2 h)
theorem j_V4i {q : Int32 → va_W → Prop} {b : Nat} {q0 ci : Nat} {fs : List Value} {T : u_T} {N : Nat} {v0 v1 v2 v3 : Value} (hC : jC p s m args meth c cc nL ret own D tys A X) (hw : jwV own idx y bytes maxL ret' 4) (hR : jroom rm R maxL) (hroom : (S.map fun v => v.category).sum ≤ 8) (hc : classes[ci]? = some (y.cls, T, N)) (he : w[q0]? = some (b, .inr (ci, fs))) (hd : decode cc pc = .ok (.invokevirtual idx, 3)) (hM : jM l y bytes maxL ret' rm D tys X (.ref b :: [v0, v1, v2, v3]) w (jPi q)) (kk : ∀ (r : Int32) (w2 : va_W), q r w2 → J p l e R s m args below meth c D A nL Q (pc + 3) L (.int r :: S) w2) : J p l e R s m args below meth c D A nL Q pc L (v3 :: v2 :: v1 :: v0 :: .ref b :: S) w := j_callV (As := [v0, v1, v2, v3]) hC hw hR rfl hroom hc he hd hM (fun v w2 h => by obtain ⟨r, rfl, h⟩ := h; exact kk r w2 h)
theorem j_V4l {q : Int64 → va_W → Prop} {b : Nat} {q0 ci : Nat} {fs : List Value} {T : u_T} {N : Nat} {v0 v1 v2 v3 : Value} (hC : jC p s m args meth c cc nL ret own D tys A X) (hw : jwV own idx y bytes maxL ret' 4) (hR : jroom rm R maxL) (hroom : (S.map fun v => v.category).sum ≤ 8) (hc : classes[ci]? = some (y.cls, T, N)) (he : w[q0]? = some (b, .inr (ci, fs))) (hd : decode cc pc = .ok (.invokevirtual idx, 3)) (hM : jM l y bytes maxL ret' rm D tys X (.ref b :: [v0, v1, v2, v3]) w (jPl q)) (kk : ∀ (r : Int64) (w2 : va_W), q r w2 → J p l e R s m args below meth c D A nL Q (pc + 3) L (.long r :: S) w2) : J p l e R s m args below meth c D A nL Q pc L (v3 :: v2 :: v1 :: v0 :: .ref b :: S) w := j_callV (As := [v0, v1, v2, v3]) hC hw hR rfl hroom hc he hd hM (fun v w2 h => by obtain ⟨r, rfl, h⟩ := h; exact kk r w2 h)
theorem j_V4v {q : va_W → Prop} {b : Nat} {q0 ci : Nat} {fs : List Value} {T : u_T} {N : Nat} {v0 v1 v2 v3 : Value} (hC : jC p s m args meth c cc nL ret own D tys A X) (hw : jwV own idx y bytes maxL ret' 4) (hR : jroom rm R maxL) (hroom : (S.map fun v => v.category).sum ≤ 8) (hc : classes[ci]? = some (y.cls, T, N)) (he : w[q0]? = some (b, .inr (ci, fs))) (hd : decode cc pc = .ok (.invokevirtual idx, 3)) (hM : jM l y bytes maxL ret' rm D tys X (.ref b :: [v0, v1, v2, v3]) w (jPv q)) (kk : ∀ (w2 : va_W), q w2 → J p l e R s m args below meth c D A nL Q (pc + 3) L S w2) : J p l e R s m args below meth c D A nL Q pc L (v3 :: v2 :: v1 :: v0 :: .ref b :: S) w := j_callV (As := [v0, v1, v2, v3]) hC hw hR rfl hroom hc he hd hM (fun v w2 h => by obtain ⟨rfl, h⟩ := h; exact kk w2 h)
theorem j_V5i {q : Int32 → va_W → Prop} {b : Nat} {q0 ci : Nat} {fs : List Value} {T : u_T} {N : Nat} {v0 v1 v2 v3 v4 : Value} (hC : jC p s m args meth c cc nL ret own D tys A X) (hw : jwV own idx y bytes maxL ret' 5) (hR : jroom rm R maxL) (hroom : (S.map fun v => v.category).sum ≤ 8) (hc : classes[ci]? = some (y.cls, T, N)) (he : w[q0]? = some (b, .inr (ci, fs))) (hd : decode cc pc = .ok (.invokevirtual idx, 3)) (hM : jM l y bytes maxL ret' rm D tys X (.ref b :: [v0, v1, v2, v3, v4]) w (jPi q)) (kk : ∀ (r : Int32) (w2 : va_W), q r w2 → J p l e R s m args below meth c D A nL Q (pc + 3) L (.int r :: S) w2) : J p l e R s m args below meth c D A nL Q pc L (v4 :: v3 :: v2 :: v1 :: v0 :: .ref b :: S) w := j_callV (As := [v0, v1, v2, v3, v4]) hC hw hR rfl hroom hc he hd hM (fun v w2 h => by obtain ⟨r, rfl, h⟩ := h; exact kk r w2 h)
theorem j_V5l {q : Int64 → va_W → Prop} {b : Nat} {q0 ci : Nat} {fs : List Value} {T : u_T} {N : Nat} {v0 v1 v2 v3 v4 : Value} (hC : jC p s m args meth c cc nL ret own D tys A X) (hw : jwV own idx y bytes maxL ret' 5) (hR : jroom rm R maxL) (hroom : (S.map fun v => v.category).sum ≤ 8) (hc : classes[ci]? = some (y.cls, T, N)) (he : w[q0]? = some (b, .inr (ci, fs))) (hd : decode cc pc = .ok (.invokevirtual idx, 3)) (hM : jM l y bytes maxL ret' rm D tys X (.ref b :: [v0, v1, v2, v3, v4]) w (jPl q)) (kk : ∀ (r : Int64) (w2 : va_W), q r w2 → J p l e R s m args below meth c D A nL Q (pc + 3) L (.long r :: S) w2) : J p l e R s m args below meth c D A nL Q pc L (v4 :: v3 :: v2 :: v1 :: v0 :: .ref b :: S) w := j_callV (As := [v0, v1, v2, v3, v4]) hC hw hR rfl hroom hc he hd hM (fun v w2 h => by obtain ⟨r, rfl, h⟩ := h; exact kk r w2 h)
theorem j_V5v {q : va_W → Prop} {b : Nat} {q0 ci : Nat} {fs : List Value} {T : u_T} {N : Nat} {v0 v1 v2 v3 v4 : Value} (hC : jC p s m args meth c cc nL ret own D tys A X) (hw : jwV own idx y bytes maxL ret' 5) (hR : jroom rm R maxL) (hroom : (S.map fun v => v.category).sum ≤ 8) (hc : classes[ci]? = some (y.cls, T, N)) (he : w[q0]? = some (b, .inr (ci, fs))) (hd : decode cc pc = .ok (.invokevirtual idx, 3)) (hM : jM l y bytes maxL ret' rm D tys X (.ref b :: [v0, v1, v2, v3, v4]) w (jPv q)) (kk : ∀ (w2 : va_W), q w2 → J p l e R s m args below meth c D A nL Q (pc + 3) L S w2) : J p l e R s m args below meth c D A nL Q pc L (v4 :: v3 :: v2 :: v1 :: v0 :: .ref b :: S) w := j_callV (As := [v0, v1, v2, v3, v4]) hC hw hR rfl hroom hc he hd hM (fun v w2 h => by obtain ⟨rfl, h⟩ := h; exact kk w2 h)
end JCALL2
end
section
/-! THE WORLDS: g: the addresses, ca: the classes of the arrays -/
def wd (g : Nat → Nat) (ca : Nat → ClassId) (len ps sp ng fm df dt wg ex hg mo : Int32) (tp lb wo : Nat → Int32) : va_W := [(g 0, .inr (0, [.ref (g 1), .ref (g 2), .ref (g 3), .ref (g 4), .int len, .int ps, .int sp, .int ng, .int fm, .int df, .int dt, .int wg, .int ex])), (g 1, .inr (1, [.int 53, .int (-1074), .int 971, .long 4503599627370496, .long 9218868437227405312, .long 9221120237041090560, .long (-9223372036854775808)])), (g 2, .inr (1, [.int 24, .int (-149), .int 104, .long 8388608, .long 2139095040, .long 2143289344, .long 2147483648])), (g 3, .inr (2, [.ref (g 5), .ref (g 6), .int hg, .int mo])), (g 4, .inl (ca 0, 8192, .inl tp)), (g 5, .inl (ca 1, 155, .inl lb)), (g 6, .inl (ca 2, 67, .inl wo))]
def tyD (ca : Nat → ClassId) : List (ClassId × FieldType) := [(ca 0, .byte), (ca 1, .int), (ca 2, .int)]
def wm (g : Nat → Nat) (ca : Nat → ClassId) (td cd bi ls us dc : Int32) (pt : Int64) (ps sp en ep hn hp : Int32) (tp : Nat → Int32) (lm : Nat → Int64) (dd xd yd : Nat → Int32) : va_W := [(g 10, .inr (3, [.ref (g 11), .int td, .int cd, .int bi, .int ls, .ref (g 12), .int us, .ref (g 13), .ref (g 14), .ref (g 15), .int dc, .long pt, .int ps, .int sp])), (g 11, .inl (ca 3, 8192, .inl tp)), (g 12, .inl (ca 4, 160, .inr (.inl lm))), (g 13, .inr (4, [.ref (g 16), .int en, .int ep])), (g 14, .inr (4, [.ref (g 17), .int hn, .int hp])), (g 15, .inl (ca 5, 8192, .inl dd)), (g 16, .inl (ca 6, 1300, .inl xd)), (g 17, .inl (ca 7, 1300, .inl yd))]
def tyM (ca : Nat → ClassId) : List (ClassId × FieldType) := [(ca 3, .byte), (ca 4, .long), (ca 5, .byte), (ca 6, .byte), (ca 7, .byte)]
def rmD (d : Nat) : Room := { frames := d, cells := 0, slots := 0, locals := 40 * d }
theorem rmD_in {a b n : Nat} (h : a < b ∧ n ≤ 21) : jroom (rmD a) (rmD b) n := ⟨rfl, rfl, h.1, by show 8 + (n + 11) + 40 * a ≤ 40 * b; omega⟩
theorem ml_R_12 : Cond.fieldLink R_DecimalReader 12 "DecimalReader" "doubles" "LDecimalReader$Kind;" ∈ al_ws := by decide +kernel
theorem ml_R_18 : Cond.fieldLink R_DecimalReader 18 "DecimalReader" "floats" "LDecimalReader$Kind;" ∈ al_ws := by decide +kernel
theorem ml_R_24 : Cond.fieldLink R_DecimalReader 24 "DecimalReader" "value" "LDecimalReader$Value;" ∈ al_ws := by decide +kernel
theorem ml_R_28 : Cond.fieldLink R_DecimalReader 28 "DecimalReader" "tape" "[B" ∈ al_ws := by decide +kernel
theorem ml_R_32 : Cond.fieldLink R_DecimalReader 32 "DecimalReader" "length" "I" ∈ al_ws := by decide +kernel
theorem ml_R_68 : Cond.fieldLink R_DecimalReader 68 "DecimalReader" "form" "I" ∈ al_ws := by decide +kernel
theorem ml_R_74 : Cond.fieldLink R_DecimalReader 74 "DecimalReader$Kind" "nan" "J" ∈ al_ws := by decide +kernel
theorem ml_R_78 : Cond.fieldLink R_DecimalReader 78 "DecimalReader$Kind" "infinity" "J" ∈ al_ws := by decide +kernel
theorem ml_R_84 : Cond.fieldLink R_DecimalReader 84 "DecimalReader" "negative" "Z" ∈ al_ws := by decide +kernel
theorem ml_R_88 : Cond.fieldLink R_DecimalReader 88 "DecimalReader$Kind" "sign" "J" ∈ al_ws := by decide +kernel
theorem ml_R_114 : Cond.fieldLink R_DecimalReader 114 "DecimalReader" "at" "I" ∈ al_ws := by decide +kernel
theorem ml_R_117 : Cond.fieldLink R_DecimalReader 117 "DecimalReader" "stop" "I" ∈ al_ws := by decide +kernel
theorem ml_R_127 : Cond.fieldLink R_DecimalReader 127 "DecimalReader" "digitsFrom" "I" ∈ al_ws := by decide +kernel
theorem ml_R_134 : Cond.fieldLink R_DecimalReader 134 "DecimalReader" "wholeDigits" "I" ∈ al_ws := by decide +kernel
theorem ml_R_141 : Cond.fieldLink R_DecimalReader 141 "DecimalReader" "digitsTo" "I" ∈ al_ws := by decide +kernel
theorem ml_R_144 : Cond.fieldLink R_DecimalReader 144 "DecimalReader" "exponent" "I" ∈ al_ws := by decide +kernel
theorem ml_M_9 : Cond.fieldLink R_Model 9 "DecimalReaderModel" "tape" "[B" ∈ al_ws := by decide +kernel
theorem ml_M_13 : Cond.fieldLink R_Model 13 "DecimalReaderModel" "limbs" "[J" ∈ al_ws := by decide +kernel
theorem ml_M_20 : Cond.fieldLink R_Model 20 "DecimalReaderModel" "exact" "LDecimalReaderModel$Row;" ∈ al_ws := by decide +kernel
theorem ml_M_24 : Cond.fieldLink R_Model 24 "DecimalReaderModel" "high" "LDecimalReaderModel$Row;" ∈ al_ws := by decide +kernel
theorem ml_M_27 : Cond.fieldLink R_Model 27 "DecimalReaderModel" "digits" "[B" ∈ al_ws := by decide +kernel
theorem ml_M_30 : Cond.fieldLink R_Model 30 "DecimalReaderModel" "code" "I" ∈ al_ws := by decide +kernel
theorem ml_M_34 : Cond.fieldLink R_Model 34 "DecimalReaderModel" "taped" "I" ∈ al_ws := by decide +kernel
theorem ml_M_45 : Cond.fieldLink R_Model 45 "DecimalReaderModel" "bits" "I" ∈ al_ws := by decide +kernel
theorem ml_M_48 : Cond.fieldLink R_Model 48 "DecimalReaderModel" "least" "I" ∈ al_ws := by decide +kernel
theorem ml_M_66 : Cond.fieldLink R_Model 66 "DecimalReaderModel" "used" "I" ∈ al_ws := by decide +kernel
theorem ml_M_81 : Cond.fieldLink R_Model 81 "DecimalReaderModel$Row" "n" "I" ∈ al_ws := by decide +kernel
theorem ml_M_88 : Cond.fieldLink R_Model 88 "DecimalReaderModel$Row" "d" "[B" ∈ al_ws := by decide +kernel
theorem ml_M_91 : Cond.fieldLink R_Model 91 "DecimalReaderModel$Row" "p" "I" ∈ al_ws := by decide +kernel
theorem ml_M_94 : Cond.fieldLink R_Model 94 "DecimalReaderModel" "at" "I" ∈ al_ws := by decide +kernel
theorem ml_M_97 : Cond.fieldLink R_Model 97 "DecimalReaderModel" "stop" "I" ∈ al_ws := by decide +kernel
theorem ml_M_144 : Cond.fieldLink R_Model 144 "DecimalReaderModel" "digitCount" "I" ∈ al_ws := by decide +kernel
theorem ml_M_147 : Cond.fieldLink R_Model 147 "DecimalReaderModel" "point" "J" ∈ al_ws := by decide +kernel
theorem ml_K_7 : Cond.fieldLink R_Kind 7 "DecimalReader$Kind" "precision" "I" ∈ al_ws := by decide +kernel
theorem ml_K_13 : Cond.fieldLink R_Kind 13 "DecimalReader$Kind" "leastPower" "I" ∈ al_ws := by decide +kernel
theorem ml_K_16 : Cond.fieldLink R_Kind 16 "DecimalReader$Kind" "greatestPower" "I" ∈ al_ws := by decide +kernel
theorem ml_K_19 : Cond.fieldLink R_Kind 19 "DecimalReader$Kind" "exponentUnit" "J" ∈ al_ws := by decide +kernel
theorem ml_K_23 : Cond.fieldLink R_Kind 23 "DecimalReader$Kind" "infinity" "J" ∈ al_ws := by decide +kernel
theorem ml_K_28 : Cond.fieldLink R_Kind 28 "DecimalReader$Kind" "nan" "J" ∈ al_ws := by decide +kernel
theorem ml_K_31 : Cond.fieldLink R_Kind 31 "DecimalReader$Kind" "sign" "J" ∈ al_ws := by decide +kernel
theorem ml_V_9 : Cond.fieldLink R_Value 9 "DecimalReader$Value" "limbs" "[I" ∈ al_ws := by decide +kernel
theorem ml_V_13 : Cond.fieldLink R_Value 13 "DecimalReader$Value" "words" "[I" ∈ al_ws := by decide +kernel
theorem ml_V_16 : Cond.fieldLink R_Value 16 "DecimalReader$Value" "isHuge" "Z" ∈ al_ws := by decide +kernel
theorem ml_V_20 : Cond.fieldLink R_Value 20 "DecimalReader$Value" "hasMore" "Z" ∈ al_ws := by decide +kernel
theorem ml_V_60 : Cond.fieldLink R_Value 60 "DecimalReader$Kind" "precision" "I" ∈ al_ws := by decide +kernel
theorem ml_V_66 : Cond.fieldLink R_Value 66 "DecimalReader$Kind" "leastPower" "I" ∈ al_ws := by decide +kernel
theorem ml_V_75 : Cond.fieldLink R_Value 75 "DecimalReader$Kind" "greatestPower" "I" ∈ al_ws := by decide +kernel
theorem ml_V_78 : Cond.fieldLink R_Value 78 "DecimalReader$Kind" "infinity" "J" ∈ al_ws := by decide +kernel
theorem ml_V_91 : Cond.fieldLink R_Value 91 "DecimalReader$Kind" "exponentUnit" "J" ∈ al_ws := by decide +kernel
theorem ml_W_7 : Cond.fieldLink R_Row 7 "DecimalReaderModel$Row" "d" "[B" ∈ al_ws := by decide +kernel
theorem mk_R_147 : Cond.constant R_DecimalReader 147 (1000000) ∈ al_ws := by decide +kernel
theorem mk_M_51 : Cond.constantLong R_Model 51 (9218868437227405312) ∈ al_ws := by decide +kernel
theorem mk_M_53 : Cond.constantLong R_Model 53 (2139095040) ∈ al_ws := by decide +kernel
theorem mk_M_55 : Cond.constantLong R_Model 55 (-9223372036854775808) ∈ al_ws := by decide +kernel
theorem mk_M_57 : Cond.constantLong R_Model 57 (2147483648) ∈ al_ws := by decide +kernel
theorem mk_M_69 : Cond.constantLong R_Model 69 (1000000000) ∈ al_ws := by decide +kernel
theorem mk_M_71 : Cond.constantLong R_Model 71 (536870912) ∈ al_ws := by decide +kernel
theorem mk_M_77 : Cond.constantLong R_Model 77 (244140625) ∈ al_ws := by decide +kernel
theorem mk_M_79 : Cond.constantLong R_Model 79 (5) ∈ al_ws := by decide +kernel
theorem mk_M_84 : Cond.constantLong R_Model 84 (100000000) ∈ al_ws := by decide +kernel
theorem mk_M_86 : Cond.constantLong R_Model 86 (10) ∈ al_ws := by decide +kernel
theorem mk_M_140 : Cond.constantLong R_Model 140 (10000000) ∈ al_ws := by decide +kernel
theorem mk_M_142 : Cond.constantLong R_Model 142 (48) ∈ al_ws := by decide +kernel
theorem mk_M_151 : Cond.constantLong R_Model 151 (-1) ∈ al_ws := by decide +kernel
theorem mk_M_159 : Cond.constantLong R_Model 159 (400) ∈ al_ws := by decide +kernel
theorem mk_M_161 : Cond.constantLong R_Model 161 (-400) ∈ al_ws := by decide +kernel
theorem mk_M_163 : Cond.constantLong R_Model 163 (2) ∈ al_ws := by decide +kernel
theorem mk_M_184 : Cond.constantLong R_Model 184 (4) ∈ al_ws := by decide +kernel
theorem mk_M_193 : Cond.constantLong R_Model 193 (5000) ∈ al_ws := by decide +kernel
theorem mk_M_195 : Cond.constantLong R_Model 195 (-5000) ∈ al_ws := by decide +kernel
theorem mk_K_26 : Cond.constantLong R_Kind 26 (2) ∈ al_ws := by decide +kernel
theorem mk_V_53 : Cond.constantLong R_Value 53 (4294967295) ∈ al_ws := by decide +kernel
theorem mk_V_55 : Cond.constantLong R_Value 55 (1000000000) ∈ al_ws := by decide +kernel
theorem mk_V_82 : Cond.constantLong R_Value 82 (2) ∈ al_ws := by decide +kernel
section JW
variable {p : Program} {l : Launch} {e : Env} {R : Room} {s : State} {m : MethodId} {args : Array Value} {below : List Frame} {meth : Method} {c : Code} {D : va_G} {A : Nat → Prop} {nL : Nat} {Q : State → Prop} {pc : Nat} {L : List (Option Value)} {S : List Value} {cc : ByteArray} {ret : Option FieldType} {X : jX} {g : Nat → Nat} {ca : Nat → ClassId}
theorem jg_R_12 {len ps sp ng fm df dt wg ex hg mo : Int32} {tp lb wo : Nat → Int32} (hC : jC p s m args meth c cc nL ret R_DecimalReader D (tyD ca) A X) (hd : decode cc pc = .ok (.getfield 12, 3)) (k : J p l e R s m args below meth c D A nL Q (pc + 3) L (.ref (g 1) :: S) (wd g ca len ps sp ng fm df dt wg ex hg mo tp lb wo)) : J p l e R s m args below meth c D A nL Q pc L (.ref (g 0) :: S) (wd g ca len ps sp ng fm df dt wg ex hg mo tp lb wo) := j_get (q0 := 0) (ci := 0) hC 0 i_DecimalReader rfl rfl (by decide) ml_R_12 rfl rfl hd k
theorem jg_R_18 {len ps sp ng fm df dt wg ex hg mo : Int32} {tp lb wo : Nat → Int32} (hC : jC p s m args meth c cc nL ret R_DecimalReader D (tyD ca) A X) (hd : decode cc pc = .ok (.getfield 18, 3)) (k : J p l e R s m args below meth c D A nL Q (pc + 3) L (.ref (g 2) :: S) (wd g ca len ps sp ng fm df dt wg ex hg mo tp lb wo)) : J p l e R s m args below meth c D A nL Q pc L (.ref (g 0) :: S) (wd g ca len ps sp ng fm df dt wg ex hg mo tp lb wo) := j_get (q0 := 0) (ci := 0) hC 1 i_DecimalReader rfl rfl (by decide) ml_R_18 rfl rfl hd k
theorem jg_R_24 {len ps sp ng fm df dt wg ex hg mo : Int32} {tp lb wo : Nat → Int32} (hC : jC p s m args meth c cc nL ret R_DecimalReader D (tyD ca) A X) (hd : decode cc pc = .ok (.getfield 24, 3)) (k : J p l e R s m args below meth c D A nL Q (pc + 3) L (.ref (g 3) :: S) (wd g ca len ps sp ng fm df dt wg ex hg mo tp lb wo)) : J p l e R s m args below meth c D A nL Q pc L (.ref (g 0) :: S) (wd g ca len ps sp ng fm df dt wg ex hg mo tp lb wo) := j_get (q0 := 0) (ci := 0) hC 2 i_DecimalReader rfl rfl (by decide) ml_R_24 rfl rfl hd k
theorem jg_R_28 {len ps sp ng fm df dt wg ex hg mo : Int32} {tp lb wo : Nat → Int32} (hC : jC p s m args meth c cc nL ret R_DecimalReader D (tyD ca) A X) (hd : decode cc pc = .ok (.getfield 28, 3)) (k : J p l e R s m args below meth c D A nL Q (pc + 3) L (.ref (g 4) :: S) (wd g ca len ps sp ng fm df dt wg ex hg mo tp lb wo)) : J p l e R s m args below meth c D A nL Q pc L (.ref (g 0) :: S) (wd g ca len ps sp ng fm df dt wg ex hg mo tp lb wo) := j_get (q0 := 0) (ci := 0) hC 3 i_DecimalReader rfl rfl (by decide) ml_R_28 rfl rfl hd k
theorem jg_R_32 {len ps sp ng fm df dt wg ex hg mo : Int32} {tp lb wo : Nat → Int32} (hC : jC p s m args meth c cc nL ret R_DecimalReader D (tyD ca) A X) (hd : decode cc pc = .ok (.getfield 32, 3)) (k : J p l e R s m args below meth c D A nL Q (pc + 3) L (.int len :: S) (wd g ca len ps sp ng fm df dt wg ex hg mo tp lb wo)) : J p l e R s m args below meth c D A nL Q pc L (.ref (g 0) :: S) (wd g ca len ps sp ng fm df dt wg ex hg mo tp lb wo) := j_get (q0 := 0) (ci := 0) hC 4 i_DecimalReader rfl rfl (by decide) ml_R_32 rfl rfl hd k
theorem jp_R_32 {len ps sp ng fm df dt wg ex hg mo : Int32} {tp lb wo : Nat → Int32} {v : Int32} (hC : jC p s m args meth c cc nL ret R_DecimalReader D (tyD ca) A X) (hd : decode cc pc = .ok (.putfield 32, 3)) (k : J p l e R s m args below meth c D A nL Q (pc + 3) L S (wd g ca v ps sp ng fm df dt wg ex hg mo tp lb wo)) : J p l e R s m args below meth c D A nL Q pc L (.int v :: .ref (g 0) :: S) (wd g ca len ps sp ng fm df dt wg ex hg mo tp lb wo) := j_put (q0 := 0) (ci := 0) (ty := .int) hC 4 i_DecimalReader t_DecimalReader t_DecimalReader_ok n_DecimalReader rfl rfl (by decide) ml_R_32 rfl rfl (by decide +kernel) rfl rfl (Nat.le_of_ble_eq_true rfl) rfl hd k
theorem jg_R_68 {len ps sp ng fm df dt wg ex hg mo : Int32} {tp lb wo : Nat → Int32} (hC : jC p s m args meth c cc nL ret R_DecimalReader D (tyD ca) A X) (hd : decode cc pc = .ok (.getfield 68, 3)) (k : J p l e R s m args below meth c D A nL Q (pc + 3) L (.int fm :: S) (wd g ca len ps sp ng fm df dt wg ex hg mo tp lb wo)) : J p l e R s m args below meth c D A nL Q pc L (.ref (g 0) :: S) (wd g ca len ps sp ng fm df dt wg ex hg mo tp lb wo) := j_get (q0 := 0) (ci := 0) hC 8 i_DecimalReader rfl rfl (by decide) ml_R_68 rfl rfl hd k
theorem jp_R_68 {len ps sp ng fm df dt wg ex hg mo : Int32} {tp lb wo : Nat → Int32} {v : Int32} (hC : jC p s m args meth c cc nL ret R_DecimalReader D (tyD ca) A X) (hd : decode cc pc = .ok (.putfield 68, 3)) (k : J p l e R s m args below meth c D A nL Q (pc + 3) L S (wd g ca len ps sp ng v df dt wg ex hg mo tp lb wo)) : J p l e R s m args below meth c D A nL Q pc L (.int v :: .ref (g 0) :: S) (wd g ca len ps sp ng fm df dt wg ex hg mo tp lb wo) := j_put (q0 := 0) (ci := 0) (ty := .int) hC 8 i_DecimalReader t_DecimalReader t_DecimalReader_ok n_DecimalReader rfl rfl (by decide) ml_R_68 rfl rfl (by decide +kernel) rfl rfl (Nat.le_of_ble_eq_true rfl) rfl hd k
theorem jg_R_74d {len ps sp ng fm df dt wg ex hg mo : Int32} {tp lb wo : Nat → Int32} (hC : jC p s m args meth c cc nL ret R_DecimalReader D (tyD ca) A X) (hd : decode cc pc = .ok (.getfield 74, 3)) (k : J p l e R s m args below meth c D A nL Q (pc + 3) L (.long 9221120237041090560 :: S) (wd g ca len ps sp ng fm df dt wg ex hg mo tp lb wo)) : J p l e R s m args below meth c D A nL Q pc L (.ref (g 1) :: S) (wd g ca len ps sp ng fm df dt wg ex hg mo tp lb wo) := j_get (q0 := 1) (ci := 1) hC 5 i_Kind rfl rfl (by decide) ml_R_74 rfl rfl hd k
theorem jg_R_74f {len ps sp ng fm df dt wg ex hg mo : Int32} {tp lb wo : Nat → Int32} (hC : jC p s m args meth c cc nL ret R_DecimalReader D (tyD ca) A X) (hd : decode cc pc = .ok (.getfield 74, 3)) (k : J p l e R s m args below meth c D A nL Q (pc + 3) L (.long 2143289344 :: S) (wd g ca len ps sp ng fm df dt wg ex hg mo tp lb wo)) : J p l e R s m args below meth c D A nL Q pc L (.ref (g 2) :: S) (wd g ca len ps sp ng fm df dt wg ex hg mo tp lb wo) := j_get (q0 := 2) (ci := 1) hC 5 i_Kind rfl rfl (by decide) ml_R_74 rfl rfl hd k
theorem jg_R_78d {len ps sp ng fm df dt wg ex hg mo : Int32} {tp lb wo : Nat → Int32} (hC : jC p s m args meth c cc nL ret R_DecimalReader D (tyD ca) A X) (hd : decode cc pc = .ok (.getfield 78, 3)) (k : J p l e R s m args below meth c D A nL Q (pc + 3) L (.long 9218868437227405312 :: S) (wd g ca len ps sp ng fm df dt wg ex hg mo tp lb wo)) : J p l e R s m args below meth c D A nL Q pc L (.ref (g 1) :: S) (wd g ca len ps sp ng fm df dt wg ex hg mo tp lb wo) := j_get (q0 := 1) (ci := 1) hC 4 i_Kind rfl rfl (by decide) ml_R_78 rfl rfl hd k
theorem jg_R_78f {len ps sp ng fm df dt wg ex hg mo : Int32} {tp lb wo : Nat → Int32} (hC : jC p s m args meth c cc nL ret R_DecimalReader D (tyD ca) A X) (hd : decode cc pc = .ok (.getfield 78, 3)) (k : J p l e R s m args below meth c D A nL Q (pc + 3) L (.long 2139095040 :: S) (wd g ca len ps sp ng fm df dt wg ex hg mo tp lb wo)) : J p l e R s m args below meth c D A nL Q pc L (.ref (g 2) :: S) (wd g ca len ps sp ng fm df dt wg ex hg mo tp lb wo) := j_get (q0 := 2) (ci := 1) hC 4 i_Kind rfl rfl (by decide) ml_R_78 rfl rfl hd k
theorem jg_R_84 {len ps sp ng fm df dt wg ex hg mo : Int32} {tp lb wo : Nat → Int32} (hC : jC p s m args meth c cc nL ret R_DecimalReader D (tyD ca) A X) (hd : decode cc pc = .ok (.getfield 84, 3)) (k : J p l e R s m args below meth c D A nL Q (pc + 3) L (.int ng :: S) (wd g ca len ps sp ng fm df dt wg ex hg mo tp lb wo)) : J p l e R s m args below meth c D A nL Q pc L (.ref (g 0) :: S) (wd g ca len ps sp ng fm df dt wg ex hg mo tp lb wo) := j_get (q0 := 0) (ci := 0) hC 7 i_DecimalReader rfl rfl (by decide) ml_R_84 rfl rfl hd k
theorem jp_R_84 {len ps sp ng fm df dt wg ex hg mo : Int32} {tp lb wo : Nat → Int32} {v : Int32} (hC : jC p s m args meth c cc nL ret R_DecimalReader D (tyD ca) A X) (hz : narrow .boolean (.int v) = .int v ∧ fits .boolean (.int v) = true) (hd : decode cc pc = .ok (.putfield 84, 3)) (k : J p l e R s m args below meth c D A nL Q (pc + 3) L S (wd g ca len ps sp v fm df dt wg ex hg mo tp lb wo)) : J p l e R s m args below meth c D A nL Q pc L (.int v :: .ref (g 0) :: S) (wd g ca len ps sp ng fm df dt wg ex hg mo tp lb wo) := j_put (q0 := 0) (ci := 0) (ty := .boolean) hC 7 i_DecimalReader t_DecimalReader t_DecimalReader_ok n_DecimalReader rfl rfl (by decide) ml_R_84 rfl rfl (by decide +kernel) hz.1 hz.2 (Nat.le_of_ble_eq_true rfl) rfl hd k
theorem jg_R_88d {len ps sp ng fm df dt wg ex hg mo : Int32} {tp lb wo : Nat → Int32} (hC : jC p s m args meth c cc nL ret R_DecimalReader D (tyD ca) A X) (hd : decode cc pc = .ok (.getfield 88, 3)) (k : J p l e R s m args below meth c D A nL Q (pc + 3) L (.long (-9223372036854775808) :: S) (wd g ca len ps sp ng fm df dt wg ex hg mo tp lb wo)) : J p l e R s m args below meth c D A nL Q pc L (.ref (g 1) :: S) (wd g ca len ps sp ng fm df dt wg ex hg mo tp lb wo) := j_get (q0 := 1) (ci := 1) hC 6 i_Kind rfl rfl (by decide) ml_R_88 rfl rfl hd k
theorem jg_R_88f {len ps sp ng fm df dt wg ex hg mo : Int32} {tp lb wo : Nat → Int32} (hC : jC p s m args meth c cc nL ret R_DecimalReader D (tyD ca) A X) (hd : decode cc pc = .ok (.getfield 88, 3)) (k : J p l e R s m args below meth c D A nL Q (pc + 3) L (.long 2147483648 :: S) (wd g ca len ps sp ng fm df dt wg ex hg mo tp lb wo)) : J p l e R s m args below meth c D A nL Q pc L (.ref (g 2) :: S) (wd g ca len ps sp ng fm df dt wg ex hg mo tp lb wo) := j_get (q0 := 2) (ci := 1) hC 6 i_Kind rfl rfl (by decide) ml_R_88 rfl rfl hd k
theorem jg_R_114 {len ps sp ng fm df dt wg ex hg mo : Int32} {tp lb wo : Nat → Int32} (hC : jC p s m args meth c cc nL ret R_DecimalReader D (tyD ca) A X) (hd : decode cc pc = .ok (.getfield 114, 3)) (k : J p l e R s m args below meth c D A nL Q (pc + 3) L (.int ps :: S) (wd g ca len ps sp ng fm df dt wg ex hg mo tp lb wo)) : J p l e R s m args below meth c D A nL Q pc L (.ref (g 0) :: S) (wd g ca len ps sp ng fm df dt wg ex hg mo tp lb wo) := j_get (q0 := 0) (ci := 0) hC 5 i_DecimalReader rfl rfl (by decide) ml_R_114 rfl rfl hd k
theorem jp_R_114 {len ps sp ng fm df dt wg ex hg mo : Int32} {tp lb wo : Nat → Int32} {v : Int32} (hC : jC p s m args meth c cc nL ret R_DecimalReader D (tyD ca) A X) (hd : decode cc pc = .ok (.putfield 114, 3)) (k : J p l e R s m args below meth c D A nL Q (pc + 3) L S (wd g ca len v sp ng fm df dt wg ex hg mo tp lb wo)) : J p l e R s m args below meth c D A nL Q pc L (.int v :: .ref (g 0) :: S) (wd g ca len ps sp ng fm df dt wg ex hg mo tp lb wo) := j_put (q0 := 0) (ci := 0) (ty := .int) hC 5 i_DecimalReader t_DecimalReader t_DecimalReader_ok n_DecimalReader rfl rfl (by decide) ml_R_114 rfl rfl (by decide +kernel) rfl rfl (Nat.le_of_ble_eq_true rfl) rfl hd k
theorem jg_R_117 {len ps sp ng fm df dt wg ex hg mo : Int32} {tp lb wo : Nat → Int32} (hC : jC p s m args meth c cc nL ret R_DecimalReader D (tyD ca) A X) (hd : decode cc pc = .ok (.getfield 117, 3)) (k : J p l e R s m args below meth c D A nL Q (pc + 3) L (.int sp :: S) (wd g ca len ps sp ng fm df dt wg ex hg mo tp lb wo)) : J p l e R s m args below meth c D A nL Q pc L (.ref (g 0) :: S) (wd g ca len ps sp ng fm df dt wg ex hg mo tp lb wo) := j_get (q0 := 0) (ci := 0) hC 6 i_DecimalReader rfl rfl (by decide) ml_R_117 rfl rfl hd k
theorem jp_R_117 {len ps sp ng fm df dt wg ex hg mo : Int32} {tp lb wo : Nat → Int32} {v : Int32} (hC : jC p s m args meth c cc nL ret R_DecimalReader D (tyD ca) A X) (hd : decode cc pc = .ok (.putfield 117, 3)) (k : J p l e R s m args below meth c D A nL Q (pc + 3) L S (wd g ca len ps v ng fm df dt wg ex hg mo tp lb wo)) : J p l e R s m args below meth c D A nL Q pc L (.int v :: .ref (g 0) :: S) (wd g ca len ps sp ng fm df dt wg ex hg mo tp lb wo) := j_put (q0 := 0) (ci := 0) (ty := .int) hC 6 i_DecimalReader t_DecimalReader t_DecimalReader_ok n_DecimalReader rfl rfl (by decide) ml_R_117 rfl rfl (by decide +kernel) rfl rfl (Nat.le_of_ble_eq_true rfl) rfl hd k
theorem jg_R_127 {len ps sp ng fm df dt wg ex hg mo : Int32} {tp lb wo : Nat → Int32} (hC : jC p s m args meth c cc nL ret R_DecimalReader D (tyD ca) A X) (hd : decode cc pc = .ok (.getfield 127, 3)) (k : J p l e R s m args below meth c D A nL Q (pc + 3) L (.int df :: S) (wd g ca len ps sp ng fm df dt wg ex hg mo tp lb wo)) : J p l e R s m args below meth c D A nL Q pc L (.ref (g 0) :: S) (wd g ca len ps sp ng fm df dt wg ex hg mo tp lb wo) := j_get (q0 := 0) (ci := 0) hC 9 i_DecimalReader rfl rfl (by decide) ml_R_127 rfl rfl hd k
theorem jp_R_127 {len ps sp ng fm df dt wg ex hg mo : Int32} {tp lb wo : Nat → Int32} {v : Int32} (hC : jC p s m args meth c cc nL ret R_DecimalReader D (tyD ca) A X) (hd : decode cc pc = .ok (.putfield 127, 3)) (k : J p l e R s m args below meth c D A nL Q (pc + 3) L S (wd g ca len ps sp ng fm v dt wg ex hg mo tp lb wo)) : J p l e R s m args below meth c D A nL Q pc L (.int v :: .ref (g 0) :: S) (wd g ca len ps sp ng fm df dt wg ex hg mo tp lb wo) := j_put (q0 := 0) (ci := 0) (ty := .int) hC 9 i_DecimalReader t_DecimalReader t_DecimalReader_ok n_DecimalReader rfl rfl (by decide) ml_R_127 rfl rfl (by decide +kernel) rfl rfl (Nat.le_of_ble_eq_true rfl) rfl hd k
theorem jg_R_134 {len ps sp ng fm df dt wg ex hg mo : Int32} {tp lb wo : Nat → Int32} (hC : jC p s m args meth c cc nL ret R_DecimalReader D (tyD ca) A X) (hd : decode cc pc = .ok (.getfield 134, 3)) (k : J p l e R s m args below meth c D A nL Q (pc + 3) L (.int wg :: S) (wd g ca len ps sp ng fm df dt wg ex hg mo tp lb wo)) : J p l e R s m args below meth c D A nL Q pc L (.ref (g 0) :: S) (wd g ca len ps sp ng fm df dt wg ex hg mo tp lb wo) := j_get (q0 := 0) (ci := 0) hC 11 i_DecimalReader rfl rfl (by decide) ml_R_134 rfl rfl hd k
theorem jp_R_134 {len ps sp ng fm df dt wg ex hg mo : Int32} {tp lb wo : Nat → Int32} {v : Int32} (hC : jC p s m args meth c cc nL ret R_DecimalReader D (tyD ca) A X) (hd : decode cc pc = .ok (.putfield 134, 3)) (k : J p l e R s m args below meth c D A nL Q (pc + 3) L S (wd g ca len ps sp ng fm df dt v ex hg mo tp lb wo)) : J p l e R s m args below meth c D A nL Q pc L (.int v :: .ref (g 0) :: S) (wd g ca len ps sp ng fm df dt wg ex hg mo tp lb wo) := j_put (q0 := 0) (ci := 0) (ty := .int) hC 11 i_DecimalReader t_DecimalReader t_DecimalReader_ok n_DecimalReader rfl rfl (by decide) ml_R_134 rfl rfl (by decide +kernel) rfl rfl (Nat.le_of_ble_eq_true rfl) rfl hd k
theorem jg_R_141 {len ps sp ng fm df dt wg ex hg mo : Int32} {tp lb wo : Nat → Int32} (hC : jC p s m args meth c cc nL ret R_DecimalReader D (tyD ca) A X) (hd : decode cc pc = .ok (.getfield 141, 3)) (k : J p l e R s m args below meth c D A nL Q (pc + 3) L (.int dt :: S) (wd g ca len ps sp ng fm df dt wg ex hg mo tp lb wo)) : J p l e R s m args below meth c D A nL Q pc L (.ref (g 0) :: S) (wd g ca len ps sp ng fm df dt wg ex hg mo tp lb wo) := j_get (q0 := 0) (ci := 0) hC 10 i_DecimalReader rfl rfl (by decide) ml_R_141 rfl rfl hd k
theorem jp_R_141 {len ps sp ng fm df dt wg ex hg mo : Int32} {tp lb wo : Nat → Int32} {v : Int32} (hC : jC p s m args meth c cc nL ret R_DecimalReader D (tyD ca) A X) (hd : decode cc pc = .ok (.putfield 141, 3)) (k : J p l e R s m args below meth c D A nL Q (pc + 3) L S (wd g ca len ps sp ng fm df v wg ex hg mo tp lb wo)) : J p l e R s m args below meth c D A nL Q pc L (.int v :: .ref (g 0) :: S) (wd g ca len ps sp ng fm df dt wg ex hg mo tp lb wo) := j_put (q0 := 0) (ci := 0) (ty := .int) hC 10 i_DecimalReader t_DecimalReader t_DecimalReader_ok n_DecimalReader rfl rfl (by decide) ml_R_141 rfl rfl (by decide +kernel) rfl rfl (Nat.le_of_ble_eq_true rfl) rfl hd k
theorem jg_R_144 {len ps sp ng fm df dt wg ex hg mo : Int32} {tp lb wo : Nat → Int32} (hC : jC p s m args meth c cc nL ret R_DecimalReader D (tyD ca) A X) (hd : decode cc pc = .ok (.getfield 144, 3)) (k : J p l e R s m args below meth c D A nL Q (pc + 3) L (.int ex :: S) (wd g ca len ps sp ng fm df dt wg ex hg mo tp lb wo)) : J p l e R s m args below meth c D A nL Q pc L (.ref (g 0) :: S) (wd g ca len ps sp ng fm df dt wg ex hg mo tp lb wo) := j_get (q0 := 0) (ci := 0) hC 12 i_DecimalReader rfl rfl (by decide) ml_R_144 rfl rfl hd k
theorem jp_R_144 {len ps sp ng fm df dt wg ex hg mo : Int32} {tp lb wo : Nat → Int32} {v : Int32} (hC : jC p s m args meth c cc nL ret R_DecimalReader D (tyD ca) A X) (hd : decode cc pc = .ok (.putfield 144, 3)) (k : J p l e R s m args below meth c D A nL Q (pc + 3) L S (wd g ca len ps sp ng fm df dt wg v hg mo tp lb wo)) : J p l e R s m args below meth c D A nL Q pc L (.int v :: .ref (g 0) :: S) (wd g ca len ps sp ng fm df dt wg ex hg mo tp lb wo) := j_put (q0 := 0) (ci := 0) (ty := .int) hC 12 i_DecimalReader t_DecimalReader t_DecimalReader_ok n_DecimalReader rfl rfl (by decide) ml_R_144 rfl rfl (by decide +kernel) rfl rfl (Nat.le_of_ble_eq_true rfl) rfl hd k
theorem jg_M_9 {td cd bi ls us dc : Int32} {pt : Int64} {ps sp en ep hn hp : Int32} {tp : Nat → Int32} {lm : Nat → Int64} {dd xd yd : Nat → Int32} (hC : jC p s m args meth c cc nL ret R_Model D (tyM ca) A X) (hd : decode cc pc = .ok (.getfield 9, 3)) (k : J p l e R s m args below meth c D A nL Q (pc + 3) L (.ref (g 11) :: S) (wm g ca td cd bi ls us dc pt ps sp en ep hn hp tp lm dd xd yd)) : J p l e R s m args below meth c D A nL Q pc L (.ref (g 10) :: S) (wm g ca td cd bi ls us dc pt ps sp en ep hn hp tp lm dd xd yd) := j_get (q0 := 0) (ci := 3) hC 0 i_Model rfl rfl (by decide) ml_M_9 rfl rfl hd k
theorem jg_M_13 {td cd bi ls us dc : Int32} {pt : Int64} {ps sp en ep hn hp : Int32} {tp : Nat → Int32} {lm : Nat → Int64} {dd xd yd : Nat → Int32} (hC : jC p s m args meth c cc nL ret R_Model D (tyM ca) A X) (hd : decode cc pc = .ok (.getfield 13, 3)) (k : J p l e R s m args below meth c D A nL Q (pc + 3) L (.ref (g 12) :: S) (wm g ca td cd bi ls us dc pt ps sp en ep hn hp tp lm dd xd yd)) : J p l e R s m args below meth c D A nL Q pc L (.ref (g 10) :: S) (wm g ca td cd bi ls us dc pt ps sp en ep hn hp tp lm dd xd yd) := j_get (q0 := 0) (ci := 3) hC 5 i_Model rfl rfl (by decide) ml_M_13 rfl rfl hd k
theorem jg_M_20 {td cd bi ls us dc : Int32} {pt : Int64} {ps sp en ep hn hp : Int32} {tp : Nat → Int32} {lm : Nat → Int64} {dd xd yd : Nat → Int32} (hC : jC p s m args meth c cc nL ret R_Model D (tyM ca) A X) (hd : decode cc pc = .ok (.getfield 20, 3)) (k : J p l e R s m args below meth c D A nL Q (pc + 3) L (.ref (g 13) :: S) (wm g ca td cd bi ls us dc pt ps sp en ep hn hp tp lm dd xd yd)) : J p l e R s m args below meth c D A nL Q pc L (.ref (g 10) :: S) (wm g ca td cd bi ls us dc pt ps sp en ep hn hp tp lm dd xd yd) := j_get (q0 := 0) (ci := 3) hC 7 i_Model rfl rfl (by decide) ml_M_20 rfl rfl hd k
theorem jg_M_24 {td cd bi ls us dc : Int32} {pt : Int64} {ps sp en ep hn hp : Int32} {tp : Nat → Int32} {lm : Nat → Int64} {dd xd yd : Nat → Int32} (hC : jC p s m args meth c cc nL ret R_Model D (tyM ca) A X) (hd : decode cc pc = .ok (.getfield 24, 3)) (k : J p l e R s m args below meth c D A nL Q (pc + 3) L (.ref (g 14) :: S) (wm g ca td cd bi ls us dc pt ps sp en ep hn hp tp lm dd xd yd)) : J p l e R s m args below meth c D A nL Q pc L (.ref (g 10) :: S) (wm g ca td cd bi ls us dc pt ps sp en ep hn hp tp lm dd xd yd) := j_get (q0 := 0) (ci := 3) hC 8 i_Model rfl rfl (by decide) ml_M_24 rfl rfl hd k
theorem jg_M_27 {td cd bi ls us dc : Int32} {pt : Int64} {ps sp en ep hn hp : Int32} {tp : Nat → Int32} {lm : Nat → Int64} {dd xd yd : Nat → Int32} (hC : jC p s m args meth c cc nL ret R_Model D (tyM ca) A X) (hd : decode cc pc = .ok (.getfield 27, 3)) (k : J p l e R s m args below meth c D A nL Q (pc + 3) L (.ref (g 15) :: S) (wm g ca td cd bi ls us dc pt ps sp en ep hn hp tp lm dd xd yd)) : J p l e R s m args below meth c D A nL Q pc L (.ref (g 10) :: S) (wm g ca td cd bi ls us dc pt ps sp en ep hn hp tp lm dd xd yd) := j_get (q0 := 0) (ci := 3) hC 9 i_Model rfl rfl (by decide) ml_M_27 rfl rfl hd k
theorem jg_M_30 {td cd bi ls us dc : Int32} {pt : Int64} {ps sp en ep hn hp : Int32} {tp : Nat → Int32} {lm : Nat → Int64} {dd xd yd : Nat → Int32} (hC : jC p s m args meth c cc nL ret R_Model D (tyM ca) A X) (hd : decode cc pc = .ok (.getfield 30, 3)) (k : J p l e R s m args below meth c D A nL Q (pc + 3) L (.int cd :: S) (wm g ca td cd bi ls us dc pt ps sp en ep hn hp tp lm dd xd yd)) : J p l e R s m args below meth c D A nL Q pc L (.ref (g 10) :: S) (wm g ca td cd bi ls us dc pt ps sp en ep hn hp tp lm dd xd yd) := j_get (q0 := 0) (ci := 3) hC 2 i_Model rfl rfl (by decide) ml_M_30 rfl rfl hd k
theorem jp_M_30 {td cd bi ls us dc : Int32} {pt : Int64} {ps sp en ep hn hp : Int32} {tp : Nat → Int32} {lm : Nat → Int64} {dd xd yd : Nat → Int32} {v : Int32} (hC : jC p s m args meth c cc nL ret R_Model D (tyM ca) A X) (hd : decode cc pc = .ok (.putfield 30, 3)) (k : J p l e R s m args below meth c D A nL Q (pc + 3) L S (wm g ca td v bi ls us dc pt ps sp en ep hn hp tp lm dd xd yd)) : J p l e R s m args below meth c D A nL Q pc L (.int v :: .ref (g 10) :: S) (wm g ca td cd bi ls us dc pt ps sp en ep hn hp tp lm dd xd yd) := j_put (q0 := 0) (ci := 3) (ty := .int) hC 2 i_Model t_Model t_Model_ok n_Model rfl rfl (by decide) ml_M_30 rfl rfl (by decide +kernel) rfl rfl (Nat.le_of_ble_eq_true rfl) rfl hd k
theorem jg_M_34 {td cd bi ls us dc : Int32} {pt : Int64} {ps sp en ep hn hp : Int32} {tp : Nat → Int32} {lm : Nat → Int64} {dd xd yd : Nat → Int32} (hC : jC p s m args meth c cc nL ret R_Model D (tyM ca) A X) (hd : decode cc pc = .ok (.getfield 34, 3)) (k : J p l e R s m args below meth c D A nL Q (pc + 3) L (.int td :: S) (wm g ca td cd bi ls us dc pt ps sp en ep hn hp tp lm dd xd yd)) : J p l e R s m args below meth c D A nL Q pc L (.ref (g 10) :: S) (wm g ca td cd bi ls us dc pt ps sp en ep hn hp tp lm dd xd yd) := j_get (q0 := 0) (ci := 3) hC 1 i_Model rfl rfl (by decide) ml_M_34 rfl rfl hd k
theorem jp_M_34 {td cd bi ls us dc : Int32} {pt : Int64} {ps sp en ep hn hp : Int32} {tp : Nat → Int32} {lm : Nat → Int64} {dd xd yd : Nat → Int32} {v : Int32} (hC : jC p s m args meth c cc nL ret R_Model D (tyM ca) A X) (hd : decode cc pc = .ok (.putfield 34, 3)) (k : J p l e R s m args below meth c D A nL Q (pc + 3) L S (wm g ca v cd bi ls us dc pt ps sp en ep hn hp tp lm dd xd yd)) : J p l e R s m args below meth c D A nL Q pc L (.int v :: .ref (g 10) :: S) (wm g ca td cd bi ls us dc pt ps sp en ep hn hp tp lm dd xd yd) := j_put (q0 := 0) (ci := 3) (ty := .int) hC 1 i_Model t_Model t_Model_ok n_Model rfl rfl (by decide) ml_M_34 rfl rfl (by decide +kernel) rfl rfl (Nat.le_of_ble_eq_true rfl) rfl hd k
theorem jg_M_45 {td cd bi ls us dc : Int32} {pt : Int64} {ps sp en ep hn hp : Int32} {tp : Nat → Int32} {lm : Nat → Int64} {dd xd yd : Nat → Int32} (hC : jC p s m args meth c cc nL ret R_Model D (tyM ca) A X) (hd : decode cc pc = .ok (.getfield 45, 3)) (k : J p l e R s m args below meth c D A nL Q (pc + 3) L (.int bi :: S) (wm g ca td cd bi ls us dc pt ps sp en ep hn hp tp lm dd xd yd)) : J p l e R s m args below meth c D A nL Q pc L (.ref (g 10) :: S) (wm g ca td cd bi ls us dc pt ps sp en ep hn hp tp lm dd xd yd) := j_get (q0 := 0) (ci := 3) hC 3 i_Model rfl rfl (by decide) ml_M_45 rfl rfl hd k
theorem jp_M_45 {td cd bi ls us dc : Int32} {pt : Int64} {ps sp en ep hn hp : Int32} {tp : Nat → Int32} {lm : Nat → Int64} {dd xd yd : Nat → Int32} {v : Int32} (hC : jC p s m args meth c cc nL ret R_Model D (tyM ca) A X) (hd : decode cc pc = .ok (.putfield 45, 3)) (k : J p l e R s m args below meth c D A nL Q (pc + 3) L S (wm g ca td cd v ls us dc pt ps sp en ep hn hp tp lm dd xd yd)) : J p l e R s m args below meth c D A nL Q pc L (.int v :: .ref (g 10) :: S) (wm g ca td cd bi ls us dc pt ps sp en ep hn hp tp lm dd xd yd) := j_put (q0 := 0) (ci := 3) (ty := .int) hC 3 i_Model t_Model t_Model_ok n_Model rfl rfl (by decide) ml_M_45 rfl rfl (by decide +kernel) rfl rfl (Nat.le_of_ble_eq_true rfl) rfl hd k
theorem jg_M_48 {td cd bi ls us dc : Int32} {pt : Int64} {ps sp en ep hn hp : Int32} {tp : Nat → Int32} {lm : Nat → Int64} {dd xd yd : Nat → Int32} (hC : jC p s m args meth c cc nL ret R_Model D (tyM ca) A X) (hd : decode cc pc = .ok (.getfield 48, 3)) (k : J p l e R s m args below meth c D A nL Q (pc + 3) L (.int ls :: S) (wm g ca td cd bi ls us dc pt ps sp en ep hn hp tp lm dd xd yd)) : J p l e R s m args below meth c D A nL Q pc L (.ref (g 10) :: S) (wm g ca td cd bi ls us dc pt ps sp en ep hn hp tp lm dd xd yd) := j_get (q0 := 0) (ci := 3) hC 4 i_Model rfl rfl (by decide) ml_M_48 rfl rfl hd k
theorem jp_M_48 {td cd bi ls us dc : Int32} {pt : Int64} {ps sp en ep hn hp : Int32} {tp : Nat → Int32} {lm : Nat → Int64} {dd xd yd : Nat → Int32} {v : Int32} (hC : jC p s m args meth c cc nL ret R_Model D (tyM ca) A X) (hd : decode cc pc = .ok (.putfield 48, 3)) (k : J p l e R s m args below meth c D A nL Q (pc + 3) L S (wm g ca td cd bi v us dc pt ps sp en ep hn hp tp lm dd xd yd)) : J p l e R s m args below meth c D A nL Q pc L (.int v :: .ref (g 10) :: S) (wm g ca td cd bi ls us dc pt ps sp en ep hn hp tp lm dd xd yd) := j_put (q0 := 0) (ci := 3) (ty := .int) hC 4 i_Model t_Model t_Model_ok n_Model rfl rfl (by decide) ml_M_48 rfl rfl (by decide +kernel) rfl rfl (Nat.le_of_ble_eq_true rfl) rfl hd k
theorem jg_M_66 {td cd bi ls us dc : Int32} {pt : Int64} {ps sp en ep hn hp : Int32} {tp : Nat → Int32} {lm : Nat → Int64} {dd xd yd : Nat → Int32} (hC : jC p s m args meth c cc nL ret R_Model D (tyM ca) A X) (hd : decode cc pc = .ok (.getfield 66, 3)) (k : J p l e R s m args below meth c D A nL Q (pc + 3) L (.int us :: S) (wm g ca td cd bi ls us dc pt ps sp en ep hn hp tp lm dd xd yd)) : J p l e R s m args below meth c D A nL Q pc L (.ref (g 10) :: S) (wm g ca td cd bi ls us dc pt ps sp en ep hn hp tp lm dd xd yd) := j_get (q0 := 0) (ci := 3) hC 6 i_Model rfl rfl (by decide) ml_M_66 rfl rfl hd k
theorem jp_M_66 {td cd bi ls us dc : Int32} {pt : Int64} {ps sp en ep hn hp : Int32} {tp : Nat → Int32} {lm : Nat → Int64} {dd xd yd : Nat → Int32} {v : Int32} (hC : jC p s m args meth c cc nL ret R_Model D (tyM ca) A X) (hd : decode cc pc = .ok (.putfield 66, 3)) (k : J p l e R s m args below meth c D A nL Q (pc + 3) L S (wm g ca td cd bi ls v dc pt ps sp en ep hn hp tp lm dd xd yd)) : J p l e R s m args below meth c D A nL Q pc L (.int v :: .ref (g 10) :: S) (wm g ca td cd bi ls us dc pt ps sp en ep hn hp tp lm dd xd yd) := j_put (q0 := 0) (ci := 3) (ty := .int) hC 6 i_Model t_Model t_Model_ok n_Model rfl rfl (by decide) ml_M_66 rfl rfl (by decide +kernel) rfl rfl (Nat.le_of_ble_eq_true rfl) rfl hd k
theorem jg_M_81e {td cd bi ls us dc : Int32} {pt : Int64} {ps sp en ep hn hp : Int32} {tp : Nat → Int32} {lm : Nat → Int64} {dd xd yd : Nat → Int32} (hC : jC p s m args meth c cc nL ret R_Model D (tyM ca) A X) (hd : decode cc pc = .ok (.getfield 81, 3)) (k : J p l e R s m args below meth c D A nL Q (pc + 3) L (.int en :: S) (wm g ca td cd bi ls us dc pt ps sp en ep hn hp tp lm dd xd yd)) : J p l e R s m args below meth c D A nL Q pc L (.ref (g 13) :: S) (wm g ca td cd bi ls us dc pt ps sp en ep hn hp tp lm dd xd yd) := j_get (q0 := 3) (ci := 4) hC 1 i_Row rfl rfl (by decide) ml_M_81 rfl rfl hd k
theorem jp_M_81e {td cd bi ls us dc : Int32} {pt : Int64} {ps sp en ep hn hp : Int32} {tp : Nat → Int32} {lm : Nat → Int64} {dd xd yd : Nat → Int32} {v : Int32} (hC : jC p s m args meth c cc nL ret R_Model D (tyM ca) A X) (hd : decode cc pc = .ok (.putfield 81, 3)) (k : J p l e R s m args below meth c D A nL Q (pc + 3) L S (wm g ca td cd bi ls us dc pt ps sp v ep hn hp tp lm dd xd yd)) : J p l e R s m args below meth c D A nL Q pc L (.int v :: .ref (g 13) :: S) (wm g ca td cd bi ls us dc pt ps sp en ep hn hp tp lm dd xd yd) := j_put (q0 := 3) (ci := 4) (ty := .int) hC 1 i_Row t_Row t_Row_ok n_Row rfl rfl (by decide) ml_M_81 rfl rfl (by decide +kernel) rfl rfl (Nat.le_of_ble_eq_true rfl) rfl hd k
theorem jg_M_81h {td cd bi ls us dc : Int32} {pt : Int64} {ps sp en ep hn hp : Int32} {tp : Nat → Int32} {lm : Nat → Int64} {dd xd yd : Nat → Int32} (hC : jC p s m args meth c cc nL ret R_Model D (tyM ca) A X) (hd : decode cc pc = .ok (.getfield 81, 3)) (k : J p l e R s m args below meth c D A nL Q (pc + 3) L (.int hn :: S) (wm g ca td cd bi ls us dc pt ps sp en ep hn hp tp lm dd xd yd)) : J p l e R s m args below meth c D A nL Q pc L (.ref (g 14) :: S) (wm g ca td cd bi ls us dc pt ps sp en ep hn hp tp lm dd xd yd) := j_get (q0 := 4) (ci := 4) hC 1 i_Row rfl rfl (by decide) ml_M_81 rfl rfl hd k
theorem jp_M_81h {td cd bi ls us dc : Int32} {pt : Int64} {ps sp en ep hn hp : Int32} {tp : Nat → Int32} {lm : Nat → Int64} {dd xd yd : Nat → Int32} {v : Int32} (hC : jC p s m args meth c cc nL ret R_Model D (tyM ca) A X) (hd : decode cc pc = .ok (.putfield 81, 3)) (k : J p l e R s m args below meth c D A nL Q (pc + 3) L S (wm g ca td cd bi ls us dc pt ps sp en ep v hp tp lm dd xd yd)) : J p l e R s m args below meth c D A nL Q pc L (.int v :: .ref (g 14) :: S) (wm g ca td cd bi ls us dc pt ps sp en ep hn hp tp lm dd xd yd) := j_put (q0 := 4) (ci := 4) (ty := .int) hC 1 i_Row t_Row t_Row_ok n_Row rfl rfl (by decide) ml_M_81 rfl rfl (by decide +kernel) rfl rfl (Nat.le_of_ble_eq_true rfl) rfl hd k
theorem jg_M_88e {td cd bi ls us dc : Int32} {pt : Int64} {ps sp en ep hn hp : Int32} {tp : Nat → Int32} {lm : Nat → Int64} {dd xd yd : Nat → Int32} (hC : jC p s m args meth c cc nL ret R_Model D (tyM ca) A X) (hd : decode cc pc = .ok (.getfield 88, 3)) (k : J p l e R s m args below meth c D A nL Q (pc + 3) L (.ref (g 16) :: S) (wm g ca td cd bi ls us dc pt ps sp en ep hn hp tp lm dd xd yd)) : J p l e R s m args below meth c D A nL Q pc L (.ref (g 13) :: S) (wm g ca td cd bi ls us dc pt ps sp en ep hn hp tp lm dd xd yd) := j_get (q0 := 3) (ci := 4) hC 0 i_Row rfl rfl (by decide) ml_M_88 rfl rfl hd k
theorem jg_M_88h {td cd bi ls us dc : Int32} {pt : Int64} {ps sp en ep hn hp : Int32} {tp : Nat → Int32} {lm : Nat → Int64} {dd xd yd : Nat → Int32} (hC : jC p s m args meth c cc nL ret R_Model D (tyM ca) A X) (hd : decode cc pc = .ok (.getfield 88, 3)) (k : J p l e R s m args below meth c D A nL Q (pc + 3) L (.ref (g 17) :: S) (wm g ca td cd bi ls us dc pt ps sp en ep hn hp tp lm dd xd yd)) : J p l e R s m args below meth c D A nL Q pc L (.ref (g 14) :: S) (wm g ca td cd bi ls us dc pt ps sp en ep hn hp tp lm dd xd yd) := j_get (q0 := 4) (ci := 4) hC 0 i_Row rfl rfl (by decide) ml_M_88 rfl rfl hd k
theorem jg_M_91e {td cd bi ls us dc : Int32} {pt : Int64} {ps sp en ep hn hp : Int32} {tp : Nat → Int32} {lm : Nat → Int64} {dd xd yd : Nat → Int32} (hC : jC p s m args meth c cc nL ret R_Model D (tyM ca) A X) (hd : decode cc pc = .ok (.getfield 91, 3)) (k : J p l e R s m args below meth c D A nL Q (pc + 3) L (.int ep :: S) (wm g ca td cd bi ls us dc pt ps sp en ep hn hp tp lm dd xd yd)) : J p l e R s m args below meth c D A nL Q pc L (.ref (g 13) :: S) (wm g ca td cd bi ls us dc pt ps sp en ep hn hp tp lm dd xd yd) := j_get (q0 := 3) (ci := 4) hC 2 i_Row rfl rfl (by decide) ml_M_91 rfl rfl hd k
theorem jp_M_91e {td cd bi ls us dc : Int32} {pt : Int64} {ps sp en ep hn hp : Int32} {tp : Nat → Int32} {lm : Nat → Int64} {dd xd yd : Nat → Int32} {v : Int32} (hC : jC p s m args meth c cc nL ret R_Model D (tyM ca) A X) (hd : decode cc pc = .ok (.putfield 91, 3)) (k : J p l e R s m args below meth c D A nL Q (pc + 3) L S (wm g ca td cd bi ls us dc pt ps sp en v hn hp tp lm dd xd yd)) : J p l e R s m args below meth c D A nL Q pc L (.int v :: .ref (g 13) :: S) (wm g ca td cd bi ls us dc pt ps sp en ep hn hp tp lm dd xd yd) := j_put (q0 := 3) (ci := 4) (ty := .int) hC 2 i_Row t_Row t_Row_ok n_Row rfl rfl (by decide) ml_M_91 rfl rfl (by decide +kernel) rfl rfl (Nat.le_of_ble_eq_true rfl) rfl hd k
theorem jg_M_91h {td cd bi ls us dc : Int32} {pt : Int64} {ps sp en ep hn hp : Int32} {tp : Nat → Int32} {lm : Nat → Int64} {dd xd yd : Nat → Int32} (hC : jC p s m args meth c cc nL ret R_Model D (tyM ca) A X) (hd : decode cc pc = .ok (.getfield 91, 3)) (k : J p l e R s m args below meth c D A nL Q (pc + 3) L (.int hp :: S) (wm g ca td cd bi ls us dc pt ps sp en ep hn hp tp lm dd xd yd)) : J p l e R s m args below meth c D A nL Q pc L (.ref (g 14) :: S) (wm g ca td cd bi ls us dc pt ps sp en ep hn hp tp lm dd xd yd) := j_get (q0 := 4) (ci := 4) hC 2 i_Row rfl rfl (by decide) ml_M_91 rfl rfl hd k
theorem jp_M_91h {td cd bi ls us dc : Int32} {pt : Int64} {ps sp en ep hn hp : Int32} {tp : Nat → Int32} {lm : Nat → Int64} {dd xd yd : Nat → Int32} {v : Int32} (hC : jC p s m args meth c cc nL ret R_Model D (tyM ca) A X) (hd : decode cc pc = .ok (.putfield 91, 3)) (k : J p l e R s m args below meth c D A nL Q (pc + 3) L S (wm g ca td cd bi ls us dc pt ps sp en ep hn v tp lm dd xd yd)) : J p l e R s m args below meth c D A nL Q pc L (.int v :: .ref (g 14) :: S) (wm g ca td cd bi ls us dc pt ps sp en ep hn hp tp lm dd xd yd) := j_put (q0 := 4) (ci := 4) (ty := .int) hC 2 i_Row t_Row t_Row_ok n_Row rfl rfl (by decide) ml_M_91 rfl rfl (by decide +kernel) rfl rfl (Nat.le_of_ble_eq_true rfl) rfl hd k
theorem jg_M_94 {td cd bi ls us dc : Int32} {pt : Int64} {ps sp en ep hn hp : Int32} {tp : Nat → Int32} {lm : Nat → Int64} {dd xd yd : Nat → Int32} (hC : jC p s m args meth c cc nL ret R_Model D (tyM ca) A X) (hd : decode cc pc = .ok (.getfield 94, 3)) (k : J p l e R s m args below meth c D A nL Q (pc + 3) L (.int ps :: S) (wm g ca td cd bi ls us dc pt ps sp en ep hn hp tp lm dd xd yd)) : J p l e R s m args below meth c D A nL Q pc L (.ref (g 10) :: S) (wm g ca td cd bi ls us dc pt ps sp en ep hn hp tp lm dd xd yd) := j_get (q0 := 0) (ci := 3) hC 12 i_Model rfl rfl (by decide) ml_M_94 rfl rfl hd k
theorem jp_M_94 {td cd bi ls us dc : Int32} {pt : Int64} {ps sp en ep hn hp : Int32} {tp : Nat → Int32} {lm : Nat → Int64} {dd xd yd : Nat → Int32} {v : Int32} (hC : jC p s m args meth c cc nL ret R_Model D (tyM ca) A X) (hd : decode cc pc = .ok (.putfield 94, 3)) (k : J p l e R s m args below meth c D A nL Q (pc + 3) L S (wm g ca td cd bi ls us dc pt v sp en ep hn hp tp lm dd xd yd)) : J p l e R s m args below meth c D A nL Q pc L (.int v :: .ref (g 10) :: S) (wm g ca td cd bi ls us dc pt ps sp en ep hn hp tp lm dd xd yd) := j_put (q0 := 0) (ci := 3) (ty := .int) hC 12 i_Model t_Model t_Model_ok n_Model rfl rfl (by decide) ml_M_94 rfl rfl (by decide +kernel) rfl rfl (Nat.le_of_ble_eq_true rfl) rfl hd k
theorem jg_M_97 {td cd bi ls us dc : Int32} {pt : Int64} {ps sp en ep hn hp : Int32} {tp : Nat → Int32} {lm : Nat → Int64} {dd xd yd : Nat → Int32} (hC : jC p s m args meth c cc nL ret R_Model D (tyM ca) A X) (hd : decode cc pc = .ok (.getfield 97, 3)) (k : J p l e R s m args below meth c D A nL Q (pc + 3) L (.int sp :: S) (wm g ca td cd bi ls us dc pt ps sp en ep hn hp tp lm dd xd yd)) : J p l e R s m args below meth c D A nL Q pc L (.ref (g 10) :: S) (wm g ca td cd bi ls us dc pt ps sp en ep hn hp tp lm dd xd yd) := j_get (q0 := 0) (ci := 3) hC 13 i_Model rfl rfl (by decide) ml_M_97 rfl rfl hd k
theorem jp_M_97 {td cd bi ls us dc : Int32} {pt : Int64} {ps sp en ep hn hp : Int32} {tp : Nat → Int32} {lm : Nat → Int64} {dd xd yd : Nat → Int32} {v : Int32} (hC : jC p s m args meth c cc nL ret R_Model D (tyM ca) A X) (hd : decode cc pc = .ok (.putfield 97, 3)) (k : J p l e R s m args below meth c D A nL Q (pc + 3) L S (wm g ca td cd bi ls us dc pt ps v en ep hn hp tp lm dd xd yd)) : J p l e R s m args below meth c D A nL Q pc L (.int v :: .ref (g 10) :: S) (wm g ca td cd bi ls us dc pt ps sp en ep hn hp tp lm dd xd yd) := j_put (q0 := 0) (ci := 3) (ty := .int) hC 13 i_Model t_Model t_Model_ok n_Model rfl rfl (by decide) ml_M_97 rfl rfl (by decide +kernel) rfl rfl (Nat.le_of_ble_eq_true rfl) rfl hd k
theorem jg_M_144 {td cd bi ls us dc : Int32} {pt : Int64} {ps sp en ep hn hp : Int32} {tp : Nat → Int32} {lm : Nat → Int64} {dd xd yd : Nat → Int32} (hC : jC p s m args meth c cc nL ret R_Model D (tyM ca) A X) (hd : decode cc pc = .ok (.getfield 144, 3)) (k : J p l e R s m args below meth c D A nL Q (pc + 3) L (.int dc :: S) (wm g ca td cd bi ls us dc pt ps sp en ep hn hp tp lm dd xd yd)) : J p l e R s m args below meth c D A nL Q pc L (.ref (g 10) :: S) (wm g ca td cd bi ls us dc pt ps sp en ep hn hp tp lm dd xd yd) := j_get (q0 := 0) (ci := 3) hC 10 i_Model rfl rfl (by decide) ml_M_144 rfl rfl hd k
theorem jp_M_144 {td cd bi ls us dc : Int32} {pt : Int64} {ps sp en ep hn hp : Int32} {tp : Nat → Int32} {lm : Nat → Int64} {dd xd yd : Nat → Int32} {v : Int32} (hC : jC p s m args meth c cc nL ret R_Model D (tyM ca) A X) (hd : decode cc pc = .ok (.putfield 144, 3)) (k : J p l e R s m args below meth c D A nL Q (pc + 3) L S (wm g ca td cd bi ls us v pt ps sp en ep hn hp tp lm dd xd yd)) : J p l e R s m args below meth c D A nL Q pc L (.int v :: .ref (g 10) :: S) (wm g ca td cd bi ls us dc pt ps sp en ep hn hp tp lm dd xd yd) := j_put (q0 := 0) (ci := 3) (ty := .int) hC 10 i_Model t_Model t_Model_ok n_Model rfl rfl (by decide) ml_M_144 rfl rfl (by decide +kernel) rfl rfl (Nat.le_of_ble_eq_true rfl) rfl hd k
theorem jg_M_147 {td cd bi ls us dc : Int32} {pt : Int64} {ps sp en ep hn hp : Int32} {tp : Nat → Int32} {lm : Nat → Int64} {dd xd yd : Nat → Int32} (hC : jC p s m args meth c cc nL ret R_Model D (tyM ca) A X) (hd : decode cc pc = .ok (.getfield 147, 3)) (k : J p l e R s m args below meth c D A nL Q (pc + 3) L (.long pt :: S) (wm g ca td cd bi ls us dc pt ps sp en ep hn hp tp lm dd xd yd)) : J p l e R s m args below meth c D A nL Q pc L (.ref (g 10) :: S) (wm g ca td cd bi ls us dc pt ps sp en ep hn hp tp lm dd xd yd) := j_get (q0 := 0) (ci := 3) hC 11 i_Model rfl rfl (by decide) ml_M_147 rfl rfl hd k
theorem jp_M_147 {td cd bi ls us dc : Int32} {pt : Int64} {ps sp en ep hn hp : Int32} {tp : Nat → Int32} {lm : Nat → Int64} {dd xd yd : Nat → Int32} {v : Int64} (hC : jC p s m args meth c cc nL ret R_Model D (tyM ca) A X) (hd : decode cc pc = .ok (.putfield 147, 3)) (k : J p l e R s m args below meth c D A nL Q (pc + 3) L S (wm g ca td cd bi ls us dc v ps sp en ep hn hp tp lm dd xd yd)) : J p l e R s m args below meth c D A nL Q pc L (.long v :: .ref (g 10) :: S) (wm g ca td cd bi ls us dc pt ps sp en ep hn hp tp lm dd xd yd) := j_put (q0 := 0) (ci := 3) (ty := .long) hC 11 i_Model t_Model t_Model_ok n_Model rfl rfl (by decide) ml_M_147 rfl rfl (by decide +kernel) rfl rfl (Nat.le_of_ble_eq_true rfl) rfl hd k
theorem jg_K_7d {len ps sp ng fm df dt wg ex hg mo : Int32} {tp lb wo : Nat → Int32} (hC : jC p s m args meth c cc nL ret R_Kind D (tyD ca) A X) (hd : decode cc pc = .ok (.getfield 7, 3)) (k : J p l e R s m args below meth c D A nL Q (pc + 3) L (.int 53 :: S) (wd g ca len ps sp ng fm df dt wg ex hg mo tp lb wo)) : J p l e R s m args below meth c D A nL Q pc L (.ref (g 1) :: S) (wd g ca len ps sp ng fm df dt wg ex hg mo tp lb wo) := j_get (q0 := 1) (ci := 1) hC 0 i_Kind rfl rfl (by decide) ml_K_7 rfl rfl hd k
theorem jg_K_7f {len ps sp ng fm df dt wg ex hg mo : Int32} {tp lb wo : Nat → Int32} (hC : jC p s m args meth c cc nL ret R_Kind D (tyD ca) A X) (hd : decode cc pc = .ok (.getfield 7, 3)) (k : J p l e R s m args below meth c D A nL Q (pc + 3) L (.int 24 :: S) (wd g ca len ps sp ng fm df dt wg ex hg mo tp lb wo)) : J p l e R s m args below meth c D A nL Q pc L (.ref (g 2) :: S) (wd g ca len ps sp ng fm df dt wg ex hg mo tp lb wo) := j_get (q0 := 2) (ci := 1) hC 0 i_Kind rfl rfl (by decide) ml_K_7 rfl rfl hd k
theorem jg_K_13d {len ps sp ng fm df dt wg ex hg mo : Int32} {tp lb wo : Nat → Int32} (hC : jC p s m args meth c cc nL ret R_Kind D (tyD ca) A X) (hd : decode cc pc = .ok (.getfield 13, 3)) (k : J p l e R s m args below meth c D A nL Q (pc + 3) L (.int (-1074) :: S) (wd g ca len ps sp ng fm df dt wg ex hg mo tp lb wo)) : J p l e R s m args below meth c D A nL Q pc L (.ref (g 1) :: S) (wd g ca len ps sp ng fm df dt wg ex hg mo tp lb wo) := j_get (q0 := 1) (ci := 1) hC 1 i_Kind rfl rfl (by decide) ml_K_13 rfl rfl hd k
theorem jg_K_13f {len ps sp ng fm df dt wg ex hg mo : Int32} {tp lb wo : Nat → Int32} (hC : jC p s m args meth c cc nL ret R_Kind D (tyD ca) A X) (hd : decode cc pc = .ok (.getfield 13, 3)) (k : J p l e R s m args below meth c D A nL Q (pc + 3) L (.int (-149) :: S) (wd g ca len ps sp ng fm df dt wg ex hg mo tp lb wo)) : J p l e R s m args below meth c D A nL Q pc L (.ref (g 2) :: S) (wd g ca len ps sp ng fm df dt wg ex hg mo tp lb wo) := j_get (q0 := 2) (ci := 1) hC 1 i_Kind rfl rfl (by decide) ml_K_13 rfl rfl hd k
theorem jg_K_16d {len ps sp ng fm df dt wg ex hg mo : Int32} {tp lb wo : Nat → Int32} (hC : jC p s m args meth c cc nL ret R_Kind D (tyD ca) A X) (hd : decode cc pc = .ok (.getfield 16, 3)) (k : J p l e R s m args below meth c D A nL Q (pc + 3) L (.int 971 :: S) (wd g ca len ps sp ng fm df dt wg ex hg mo tp lb wo)) : J p l e R s m args below meth c D A nL Q pc L (.ref (g 1) :: S) (wd g ca len ps sp ng fm df dt wg ex hg mo tp lb wo) := j_get (q0 := 1) (ci := 1) hC 2 i_Kind rfl rfl (by decide) ml_K_16 rfl rfl hd k
theorem jg_K_16f {len ps sp ng fm df dt wg ex hg mo : Int32} {tp lb wo : Nat → Int32} (hC : jC p s m args meth c cc nL ret R_Kind D (tyD ca) A X) (hd : decode cc pc = .ok (.getfield 16, 3)) (k : J p l e R s m args below meth c D A nL Q (pc + 3) L (.int 104 :: S) (wd g ca len ps sp ng fm df dt wg ex hg mo tp lb wo)) : J p l e R s m args below meth c D A nL Q pc L (.ref (g 2) :: S) (wd g ca len ps sp ng fm df dt wg ex hg mo tp lb wo) := j_get (q0 := 2) (ci := 1) hC 2 i_Kind rfl rfl (by decide) ml_K_16 rfl rfl hd k
theorem jg_K_19d {len ps sp ng fm df dt wg ex hg mo : Int32} {tp lb wo : Nat → Int32} (hC : jC p s m args meth c cc nL ret R_Kind D (tyD ca) A X) (hd : decode cc pc = .ok (.getfield 19, 3)) (k : J p l e R s m args below meth c D A nL Q (pc + 3) L (.long 4503599627370496 :: S) (wd g ca len ps sp ng fm df dt wg ex hg mo tp lb wo)) : J p l e R s m args below meth c D A nL Q pc L (.ref (g 1) :: S) (wd g ca len ps sp ng fm df dt wg ex hg mo tp lb wo) := j_get (q0 := 1) (ci := 1) hC 3 i_Kind rfl rfl (by decide) ml_K_19 rfl rfl hd k
theorem jg_K_19f {len ps sp ng fm df dt wg ex hg mo : Int32} {tp lb wo : Nat → Int32} (hC : jC p s m args meth c cc nL ret R_Kind D (tyD ca) A X) (hd : decode cc pc = .ok (.getfield 19, 3)) (k : J p l e R s m args below meth c D A nL Q (pc + 3) L (.long 8388608 :: S) (wd g ca len ps sp ng fm df dt wg ex hg mo tp lb wo)) : J p l e R s m args below meth c D A nL Q pc L (.ref (g 2) :: S) (wd g ca len ps sp ng fm df dt wg ex hg mo tp lb wo) := j_get (q0 := 2) (ci := 1) hC 3 i_Kind rfl rfl (by decide) ml_K_19 rfl rfl hd k
theorem jg_K_23d {len ps sp ng fm df dt wg ex hg mo : Int32} {tp lb wo : Nat → Int32} (hC : jC p s m args meth c cc nL ret R_Kind D (tyD ca) A X) (hd : decode cc pc = .ok (.getfield 23, 3)) (k : J p l e R s m args below meth c D A nL Q (pc + 3) L (.long 9218868437227405312 :: S) (wd g ca len ps sp ng fm df dt wg ex hg mo tp lb wo)) : J p l e R s m args below meth c D A nL Q pc L (.ref (g 1) :: S) (wd g ca len ps sp ng fm df dt wg ex hg mo tp lb wo) := j_get (q0 := 1) (ci := 1) hC 4 i_Kind rfl rfl (by decide) ml_K_23 rfl rfl hd k
theorem jg_K_23f {len ps sp ng fm df dt wg ex hg mo : Int32} {tp lb wo : Nat → Int32} (hC : jC p s m args meth c cc nL ret R_Kind D (tyD ca) A X) (hd : decode cc pc = .ok (.getfield 23, 3)) (k : J p l e R s m args below meth c D A nL Q (pc + 3) L (.long 2139095040 :: S) (wd g ca len ps sp ng fm df dt wg ex hg mo tp lb wo)) : J p l e R s m args below meth c D A nL Q pc L (.ref (g 2) :: S) (wd g ca len ps sp ng fm df dt wg ex hg mo tp lb wo) := j_get (q0 := 2) (ci := 1) hC 4 i_Kind rfl rfl (by decide) ml_K_23 rfl rfl hd k
theorem jg_K_28d {len ps sp ng fm df dt wg ex hg mo : Int32} {tp lb wo : Nat → Int32} (hC : jC p s m args meth c cc nL ret R_Kind D (tyD ca) A X) (hd : decode cc pc = .ok (.getfield 28, 3)) (k : J p l e R s m args below meth c D A nL Q (pc + 3) L (.long 9221120237041090560 :: S) (wd g ca len ps sp ng fm df dt wg ex hg mo tp lb wo)) : J p l e R s m args below meth c D A nL Q pc L (.ref (g 1) :: S) (wd g ca len ps sp ng fm df dt wg ex hg mo tp lb wo) := j_get (q0 := 1) (ci := 1) hC 5 i_Kind rfl rfl (by decide) ml_K_28 rfl rfl hd k
theorem jg_K_28f {len ps sp ng fm df dt wg ex hg mo : Int32} {tp lb wo : Nat → Int32} (hC : jC p s m args meth c cc nL ret R_Kind D (tyD ca) A X) (hd : decode cc pc = .ok (.getfield 28, 3)) (k : J p l e R s m args below meth c D A nL Q (pc + 3) L (.long 2143289344 :: S) (wd g ca len ps sp ng fm df dt wg ex hg mo tp lb wo)) : J p l e R s m args below meth c D A nL Q pc L (.ref (g 2) :: S) (wd g ca len ps sp ng fm df dt wg ex hg mo tp lb wo) := j_get (q0 := 2) (ci := 1) hC 5 i_Kind rfl rfl (by decide) ml_K_28 rfl rfl hd k
theorem jg_K_31d {len ps sp ng fm df dt wg ex hg mo : Int32} {tp lb wo : Nat → Int32} (hC : jC p s m args meth c cc nL ret R_Kind D (tyD ca) A X) (hd : decode cc pc = .ok (.getfield 31, 3)) (k : J p l e R s m args below meth c D A nL Q (pc + 3) L (.long (-9223372036854775808) :: S) (wd g ca len ps sp ng fm df dt wg ex hg mo tp lb wo)) : J p l e R s m args below meth c D A nL Q pc L (.ref (g 1) :: S) (wd g ca len ps sp ng fm df dt wg ex hg mo tp lb wo) := j_get (q0 := 1) (ci := 1) hC 6 i_Kind rfl rfl (by decide) ml_K_31 rfl rfl hd k
theorem jg_K_31f {len ps sp ng fm df dt wg ex hg mo : Int32} {tp lb wo : Nat → Int32} (hC : jC p s m args meth c cc nL ret R_Kind D (tyD ca) A X) (hd : decode cc pc = .ok (.getfield 31, 3)) (k : J p l e R s m args below meth c D A nL Q (pc + 3) L (.long 2147483648 :: S) (wd g ca len ps sp ng fm df dt wg ex hg mo tp lb wo)) : J p l e R s m args below meth c D A nL Q pc L (.ref (g 2) :: S) (wd g ca len ps sp ng fm df dt wg ex hg mo tp lb wo) := j_get (q0 := 2) (ci := 1) hC 6 i_Kind rfl rfl (by decide) ml_K_31 rfl rfl hd k
theorem jg_V_9 {len ps sp ng fm df dt wg ex hg mo : Int32} {tp lb wo : Nat → Int32} (hC : jC p s m args meth c cc nL ret R_Value D (tyD ca) A X) (hd : decode cc pc = .ok (.getfield 9, 3)) (k : J p l e R s m args below meth c D A nL Q (pc + 3) L (.ref (g 5) :: S) (wd g ca len ps sp ng fm df dt wg ex hg mo tp lb wo)) : J p l e R s m args below meth c D A nL Q pc L (.ref (g 3) :: S) (wd g ca len ps sp ng fm df dt wg ex hg mo tp lb wo) := j_get (q0 := 3) (ci := 2) hC 0 i_Value rfl rfl (by decide) ml_V_9 rfl rfl hd k
theorem jg_V_13 {len ps sp ng fm df dt wg ex hg mo : Int32} {tp lb wo : Nat → Int32} (hC : jC p s m args meth c cc nL ret R_Value D (tyD ca) A X) (hd : decode cc pc = .ok (.getfield 13, 3)) (k : J p l e R s m args below meth c D A nL Q (pc + 3) L (.ref (g 6) :: S) (wd g ca len ps sp ng fm df dt wg ex hg mo tp lb wo)) : J p l e R s m args below meth c D A nL Q pc L (.ref (g 3) :: S) (wd g ca len ps sp ng fm df dt wg ex hg mo tp lb wo) := j_get (q0 := 3) (ci := 2) hC 1 i_Value rfl rfl (by decide) ml_V_13 rfl rfl hd k
theorem jg_V_16 {len ps sp ng fm df dt wg ex hg mo : Int32} {tp lb wo : Nat → Int32} (hC : jC p s m args meth c cc nL ret R_Value D (tyD ca) A X) (hd : decode cc pc = .ok (.getfield 16, 3)) (k : J p l e R s m args below meth c D A nL Q (pc + 3) L (.int hg :: S) (wd g ca len ps sp ng fm df dt wg ex hg mo tp lb wo)) : J p l e R s m args below meth c D A nL Q pc L (.ref (g 3) :: S) (wd g ca len ps sp ng fm df dt wg ex hg mo tp lb wo) := j_get (q0 := 3) (ci := 2) hC 2 i_Value rfl rfl (by decide) ml_V_16 rfl rfl hd k
theorem jp_V_16 {len ps sp ng fm df dt wg ex hg mo : Int32} {tp lb wo : Nat → Int32} {v : Int32} (hC : jC p s m args meth c cc nL ret R_Value D (tyD ca) A X) (hz : narrow .boolean (.int v) = .int v ∧ fits .boolean (.int v) = true) (hd : decode cc pc = .ok (.putfield 16, 3)) (k : J p l e R s m args below meth c D A nL Q (pc + 3) L S (wd g ca len ps sp ng fm df dt wg ex v mo tp lb wo)) : J p l e R s m args below meth c D A nL Q pc L (.int v :: .ref (g 3) :: S) (wd g ca len ps sp ng fm df dt wg ex hg mo tp lb wo) := j_put (q0 := 3) (ci := 2) (ty := .boolean) hC 2 i_Value t_Value t_Value_ok n_Value rfl rfl (by decide) ml_V_16 rfl rfl (by decide +kernel) hz.1 hz.2 (Nat.le_of_ble_eq_true rfl) rfl hd k
theorem jg_V_20 {len ps sp ng fm df dt wg ex hg mo : Int32} {tp lb wo : Nat → Int32} (hC : jC p s m args meth c cc nL ret R_Value D (tyD ca) A X) (hd : decode cc pc = .ok (.getfield 20, 3)) (k : J p l e R s m args below meth c D A nL Q (pc + 3) L (.int mo :: S) (wd g ca len ps sp ng fm df dt wg ex hg mo tp lb wo)) : J p l e R s m args below meth c D A nL Q pc L (.ref (g 3) :: S) (wd g ca len ps sp ng fm df dt wg ex hg mo tp lb wo) := j_get (q0 := 3) (ci := 2) hC 3 i_Value rfl rfl (by decide) ml_V_20 rfl rfl hd k
theorem jp_V_20 {len ps sp ng fm df dt wg ex hg mo : Int32} {tp lb wo : Nat → Int32} {v : Int32} (hC : jC p s m args meth c cc nL ret R_Value D (tyD ca) A X) (hz : narrow .boolean (.int v) = .int v ∧ fits .boolean (.int v) = true) (hd : decode cc pc = .ok (.putfield 20, 3)) (k : J p l e R s m args below meth c D A nL Q (pc + 3) L S (wd g ca len ps sp ng fm df dt wg ex hg v tp lb wo)) : J p l e R s m args below meth c D A nL Q pc L (.int v :: .ref (g 3) :: S) (wd g ca len ps sp ng fm df dt wg ex hg mo tp lb wo) := j_put (q0 := 3) (ci := 2) (ty := .boolean) hC 3 i_Value t_Value t_Value_ok n_Value rfl rfl (by decide) ml_V_20 rfl rfl (by decide +kernel) hz.1 hz.2 (Nat.le_of_ble_eq_true rfl) rfl hd k
theorem jg_V_60d {len ps sp ng fm df dt wg ex hg mo : Int32} {tp lb wo : Nat → Int32} (hC : jC p s m args meth c cc nL ret R_Value D (tyD ca) A X) (hd : decode cc pc = .ok (.getfield 60, 3)) (k : J p l e R s m args below meth c D A nL Q (pc + 3) L (.int 53 :: S) (wd g ca len ps sp ng fm df dt wg ex hg mo tp lb wo)) : J p l e R s m args below meth c D A nL Q pc L (.ref (g 1) :: S) (wd g ca len ps sp ng fm df dt wg ex hg mo tp lb wo) := j_get (q0 := 1) (ci := 1) hC 0 i_Kind rfl rfl (by decide) ml_V_60 rfl rfl hd k
theorem jg_V_60f {len ps sp ng fm df dt wg ex hg mo : Int32} {tp lb wo : Nat → Int32} (hC : jC p s m args meth c cc nL ret R_Value D (tyD ca) A X) (hd : decode cc pc = .ok (.getfield 60, 3)) (k : J p l e R s m args below meth c D A nL Q (pc + 3) L (.int 24 :: S) (wd g ca len ps sp ng fm df dt wg ex hg mo tp lb wo)) : J p l e R s m args below meth c D A nL Q pc L (.ref (g 2) :: S) (wd g ca len ps sp ng fm df dt wg ex hg mo tp lb wo) := j_get (q0 := 2) (ci := 1) hC 0 i_Kind rfl rfl (by decide) ml_V_60 rfl rfl hd k
theorem jg_V_66d {len ps sp ng fm df dt wg ex hg mo : Int32} {tp lb wo : Nat → Int32} (hC : jC p s m args meth c cc nL ret R_Value D (tyD ca) A X) (hd : decode cc pc = .ok (.getfield 66, 3)) (k : J p l e R s m args below meth c D A nL Q (pc + 3) L (.int (-1074) :: S) (wd g ca len ps sp ng fm df dt wg ex hg mo tp lb wo)) : J p l e R s m args below meth c D A nL Q pc L (.ref (g 1) :: S) (wd g ca len ps sp ng fm df dt wg ex hg mo tp lb wo) := j_get (q0 := 1) (ci := 1) hC 1 i_Kind rfl rfl (by decide) ml_V_66 rfl rfl hd k
theorem jg_V_66f {len ps sp ng fm df dt wg ex hg mo : Int32} {tp lb wo : Nat → Int32} (hC : jC p s m args meth c cc nL ret R_Value D (tyD ca) A X) (hd : decode cc pc = .ok (.getfield 66, 3)) (k : J p l e R s m args below meth c D A nL Q (pc + 3) L (.int (-149) :: S) (wd g ca len ps sp ng fm df dt wg ex hg mo tp lb wo)) : J p l e R s m args below meth c D A nL Q pc L (.ref (g 2) :: S) (wd g ca len ps sp ng fm df dt wg ex hg mo tp lb wo) := j_get (q0 := 2) (ci := 1) hC 1 i_Kind rfl rfl (by decide) ml_V_66 rfl rfl hd k
theorem jg_V_75d {len ps sp ng fm df dt wg ex hg mo : Int32} {tp lb wo : Nat → Int32} (hC : jC p s m args meth c cc nL ret R_Value D (tyD ca) A X) (hd : decode cc pc = .ok (.getfield 75, 3)) (k : J p l e R s m args below meth c D A nL Q (pc + 3) L (.int 971 :: S) (wd g ca len ps sp ng fm df dt wg ex hg mo tp lb wo)) : J p l e R s m args below meth c D A nL Q pc L (.ref (g 1) :: S) (wd g ca len ps sp ng fm df dt wg ex hg mo tp lb wo) := j_get (q0 := 1) (ci := 1) hC 2 i_Kind rfl rfl (by decide) ml_V_75 rfl rfl hd k
theorem jg_V_75f {len ps sp ng fm df dt wg ex hg mo : Int32} {tp lb wo : Nat → Int32} (hC : jC p s m args meth c cc nL ret R_Value D (tyD ca) A X) (hd : decode cc pc = .ok (.getfield 75, 3)) (k : J p l e R s m args below meth c D A nL Q (pc + 3) L (.int 104 :: S) (wd g ca len ps sp ng fm df dt wg ex hg mo tp lb wo)) : J p l e R s m args below meth c D A nL Q pc L (.ref (g 2) :: S) (wd g ca len ps sp ng fm df dt wg ex hg mo tp lb wo) := j_get (q0 := 2) (ci := 1) hC 2 i_Kind rfl rfl (by decide) ml_V_75 rfl rfl hd k
theorem jg_V_78d {len ps sp ng fm df dt wg ex hg mo : Int32} {tp lb wo : Nat → Int32} (hC : jC p s m args meth c cc nL ret R_Value D (tyD ca) A X) (hd : decode cc pc = .ok (.getfield 78, 3)) (k : J p l e R s m args below meth c D A nL Q (pc + 3) L (.long 9218868437227405312 :: S) (wd g ca len ps sp ng fm df dt wg ex hg mo tp lb wo)) : J p l e R s m args below meth c D A nL Q pc L (.ref (g 1) :: S) (wd g ca len ps sp ng fm df dt wg ex hg mo tp lb wo) := j_get (q0 := 1) (ci := 1) hC 4 i_Kind rfl rfl (by decide) ml_V_78 rfl rfl hd k
theorem jg_V_78f {len ps sp ng fm df dt wg ex hg mo : Int32} {tp lb wo : Nat → Int32} (hC : jC p s m args meth c cc nL ret R_Value D (tyD ca) A X) (hd : decode cc pc = .ok (.getfield 78, 3)) (k : J p l e R s m args below meth c D A nL Q (pc + 3) L (.long 2139095040 :: S) (wd g ca len ps sp ng fm df dt wg ex hg mo tp lb wo)) : J p l e R s m args below meth c D A nL Q pc L (.ref (g 2) :: S) (wd g ca len ps sp ng fm df dt wg ex hg mo tp lb wo) := j_get (q0 := 2) (ci := 1) hC 4 i_Kind rfl rfl (by decide) ml_V_78 rfl rfl hd k
theorem jg_V_91d {len ps sp ng fm df dt wg ex hg mo : Int32} {tp lb wo : Nat → Int32} (hC : jC p s m args meth c cc nL ret R_Value D (tyD ca) A X) (hd : decode cc pc = .ok (.getfield 91, 3)) (k : J p l e R s m args below meth c D A nL Q (pc + 3) L (.long 4503599627370496 :: S) (wd g ca len ps sp ng fm df dt wg ex hg mo tp lb wo)) : J p l e R s m args below meth c D A nL Q pc L (.ref (g 1) :: S) (wd g ca len ps sp ng fm df dt wg ex hg mo tp lb wo) := j_get (q0 := 1) (ci := 1) hC 3 i_Kind rfl rfl (by decide) ml_V_91 rfl rfl hd k
theorem jg_V_91f {len ps sp ng fm df dt wg ex hg mo : Int32} {tp lb wo : Nat → Int32} (hC : jC p s m args meth c cc nL ret R_Value D (tyD ca) A X) (hd : decode cc pc = .ok (.getfield 91, 3)) (k : J p l e R s m args below meth c D A nL Q (pc + 3) L (.long 8388608 :: S) (wd g ca len ps sp ng fm df dt wg ex hg mo tp lb wo)) : J p l e R s m args below meth c D A nL Q pc L (.ref (g 2) :: S) (wd g ca len ps sp ng fm df dt wg ex hg mo tp lb wo) := j_get (q0 := 2) (ci := 1) hC 3 i_Kind rfl rfl (by decide) ml_V_91 rfl rfl hd k
theorem jg_W_7e {td cd bi ls us dc : Int32} {pt : Int64} {ps sp en ep hn hp : Int32} {tp : Nat → Int32} {lm : Nat → Int64} {dd xd yd : Nat → Int32} (hC : jC p s m args meth c cc nL ret R_Row D (tyM ca) A X) (hd : decode cc pc = .ok (.getfield 7, 3)) (k : J p l e R s m args below meth c D A nL Q (pc + 3) L (.ref (g 16) :: S) (wm g ca td cd bi ls us dc pt ps sp en ep hn hp tp lm dd xd yd)) : J p l e R s m args below meth c D A nL Q pc L (.ref (g 13) :: S) (wm g ca td cd bi ls us dc pt ps sp en ep hn hp tp lm dd xd yd) := j_get (q0 := 3) (ci := 4) hC 0 i_Row rfl rfl (by decide) ml_W_7 rfl rfl hd k
theorem jg_W_7h {td cd bi ls us dc : Int32} {pt : Int64} {ps sp en ep hn hp : Int32} {tp : Nat → Int32} {lm : Nat → Int64} {dd xd yd : Nat → Int32} (hC : jC p s m args meth c cc nL ret R_Row D (tyM ca) A X) (hd : decode cc pc = .ok (.getfield 7, 3)) (k : J p l e R s m args below meth c D A nL Q (pc + 3) L (.ref (g 17) :: S) (wm g ca td cd bi ls us dc pt ps sp en ep hn hp tp lm dd xd yd)) : J p l e R s m args below meth c D A nL Q pc L (.ref (g 14) :: S) (wm g ca td cd bi ls us dc pt ps sp en ep hn hp tp lm dd xd yd) := j_get (q0 := 4) (ci := 4) hC 0 i_Row rfl rfl (by decide) ml_W_7 rfl rfl hd k
theorem ja_tape_baload {len ps sp ng fm df dt wg ex hg mo : Int32} {tp lb wo : Nat → Int32} {i : Int32} {own : String} (hC : jC p s m args meth c cc nL ret own D (tyD ca) A X) (hin : vp_in i 8192) (hd : decode cc pc = .ok (.baload, 1)) (k : J p l e R s m args below meth c D A nL Q (pc + 1) L (.int (tp i.toNatClampNeg) :: S) (wd g ca len ps sp ng fm df dt wg ex hg mo tp lb wo)) : J p l e R s m args below meth c D A nL Q pc L (.int i :: .ref (g 4) :: S) (wd g ca len ps sp ng fm df dt wg ex hg mo tp lb wo) := j_bald (q0 := 4) (t0 := 0) hC rfl rfl hin hd k
theorem ja_tape_bastore {len ps sp ng fm df dt wg ex hg mo : Int32} {tp lb wo : Nat → Int32} {i : Int32} {x : Int32} {own : String} (hC : jC p s m args meth c cc nL ret own D (tyD ca) A X) (hin : vp_in i 8192) (hd : decode cc pc = .ok (.bastore, 1)) (k : J p l e R s m args below meth c D A nL Q (pc + 1) L S (wd g ca len ps sp ng fm df dt wg ex hg mo (upd tp i.toNatClampNeg (vp_nar .byte x)) lb wo)) : J p l e R s m args below meth c D A nL Q pc L (.int x :: .int i :: .ref (g 4) :: S) (wd g ca len ps sp ng fm df dt wg ex hg mo tp lb wo) := j_bast (q0 := 4) (t0 := 0) hC rfl rfl hin rfl hd k
theorem ja_limbs_iaload {len ps sp ng fm df dt wg ex hg mo : Int32} {tp lb wo : Nat → Int32} {i : Int32} {own : String} (hC : jC p s m args meth c cc nL ret own D (tyD ca) A X) (hin : vp_in i 155) (hd : decode cc pc = .ok (.iaload, 1)) (k : J p l e R s m args below meth c D A nL Q (pc + 1) L (.int (lb i.toNatClampNeg) :: S) (wd g ca len ps sp ng fm df dt wg ex hg mo tp lb wo)) : J p l e R s m args below meth c D A nL Q pc L (.int i :: .ref (g 5) :: S) (wd g ca len ps sp ng fm df dt wg ex hg mo tp lb wo) := j_iald (q0 := 5) (t0 := 1) hC rfl rfl hin hd k
theorem ja_limbs_iastore {len ps sp ng fm df dt wg ex hg mo : Int32} {tp lb wo : Nat → Int32} {i : Int32} {x : Int32} {own : String} (hC : jC p s m args meth c cc nL ret own D (tyD ca) A X) (hin : vp_in i 155) (hd : decode cc pc = .ok (.iastore, 1)) (k : J p l e R s m args below meth c D A nL Q (pc + 1) L S (wd g ca len ps sp ng fm df dt wg ex hg mo tp (upd lb i.toNatClampNeg x) wo)) : J p l e R s m args below meth c D A nL Q pc L (.int x :: .int i :: .ref (g 5) :: S) (wd g ca len ps sp ng fm df dt wg ex hg mo tp lb wo) := j_iast (q0 := 5) (t0 := 1) hC rfl rfl hin rfl hd k
theorem ja_words_iaload {len ps sp ng fm df dt wg ex hg mo : Int32} {tp lb wo : Nat → Int32} {i : Int32} {own : String} (hC : jC p s m args meth c cc nL ret own D (tyD ca) A X) (hin : vp_in i 67) (hd : decode cc pc = .ok (.iaload, 1)) (k : J p l e R s m args below meth c D A nL Q (pc + 1) L (.int (wo i.toNatClampNeg) :: S) (wd g ca len ps sp ng fm df dt wg ex hg mo tp lb wo)) : J p l e R s m args below meth c D A nL Q pc L (.int i :: .ref (g 6) :: S) (wd g ca len ps sp ng fm df dt wg ex hg mo tp lb wo) := j_iald (q0 := 6) (t0 := 2) hC rfl rfl hin hd k
theorem ja_words_iastore {len ps sp ng fm df dt wg ex hg mo : Int32} {tp lb wo : Nat → Int32} {i : Int32} {x : Int32} {own : String} (hC : jC p s m args meth c cc nL ret own D (tyD ca) A X) (hin : vp_in i 67) (hd : decode cc pc = .ok (.iastore, 1)) (k : J p l e R s m args below meth c D A nL Q (pc + 1) L S (wd g ca len ps sp ng fm df dt wg ex hg mo tp lb (upd wo i.toNatClampNeg x))) : J p l e R s m args below meth c D A nL Q pc L (.int x :: .int i :: .ref (g 6) :: S) (wd g ca len ps sp ng fm df dt wg ex hg mo tp lb wo) := j_iast (q0 := 6) (t0 := 2) hC rfl rfl hin rfl hd k
theorem ja_mtape_baload {td cd bi ls us dc : Int32} {pt : Int64} {ps sp en ep hn hp : Int32} {tp : Nat → Int32} {lm : Nat → Int64} {dd xd yd : Nat → Int32} {i : Int32} {own : String} (hC : jC p s m args meth c cc nL ret own D (tyM ca) A X) (hin : vp_in i 8192) (hd : decode cc pc = .ok (.baload, 1)) (k : J p l e R s m args below meth c D A nL Q (pc + 1) L (.int (tp i.toNatClampNeg) :: S) (wm g ca td cd bi ls us dc pt ps sp en ep hn hp tp lm dd xd yd)) : J p l e R s m args below meth c D A nL Q pc L (.int i :: .ref (g 11) :: S) (wm g ca td cd bi ls us dc pt ps sp en ep hn hp tp lm dd xd yd) := j_bald (q0 := 1) (t0 := 0) hC rfl rfl hin hd k
theorem ja_mtape_bastore {td cd bi ls us dc : Int32} {pt : Int64} {ps sp en ep hn hp : Int32} {tp : Nat → Int32} {lm : Nat → Int64} {dd xd yd : Nat → Int32} {i : Int32} {x : Int32} {own : String} (hC : jC p s m args meth c cc nL ret own D (tyM ca) A X) (hin : vp_in i 8192) (hd : decode cc pc = .ok (.bastore, 1)) (k : J p l e R s m args below meth c D A nL Q (pc + 1) L S (wm g ca td cd bi ls us dc pt ps sp en ep hn hp (upd tp i.toNatClampNeg (vp_nar .byte x)) lm dd xd yd)) : J p l e R s m args below meth c D A nL Q pc L (.int x :: .int i :: .ref (g 11) :: S) (wm g ca td cd bi ls us dc pt ps sp en ep hn hp tp lm dd xd yd) := j_bast (q0 := 1) (t0 := 0) hC rfl rfl hin rfl hd k
theorem ja_mlimbs_laload {td cd bi ls us dc : Int32} {pt : Int64} {ps sp en ep hn hp : Int32} {tp : Nat → Int32} {lm : Nat → Int64} {dd xd yd : Nat → Int32} {i : Int32} {own : String} (hC : jC p s m args meth c cc nL ret own D (tyM ca) A X) (hin : vp_in i 160) (hd : decode cc pc = .ok (.laload, 1)) (k : J p l e R s m args below meth c D A nL Q (pc + 1) L (.long (lm i.toNatClampNeg) :: S) (wm g ca td cd bi ls us dc pt ps sp en ep hn hp tp lm dd xd yd)) : J p l e R s m args below meth c D A nL Q pc L (.int i :: .ref (g 12) :: S) (wm g ca td cd bi ls us dc pt ps sp en ep hn hp tp lm dd xd yd) := j_lald (q0 := 2) (t0 := 1) hC rfl rfl hin hd k
theorem ja_mlimbs_lastore {td cd bi ls us dc : Int32} {pt : Int64} {ps sp en ep hn hp : Int32} {tp : Nat → Int32} {lm : Nat → Int64} {dd xd yd : Nat → Int32} {i : Int32} {x : Int64} {own : String} (hC : jC p s m args meth c cc nL ret own D (tyM ca) A X) (hin : vp_in i 160) (hd : decode cc pc = .ok (.lastore, 1)) (k : J p l e R s m args below meth c D A nL Q (pc + 1) L S (wm g ca td cd bi ls us dc pt ps sp en ep hn hp tp (vp_updL lm i.toNatClampNeg x) dd xd yd)) : J p l e R s m args below meth c D A nL Q pc L (.long x :: .int i :: .ref (g 12) :: S) (wm g ca td cd bi ls us dc pt ps sp en ep hn hp tp lm dd xd yd) := j_last (q0 := 2) (t0 := 1) hC rfl rfl hin rfl hd k
theorem ja_digits_baload {td cd bi ls us dc : Int32} {pt : Int64} {ps sp en ep hn hp : Int32} {tp : Nat → Int32} {lm : Nat → Int64} {dd xd yd : Nat → Int32} {i : Int32} {own : String} (hC : jC p s m args meth c cc nL ret own D (tyM ca) A X) (hin : vp_in i 8192) (hd : decode cc pc = .ok (.baload, 1)) (k : J p l e R s m args below meth c D A nL Q (pc + 1) L (.int (dd i.toNatClampNeg) :: S) (wm g ca td cd bi ls us dc pt ps sp en ep hn hp tp lm dd xd yd)) : J p l e R s m args below meth c D A nL Q pc L (.int i :: .ref (g 15) :: S) (wm g ca td cd bi ls us dc pt ps sp en ep hn hp tp lm dd xd yd) := j_bald (q0 := 5) (t0 := 2) hC rfl rfl hin hd k
theorem ja_digits_bastore {td cd bi ls us dc : Int32} {pt : Int64} {ps sp en ep hn hp : Int32} {tp : Nat → Int32} {lm : Nat → Int64} {dd xd yd : Nat → Int32} {i : Int32} {x : Int32} {own : String} (hC : jC p s m args meth c cc nL ret own D (tyM ca) A X) (hin : vp_in i 8192) (hd : decode cc pc = .ok (.bastore, 1)) (k : J p l e R s m args below meth c D A nL Q (pc + 1) L S (wm g ca td cd bi ls us dc pt ps sp en ep hn hp tp lm (upd dd i.toNatClampNeg (vp_nar .byte x)) xd yd)) : J p l e R s m args below meth c D A nL Q pc L (.int x :: .int i :: .ref (g 15) :: S) (wm g ca td cd bi ls us dc pt ps sp en ep hn hp tp lm dd xd yd) := j_bast (q0 := 5) (t0 := 2) hC rfl rfl hin rfl hd k
theorem ja_ed_baload {td cd bi ls us dc : Int32} {pt : Int64} {ps sp en ep hn hp : Int32} {tp : Nat → Int32} {lm : Nat → Int64} {dd xd yd : Nat → Int32} {i : Int32} {own : String} (hC : jC p s m args meth c cc nL ret own D (tyM ca) A X) (hin : vp_in i 1300) (hd : decode cc pc = .ok (.baload, 1)) (k : J p l e R s m args below meth c D A nL Q (pc + 1) L (.int (xd i.toNatClampNeg) :: S) (wm g ca td cd bi ls us dc pt ps sp en ep hn hp tp lm dd xd yd)) : J p l e R s m args below meth c D A nL Q pc L (.int i :: .ref (g 16) :: S) (wm g ca td cd bi ls us dc pt ps sp en ep hn hp tp lm dd xd yd) := j_bald (q0 := 6) (t0 := 3) hC rfl rfl hin hd k
theorem ja_ed_bastore {td cd bi ls us dc : Int32} {pt : Int64} {ps sp en ep hn hp : Int32} {tp : Nat → Int32} {lm : Nat → Int64} {dd xd yd : Nat → Int32} {i : Int32} {x : Int32} {own : String} (hC : jC p s m args meth c cc nL ret own D (tyM ca) A X) (hin : vp_in i 1300) (hd : decode cc pc = .ok (.bastore, 1)) (k : J p l e R s m args below meth c D A nL Q (pc + 1) L S (wm g ca td cd bi ls us dc pt ps sp en ep hn hp tp lm dd (upd xd i.toNatClampNeg (vp_nar .byte x)) yd)) : J p l e R s m args below meth c D A nL Q pc L (.int x :: .int i :: .ref (g 16) :: S) (wm g ca td cd bi ls us dc pt ps sp en ep hn hp tp lm dd xd yd) := j_bast (q0 := 6) (t0 := 3) hC rfl rfl hin rfl hd k
theorem ja_hd_baload {td cd bi ls us dc : Int32} {pt : Int64} {ps sp en ep hn hp : Int32} {tp : Nat → Int32} {lm : Nat → Int64} {dd xd yd : Nat → Int32} {i : Int32} {own : String} (hC : jC p s m args meth c cc nL ret own D (tyM ca) A X) (hin : vp_in i 1300) (hd : decode cc pc = .ok (.baload, 1)) (k : J p l e R s m args below meth c D A nL Q (pc + 1) L (.int (yd i.toNatClampNeg) :: S) (wm g ca td cd bi ls us dc pt ps sp en ep hn hp tp lm dd xd yd)) : J p l e R s m args below meth c D A nL Q pc L (.int i :: .ref (g 17) :: S) (wm g ca td cd bi ls us dc pt ps sp en ep hn hp tp lm dd xd yd) := j_bald (q0 := 7) (t0 := 4) hC rfl rfl hin hd k
theorem ja_hd_bastore {td cd bi ls us dc : Int32} {pt : Int64} {ps sp en ep hn hp : Int32} {tp : Nat → Int32} {lm : Nat → Int64} {dd xd yd : Nat → Int32} {i : Int32} {x : Int32} {own : String} (hC : jC p s m args meth c cc nL ret own D (tyM ca) A X) (hin : vp_in i 1300) (hd : decode cc pc = .ok (.bastore, 1)) (k : J p l e R s m args below meth c D A nL Q (pc + 1) L S (wm g ca td cd bi ls us dc pt ps sp en ep hn hp tp lm dd xd (upd yd i.toNatClampNeg (vp_nar .byte x)))) : J p l e R s m args below meth c D A nL Q pc L (.int x :: .int i :: .ref (g 17) :: S) (wm g ca td cd bi ls us dc pt ps sp en ep hn hp tp lm dd xd yd) := j_bast (q0 := 7) (t0 := 4) hC rfl rfl hin rfl hd k
end JW
end
section
/-! ===== lN n to 2^64: shifts, and, or, masks, one bit ===== -/
theorem wb_tb (n : Nat) : (lN n).toBitVec = BitVec.ofNat 64 n := rfl
theorem wb_inj {a b : Int64} (h : a.toBitVec = b.toBitVec) : a = b := Int64.toBitVec_inj.mp h
theorem wb_tn {n : Nat} (h : n < 2 ^ 64) : (lN n).toBitVec.toNat = n := by rw [wb_tb, BitVec.toNat_ofNat, Nat.mod_eq_of_lt h]
theorem wb_of (x : Int64) : ∃ n, n < 2 ^ 64 ∧ x = lN n := ⟨x.toBitVec.toNat, x.toBitVec.isLt, wb_inj (by rw [wb_tb]; simp)⟩
theorem wb_of32 (x : Int32) : ∃ n, n < 2 ^ 32 ∧ x = nI n := ⟨x.toBitVec.toNat, x.toBitVec.isLt, Int32.toBitVec_inj.mp (by show _ = BitVec.ofNat 32 _; simp)⟩
theorem wb_c : ∀ k, k < 64 → ((nI k).toInt64 &&& 63) = lN k := by decide +kernel
theorem wb_cu : ∀ k, k < 64 → ((nI k).toInt64.toUInt64 &&& Int64.toUInt64 63) = UInt64.ofNat k := by decide +kernel
theorem wb_sm : ∀ k, k < 64 → (BitVec.ofNat 64 k).smod 64 = BitVec.ofNat 64 k := by decide +kernel
theorem wb_pw {a b : Nat} (h : a ≤ b) : 2 ^ b = 2 ^ a * 2 ^ (b - a) := by rw [← Nat.pow_add]; congr 1; omega
theorem wb_lt2 {a b : Nat} (h : a < b) : 2 ^ a < 2 ^ b := Nat.pow_lt_pow_right (by decide) h
theorem wb_mod (n : Nat) : lN n = lN (n % 2 ^ 64) := wb_inj (by rw [wb_tb, wb_tb]; apply BitVec.eq_of_toNat_eq; rw [BitVec.toNat_ofNat, BitVec.toNat_ofNat, Nat.mod_mod])
theorem wb_shr {n k : Nat} (hn : n < 2 ^ 64) (hk : k < 64) : ((lN n).toUInt64 >>> ((nI k).toInt64.toUInt64 &&& Int64.toUInt64 63)).toInt64 = lN (n / 2 ^ k) := by
  rw [wb_cu k hk]
  apply wb_inj
  apply BitVec.eq_of_toNat_eq
  show ((lN n).toUInt64 >>> UInt64.ofNat k).toNat = (BitVec.ofNat 64 _).toNat
  have h1 : (UInt64.ofNat k).toNat = k := by
    show (BitVec.ofNat 64 k).toNat = k
    rw [BitVec.toNat_ofNat, Nat.mod_eq_of_lt (by omega)]
  have h2 : (lN n).toUInt64.toNat = n := wb_tn hn
  rw [UInt64.toNat_shiftRight, h1, h2, Nat.mod_eq_of_lt hk, Nat.shiftRight_eq_div_pow, BitVec.toNat_ofNat, Nat.mod_eq_of_lt (Nat.lt_of_le_of_lt (Nat.div_le_self _ _) hn)]
theorem wb_shl (n : Nat) {k : Nat} (hk : k < 64) : lN n <<< ((nI k).toInt64 &&& 63) = lN (n * 2 ^ k) := by
  rw [wb_c k hk]
  apply wb_inj
  rw [Int64.toBitVec_shiftLeft, wb_tb, wb_tb, wb_tb, wb_sm k hk]
  apply BitVec.eq_of_toNat_eq
  rw [BitVec.shiftLeft_eq', BitVec.toNat_shiftLeft, BitVec.toNat_ofNat, BitVec.toNat_ofNat, BitVec.toNat_ofNat, Nat.mod_eq_of_lt (show k < 2 ^ 64 by omega), Nat.shiftLeft_eq, Nat.mul_mod, Nat.mod_mod, ← Nat.mul_mod]
theorem wb_and {a b : Nat} (ha : a < 2 ^ 64) (hb : b < 2 ^ 64) : lN a &&& lN b = lN (a &&& b) := by
  apply wb_inj
  rw [Int64.toBitVec_and, wb_tb, wb_tb, wb_tb]
  apply BitVec.eq_of_toNat_eq
  rw [BitVec.toNat_and, BitVec.toNat_ofNat, BitVec.toNat_ofNat, BitVec.toNat_ofNat, Nat.mod_eq_of_lt ha, Nat.mod_eq_of_lt hb, Nat.mod_eq_of_lt (Nat.and_lt_two_pow _ hb)]
theorem wb_or {a b : Nat} (ha : a < 2 ^ 64) (hb : b < 2 ^ 64) : lN a ||| lN b = lN (a ||| b) := by
  apply wb_inj
  rw [Int64.toBitVec_or, wb_tb, wb_tb, wb_tb]
  apply BitVec.eq_of_toNat_eq
  rw [BitVec.toNat_or, BitVec.toNat_ofNat, BitVec.toNat_ofNat, BitVec.toNat_ofNat, Nat.mod_eq_of_lt ha, Nat.mod_eq_of_lt hb, Nat.mod_eq_of_lt (Nat.or_lt_two_pow ha hb)]
theorem wb_mask {n k : Nat} (hn : n < 2 ^ 64) (hk : k < 64) : lN n &&& lN (2 ^ k - 1) = lN (n % 2 ^ k) := by
  rw [wb_and hn (by have := wb_lt2 hk; omega), Nat.and_two_pow_sub_one_eq_mod]
theorem wb_a1 {n : Nat} (hn : n < 2 ^ 64) : lN n &&& 1 = lN (n % 2) := wb_mask (k := 1) hn (by decide)
theorem wb_bit {n k : Nat} (hn : n < 2 ^ 64) (hk : k < 64) : ((lN n).toUInt64 >>> ((nI k).toInt64.toUInt64 &&& Int64.toUInt64 63)).toInt64 &&& 1 = lN (n / 2 ^ k % 2) := by
  rw [wb_shr hn hk, wb_a1 (Nat.lt_of_le_of_lt (Nat.div_le_self _ _) hn)]
theorem wb_xor {q k : Nat} (hk : k < 63) (h : 2 ^ k ≤ q) (h2 : q < 2 ^ (k + 1)) : lN q ^^^ lN (2 ^ k) = lN (q - 2 ^ k) := by
  obtain ⟨r, rfl⟩ : ∃ r, q = 2 ^ k + r := ⟨q - 2 ^ k, by omega⟩
  have hr : r < 2 ^ k := by rw [Nat.pow_succ] at h2; omega
  have hx : (2 ^ k + r) ^^^ 2 ^ k = r := by
    apply Nat.eq_of_testBit_eq
    intro i
    rw [Nat.testBit_xor, Nat.testBit_two_pow]
    rcases Nat.lt_trichotomy i k with h | h | h
    · rw [Nat.testBit_two_pow_add_gt h]
      simp [show ¬ k = i by omega]
    · subst h
      rw [Nat.testBit_two_pow_add_eq]
      simp
    · have a1 : 2 ^ (k + 1) ≤ 2 ^ i := Nat.pow_le_pow_right (by decide) h
      rw [Nat.testBit_lt_two_pow (show 2 ^ k + r < 2 ^ i by omega), Nat.testBit_lt_two_pow (show r < 2 ^ i by omega)]
      simp [show ¬ k = i by omega]
  have b1 := wb_lt2 (show k + 1 < 64 by omega)
  have b2 := wb_lt2 (show k < 64 by omega)
  apply wb_inj
  rw [Int64.toBitVec_xor, wb_tb, wb_tb, wb_tb]
  apply BitVec.eq_of_toNat_eq
  rw [BitVec.toNat_xor, BitVec.toNat_ofNat, BitVec.toNat_ofNat, BitVec.toNat_ofNat, Nat.mod_eq_of_lt (by omega : 2 ^ k + r < 2 ^ 64), Nat.mod_eq_of_lt b2, hx, Nat.add_sub_cancel_left, Nat.mod_eq_of_lt (by omega)]
/-! ===== lN: masks, 'or' of parts that don't overlap is a sum ===== -/
theorem u_tn {n : Nat} (h : n < 2 ^ 64) : (UInt64.ofNat n).toNat = n := Nat.mod_eq_of_lt h
theorem g_and {a b c : Nat} (ha : a < 2 ^ 64) (hb : b < 2 ^ 64) (hc : a &&& b = c) : lN a &&& lN b = lN c := by
  subst hc
  have h : UInt64.ofNat a &&& UInt64.ofNat b = UInt64.ofNat (a &&& b) := UInt64.toNat_inj.mp (by rw [UInt64.toNat_and, u_tn ha, u_tn hb, u_tn (Nat.and_lt_two_pow a hb)])
  have h2 := congrArg UInt64.toInt64 h
  exact h2
theorem g_and1 {a : Nat} (ha : a < 2 ^ 64) : lN a &&& 1 = lN (a % 2) := g_and (b := 1) ha (by decide) (Nat.and_two_pow_sub_one_eq_mod a 1)
theorem g_mask {a s p : Nat} (hp : 2 ^ s = p) (hs : s < 64) (ha : a < 2 ^ 64) : lN a &&& lN (p - 1) = lN (a % p) := by
  subst hp
  have := Nat.pow_lt_pow_right (show 1 < 2 by decide) hs
  exact g_and ha (by omega) (Nat.and_two_pow_sub_one_eq_mod a s)
theorem g_or {k p a b : Nat} (hp : 2 ^ k = p) (ha : a < p) (h : b * p + a < 2 ^ 64) : lN (b * p) ||| lN a = lN (b * p + a) := by
  subst hp
  have h1 : b * 2 ^ k ||| a = b * 2 ^ k + a := by rw [← Nat.shiftLeft_eq, Nat.shiftLeft_add_eq_or_of_lt ha]
  have h3 : UInt64.ofNat (b * 2 ^ k) ||| UInt64.ofNat a = UInt64.ofNat (b * 2 ^ k + a) := UInt64.toNat_inj.mp (by rw [UInt64.toNat_or, u_tn (by omega), u_tn (by omega), u_tn h, h1])
  have h2 := congrArg UInt64.toInt64 h3
  exact h2
theorem g_or' {k p a b : Nat} (hp : 2 ^ k = p) (ha : a < p) (h : a + b * p < 2 ^ 64) : lN a ||| lN (b * p) = lN (a + b * p) := by
  rw [Int64.or_comm, g_or hp ha (by omega), Nat.add_comm]
theorem g_ushr {a k p : Nat} {y : UInt64} (hy : y = UInt64.ofNat k) (hk : k < 64) (hp : 2 ^ k = p) (ha : a < 2 ^ 64) : ((lN a).toUInt64 >>> y).toInt64 = lN (a / p) := by
  subst hy hp
  have h : UInt64.ofNat a >>> UInt64.ofNat k = UInt64.ofNat (a / 2 ^ k) := UInt64.toNat_inj.mp (by rw [UInt64.toNat_shiftRight, u_tn ha, u_tn (by omega), u_tn (Nat.lt_of_le_of_lt (Nat.div_le_self _ _) ha), Nat.mod_eq_of_lt hk, Nat.shiftRight_eq_div_pow])
  have h2 := congrArg UInt64.toInt64 h
  exact h2
theorem g_shl {a k p : Nat} {y : Int64} (hy : y.toBitVec.smod 64 = BitVec.ofNat 64 k) (hk : k < 64) (hp : 2 ^ k = p) (ha : a < 2 ^ 64) : lN a <<< y = lN (a * p) := by
  subst hp
  apply Int64.toBitVec_inj.mp
  rw [Int64.toBitVec_shiftLeft, hy]
  apply BitVec.eq_of_toNat_eq
  have hb : (lN a).toBitVec.toNat = a := Nat.mod_eq_of_lt ha
  have hk' : (BitVec.ofNat 64 k).toNat = k := Nat.mod_eq_of_lt (by omega)
  have h : ((lN a).toBitVec <<< BitVec.ofNat 64 k).toNat = (a * 2 ^ k) % 2 ^ 64 := by simp only [BitVec.shiftLeft_eq', BitVec.toNat_shiftLeft, hb, hk', Nat.shiftLeft_eq]
  exact h
end
section
/-! PURE: the doubles (p = 52) and floats (p = 23) by their places: kG p u a is the value of the a-th, in units of 2^-1088; u the units of the smallest -/
def kG (p u a : Nat) : Nat := if a / 2 ^ p = 0 then a * 2 ^ u else (a % 2 ^ p + 2 ^ p) * 2 ^ (u + (a / 2 ^ p - 1))
theorem kG_c {p u U c : Nat} (hU : u ≤ U) (hc : c ≤ 2 ^ (p + 1)) (h : U = u ∨ 2 ^ p ≤ c) : kG p u ((U - u) * 2 ^ p + c) = c * 2 ^ U := by
  have hB : 0 < 2 ^ p := Nat.two_pow_pos p
  rw [Nat.pow_succ] at hc
  unfold kG
  by_cases h1 : c < 2 ^ p
  · have hUu : U = u := by omega
    subst hUu
    have e0 : (U - U) * 2 ^ p + c = c := by simp
    rw [e0, Nat.div_eq_of_lt h1]
    simp
  · by_cases h2 : c < 2 * 2 ^ p
    · obtain ⟨f, rfl⟩ : ∃ f, c = 2 ^ p + f := ⟨c - 2 ^ p, by omega⟩
      have hf : f < 2 ^ p := by omega
      have e0 : (U - u) * 2 ^ p + (2 ^ p + f) = f + 2 ^ p * (U - u + 1) := by
        rw [Nat.mul_comm (U - u), Nat.mul_add, Nat.mul_one]; omega
      have e1 : (f + 2 ^ p * (U - u + 1)) / 2 ^ p = U - u + 1 := by
        rw [Nat.add_mul_div_left _ _ hB, Nat.div_eq_of_lt hf]; omega
      have e2 : (f + 2 ^ p * (U - u + 1)) % 2 ^ p = f := by
        rw [Nat.add_mul_mod_self_left, Nat.mod_eq_of_lt hf]
      rw [e0, e1, e2, if_neg (by omega)]
      have e3 : u + (U - u + 1 - 1) = U := by omega
      rw [e3, Nat.add_comm f]
    · have hc2 : c = 2 * 2 ^ p := by omega
      subst hc2
      have e0 : (U - u) * 2 ^ p + 2 * 2 ^ p = 2 ^ p * (U - u + 2) := by
        rw [Nat.mul_comm (U - u), Nat.mul_add, Nat.mul_comm 2]
      have e1 : (2 ^ p * (U - u + 2)) / 2 ^ p = U - u + 2 := Nat.mul_div_cancel_left _ hB
      have e2 : (2 ^ p * (U - u + 2)) % 2 ^ p = 0 := Nat.mul_mod_right _ _
      rw [e0, e1, e2, if_neg (by omega)]
      have e3 : u + (U - u + 2 - 1) = U + 1 := by omega
      rw [e3, Nat.zero_add, Nat.pow_succ, Nat.mul_comm (2 ^ U) 2, ← Nat.mul_assoc, Nat.mul_comm (2 ^ p) 2]
/-- every place has such a form -/
theorem kG_form (p u a : Nat) : ∃ U c : Nat, u ≤ U ∧ c < 2 ^ (p + 1) ∧ (U = u ∨ 2 ^ p ≤ c) ∧ a = (U - u) * 2 ^ p + c := by
  have hB : 0 < 2 ^ p := Nat.two_pow_pos p
  rw [Nat.pow_succ]
  have hd := Nat.div_add_mod a (2 ^ p)
  have hm := Nat.mod_lt a hB
  by_cases h : a / 2 ^ p = 0
  · refine ⟨u, a, Nat.le_refl _, ?_, Or.inl rfl, by simp⟩
    rw [h] at hd
    omega
  · obtain ⟨e, he⟩ : ∃ e, a / 2 ^ p = e + 1 := Nat.exists_eq_succ_of_ne_zero h
    refine ⟨u + e, a % 2 ^ p + 2 ^ p, by omega, by omega, Or.inr (by omega), ?_⟩
    rw [he, Nat.mul_add, Nat.mul_one] at hd
    have : u + e - u = e := by omega
    rw [this, Nat.mul_comm e]
    omega
theorem kG_next {p u U c : Nat} (hU : u ≤ U) (hc : c < 2 ^ (p + 1)) (h : U = u ∨ 2 ^ p ≤ c) : kG p u ((U - u) * 2 ^ p + c + 1) = (c + 1) * 2 ^ U := by
  rw [Nat.add_assoc]
  exact kG_c hU hc (by omega)
theorem kG_lt (p u a : Nat) : kG p u a < kG p u (a + 1) := by
  obtain ⟨U, c, h1, h2, h3, rfl⟩ := kG_form p u a
  rw [kG_c h1 (Nat.le_of_lt h2) h3, kG_next h1 h2 h3]
  exact Nat.mul_lt_mul_of_pos_right (Nat.lt_succ_self c) (Nat.two_pow_pos U)
theorem kG_mono {p u a b : Nat} (h : a < b) : kG p u a < kG p u b := by
  obtain ⟨d, rfl⟩ : ∃ d, b = a + 1 + d := ⟨b - (a + 1), by omega⟩
  induction d with
  | zero => exact kG_lt p u a
  | succ d ih => exact Nat.lt_trans (ih (by omega)) (kG_lt p u (a + 1 + d))
theorem kG_le {p u a b : Nat} (h : a ≤ b) : kG p u a ≤ kG p u b := by
  rcases Nat.lt_or_eq_of_le h with h | h
  · exact Nat.le_of_lt (kG_mono h)
  · rw [h]; exact Nat.le_refl _
/-- N / M (in units of 2^-1088), rounded once to places below inf, is r -/
def kR (p u inf N M r : Nat) : Prop := ∃ a, a < inf ∧ kG p u a * M ≤ N ∧ (N < kG p u (a + 1) * M ∨ a + 1 = inf) ∧ ((2 * N < (kG p u a + kG p u (a + 1)) * M ∨ (2 * N = (kG p u a + kG p u (a + 1)) * M ∧ a % 2 = 0)) ∧ r = a ∨ ¬ (2 * N < (kG p u a + kG p u (a + 1)) * M ∨ (2 * N = (kG p u a + kG p u (a + 1)) * M ∧ a % 2 = 0)) ∧ r = a + 1)
theorem kR_a {p u inf N M a b : Nat} (ha : a < inf) (h1 : kG p u b * M ≤ N) (h2 : N < kG p u (a + 1) * M ∨ a + 1 = inf) (hb : b < inf) : b ≤ a := by
  rcases Nat.lt_or_ge a b with h | h
  · rcases h2 with h2 | h2
    · have h3 : kG p u (a + 1) * M ≤ kG p u b * M := Nat.mul_le_mul_right M (kG_le h)
      omega
    · omega
  · exact h
theorem kR_unique {p u inf N M r r' : Nat} (h : kR p u inf N M r) (h' : kR p u inf N M r') : r = r' := by
  obtain ⟨a, h1, h2, h3, h4⟩ := h
  obtain ⟨b, g1, g2, g3, g4⟩ := h'
  have e1 := kR_a h1 g2 h3 g1
  have e2 := kR_a g1 h2 g3 h1
  have e : a = b := Nat.le_antisymm e2 e1
  subst e
  rcases h4 with ⟨h4, h5⟩ | ⟨h4, h5⟩ <;> rcases g4 with ⟨g4, g5⟩ | ⟨g4, g5⟩
  · rw [h5, g5]
  · exact absurd h4 g4
  · exact absurd g4 h4
  · rw [h5, g5]
/-- the same number, another fraction -/
theorem kx_le {a N M N' M' : Nat} (hM : 0 < M) (hM' : 0 < M') (h : N * M' = N' * M) : a * M ≤ N ↔ a * M' ≤ N' := by
  constructor
  · intro q
    have h1 : a * M * M' ≤ N * M' := Nat.mul_le_mul_right M' q
    rw [h] at h1
    have h2 : a * M' * M ≤ N' * M := by
      rw [Nat.mul_right_comm]; exact h1
    exact Nat.le_of_mul_le_mul_right h2 hM
  · intro q
    have h1 : a * M' * M ≤ N' * M := Nat.mul_le_mul_right M q
    rw [← h] at h1
    have h2 : a * M * M' ≤ N * M' := by
      rw [Nat.mul_right_comm]; exact h1
    exact Nat.le_of_mul_le_mul_right h2 hM'
theorem kx_ge {a N M N' M' : Nat} (hM : 0 < M) (hM' : 0 < M') (h : N * M' = N' * M) : N ≤ a * M ↔ N' ≤ a * M' := by
  constructor
  · intro q
    have h1 : N * M' ≤ a * M * M' := Nat.mul_le_mul_right M' q
    rw [h, Nat.mul_right_comm] at h1
    exact Nat.le_of_mul_le_mul_right h1 hM
  · intro q
    have h1 : N' * M ≤ a * M' * M := Nat.mul_le_mul_right M q
    rw [← h, Nat.mul_right_comm] at h1
    exact Nat.le_of_mul_le_mul_right h1 hM'
theorem kR_same {p u inf N M N' M' r : Nat} (hM : 0 < M) (hM' : 0 < M') (h : N * M' = N' * M) (hR : kR p u inf N M r) : kR p u inf N' M' r := by
  obtain ⟨a, h1, h2, h3, h4⟩ := hR
  have hd : 2 * N * M' = 2 * N' * M := by rw [Nat.mul_assoc, h, Nat.mul_assoc]
  have l1 : ∀ x, x * M ≤ N ↔ x * M' ≤ N' := fun x => kx_le hM hM' h
  have l2 : ∀ x, 2 * N < x * M ↔ 2 * N' < x * M' := fun x => by
    rw [← Nat.not_le, ← Nat.not_le, kx_le (a := x) hM hM' hd]
  have l3 : ∀ x, 2 * N = x * M ↔ 2 * N' = x * M' := fun x => by
    have a1 := kx_le (a := x) hM hM' hd
    have a2 := kx_ge (a := x) hM hM' hd
    constructor
    · intro q; exact Nat.le_antisymm (a2.mp (Nat.le_of_eq q)) (a1.mp (Nat.le_of_eq q.symm))
    · intro q; exact Nat.le_antisymm (a2.mpr (Nat.le_of_eq q)) (a1.mpr (Nat.le_of_eq q.symm))
  have l4 : ∀ x, N < x * M ↔ N' < x * M' := fun x => by
    rw [← Nat.not_le, ← Nat.not_le, l1]
  refine ⟨a, h1, (l1 _).mp h2, ?_, ?_⟩
  · rcases h3 with h3 | h3
    · exact Or.inl ((l4 _).mp h3)
    · exact Or.inr h3
  · rw [← l2, ← l3]; exact h4
/-- past every place: infinity -/
theorem kR_inf {p u inf N M : Nat} (h0 : 0 < inf) (hM : 0 < M) (h : kG p u inf * M ≤ N) : kR p u inf N M inf := by
  obtain ⟨a, rfl⟩ : ∃ a, inf = a + 1 := ⟨inf - 1, by omega⟩
  have hlt := kG_lt p u a
  have h1 : kG p u a * M ≤ kG p u (a + 1) * M := Nat.mul_le_mul_right M (Nat.le_of_lt hlt)
  have h1' : kG p u a * M < kG p u (a + 1) * M := Nat.mul_lt_mul_of_pos_right hlt hM
  refine ⟨a, Nat.lt_succ_self a, by omega, Or.inr rfl, Or.inr ⟨?_, rfl⟩⟩
  rw [Nat.add_mul]
  omega
/-- a number and its bits: w is N / M cut at whole units, as far as multiples of 2^13 can tell; mo says whether it was cut -/
def kA (w : Nat) (mo : Bool) (N M : Nat) : Prop := ∀ j : Nat, (j * 8192 * M ≤ N ↔ j * 8192 ≤ w) ∧ (j * 8192 * M < N ↔ (j * 8192 < w ∨ (j * 8192 = w ∧ mo = true)))
/-- one rounding of the bits w at the unit 2^U -/
theorem kR_bits {p u U c w N M inf : Nat} {mo : Bool} (hu : 14 ≤ u) (hU : u ≤ U) (hA : kA w mo N M) (hc : c = w / 2 ^ U) (hc1 : c < 2 ^ (p + 1)) (hc2 : U = u ∨ 2 ^ p ≤ c) (hi : (U - u) * 2 ^ p + c < inf) (hp : 1 ≤ p) :
    kR p u inf N M (if w / 2 ^ (U - 1) % 2 = 1 ∧ (c % 2 = 1 ∨ w % 2 ^ (U - 1) ≠ 0 ∨ mo = true) then (U - u) * 2 ^ p + c + 1 else (U - u) * 2 ^ p + c) := by
  obtain ⟨V, rfl⟩ : ∃ V, U = V + 14 := ⟨U - 14, by omega⟩
  have e13 : 2 ^ (V + 14) = 2 ^ V * 2 * 8192 := by
    rw [show V + 14 = V + 1 + 13 by omega, Nat.pow_add, Nat.pow_succ]
  have eh : 2 ^ (V + 14 - 1) = 2 ^ V * 8192 := by
    rw [show V + 14 - 1 = V + 13 by omega, Nat.pow_add]
  have hV : 0 < 2 ^ V := Nat.two_pow_pos V
  have hG := kG_c hU (Nat.le_of_lt hc1) hc2
  have hG1 := kG_next hU hc1 hc2
  -- w = c * 2^U + h * 2^(U-1) + r
  have hpos : 0 < 2 ^ (V + 14) := Nat.two_pow_pos _
  have hw := Nat.div_add_mod w (2 ^ (V + 14))
  have hr := Nat.mod_lt w hpos
  rw [← hc] at hw
  have hA0 := hA (c * (2 ^ V * 2))
  have hA1 := hA ((c + 1) * (2 ^ V * 2))
  have hA2 := hA (c * (2 ^ V * 2) + 2 ^ V)
  have k0 : c * (2 ^ V * 2) * 8192 = c * 2 ^ (V + 14) := by rw [e13, Nat.mul_assoc, Nat.mul_assoc]
  have k1 : (c + 1) * (2 ^ V * 2) * 8192 = (c + 1) * 2 ^ (V + 14) := by rw [e13, Nat.mul_assoc, Nat.mul_assoc]
  have k2 : (c * (2 ^ V * 2) + 2 ^ V) * 8192 = c * 2 ^ (V + 14) + 2 ^ V * 8192 := by rw [Nat.add_mul, k0]
  rw [k0] at hA0
  rw [k1] at hA1
  rw [k2] at hA2
  have hcc : 2 ^ (V + 14) * c = c * 2 ^ (V + 14) := Nat.mul_comm _ _
  have hc1m : (c + 1) * 2 ^ (V + 14) = c * 2 ^ (V + 14) + 2 ^ (V + 14) := by rw [Nat.add_mul, Nat.one_mul]
  -- the half
  have hmid : (c * 2 ^ (V + 14) + (c + 1) * 2 ^ (V + 14)) = 2 * (c * 2 ^ (V + 14) + 2 ^ V * 8192) := by
    rw [hc1m, e13]; omega
  have hpar : ((V + 14 - u) * 2 ^ p + c) % 2 = c % 2 := by
    obtain ⟨p', rfl⟩ : ∃ p', p = p' + 1 := ⟨p - 1, by omega⟩
    rw [Nat.pow_succ, ← Nat.mul_assoc, Nat.add_comm, Nat.add_mul_mod_self_right]
  -- bits
  have hbit : w / 2 ^ (V + 14 - 1) % 2 = 1 ↔ 2 ^ V * 8192 ≤ w % 2 ^ (V + 14) := by
    rw [eh]
    have hq : 0 < 2 ^ V * 8192 := by omega
    have e2 : 2 ^ (V + 14) = (2 ^ V * 8192) * 2 := by rw [e13, Nat.mul_right_comm]
    rw [e2]
    have := Nat.mod_mul (x := w) (a := 2 ^ V * 8192) (b := 2)
    rw [this]
    have hlt := Nat.mod_lt w hq
    rcases Nat.mod_two_eq_zero_or_one (w / (2 ^ V * 8192)) with h | h
    · rw [h]; constructor
      · intro z; omega
      · intro z; omega
    · rw [h]; constructor
      · intro z; omega
      · intro z; rfl
  have hlow : 2 ^ V * 8192 ≤ w % 2 ^ (V + 14) → (w % 2 ^ (V + 14 - 1) ≠ 0 ↔ 2 ^ V * 8192 < w % 2 ^ (V + 14)) := by
    intro hle
    rw [eh]
    have hq : 0 < 2 ^ V * 8192 := by omega
    have e2 : 2 ^ (V + 14) = (2 ^ V * 8192) * 2 := by rw [e13, Nat.mul_right_comm]
    rw [e2] at hle ⊢
    have hm := Nat.mod_mul (x := w) (a := 2 ^ V * 8192) (b := 2)
    rw [hm] at hle ⊢
    have hlt := Nat.mod_lt w hq
    rcases Nat.mod_two_eq_zero_or_one (w / (2 ^ V * 8192)) with h | h
    · rw [h] at hle ⊢; omega
    · rw [h]; omega
  refine ⟨(V + 14 - u) * 2 ^ p + c, hi, ?_, ?_, ?_⟩
  · rw [hG]; exact hA0.1.mpr (by omega)
  · left
    rw [hG1]
    rcases Nat.lt_or_ge N ((c + 1) * 2 ^ (V + 14) * M) with h | h
    · exact h
    · have := hA1.1.mp h
      omega
  · rw [hG, hG1, hmid, hpar]
    have hx1 : 2 * N < 2 * (c * 2 ^ (V + 14) + 2 ^ V * 8192) * M ↔ ¬ ((c * 2 ^ (V + 14) + 2 ^ V * 8192) * M ≤ N) := by
      rw [Nat.mul_assoc]; omega
    have hx2 : 2 * N = 2 * (c * 2 ^ (V + 14) + 2 ^ V * 8192) * M ↔ (((c * 2 ^ (V + 14) + 2 ^ V * 8192) * M ≤ N) ∧ ¬ ((c * 2 ^ (V + 14) + 2 ^ V * 8192) * M < N)) := by
      rw [Nat.mul_assoc]; omega
    rw [hx1, hx2, hA2.1, hA2.2]
    by_cases hb : 2 ^ V * 8192 ≤ w % 2 ^ (V + 14)
    · have hl := hlow hb
      have hb1 := hbit.mpr hb
      by_cases hs : 2 ^ V * 8192 < w % 2 ^ (V + 14)
      · right
        have := hl.mpr hs
        rw [if_pos ⟨hb1, Or.inr (Or.inl this)⟩]
        refine ⟨fun z => ?_, rfl⟩
        rcases z with z | ⟨⟨z1, z2⟩, z3⟩
        · omega
        · exact z2 (Or.inl (by omega))
      · have hz : ¬ (w % 2 ^ (V + 14 - 1) ≠ 0) := fun z => hs (hl.mp z)
        have heq : c * 2 ^ (V + 14) + 2 ^ V * 8192 = w := by omega
        by_cases hm : mo = true
        · right
          rw [if_pos ⟨hb1, Or.inr (Or.inr hm)⟩]
          refine ⟨fun z => ?_, rfl⟩
          rcases z with z | ⟨⟨z1, z2⟩, z3⟩
          · omega
          · exact z2 (Or.inr ⟨heq, hm⟩)
        · rcases Nat.mod_two_eq_zero_or_one c with hc0 | hc0
          · left
            rw [if_neg (by
              rintro ⟨-, z | z | z⟩
              · omega
              · exact hz z
              · exact hm z)]
            refine ⟨Or.inr ⟨⟨by omega, fun z => ?_⟩, hc0⟩, rfl⟩
            rcases z with z | z
            · omega
            · exact hm z.2
          · right
            rw [if_pos ⟨hb1, Or.inl hc0⟩]
            refine ⟨fun z => ?_, rfl⟩
            rcases z with z | ⟨⟨z1, z2⟩, z3⟩
            · omega
            · omega
    · left
      have hb1 : ¬ (w / 2 ^ (V + 14 - 1) % 2 = 1) := fun z => hb (hbit.mp z)
      rw [if_neg (fun z => hb1 z.1)]
      exact ⟨Or.inl (by omega), rfl⟩
end
section
/-! PURE: numbers of n digits to the base B, the highest first -/
def hv (B : Nat) (f : Nat → Nat) : Nat → Nat
  | 0 => 0
  | n + 1 => hv B f n * B + f n
theorem hv_congr {B : Nat} {f g : Nat → Nat} : ∀ {n : Nat}, (∀ i, i < n → f i = g i) → hv B f n = hv B g n
  | 0, _ => rfl
  | n + 1, h => by
    rw [hv, hv, hv_congr (n := n) (fun i hi => h i (by omega)), h n (by omega)]
theorem hv_lt {B : Nat} {f : Nat → Nat} : ∀ {n : Nat}, (∀ i, i < n → f i < B) → hv B f n < B ^ n
  | 0, _ => by simp [hv]
  | n + 1, h => by
    have ih := hv_lt (n := n) (fun i hi => h i (by omega))
    have hn := h n (by omega)
    rw [hv, Nat.pow_succ]
    have h1 : (hv B f n + 1) * B ≤ B ^ n * B := Nat.mul_le_mul_right B ih
    rw [Nat.add_mul, Nat.one_mul] at h1
    omega
theorem hv_app (B : Nat) (f : Nat → Nat) (n : Nat) : ∀ m : Nat, hv B f (n + m) = hv B f n * B ^ m + hv B (fun i => f (n + i)) m
  | 0 => by simp [hv]
  | m + 1 => by
    rw [← Nat.add_assoc, hv, hv_app B f n m, hv, Nat.pow_succ, Nat.add_mul, Nat.mul_assoc, Nat.add_assoc]
theorem hv_zero (B : Nat) {f : Nat → Nat} : ∀ {n : Nat}, (∀ i, i < n → f i = 0) → hv B f n = 0
  | 0, _ => rfl
  | n + 1, h => by
    rw [hv, hv_zero B (n := n) (fun i hi => h i (by omega)), h n (by omega)]
    simp
theorem hv_pos {B : Nat} (hB : 0 < B) {f : Nat → Nat} : ∀ {n k : Nat}, k < n → f k ≠ 0 → hv B f n ≠ 0
  | 0, k, h, _ => by omega
  | n + 1, k, h, hk => by
    rw [hv]
    rcases Nat.lt_or_eq_of_le (Nat.le_of_lt_succ h) with h1 | h1
    · have := hv_pos hB (n := n) h1 hk
      have h2 : 0 < hv B f n * B := Nat.mul_pos (Nat.pos_of_ne_zero this) hB
      omega
    · subst h1
      omega
theorem hv_eq0 {B : Nat} (hB : 0 < B) {f : Nat → Nat} {n : Nat} (h : hv B f n = 0) : ∀ i, i < n → f i = 0 := by
  intro i hi
  rcases Nat.eq_zero_or_pos (f i) with h1 | h1
  · exact h1
  · exact absurd h (hv_pos hB hi (by omega))
/-- one digit changed -/
def nup (f : Nat → Nat) (k x : Nat) : Nat → Nat := fun j => if j = k then x else f j
theorem hv_set {B : Nat} {f : Nat → Nat} {k x : Nat} : ∀ {n : Nat}, k < n → hv B (nup f k x) n + f k * B ^ (n - 1 - k) = hv B f n + x * B ^ (n - 1 - k)
  | 0, h => by omega
  | n + 1, h => by
    rcases Nat.lt_or_eq_of_le (Nat.le_of_lt_succ h) with h1 | h1
    · have ih := hv_set (B := B) (f := f) (x := x) h1
      have e : n + 1 - 1 - k = (n - 1 - k) + 1 := by omega
      have e2 : nup f k x n = f n := by simp [nup]; omega
      rw [hv, hv, e, Nat.pow_succ, e2]
      have h2 : (hv B (nup f k x) n + f k * B ^ (n - 1 - k)) * B = (hv B f n + x * B ^ (n - 1 - k)) * B := by rw [ih]
      rw [Nat.add_mul, Nat.add_mul, Nat.mul_assoc, Nat.mul_assoc] at h2
      omega
    · subst h1
      have e : k + 1 - 1 - k = 0 := by omega
      have e2 : hv B (nup f k x) k = hv B f k := hv_congr (fun i hi => by simp [nup]; omega)
      rw [hv, hv, e, e2]
      simp [nup]
      omega
/-- a digit out of the number -/
theorem hv_div {B : Nat} (hB : 0 < B) {f : Nat → Nat} {n m : Nat} (hf : ∀ i, i < n + m → f i < B) : hv B f (n + m) / B ^ m = hv B f n := by
  rw [hv_app]
  have h1 := hv_lt (B := B) (f := fun i => f (n + i)) (n := m) (fun i hi => hf (n + i) (by omega))
  rw [Nat.mul_comm, Nat.mul_add_div (Nat.pow_pos hB), Nat.div_eq_of_lt h1, Nat.add_zero]
theorem hv_mod {B : Nat} (hB : 0 < B) {f : Nat → Nat} {n m : Nat} (hf : ∀ i, i < n + m → f i < B) : hv B f (n + m) % B ^ m = hv B (fun i => f (n + i)) m := by
  rw [hv_app]
  have h1 := hv_lt (B := B) (f := fun i => f (n + i)) (n := m) (fun i hi => hf (n + i) (by omega))
  rw [Nat.mul_comm, Nat.mul_add_mod, Nat.mod_eq_of_lt h1]
theorem hv_dig {B : Nat} (hB : 0 < B) {f : Nat → Nat} {n k : Nat} (hk : k < n) (hf : ∀ i, i < n → f i < B) : hv B f n / B ^ (n - 1 - k) % B = f k := by
  obtain ⟨d, rfl⟩ : ∃ d, n = k + 1 + d := ⟨n - (k + 1), by omega⟩
  have e : k + 1 + d - 1 - k = d := by omega
  rw [e, hv_div hB hf, hv, Nat.mul_comm, Nat.mul_add_mod, Nat.mod_eq_of_lt (hf k (by omega))]
theorem hv_cons (B : Nat) (f : Nat → Nat) (k : Nat) : hv B f (k + 1) = f 0 * B ^ k + hv B (fun i => f (1 + i)) k := by
  have h := hv_app B f 1 k
  rw [Nat.add_comm 1 k] at h
  rw [h]
  simp [hv]
end
section
/-! PURE: the text. t: the tape's bytes (as Java's ints); a position a, an end z -/
/-- a byte's digit: 0 to 15; 16 for none -/
def dg (x : Int32) : Nat := if 48 ≤ x.toInt ∧ x.toInt ≤ 57 then (x.toInt - 48).toNat else if 97 ≤ x.toInt ∧ x.toInt ≤ 102 then (x.toInt - 87).toNat else if 65 ≤ x.toInt ∧ x.toInt ≤ 70 then (x.toInt - 55).toNat else 16
theorem dg_le (x : Int32) : dg x ≤ 16 := by
  unfold dg
  split
  · omega
  · split
    · omega
    · split <;> omega
/-- how many digits below b stand at a, of at most k -/
def rn (t : Nat → Int32) (b : Nat) : Nat → Nat → Nat
  | _, 0 => 0
  | a, k + 1 => if dg (t a) < b then rn t b (a + 1) k + 1 else 0
theorem rn_le (t : Nat → Int32) (b : Nat) : ∀ (k a : Nat), rn t b a k ≤ k
  | 0, a => by simp [rn]
  | k + 1, a => by
    unfold rn
    split
    · have := rn_le t b k (a + 1); omega
    · omega
theorem rn_in (t : Nat → Int32) (b : Nat) : ∀ (k a i : Nat), i < rn t b a k → dg (t (a + i)) < b
  | 0, a, i, h => by simp [rn] at h
  | k + 1, a, i, h => by
    unfold rn at h
    split at h
    · rename_i h1
      cases i with
      | zero => simpa using h1
      | succ i =>
        have := rn_in t b k (a + 1) i (by omega)
        rw [show a + (i + 1) = a + 1 + i by omega]
        exact this
    · omega
theorem rn_end (t : Nat → Int32) (b : Nat) : ∀ (k a : Nat), rn t b a k < k → ¬ dg (t (a + rn t b a k)) < b
  | 0, a, h => by simp [rn] at h
  | k + 1, a, h => by
    unfold rn at h ⊢
    split at h
    · rename_i h1
      rw [if_pos h1]
      have := rn_end t b k (a + 1) (by omega)
      rw [show a + (rn t b (a + 1) k + 1) = a + 1 + rn t b (a + 1) k by omega]
      exact this
    · rename_i h1
      rw [if_neg h1]
      simpa using h1
theorem rn_ge (t : Nat → Int32) (b : Nat) : ∀ (k a j : Nat), j ≤ k → (∀ i, i < j → dg (t (a + i)) < b) → j ≤ rn t b a k
  | 0, a, j, h, _ => by omega
  | k + 1, a, 0, h, _ => Nat.zero_le _
  | k + 1, a, j + 1, h, hd => by
    unfold rn
    rw [if_pos (by simpa using hd 0 (by omega))]
    have := rn_ge t b k (a + 1) j (by omega) (fun i hi => by
      have := hd (i + 1) (by omega)
      rw [show a + 1 + i = a + (i + 1) by omega]
      exact this)
    omega
theorem rn_eq {t : Nat → Int32} {b k a j : Nat} (hj : j ≤ k) (hd : ∀ i, i < j → dg (t (a + i)) < b) (he : j = k ∨ ¬ dg (t (a + j)) < b) : rn t b a k = j := by
  have h1 := rn_ge t b k a j hj hd
  have h2 := rn_le t b k a
  rcases he with he | he
  · omega
  · rcases Nat.lt_or_eq_of_le h1 with h | h
    · exact absurd (rn_in t b k a j h) he
    · exact h.symm
theorem rn_congr {t t' : Nat → Int32} {b : Nat} : ∀ (k a : Nat), (∀ i, a ≤ i → i < a + k → t i = t' i) → rn t b a k = rn t' b a k
  | 0, a, _ => by simp [rn]
  | k + 1, a, h => by
    unfold rn
    rw [h a (by omega) (by omega), rn_congr k (a + 1) (fun i h1 h2 => h i (by omega) (by omega))]
/-- the place behind the blanks at a, before z = a + k -/
def ld (t : Nat → Int32) : Nat → Nat → Nat
  | a, 0 => a
  | a, k + 1 => if 0 ≤ (t a).toInt ∧ (t a).toInt ≤ 32 then ld t (a + 1) k else a
theorem ld_ge (t : Nat → Int32) : ∀ (k a : Nat), a ≤ ld t a k ∧ ld t a k ≤ a + k
  | 0, a => by simp [ld]
  | k + 1, a => by
    unfold ld
    split
    · have := ld_ge t k (a + 1); omega
    · omega
/-- the end without the blanks before a + k, not below a -/
def tr (t : Nat → Int32) (a : Nat) : Nat → Nat
  | 0 => a
  | k + 1 => if 0 ≤ (t (a + k)).toInt ∧ (t (a + k)).toInt ≤ 32 then tr t a k else a + k + 1
theorem tr_ge (t : Nat → Int32) (a : Nat) : ∀ k : Nat, a ≤ tr t a k ∧ tr t a k ≤ a + k
  | 0 => by simp [tr]
  | k + 1 => by
    unfold tr
    split
    · have := tr_ge t a k; omega
    · omega
/-- does the byte x stand at a -/
def isc (t : Nat → Int32) (a z : Nat) (x : Int32) : Prop := a < z ∧ t a = x
end
section
/-! PURE: two rows of digits, compared from the first -/
theorem hv_first {B : Nat} {f g : Nat → Nat} {k m : Nat} (hk : k < m) (he : ∀ i, i < k → f i = g i) (hlt : f k < g k) (hf : ∀ i, i < m → f i < B) : hv B f m < hv B g m := by
  obtain ⟨d, rfl⟩ : ∃ d, m = k + 1 + d := ⟨m - (k + 1), by omega⟩
  rw [hv_app B f (k + 1) d, hv_app B g (k + 1) d]
  have h1 : hv B f (k + 1) + 1 ≤ hv B g (k + 1) := by
    rw [hv, hv, hv_congr he]
    omega
  have h2 := hv_lt (B := B) (f := fun i => f (k + 1 + i)) (n := d) (fun i hi => hf (k + 1 + i) (by omega))
  have h3 : (hv B f (k + 1) + 1) * B ^ d ≤ hv B g (k + 1) * B ^ d := Nat.mul_le_mul_right _ h1
  rw [Nat.add_mul, Nat.one_mul] at h3
  omega
/-- digits behind the n-th are 0 -/
def dz (f : Nat → Nat) (n : Nat) : Nat → Nat := fun i => if i < n then f i else 0
theorem hv_dz {B : Nat} (f : Nat → Nat) (n d : Nat) : hv B (dz f n) (n + d) = hv B f n * B ^ d := by
  rw [hv_app]
  have h1 : hv B (dz f n) n = hv B f n := hv_congr (fun i hi => by simp [dz, hi])
  have h2 : hv B (fun i => dz f n (n + i)) d = 0 := hv_zero B (fun i hi => by unfold dz; rw [if_neg (by omega)])
  rw [h1, h2, Nat.add_zero]
theorem hv_ge {B : Nat} {f : Nat → Nat} {n : Nat} (hn : 0 < n) (h0 : 0 < f 0) : B ^ (n - 1) ≤ hv B f n := by
  obtain ⟨d, rfl⟩ : ∃ d, n = 1 + d := ⟨n - 1, by omega⟩
  rw [hv_app]
  have e : hv B f 1 = f 0 := by simp [hv]
  rw [e, show 1 + d - 1 = d by omega]
  have := Nat.mul_le_mul_right (B ^ d) h0
  rw [Nat.one_mul] at this
  omega
/-- little end first -/
def le (B : Nat) (f : Nat → Nat) : Nat → Nat
  | 0 => 0
  | n + 1 => le B f n + f n * B ^ n
theorem le_congr {B : Nat} {f g : Nat → Nat} : ∀ {n : Nat}, (∀ i, i < n → f i = g i) → le B f n = le B g n
  | 0, _ => rfl
  | n + 1, h => by
    rw [le, le, le_congr (n := n) (fun i hi => h i (by omega)), h n (by omega)]
theorem le_lt {B : Nat} {f : Nat → Nat} : ∀ {n : Nat}, (∀ i, i < n → f i < B) → le B f n < B ^ n
  | 0, _ => by simp [le]
  | n + 1, h => by
    have ih := le_lt (n := n) (fun i hi => h i (by omega))
    have hn := h n (by omega)
    rw [le, Nat.pow_succ]
    have h1 : (f n + 1) * B ^ n ≤ B * B ^ n := Nat.mul_le_mul_right _ hn
    rw [Nat.add_mul, Nat.one_mul] at h1
    rw [Nat.mul_comm (B ^ n) B]
    omega
/-- a step of 'times': carry in, digit out -/
theorem le_step {B by' : Nat} (hB : 0 < B) {c l : Nat} (hc : c < by') (hl : l < B) : (c + l * by') / B < by' := by
  rw [Nat.div_lt_iff_lt_mul hB]
  have h1 : (l + 1) * by' ≤ B * by' := Nat.mul_le_mul_right _ hl
  rw [Nat.add_mul, Nat.one_mul] at h1
  rw [Nat.mul_comm by' B]
  omega
end
section
/-! PURE: digits to the base b laid down by places: the j-th digit stands at the place j + s (s may be below 0), the places 0 to C - 1 are kept -/
def eS (C : Nat) (dgt : Nat → Nat) (s : Int) : Nat → Nat → Nat
  | 0 => fun _ => 0
  | k + 1 => if s + (k : Int) < 0 ∨ (C : Int) ≤ s + (k : Int) then eS C dgt s k else nup (eS C dgt s k) (s + (k : Int)).toNat (dgt k)
/-- what the digits before the k-th are worth, in units of the last place -/
def adS (b C : Nat) (dgt : Nat → Nat) (s : Int) : Nat → Nat
  | 0 => 0
  | k + 1 => if s + (k : Int) < 0 ∨ (C : Int) ≤ s + (k : Int) then adS b C dgt s k else adS b C dgt s k + dgt k * b ^ (C - 1 - (s + (k : Int)).toNat)
/-- places not reached yet are 0 -/
theorem eS_new {C : Nat} {dgt : Nat → Nat} {s : Int} : ∀ {k : Nat} {P : Nat}, s + (k : Int) ≤ (P : Int) → eS C dgt s k P = 0
  | 0, P, _ => rfl
  | k + 1, P, h => by
    rw [eS]
    split
    · exact eS_new (k := k) (by omega)
    · rename_i hn
      unfold nup
      rw [if_neg (by omega)]
      exact eS_new (k := k) (by omega)
theorem eS_lt {b C : Nat} {dgt : Nat → Nat} {s : Int} (hb : 0 < b) (hd : ∀ j, dgt j < b) : ∀ {k : Nat} {P : Nat}, eS C dgt s k P < b
  | 0, P => hb
  | k + 1, P => by
    rw [eS]
    split
    · exact eS_lt hb hd (k := k)
    · unfold nup
      split
      · exact hd k
      · exact eS_lt hb hd (k := k)
theorem eS_sum {b C : Nat} {dgt : Nat → Nat} {s : Int} : ∀ k : Nat, hv b (eS C dgt s k) C = adS b C dgt s k
  | 0 => hv_zero _ (fun i _ => rfl)
  | k + 1 => by
    have ih := eS_sum (b := b) (C := C) (dgt := dgt) (s := s) k
    rw [eS, adS]
    by_cases h0 : s + (k : Int) < 0 ∨ (C : Int) ≤ s + (k : Int)
    · rw [if_pos h0, if_pos h0]
      exact ih
    · rw [if_neg h0, if_neg h0]
      obtain ⟨n, hn⟩ := Int.eq_ofNat_of_zero_le (show 0 ≤ s + (k : Int) by omega)
      rw [hn, Int.toNat_natCast]
      have h1 := hv_set (B := b) (f := eS C dgt s k) (k := n) (x := dgt k) (n := C) (by omega)
      rw [eS_new (by omega), Nat.zero_mul, Nat.add_zero, ih] at h1
      exact h1
/-- is a digit before place 0; behind the last -/
def adH (dgt : Nat → Nat) (s : Int) (k : Nat) : Prop := ∃ j, j < k ∧ dgt j ≠ 0 ∧ s + (j : Int) < 0
def adM (C : Nat) (dgt : Nat → Nat) (s : Int) (k : Nat) : Prop := ∃ j, j < k ∧ dgt j ≠ 0 ∧ (C : Int) ≤ s + (j : Int)
/-- all digits up to the last place: exactly -/
theorem adS_in {b C : Nat} {dgt : Nat → Nat} {s : Int} : ∀ {k : Nat}, ¬ adH dgt s k → s + (k : Int) ≤ C → (s + (k : Int) < 0 → adS b C dgt s k = 0 ∧ hv b dgt k = 0) ∧ (0 ≤ s + (k : Int) → adS b C dgt s k = hv b dgt k * b ^ (C - (s + (k : Int)).toNat))
  | 0, _, _ => ⟨fun _ => ⟨rfl, rfl⟩, fun _ => by simp [adS, hv]⟩
  | k + 1, hH, hk => by
    have hH' : ¬ adH dgt s k := fun ⟨j, h1, h2⟩ => hH ⟨j, by omega, h2⟩
    have ih := adS_in (b := b) (C := C) (k := k) hH' (by omega)
    have hk0 : s + (k : Int) < 0 → dgt k = 0 := fun h => by
      rcases Nat.eq_zero_or_pos (dgt k) with z | z
      · exact z
      · exact absurd ⟨k, by omega, by omega, h⟩ hH
    rw [adS, hv]
    by_cases h0 : s + (k : Int) < 0
    · obtain ⟨i1, i2⟩ := ih.1 h0
      rw [if_pos (Or.inl h0), i1, i2, hk0 h0]
      exact ⟨fun _ => ⟨rfl, by simp⟩, fun _ => by simp⟩
    · rw [if_neg (by omega), ih.2 (by omega)]
      refine ⟨fun h => by omega, fun h => ?_⟩
      obtain ⟨n, hn⟩ := Int.eq_ofNat_of_zero_le (show 0 ≤ s + (k : Int) by omega)
      have e1 : (s + (k : Int)).toNat = n := by omega
      have e2 : (s + ((k + 1 : Nat) : Int)).toNat = n + 1 := by omega
      rw [e1, e2]
      have hn2 : n + 1 ≤ C := by omega
      have e3 : C - n = C - 1 - n + 1 := by omega
      have e4 : C - (n + 1) = C - 1 - n := by omega
      rw [e3, e4, Nat.pow_succ, Nat.add_mul, Nat.mul_assoc, Nat.mul_comm (b ^ (C - 1 - n)) b]
/-- digits behind the last place add nothing -/
theorem adS_out {b C : Nat} {dgt : Nat → Nat} {s : Int} {k0 : Nat} (h0 : (C : Int) ≤ s + (k0 : Int)) : ∀ d : Nat, adS b C dgt s (k0 + d) = adS b C dgt s k0
  | 0 => rfl
  | d + 1 => by
    rw [← Nat.add_assoc, adS, if_pos (Or.inr (by omega)), adS_out h0 d]
/-- the number that n digits make from the place s on, in units of the last place: the places hold its whole part, 'more' says whether it has a rest -/
theorem adS_all {b C : Nat} {dgt : Nat → Nat} {s : Int} {n : Nat} (hb : 0 < b) (hd : ∀ j, dgt j < b) (hH : ¬ adH dgt s n) :
    (s + (n : Int) ≤ C → adS b C dgt s n = hv b dgt n * b ^ ((C : Int) - (s + (n : Int))).toNat ∧ ¬ adM C dgt s n) ∧
    ((C : Int) < s + (n : Int) → hv b dgt n / b ^ (s + (n : Int) - C).toNat = adS b C dgt s n ∧ (hv b dgt n % b ^ (s + (n : Int) - C).toNat ≠ 0 ↔ adM C dgt s n)) := by
  refine ⟨fun h => ?_, fun h => ?_⟩
  · have h1 := adS_in (b := b) (C := C) hH h
    refine ⟨?_, fun ⟨j, h2, h3, h4⟩ => by omega⟩
    by_cases h0 : s + (n : Int) < 0
    · obtain ⟨i1, i2⟩ := h1.1 h0
      rw [i1, i2, Nat.zero_mul]
    · rw [h1.2 (by omega)]
      congr 2
      omega
  · by_cases hs : s ≤ C
    · obtain ⟨k, hk⟩ : ∃ k : Nat, s + (k : Int) = C := ⟨((C : Int) - s).toNat, by omega⟩
      obtain ⟨d, rfl⟩ : ∃ d, n = k + d := ⟨n - k, by omega⟩
      have e : (s + ((k + d : Nat) : Int) - C).toNat = d := by omega
      have hHk : ¬ adH dgt s k := fun ⟨j, h1, h2⟩ => hH ⟨j, by omega, h2⟩
      have h1 := (adS_in (b := b) (C := C) hHk (by omega)).2 (by omega)
      rw [hk] at h1
      simp at h1
      rw [e, adS_out (by omega) d, h1, hv_div hb (fun i _ => hd i), hv_mod hb (fun i _ => hd i)]
      refine ⟨rfl, ?_⟩
      constructor
      · intro hz
        rcases Classical.em (adM C dgt s (k + d)) with h2 | h2
        · exact h2
        · exact absurd (hv_zero b (fun i hi => by
            rcases Nat.eq_zero_or_pos (dgt (k + i)) with z | z
            · exact z
            · exact absurd ⟨k + i, by omega, by omega, by omega⟩ h2)) hz
      · rintro ⟨j, h2, h3, h4⟩
        exact hv_pos hb (k := j - k) (by omega) (by rw [show k + (j - k) = j by omega]; exact h3)
    · have hall : ∀ k : Nat, adS b C dgt s k = 0 := fun k => by
        induction k with
        | zero => rfl
        | succ k ih => rw [adS, if_pos (Or.inr (by omega)), ih]
      have hlt := hv_lt (B := b) (f := dgt) (n := n) (fun i _ => hd i)
      have hle : b ^ n ≤ b ^ (s + (n : Int) - C).toNat := Nat.pow_le_pow_right hb (by omega)
      rw [hall, Nat.div_eq_of_lt (Nat.lt_of_lt_of_le hlt hle), Nat.mod_eq_of_lt (Nat.lt_of_lt_of_le hlt hle)]
      refine ⟨rfl, ?_⟩
      constructor
      · intro hz
        rcases Classical.em (adM C dgt s n) with h2 | h2
        · exact h2
        · exact absurd (hv_zero b (fun i hi => by
            rcases Nat.eq_zero_or_pos (dgt i) with z | z
            · exact z
            · exact absurd ⟨i, hi, by omega, by omega⟩ h2)) hz
      · rintro ⟨j, h2, h3, h4⟩
        exact hv_pos hb h2 h3
/-- places in groups of w: the k-th group's number -/
theorem hv_group {b w : Nat} {e : Nat → Nat} {f : Nat → Nat} : ∀ {n : Nat}, (∀ k, k < n → f k = hv b (fun i => e (w * k + i)) w) → hv (b ^ w) f n = hv b e (w * n)
  | 0, _ => rfl
  | n + 1, h => by
    rw [hv, hv_group (n := n) (fun k hk => h k (by omega)), h n (by omega), Nat.mul_add, Nat.mul_one, hv_app]
end
section
/-! PURE: m digits to the base B (the highest first, from the place o on) times T, and c0: from the last digit up; the carry behind k digits -/
def maC (B T c0 : Nat) (f : Nat → Nat) (m : Nat) : Nat → Nat
  | 0 => c0
  | k + 1 => (f (m - 1 - k) * T + maC B T c0 f m k) / B
/-- the digits when k of them are done -/
def maF (B T c0 : Nat) (f : Nat → Nat) (m k : Nat) : Nat → Nat := fun i => if m - k ≤ i ∧ i < m then (f i * T + maC B T c0 f m (m - 1 - i)) % B else f i
theorem maF_0 (B T c0 : Nat) (f : Nat → Nat) (m : Nat) : maF B T c0 f m 0 = f := by
  funext i
  unfold maF
  rw [if_neg (by omega)]
theorem maF_succ {B T c0 : Nat} {f : Nat → Nat} {m k : Nat} (hk : k < m) : maF B T c0 f m (k + 1) = nup (maF B T c0 f m k) (m - 1 - k) ((f (m - 1 - k) * T + maC B T c0 f m k) % B) := by
  funext i
  unfold nup
  by_cases hi : i = m - 1 - k
  · rw [if_pos hi]
    unfold maF
    rw [if_pos (by omega), hi, show m - 1 - (m - 1 - k) = k by omega]
  · rw [if_neg hi]
    unfold maF
    by_cases h1 : m - k ≤ i ∧ i < m
    · rw [if_pos h1, if_pos (by omega)]
    · rw [if_neg h1, if_neg (by omega)]
theorem maF_old {B T c0 : Nat} {f : Nat → Nat} {m k i : Nat} (hi : i < m - k) : maF B T c0 f m k i = f i := by
  unfold maF
  rw [if_neg (by omega)]
theorem maC_lt {B T c0 : Nat} {f : Nat → Nat} {m : Nat} (hB : 0 < B) (hc : c0 ≤ T) (hT : 0 < T) (hf : ∀ i, i < m → f i < B) : ∀ k, k ≤ m → maC B T c0 f m k ≤ T
  | 0, _ => hc
  | k + 1, hk => by
    have ih := maC_lt hB hc hT hf k (by omega)
    have h1 := hf (m - 1 - k) (by omega)
    rw [maC]
    apply Nat.div_le_of_le_mul
    have h2 : (f (m - 1 - k) + 1) * T ≤ B * T := Nat.mul_le_mul_right _ h1
    rw [Nat.add_mul, Nat.one_mul] at h2
    omega
theorem maF_lt {B T c0 : Nat} {f : Nat → Nat} {m k : Nat} (hB : 0 < B) (hf : ∀ i, i < m → f i < B) : ∀ i, i < m → maF B T c0 f m k i < B := fun i hi => by
  unfold maF
  split
  · exact Nat.mod_lt _ hB
  · exact hf i hi
/-- what k steps have made -/
theorem ma_sum {B T c0 : Nat} {f : Nat → Nat} {m : Nat} : ∀ k, k ≤ m → maC B T c0 f m k * B ^ k + hv B (fun i => maF B T c0 f m k (m - k + i)) k = hv B (fun i => f (m - k + i)) k * T + c0
  | 0, _ => by simp [maC, hv]
  | k + 1, hk => by
    have ih := ma_sum (B := B) (T := T) (c0 := c0) (f := f) (m := m) k (by omega)
    have e1 : hv B (fun i => maF B T c0 f m (k + 1) (m - (k + 1) + i)) (k + 1) = maF B T c0 f m (k + 1) (m - 1 - k) * B ^ k + hv B (fun i => maF B T c0 f m k (m - k + i)) k := by
      rw [hv_cons]
      congr 1
      · show maF B T c0 f m (k + 1) (m - (k + 1) + 0) * B ^ k = _
        rw [show m - (k + 1) + 0 = m - 1 - k by omega]
      · apply hv_congr
        intro i hi
        show maF B T c0 f m (k + 1) (m - (k + 1) + (1 + i)) = maF B T c0 f m k (m - k + i)
        rw [show m - (k + 1) + (1 + i) = m - k + i by omega]
        unfold maF
        rw [if_pos (by omega), if_pos (by omega)]
    have e3 : hv B (fun i => f (m - (k + 1) + i)) (k + 1) = f (m - 1 - k) * B ^ k + hv B (fun i => f (m - k + i)) k := by
      rw [hv_cons]
      congr 1
      · show f (m - (k + 1) + 0) * B ^ k = _
        rw [show m - (k + 1) + 0 = m - 1 - k by omega]
      · apply hv_congr
        intro i hi
        show f (m - (k + 1) + (1 + i)) = f (m - k + i)
        rw [show m - (k + 1) + (1 + i) = m - k + i by omega]
    have e4 : maF B T c0 f m (k + 1) (m - 1 - k) = (f (m - 1 - k) * T + maC B T c0 f m k) % B := by
      rw [maF_succ (by omega)]
      simp [nup]
    rw [e1, e3, e4, maC, Nat.pow_succ]
    have hdm := Nat.div_add_mod (f (m - 1 - k) * T + maC B T c0 f m k) B
    generalize (f (m - 1 - k) * T + maC B T c0 f m k) / B = Qd at hdm ⊢
    generalize (f (m - 1 - k) * T + maC B T c0 f m k) % B = Rm at hdm ⊢
    have h5 : (B * Qd + Rm) * B ^ k = (f (m - 1 - k) * T + maC B T c0 f m k) * B ^ k := by rw [hdm]
    rw [Nat.add_mul, Nat.add_mul] at h5
    rw [Nat.add_mul]
    have e6 : Qd * (B ^ k * B) = B * Qd * B ^ k := by rw [Nat.mul_comm B Qd, Nat.mul_assoc, Nat.mul_comm B]
    have e7 : f (m - 1 - k) * B ^ k * T = f (m - 1 - k) * T * B ^ k := Nat.mul_right_comm _ _ _
    rw [e6, e7]
    omega
theorem ma_all {B T c0 : Nat} {f : Nat → Nat} {m : Nat} : maC B T c0 f m m * B ^ m + hv B (maF B T c0 f m m) m = hv B f m * T + c0 := by
  have h := ma_sum (B := B) (T := T) (c0 := c0) (f := f) (m := m) m (Nat.le_refl m)
  rw [Nat.sub_self] at h
  simpa using h
/-- decimal to binary: the whole units of 2^-1088, out of the whole units of 10^-1080 -/
theorem kA_dec {X Y Ln Wn a F T2 T10 : Nat} {mo : Bool} (ha : 0 < a) (hF : 0 < F) (hY : 0 < Y) (h2 : T2 = 8192 * a) (h10 : T10 = 32 * a * F) (hL : X / Y = Ln) (hW : Ln * T2 / T10 = Wn) (hm : mo = true ↔ (X % Y ≠ 0 ∨ Ln * T2 % T10 ≠ 0)) : kA Wn mo (X * T2) (Y * T10) := by
  have hT10 : 0 < T10 := by
    rw [h10]; exact Nat.mul_pos (Nat.mul_pos (by omega) ha) hF
  have hT2 : 0 < T2 := by omega
  intro j
  have e1 : j * 8192 * (Y * T10) = j * (32 * F) * Y * T2 := by
    rw [h2, h10]
    simp only [Nat.mul_comm, Nat.mul_left_comm, Nat.mul_assoc]
  have e2 : j * 8192 * T10 = j * (32 * F) * T2 := by
    rw [h2, h10]
    simp only [Nat.mul_comm, Nat.mul_left_comm, Nat.mul_assoc]
  generalize hK : j * (32 * F) = K at e1 e2
  have hX := Nat.div_add_mod X Y
  have hXr := Nat.mod_lt X hY
  rw [hL] at hX
  have hWd := Nat.div_add_mod (Ln * T2) T10
  have hWr := Nat.mod_lt (Ln * T2) hT10
  rw [hW] at hWd
  generalize X % Y = xr at hX hXr hm
  generalize Ln * T2 % T10 = wr at hWd hWr hm
  have a1 : j * 8192 * (Y * T10) ≤ X * T2 ↔ K * Y ≤ X := by
    rw [e1]; exact ⟨fun h => Nat.le_of_mul_le_mul_right h hT2, fun h => Nat.mul_le_mul_right T2 h⟩
  have a2 : j * 8192 * (Y * T10) < X * T2 ↔ K * Y < X := by
    rw [e1]; exact ⟨fun h => Nat.lt_of_mul_lt_mul_right h, fun h => Nat.mul_lt_mul_of_pos_right h hT2⟩
  have a3 : K * Y ≤ X ↔ K ≤ Ln := by
    rw [← hL]; exact (Nat.le_div_iff_mul_le hY).symm
  have a4 : K ≤ Ln ↔ j * 8192 ≤ Wn := by
    rw [← hW, Nat.le_div_iff_mul_le hT10, e2]
    exact ⟨fun h => Nat.mul_le_mul_right T2 h, fun h => Nat.le_of_mul_le_mul_right h hT2⟩
  refine ⟨a1.trans (a3.trans a4), a2.trans ?_⟩
  have a5 : K * Y < X ↔ (K < Ln ∨ (K = Ln ∧ xr ≠ 0)) := by
    constructor
    · intro h
      have hle := a3.mp (Nat.le_of_lt h)
      rcases Nat.lt_or_eq_of_le hle with h1 | h1
      · exact Or.inl h1
      · refine Or.inr ⟨h1, fun z => ?_⟩
        rw [h1, Nat.mul_comm] at h
        omega
    · rintro (h | ⟨h, hx⟩)
      · have h1 : (K + 1) * Y ≤ Ln * Y := Nat.mul_le_mul_right Y h
        rw [Nat.add_mul, Nat.one_mul, Nat.mul_comm Ln] at h1
        omega
      · rw [h, Nat.mul_comm]
        omega
  have a6 : K < Ln ↔ (j * 8192 < Wn ∨ (j * 8192 = Wn ∧ wr ≠ 0)) := by
    have b1 : K < Ln ↔ j * 8192 * T10 < Ln * T2 := by
      rw [e2]; exact ⟨fun h => Nat.mul_lt_mul_of_pos_right h hT2, fun h => Nat.lt_of_mul_lt_mul_right h⟩
    rw [b1]
    constructor
    · intro h
      have hle := a4.mp (b1.mpr h |> Nat.le_of_lt)
      rcases Nat.lt_or_eq_of_le hle with h1 | h1
      · exact Or.inl h1
      · refine Or.inr ⟨h1, fun z => ?_⟩
        rw [h1, Nat.mul_comm] at h
        omega
    · rintro (h | ⟨h, hx⟩)
      · have h1 : (j * 8192 + 1) * T10 ≤ Wn * T10 := Nat.mul_le_mul_right T10 h
        rw [Nat.add_mul, Nat.one_mul, Nat.mul_comm Wn] at h1
        omega
      · rw [h, Nat.mul_comm]
        omega
  have a7 : K = Ln → j * 8192 * T10 = Ln * T2 := fun h => by rw [e2, h]
  rw [a5, a6, hm]
  constructor
  · rintro ((h | ⟨h, hx⟩) | ⟨h, hx⟩)
    · exact Or.inl h
    · exact Or.inr ⟨h, Or.inr hx⟩
    · have h1 := a7 h
      have h2 := a4.mp (Nat.le_of_eq h)
      rcases Nat.lt_or_eq_of_le h2 with h3 | h3
      · exact Or.inl h3
      · exact Or.inr ⟨h3, Or.inl hx⟩
  · rintro (h | ⟨h, hx | hx⟩)
    · exact Or.inl (Or.inl h)
    · have h1 : K ≤ Ln := a4.mpr (Nat.le_of_eq h)
      rcases Nat.lt_or_eq_of_le h1 with h3 | h3
      · left
        exact a6.mp h3
      · exact Or.inr ⟨h3, hx⟩
    · exact Or.inl (Or.inr ⟨h, hx⟩)
/-- bits, cut at whole units: the exact case -/
theorem kA_bits {X Y w : Nat} {mo : Bool} (hY : 0 < Y) (hw : X / Y = w) (hm : mo = true ↔ X % Y ≠ 0) : kA w mo X Y := by
  intro j
  have hX := Nat.div_add_mod X Y
  have hXr := Nat.mod_lt X hY
  rw [hw] at hX
  have a3 : j * 8192 * Y ≤ X ↔ j * 8192 ≤ w := by
    rw [← hw]; exact (Nat.le_div_iff_mul_le hY).symm
  refine ⟨a3, ?_⟩
  rw [hm]
  constructor
  · intro h
    have hle := a3.mp (Nat.le_of_lt h)
    rcases Nat.lt_or_eq_of_le hle with h1 | h1
    · exact Or.inl h1
    · refine Or.inr ⟨h1, fun z => ?_⟩
      rw [h1, Nat.mul_comm] at h
      omega
  · rintro (h | ⟨h, hx⟩)
    · have h1 : (j * 8192 + 1) * Y ≤ w * Y := Nat.mul_le_mul_right Y h
      rw [Nat.add_mul, Nat.one_mul, Nat.mul_comm w] at h1
      omega
    · rw [h, Nat.mul_comm]
      omega
end
section
/-! PURE: limbs turned into words -/
theorem maC_ltT {B T c0 : Nat} {f : Nat → Nat} {m : Nat} (hB : 0 < B) (hc : c0 < T) (hf : ∀ i, i < m → f i < B) : ∀ k, k ≤ m → maC B T c0 f m k < T
  | 0, _ => hc
  | k + 1, hk => by
    have ih := maC_ltT hB hc hf k (by omega)
    have h1 := hf (m - 1 - k) (by omega)
    rw [maC, Nat.div_lt_iff_lt_mul hB]
    have h2 : (f (m - 1 - k) + 1) * T ≤ B * T := Nat.mul_le_mul_right _ h1
    rw [Nat.add_mul, Nat.one_mul] at h2
    rw [Nat.mul_comm T B]
    omega
/-- the fraction, k words taken out of it; the k-th word -/
def frF (B T m : Nat) (f : Nat → Nat) : Nat → Nat → Nat
  | 0 => f
  | k + 1 => maF B T 0 (frF B T m f k) m m
def frW (B T m : Nat) (f : Nat → Nat) : Nat → Nat := fun k => maC B T 0 (frF B T m f k) m m
theorem frF_lt {B T m : Nat} {f : Nat → Nat} (hB : 0 < B) (hf : ∀ i, i < m → f i < B) : ∀ k i, i < m → frF B T m f k i < B
  | 0, i, h => hf i h
  | k + 1, i, h => maF_lt hB (frF_lt hB hf k) i h
theorem frW_lt {B T m : Nat} {f : Nat → Nat} (hB : 0 < B) (hT : 0 < T) (hf : ∀ i, i < m → f i < B) (k : Nat) : frW B T m f k < T := maC_ltT hB hT (frF_lt hB hf k) m (Nat.le_refl m)
theorem fr_sum {B T m : Nat} {f : Nat → Nat} : ∀ k : Nat, hv T (frW B T m f) k * B ^ m + hv B (frF B T m f k) m = hv B f m * T ^ k
  | 0 => by simp [hv, frF]
  | k + 1 => by
    have ih := fr_sum (B := B) (T := T) (m := m) (f := f) k
    have h := ma_all (B := B) (T := T) (c0 := 0) (f := frF B T m f k) (m := m)
    rw [hv, frF, Nat.pow_succ, ← Nat.mul_assoc, ← ih, Nat.add_mul, Nat.add_mul]
    show hv T (frW B T m f) k * T * B ^ m + maC B T 0 (frF B T m f k) m m * B ^ m + hv B (maF B T 0 (frF B T m f k) m m) m = _
    rw [Nat.mul_right_comm (hv T (frW B T m f) k) (B ^ m) T]
    omega
theorem tb_all {B T m n : Nat} {f g : Nat → Nat} {Lw : Nat} (hB : 0 < B) (hm : m ≤ n) (hf : ∀ i, i < m → f i < B) (hz : ∀ i, m ≤ i → i < n → f i = 0) (k : Nat) :
    (Lw * B ^ n + hv B f n) * T ^ k / B ^ n = Lw * T ^ k + hv T (frW B T m f) k ∧ ((Lw * B ^ n + hv B f n) * T ^ k % B ^ n ≠ 0 ↔ ∃ i, i < m ∧ frF B T m f k i ≠ 0) := by
  have e1 : hv B f n = hv B f m * B ^ (n - m) := by
    have := hv_app B f m (n - m)
    rw [show m + (n - m) = n by omega] at this
    rw [this, hv_zero B (fun i hi => hz (m + i) (by omega) (by omega)), Nat.add_zero]
  have hs := fr_sum (B := B) (T := T) (m := m) (f := f) k
  have hlt := hv_lt (B := B) (f := frF B T m f k) (n := m) (frF_lt hB hf k)
  have hp : 0 < B ^ n := Nat.pow_pos hB
  have hp2 : 0 < B ^ (n - m) := Nat.pow_pos hB
  have e2 : B ^ m * B ^ (n - m) = B ^ n := by rw [← Nat.pow_add]; congr 1; omega
  have e3 : (Lw * B ^ n + hv B f n) * T ^ k = B ^ n * (Lw * T ^ k + hv T (frW B T m f) k) + hv B (frF B T m f k) m * B ^ (n - m) := by
    rw [e1, Nat.add_mul, Nat.mul_right_comm (hv B f m), ← hs, Nat.add_mul, Nat.mul_add, Nat.mul_assoc (hv T (frW B T m f) k), e2, Nat.mul_comm (B ^ n) (hv T (frW B T m f) k), Nat.mul_right_comm Lw, Nat.mul_comm (B ^ n) (Lw * T ^ k)]
    omega
  have hlt2 : hv B (frF B T m f k) m * B ^ (n - m) < B ^ n := by
    rw [← e2]; exact Nat.mul_lt_mul_of_pos_right hlt hp2
  rw [e3, Nat.mul_add_div hp, Nat.div_eq_of_lt hlt2, Nat.add_zero, Nat.mul_add_mod, Nat.mod_eq_of_lt hlt2]
  refine ⟨rfl, ?_⟩
  constructor
  · intro h
    rcases Classical.em (∃ i, i < m ∧ frF B T m f k i ≠ 0) with h1 | h1
    · exact h1
    · exact absurd (by rw [hv_zero B (fun i hi => by
        rcases Nat.eq_zero_or_pos (frF B T m f k i) with z | z
        · exact z
        · exact absurd ⟨i, hi, by omega⟩ h1), Nat.zero_mul]) h
  · rintro ⟨i, hi, h⟩
    have h1 := hv_pos hB hi h
    exact Nat.ne_of_gt (Nat.mul_pos (Nat.pos_of_ne_zero h1) hp2)
/-- the whole part: i limbs appended to m words -/
def whW (B T m : Nat) (f : Nat → Nat) : Nat → Nat → Nat
  | 0 => fun _ => 0
  | i + 1 => maF B T (f i) (whW B T m f i) m m
theorem whW_lt {B T m : Nat} {f : Nat → Nat} (hB : 0 < B) : ∀ i j, j < m → whW B T m f i j < B
  | 0, j, _ => hB
  | i + 1, j, h => maF_lt hB (whW_lt hB i) j h
theorem wh_sum {B T m : Nat} {f : Nat → Nat} (hB : 0 < B) {n : Nat} (hf : ∀ i, i < n → f i < T) (hn : T ^ n ≤ B ^ m) (hT : 0 < T) : ∀ i, i ≤ n → hv B (whW B T m f i) m = hv T f i
  | 0, _ => hv_zero B (fun _ _ => rfl)
  | i + 1, hi => by
    have ih := wh_sum hB hf hn hT i (by omega)
    have h := ma_all (B := B) (T := T) (c0 := f i) (f := whW B T m f i) (m := m)
    rw [ih] at h
    have h1 := hv_lt (B := T) (f := f) (n := i + 1) (fun j hj => hf j (by omega))
    rw [hv] at h1
    have h2 : T ^ (i + 1) ≤ T ^ n := Nat.pow_le_pow_right hT hi
    have hc : maC B T (f i) (whW B T m f i) m m = 0 := by
      rcases Nat.eq_zero_or_pos (maC B T (f i) (whW B T m f i) m m) with z | z
      · exact z
      · have := Nat.mul_le_mul_right (B ^ m) z
        rw [Nat.one_mul] at this
        omega
    rw [hc, Nat.zero_mul, Nat.zero_add] at h
    rw [whW, h, hv]
theorem maC_0 {B T : Nat} {m : Nat} : ∀ k, maC B T 0 (fun _ => 0) m k = 0
  | 0 => rfl
  | k + 1 => by rw [maC, maC_0 k]; simp
theorem whW_0 {B T m : Nat} {f : Nat → Nat} : ∀ i, (∀ j, j < i → f j = 0) → whW B T m f i = fun _ => 0
  | 0, _ => rfl
  | i + 1, h => by
    rw [whW, whW_0 i (fun j hj => h j (by omega)), h i (by omega)]
    funext j
    unfold maF
    split
    · rw [maC_0]; simp
    · rfl
end
section
/-! PURE: the reference's row of limbs (the lowest first) times T, and its decimal digits -/
def tmC (B T : Nat) (f : Nat → Nat) : Nat → Nat
  | 0 => 0
  | k + 1 => (tmC B T f k + f k * T) / B
def tmF (B T : Nat) (f : Nat → Nat) (k : Nat) : Nat → Nat := fun i => if i < k then (tmC B T f i + f i * T) % B else f i
theorem tmF_0 (B T : Nat) (f : Nat → Nat) : tmF B T f 0 = f := by
  funext i
  simp [tmF]
theorem tmF_succ (B T : Nat) (f : Nat → Nat) (k : Nat) : tmF B T f (k + 1) = nup (tmF B T f k) k ((tmC B T f k + f k * T) % B) := by
  funext i
  unfold nup tmF
  by_cases hi : i = k
  · subst hi
    simp
  · rw [if_neg hi]
    by_cases h1 : i < k
    · rw [if_pos h1, if_pos (by omega)]
    · rw [if_neg h1, if_neg (by omega)]
theorem tmC_lt {B T : Nat} {f : Nat → Nat} (hB : 0 < B) (hT : 0 < T) : ∀ {k : Nat}, (∀ i, i < k → f i < B) → tmC B T f k < T
  | 0, _ => hT
  | k + 1, h => le_step hB (tmC_lt hB hT (k := k) (fun i hi => h i (by omega))) (h k (by omega))
theorem tm_sum {B T : Nat} {f : Nat → Nat} : ∀ k : Nat, le B (tmF B T f k) k + tmC B T f k * B ^ k = T * le B f k
  | 0 => by simp [le, tmC]
  | k + 1 => by
    have ih := tm_sum (B := B) (T := T) (f := f) k
    have e1 : le B (tmF B T f (k + 1)) k = le B (tmF B T f k) k := le_congr (fun i hi => by
      unfold tmF
      rw [if_pos (by omega), if_pos hi])
    have e2 : tmF B T f (k + 1) k = (tmC B T f k + f k * T) % B := by simp [tmF]
    rw [le, e1, e2, tmC, le, Nat.pow_succ, Nat.mul_add]
    have hdm := Nat.div_add_mod (tmC B T f k + f k * T) B
    generalize (tmC B T f k + f k * T) / B = Qd at hdm ⊢
    generalize (tmC B T f k + f k * T) % B = Rm at hdm ⊢
    have h5 : (B * Qd + Rm) * B ^ k = (tmC B T f k + f k * T) * B ^ k := by rw [hdm]
    rw [Nat.add_mul, Nat.add_mul] at h5
    have e6 : Qd * (B ^ k * B) = B * Qd * B ^ k := by rw [Nat.mul_comm B Qd, Nat.mul_assoc, Nat.mul_comm B]
    have e7 : T * (f k * B ^ k) = f k * T * B ^ k := by rw [← Nat.mul_assoc, Nat.mul_comm T]
    rw [e6, e7, ← ih]
    omega
/-- the digits of x below 10^9, the highest first -/
theorem hv_nine {x : Nat} (hx : x < 10 ^ 9) : ∀ j, j ≤ 9 → hv 10 (fun i => x / 10 ^ (8 - i) % 10) j = x / 10 ^ (9 - j)
  | 0, _ => by
    rw [hv, Nat.sub_zero, Nat.div_eq_of_lt hx]
  | j + 1, h => by
    rw [hv, hv_nine hx j (by omega)]
    have e : 10 ^ (9 - j) = 10 ^ (8 - j) * 10 := by rw [← Nat.pow_succ]; congr 1; omega
    rw [e, ← Nat.div_div_eq_div_mul, show 9 - (j + 1) = 8 - j by omega]
    have := Nat.div_add_mod (x / 10 ^ (8 - j)) 10
    omega
/-- the t-th of the 9 * n digits of n limbs g (the highest first) -/
def dig9 (g : Nat → Nat) (t : Nat) : Nat := g (t / 9) / 10 ^ (8 - t % 9) % 10
theorem dig9_lt (g : Nat → Nat) (t : Nat) : dig9 g t < 10 := Nat.mod_lt _ (by omega)
theorem hv_dig9 {g : Nat → Nat} : ∀ {n : Nat}, (∀ i, i < n → g i < 10 ^ 9) → hv 10 (dig9 g) (9 * n) = hv (10 ^ 9) g n
  | 0, _ => rfl
  | n + 1, h => by
    have e : hv 10 (fun i => dig9 g (9 * n + i)) 9 = g n := by
      have e2 : hv 10 (fun i => dig9 g (9 * n + i)) 9 = hv 10 (fun i => g n / 10 ^ (8 - i) % 10) 9 := hv_congr (fun i hi => by
        unfold dig9
        rw [show (9 * n + i) / 9 = n by omega, show (9 * n + i) % 9 = i by omega])
      rw [e2, hv_nine (h n (by omega)) 9 (by omega)]
      simp
    rw [Nat.mul_add, Nat.mul_one, hv_app, hv_dig9 (n := n) (fun i hi => h i (by omega)), e]
    rfl
theorem hv_rev {B : Nat} {f : Nat → Nat} : ∀ {n : Nat}, hv B (fun i => f (n - 1 - i)) n = le B f n
  | 0 => rfl
  | n + 1 => by
    have ih := hv_rev (B := B) (f := f) (n := n)
    rw [hv_cons, le, ← ih]
    have e2 : hv B (fun i => f (n + 1 - 1 - (1 + i))) n = hv B (fun i => f (n - 1 - i)) n := hv_congr (fun i hi => by
      rw [show n + 1 - 1 - (1 + i) = n - 1 - i by omega])
    rw [e2]
    show f (n + 1 - 1 - 0) * B ^ n + _ = _
    rw [show n + 1 - 1 - 0 = n by omega]
    omega
end
section
/-! PURE: two rows of decimal digits with their points: 0.f0f1..f(n-1) * 10^p, in units of 10^-K -/
def sv (f : Nat → Nat) (n : Nat) (p : Int) (K : Nat) : Nat := hv 10 f n * 10 ^ (p - n + K).toNat
theorem sv_lt {f : Nat → Nat} {n K : Nat} {p : Int} (hf : ∀ i, i < n → f i < 10) (h : 0 ≤ p - n + K) : sv f n p K < 10 ^ (p + K).toNat := by
  unfold sv
  have h1 := hv_lt (B := 10) hf
  have e : (p + K).toNat = n + (p - n + K).toNat := by omega
  rw [e, Nat.pow_add]
  exact Nat.mul_lt_mul_of_pos_right h1 (Nat.pow_pos (by omega))
theorem sv_ge {f : Nat → Nat} {n K : Nat} {p : Int} (hn : 0 < n) (h0 : 0 < f 0) (h : 0 ≤ p - n + K) : 10 ^ (p - 1 + K).toNat ≤ sv f n p K := by
  unfold sv
  have h1 := hv_ge (B := 10) hn h0
  have e : (p - 1 + K).toNat = (n - 1) + (p - n + K).toNat := by omega
  rw [e, Nat.pow_add]
  exact Nat.mul_le_mul_right _ h1
theorem sv_p {f g : Nat → Nat} {n r K : Nat} {p q : Int} (hf : ∀ i, i < n → f i < 10) (hr : 0 < r) (hg : 0 < g 0) (h1 : 0 ≤ p - n + K) (h2 : 0 ≤ q - r + K) (hpq : p < q) : sv f n p K < sv g r q K := by
  have a1 := sv_lt hf h1
  have a2 := sv_ge hr hg h2
  have a3 : 10 ^ (p + K).toNat ≤ 10 ^ (q - 1 + K).toNat := Nat.pow_le_pow_right (by omega) (by omega)
  omega
theorem sv_dz {f : Nat → Nat} {n m K : Nat} {p : Int} (hm : n ≤ m) (h : 0 ≤ p - m + K) : sv f n p K = hv 10 (dz f n) m * 10 ^ (p - m + K).toNat := by
  unfold sv
  have e := hv_dz (B := 10) f n (m - n)
  rw [show n + (m - n) = m by omega] at e
  rw [e, Nat.mul_assoc, ← Nat.pow_add]
  congr 2
  omega
theorem sv_first {f g : Nat → Nat} {n r m k K : Nat} {p : Int} (hf : ∀ i, i < n → f i < 10) (hn : n ≤ m) (hr : r ≤ m) (h : 0 ≤ p - m + K) (hk : k < m) (he : ∀ i, i < k → dz f n i = dz g r i) (hlt : dz f n k < dz g r k) : sv f n p K < sv g r p K := by
  rw [sv_dz hn h, sv_dz hr h]
  refine Nat.mul_lt_mul_of_pos_right (hv_first hk he hlt (fun i _ => ?_)) (Nat.pow_pos (by omega))
  unfold dz
  split
  · rename_i h1; exact hf i h1
  · omega
theorem sv_same {f g : Nat → Nat} {n r m K : Nat} {p : Int} (hn : n ≤ m) (hr : r ≤ m) (h : 0 ≤ p - m + K) (he : ∀ i, i < m → dz f n i = dz g r i) : sv f n p K = sv g r p K := by
  rw [sv_dz hn h, sv_dz hr h, hv_congr he]
/-- digits 0 at the end change nothing -/
theorem sv_cut {f : Nat → Nat} {n d K : Nat} {p : Int} (hz : ∀ i, n ≤ i → i < n + d → f i = 0) (h : 0 ≤ p - (n + d : Nat) + K) : sv f (n + d) p K = sv f n p K := by
  unfold sv
  rw [hv_app, hv_zero 10 (fun i hi => hz (n + i) (by omega) (by omega)), Nat.add_zero, Nat.mul_assoc, ← Nat.pow_add]
  congr 2
  omega
end
section
/-! PURE: Java's ints by their numbers -/
theorem tadd {x y : Int32} (h1 : -2147483648 ≤ x.toInt + y.toInt) (h2 : x.toInt + y.toInt ≤ 2147483647) : (x + y).toInt = x.toInt + y.toInt := by
  rw [Int32.toInt_add]
  exact Int.bmod_eq_of_le (by omega) (by omega)
theorem tsub {x y : Int32} (h1 : -2147483648 ≤ x.toInt - y.toInt) (h2 : x.toInt - y.toInt ≤ 2147483647) : (x - y).toInt = x.toInt - y.toInt := by
  rw [Int32.toInt_sub]
  exact Int.bmod_eq_of_le (by omega) (by omega)
theorem tmul {x y : Int32} (h1 : -2147483648 ≤ x.toInt * y.toInt) (h2 : x.toInt * y.toInt ≤ 2147483647) : (x * y).toInt = x.toInt * y.toInt := by
  rw [Int32.toInt_mul]
  exact Int.bmod_eq_of_le (by omega) (by omega)
theorem nI_to {x : Int32} {k : Nat} (hk : k < 2 ^ 31) (h : x.toInt = (k : Int)) : x = nI k := Int32.toInt_inj.mp (by rw [nI_toInt hk, h])
/-- a power of two by its place: pw n is n - 1089 -/
def pw (n : Nat) : Int32 := nI n - 1089
theorem pw_toInt {n : Nat} (h : n < 1000000) : (pw n).toInt = (n : Int) - 1089 := pk_sub_toInt (b := 1089) (by omega) (by omega)
theorem pw_inj {x : Int32} {n : Nat} (h : n < 1000000) (hx : x.toInt = (n : Int) - 1089) : x = pw n := Int32.toInt_inj.mp (by rw [pw_toInt h, hx])
theorem pw_m1 {n : Nat} (h : n < 100000) : pw (n + 1) - 1 = pw n := pw_inj (by omega) (by
  have e := pw_toInt (n := n + 1) (by omega)
  have o : (1 : Int32).toInt = 1 := rfl
  rw [tsub (by omega) (by omega), e, o]
  omega)
theorem pw_dec {n : Nat} (h : n < 100000) : pw (n + 1) + Int32.ofInt (-1) = pw n := pw_inj (by omega) (by
  have e := pw_toInt (n := n + 1) (by omega)
  have o : (Int32.ofInt (-1)).toInt = -1 := rfl
  rw [tadd (by omega) (by omega), e, o]
  omega)
/-- an int as an unsigned number -/
def un (x : Int32) : Nat := x.toBitVec.toNat
theorem un_lt (x : Int32) : un x < 4294967296 := x.toBitVec.isLt
theorem un_nI (n : Nat) : un (nI n) = n % 4294967296 := by
  show (BitVec.ofNat 32 n).toNat = _
  rw [BitVec.toNat_ofNat]
theorem nI_un (x : Int32) : nI (un x) = x := Int32.toBitVec_inj.mp (by show BitVec.ofNat 32 x.toBitVec.toNat = x.toBitVec; simp)
theorem un_0 {x : Int32} : un x = 0 ↔ x = 0 := by
  constructor
  · intro h
    rw [← nI_un x, h]
    rfl
  · intro h
    rw [h]
    rfl
theorem su32 : ∀ n, n < 32 → (((nI n).toUInt32 &&& Int32.toUInt32 31).toBitVec % 32).toNat = n := by decide +kernel
theorem sl32 : ∀ n, n < 32 → ((nI n &&& 31).toBitVec.smod 32).toNat = n := by decide +kernel
theorem bit_at (x : Int32) {k : Nat} (hk : k < 32) : ((x.toUInt32 >>> ((nI k).toUInt32 &&& Int32.toUInt32 31)).toInt32 &&& 1) = nI (un x / 2 ^ k % 2) := by
  rw [pk_and _ (m := 1) 1 rfl, pk_ushr x (nI k) k (su32 k hk)]
  rfl
theorem i_m1 (x : Int32) : x + Int32.ofInt (-1) = x - 1 := by
  rw [Int32.sub_eq_add_neg]
  rfl
end
section
/-! the words of the calls -/
theorem cw_R_43 : jwV R_DecimalReader 43 y_appendBytes b_appendBytes 3 none 1 := ⟨⟨by decide +kernel, by decide +kernel, by decide +kernel, ⟨by decide, by decide⟩, by decide +kernel⟩, by decide +kernel, by decide +kernel⟩
theorem cw_R_52 : jwV R_DecimalReader 52 y_readTape b_readTape 2 (some .boolean) 0 := ⟨⟨by decide +kernel, by decide +kernel, by decide +kernel, ⟨by decide, by decide⟩, by decide +kernel⟩, by decide +kernel, by decide +kernel⟩
theorem cw_R_61 : jwV R_DecimalReader 61 y_answerAs b_answerAs 4 (some .long) 1 := ⟨⟨by decide +kernel, by decide +kernel, by decide +kernel, ⟨by decide, by decide⟩, by decide +kernel⟩, by decide +kernel, by decide +kernel⟩
theorem cw_R_65 : jwV R_DecimalReader 65 y_scanText b_scanText 1 (some .boolean) 0 := ⟨⟨by decide +kernel, by decide +kernel, by decide +kernel, ⟨by decide, by decide⟩, by decide +kernel⟩, by decide +kernel, by decide +kernel⟩
theorem cw_R_71 : jwV R_DecimalReader 71 y_placeDigits b_placeDigits 4 none 0 := ⟨⟨by decide +kernel, by decide +kernel, by decide +kernel, ⟨by decide, by decide⟩, by decide +kernel⟩, by decide +kernel, by decide +kernel⟩
theorem cw_R_81 : jwV R_DecimalReader 81 y_v_rounded b_v_rounded 7 (some .long) 1 := ⟨⟨by decide +kernel, by decide +kernel, by decide +kernel, ⟨by decide, by decide⟩, by decide +kernel⟩, by decide +kernel, by decide +kernel⟩
theorem cw_R_91 : jwV R_DecimalReader 91 y_leaveBlanksOut b_leaveBlanksOut 1 none 0 := ⟨⟨by decide +kernel, by decide +kernel, by decide +kernel, ⟨by decide, by decide⟩, by decide +kernel⟩, by decide +kernel, by decide +kernel⟩
theorem cw_R_94 : jwV R_DecimalReader 94 y_takeSign b_takeSign 1 (some .boolean) 0 := ⟨⟨by decide +kernel, by decide +kernel, by decide +kernel, ⟨by decide, by decide⟩, by decide +kernel⟩, by decide +kernel, by decide +kernel⟩
theorem cw_R_99 : jwV R_DecimalReader 99 y_restIs b_restIs 3 (some .boolean) 1 := ⟨⟨by decide +kernel, by decide +kernel, by decide +kernel, ⟨by decide, by decide⟩, by decide +kernel⟩, by decide +kernel, by decide +kernel⟩
theorem cw_R_105 : jwV R_DecimalReader 105 y_scanDigits b_scanDigits 3 (some .boolean) 0 := ⟨⟨by decide +kernel, by decide +kernel, by decide +kernel, ⟨by decide, by decide⟩, by decide +kernel⟩, by decide +kernel, by decide +kernel⟩
theorem cw_R_108 : jwV R_DecimalReader 108 y_scanExponent b_scanExponent 6 (some .boolean) 0 := ⟨⟨by decide +kernel, by decide +kernel, by decide +kernel, ⟨by decide, by decide⟩, by decide +kernel⟩, by decide +kernel, by decide +kernel⟩
theorem cw_R_111 : jwV R_DecimalReader 111 y_restIsSuffix b_restIsSuffix 1 (some .boolean) 0 := ⟨⟨by decide +kernel, by decide +kernel, by decide +kernel, ⟨by decide, by decide⟩, by decide +kernel⟩, by decide +kernel, by decide +kernel⟩
theorem cw_R_120 : jwS R_DecimalReader 120 y_isBlank b_isBlank 1 (some .boolean) 1 := ⟨⟨by decide +kernel, by decide +kernel, by decide +kernel, ⟨by decide, by decide⟩, by decide +kernel⟩, by decide +kernel⟩
theorem cw_R_124 : jwV R_DecimalReader 124 y_takeHexStart b_takeHexStart 2 (some .boolean) 0 := ⟨⟨by decide +kernel, by decide +kernel, by decide +kernel, ⟨by decide, by decide⟩, by decide +kernel⟩, by decide +kernel, by decide +kernel⟩
theorem cw_R_130 : jwV R_DecimalReader 130 y_skipDigits b_skipDigits 3 (some .int) 1 := ⟨⟨by decide +kernel, by decide +kernel, by decide +kernel, ⟨by decide, by decide⟩, by decide +kernel⟩, by decide +kernel, by decide +kernel⟩
theorem cw_R_137 : jwV R_DecimalReader 137 y_take b_take 2 (some .boolean) 1 := ⟨⟨by decide +kernel, by decide +kernel, by decide +kernel, ⟨by decide, by decide⟩, by decide +kernel⟩, by decide +kernel, by decide +kernel⟩
theorem cw_R_148 : jwS R_DecimalReader 148 y_digitOf b_digitOf 1 (some .int) 1 := ⟨⟨by decide +kernel, by decide +kernel, by decide +kernel, ⟨by decide, by decide⟩, by decide +kernel⟩, by decide +kernel⟩
theorem cw_R_169 : jwV R_DecimalReader 169 y_v_clear b_v_clear 1 none 0 := ⟨⟨by decide +kernel, by decide +kernel, by decide +kernel, ⟨by decide, by decide⟩, by decide +kernel⟩, by decide +kernel, by decide +kernel⟩
theorem cw_R_172 : jwV R_DecimalReader 172 y_placeDigit b_placeDigit 3 none 2 := ⟨⟨by decide +kernel, by decide +kernel, by decide +kernel, ⟨by decide, by decide⟩, by decide +kernel⟩, by decide +kernel, by decide +kernel⟩
theorem cw_R_176 : jwV R_DecimalReader 176 y_v_turnBinary b_v_turnBinary 4 none 0 := ⟨⟨by decide +kernel, by decide +kernel, by decide +kernel, ⟨by decide, by decide⟩, by decide +kernel⟩, by decide +kernel, by decide +kernel⟩
theorem cw_R_179 : jwV R_DecimalReader 179 y_v_addHexDigit b_v_addHexDigit 4 none 2 := ⟨⟨by decide +kernel, by decide +kernel, by decide +kernel, ⟨by decide, by decide⟩, by decide +kernel⟩, by decide +kernel, by decide +kernel⟩
theorem cw_R_182 : jwV R_DecimalReader 182 y_v_addDecimalDigit b_v_addDecimalDigit 5 none 2 := ⟨⟨by decide +kernel, by decide +kernel, by decide +kernel, ⟨by decide, by decide⟩, by decide +kernel⟩, by decide +kernel, by decide +kernel⟩
theorem cw_M_37 : jwV R_Model 37 y_m_good b_m_good 3 (some .boolean) 2 := ⟨⟨by decide +kernel, by decide +kernel, by decide +kernel, ⟨by decide, by decide⟩, by decide +kernel⟩, by decide +kernel, by decide +kernel⟩
theorem cw_M_41 : jwV R_Model 41 y_m_word4 b_m_word4 3 none 1 := ⟨⟨by decide +kernel, by decide +kernel, by decide +kernel, ⟨by decide, by decide⟩, by decide +kernel⟩, by decide +kernel, by decide +kernel⟩
theorem cw_M_59 : jwV R_Model 59 y_m_infinity b_m_infinity 1 (some .long) 0 := ⟨⟨by decide +kernel, by decide +kernel, by decide +kernel, ⟨by decide, by decide⟩, by decide +kernel⟩, by decide +kernel, by decide +kernel⟩
theorem cw_M_63 : jwV R_Model 63 y_m_fraction b_m_fraction 1 (some .long) 0 := ⟨⟨by decide +kernel, by decide +kernel, by decide +kernel, ⟨by decide, by decide⟩, by decide +kernel⟩, by decide +kernel, by decide +kernel⟩
theorem cw_M_73 : jwV R_Model 73 y_m_times b_m_times 6 none 1 := ⟨⟨by decide +kernel, by decide +kernel, by decide +kernel, ⟨by decide, by decide⟩, by decide +kernel⟩, by decide +kernel, by decide +kernel⟩
theorem cw_M_110 : jwV R_Model 110 y_m_is b_m_is 2 (some .boolean) 1 := ⟨⟨by decide +kernel, by decide +kernel, by decide +kernel, ⟨by decide, by decide⟩, by decide +kernel⟩, by decide +kernel, by decide +kernel⟩
theorem cw_M_114 : jwV R_Model 114 y_m_sign b_m_sign 1 (some .long) 0 := ⟨⟨by decide +kernel, by decide +kernel, by decide +kernel, ⟨by decide, by decide⟩, by decide +kernel⟩, by decide +kernel, by decide +kernel⟩
theorem cw_M_119 : jwV R_Model 119 y_m_word b_m_word 3 (some .boolean) 1 := ⟨⟨by decide +kernel, by decide +kernel, by decide +kernel, ⟨by decide, by decide⟩, by decide +kernel⟩, by decide +kernel, by decide +kernel⟩
theorem cw_M_123 : jwV R_Model 123 y_m_none b_m_none 1 (some .long) 0 := ⟨⟨by decide +kernel, by decide +kernel, by decide +kernel, ⟨by decide, by decide⟩, by decide +kernel⟩, by decide +kernel, by decide +kernel⟩
theorem cw_M_128 : jwV R_Model 128 y_m_hexadecimal b_m_hexadecimal 10 (some .long) 0 := ⟨⟨by decide +kernel, by decide +kernel, by decide +kernel, ⟨by decide, by decide⟩, by decide +kernel⟩, by decide +kernel, by decide +kernel⟩
theorem cw_M_131 : jwV R_Model 131 y_m_decimal b_m_decimal 5 (some .long) 0 := ⟨⟨by decide +kernel, by decide +kernel, by decide +kernel, ⟨by decide, by decide⟩, by decide +kernel⟩, by decide +kernel, by decide +kernel⟩
theorem cw_M_134 : jwV R_Model 134 y_m_isDigit b_m_isDigit 1 (some .boolean) 0 := ⟨⟨by decide +kernel, by decide +kernel, by decide +kernel, ⟨by decide, by decide⟩, by decide +kernel⟩, by decide +kernel, by decide +kernel⟩
theorem cw_M_153 : jwV R_Model 153 y_m_exponent b_m_exponent 4 (some .long) 0 := ⟨⟨by decide +kernel, by decide +kernel, by decide +kernel, ⟨by decide, by decide⟩, by decide +kernel⟩, by decide +kernel, by decide +kernel⟩
theorem cw_M_156 : jwV R_Model 156 y_m_nearest b_m_nearest 7 (some .long) 0 := ⟨⟨by decide +kernel, by decide +kernel, by decide +kernel, ⟨by decide, by decide⟩, by decide +kernel⟩, by decide +kernel, by decide +kernel⟩
theorem cw_M_165 : jwV R_Model 165 y_m_c b_m_c 5 (some .long) 1 := ⟨⟨by decide +kernel, by decide +kernel, by decide +kernel, ⟨by decide, by decide⟩, by decide +kernel⟩, by decide +kernel, by decide +kernel⟩
theorem cw_M_169 : jwV R_Model 169 y_m_q b_m_q 5 (some .int) 1 := ⟨⟨by decide +kernel, by decide +kernel, by decide +kernel, ⟨by decide, by decide⟩, by decide +kernel⟩, by decide +kernel, by decide +kernel⟩
theorem cw_M_173 : jwV R_Model 173 y_m_row b_m_row 9 none 3 := ⟨⟨by decide +kernel, by decide +kernel, by decide +kernel, ⟨by decide, by decide⟩, by decide +kernel⟩, by decide +kernel, by decide +kernel⟩
theorem cw_M_177 : jwS R_Model 177 y_m_compare b_m_compare 8 (some .int) 4 := ⟨⟨by decide +kernel, by decide +kernel, by decide +kernel, ⟨by decide, by decide⟩, by decide +kernel⟩, by decide +kernel⟩
theorem cw_M_181 : jwV R_Model 181 y_m_hexDigit b_m_hexDigit 2 (some .int) 0 := ⟨⟨by decide +kernel, by decide +kernel, by decide +kernel, ⟨by decide, by decide⟩, by decide +kernel⟩, by decide +kernel, by decide +kernel⟩
theorem cw_M_186 : jwV R_Model 186 y_m_rounded b_m_rounded 17 (some .long) 3 := ⟨⟨by decide +kernel, by decide +kernel, by decide +kernel, ⟨by decide, by decide⟩, by decide +kernel⟩, by decide +kernel, by decide +kernel⟩
theorem cw_M_197 : jwV R_Model 197 y_m_kind b_m_kind 2 none 1 := ⟨⟨by decide +kernel, by decide +kernel, by decide +kernel, ⟨by decide, by decide⟩, by decide +kernel⟩, by decide +kernel, by decide +kernel⟩
theorem cw_M_201 : jwV R_Model 201 y_m_value b_m_value 7 (some .long) 0 := ⟨⟨by decide +kernel, by decide +kernel, by decide +kernel, ⟨by decide, by decide⟩, by decide +kernel⟩, by decide +kernel, by decide +kernel⟩
theorem cw_V_32 : jwV R_Value 32 y_v_addBit b_v_addBit 2 none 1 := ⟨⟨by decide +kernel, by decide +kernel, by decide +kernel, ⟨by decide, by decide⟩, by decide +kernel⟩, by decide +kernel, by decide +kernel⟩
theorem cw_V_36 : jwS R_Value 36 y_v_wordOf b_v_wordOf 1 (some .int) 1 := ⟨⟨by decide +kernel, by decide +kernel, by decide +kernel, ⟨by decide, by decide⟩, by decide +kernel⟩, by decide +kernel⟩
theorem cw_V_40 : jwS R_Value 40 y_v_shiftOf b_v_shiftOf 1 (some .int) 1 := ⟨⟨by decide +kernel, by decide +kernel, by decide +kernel, ⟨by decide, by decide⟩, by decide +kernel⟩, by decide +kernel⟩
theorem cw_V_43 : jwV R_Value 43 y_v_usedLimbs b_v_usedLimbs 2 (some .int) 0 := ⟨⟨by decide +kernel, by decide +kernel, by decide +kernel, ⟨by decide, by decide⟩, by decide +kernel⟩, by decide +kernel, by decide +kernel⟩
theorem cw_V_47 : jwV R_Value 47 y_v_appendWholeLimb b_v_appendWholeLimb 7 none 1 := ⟨⟨by decide +kernel, by decide +kernel, by decide +kernel, ⟨by decide, by decide⟩, by decide +kernel⟩, by decide +kernel, by decide +kernel⟩
theorem cw_V_50 : jwV R_Value 50 y_v_takeFractionWord b_v_takeFractionWord 7 (some .int) 1 := ⟨⟨by decide +kernel, by decide +kernel, by decide +kernel, ⟨by decide, by decide⟩, by decide +kernel⟩, by decide +kernel, by decide +kernel⟩
theorem cw_V_57 : jwV R_Value 57 y_v_topPower b_v_topPower 2 (some .int) 0 := ⟨⟨by decide +kernel, by decide +kernel, by decide +kernel, ⟨by decide, by decide⟩, by decide +kernel⟩, by decide +kernel, by decide +kernel⟩
theorem cw_V_84 : jwV R_Value 84 y_v_bitAt b_v_bitAt 2 (some .int) 1 := ⟨⟨by decide +kernel, by decide +kernel, by decide +kernel, ⟨by decide, by decide⟩, by decide +kernel⟩, by decide +kernel, by decide +kernel⟩
theorem cw_V_87 : jwV R_Value 87 y_v_isMoreBelow b_v_isMoreBelow 4 (some .boolean) 1 := ⟨⟨by decide +kernel, by decide +kernel, by decide +kernel, ⟨by decide, by decide⟩, by decide +kernel⟩, by decide +kernel, by decide +kernel⟩
section JST
variable {p : Program} {l : Launch} {e : Env} {R : Room} {s : State} {m : MethodId} {args : Array Value} {below : List Frame} {meth : Method} {c : Code} {D : va_G} {A : Nat → Prop} {nL : Nat} {Q : State → Prop} {pc : Nat} {L : List (Option Value)} {S : List Value} {w : va_W}
variable {cc : ByteArray} {ret : Option FieldType} {tys : List (ClassId × FieldType)} {X : jX}
theorem js_V_29 (hC : jC p s m args meth c cc nL ret R_Value D tys A X) (hd : decode cc pc = .ok (.getstatic 29, 3)) (k : J p l e R s m args below meth c D A nL Q (pc + 3) L (.ref X.1 :: S) w) : J p l e R s m args below meth c D A nL Q pc L S w := fun H locs ls hl hP hD hS =>
  va_gets hC.1 hC.2.1 hC.2.2.2.2.2.2.2.2.2.1 hS hC.2.2.2.1 (hC.2.2.2.2.1 (.fieldLink R_Value 29 "DecimalReader$Value" "POWERS_OF_TEN" "[I") (by decide +kernel)) (fun _ h => h) hd (k H locs ls hl hP hD hS)
theorem j_pow {own : String} {j : Nat} (hC : jC p s m args meth c cc nL ret own D tys A X) (hj : j < 9) (hd : decode cc pc = .ok (.iaload, 1)) (k : J p l e R s m args below meth c D A nL Q (pc + 1) L (.int (nI (10 ^ j)) :: S) w) : J p l e R s m args below meth c D A nL Q pc L (.int (nI j) :: .ref X.1 :: S) w := fun H locs ls hl hP hD hS =>
  va_ti hC.1 hC.2.1 hC.2.2.2.2.2.2.2.2.2.2.1 hS (vp_in_nI hj (by decide)) (by show Value.int (nI (10 ^ (nI j).toNatClampNeg)) = _; rw [nI_clamp (by omega)]) hd (k H locs ls hl hP hD hS)
def mxW (own : String) (idx : Nat) : Prop := Cond.methodLink own idx Lib.Math.max.name ∈ al_ws ∧ Cond.static Lib.Math.max.name ∈ al_ws ∧ Cond.initialized "java/lang/Math" ∈ al_ws ∧ Cond.code Lib.Math.max.name Lib.Math.max.code 2 (some .int) ∈ al_ws
theorem mx_V : mxW R_Value 69 := ⟨by decide +kernel, by decide +kernel, by decide +kernel, by decide +kernel⟩
theorem j_mmax {own : String} {idx : Nat} {x y : Int32} (hC : jC p s m args meth c cc nL ret own D tys A X) (hw : mxW own idx) (hd : decode cc pc = .ok (.invokestatic idx, 3)) (hf : 1 ≤ R.frames ∧ (S.map fun v => v.category).sum + 13 ≤ R.locals) (k : J p l e R s m args below meth c D A nL Q (pc + 3) L (.int (if x < y then y else x) :: S) w) : J p l e R s m args below meth c D A nL Q pc L (.int y :: .int x :: S) w := fun H locs ls hl hP hD hS =>
  va_mmax hC.1 hC.2.1 (hC.2.2.1.trans hl.1.symm) hC.2.2.2.1 (hC.2.2.2.2.1 _ hw.1) (hC.2.2.2.2.1 _ hw.2.1) (hC.2.2.2.2.1 _ hw.2.2.1) (hC.2.2.2.2.1 _ hw.2.2.2) hf.1 hf.2 (Nat.zero_le _) (Nat.zero_le _) hd (k H locs ls hl hP hD hS)
end JST
end
section
/-! THE JDK's methods that are reached: String.length, charAt of the constants; Arrays.fill -/
theorem jM.ofF {l : Launch} {y : MethodName} {cc : ByteArray} {nL : Nat} {ret : Option FieldType} {rm : Room} {D : va_G} {tys : List (ClassId × FieldType)} {X : jX} {av : List Value} {w : va_W} {post : Option Value → va_W → Prop} (L : List (Option Value)) (hL : jle L (jent av)) (hy : plainFor y = true) (hn : (lg_sl av).length ≤ nL)
    (body : ∀ (p : Program) (e : Env) (s : State) (m : MethodId) (args : Array Value) (below : List Frame) (meth : Method) (c : Code) (sz : Nat), jC p s m args meth c cc nL ret y.cls D tys (va_A w sz) X →
      J p l e rm s m args below meth c D (va_A w sz) nL (MQ below (jQ D w sz post) args s 0 0 (va_A w sz)) 0 L [] w) : jM l y cc nL ret rm D tys X av w post := by
  intro sz
  refine va_MetF (cc := cc) (maxL := nL) (ret := ret) hy rfl ?_
  intro p e s m args below meth c s₁ B hml hv
  obtain ⟨rfl, hsz, hP, hK, hD0, hE⟩ := hv
  have hts := atoms_spec (ws := Cond.code y cc nL ret :: al_ws) B.pre
  have hD := hD0.self (sz := sz)
  have hA : ∀ q : Nat, s.heap.size ≤ q → va_A w sz q := fun q h => Or.inr (by rw [← hsz]; exact h)
  have hl := jl_entry av hn
  rw [lg_entry_eq]
  exact body p e s m av.toArray below meth c sz ⟨B.exec, B.bytes, hml, findClass_of_methodNamed B.named, fun w h => hts w (List.mem_cons_of_mem _ h), hK, hA, B.returns, B.notSynchronized, hE⟩ s.heap [] _ (jl_weak hl (jle_at L _ hL)) hP hD va_S.rf
section JX
variable {p : Program} {l : Launch} {e : Env} {R : Room} {s : State} {m : MethodId} {args : Array Value} {below : List Frame} {meth : Method} {c : Code} {D : va_G} {A : Nat → Prop} {nL : Nat} {Q : State → Prop} {pc : Nat} {L : List (Option Value)} {S : List Value} {w : va_W}
variable {cc : ByteArray} {ret : Option FieldType} {own : String} {tys : List (ClassId × FieldType)} {X : jX}
variable {y : MethodName} {bytes : ByteArray} {maxL idx n : Nat} {ret' : Option FieldType} {rm : Room} {As : List Value} {post : Option Value → va_W → Prop}
/-- a call on a String constant -/
theorem j_callStr {i : Nat} (hC : jC p s m args meth c cc nL ret own D tys A X) (hi : i < 6) (hy : y.cls = "java/lang/String") (hw : jwV own idx y bytes maxL ret' n) (hR : jroom rm R maxL) (hn : As.length = n) (hroom : (S.map fun v => v.category).sum ≤ 8) (hd : decode cc pc = .ok (.invokevirtual idx, 3))
    (hM : jM l y bytes maxL ret' rm D tys X (.ref (X.2.1 i) :: As) w post)
    (kk : ∀ (v : Option Value) (w' : va_W), post v w' → J p l e R s m args below meth c D A nL Q (pc + 3) L (v.toList ++ S) w') : J p l e R s m args below meth c D A nL Q pc L (As.reverse ++ .ref (X.2.1 i) :: S) w := by
  intro H locs ls hl hP hD hS
  have hts := hC.2.2.2.2.1
  have hrec := vk_recv hC.2.2.2.2.2.2.2.2.2.2.2.2.1 hi hS
  rw [← hy] at hrec
  have run := va_runV (p := p) (l := l) (e := e) (R := R) (s := s) (m := m) (args := args) (below := below) (meth := meth) (c := c) (H := H) (locs := locs) (cells := 0) (slots := 0) (As := As) (rest := S) (C := y.cls) (b := X.2.1 i) (g := F0 m pc ls (As.reverse ++ .ref (X.2.1 i) :: S)) ⟨hC.1, hC.2.1, hC.2.2.1, hC.2.2.2.1, hts⟩ (hM H.size) ⟨j_callB hC hw.1 hR, hts _ hw.2.1, hts _ hw.2.2⟩ ⟨j_blind, hrec, j_pre (av := .ref (X.2.1 i) :: As) hC hP hD hS⟩ rfl hn hl.1 rfl (lv_room hroom) hd ⟨Nat.zero_le _, Nat.zero_le _⟩
  exact j_back hC hl hD hS run kk
theorem j_Str0 {i : Nat} {q : Int32 → va_W → Prop} (hC : jC p s m args meth c cc nL ret own D tys A X) (hi : i < 6) (hy : y.cls = "java/lang/String") (hw : jwV own idx y bytes maxL ret' 0) (hR : jroom rm R maxL) (hroom : (S.map fun v => v.category).sum ≤ 8) (hd : decode cc pc = .ok (.invokevirtual idx, 3)) (hM : jM l y bytes maxL ret' rm D tys X [.ref (X.2.1 i)] w (jPi q)) (kk : ∀ (r : Int32) (w2 : va_W), q r w2 → J p l e R s m args below meth c D A nL Q (pc + 3) L (.int r :: S) w2) : J p l e R s m args below meth c D A nL Q pc L (.ref (X.2.1 i) :: S) w := j_callStr (As := []) hC hi hy hw hR rfl hroom hd hM (fun v w2 h => by obtain ⟨r, rfl, h⟩ := h; exact kk r w2 h)
theorem j_Str1 {i : Nat} {v0 : Value} {q : Int32 → va_W → Prop} (hC : jC p s m args meth c cc nL ret own D tys A X) (hi : i < 6) (hy : y.cls = "java/lang/String") (hw : jwV own idx y bytes maxL ret' 1) (hR : jroom rm R maxL) (hroom : (S.map fun v => v.category).sum ≤ 8) (hd : decode cc pc = .ok (.invokevirtual idx, 3)) (hM : jM l y bytes maxL ret' rm D tys X [.ref (X.2.1 i), v0] w (jPi q)) (kk : ∀ (r : Int32) (w2 : va_W), q r w2 → J p l e R s m args below meth c D A nL Q (pc + 3) L (.int r :: S) w2) : J p l e R s m args below meth c D A nL Q pc L (v0 :: .ref (X.2.1 i) :: S) w := j_callStr (As := [v0]) hC hi hy hw hR rfl hroom hd hM (fun v w2 h => by obtain ⟨r, rfl, h⟩ := h; exact kk r w2 h)
/-- String's own fields and bytes -/
theorem js_compact (hC : jC p s m args meth c cc nL ret "java/lang/String" D tys A X) (hd : decode cc pc = .ok (.getstatic 38, 3)) (k : J p l e R s m args below meth c D A nL Q (pc + 3) L (.int 1 :: S) w) : J p l e R s m args below meth c D A nL Q pc L S w := fun H locs ls hl hP hD hS =>
  va_gets hC.1 hC.2.1 hC.2.2.2.2.2.2.2.2.2.2.2.1 hS hC.2.2.2.1 (hC.2.2.2.2.1 (.fieldLink "java/lang/String" 38 "java/lang/String" "COMPACT_STRINGS" "Z") (by decide +kernel)) (fun _ h => h) hd (k H locs ls hl hP hD hS)
theorem js_value {i : Nat} (hC : jC p s m args meth c cc nL ret "java/lang/String" D tys A X) (hi : i < 6) (hd : decode cc pc = .ok (.getfield 9, 3)) (k : J p l e R s m args below meth c D A nL Q (pc + 3) L (.ref (X.2.2 i) :: S) w) : J p l e R s m args below meth c D A nL Q pc L (.ref (X.2.1 i) :: S) w := fun H locs ls hl hP hD hS =>
  vk_getf hC.1 hC.2.1 (hC.2.2.2.2.2.2.2.2.2.2.2.2.1.1 i hi).2.2.1 hS hC.2.2.2.1 (hC.2.2.2.2.1 (.fieldLink "java/lang/String" 9 "java/lang/String" "value" "[B") (by decide +kernel)) (fun _ h => h) hd (k H locs ls hl hP hD hS)
theorem js_coder {i : Nat} (hC : jC p s m args meth c cc nL ret "java/lang/String" D tys A X) (hi : i < 6) (hd : decode cc pc = .ok (.getfield 15, 3)) (k : J p l e R s m args below meth c D A nL Q (pc + 3) L (.int 0 :: S) w) : J p l e R s m args below meth c D A nL Q pc L (.ref (X.2.1 i) :: S) w := fun H locs ls hl hP hD hS =>
  vk_getf hC.1 hC.2.1 (hC.2.2.2.2.2.2.2.2.2.2.2.2.1.1 i hi).2.1 hS hC.2.2.2.1 (hC.2.2.2.2.1 (.fieldLink "java/lang/String" 15 "java/lang/String" "coder" "B") (by decide +kernel)) (fun _ h => h) hd (k H locs ls hl hP hD hS)
theorem js_blen {i : Nat} (hC : jC p s m args meth c cc nL ret own D tys A X) (hi : i < 6) (hd : decode cc pc = .ok (.arraylength, 1)) (k : J p l e R s m args below meth c D A nL Q (pc + 1) L (.int (nI (st_len.getD i 0)) :: S) w) : J p l e R s m args below meth c D A nL Q pc L (.ref (X.2.2 i) :: S) w := fun H locs ls hl hP hD hS =>
  va_tlen hC.1 hC.2.1 (hC.2.2.2.2.2.2.2.2.2.2.2.2.1.1 i hi).2.2.2 hS rfl hd (k H locs ls hl hP hD hS)
theorem js_bald {i j : Nat} (hC : jC p s m args meth c cc nL ret own D tys A X) (hi : i < 6) (hj : j < st_len.getD i 0) (hj2 : j < 100) (hd : decode cc pc = .ok (.baload, 1)) (k : J p l e R s m args below meth c D A nL Q (pc + 1) L (.int ((st_byt.getD i []).getD j 0) :: S) w) : J p l e R s m args below meth c D A nL Q pc L (.int (nI j) :: .ref (X.2.2 i) :: S) w := fun H locs ls hl hP hD hS =>
  va_tb hC.1 hC.2.1 (hC.2.2.2.2.2.2.2.2.2.2.2.2.1.1 i hi).2.2.2 hS (by
    have hc : (nI j).toNatClampNeg = j := nI_clamp (by omega)
    intro q
    rcases q with q | q
    · exact absurd q (nI_pos (by omega))
    · rw [hc] at q; omega) (by show Value.int ((st_byt.getD i []).getD (nI j).toNatClampNeg 0) = _; rw [nI_clamp (by omega)]) hd (k H locs ls hl hP hD hS)
theorem js_sioobe (hC : jC p s m args meth c cc nL ret "java/lang/String" D tys A X) (hd : decode cc pc = .ok (.getstatic 1053, 3)) (k : ∀ v : Value, v.category = 1 → J p l e R s m args below meth c D A nL Q (pc + 3) L (v :: S) w) : J p l e R s m args below meth c D A nL Q pc L S w := fun H locs ls hl hP hD hS => by
  have hlink := hC.2.2.2.2.1 (.fieldLink "java/lang/String" 1053 "jdk/internal/util/Preconditions" "SIOOBE_FORMATTER" "Ljava/util/function/BiFunction;") (by decide +kernel)
  rcases hC.2.2.2.2.2.2.2.2.2.2.2.2.2.1.1 with h | ⟨t, h⟩
  · exact va_gets hC.1 hC.2.1 h hS hC.2.2.2.1 hlink (fun _ h => h) hd (k .null rfl H locs ls hl hP hD hS)
  · exact va_gets hC.1 hC.2.1 h hS hC.2.2.2.1 hlink (fun _ h => h) hd (k (.ref t) rfl H locs ls hl hP hD hS)
theorem j_alen {q0 t0 : Nat} {cA : ClassId} {a : Nat} {x : vp_A} {ty : FieldType} (hC : jC p s m args meth c cc nL ret own D tys A X) (ha : w[q0]? = some (a, .inl (cA, x))) (ht : tys[t0]? = some (cA, ty)) (hd : decode cc pc = .ok (.arraylength, 1)) (k : J p l e R s m args below meth c D A nL Q (pc + 1) L (.int (Int32.ofNat x.1) :: S) w) : J p l e R s m args below meth c D A nL Q pc L (.ref a :: S) w := fun H locs ls hl hP hD hS => va_alen (q0 := q0) (t0 := t0) hC.1 hC.2.1 hC.2.2.2.2.2.1 hP ha ht rfl hd (k H locs ls hl hP hD hS)
end JX
abbrev b_s_length : ByteArray := prog_14_method_54_code
def y_s_length : MethodName := ⟨"java/lang/String", "length", "()I"⟩
abbrev b_s_charAt : ByteArray := prog_14_method_56_code
def y_s_charAt : MethodName := ⟨"java/lang/String", "charAt", "(I)C"⟩
abbrev b_s_coder : ByteArray := prog_14_method_152_code
def y_s_coder : MethodName := ⟨"java/lang/String", "coder", "()B"⟩
abbrev b_s_isLatin1 : ByteArray := prog_14_method_154_code
def y_s_isLatin1 : MethodName := ⟨"java/lang/String", "isLatin1", "()Z"⟩
abbrev b_s_checkIndex : ByteArray := prog_14_method_155_code
def y_s_checkIndex : MethodName := ⟨"java/lang/String", "checkIndex", "(II)V"⟩
abbrev b_t_charAt : ByteArray := prog_15_method_2_code
def y_t_charAt : MethodName := ⟨"java/lang/StringLatin1", "charAt", "([BI)C"⟩
abbrev b_p_checkIndex : ByteArray := prog_20_method_11_code
def y_p_checkIndex : MethodName := ⟨"jdk/internal/util/Preconditions", "checkIndex", "(IILjava/util/function/BiFunction;)I"⟩
abbrev b_a_fill : ByteArray := prog_19_method_103_code
def y_a_fill : MethodName := ⟨"java/util/Arrays", "fill", "([II)V"⟩
theorem d_s_length_0 : decode b_s_length 0 = .ok (.aload_n 0, 1) := by decide +kernel
theorem d_s_length_1 : decode b_s_length 1 = .ok (.getfield 9, 3) := by decide +kernel
theorem d_s_length_4 : decode b_s_length 4 = .ok (.arraylength, 1) := by decide +kernel
theorem d_s_length_5 : decode b_s_length 5 = .ok (.aload_n 0, 1) := by decide +kernel
theorem d_s_length_6 : decode b_s_length 6 = .ok (.invokevirtual 335, 3) := by decide +kernel
theorem d_s_length_9 : decode b_s_length 9 = .ok (.ishr, 1) := by decide +kernel
theorem d_s_length_10 : decode b_s_length 10 = .ok (.ireturn, 1) := by decide +kernel
theorem d_s_charAt_0 : decode b_s_charAt 0 = .ok (.aload_n 0, 1) := by decide +kernel
theorem d_s_charAt_1 : decode b_s_charAt 1 = .ok (.invokevirtual 492, 3) := by decide +kernel
theorem d_s_charAt_4 : decode b_s_charAt 4 = .ok (.ifCond .eq 12, 3) := by decide +kernel
theorem d_s_charAt_7 : decode b_s_charAt 7 = .ok (.aload_n 0, 1) := by decide +kernel
theorem d_s_charAt_8 : decode b_s_charAt 8 = .ok (.getfield 9, 3) := by decide +kernel
theorem d_s_charAt_11 : decode b_s_charAt 11 = .ok (.iload_n 1, 1) := by decide +kernel
theorem d_s_charAt_12 : decode b_s_charAt 12 = .ok (.invokestatic 495, 3) := by decide +kernel
theorem d_s_charAt_15 : decode b_s_charAt 15 = .ok (.ireturn, 1) := by decide +kernel
theorem d_s_coder_0 : decode b_s_coder 0 = .ok (.getstatic 38, 3) := by decide +kernel
theorem d_s_coder_3 : decode b_s_coder 3 = .ok (.ifCond .eq 10, 3) := by decide +kernel
theorem d_s_coder_6 : decode b_s_coder 6 = .ok (.aload_n 0, 1) := by decide +kernel
theorem d_s_coder_7 : decode b_s_coder 7 = .ok (.getfield 15, 3) := by decide +kernel
theorem d_s_coder_10 : decode b_s_coder 10 = .ok (.goto 4, 3) := by decide +kernel
theorem d_s_coder_13 : decode b_s_coder 13 = .ok (.iconst 1, 1) := by decide +kernel
theorem d_s_coder_14 : decode b_s_coder 14 = .ok (.ireturn, 1) := by decide +kernel
theorem d_s_isLatin1_0 : decode b_s_isLatin1 0 = .ok (.getstatic 38, 3) := by decide +kernel
theorem d_s_isLatin1_3 : decode b_s_isLatin1 3 = .ok (.ifCond .eq 14, 3) := by decide +kernel
theorem d_s_isLatin1_6 : decode b_s_isLatin1 6 = .ok (.aload_n 0, 1) := by decide +kernel
theorem d_s_isLatin1_7 : decode b_s_isLatin1 7 = .ok (.getfield 15, 3) := by decide +kernel
theorem d_s_isLatin1_10 : decode b_s_isLatin1 10 = .ok (.ifCond .ne 7, 3) := by decide +kernel
theorem d_s_isLatin1_13 : decode b_s_isLatin1 13 = .ok (.iconst 1, 1) := by decide +kernel
theorem d_s_isLatin1_14 : decode b_s_isLatin1 14 = .ok (.goto 4, 3) := by decide +kernel
theorem d_s_isLatin1_17 : decode b_s_isLatin1 17 = .ok (.iconst 0, 1) := by decide +kernel
theorem d_s_isLatin1_18 : decode b_s_isLatin1 18 = .ok (.ireturn, 1) := by decide +kernel
theorem d_s_checkIndex_0 : decode b_s_checkIndex 0 = .ok (.iload_n 0, 1) := by decide +kernel
theorem d_s_checkIndex_1 : decode b_s_checkIndex 1 = .ok (.iload_n 1, 1) := by decide +kernel
theorem d_s_checkIndex_2 : decode b_s_checkIndex 2 = .ok (.getstatic 1053, 3) := by decide +kernel
theorem d_s_checkIndex_5 : decode b_s_checkIndex 5 = .ok (.invokestatic 1059, 3) := by decide +kernel
theorem d_s_checkIndex_8 : decode b_s_checkIndex 8 = .ok (.pop, 1) := by decide +kernel
theorem d_s_checkIndex_9 : decode b_s_checkIndex 9 = .ok (.return_, 1) := by decide +kernel
theorem d_t_charAt_0 : decode b_t_charAt 0 = .ok (.iload_n 1, 1) := by decide +kernel
theorem d_t_charAt_1 : decode b_t_charAt 1 = .ok (.aload_n 0, 1) := by decide +kernel
theorem d_t_charAt_2 : decode b_t_charAt 2 = .ok (.arraylength, 1) := by decide +kernel
theorem d_t_charAt_3 : decode b_t_charAt 3 = .ok (.invokestatic 9, 3) := by decide +kernel
theorem d_t_charAt_6 : decode b_t_charAt 6 = .ok (.aload_n 0, 1) := by decide +kernel
theorem d_t_charAt_7 : decode b_t_charAt 7 = .ok (.iload_n 1, 1) := by decide +kernel
theorem d_t_charAt_8 : decode b_t_charAt 8 = .ok (.baload, 1) := by decide +kernel
theorem d_t_charAt_9 : decode b_t_charAt 9 = .ok (.sipush 255, 3) := by decide +kernel
theorem d_t_charAt_12 : decode b_t_charAt 12 = .ok (.iand, 1) := by decide +kernel
theorem d_t_charAt_13 : decode b_t_charAt 13 = .ok (.i2c, 1) := by decide +kernel
theorem d_t_charAt_14 : decode b_t_charAt 14 = .ok (.ireturn, 1) := by decide +kernel
theorem d_p_checkIndex_0 : decode b_p_checkIndex 0 = .ok (.iload_n 0, 1) := by decide +kernel
theorem d_p_checkIndex_1 : decode b_p_checkIndex 1 = .ok (.ifCond .lt 8, 3) := by decide +kernel
theorem d_p_checkIndex_4 : decode b_p_checkIndex 4 = .ok (.iload_n 0, 1) := by decide +kernel
theorem d_p_checkIndex_5 : decode b_p_checkIndex 5 = .ok (.iload_n 1, 1) := by decide +kernel
theorem d_p_checkIndex_6 : decode b_p_checkIndex 6 = .ok (.if_icmp .lt 10, 3) := by decide +kernel
theorem d_p_checkIndex_16 : decode b_p_checkIndex 16 = .ok (.iload_n 0, 1) := by decide +kernel
theorem d_p_checkIndex_17 : decode b_p_checkIndex 17 = .ok (.ireturn, 1) := by decide +kernel
theorem d_a_fill_0 : decode b_a_fill 0 = .ok (.iconst 0, 1) := by decide +kernel
theorem d_a_fill_1 : decode b_a_fill 1 = .ok (.istore_n 2, 1) := by decide +kernel
theorem d_a_fill_2 : decode b_a_fill 2 = .ok (.aload_n 0, 1) := by decide +kernel
theorem d_a_fill_3 : decode b_a_fill 3 = .ok (.arraylength, 1) := by decide +kernel
theorem d_a_fill_4 : decode b_a_fill 4 = .ok (.istore_n 3, 1) := by decide +kernel
theorem d_a_fill_5 : decode b_a_fill 5 = .ok (.iload_n 2, 1) := by decide +kernel
theorem d_a_fill_6 : decode b_a_fill 6 = .ok (.iload_n 3, 1) := by decide +kernel
theorem d_a_fill_7 : decode b_a_fill 7 = .ok (.if_icmp .ge 13, 3) := by decide +kernel
theorem d_a_fill_10 : decode b_a_fill 10 = .ok (.aload_n 0, 1) := by decide +kernel
theorem d_a_fill_11 : decode b_a_fill 11 = .ok (.iload_n 2, 1) := by decide +kernel
theorem d_a_fill_12 : decode b_a_fill 12 = .ok (.iload_n 1, 1) := by decide +kernel
theorem d_a_fill_13 : decode b_a_fill 13 = .ok (.iastore, 1) := by decide +kernel
theorem d_a_fill_14 : decode b_a_fill 14 = .ok (.iinc 2 1, 3) := by decide +kernel
theorem d_a_fill_17 : decode b_a_fill 17 = .ok (.goto (-12), 3) := by decide +kernel
theorem d_a_fill_20 : decode b_a_fill 20 = .ok (.return_, 1) := by decide +kernel
theorem cw_S_335 : jwV "java/lang/String" 335 y_s_coder b_s_coder 1 (some .byte) 0 := ⟨⟨by decide +kernel, by decide +kernel, by decide +kernel, ⟨by decide, by decide⟩, by decide +kernel⟩, by decide +kernel, by decide +kernel⟩
theorem cw_S_492 : jwV "java/lang/String" 492 y_s_isLatin1 b_s_isLatin1 1 (some .boolean) 0 := ⟨⟨by decide +kernel, by decide +kernel, by decide +kernel, ⟨by decide, by decide⟩, by decide +kernel⟩, by decide +kernel, by decide +kernel⟩
theorem cw_S_495 : jwS "java/lang/String" 495 y_t_charAt b_t_charAt 2 (some .char) 2 := ⟨⟨by decide +kernel, by decide +kernel, by decide +kernel, ⟨by decide, by decide⟩, by decide +kernel⟩, by decide +kernel⟩
theorem cw_S_1059 : jwS "java/lang/String" 1059 y_p_checkIndex b_p_checkIndex 3 (some .int) 3 := ⟨⟨by decide +kernel, by decide +kernel, by decide +kernel, ⟨by decide, by decide⟩, by decide +kernel⟩, by decide +kernel⟩
theorem cw_T_9 : jwS "java/lang/StringLatin1" 9 y_s_checkIndex b_s_checkIndex 2 none 2 := ⟨⟨by decide +kernel, by decide +kernel, by decide +kernel, ⟨by decide, by decide⟩, by decide +kernel⟩, by decide +kernel⟩
theorem cw_R_160 : jwV R_DecimalReader 160 y_s_length b_s_length 1 (some .int) 0 := ⟨⟨by decide +kernel, by decide +kernel, by decide +kernel, ⟨by decide, by decide⟩, by decide +kernel⟩, by decide +kernel, by decide +kernel⟩
theorem cw_R_165 : jwV R_DecimalReader 165 y_s_charAt b_s_charAt 2 (some .char) 1 := ⟨⟨by decide +kernel, by decide +kernel, by decide +kernel, ⟨by decide, by decide⟩, by decide +kernel⟩, by decide +kernel, by decide +kernel⟩
theorem cw_M_100 : jwV R_Model 100 y_s_length b_s_length 1 (some .int) 0 := ⟨⟨by decide +kernel, by decide +kernel, by decide +kernel, ⟨by decide, by decide⟩, by decide +kernel⟩, by decide +kernel, by decide +kernel⟩
theorem cw_M_106 : jwV R_Model 106 y_s_charAt b_s_charAt 2 (some .char) 1 := ⟨⟨by decide +kernel, by decide +kernel, by decide +kernel, ⟨by decide, by decide⟩, by decide +kernel⟩, by decide +kernel, by decide +kernel⟩
theorem cw_V_23 : jwS R_Value 23 y_a_fill b_a_fill 4 none 2 := ⟨⟨by decide +kernel, by decide +kernel, by decide +kernel, ⟨by decide, by decide⟩, by decide +kernel⟩, by decide +kernel⟩
section JDK
variable {l : Launch} {D : va_G} {X : jX} {tys : List (ClassId × FieldType)} {w : va_W}
theorem c_s_coder (i : Nat) (hi : i < 6) : jM l y_s_coder b_s_coder 1 (some .byte) (rmD 0) D tys X [.ref (X.2.1 i)] w (jPi fun r w2 => r = 0 ∧ w2 = w) := by
  refine jM.ofF [some (.ref (X.2.1 i))] (by simp [jle, jent, Value.category]) rfl (Nat.le_of_ble_eq_true rfl) ?_
  intro p e s m args below meth c sz hC
  refine js_compact (pc := 0) hC d_s_coder_0 ?_
  refine j_if_eq (pc := 3) hC 13 d_s_coder_3 (by decide) (fun h => ?_) (fun h => ?_)
  · exact absurd h (by decide)
  · refine j_aloadn0 (pc := 6) hC d_s_coder_6 ?_
    refine js_coder (pc := 7) hC hi d_s_coder_7 ?_
    refine j_goto (pc := 10) hC 14 d_s_coder_10 (by decide) ?_
    exact j_zret hC rfl d_s_coder_14 ⟨0, rfl, rfl, rfl⟩
theorem c_s_isLatin1 (i : Nat) (hi : i < 6) : jM l y_s_isLatin1 b_s_isLatin1 1 (some .boolean) (rmD 0) D tys X [.ref (X.2.1 i)] w (jPi fun r w2 => r = 1 ∧ w2 = w) := by
  refine jM.ofF [some (.ref (X.2.1 i))] (by simp [jle, jent, Value.category]) rfl (Nat.le_of_ble_eq_true rfl) ?_
  intro p e s m args below meth c sz hC
  refine js_compact (pc := 0) hC d_s_isLatin1_0 ?_
  refine j_if_eq (pc := 3) hC 17 d_s_isLatin1_3 (by decide) (fun h => ?_) (fun h => ?_)
  · exact absurd h (by decide)
  · refine j_aloadn0 (pc := 6) hC d_s_isLatin1_6 ?_
    refine js_coder (pc := 7) hC hi d_s_isLatin1_7 ?_
    refine j_if_ne (pc := 10) hC 17 d_s_isLatin1_10 (by decide) (fun h => ?_) (fun h => ?_)
    · exact absurd rfl h
    · refine j_iconst (pc := 13) (v := 1) hC d_s_isLatin1_13 (by decide) ?_
      refine j_goto (pc := 14) hC 18 d_s_isLatin1_14 (by decide) ?_
      exact j_zret hC rfl d_s_isLatin1_18 ⟨1, rfl, rfl, rfl⟩
theorem c_s_length (i : Nat) (hi : i < 6) : jM l y_s_length b_s_length 1 (some .int) (rmD 1) D tys X [.ref (X.2.1 i)] w (jPi fun r w2 => r = nI (st_len.getD i 0) ∧ w2 = w) := by
  refine jM.ofF [some (.ref (X.2.1 i))] (by simp [jle, jent, Value.category]) rfl (Nat.le_of_ble_eq_true rfl) ?_
  intro p e s m args below meth c sz hC
  refine j_aloadn0 (pc := 0) hC d_s_length_0 ?_
  refine js_value (pc := 1) hC hi d_s_length_1 ?_
  refine js_blen (pc := 4) hC hi d_s_length_4 ?_
  refine j_aloadn0 (pc := 5) hC d_s_length_5 ?_
  refine j_Str0 (pc := 6) hC hi rfl cw_S_335 (rmD_in (by decide)) (Nat.le_of_ble_eq_true rfl) d_s_length_6 (c_s_coder i hi) (fun r w2 h => ?_)
  obtain ⟨rfl, rfl⟩ := h
  refine j_ishr (pc := 9) hC d_s_length_9 ?_
  refine j_iret hC d_s_length_10 ⟨_, rfl, ?_, rfl⟩
  exact sb_shr0 _
theorem cat_int (x : Int32) : (Value.int x).category = 1 := rfl
theorem c_p_checkIndex (a n : Nat) (v : Value) (hv : v.category = 1) (ha : a < n) (hn : n < 1000) : jM l y_p_checkIndex b_p_checkIndex 3 (some .int) (rmD 0) D tys X [.int (nI a), .int (nI n), v] w (jPi fun r w2 => r = nI a ∧ w2 = w) := by
  refine jM.ofF [some (.int (nI a)), some (.int (nI n)), some v] (by simp [jle, jent, hv, cat_int]) rfl (by simp [lg_sl, hv, cat_int]) ?_
  intro p e s m args below meth c sz hC
  refine j_iloadn0 (pc := 0) hC d_p_checkIndex_0 ?_
  refine j_if_lt (pc := 1) hC 9 d_p_checkIndex_1 (by decide) (fun h => ?_) (fun h => ?_)
  · exact absurd h (nI_pos (by omega))
  · refine j_iloadn0 (pc := 4) hC d_p_checkIndex_4 ?_
    refine j_iloadn1 (pc := 5) hC d_p_checkIndex_5 ?_
    refine j_icmp_lt (pc := 6) hC 16 d_p_checkIndex_6 (by decide) (fun h => ?_) (fun h => ?_)
    · refine j_iloadn0 (pc := 16) hC d_p_checkIndex_16 ?_
      exact j_iret hC d_p_checkIndex_17 ⟨_, rfl, rfl, rfl⟩
    · exact absurd (nI_lt ha (by omega)) h
theorem c_s_checkIndex (a n : Nat) (ha : a < n) (hn : n < 1000) : jM l y_s_checkIndex b_s_checkIndex 2 none (rmD 1) D tys X [.int (nI a), .int (nI n)] w (jPv fun w2 => w2 = w) := by
  refine jM.ofF [some (.int (nI a)), some (.int (nI n))] (by simp [jle, jent, Value.category]) rfl (Nat.le_of_ble_eq_true rfl) ?_
  intro p e s m args below meth c sz hC
  refine j_iloadn0 (pc := 0) hC d_s_checkIndex_0 ?_
  refine j_iloadn1 (pc := 1) hC d_s_checkIndex_1 ?_
  refine js_sioobe (pc := 2) hC d_s_checkIndex_2 (fun v hv => ?_)
  refine j_S3i (pc := 5) hC cw_S_1059 (rmD_in (by decide)) (Nat.le_of_ble_eq_true rfl) d_s_checkIndex_5 (c_p_checkIndex a n v hv ha hn) (fun r w2 h => ?_)
  obtain ⟨rfl, rfl⟩ := h
  refine j_pop (pc := 8) hC d_s_checkIndex_8 rfl ?_
  exact j_vret hC d_s_checkIndex_9 ⟨rfl, rfl⟩
theorem sch_ok : ∀ i, i < 6 → ∀ j, j < st_len.getD i 0 → ((((st_byt.getD i []).getD j 0) &&& 255).toUInt32 % 65536).toInt32 = (st_byt.getD i []).getD j 0 ∧ narrow .char (.int ((st_byt.getD i []).getD j 0)) = .int ((st_byt.getD i []).getD j 0) := by decide +kernel
theorem st_small : ∀ i, i < 6 → st_len.getD i 0 < 100 := by decide +kernel
theorem c_t_charAt (i j : Nat) (hi : i < 6) (hj : j < st_len.getD i 0) : jM l y_t_charAt b_t_charAt 2 (some .char) (rmD 2) D tys X [.ref (X.2.2 i), .int (nI j)] w (jPi fun r w2 => r = (st_byt.getD i []).getD j 0 ∧ w2 = w) := by
  refine jM.ofF [some (.ref (X.2.2 i)), some (.int (nI j))] (by simp [jle, jent, Value.category]) rfl (Nat.le_of_ble_eq_true rfl) ?_
  intro p e s m args below meth c sz hC
  have hs := st_small i hi
  refine j_iloadn1 (pc := 0) hC d_t_charAt_0 ?_
  refine j_aloadn0 (pc := 1) hC d_t_charAt_1 ?_
  refine js_blen (pc := 2) hC hi d_t_charAt_2 ?_
  refine j_S2v (pc := 3) hC cw_T_9 (rmD_in (by decide)) (Nat.le_of_ble_eq_true rfl) d_t_charAt_3 (c_s_checkIndex j _ hj (by omega)) (fun w2 h => ?_)
  obtain rfl := h
  refine j_aloadn0 (pc := 6) hC d_t_charAt_6 ?_
  refine j_iloadn1 (pc := 7) hC d_t_charAt_7 ?_
  refine js_bald (pc := 8) hC hi hj (by omega) d_t_charAt_8 ?_
  refine j_sipush (pc := 9) (v := 255) hC d_t_charAt_9 (by decide) ?_
  refine j_iand (pc := 12) hC d_t_charAt_12 ?_
  refine j_i2c (pc := 13) hC d_t_charAt_13 ?_
  refine J.topi (sch_ok i hi j hj).1 ?_
  exact j_zret hC (sch_ok i hi j hj).2 d_t_charAt_14 ⟨_, rfl, rfl, rfl⟩
theorem c_s_charAt (i j : Nat) (hi : i < 6) (hj : j < st_len.getD i 0) : jM l y_s_charAt b_s_charAt 2 (some .char) (rmD 3) D tys X [.ref (X.2.1 i), .int (nI j)] w (jPi fun r w2 => r = (st_byt.getD i []).getD j 0 ∧ w2 = w) := by
  refine jM.ofF [some (.ref (X.2.1 i)), some (.int (nI j))] (by simp [jle, jent, Value.category]) rfl (Nat.le_of_ble_eq_true rfl) ?_
  intro p e s m args below meth c sz hC
  refine j_aloadn0 (pc := 0) hC d_s_charAt_0 ?_
  refine j_Str0 (pc := 1) hC hi rfl cw_S_492 (rmD_in (by decide)) (Nat.le_of_ble_eq_true rfl) d_s_charAt_1 (c_s_isLatin1 i hi) (fun r w2 h => ?_)
  obtain ⟨rfl, rfl⟩ := h
  refine j_if_eq (pc := 4) hC 16 d_s_charAt_4 (by decide) (fun h => ?_) (fun h => ?_)
  · exact absurd h (by decide)
  · refine j_aloadn0 (pc := 7) hC d_s_charAt_7 ?_
    refine js_value (pc := 8) hC hi d_s_charAt_8 ?_
    refine j_iloadn1 (pc := 11) hC d_s_charAt_11 ?_
    refine j_S2i (pc := 12) hC cw_S_495 (rmD_in (by decide)) (Nat.le_of_ble_eq_true rfl) d_s_charAt_12 (c_t_charAt i j hi hj) (fun r w2 h => ?_)
    obtain ⟨rfl, rfl⟩ := h
    exact j_zret hC (sch_ok i hi j hj).2 d_s_charAt_15 ⟨_, rfl, rfl, rfl⟩
end JDK
end
section
/-! THE CLASS: its small methods -/
theorem i32lt {x y : Int32} : x < y ↔ x.toInt < y.toInt := Int32.lt_iff_toInt_lt
theorem i32le {x y : Int32} : x ≤ y ↔ x.toInt ≤ y.toInt := Int32.le_iff_toInt_le
theorem i32eq {x y : Int32} : x = y ↔ x.toInt = y.toInt := Int32.toInt_inj.symm
section SC
variable {l : Launch} {D : va_G} {X : jX} {g : Nat → Nat} {ca : Nat → ClassId} {len ps sp ng fm df dt wg ex hg mo : Int32} {tp lb wo : Nat → Int32}
set_option maxHeartbeats 1000000 in
theorem c_isBlank (x : Int32) : jM l y_isBlank b_isBlank 1 (some .boolean) (rmD 0) D (tyD ca) X [.int x] (wd g ca len ps sp ng fm df dt wg ex hg mo tp lb wo) (jPi fun r w => r = (if 0 ≤ x.toInt ∧ x.toInt ≤ 32 then 1 else 0) ∧ w = wd g ca len ps sp ng fm df dt wg ex hg mo tp lb wo) := by
  refine jM.of [some (.int x)] (by simp [jle, jent, Value.category]) rfl (Nat.le_of_ble_eq_true rfl) ?_
  intro p e s m args below meth c sz hC
  refine j_iloadn0 (pc := 0) hC d_isBlank_0 ?_
  refine j_if_lt (pc := 1) hC 14 d_isBlank_1 (by decide) (fun h1 => ?_) (fun h1 => ?_)
  · refine j_iconst (pc := 14) (v := 0) hC d_isBlank_14 (by decide) ?_
    refine j_zret hC rfl d_isBlank_15 ⟨0, rfl, ?_, rfl⟩
    rw [i32lt] at h1
    rw [if_neg (by have e : (0 : Int32).toInt = 0 := rfl; omega)]
  · refine j_iloadn0 (pc := 4) hC d_isBlank_4 ?_
    refine j_bipush (pc := 5) (v := 32) hC d_isBlank_5 (by decide) ?_
    refine j_icmp_gt (pc := 7) hC 14 d_isBlank_7 (by decide) (fun h2 => ?_) (fun h2 => ?_)
    · refine j_iconst (pc := 14) (v := 0) hC d_isBlank_14 (by decide) ?_
      refine j_zret hC rfl d_isBlank_15 ⟨0, rfl, ?_, rfl⟩
      rw [i32lt] at h2
      rw [if_neg (by have e : (32 : Int32).toInt = 32 := rfl; omega)]
    · refine j_iconst (pc := 10) (v := 1) hC d_isBlank_10 (by decide) ?_
      refine j_goto (pc := 11) hC 15 d_isBlank_11 (by decide) ?_
      refine j_zret hC rfl d_isBlank_15 ⟨1, rfl, ?_, rfl⟩
      rw [i32lt] at h1 h2
      rw [if_pos (by have e : (32 : Int32).toInt = 32 := rfl; have e2 : (0 : Int32).toInt = 0 := rfl; omega)]
theorem dg_48 {x : Int32} (h1 : 48 ≤ x.toInt) (h2 : x.toInt ≤ 57) : x - 48 = nI (dg x) := by
  have e : dg x = (x.toInt - 48).toNat := by unfold dg; rw [if_pos ⟨h1, h2⟩]
  rw [e]
  apply Int32.toInt_inj.mp
  rw [nI_toInt (by omega), Int32.toInt_sub, show (48 : Int32).toInt = 48 from rfl, Int.bmod_eq_of_le (by omega) (by omega)]
  omega
theorem dg_97 {x : Int32} (h1 : 97 ≤ x.toInt) (h2 : x.toInt ≤ 102) : x - 97 + 10 = nI (dg x) := by
  have e : dg x = (x.toInt - 87).toNat := by unfold dg; rw [if_neg (by omega), if_pos ⟨h1, h2⟩]
  rw [e]
  apply Int32.toInt_inj.mp
  rw [nI_toInt (by omega), Int32.toInt_add, Int32.toInt_sub, show (97 : Int32).toInt = 97 from rfl, show (10 : Int32).toInt = 10 from rfl, Int.bmod_eq_of_le (n := x.toInt - 97) (by omega) (by omega), Int.bmod_eq_of_le (by omega) (by omega)]
  omega
theorem dg_65 {x : Int32} (h1 : 65 ≤ x.toInt) (h2 : x.toInt ≤ 70) : x - 65 + 10 = nI (dg x) := by
  have e : dg x = (x.toInt - 55).toNat := by unfold dg; rw [if_neg (by omega), if_neg (by omega), if_pos ⟨h1, h2⟩]
  rw [e]
  apply Int32.toInt_inj.mp
  rw [nI_toInt (by omega), Int32.toInt_add, Int32.toInt_sub, show (65 : Int32).toInt = 65 from rfl, show (10 : Int32).toInt = 10 from rfl, Int.bmod_eq_of_le (n := x.toInt - 65) (by omega) (by omega), Int.bmod_eq_of_le (by omega) (by omega)]
  omega
theorem dg_no {x : Int32} (h1 : ¬ (48 ≤ x.toInt ∧ x.toInt ≤ 57)) (h2 : ¬ (97 ≤ x.toInt ∧ x.toInt ≤ 102)) (h3 : ¬ (65 ≤ x.toInt ∧ x.toInt ≤ 70)) : (16 : Int32) = nI (dg x) := by
  have e : dg x = 16 := by unfold dg; rw [if_neg h1, if_neg h2, if_neg h3]
  rw [e]
  rfl
theorem tl48 : (48 : Int32).toInt = 48 := rfl
theorem tl57 : (57 : Int32).toInt = 57 := rfl
theorem tl97 : (97 : Int32).toInt = 97 := rfl
theorem tl102 : (102 : Int32).toInt = 102 := rfl
theorem tl65 : (65 : Int32).toInt = 65 := rfl
theorem tl70 : (70 : Int32).toInt = 70 := rfl
set_option maxHeartbeats 1000000 in
theorem c_digitOf (x : Int32) : jM l y_digitOf b_digitOf 1 (some .int) (rmD 0) D (tyD ca) X [.int x] (wd g ca len ps sp ng fm df dt wg ex hg mo tp lb wo) (jPi fun r w => r = nI (dg x) ∧ w = wd g ca len ps sp ng fm df dt wg ex hg mo tp lb wo) := by
  refine jM.of [some (.int x)] (by simp [jle, jent, Value.category]) rfl (Nat.le_of_ble_eq_true rfl) ?_
  intro p e s m args below meth c sz hC
  have k37 : ¬ (48 ≤ x.toInt ∧ x.toInt ≤ 57) → ¬ (97 ≤ x.toInt ∧ x.toInt ≤ 102) → J p l e (rmD 0) s m args below meth c D (va_A (wd g ca len ps sp ng fm df dt wg ex hg mo tp lb wo) sz) 1 (MQ below (jQ D (wd g ca len ps sp ng fm df dt wg ex hg mo tp lb wo) sz (jPi fun r w => r = nI (dg x) ∧ w = wd g ca len ps sp ng fm df dt wg ex hg mo tp lb wo)) args s 0 0 (va_A (wd g ca len ps sp ng fm df dt wg ex hg mo tp lb wo) sz)) 37 [some (.int x)] [] (wd g ca len ps sp ng fm df dt wg ex hg mo tp lb wo) := by
    intro n1 n2
    refine j_iloadn0 (pc := 37) hC d_digitOf_37 ?_
    refine j_bipush (pc := 38) (v := 65) hC d_digitOf_38 (by decide) ?_
    refine j_icmp_lt (pc := 40) hC 57 d_digitOf_40 (by decide) (fun h1 => ?_) (fun h1 => ?_)
    · refine j_bipush (pc := 57) (v := 16) hC d_digitOf_57 (by decide) ?_
      exact j_iret hC d_digitOf_59 ⟨_, rfl, dg_no n1 n2 (by rw [i32lt, tl65] at h1; omega), rfl⟩
    · refine j_iloadn0 (pc := 43) hC d_digitOf_43 ?_
      refine j_bipush (pc := 44) (v := 70) hC d_digitOf_44 (by decide) ?_
      refine j_icmp_gt (pc := 46) hC 57 d_digitOf_46 (by decide) (fun h2 => ?_) (fun h2 => ?_)
      · refine j_bipush (pc := 57) (v := 16) hC d_digitOf_57 (by decide) ?_
        exact j_iret hC d_digitOf_59 ⟨_, rfl, dg_no n1 n2 (by rw [i32lt, tl70] at h2; omega), rfl⟩
      · refine j_iloadn0 (pc := 49) hC d_digitOf_49 ?_
        refine j_bipush (pc := 50) (v := 65) hC d_digitOf_50 (by decide) ?_
        refine j_isub (pc := 52) hC d_digitOf_52 ?_
        refine j_bipush (pc := 53) (v := 10) hC d_digitOf_53 (by decide) ?_
        refine j_iadd (pc := 55) hC d_digitOf_55 ?_
        exact j_iret hC d_digitOf_56 ⟨_, rfl, dg_65 (by rw [i32lt, tl65] at h1; omega) (by rw [i32lt, tl70] at h2; omega), rfl⟩
  have k17 : ¬ (48 ≤ x.toInt ∧ x.toInt ≤ 57) → J p l e (rmD 0) s m args below meth c D (va_A (wd g ca len ps sp ng fm df dt wg ex hg mo tp lb wo) sz) 1 (MQ below (jQ D (wd g ca len ps sp ng fm df dt wg ex hg mo tp lb wo) sz (jPi fun r w => r = nI (dg x) ∧ w = wd g ca len ps sp ng fm df dt wg ex hg mo tp lb wo)) args s 0 0 (va_A (wd g ca len ps sp ng fm df dt wg ex hg mo tp lb wo) sz)) 17 [some (.int x)] [] (wd g ca len ps sp ng fm df dt wg ex hg mo tp lb wo) := by
    intro n1
    refine j_iloadn0 (pc := 17) hC d_digitOf_17 ?_
    refine j_bipush (pc := 18) (v := 97) hC d_digitOf_18 (by decide) ?_
    refine j_icmp_lt (pc := 20) hC 37 d_digitOf_20 (by decide) (fun h1 => ?_) (fun h1 => ?_)
    · exact k37 n1 (by rw [i32lt, tl97] at h1; omega)
    · refine j_iloadn0 (pc := 23) hC d_digitOf_23 ?_
      refine j_bipush (pc := 24) (v := 102) hC d_digitOf_24 (by decide) ?_
      refine j_icmp_gt (pc := 26) hC 37 d_digitOf_26 (by decide) (fun h2 => ?_) (fun h2 => ?_)
      · exact k37 n1 (by rw [i32lt, tl102] at h2; omega)
      · refine j_iloadn0 (pc := 29) hC d_digitOf_29 ?_
        refine j_bipush (pc := 30) (v := 97) hC d_digitOf_30 (by decide) ?_
        refine j_isub (pc := 32) hC d_digitOf_32 ?_
        refine j_bipush (pc := 33) (v := 10) hC d_digitOf_33 (by decide) ?_
        refine j_iadd (pc := 35) hC d_digitOf_35 ?_
        exact j_iret hC d_digitOf_36 ⟨_, rfl, dg_97 (by rw [i32lt, tl97] at h1; omega) (by rw [i32lt, tl102] at h2; omega), rfl⟩
  refine j_iloadn0 (pc := 0) hC d_digitOf_0 ?_
  refine j_bipush (pc := 1) (v := 48) hC d_digitOf_1 (by decide) ?_
  refine j_icmp_lt (pc := 3) hC 17 d_digitOf_3 (by decide) (fun h1 => ?_) (fun h1 => ?_)
  · exact k17 (by rw [i32lt, tl48] at h1; omega)
  · refine j_iloadn0 (pc := 6) hC d_digitOf_6 ?_
    refine j_bipush (pc := 7) (v := 57) hC d_digitOf_7 (by decide) ?_
    refine j_icmp_gt (pc := 9) hC 17 d_digitOf_9 (by decide) (fun h2 => ?_) (fun h2 => ?_)
    · exact k17 (by rw [i32lt, tl57] at h2; omega)
    · refine j_iloadn0 (pc := 12) hC d_digitOf_12 ?_
      refine j_bipush (pc := 13) (v := 48) hC d_digitOf_13 (by decide) ?_
      refine j_isub (pc := 15) hC d_digitOf_15 ?_
      exact j_iret hC d_digitOf_16 ⟨_, rfl, dg_48 (by rw [i32lt, tl48] at h1; omega) (by rw [i32lt, tl57] at h2; omega), rfl⟩
set_option maxHeartbeats 1000000 in
theorem c_take (x : Int32) (a z : Nat) (hz : z ≤ 8192) (ha : a ≤ z) : jM l y_take b_take 2 (some .boolean) (rmD 0) D (tyD ca) X [.ref (g 0), .int x] (wd g ca len (nI a) (nI z) ng fm df dt wg ex hg mo tp lb wo) (jPi fun r w => (isc tp a z x ∧ r = 1 ∧ w = wd g ca len (nI (a + 1)) (nI z) ng fm df dt wg ex hg mo tp lb wo) ∨ (¬ isc tp a z x ∧ r = 0 ∧ w = wd g ca len (nI a) (nI z) ng fm df dt wg ex hg mo tp lb wo)) := by
  refine jM.of [some (.ref (g 0)), some (.int x)] (by simp [jle, jent, Value.category]) rfl (Nat.le_of_ble_eq_true rfl) ?_
  intro p e s m args below meth c sz hC
  refine j_aloadn0 (pc := 0) hC d_take_0 ?_
  refine jg_R_114 (pc := 1) hC d_take_1 ?_
  refine j_aloadn0 (pc := 4) hC d_take_4 ?_
  refine jg_R_117 (pc := 5) hC d_take_5 ?_
  refine j_icmp_ge (pc := 8) hC 24 d_take_8 (by decide) (fun h1 => ?_) (fun h1 => ?_)
  · refine j_iconst (pc := 24) (v := 0) hC d_take_24 (by decide) ?_
    rw [nI_leI (by omega) (by omega)] at h1
    exact j_zret hC rfl d_take_25 ⟨0, rfl, Or.inr ⟨fun q => by have := q.1; omega, rfl, rfl⟩⟩
  · rw [nI_leI (by omega) (by omega)] at h1
    have hcl : (nI a).toNatClampNeg = a := nI_clamp (by omega)
    refine j_aloadn0 (pc := 11) hC d_take_11 ?_
    refine jg_R_28 (pc := 12) hC d_take_12 ?_
    refine j_aloadn0 (pc := 15) hC d_take_15 ?_
    refine jg_R_114 (pc := 16) hC d_take_16 ?_
    refine ja_tape_baload (pc := 19) hC (vp_in_nI (by omega) (by decide)) d_take_19 ?_
    refine j_iloadn1 (pc := 20) hC d_take_20 ?_
    refine j_icmp_eq (pc := 21) hC 26 d_take_21 (by decide) (fun h2 => ?_) (fun h2 => ?_)
    · rw [hcl] at h2
      refine j_aloadn0 (pc := 26) hC d_take_26 ?_
      refine j_dup (pc := 27) hC d_take_27 rfl ?_
      refine jg_R_114 (pc := 28) hC d_take_28 ?_
      refine j_iconst (pc := 31) (v := 1) hC d_take_31 (by decide) ?_
      refine j_iadd (pc := 32) hC d_take_32 ?_
      refine jp_R_114 (pc := 33) hC d_take_33 ?_
      refine j_iconst (pc := 36) (v := 1) hC d_take_36 (by decide) ?_
      exact j_zret hC rfl d_take_37 ⟨1, rfl, Or.inl ⟨⟨by omega, h2⟩, rfl, by rw [nI_1]⟩⟩
    · rw [hcl] at h2
      refine j_iconst (pc := 24) (v := 0) hC d_take_24 (by decide) ?_
      exact j_zret hC rfl d_take_25 ⟨0, rfl, Or.inr ⟨fun q => h2 q.2, rfl, rfl⟩⟩
/-- a sign taken at a: whether it is a minus; the place behind it -/
def sgM (t : Nat → Int32) (a z : Nat) : Prop := isc t a z 45
def sgP (t : Nat → Int32) (a z : Nat) : Prop := isc t a z 45 ∨ isc t a z 43
set_option maxHeartbeats 1000000 in
theorem c_takeSign (a z : Nat) (hz : z ≤ 8192) (ha : a ≤ z) : jM l y_takeSign b_takeSign 1 (some .boolean) (rmD 1) D (tyD ca) X [.ref (g 0)] (wd g ca len (nI a) (nI z) ng fm df dt wg ex hg mo tp lb wo) (jPi fun r w => ∃ b, (sgM tp a z ∧ r = 1 ∨ ¬ sgM tp a z ∧ r = 0) ∧ (sgP tp a z ∧ b = a + 1 ∨ ¬ sgP tp a z ∧ b = a) ∧ w = wd g ca len (nI b) (nI z) ng fm df dt wg ex hg mo tp lb wo) := by
  refine jM.of [some (.ref (g 0))] (by simp [jle, jent, Value.category]) rfl (Nat.le_of_ble_eq_true rfl) ?_
  intro p e s m args below meth c sz hC
  refine j_aloadn0 (pc := 0) hC d_takeSign_0 ?_
  refine j_bipush (pc := 1) (v := 45) hC d_takeSign_1 (by decide) ?_
  refine j_V1i (pc := 3) (q0 := 0) (ci := 0) hC cw_R_137 (rmD_in (by decide)) (Nat.le_of_ble_eq_true rfl) rfl rfl d_takeSign_3 (c_take 45 a z hz ha) (fun r w2 h1 => ?_)
  rcases h1 with ⟨h1, rfl, rfl⟩ | ⟨h1, rfl, rfl⟩
  · refine j_if_eq (pc := 6) hC 11 d_takeSign_6 (by decide) (fun h2 => ?_) (fun h2 => ?_)
    · exact absurd h2 (by decide)
    · refine j_iconst (pc := 9) (v := 1) hC d_takeSign_9 (by decide) ?_
      exact j_zret hC rfl d_takeSign_10 ⟨1, rfl, a + 1, Or.inl ⟨h1, rfl⟩, Or.inl ⟨Or.inl h1, rfl⟩, rfl⟩
  · refine j_if_eq (pc := 6) hC 11 d_takeSign_6 (by decide) (fun h2 => ?_) (fun h2 => ?_)
    · refine j_aloadn0 (pc := 11) hC d_takeSign_11 ?_
      refine j_bipush (pc := 12) (v := 43) hC d_takeSign_12 (by decide) ?_
      refine j_V1i (pc := 14) (q0 := 0) (ci := 0) hC cw_R_137 (rmD_in (by decide)) (Nat.le_of_ble_eq_true rfl) rfl rfl d_takeSign_14 (c_take 43 a z hz ha) (fun r w2 h3 => ?_)
      rcases h3 with ⟨h3, rfl, rfl⟩ | ⟨h3, rfl, rfl⟩
      · refine j_pop (pc := 17) hC d_takeSign_17 rfl ?_
        refine j_iconst (pc := 18) (v := 0) hC d_takeSign_18 (by decide) ?_
        exact j_zret hC rfl d_takeSign_19 ⟨0, rfl, a + 1, Or.inr ⟨h1, rfl⟩, Or.inl ⟨Or.inr h3, rfl⟩, rfl⟩
      · refine j_pop (pc := 17) hC d_takeSign_17 rfl ?_
        refine j_iconst (pc := 18) (v := 0) hC d_takeSign_18 (by decide) ?_
        exact j_zret hC rfl d_takeSign_19 ⟨0, rfl, a, Or.inr ⟨h1, rfl⟩, Or.inr ⟨fun q => q.elim h1 h3, rfl⟩, rfl⟩
    · exact absurd rfl h2
set_option maxHeartbeats 1000000 in
theorem c_skipDigits (b a z : Nat) (hb : b ≤ 16) (hz : z ≤ 8192) (ha : a ≤ z) : jM l y_skipDigits b_skipDigits 3 (some .int) (rmD 1) D (tyD ca) X [.ref (g 0), .int (nI b)] (wd g ca len (nI a) (nI z) ng fm df dt wg ex hg mo tp lb wo) (jPi fun r w => r = nI (rn tp b a (z - a)) ∧ w = wd g ca len (nI (a + rn tp b a (z - a))) (nI z) ng fm df dt wg ex hg mo tp lb wo) := by
  refine jM.of [some (.ref (g 0)), some (.int (nI b)), none] (by simp [jle, jent, Value.category]) rfl (Nat.le_of_ble_eq_true rfl) ?_
  intro p e s m args below meth c sz hC
  have loop : ∀ (n j : Nat), a + j + n = z → (∀ i, i < j → dg (tp (a + i)) < b) → J p l e (rmD 1) s m args below meth c D (va_A (wd g ca len (nI a) (nI z) ng fm df dt wg ex hg mo tp lb wo) sz) 3 (MQ below (jQ D (wd g ca len (nI a) (nI z) ng fm df dt wg ex hg mo tp lb wo) sz (jPi fun r w => r = nI (rn tp b a (z - a)) ∧ w = wd g ca len (nI (a + rn tp b a (z - a))) (nI z) ng fm df dt wg ex hg mo tp lb wo)) args s 0 0 (va_A (wd g ca len (nI a) (nI z) ng fm df dt wg ex hg mo tp lb wo) sz)) 5 [some (.ref (g 0)), some (.int (nI b)), some (.int (nI a))] [] (wd g ca len (nI (a + j)) (nI z) ng fm df dt wg ex hg mo tp lb wo) := by
    intro n
    induction n with
    | zero =>
      intro j hj hd
      have hr : rn tp b a (z - a) = j := rn_eq (by omega) hd (Or.inl (by omega))
      refine j_aloadn0 (pc := 5) hC d_skipDigits_5 ?_
      refine jg_R_114 (pc := 6) hC d_skipDigits_6 ?_
      refine j_aloadn0 (pc := 9) hC d_skipDigits_9 ?_
      refine jg_R_117 (pc := 10) hC d_skipDigits_10 ?_
      refine j_icmp_ge (pc := 13) hC 45 d_skipDigits_13 (by decide) (fun h1 => ?_) (fun h1 => ?_)
      · refine j_aloadn0 (pc := 45) hC d_skipDigits_45 ?_
        refine jg_R_114 (pc := 46) hC d_skipDigits_46 ?_
        refine j_iloadn2 (pc := 49) hC d_skipDigits_49 ?_
        refine j_isub (pc := 50) hC d_skipDigits_50 ?_
        exact j_iret hC d_skipDigits_51 ⟨_, rfl, by rw [hr, pk_sub (by omega), show a + j - a = j by omega], by rw [hr]⟩
      · rw [nI_leI (by omega) (by omega)] at h1
        omega
    | succ n ih =>
      intro j hj hd
      have hcl : (nI (a + j)).toNatClampNeg = a + j := nI_clamp (by omega)
      refine j_aloadn0 (pc := 5) hC d_skipDigits_5 ?_
      refine jg_R_114 (pc := 6) hC d_skipDigits_6 ?_
      refine j_aloadn0 (pc := 9) hC d_skipDigits_9 ?_
      refine jg_R_117 (pc := 10) hC d_skipDigits_10 ?_
      refine j_icmp_ge (pc := 13) hC 45 d_skipDigits_13 (by decide) (fun h1 => ?_) (fun h1 => ?_)
      · rw [nI_leI (by omega) (by omega)] at h1
        omega
      · refine j_aloadn0 (pc := 16) hC d_skipDigits_16 ?_
        refine jg_R_28 (pc := 17) hC d_skipDigits_17 ?_
        refine j_aloadn0 (pc := 20) hC d_skipDigits_20 ?_
        refine jg_R_114 (pc := 21) hC d_skipDigits_21 ?_
        refine ja_tape_baload (pc := 24) hC (vp_in_nI (by omega) (by decide)) d_skipDigits_24 ?_
        refine j_S1i (pc := 25) hC cw_R_148 (rmD_in (by decide)) (Nat.le_of_ble_eq_true rfl) d_skipDigits_25 (c_digitOf _) (fun r w2 h2 => ?_)
        obtain ⟨rfl, rfl⟩ := h2
        have hdl := dg_le (tp (nI (a + j)).toNatClampNeg)
        refine j_iloadn1 (pc := 28) hC d_skipDigits_28 ?_
        refine j_icmp_ge (pc := 29) hC 45 d_skipDigits_29 (by decide) (fun h3 => ?_) (fun h3 => ?_)
        · rw [nI_leI (by omega) (by omega), hcl] at h3
          have hr : rn tp b a (z - a) = j := rn_eq (by omega) hd (Or.inr (by omega))
          refine j_aloadn0 (pc := 45) hC d_skipDigits_45 ?_
          refine jg_R_114 (pc := 46) hC d_skipDigits_46 ?_
          refine j_iloadn2 (pc := 49) hC d_skipDigits_49 ?_
          refine j_isub (pc := 50) hC d_skipDigits_50 ?_
          exact j_iret hC d_skipDigits_51 ⟨_, rfl, by rw [hr, pk_sub (by omega), show a + j - a = j by omega], by rw [hr]⟩
        · rw [nI_leI (by omega) (by omega), hcl] at h3
          refine j_aloadn0 (pc := 32) hC d_skipDigits_32 ?_
          refine j_dup (pc := 33) hC d_skipDigits_33 rfl ?_
          refine jg_R_114 (pc := 34) hC d_skipDigits_34 ?_
          refine j_iconst (pc := 37) (v := 1) hC d_skipDigits_37 (by decide) ?_
          refine j_iadd (pc := 38) hC d_skipDigits_38 ?_
          refine jp_R_114 (pc := 39) hC d_skipDigits_39 ?_
          refine j_goto (pc := 42) hC 5 d_skipDigits_42 (by decide) ?_
          refine J.to rfl rfl rfl ?_ (ih (j + 1) (by omega) (fun i hi => ?_))
          · rw [nI_1]; rfl
          · rcases Nat.lt_or_eq_of_le (Nat.le_of_lt_succ hi) with h | h
            · exact hd i h
            · rw [h]; omega
  refine j_aloadn0 (pc := 0) hC d_skipDigits_0 ?_
  refine jg_R_114 (pc := 1) hC d_skipDigits_1 ?_
  refine j_istoren2 (pc := 4) hC d_skipDigits_4 (by decide) (by first | exact trivial | exact rfl) ?_
  exact loop (z - a) 0 (by omega) (fun i hi => absurd hi (by omega))
/-- 0x or 0X stands at a -/
def hxs (t : Nat → Int32) (a z : Nat) : Prop := a + 1 < z ∧ t a = 48 ∧ (t (a + 1) = 120 ∨ t (a + 1) = 88)
set_option maxHeartbeats 1000000 in
theorem c_takeHexStart (a z : Nat) (hz : z ≤ 8192) (ha : a ≤ z) : jM l y_takeHexStart b_takeHexStart 2 (some .boolean) (rmD 0) D (tyD ca) X [.ref (g 0)] (wd g ca len (nI a) (nI z) ng fm df dt wg ex hg mo tp lb wo) (jPi fun r w => (hxs tp a z ∧ r = 1 ∧ w = wd g ca len (nI (a + 2)) (nI z) ng fm df dt wg ex hg mo tp lb wo) ∨ (¬ hxs tp a z ∧ r = 0 ∧ w = wd g ca len (nI a) (nI z) ng fm df dt wg ex hg mo tp lb wo)) := by
  refine jM.of [some (.ref (g 0)), none] (by simp [jle, jent, Value.category]) rfl (Nat.le_of_ble_eq_true rfl) ?_
  intro p e s m args below meth c sz hC
  have e1 : nI a + 1 = nI (a + 1) := nI_1 a
  have hcl : (nI a).toNatClampNeg = a := nI_clamp (by omega)
  have hcl1 : (nI (a + 1)).toNatClampNeg = a + 1 := nI_clamp (by omega)
  have k63 : ¬ hxs tp a z → J p l e (rmD 0) s m args below meth c D (va_A (wd g ca len (nI a) (nI z) ng fm df dt wg ex hg mo tp lb wo) sz) 2 (MQ below (jQ D (wd g ca len (nI a) (nI z) ng fm df dt wg ex hg mo tp lb wo) sz (jPi fun r w => (hxs tp a z ∧ r = 1 ∧ w = wd g ca len (nI (a + 2)) (nI z) ng fm df dt wg ex hg mo tp lb wo) ∨ (¬ hxs tp a z ∧ r = 0 ∧ w = wd g ca len (nI a) (nI z) ng fm df dt wg ex hg mo tp lb wo))) args s 0 0 (va_A (wd g ca len (nI a) (nI z) ng fm df dt wg ex hg mo tp lb wo) sz)) 63 [some (.ref (g 0)), none] [] (wd g ca len (nI a) (nI z) ng fm df dt wg ex hg mo tp lb wo) := by
    intro hn
    refine j_iconst (pc := 63) (v := 0) hC d_takeHexStart_63 (by decide) ?_
    refine j_istoren1 (pc := 64) hC d_takeHexStart_64 (by decide) (by first | exact trivial | exact rfl) ?_
    refine j_iloadn1 (pc := 65) hC d_takeHexStart_65 ?_
    refine j_if_eq (pc := 66) hC 79 d_takeHexStart_66 (by decide) (fun h1 => ?_) (fun h1 => ?_)
    · refine j_iloadn1 (pc := 79) hC d_takeHexStart_79 ?_
      exact j_zret hC rfl d_takeHexStart_80 ⟨0, rfl, Or.inr ⟨hn, rfl, rfl⟩⟩
    · exact absurd rfl h1
  have k59 : hxs tp a z → J p l e (rmD 0) s m args below meth c D (va_A (wd g ca len (nI a) (nI z) ng fm df dt wg ex hg mo tp lb wo) sz) 2 (MQ below (jQ D (wd g ca len (nI a) (nI z) ng fm df dt wg ex hg mo tp lb wo) sz (jPi fun r w => (hxs tp a z ∧ r = 1 ∧ w = wd g ca len (nI (a + 2)) (nI z) ng fm df dt wg ex hg mo tp lb wo) ∨ (¬ hxs tp a z ∧ r = 0 ∧ w = wd g ca len (nI a) (nI z) ng fm df dt wg ex hg mo tp lb wo))) args s 0 0 (va_A (wd g ca len (nI a) (nI z) ng fm df dt wg ex hg mo tp lb wo) sz)) 59 [some (.ref (g 0)), none] [] (wd g ca len (nI a) (nI z) ng fm df dt wg ex hg mo tp lb wo) := by
    intro hy
    refine j_iconst (pc := 59) (v := 1) hC d_takeHexStart_59 (by decide) ?_
    refine j_goto (pc := 60) hC 64 d_takeHexStart_60 (by decide) ?_
    refine j_istoren1 (pc := 64) hC d_takeHexStart_64 (by decide) (by first | exact trivial | exact rfl) ?_
    refine j_iloadn1 (pc := 65) hC d_takeHexStart_65 ?_
    refine j_if_eq (pc := 66) hC 79 d_takeHexStart_66 (by decide) (fun h1 => ?_) (fun h1 => ?_)
    · exact absurd h1 (by decide)
    · refine j_aloadn0 (pc := 69) hC d_takeHexStart_69 ?_
      refine j_dup (pc := 70) hC d_takeHexStart_70 rfl ?_
      refine jg_R_114 (pc := 71) hC d_takeHexStart_71 ?_
      refine j_iconst (pc := 74) (v := 2) hC d_takeHexStart_74 (by decide) ?_
      refine j_iadd (pc := 75) hC d_takeHexStart_75 ?_
      refine jp_R_114 (pc := 76) hC d_takeHexStart_76 ?_
      refine j_iloadn1 (pc := 79) hC d_takeHexStart_79 ?_
      exact j_zret hC rfl d_takeHexStart_80 ⟨1, rfl, Or.inl ⟨hy, rfl, by rw [show nI a + 2 = nI (a + 2) from nI_add a 2]⟩⟩
  refine j_aloadn0 (pc := 0) hC d_takeHexStart_0 ?_
  refine jg_R_114 (pc := 1) hC d_takeHexStart_1 ?_
  refine j_iconst (pc := 4) (v := 1) hC d_takeHexStart_4 (by decide) ?_
  refine j_iadd (pc := 5) hC d_takeHexStart_5 ?_
  refine j_aloadn0 (pc := 6) hC d_takeHexStart_6 ?_
  refine jg_R_117 (pc := 7) hC d_takeHexStart_7 ?_
  refine j_icmp_ge (pc := 10) hC 63 d_takeHexStart_10 (by decide) (fun h1 => ?_) (fun h1 => ?_)
  · rw [e1, nI_leI (by omega) (by omega)] at h1
    exact k63 (fun q => by have := q.1; omega)
  · rw [e1, nI_leI (by omega) (by omega)] at h1
    refine j_aloadn0 (pc := 13) hC d_takeHexStart_13 ?_
    refine jg_R_28 (pc := 14) hC d_takeHexStart_14 ?_
    refine j_aloadn0 (pc := 17) hC d_takeHexStart_17 ?_
    refine jg_R_114 (pc := 18) hC d_takeHexStart_18 ?_
    refine ja_tape_baload (pc := 21) hC (vp_in_nI (by omega) (by decide)) d_takeHexStart_21 ?_
    refine j_bipush (pc := 22) (v := 48) hC d_takeHexStart_22 (by decide) ?_
    refine j_icmp_ne (pc := 24) hC 63 d_takeHexStart_24 (by decide) (fun h2 => ?_) (fun h2 => ?_)
    · rw [hcl] at h2
      exact k63 (fun q => h2 q.2.1)
    · rw [hcl] at h2
      refine j_aloadn0 (pc := 27) hC d_takeHexStart_27 ?_
      refine jg_R_28 (pc := 28) hC d_takeHexStart_28 ?_
      refine j_aloadn0 (pc := 31) hC d_takeHexStart_31 ?_
      refine jg_R_114 (pc := 32) hC d_takeHexStart_32 ?_
      refine j_iconst (pc := 35) (v := 1) hC d_takeHexStart_35 (by decide) ?_
      refine j_iadd (pc := 36) hC d_takeHexStart_36 ?_
      refine J.topi e1 ?_
      refine ja_tape_baload (pc := 37) hC (vp_in_nI (by omega) (by decide)) d_takeHexStart_37 ?_
      refine j_bipush (pc := 38) (v := 120) hC d_takeHexStart_38 (by decide) ?_
      refine j_icmp_eq (pc := 40) hC 59 d_takeHexStart_40 (by decide) (fun h3 => ?_) (fun h3 => ?_)
      · rw [hcl1] at h3
        exact k59 ⟨by omega, h2, Or.inl h3⟩
      · rw [hcl1] at h3
        refine j_aloadn0 (pc := 43) hC d_takeHexStart_43 ?_
        refine jg_R_28 (pc := 44) hC d_takeHexStart_44 ?_
        refine j_aloadn0 (pc := 47) hC d_takeHexStart_47 ?_
        refine jg_R_114 (pc := 48) hC d_takeHexStart_48 ?_
        refine j_iconst (pc := 51) (v := 1) hC d_takeHexStart_51 (by decide) ?_
        refine j_iadd (pc := 52) hC d_takeHexStart_52 ?_
        refine J.topi e1 ?_
        refine ja_tape_baload (pc := 53) hC (vp_in_nI (by omega) (by decide)) d_takeHexStart_53 ?_
        refine j_bipush (pc := 54) (v := 88) hC d_takeHexStart_54 (by decide) ?_
        refine j_icmp_ne (pc := 56) hC 63 d_takeHexStart_56 (by decide) (fun h4 => ?_) (fun h4 => ?_)
        · rw [hcl1] at h4
          exact k63 (fun q => q.2.2.elim h3 h4)
        · rw [hcl1] at h4
          exact k59 ⟨by omega, h2, Or.inr h4⟩
set_option maxHeartbeats 1000000 in
theorem c_leaveBlanksOut (n : Nat) (hn : n ≤ 8192) : jM l y_leaveBlanksOut b_leaveBlanksOut 1 none (rmD 1) D (tyD ca) X [.ref (g 0)] (wd g ca (nI n) ps sp ng fm df dt wg ex hg mo tp lb wo) (jPv fun w => w = wd g ca (nI n) (nI (ld tp 0 n)) (nI (tr tp (ld tp 0 n) (n - ld tp 0 n))) ng fm df dt wg ex hg mo tp lb wo) := by
  refine jM.of [some (.ref (g 0))] (by simp [jle, jent, Value.category]) rfl (Nat.le_of_ble_eq_true rfl) ?_
  intro p e s m args below meth c sz hC
  have loop2 : ∀ (k : Nat) (a : Nat), a + k ≤ n → ld tp 0 n = a → tr tp a k = tr tp a (n - a) → J p l e (rmD 1) s m args below meth c D (va_A (wd g ca (nI n) ps sp ng fm df dt wg ex hg mo tp lb wo) sz) 1 (MQ below (jQ D (wd g ca (nI n) ps sp ng fm df dt wg ex hg mo tp lb wo) sz (jPv fun w => w = wd g ca (nI n) (nI (ld tp 0 n)) (nI (tr tp (ld tp 0 n) (n - ld tp 0 n))) ng fm df dt wg ex hg mo tp lb wo)) args s 0 0 (va_A (wd g ca (nI n) ps sp ng fm df dt wg ex hg mo tp lb wo) sz)) 52 [some (.ref (g 0))] [] (wd g ca (nI n) (nI a) (nI (a + k)) ng fm df dt wg ex hg mo tp lb wo) := by
    intro k
    induction k with
    | zero =>
      intro a hk ha ht
      refine j_aloadn0 (pc := 52) hC d_leaveBlanksOut_52 ?_
      refine jg_R_117 (pc := 53) hC d_leaveBlanksOut_53 ?_
      refine j_aloadn0 (pc := 56) hC d_leaveBlanksOut_56 ?_
      refine jg_R_114 (pc := 57) hC d_leaveBlanksOut_57 ?_
      refine j_icmp_le (pc := 60) hC 93 d_leaveBlanksOut_60 (by decide) (fun h1 => ?_) (fun h1 => ?_)
      · refine j_vret hC d_leaveBlanksOut_93 ⟨rfl, ?_⟩
        rw [ha, ← ht]
        rfl
      · rw [nI_leI (by omega) (by omega)] at h1
        omega
    | succ k ih =>
      intro a hk ha ht
      refine j_aloadn0 (pc := 52) hC d_leaveBlanksOut_52 ?_
      refine jg_R_117 (pc := 53) hC d_leaveBlanksOut_53 ?_
      refine j_aloadn0 (pc := 56) hC d_leaveBlanksOut_56 ?_
      refine jg_R_114 (pc := 57) hC d_leaveBlanksOut_57 ?_
      refine j_icmp_le (pc := 60) hC 93 d_leaveBlanksOut_60 (by decide) (fun h1 => ?_) (fun h1 => ?_)
      · rw [nI_leI (by omega) (by omega)] at h1
        omega
      · refine j_aloadn0 (pc := 63) hC d_leaveBlanksOut_63 ?_
        refine jg_R_28 (pc := 64) hC d_leaveBlanksOut_64 ?_
        refine j_aloadn0 (pc := 67) hC d_leaveBlanksOut_67 ?_
        refine jg_R_117 (pc := 68) hC d_leaveBlanksOut_68 ?_
        refine j_iconst (pc := 71) (v := 1) hC d_leaveBlanksOut_71 (by decide) ?_
        refine j_isub (pc := 72) hC d_leaveBlanksOut_72 ?_
        refine J.topi (y := nI (a + k)) (by rw [show a + (k + 1) = a + k + 1 by omega, nI_pred]) ?_
        have hcl : (nI (a + k)).toNatClampNeg = a + k := nI_clamp (by omega)
        refine ja_tape_baload (pc := 73) hC (vp_in_nI (by omega) (by decide)) d_leaveBlanksOut_73 ?_
        refine j_S1i (pc := 74) hC cw_R_120 (rmD_in (by decide)) (Nat.le_of_ble_eq_true rfl) d_leaveBlanksOut_74 (c_isBlank _) (fun r w2 h2 => ?_)
        obtain ⟨rfl, rfl⟩ := h2
        rw [hcl]
        by_cases hb : 0 ≤ (tp (a + k)).toInt ∧ (tp (a + k)).toInt ≤ 32
        · rw [if_pos hb]
          refine j_if_eq (pc := 77) hC 93 d_leaveBlanksOut_77 (by decide) (fun h3 => ?_) (fun h3 => ?_)
          · exact absurd h3 (by decide)
          · refine j_aloadn0 (pc := 80) hC d_leaveBlanksOut_80 ?_
            refine j_dup (pc := 81) hC d_leaveBlanksOut_81 rfl ?_
            refine jg_R_117 (pc := 82) hC d_leaveBlanksOut_82 ?_
            refine j_iconst (pc := 85) (v := 1) hC d_leaveBlanksOut_85 (by decide) ?_
            refine j_isub (pc := 86) hC d_leaveBlanksOut_86 ?_
            refine jp_R_117 (pc := 87) hC d_leaveBlanksOut_87 ?_
            refine j_goto (pc := 90) hC 52 d_leaveBlanksOut_90 (by decide) ?_
            refine J.to rfl rfl rfl ?_ (ih a (by omega) ha (by rw [← ht, tr, if_pos hb]))
            rw [show a + (k + 1) = a + k + 1 by omega, nI_pred]
        · rw [if_neg hb]
          refine j_if_eq (pc := 77) hC 93 d_leaveBlanksOut_77 (by decide) (fun h3 => ?_) (fun h3 => ?_)
          · refine j_vret hC d_leaveBlanksOut_93 ⟨rfl, ?_⟩
            rw [ha, ← ht, tr, if_neg hb]
            rfl
          · exact absurd rfl h3
  have loop1 : ∀ (k : Nat) (a : Nat), a + k = n → ld tp 0 n = ld tp a k → J p l e (rmD 1) s m args below meth c D (va_A (wd g ca (nI n) ps sp ng fm df dt wg ex hg mo tp lb wo) sz) 1 (MQ below (jQ D (wd g ca (nI n) ps sp ng fm df dt wg ex hg mo tp lb wo) sz (jPv fun w => w = wd g ca (nI n) (nI (ld tp 0 n)) (nI (tr tp (ld tp 0 n) (n - ld tp 0 n))) ng fm df dt wg ex hg mo tp lb wo)) args s 0 0 (va_A (wd g ca (nI n) ps sp ng fm df dt wg ex hg mo tp lb wo) sz)) 13 [some (.ref (g 0))] [] (wd g ca (nI n) (nI a) (nI n) ng fm df dt wg ex hg mo tp lb wo) := by
    intro k
    induction k with
    | zero =>
      intro a hk ha
      refine j_aloadn0 (pc := 13) hC d_leaveBlanksOut_13 ?_
      refine jg_R_114 (pc := 14) hC d_leaveBlanksOut_14 ?_
      refine j_aloadn0 (pc := 17) hC d_leaveBlanksOut_17 ?_
      refine jg_R_117 (pc := 18) hC d_leaveBlanksOut_18 ?_
      refine j_icmp_ge (pc := 21) hC 52 d_leaveBlanksOut_21 (by decide) (fun h1 => ?_) (fun h1 => ?_)
      · refine J.to rfl rfl rfl ?_ (loop2 (n - a) a (by omega) (by rw [ha, ld]) rfl)
        rw [show a + (n - a) = n by omega]
      · rw [nI_leI (by omega) (by omega)] at h1
        omega
    | succ k ih =>
      intro a hk ha
      refine j_aloadn0 (pc := 13) hC d_leaveBlanksOut_13 ?_
      refine jg_R_114 (pc := 14) hC d_leaveBlanksOut_14 ?_
      refine j_aloadn0 (pc := 17) hC d_leaveBlanksOut_17 ?_
      refine jg_R_117 (pc := 18) hC d_leaveBlanksOut_18 ?_
      refine j_icmp_ge (pc := 21) hC 52 d_leaveBlanksOut_21 (by decide) (fun h1 => ?_) (fun h1 => ?_)
      · rw [nI_leI (by omega) (by omega)] at h1
        omega
      · have hcl : (nI a).toNatClampNeg = a := nI_clamp (by omega)
        refine j_aloadn0 (pc := 24) hC d_leaveBlanksOut_24 ?_
        refine jg_R_28 (pc := 25) hC d_leaveBlanksOut_25 ?_
        refine j_aloadn0 (pc := 28) hC d_leaveBlanksOut_28 ?_
        refine jg_R_114 (pc := 29) hC d_leaveBlanksOut_29 ?_
        refine ja_tape_baload (pc := 32) hC (vp_in_nI (by omega) (by decide)) d_leaveBlanksOut_32 ?_
        refine j_S1i (pc := 33) hC cw_R_120 (rmD_in (by decide)) (Nat.le_of_ble_eq_true rfl) d_leaveBlanksOut_33 (c_isBlank _) (fun r w2 h2 => ?_)
        obtain ⟨rfl, rfl⟩ := h2
        rw [hcl]
        by_cases hb : 0 ≤ (tp a).toInt ∧ (tp a).toInt ≤ 32
        · rw [if_pos hb]
          refine j_if_eq (pc := 36) hC 52 d_leaveBlanksOut_36 (by decide) (fun h3 => ?_) (fun h3 => ?_)
          · exact absurd h3 (by decide)
          · refine j_aloadn0 (pc := 39) hC d_leaveBlanksOut_39 ?_
            refine j_dup (pc := 40) hC d_leaveBlanksOut_40 rfl ?_
            refine jg_R_114 (pc := 41) hC d_leaveBlanksOut_41 ?_
            refine j_iconst (pc := 44) (v := 1) hC d_leaveBlanksOut_44 (by decide) ?_
            refine j_iadd (pc := 45) hC d_leaveBlanksOut_45 ?_
            refine jp_R_114 (pc := 46) hC d_leaveBlanksOut_46 ?_
            refine j_goto (pc := 49) hC 13 d_leaveBlanksOut_49 (by decide) ?_
            refine J.to rfl rfl rfl ?_ (ih (a + 1) (by omega) (by rw [ha, ld, if_pos hb]))
            rw [nI_1]
        · rw [if_neg hb]
          refine j_if_eq (pc := 36) hC 52 d_leaveBlanksOut_36 (by decide) (fun h3 => ?_) (fun h3 => ?_)
          · refine J.to rfl rfl rfl ?_ (loop2 (n - a) a (by omega) (by rw [ha, ld, if_neg hb]) rfl)
            rw [show a + (n - a) = n by omega]
          · exact absurd rfl h3
  refine j_aloadn0 (pc := 0) hC d_leaveBlanksOut_0 ?_
  refine j_iconst (pc := 1) (v := 0) hC d_leaveBlanksOut_1 (by decide) ?_
  refine jp_R_114 (pc := 2) hC d_leaveBlanksOut_2 ?_
  refine j_aloadn0 (pc := 5) hC d_leaveBlanksOut_5 ?_
  refine j_aloadn0 (pc := 6) hC d_leaveBlanksOut_6 ?_
  refine jg_R_32 (pc := 7) hC d_leaveBlanksOut_7 ?_
  refine jp_R_117 (pc := 10) hC d_leaveBlanksOut_10 ?_
  exact loop1 n 0 (by omega) rfl
end SC
end
section
/-! THE CLASS: digits and exponent -/
/-- the digits at a: hexadecimal or not; from c0 n1 digits, then (behind a point) from c2 n2; the end c3 -/
def scD (t : Nat → Int32) (a z : Nat) (hx : Bool) (c0 n1 n2 c2 c3 : Nat) : Prop := (hx = true ↔ hxs t a z) ∧ c0 = a + (if hx then 2 else 0) ∧ n1 = rn t (if hx then 16 else 10) c0 (z - c0) ∧ ((isc t (c0 + n1) z 46 ∧ c2 = c0 + n1 + 1 ∧ n2 = rn t (if hx then 16 else 10) c2 (z - c2)) ∨ (¬ isc t (c0 + n1) z 46 ∧ c2 = c0 + n1 ∧ n2 = 0)) ∧ c3 = c2 + n2
theorem scD_le {t : Nat → Int32} {a z : Nat} {hx : Bool} {c0 n1 n2 c2 c3 : Nat} (ha : a ≤ z) (h : scD t a z hx c0 n1 n2 c2 c3) : a ≤ c0 ∧ c0 + n1 ≤ c2 ∧ c2 ≤ c0 + n1 + 1 ∧ c3 ≤ z ∧ c3 = c2 + n2 := by
  obtain ⟨h1, h2, h3, h4, h5⟩ := h
  have hc0 : c0 ≤ z := by
    cases hx with
    | false => simp at h2; omega
    | true =>
      have := h1.mp rfl
      have := this.1
      simp at h2
      omega
  have hr := rn_le t (if hx then 16 else 10) (z - c0) c0
  rcases h4 with ⟨g1, g2, g3⟩ | ⟨g1, g2, g3⟩
  · have hr2 := rn_le t (if hx then 16 else 10) (z - c2) c2
    have := g1.1
    cases hx <;> simp_all <;> omega
  · cases hx <;> simp_all <;> omega
section SD
variable {l : Launch} {D : va_G} {X : jX} {g : Nat → Nat} {ca : Nat → ClassId} {len ps sp ng fm df dt wg ex hg mo : Int32} {tp lb wo : Nat → Int32}
set_option maxHeartbeats 2000000 in
theorem c_scanDigits (a z : Nat) (hz : z ≤ 8192) (ha : a ≤ z) : jM l y_scanDigits b_scanDigits 3 (some .boolean) (rmD 2) D (tyD ca) X [.ref (g 0)] (wd g ca len (nI a) (nI z) ng fm df dt wg ex hg mo tp lb wo) (jPi fun r w => ∃ (hx : Bool) (c0 n1 n2 c2 c3 : Nat), scD tp a z hx c0 n1 n2 c2 c3 ∧ r = (if 0 < n1 + n2 then 1 else 0) ∧ w = wd g ca len (nI c3) (nI z) ng (if hx then 3 else 2) (nI c0) (nI c3) (nI n1) ex hg mo tp lb wo) := by
  refine jM.of [some (.ref (g 0)), none, none] (by simp [jle, jent, Value.category]) rfl (Nat.le_of_ble_eq_true rfl) ?_
  intro p e s m args below meth c sz hC
  have k71 : ∀ (hx : Bool) (c0 n1 n2 c2 c3 b : Nat), scD tp a z hx c0 n1 n2 c2 c3 → J p l e (rmD 2) s m args below meth c D (va_A (wd g ca len (nI a) (nI z) ng fm df dt wg ex hg mo tp lb wo) sz) 3 (MQ below (jQ D (wd g ca len (nI a) (nI z) ng fm df dt wg ex hg mo tp lb wo) sz (jPi fun r w => ∃ (hx : Bool) (c0 n1 n2 c2 c3 : Nat), scD tp a z hx c0 n1 n2 c2 c3 ∧ r = (if 0 < n1 + n2 then 1 else 0) ∧ w = wd g ca len (nI c3) (nI z) ng (if hx then 3 else 2) (nI c0) (nI c3) (nI n1) ex hg mo tp lb wo)) args s 0 0 (va_A (wd g ca len (nI a) (nI z) ng fm df dt wg ex hg mo tp lb wo) sz)) 71 [some (.ref (g 0)), some (.int (nI b)), some (.int (nI (n1 + n2)))] [] (wd g ca len (nI c3) (nI z) ng (if hx then 3 else 2) (nI c0) dt (nI n1) ex hg mo tp lb wo) := by
    intro hx c0 n1 n2 c2 c3 b hs
    have hle := scD_le ha hs
    refine j_aloadn0 (pc := 71) hC d_scanDigits_71 ?_
    refine j_aloadn0 (pc := 72) hC d_scanDigits_72 ?_
    refine jg_R_114 (pc := 73) hC d_scanDigits_73 ?_
    refine jp_R_141 (pc := 76) hC d_scanDigits_76 ?_
    refine j_iloadn2 (pc := 79) hC d_scanDigits_79 ?_
    refine j_if_le (pc := 80) hC 87 d_scanDigits_80 (by decide) (fun h1 => ?_) (fun h1 => ?_)
    · refine j_iconst (pc := 87) (v := 0) hC d_scanDigits_87 (by decide) ?_
      have h1 : nI (n1 + n2) ≤ nI 0 := h1
      rw [nI_leI (by omega) (by omega)] at h1
      exact j_zret hC rfl d_scanDigits_88 ⟨0, rfl, hx, c0, n1, n2, c2, c3, hs, by rw [if_neg (by omega)], rfl⟩
    · refine j_iconst (pc := 83) (v := 1) hC d_scanDigits_83 (by decide) ?_
      refine j_goto (pc := 84) hC 88 d_scanDigits_84 (by decide) ?_
      have h1 : ¬ nI (n1 + n2) ≤ nI 0 := h1
      rw [nI_leI (by omega) (by omega)] at h1
      exact j_zret hC rfl d_scanDigits_88 ⟨1, rfl, hx, c0, n1, n2, c2, c3, hs, by rw [if_pos (by omega)], rfl⟩
  have k31 : ∀ (hx : Bool) (c0 b : Nat), (hx = true ↔ hxs tp a z) → c0 = a + (if hx then 2 else 0) → b = (if hx then 16 else 10) → b ≤ 16 → c0 ≤ z → J p l e (rmD 2) s m args below meth c D (va_A (wd g ca len (nI a) (nI z) ng fm df dt wg ex hg mo tp lb wo) sz) 3 (MQ below (jQ D (wd g ca len (nI a) (nI z) ng fm df dt wg ex hg mo tp lb wo) sz (jPi fun r w => ∃ (hx : Bool) (c0 n1 n2 c2 c3 : Nat), scD tp a z hx c0 n1 n2 c2 c3 ∧ r = (if 0 < n1 + n2 then 1 else 0) ∧ w = wd g ca len (nI c3) (nI z) ng (if hx then 3 else 2) (nI c0) (nI c3) (nI n1) ex hg mo tp lb wo)) args s 0 0 (va_A (wd g ca len (nI a) (nI z) ng fm df dt wg ex hg mo tp lb wo) sz)) 31 [some (.ref (g 0)), none, none] [.int (nI b)] (wd g ca len (nI c0) (nI z) ng (if hx then 3 else 2) df dt wg ex hg mo tp lb wo) := by
    intro hx c0 b hh hc0 hb hb16 hcz
    refine j_istoren1 (pc := 31) hC d_scanDigits_31 (by decide) (by first | exact trivial | exact rfl) ?_
    refine j_aloadn0 (pc := 32) hC d_scanDigits_32 ?_
    refine j_aloadn0 (pc := 33) hC d_scanDigits_33 ?_
    refine jg_R_114 (pc := 34) hC d_scanDigits_34 ?_
    refine jp_R_127 (pc := 37) hC d_scanDigits_37 ?_
    refine j_aloadn0 (pc := 40) hC d_scanDigits_40 ?_
    refine j_aloadn0 (pc := 41) hC d_scanDigits_41 ?_
    refine j_iloadn1 (pc := 42) hC d_scanDigits_42 ?_
    refine j_V1i (pc := 43) (q0 := 0) (ci := 0) hC cw_R_130 (rmD_in (by decide)) (Nat.le_of_ble_eq_true rfl) rfl rfl d_scanDigits_43 (c_skipDigits b c0 z hb16 hz hcz) (fun r w2 h1 => ?_)
    obtain ⟨rfl, rfl⟩ := h1
    have hr := rn_le tp b (z - c0) c0
    generalize hn1 : rn tp b c0 (z - c0) = n1 at hr
    refine jp_R_134 (pc := 46) hC d_scanDigits_46 ?_
    refine j_aloadn0 (pc := 49) hC d_scanDigits_49 ?_
    refine jg_R_134 (pc := 50) hC d_scanDigits_50 ?_
    refine j_istoren2 (pc := 53) hC d_scanDigits_53 (by decide) (by first | exact trivial | exact rfl) ?_
    refine j_aloadn0 (pc := 54) hC d_scanDigits_54 ?_
    refine j_bipush (pc := 55) (v := 46) hC d_scanDigits_55 (by decide) ?_
    refine j_V1i (pc := 57) (q0 := 0) (ci := 0) hC cw_R_137 (rmD_in (by decide)) (Nat.le_of_ble_eq_true rfl) rfl rfl d_scanDigits_57 (c_take 46 (c0 + n1) z hz (by omega)) (fun r w2 h2 => ?_)
    rcases h2 with ⟨h2, rfl, rfl⟩ | ⟨h2, rfl, rfl⟩
    · have h2a := h2.1
      refine j_if_eq (pc := 60) hC 71 d_scanDigits_60 (by decide) (fun h3 => ?_) (fun h3 => ?_)
      · exact absurd h3 (by decide)
      · refine j_iloadn2 (pc := 63) hC d_scanDigits_63 ?_
        refine j_aloadn0 (pc := 64) hC d_scanDigits_64 ?_
        refine j_iloadn1 (pc := 65) hC d_scanDigits_65 ?_
        refine j_V1i (pc := 66) (q0 := 0) (ci := 0) hC cw_R_130 (rmD_in (by decide)) (Nat.le_of_ble_eq_true rfl) rfl rfl d_scanDigits_66 (c_skipDigits b (c0 + n1 + 1) z hb16 hz (by omega)) (fun r w2 h4 => ?_)
        obtain ⟨rfl, rfl⟩ := h4
        generalize hn2 : rn tp b (c0 + n1 + 1) (z - (c0 + n1 + 1)) = n2
        refine j_iadd (pc := 69) hC d_scanDigits_69 ?_
        refine j_istoren2 (pc := 70) hC d_scanDigits_70 (by decide) (by first | exact trivial | exact rfl) ?_
        refine J.to rfl ?_ rfl rfl (k71 hx c0 n1 n2 (c0 + n1 + 1) (c0 + n1 + 1 + n2) b ⟨hh, hc0, by rw [← hb, hn1], Or.inl ⟨h2, rfl, by rw [← hb, hn2]⟩, rfl⟩)
        rw [nI_add]
    · refine j_if_eq (pc := 60) hC 71 d_scanDigits_60 (by decide) (fun h3 => ?_) (fun h3 => ?_)
      · exact k71 hx c0 n1 0 (c0 + n1) (c0 + n1) b ⟨hh, hc0, by rw [← hb, hn1], Or.inr ⟨h2, rfl, rfl⟩, rfl⟩
      · exact absurd rfl h3
  refine j_aloadn0 (pc := 0) hC d_scanDigits_0 ?_
  refine j_aloadn0 (pc := 1) hC d_scanDigits_1 ?_
  refine j_V0i (pc := 2) (q0 := 0) (ci := 0) hC cw_R_124 (rmD_in (by decide)) (Nat.le_of_ble_eq_true rfl) rfl rfl d_scanDigits_2 (c_takeHexStart a z hz ha) (fun r w2 h1 => ?_)
  rcases h1 with ⟨h1, rfl, rfl⟩ | ⟨h1, rfl, rfl⟩
  · refine j_if_eq (pc := 5) hC 12 d_scanDigits_5 (by decide) (fun h2 => ?_) (fun h2 => ?_)
    · exact absurd h2 (by decide)
    · refine j_iconst (pc := 8) (v := 3) hC d_scanDigits_8 (by decide) ?_
      refine j_goto (pc := 9) hC 13 d_scanDigits_9 (by decide) ?_
      refine jp_R_68 (pc := 13) hC d_scanDigits_13 ?_
      refine j_aloadn0 (pc := 16) hC d_scanDigits_16 ?_
      refine jg_R_68 (pc := 17) hC d_scanDigits_17 ?_
      refine j_iconst (pc := 20) (v := 3) hC d_scanDigits_20 (by decide) ?_
      refine j_icmp_ne (pc := 21) hC 29 d_scanDigits_21 (by decide) (fun h3 => ?_) (fun h3 => ?_)
      · exact absurd rfl h3
      · refine j_bipush (pc := 24) (v := 16) hC d_scanDigits_24 (by decide) ?_
        refine j_goto (pc := 26) hC 31 d_scanDigits_26 (by decide) ?_
        exact k31 true (a + 2) 16 ⟨fun _ => h1, fun _ => rfl⟩ rfl rfl (by omega) (by have := h1.1; omega)
  · refine j_if_eq (pc := 5) hC 12 d_scanDigits_5 (by decide) (fun h2 => ?_) (fun h2 => ?_)
    · refine j_iconst (pc := 12) (v := 2) hC d_scanDigits_12 (by decide) ?_
      refine jp_R_68 (pc := 13) hC d_scanDigits_13 ?_
      refine j_aloadn0 (pc := 16) hC d_scanDigits_16 ?_
      refine jg_R_68 (pc := 17) hC d_scanDigits_17 ?_
      refine j_iconst (pc := 20) (v := 3) hC d_scanDigits_20 (by decide) ?_
      refine j_icmp_ne (pc := 21) hC 29 d_scanDigits_21 (by decide) (fun h3 => ?_) (fun h3 => ?_)
      · refine j_bipush (pc := 29) (v := 10) hC d_scanDigits_29 (by decide) ?_
        exact k31 false a 10 ⟨fun q => (by cases q), fun q => absurd q h1⟩ rfl rfl (by omega) ha
      · exact absurd h3 (by decide)
    · exact absurd rfl h2
/-- an exponent's digits, cut where lim is reached -/
def xC (t : Nat → Int32) (c lim : Nat) : Nat → Nat
  | 0 => 0
  | k + 1 => if xC t c lim k < lim then 10 * xC t c lim k + dg (t (c + k)) else xC t c lim k
theorem xC_lt {t : Nat → Int32} {c lim : Nat} : ∀ k, (∀ i, i < k → dg (t (c + i)) < 10) → 0 < lim → xC t c lim k < 10 * lim
  | 0, _, h => by simp [xC]; omega
  | k + 1, hd, h => by
    have ih := xC_lt (t := t) (c := c) k (fun i hi => hd i (by omega)) h
    have := hd k (by omega)
    unfold xC
    split <;> omega
theorem xC_stay {t : Nat → Int32} {c lim k : Nat} (h : lim ≤ xC t c lim k) : ∀ d, xC t c lim (k + d) = xC t c lim k
  | 0 => rfl
  | d + 1 => by
    have ih := xC_stay h d
    rw [← Nat.add_assoc, xC, ih, if_neg (by omega)]
/-- the exponent at c3: there or not, its minus, its digits from c5 on, their number, its end -/
def scE (t : Nat → Int32) (c3 z : Nat) (hx : Bool) (ok : Bool) (mi : Prop) (c5 n3 c6 : Nat) : Prop :=
  (¬ (isc t c3 z (if hx then 112 else 101) ∨ isc t c3 z (if hx then 80 else 69)) ∧ ok = !hx ∧ ¬ mi ∧ c5 = c3 ∧ n3 = 0 ∧ c6 = c3) ∨
  ((isc t c3 z (if hx then 112 else 101) ∨ isc t c3 z (if hx then 80 else 69)) ∧ (mi ↔ sgM t (c3 + 1) z) ∧ (sgP t (c3 + 1) z ∧ c5 = c3 + 2 ∨ ¬ sgP t (c3 + 1) z ∧ c5 = c3 + 1) ∧ n3 = rn t 10 c5 (z - c5) ∧ c6 = c5 + n3 ∧ ok = decide (0 < n3))
set_option maxHeartbeats 4000000 in
theorem c_scanExponent (hx : Bool) (c3 z : Nat) (hz : z ≤ 8192) (ha : c3 ≤ z) : jM l y_scanExponent b_scanExponent 6 (some .boolean) (rmD 2) D (tyD ca) X [.ref (g 0)] (wd g ca len (nI c3) (nI z) ng (if hx then 3 else 2) df dt wg ex hg mo tp lb wo) (jPi fun r w => ∃ (ok : Bool) (mi : Bool) (c5 n3 c6 : Nat), scE tp c3 z hx ok (mi = true) c5 n3 c6 ∧ r = (if ok then 1 else 0) ∧ w = wd g ca len (nI c6) (nI z) ng (if hx then 3 else 2) df dt wg (if mi then -nI (xC tp c5 1000000 n3) else nI (xC tp c5 1000000 n3)) hg mo tp lb wo) := by
  refine jM.of [some (.ref (g 0)), none, none, none, none, none] (by simp [jle, jent, Value.category]) rfl (Nat.le_of_ble_eq_true rfl) ?_
  intro p e s m args below meth c sz hC
  have k161 : ∀ (mi : Bool) (c5 n3 : Nat) (o : Option Value), c5 + n3 ≤ z → scE tp c3 z hx (decide (0 < n3)) (mi = true) c5 n3 (c5 + n3) → J p l e (rmD 2) s m args below meth c D (va_A (wd g ca len (nI c3) (nI z) ng (if hx then 3 else 2) df dt wg ex hg mo tp lb wo) sz) 6 (MQ below (jQ D (wd g ca len (nI c3) (nI z) ng (if hx then 3 else 2) df dt wg ex hg mo tp lb wo) sz (jPi fun r w => ∃ (ok : Bool) (mi : Bool) (c5 n3 c6 : Nat), scE tp c3 z hx ok (mi = true) c5 n3 c6 ∧ r = (if ok then 1 else 0) ∧ w = wd g ca len (nI c6) (nI z) ng (if hx then 3 else 2) df dt wg (if mi then -nI (xC tp c5 1000000 n3) else nI (xC tp c5 1000000 n3)) hg mo tp lb wo)) args s 0 0 (va_A (wd g ca len (nI c3) (nI z) ng (if hx then 3 else 2) df dt wg ex hg mo tp lb wo) sz)) 161 [some (.ref (g 0)), some (.int 1), some (.int (if mi then 1 else 0)), some (.int (nI c5)), some (.int (nI (c5 + n3))), o] [] (wd g ca len (nI (c5 + n3)) (nI z) ng (if hx then 3 else 2) df dt wg (if mi then -nI (xC tp c5 1000000 n3) else nI (xC tp c5 1000000 n3)) hg mo tp lb wo) := by
    intro mi c5 n3 o hle hs
    refine j_iload4 (pc := 161) hC d_scanExponent_161 ?_
    refine j_iloadn3 (pc := 163) hC d_scanExponent_163 ?_
    refine j_icmp_le (pc := 164) hC 171 d_scanExponent_164 (by decide) (fun h1 => ?_) (fun h1 => ?_)
    · refine j_iconst (pc := 171) (v := 0) hC d_scanExponent_171 (by decide) ?_
      rw [nI_leI (by omega) (by omega)] at h1
      exact j_zret hC rfl d_scanExponent_172 ⟨0, rfl, decide (0 < n3), mi, c5, n3, c5 + n3, hs, by rw [show n3 = 0 by omega]; rfl, rfl⟩
    · refine j_iconst (pc := 167) (v := 1) hC d_scanExponent_167 (by decide) ?_
      refine j_goto (pc := 168) hC 172 d_scanExponent_168 (by decide) ?_
      rw [nI_leI (by omega) (by omega)] at h1
      exact j_zret hC rfl d_scanExponent_172 ⟨1, rfl, decide (0 < n3), mi, c5, n3, c5 + n3, hs, by rw [decide_eq_true (show 0 < n3 by omega)]; rfl, rfl⟩
  have k148 : ∀ (mi : Bool) (c5 n3 : Nat) (o : Option Value), c5 + n3 ≤ z → scE tp c3 z hx (decide (0 < n3)) (mi = true) c5 n3 (c5 + n3) → J p l e (rmD 2) s m args below meth c D (va_A (wd g ca len (nI c3) (nI z) ng (if hx then 3 else 2) df dt wg ex hg mo tp lb wo) sz) 6 (MQ below (jQ D (wd g ca len (nI c3) (nI z) ng (if hx then 3 else 2) df dt wg ex hg mo tp lb wo) sz (jPi fun r w => ∃ (ok : Bool) (mi : Bool) (c5 n3 c6 : Nat), scE tp c3 z hx ok (mi = true) c5 n3 c6 ∧ r = (if ok then 1 else 0) ∧ w = wd g ca len (nI c6) (nI z) ng (if hx then 3 else 2) df dt wg (if mi then -nI (xC tp c5 1000000 n3) else nI (xC tp c5 1000000 n3)) hg mo tp lb wo)) args s 0 0 (va_A (wd g ca len (nI c3) (nI z) ng (if hx then 3 else 2) df dt wg ex hg mo tp lb wo) sz)) 148 [some (.ref (g 0)), some (.int 1), some (.int (if mi then 1 else 0)), some (.int (nI c5)), some (.int (nI (c5 + n3))), o] [] (wd g ca len (nI (c5 + n3)) (nI z) ng (if hx then 3 else 2) df dt wg (nI (xC tp c5 1000000 n3)) hg mo tp lb wo) := by
    intro mi c5 n3 o hle hs
    cases mi with
    | true =>
      refine j_iloadn2 (pc := 148) hC d_scanExponent_148 ?_
      refine j_if_eq (pc := 149) hC 161 d_scanExponent_149 (by decide) (fun h1 => ?_) (fun h1 => ?_)
      · exact absurd h1 (by decide)
      · refine j_aloadn0 (pc := 152) hC d_scanExponent_152 ?_
        refine j_aloadn0 (pc := 153) hC d_scanExponent_153 ?_
        refine jg_R_144 (pc := 154) hC d_scanExponent_154 ?_
        refine j_ineg (pc := 157) hC d_scanExponent_157 ?_
        refine jp_R_144 (pc := 158) hC d_scanExponent_158 ?_
        exact k161 true c5 n3 o hle hs
    | false =>
      refine j_iloadn2 (pc := 148) hC d_scanExponent_148 ?_
      refine j_if_eq (pc := 149) hC 161 d_scanExponent_149 (by decide) (fun h1 => ?_) (fun h1 => ?_)
      · exact k161 false c5 n3 o hle hs
      · exact absurd rfl h1
  have loop : ∀ (n k : Nat) (mi : Bool) (c5 n3 : Nat), c5 + n3 ≤ z → (∀ i, i < n3 → dg (tp (c5 + i)) < 10) → scE tp c3 z hx (decide (0 < n3)) (mi = true) c5 n3 (c5 + n3) → k + n = n3 → J p l e (rmD 2) s m args below meth c D (va_A (wd g ca len (nI c3) (nI z) ng (if hx then 3 else 2) df dt wg ex hg mo tp lb wo) sz) 6 (MQ below (jQ D (wd g ca len (nI c3) (nI z) ng (if hx then 3 else 2) df dt wg ex hg mo tp lb wo) sz (jPi fun r w => ∃ (ok : Bool) (mi : Bool) (c5 n3 c6 : Nat), scE tp c3 z hx ok (mi = true) c5 n3 c6 ∧ r = (if ok then 1 else 0) ∧ w = wd g ca len (nI c6) (nI z) ng (if hx then 3 else 2) df dt wg (if mi then -nI (xC tp c5 1000000 n3) else nI (xC tp c5 1000000 n3)) hg mo tp lb wo)) args s 0 0 (va_A (wd g ca len (nI c3) (nI z) ng (if hx then 3 else 2) df dt wg ex hg mo tp lb wo) sz)) 104 [some (.ref (g 0)), some (.int 1), some (.int (if mi then 1 else 0)), some (.int (nI c5)), some (.int (nI (c5 + n3))), some (.int (nI (c5 + k)))] [] (wd g ca len (nI (c5 + n3)) (nI z) ng (if hx then 3 else 2) df dt wg (nI (xC tp c5 1000000 k)) hg mo tp lb wo) := by
    intro n
    induction n with
    | zero =>
      intro k mi c5 n3 hle hd hs hk
      have e : k = n3 := by omega
      subst e
      refine j_iload5 (pc := 104) hC d_scanExponent_104 ?_
      refine j_iload4 (pc := 106) hC d_scanExponent_106 ?_
      refine j_icmp_ge (pc := 108) hC 148 d_scanExponent_108 (by decide) (fun h1 => ?_) (fun h1 => ?_)
      · exact k148 mi c5 k _ hle hs
      · rw [nI_leI (by omega) (by omega)] at h1
        omega
    | succ n ih =>
      intro k mi c5 n3 hle hd hs hk
      have hlt := xC_lt (t := tp) (c := c5) (lim := 1000000) k (fun i hi => hd i (by omega)) (by omega)
      refine j_iload5 (pc := 104) hC d_scanExponent_104 ?_
      refine j_iload4 (pc := 106) hC d_scanExponent_106 ?_
      refine j_icmp_ge (pc := 108) hC 148 d_scanExponent_108 (by decide) (fun h1 => ?_) (fun h1 => ?_)
      · rw [nI_leI (by omega) (by omega)] at h1
        omega
      · refine j_aloadn0 (pc := 111) hC d_scanExponent_111 ?_
        refine jg_R_144 (pc := 112) hC d_scanExponent_112 ?_
        refine j_ldc (pc := 115) (v := 1000000) hC mk_R_147 d_scanExponent_115 ?_
        refine j_icmp_ge (pc := 117) hC 148 d_scanExponent_117 (by decide) (fun h2 => ?_) (fun h2 => ?_)
        · have h2 : nI 1000000 ≤ nI (xC tp c5 1000000 k) := h2
          rw [nI_leI (by omega) (by omega)] at h2
          refine J.to rfl rfl rfl ?_ (k148 mi c5 n3 _ hle hs)
          rw [show n3 = k + (n + 1) by omega, xC_stay h2]
        · have h2 : ¬ nI 1000000 ≤ nI (xC tp c5 1000000 k) := h2
          rw [nI_leI (by omega) (by omega)] at h2
          have hcl : (nI (c5 + k)).toNatClampNeg = c5 + k := nI_clamp (by omega)
          refine j_aloadn0 (pc := 120) hC d_scanExponent_120 ?_
          refine j_bipush (pc := 121) (v := 10) hC d_scanExponent_121 (by decide) ?_
          refine j_aloadn0 (pc := 123) hC d_scanExponent_123 ?_
          refine jg_R_144 (pc := 124) hC d_scanExponent_124 ?_
          refine j_imul (pc := 127) hC d_scanExponent_127 ?_
          refine j_aloadn0 (pc := 128) hC d_scanExponent_128 ?_
          refine jg_R_28 (pc := 129) hC d_scanExponent_129 ?_
          refine j_iload5 (pc := 132) hC d_scanExponent_132 ?_
          refine ja_tape_baload (pc := 134) hC (vp_in_nI (by omega) (by decide)) d_scanExponent_134 ?_
          refine j_S1i (pc := 135) hC cw_R_148 (rmD_in (by decide)) (Nat.le_of_ble_eq_true rfl) d_scanExponent_135 (c_digitOf _) (fun r w2 h3 => ?_)
          obtain ⟨rfl, rfl⟩ := h3
          refine j_iadd (pc := 138) hC d_scanExponent_138 ?_
          refine jp_R_144 (pc := 139) hC d_scanExponent_139 ?_
          refine j_iinc5 (pc := 142) hC d_scanExponent_142 (by decide) (by first | exact trivial | exact rfl) ?_
          refine j_goto (pc := 145) hC 104 d_scanExponent_145 (by decide) ?_
          refine J.to rfl ?_ rfl ?_ (ih (k + 1) mi c5 n3 hle hd hs (by omega))
          · rw [show c5 + (k + 1) = c5 + k + 1 by omega, ← nI_1]
            rfl
          · have e9 : xC tp c5 1000000 (k + 1) = 10 * xC tp c5 1000000 k + dg (tp (c5 + k)) := by rw [xC, if_pos (by omega)]
            rw [hcl, e9, show (10 : Int32) = nI 10 from rfl, pk_mul, nI_add]
  have k81 : (isc tp c3 z (if hx then 112 else 101) ∨ isc tp c3 z (if hx then 80 else 69)) → J p l e (rmD 2) s m args below meth c D (va_A (wd g ca len (nI c3) (nI z) ng (if hx then 3 else 2) df dt wg ex hg mo tp lb wo) sz) 6 (MQ below (jQ D (wd g ca len (nI c3) (nI z) ng (if hx then 3 else 2) df dt wg ex hg mo tp lb wo) sz (jPi fun r w => ∃ (ok : Bool) (mi : Bool) (c5 n3 c6 : Nat), scE tp c3 z hx ok (mi = true) c5 n3 c6 ∧ r = (if ok then 1 else 0) ∧ w = wd g ca len (nI c6) (nI z) ng (if hx then 3 else 2) df dt wg (if mi then -nI (xC tp c5 1000000 n3) else nI (xC tp c5 1000000 n3)) hg mo tp lb wo)) args s 0 0 (va_A (wd g ca len (nI c3) (nI z) ng (if hx then 3 else 2) df dt wg ex hg mo tp lb wo) sz)) 81 [some (.ref (g 0)), some (.int 1), none, none, none, none] [] (wd g ca len (nI (c3 + 1)) (nI z) ng (if hx then 3 else 2) df dt wg (0) hg mo tp lb wo) := by
    intro ht
    have hlt : c3 < z := ht.elim (fun q => q.1) (fun q => q.1)
    refine j_aloadn0 (pc := 81) hC d_scanExponent_81 ?_
    refine j_V0i (pc := 82) (q0 := 0) (ci := 0) hC cw_R_94 (rmD_in (by decide)) (Nat.le_of_ble_eq_true rfl) rfl rfl d_scanExponent_82 (c_takeSign (c3 + 1) z hz (by omega)) (fun r w2 h1 => ?_)
    obtain ⟨c5, h1, h2, rfl⟩ := h1
    have hc5 : c5 ≤ z := by
      rcases h2 with ⟨q, rfl⟩ | ⟨q, rfl⟩
      · rcases q with q | q <;> exact q.1
      · omega
    obtain ⟨mi, hr, hmi⟩ : ∃ mi : Bool, r = (if mi then 1 else 0) ∧ (mi = true ↔ sgM tp (c3 + 1) z) := by
      rcases h1 with ⟨q, e⟩ | ⟨q, e⟩
      · exact ⟨true, e, fun _ => q, fun _ => rfl⟩
      · exact ⟨false, e, fun z => (by cases z), fun z => absurd z q⟩
    subst hr
    refine j_istoren2 (pc := 85) hC d_scanExponent_85 (by decide) (by first | exact trivial | exact rfl) ?_
    refine j_aloadn0 (pc := 86) hC d_scanExponent_86 ?_
    refine jg_R_114 (pc := 87) hC d_scanExponent_87 ?_
    refine j_istoren3 (pc := 90) hC d_scanExponent_90 (by decide) (by first | exact trivial | exact rfl) ?_
    refine j_iloadn3 (pc := 91) hC d_scanExponent_91 ?_
    refine j_aloadn0 (pc := 92) hC d_scanExponent_92 ?_
    refine j_bipush (pc := 93) (v := 10) hC d_scanExponent_93 (by decide) ?_
    refine j_V1i (pc := 95) (q0 := 0) (ci := 0) hC cw_R_130 (rmD_in (by decide)) (Nat.le_of_ble_eq_true rfl) rfl rfl d_scanExponent_95 (c_skipDigits 10 c5 z (by omega) hz hc5) (fun r w2 h3 => ?_)
    obtain ⟨rfl, rfl⟩ := h3
    have hrl := rn_le tp 10 (z - c5) c5
    have hri := rn_in tp 10 (z - c5) c5
    have hs : scE tp c3 z hx (decide (0 < rn tp 10 c5 (z - c5))) (mi = true) c5 (rn tp 10 c5 (z - c5)) (c5 + rn tp 10 c5 (z - c5)) := Or.inr ⟨ht, hmi, by rcases h2 with ⟨q, e⟩ | ⟨q, e⟩; exact Or.inl ⟨q, by omega⟩; exact Or.inr ⟨q, e⟩, rfl, rfl, rfl⟩
    generalize rn tp 10 c5 (z - c5) = n3 at hrl hri hs
    refine j_iadd (pc := 98) hC d_scanExponent_98 ?_
    refine j_istore4 (pc := 99) hC d_scanExponent_99 (by decide) (by first | exact trivial | exact rfl) ?_
    refine j_iloadn3 (pc := 101) hC d_scanExponent_101 ?_
    refine j_istore5 (pc := 102) hC d_scanExponent_102 (by decide) (by first | exact trivial | exact rfl) ?_
    refine J.to rfl ?_ rfl rfl (loop n3 0 mi c5 n3 (by omega) hri hs (by omega))
    rw [nI_add]
    rfl
  have k62y : (isc tp c3 z (if hx then 112 else 101) ∨ isc tp c3 z (if hx then 80 else 69)) → J p l e (rmD 2) s m args below meth c D (va_A (wd g ca len (nI c3) (nI z) ng (if hx then 3 else 2) df dt wg ex hg mo tp lb wo) sz) 6 (MQ below (jQ D (wd g ca len (nI c3) (nI z) ng (if hx then 3 else 2) df dt wg ex hg mo tp lb wo) sz (jPi fun r w => ∃ (ok : Bool) (mi : Bool) (c5 n3 c6 : Nat), scE tp c3 z hx ok (mi = true) c5 n3 c6 ∧ r = (if ok then 1 else 0) ∧ w = wd g ca len (nI c6) (nI z) ng (if hx then 3 else 2) df dt wg (if mi then -nI (xC tp c5 1000000 n3) else nI (xC tp c5 1000000 n3)) hg mo tp lb wo)) args s 0 0 (va_A (wd g ca len (nI c3) (nI z) ng (if hx then 3 else 2) df dt wg ex hg mo tp lb wo) sz)) 62 [some (.ref (g 0)), none, none, none, none, none] [.int 1] (wd g ca len (nI (c3 + 1)) (nI z) ng (if hx then 3 else 2) df dt wg (0) hg mo tp lb wo) := by
    intro ht
    refine j_istoren1 (pc := 62) hC d_scanExponent_62 (by decide) (by first | exact trivial | exact rfl) ?_
    refine j_iloadn1 (pc := 63) hC d_scanExponent_63 ?_
    refine j_if_ne (pc := 64) hC 81 d_scanExponent_64 (by decide) (fun h1 => ?_) (fun h1 => ?_)
    · exact k81 ht
    · exact absurd h1 (by decide)
  have k62n : ¬ (isc tp c3 z (if hx then 112 else 101) ∨ isc tp c3 z (if hx then 80 else 69)) → J p l e (rmD 2) s m args below meth c D (va_A (wd g ca len (nI c3) (nI z) ng (if hx then 3 else 2) df dt wg ex hg mo tp lb wo) sz) 6 (MQ below (jQ D (wd g ca len (nI c3) (nI z) ng (if hx then 3 else 2) df dt wg ex hg mo tp lb wo) sz (jPi fun r w => ∃ (ok : Bool) (mi : Bool) (c5 n3 c6 : Nat), scE tp c3 z hx ok (mi = true) c5 n3 c6 ∧ r = (if ok then 1 else 0) ∧ w = wd g ca len (nI c6) (nI z) ng (if hx then 3 else 2) df dt wg (if mi then -nI (xC tp c5 1000000 n3) else nI (xC tp c5 1000000 n3)) hg mo tp lb wo)) args s 0 0 (va_A (wd g ca len (nI c3) (nI z) ng (if hx then 3 else 2) df dt wg ex hg mo tp lb wo) sz)) 62 [some (.ref (g 0)), none, none, none, none, none] [.int 0] (wd g ca len (nI c3) (nI z) ng (if hx then 3 else 2) df dt wg (0) hg mo tp lb wo) := by
    intro hn
    refine j_istoren1 (pc := 62) hC d_scanExponent_62 (by decide) (by first | exact trivial | exact rfl) ?_
    refine j_iloadn1 (pc := 63) hC d_scanExponent_63 ?_
    refine j_if_ne (pc := 64) hC 81 d_scanExponent_64 (by decide) (fun h1 => ?_) (fun h1 => ?_)
    · exact absurd rfl h1
    · refine j_aloadn0 (pc := 67) hC d_scanExponent_67 ?_
      refine jg_R_68 (pc := 68) hC d_scanExponent_68 ?_
      refine j_iconst (pc := 71) (v := 2) hC d_scanExponent_71 (by decide) ?_
      refine j_icmp_ne (pc := 72) hC 79 d_scanExponent_72 (by decide) (fun h2 => ?_) (fun h2 => ?_)
      · refine j_iconst (pc := 79) (v := 0) hC d_scanExponent_79 (by decide) ?_
        have hxt : hx = true := by
          cases hx
          · exact absurd rfl h2
          · rfl
        exact j_zret hC rfl d_scanExponent_80 ⟨0, rfl, false, false, c3, 0, c3, Or.inl ⟨hn, by rw [hxt]; rfl, by decide, rfl, rfl, rfl⟩, rfl, rfl⟩
      · refine j_iconst (pc := 75) (v := 1) hC d_scanExponent_75 (by decide) ?_
        refine j_goto (pc := 76) hC 80 d_scanExponent_76 (by decide) ?_
        have hxf : hx = false := by
          cases hx
          · rfl
          · exact absurd h2 (by decide)
        exact j_zret hC rfl d_scanExponent_80 ⟨1, rfl, true, false, c3, 0, c3, Or.inl ⟨hn, by rw [hxf]; rfl, by decide, rfl, rfl, rfl⟩, rfl, rfl⟩
  cases hx with
  | true =>
    refine j_aloadn0 (pc := 0) hC d_scanExponent_0 ?_
    refine j_iconst (pc := 1) (v := 0) hC d_scanExponent_1 (by decide) ?_
    refine jp_R_144 (pc := 2) hC d_scanExponent_2 ?_
    refine j_aloadn0 (pc := 5) hC d_scanExponent_5 ?_
    refine jg_R_68 (pc := 6) hC d_scanExponent_6 ?_
    refine j_iconst (pc := 9) (v := 3) hC d_scanExponent_9 (by decide) ?_
    refine j_icmp_ne (pc := 10) hC 39 d_scanExponent_10 (by decide) (fun h1 => ?_) (fun h1 => ?_)
    · exact absurd rfl h1
    · refine j_aloadn0 (pc := 13) hC d_scanExponent_13 ?_
      refine j_bipush (pc := 14) (v := 112) hC d_scanExponent_14 (by decide) ?_
      refine j_V1i (pc := 16) (q0 := 0) (ci := 0) hC cw_R_137 (rmD_in (by decide)) (Nat.le_of_ble_eq_true rfl) rfl rfl d_scanExponent_16 (c_take 112 c3 z hz ha) (fun r w2 h2 => ?_)
      rcases h2 with ⟨h2, rfl, rfl⟩ | ⟨h2, rfl, rfl⟩
      · refine j_if_ne (pc := 19) hC 31 d_scanExponent_19 (by decide) (fun h3 => ?_) (fun h3 => ?_)
        · refine j_iconst (pc := 31) (v := 1) hC d_scanExponent_31 (by decide) ?_
          refine j_goto (pc := 32) hC 62 d_scanExponent_32 (by decide) ?_
          exact k62y (Or.inl h2)
        · exact absurd h3 (by decide)
      · refine j_if_ne (pc := 19) hC 31 d_scanExponent_19 (by decide) (fun h3 => ?_) (fun h3 => ?_)
        · exact absurd rfl h3
        · refine j_aloadn0 (pc := 22) hC d_scanExponent_22 ?_
          refine j_bipush (pc := 23) (v := 80) hC d_scanExponent_23 (by decide) ?_
          refine j_V1i (pc := 25) (q0 := 0) (ci := 0) hC cw_R_137 (rmD_in (by decide)) (Nat.le_of_ble_eq_true rfl) rfl rfl d_scanExponent_25 (c_take 80 c3 z hz ha) (fun r w2 h4 => ?_)
          rcases h4 with ⟨h4, rfl, rfl⟩ | ⟨h4, rfl, rfl⟩
          · refine j_if_eq (pc := 28) hC 35 d_scanExponent_28 (by decide) (fun h5 => ?_) (fun h5 => ?_)
            · exact absurd h5 (by decide)
            · refine j_iconst (pc := 31) (v := 1) hC d_scanExponent_31 (by decide) ?_
              refine j_goto (pc := 32) hC 62 d_scanExponent_32 (by decide) ?_
              exact k62y (Or.inr h4)
          · refine j_if_eq (pc := 28) hC 35 d_scanExponent_28 (by decide) (fun h5 => ?_) (fun h5 => ?_)
            · refine j_iconst (pc := 35) (v := 0) hC d_scanExponent_35 (by decide) ?_
              refine j_goto (pc := 36) hC 62 d_scanExponent_36 (by decide) ?_
              exact k62n (fun q => q.elim h2 h4)
            · exact absurd rfl h5
  | false =>
    refine j_aloadn0 (pc := 0) hC d_scanExponent_0 ?_
    refine j_iconst (pc := 1) (v := 0) hC d_scanExponent_1 (by decide) ?_
    refine jp_R_144 (pc := 2) hC d_scanExponent_2 ?_
    refine j_aloadn0 (pc := 5) hC d_scanExponent_5 ?_
    refine jg_R_68 (pc := 6) hC d_scanExponent_6 ?_
    refine j_iconst (pc := 9) (v := 3) hC d_scanExponent_9 (by decide) ?_
    refine j_icmp_ne (pc := 10) hC 39 d_scanExponent_10 (by decide) (fun h1 => ?_) (fun h1 => ?_)
    · refine j_aloadn0 (pc := 39) hC d_scanExponent_39 ?_
      refine j_bipush (pc := 40) (v := 101) hC d_scanExponent_40 (by decide) ?_
      refine j_V1i (pc := 42) (q0 := 0) (ci := 0) hC cw_R_137 (rmD_in (by decide)) (Nat.le_of_ble_eq_true rfl) rfl rfl d_scanExponent_42 (c_take 101 c3 z hz ha) (fun r w2 h2 => ?_)
      rcases h2 with ⟨h2, rfl, rfl⟩ | ⟨h2, rfl, rfl⟩
      · refine j_if_ne (pc := 45) hC 57 d_scanExponent_45 (by decide) (fun h3 => ?_) (fun h3 => ?_)
        · refine j_iconst (pc := 57) (v := 1) hC d_scanExponent_57 (by decide) ?_
          refine j_goto (pc := 58) hC 62 d_scanExponent_58 (by decide) ?_
          exact k62y (Or.inl h2)
        · exact absurd h3 (by decide)
      · refine j_if_ne (pc := 45) hC 57 d_scanExponent_45 (by decide) (fun h3 => ?_) (fun h3 => ?_)
        · exact absurd rfl h3
        · refine j_aloadn0 (pc := 48) hC d_scanExponent_48 ?_
          refine j_bipush (pc := 49) (v := 69) hC d_scanExponent_49 (by decide) ?_
          refine j_V1i (pc := 51) (q0 := 0) (ci := 0) hC cw_R_137 (rmD_in (by decide)) (Nat.le_of_ble_eq_true rfl) rfl rfl d_scanExponent_51 (c_take 69 c3 z hz ha) (fun r w2 h4 => ?_)
          rcases h4 with ⟨h4, rfl, rfl⟩ | ⟨h4, rfl, rfl⟩
          · refine j_if_eq (pc := 54) hC 61 d_scanExponent_54 (by decide) (fun h5 => ?_) (fun h5 => ?_)
            · exact absurd h5 (by decide)
            · refine j_iconst (pc := 57) (v := 1) hC d_scanExponent_57 (by decide) ?_
              refine j_goto (pc := 58) hC 62 d_scanExponent_58 (by decide) ?_
              exact k62y (Or.inr h4)
          · refine j_if_eq (pc := 54) hC 61 d_scanExponent_54 (by decide) (fun h5 => ?_) (fun h5 => ?_)
            · refine j_iconst (pc := 61) (v := 0) hC d_scanExponent_61 (by decide) ?_
              exact k62n (fun q => q.elim h2 h4)
            · exact absurd rfl h5
    · exact absurd h1 (by decide)
end SD
end
section
/-! THE CLASS: Value, its bits -/
/-- the words as one number -/
def wnum (wo : Nat → Int32) : Nat := hv 4294967296 (fun i => un (wo i)) 67
theorem wnum_word (wo : Nat → Int32) {k : Nat} (hk : k < 67) : wnum wo / 2 ^ (32 * k) % 4294967296 = un (wo (66 - k)) := by
  have h := hv_dig (B := 4294967296) (by omega) (f := fun i => un (wo i)) (n := 67) (k := 66 - k) (by omega) (fun i _ => un_lt (wo i))
  rw [show 67 - 1 - (66 - k) = k by omega] at h
  rw [Nat.pow_mul, show (2 : Nat) ^ 32 = 4294967296 by decide]
  exact h
theorem wnum_bit (wo : Nat → Int32) {n : Nat} (hn : n < 2144) : wnum wo / 2 ^ n % 2 = un (wo (66 - n / 32)) / 2 ^ (n % 32) % 2 := by
  rw [← wnum_word wo (k := n / 32) (by omega)]
  have e : n = 32 * (n / 32) + n % 32 := (Nat.div_add_mod n 32).symm
  have h1 : 2 ^ n = 2 ^ (32 * (n / 32)) * 2 ^ (n % 32) := by rw [← Nat.pow_add, ← e]
  rw [h1, ← Nat.div_div_eq_div_mul]
  generalize wnum wo / 2 ^ (32 * (n / 32)) = y
  have hr : n % 32 < 32 := Nat.mod_lt _ (by omega)
  have h2 : (4294967296 : Nat) = 2 ^ (n % 32) * (2 * 2 ^ (31 - n % 32)) := by
    rw [← Nat.mul_assoc, ← Nat.pow_succ, ← Nat.pow_add, show n % 32 + 1 + (31 - n % 32) = 32 by omega]
  rw [h2, Nat.mod_mul_right_div_self, Nat.mod_mul_right_mod]
section VB
variable {l : Launch} {D : va_G} {X : jX} {g : Nat → Nat} {ca : Nat → ClassId} {len ps sp ng fm df dt wg ex hg mo : Int32} {tp lb wo : Nat → Int32}
theorem pw_place {n : Nat} (hn : n < 2144) : 1055 - pw (n + 1) = nI (2143 - n) := nI_to (by omega) (by
  have e := pw_toInt (n := n + 1) (by omega)
  have o : (1055 : Int32).toInt = 1055 := rfl
  rw [tsub (by omega) (by omega), e, o]
  omega)
theorem c_v_wordOf (n : Nat) (hn : n < 2144) : jM l y_v_wordOf b_v_wordOf 1 (some .int) (rmD 0) D (tyD ca) X [.int (pw (n + 1))] (wd g ca len ps sp ng fm df dt wg ex hg mo tp lb wo) (jPi fun r w => r = nI (66 - n / 32) ∧ w = wd g ca len ps sp ng fm df dt wg ex hg mo tp lb wo) := by
  refine jM.of [some (.int (pw (n + 1)))] (by simp [jle, jent, Value.category]) rfl (Nat.le_of_ble_eq_true rfl) ?_
  intro p e s m args below meth c sz hC
  refine j_sipush (pc := 0) (v := 1055) hC d_v_wordOf_0 (by decide) ?_
  refine j_iloadn0 (pc := 3) hC d_v_wordOf_3 ?_
  refine j_isub (pc := 4) hC d_v_wordOf_4 ?_
  refine J.topi (pw_place hn) ?_
  refine j_bipush (pc := 5) (v := 32) hC d_v_wordOf_5 (by decide) ?_
  refine j_idiv (pc := 7) hC d_v_wordOf_7 (by decide) ?_
  refine j_iret hC d_v_wordOf_8 ⟨_, rfl, ?_, rfl⟩
  rw [show (32 : Int32) = nI 32 from rfl, pk_div (by omega) (by omega) (by omega)]
  congr 1
  omega
theorem c_v_shiftOf (n : Nat) (hn : n < 2144) : jM l y_v_shiftOf b_v_shiftOf 1 (some .int) (rmD 0) D (tyD ca) X [.int (pw (n + 1))] (wd g ca len ps sp ng fm df dt wg ex hg mo tp lb wo) (jPi fun r w => r = nI (n % 32) ∧ w = wd g ca len ps sp ng fm df dt wg ex hg mo tp lb wo) := by
  refine jM.of [some (.int (pw (n + 1)))] (by simp [jle, jent, Value.category]) rfl (Nat.le_of_ble_eq_true rfl) ?_
  intro p e s m args below meth c sz hC
  refine j_bipush (pc := 0) (v := 31) hC d_v_shiftOf_0 (by decide) ?_
  refine j_sipush (pc := 2) (v := 1055) hC d_v_shiftOf_2 (by decide) ?_
  refine j_iloadn0 (pc := 5) hC d_v_shiftOf_5 ?_
  refine j_isub (pc := 6) hC d_v_shiftOf_6 ?_
  refine J.topi (pw_place hn) ?_
  refine j_bipush (pc := 7) (v := 32) hC d_v_shiftOf_7 (by decide) ?_
  refine j_irem (pc := 9) hC d_v_shiftOf_9 (by decide) ?_
  refine j_isub (pc := 10) hC d_v_shiftOf_10 ?_
  refine j_iret hC d_v_shiftOf_11 ⟨_, rfl, ?_, rfl⟩
  rw [show (32 : Int32) = nI 32 from rfl, pk_rem (by omega) (by omega) (by omega), show (31 : Int32) = nI 31 from rfl, pk_sub (by omega)]
  congr 1
  omega
set_option maxHeartbeats 1000000 in
theorem c_v_bitAt (n : Nat) (hn : n < 2144) : jM l y_v_bitAt b_v_bitAt 2 (some .int) (rmD 1) D (tyD ca) X [.ref (g 3), .int (pw (n + 1))] (wd g ca len ps sp ng fm df dt wg ex hg mo tp lb wo) (jPi fun r w => r = nI (wnum wo / 2 ^ n % 2) ∧ w = wd g ca len ps sp ng fm df dt wg ex hg mo tp lb wo) := by
  refine jM.of [some (.ref (g 3)), some (.int (pw (n + 1)))] (by simp [jle, jent, Value.category]) rfl (Nat.le_of_ble_eq_true rfl) ?_
  intro p e s m args below meth c sz hC
  refine j_aloadn0 (pc := 0) hC d_v_bitAt_0 ?_
  refine jg_V_13 (pc := 1) hC d_v_bitAt_1 ?_
  refine j_iloadn1 (pc := 4) hC d_v_bitAt_4 ?_
  refine j_S1i (pc := 5) hC cw_V_36 (rmD_in (by decide)) (Nat.le_of_ble_eq_true rfl) d_v_bitAt_5 (c_v_wordOf n hn) (fun r w2 h1 => ?_)
  obtain ⟨rfl, rfl⟩ := h1
  refine ja_words_iaload (pc := 8) hC (vp_in_nI (by omega) (by decide)) d_v_bitAt_8 ?_
  refine j_iloadn1 (pc := 9) hC d_v_bitAt_9 ?_
  refine j_S1i (pc := 10) hC cw_V_40 (rmD_in (by decide)) (Nat.le_of_ble_eq_true rfl) d_v_bitAt_10 (c_v_shiftOf n hn) (fun r w2 h2 => ?_)
  obtain ⟨rfl, rfl⟩ := h2
  refine j_iushr (pc := 13) hC d_v_bitAt_13 ?_
  refine j_iconst (pc := 14) (v := 1) hC d_v_bitAt_14 (by decide) ?_
  refine j_iand (pc := 15) hC d_v_bitAt_15 ?_
  refine j_iret hC d_v_bitAt_16 ⟨_, rfl, ?_, rfl⟩
  rw [bit_at _ (Nat.mod_lt _ (by omega)), wnum_bit wo hn, nI_clamp (by omega)]
/-- how many bits a number has -/
def nbits (w n : Nat) : Prop := w < 2 ^ n ∧ (0 < n → 2 ^ (n - 1) ≤ w)
theorem div_mod_zero {w n : Nat} (h : w < 2 ^ (n + 1)) (hb : w / 2 ^ n % 2 = 0) : w < 2 ^ n := by
  rw [Nat.pow_succ] at h
  have h1 : w / 2 ^ n < 2 := (Nat.div_lt_iff_lt_mul (Nat.two_pow_pos n)).mpr (by omega)
  have h2 : w / 2 ^ n = 0 := by
    generalize w / 2 ^ n = q at h1 hb
    omega
  rcases Nat.lt_or_ge w (2 ^ n) with h3 | h3
  · exact h3
  · have := Nat.div_pos h3 (Nat.two_pow_pos n)
    omega
theorem div_mod_one {w n : Nat} (hb : ¬ w / 2 ^ n % 2 = 0) : 2 ^ n ≤ w := by
  rcases Nat.lt_or_ge w (2 ^ n) with h3 | h3
  · rw [Nat.div_eq_of_lt h3] at hb
    omega
  · exact h3
set_option maxHeartbeats 2000000 in
theorem c_v_topPower : jM l y_v_topPower b_v_topPower 2 (some .int) (rmD 2) D (tyD ca) X [.ref (g 3)] (wd g ca len ps sp ng fm df dt wg ex hg mo tp lb wo) (jPi fun r w => ∃ n, n ≤ 2144 ∧ nbits (wnum wo) n ∧ r = pw n ∧ w = wd g ca len ps sp ng fm df dt wg ex hg mo tp lb wo) := by
  refine jM.of [some (.ref (g 3)), none] (by simp [jle, jent, Value.category]) rfl (Nat.le_of_ble_eq_true rfl) ?_
  intro p e s m args below meth c sz hC
  have cmp : ∀ n, n ≤ 2144 → (pw n < -1088 ↔ n = 0) := fun n hn => by
    rw [i32lt, pw_toInt (by omega), show ((-1088 : Int32)).toInt = -1088 from rfl]
    omega
  have loop2 : ∀ n, n ≤ 2144 → wnum wo < 2 ^ n → J p l e (rmD 2) s m args below meth c D (va_A (wd g ca len ps sp ng fm df dt wg ex hg mo tp lb wo) sz) 2 (MQ below (jQ D (wd g ca len ps sp ng fm df dt wg ex hg mo tp lb wo) sz (jPi fun r w => ∃ n, n ≤ 2144 ∧ nbits (wnum wo) n ∧ r = pw n ∧ w = wd g ca len ps sp ng fm df dt wg ex hg mo tp lb wo)) args s 0 0 (va_A (wd g ca len ps sp ng fm df dt wg ex hg mo tp lb wo) sz)) 29 [some (.ref (g 3)), some (.int (pw n))] [] (wd g ca len ps sp ng fm df dt wg ex hg mo tp lb wo) := by
    intro n
    induction n with
    | zero =>
      intro hn hw
      refine j_iloadn1 (pc := 29) hC d_v_topPower_29 ?_
      refine j_sipush (pc := 30) (v := -1088) hC d_v_topPower_30 (by decide) ?_
      refine j_icmp_lt (pc := 33) hC 50 d_v_topPower_33 (by decide) (fun h1 => ?_) (fun h1 => ?_)
      · refine j_iloadn1 (pc := 50) hC d_v_topPower_50 ?_
        exact j_iret hC d_v_topPower_51 ⟨_, rfl, 0, hn, ⟨hw, fun q => absurd q (by omega)⟩, rfl, rfl⟩
      · rw [cmp 0 hn] at h1
        exact absurd rfl h1
    | succ n ih =>
      intro hn hw
      refine j_iloadn1 (pc := 29) hC d_v_topPower_29 ?_
      refine j_sipush (pc := 30) (v := -1088) hC d_v_topPower_30 (by decide) ?_
      refine j_icmp_lt (pc := 33) hC 50 d_v_topPower_33 (by decide) (fun h1 => ?_) (fun h1 => ?_)
      · rw [cmp (n + 1) hn] at h1
        omega
      · refine j_aloadn0 (pc := 36) hC d_v_topPower_36 ?_
        refine j_iloadn1 (pc := 37) hC d_v_topPower_37 ?_
        refine j_V1i (pc := 38) (q0 := 3) (ci := 2) hC cw_V_84 (rmD_in (by decide)) (Nat.le_of_ble_eq_true rfl) rfl rfl d_v_topPower_38 (c_v_bitAt n (by omega)) (fun r w2 h2 => ?_)
        obtain ⟨rfl, rfl⟩ := h2
        refine j_if_ne (pc := 41) hC 50 d_v_topPower_41 (by decide) (fun h3 => ?_) (fun h3 => ?_)
        · refine j_iloadn1 (pc := 50) hC d_v_topPower_50 ?_
          have h3 : ¬ wnum wo / 2 ^ n % 2 = 0 := fun q => h3 (by rw [q]; rfl)
          exact j_iret hC d_v_topPower_51 ⟨_, rfl, n + 1, hn, ⟨hw, fun _ => div_mod_one h3⟩, rfl, rfl⟩
        · refine j_iinc1 (pc := 44) hC d_v_topPower_44 (by decide) (by first | exact trivial | exact rfl) ?_
          refine j_goto (pc := 47) hC 29 d_v_topPower_47 (by decide) ?_
          have h3 : wnum wo / 2 ^ n % 2 = 0 := by
            have h4 : nI (wnum wo / 2 ^ n % 2) = nI 0 := h3
            rw [nI_eq (by omega) (by omega)] at h4
            exact h4
          refine J.to rfl ?_ rfl rfl (ih (by omega) (div_mod_zero hw h3))
          rw [pw_dec (by omega)]
  have loop1 : ∀ k, k ≤ 67 → wnum wo < 2 ^ (32 * k) → J p l e (rmD 2) s m args below meth c D (va_A (wd g ca len ps sp ng fm df dt wg ex hg mo tp lb wo) sz) 2 (MQ below (jQ D (wd g ca len ps sp ng fm df dt wg ex hg mo tp lb wo) sz (jPi fun r w => ∃ n, n ≤ 2144 ∧ nbits (wnum wo) n ∧ r = pw n ∧ w = wd g ca len ps sp ng fm df dt wg ex hg mo tp lb wo)) args s 0 0 (va_A (wd g ca len ps sp ng fm df dt wg ex hg mo tp lb wo) sz)) 4 [some (.ref (g 3)), some (.int (pw (32 * k)))] [] (wd g ca len ps sp ng fm df dt wg ex hg mo tp lb wo) := by
    intro k
    induction k with
    | zero =>
      intro hk hw
      refine j_iloadn1 (pc := 4) hC d_v_topPower_4 ?_
      refine j_sipush (pc := 5) (v := -1088) hC d_v_topPower_5 (by decide) ?_
      refine j_icmp_lt (pc := 8) hC 29 d_v_topPower_8 (by decide) (fun h1 => ?_) (fun h1 => ?_)
      · exact loop2 0 (by omega) hw
      · rw [cmp _ (by omega)] at h1
        omega
    | succ k ih =>
      intro hk hw
      refine j_iloadn1 (pc := 4) hC d_v_topPower_4 ?_
      refine j_sipush (pc := 5) (v := -1088) hC d_v_topPower_5 (by decide) ?_
      refine j_icmp_lt (pc := 8) hC 29 d_v_topPower_8 (by decide) (fun h1 => ?_) (fun h1 => ?_)
      · rw [cmp _ (by omega)] at h1
        omega
      · refine j_aloadn0 (pc := 11) hC d_v_topPower_11 ?_
        refine jg_V_13 (pc := 12) hC d_v_topPower_12 ?_
        refine j_iloadn1 (pc := 15) hC d_v_topPower_15 ?_
        refine j_S1i (pc := 16) hC cw_V_36 (rmD_in (by decide)) (Nat.le_of_ble_eq_true rfl) d_v_topPower_16 (c_v_wordOf (32 * k + 31) (by omega)) (fun r w2 h2 => ?_)
        obtain ⟨rfl, rfl⟩ := h2
        have hcl : (nI (66 - (32 * k + 31) / 32)).toNatClampNeg = 66 - k := by rw [nI_clamp (by omega)]; omega
        refine ja_words_iaload (pc := 19) hC (vp_in_nI (by omega) (by decide)) d_v_topPower_19 ?_
        rw [hcl]
        have hword := wnum_word wo (k := k) (by omega)
        have hpw : (2 : Nat) ^ (32 * (k + 1)) = 2 ^ (32 * k) * 4294967296 := by
          rw [Nat.mul_add, Nat.pow_add]
        refine j_if_ne (pc := 20) hC 29 d_v_topPower_20 (by decide) (fun h3 => ?_) (fun h3 => ?_)
        · exact loop2 (32 * (k + 1)) (by omega) hw
        · refine j_iinc1 (pc := 23) hC d_v_topPower_23 (by decide) (by first | exact trivial | exact rfl) ?_
          refine j_goto (pc := 26) hC 4 d_v_topPower_26 (by decide) ?_
          have h4 : un (wo (66 - k)) = 0 := un_0.mpr h3
          rw [h4] at hword
          have h5 : wnum wo < 2 ^ (32 * k) := by
            rw [hpw] at hw
            have h6 : wnum wo / 2 ^ (32 * k) < 4294967296 := (Nat.div_lt_iff_lt_mul (Nat.two_pow_pos _)).mpr (by rw [Nat.mul_comm]; exact hw)
            rw [Nat.mod_eq_of_lt h6] at hword
            rcases Nat.lt_or_ge (wnum wo) (2 ^ (32 * k)) with h7 | h7
            · exact h7
            · have := Nat.div_pos h7 (Nat.two_pow_pos _)
              omega
          refine J.to rfl ?_ rfl rfl (ih (by omega) h5)
          have e : pw (32 * (k + 1)) + Int32.ofInt (-32) = pw (32 * k) := pw_inj (by omega) (by
            have e1 := pw_toInt (n := 32 * (k + 1)) (by omega)
            have o : (Int32.ofInt (-32)).toInt = -32 := rfl
            rw [tadd (by omega) (by omega), e1, o]
            omega)
          rw [e]
  refine j_sipush (pc := 0) (v := 1055) hC d_v_topPower_0 (by decide) ?_
  refine j_istoren1 (pc := 3) hC d_v_topPower_3 (by decide) (by first | exact trivial | exact rfl) ?_
  exact loop1 67 (by omega) (by
    have h := hv_lt (B := 4294967296) (f := fun i => un (wo i)) (n := 67) (fun i _ => un_lt (wo i))
    rw [show (4294967296 : Nat) = 2 ^ 32 by decide, ← Nat.pow_mul] at h
    exact h)
end VB
end
section
/-! THE CLASS: Value.rounded -/
theorem wnum_low (wo : Nat → Int32) {n : Nat} (hn : n < 2144) : wnum wo % 2 ^ n ≠ 0 ↔ (un (wo (66 - n / 32)) % 2 ^ (n % 32) ≠ 0 ∨ ∃ i, 67 - n / 32 ≤ i ∧ i < 67 ∧ wo i ≠ 0) := by
  have e : n = 32 * (n / 32) + n % 32 := (Nat.div_add_mod n 32).symm
  have h1 : 2 ^ n = 2 ^ (32 * (n / 32)) * 2 ^ (n % 32) := by rw [← Nat.pow_add, ← e]
  have hr : n % 32 < 32 := Nat.mod_lt _ (by omega)
  have hword := wnum_word wo (k := n / 32) (by omega)
  have h2 : (4294967296 : Nat) = 2 ^ (n % 32) * 2 ^ (32 - n % 32) := by
    rw [← Nat.pow_add, show n % 32 + (32 - n % 32) = 32 by omega]
  have h3 : wnum wo / 2 ^ (32 * (n / 32)) % 2 ^ (n % 32) = un (wo (66 - n / 32)) % 2 ^ (n % 32) := by
    rw [← hword, h2, Nat.mod_mul_right_mod]
  have hk : n / 32 ≤ 66 := by omega
  have h4 : wnum wo % 2 ^ (32 * (n / 32)) = hv 4294967296 (fun i => un (wo (67 - n / 32 + i))) (n / 32) := by
    have := hv_mod (B := 4294967296) (by omega) (f := fun i => un (wo i)) (n := 67 - n / 32) (m := n / 32) (fun i _ => un_lt (wo i))
    rw [show 67 - n / 32 + n / 32 = 67 by omega] at this
    rw [Nat.pow_mul, show (2 : Nat) ^ 32 = 4294967296 by decide]
    exact this
  rw [h1, Nat.mod_mul, h3, h4]
  have hp : 0 < 2 ^ (32 * (n / 32)) := Nat.two_pow_pos _
  constructor
  · intro h
    rcases Nat.eq_zero_or_pos (un (wo (66 - n / 32)) % 2 ^ (n % 32)) with z | z
    · right
      rw [z, Nat.mul_zero, Nat.add_zero] at h
      rcases Classical.em (∃ i, 67 - n / 32 ≤ i ∧ i < 67 ∧ wo i ≠ 0) with q | q
      · exact q
      · exact absurd (hv_zero _ (fun i hi => by
          rcases Classical.em (wo (67 - n / 32 + i) = 0) with y | y
          · exact un_0.mpr y
          · exact absurd ⟨_, by omega, by omega, y⟩ q)) h
    · left
      omega
  · rintro (h | ⟨i, h5, h6, h7⟩)
    · have : 0 < 2 ^ (32 * (n / 32)) * (un (wo (66 - n / 32)) % 2 ^ (n % 32)) := Nat.mul_pos hp (by omega)
      omega
    · have := hv_pos (B := 4294967296) (by omega) (f := fun i => un (wo (67 - n / 32 + i))) (n := n / 32) (k := i - (67 - n / 32)) (by omega) (by
        show un (wo (67 - n / 32 + (i - (67 - n / 32)))) ≠ 0
        rw [show 67 - n / 32 + (i - (67 - n / 32)) = i by omega]
        exact fun q => h7 (un_0.mp q))
      omega
theorem mask_at (x : Int32) {k : Nat} (hk : k < 32) : x &&& ((1 : Int32) <<< (nI k &&& 31) - 1) = nI (un x % 2 ^ k) := by
  have h1 : (1 : Int32) <<< (nI k &&& 31) = nI (2 ^ k) := by
    have := pk_shlN (n := 1) (nI k &&& 31) k (sl32 k hk) (by rw [Nat.one_mul]; exact Nat.pow_lt_pow_right (by omega) hk)
    rw [Nat.one_mul] at this
    exact this
  have hp : 0 < 2 ^ k := Nat.two_pow_pos k
  have hlt : 2 ^ k < 2 ^ 32 := Nat.pow_lt_pow_right (by omega) hk
  obtain ⟨j, hj⟩ : ∃ j, 2 ^ k = j + 1 := ⟨2 ^ k - 1, by omega⟩
  rw [h1, hj, nI_pred, ← hj]
  exact pk_and x k (by rw [pk_tn (by omega)]; omega)
section VR
variable {l : Launch} {D : va_G} {X : jX} {g : Nat → Nat} {ca : Nat → ClassId} {len ps sp ng fm df dt wg ex hg mo : Int32} {tp lb wo : Nat → Int32}
set_option maxHeartbeats 2000000 in
theorem c_v_isMoreBelow (n : Nat) (hn : n < 2144) : jM l y_v_isMoreBelow b_v_isMoreBelow 4 (some .boolean) (rmD 1) D (tyD ca) X [.ref (g 3), .int (pw (n + 1))] (wd g ca len ps sp ng fm df dt wg ex hg mo tp lb wo) (jPi fun r w => r = (if mo ≠ 0 ∨ wnum wo % 2 ^ n ≠ 0 then 1 else 0) ∧ w = wd g ca len ps sp ng fm df dt wg ex hg mo tp lb wo) := by
  refine jM.of [some (.ref (g 3)), some (.int (pw (n + 1))), none, none] (by simp [jle, jent, Value.category]) rfl (Nat.le_of_ble_eq_true rfl) ?_
  intro p e s m args below meth c sz hC
  have hlow := wnum_low wo hn
  have loop : ∀ k i, i + k = 67 → mo = 0 → ¬ un (wo (66 - n / 32)) % 2 ^ (n % 32) ≠ 0 → 67 - n / 32 ≤ i → (∀ j, 67 - n / 32 ≤ j → j < i → wo j = 0) → J p l e (rmD 1) s m args below meth c D (va_A (wd g ca len ps sp ng fm df dt wg ex hg mo tp lb wo) sz) 4 (MQ below (jQ D (wd g ca len ps sp ng fm df dt wg ex hg mo tp lb wo) sz (jPi fun r w => r = (if mo ≠ 0 ∨ wnum wo % 2 ^ n ≠ 0 then 1 else 0) ∧ w = wd g ca len ps sp ng fm df dt wg ex hg mo tp lb wo)) args s 0 0 (va_A (wd g ca len ps sp ng fm df dt wg ex hg mo tp lb wo) sz)) 36 [some (.ref (g 3)), some (.int (pw (n + 1))), some (.int (nI (66 - n / 32))), some (.int (nI i))] [] (wd g ca len ps sp ng fm df dt wg ex hg mo tp lb wo) := by
    intro k
    induction k with
    | zero =>
      intro i hi hm hu hge hz
      refine j_iloadn3 (pc := 36) hC d_v_isMoreBelow_36 ?_
      refine j_bipush (pc := 37) (v := 67) hC d_v_isMoreBelow_37 (by decide) ?_
      refine j_icmp_ge (pc := 39) hC 59 d_v_isMoreBelow_39 (by decide) (fun h1 => ?_) (fun h1 => ?_)
      · refine j_iconst (pc := 59) (v := 0) hC d_v_isMoreBelow_59 (by decide) ?_
        refine j_zret hC rfl d_v_isMoreBelow_60 ⟨0, rfl, ?_, rfl⟩
        rw [if_neg]
        rintro (q | q)
        · exact q hm
        · rcases hlow.mp q with q | ⟨j, q1, q2, q3⟩
          · exact hu q
          · exact q3 (hz j q1 (by omega))
      · have h1 : ¬ nI 67 ≤ nI i := h1
        rw [nI_leI (by omega) (by omega)] at h1
        omega
    | succ k ih =>
      intro i hi hm hu hge hz
      refine j_iloadn3 (pc := 36) hC d_v_isMoreBelow_36 ?_
      refine j_bipush (pc := 37) (v := 67) hC d_v_isMoreBelow_37 (by decide) ?_
      refine j_icmp_ge (pc := 39) hC 59 d_v_isMoreBelow_39 (by decide) (fun h1 => ?_) (fun h1 => ?_)
      · have h1 : nI 67 ≤ nI i := h1
        rw [nI_leI (by omega) (by omega)] at h1
        omega
      · refine j_aloadn0 (pc := 42) hC d_v_isMoreBelow_42 ?_
        refine jg_V_13 (pc := 43) hC d_v_isMoreBelow_43 ?_
        refine j_iloadn3 (pc := 46) hC d_v_isMoreBelow_46 ?_
        refine ja_words_iaload (pc := 47) hC (vp_in_nI (by omega) (by decide)) d_v_isMoreBelow_47 ?_
        rw [nI_clamp (show i < 2 ^ 31 by omega)]
        refine j_if_eq (pc := 48) hC 53 d_v_isMoreBelow_48 (by decide) (fun h2 => ?_) (fun h2 => ?_)
        · refine j_iinc3 (pc := 53) hC d_v_isMoreBelow_53 (by decide) (by first | exact trivial | exact rfl) ?_
          refine j_goto (pc := 56) hC 36 d_v_isMoreBelow_56 (by decide) ?_
          refine J.to rfl ?_ rfl rfl (ih (i + 1) (by omega) hm hu (by omega) (fun j q1 q2 => ?_))
          · rw [← nI_1]
            rfl
          · rcases Nat.lt_or_eq_of_le (Nat.le_of_lt_succ q2) with q | q
            · exact hz j q1 q
            · rw [q]; exact h2
        · refine j_iconst (pc := 51) (v := 1) hC d_v_isMoreBelow_51 (by decide) ?_
          refine j_zret hC rfl d_v_isMoreBelow_52 ⟨1, rfl, ?_, rfl⟩
          rw [if_pos (Or.inr (hlow.mpr (Or.inr ⟨i, hge, by omega, h2⟩)))]
  refine j_iloadn1 (pc := 0) hC d_v_isMoreBelow_0 ?_
  refine j_S1i (pc := 1) hC cw_V_36 (rmD_in (by decide)) (Nat.le_of_ble_eq_true rfl) d_v_isMoreBelow_1 (c_v_wordOf n hn) (fun r w2 h1 => ?_)
  obtain ⟨rfl, rfl⟩ := h1
  refine j_istoren2 (pc := 4) hC d_v_isMoreBelow_4 (by decide) (by first | exact trivial | exact rfl) ?_
  refine j_aloadn0 (pc := 5) hC d_v_isMoreBelow_5 ?_
  refine jg_V_20 (pc := 6) hC d_v_isMoreBelow_6 ?_
  refine j_if_ne (pc := 9) hC 30 d_v_isMoreBelow_9 (by decide) (fun h2 => ?_) (fun h2 => ?_)
  · refine j_iconst (pc := 30) (v := 1) hC d_v_isMoreBelow_30 (by decide) ?_
    exact j_zret hC rfl d_v_isMoreBelow_31 ⟨1, rfl, by rw [if_pos (Or.inl h2)], rfl⟩
  · refine j_aloadn0 (pc := 12) hC d_v_isMoreBelow_12 ?_
    refine jg_V_13 (pc := 13) hC d_v_isMoreBelow_13 ?_
    refine j_iloadn2 (pc := 16) hC d_v_isMoreBelow_16 ?_
    refine ja_words_iaload (pc := 17) hC (vp_in_nI (by omega) (by decide)) d_v_isMoreBelow_17 ?_
    refine j_iconst (pc := 18) (v := 1) hC d_v_isMoreBelow_18 (by decide) ?_
    refine j_iloadn1 (pc := 19) hC d_v_isMoreBelow_19 ?_
    refine j_S1i (pc := 20) hC cw_V_40 (rmD_in (by decide)) (Nat.le_of_ble_eq_true rfl) d_v_isMoreBelow_20 (c_v_shiftOf n hn) (fun r w2 h3 => ?_)
    obtain ⟨rfl, rfl⟩ := h3
    rw [nI_clamp (show 66 - n / 32 < 2 ^ 31 by omega)]
    refine j_ishl (pc := 23) hC d_v_isMoreBelow_23 ?_
    refine j_iconst (pc := 24) (v := 1) hC d_v_isMoreBelow_24 (by decide) ?_
    refine j_isub (pc := 25) hC d_v_isMoreBelow_25 ?_
    refine j_iand (pc := 26) hC d_v_isMoreBelow_26 ?_
    refine J.topi (mask_at _ (Nat.mod_lt _ (by omega))) ?_
    have hsm : un (wo (66 - n / 32)) % 2 ^ (n % 32) < 2 ^ 31 := by
      have h5 : n % 32 < 32 := Nat.mod_lt _ (by omega)
      have h6 : 2 ^ (n % 32) ≤ 2 ^ 31 := Nat.pow_le_pow_right (by omega) (by omega)
      have h7 := Nat.mod_lt (un (wo (66 - n / 32))) (Nat.two_pow_pos (n % 32))
      omega
    refine j_if_eq (pc := 27) hC 32 d_v_isMoreBelow_27 (by decide) (fun h4 => ?_) (fun h4 => ?_)
    · have h4 : nI (un (wo (66 - n / 32)) % 2 ^ (n % 32)) = nI 0 := h4
      rw [nI_eq hsm (by omega)] at h4
      refine j_iloadn2 (pc := 32) hC d_v_isMoreBelow_32 ?_
      refine j_iconst (pc := 33) (v := 1) hC d_v_isMoreBelow_33 (by decide) ?_
      refine j_iadd (pc := 34) hC d_v_isMoreBelow_34 ?_
      refine j_istoren3 (pc := 35) hC d_v_isMoreBelow_35 (by decide) (by first | exact trivial | exact rfl) ?_
      refine J.to rfl ?_ rfl rfl (loop (n / 32) (67 - n / 32) (by omega) h2 (fun q => q h4) (Nat.le_refl _) (fun j q1 q2 => by omega))
      rw [show 67 - n / 32 = 66 - n / 32 + 1 by omega, ← nI_1]
    · have h4 : ¬ un (wo (66 - n / 32)) % 2 ^ (n % 32) = 0 := fun q => h4 (by rw [q]; rfl)
      refine j_iconst (pc := 30) (v := 1) hC d_v_isMoreBelow_30 (by decide) ?_
      exact j_zret hC rfl d_v_isMoreBelow_31 ⟨1, rfl, by rw [if_pos (Or.inr (hlow.mpr (Or.inl h4)))], rfl⟩
end VR
end
section
section VRK
variable {l : Launch} {D : va_G} {X : jX} {g : Nat → Nat} {ca : Nat → ClassId} {len ps sp ng fm df dt wg ex hg mo : Int32} {tp lb wo : Nat → Int32}
theorem kG_inf_d : kG 52 14 9218868437227405312 = 2 ^ 2112 := by
  have h := kG_c (p := 52) (u := 14) (U := 2060) (c := 2 ^ 52) (by omega) (Nat.pow_le_pow_right (by omega) (by omega)) (Or.inr (Nat.le_refl _))
  rw [show (2060 - 14) * 2 ^ 52 + 2 ^ 52 = 9218868437227405312 by decide, ← Nat.pow_add] at h
  exact h
/-- what 'rounded' answers -/
def rdS_d (hg mo : Int32) (w s : Nat) : Prop := s ≤ 9218868437227405312 ∧ (hg ≠ 0 → s = 9218868437227405312) ∧ (hg = 0 → ∀ N M, 0 < M → kA w (decide (mo ≠ 0)) N M → kR 52 14 9218868437227405312 N M s)
set_option maxHeartbeats 4000000 in
set_option maxRecDepth 100000 in
theorem c_v_rounded_d : jM l y_v_rounded b_v_rounded 7 (some .long) (rmD 3) D (tyD ca) X [.ref (g 3), .ref (g 1)] (wd g ca len ps sp ng fm df dt wg ex hg mo tp lb wo) (jPl fun r w => ∃ s, rdS_d hg mo (wnum wo) s ∧ r = lN s ∧ w = wd g ca len ps sp ng fm df dt wg ex hg mo tp lb wo) := by
  refine jM.of [some (.ref (g 3)), some (.ref (g 1)), none, none, none, none, none] (by simp [jle, jent, Value.category]) rfl (Nat.le_of_ble_eq_true rfl) ?_
  intro p e s m args below meth c sz hC
  refine j_aloadn0 (pc := 0) hC d_v_rounded_0 ?_
  refine j_V0i (pc := 1) (q0 := 3) (ci := 2) hC cw_V_57 (rmD_in (by decide)) (Nat.le_of_ble_eq_true rfl) rfl rfl d_v_rounded_1 (c_v_topPower) (fun r w2 h1 => ?_)
  obtain ⟨tn, htn, hnb, rfl, rfl⟩ := h1
  obtain ⟨U, hU⟩ : ∃ U, U = max (tn - 53) 14 := ⟨_, rfl⟩
  have hlast : (if pw tn - 53 + 1 < -1074 then (-1074 : Int32) else pw tn - 53 + 1) = pw (U + 1) := by
    have e0 := pw_toInt (n := tn) (by omega)
    have e1 : (pw tn - 53).toInt = (tn : Int) - 1089 - 53 := by
      rw [tsub (by rw [e0, show (53 : Int32).toInt = 53 from rfl]; omega) (by rw [e0, show (53 : Int32).toInt = 53 from rfl]; omega), e0]
      rfl
    have e2 : (pw tn - 53 + 1).toInt = (tn : Int) - 1088 - 53 := by
      rw [tadd (by rw [e1, show (1 : Int32).toInt = 1 from rfl]; omega) (by rw [e1, show (1 : Int32).toInt = 1 from rfl]; omega), e1, show (1 : Int32).toInt = 1 from rfl]
      omega
    have e3 : ((-1074 : Int32)).toInt = -1074 := rfl
    by_cases hc : pw tn - 53 + 1 < -1074
    · rw [if_pos hc]
      rw [i32lt, e2, e3] at hc
      exact pw_inj (by omega) (by rw [e3]; omega)
    · rw [if_neg hc]
      rw [i32lt, e2, e3] at hc
      exact pw_inj (by omega) (by rw [e2]; omega)
  refine j_istoren2 (pc := 4) hC d_v_rounded_4 (by decide) (by first | exact trivial | exact rfl) ?_
  refine j_iloadn2 (pc := 5) hC d_v_rounded_5 ?_
  refine j_aloadn1 (pc := 6) hC d_v_rounded_6 ?_
  refine jg_V_60d (pc := 7) hC d_v_rounded_7 ?_
  refine j_isub (pc := 10) hC d_v_rounded_10 ?_
  refine j_iconst (pc := 11) (v := 1) hC d_v_rounded_11 (by decide) ?_
  refine j_iadd (pc := 12) hC d_v_rounded_12 ?_
  refine j_aloadn1 (pc := 13) hC d_v_rounded_13 ?_
  refine jg_V_66d (pc := 14) hC d_v_rounded_14 ?_
  refine j_mmax (pc := 17) hC mx_V d_v_rounded_17 ⟨Nat.le_of_ble_eq_true rfl, Nat.le_of_ble_eq_true rfl⟩ ?_
  refine J.topi hlast ?_
  have hUle : U ≤ 2144 := by omega
  have kinf : ∀ (s0 : Int64), rdS_d hg mo (wnum wo) 9218868437227405312 → J p l e (rmD 3) s m args below meth c D (va_A (wd g ca len ps sp ng fm df dt wg ex hg mo tp lb wo) sz) 7 (MQ below (jQ D (wd g ca len ps sp ng fm df dt wg ex hg mo tp lb wo) sz (jPl fun r w => ∃ s, rdS_d hg mo (wnum wo) s ∧ r = lN s ∧ w = wd g ca len ps sp ng fm df dt wg ex hg mo tp lb wo)) args s 0 0 (va_A (wd g ca len ps sp ng fm df dt wg ex hg mo tp lb wo) sz)) 36 [some (.ref (g 3)), some (.ref (g 1)), some (.int (pw tn)), some (.int (pw (U + 1))), none, none, none] [] (wd g ca len ps sp ng fm df dt wg ex hg mo tp lb wo) := by
    intro _ hs
    refine j_aloadn1 (pc := 36) hC d_v_rounded_36 ?_
    refine jg_V_78d (pc := 37) hC d_v_rounded_37 ?_
    exact j_lret hC d_v_rounded_40 ⟨_, rfl, 9218868437227405312, hs, rfl, rfl⟩
  refine j_istoren3 (pc := 20) hC d_v_rounded_20 (by decide) (by first | exact trivial | exact rfl) ?_
  refine j_aloadn0 (pc := 21) hC d_v_rounded_21 ?_
  refine jg_V_16 (pc := 22) hC d_v_rounded_22 ?_
  refine j_if_ne (pc := 25) hC 36 d_v_rounded_25 (by decide) (fun h2 => ?_) (fun h2 => ?_)
  · exact kinf 0 ⟨Nat.le_refl _, fun _ => rfl, fun q => absurd q h2⟩
  · refine j_iloadn3 (pc := 28) hC d_v_rounded_28 ?_
    refine j_aloadn1 (pc := 29) hC d_v_rounded_29 ?_
    refine jg_V_75d (pc := 30) hC d_v_rounded_30 ?_
    refine j_icmp_le (pc := 33) hC 41 d_v_rounded_33 (by decide) (fun h3 => ?_) (fun h3 => ?_)
    · have hUg : U < 2060 := by
        rw [i32le, pw_toInt (by omega), show (971 : Int32).toInt = 971 from rfl] at h3
        omega
      have hcb : ∀ k, U ≤ k → wnum wo / 2 ^ k < 2 ^ 53 := fun k hk => by
        rw [Nat.div_lt_iff_lt_mul (Nat.two_pow_pos k), ← Nat.pow_add]
        exact Nat.lt_of_lt_of_le hnb.1 (Nat.pow_le_pow_right (by omega) (by omega))
      -- the end: c rounded
      have k113 : ∀ (cv : Nat) (o : Option Value), cv ≤ 2 ^ 53 → rdS_d hg mo (wnum wo) ((U - 14) * 2 ^ 52 + cv) → J p l e (rmD 3) s m args below meth c D (va_A (wd g ca len ps sp ng fm df dt wg ex hg mo tp lb wo) sz) 7 (MQ below (jQ D (wd g ca len ps sp ng fm df dt wg ex hg mo tp lb wo) sz (jPl fun r w => ∃ s, rdS_d hg mo (wnum wo) s ∧ r = lN s ∧ w = wd g ca len ps sp ng fm df dt wg ex hg mo tp lb wo)) args s 0 0 (va_A (wd g ca len ps sp ng fm df dt wg ex hg mo tp lb wo) sz)) 113 [some (.ref (g 3)), some (.ref (g 1)), some (.int (pw tn)), some (.int (pw (U + 1))), some (.long (lN cv)), none, o] [] (wd g ca len ps sp ng fm df dt wg ex hg mo tp lb wo) := by
        intro cv o hcv hs
        have e1 : pw (U + 1) - -1074 = nI (U - 14) := nI_to (by omega) (by
          have e0 := pw_toInt (n := U + 1) (by omega)
          rw [tsub (by rw [e0, show (-1074 : Int32).toInt = -1074 from rfl]; omega) (by rw [e0, show (-1074 : Int32).toInt = -1074 from rfl]; omega), e0, show (-1074 : Int32).toInt = -1074 from rfl]
          omega)
        refine j_iloadn3 (pc := 113) hC d_v_rounded_113 ?_
        refine j_aloadn1 (pc := 114) hC d_v_rounded_114 ?_
        refine jg_V_66d (pc := 115) hC d_v_rounded_115 ?_
        refine j_isub (pc := 118) hC d_v_rounded_118 ?_
        refine J.topi e1 ?_
        refine j_i2l (pc := 119) hC d_v_rounded_119 ?_
        refine J.topl (nI_l (by omega)) ?_
        refine j_aloadn1 (pc := 120) hC d_v_rounded_120 ?_
        refine jg_V_91d (pc := 121) hC d_v_rounded_121 ?_
        refine j_lmul (pc := 124) hC d_v_rounded_124 ?_
        refine j_lload4 (pc := 125) hC d_v_rounded_125 ?_
        refine j_ladd (pc := 127) hC d_v_rounded_127 ?_
        refine j_lret hC d_v_rounded_128 ⟨_, rfl, _, hs, ?_, rfl⟩
        rw [show (4503599627370496 : Int64) = lN (2 ^ 52) from by decide, lN_mul, lN_add]
      have k75 : ∀ (o : Option Value), J p l e (rmD 3) s m args below meth c D (va_A (wd g ca len ps sp ng fm df dt wg ex hg mo tp lb wo) sz) 7 (MQ below (jQ D (wd g ca len ps sp ng fm df dt wg ex hg mo tp lb wo) sz (jPl fun r w => ∃ s, rdS_d hg mo (wnum wo) s ∧ r = lN s ∧ w = wd g ca len ps sp ng fm df dt wg ex hg mo tp lb wo)) args s 0 0 (va_A (wd g ca len ps sp ng fm df dt wg ex hg mo tp lb wo) sz)) 75 [some (.ref (g 3)), some (.ref (g 1)), some (.int (pw tn)), some (.int (pw (U + 1))), some (.long (lN (wnum wo / 2 ^ U))), none, o] [] (wd g ca len ps sp ng fm df dt wg ex hg mo tp lb wo) := by
        intro o
        have hc53 := hcb U (Nat.le_refl U)
        obtain ⟨V, rfl⟩ : ∃ V, U = V + 1 := ⟨U - 1, by omega⟩
        have hle : (V + 1 - 14) * 2 ^ 52 + 2 ^ 53 ≤ 9218868437227405312 := by
          have h8 : (V + 1 - 14) * 2 ^ 52 ≤ (2060 - 1 - 14) * 2 ^ 52 := Nat.mul_le_mul_right _ (by omega)
          have h9 : (2060 - 1 - 14) * 2 ^ 52 + 2 ^ 53 = 9218868437227405312 := by decide
          exact Nat.le_trans (Nat.add_le_add_right h8 _) (Nat.le_of_eq h9)
        have hbits : hg = 0 → ∀ N M, 0 < M → kA (wnum wo) (decide (mo ≠ 0)) N M → kR 52 14 9218868437227405312 N M (if wnum wo / 2 ^ V % 2 = 1 ∧ (wnum wo / 2 ^ (V + 1) % 2 = 1 ∨ wnum wo % 2 ^ V ≠ 0 ∨ decide (mo ≠ 0) = true) then (V + 1 - 14) * 2 ^ 52 + wnum wo / 2 ^ (V + 1) + 1 else (V + 1 - 14) * 2 ^ 52 + wnum wo / 2 ^ (V + 1)) := by
          intro _ N M hM hA
          refine kR_bits (p := 52) (u := 14) (U := V + 1) (by omega) (by omega) hA rfl hc53 ?_ ?_ (by omega)
          · by_cases hq : V + 1 = 14
            · exact Or.inl hq
            · right
              have hV : V + 1 = tn - 53 := by omega
              have h7 := hnb.2 (by omega)
              rw [Nat.le_div_iff_mul_le (Nat.two_pow_pos _), ← Nat.pow_add]
              exact Nat.le_trans (Nat.pow_le_pow_right (by omega) (by omega)) h7
          · exact Nat.lt_of_lt_of_le (Nat.add_lt_add_left hc53 _) hle
        have kdown : ¬ (wnum wo / 2 ^ V % 2 = 1 ∧ (wnum wo / 2 ^ (V + 1) % 2 = 1 ∨ wnum wo % 2 ^ V ≠ 0 ∨ decide (mo ≠ 0) = true)) → rdS_d hg mo (wnum wo) ((V + 1 - 14) * 2 ^ 52 + wnum wo / 2 ^ (V + 1)) := fun hn => by
          refine ⟨Nat.le_of_lt (Nat.lt_of_lt_of_le (Nat.add_lt_add_left hc53 _) hle), fun q => absurd h2 q, fun q N M hM hA => ?_⟩
          have := hbits q N M hM hA
          rw [if_neg hn] at this
          exact this
        have kup : (wnum wo / 2 ^ V % 2 = 1 ∧ (wnum wo / 2 ^ (V + 1) % 2 = 1 ∨ wnum wo % 2 ^ V ≠ 0 ∨ decide (mo ≠ 0) = true)) → rdS_d hg mo (wnum wo) ((V + 1 - 14) * 2 ^ 52 + (wnum wo / 2 ^ (V + 1) + 1)) := fun hn => by
          refine ⟨Nat.le_trans (Nat.add_le_add_left hc53 _) hle, fun q => absurd h2 q, fun q N M hM hA => ?_⟩
          have := hbits q N M hM hA
          rw [if_pos hn, Nat.add_assoc] at this
          exact this
        have k107 : (wnum wo / 2 ^ V % 2 = 1 ∧ (wnum wo / 2 ^ (V + 1) % 2 = 1 ∨ wnum wo % 2 ^ V ≠ 0 ∨ decide (mo ≠ 0) = true)) → J p l e (rmD 3) s m args below meth c D (va_A (wd g ca len ps sp ng fm df dt wg ex hg mo tp lb wo) sz) 7 (MQ below (jQ D (wd g ca len ps sp ng fm df dt wg ex hg mo tp lb wo) sz (jPl fun r w => ∃ s, rdS_d hg mo (wnum wo) s ∧ r = lN s ∧ w = wd g ca len ps sp ng fm df dt wg ex hg mo tp lb wo)) args s 0 0 (va_A (wd g ca len ps sp ng fm df dt wg ex hg mo tp lb wo) sz)) 107 [some (.ref (g 3)), some (.ref (g 1)), some (.int (pw tn)), some (.int (pw (V + 1 + 1))), some (.long (lN (wnum wo / 2 ^ (V + 1)))), none, o] [] (wd g ca len ps sp ng fm df dt wg ex hg mo tp lb wo) := by
          intro hq
          refine j_lload4 (pc := 107) hC d_v_rounded_107 ?_
          refine j_lconst (pc := 109) (v := 1) hC d_v_rounded_109 (by decide) ?_
          refine j_ladd (pc := 110) hC d_v_rounded_110 ?_
          refine j_lstore4 (pc := 111) hC d_v_rounded_111 (by decide) (by first | exact trivial | exact rfl) ?_
          refine J.to rfl ?_ rfl rfl (k113 (wnum wo / 2 ^ (V + 1) + 1) o (by omega) (kup hq))
          rw [lN_1]
        refine j_aloadn0 (pc := 75) hC d_v_rounded_75 ?_
        refine j_iloadn3 (pc := 76) hC d_v_rounded_76 ?_
        refine j_iconst (pc := 77) (v := 1) hC d_v_rounded_77 (by decide) ?_
        refine j_isub (pc := 78) hC d_v_rounded_78 ?_
        refine J.topi (pw_m1 (by omega)) ?_
        refine j_V1i (pc := 79) (q0 := 3) (ci := 2) hC cw_V_84 (rmD_in (by decide)) (Nat.le_of_ble_eq_true rfl) rfl rfl d_v_rounded_79 (c_v_bitAt V (by omega)) (fun r w2 h5 => ?_)
        obtain ⟨rfl, rfl⟩ := h5
        refine j_iconst (pc := 82) (v := 1) hC d_v_rounded_82 (by decide) ?_
        refine j_icmp_ne (pc := 83) hC 113 d_v_rounded_83 (by decide) (fun h6 => ?_) (fun h6 => ?_)
        · have h6 : ¬ wnum wo / 2 ^ V % 2 = 1 := fun q => h6 (by rw [q]; rfl)
          exact k113 _ o (by omega) (kdown (fun q => h6 q.1))
        · have h6 : wnum wo / 2 ^ V % 2 = 1 := by
            have h7 : nI (wnum wo / 2 ^ V % 2) = nI 1 := h6
            rw [nI_eq (by omega) (by omega)] at h7
            exact h7
          refine j_lload4 (pc := 86) hC d_v_rounded_86 ?_
          refine j_ldc2 (pc := 88) (v := 2) hC mk_V_82 d_v_rounded_88 ?_
          refine j_lrem (pc := 91) hC d_v_rounded_91 (by decide) ?_
          have hc63 : wnum wo / 2 ^ (V + 1) < 2 ^ 63 := Nat.lt_of_lt_of_le hc53 (Nat.pow_le_pow_right (by omega) (by omega))
          refine J.topl (y := lN (wnum wo / 2 ^ (V + 1) % 2)) (by rw [show (2 : Int64) = lN 2 from rfl, pk_lRem hc63 (by omega) (by omega)]) ?_
          refine j_lconst (pc := 92) (v := 1) hC d_v_rounded_92 (by decide) ?_
          refine j_lcmp (pc := 93) hC d_v_rounded_93 ?_
          refine j_if_eq (pc := 94) hC 107 d_v_rounded_94 (by decide) (fun h7 => ?_) (fun h7 => ?_)
          · have h7 : wnum wo / 2 ^ (V + 1) % 2 = 1 := by
              have h8 := (lg_cmp_eq _ _).mp h7
              have h9 : lN (wnum wo / 2 ^ (V + 1) % 2) = lN 1 := h8
              rw [pk_lEQ (by omega) (by omega)] at h9
              exact h9
            exact k107 ⟨h6, Or.inl h7⟩
          · have h7 : ¬ wnum wo / 2 ^ (V + 1) % 2 = 1 := fun q => h7 ((lg_cmp_eq _ _).mpr (by rw [q]; rfl))
            refine j_aloadn0 (pc := 97) hC d_v_rounded_97 ?_
            refine j_iloadn3 (pc := 98) hC d_v_rounded_98 ?_
            refine j_iconst (pc := 99) (v := 1) hC d_v_rounded_99 (by decide) ?_
            refine j_isub (pc := 100) hC d_v_rounded_100 ?_
            refine J.topi (pw_m1 (by omega)) ?_
            refine j_V1i (pc := 101) (q0 := 3) (ci := 2) hC cw_V_87 (rmD_in (by decide)) (Nat.le_of_ble_eq_true rfl) rfl rfl d_v_rounded_101 (c_v_isMoreBelow V (by omega)) (fun r w2 h8 => ?_)
            obtain ⟨rfl, rfl⟩ := h8
            by_cases hm : mo ≠ 0 ∨ wnum wo % 2 ^ V ≠ 0
            · rw [if_pos hm]
              refine j_if_eq (pc := 104) hC 113 d_v_rounded_104 (by decide) (fun h9 => ?_) (fun h9 => ?_)
              · exact absurd h9 (by decide)
              · exact k107 ⟨h6, Or.inr (hm.elim (fun q => Or.inr (decide_eq_true q)) Or.inl)⟩
            · rw [if_neg hm]
              refine j_if_eq (pc := 104) hC 113 d_v_rounded_104 (by decide) (fun h9 => ?_) (fun h9 => ?_)
              · refine k113 _ o (by omega) (kdown ?_)
                rintro ⟨-, q | q | q⟩
                · exact h7 q
                · exact hm (Or.inr q)
                · exact hm (Or.inl (of_decide_eq_true q))
              · exact absurd rfl h9
      have loop : ∀ k, U + k ≤ 2144 → J p l e (rmD 3) s m args below meth c D (va_A (wd g ca len ps sp ng fm df dt wg ex hg mo tp lb wo) sz) 7 (MQ below (jQ D (wd g ca len ps sp ng fm df dt wg ex hg mo tp lb wo) sz (jPl fun r w => ∃ s, rdS_d hg mo (wnum wo) s ∧ r = lN s ∧ w = wd g ca len ps sp ng fm df dt wg ex hg mo tp lb wo)) args s 0 0 (va_A (wd g ca len ps sp ng fm df dt wg ex hg mo tp lb wo) sz)) 47 [some (.ref (g 3)), some (.ref (g 1)), some (.int (pw tn)), some (.int (pw (U + 1))), some (.long (lN (wnum wo / 2 ^ (U + k)))), none, some (.int (pw (U + k)))] [] (wd g ca len ps sp ng fm df dt wg ex hg mo tp lb wo) := by
        intro k
        induction k with
        | zero =>
          intro hk
          refine j_iload6 (pc := 47) hC d_v_rounded_47 ?_
          refine j_iloadn3 (pc := 49) hC d_v_rounded_49 ?_
          refine j_icmp_lt (pc := 50) hC 75 d_v_rounded_50 (by decide) (fun h4 => ?_) (fun h4 => ?_)
          · exact k75 _
          · rw [i32lt, pw_toInt (by omega), pw_toInt (by omega)] at h4
            omega
        | succ k ih =>
          intro hk
          refine j_iload6 (pc := 47) hC d_v_rounded_47 ?_
          refine j_iloadn3 (pc := 49) hC d_v_rounded_49 ?_
          refine j_icmp_lt (pc := 50) hC 75 d_v_rounded_50 (by decide) (fun h4 => ?_) (fun h4 => ?_)
          · rw [i32lt, pw_toInt (by omega), pw_toInt (by omega)] at h4
            omega
          · refine j_ldc2 (pc := 53) (v := 2) hC mk_V_82 d_v_rounded_53 ?_
            refine j_lload4 (pc := 56) hC d_v_rounded_56 ?_
            refine j_lmul (pc := 58) hC d_v_rounded_58 ?_
            refine j_aloadn0 (pc := 59) hC d_v_rounded_59 ?_
            refine j_iload6 (pc := 60) hC d_v_rounded_60 ?_
            refine j_V1i (pc := 62) (q0 := 3) (ci := 2) hC cw_V_84 (rmD_in (by decide)) (Nat.le_of_ble_eq_true rfl) rfl rfl d_v_rounded_62 (c_v_bitAt (U + k) (by omega)) (fun r w2 h5 => ?_)
            obtain ⟨rfl, rfl⟩ := h5
            refine j_i2l (pc := 65) hC d_v_rounded_65 ?_
            refine j_ladd (pc := 66) hC d_v_rounded_66 ?_
            refine j_lstore4 (pc := 67) hC d_v_rounded_67 (by decide) (by first | exact trivial | exact rfl) ?_
            refine j_iinc6 (pc := 69) hC d_v_rounded_69 (by decide) (by first | exact trivial | exact rfl) ?_
            refine j_goto (pc := 72) hC 47 d_v_rounded_72 (by decide) ?_
            refine J.to rfl ?_ rfl rfl (ih (by omega))
            have e1 : 2 * (wnum wo / 2 ^ (U + (k + 1))) + wnum wo / 2 ^ (U + k) % 2 = wnum wo / 2 ^ (U + k) := by
              rw [show U + (k + 1) = U + k + 1 by omega, Nat.pow_succ, ← Nat.div_div_eq_div_mul]
              exact Nat.div_add_mod _ 2
            rw [show (2 : Int64) = lN 2 from rfl, nI_l (by omega), lN_mul, lN_add, e1, show U + (k + 1) = U + k + 1 by omega, pw_dec (by omega)]
      refine j_lconst (pc := 41) (v := 0) hC d_v_rounded_41 (by decide) ?_
      refine j_lstore4 (pc := 42) hC d_v_rounded_42 (by decide) (by first | exact trivial | exact rfl) ?_
      refine j_iloadn2 (pc := 44) hC d_v_rounded_44 ?_
      refine j_istore6 (pc := 45) hC d_v_rounded_45 (by decide) (by first | exact trivial | exact rfl) ?_
      by_cases htU : tn ≤ U
      · have hc0 : wnum wo / 2 ^ U = 0 := Nat.div_eq_of_lt (Nat.lt_of_lt_of_le hnb.1 (Nat.pow_le_pow_right (by omega) htU))
        refine j_iload6 (pc := 47) hC d_v_rounded_47 ?_
        refine j_iloadn3 (pc := 49) hC d_v_rounded_49 ?_
        refine j_icmp_lt (pc := 50) hC 75 d_v_rounded_50 (by decide) (fun h4 => ?_) (fun h4 => ?_)
        · refine J.to rfl ?_ rfl rfl (k75 (some (.int (pw tn))))
          rw [hc0]
          rfl
        · rw [i32lt, pw_toInt (by omega), pw_toInt (by omega)] at h4
          omega
      · refine J.to rfl ?_ rfl rfl (loop (tn - U) (by omega))
        have hc0 : wnum wo / 2 ^ tn = 0 := Nat.div_eq_of_lt hnb.1
        rw [show U + (tn - U) = tn by omega, hc0]
        rfl
    · have hUg : 2060 ≤ U := by
        rw [i32le, pw_toInt (by omega), show (971 : Int32).toInt = 971 from rfl] at h3
        omega
      refine kinf 0 ⟨Nat.le_refl _, fun _ => rfl, fun q N M hM hA => kR_inf (by decide) hM ?_⟩
      rw [kG_inf_d]
      have h5 := hnb.2 (by omega)
      have h6 : 2 ^ 2112 ≤ wnum wo := Nat.le_trans (Nat.pow_le_pow_right (by omega) (by omega)) h5
      have h7 := (hA (2 ^ (2112 - 13))).1
      have e8 : 2 ^ (2112 - 13) * 8192 = 2 ^ 2112 := by rw [show (8192 : Nat) = 2 ^ 13 by decide, ← Nat.pow_add]
      rw [e8] at h7
      exact h7.mpr h6
end VRK
end
section
section VRK
variable {l : Launch} {D : va_G} {X : jX} {g : Nat → Nat} {ca : Nat → ClassId} {len ps sp ng fm df dt wg ex hg mo : Int32} {tp lb wo : Nat → Int32}
theorem kG_inf_f : kG 23 939 2139095040 = 2 ^ 1216 := by
  have h := kG_c (p := 23) (u := 939) (U := 1193) (c := 2 ^ 23) (by omega) (Nat.pow_le_pow_right (by omega) (by omega)) (Or.inr (Nat.le_refl _))
  rw [show (1193 - 939) * 2 ^ 23 + 2 ^ 23 = 2139095040 by decide, ← Nat.pow_add] at h
  exact h
/-- what 'rounded' answers -/
def rdS_f (hg mo : Int32) (w s : Nat) : Prop := s ≤ 2139095040 ∧ (hg ≠ 0 → s = 2139095040) ∧ (hg = 0 → ∀ N M, 0 < M → kA w (decide (mo ≠ 0)) N M → kR 23 939 2139095040 N M s)
set_option maxHeartbeats 4000000 in
set_option maxRecDepth 100000 in
theorem c_v_rounded_f : jM l y_v_rounded b_v_rounded 7 (some .long) (rmD 3) D (tyD ca) X [.ref (g 3), .ref (g 2)] (wd g ca len ps sp ng fm df dt wg ex hg mo tp lb wo) (jPl fun r w => ∃ s, rdS_f hg mo (wnum wo) s ∧ r = lN s ∧ w = wd g ca len ps sp ng fm df dt wg ex hg mo tp lb wo) := by
  refine jM.of [some (.ref (g 3)), some (.ref (g 2)), none, none, none, none, none] (by simp [jle, jent, Value.category]) rfl (Nat.le_of_ble_eq_true rfl) ?_
  intro p e s m args below meth c sz hC
  refine j_aloadn0 (pc := 0) hC d_v_rounded_0 ?_
  refine j_V0i (pc := 1) (q0 := 3) (ci := 2) hC cw_V_57 (rmD_in (by decide)) (Nat.le_of_ble_eq_true rfl) rfl rfl d_v_rounded_1 (c_v_topPower) (fun r w2 h1 => ?_)
  obtain ⟨tn, htn, hnb, rfl, rfl⟩ := h1
  obtain ⟨U, hU⟩ : ∃ U, U = max (tn - 24) 939 := ⟨_, rfl⟩
  have hlast : (if pw tn - 24 + 1 < -149 then (-149 : Int32) else pw tn - 24 + 1) = pw (U + 1) := by
    have e0 := pw_toInt (n := tn) (by omega)
    have e1 : (pw tn - 24).toInt = (tn : Int) - 1089 - 24 := by
      rw [tsub (by rw [e0, show (24 : Int32).toInt = 24 from rfl]; omega) (by rw [e0, show (24 : Int32).toInt = 24 from rfl]; omega), e0]
      rfl
    have e2 : (pw tn - 24 + 1).toInt = (tn : Int) - 1088 - 24 := by
      rw [tadd (by rw [e1, show (1 : Int32).toInt = 1 from rfl]; omega) (by rw [e1, show (1 : Int32).toInt = 1 from rfl]; omega), e1, show (1 : Int32).toInt = 1 from rfl]
      omega
    have e3 : ((-149 : Int32)).toInt = -149 := rfl
    by_cases hc : pw tn - 24 + 1 < -149
    · rw [if_pos hc]
      rw [i32lt, e2, e3] at hc
      exact pw_inj (by omega) (by rw [e3]; omega)
    · rw [if_neg hc]
      rw [i32lt, e2, e3] at hc
      exact pw_inj (by omega) (by rw [e2]; omega)
  refine j_istoren2 (pc := 4) hC d_v_rounded_4 (by decide) (by first | exact trivial | exact rfl) ?_
  refine j_iloadn2 (pc := 5) hC d_v_rounded_5 ?_
  refine j_aloadn1 (pc := 6) hC d_v_rounded_6 ?_
  refine jg_V_60f (pc := 7) hC d_v_rounded_7 ?_
  refine j_isub (pc := 10) hC d_v_rounded_10 ?_
  refine j_iconst (pc := 11) (v := 1) hC d_v_rounded_11 (by decide) ?_
  refine j_iadd (pc := 12) hC d_v_rounded_12 ?_
  refine j_aloadn1 (pc := 13) hC d_v_rounded_13 ?_
  refine jg_V_66f (pc := 14) hC d_v_rounded_14 ?_
  refine j_mmax (pc := 17) hC mx_V d_v_rounded_17 ⟨Nat.le_of_ble_eq_true rfl, Nat.le_of_ble_eq_true rfl⟩ ?_
  refine J.topi hlast ?_
  have hUle : U ≤ 2144 := by omega
  have kinf : ∀ (s0 : Int64), rdS_f hg mo (wnum wo) 2139095040 → J p l e (rmD 3) s m args below meth c D (va_A (wd g ca len ps sp ng fm df dt wg ex hg mo tp lb wo) sz) 7 (MQ below (jQ D (wd g ca len ps sp ng fm df dt wg ex hg mo tp lb wo) sz (jPl fun r w => ∃ s, rdS_f hg mo (wnum wo) s ∧ r = lN s ∧ w = wd g ca len ps sp ng fm df dt wg ex hg mo tp lb wo)) args s 0 0 (va_A (wd g ca len ps sp ng fm df dt wg ex hg mo tp lb wo) sz)) 36 [some (.ref (g 3)), some (.ref (g 2)), some (.int (pw tn)), some (.int (pw (U + 1))), none, none, none] [] (wd g ca len ps sp ng fm df dt wg ex hg mo tp lb wo) := by
    intro _ hs
    refine j_aloadn1 (pc := 36) hC d_v_rounded_36 ?_
    refine jg_V_78f (pc := 37) hC d_v_rounded_37 ?_
    exact j_lret hC d_v_rounded_40 ⟨_, rfl, 2139095040, hs, rfl, rfl⟩
  refine j_istoren3 (pc := 20) hC d_v_rounded_20 (by decide) (by first | exact trivial | exact rfl) ?_
  refine j_aloadn0 (pc := 21) hC d_v_rounded_21 ?_
  refine jg_V_16 (pc := 22) hC d_v_rounded_22 ?_
  refine j_if_ne (pc := 25) hC 36 d_v_rounded_25 (by decide) (fun h2 => ?_) (fun h2 => ?_)
  · exact kinf 0 ⟨Nat.le_refl _, fun _ => rfl, fun q => absurd q h2⟩
  · refine j_iloadn3 (pc := 28) hC d_v_rounded_28 ?_
    refine j_aloadn1 (pc := 29) hC d_v_rounded_29 ?_
    refine jg_V_75f (pc := 30) hC d_v_rounded_30 ?_
    refine j_icmp_le (pc := 33) hC 41 d_v_rounded_33 (by decide) (fun h3 => ?_) (fun h3 => ?_)
    · have hUg : U < 1193 := by
        rw [i32le, pw_toInt (by omega), show (104 : Int32).toInt = 104 from rfl] at h3
        omega
      have hcb : ∀ k, U ≤ k → wnum wo / 2 ^ k < 2 ^ 24 := fun k hk => by
        rw [Nat.div_lt_iff_lt_mul (Nat.two_pow_pos k), ← Nat.pow_add]
        exact Nat.lt_of_lt_of_le hnb.1 (Nat.pow_le_pow_right (by omega) (by omega))
      -- the end: c rounded
      have k113 : ∀ (cv : Nat) (o : Option Value), cv ≤ 2 ^ 24 → rdS_f hg mo (wnum wo) ((U - 939) * 2 ^ 23 + cv) → J p l e (rmD 3) s m args below meth c D (va_A (wd g ca len ps sp ng fm df dt wg ex hg mo tp lb wo) sz) 7 (MQ below (jQ D (wd g ca len ps sp ng fm df dt wg ex hg mo tp lb wo) sz (jPl fun r w => ∃ s, rdS_f hg mo (wnum wo) s ∧ r = lN s ∧ w = wd g ca len ps sp ng fm df dt wg ex hg mo tp lb wo)) args s 0 0 (va_A (wd g ca len ps sp ng fm df dt wg ex hg mo tp lb wo) sz)) 113 [some (.ref (g 3)), some (.ref (g 2)), some (.int (pw tn)), some (.int (pw (U + 1))), some (.long (lN cv)), none, o] [] (wd g ca len ps sp ng fm df dt wg ex hg mo tp lb wo) := by
        intro cv o hcv hs
        have e1 : pw (U + 1) - -149 = nI (U - 939) := nI_to (by omega) (by
          have e0 := pw_toInt (n := U + 1) (by omega)
          rw [tsub (by rw [e0, show (-149 : Int32).toInt = -149 from rfl]; omega) (by rw [e0, show (-149 : Int32).toInt = -149 from rfl]; omega), e0, show (-149 : Int32).toInt = -149 from rfl]
          omega)
        refine j_iloadn3 (pc := 113) hC d_v_rounded_113 ?_
        refine j_aloadn1 (pc := 114) hC d_v_rounded_114 ?_
        refine jg_V_66f (pc := 115) hC d_v_rounded_115 ?_
        refine j_isub (pc := 118) hC d_v_rounded_118 ?_
        refine J.topi e1 ?_
        refine j_i2l (pc := 119) hC d_v_rounded_119 ?_
        refine J.topl (nI_l (by omega)) ?_
        refine j_aloadn1 (pc := 120) hC d_v_rounded_120 ?_
        refine jg_V_91f (pc := 121) hC d_v_rounded_121 ?_
        refine j_lmul (pc := 124) hC d_v_rounded_124 ?_
        refine j_lload4 (pc := 125) hC d_v_rounded_125 ?_
        refine j_ladd (pc := 127) hC d_v_rounded_127 ?_
        refine j_lret hC d_v_rounded_128 ⟨_, rfl, _, hs, ?_, rfl⟩
        rw [show (8388608 : Int64) = lN (2 ^ 23) from by decide, lN_mul, lN_add]
      have k75 : ∀ (o : Option Value), J p l e (rmD 3) s m args below meth c D (va_A (wd g ca len ps sp ng fm df dt wg ex hg mo tp lb wo) sz) 7 (MQ below (jQ D (wd g ca len ps sp ng fm df dt wg ex hg mo tp lb wo) sz (jPl fun r w => ∃ s, rdS_f hg mo (wnum wo) s ∧ r = lN s ∧ w = wd g ca len ps sp ng fm df dt wg ex hg mo tp lb wo)) args s 0 0 (va_A (wd g ca len ps sp ng fm df dt wg ex hg mo tp lb wo) sz)) 75 [some (.ref (g 3)), some (.ref (g 2)), some (.int (pw tn)), some (.int (pw (U + 1))), some (.long (lN (wnum wo / 2 ^ U))), none, o] [] (wd g ca len ps sp ng fm df dt wg ex hg mo tp lb wo) := by
        intro o
        have hc53 := hcb U (Nat.le_refl U)
        obtain ⟨V, rfl⟩ : ∃ V, U = V + 1 := ⟨U - 1, by omega⟩
        have hle : (V + 1 - 939) * 2 ^ 23 + 2 ^ 24 ≤ 2139095040 := by
          have h8 : (V + 1 - 939) * 2 ^ 23 ≤ (1193 - 1 - 939) * 2 ^ 23 := Nat.mul_le_mul_right _ (by omega)
          have h9 : (1193 - 1 - 939) * 2 ^ 23 + 2 ^ 24 = 2139095040 := by decide
          exact Nat.le_trans (Nat.add_le_add_right h8 _) (Nat.le_of_eq h9)
        have hbits : hg = 0 → ∀ N M, 0 < M → kA (wnum wo) (decide (mo ≠ 0)) N M → kR 23 939 2139095040 N M (if wnum wo / 2 ^ V % 2 = 1 ∧ (wnum wo / 2 ^ (V + 1) % 2 = 1 ∨ wnum wo % 2 ^ V ≠ 0 ∨ decide (mo ≠ 0) = true) then (V + 1 - 939) * 2 ^ 23 + wnum wo / 2 ^ (V + 1) + 1 else (V + 1 - 939) * 2 ^ 23 + wnum wo / 2 ^ (V + 1)) := by
          intro _ N M hM hA
          refine kR_bits (p := 23) (u := 939) (U := V + 1) (by omega) (by omega) hA rfl hc53 ?_ ?_ (by omega)
          · by_cases hq : V + 1 = 939
            · exact Or.inl hq
            · right
              have hV : V + 1 = tn - 24 := by omega
              have h7 := hnb.2 (by omega)
              rw [Nat.le_div_iff_mul_le (Nat.two_pow_pos _), ← Nat.pow_add]
              exact Nat.le_trans (Nat.pow_le_pow_right (by omega) (by omega)) h7
          · exact Nat.lt_of_lt_of_le (Nat.add_lt_add_left hc53 _) hle
        have kdown : ¬ (wnum wo / 2 ^ V % 2 = 1 ∧ (wnum wo / 2 ^ (V + 1) % 2 = 1 ∨ wnum wo % 2 ^ V ≠ 0 ∨ decide (mo ≠ 0) = true)) → rdS_f hg mo (wnum wo) ((V + 1 - 939) * 2 ^ 23 + wnum wo / 2 ^ (V + 1)) := fun hn => by
          refine ⟨Nat.le_of_lt (Nat.lt_of_lt_of_le (Nat.add_lt_add_left hc53 _) hle), fun q => absurd h2 q, fun q N M hM hA => ?_⟩
          have := hbits q N M hM hA
          rw [if_neg hn] at this
          exact this
        have kup : (wnum wo / 2 ^ V % 2 = 1 ∧ (wnum wo / 2 ^ (V + 1) % 2 = 1 ∨ wnum wo % 2 ^ V ≠ 0 ∨ decide (mo ≠ 0) = true)) → rdS_f hg mo (wnum wo) ((V + 1 - 939) * 2 ^ 23 + (wnum wo / 2 ^ (V + 1) + 1)) := fun hn => by
          refine ⟨Nat.le_trans (Nat.add_le_add_left hc53 _) hle, fun q => absurd h2 q, fun q N M hM hA => ?_⟩
          have := hbits q N M hM hA
          rw [if_pos hn, Nat.add_assoc] at this
          exact this
        have k107 : (wnum wo / 2 ^ V % 2 = 1 ∧ (wnum wo / 2 ^ (V + 1) % 2 = 1 ∨ wnum wo % 2 ^ V ≠ 0 ∨ decide (mo ≠ 0) = true)) → J p l e (rmD 3) s m args below meth c D (va_A (wd g ca len ps sp ng fm df dt wg ex hg mo tp lb wo) sz) 7 (MQ below (jQ D (wd g ca len ps sp ng fm df dt wg ex hg mo tp lb wo) sz (jPl fun r w => ∃ s, rdS_f hg mo (wnum wo) s ∧ r = lN s ∧ w = wd g ca len ps sp ng fm df dt wg ex hg mo tp lb wo)) args s 0 0 (va_A (wd g ca len ps sp ng fm df dt wg ex hg mo tp lb wo) sz)) 107 [some (.ref (g 3)), some (.ref (g 2)), some (.int (pw tn)), some (.int (pw (V + 1 + 1))), some (.long (lN (wnum wo / 2 ^ (V + 1)))), none, o] [] (wd g ca len ps sp ng fm df dt wg ex hg mo tp lb wo) := by
          intro hq
          refine j_lload4 (pc := 107) hC d_v_rounded_107 ?_
          refine j_lconst (pc := 109) (v := 1) hC d_v_rounded_109 (by decide) ?_
          refine j_ladd (pc := 110) hC d_v_rounded_110 ?_
          refine j_lstore4 (pc := 111) hC d_v_rounded_111 (by decide) (by first | exact trivial | exact rfl) ?_
          refine J.to rfl ?_ rfl rfl (k113 (wnum wo / 2 ^ (V + 1) + 1) o (by omega) (kup hq))
          rw [lN_1]
        refine j_aloadn0 (pc := 75) hC d_v_rounded_75 ?_
        refine j_iloadn3 (pc := 76) hC d_v_rounded_76 ?_
        refine j_iconst (pc := 77) (v := 1) hC d_v_rounded_77 (by decide) ?_
        refine j_isub (pc := 78) hC d_v_rounded_78 ?_
        refine J.topi (pw_m1 (by omega)) ?_
        refine j_V1i (pc := 79) (q0 := 3) (ci := 2) hC cw_V_84 (rmD_in (by decide)) (Nat.le_of_ble_eq_true rfl) rfl rfl d_v_rounded_79 (c_v_bitAt V (by omega)) (fun r w2 h5 => ?_)
        obtain ⟨rfl, rfl⟩ := h5
        refine j_iconst (pc := 82) (v := 1) hC d_v_rounded_82 (by decide) ?_
        refine j_icmp_ne (pc := 83) hC 113 d_v_rounded_83 (by decide) (fun h6 => ?_) (fun h6 => ?_)
        · have h6 : ¬ wnum wo / 2 ^ V % 2 = 1 := fun q => h6 (by rw [q]; rfl)
          exact k113 _ o (by omega) (kdown (fun q => h6 q.1))
        · have h6 : wnum wo / 2 ^ V % 2 = 1 := by
            have h7 : nI (wnum wo / 2 ^ V % 2) = nI 1 := h6
            rw [nI_eq (by omega) (by omega)] at h7
            exact h7
          refine j_lload4 (pc := 86) hC d_v_rounded_86 ?_
          refine j_ldc2 (pc := 88) (v := 2) hC mk_V_82 d_v_rounded_88 ?_
          refine j_lrem (pc := 91) hC d_v_rounded_91 (by decide) ?_
          have hc63 : wnum wo / 2 ^ (V + 1) < 2 ^ 63 := Nat.lt_of_lt_of_le hc53 (Nat.pow_le_pow_right (by omega) (by omega))
          refine J.topl (y := lN (wnum wo / 2 ^ (V + 1) % 2)) (by rw [show (2 : Int64) = lN 2 from rfl, pk_lRem hc63 (by omega) (by omega)]) ?_
          refine j_lconst (pc := 92) (v := 1) hC d_v_rounded_92 (by decide) ?_
          refine j_lcmp (pc := 93) hC d_v_rounded_93 ?_
          refine j_if_eq (pc := 94) hC 107 d_v_rounded_94 (by decide) (fun h7 => ?_) (fun h7 => ?_)
          · have h7 : wnum wo / 2 ^ (V + 1) % 2 = 1 := by
              have h8 := (lg_cmp_eq _ _).mp h7
              have h9 : lN (wnum wo / 2 ^ (V + 1) % 2) = lN 1 := h8
              rw [pk_lEQ (by omega) (by omega)] at h9
              exact h9
            exact k107 ⟨h6, Or.inl h7⟩
          · have h7 : ¬ wnum wo / 2 ^ (V + 1) % 2 = 1 := fun q => h7 ((lg_cmp_eq _ _).mpr (by rw [q]; rfl))
            refine j_aloadn0 (pc := 97) hC d_v_rounded_97 ?_
            refine j_iloadn3 (pc := 98) hC d_v_rounded_98 ?_
            refine j_iconst (pc := 99) (v := 1) hC d_v_rounded_99 (by decide) ?_
            refine j_isub (pc := 100) hC d_v_rounded_100 ?_
            refine J.topi (pw_m1 (by omega)) ?_
            refine j_V1i (pc := 101) (q0 := 3) (ci := 2) hC cw_V_87 (rmD_in (by decide)) (Nat.le_of_ble_eq_true rfl) rfl rfl d_v_rounded_101 (c_v_isMoreBelow V (by omega)) (fun r w2 h8 => ?_)
            obtain ⟨rfl, rfl⟩ := h8
            by_cases hm : mo ≠ 0 ∨ wnum wo % 2 ^ V ≠ 0
            · rw [if_pos hm]
              refine j_if_eq (pc := 104) hC 113 d_v_rounded_104 (by decide) (fun h9 => ?_) (fun h9 => ?_)
              · exact absurd h9 (by decide)
              · exact k107 ⟨h6, Or.inr (hm.elim (fun q => Or.inr (decide_eq_true q)) Or.inl)⟩
            · rw [if_neg hm]
              refine j_if_eq (pc := 104) hC 113 d_v_rounded_104 (by decide) (fun h9 => ?_) (fun h9 => ?_)
              · refine k113 _ o (by omega) (kdown ?_)
                rintro ⟨-, q | q | q⟩
                · exact h7 q
                · exact hm (Or.inr q)
                · exact hm (Or.inl (of_decide_eq_true q))
              · exact absurd rfl h9
      have loop : ∀ k, U + k ≤ 2144 → J p l e (rmD 3) s m args below meth c D (va_A (wd g ca len ps sp ng fm df dt wg ex hg mo tp lb wo) sz) 7 (MQ below (jQ D (wd g ca len ps sp ng fm df dt wg ex hg mo tp lb wo) sz (jPl fun r w => ∃ s, rdS_f hg mo (wnum wo) s ∧ r = lN s ∧ w = wd g ca len ps sp ng fm df dt wg ex hg mo tp lb wo)) args s 0 0 (va_A (wd g ca len ps sp ng fm df dt wg ex hg mo tp lb wo) sz)) 47 [some (.ref (g 3)), some (.ref (g 2)), some (.int (pw tn)), some (.int (pw (U + 1))), some (.long (lN (wnum wo / 2 ^ (U + k)))), none, some (.int (pw (U + k)))] [] (wd g ca len ps sp ng fm df dt wg ex hg mo tp lb wo) := by
        intro k
        induction k with
        | zero =>
          intro hk
          refine j_iload6 (pc := 47) hC d_v_rounded_47 ?_
          refine j_iloadn3 (pc := 49) hC d_v_rounded_49 ?_
          refine j_icmp_lt (pc := 50) hC 75 d_v_rounded_50 (by decide) (fun h4 => ?_) (fun h4 => ?_)
          · exact k75 _
          · rw [i32lt, pw_toInt (by omega), pw_toInt (by omega)] at h4
            omega
        | succ k ih =>
          intro hk
          refine j_iload6 (pc := 47) hC d_v_rounded_47 ?_
          refine j_iloadn3 (pc := 49) hC d_v_rounded_49 ?_
          refine j_icmp_lt (pc := 50) hC 75 d_v_rounded_50 (by decide) (fun h4 => ?_) (fun h4 => ?_)
          · rw [i32lt, pw_toInt (by omega), pw_toInt (by omega)] at h4
            omega
          · refine j_ldc2 (pc := 53) (v := 2) hC mk_V_82 d_v_rounded_53 ?_
            refine j_lload4 (pc := 56) hC d_v_rounded_56 ?_
            refine j_lmul (pc := 58) hC d_v_rounded_58 ?_
            refine j_aloadn0 (pc := 59) hC d_v_rounded_59 ?_
            refine j_iload6 (pc := 60) hC d_v_rounded_60 ?_
            refine j_V1i (pc := 62) (q0 := 3) (ci := 2) hC cw_V_84 (rmD_in (by decide)) (Nat.le_of_ble_eq_true rfl) rfl rfl d_v_rounded_62 (c_v_bitAt (U + k) (by omega)) (fun r w2 h5 => ?_)
            obtain ⟨rfl, rfl⟩ := h5
            refine j_i2l (pc := 65) hC d_v_rounded_65 ?_
            refine j_ladd (pc := 66) hC d_v_rounded_66 ?_
            refine j_lstore4 (pc := 67) hC d_v_rounded_67 (by decide) (by first | exact trivial | exact rfl) ?_
            refine j_iinc6 (pc := 69) hC d_v_rounded_69 (by decide) (by first | exact trivial | exact rfl) ?_
            refine j_goto (pc := 72) hC 47 d_v_rounded_72 (by decide) ?_
            refine J.to rfl ?_ rfl rfl (ih (by omega))
            have e1 : 2 * (wnum wo / 2 ^ (U + (k + 1))) + wnum wo / 2 ^ (U + k) % 2 = wnum wo / 2 ^ (U + k) := by
              rw [show U + (k + 1) = U + k + 1 by omega, Nat.pow_succ, ← Nat.div_div_eq_div_mul]
              exact Nat.div_add_mod _ 2
            rw [show (2 : Int64) = lN 2 from rfl, nI_l (by omega), lN_mul, lN_add, e1, show U + (k + 1) = U + k + 1 by omega, pw_dec (by omega)]
      refine j_lconst (pc := 41) (v := 0) hC d_v_rounded_41 (by decide) ?_
      refine j_lstore4 (pc := 42) hC d_v_rounded_42 (by decide) (by first | exact trivial | exact rfl) ?_
      refine j_iloadn2 (pc := 44) hC d_v_rounded_44 ?_
      refine j_istore6 (pc := 45) hC d_v_rounded_45 (by decide) (by first | exact trivial | exact rfl) ?_
      by_cases htU : tn ≤ U
      · have hc0 : wnum wo / 2 ^ U = 0 := Nat.div_eq_of_lt (Nat.lt_of_lt_of_le hnb.1 (Nat.pow_le_pow_right (by omega) htU))
        refine j_iload6 (pc := 47) hC d_v_rounded_47 ?_
        refine j_iloadn3 (pc := 49) hC d_v_rounded_49 ?_
        refine j_icmp_lt (pc := 50) hC 75 d_v_rounded_50 (by decide) (fun h4 => ?_) (fun h4 => ?_)
        · refine J.to rfl ?_ rfl rfl (k75 (some (.int (pw tn))))
          rw [hc0]
          rfl
        · rw [i32lt, pw_toInt (by omega), pw_toInt (by omega)] at h4
          omega
      · refine J.to rfl ?_ rfl rfl (loop (tn - U) (by omega))
        have hc0 : wnum wo / 2 ^ tn = 0 := Nat.div_eq_of_lt hnb.1
        rw [show U + (tn - U) = tn by omega, hc0]
        rfl
    · have hUg : 1193 ≤ U := by
        rw [i32le, pw_toInt (by omega), show (104 : Int32).toInt = 104 from rfl] at h3
        omega
      refine kinf 0 ⟨Nat.le_refl _, fun _ => rfl, fun q N M hM hA => kR_inf (by decide) hM ?_⟩
      rw [kG_inf_f]
      have h5 := hnb.2 (by omega)
      have h6 : 2 ^ 1216 ≤ wnum wo := Nat.le_trans (Nat.pow_le_pow_right (by omega) (by omega)) h5
      have h7 := (hA (2 ^ (1216 - 13))).1
      have e8 : 2 ^ (1216 - 13) * 8192 = 2 ^ 1216 := by rw [show (8192 : Nat) = 2 ^ 13 by decide, ← Nat.pow_add]
      rw [e8] at h7
      exact h7.mpr h6
end VRK
end
section
/-! THE CLASS: Value.turnBinary -/
theorem un_and (x : Int32) : x.toInt64 &&& 4294967295 = lN (un x) := by
  apply Int64.toBitVec_inj.mp
  rw [Int64.toBitVec_and, wb_tb]
  apply BitVec.eq_of_toNat_eq
  rw [BitVec.toNat_and, BitVec.toNat_ofNat]
  have e1 : (4294967295 : Int64).toBitVec.toNat = 2 ^ 32 - 1 := by decide
  have e2 : x.toInt64.toBitVec.toNat % 2 ^ 32 = un x := by
    have e3 : x.toInt64.toBitVec = x.toBitVec.signExtend 64 := rfl
    have hx : x.toBitVec.toNat < 4294967296 := x.toBitVec.isLt
    rw [e3, BitVec.toNat_signExtend, BitVec.toNat_setWidth]
    unfold un
    split <;> omega
  rw [e1, Nat.and_two_pow_sub_one_eq_mod, e2]
  have := un_lt x
  exact (Nat.mod_eq_of_lt (by omega)).symm
/-- limbs by their numbers -/
def Lr (lb : Nat → Int32) (f : Nat → Nat) : Prop := ∀ i, i < 155 → lb i = nI (f i) ∧ f i < 1000000000
theorem Lr.set {lb : Nat → Int32} {f : Nat → Nat} {k x : Nat} (h : Lr lb f) (hx : x < 1000000000) : Lr (upd lb k (nI x)) (nup f k x) := fun i hi => by
  unfold upd nup
  by_cases e : i = k
  · rw [if_pos e, if_pos e]
    exact ⟨rfl, hx⟩
  · rw [if_neg e, if_neg e]
    exact h i hi
section VT
variable {l : Launch} {D : va_G} {X : jX} {g : Nat → Nat} {ca : Nat → ClassId} {len ps sp ng fm df dt wg ex hg mo : Int32} {tp lb wo : Nat → Int32}
set_option maxHeartbeats 1000000 in
theorem c_v_usedLimbs : jM l y_v_usedLimbs b_v_usedLimbs 2 (some .int) (rmD 0) D (tyD ca) X [.ref (g 3)] (wd g ca len ps sp ng fm df dt wg ex hg mo tp lb wo) (jPi fun r w => ∃ u, u ≤ 155 ∧ (∀ i, u ≤ i → i < 155 → lb i = 0) ∧ (0 < u → lb (u - 1) ≠ 0) ∧ r = nI u ∧ w = wd g ca len ps sp ng fm df dt wg ex hg mo tp lb wo) := by
  refine jM.of [some (.ref (g 3)), none] (by simp [jle, jent, Value.category]) rfl (Nat.le_of_ble_eq_true rfl) ?_
  intro p e s m args below meth c sz hC
  have loop : ∀ u, u ≤ 155 → (∀ i, u ≤ i → i < 155 → lb i = 0) → J p l e (rmD 0) s m args below meth c D (va_A (wd g ca len ps sp ng fm df dt wg ex hg mo tp lb wo) sz) 2 (MQ below (jQ D (wd g ca len ps sp ng fm df dt wg ex hg mo tp lb wo) sz (jPi fun r w => ∃ u, u ≤ 155 ∧ (∀ i, u ≤ i → i < 155 → lb i = 0) ∧ (0 < u → lb (u - 1) ≠ 0) ∧ r = nI u ∧ w = wd g ca len ps sp ng fm df dt wg ex hg mo tp lb wo)) args s 0 0 (va_A (wd g ca len ps sp ng fm df dt wg ex hg mo tp lb wo) sz)) 4 [some (.ref (g 3)), some (.int (nI u))] [] (wd g ca len ps sp ng fm df dt wg ex hg mo tp lb wo) := by
    intro u
    induction u with
    | zero =>
      intro hu hz
      refine j_iloadn1 (pc := 4) hC d_v_usedLimbs_4 ?_
      refine j_if_le (pc := 5) hC 25 d_v_usedLimbs_5 (by decide) (fun h1 => ?_) (fun h1 => ?_)
      · refine j_iloadn1 (pc := 25) hC d_v_usedLimbs_25 ?_
        exact j_iret hC d_v_usedLimbs_26 ⟨_, rfl, 0, hu, hz, fun q => absurd q (by omega), rfl, rfl⟩
      · exact absurd (by decide) h1
    | succ u ih =>
      intro hu hz
      refine j_iloadn1 (pc := 4) hC d_v_usedLimbs_4 ?_
      refine j_if_le (pc := 5) hC 25 d_v_usedLimbs_5 (by decide) (fun h1 => ?_) (fun h1 => ?_)
      · exact absurd h1 (nI_nle (by omega) (by omega))
      · refine j_aloadn0 (pc := 8) hC d_v_usedLimbs_8 ?_
        refine jg_V_9 (pc := 9) hC d_v_usedLimbs_9 ?_
        refine j_iloadn1 (pc := 12) hC d_v_usedLimbs_12 ?_
        refine j_iconst (pc := 13) (v := 1) hC d_v_usedLimbs_13 (by decide) ?_
        refine j_isub (pc := 14) hC d_v_usedLimbs_14 ?_
        refine J.topi (nI_pred u) ?_
        refine ja_limbs_iaload (pc := 15) hC (vp_in_nI (by omega) (by decide)) d_v_usedLimbs_15 ?_
        rw [nI_clamp (show u < 2 ^ 31 by omega)]
        refine j_if_ne (pc := 16) hC 25 d_v_usedLimbs_16 (by decide) (fun h2 => ?_) (fun h2 => ?_)
        · refine j_iloadn1 (pc := 25) hC d_v_usedLimbs_25 ?_
          exact j_iret hC d_v_usedLimbs_26 ⟨_, rfl, u + 1, hu, hz, fun _ => h2, rfl, rfl⟩
        · refine j_iinc1 (pc := 19) hC d_v_usedLimbs_19 (by decide) (by first | exact trivial | exact rfl) ?_
          refine j_goto (pc := 22) hC 4 d_v_usedLimbs_22 (by decide) ?_
          refine J.to rfl ?_ rfl rfl (ih (by omega) (fun i q1 q2 => ?_))
          · rw [show nI (u + 1) + Int32.ofInt (-1) = nI u from pk_m1 u]
          · rcases Nat.lt_or_eq_of_le q1 with q | q
            · exact hz i q q2
            · rw [← q]; exact h2
  refine j_sipush (pc := 0) (v := 155) hC d_v_usedLimbs_0 (by decide) ?_
  refine j_istoren1 (pc := 3) hC d_v_usedLimbs_3 (by decide) (by first | exact trivial | exact rfl) ?_
  exact loop 155 (Nat.le_refl _) (fun i q1 q2 => by omega)
set_option maxHeartbeats 2000000 in
theorem c_v_appendWholeLimb (x : Nat) (hx : x < 1000000000) : jM l y_v_appendWholeLimb b_v_appendWholeLimb 7 none (rmD 0) D (tyD ca) X [.ref (g 3), .int (nI x)] (wd g ca len ps sp ng fm df dt wg ex hg mo tp lb wo) (jPv fun w => ∃ wo2 : Nat → Int32, (∀ i, i < 33 → un (wo2 i) = maF 4294967296 1000000000 x (fun i => un (wo i)) 33 33 i) ∧ (∀ i, 33 ≤ i → wo2 i = wo i) ∧ w = wd g ca len ps sp ng fm df dt wg ex hg mo tp lb (wo2)) := by
  refine jM.of [some (.ref (g 3)), some (.int (nI x)), none, none, none, none, none] (by simp [jle, jent, Value.category]) rfl (Nat.le_of_ble_eq_true rfl) ?_
  intro p e s m args below meth c sz hC
  have loop : ∀ (n k : Nat) (wo2 : Nat → Int32) (o o2 : Option Value), k + n = 33 → (∀ i, i < 33 → un (wo2 i) = maF 4294967296 1000000000 x (fun i => un (wo i)) 33 k i) → (∀ i, 33 ≤ i → wo2 i = wo i) → J p l e (rmD 0) s m args below meth c D (va_A (wd g ca len ps sp ng fm df dt wg ex hg mo tp lb wo) sz) 7 (MQ below (jQ D (wd g ca len ps sp ng fm df dt wg ex hg mo tp lb wo) sz (jPv fun w => ∃ wo2 : Nat → Int32, (∀ i, i < 33 → un (wo2 i) = maF 4294967296 1000000000 x (fun i => un (wo i)) 33 33 i) ∧ (∀ i, 33 ≤ i → wo2 i = wo i) ∧ w = wd g ca len ps sp ng fm df dt wg ex hg mo tp lb (wo2))) args s 0 0 (va_A (wd g ca len ps sp ng fm df dt wg ex hg mo tp lb wo) sz)) 7 [some (.ref (g 3)), some (.int (nI x)), some (.long (lN (maC 4294967296 1000000000 x (fun i => un (wo i)) 33 k))), none, some (.int (nI n - 1)), o, o2] [] (wd g ca len ps sp ng fm df dt wg ex hg mo tp lb (wo2)) := by
    intro n
    induction n with
    | zero =>
      intro k wo2 o o2 hk h1 h2
      have e : k = 33 := by omega
      subst e
      refine j_iload4 (pc := 7) hC d_v_appendWholeLimb_7 ?_
      refine j_if_lt (pc := 9) hC 54 d_v_appendWholeLimb_9 (by decide) (fun h3 => ?_) (fun h3 => ?_)
      · exact j_vret hC d_v_appendWholeLimb_54 ⟨rfl, wo2, h1, h2, rfl⟩
      · exact absurd (by decide) h3
    | succ n ih =>
      intro k wo2 o o2 hk h1 h2
      have hcl : (nI n).toNatClampNeg = n := nI_clamp (by omega)
      have hcy := maC_ltT (B := 4294967296) (T := 1000000000) (c0 := x) (f := fun i => un (wo i)) (m := 33) (by omega) hx (fun i _ => un_lt (wo i)) k (by omega)
      have hu := h1 n (by omega)
      rw [maF_old (by omega)] at hu
      have hul := un_lt (wo n)
      rw [nI_pred]
      refine j_iload4 (pc := 7) hC d_v_appendWholeLimb_7 ?_
      refine j_if_lt (pc := 9) hC 54 d_v_appendWholeLimb_9 (by decide) (fun h3 => ?_) (fun h3 => ?_)
      · exact absurd h3 (nI_pos (by omega))
      · refine j_aloadn0 (pc := 12) hC d_v_appendWholeLimb_12 ?_
        refine jg_V_13 (pc := 13) hC d_v_appendWholeLimb_13 ?_
        refine j_iload4 (pc := 16) hC d_v_appendWholeLimb_16 ?_
        refine ja_words_iaload (pc := 18) hC (vp_in_nI (by omega) (by decide)) d_v_appendWholeLimb_18 ?_
        refine j_i2l (pc := 19) hC d_v_appendWholeLimb_19 ?_
        refine j_ldc2 (pc := 20) (v := 4294967295) hC mk_V_53 d_v_appendWholeLimb_20 ?_
        rw [hcl]
        refine j_land (pc := 23) hC d_v_appendWholeLimb_23 ?_
        refine J.topl (un_and _) ?_
        rw [hu]
        refine j_ldc2 (pc := 24) (v := 1000000000) hC mk_V_55 d_v_appendWholeLimb_24 ?_
        refine j_lmul (pc := 27) hC d_v_appendWholeLimb_27 ?_
        refine j_lloadn2 (pc := 28) hC d_v_appendWholeLimb_28 ?_
        refine j_ladd (pc := 29) hC d_v_appendWholeLimb_29 ?_
        refine J.topl (y := lN (un (wo n) * 1000000000 + maC 4294967296 1000000000 x (fun i => un (wo i)) 33 k)) (by rw [show (1000000000 : Int64) = lN 1000000000 from by decide, lN_mul, lN_add]) ?_
        refine j_lstore5 (pc := 30) hC d_v_appendWholeLimb_30 (by decide) (by first | exact trivial | exact rfl) ?_
        refine j_aloadn0 (pc := 32) hC d_v_appendWholeLimb_32 ?_
        refine jg_V_13 (pc := 33) hC d_v_appendWholeLimb_33 ?_
        refine j_iload4 (pc := 36) hC d_v_appendWholeLimb_36 ?_
        refine j_lload5 (pc := 38) hC d_v_appendWholeLimb_38 ?_
        refine j_l2i (pc := 40) hC d_v_appendWholeLimb_40 ?_
        refine J.topi (lN_i _) ?_
        refine ja_words_iastore (pc := 41) hC (vp_in_nI (by omega) (by decide)) d_v_appendWholeLimb_41 ?_
        refine j_lload5 (pc := 42) hC d_v_appendWholeLimb_42 ?_
        refine j_bipush (pc := 44) (v := 32) hC d_v_appendWholeLimb_44 (by decide) ?_
        rw [hcl]
        refine j_lushr (pc := 46) hC d_v_appendWholeLimb_46 ?_
        refine J.topl (y := lN ((un (wo n) * 1000000000 + maC 4294967296 1000000000 x (fun i => un (wo i)) 33 k) / 2 ^ 32)) (by rw [show (32 : Int32) = nI 32 from rfl, wb_shr (by omega) (by omega)]) ?_
        refine j_lstoren2 (pc := 47) hC d_v_appendWholeLimb_47 (by decide) (by first | exact trivial | exact rfl) ?_
        refine j_iinc4 (pc := 48) hC d_v_appendWholeLimb_48 (by decide) (by first | exact trivial | exact rfl) ?_
        refine j_goto (pc := 51) hC 7 d_v_appendWholeLimb_51 (by decide) ?_
        refine J.to rfl ?_ rfl rfl (ih (k + 1) (upd wo2 n (nI (un (wo n) * 1000000000 + maC 4294967296 1000000000 x (fun i => un (wo i)) 33 k))) (some (.long (lN (un (wo n) * 1000000000 + maC 4294967296 1000000000 x (fun i => un (wo i)) 33 k)))) none (by omega) (fun i hi => ?_) (fun i hi => ?_))
        · rw [maC, show 33 - 1 - k = n by omega, i_m1]
        · rw [maF_succ (by omega), show 33 - 1 - k = n by omega]
          unfold upd nup
          by_cases e : i = n
          · rw [if_pos e, if_pos e, un_nI]
          · rw [if_neg e, if_neg e]
            exact h1 i hi
        · unfold upd
          rw [if_neg (by omega)]
          exact h2 i hi
  refine j_iloadn1 (pc := 0) hC d_v_appendWholeLimb_0 ?_
  refine j_i2l (pc := 1) hC d_v_appendWholeLimb_1 ?_
  refine J.topl (nI_l (by omega)) ?_
  refine j_lstoren2 (pc := 2) hC d_v_appendWholeLimb_2 (by decide) (by first | exact trivial | exact rfl) ?_
  refine j_bipush (pc := 3) (v := 32) hC d_v_appendWholeLimb_3 (by decide) ?_
  refine j_istore4 (pc := 5) hC d_v_appendWholeLimb_5 (by decide) (by first | exact trivial | exact rfl) ?_
  refine J.to rfl ?_ rfl rfl (loop 33 0 wo none none rfl (fun i _ => by rw [maF_0]) (fun i _ => rfl))
  rfl
set_option maxHeartbeats 2000000 in
theorem c_v_takeFractionWord (f : Nat → Nat) (mm : Nat) (hm : mm ≤ 120) (hL : Lr lb f) : jM l y_v_takeFractionWord b_v_takeFractionWord 7 (some .int) (rmD 0) D (tyD ca) X [.ref (g 3), .int (nI (35 + mm))] (wd g ca len ps sp ng fm df dt wg ex hg mo tp lb wo) (jPi fun r w => ∃ (lb2 : Nat → Int32) (f2 : Nat → Nat), Lr lb2 f2 ∧ (∀ i, i < mm → f2 (35 + i) = maF 1000000000 4294967296 0 (fun i => f (35 + i)) mm mm i) ∧ (∀ i, (i < 35 ∨ 35 + mm ≤ i) → f2 i = f i) ∧ r = nI (maC 1000000000 4294967296 0 (fun i => f (35 + i)) mm mm) ∧ w = wd g ca len ps sp ng fm df dt wg ex hg mo tp (lb2) wo) := by
  refine jM.of [some (.ref (g 3)), some (.int (nI (35 + mm))), none, none, none, none, none] (by simp [jle, jent, Value.category]) rfl (Nat.le_of_ble_eq_true rfl) ?_
  intro p e s m args below meth c sz hC
  have loop : ∀ (n k : Nat) (lb2 : Nat → Int32) (f2 : Nat → Nat) (o o2 : Option Value), k + n = mm → Lr lb2 f2 → (∀ i, i < mm → f2 (35 + i) = maF 1000000000 4294967296 0 (fun i => f (35 + i)) mm k i) → (∀ i, (i < 35 ∨ 35 + mm ≤ i) → f2 i = f i) → J p l e (rmD 0) s m args below meth c D (va_A (wd g ca len ps sp ng fm df dt wg ex hg mo tp lb wo) sz) 7 (MQ below (jQ D (wd g ca len ps sp ng fm df dt wg ex hg mo tp lb wo) sz (jPi fun r w => ∃ (lb2 : Nat → Int32) (f2 : Nat → Nat), Lr lb2 f2 ∧ (∀ i, i < mm → f2 (35 + i) = maF 1000000000 4294967296 0 (fun i => f (35 + i)) mm mm i) ∧ (∀ i, (i < 35 ∨ 35 + mm ≤ i) → f2 i = f i) ∧ r = nI (maC 1000000000 4294967296 0 (fun i => f (35 + i)) mm mm) ∧ w = wd g ca len ps sp ng fm df dt wg ex hg mo tp (lb2) wo)) args s 0 0 (va_A (wd g ca len ps sp ng fm df dt wg ex hg mo tp lb wo) sz)) 7 [some (.ref (g 3)), some (.int (nI (35 + mm))), some (.long (lN (maC 1000000000 4294967296 0 (fun i => f (35 + i)) mm k))), none, some (.int (nI (34 + n))), o, o2] [] (wd g ca len ps sp ng fm df dt wg ex hg mo tp (lb2) wo) := by
    intro n
    induction n with
    | zero =>
      intro k lb2 f2 o o2 hk hL2 h1 h2
      have e : k = mm := by omega
      subst e
      refine j_iload4 (pc := 7) hC d_v_takeFractionWord_7 ?_
      refine j_bipush (pc := 9) (v := 35) hC d_v_takeFractionWord_9 (by decide) ?_
      refine j_icmp_lt (pc := 11) hC 56 d_v_takeFractionWord_11 (by decide) (fun h3 => ?_) (fun h3 => ?_)
      · refine j_lloadn2 (pc := 56) hC d_v_takeFractionWord_56 ?_
        refine j_l2i (pc := 57) hC d_v_takeFractionWord_57 ?_
        exact j_iret hC d_v_takeFractionWord_58 ⟨_, rfl, lb2, f2, hL2, h1, h2, lN_i _, rfl⟩
      · exact absurd (by decide) h3
    | succ n ih =>
      intro k lb2 f2 o o2 hk hL2 h1 h2
      have hcl : (nI (34 + (n + 1))).toNatClampNeg = 35 + n := by rw [nI_clamp (by omega)]; omega
      have hcy := maC_ltT (B := 1000000000) (T := 4294967296) (c0 := 0) (f := (fun i => f (35 + i))) (m := mm) (by omega) (by omega) (fun i _ => (hL (35 + i) (by omega)).2) k (by omega)
      have hu := h1 n (by omega)
      rw [maF_old (by omega)] at hu
      have hln := hL2 (35 + n) (by omega)
      rw [hu] at hln
      refine j_iload4 (pc := 7) hC d_v_takeFractionWord_7 ?_
      refine j_bipush (pc := 9) (v := 35) hC d_v_takeFractionWord_9 (by decide) ?_
      refine j_icmp_lt (pc := 11) hC 56 d_v_takeFractionWord_11 (by decide) (fun h3 => ?_) (fun h3 => ?_)
      · have h3 : nI (34 + (n + 1)) < nI 35 := h3
        rw [nI_ltI (by omega) (by omega)] at h3
        omega
      · refine j_aloadn0 (pc := 14) hC d_v_takeFractionWord_14 ?_
        refine jg_V_9 (pc := 15) hC d_v_takeFractionWord_15 ?_
        refine j_iload4 (pc := 18) hC d_v_takeFractionWord_18 ?_
        refine ja_limbs_iaload (pc := 20) hC (vp_in_nI (by omega) (by decide)) d_v_takeFractionWord_20 ?_
        rw [hcl, hln.1]
        refine j_i2l (pc := 21) hC d_v_takeFractionWord_21 ?_
        refine J.topl (nI_l (by omega)) ?_
        refine j_bipush (pc := 22) (v := 32) hC d_v_takeFractionWord_22 (by decide) ?_
        refine j_lshl (pc := 24) hC d_v_takeFractionWord_24 ?_
        refine J.topl (y := lN (f (35 + n) * 2 ^ 32)) (by rw [show (32 : Int32) = nI 32 from rfl, wb_shl _ (by omega)]) ?_
        refine j_lloadn2 (pc := 25) hC d_v_takeFractionWord_25 ?_
        refine j_ladd (pc := 26) hC d_v_takeFractionWord_26 ?_
        have hp63 : f (35 + n) * 4294967296 + maC 1000000000 4294967296 0 (fun i => f (35 + i)) mm k < 2 ^ 63 := by omega
        refine J.topl (y := lN (f (35 + n) * 4294967296 + maC 1000000000 4294967296 0 (fun i => f (35 + i)) mm k)) (by rw [lN_add]) ?_
        refine j_lstore5 (pc := 27) hC d_v_takeFractionWord_27 (by decide) (by first | exact trivial | exact rfl) ?_
        refine j_aloadn0 (pc := 29) hC d_v_takeFractionWord_29 ?_
        refine jg_V_9 (pc := 30) hC d_v_takeFractionWord_30 ?_
        refine j_iload4 (pc := 33) hC d_v_takeFractionWord_33 ?_
        refine j_lload5 (pc := 35) hC d_v_takeFractionWord_35 ?_
        refine j_ldc2 (pc := 37) (v := 1000000000) hC mk_V_55 d_v_takeFractionWord_37 ?_
        refine j_lrem (pc := 40) hC d_v_takeFractionWord_40 (by decide) ?_
        refine J.topl (y := lN ((f (35 + n) * 4294967296 + maC 1000000000 4294967296 0 (fun i => f (35 + i)) mm k) % 1000000000)) (by rw [show (1000000000 : Int64) = lN 1000000000 from by decide, pk_lRem hp63 (by omega) (by omega)]) ?_
        refine j_l2i (pc := 41) hC d_v_takeFractionWord_41 ?_
        refine J.topi (lN_i _) ?_
        refine ja_limbs_iastore (pc := 42) hC (vp_in_nI (by omega) (by decide)) d_v_takeFractionWord_42 ?_
        refine j_lload5 (pc := 43) hC d_v_takeFractionWord_43 ?_
        refine j_ldc2 (pc := 45) (v := 1000000000) hC mk_V_55 d_v_takeFractionWord_45 ?_
        refine j_ldiv (pc := 48) hC d_v_takeFractionWord_48 (by decide) ?_
        rw [hcl]
        refine J.topl (y := lN ((f (35 + n) * 4294967296 + maC 1000000000 4294967296 0 (fun i => f (35 + i)) mm k) / 1000000000)) (by rw [show (1000000000 : Int64) = lN 1000000000 from by decide, pk_lDiv hp63 (by omega) (by omega)]) ?_
        refine j_lstoren2 (pc := 49) hC d_v_takeFractionWord_49 (by decide) (by first | exact trivial | exact rfl) ?_
        refine j_iinc4 (pc := 50) hC d_v_takeFractionWord_50 (by decide) (by first | exact trivial | exact rfl) ?_
        refine j_goto (pc := 53) hC 7 d_v_takeFractionWord_53 (by decide) ?_
        refine J.to rfl ?_ rfl rfl (ih (k + 1) (upd lb2 (35 + n) (nI ((f (35 + n) * 4294967296 + maC 1000000000 4294967296 0 (fun i => f (35 + i)) mm k) % 1000000000))) (nup f2 (35 + n) ((f (35 + n) * 4294967296 + maC 1000000000 4294967296 0 (fun i => f (35 + i)) mm k) % 1000000000)) (some (.long (lN (f (35 + n) * 4294967296 + maC 1000000000 4294967296 0 (fun i => f (35 + i)) mm k)))) none (by omega) (hL2.set (Nat.mod_lt _ (by omega))) (fun i hi => ?_) (fun i hi => ?_))
        · rw [maC, show mm - 1 - k = n by omega, show 34 + (n + 1) = 34 + n + 1 by omega, show nI (34 + n + 1) + Int32.ofInt (-1) = nI (34 + n) from pk_m1 _]
        · rw [maF_succ (by omega), show mm - 1 - k = n by omega]
          unfold nup
          by_cases e : i = n
          · rw [if_pos (by omega), if_pos e]
          · rw [if_neg (by omega), if_neg e]
            exact h1 i hi
        · unfold nup
          rw [if_neg (by omega)]
          exact h2 i hi
  refine j_lconst (pc := 0) (v := 0) hC d_v_takeFractionWord_0 (by decide) ?_
  refine j_lstoren2 (pc := 1) hC d_v_takeFractionWord_1 (by decide) (by first | exact trivial | exact rfl) ?_
  refine j_iloadn1 (pc := 2) hC d_v_takeFractionWord_2 ?_
  refine j_iconst (pc := 3) (v := 1) hC d_v_takeFractionWord_3 (by decide) ?_
  refine j_isub (pc := 4) hC d_v_takeFractionWord_4 ?_
  refine J.topi (y := nI (34 + mm)) (by rw [show 35 + mm = 34 + mm + 1 by omega, nI_pred]) ?_
  refine j_istore4 (pc := 5) hC d_v_takeFractionWord_5 (by decide) (by first | exact trivial | exact rfl) ?_
  refine J.to rfl ?_ rfl rfl (loop mm 0 lb f none none (by omega) hL (fun i _ => by rw [maF_0]) (fun i _ => rfl))
  rfl
end VT
end
section
def T34 : Nat := 4294967296 ^ 34
def B120 : Nat := 1000000000 ^ 120
theorem maC_congr {B T c0 : Nat} {f g : Nat → Nat} {m : Nat} (h : ∀ i, i < m → f i = g i) : ∀ k, k ≤ m → maC B T c0 f m k = maC B T c0 g m k
  | 0, _ => rfl
  | k + 1, hk => by rw [maC, maC, maC_congr h k (by omega), h (m - 1 - k) (by omega)]
theorem maF_congr {B T c0 : Nat} {f g : Nat → Nat} {m : Nat} (h : ∀ i, i < m → f i = g i) (k i : Nat) (hi : i < m) : maF B T c0 f m k i = maF B T c0 g m k i := by
  unfold maF
  rw [h i hi, maC_congr h (m - 1 - i) (by omega)]
theorem Lr0 {lb : Nat → Int32} {f : Nat → Nat} {i : Nat} (h : Lr lb f) (hi : i < 155) : lb i = 0 ↔ f i = 0 := by
  rw [(h i hi).1, show (0 : Int32) = nI 0 from rfl, nI_eq (by have := (h i hi).2; omega) (by omega)]
section VTA
variable {l : Launch} {D : va_G} {X : jX} {g : Nat → Nat} {ca : Nat → ClassId} {len ps sp ng fm df dt wg ex hg mo : Int32} {tp lb wo : Nat → Int32}
set_option maxHeartbeats 4000000 in
theorem c_v_turnBinary_dec (f : Nat → Nat) (hL : Lr lb f) (hw0 : ∀ i, i < 67 → wo i = 0) : jM l y_v_turnBinary b_v_turnBinary 4 none (rmD 1) D (tyD ca) X [.ref (g 3)] (wd g ca len ps sp ng fm df dt wg ex hg mo tp lb wo) (jPv fun w => ∃ (lb2 wo2 : Nat → Int32) (mo2 : Int32), wnum wo2 = hv 1000000000 f 155 * T34 / B120 ∧ (mo2 ≠ 0 ↔ (mo ≠ 0 ∨ hv 1000000000 f 155 * T34 % B120 ≠ 0)) ∧ w = wd g ca len ps sp ng fm df dt wg ex hg (mo2) tp (lb2) (wo2)) := by
  refine jM.of [some (.ref (g 3)), none, none, none] (by simp [jle, jent, Value.category]) rfl (Nat.le_of_ble_eq_true rfl) ?_
  intro p e s m args below meth c sz hC
  -- the end: what the words and the rest say
  have fin : ∀ (mm : Nat) (lb2 wo2 : Nat → Int32) (f2 : Nat → Nat), mm ≤ 120 → (∀ i, mm ≤ i → i < 120 → f (35 + i) = 0) → (∀ i, i < 33 → un (wo2 i) = whW 4294967296 1000000000 33 f 35 i) → (∀ i, i < 34 → un (wo2 (33 + i)) = frW 1000000000 4294967296 mm (fun i => f (35 + i)) i) → (wnum wo2 = hv 1000000000 f 155 * T34 / B120 ∧ (hv 1000000000 f 155 * T34 % B120 ≠ 0 ↔ ∃ i, i < mm ∧ frF 1000000000 4294967296 mm (fun i => f (35 + i)) 34 i ≠ 0)) := by
    intro mm lb2 wo2 f2 hm hz h1 h2
    have hfl : ∀ i, i < 155 → f i < 1000000000 := fun i hi => (hL i hi).2
    have ht := tb_all (B := 1000000000) (T := 4294967296) (m := mm) (n := 120) (f := (fun i => f (35 + i))) (g := f) (Lw := hv 1000000000 f 35) (by omega) hm (fun i hi => hfl (35 + i) (by omega)) hz 34
    have e1 : hv 1000000000 f 155 = hv 1000000000 f 35 * B120 + hv 1000000000 (fun i => f (35 + i)) 120 := hv_app 1000000000 f 35 120
    have e2 : wnum wo2 = hv 4294967296 (fun i => un (wo2 i)) 33 * T34 + hv 4294967296 (fun i => un (wo2 (33 + i))) 34 := hv_app 4294967296 (fun i => un (wo2 i)) 33 34
    have e3 : hv 4294967296 (fun i => un (wo2 i)) 33 = hv 1000000000 f 35 := by
      rw [hv_congr (g := whW 4294967296 1000000000 33 f 35) h1]
      exact wh_sum (by omega) (n := 35) (fun i hi => hfl i (by omega)) (by decide +kernel) (by omega) 35 (Nat.le_refl _)
    have e4 : hv 4294967296 (fun i => un (wo2 (33 + i))) 34 = hv 4294967296 (frW 1000000000 4294967296 mm (fun i => f (35 + i))) 34 := hv_congr h2
    rw [e1, e2, e3, e4]
    exact ⟨ht.1.symm, ht.2⟩
  have loop3 : ∀ (n i : Nat) (mm : Nat) (lb2 wo2 : Nat → Int32) (f2 : Nat → Nat) (mo2 : Int32) (o : Int32) (u : Nat), i + n = mm → mm ≤ 120 → (u = 35 + mm ∨ (u ≤ 35 ∧ mm = 0)) → Lr lb2 f2 → (∀ i, i < mm → f2 (35 + i) = frF 1000000000 4294967296 mm (fun i => f (35 + i)) 34 i) → (wnum wo2 = hv 1000000000 f 155 * T34 / B120 ∧ (hv 1000000000 f 155 * T34 % B120 ≠ 0 ↔ ∃ i, i < mm ∧ frF 1000000000 4294967296 mm (fun i => f (35 + i)) 34 i ≠ 0)) → (mo2 ≠ 0 ↔ (mo ≠ 0 ∨ ∃ j, j < i ∧ frF 1000000000 4294967296 mm (fun i => f (35 + i)) 34 j ≠ 0)) → J p l e (rmD 1) s m args below meth c D (va_A (wd g ca len ps sp ng fm df dt wg ex hg mo tp lb wo) sz) 4 (MQ below (jQ D (wd g ca len ps sp ng fm df dt wg ex hg mo tp lb wo) sz (jPv fun w => ∃ (lb2 wo2 : Nat → Int32) (mo2 : Int32), wnum wo2 = hv 1000000000 f 155 * T34 / B120 ∧ (mo2 ≠ 0 ↔ (mo ≠ 0 ∨ hv 1000000000 f 155 * T34 % B120 ≠ 0)) ∧ w = wd g ca len ps sp ng fm df dt wg ex hg (mo2) tp (lb2) (wo2))) args s 0 0 (va_A (wd g ca len ps sp ng fm df dt wg ex hg mo tp lb wo) sz)) 89 [some (.ref (g 3)), some (.int (nI u)), some (.int o), some (.int (nI (35 + i)))] [] (wd g ca len ps sp ng fm df dt wg ex hg (mo2) tp (lb2) (wo2)) := by
    intro n
    induction n with
    | zero =>
      intro i mm lb2 wo2 f2 mo2 o u hi hm hu hL2 h1 hfin hmo
      have e : i = mm := by omega
      subst e
      refine j_iloadn3 (pc := 89) hC d_v_turnBinary_89 ?_
      refine j_iloadn1 (pc := 90) hC d_v_turnBinary_90 ?_
      refine j_icmp_ge (pc := 91) hC 125 d_v_turnBinary_91 (by decide) (fun h2 => ?_) (fun h2 => ?_)
      · exact j_vret hC d_v_turnBinary_125 ⟨rfl, lb2, wo2, mo2, hfin.1, by rw [hmo, hfin.2], rfl⟩
      · clear hfin hmo
        rw [nI_leI (by omega) (by omega)] at h2
        omega
    | succ n ih =>
      intro i mm lb2 wo2 f2 mo2 o u hi hm hu hL2 h1 hfin hmo
      have hln := Lr0 hL2 (i := 35 + i) (by omega)
      rw [h1 i (by omega)] at hln
      refine j_iloadn3 (pc := 89) hC d_v_turnBinary_89 ?_
      refine j_iloadn1 (pc := 90) hC d_v_turnBinary_90 ?_
      refine j_icmp_ge (pc := 91) hC 125 d_v_turnBinary_91 (by decide) (fun h2 => ?_) (fun h2 => ?_)
      · clear hfin hmo
        rw [nI_leI (by omega) (by omega)] at h2
        omega
      · have next : ∀ mo3 : Int32, (mo3 ≠ 0 ↔ (mo2 ≠ 0 ∨ frF 1000000000 4294967296 mm (fun i => f (35 + i)) 34 i ≠ 0)) → (mo3 ≠ 0 ↔ (mo ≠ 0 ∨ ∃ j, j < i + 1 ∧ frF 1000000000 4294967296 mm (fun i => f (35 + i)) 34 j ≠ 0)) := by
          intro mo3 h
          rw [h, hmo]
          constructor
          · rintro ((q | ⟨j, q1, q2⟩) | q)
            · exact Or.inl q
            · exact Or.inr ⟨j, by omega, q2⟩
            · exact Or.inr ⟨i, by omega, q⟩
          · rintro (q | ⟨j, q1, q2⟩)
            · exact Or.inl (Or.inl q)
            · rcases Nat.lt_or_eq_of_le (Nat.le_of_lt_succ q1) with q | q
              · exact Or.inl (Or.inr ⟨j, q, q2⟩)
              · rw [q] at q2
                exact Or.inr q2
        have k116 : ∀ mo3 : Int32, (mo3 = 0 ∨ mo3 = 1) → (mo3 ≠ 0 ↔ (mo2 ≠ 0 ∨ frF 1000000000 4294967296 mm (fun i => f (35 + i)) 34 i ≠ 0)) → J p l e (rmD 1) s m args below meth c D (va_A (wd g ca len ps sp ng fm df dt wg ex hg mo tp lb wo) sz) 4 (MQ below (jQ D (wd g ca len ps sp ng fm df dt wg ex hg mo tp lb wo) sz (jPv fun w => ∃ (lb2 wo2 : Nat → Int32) (mo2 : Int32), wnum wo2 = hv 1000000000 f 155 * T34 / B120 ∧ (mo2 ≠ 0 ↔ (mo ≠ 0 ∨ hv 1000000000 f 155 * T34 % B120 ≠ 0)) ∧ w = wd g ca len ps sp ng fm df dt wg ex hg (mo2) tp (lb2) (wo2))) args s 0 0 (va_A (wd g ca len ps sp ng fm df dt wg ex hg mo tp lb wo) sz)) 116 [some (.ref (g 3)), some (.int (nI u)), some (.int o), some (.int (nI (35 + i)))] [.int mo3, .ref (g 3)] (wd g ca len ps sp ng fm df dt wg ex hg (mo2) tp (lb2) (wo2)) := by
          intro mo3 h01 h
          refine jp_V_20 (pc := 116) hC (by rcases h01 with rfl | rfl <;> exact ⟨rfl, rfl⟩) d_v_turnBinary_116 ?_
          refine j_iinc3 (pc := 119) hC d_v_turnBinary_119 (by decide) (by first | exact trivial | exact rfl) ?_
          refine j_goto (pc := 122) hC 89 d_v_turnBinary_122 (by decide) ?_
          refine J.to rfl ?_ rfl rfl (ih (i + 1) mm lb2 wo2 f2 mo3 o u (by omega) hm hu hL2 h1 hfin (next mo3 h))
          rw [show 35 + (i + 1) = 35 + i + 1 by omega, ← nI_1]
          rfl
        refine j_aloadn0 (pc := 94) hC d_v_turnBinary_94 ?_
        refine j_aloadn0 (pc := 95) hC d_v_turnBinary_95 ?_
        refine jg_V_20 (pc := 96) hC d_v_turnBinary_96 ?_
        refine j_if_ne (pc := 99) hC 111 d_v_turnBinary_99 (by decide) (fun h3 => ?_) (fun h3 => ?_)
        · refine j_iconst (pc := 111) (v := 1) hC d_v_turnBinary_111 (by decide) ?_
          refine j_goto (pc := 112) hC 116 d_v_turnBinary_112 (by decide) ?_
          exact k116 1 (Or.inr rfl) ⟨fun _ => Or.inl h3, fun _ => by decide⟩
        · refine j_aloadn0 (pc := 102) hC d_v_turnBinary_102 ?_
          refine jg_V_9 (pc := 103) hC d_v_turnBinary_103 ?_
          refine j_iloadn3 (pc := 106) hC d_v_turnBinary_106 ?_
          refine ja_limbs_iaload (pc := 107) hC (vp_in_nI (by omega) (by decide)) d_v_turnBinary_107 ?_
          rw [nI_clamp (show 35 + i < 2 ^ 31 by omega)]
          refine j_if_eq (pc := 108) hC 115 d_v_turnBinary_108 (by decide) (fun h4 => ?_) (fun h4 => ?_)
          · refine j_iconst (pc := 115) (v := 0) hC d_v_turnBinary_115 (by decide) ?_
            exact k116 0 (Or.inl rfl) ⟨fun q => absurd rfl q, fun q => by
              rcases q with q | q
              · exact absurd h3 q
              · exact absurd (hln.mp h4) q⟩
          · refine j_iconst (pc := 111) (v := 1) hC d_v_turnBinary_111 (by decide) ?_
            refine j_goto (pc := 112) hC 116 d_v_turnBinary_112 (by decide) ?_
            exact k116 1 (Or.inr rfl) ⟨fun _ => Or.inr (fun q => h4 (hln.mpr q)), fun _ => by decide⟩
  have loop2 : ∀ (n k : Nat) (mm : Nat) (lb2 wo2 : Nat → Int32) (f2 : Nat → Nat) (o : Int32), k + n = 34 → 0 < mm → mm ≤ 120 → (∀ i, mm ≤ i → i < 120 → f (35 + i) = 0) → Lr lb2 f2 → (∀ i, i < mm → f2 (35 + i) = frF 1000000000 4294967296 mm (fun i => f (35 + i)) k i) → (∀ i, i < 33 → un (wo2 i) = whW 4294967296 1000000000 33 f 35 i) → (∀ i, i < k → un (wo2 (33 + i)) = frW 1000000000 4294967296 mm (fun i => f (35 + i)) i) → J p l e (rmD 1) s m args below meth c D (va_A (wd g ca len ps sp ng fm df dt wg ex hg mo tp lb wo) sz) 4 (MQ below (jQ D (wd g ca len ps sp ng fm df dt wg ex hg mo tp lb wo) sz (jPv fun w => ∃ (lb2 wo2 : Nat → Int32) (mo2 : Int32), wnum wo2 = hv 1000000000 f 155 * T34 / B120 ∧ (mo2 ≠ 0 ↔ (mo ≠ 0 ∨ hv 1000000000 f 155 * T34 % B120 ≠ 0)) ∧ w = wd g ca len ps sp ng fm df dt wg ex hg (mo2) tp (lb2) (wo2))) args s 0 0 (va_A (wd g ca len ps sp ng fm df dt wg ex hg mo tp lb wo) sz)) 57 [some (.ref (g 3)), some (.int (nI (35 + mm))), some (.int o), some (.int (nI (33 + k)))] [] (wd g ca len ps sp ng fm df dt wg ex hg mo tp (lb2) (wo2)) := by
    intro n
    induction n with
    | zero =>
      intro k mm lb2 wo2 f2 o hk hm0 hm hz hL2 h1 h2 h3
      have e : k = 34 := by omega
      subst e
      refine j_iloadn3 (pc := 57) hC d_v_turnBinary_57 ?_
      refine j_bipush (pc := 58) (v := 67) hC d_v_turnBinary_58 (by decide) ?_
      refine j_icmp_ge (pc := 60) hC 86 d_v_turnBinary_60 (by decide) (fun h4 => ?_) (fun h4 => ?_)
      · refine j_bipush (pc := 86) (v := 35) hC d_v_turnBinary_86 (by decide) ?_
        refine j_istoren3 (pc := 88) hC d_v_turnBinary_88 (by decide) (by first | exact trivial | exact rfl) ?_
        exact loop3 mm 0 mm lb2 wo2 f2 mo o (35 + mm) (by omega) hm (Or.inl rfl) hL2 h1 (fin mm lb2 wo2 f2 hm hz h2 h3) ⟨fun q => Or.inl q, fun q => by
          rcases q with q | ⟨j, q, -⟩
          · exact q
          · omega⟩
      · exact absurd (by decide) h4
    | succ n ih =>
      intro k mm lb2 wo2 f2 o hk hm0 hm hz hL2 h1 h2 h3
      refine j_iloadn3 (pc := 57) hC d_v_turnBinary_57 ?_
      refine j_bipush (pc := 58) (v := 67) hC d_v_turnBinary_58 (by decide) ?_
      refine j_icmp_ge (pc := 60) hC 86 d_v_turnBinary_60 (by decide) (fun h4 => ?_) (fun h4 => ?_)
      · have h4 : nI 67 ≤ nI (33 + k) := h4
        rw [nI_leI (by omega) (by omega)] at h4
        omega
      · refine j_iloadn1 (pc := 63) hC d_v_turnBinary_63 ?_
        refine j_bipush (pc := 64) (v := 35) hC d_v_turnBinary_64 (by decide) ?_
        refine j_icmp_le (pc := 66) hC 86 d_v_turnBinary_66 (by decide) (fun h5 => ?_) (fun h5 => ?_)
        · have h5 : nI (35 + mm) ≤ nI 35 := h5
          rw [nI_leI (by omega) (by omega)] at h5
          omega
        · refine j_aloadn0 (pc := 69) hC d_v_turnBinary_69 ?_
          refine jg_V_13 (pc := 70) hC d_v_turnBinary_70 ?_
          refine j_iloadn3 (pc := 73) hC d_v_turnBinary_73 ?_
          refine j_aloadn0 (pc := 74) hC d_v_turnBinary_74 ?_
          refine j_iloadn1 (pc := 75) hC d_v_turnBinary_75 ?_
          refine j_V1i (pc := 76) (q0 := 3) (ci := 2) hC cw_V_50 (rmD_in (by decide)) (Nat.le_of_ble_eq_true rfl) rfl rfl d_v_turnBinary_76 (c_v_takeFractionWord f2 mm hm hL2) (fun r w2 h6 => ?_)
          obtain ⟨lb3, f3, hL3, q1, q2, rfl, rfl⟩ := h6
          have hc : ∀ i, i < mm → (fun i => f2 (35 + i)) i = frF 1000000000 4294967296 mm (fun i => f (35 + i)) k i := h1
          have hcw : maC 1000000000 4294967296 0 (fun i => f2 (35 + i)) mm mm = frW 1000000000 4294967296 mm (fun i => f (35 + i)) k := maC_congr hc mm (Nat.le_refl mm)
          have hfl : ∀ i, i < mm → (fun i => f (35 + i)) i < 1000000000 := fun i hi => (hL (35 + i) (by omega)).2
          have hwl := frW_lt (B := 1000000000) (T := 4294967296) (m := mm) (f := (fun i => f (35 + i))) (by omega) (by omega) hfl k
          refine ja_words_iastore (pc := 79) hC (vp_in_nI (by omega) (by decide)) d_v_turnBinary_79 ?_
          rw [nI_clamp (show 33 + k < 2 ^ 31 by omega)]
          refine j_iinc3 (pc := 80) hC d_v_turnBinary_80 (by decide) (by first | exact trivial | exact rfl) ?_
          refine j_goto (pc := 83) hC 57 d_v_turnBinary_83 (by decide) ?_
          refine J.to rfl ?_ rfl rfl (ih (k + 1) mm lb3 _ f3 o (by omega) hm0 hm hz hL3 (fun i hi => ?_) (fun i hi => ?_) (fun i hi => ?_))
          · rw [show 33 + (k + 1) = 33 + k + 1 by omega, ← nI_1]
            rfl
          · rw [q1 i hi, frF]
            exact maF_congr hc mm i hi
          · unfold upd
            rw [if_neg (by omega)]
            exact h2 i hi
          · unfold upd
            by_cases e : i = k
            · subst e
              rw [if_pos rfl, hcw, un_nI, Nat.mod_eq_of_lt hwl]
            · rw [if_neg (by omega)]
              exact h3 i (by omega)
  have k54 : ∀ (u : Nat) (wo2 : Nat → Int32) (o o2 : Int32), u ≤ 155 → (∀ i, u ≤ i → i < 155 → lb i = 0) → (∀ i, i < 33 → un (wo2 i) = whW 4294967296 1000000000 33 f 35 i) → (∀ i, 33 ≤ i → i < 67 → wo2 i = 0) → J p l e (rmD 1) s m args below meth c D (va_A (wd g ca len ps sp ng fm df dt wg ex hg mo tp lb wo) sz) 4 (MQ below (jQ D (wd g ca len ps sp ng fm df dt wg ex hg mo tp lb wo) sz (jPv fun w => ∃ (lb2 wo2 : Nat → Int32) (mo2 : Int32), wnum wo2 = hv 1000000000 f 155 * T34 / B120 ∧ (mo2 ≠ 0 ↔ (mo ≠ 0 ∨ hv 1000000000 f 155 * T34 % B120 ≠ 0)) ∧ w = wd g ca len ps sp ng fm df dt wg ex hg (mo2) tp (lb2) (wo2))) args s 0 0 (va_A (wd g ca len ps sp ng fm df dt wg ex hg mo tp lb wo) sz)) 54 [some (.ref (g 3)), some (.int (nI u)), some (.int o), some (.int o2)] [] (wd g ca len ps sp ng fm df dt wg ex hg mo tp lb (wo2)) := by
    intro u wo2 o o2 hu hz h1 h2
    refine j_bipush (pc := 54) (v := 33) hC d_v_turnBinary_54 (by decide) ?_
    refine j_istoren3 (pc := 56) hC d_v_turnBinary_56 (by decide) (by first | exact trivial | exact rfl) ?_
    by_cases hu35 : 35 < u
    · obtain ⟨mm, rfl⟩ : ∃ mm, u = 35 + mm := ⟨u - 35, by omega⟩
      exact loop2 34 0 mm lb wo2 f o (by omega) (by omega) (by omega) (fun i q1 q2 => (Lr0 hL (by omega)).mp (hz (35 + i) (by omega) (by omega))) hL (fun i _ => rfl) h1 (fun i q => absurd q (by omega))
    · refine j_iloadn3 (pc := 57) hC d_v_turnBinary_57 ?_
      refine j_bipush (pc := 58) (v := 67) hC d_v_turnBinary_58 (by decide) ?_
      refine j_icmp_ge (pc := 60) hC 86 d_v_turnBinary_60 (by decide) (fun h4 => ?_) (fun h4 => ?_)
      · exact absurd h4 (by decide)
      · refine j_iloadn1 (pc := 63) hC d_v_turnBinary_63 ?_
        refine j_bipush (pc := 64) (v := 35) hC d_v_turnBinary_64 (by decide) ?_
        refine j_icmp_le (pc := 66) hC 86 d_v_turnBinary_66 (by decide) (fun h5 => ?_) (fun h5 => ?_)
        · refine j_bipush (pc := 86) (v := 35) hC d_v_turnBinary_86 (by decide) ?_
          refine j_istoren3 (pc := 88) hC d_v_turnBinary_88 (by decide) (by first | exact trivial | exact rfl) ?_
          refine loop3 0 0 0 lb wo2 f mo o u rfl (by omega) (Or.inr ⟨by omega, rfl⟩) hL (fun i q => absurd q (by omega)) (fin 0 lb wo2 f (by omega) (fun i q1 q2 => (Lr0 hL (by omega)).mp (hz (35 + i) (by omega) (by omega))) h1 (fun i hi => ?_)) ⟨fun q => Or.inl q, fun q => ?_⟩
          · rw [h2 (33 + i) (by omega) (by omega)]
            rfl
          · rcases q with q | ⟨j, q, -⟩
            · exact q
            · omega
        · have h5 : ¬ nI u ≤ nI 35 := h5
          rw [nI_leI (by omega) (by omega)] at h5
          omega
  have loop1 : ∀ (n i : Nat) (u : Nat) (wo2 : Nat → Int32) (st : Int32), i + n = 35 → u ≤ 155 → (∀ i, u ≤ i → i < 155 → lb i = 0) → (st = 0 ∧ (∀ j, j < i → f j = 0) ∨ st = 1) → (∀ j, j < 33 → un (wo2 j) = whW 4294967296 1000000000 33 f i j) → (∀ j, 33 ≤ j → j < 67 → wo2 j = 0) → J p l e (rmD 1) s m args below meth c D (va_A (wd g ca len ps sp ng fm df dt wg ex hg mo tp lb wo) sz) 4 (MQ below (jQ D (wd g ca len ps sp ng fm df dt wg ex hg mo tp lb wo) sz (jPv fun w => ∃ (lb2 wo2 : Nat → Int32) (mo2 : Int32), wnum wo2 = hv 1000000000 f 155 * T34 / B120 ∧ (mo2 ≠ 0 ↔ (mo ≠ 0 ∨ hv 1000000000 f 155 * T34 % B120 ≠ 0)) ∧ w = wd g ca len ps sp ng fm df dt wg ex hg (mo2) tp (lb2) (wo2))) args s 0 0 (va_A (wd g ca len ps sp ng fm df dt wg ex hg mo tp lb wo) sz)) 9 [some (.ref (g 3)), some (.int (nI u)), some (.int st), some (.int (nI i))] [] (wd g ca len ps sp ng fm df dt wg ex hg mo tp lb (wo2)) := by
    intro n
    induction n with
    | zero =>
      intro i u wo2 st hi hu hz hst h1 h2
      have e : i = 35 := by omega
      subst e
      refine j_iloadn3 (pc := 9) hC d_v_turnBinary_9 ?_
      refine j_bipush (pc := 10) (v := 35) hC d_v_turnBinary_10 (by decide) ?_
      refine j_icmp_ge (pc := 12) hC 54 d_v_turnBinary_12 (by decide) (fun h3 => ?_) (fun h3 => ?_)
      · exact k54 u wo2 st _ hu hz h1 h2
      · exact absurd (by decide) h3
    | succ n ih =>
      intro i u wo2 st hi hu hz hst h1 h2
      have hln := Lr0 hL (i := i) (by omega)
      have hli := hL i (by omega)
      refine j_iloadn3 (pc := 9) hC d_v_turnBinary_9 ?_
      refine j_bipush (pc := 10) (v := 35) hC d_v_turnBinary_10 (by decide) ?_
      refine j_icmp_ge (pc := 12) hC 54 d_v_turnBinary_12 (by decide) (fun h3 => ?_) (fun h3 => ?_)
      · have h3 : nI 35 ≤ nI i := h3
        rw [nI_leI (by omega) (by omega)] at h3
        omega
      · have k48 : ∀ (st2 : Int32) (wo3 : Nat → Int32), (st2 = 0 ∧ (∀ j, j < i + 1 → f j = 0) ∨ st2 = 1) → (∀ j, j < 33 → un (wo3 j) = whW 4294967296 1000000000 33 f (i + 1) j) → (∀ j, 33 ≤ j → j < 67 → wo3 j = 0) → J p l e (rmD 1) s m args below meth c D (va_A (wd g ca len ps sp ng fm df dt wg ex hg mo tp lb wo) sz) 4 (MQ below (jQ D (wd g ca len ps sp ng fm df dt wg ex hg mo tp lb wo) sz (jPv fun w => ∃ (lb2 wo2 : Nat → Int32) (mo2 : Int32), wnum wo2 = hv 1000000000 f 155 * T34 / B120 ∧ (mo2 ≠ 0 ↔ (mo ≠ 0 ∨ hv 1000000000 f 155 * T34 % B120 ≠ 0)) ∧ w = wd g ca len ps sp ng fm df dt wg ex hg (mo2) tp (lb2) (wo2))) args s 0 0 (va_A (wd g ca len ps sp ng fm df dt wg ex hg mo tp lb wo) sz)) 48 [some (.ref (g 3)), some (.int (nI u)), some (.int st2), some (.int (nI i))] [] (wd g ca len ps sp ng fm df dt wg ex hg mo tp lb (wo3)) := by
          intro st2 wo3 q1 q2 q3
          refine j_iinc3 (pc := 48) hC d_v_turnBinary_48 (by decide) (by first | exact trivial | exact rfl) ?_
          refine j_goto (pc := 51) hC 9 d_v_turnBinary_51 (by decide) ?_
          refine J.to rfl ?_ rfl rfl (ih (i + 1) u wo3 st2 (by omega) hu hz q1 q2 q3)
          rw [← nI_1]
          rfl
        have k28 : J p l e (rmD 1) s m args below meth c D (va_A (wd g ca len ps sp ng fm df dt wg ex hg mo tp lb wo) sz) 4 (MQ below (jQ D (wd g ca len ps sp ng fm df dt wg ex hg mo tp lb wo) sz (jPv fun w => ∃ (lb2 wo2 : Nat → Int32) (mo2 : Int32), wnum wo2 = hv 1000000000 f 155 * T34 / B120 ∧ (mo2 ≠ 0 ↔ (mo ≠ 0 ∨ hv 1000000000 f 155 * T34 % B120 ≠ 0)) ∧ w = wd g ca len ps sp ng fm df dt wg ex hg (mo2) tp (lb2) (wo2))) args s 0 0 (va_A (wd g ca len ps sp ng fm df dt wg ex hg mo tp lb wo) sz)) 28 [some (.ref (g 3)), some (.int (nI u)), some (.int st), some (.int (nI i))] [] (wd g ca len ps sp ng fm df dt wg ex hg mo tp lb (wo2)) := by
          refine j_iconst (pc := 28) (v := 1) hC d_v_turnBinary_28 (by decide) ?_
          refine j_goto (pc := 29) hC 33 d_v_turnBinary_29 (by decide) ?_
          refine j_istoren2 (pc := 33) hC d_v_turnBinary_33 (by decide) (by first | exact trivial | exact rfl) ?_
          refine j_iloadn2 (pc := 34) hC d_v_turnBinary_34 ?_
          refine j_if_eq (pc := 35) hC 48 d_v_turnBinary_35 (by decide) (fun h4 => ?_) (fun h4 => ?_)
          · exact absurd h4 (by decide)
          · refine j_aloadn0 (pc := 38) hC d_v_turnBinary_38 ?_
            refine j_aloadn0 (pc := 39) hC d_v_turnBinary_39 ?_
            refine jg_V_9 (pc := 40) hC d_v_turnBinary_40 ?_
            refine j_iloadn3 (pc := 43) hC d_v_turnBinary_43 ?_
            refine ja_limbs_iaload (pc := 44) hC (vp_in_nI (by omega) (by decide)) d_v_turnBinary_44 ?_
            rw [nI_clamp (show i < 2 ^ 31 by omega), hli.1]
            refine j_V1v (pc := 45) (q0 := 3) (ci := 2) hC cw_V_47 (rmD_in (by decide)) (Nat.le_of_ble_eq_true rfl) rfl rfl d_v_turnBinary_45 (c_v_appendWholeLimb (f i) hli.2) (fun w2 h5 => ?_)
            obtain ⟨wo3, q1, q2, rfl⟩ := h5
            refine k48 1 wo3 (Or.inr rfl) (fun j hj => ?_) (fun j hj hj2 => by rw [q2 j hj]; exact h2 j hj hj2)
            rw [q1 j hj, whW]
            exact maF_congr h1 33 j hj
        rcases hst with ⟨rfl, hz2⟩ | rfl
        · refine j_iloadn2 (pc := 15) hC d_v_turnBinary_15 ?_
          refine j_if_ne (pc := 16) hC 28 d_v_turnBinary_16 (by decide) (fun h4 => ?_) (fun h4 => ?_)
          · exact absurd rfl h4
          · refine j_aloadn0 (pc := 19) hC d_v_turnBinary_19 ?_
            refine jg_V_9 (pc := 20) hC d_v_turnBinary_20 ?_
            refine j_iloadn3 (pc := 23) hC d_v_turnBinary_23 ?_
            refine ja_limbs_iaload (pc := 24) hC (vp_in_nI (by omega) (by decide)) d_v_turnBinary_24 ?_
            rw [nI_clamp (show i < 2 ^ 31 by omega)]
            refine j_if_eq (pc := 25) hC 32 d_v_turnBinary_25 (by decide) (fun h5 => ?_) (fun h5 => ?_)
            · refine j_iconst (pc := 32) (v := 0) hC d_v_turnBinary_32 (by decide) ?_
              refine j_istoren2 (pc := 33) hC d_v_turnBinary_33 (by decide) (by first | exact trivial | exact rfl) ?_
              refine j_iloadn2 (pc := 34) hC d_v_turnBinary_34 ?_
              refine j_if_eq (pc := 35) hC 48 d_v_turnBinary_35 (by decide) (fun h6 => ?_) (fun h6 => ?_)
              · have hz3 : ∀ j, j < i + 1 → f j = 0 := fun j hj => by
                  rcases Nat.lt_or_eq_of_le (Nat.le_of_lt_succ hj) with q | q
                  · exact hz2 j q
                  · rw [q]; exact hln.mp h5
                refine k48 0 wo2 (Or.inl ⟨rfl, hz3⟩) (fun j hj => ?_) h2
                rw [h1 j hj, whW_0 i hz2, whW_0 (i + 1) hz3]
              · exact absurd rfl h6
            · exact k28
        · refine j_iloadn2 (pc := 15) hC d_v_turnBinary_15 ?_
          refine j_if_ne (pc := 16) hC 28 d_v_turnBinary_16 (by decide) (fun h4 => ?_) (fun h4 => ?_)
          · exact k28
          · exact absurd h4 (by decide)
  refine j_aloadn0 (pc := 0) hC d_v_turnBinary_0 ?_
  refine j_V0i (pc := 1) (q0 := 3) (ci := 2) hC cw_V_43 (rmD_in (by decide)) (Nat.le_of_ble_eq_true rfl) rfl rfl d_v_turnBinary_1 (c_v_usedLimbs) (fun r w2 h1 => ?_)
  obtain ⟨u, hu, hz, -, rfl, rfl⟩ := h1
  refine j_istoren1 (pc := 4) hC d_v_turnBinary_4 (by decide) (by first | exact trivial | exact rfl) ?_
  refine j_iconst (pc := 5) (v := 0) hC d_v_turnBinary_5 (by decide) ?_
  refine j_istoren2 (pc := 6) hC d_v_turnBinary_6 (by decide) (by first | exact trivial | exact rfl) ?_
  refine j_iconst (pc := 7) (v := 0) hC d_v_turnBinary_7 (by decide) ?_
  refine j_istoren3 (pc := 8) hC d_v_turnBinary_8 (by decide) (by first | exact trivial | exact rfl) ?_
  exact loop1 35 0 u wo 0 rfl hu hz (Or.inl ⟨rfl, fun j hj => by omega⟩) (fun j q => by rw [hw0 j (by omega)]; rfl) (fun j _ q => hw0 j q)
set_option maxHeartbeats 4000000 in
theorem c_v_turnBinary_hex (hz : ∀ i, i < 155 → lb i = 0) : jM l y_v_turnBinary b_v_turnBinary 4 none (rmD 1) D (tyD ca) X [.ref (g 3)] (wd g ca len ps sp ng fm df dt wg ex hg mo tp lb wo) (jPv fun w => w = wd g ca len ps sp ng fm df dt wg ex hg mo tp lb wo) := by
  refine jM.of [some (.ref (g 3)), none, none, none] (by simp [jle, jent, Value.category]) rfl (Nat.le_of_ble_eq_true rfl) ?_
  intro p e s m args below meth c sz hC
  have loop1 : ∀ (n i : Nat), i + n = 35 → J p l e (rmD 1) s m args below meth c D (va_A (wd g ca len ps sp ng fm df dt wg ex hg mo tp lb wo) sz) 4 (MQ below (jQ D (wd g ca len ps sp ng fm df dt wg ex hg mo tp lb wo) sz (jPv fun w => w = wd g ca len ps sp ng fm df dt wg ex hg mo tp lb wo)) args s 0 0 (va_A (wd g ca len ps sp ng fm df dt wg ex hg mo tp lb wo) sz)) 9 [some (.ref (g 3)), some (.int (nI 0)), some (.int 0), some (.int (nI i))] [] (wd g ca len ps sp ng fm df dt wg ex hg mo tp lb wo) := by
    intro n
    induction n with
    | zero =>
      intro i hi
      have e : i = 35 := by omega
      subst e
      refine j_iloadn3 (pc := 9) hC d_v_turnBinary_9 ?_
      refine j_bipush (pc := 10) (v := 35) hC d_v_turnBinary_10 (by decide) ?_
      refine j_icmp_ge (pc := 12) hC 54 d_v_turnBinary_12 (by decide) (fun h3 => ?_) (fun h3 => ?_)
      · refine j_bipush (pc := 54) (v := 33) hC d_v_turnBinary_54 (by decide) ?_
        refine j_istoren3 (pc := 56) hC d_v_turnBinary_56 (by decide) (by first | exact trivial | exact rfl) ?_
        refine j_iloadn3 (pc := 57) hC d_v_turnBinary_57 ?_
        refine j_bipush (pc := 58) (v := 67) hC d_v_turnBinary_58 (by decide) ?_
        refine j_icmp_ge (pc := 60) hC 86 d_v_turnBinary_60 (by decide) (fun h4 => ?_) (fun h4 => ?_)
        · exact absurd h4 (by decide)
        · refine j_iloadn1 (pc := 63) hC d_v_turnBinary_63 ?_
          refine j_bipush (pc := 64) (v := 35) hC d_v_turnBinary_64 (by decide) ?_
          refine j_icmp_le (pc := 66) hC 86 d_v_turnBinary_66 (by decide) (fun h5 => ?_) (fun h5 => ?_)
          · refine j_bipush (pc := 86) (v := 35) hC d_v_turnBinary_86 (by decide) ?_
            refine j_istoren3 (pc := 88) hC d_v_turnBinary_88 (by decide) (by first | exact trivial | exact rfl) ?_
            refine j_iloadn3 (pc := 89) hC d_v_turnBinary_89 ?_
            refine j_iloadn1 (pc := 90) hC d_v_turnBinary_90 ?_
            refine j_icmp_ge (pc := 91) hC 125 d_v_turnBinary_91 (by decide) (fun h6 => ?_) (fun h6 => ?_)
            · exact j_vret hC d_v_turnBinary_125 ⟨rfl, rfl⟩
            · exact absurd (by decide) h6
          · exact absurd (by decide) h5
      · exact absurd (by decide) h3
    | succ n ih =>
      intro i hi
      refine j_iloadn3 (pc := 9) hC d_v_turnBinary_9 ?_
      refine j_bipush (pc := 10) (v := 35) hC d_v_turnBinary_10 (by decide) ?_
      refine j_icmp_ge (pc := 12) hC 54 d_v_turnBinary_12 (by decide) (fun h3 => ?_) (fun h3 => ?_)
      · have h3 : nI 35 ≤ nI i := h3
        rw [nI_leI (by omega) (by omega)] at h3
        omega
      · refine j_iloadn2 (pc := 15) hC d_v_turnBinary_15 ?_
        refine j_if_ne (pc := 16) hC 28 d_v_turnBinary_16 (by decide) (fun h4 => ?_) (fun h4 => ?_)
        · exact absurd rfl h4
        · refine j_aloadn0 (pc := 19) hC d_v_turnBinary_19 ?_
          refine jg_V_9 (pc := 20) hC d_v_turnBinary_20 ?_
          refine j_iloadn3 (pc := 23) hC d_v_turnBinary_23 ?_
          refine ja_limbs_iaload (pc := 24) hC (vp_in_nI (by omega) (by decide)) d_v_turnBinary_24 ?_
          rw [nI_clamp (show i < 2 ^ 31 by omega), hz i (by omega)]
          refine j_if_eq (pc := 25) hC 32 d_v_turnBinary_25 (by decide) (fun h5 => ?_) (fun h5 => ?_)
          · refine j_iconst (pc := 32) (v := 0) hC d_v_turnBinary_32 (by decide) ?_
            refine j_istoren2 (pc := 33) hC d_v_turnBinary_33 (by decide) (by first | exact trivial | exact rfl) ?_
            refine j_iloadn2 (pc := 34) hC d_v_turnBinary_34 ?_
            refine j_if_eq (pc := 35) hC 48 d_v_turnBinary_35 (by decide) (fun h6 => ?_) (fun h6 => ?_)
            · refine j_iinc3 (pc := 48) hC d_v_turnBinary_48 (by decide) (by first | exact trivial | exact rfl) ?_
              refine j_goto (pc := 51) hC 9 d_v_turnBinary_51 (by decide) ?_
              refine J.to rfl ?_ rfl rfl (ih (i + 1) (by omega))
              rw [← nI_1]
              rfl
            · exact absurd rfl h6
          · exact absurd rfl h5
  refine j_aloadn0 (pc := 0) hC d_v_turnBinary_0 ?_
  refine j_V0i (pc := 1) (q0 := 3) (ci := 2) hC cw_V_43 (rmD_in (by decide)) (Nat.le_of_ble_eq_true rfl) rfl rfl d_v_turnBinary_1 (c_v_usedLimbs) (fun r w2 h1 => ?_)
  obtain ⟨u, hu, -, hne, rfl, rfl⟩ := h1
  have hu0 : u = 0 := by
    rcases Nat.eq_zero_or_pos u with q | q
    · exact q
    · exact absurd (hz (u - 1) (by omega)) (hne q)
  subst hu0
  refine j_istoren1 (pc := 4) hC d_v_turnBinary_4 (by decide) (by first | exact trivial | exact rfl) ?_
  refine j_iconst (pc := 5) (v := 0) hC d_v_turnBinary_5 (by decide) ?_
  refine j_istoren2 (pc := 6) hC d_v_turnBinary_6 (by decide) (by first | exact trivial | exact rfl) ?_
  refine j_iconst (pc := 7) (v := 0) hC d_v_turnBinary_7 (by decide) ?_
  refine j_istoren3 (pc := 8) hC d_v_turnBinary_8 (by decide) (by first | exact trivial | exact rfl) ?_
  exact loop1 35 0 rfl
end VTA
end
section
/-! THE CLASS: Value.addDecimalDigit, addHexDigit; by places -/
/-- the limbs hold the digits e of the places 0 to 1394 -/
def Le (lb : Nat → Int32) (e : Nat → Nat) : Prop := ∀ k, k < 155 → lb k = nI (hv 10 (fun i => e (9 * k + i)) 9)
theorem Le_lt {e : Nat → Nat} (he : ∀ P, e P < 10) (k : Nat) : hv 10 (fun i => e (9 * k + i)) 9 < 1000000000 := hv_lt (B := 10) (n := 9) (fun i _ => he _)
theorem Le.Lr {lb : Nat → Int32} {e : Nat → Nat} (h : Le lb e) (he : ∀ P, e P < 10) : Lr lb (fun k => hv 10 (fun i => e (9 * k + i)) 9) := fun k hk => ⟨h k hk, Le_lt he k⟩
theorem Le.set {lb : Nat → Int32} {e : Nat → Nat} {P d : Nat} (h : Le lb e) (hP : P < 1395) (h0 : e P = 0) : Le (upd lb (P / 9) (lb (P / 9) + nI d * nI (10 ^ (8 - P % 9)))) (nup e P d) := fun k hk => by
  have hr : P % 9 < 9 := Nat.mod_lt _ (by omega)
  have hdm := Nat.div_add_mod P 9
  unfold upd
  by_cases e1 : k = P / 9
  · subst e1
    rw [if_pos rfl, h _ hk, pk_mul, nI_add]
    congr 1
    have h1 := hv_set (B := 10) (f := fun i => e (9 * (P / 9) + i)) (k := P % 9) (x := d) (n := 9) hr
    have e2 : e (9 * (P / 9) + P % 9) = 0 := by rw [hdm]; exact h0
    rw [e2, Nat.zero_mul, Nat.add_zero] at h1
    rw [show 9 - 1 - P % 9 = 8 - P % 9 by omega] at h1
    rw [← h1]
    apply hv_congr
    intro i hi
    unfold nup
    by_cases e3 : i = P % 9
    · rw [if_pos e3, if_pos (by omega)]
    · rw [if_neg e3, if_neg (by omega)]
  · rw [if_neg e1, h _ hk]
    congr 1
    apply hv_congr
    intro i hi
    unfold nup
    rw [if_neg (by omega)]
/-- the words hold the bits e of the places 0 to 2143 -/
def We (wo : Nat → Int32) (e : Nat → Nat) : Prop := ∀ k, k < 67 → un (wo k) = hv 2 (fun i => e (32 * k + i)) 32
theorem We.num {wo : Nat → Int32} {e : Nat → Nat} (h : We wo e) : wnum wo = hv 2 e 2144 := by
  have := hv_group (b := 2) (w := 32) (e := e) (f := fun i => un (wo i)) (n := 67) h
  exact this
theorem or_bit {x k : Nat} (hk : x / 2 ^ k % 2 = 0) : x ||| 2 ^ k = x + 2 ^ k := by
  have h1 := Nat.div_add_mod x (2 ^ (k + 1))
  have hlt : x % 2 ^ (k + 1) < 2 ^ k := by
    have h2 : x % 2 ^ (k + 1) / 2 ^ k % 2 = 0 := by
      rw [Nat.pow_succ, Nat.mod_mul_right_div_self]
      omega
    exact div_mod_zero (Nat.mod_lt _ (Nat.two_pow_pos _)) h2
  apply Nat.eq_of_testBit_eq
  intro i
  rw [Nat.testBit_or, Nat.testBit_two_pow]
  rcases Nat.lt_trichotomy i k with h | h | h
  · rw [Nat.add_comm x, Nat.testBit_two_pow_add_gt h]
    simp [show ¬ k = i by omega]
  · subst h
    rw [Nat.add_comm x, Nat.testBit_two_pow_add_eq]
    have : x.testBit i = false := by
      rw [Nat.testBit_eq_decide_div_mod_eq]
      simp [hk]
    simp [this]
  · have e1 : x + 2 ^ k = 2 ^ (k + 1) * (x / 2 ^ (k + 1)) + (x % 2 ^ (k + 1) + 2 ^ k) := by omega
    have hlt2 : x % 2 ^ (k + 1) + 2 ^ k < 2 ^ (k + 1) := by rw [Nat.pow_succ] at *; omega
    rw [e1, Nat.testBit_two_pow_mul_add _ hlt2]
    have e2 : x.testBit i = (x / 2 ^ (k + 1)).testBit (i - (k + 1)) := by
      conv => lhs; rw [← h1]
      rw [Nat.testBit_two_pow_mul_add _ (Nat.mod_lt _ (Nat.two_pow_pos _))]
      simp [show ¬ i < k + 1 by omega]
    rw [e2]
    simp [show ¬ i < k + 1 by omega, show ¬ k = i by omega]
/-- a digit laid at a place, if the place is kept -/
def eP (C : Nat) (e : Nat → Nat) (P : Int) (d : Nat) : Nat → Nat := if P < 0 ∨ (C : Int) ≤ P then e else nup e P.toNat d
theorem eS_eP (C : Nat) (dgt : Nat → Nat) (s : Int) (k : Nat) : eS C dgt s (k + 1) = eP C (eS C dgt s k) (s + (k : Int)) (dgt k) := rfl
theorem eP_0 {C : Nat} {e : Nat → Nat} {P : Int} (h : ∀ n : Nat, (n : Int) = P → e n = 0) : eP C e P 0 = e := by
  unfold eP
  split
  · rfl
  · funext j
    unfold nup
    split
    · rename_i h1 h2
      rw [h2]
      exact (h P.toNat (by omega)).symm
    · rfl
theorem eP_swap {C : Nat} {e : Nat → Nat} {P Q : Int} {a b : Nat} (h : P ≠ Q) : eP C (eP C e P a) Q b = eP C (eP C e Q b) P a := by
  unfold eP
  by_cases h1 : P < 0 ∨ (C : Int) ≤ P <;> by_cases h2 : Q < 0 ∨ (C : Int) ≤ Q
  · simp only [if_pos h1, if_pos h2]
  · simp only [if_pos h1, if_neg h2]
  · simp only [if_neg h1, if_pos h2]
  · simp only [if_neg h1, if_neg h2]
    funext j
    unfold nup
    by_cases h3 : j = Q.toNat
    · have h4 : ¬ j = P.toNat := by omega
      simp only [if_pos h3, if_neg h4]
    · simp only [if_neg h3]
theorem eP_at {C : Nat} {e : Nat → Nat} {P : Int} {d n : Nat} (h : (n : Int) ≠ P) : eP C e P d n = e n := by
  unfold eP
  split
  · rfl
  · unfold nup
    rw [if_neg (by omega)]
theorem eP_lt {b C : Nat} {e : Nat → Nat} {P : Int} {d : Nat} (he : ∀ n, e n < b) (hd : d < b) (n : Nat) : eP C e P d n < b := by
  unfold eP
  split
  · exact he n
  · unfold nup
    split
    · exact hd
    · exact he n
section VP
variable {l : Launch} {D : va_G} {X : jX} {g : Nat → Nat} {ca : Nat → ClassId} {len ps sp ng fm df dt wg ex hg mo : Int32} {tp lb wo : Nat → Int32}
set_option maxHeartbeats 2000000 in
theorem c_v_addDecimalDigit (d : Nat) (wt : Int32) (e : Nat → Nat) (hd : d < 10) (hLe : Le lb e) (h0 : ∀ n : Nat, (n : Int) = 314 - wt.toInt → e n = 0) : jM l y_v_addDecimalDigit b_v_addDecimalDigit 5 none (rmD 0) D (tyD ca) X [.ref (g 3), .int (nI d), .int wt] (wd g ca len ps sp ng fm df dt wg ex hg mo tp lb wo) (jPv fun w => ∃ (lb2 : Nat → Int32) (hg2 mo2 : Int32), Le lb2 (eP 1395 e (314 - wt.toInt) d) ∧ (hg2 ≠ 0 ↔ (hg ≠ 0 ∨ (d ≠ 0 ∧ 314 - wt.toInt < 0))) ∧ (mo2 ≠ 0 ↔ (mo ≠ 0 ∨ (d ≠ 0 ∧ 1395 ≤ 314 - wt.toInt))) ∧ w = wd g ca len ps sp ng fm df dt wg ex (hg2) (mo2) tp (lb2) wo) := by
  refine jM.of [some (.ref (g 3)), some (.int (nI d)), some (.int wt), none, none] (by simp [jle, jent, Value.category]) rfl (Nat.le_of_ble_eq_true rfl) ?_
  intro p env s m args below meth c sz hC
  have e314 : (314 : Int32).toInt = 314 := rfl
  have e1080 : (-1080 : Int32).toInt = -1080 := rfl
  refine j_iloadn1 (pc := 0) hC d_v_addDecimalDigit_0 ?_
  refine j_if_ne (pc := 1) hC 5 d_v_addDecimalDigit_1 (by decide) (fun h1 => ?_) (fun h1 => ?_)
  · have hd0 : d ≠ 0 := fun q => h1 (by rw [q]; rfl)
    refine j_iloadn2 (pc := 5) hC d_v_addDecimalDigit_5 ?_
    refine j_sipush (pc := 6) (v := 314) hC d_v_addDecimalDigit_6 (by decide) ?_
    refine j_icmp_le (pc := 9) hC 20 d_v_addDecimalDigit_9 (by decide) (fun h2 => ?_) (fun h2 => ?_)
    · rw [i32le, e314] at h2
      refine j_iloadn2 (pc := 20) hC d_v_addDecimalDigit_20 ?_
      refine j_sipush (pc := 21) (v := -1080) hC d_v_addDecimalDigit_21 (by decide) ?_
      refine j_icmp_ge (pc := 24) hC 35 d_v_addDecimalDigit_24 (by decide) (fun h3 => ?_) (fun h3 => ?_)
      · rw [i32le, e1080] at h3
        obtain ⟨P, hP⟩ : ∃ P : Nat, (P : Int) = 314 - wt.toInt := ⟨(314 - wt.toInt).toNat, by omega⟩
        have hPlt : P < 1395 := by omega
        have eP0 := h0 P hP
        refine j_sipush (pc := 35) (v := 314) hC d_v_addDecimalDigit_35 (by decide) ?_
        refine j_iloadn2 (pc := 38) hC d_v_addDecimalDigit_38 ?_
        refine j_isub (pc := 39) hC d_v_addDecimalDigit_39 ?_
        refine J.topi (y := nI P) (nI_to (by omega) (by rw [tsub (by omega) (by omega), e314]; omega)) ?_
        refine j_istoren3 (pc := 40) hC d_v_addDecimalDigit_40 (by decide) (by first | exact trivial | exact rfl) ?_
        refine js_V_29 (pc := 41) hC d_v_addDecimalDigit_41 ?_
        refine j_bipush (pc := 44) (v := 8) hC d_v_addDecimalDigit_44 (by decide) ?_
        refine j_iloadn3 (pc := 46) hC d_v_addDecimalDigit_46 ?_
        refine j_bipush (pc := 47) (v := 9) hC d_v_addDecimalDigit_47 (by decide) ?_
        refine j_irem (pc := 49) hC d_v_addDecimalDigit_49 (by decide) ?_
        refine j_isub (pc := 50) hC d_v_addDecimalDigit_50 ?_
        refine J.topi (y := nI (8 - P % 9)) (by rw [show (9 : Int32) = nI 9 from rfl, pk_rem (by omega) (by omega) (by omega), show (8 : Int32) = nI 8 from rfl, pk_sub (by omega)]) ?_
        refine j_pow (pc := 51) hC (by omega) d_v_addDecimalDigit_51 ?_
        refine j_istore4 (pc := 52) hC d_v_addDecimalDigit_52 (by decide) (by first | exact trivial | exact rfl) ?_
        refine j_aloadn0 (pc := 54) hC d_v_addDecimalDigit_54 ?_
        refine jg_V_9 (pc := 55) hC d_v_addDecimalDigit_55 ?_
        refine j_iloadn3 (pc := 58) hC d_v_addDecimalDigit_58 ?_
        refine j_bipush (pc := 59) (v := 9) hC d_v_addDecimalDigit_59 (by decide) ?_
        refine j_idiv (pc := 61) hC d_v_addDecimalDigit_61 (by decide) ?_
        refine J.topi (y := nI (P / 9)) (by rw [show (9 : Int32) = nI 9 from rfl, pk_div (by omega) (by omega) (by omega)]) ?_
        first | refine j_dup2 (pc := 62) hC d_v_addDecimalDigit_62 rfl rfl ?_ | refine j_dup2L (pc := 62) hC d_v_addDecimalDigit_62 rfl ?_
        refine ja_limbs_iaload (pc := 63) hC (vp_in_nI (by omega) (by decide)) d_v_addDecimalDigit_63 ?_
        refine j_iloadn1 (pc := 64) hC d_v_addDecimalDigit_64 ?_
        refine j_iload4 (pc := 65) hC d_v_addDecimalDigit_65 ?_
        refine j_imul (pc := 67) hC d_v_addDecimalDigit_67 ?_
        refine j_iadd (pc := 68) hC d_v_addDecimalDigit_68 ?_
        refine ja_limbs_iastore (pc := 69) hC (vp_in_nI (by omega) (by decide)) d_v_addDecimalDigit_69 ?_
        refine j_vret hC d_v_addDecimalDigit_70 ⟨rfl, _, hg, mo, ?_, ⟨Or.inl, fun q => q.elim id (fun q => by omega)⟩, ⟨Or.inl, fun q => q.elim id (fun q => by omega)⟩, rfl⟩
        rw [nI_clamp (by omega)]
        have hset := hLe.set (d := d) hPlt eP0
        unfold eP
        rw [if_neg (by omega), show (314 - wt.toInt).toNat = P by omega]
        exact hset
      · rw [i32le, e1080] at h3
        refine j_aloadn0 (pc := 27) hC d_v_addDecimalDigit_27 ?_
        refine j_iconst (pc := 28) (v := 1) hC d_v_addDecimalDigit_28 (by decide) ?_
        refine jp_V_20 (pc := 29) hC ⟨rfl,rfl⟩ d_v_addDecimalDigit_29 ?_
        refine j_goto (pc := 32) hC 70 d_v_addDecimalDigit_32 (by decide) ?_
        refine j_vret hC d_v_addDecimalDigit_70 ⟨rfl, lb, hg, 1, ?_, ⟨Or.inl, fun q => q.elim id (fun q => by omega)⟩, ⟨fun _ => Or.inr ⟨hd0, by omega⟩, fun _ => by decide⟩, rfl⟩
        unfold eP
        rw [if_pos (by omega)]
        exact hLe
    · rw [i32le, e314] at h2
      refine j_aloadn0 (pc := 12) hC d_v_addDecimalDigit_12 ?_
      refine j_iconst (pc := 13) (v := 1) hC d_v_addDecimalDigit_13 (by decide) ?_
      refine jp_V_16 (pc := 14) hC ⟨rfl,rfl⟩ d_v_addDecimalDigit_14 ?_
      refine j_goto (pc := 17) hC 70 d_v_addDecimalDigit_17 (by decide) ?_
      refine j_vret hC d_v_addDecimalDigit_70 ⟨rfl, lb, 1, mo, ?_, ⟨fun _ => Or.inr ⟨hd0, by omega⟩, fun _ => by decide⟩, ⟨Or.inl, fun q => q.elim id (fun q => by omega)⟩, rfl⟩
      unfold eP
      rw [if_pos (by omega)]
      exact hLe
  · have hd0 : d = 0 := by
      have h2 : nI d = nI 0 := h1
      rw [nI_eq (by omega) (by omega)] at h2
      exact h2
    subst hd0
    refine j_vret hC d_v_addDecimalDigit_4 ⟨rfl, lb, hg, mo, ?_, ⟨Or.inl, fun q => q.elim id (fun q => absurd rfl q.1)⟩, ⟨Or.inl, fun q => q.elim id (fun q => absurd rfl q.1)⟩, rfl⟩
    rw [eP_0 h0]
    exact hLe
theorem We_bit {wo : Nat → Int32} {e : Nat → Nat} {P : Nat} (h : We wo e) (he : ∀ n, e n < 2) (hP : P < 2144) (h0 : e P = 0) : We (upd wo (P / 32) (wo (P / 32) ||| (1 : Int32) <<< (nI (31 - P % 32) &&& 31))) (nup e P 1) := fun k hk => by
  have hr : P % 32 < 32 := Nat.mod_lt _ (by omega)
  have hdm := Nat.div_add_mod P 32
  have hone : (1 : Int32) <<< (nI (31 - P % 32) &&& 31) = nI (2 ^ (31 - P % 32)) := by
    have := pk_shlN (n := 1) (nI (31 - P % 32) &&& 31) (31 - P % 32) (sl32 _ (by omega)) (by rw [Nat.one_mul]; exact Nat.pow_lt_pow_right (by omega) (by omega))
    rw [Nat.one_mul] at this
    exact this
  unfold upd
  by_cases e1 : k = P / 32
  · subst e1
    rw [if_pos rfl, hone]
    have hor : un (wo (P / 32) ||| nI (2 ^ (31 - P % 32))) = un (wo (P / 32)) ||| 2 ^ (31 - P % 32) := by
      have h2 : un (nI (2 ^ (31 - P % 32))) = 2 ^ (31 - P % 32) := by
        rw [un_nI]
        exact Nat.mod_eq_of_lt (Nat.pow_lt_pow_right (a := 2) (m := 31 - P % 32) (n := 32) (by omega) (by omega))
      have h3 : un (wo (P / 32) ||| nI (2 ^ (31 - P % 32))) = un (wo (P / 32)) ||| un (nI (2 ^ (31 - P % 32))) := by
        unfold un
        rw [Int32.toBitVec_or, BitVec.toNat_or]
      rw [h3, h2]
    have hb : hv 2 (fun i => e (32 * (P / 32) + i)) 32 / 2 ^ (32 - 1 - P % 32) % 2 = e (32 * (P / 32) + P % 32) := hv_dig (B := 2) (by omega) (f := fun i => e (32 * (P / 32) + i)) hr (fun i _ => he _)
    rw [hdm, h0, show 32 - 1 - P % 32 = 31 - P % 32 by omega] at hb
    rw [hor, h _ hk, or_bit hb]
    have h1 := hv_set (B := 2) (f := fun i => e (32 * (P / 32) + i)) (k := P % 32) (x := 1) (n := 32) hr
    have e2 : e (32 * (P / 32) + P % 32) = 0 := by rw [hdm]; exact h0
    rw [e2, Nat.zero_mul, Nat.add_zero, Nat.one_mul, show 32 - 1 - P % 32 = 31 - P % 32 by omega] at h1
    rw [← h1]
    apply hv_congr
    intro i hi
    unfold nup
    by_cases e3 : i = P % 32
    · rw [if_pos e3, if_pos (by omega)]
    · rw [if_neg e3, if_neg (by omega)]
  · rw [if_neg e1, h _ hk]
    apply hv_congr
    intro i hi
    unfold nup
    rw [if_neg (by omega)]
set_option maxHeartbeats 2000000 in
theorem c_v_addBit (wt : Int32) (e : Nat → Nat) (he : ∀ n, e n < 2) (hWe : We wo e) (h0 : ∀ n : Nat, (n : Int) = 1055 - wt.toInt → e n = 0) : jM l y_v_addBit b_v_addBit 2 none (rmD 1) D (tyD ca) X [.ref (g 3), .int wt] (wd g ca len ps sp ng fm df dt wg ex hg mo tp lb wo) (jPv fun w => ∃ (wo2 : Nat → Int32) (hg2 mo2 : Int32), We wo2 (eP 2144 e (1055 - wt.toInt) 1) ∧ (hg2 ≠ 0 ↔ (hg ≠ 0 ∨ 1055 - wt.toInt < 0)) ∧ (mo2 ≠ 0 ↔ (mo ≠ 0 ∨ 2144 ≤ 1055 - wt.toInt)) ∧ w = wd g ca len ps sp ng fm df dt wg ex (hg2) (mo2) tp lb (wo2)) := by
  refine jM.of [some (.ref (g 3)), some (.int wt)] (by simp [jle, jent, Value.category]) rfl (Nat.le_of_ble_eq_true rfl) ?_
  intro p env s m args below meth c sz hC
  have e1055 : (1055 : Int32).toInt = 1055 := rfl
  have e1088 : (-1088 : Int32).toInt = -1088 := rfl
  refine j_iloadn1 (pc := 0) hC d_v_addBit_0 ?_
  refine j_sipush (pc := 1) (v := 1055) hC d_v_addBit_1 (by decide) ?_
  refine j_icmp_le (pc := 4) hC 15 d_v_addBit_4 (by decide) (fun h2 => ?_) (fun h2 => ?_)
  · rw [i32le, e1055] at h2
    refine j_iloadn1 (pc := 15) hC d_v_addBit_15 ?_
    refine j_sipush (pc := 16) (v := -1088) hC d_v_addBit_16 (by decide) ?_
    refine j_icmp_ge (pc := 19) hC 30 d_v_addBit_19 (by decide) (fun h3 => ?_) (fun h3 => ?_)
    · rw [i32le, e1088] at h3
      obtain ⟨P, hP⟩ : ∃ P : Nat, (P : Int) = 1055 - wt.toInt := ⟨(1055 - wt.toInt).toNat, by omega⟩
      have hPlt : P < 2144 := by omega
      have eP0 := h0 P hP
      have hpw : wt = pw (2143 - P + 1) := pw_inj (by omega) (by omega)
      subst hpw
      refine j_aloadn0 (pc := 30) hC d_v_addBit_30 ?_
      refine jg_V_13 (pc := 31) hC d_v_addBit_31 ?_
      refine j_iloadn1 (pc := 34) hC d_v_addBit_34 ?_
      refine j_S1i (pc := 35) hC cw_V_36 (rmD_in (by decide)) (Nat.le_of_ble_eq_true rfl) d_v_addBit_35 (c_v_wordOf (2143 - P) (by omega)) (fun r w2 h4 => ?_)
      obtain ⟨rfl, rfl⟩ := h4
      have ew : 66 - (2143 - P) / 32 = P / 32 := by omega
      have es : (2143 - P) % 32 = 31 - P % 32 := by omega
      rw [ew]
      first | refine j_dup2 (pc := 38) hC d_v_addBit_38 rfl rfl ?_ | refine j_dup2L (pc := 38) hC d_v_addBit_38 rfl ?_
      refine ja_words_iaload (pc := 39) hC (vp_in_nI (by omega) (by decide)) d_v_addBit_39 ?_
      refine j_iconst (pc := 40) (v := 1) hC d_v_addBit_40 (by decide) ?_
      refine j_iloadn1 (pc := 41) hC d_v_addBit_41 ?_
      refine j_S1i (pc := 42) hC cw_V_40 (rmD_in (by decide)) (Nat.le_of_ble_eq_true rfl) d_v_addBit_42 (c_v_shiftOf (2143 - P) (by omega)) (fun r w2 h5 => ?_)
      obtain ⟨rfl, rfl⟩ := h5
      rw [es]
      refine j_ishl (pc := 45) hC d_v_addBit_45 ?_
      refine j_ior (pc := 46) hC d_v_addBit_46 ?_
      refine ja_words_iastore (pc := 47) hC (vp_in_nI (by omega) (by decide)) d_v_addBit_47 ?_
      refine j_vret hC d_v_addBit_48 ⟨rfl, _, hg, mo, ?_, ⟨Or.inl, fun q => q.elim id (fun q => by omega)⟩, ⟨Or.inl, fun q => q.elim id (fun q => by omega)⟩, rfl⟩
      rw [nI_clamp (by omega)]
      have hset := We_bit hWe he hPlt eP0
      unfold eP
      rw [if_neg (by omega), show (1055 - (pw (2143 - P + 1)).toInt).toNat = P by omega]
      exact hset
    · rw [i32le, e1088] at h3
      refine j_aloadn0 (pc := 22) hC d_v_addBit_22 ?_
      refine j_iconst (pc := 23) (v := 1) hC d_v_addBit_23 (by decide) ?_
      refine jp_V_20 (pc := 24) hC ⟨rfl,rfl⟩ d_v_addBit_24 ?_
      refine j_goto (pc := 27) hC 48 d_v_addBit_27 (by decide) ?_
      refine j_vret hC d_v_addBit_48 ⟨rfl, wo, hg, 1, ?_, ⟨Or.inl, fun q => q.elim id (fun q => by omega)⟩, ⟨fun _ => Or.inr (by omega), fun _ => by decide⟩, rfl⟩
      unfold eP
      rw [if_pos (by omega)]
      exact hWe
  · rw [i32le, e1055] at h2
    refine j_aloadn0 (pc := 7) hC d_v_addBit_7 ?_
    refine j_iconst (pc := 8) (v := 1) hC d_v_addBit_8 (by decide) ?_
    refine jp_V_16 (pc := 9) hC ⟨rfl,rfl⟩ d_v_addBit_9 ?_
    refine j_goto (pc := 12) hC 48 d_v_addBit_12 (by decide) ?_
    refine j_vret hC d_v_addBit_48 ⟨rfl, wo, 1, mo, ?_, ⟨fun _ => Or.inr (by omega), fun _ => by decide⟩, ⟨Or.inl, fun q => q.elim id (fun q => by omega)⟩, rfl⟩
    unfold eP
    rw [if_pos (by omega)]
    exact hWe
/-- the bits of a hexadecimal digit laid down, the lowest first; s: the place of the highest -/
def eH (e : Nat → Nat) (s : Int) (d : Nat) : Nat → Nat → Nat
  | 0 => e
  | i + 1 => eP 2144 (eH e s d i) (s + 3 - (i : Int)) (d / 2 ^ i % 2)
theorem eH_at {e : Nat → Nat} {s : Int} {d n : Nat} : ∀ i : Nat, (n : Int) ≤ s + 3 - (i : Int) → eH e s d i n = e n
  | 0, _ => rfl
  | i + 1, h => by
    rw [eH, eP_at (by omega)]
    exact eH_at i (by omega)
theorem eH_lt {e : Nat → Nat} {s : Int} {d : Nat} (he : ∀ n, e n < 2) : ∀ i n : Nat, eH e s d i n < 2
  | 0, n => he n
  | i + 1, n => eP_lt (eH_lt he i) (Nat.mod_lt _ (by omega)) n
theorem eH_4 {e : Nat → Nat} {s : Int} {d : Nat} : eH e s d 4 = eP 2144 (eP 2144 (eP 2144 (eP 2144 e s (d / 2 ^ 3 % 2)) (s + 1) (d / 2 ^ 2 % 2)) (s + 2) (d / 2 ^ 1 % 2)) (s + 3) (d / 2 ^ 0 % 2) := by
  show eP 2144 (eP 2144 (eP 2144 (eP 2144 e (s + 3 - ((0 : Nat) : Int)) (d / 2 ^ 0 % 2)) (s + 3 - ((1 : Nat) : Int)) (d / 2 ^ 1 % 2)) (s + 3 - ((2 : Nat) : Int)) (d / 2 ^ 2 % 2)) (s + 3 - ((3 : Nat) : Int)) (d / 2 ^ 3 % 2) = _
  rw [show s + 3 - ((0 : Nat) : Int) = s + 3 by omega, show s + 3 - ((1 : Nat) : Int) = s + 2 by omega, show s + 3 - ((2 : Nat) : Int) = s + 1 by omega, show s + 3 - ((3 : Nat) : Int) = s by omega]
  rw [eP_swap (e := e) (P := s + 3) (Q := s + 2) (by omega), eP_swap (P := s + 3) (Q := s + 1) (by omega), eP_swap (P := s + 3) (Q := s) (by omega), eP_swap (e := e) (P := s + 2) (Q := s + 1) (by omega), eP_swap (P := s + 2) (Q := s) (by omega), eP_swap (e := e) (P := s + 1) (Q := s) (by omega)]
theorem ex_succ {P : Nat → Prop} {A B C : Prop} {i : Nat} (h1 : A ↔ (B ∨ ∃ j, j < i ∧ P j)) (h2 : C ↔ (A ∨ P i)) : C ↔ (B ∨ ∃ j, j < i + 1 ∧ P j) := by
  rw [h2, h1]
  constructor
  · rintro ((q | ⟨j, q1, q2⟩) | q)
    · exact Or.inl q
    · exact Or.inr ⟨j, by omega, q2⟩
    · exact Or.inr ⟨i, by omega, q⟩
  · rintro (q | ⟨j, q1, q2⟩)
    · exact Or.inl (Or.inl q)
    · rcases Nat.lt_or_eq_of_le (Nat.le_of_lt_succ q1) with q | q
      · exact Or.inl (Or.inr ⟨j, q, q2⟩)
      · rw [q] at q2
        exact Or.inr q2
theorem ex_zero {P : Nat → Prop} {B : Prop} : B ↔ (B ∨ ∃ j, j < 0 ∧ P j) := ⟨Or.inl, fun q => q.elim id (fun ⟨_, q, _⟩ => absurd q (by omega))⟩
set_option maxHeartbeats 2000000 in
theorem c_v_addHexDigit (d : Nat) (wt : Int32) (e : Nat → Nat) (hd : d < 16) (hw : -1000000000 < wt.toInt ∧ wt.toInt < 1000000000) (he : ∀ n, e n < 2) (hWe : We wo e) (h0 : ∀ n : Nat, 1052 - wt.toInt ≤ (n : Int) → e n = 0) : jM l y_v_addHexDigit b_v_addHexDigit 4 none (rmD 2) D (tyD ca) X [.ref (g 3), .int (nI d), .int wt] (wd g ca len ps sp ng fm df dt wg ex hg mo tp lb wo) (jPv fun w => ∃ (wo2 : Nat → Int32) (hg2 mo2 : Int32), We wo2 (eH e (1052 - wt.toInt) d 4) ∧ (hg2 ≠ 0 ↔ (hg ≠ 0 ∨ ∃ j : Nat, j < 4 ∧ d / 2 ^ j % 2 ≠ 0 ∧ 1052 - wt.toInt + 3 - (j : Int) < 0)) ∧ (mo2 ≠ 0 ↔ (mo ≠ 0 ∨ ∃ j : Nat, j < 4 ∧ d / 2 ^ j % 2 ≠ 0 ∧ 2144 ≤ 1052 - wt.toInt + 3 - (j : Int))) ∧ w = wd g ca len ps sp ng fm df dt wg ex (hg2) (mo2) tp lb (wo2)) := by
  refine jM.of [some (.ref (g 3)), some (.int (nI d)), some (.int wt), none] (by simp [jle, jent, Value.category]) rfl (Nat.le_of_ble_eq_true rfl) ?_
  intro p env s m args below meth c sz hC
  have loop : ∀ (n i : Nat) (wo2 : Nat → Int32) (hg2 mo2 : Int32), i + n = 4 → We wo2 (eH e (1052 - wt.toInt) d i) → (hg2 ≠ 0 ↔ (hg ≠ 0 ∨ ∃ j : Nat, j < i ∧ d / 2 ^ j % 2 ≠ 0 ∧ 1052 - wt.toInt + 3 - (j : Int) < 0)) → (mo2 ≠ 0 ↔ (mo ≠ 0 ∨ ∃ j : Nat, j < i ∧ d / 2 ^ j % 2 ≠ 0 ∧ 2144 ≤ 1052 - wt.toInt + 3 - (j : Int))) → J p l env (rmD 2) s m args below meth c D (va_A (wd g ca len ps sp ng fm df dt wg ex hg mo tp lb wo) sz) 4 (MQ below (jQ D (wd g ca len ps sp ng fm df dt wg ex hg mo tp lb wo) sz (jPv fun w => ∃ (wo2 : Nat → Int32) (hg2 mo2 : Int32), We wo2 (eH e (1052 - wt.toInt) d 4) ∧ (hg2 ≠ 0 ↔ (hg ≠ 0 ∨ ∃ j : Nat, j < 4 ∧ d / 2 ^ j % 2 ≠ 0 ∧ 1052 - wt.toInt + 3 - (j : Int) < 0)) ∧ (mo2 ≠ 0 ↔ (mo ≠ 0 ∨ ∃ j : Nat, j < 4 ∧ d / 2 ^ j % 2 ≠ 0 ∧ 2144 ≤ 1052 - wt.toInt + 3 - (j : Int))) ∧ w = wd g ca len ps sp ng fm df dt wg ex (hg2) (mo2) tp lb (wo2))) args s 0 0 (va_A (wd g ca len ps sp ng fm df dt wg ex hg mo tp lb wo) sz)) 2 [some (.ref (g 3)), some (.int (nI d)), some (.int wt), some (.int (nI i))] [] (wd g ca len ps sp ng fm df dt wg ex (hg2) (mo2) tp lb (wo2)) := by
    intro n
    induction n with
    | zero =>
      intro i wo2 hg2 mo2 hi h1 h2 h3
      have e4 : i = 4 := by clear h2 h3; omega
      subst e4
      refine j_iloadn3 (pc := 2) hC d_v_addHexDigit_2 ?_
      refine j_iconst (pc := 3) (v := 4) hC d_v_addHexDigit_3 (by decide) ?_
      refine j_icmp_ge (pc := 4) hC 28 d_v_addHexDigit_4 (by decide) (fun h4 => ?_) (fun h4 => ?_)
      · exact j_vret hC d_v_addHexDigit_28 ⟨rfl, wo2, hg2, mo2, h1, h2, h3, rfl⟩
      · exact absurd (by decide) h4
    | succ n ih =>
      intro i wo2 hg2 mo2 hi h1 h2 h3
      have hi4 : i < 4 := by clear h2 h3; omega
      have hi1 : i + 1 + n = 4 := by clear h2 h3; omega
      have hbit : (((nI d).toUInt32 >>> ((nI i).toUInt32 &&& Int32.toUInt32 31)).toInt32 &&& 1) = nI (d / 2 ^ i % 2) := by
        rw [bit_at _ (by omega), un_nI, Nat.mod_eq_of_lt (a := d) (by omega)]
      have k22 : ∀ (wo3 : Nat → Int32) (hg3 mo3 : Int32), We wo3 (eH e (1052 - wt.toInt) d (i + 1)) → (hg3 ≠ 0 ↔ (hg2 ≠ 0 ∨ (d / 2 ^ i % 2 ≠ 0 ∧ 1052 - wt.toInt + 3 - (i : Int) < 0))) → (mo3 ≠ 0 ↔ (mo2 ≠ 0 ∨ (d / 2 ^ i % 2 ≠ 0 ∧ 2144 ≤ 1052 - wt.toInt + 3 - (i : Int)))) → J p l env (rmD 2) s m args below meth c D (va_A (wd g ca len ps sp ng fm df dt wg ex hg mo tp lb wo) sz) 4 (MQ below (jQ D (wd g ca len ps sp ng fm df dt wg ex hg mo tp lb wo) sz (jPv fun w => ∃ (wo2 : Nat → Int32) (hg2 mo2 : Int32), We wo2 (eH e (1052 - wt.toInt) d 4) ∧ (hg2 ≠ 0 ↔ (hg ≠ 0 ∨ ∃ j : Nat, j < 4 ∧ d / 2 ^ j % 2 ≠ 0 ∧ 1052 - wt.toInt + 3 - (j : Int) < 0)) ∧ (mo2 ≠ 0 ↔ (mo ≠ 0 ∨ ∃ j : Nat, j < 4 ∧ d / 2 ^ j % 2 ≠ 0 ∧ 2144 ≤ 1052 - wt.toInt + 3 - (j : Int))) ∧ w = wd g ca len ps sp ng fm df dt wg ex (hg2) (mo2) tp lb (wo2))) args s 0 0 (va_A (wd g ca len ps sp ng fm df dt wg ex hg mo tp lb wo) sz)) 22 [some (.ref (g 3)), some (.int (nI d)), some (.int wt), some (.int (nI i))] [] (wd g ca len ps sp ng fm df dt wg ex (hg3) (mo3) tp lb (wo3)) := by
        intro wo3 hg3 mo3 q1 q2 q3
        refine j_iinc3 (pc := 22) hC d_v_addHexDigit_22 (by decide) (by first | exact trivial | exact rfl) ?_
        refine j_goto (pc := 25) hC 2 d_v_addHexDigit_25 (by decide) ?_
        refine J.to rfl ?_ rfl rfl (ih (i + 1) wo3 hg3 mo3 hi1 q1 (ex_succ h2 q2) (ex_succ h3 q3))
        rw [← nI_1]
        rfl
      refine j_iloadn3 (pc := 2) hC d_v_addHexDigit_2 ?_
      refine j_iconst (pc := 3) (v := 4) hC d_v_addHexDigit_3 (by decide) ?_
      refine j_icmp_ge (pc := 4) hC 28 d_v_addHexDigit_4 (by decide) (fun h4 => ?_) (fun h4 => ?_)
      · have h4 : nI 4 ≤ nI i := h4
        rw [nI_leI (by omega) (by omega)] at h4
        exact absurd h4 (by omega)
      · refine j_iloadn1 (pc := 7) hC d_v_addHexDigit_7 ?_
        refine j_iloadn3 (pc := 8) hC d_v_addHexDigit_8 ?_
        refine j_iushr (pc := 9) hC d_v_addHexDigit_9 ?_
        refine j_iconst (pc := 10) (v := 1) hC d_v_addHexDigit_10 (by decide) ?_
        refine j_iand (pc := 11) hC d_v_addHexDigit_11 ?_
        refine J.topi hbit ?_
        have hbl : d / 2 ^ i % 2 < 2 := Nat.mod_lt _ (by omega)
        have hz : ∀ n : Nat, (n : Int) = 1052 - wt.toInt + 3 - (i : Int) → eH e (1052 - wt.toInt) d i n = 0 := fun n hn => by
          rw [eH_at i (by omega)]
          exact h0 n (by omega)
        refine j_if_eq (pc := 12) hC 22 d_v_addHexDigit_12 (by decide) (fun h5 => ?_) (fun h5 => ?_)
        · have h5 : d / 2 ^ i % 2 = 0 := by
            have h6 : nI (d / 2 ^ i % 2) = nI 0 := h5
            rw [nI_eq (Nat.lt_of_lt_of_le hbl (by decide)) (by decide)] at h6
            exact h6
          refine k22 wo2 hg2 mo2 ?_ ⟨Or.inl, fun q => q.elim id (fun q => absurd h5 q.1)⟩ ⟨Or.inl, fun q => q.elim id (fun q => absurd h5 q.1)⟩
          rw [eH, h5, eP_0 hz]
          exact h1
        · have h5 : d / 2 ^ i % 2 ≠ 0 := fun q => h5 (by rw [q]; rfl)
          have h6 : d / 2 ^ i % 2 = 1 := by
            generalize d / 2 ^ i % 2 = y at h5 hbl
            omega
          have hsum : (wt + nI i).toInt = wt.toInt + (i : Int) := by
            have e1 := nI_toInt (n := i) (by omega)
            rw [tadd (by omega) (by omega), e1]
          have hpl : 1055 - (wt + nI i).toInt = 1052 - wt.toInt + 3 - (i : Int) := by rw [hsum]; omega
          refine j_aloadn0 (pc := 15) hC d_v_addHexDigit_15 ?_
          refine j_iloadn2 (pc := 16) hC d_v_addHexDigit_16 ?_
          refine j_iloadn3 (pc := 17) hC d_v_addHexDigit_17 ?_
          refine j_iadd (pc := 18) hC d_v_addHexDigit_18 ?_
          refine j_V1v (pc := 19) (q0 := 3) (ci := 2) hC cw_V_32 (rmD_in (by decide)) (Nat.le_of_ble_eq_true rfl) rfl rfl d_v_addHexDigit_19 (c_v_addBit (wt + nI i) (eH e (1052 - wt.toInt) d i) (eH_lt he i) h1 (by rw [hpl]; exact hz)) (fun w2 h7 => ?_)
          obtain ⟨wo3, hg3, mo3, q1, q2, q3, rfl⟩ := h7
          rw [hpl] at q1 q2 q3
          refine k22 wo3 hg3 mo3 ?_ ?_ ?_
          · rw [eH, h6]
            exact q1
          · rw [q2]
            exact ⟨fun q => q.elim Or.inl (fun q => Or.inr ⟨h5, q⟩), fun q => q.elim Or.inl (fun q => Or.inr q.2)⟩
          · rw [q3]
            exact ⟨fun q => q.elim Or.inl (fun q => Or.inr ⟨h5, q⟩), fun q => q.elim Or.inl (fun q => Or.inr q.2)⟩
  refine j_iconst (pc := 0) (v := 0) hC d_v_addHexDigit_0 (by decide) ?_
  refine j_istoren3 (pc := 1) hC d_v_addHexDigit_1 (by decide) (by first | exact trivial | exact rfl) ?_
  exact loop 4 0 wo hg mo rfl hWe ex_zero ex_zero
end VP
end
section
/-! THE CLASS: words, the scan as a whole -/
/-- the word i stands from a to z -/
def isW (t : Nat → Int32) (a z i : Nat) : Prop := z - a = st_len.getD i 0 ∧ ∀ j, j < st_len.getD i 0 → t (a + j) = (st_byt.getD i []).getD j 0
section SW
variable {l : Launch} {D : va_G} {X : jX} {g : Nat → Nat} {ca : Nat → ClassId} {len ps sp ng fm df dt wg ex hg mo : Int32} {tp lb wo : Nat → Int32}
set_option maxHeartbeats 1000000 in
theorem c_restIs (i a z : Nat) (hi : i < 6) (hz : z ≤ 8192) (ha : a ≤ z) : jM l y_restIs b_restIs 3 (some .boolean) (rmD 4) D (tyD ca) X [.ref (g 0), .ref (X.2.1 i)] (wd g ca len (nI a) (nI z) ng fm df dt wg ex hg mo tp lb wo) (jPi fun r w => (isW tp a z i ∧ r = 1 ∨ ¬ isW tp a z i ∧ r = 0) ∧ w = wd g ca len (nI a) (nI z) ng fm df dt wg ex hg mo tp lb wo) := by
  refine jM.of [some (.ref (g 0)), some (.ref (X.2.1 i)), none] (by simp [jle, jent, Value.category]) rfl (Nat.le_of_ble_eq_true rfl) ?_
  intro p e s m args below meth c sz hC
  have hs := st_small i hi
  have loop : ∀ (n j : Nat), j + n = st_len.getD i 0 → z - a = st_len.getD i 0 → (∀ q, q < j → tp (a + q) = (st_byt.getD i []).getD q 0) → J p l e (rmD 4) s m args below meth c D (va_A (wd g ca len (nI a) (nI z) ng fm df dt wg ex hg mo tp lb wo) sz) 3 (MQ below (jQ D (wd g ca len (nI a) (nI z) ng fm df dt wg ex hg mo tp lb wo) sz (jPi fun r w => (isW tp a z i ∧ r = 1 ∨ ¬ isW tp a z i ∧ r = 0) ∧ w = wd g ca len (nI a) (nI z) ng fm df dt wg ex hg mo tp lb wo)) args s 0 0 (va_A (wd g ca len (nI a) (nI z) ng fm df dt wg ex hg mo tp lb wo) sz)) 20 [some (.ref (g 0)), some (.ref (X.2.1 i)), some (.int (nI j))] [] (wd g ca len (nI a) (nI z) ng fm df dt wg ex hg mo tp lb wo) := by
    intro n
    induction n with
    | zero =>
      intro j hj hl hd
      refine j_iloadn2 (pc := 20) hC d_restIs_20 ?_
      refine j_aloadn1 (pc := 21) hC d_restIs_21 ?_
      refine j_Str0 (pc := 22) hC hi rfl cw_R_160 (rmD_in (by decide)) (Nat.le_of_ble_eq_true rfl) d_restIs_22 (c_s_length i hi) (fun r w2 h => ?_)
      obtain ⟨rfl, rfl⟩ := h
      refine j_icmp_ge (pc := 25) hC 55 d_restIs_25 (by decide) (fun h1 => ?_) (fun h1 => ?_)
      · refine j_iconst (pc := 55) (v := 1) hC d_restIs_55 (by decide) ?_
        exact j_zret hC rfl d_restIs_56 ⟨1, rfl, Or.inl ⟨⟨hl, fun q hq => hd q (by omega)⟩, rfl⟩, rfl⟩
      · rw [nI_leI (by omega) (by omega)] at h1
        omega
    | succ n ih =>
      intro j hj hl hd
      refine j_iloadn2 (pc := 20) hC d_restIs_20 ?_
      refine j_aloadn1 (pc := 21) hC d_restIs_21 ?_
      refine j_Str0 (pc := 22) hC hi rfl cw_R_160 (rmD_in (by decide)) (Nat.le_of_ble_eq_true rfl) d_restIs_22 (c_s_length i hi) (fun r w2 h => ?_)
      obtain ⟨rfl, rfl⟩ := h
      refine j_icmp_ge (pc := 25) hC 55 d_restIs_25 (by decide) (fun h1 => ?_) (fun h1 => ?_)
      · rw [nI_leI (by omega) (by omega)] at h1
        omega
      · refine j_aloadn0 (pc := 28) hC d_restIs_28 ?_
        refine jg_R_28 (pc := 29) hC d_restIs_29 ?_
        refine j_aloadn0 (pc := 32) hC d_restIs_32 ?_
        refine jg_R_114 (pc := 33) hC d_restIs_33 ?_
        refine j_iloadn2 (pc := 36) hC d_restIs_36 ?_
        refine j_iadd (pc := 37) hC d_restIs_37 ?_
        refine J.topi (nI_add a j) ?_
        refine ja_tape_baload (pc := 38) hC (vp_in_nI (by omega) (by decide)) d_restIs_38 ?_
        refine j_aloadn1 (pc := 39) hC d_restIs_39 ?_
        refine j_iloadn2 (pc := 40) hC d_restIs_40 ?_
        rw [nI_clamp (show a + j < 2 ^ 31 by omega)]
        refine j_Str1 (pc := 41) hC hi rfl cw_R_165 (rmD_in (by decide)) (Nat.le_of_ble_eq_true rfl) d_restIs_41 (c_s_charAt i j hi (by omega)) (fun r w2 h => ?_)
        obtain ⟨rfl, rfl⟩ := h
        refine j_icmp_eq (pc := 44) hC 49 d_restIs_44 (by decide) (fun h2 => ?_) (fun h2 => ?_)
        · refine j_iinc2 (pc := 49) hC d_restIs_49 (by decide) (by first | exact trivial | exact rfl) ?_
          refine j_goto (pc := 52) hC 20 d_restIs_52 (by decide) ?_
          refine J.to rfl ?_ rfl rfl (ih (j + 1) (by omega) hl (fun q hq => ?_))
          · rw [← nI_1]
            rfl
          · rcases Nat.lt_or_eq_of_le (Nat.le_of_lt_succ hq) with h | h
            · exact hd q h
            · rw [h]; exact h2
        · refine j_iconst (pc := 47) (v := 0) hC d_restIs_47 (by decide) ?_
          exact j_zret hC rfl d_restIs_48 ⟨0, rfl, Or.inr ⟨fun q => h2 (q.2 j (by omega)), rfl⟩, rfl⟩
  refine j_aloadn0 (pc := 0) hC d_restIs_0 ?_
  refine jg_R_117 (pc := 1) hC d_restIs_1 ?_
  refine j_aloadn0 (pc := 4) hC d_restIs_4 ?_
  refine jg_R_114 (pc := 5) hC d_restIs_5 ?_
  refine j_isub (pc := 8) hC d_restIs_8 ?_
  refine J.topi (y := nI (z - a)) (pk_sub ha) ?_
  refine j_aloadn1 (pc := 9) hC d_restIs_9 ?_
  refine j_Str0 (pc := 10) hC hi rfl cw_R_160 (rmD_in (by decide)) (Nat.le_of_ble_eq_true rfl) d_restIs_10 (c_s_length i hi) (fun r w2 h => ?_)
  obtain ⟨rfl, rfl⟩ := h
  refine j_icmp_eq (pc := 13) hC 18 d_restIs_13 (by decide) (fun h1 => ?_) (fun h1 => ?_)
  · rw [nI_eq (by omega) (by omega)] at h1
    refine j_iconst (pc := 18) (v := 0) hC d_restIs_18 (by decide) ?_
    refine j_istoren2 (pc := 19) hC d_restIs_19 (by decide) (by first | exact trivial | exact rfl) ?_
    exact loop (st_len.getD i 0) 0 (by omega) h1 (fun q hq => absurd hq (by omega))
  · rw [nI_eq (by omega) (by omega)] at h1
    refine j_iconst (pc := 16) (v := 0) hC d_restIs_16 (by decide) ?_
    exact j_zret hC rfl d_restIs_17 ⟨0, rfl, Or.inr ⟨fun q => h1 q.1, rfl⟩, rfl⟩
section LDC
variable {p : Program} {e : Env} {R : Room} {s : State} {m : MethodId} {args : Array Value} {below : List Frame} {meth : Method} {c : Code} {A : Nat → Prop} {nL : Nat} {Q : State → Prop} {pc : Nat} {L : List (Option Value)} {S : List Value} {w : va_W} {cc : ByteArray} {ret : Option FieldType} {tys : List (ClassId × FieldType)} {own : String}
theorem j_ldcS {tx : String} {idx q : Nat} (hC : jC p s m args meth c cc nL ret own D tys A X) (hZ : vk_R own idx tx q s) (hd : decode cc pc = .ok (.ldc idx, 2)) (k : J p l e R s m args below meth c D A nL Q (pc + 2) L (.ref q :: S) w) : J p l e R s m args below meth c D A nL Q pc L S w := fun H locs ls hl hP hD hS => va_ldcS hC.1 hC.2.1 hC.2.2.2.1 hZ hd (k H locs ls hl hP hD hS)
theorem jC_str (hC : jC p s m args meth c cc nL ret own D tys A X) : jR X s := hC.2.2.2.2.2.2.2.2.2.2.2.2.2.2
end LDC
/-- a suffix, or nothing -/
def isSf (t : Nat → Int32) (a z : Nat) : Prop := a = z ∨ isW t a z 2 ∨ isW t a z 3 ∨ isW t a z 4 ∨ isW t a z 5
set_option maxHeartbeats 1000000 in
theorem c_restIsSuffix (a z : Nat) (hz : z ≤ 8192) (ha : a ≤ z) : jM l y_restIsSuffix b_restIsSuffix 1 (some .boolean) (rmD 5) D (tyD ca) X [.ref (g 0)] (wd g ca len (nI a) (nI z) ng fm df dt wg ex hg mo tp lb wo) (jPi fun r w => (isSf tp a z ∧ r = 1 ∨ ¬ isSf tp a z ∧ r = 0) ∧ w = wd g ca len (nI a) (nI z) ng fm df dt wg ex hg mo tp lb wo) := by
  refine jM.of [some (.ref (g 0))] (by simp [jle, jent, Value.category]) rfl (Nat.le_of_ble_eq_true rfl) ?_
  intro p e s m args below meth c sz hC
  have k47 : isSf tp a z → J p l e (rmD 5) s m args below meth c D (va_A (wd g ca len (nI a) (nI z) ng fm df dt wg ex hg mo tp lb wo) sz) 1 (MQ below (jQ D (wd g ca len (nI a) (nI z) ng fm df dt wg ex hg mo tp lb wo) sz (jPi fun r w => (isSf tp a z ∧ r = 1 ∨ ¬ isSf tp a z ∧ r = 0) ∧ w = wd g ca len (nI a) (nI z) ng fm df dt wg ex hg mo tp lb wo)) args s 0 0 (va_A (wd g ca len (nI a) (nI z) ng fm df dt wg ex hg mo tp lb wo) sz)) 47 [some (.ref (g 0))] [] (wd g ca len (nI a) (nI z) ng fm df dt wg ex hg mo tp lb wo) := by
    intro hy
    refine j_iconst (pc := 47) (v := 1) hC d_restIsSuffix_47 (by decide) ?_
    refine j_goto (pc := 48) hC 52 d_restIsSuffix_48 (by decide) ?_
    exact j_zret hC rfl d_restIsSuffix_52 ⟨1, rfl, Or.inl ⟨hy, rfl⟩, rfl⟩
  refine j_aloadn0 (pc := 0) hC d_restIsSuffix_0 ?_
  refine jg_R_114 (pc := 1) hC d_restIsSuffix_1 ?_
  refine j_aloadn0 (pc := 4) hC d_restIsSuffix_4 ?_
  refine jg_R_117 (pc := 5) hC d_restIsSuffix_5 ?_
  refine j_icmp_eq (pc := 8) hC 47 d_restIsSuffix_8 (by decide) (fun h1 => ?_) (fun h1 => ?_)
  · rw [nI_eq (by omega) (by omega)] at h1
    exact k47 (Or.inl h1)
  · rw [nI_eq (by omega) (by omega)] at h1
    refine j_aloadn0 (pc := 11) hC d_restIsSuffix_11 ?_
    refine j_ldcS (pc := 12) hC (jC_str hC).1.2.2.1 d_restIsSuffix_12 ?_
    refine j_V1i (pc := 14) (q0 := 0) (ci := 0) hC cw_R_99 (rmD_in (by decide)) (Nat.le_of_ble_eq_true rfl) rfl rfl d_restIsSuffix_14 (c_restIs 2 a z (by omega) hz ha) (fun r w2 h2 => ?_)
    obtain ⟨h2, rfl⟩ := h2
    rcases h2 with ⟨h2, rfl⟩ | ⟨h2, rfl⟩
    · refine j_if_ne (pc := 17) hC 47 d_restIsSuffix_17 (by decide) (fun q => ?_) (fun q => ?_)
      · exact k47 (Or.inr (Or.inl h2))
      · exact absurd q (by decide)
    · refine j_if_ne (pc := 17) hC 47 d_restIsSuffix_17 (by decide) (fun q => ?_) (fun q => ?_)
      · exact absurd rfl q
      · refine j_aloadn0 (pc := 20) hC d_restIsSuffix_20 ?_
        refine j_ldcS (pc := 21) hC (jC_str hC).1.2.2.2.1 d_restIsSuffix_21 ?_
        refine j_V1i (pc := 23) (q0 := 0) (ci := 0) hC cw_R_99 (rmD_in (by decide)) (Nat.le_of_ble_eq_true rfl) rfl rfl d_restIsSuffix_23 (c_restIs 3 a z (by omega) hz ha) (fun r w2 h3 => ?_)
        obtain ⟨h3, rfl⟩ := h3
        rcases h3 with ⟨h3, rfl⟩ | ⟨h3, rfl⟩
        · refine j_if_ne (pc := 26) hC 47 d_restIsSuffix_26 (by decide) (fun q => ?_) (fun q => ?_)
          · exact k47 (Or.inr (Or.inr (Or.inl h3)))
          · exact absurd q (by decide)
        · refine j_if_ne (pc := 26) hC 47 d_restIsSuffix_26 (by decide) (fun q => ?_) (fun q => ?_)
          · exact absurd rfl q
          · refine j_aloadn0 (pc := 29) hC d_restIsSuffix_29 ?_
            refine j_ldcS (pc := 30) hC (jC_str hC).1.2.2.2.2.1 d_restIsSuffix_30 ?_
            refine j_V1i (pc := 32) (q0 := 0) (ci := 0) hC cw_R_99 (rmD_in (by decide)) (Nat.le_of_ble_eq_true rfl) rfl rfl d_restIsSuffix_32 (c_restIs 4 a z (by omega) hz ha) (fun r w2 h4 => ?_)
            obtain ⟨h4, rfl⟩ := h4
            rcases h4 with ⟨h4, rfl⟩ | ⟨h4, rfl⟩
            · refine j_if_ne (pc := 35) hC 47 d_restIsSuffix_35 (by decide) (fun q => ?_) (fun q => ?_)
              · exact k47 (Or.inr (Or.inr (Or.inr (Or.inl h4))))
              · exact absurd q (by decide)
            · refine j_if_ne (pc := 35) hC 47 d_restIsSuffix_35 (by decide) (fun q => ?_) (fun q => ?_)
              · exact absurd rfl q
              · refine j_aloadn0 (pc := 38) hC d_restIsSuffix_38 ?_
                refine j_ldcS (pc := 39) hC (jC_str hC).1.2.2.2.2.2.1 d_restIsSuffix_39 ?_
                refine j_V1i (pc := 41) (q0 := 0) (ci := 0) hC cw_R_99 (rmD_in (by decide)) (Nat.le_of_ble_eq_true rfl) rfl rfl d_restIsSuffix_41 (c_restIs 5 a z (by omega) hz ha) (fun r w2 h5 => ?_)
                obtain ⟨h5, rfl⟩ := h5
                rcases h5 with ⟨h5, rfl⟩ | ⟨h5, rfl⟩
                · refine j_if_eq (pc := 44) hC 51 d_restIsSuffix_44 (by decide) (fun q => ?_) (fun q => ?_)
                  · exact absurd q (by decide)
                  · exact k47 (Or.inr (Or.inr (Or.inr (Or.inr h5))))
                · refine j_if_eq (pc := 44) hC 51 d_restIsSuffix_44 (by decide) (fun q => ?_) (fun q => ?_)
                  · refine j_iconst (pc := 51) (v := 0) hC d_restIsSuffix_51 (by decide) ?_
                    exact j_zret hC rfl d_restIsSuffix_52 ⟨0, rfl, Or.inr ⟨fun y => y.elim h1 (fun y => y.elim h2 (fun y => y.elim h3 (fun y => y.elim h4 h5))), rfl⟩, rfl⟩
                  · exact absurd rfl q
/-- the text of n bytes: between blanks from a to z; behind a sign from b on -/
def scB (t : Nat → Int32) (n a z b : Nat) (mi : Bool) : Prop := a = ld t 0 n ∧ z = tr t a (n - a) ∧ (mi = true ↔ sgM t a z) ∧ (sgP t a z ∧ b = a + 1 ∨ ¬ sgP t a z ∧ b = a)
/-- a number text of digits from b to z -/
def scN (t : Nat → Int32) (b z : Nat) (hx : Bool) (c0 n1 n2 c2 c3 : Nat) (me : Bool) (c5 n3 c6 : Nat) : Prop := scD t b z hx c0 n1 n2 c2 c3 ∧ 0 < n1 + n2 ∧ scE t c3 z hx true (me = true) c5 n3 c6 ∧ isSf t c6 z
def scNum (t : Nat → Int32) (b z : Nat) : Prop := ∃ (hx : Bool) (c0 n1 n2 c2 c3 : Nat) (me : Bool) (c5 n3 c6 : Nat), scN t b z hx c0 n1 n2 c2 c3 me c5 n3 c6
theorem scE_le {t : Nat → Int32} {c3 z : Nat} {hx ok : Bool} {mi : Prop} {c5 n3 c6 : Nat} (hz : c3 ≤ z) (h : scE t c3 z hx ok mi c5 n3 c6) : c6 ≤ z ∧ c6 = c5 + n3 := by
  rcases h with ⟨-, -, -, h1, h2, h3⟩ | ⟨h0, -, h2, h3, h4, -⟩
  · omega
  · have hr := rn_le t 10 (z - c5) c5
    have hlt : c3 < z := by rcases h0 with q | q <;> exact q.1
    rcases h2 with ⟨q, e⟩ | ⟨q, e⟩
    · have : c3 + 1 < z := by rcases q with q | q <;> exact q.1
      omega
    · omega
end SW
end
section
theorem scD_fun {t : Nat → Int32} {a z : Nat} {hx hx' : Bool} {c0 n1 n2 c2 c3 c0' n1' n2' c2' c3' : Nat} (h : scD t a z hx c0 n1 n2 c2 c3) (h' : scD t a z hx' c0' n1' n2' c2' c3') : hx = hx' ∧ c0 = c0' ∧ n1 = n1' ∧ n2 = n2' ∧ c2 = c2' ∧ c3 = c3' := by
  obtain ⟨h1, h2, h3, h4, h5⟩ := h
  obtain ⟨g1, g2, g3, g4, g5⟩ := h'
  have e0 : hx = hx' := by
    cases hx <;> cases hx'
    · rfl
    · exact absurd (h1.mpr (g1.mp rfl)) (by decide)
    · exact absurd (g1.mpr (h1.mp rfl)) (by decide)
    · rfl
  subst e0
  have e1 : c0 = c0' := by rw [h2, g2]
  subst e1
  have e2 : n1 = n1' := by rw [h3, g3]
  subst e2
  rcases h4 with ⟨a1, a2, a3⟩ | ⟨a1, a2, a3⟩ <;> rcases g4 with ⟨b1, b2, b3⟩ | ⟨b1, b2, b3⟩
  · have e3 : c2 = c2' := by rw [a2, b2]
    subst e3
    have e4 : n2 = n2' := by rw [a3, b3]
    subst e4
    exact ⟨rfl, rfl, rfl, rfl, rfl, by rw [h5, g5]⟩
  · exact absurd a1 b1
  · exact absurd b1 a1
  · exact ⟨rfl, rfl, rfl, by rw [a3, b3], by rw [a2, b2], by rw [h5, g5, a2, b2, a3, b3]⟩
theorem scE_fun {t : Nat → Int32} {c3 z : Nat} {hx ok ok' : Bool} {mi mi' : Prop} {c5 n3 c6 c5' n3' c6' : Nat} (h : scE t c3 z hx ok mi c5 n3 c6) (h' : scE t c3 z hx ok' mi' c5' n3' c6') : ok = ok' ∧ (mi ↔ mi') ∧ c5 = c5' ∧ n3 = n3' ∧ c6 = c6' := by
  rcases h with ⟨a0, a1, a2, a3, a4, a5⟩ | ⟨a0, a1, a2, a3, a4, a5⟩ <;> rcases h' with ⟨b0, b1, b2, b3, b4, b5⟩ | ⟨b0, b1, b2, b3, b4, b5⟩
  · exact ⟨by rw [a1, b1], ⟨fun q => absurd q a2, fun q => absurd q b2⟩, by rw [a3, b3], by rw [a4, b4], by rw [a5, b5]⟩
  · exact absurd b0 a0
  · exact absurd a0 b0
  · have e5 : c5 = c5' := by
      rcases a2 with ⟨x, y⟩ | ⟨x, y⟩ <;> rcases b2 with ⟨x', y'⟩ | ⟨x', y'⟩
      · rw [y, y']
      · exact absurd x x'
      · exact absurd x' x
      · rw [y, y']
    subst e5
    have e3 : n3 = n3' := by rw [a3, b3]
    subst e3
    exact ⟨by rw [a5, b5], a1.trans b1.symm, rfl, rfl, by rw [a4, b4]⟩
/-- what the scan of n bytes says -/
def scR (t : Nat → Int32) (a z b : Nat) (mi : Bool) (r fm2 df2 dt2 wg2 ex2 : Int32) : Prop :=
  (isW t b z 0 ∧ r = 1 ∧ fm2 = 0) ∨ (¬ isW t b z 0 ∧ isW t b z 1 ∧ r = 1 ∧ fm2 = 1) ∨
  (¬ isW t b z 0 ∧ ¬ isW t b z 1 ∧ ∃ (hx : Bool) (c0 n1 n2 c2 c3 : Nat) (me : Bool) (c5 n3 c6 : Nat), scN t b z hx c0 n1 n2 c2 c3 me c5 n3 c6 ∧ r = 1 ∧ fm2 = (if hx then 3 else 2) ∧ df2 = nI c0 ∧ dt2 = nI c3 ∧ wg2 = nI n1 ∧ ex2 = (if me then -nI (xC t c5 1000000 n3) else nI (xC t c5 1000000 n3))) ∨
  (¬ isW t b z 0 ∧ ¬ isW t b z 1 ∧ ¬ scNum t b z ∧ r = 0)
theorem scB_le {t : Nat → Int32} {n a z b : Nat} {mi : Bool} (h : scB t n a z b mi) : a ≤ b ∧ b ≤ z ∧ z ≤ n := by
  obtain ⟨h1, h2, -, h4⟩ := h
  have g1 := ld_ge t n 0
  have g2 := tr_ge t a (n - a)
  rcases h4 with ⟨q, e⟩ | ⟨q, e⟩
  · have : a < z := by rcases q with q | q <;> exact q.1
    omega
  · omega
section ST
variable {l : Launch} {D : va_G} {X : jX} {g : Nat → Nat} {ca : Nat → ClassId} {len ps sp ng fm df dt wg ex hg mo : Int32} {tp lb wo : Nat → Int32}
set_option maxHeartbeats 2000000 in
theorem c_scanText (n : Nat) (hn : n ≤ 8192) : jM l y_scanText b_scanText 1 (some .boolean) (rmD 6) D (tyD ca) X [.ref (g 0)] (wd g ca (nI n) ps sp ng fm df dt wg ex hg mo tp lb wo) (jPi fun r w => ∃ (a z b : Nat) (mi : Bool) (ps2 fm2 df2 dt2 wg2 ex2 : Int32), scB tp n a z b mi ∧ scR tp a z b mi r fm2 df2 dt2 wg2 ex2 ∧ w = wd g ca (nI n) (ps2) (nI z) (if mi then 1 else 0) (fm2) (df2) (dt2) (wg2) (ex2) hg mo tp lb wo) := by
  refine jM.of [some (.ref (g 0))] (by simp [jle, jent, Value.category]) rfl (Nat.le_of_ble_eq_true rfl) ?_
  intro p e s m args below meth c sz hC
  refine j_aloadn0 (pc := 0) hC d_scanText_0 ?_
  refine j_V0v (pc := 1) (q0 := 0) (ci := 0) hC cw_R_91 (rmD_in (by decide)) (Nat.le_of_ble_eq_true rfl) rfl rfl d_scanText_1 (c_leaveBlanksOut n hn) (fun w2 h1 => ?_)
  obtain rfl := h1
  have g1 := ld_ge tp n 0
  have g2 := tr_ge tp (ld tp 0 n) (n - ld tp 0 n)
  obtain ⟨a, ea⟩ : ∃ a, a = ld tp 0 n := ⟨_, rfl⟩
  rw [← ea] at g1 g2 ⊢
  obtain ⟨z, ez⟩ : ∃ z, z = tr tp a (n - a) := ⟨_, rfl⟩
  rw [← ez] at g2 ⊢
  refine j_aloadn0 (pc := 4) hC d_scanText_4 ?_
  refine j_aloadn0 (pc := 5) hC d_scanText_5 ?_
  refine j_V0i (pc := 6) (q0 := 0) (ci := 0) hC cw_R_94 (rmD_in (by decide)) (Nat.le_of_ble_eq_true rfl) rfl rfl d_scanText_6 (c_takeSign a z (by omega) (by omega)) (fun r w2 h2 => ?_)
  obtain ⟨b, h2, h3, rfl⟩ := h2
  obtain ⟨mi, hr, hmi⟩ : ∃ mi : Bool, r = (if mi then 1 else 0) ∧ (mi = true ↔ sgM tp a z) := by
    rcases h2 with ⟨q, e⟩ | ⟨q, e⟩
    · exact ⟨true, e, fun _ => q, fun _ => rfl⟩
    · exact ⟨false, e, fun y => (by cases y), fun y => absurd y q⟩
  subst hr
  have hB : scB tp n a z b mi := ⟨ea, ez, hmi, h3⟩
  have hble := scB_le hB
  refine jp_R_84 (pc := 9) hC (by cases mi <;> exact ⟨rfl,rfl⟩) d_scanText_9 ?_
  refine j_aloadn0 (pc := 12) hC d_scanText_12 ?_
  refine j_ldcS (pc := 13) hC (jC_str hC).1.1 d_scanText_13 ?_
  refine j_V1i (pc := 15) (q0 := 0) (ci := 0) hC cw_R_99 (rmD_in (by decide)) (Nat.le_of_ble_eq_true rfl) rfl rfl d_scanText_15 (c_restIs 0 b z (by omega) (by omega) (by omega)) (fun r w2 h4 => ?_)
  obtain ⟨h4, rfl⟩ := h4
  rcases h4 with ⟨h4, rfl⟩ | ⟨h4, rfl⟩
  · refine j_if_eq (pc := 18) hC 28 d_scanText_18 (by decide) (fun q => ?_) (fun q => ?_)
    · exact absurd q (by decide)
    · refine j_aloadn0 (pc := 21) hC d_scanText_21 ?_
      refine j_iconst (pc := 22) (v := 0) hC d_scanText_22 (by decide) ?_
      refine jp_R_68 (pc := 23) hC d_scanText_23 ?_
      refine j_iconst (pc := 26) (v := 1) hC d_scanText_26 (by decide) ?_
      exact j_zret hC rfl d_scanText_27 ⟨1, rfl, a, z, b, mi, _, _, _, _, _, _, hB, Or.inl ⟨h4, rfl, rfl⟩, rfl⟩
  · refine j_if_eq (pc := 18) hC 28 d_scanText_18 (by decide) (fun q => ?_) (fun q => ?_)
    · refine j_aloadn0 (pc := 28) hC d_scanText_28 ?_
      refine j_ldcS (pc := 29) hC (jC_str hC).1.2.1 d_scanText_29 ?_
      refine j_V1i (pc := 31) (q0 := 0) (ci := 0) hC cw_R_99 (rmD_in (by decide)) (Nat.le_of_ble_eq_true rfl) rfl rfl d_scanText_31 (c_restIs 1 b z (by omega) (by omega) (by omega)) (fun r w2 h5 => ?_)
      obtain ⟨h5, rfl⟩ := h5
      rcases h5 with ⟨h5, rfl⟩ | ⟨h5, rfl⟩
      · refine j_if_eq (pc := 34) hC 44 d_scanText_34 (by decide) (fun q => ?_) (fun q => ?_)
        · exact absurd q (by decide)
        · refine j_aloadn0 (pc := 37) hC d_scanText_37 ?_
          refine j_iconst (pc := 38) (v := 1) hC d_scanText_38 (by decide) ?_
          refine jp_R_68 (pc := 39) hC d_scanText_39 ?_
          refine j_iconst (pc := 42) (v := 1) hC d_scanText_42 (by decide) ?_
          exact j_zret hC rfl d_scanText_43 ⟨1, rfl, a, z, b, mi, _, _, _, _, _, _, hB, Or.inr (Or.inl ⟨h4, h5, rfl, rfl⟩), rfl⟩
      · have k69 : ∀ ps2 fm2 df2 dt2 wg2 ex2 : Int32, ¬ scNum tp b z → J p l e (rmD 6) s m args below meth c D (va_A (wd g ca (nI n) ps sp ng fm df dt wg ex hg mo tp lb wo) sz) 1 (MQ below (jQ D (wd g ca (nI n) ps sp ng fm df dt wg ex hg mo tp lb wo) sz (jPi fun r w => ∃ (a z b : Nat) (mi : Bool) (ps2 fm2 df2 dt2 wg2 ex2 : Int32), scB tp n a z b mi ∧ scR tp a z b mi r fm2 df2 dt2 wg2 ex2 ∧ w = wd g ca (nI n) (ps2) (nI z) (if mi then 1 else 0) (fm2) (df2) (dt2) (wg2) (ex2) hg mo tp lb wo)) args s 0 0 (va_A (wd g ca (nI n) ps sp ng fm df dt wg ex hg mo tp lb wo) sz)) 69 [some (.ref (g 0))] [] (wd g ca (nI n) (ps2) (nI z) (if mi then 1 else 0) (fm2) (df2) (dt2) (wg2) (ex2) hg mo tp lb wo) := by
          intro ps2 fm2 df2 dt2 wg2 ex2 hno
          refine j_iconst (pc := 69) (v := 0) hC d_scanText_69 (by decide) ?_
          exact j_zret hC rfl d_scanText_70 ⟨0, rfl, a, z, b, mi, _, _, _, _, _, _, hB, Or.inr (Or.inr (Or.inr ⟨h4, h5, hno, rfl⟩)), rfl⟩
        refine j_if_eq (pc := 34) hC 44 d_scanText_34 (by decide) (fun q => ?_) (fun q => ?_)
        · refine j_aloadn0 (pc := 44) hC d_scanText_44 ?_
          refine j_V0i (pc := 45) (q0 := 0) (ci := 0) hC cw_R_105 (rmD_in (by decide)) (Nat.le_of_ble_eq_true rfl) rfl rfl d_scanText_45 (c_scanDigits b z (by omega) (by omega)) (fun r w2 h6 => ?_)
          obtain ⟨hx, c0, n1, n2, c2, c3, hs, rfl, rfl⟩ := h6
          have hsle := scD_le hble.2.1 hs
          by_cases hpos : 0 < n1 + n2
          · rw [if_pos hpos]
            refine j_if_eq (pc := 48) hC 69 d_scanText_48 (by decide) (fun q => ?_) (fun q => ?_)
            · exact absurd q (by decide)
            · refine j_aloadn0 (pc := 51) hC d_scanText_51 ?_
              refine j_V0i (pc := 52) (q0 := 0) (ci := 0) hC cw_R_108 (rmD_in (by decide)) (Nat.le_of_ble_eq_true rfl) rfl rfl d_scanText_52 (c_scanExponent hx c3 z (by omega) (by omega)) (fun r w2 h7 => ?_)
              obtain ⟨ok, me, c5, n3, c6, hE, rfl, rfl⟩ := h7
              have hEle := scE_le (by omega) hE
              cases ok with
              | true =>
                refine j_if_eq (pc := 55) hC 69 d_scanText_55 (by decide) (fun q => ?_) (fun q => ?_)
                · exact absurd q (by decide)
                · refine j_aloadn0 (pc := 58) hC d_scanText_58 ?_
                  refine j_V0i (pc := 59) (q0 := 0) (ci := 0) hC cw_R_111 (rmD_in (by decide)) (Nat.le_of_ble_eq_true rfl) rfl rfl d_scanText_59 (c_restIsSuffix c6 z (by omega) (by omega)) (fun r w2 h8 => ?_)
                  obtain ⟨h8, rfl⟩ := h8
                  rcases h8 with ⟨h8, rfl⟩ | ⟨h8, rfl⟩
                  · refine j_if_eq (pc := 62) hC 69 d_scanText_62 (by decide) (fun q => ?_) (fun q => ?_)
                    · exact absurd q (by decide)
                    · refine j_iconst (pc := 65) (v := 1) hC d_scanText_65 (by decide) ?_
                      refine j_goto (pc := 66) hC 70 d_scanText_66 (by decide) ?_
                      exact j_zret hC rfl d_scanText_70 ⟨1, rfl, a, z, b, mi, _, _, _, _, _, _, hB, Or.inr (Or.inr (Or.inl ⟨h4, h5, hx, c0, n1, n2, c2, c3, me, c5, n3, c6, ⟨hs, hpos, hE, h8⟩, rfl, rfl, rfl, rfl, rfl, rfl⟩)), rfl⟩
                  · refine j_if_eq (pc := 62) hC 69 d_scanText_62 (by decide) (fun q => ?_) (fun q => ?_)
                    · refine k69 _ _ _ _ _ _ ?_
                      rintro ⟨hx', c0', n1', n2', c2', c3', me', c5', n3', c6', y1, y2, y3, y4⟩
                      obtain ⟨rfl, rfl, rfl, rfl, rfl, rfl⟩ := scD_fun hs y1
                      obtain ⟨-, -, -, -, rfl⟩ := scE_fun hE y3
                      exact h8 y4
                    · exact absurd rfl q
              | false =>
                refine j_if_eq (pc := 55) hC 69 d_scanText_55 (by decide) (fun q => ?_) (fun q => ?_)
                · refine k69 _ _ _ _ _ _ ?_
                  rintro ⟨hx', c0', n1', n2', c2', c3', me', c5', n3', c6', y1, y2, y3, y4⟩
                  obtain ⟨rfl, rfl, rfl, rfl, rfl, rfl⟩ := scD_fun hs y1
                  exact absurd (scE_fun hE y3).1 (by decide)
                · exact absurd rfl q
          · rw [if_neg hpos]
            refine j_if_eq (pc := 48) hC 69 d_scanText_48 (by decide) (fun q => ?_) (fun q => ?_)
            · refine k69 _ _ _ _ _ _ ?_
              rintro ⟨hx', c0', n1', n2', c2', c3', me', c5', n3', c6', y1, y2, y3, y4⟩
              obtain ⟨rfl, rfl, rfl, rfl, rfl, rfl⟩ := scD_fun hs y1
              exact hpos y2
            · exact absurd rfl q
        · exact absurd rfl q
    · exact absurd rfl q
end ST
end
section
/-! THE CLASS: clear, placeDigit, placeDigits -/
section PL
variable {l : Launch} {D : va_G} {X : jX} {g : Nat → Nat} {ca : Nat → ClassId} {len ps sp ng fm df dt wg ex hg mo : Int32} {tp lb wo : Nat → Int32}
set_option maxHeartbeats 1000000 in
theorem c_fill_limbs : jM l y_a_fill b_a_fill 4 none (rmD 0) D (tyD ca) X [.ref (g 5), .int 0] (wd g ca len ps sp ng fm df dt wg ex hg mo tp lb wo) (jPv fun w => ∃ lb2 : Nat → Int32, (∀ i, i < 155 → lb2 i = 0) ∧ w = wd g ca len ps sp ng fm df dt wg ex hg mo tp (lb2) wo) := by
  refine jM.ofF [some (.ref (g 5)), some (.int 0), none, none] (by simp [jle, jent, Value.category]) rfl (Nat.le_of_ble_eq_true rfl) ?_
  intro p e s m args below meth c sz hC
  have loop : ∀ (n i : Nat) (lb2 : Nat → Int32), i + n = 155 → (∀ j, j < i → lb2 j = 0) → J p l e (rmD 0) s m args below meth c D (va_A (wd g ca len ps sp ng fm df dt wg ex hg mo tp lb wo) sz) 4 (MQ below (jQ D (wd g ca len ps sp ng fm df dt wg ex hg mo tp lb wo) sz (jPv fun w => ∃ lb2 : Nat → Int32, (∀ i, i < 155 → lb2 i = 0) ∧ w = wd g ca len ps sp ng fm df dt wg ex hg mo tp (lb2) wo)) args s 0 0 (va_A (wd g ca len ps sp ng fm df dt wg ex hg mo tp lb wo) sz)) 5 [some (.ref (g 5)), some (.int 0), some (.int (nI i)), some (.int (nI 155))] [] (wd g ca len ps sp ng fm df dt wg ex hg mo tp (lb2) wo) := by
    intro n
    induction n with
    | zero =>
      intro i lb2 hi hz
      refine j_iloadn2 (pc := 5) hC d_a_fill_5 ?_
      refine j_iloadn3 (pc := 6) hC d_a_fill_6 ?_
      refine j_icmp_ge (pc := 7) hC 20 d_a_fill_7 (by decide) (fun h => ?_) (fun h => ?_)
      · exact j_vret hC d_a_fill_20 ⟨rfl, lb2, fun j hj => hz j (by omega), rfl⟩
      · rw [nI_leI (by omega) (by omega)] at h
        omega
    | succ n ih =>
      intro i lb2 hi hz
      refine j_iloadn2 (pc := 5) hC d_a_fill_5 ?_
      refine j_iloadn3 (pc := 6) hC d_a_fill_6 ?_
      refine j_icmp_ge (pc := 7) hC 20 d_a_fill_7 (by decide) (fun h => ?_) (fun h => ?_)
      · rw [nI_leI (by omega) (by omega)] at h
        omega
      · refine j_aloadn0 (pc := 10) hC d_a_fill_10 ?_
        refine j_iloadn2 (pc := 11) hC d_a_fill_11 ?_
        refine j_iloadn1 (pc := 12) hC d_a_fill_12 ?_
        refine ja_limbs_iastore (pc := 13) hC (vp_in_nI (by omega) (by decide)) d_a_fill_13 ?_
        refine j_iinc2 (pc := 14) hC d_a_fill_14 (by decide) (by first | exact trivial | exact rfl) ?_
        refine j_goto (pc := 17) hC 5 d_a_fill_17 (by decide) ?_
        refine J.to rfl ?_ rfl rfl (ih (i + 1) (upd lb2 (nI i).toNatClampNeg 0) (by omega) (fun j hj => ?_))
        · rw [← nI_1]
          rfl
        · rw [nI_clamp (by omega)]
          unfold upd
          split
          · rfl
          · exact hz j (by omega)
  refine j_iconst (pc := 0) (v := 0) hC d_a_fill_0 (by decide) ?_
  refine j_istoren2 (pc := 1) hC d_a_fill_1 (by decide) (by first | exact trivial | exact rfl) ?_
  refine j_aloadn0 (pc := 2) hC d_a_fill_2 ?_
  refine j_alen (pc := 3) (q0 := 5) (t0 := 1) hC rfl rfl d_a_fill_3 ?_
  refine j_istoren3 (pc := 4) hC d_a_fill_4 (by decide) (by first | exact trivial | exact rfl) ?_
  exact loop 155 0 lb rfl (fun j hj => absurd hj (by omega))
set_option maxHeartbeats 1000000 in
theorem c_fill_words : jM l y_a_fill b_a_fill 4 none (rmD 0) D (tyD ca) X [.ref (g 6), .int 0] (wd g ca len ps sp ng fm df dt wg ex hg mo tp lb wo) (jPv fun w => ∃ wo2 : Nat → Int32, (∀ i, i < 67 → wo2 i = 0) ∧ w = wd g ca len ps sp ng fm df dt wg ex hg mo tp lb (wo2)) := by
  refine jM.ofF [some (.ref (g 6)), some (.int 0), none, none] (by simp [jle, jent, Value.category]) rfl (Nat.le_of_ble_eq_true rfl) ?_
  intro p e s m args below meth c sz hC
  have loop : ∀ (n i : Nat) (wo2 : Nat → Int32), i + n = 67 → (∀ j, j < i → wo2 j = 0) → J p l e (rmD 0) s m args below meth c D (va_A (wd g ca len ps sp ng fm df dt wg ex hg mo tp lb wo) sz) 4 (MQ below (jQ D (wd g ca len ps sp ng fm df dt wg ex hg mo tp lb wo) sz (jPv fun w => ∃ wo2 : Nat → Int32, (∀ i, i < 67 → wo2 i = 0) ∧ w = wd g ca len ps sp ng fm df dt wg ex hg mo tp lb (wo2))) args s 0 0 (va_A (wd g ca len ps sp ng fm df dt wg ex hg mo tp lb wo) sz)) 5 [some (.ref (g 6)), some (.int 0), some (.int (nI i)), some (.int (nI 67))] [] (wd g ca len ps sp ng fm df dt wg ex hg mo tp lb (wo2)) := by
    intro n
    induction n with
    | zero =>
      intro i wo2 hi hz
      refine j_iloadn2 (pc := 5) hC d_a_fill_5 ?_
      refine j_iloadn3 (pc := 6) hC d_a_fill_6 ?_
      refine j_icmp_ge (pc := 7) hC 20 d_a_fill_7 (by decide) (fun h => ?_) (fun h => ?_)
      · exact j_vret hC d_a_fill_20 ⟨rfl, wo2, fun j hj => hz j (by omega), rfl⟩
      · rw [nI_leI (by omega) (by omega)] at h
        omega
    | succ n ih =>
      intro i wo2 hi hz
      refine j_iloadn2 (pc := 5) hC d_a_fill_5 ?_
      refine j_iloadn3 (pc := 6) hC d_a_fill_6 ?_
      refine j_icmp_ge (pc := 7) hC 20 d_a_fill_7 (by decide) (fun h => ?_) (fun h => ?_)
      · rw [nI_leI (by omega) (by omega)] at h
        omega
      · refine j_aloadn0 (pc := 10) hC d_a_fill_10 ?_
        refine j_iloadn2 (pc := 11) hC d_a_fill_11 ?_
        refine j_iloadn1 (pc := 12) hC d_a_fill_12 ?_
        refine ja_words_iastore (pc := 13) hC (vp_in_nI (by omega) (by decide)) d_a_fill_13 ?_
        refine j_iinc2 (pc := 14) hC d_a_fill_14 (by decide) (by first | exact trivial | exact rfl) ?_
        refine j_goto (pc := 17) hC 5 d_a_fill_17 (by decide) ?_
        refine J.to rfl ?_ rfl rfl (ih (i + 1) (upd wo2 (nI i).toNatClampNeg 0) (by omega) (fun j hj => ?_))
        · rw [← nI_1]
          rfl
        · rw [nI_clamp (by omega)]
          unfold upd
          split
          · rfl
          · exact hz j (by omega)
  refine j_iconst (pc := 0) (v := 0) hC d_a_fill_0 (by decide) ?_
  refine j_istoren2 (pc := 1) hC d_a_fill_1 (by decide) (by first | exact trivial | exact rfl) ?_
  refine j_aloadn0 (pc := 2) hC d_a_fill_2 ?_
  refine j_alen (pc := 3) (q0 := 6) (t0 := 2) hC rfl rfl d_a_fill_3 ?_
  refine j_istoren3 (pc := 4) hC d_a_fill_4 (by decide) (by first | exact trivial | exact rfl) ?_
  exact loop 67 0 wo rfl (fun j hj => absurd hj (by omega))
theorem c_v_clear : jM l y_v_clear b_v_clear 1 none (rmD 1) D (tyD ca) X [.ref (g 3)] (wd g ca len ps sp ng fm df dt wg ex hg mo tp lb wo) (jPv fun w => ∃ lb2 wo2 : Nat → Int32, (∀ i, i < 155 → lb2 i = 0) ∧ (∀ i, i < 67 → wo2 i = 0) ∧ w = wd g ca len ps sp ng fm df dt wg ex (0) (0) tp (lb2) (wo2)) := by
  refine jM.of [some (.ref (g 3))] (by simp [jle, jent, Value.category]) rfl (Nat.le_of_ble_eq_true rfl) ?_
  intro p e s m args below meth c sz hC
  refine j_aloadn0 (pc := 0) hC d_v_clear_0 ?_
  refine jg_V_9 (pc := 1) hC d_v_clear_1 ?_
  refine j_iconst (pc := 4) (v := 0) hC d_v_clear_4 (by decide) ?_
  refine j_S2v (pc := 5) hC cw_V_23 (rmD_in (by decide)) (Nat.le_of_ble_eq_true rfl) d_v_clear_5 (c_fill_limbs) (fun w2 h1 => ?_)
  obtain ⟨lb2, h1, rfl⟩ := h1
  refine j_aloadn0 (pc := 8) hC d_v_clear_8 ?_
  refine jg_V_13 (pc := 9) hC d_v_clear_9 ?_
  refine j_iconst (pc := 12) (v := 0) hC d_v_clear_12 (by decide) ?_
  refine j_S2v (pc := 13) hC cw_V_23 (rmD_in (by decide)) (Nat.le_of_ble_eq_true rfl) d_v_clear_13 (c_fill_words) (fun w2 h2 => ?_)
  obtain ⟨wo2, h2, rfl⟩ := h2
  refine j_aloadn0 (pc := 16) hC d_v_clear_16 ?_
  refine j_iconst (pc := 17) (v := 0) hC d_v_clear_17 (by decide) ?_
  refine jp_V_16 (pc := 18) hC ⟨rfl,rfl⟩ d_v_clear_18 ?_
  refine j_aloadn0 (pc := 21) hC d_v_clear_21 ?_
  refine j_iconst (pc := 22) (v := 0) hC d_v_clear_22 (by decide) ?_
  refine jp_V_20 (pc := 23) hC ⟨rfl,rfl⟩ d_v_clear_23 ?_
  exact j_vret hC d_v_clear_26 ⟨rfl, lb2, wo2, h1, h2, rfl⟩
theorem c_placeDigit_hex (d : Nat) (wt : Int32) (e : Nat → Nat) (hd : d < 16) (hw : -1000000000 < wt.toInt ∧ wt.toInt < 1000000000) (he : ∀ n, e n < 2) (hWe : We wo e) (h0 : ∀ n : Nat, 1052 - wt.toInt ≤ (n : Int) → e n = 0) : jM l y_placeDigit b_placeDigit 3 none (rmD 3) D (tyD ca) X [.ref (g 0), .int (nI d), .int wt] (wd g ca len ps sp ng (3) df dt wg ex hg mo tp lb wo) (jPv fun w => ∃ (wo2 : Nat → Int32) (hg2 mo2 : Int32), We wo2 (eH e (1052 - wt.toInt) d 4) ∧ (hg2 ≠ 0 ↔ (hg ≠ 0 ∨ ∃ j : Nat, j < 4 ∧ d / 2 ^ j % 2 ≠ 0 ∧ 1052 - wt.toInt + 3 - (j : Int) < 0)) ∧ (mo2 ≠ 0 ↔ (mo ≠ 0 ∨ ∃ j : Nat, j < 4 ∧ d / 2 ^ j % 2 ≠ 0 ∧ 2144 ≤ 1052 - wt.toInt + 3 - (j : Int))) ∧ w = wd g ca len ps sp ng (3) df dt wg ex (hg2) (mo2) tp lb (wo2)) := by
  refine jM.of [some (.ref (g 0)), some (.int (nI d)), some (.int wt)] (by simp [jle, jent, Value.category]) rfl (Nat.le_of_ble_eq_true rfl) ?_
  intro p env s m args below meth c sz hC
  refine j_aloadn0 (pc := 0) hC d_placeDigit_0 ?_
  refine jg_R_68 (pc := 1) hC d_placeDigit_1 ?_
  refine j_iconst (pc := 4) (v := 3) hC d_placeDigit_4 (by decide) ?_
  refine j_icmp_ne (pc := 5) hC 20 d_placeDigit_5 (by decide) (fun h1 => ?_) (fun h1 => ?_)
  · exact absurd rfl h1
  · refine j_aloadn0 (pc := 8) hC d_placeDigit_8 ?_
    refine jg_R_24 (pc := 9) hC d_placeDigit_9 ?_
    refine j_iloadn1 (pc := 12) hC d_placeDigit_12 ?_
    refine j_iloadn2 (pc := 13) hC d_placeDigit_13 ?_
    refine j_V2v (pc := 14) (q0 := 3) (ci := 2) hC cw_R_179 (rmD_in (by decide)) (Nat.le_of_ble_eq_true rfl) rfl rfl d_placeDigit_14 (c_v_addHexDigit d wt e hd hw he hWe h0) (fun w2 h2 => ?_)
    obtain ⟨wo2, hg2, mo2, q1, q2, q3, rfl⟩ := h2
    refine j_goto (pc := 17) hC 29 d_placeDigit_17 (by decide) ?_
    exact j_vret hC d_placeDigit_29 ⟨rfl, wo2, hg2, mo2, q1, q2, q3, rfl⟩
theorem c_placeDigit_dec (d : Nat) (wt : Int32) (e : Nat → Nat) (hd : d < 10) (hLe : Le lb e) (h0 : ∀ n : Nat, (n : Int) = 314 - wt.toInt → e n = 0) : jM l y_placeDigit b_placeDigit 3 none (rmD 3) D (tyD ca) X [.ref (g 0), .int (nI d), .int wt] (wd g ca len ps sp ng (2) df dt wg ex hg mo tp lb wo) (jPv fun w => ∃ (lb2 : Nat → Int32) (hg2 mo2 : Int32), Le lb2 (eP 1395 e (314 - wt.toInt) d) ∧ (hg2 ≠ 0 ↔ (hg ≠ 0 ∨ (d ≠ 0 ∧ 314 - wt.toInt < 0))) ∧ (mo2 ≠ 0 ↔ (mo ≠ 0 ∨ (d ≠ 0 ∧ 1395 ≤ 314 - wt.toInt))) ∧ w = wd g ca len ps sp ng (2) df dt wg ex (hg2) (mo2) tp (lb2) wo) := by
  refine jM.of [some (.ref (g 0)), some (.int (nI d)), some (.int wt)] (by simp [jle, jent, Value.category]) rfl (Nat.le_of_ble_eq_true rfl) ?_
  intro p env s m args below meth c sz hC
  refine j_aloadn0 (pc := 0) hC d_placeDigit_0 ?_
  refine jg_R_68 (pc := 1) hC d_placeDigit_1 ?_
  refine j_iconst (pc := 4) (v := 3) hC d_placeDigit_4 (by decide) ?_
  refine j_icmp_ne (pc := 5) hC 20 d_placeDigit_5 (by decide) (fun h1 => ?_) (fun h1 => ?_)
  · refine j_aloadn0 (pc := 20) hC d_placeDigit_20 ?_
    refine jg_R_24 (pc := 21) hC d_placeDigit_21 ?_
    refine j_iloadn1 (pc := 24) hC d_placeDigit_24 ?_
    refine j_iloadn2 (pc := 25) hC d_placeDigit_25 ?_
    refine j_V2v (pc := 26) (q0 := 3) (ci := 2) hC cw_R_182 (rmD_in (by decide)) (Nat.le_of_ble_eq_true rfl) rfl rfl d_placeDigit_26 (c_v_addDecimalDigit d wt e hd hLe h0) (fun w2 h2 => ?_)
    obtain ⟨lb2, hg2, mo2, q1, q2, q3, rfl⟩ := h2
    exact j_vret hC d_placeDigit_29 ⟨rfl, lb2, hg2, mo2, q1, q2, q3, rfl⟩
  · exact absurd h1 (by decide)
end PL
end
section
/-! THE CLASS: placeDigits -/
/-- the text's digits by number -/
def tdg (t : Nat → Int32) (c0 n1 c2 n : Nat) (j : Nat) : Nat := if j < n1 then dg (t (c0 + j)) else if j < n then dg (t (c2 + (j - n1))) else 0
/-- where the digits stand: n1 from c0, n - n1 from c2, all below b; a point between them where there is room -/
def dgs (t : Nat → Int32) (b c0 n1 c2 c3 n : Nat) : Prop := c3 ≤ 8192 ∧ n1 ≤ n ∧ c3 = c2 + (n - n1) ∧ (∀ i, i < n1 → dg (t (c0 + i)) < b) ∧ (∀ i, i < n - n1 → dg (t (c2 + i)) < b) ∧ ((c2 = c0 + n1 + 1 ∧ t (c0 + n1) = 46) ∨ (c2 = c0 + n1 ∧ n = n1))
theorem tdg_lt {t : Nat → Int32} {b c0 n1 c2 c3 n : Nat} (hb : 0 < b) (h : dgs t b c0 n1 c2 c3 n) (j : Nat) : tdg t c0 n1 c2 n j < b := by
  unfold tdg
  split
  · rename_i h1; exact h.2.2.2.1 j h1
  · split
    · rename_i h1 h2; exact h.2.2.2.2.1 (j - n1) (by omega)
    · exact hb
theorem dg_46 : dg 46 = 16 := by decide
/-- the bits of hexadecimal digits -/
def bdg (f : Nat → Nat) (t : Nat) : Nat := f (t / 4) / 2 ^ (3 - t % 4) % 2
theorem bdg_lt (f : Nat → Nat) (t : Nat) : bdg f t < 2 := Nat.mod_lt _ (by omega)
theorem bdg_4 (f : Nat → Nat) (k : Nat) : bdg f (4 * k) = f k / 2 ^ 3 % 2 ∧ bdg f (4 * k + 1) = f k / 2 ^ 2 % 2 ∧ bdg f (4 * k + 2) = f k / 2 ^ 1 % 2 ∧ bdg f (4 * k + 3) = f k / 2 ^ 0 % 2 := by
  unfold bdg
  rw [show 4 * k / 4 = k by omega, show 4 * k % 4 = 0 by omega, show (4 * k + 1) / 4 = k by omega, show (4 * k + 1) % 4 = 1 by omega, show (4 * k + 2) / 4 = k by omega, show (4 * k + 2) % 4 = 2 by omega, show (4 * k + 3) / 4 = k by omega, show (4 * k + 3) % 4 = 3 by omega]
  exact ⟨rfl, rfl, rfl, rfl⟩
theorem eH_eS (f : Nat → Nat) (s : Int) (k : Nat) : eH (eS 2144 (bdg f) s (4 * k)) (s + 4 * (k : Int)) (f k) 4 = eS 2144 (bdg f) s (4 * (k + 1)) := by
  obtain ⟨b0, b1, b2, b3⟩ := bdg_4 f k
  rw [eH_4, show 4 * (k + 1) = 4 * k + 3 + 1 by omega, eS_eP, eS_eP, eS_eP, eS_eP, b0, b1, b2, b3]
  rw [show s + ((4 * k : Nat) : Int) = s + 4 * (k : Int) by omega, show s + ((4 * k + 1 : Nat) : Int) = s + 4 * (k : Int) + 1 by omega, show s + ((4 * k + 2 : Nat) : Int) = s + 4 * (k : Int) + 2 by omega, show s + ((4 * k + 3 : Nat) : Int) = s + 4 * (k : Int) + 3 by omega]
theorem ad_4 {f : Nat → Nat} {s : Int} {k : Nat} {P : Int → Prop} : (∃ j, j < 4 * (k + 1) ∧ bdg f j ≠ 0 ∧ P (s + (j : Int))) ↔ ((∃ j, j < 4 * k ∧ bdg f j ≠ 0 ∧ P (s + (j : Int))) ∨ ∃ j : Nat, j < 4 ∧ f k / 2 ^ j % 2 ≠ 0 ∧ P (s + 4 * (k : Int) + 3 - (j : Int))) := by
  obtain ⟨b0, b1, b2, b3⟩ := bdg_4 f k
  constructor
  · rintro ⟨j, h1, h2, h3⟩
    by_cases h4 : j < 4 * k
    · exact Or.inl ⟨j, h4, h2, h3⟩
    · right
      rcases (show j = 4 * k ∨ j = 4 * k + 1 ∨ j = 4 * k + 2 ∨ j = 4 * k + 3 by omega) with q | q | q | q
      · exact ⟨3, by omega, by rw [q, b0] at h2; exact h2, by rw [q] at h3; rw [show s + 4 * (k : Int) + 3 - ((3 : Nat) : Int) = s + ((4 * k : Nat) : Int) by omega]; exact h3⟩
      · exact ⟨2, by omega, by rw [q, b1] at h2; exact h2, by rw [q] at h3; rw [show s + 4 * (k : Int) + 3 - ((2 : Nat) : Int) = s + ((4 * k + 1 : Nat) : Int) by omega]; exact h3⟩
      · exact ⟨1, by omega, by rw [q, b2] at h2; exact h2, by rw [q] at h3; rw [show s + 4 * (k : Int) + 3 - ((1 : Nat) : Int) = s + ((4 * k + 2 : Nat) : Int) by omega]; exact h3⟩
      · exact ⟨0, by omega, by rw [q, b3] at h2; exact h2, by rw [q] at h3; rw [show s + 4 * (k : Int) + 3 - ((0 : Nat) : Int) = s + ((4 * k + 3 : Nat) : Int) by omega]; exact h3⟩
  · rintro (⟨j, h1, h2, h3⟩ | ⟨j, h1, h2, h3⟩)
    · exact ⟨j, by omega, h2, h3⟩
    · rcases (show j = 0 ∨ j = 1 ∨ j = 2 ∨ j = 3 by omega) with q | q | q | q
      · subst q; exact ⟨4 * k + 3, by omega, by rw [b3]; exact h2, by rw [show s + ((4 * k + 3 : Nat) : Int) = s + 4 * (k : Int) + 3 - ((0 : Nat) : Int) by omega]; exact h3⟩
      · subst q; exact ⟨4 * k + 2, by omega, by rw [b2]; exact h2, by rw [show s + ((4 * k + 2 : Nat) : Int) = s + 4 * (k : Int) + 3 - ((1 : Nat) : Int) by omega]; exact h3⟩
      · subst q; exact ⟨4 * k + 1, by omega, by rw [b1]; exact h2, by rw [show s + ((4 * k + 1 : Nat) : Int) = s + 4 * (k : Int) + 3 - ((2 : Nat) : Int) by omega]; exact h3⟩
      · subst q; exact ⟨4 * k, by omega, by rw [b0]; exact h2, by rw [show s + ((4 * k : Nat) : Int) = s + 4 * (k : Int) + 3 - ((3 : Nat) : Int) by omega]; exact h3⟩
/-- at the place i, k digits are behind -/
def pos (c0 n1 c2 c3 i k : Nat) : Prop := (c0 ≤ i ∧ i ≤ c0 + n1 ∧ k = i - c0) ∨ (c2 ≤ i ∧ i ≤ c3 ∧ k = n1 + (i - c2))
section PA
variable {l : Launch} {D : va_G} {X : jX} {g : Nat → Nat} {ca : Nat → ClassId} {len ps sp ng fm df dt wg ex hg mo : Int32} {tp lb wo : Nat → Int32}
set_option maxHeartbeats 4000000 in
theorem c_placeDigits_hex (c0 n1 c2 c3 n : Nat) (hT : dgs tp 16 c0 n1 c2 c3 n) (hex : -100000000 < ex.toInt ∧ ex.toInt < 100000000) : jM l y_placeDigits b_placeDigits 4 none (rmD 4) D (tyD ca) X [.ref (g 0)] (wd g ca len ps sp ng (3) (nI c0) (nI c3) (nI n1) ex hg mo tp lb wo) (jPv fun w => ∃ (lb2 wo2 : Nat → Int32) (hg2 mo2 : Int32), wnum wo2 = adS 2 2144 (bdg (tdg tp c0 n1 c2 n)) (1056 - ex.toInt - 4 * (n1 : Int)) (4 * n) ∧ (hg2 ≠ 0 ↔ adH (bdg (tdg tp c0 n1 c2 n)) (1056 - ex.toInt - 4 * (n1 : Int)) (4 * n)) ∧ (mo2 ≠ 0 ↔ adM 2144 (bdg (tdg tp c0 n1 c2 n)) (1056 - ex.toInt - 4 * (n1 : Int)) (4 * n)) ∧ w = wd g ca len ps sp ng (3) (nI c0) (nI c3) (nI n1) ex (hg2) (mo2) tp (lb2) (wo2)) := by
  refine jM.of [some (.ref (g 0)), none, none, none] (by simp [jle, jent, Value.category]) rfl (Nat.le_of_ble_eq_true rfl) ?_
  intro p e s m args below meth c sz hC
  have hc3 := hT.1
  have hn1 := hT.2.1
  have he3 := hT.2.2.1
  have hdot := hT.2.2.2.2.2
  have hlt := tdg_lt (by omega) hT
  have loop : ∀ (f i k : Nat) (lb2 wo2 : Nat → Int32) (hg2 mo2 wt : Int32), i + f = c3 → pos c0 n1 c2 c3 i k → (∀ i, i < 155 → lb2 i = 0) → wt.toInt = ex.toInt + 4 * ((n1 : Int) - 1 - k) → We wo2 (eS 2144 (bdg (tdg tp c0 n1 c2 n)) (1056 - ex.toInt - 4 * (n1 : Int)) (4 * k)) → (hg2 ≠ 0 ↔ adH (bdg (tdg tp c0 n1 c2 n)) (1056 - ex.toInt - 4 * (n1 : Int)) (4 * k)) → (mo2 ≠ 0 ↔ adM 2144 (bdg (tdg tp c0 n1 c2 n)) (1056 - ex.toInt - 4 * (n1 : Int)) (4 * k)) → J p l e (rmD 4) s m args below meth c D (va_A (wd g ca len ps sp ng (3) (nI c0) (nI c3) (nI n1) ex hg mo tp lb wo) sz) 4 (MQ below (jQ D (wd g ca len ps sp ng (3) (nI c0) (nI c3) (nI n1) ex hg mo tp lb wo) sz (jPv fun w => ∃ (lb2 wo2 : Nat → Int32) (hg2 mo2 : Int32), wnum wo2 = adS 2 2144 (bdg (tdg tp c0 n1 c2 n)) (1056 - ex.toInt - 4 * (n1 : Int)) (4 * n) ∧ (hg2 ≠ 0 ↔ adH (bdg (tdg tp c0 n1 c2 n)) (1056 - ex.toInt - 4 * (n1 : Int)) (4 * n)) ∧ (mo2 ≠ 0 ↔ adM 2144 (bdg (tdg tp c0 n1 c2 n)) (1056 - ex.toInt - 4 * (n1 : Int)) (4 * n)) ∧ w = wd g ca len ps sp ng (3) (nI c0) (nI c3) (nI n1) ex (hg2) (mo2) tp (lb2) (wo2))) args s 0 0 (va_A (wd g ca len ps sp ng (3) (nI c0) (nI c3) (nI n1) ex hg mo tp lb wo) sz)) 40 [some (.ref (g 0)), some (.int 4), some (.int wt), some (.int (nI i))] [] (wd g ca len ps sp ng (3) (nI c0) (nI c3) (nI n1) ex (hg2) (mo2) tp (lb2) (wo2)) := by
    intro f
    induction f with
    | zero =>
      intro i k lb2 wo2 hg2 mo2 wt hi hp hz hwt hWe hh hm
      have hk : k = n := by
        clear hh hm
        rcases hp with ⟨p1, p2, p3⟩ | ⟨p1, p2, p3⟩
        · rcases hdot with ⟨d1, d2⟩ | ⟨d1, d2⟩ <;> omega
        · omega
      subst hk
      refine j_iloadn3 (pc := 40) hC d_placeDigits_40 ?_
      refine j_aloadn0 (pc := 41) hC d_placeDigits_41 ?_
      refine jg_R_141 (pc := 42) hC d_placeDigits_42 ?_
      refine j_icmp_ge (pc := 45) hC 83 d_placeDigits_45 (by decide) (fun h1 => ?_) (fun h1 => ?_)
      · refine j_aloadn0 (pc := 83) hC d_placeDigits_83 ?_
        refine jg_R_24 (pc := 84) hC d_placeDigits_84 ?_
        refine j_V0v (pc := 87) (q0 := 3) (ci := 2) hC cw_R_176 (rmD_in (by decide)) (Nat.le_of_ble_eq_true rfl) rfl rfl d_placeDigits_87 (c_v_turnBinary_hex hz) (fun w2 h2 => ?_)
        obtain rfl := h2
        exact j_vret hC d_placeDigits_90 ⟨rfl, lb2, wo2, hg2, mo2, by rw [hWe.num, eS_sum], hh, hm, rfl⟩
      · clear hh hm
        rw [nI_leI (by omega) (by omega)] at h1
        omega
    | succ f ih =>
      intro i k lb2 wo2 hg2 mo2 wt hi hp hz hwt hWe hh hm
      have hile : i < c3 := by clear hh hm; omega
      have hif : i + 1 + f = c3 := by clear hh hm; omega
      have hcl : (nI i).toNatClampNeg = i := nI_clamp (by omega)
      refine j_iloadn3 (pc := 40) hC d_placeDigits_40 ?_
      refine j_aloadn0 (pc := 41) hC d_placeDigits_41 ?_
      refine jg_R_141 (pc := 42) hC d_placeDigits_42 ?_
      refine j_icmp_ge (pc := 45) hC 83 d_placeDigits_45 (by decide) (fun h1 => ?_) (fun h1 => ?_)
      · clear hh hm
        rw [nI_leI (by omega) (by omega)] at h1
        omega
      · refine j_aloadn0 (pc := 48) hC d_placeDigits_48 ?_
        refine jg_R_28 (pc := 49) hC d_placeDigits_49 ?_
        refine j_iloadn3 (pc := 52) hC d_placeDigits_52 ?_
        refine ja_tape_baload (pc := 53) hC (vp_in_nI (by omega) (by decide)) d_placeDigits_53 ?_
        rw [hcl]
        refine j_bipush (pc := 54) (v := 46) hC d_placeDigits_54 (by decide) ?_
        refine j_icmp_eq (pc := 56) hC 77 d_placeDigits_56 (by decide) (fun h2 => ?_) (fun h2 => ?_)
        · -- the point
          have hpd : i = c0 + n1 ∧ c2 = i + 1 ∧ k = n1 := by
            clear hh hm
            have h46 := dg_46
            rcases hp with ⟨p1, p2, p3⟩ | ⟨p1, p2, p3⟩
            · rcases Nat.lt_or_eq_of_le p2 with q | q
              · have := hT.2.2.2.1 (i - c0) (by omega)
                rw [show c0 + (i - c0) = i by omega, h2, h46] at this
                omega
              · rcases hdot with ⟨d1, d2⟩ | ⟨d1, d2⟩ <;> omega
            · have := hT.2.2.2.2.1 (i - c2) (by omega)
              rw [show c2 + (i - c2) = i by omega, h2, h46] at this
              omega
          refine j_iinc3 (pc := 77) hC d_placeDigits_77 (by decide) (by first | exact trivial | exact rfl) ?_
          refine j_goto (pc := 80) hC 40 d_placeDigits_80 (by decide) ?_
          refine J.to rfl ?_ rfl rfl (ih (i + 1) k lb2 wo2 hg2 mo2 wt hif (Or.inr ⟨by omega, by omega, by omega⟩) hz hwt hWe hh hm)
          rw [← nI_1]
          rfl
        · have hpd : k < n ∧ dg (tp i) = (tdg tp c0 n1 c2 n) k ∧ pos c0 n1 c2 c3 (i + 1) (k + 1) := by
            clear hh hm
            unfold tdg pos
            rcases hp with ⟨p1, p2, p3⟩ | ⟨p1, p2, p3⟩
            · rcases Nat.lt_or_eq_of_le p2 with q | q
              · rw [if_pos (by omega), show c0 + k = i by omega]
                exact ⟨by omega, rfl, Or.inl ⟨by omega, by omega, by omega⟩⟩
              · rcases hdot with ⟨d1, d2⟩ | ⟨d1, d2⟩
                · rw [← q] at d2
                  exact absurd d2 h2
                · omega
            · rw [if_neg (by omega), if_pos (by omega), show c2 + (k - n1) = i by omega]
              exact ⟨by omega, rfl, Or.inr ⟨by omega, by omega, by omega⟩⟩
          obtain ⟨hkn, hdk, hpn⟩ := hpd
          have hdl := hlt k
          have hkb : k ≤ 8192 := by clear hh hm; omega
          refine j_aloadn0 (pc := 59) hC d_placeDigits_59 ?_
          refine j_aloadn0 (pc := 60) hC d_placeDigits_60 ?_
          refine jg_R_28 (pc := 61) hC d_placeDigits_61 ?_
          refine j_iloadn3 (pc := 64) hC d_placeDigits_64 ?_
          refine ja_tape_baload (pc := 65) hC (vp_in_nI (by omega) (by decide)) d_placeDigits_65 ?_
          refine j_S1i (pc := 66) hC cw_R_148 (rmD_in (by decide)) (Nat.le_of_ble_eq_true rfl) d_placeDigits_66 (c_digitOf _) (fun r w2 h3 => ?_)
          obtain ⟨rfl, rfl⟩ := h3
          rw [hcl, hdk]
          have hplace : 1052 - wt.toInt = (1056 - ex.toInt - 4 * (n1 : Int)) + 4 * (k : Int) := by rw [hwt]; omega
          refine j_iloadn2 (pc := 69) hC d_placeDigits_69 ?_
          refine j_V2v (pc := 70) (q0 := 0) (ci := 0) hC cw_R_172 (rmD_in (by decide)) (Nat.le_of_ble_eq_true rfl) rfl rfl d_placeDigits_70 (c_placeDigit_hex ((tdg tp c0 n1 c2 n) k) wt (eS 2144 (bdg (tdg tp c0 n1 c2 n)) (1056 - ex.toInt - 4 * (n1 : Int)) (4 * k)) hdl (by omega) (fun n => eS_lt (by omega) (bdg_lt _)) hWe (fun n hn => eS_new (by omega))) (fun w2 h4 => ?_)
          obtain ⟨wo3, hg3, mo3, q1, q2, q3, rfl⟩ := h4
          rw [hplace] at q1 q2 q3
          refine j_iloadn2 (pc := 73) hC d_placeDigits_73 ?_
          refine j_iloadn1 (pc := 74) hC d_placeDigits_74 ?_
          refine j_isub (pc := 75) hC d_placeDigits_75 ?_
          refine j_istoren2 (pc := 76) hC d_placeDigits_76 (by decide) (by first | exact trivial | exact rfl) ?_
          refine j_iinc3 (pc := 77) hC d_placeDigits_77 (by decide) (by first | exact trivial | exact rfl) ?_
          refine j_goto (pc := 80) hC 40 d_placeDigits_80 (by decide) ?_
          refine J.to rfl ?_ rfl rfl (ih (i + 1) (k + 1) lb2 wo3 hg3 mo3 (wt - 4) hif hpn hz ?_ ?_ ?_ ?_)
          · rw [← nI_1]
            rfl
          · rw [tsub (by rw [show (4 : Int32).toInt = 4 from rfl]; omega) (by rw [show (4 : Int32).toInt = 4 from rfl]; omega), show (4 : Int32).toInt = 4 from rfl, hwt]
            omega
          · rw [← eH_eS]
            exact q1
          · rw [q2, hh]
            exact (ad_4 (P := fun z => z < 0)).symm
          · rw [q3, hm]
            exact (ad_4 (P := fun z => ((2144 : Nat) : Int) ≤ z)).symm
  refine j_aloadn0 (pc := 0) hC d_placeDigits_0 ?_
  refine jg_R_24 (pc := 1) hC d_placeDigits_1 ?_
  refine j_V0v (pc := 4) (q0 := 3) (ci := 2) hC cw_R_169 (rmD_in (by decide)) (Nat.le_of_ble_eq_true rfl) rfl rfl d_placeDigits_4 (c_v_clear) (fun w2 h1 => ?_)
  obtain ⟨lb2, wo2, hz1, hz2, rfl⟩ := h1
  refine j_aloadn0 (pc := 7) hC d_placeDigits_7 ?_
  refine jg_R_68 (pc := 8) hC d_placeDigits_8 ?_
  refine j_iconst (pc := 11) (v := 3) hC d_placeDigits_11 (by decide) ?_
  refine j_icmp_ne (pc := 12) hC 19 d_placeDigits_12 (by decide) (fun h2 => ?_) (fun h2 => ?_)
  · exact absurd rfl h2
  · refine j_iconst (pc := 15) (v := 4) hC d_placeDigits_15 (by decide) ?_
    refine j_goto (pc := 16) hC 20 d_placeDigits_16 (by decide) ?_
    refine j_istoren1 (pc := 20) hC d_placeDigits_20 (by decide) (by first | exact trivial | exact rfl) ?_
    refine j_aloadn0 (pc := 21) hC d_placeDigits_21 ?_
    refine jg_R_144 (pc := 22) hC d_placeDigits_22 ?_
    refine j_iloadn1 (pc := 25) hC d_placeDigits_25 ?_
    refine j_aloadn0 (pc := 26) hC d_placeDigits_26 ?_
    refine jg_R_134 (pc := 27) hC d_placeDigits_27 ?_
    refine j_iconst (pc := 30) (v := 1) hC d_placeDigits_30 (by decide) ?_
    refine j_isub (pc := 31) hC d_placeDigits_31 ?_
    refine j_imul (pc := 32) hC d_placeDigits_32 ?_
    refine j_iadd (pc := 33) hC d_placeDigits_33 ?_
    refine j_istoren2 (pc := 34) hC d_placeDigits_34 (by decide) (by first | exact trivial | exact rfl) ?_
    refine j_aloadn0 (pc := 35) hC d_placeDigits_35 ?_
    refine jg_R_127 (pc := 36) hC d_placeDigits_36 ?_
    refine j_istoren3 (pc := 39) hC d_placeDigits_39 (by decide) (by first | exact trivial | exact rfl) ?_
    refine loop (c3 - c0) c0 0 lb2 wo2 0 0 _ (by clear loop; rcases hdot with ⟨d1, d2⟩ | ⟨d1, d2⟩ <;> omega) (Or.inl ⟨by omega, by omega, by omega⟩) hz1 ?_ ?_ ⟨fun q => absurd rfl q, fun q => ?_⟩ ⟨fun q => absurd rfl q, fun q => ?_⟩
    · have e1 := nI_toInt (n := n1) (by omega)
      have e2 : (nI n1 - 1).toInt = (n1 : Int) - 1 := by
        rw [tsub (by rw [show (1 : Int32).toInt = 1 from rfl]; omega) (by rw [show (1 : Int32).toInt = 1 from rfl]; omega), e1]
        rfl
      have e3 : ((4 : Int32) * (nI n1 - 1)).toInt = 4 * ((n1 : Int) - 1) := by
        rw [tmul (by rw [show (4 : Int32).toInt = 4 from rfl]; omega) (by rw [show (4 : Int32).toInt = 4 from rfl]; omega), e2]
        rfl
      rw [tadd (by omega) (by omega), e3]
      omega
    · intro j hj
      rw [hz2 j hj]
      exact (hv_zero 2 (fun _ _ => rfl)).symm
    · obtain ⟨j, q, -⟩ := q
      exact absurd q (by omega)
    · obtain ⟨j, q, -⟩ := q
      exact absurd q (by omega)
end PA
end
section
theorem ad_1 {f : Nat → Nat} {s : Int} {k : Nat} {P : Int → Prop} : (∃ j, j < k + 1 ∧ f j ≠ 0 ∧ P (s + (j : Int))) ↔ ((∃ j, j < k ∧ f j ≠ 0 ∧ P (s + (j : Int))) ∨ (f k ≠ 0 ∧ P (s + (k : Int)))) := by
  constructor
  · rintro ⟨j, h1, h2, h3⟩
    rcases Nat.lt_or_eq_of_le (Nat.le_of_lt_succ h1) with q | q
    · exact Or.inl ⟨j, q, h2, h3⟩
    · subst q; exact Or.inr ⟨h2, h3⟩
  · rintro (⟨j, h1, h2, h3⟩ | ⟨h2, h3⟩)
    · exact ⟨j, by omega, h2, h3⟩
    · exact ⟨k, by omega, h2, h3⟩
section PD
variable {l : Launch} {D : va_G} {X : jX} {g : Nat → Nat} {ca : Nat → ClassId} {len ps sp ng fm df dt wg ex hg mo : Int32} {tp lb wo : Nat → Int32}
set_option maxHeartbeats 4000000 in
theorem c_placeDigits_dec (c0 n1 c2 c3 n : Nat) (hT : dgs tp 10 c0 n1 c2 c3 n) (hex : -100000000 < ex.toInt ∧ ex.toInt < 100000000) : jM l y_placeDigits b_placeDigits 4 none (rmD 4) D (tyD ca) X [.ref (g 0)] (wd g ca len ps sp ng (2) (nI c0) (nI c3) (nI n1) ex hg mo tp lb wo) (jPv fun w => ∃ (lb2 wo2 : Nat → Int32) (hg2 mo2 : Int32), wnum wo2 = adS 10 1395 (tdg tp c0 n1 c2 n) (315 - ex.toInt - (n1 : Int)) n * T34 / B120 ∧ (hg2 ≠ 0 ↔ adH (tdg tp c0 n1 c2 n) (315 - ex.toInt - (n1 : Int)) n) ∧ (mo2 ≠ 0 ↔ (adM 1395 (tdg tp c0 n1 c2 n) (315 - ex.toInt - (n1 : Int)) n ∨ adS 10 1395 (tdg tp c0 n1 c2 n) (315 - ex.toInt - (n1 : Int)) n * T34 % B120 ≠ 0)) ∧ w = wd g ca len ps sp ng (2) (nI c0) (nI c3) (nI n1) ex (hg2) (mo2) tp (lb2) (wo2)) := by
  refine jM.of [some (.ref (g 0)), none, none, none] (by simp [jle, jent, Value.category]) rfl (Nat.le_of_ble_eq_true rfl) ?_
  intro p e s m args below meth c sz hC
  have hc3 := hT.1
  have hn1 := hT.2.1
  have he3 := hT.2.2.1
  have hdot := hT.2.2.2.2.2
  have hlt := tdg_lt (by omega) hT
  have loop : ∀ (f i k : Nat) (lb2 wo2 : Nat → Int32) (hg2 mo2 wt : Int32), i + f = c3 → pos c0 n1 c2 c3 i k → (∀ i, i < 67 → wo2 i = 0) → wt.toInt = ex.toInt + ((n1 : Int) - 1 - k) → Le lb2 (eS 1395 (tdg tp c0 n1 c2 n) (315 - ex.toInt - (n1 : Int)) k) → (hg2 ≠ 0 ↔ adH (tdg tp c0 n1 c2 n) (315 - ex.toInt - (n1 : Int)) k) → (mo2 ≠ 0 ↔ adM 1395 (tdg tp c0 n1 c2 n) (315 - ex.toInt - (n1 : Int)) k) → J p l e (rmD 4) s m args below meth c D (va_A (wd g ca len ps sp ng (2) (nI c0) (nI c3) (nI n1) ex hg mo tp lb wo) sz) 4 (MQ below (jQ D (wd g ca len ps sp ng (2) (nI c0) (nI c3) (nI n1) ex hg mo tp lb wo) sz (jPv fun w => ∃ (lb2 wo2 : Nat → Int32) (hg2 mo2 : Int32), wnum wo2 = adS 10 1395 (tdg tp c0 n1 c2 n) (315 - ex.toInt - (n1 : Int)) n * T34 / B120 ∧ (hg2 ≠ 0 ↔ adH (tdg tp c0 n1 c2 n) (315 - ex.toInt - (n1 : Int)) n) ∧ (mo2 ≠ 0 ↔ (adM 1395 (tdg tp c0 n1 c2 n) (315 - ex.toInt - (n1 : Int)) n ∨ adS 10 1395 (tdg tp c0 n1 c2 n) (315 - ex.toInt - (n1 : Int)) n * T34 % B120 ≠ 0)) ∧ w = wd g ca len ps sp ng (2) (nI c0) (nI c3) (nI n1) ex (hg2) (mo2) tp (lb2) (wo2))) args s 0 0 (va_A (wd g ca len ps sp ng (2) (nI c0) (nI c3) (nI n1) ex hg mo tp lb wo) sz)) 40 [some (.ref (g 0)), some (.int 1), some (.int wt), some (.int (nI i))] [] (wd g ca len ps sp ng (2) (nI c0) (nI c3) (nI n1) ex (hg2) (mo2) tp (lb2) (wo2)) := by
    intro f
    induction f with
    | zero =>
      intro i k lb2 wo2 hg2 mo2 wt hi hp hz hwt hLe hh hm
      have hk : k = n := by
        clear hh hm
        rcases hp with ⟨p1, p2, p3⟩ | ⟨p1, p2, p3⟩
        · rcases hdot with ⟨d1, d2⟩ | ⟨d1, d2⟩ <;> omega
        · omega
      have hnum : hv 1000000000 (fun q => hv 10 (fun i => eS 1395 (tdg tp c0 n1 c2 n) (315 - ex.toInt - (n1 : Int)) k (9 * q + i)) 9) 155 = adS 10 1395 (tdg tp c0 n1 c2 n) (315 - ex.toInt - (n1 : Int)) k := by
        rw [← eS_sum]
        exact hv_group (b := 10) (w := 9) (e := eS 1395 (tdg tp c0 n1 c2 n) (315 - ex.toInt - (n1 : Int)) k) (n := 155) (fun q _ => rfl)
      subst hk
      refine j_iloadn3 (pc := 40) hC d_placeDigits_40 ?_
      refine j_aloadn0 (pc := 41) hC d_placeDigits_41 ?_
      refine jg_R_141 (pc := 42) hC d_placeDigits_42 ?_
      refine j_icmp_ge (pc := 45) hC 83 d_placeDigits_45 (by decide) (fun h1 => ?_) (fun h1 => ?_)
      · refine j_aloadn0 (pc := 83) hC d_placeDigits_83 ?_
        refine jg_R_24 (pc := 84) hC d_placeDigits_84 ?_
        refine j_V0v (pc := 87) (q0 := 3) (ci := 2) hC cw_R_176 (rmD_in (by decide)) (Nat.le_of_ble_eq_true rfl) rfl rfl d_placeDigits_87 (c_v_turnBinary_dec _ (hLe.Lr (fun P => eS_lt (by omega) hlt)) hz) (fun w2 h2 => ?_)
        obtain ⟨lb3, wo3, mo3, y1, y2, rfl⟩ := h2
        rw [hnum] at y1 y2
        exact j_vret hC d_placeDigits_90 ⟨rfl, lb3, wo3, hg2, mo3, y1, hh, by rw [y2, hm], rfl⟩
      · clear hh hm
        rw [nI_leI (by omega) (by omega)] at h1
        omega
    | succ f ih =>
      intro i k lb2 wo2 hg2 mo2 wt hi hp hz hwt hLe hh hm
      have hile : i < c3 := by clear hh hm; omega
      have hif : i + 1 + f = c3 := by clear hh hm; omega
      have hcl : (nI i).toNatClampNeg = i := nI_clamp (by omega)
      refine j_iloadn3 (pc := 40) hC d_placeDigits_40 ?_
      refine j_aloadn0 (pc := 41) hC d_placeDigits_41 ?_
      refine jg_R_141 (pc := 42) hC d_placeDigits_42 ?_
      refine j_icmp_ge (pc := 45) hC 83 d_placeDigits_45 (by decide) (fun h1 => ?_) (fun h1 => ?_)
      · clear hh hm
        rw [nI_leI (by omega) (by omega)] at h1
        omega
      · refine j_aloadn0 (pc := 48) hC d_placeDigits_48 ?_
        refine jg_R_28 (pc := 49) hC d_placeDigits_49 ?_
        refine j_iloadn3 (pc := 52) hC d_placeDigits_52 ?_
        refine ja_tape_baload (pc := 53) hC (vp_in_nI (by omega) (by decide)) d_placeDigits_53 ?_
        rw [hcl]
        refine j_bipush (pc := 54) (v := 46) hC d_placeDigits_54 (by decide) ?_
        refine j_icmp_eq (pc := 56) hC 77 d_placeDigits_56 (by decide) (fun h2 => ?_) (fun h2 => ?_)
        · -- the point
          have hpd : i = c0 + n1 ∧ c2 = i + 1 ∧ k = n1 := by
            clear hh hm
            have h46 := dg_46
            rcases hp with ⟨p1, p2, p3⟩ | ⟨p1, p2, p3⟩
            · rcases Nat.lt_or_eq_of_le p2 with q | q
              · have := hT.2.2.2.1 (i - c0) (by omega)
                rw [show c0 + (i - c0) = i by omega, h2, h46] at this
                omega
              · rcases hdot with ⟨d1, d2⟩ | ⟨d1, d2⟩ <;> omega
            · have := hT.2.2.2.2.1 (i - c2) (by omega)
              rw [show c2 + (i - c2) = i by omega, h2, h46] at this
              omega
          refine j_iinc3 (pc := 77) hC d_placeDigits_77 (by decide) (by first | exact trivial | exact rfl) ?_
          refine j_goto (pc := 80) hC 40 d_placeDigits_80 (by decide) ?_
          refine J.to rfl ?_ rfl rfl (ih (i + 1) k lb2 wo2 hg2 mo2 wt hif (Or.inr ⟨by omega, by omega, by omega⟩) hz hwt hLe hh hm)
          rw [← nI_1]
          rfl
        · have hpd : k < n ∧ dg (tp i) = (tdg tp c0 n1 c2 n) k ∧ pos c0 n1 c2 c3 (i + 1) (k + 1) := by
            clear hh hm
            unfold tdg pos
            rcases hp with ⟨p1, p2, p3⟩ | ⟨p1, p2, p3⟩
            · rcases Nat.lt_or_eq_of_le p2 with q | q
              · rw [if_pos (by omega), show c0 + k = i by omega]
                exact ⟨by omega, rfl, Or.inl ⟨by omega, by omega, by omega⟩⟩
              · rcases hdot with ⟨d1, d2⟩ | ⟨d1, d2⟩
                · rw [← q] at d2
                  exact absurd d2 h2
                · omega
            · rw [if_neg (by omega), if_pos (by omega), show c2 + (k - n1) = i by omega]
              exact ⟨by omega, rfl, Or.inr ⟨by omega, by omega, by omega⟩⟩
          obtain ⟨hkn, hdk, hpn⟩ := hpd
          have hdl := hlt k
          have hkb : k ≤ 8192 := by clear hh hm; omega
          refine j_aloadn0 (pc := 59) hC d_placeDigits_59 ?_
          refine j_aloadn0 (pc := 60) hC d_placeDigits_60 ?_
          refine jg_R_28 (pc := 61) hC d_placeDigits_61 ?_
          refine j_iloadn3 (pc := 64) hC d_placeDigits_64 ?_
          refine ja_tape_baload (pc := 65) hC (vp_in_nI (by omega) (by decide)) d_placeDigits_65 ?_
          refine j_S1i (pc := 66) hC cw_R_148 (rmD_in (by decide)) (Nat.le_of_ble_eq_true rfl) d_placeDigits_66 (c_digitOf _) (fun r w2 h3 => ?_)
          obtain ⟨rfl, rfl⟩ := h3
          rw [hcl, hdk]
          have hplace : 314 - wt.toInt = (315 - ex.toInt - (n1 : Int)) + (k : Int) := by rw [hwt]; omega
          refine j_iloadn2 (pc := 69) hC d_placeDigits_69 ?_
          refine j_V2v (pc := 70) (q0 := 0) (ci := 0) hC cw_R_172 (rmD_in (by decide)) (Nat.le_of_ble_eq_true rfl) rfl rfl d_placeDigits_70 (c_placeDigit_dec ((tdg tp c0 n1 c2 n) k) wt (eS 1395 (tdg tp c0 n1 c2 n) (315 - ex.toInt - (n1 : Int)) k) hdl hLe (fun n hn => eS_new (by omega))) (fun w2 h4 => ?_)
          obtain ⟨lb3, hg3, mo3, q1, q2, q3, rfl⟩ := h4
          rw [hplace] at q1 q2 q3
          refine j_iloadn2 (pc := 73) hC d_placeDigits_73 ?_
          refine j_iloadn1 (pc := 74) hC d_placeDigits_74 ?_
          refine j_isub (pc := 75) hC d_placeDigits_75 ?_
          refine j_istoren2 (pc := 76) hC d_placeDigits_76 (by decide) (by first | exact trivial | exact rfl) ?_
          refine j_iinc3 (pc := 77) hC d_placeDigits_77 (by decide) (by first | exact trivial | exact rfl) ?_
          refine j_goto (pc := 80) hC 40 d_placeDigits_80 (by decide) ?_
          refine J.to rfl ?_ rfl rfl (ih (i + 1) (k + 1) lb3 wo2 hg3 mo3 (wt - 1) hif hpn hz ?_ ?_ ?_ ?_)
          · rw [← nI_1]
            rfl
          · rw [tsub (by rw [show (1 : Int32).toInt = 1 from rfl]; omega) (by rw [show (1 : Int32).toInt = 1 from rfl]; omega), show (1 : Int32).toInt = 1 from rfl, hwt]
            omega
          · rw [eS_eP]
            exact q1
          · rw [q2, hh]
            exact (ad_1 (P := fun z => z < 0)).symm
          · rw [q3, hm]
            exact (ad_1 (P := fun z => ((1395 : Nat) : Int) ≤ z)).symm
  refine j_aloadn0 (pc := 0) hC d_placeDigits_0 ?_
  refine jg_R_24 (pc := 1) hC d_placeDigits_1 ?_
  refine j_V0v (pc := 4) (q0 := 3) (ci := 2) hC cw_R_169 (rmD_in (by decide)) (Nat.le_of_ble_eq_true rfl) rfl rfl d_placeDigits_4 (c_v_clear) (fun w2 h1 => ?_)
  obtain ⟨lb2, wo2, hz1, hz2, rfl⟩ := h1
  refine j_aloadn0 (pc := 7) hC d_placeDigits_7 ?_
  refine jg_R_68 (pc := 8) hC d_placeDigits_8 ?_
  refine j_iconst (pc := 11) (v := 3) hC d_placeDigits_11 (by decide) ?_
  refine j_icmp_ne (pc := 12) hC 19 d_placeDigits_12 (by decide) (fun h2 => ?_) (fun h2 => ?_)
  · refine j_iconst (pc := 19) (v := 1) hC d_placeDigits_19 (by decide) ?_
    refine j_istoren1 (pc := 20) hC d_placeDigits_20 (by decide) (by first | exact trivial | exact rfl) ?_
    refine j_aloadn0 (pc := 21) hC d_placeDigits_21 ?_
    refine jg_R_144 (pc := 22) hC d_placeDigits_22 ?_
    refine j_iloadn1 (pc := 25) hC d_placeDigits_25 ?_
    refine j_aloadn0 (pc := 26) hC d_placeDigits_26 ?_
    refine jg_R_134 (pc := 27) hC d_placeDigits_27 ?_
    refine j_iconst (pc := 30) (v := 1) hC d_placeDigits_30 (by decide) ?_
    refine j_isub (pc := 31) hC d_placeDigits_31 ?_
    refine j_imul (pc := 32) hC d_placeDigits_32 ?_
    refine j_iadd (pc := 33) hC d_placeDigits_33 ?_
    refine j_istoren2 (pc := 34) hC d_placeDigits_34 (by decide) (by first | exact trivial | exact rfl) ?_
    refine j_aloadn0 (pc := 35) hC d_placeDigits_35 ?_
    refine jg_R_127 (pc := 36) hC d_placeDigits_36 ?_
    refine j_istoren3 (pc := 39) hC d_placeDigits_39 (by decide) (by first | exact trivial | exact rfl) ?_
    refine loop (c3 - c0) c0 0 lb2 wo2 0 0 _ (by clear loop; rcases hdot with ⟨d1, d2⟩ | ⟨d1, d2⟩ <;> omega) (Or.inl ⟨by omega, by omega, by omega⟩) hz2 ?_ ?_ ⟨fun q => absurd rfl q, fun q => ?_⟩ ⟨fun q => absurd rfl q, fun q => ?_⟩
    · have e1 := nI_toInt (n := n1) (by omega)
      have e2 : (nI n1 - 1).toInt = (n1 : Int) - 1 := by
        rw [tsub (by rw [show (1 : Int32).toInt = 1 from rfl]; omega) (by rw [show (1 : Int32).toInt = 1 from rfl]; omega), e1]
        rfl
      have e3 : ((1 : Int32) * (nI n1 - 1)).toInt = (n1 : Int) - 1 := by
        rw [tmul (by rw [show (1 : Int32).toInt = 1 from rfl]; omega) (by rw [show (1 : Int32).toInt = 1 from rfl]; omega), e2, show (1 : Int32).toInt = 1 from rfl]
        omega
      rw [tadd (by omega) (by omega), e3]
      omega
    · intro j hj
      rw [hz1 j hj]
      show _ = nI (hv 10 (fun i => 0) 9)
      rw [hv_zero 10 (fun _ _ => rfl)]
      rfl
    · obtain ⟨j, q, -⟩ := q
      exact absurd q (by omega)
    · obtain ⟨j, q, -⟩ := q
      exact absurd q (by omega)
  · exact absurd h2 (by decide)
end PD
end
section
/-! PURE: the number that a text names, and what the class's bits say of it -/
theorem kA_same {w N M N' M' : Nat} {mo : Bool} (hM : 0 < M) (hM' : 0 < M') (h : N * M' = N' * M) (hA : kA w mo N M) : kA w mo N' M' := by
  intro j
  have a1 := hA j
  have l1 := kx_le (a := j * 8192) hM hM' h
  have l2 := kx_ge (a := j * 8192) hM hM' h
  refine ⟨l1.symm.trans a1.1, ?_⟩
  rw [← a1.2]
  constructor
  · intro q
    rcases Nat.lt_or_ge (j * 8192 * M) N with y | y
    · exact y
    · exact absurd (l2.mp y) (by omega)
  · intro q
    rcases Nat.lt_or_ge (j * 8192 * M') N' with y | y
    · exact y
    · exact absurd (l2.mpr y) (by omega)
/-- two starts that lie both behind the last place, or both before the first -/
theorem ad_far {b C : Nat} {f : Nat → Nat} {s s' : Int} {n : Nat} (h : ((C : Int) ≤ s ∧ (C : Int) ≤ s') ∨ (s + (n : Int) ≤ 0 ∧ s' + (n : Int) ≤ 0)) : adS b C f s n = adS b C f s' n ∧ (adH f s n ↔ adH f s' n) ∧ (adM C f s n ↔ adM C f s' n) := by
  have z : ∀ (s : Int) (k : Nat), k ≤ n → ((C : Int) ≤ s ∨ s + (n : Int) ≤ 0) → adS b C f s k = 0 := by
    intro s k
    induction k with
    | zero => intro _ _; rfl
    | succ k ih =>
      intro hk hs
      rw [adS, if_pos (by omega)]
      exact ih (by omega) hs
  rcases h with ⟨h1, h2⟩ | ⟨h1, h2⟩
  · refine ⟨by rw [z s n (Nat.le_refl _) (Or.inl h1), z s' n (Nat.le_refl _) (Or.inl h2)], ⟨fun ⟨j, a, b, c⟩ => by omega, fun ⟨j, a, b, c⟩ => by omega⟩, ⟨fun ⟨j, a, b, c⟩ => ⟨j, a, b, by omega⟩, fun ⟨j, a, b, c⟩ => ⟨j, a, b, by omega⟩⟩⟩
  · refine ⟨by rw [z s n (Nat.le_refl _) (Or.inr h1), z s' n (Nat.le_refl _) (Or.inr h2)], ⟨fun ⟨j, a, b, c⟩ => ⟨j, a, b, by omega⟩, fun ⟨j, a, b, c⟩ => ⟨j, a, b, by omega⟩⟩, ⟨fun ⟨j, a, b, c⟩ => by omega, fun ⟨j, a, b, c⟩ => by omega⟩⟩
theorem T34_pow : T34 = 2 ^ 1088 := by decide +kernel
theorem T34_8192 : T34 = 8192 * 2 ^ 1075 := by decide +kernel
theorem B120_pow : B120 = 10 ^ 1080 := by decide +kernel
theorem B120_32 : B120 = 32 * 2 ^ 1075 * 5 ^ 1080 := by decide +kernel
theorem T34_pos : 0 < T34 := by decide +kernel
theorem B120_pos : 0 < B120 := by decide +kernel
/-- D * 10^x in units of 2^-1088 -/
def dN (D : Nat) (x : Int) : Nat := D * 10 ^ x.toNat * T34
def dM (x : Int) : Nat := 10 ^ (-x).toNat
theorem dM_pos (x : Int) : 0 < dM x := Nat.pow_pos (by omega)
theorem mul4 (H T : Nat) {a b c d : Nat} (h : a + b = c + d) : H * 10 ^ a * T * 10 ^ b = H * 10 ^ c * T * 10 ^ d := by
  rw [Nat.mul_right_comm (H * 10 ^ a), Nat.mul_right_comm (H * 10 ^ c), Nat.mul_assoc H (10 ^ a), Nat.mul_assoc H (10 ^ c), ← Nat.pow_add, ← Nat.pow_add, h]
/-- not too large: the bits say it -/
theorem dec_bits {f : Nat → Nat} {n : Nat} {x : Int} {mo : Bool} {w : Nat} (hf : ∀ j, f j < 10) (hH : ¬ adH f (315 - x - (n : Int)) n) (hw : w = adS 10 1395 f (315 - x - (n : Int)) n * T34 / B120) (hm : mo = true ↔ (adM 1395 f (315 - x - (n : Int)) n ∨ adS 10 1395 f (315 - x - (n : Int)) n * T34 % B120 ≠ 0)) : kA w mo (dN (hv 10 f n) x) (dM x) := by
  have hall := adS_all (b := 10) (C := 1395) (s := 315 - x - (n : Int)) (n := n) (by omega) hf hH
  have hcut : ∀ (X Y : Nat), 0 < Y → X / Y = adS 10 1395 f (315 - x - (n : Int)) n → (X % Y ≠ 0 ↔ adM 1395 f (315 - x - (n : Int)) n) → kA w mo (X * T34) (Y * B120) := by
    intro X Y hY h1 h2
    exact kA_dec (a := 2 ^ 1075) (F := 5 ^ 1080) (Nat.two_pow_pos _) (Nat.pow_pos (by omega)) hY T34_8192 B120_32 h1 hw.symm (by rw [hm, h2])
  by_cases hc : (315 - x - (n : Int)) + (n : Int) ≤ 1395
  · obtain ⟨h1, h2⟩ := hall.1 hc
    have hk := hcut (hv 10 f n * 10 ^ (((1395 : Nat) : Int) - ((315 - x - (n : Int)) + (n : Int))).toNat) 1 (by omega) (by rw [Nat.div_one]; exact h1.symm) ⟨fun q => absurd (Nat.mod_one _) q, fun q => absurd q h2⟩
    refine kA_same (by rw [Nat.one_mul]; exact B120_pos) (dM_pos x) ?_ hk
    unfold dN dM
    rw [Nat.one_mul, B120_pow, show (((1395 : Nat) : Int) - ((315 - x - (n : Int)) + (n : Int))).toNat = (1080 + x).toNat by omega]
    exact mul4 _ _ (by omega)
  · obtain ⟨h1, h2⟩ := hall.2 (by omega)
    have hk := hcut (hv 10 f n) (10 ^ ((315 - x - (n : Int)) + (n : Int) - ((1395 : Nat) : Int)).toNat) (Nat.pow_pos (by omega)) h1 h2
    refine kA_same (Nat.mul_pos (Nat.pow_pos (by omega)) B120_pos) (dM_pos x) ?_ hk
    unfold dN dM
    rw [B120_pow, show ((315 - x - (n : Int)) + (n : Int) - ((1395 : Nat) : Int)).toNat = (-1080 - x).toNat by omega]
    rw [← Nat.pow_add, Nat.mul_right_comm _ T34, Nat.mul_right_comm _ T34, Nat.mul_assoc (hv 10 f n) _ (10 ^ ((-1080 - x).toNat + 1080)), ← Nat.pow_add, show (-x).toNat = x.toNat + ((-1080 - x).toNat + 1080) by omega]
theorem hv_big {b : Nat} {f : Nat → Nat} {n j : Nat} (hj : j < n) (h : f j ≠ 0) : b ^ (n - 1 - j) ≤ hv b f n := by
  obtain ⟨d, rfl⟩ : ∃ d, n = j + 1 + d := ⟨n - (j + 1), by omega⟩
  rw [hv_app, hv, show j + 1 + d - 1 - j = d by omega]
  have h1 : 1 * b ^ d ≤ (hv b f j * b + f j) * b ^ d := Nat.mul_le_mul_right _ (by omega)
  omega
theorem ten315 : 2 ^ 2112 ≤ 10 ^ 315 * T34 := by decide +kernel
/-- too large -/
theorem dec_big {f : Nat → Nat} {n : Nat} {x : Int} (hH : adH f (315 - x - (n : Int)) n) : 2 ^ 2112 * dM x ≤ dN (hv 10 f n) x := by
  obtain ⟨j, hj, h1, h2⟩ := hH
  have h3 := hv_big (b := 10) hj h1
  unfold dN dM
  have h4 : 10 ^ 315 * 10 ^ (-x).toNat ≤ hv 10 f n * 10 ^ x.toNat := by
    rw [← Nat.pow_add]
    refine Nat.le_trans ?_ (Nat.mul_le_mul_right _ h3)
    rw [← Nat.pow_add]
    exact Nat.pow_le_pow_right (by omega) (by omega)
  have h5 := Nat.mul_le_mul_right T34 h4
  have h6 := Nat.mul_le_mul_right (10 ^ (-x).toNat) ten315
  rw [Nat.mul_right_comm] at h5
  exact Nat.le_trans h6 h5
/-- D * 2^x in units of 2^-1088 -/
def xN (D : Nat) (x : Int) : Nat := D * 2 ^ (x + 1088).toNat
def xM (x : Int) : Nat := 2 ^ (-x - 1088).toNat
theorem xM_pos (x : Int) : 0 < xM x := Nat.two_pow_pos _
theorem hex_bits {f : Nat → Nat} {n : Nat} {x : Int} {mo : Bool} {w : Nat} (hf : ∀ j, f j < 2) (hH : ¬ adH f (1056 - x - (n : Int)) n) (hw : w = adS 2 2144 f (1056 - x - (n : Int)) n) (hm : mo = true ↔ adM 2144 f (1056 - x - (n : Int)) n) : kA w mo (xN (hv 2 f n) x) (xM x) := by
  have hall := adS_all (b := 2) (C := 2144) (s := 1056 - x - (n : Int)) (n := n) (by omega) hf hH
  by_cases hc : (1056 - x - (n : Int)) + (n : Int) ≤ 2144
  · obtain ⟨h1, h2⟩ := hall.1 hc
    have e1 : xM x = 1 := by
      unfold xM
      rw [show (-x - 1088).toNat = 0 by omega, Nat.pow_zero]
    rw [e1]
    refine kA_bits (by omega) ?_ ?_
    · rw [Nat.div_one, hw, h1]
      unfold xN
      congr 2
      omega
    · rw [hm, Nat.mod_one]
      exact ⟨fun q => absurd q h2, fun q => absurd rfl q⟩
  · obtain ⟨h1, h2⟩ := hall.2 (by omega)
    have e1 : xN (hv 2 f n) x = hv 2 f n := by
      unfold xN
      rw [show (x + 1088).toNat = 0 by omega, Nat.pow_zero, Nat.mul_one]
    have e2 : xM x = 2 ^ ((1056 - x - (n : Int)) + (n : Int) - ((2144 : Nat) : Int)).toNat := by
      unfold xM
      congr 1
      omega
    rw [e1, e2]
    exact kA_bits (Nat.two_pow_pos _) (by rw [hw]; exact h1) (by rw [hm]; exact h2.symm)
theorem hex_big {f : Nat → Nat} {n : Nat} {x : Int} (hH : adH f (1056 - x - (n : Int)) n) : 2 ^ 2112 * xM x ≤ xN (hv 2 f n) x := by
  obtain ⟨j, hj, h1, h2⟩ := hH
  have h3 := hv_big (b := 2) hj h1
  unfold xN xM
  refine Nat.le_trans ?_ (Nat.mul_le_mul_right _ h3)
  rw [← Nat.pow_add, ← Nat.pow_add]
  exact Nat.pow_le_pow_right (by omega) (by omega)
theorem hv_bdg (f : Nat → Nat) (n : Nat) (hf : ∀ j, f j < 16) : hv 2 (bdg f) (4 * n) = hv 16 f n := by
  have h := hv_group (b := 2) (w := 4) (e := bdg f) (f := f) (n := n) (fun k _ => by
    obtain ⟨b0, b1, b2, b3⟩ := bdg_4 f k
    have hk := hf k
    show f k = ((((0 * 2 + bdg f (4 * k + 0)) * 2 + bdg f (4 * k + 1)) * 2 + bdg f (4 * k + 2)) * 2 + bdg f (4 * k + 3))
    rw [Nat.add_zero, b0, b1, b2, b3]
    omega)
  exact h.symm
/-- the exponent's true number; cut at lim it is itself, or both are large -/
def xT (t : Nat → Int32) (c n : Nat) : Nat := hv 10 (fun i => dg (t (c + i))) n
theorem xC_eq {t : Nat → Int32} {c lim : Nat} (hlim : 0 < lim) : ∀ k, (xT t c k < lim ∧ xC t c lim k = xT t c k) ∨ (lim ≤ xT t c k ∧ lim ≤ xC t c lim k)
  | 0 => Or.inl ⟨hlim, rfl⟩
  | k + 1 => by
    have e : xT t c (k + 1) = xT t c k * 10 + dg (t (c + k)) := rfl
    rw [e, xC]
    rcases xC_eq (t := t) (c := c) hlim k with ⟨h1, h2⟩ | ⟨h1, h2⟩
    · rw [if_pos (by omega), h2]
      omega
    · right
      split <;> omega
end
