section
-- ===== PART A: goes FIRST, ahead of the names: the tables' words, and 'selects' of the private methods out of them =====
/-- a private method of a class that the tables say can be made, by its rows of tables_1 -/
def lw_okq (q : MethodName × Nat) : Prop := (q.1.cls ≠ "java/lang/invoke/MethodHandle" ∧ q.1.cls ≠ "java/lang/invoke/VarHandle") ∧ Cond.instantiable q.1.cls q.2 ∈ tables_1 ∧ Cond.privateMethod q.1 ∈ tables_1 ∧ Cond.instanceMethod q.1 ∈ tables_1
theorem lw_p0 : lw_okq (⟨"StoreMover", "countMoved", "()I"⟩, 12) := ⟨⟨by decide +kernel, by decide +kernel⟩, List.mem_of_getElem? (i := 22) (by decide +kernel), List.mem_of_getElem? (i := 229) (by decide +kernel), List.mem_of_getElem? (i := 230) (by decide +kernel)⟩
theorem lw_p1 : lw_okq (⟨"StoreMover", "stateOf", "(I)C"⟩, 12) := ⟨⟨by decide +kernel, by decide +kernel⟩, List.mem_of_getElem? (i := 22) (by decide +kernel), List.mem_of_getElem? (i := 233) (by decide +kernel), List.mem_of_getElem? (i := 234) (by decide +kernel)⟩
theorem lw_p2 : lw_okq (⟨"StoreMover", "turnRow", "(I)Z"⟩, 12) := ⟨⟨by decide +kernel, by decide +kernel⟩, List.mem_of_getElem? (i := 22) (by decide +kernel), List.mem_of_getElem? (i := 253) (by decide +kernel), List.mem_of_getElem? (i := 254) (by decide +kernel)⟩
theorem lw_p3 : lw_okq (⟨"StoreMover", "isEntryAsCouple", "(I)Z"⟩, 12) := ⟨⟨by decide +kernel, by decide +kernel⟩, List.mem_of_getElem? (i := 22) (by decide +kernel), List.mem_of_getElem? (i := 278) (by decide +kernel), List.mem_of_getElem? (i := 279) (by decide +kernel)⟩
theorem lw_p4 : lw_okq (⟨"java/lang/Throwable", "fillInStackTrace", "(I)Ljava/lang/Throwable;"⟩, 6) := ⟨⟨by decide +kernel, by decide +kernel⟩, List.mem_of_getElem? (i := 347) (by decide +kernel), List.mem_of_getElem? (i := 345) (by decide +kernel), List.mem_of_getElem? (i := 346) (by decide +kernel)⟩
theorem lw_p5 : lw_okq (⟨"StoreMover", "followUpTo", "(I)I"⟩, 12) := ⟨⟨by decide +kernel, by decide +kernel⟩, List.mem_of_getElem? (i := 22) (by decide +kernel), List.mem_of_getElem? (i := 438) (by decide +kernel), List.mem_of_getElem? (i := 439) (by decide +kernel)⟩
theorem lw_p6 : lw_okq (⟨"StoreMover", "followNext", "()V"⟩, 12) := ⟨⟨by decide +kernel, by decide +kernel⟩, List.mem_of_getElem? (i := 22) (by decide +kernel), List.mem_of_getElem? (i := 445) (by decide +kernel), List.mem_of_getElem? (i := 446) (by decide +kernel)⟩
theorem lw_p7 : lw_okq (⟨"StoreMover", "putRowDown", "(IIII)Z"⟩, 12) := ⟨⟨by decide +kernel, by decide +kernel⟩, List.mem_of_getElem? (i := 22) (by decide +kernel), List.mem_of_getElem? (i := 464) (by decide +kernel), List.mem_of_getElem? (i := 465) (by decide +kernel)⟩
theorem lw_p8 : lw_okq (⟨"StoreMover$Target", "put", "(III)V"⟩, 4) := ⟨⟨by decide +kernel, by decide +kernel⟩, List.mem_of_getElem? (i := 65) (by decide +kernel), List.mem_of_getElem? (i := 488) (by decide +kernel), List.mem_of_getElem? (i := 489) (by decide +kernel)⟩
theorem lw_p9 : lw_okq (⟨"StoreMover$Target", "count", "(I)I"⟩, 4) := ⟨⟨by decide +kernel, by decide +kernel⟩, List.mem_of_getElem? (i := 65) (by decide +kernel), List.mem_of_getElem? (i := 508) (by decide +kernel), List.mem_of_getElem? (i := 509) (by decide +kernel)⟩
theorem lw_p10 : lw_okq (⟨"StoreMover", "areSumsSame", "(II)Z"⟩, 12) := ⟨⟨by decide +kernel, by decide +kernel⟩, List.mem_of_getElem? (i := 22) (by decide +kernel), List.mem_of_getElem? (i := 512) (by decide +kernel), List.mem_of_getElem? (i := 513) (by decide +kernel)⟩
theorem lw_p11 : lw_okq (⟨"StoreMover", "sumOfRange", "(ZII)J"⟩, 12) := ⟨⟨by decide +kernel, by decide +kernel⟩, List.mem_of_getElem? (i := 22) (by decide +kernel), List.mem_of_getElem? (i := 516) (by decide +kernel), List.mem_of_getElem? (i := 517) (by decide +kernel)⟩
theorem lw_p12 : lw_okq (⟨"StoreMover", "sumOfEntry", "(I)J"⟩, 12) := ⟨⟨by decide +kernel, by decide +kernel⟩, List.mem_of_getElem? (i := 22) (by decide +kernel), List.mem_of_getElem? (i := 520) (by decide +kernel), List.mem_of_getElem? (i := 521) (by decide +kernel)⟩
theorem lw_p13 : lw_okq (⟨"StoreMover", "sumOfRow", "(I)J"⟩, 12) := ⟨⟨by decide +kernel, by decide +kernel⟩, List.mem_of_getElem? (i := 22) (by decide +kernel), List.mem_of_getElem? (i := 529) (by decide +kernel), List.mem_of_getElem? (i := 530) (by decide +kernel)⟩
theorem lw_p14 : lw_okq (⟨"StoreMover", "canComeBack", "()Z"⟩, 12) := ⟨⟨by decide +kernel, by decide +kernel⟩, List.mem_of_getElem? (i := 22) (by decide +kernel), List.mem_of_getElem? (i := 546) (by decide +kernel), List.mem_of_getElem? (i := 547) (by decide +kernel)⟩
theorem lw_p15 : lw_okq (⟨"StoreMover", "turnEntryBack", "(I)Z"⟩, 12) := ⟨⟨by decide +kernel, by decide +kernel⟩, List.mem_of_getElem? (i := 22) (by decide +kernel), List.mem_of_getElem? (i := 550) (by decide +kernel), List.mem_of_getElem? (i := 551) (by decide +kernel)⟩
def lw_privs_1 : List (MethodName × Nat) := [(⟨"StoreMover", "countMoved", "()I"⟩, 12), (⟨"StoreMover", "stateOf", "(I)C"⟩, 12), (⟨"StoreMover", "turnRow", "(I)Z"⟩, 12), (⟨"StoreMover", "isEntryAsCouple", "(I)Z"⟩, 12), (⟨"java/lang/Throwable", "fillInStackTrace", "(I)Ljava/lang/Throwable;"⟩, 6), (⟨"StoreMover", "followUpTo", "(I)I"⟩, 12), (⟨"StoreMover", "followNext", "()V"⟩, 12), (⟨"StoreMover", "putRowDown", "(IIII)Z"⟩, 12), (⟨"StoreMover$Target", "put", "(III)V"⟩, 4), (⟨"StoreMover$Target", "count", "(I)I"⟩, 4), (⟨"StoreMover", "areSumsSame", "(II)Z"⟩, 12), (⟨"StoreMover", "sumOfRange", "(ZII)J"⟩, 12), (⟨"StoreMover", "sumOfEntry", "(I)J"⟩, 12), (⟨"StoreMover", "sumOfRow", "(I)J"⟩, 12), (⟨"StoreMover", "canComeBack", "()Z"⟩, 12), (⟨"StoreMover", "turnEntryBack", "(I)Z"⟩, 12)]
theorem lw_r1 : ∀ q ∈ lw_privs_1, lw_okq q := List.forall_mem_cons.mpr ⟨lw_p0, List.forall_mem_cons.mpr ⟨lw_p1, List.forall_mem_cons.mpr ⟨lw_p2, List.forall_mem_cons.mpr ⟨lw_p3, List.forall_mem_cons.mpr ⟨lw_p4, List.forall_mem_cons.mpr ⟨lw_p5, List.forall_mem_cons.mpr ⟨lw_p6, List.forall_mem_cons.mpr ⟨lw_p7, List.forall_mem_cons.mpr ⟨lw_p8, List.forall_mem_cons.mpr ⟨lw_p9, List.forall_mem_cons.mpr ⟨lw_p10, List.forall_mem_cons.mpr ⟨lw_p11, List.forall_mem_cons.mpr ⟨lw_p12, List.forall_mem_cons.mpr ⟨lw_p13, List.forall_mem_cons.mpr ⟨lw_p14, List.forall_mem_cons.mpr ⟨lw_p15, fun _ h => absurd h List.not_mem_nil⟩⟩⟩⟩⟩⟩⟩⟩⟩⟩⟩⟩⟩⟩⟩⟩
theorem lw_p16 : lw_okq (⟨"StoreMover", "comeBack", "(I)Z"⟩, 12) := ⟨⟨by decide +kernel, by decide +kernel⟩, List.mem_of_getElem? (i := 22) (by decide +kernel), List.mem_of_getElem? (i := 563) (by decide +kernel), List.mem_of_getElem? (i := 564) (by decide +kernel)⟩
theorem lw_p17 : lw_okq (⟨"StoreMover", "isTargetLive", "()Z"⟩, 12) := ⟨⟨by decide +kernel, by decide +kernel⟩, List.mem_of_getElem? (i := 22) (by decide +kernel), List.mem_of_getElem? (i := 599) (by decide +kernel), List.mem_of_getElem? (i := 600) (by decide +kernel)⟩
theorem lw_p18 : lw_okq (⟨"StoreMover", "isLogFull", "()Z"⟩, 12) := ⟨⟨by decide +kernel, by decide +kernel⟩, List.mem_of_getElem? (i := 22) (by decide +kernel), List.mem_of_getElem? (i := 606) (by decide +kernel), List.mem_of_getElem? (i := 607) (by decide +kernel)⟩
theorem lw_p19 : lw_okq (⟨"StoreMover", "isLive", "(I)Z"⟩, 12) := ⟨⟨by decide +kernel, by decide +kernel⟩, List.mem_of_getElem? (i := 22) (by decide +kernel), List.mem_of_getElem? (i := 615) (by decide +kernel), List.mem_of_getElem? (i := 616) (by decide +kernel)⟩
theorem lw_p20 : lw_okq (⟨"StoreMover$Log", "append", "(IZII)V"⟩, 5) := ⟨⟨by decide +kernel, by decide +kernel⟩, List.mem_of_getElem? (i := 84) (by decide +kernel), List.mem_of_getElem? (i := 623) (by decide +kernel), List.mem_of_getElem? (i := 624) (by decide +kernel)⟩
theorem lw_p21 : lw_okq (⟨"StoreMoverModel", "checked", "(Z)I"⟩, 33) := ⟨⟨by decide +kernel, by decide +kernel⟩, List.mem_of_getElem? (i := 876) (by decide +kernel), List.mem_of_getElem? (i := 1003) (by decide +kernel), List.mem_of_getElem? (i := 1004) (by decide +kernel)⟩
theorem lw_p22 : lw_okq (⟨"StoreMoverModel", "manyRows", "()I"⟩, 33) := ⟨⟨by decide +kernel, by decide +kernel⟩, List.mem_of_getElem? (i := 876) (by decide +kernel), List.mem_of_getElem? (i := 1007) (by decide +kernel), List.mem_of_getElem? (i := 1008) (by decide +kernel)⟩
theorem lw_p23 : lw_okq (⟨"StoreMoverModel", "followsOne", "()V"⟩, 33) := ⟨⟨by decide +kernel, by decide +kernel⟩, List.mem_of_getElem? (i := 876) (by decide +kernel), List.mem_of_getElem? (i := 1019) (by decide +kernel), List.mem_of_getElem? (i := 1020) (by decide +kernel)⟩
theorem lw_p24 : lw_okq (⟨"StoreMoverModel", "takesAway", "(II)V"⟩, 33) := ⟨⟨by decide +kernel, by decide +kernel⟩, List.mem_of_getElem? (i := 876) (by decide +kernel), List.mem_of_getElem? (i := 1023) (by decide +kernel), List.mem_of_getElem? (i := 1024) (by decide +kernel)⟩
theorem lw_p25 : lw_okq (⟨"StoreMoverModel", "isLater", "(II)Z"⟩, 33) := ⟨⟨by decide +kernel, by decide +kernel⟩, List.mem_of_getElem? (i := 876) (by decide +kernel), List.mem_of_getElem? (i := 1027) (by decide +kernel), List.mem_of_getElem? (i := 1028) (by decide +kernel)⟩
theorem lw_p26 : lw_okq (⟨"StoreMoverModel", "holds", "(ICI)V"⟩, 33) := ⟨⟨by decide +kernel, by decide +kernel⟩, List.mem_of_getElem? (i := 876) (by decide +kernel), List.mem_of_getElem? (i := 1031) (by decide +kernel), List.mem_of_getElem? (i := 1032) (by decide +kernel)⟩
theorem lw_p27 : lw_okq (⟨"StoreMoverModel", "puts", "(IIII)Z"⟩, 33) := ⟨⟨by decide +kernel, by decide +kernel⟩, List.mem_of_getElem? (i := 876) (by decide +kernel), List.mem_of_getElem? (i := 1035) (by decide +kernel), List.mem_of_getElem? (i := 1036) (by decide +kernel)⟩
theorem lw_p28 : lw_okq (⟨"StoreMoverModel", "turns", "(II)Z"⟩, 33) := ⟨⟨by decide +kernel, by decide +kernel⟩, List.mem_of_getElem? (i := 876) (by decide +kernel), List.mem_of_getElem? (i := 1039) (by decide +kernel), List.mem_of_getElem? (i := 1040) (by decide +kernel)⟩
theorem lw_p29 : lw_okq (⟨"StoreMoverModel", "steps", "(I)V"⟩, 33) := ⟨⟨by decide +kernel, by decide +kernel⟩, List.mem_of_getElem? (i := 876) (by decide +kernel), List.mem_of_getElem? (i := 1043) (by decide +kernel), List.mem_of_getElem? (i := 1044) (by decide +kernel)⟩
theorem lw_p30 : lw_okq (⟨"StoreMoverModel", "exchanges", "()V"⟩, 33) := ⟨⟨by decide +kernel, by decide +kernel⟩, List.mem_of_getElem? (i := 876) (by decide +kernel), List.mem_of_getElem? (i := 1047) (by decide +kernel), List.mem_of_getElem? (i := 1048) (by decide +kernel)⟩
theorem lw_p31 : lw_okq (⟨"StoreMoverModel", "areWithin", "(I)Z"⟩, 33) := ⟨⟨by decide +kernel, by decide +kernel⟩, List.mem_of_getElem? (i := 876) (by decide +kernel), List.mem_of_getElem? (i := 1052) (by decide +kernel), List.mem_of_getElem? (i := 1053) (by decide +kernel)⟩
def lw_privs_2 : List (MethodName × Nat) := [(⟨"StoreMover", "comeBack", "(I)Z"⟩, 12), (⟨"StoreMover", "isTargetLive", "()Z"⟩, 12), (⟨"StoreMover", "isLogFull", "()Z"⟩, 12), (⟨"StoreMover", "isLive", "(I)Z"⟩, 12), (⟨"StoreMover$Log", "append", "(IZII)V"⟩, 5), (⟨"StoreMoverModel", "checked", "(Z)I"⟩, 33), (⟨"StoreMoverModel", "manyRows", "()I"⟩, 33), (⟨"StoreMoverModel", "followsOne", "()V"⟩, 33), (⟨"StoreMoverModel", "takesAway", "(II)V"⟩, 33), (⟨"StoreMoverModel", "isLater", "(II)Z"⟩, 33), (⟨"StoreMoverModel", "holds", "(ICI)V"⟩, 33), (⟨"StoreMoverModel", "puts", "(IIII)Z"⟩, 33), (⟨"StoreMoverModel", "turns", "(II)Z"⟩, 33), (⟨"StoreMoverModel", "steps", "(I)V"⟩, 33), (⟨"StoreMoverModel", "exchanges", "()V"⟩, 33), (⟨"StoreMoverModel", "areWithin", "(I)Z"⟩, 33)]
theorem lw_r2 : ∀ q ∈ lw_privs_2, lw_okq q := List.forall_mem_cons.mpr ⟨lw_p16, List.forall_mem_cons.mpr ⟨lw_p17, List.forall_mem_cons.mpr ⟨lw_p18, List.forall_mem_cons.mpr ⟨lw_p19, List.forall_mem_cons.mpr ⟨lw_p20, List.forall_mem_cons.mpr ⟨lw_p21, List.forall_mem_cons.mpr ⟨lw_p22, List.forall_mem_cons.mpr ⟨lw_p23, List.forall_mem_cons.mpr ⟨lw_p24, List.forall_mem_cons.mpr ⟨lw_p25, List.forall_mem_cons.mpr ⟨lw_p26, List.forall_mem_cons.mpr ⟨lw_p27, List.forall_mem_cons.mpr ⟨lw_p28, List.forall_mem_cons.mpr ⟨lw_p29, List.forall_mem_cons.mpr ⟨lw_p30, List.forall_mem_cons.mpr ⟨lw_p31, fun _ h => absurd h List.not_mem_nil⟩⟩⟩⟩⟩⟩⟩⟩⟩⟩⟩⟩⟩⟩⟩⟩
theorem lw_p32 : lw_okq (⟨"StoreMoverModel", "manyHeld", "(C)I"⟩, 33) := ⟨⟨by decide +kernel, by decide +kernel⟩, List.mem_of_getElem? (i := 876) (by decide +kernel), List.mem_of_getElem? (i := 1060) (by decide +kernel), List.mem_of_getElem? (i := 1061) (by decide +kernel)⟩
theorem lw_p33 : lw_okq (⟨"StoreMoverModel", "sumOf", "(ZII)J"⟩, 33) := ⟨⟨by decide +kernel, by decide +kernel⟩, List.mem_of_getElem? (i := 876) (by decide +kernel), List.mem_of_getElem? (i := 1064) (by decide +kernel), List.mem_of_getElem? (i := 1065) (by decide +kernel)⟩
theorem lw_p34 : lw_okq (⟨"StoreMoverModel", "canGoBack", "()Z"⟩, 33) := ⟨⟨by decide +kernel, by decide +kernel⟩, List.mem_of_getElem? (i := 876) (by decide +kernel), List.mem_of_getElem? (i := 1074) (by decide +kernel), List.mem_of_getElem? (i := 1075) (by decide +kernel)⟩
theorem lw_p35 : lw_okq (⟨"StoreMoverModel", "turnsBack", "(II)Z"⟩, 33) := ⟨⟨by decide +kernel, by decide +kernel⟩, List.mem_of_getElem? (i := 876) (by decide +kernel), List.mem_of_getElem? (i := 1078) (by decide +kernel), List.mem_of_getElem? (i := 1079) (by decide +kernel)⟩
theorem lw_p36 : lw_okq (⟨"StoreMoverModel", "goesBack", "(I)Z"⟩, 33) := ⟨⟨by decide +kernel, by decide +kernel⟩, List.mem_of_getElem? (i := 876) (by decide +kernel), List.mem_of_getElem? (i := 1082) (by decide +kernel), List.mem_of_getElem? (i := 1083) (by decide +kernel)⟩
theorem lw_p37 : lw_okq (⟨"StoreMoverModel", "isByTarget", "()Z"⟩, 33) := ⟨⟨by decide +kernel, by decide +kernel⟩, List.mem_of_getElem? (i := 876) (by decide +kernel), List.mem_of_getElem? (i := 1094) (by decide +kernel), List.mem_of_getElem? (i := 1095) (by decide +kernel)⟩
theorem lw_p38 : lw_okq (⟨"StoreMoverModel", "isLogFull", "()Z"⟩, 33) := ⟨⟨by decide +kernel, by decide +kernel⟩, List.mem_of_getElem? (i := 876) (by decide +kernel), List.mem_of_getElem? (i := 1101) (by decide +kernel), List.mem_of_getElem? (i := 1102) (by decide +kernel)⟩
theorem lw_p39 : lw_okq (⟨"StoreMoverModel", "writesTarget", "(III)Z"⟩, 33) := ⟨⟨by decide +kernel, by decide +kernel⟩, List.mem_of_getElem? (i := 876) (by decide +kernel), List.mem_of_getElem? (i := 1105) (by decide +kernel), List.mem_of_getElem? (i := 1106) (by decide +kernel)⟩
theorem lw_p40 : lw_okq (⟨"StoreMoverModel", "names", "(I)V"⟩, 33) := ⟨⟨by decide +kernel, by decide +kernel⟩, List.mem_of_getElem? (i := 876) (by decide +kernel), List.mem_of_getElem? (i := 1109) (by decide +kernel), List.mem_of_getElem? (i := 1110) (by decide +kernel)⟩
theorem lw_p41 : lw_okq (⟨"StoreMoverModel", "logs", "(IZII)V"⟩, 33) := ⟨⟨by decide +kernel, by decide +kernel⟩, List.mem_of_getElem? (i := 876) (by decide +kernel), List.mem_of_getElem? (i := 1113) (by decide +kernel), List.mem_of_getElem? (i := 1114) (by decide +kernel)⟩
theorem lw_p42 : lw_okq (⟨"StoreMoverModel", "freePart", "()I"⟩, 33) := ⟨⟨by decide +kernel, by decide +kernel⟩, List.mem_of_getElem? (i := 876) (by decide +kernel), List.mem_of_getElem? (i := 1133) (by decide +kernel), List.mem_of_getElem? (i := 1134) (by decide +kernel)⟩
theorem lw_p43 : lw_okq (⟨"StoreMoverModel", "placeOf", "(I)I"⟩, 33) := ⟨⟨by decide +kernel, by decide +kernel⟩, List.mem_of_getElem? (i := 876) (by decide +kernel), List.mem_of_getElem? (i := 1141) (by decide +kernel), List.mem_of_getElem? (i := 1142) (by decide +kernel)⟩
theorem lw_p44 : lw_okq (⟨"StoreMoverModel", "plain", "(I)I"⟩, 33) := ⟨⟨by decide +kernel, by decide +kernel⟩, List.mem_of_getElem? (i := 876) (by decide +kernel), List.mem_of_getElem? (i := 1153) (by decide +kernel), List.mem_of_getElem? (i := 1154) (by decide +kernel)⟩
theorem lw_p45 : lw_okq (⟨"StoreMoverModel", "stateOf", "(I)C"⟩, 33) := ⟨⟨by decide +kernel, by decide +kernel⟩, List.mem_of_getElem? (i := 876) (by decide +kernel), List.mem_of_getElem? (i := 1169) (by decide +kernel), List.mem_of_getElem? (i := 1170) (by decide +kernel)⟩
theorem lw_p46 : lw_okq (⟨"StoreMoverModel", "areUnlike", "(II)Z"⟩, 33) := ⟨⟨by decide +kernel, by decide +kernel⟩, List.mem_of_getElem? (i := 876) (by decide +kernel), List.mem_of_getElem? (i := 1196) (by decide +kernel), List.mem_of_getElem? (i := 1197) (by decide +kernel)⟩
theorem lw_p47 : lw_okq (⟨"StoreMoverModel", "manyMoved", "()I"⟩, 33) := ⟨⟨by decide +kernel, by decide +kernel⟩, List.mem_of_getElem? (i := 876) (by decide +kernel), List.mem_of_getElem? (i := 1212) (by decide +kernel), List.mem_of_getElem? (i := 1213) (by decide +kernel)⟩
def lw_privs_3 : List (MethodName × Nat) := [(⟨"StoreMoverModel", "manyHeld", "(C)I"⟩, 33), (⟨"StoreMoverModel", "sumOf", "(ZII)J"⟩, 33), (⟨"StoreMoverModel", "canGoBack", "()Z"⟩, 33), (⟨"StoreMoverModel", "turnsBack", "(II)Z"⟩, 33), (⟨"StoreMoverModel", "goesBack", "(I)Z"⟩, 33), (⟨"StoreMoverModel", "isByTarget", "()Z"⟩, 33), (⟨"StoreMoverModel", "isLogFull", "()Z"⟩, 33), (⟨"StoreMoverModel", "writesTarget", "(III)Z"⟩, 33), (⟨"StoreMoverModel", "names", "(I)V"⟩, 33), (⟨"StoreMoverModel", "logs", "(IZII)V"⟩, 33), (⟨"StoreMoverModel", "freePart", "()I"⟩, 33), (⟨"StoreMoverModel", "placeOf", "(I)I"⟩, 33), (⟨"StoreMoverModel", "plain", "(I)I"⟩, 33), (⟨"StoreMoverModel", "stateOf", "(I)C"⟩, 33), (⟨"StoreMoverModel", "areUnlike", "(II)Z"⟩, 33), (⟨"StoreMoverModel", "manyMoved", "()I"⟩, 33)]
theorem lw_r3 : ∀ q ∈ lw_privs_3, lw_okq q := List.forall_mem_cons.mpr ⟨lw_p32, List.forall_mem_cons.mpr ⟨lw_p33, List.forall_mem_cons.mpr ⟨lw_p34, List.forall_mem_cons.mpr ⟨lw_p35, List.forall_mem_cons.mpr ⟨lw_p36, List.forall_mem_cons.mpr ⟨lw_p37, List.forall_mem_cons.mpr ⟨lw_p38, List.forall_mem_cons.mpr ⟨lw_p39, List.forall_mem_cons.mpr ⟨lw_p40, List.forall_mem_cons.mpr ⟨lw_p41, List.forall_mem_cons.mpr ⟨lw_p42, List.forall_mem_cons.mpr ⟨lw_p43, List.forall_mem_cons.mpr ⟨lw_p44, List.forall_mem_cons.mpr ⟨lw_p45, List.forall_mem_cons.mpr ⟨lw_p46, List.forall_mem_cons.mpr ⟨lw_p47, fun _ h => absurd h List.not_mem_nil⟩⟩⟩⟩⟩⟩⟩⟩⟩⟩⟩⟩⟩⟩⟩⟩
def lw_privs : List (MethodName × Nat) := lw_privs_1 ++ (lw_privs_2 ++ (lw_privs_3))
def lw_tbl : List Cond := k2_sels lw_privs ++ tables_1
theorem lw_privs_ok : ∀ q ∈ lw_privs, lw_okq q := by
  show ∀ q ∈ lw_privs_1 ++ (lw_privs_2 ++ (lw_privs_3)), lw_okq q
  exact List.forall_mem_append.mpr ⟨lw_r1, List.forall_mem_append.mpr ⟨lw_r2, lw_r3⟩⟩
/-- the streams that the claim lets the run draw from -/
abbrev lw_cs : List Choice := [Jvm.Choice.named "NaN.bits"]
theorem lw_bits : nanBits ∈ lw_cs := by first | decide | exact List.mem_cons_self | simp [lw_cs, nanBits]
end
section
/-! ===== BEGIN words of one list among another's, by their places ===== -/
theorem goodIn_r {big : List Cond} (ws : List Cond) (ps : List Nat) (hp : ws = ps.filterMap (fun i => big[i]?)) (h : ws.all goodWord = true) : GoodIn big ws := by
  intro w hw
  have h1 := List.all_eq_true.mp h w hw
  rw [hp] at hw
  obtain ⟨i, -, hi⟩ := List.mem_filterMap.mp hw
  have hm : w ∈ big := by first | exact List.mem_of_getElem? hi | exact List.getElem?_mem hi
  exact ⟨hm, good_of_word h1⟩
theorem goodIn_app {big a b : List Cond} (ha : GoodIn big a) (hb : GoodIn big b) : GoodIn big (a ++ b) := fun w h => (List.mem_append.mp h).elim (ha w) (hb w)
theorem goodIn_ca {big a b : List Cond} {c : Cond} (ha : GoodIn big (c :: a)) (hb : GoodIn big b) : GoodIn big (c :: (a ++ b)) := fun w h => (List.mem_cons.mp h).elim (fun e => ha w (List.mem_cons.mpr (Or.inl e))) (fun h => (List.mem_append.mp h).elim (fun h => ha w (List.mem_cons.mpr (Or.inr h))) (hb w))
theorem goodIn_sub {big ws : List Cond} (hm : ∀ w ∈ ws, w ∈ big) (h : ws.all goodWord = true) : GoodIn big ws := fun w hw => ⟨hm w hw, good_of_word (List.all_eq_true.mp h w hw)⟩
/-! ===== END ===== -/

/-! ===== BEGIN exceptions that leave a method, and their catching by the caller (launches without stack traces) ===== -/
section VXA
/-! The laws vx_back, vx_callV, vx_callS, vx_callSW, vx_throw0, vx_throwS follow proofs of the library, with one case more: JvmDerived/Free/Laws.lean (Back.of_free), Shelf42/LK1.lean (callV, callS), Shelf/KitTraced.lean (throwNew0V, throwNewS). -/
/-- where a method has thrown q: the class by its name, the cell, what was written, the world -/
def vx_T (XC : String → State → State → Prop) (st : State) (q : Addr) (t : State) (mc ms : Nat) (free : Addr → Prop) : Prop :=
  ∃ (E : String) (ce : Cell) (L : List Loc), XC E st t ∧ t.heap[q]? = some ce ∧ ce.vm = .none ∧ st.vm.findClass E = some ce.cls ∧ st.WarmedH t.vm ∧ st.sameButNew ({ t with vm := st.vm } : State) L mc ms ∧ ∀ z ∈ L, free z.base
def vx_Q (Qc : Array Value → State → Outcome → State → Prop) (XC : String → State → State → Prop) (mc ms : Nat) (free : Addr → Prop) : Array Value → State → Outcome → State → Prop := fun a st o t =>
  (Qc a st o t ∧ ∃ L, FrameEnd st o t L mc ms ∧ ∀ q ∈ L, free q.base) ∨ ∃ q, o = .threw q ∧ vx_T XC st q t mc ms free
/-- a callee that returns or throws -/
def vx_Met (l : Launch) (y : MethodName) (ws : List Cond) (rm : Room) (Pc : Array Value → State → Prop) (Qc : Array Value → State → Outcome → State → Prop) (XC : String → State → State → Prop) (mc ms : Nat) (free : Addr → Prop) : Prop :=
  MetFree l y (headSpec ws rm) Pc (fun _ _ _ _ _ => True) (vx_Q Qc XC mc ms free)
def vx_Post (XC : String → State → State → Prop) (mc ms : Nat) (free : Addr → Prop) : Pt → Array Value → Addr → Pt → Prop := fun A a q B =>
  ∃ (g : JFrame) (mk : MethodId) (t : State) (L : List Loc) (E : String) (ce : Cell), B.U.heap = t.heap ∧ B.U.vm = t.vm ∧ XC E (A.U.calling g mk a) t ∧ t.heap[q]? = some ce ∧ ce.vm = .none ∧ A.U.vm.findClass E = some ce.cls ∧ B.locs = A.locs ++ L ∧ (∀ z ∈ L, free z.base) ∧ B.cells = A.cells + mc ∧ B.slots = A.slots + ms
def vx_Back (l : Launch) (R : Room) (p : Program) (e : Env) (below : List Frame) (s : State) (sargs : Array Value) (y : MethodName) (len W9 : Nat)
    (Pre : Pt → Array Value → Prop) (Post : Pt → Array Value → Option Value → Pt → Prop) (PostX : Pt → Array Value → Addr → Pt → Prop) : Prop :=
  ∀ (m : MethodId) (meth : Method) (c : Code) (A : Pt) (g : JFrame) (ig : Instr) (mk : MethodId) (a : Array Value),
    Stand p l e R s m sargs below meth c A.U A.locs A.cells A.slots → g.method = m → g.locals.size = c.maxLocals → decode c.code g.pc = .ok (ig, len) →
    2 * g.monitorRoom + (g.stack.map fun v => v.category).sum ≤ W9 → A.U.methodNamed? y = some mk → Pre A a →
    (∃ (v : Option Value) (B : Pt), Stand p l e R s m sargs below meth c B.U B.locs B.cells B.slots ∧ Post A a v B ∧
      Steps p.tables e below (doInvoke e (A.U.setTop g) [] mk a).1 (B.U.setTop { g with pc := g.pc + len, stack := v.toList ++ g.stack })) ∨
    (∃ (q : Addr) (B : Pt), Stand p l e R s m sargs below meth c B.U B.locs B.cells B.slots ∧ PostX A a q B ∧
      Steps p.tables e below (doInvoke e (A.U.setTop g) [] mk a).1 ((B.U.setTop g).pushFrame (.throwing q)))
section Payer
variable {l : Launch} {R : Room} {p : Program} {e : Env} {below : List Frame} {s : State} {sargs : Array Value} {y : MethodName} {len W9 : Nat}
theorem vx_back {ws : List Cond} {rm : Room} {Pc : Array Value → State → Prop} {Qc : Array Value → State → Outcome → State → Prop} {XC : String → State → State → Prop} {mc ms : Nat} {free : Addr → Prop} {bytes : ByteArray} {maxL : Nat} {ret : Option FieldType}
    (hM : vx_Met l y ws rm Pc Qc XC mc ms free) (hblind : FrameBlind Pc) (hrc : rm.cells = mc) (hrs : rm.slots = ms)
    (hframes : rm.frames + 1 ≤ R.frames) (hlocals : W9 + (maxL + 11) + rm.locals ≤ R.locals)
    (hws : ∀ w ∈ ws, ∀ a' U, s.WarmedH U.vm → w.before a' U = true) (hcode : Cond.code y bytes maxL ret ∈ ws) (hinit : ∀ a' U, s.WarmedH U.vm → (Cond.initialized y.cls).before a' U = true) :
    vx_Back l R p e below s sargs y len W9 (PreOf R mc ms Pc) (PostOf Qc mc ms free) (vx_Post XC mc ms free) := by
  intro m meth c A g ig mk a X hg hsize hdg hW hn hp
  have h1 : (headSpec ws rm).pre.before a A.U = true := atoms_intro fun w hw => hws w hw _ _ X.warmed
  have h2 : (Cond.code y bytes maxL ret).before a A.U = true := hws _ hcode _ _ X.warmed
  have h3 : (Cond.initialized y.cls).before a A.U = true := hinit _ _ X.warmed
  have h4 : A.cells + (headSpec ws rm).room.cells ≤ R.cells := by rw [show (headSpec ws rm).room.cells = mc from hrc]; exact hp.1
  have h5 : A.slots + (headSpec ws rm).room.slots ≤ R.slots := by rw [show (headSpec ws rm).room.slots = ms from hrs]; exact hp.2.1
  have hPc : Pc a (A.U.calling g mk a) := hblind _ _ _ _ hp.2.2
  obtain ⟨U, Ls, c0, s0⟩ := A
  dsimp only [Pt.U, Pt.locs, Pt.cells, Pt.slots] at h1 h2 h3 h4 h5 X hn hPc ⊢
  obtain ⟨methY, cY, hmY, hcY, -, hlY, -, -, -, -⟩ := Cond.code_spec hn h2
  obtain ⟨kY, hkY, -⟩ := className_of_methodNamed hn
  have hinitY : kY.init = .initialized := Cond.initialized_spec (findClass_of_methodNamed hn) hkY h3
  have h : At U g.method c below := by rw [hg]; exact X.here
  have hlocals9 : W9 + (maxL + 11) + (headSpec ws rm).room.locals ≤ R.locals := hlocals
  have happ : (headSpec ws rm).appliesLoose y e.platform (U.calling g mk a) = true :=
    Spec.appliesLoose_calling (g := g) h hdg hn hkY hinitY
      (X.room_calling (g := g) (R' := (headSpec ws rm).room) hsize hmY hcY hframes (by rw [hlY]; omega) h4 h5) h1
  obtain ⟨mid, hmid⟩ := h.above
  have hfr : (U.setTop g).frames = (.java g :: mid) ++ below := by rw [State.frames_setTop' g h.top, hmid]; rfl
  obtain ⟨o, s₂, hsteps, -, hend, hq⟩ := Steps.callFree hM p X.admits X.cas X.clock (acts := []) hfr happ hPc trivial
  have hq' : vx_Q Qc XC mc ms free a (U.calling g mk a) o s₂ := hq
  rw [State.frames_setTop' g h.top] at hend
  obtain ⟨g₀, hg0⟩ := Option.isSome_iff_exists.mp h.top
  obtain ⟨r, hr⟩ := State.topJava?_eq_some.mp hg0
  have hr' : (({ U with heap := s₂.heap, slotsUsed := s₂.slotsUsed } : State).setVm s₂.vm).frames = .java g₀ :: r := hr
  rcases hq' with ⟨hqc, L, hfe, hL⟩ | ⟨q, rfl, E, ce, L, hx, hce, hcv, hcl, hW₂, hsm, hL⟩
  · obtain ⟨⟨v, rfl⟩, hW₂, e2, q2, q3, q4, q5, q6⟩ := id hfe
    have e3 : s₂ = ({ (U.calling g mk a).setFrames s₂.frames with heap := s₂.heap, slotsUsed := s₂.slotsUsed } : State).setVm s₂.vm := by
      have : s₂ = ({ s₂ with vm := (U.calling g mk a).vm } : State).setVm s₂.vm := rfl
      rw [e2] at this
      exact this
    obtain ⟨c₂, i₂, len₂, hc₂, hd₂, hf₂⟩ := hend
    have hW' : U.WarmedH s₂.vm := hW₂
    have hcc : c₂ = c := by
      have h1 : s₂.code? g.method = U.code? g.method := by
        rw [State.code?_eq, State.code?_eq, hW'.alike.method?]
      exact Option.some.inj (hc₂.symm.trans (h1.trans h.code))
    subst hcc
    have hlen : len₂ = len := by rw [hdg] at hd₂; cases hd₂; rfl
    subst hlen
    have hs₂ : s₂ = (({ U with heap := s₂.heap, slotsUsed := s₂.slotsUsed } : State).setVm s₂.vm).setTop { g with pc := g.pc + len₂, stack := v.toList ++ g.stack } := by
      refine e3.trans ?_
      rw [hf₂, State.calling_eq h.top, State.setFrames_setFrames, State.setTop_of_frames _ hr', hr]
      rfl
    have hsame : U.sameButNew ({ U with heap := s₂.heap, slotsUsed := s₂.slotsUsed } : State) L mc ms := by
      refine ⟨?_, q2, q3, q4, q5, q6⟩
      obtain ⟨t, ht, -⟩ := State.frames_cons hr
      show ({ U with heap := s₂.heap, slotsUsed := s₂.slotsUsed } : State) = { U.setFrames U.frames with heap := s₂.heap, slotsUsed := s₂.slotsUsed }
      rw [State.setFrames_self ht]
    subst hg
    refine Or.inl ⟨v, ⟨(({ U with heap := s₂.heap, slotsUsed := s₂.slotsUsed } : State).setVm s₂.vm), Ls ++ L, c0 + mc, s0 + ms⟩,
      ⟨X.admits, X.cas, X.clock, X.frames, X.room, X.hears, X.method, X.code, (X.here.setHeapUsed s₂.heap s₂.slotsUsed).setVm hW'.alike, X.tail, State.WarmedH.trans X.warmed hW', X.limits, X.bytes, X.same.trans (hsame.setVm s.vm)⟩,
      ⟨g, mk, s₂, L, rfl, rfl, hqc, rfl, hL, rfl, rfl⟩, ?_⟩
    show Steps p.tables e below _ ((({ U with heap := s₂.heap, slotsUsed := s₂.slotsUsed } : State).setVm s₂.vm).setTop { g with pc := g.pc + len₂, stack := v.toList ++ g.stack })
    rw [← hs₂]
    exact hsteps
  · obtain ⟨e2, q2, q3, q4, q5, q6⟩ := id hsm
    have e3 : s₂ = ({ (U.calling g mk a).setFrames s₂.frames with heap := s₂.heap, slotsUsed := s₂.slotsUsed } : State).setVm s₂.vm := by
      have : s₂ = ({ s₂ with vm := (U.calling g mk a).vm } : State).setVm s₂.vm := rfl
      rw [e2] at this
      exact this
    have hf₂ : s₂.frames = .throwing q :: .java g :: U.frames.tail := hend
    have hW' : U.WarmedH s₂.vm := hW₂
    have hs₂ : s₂ = ((({ U with heap := s₂.heap, slotsUsed := s₂.slotsUsed } : State).setVm s₂.vm).setTop g).pushFrame (.throwing q) := by
      refine e3.trans ?_
      rw [hf₂, State.calling_eq h.top, State.setFrames_setFrames, State.pushFrame, State.frames_setTop _ hr', State.setTop_of_frames _ hr', State.setFrames_setFrames, hr]
      rfl
    have hsame : U.sameButNew ({ U with heap := s₂.heap, slotsUsed := s₂.slotsUsed } : State) L mc ms := by
      refine ⟨?_, q2, q3, q4, q5, q6⟩
      obtain ⟨t, ht, -⟩ := State.frames_cons hr
      show ({ U with heap := s₂.heap, slotsUsed := s₂.slotsUsed } : State) = { U.setFrames U.frames with heap := s₂.heap, slotsUsed := s₂.slotsUsed }
      rw [State.setFrames_self ht]
    subst hg
    refine Or.inr ⟨q, ⟨(({ U with heap := s₂.heap, slotsUsed := s₂.slotsUsed } : State).setVm s₂.vm), Ls ++ L, c0 + mc, s0 + ms⟩,
      ⟨X.admits, X.cas, X.clock, X.frames, X.room, X.hears, X.method, X.code, (X.here.setHeapUsed s₂.heap s₂.slotsUsed).setVm hW'.alike, X.tail, State.WarmedH.trans X.warmed hW', X.limits, X.bytes, X.same.trans (hsame.setVm s.vm)⟩,
      ⟨g, mk, s₂, L, E, ce, rfl, rfl, hx, hce, hcv, hcl, rfl, hL, rfl, rfl⟩, ?_⟩
    show Steps p.tables e below _ (((({ U with heap := s₂.heap, slotsUsed := s₂.slotsUsed } : State).setVm s₂.vm).setTop g).pushFrame (.throwing q))
    rw [← hs₂]
    exact hsteps
end Payer
section Calls
variable {p : Program} {l : Launch} {e : Env} {R : Room} {s : State} {m : MethodId} {args : Array Value} {below : List Frame} {meth : Method} {c : Code} {T : State} {locs : List Loc} {cells slots : Nat}
theorem vx_callV (X : Stand p l e R s m args below meth c T locs cells slots) (hexec : p.tables.exec = Jvm.exec) {own C : String} {index : Nat} {y : MethodName} {bytes : ByteArray} {maxL : Nat} {ret : Option FieldType}
    (hown : s.vm.findClass own = some m.cls) (hlink : (Cond.methodLink own index y).before args s = true) (hinst : (Cond.instanceMethod y).before args s = true) (hsel : (Cond.selects C y y).before args s = true)
    (hcode : (Cond.code y bytes maxL ret).before args s = true) (hy : y.cls ≠ "java/lang/invoke/MethodHandle" ∧ y.cls ≠ "java/lang/invoke/VarHandle")
    {W9 : Nat} {Pre : Pt → Array Value → Prop} {Post : Pt → Array Value → Option Value → Pt → Prop} {PostX : Pt → Array Value → Addr → Pt → Prop} (hK : vx_Back l R p e below s args y 3 W9 Pre Post PostX)
    {b : Addr} {cellB : Cell} (hcell : T.heap[b]? = some cellB) (hobj : cellB.vm.isStatics = false) (hcls : s.vm.findClass C = some cellB.cls)
    {g : JFrame} (hg : g.method = m) (hsize : g.locals.size = c.maxLocals) {argsL rest : List Value} (hlen : ∀ sig, parseMethodDescriptor y.desc = some sig → argsL.length = sig.parameters.length)
    (hstack : g.stack = argsL.reverse ++ .ref b :: rest) (hW : 2 * g.monitorRoom + (rest.map fun v => v.category).sum ≤ W9) (hdg : decode c.code g.pc = .ok (.invokevirtual index, 3))
    (hpre : ∀ vm₁, s.WarmedH vm₁ → Pre ⟨T.setVm vm₁, locs, cells, slots⟩ (Value.ref b :: argsL).toArray) :
    (∃ (v : Option Value) (vm₁ : Vm) (B : Pt), s.WarmedH vm₁ ∧ Stand p l e R s m args below meth c B.U B.locs B.cells B.slots ∧ Post ⟨T.setVm vm₁, locs, cells, slots⟩ (Value.ref b :: argsL).toArray v B ∧
      ∀ target, Steps p.tables e below (B.U.setTop { g with pc := g.pc + 3, stack := v.toList ++ rest }) target → Steps p.tables e below (T.setTop g) target) ∨
    (∃ (q : Addr) (vm₁ : Vm) (B : Pt), s.WarmedH vm₁ ∧ Stand p l e R s m args below meth c B.U B.locs B.cells B.slots ∧ PostX ⟨T.setVm vm₁, locs, cells, slots⟩ (Value.ref b :: argsL).toArray q B ∧
      Steps p.tables e below (T.setTop g) ((B.U.setTop { g with stack := rest }).pushFrame (.throwing q))) := by
  obtain ⟨mk, methM, hnamed, hmethM, hstM, habM⟩ := Cond.instanceMethod_spec hinst
  obtain ⟨methM', cM, hmethM', -, -, -, -, -, -, hsigM⟩ := Cond.code_spec hnamed hcode
  cases hmethM.symm.trans hmethM'
  obtain ⟨c2, r2, m2, q1, q2, q3, q4, kP, hkP, hkPi⟩ := Cond.selects_spec hsel
  cases hcls.symm.trans q1
  cases (State.methodFound?_of_named hnamed hy).symm.trans q2
  cases hnamed.symm.trans q3
  have hselP : selectMethod e.platform s.vm cellB.cls mk = .method mk := by rw [Launch.admits_selectMethod X.admits]; exact q4
  obtain ⟨vm₁, X₁, hstep₁⟩ := X.invokevirtual hexec hown hlink hnamed hmethM hstM hkP hkPi hy (a := b) (cell := cellB) hcell
    (fun z h => by rw [h] at hobj; cases hobj) hselP hmethM habM hkP hkPi (g := g) hg (argsL := argsL) (rest := rest) (hlen _ hsigM) hstack hdg
  rcases hK m meth c ⟨T.setVm vm₁, locs, cells, slots⟩ { g with stack := rest } (.invokevirtual index) mk (Value.ref b :: argsL).toArray X₁ hg hsize hdg hW (X₁.named hnamed) (hpre vm₁ X₁.warmed) with ⟨v, B, X', hpost, hsteps⟩ | ⟨q, B, X', hpost, hsteps⟩
  · exact Or.inl ⟨v, vm₁, B, X₁.warmed, X', hpost, fun target h => hstep₁ _ fun acts => by rw [doInvoke_state]; exact hsteps.trans h⟩
  · exact Or.inr ⟨q, vm₁, B, X₁.warmed, X', hpost, hstep₁ _ fun acts => by rw [doInvoke_state]; exact hsteps⟩
theorem vx_callS (X : Stand p l e R s m args below meth c T locs cells slots) (hexec : p.tables.exec = Jvm.exec) {own : String} {index : Nat} {y : MethodName} {bytes : ByteArray} {maxL : Nat} {ret : Option FieldType}
    (hown : s.vm.findClass own = some m.cls) (hlink : (Cond.methodLink own index y).before args s = true) (hstat : (Cond.static y).before args s = true) (hinit : (Cond.initialized y.cls).before args s = true)
    (hcode : (Cond.code y bytes maxL ret).before args s = true) (hy : y.cls ≠ "java/lang/invoke/MethodHandle" ∧ y.cls ≠ "java/lang/invoke/VarHandle")
    {W9 : Nat} {Pre : Pt → Array Value → Prop} {Post : Pt → Array Value → Option Value → Pt → Prop} {PostX : Pt → Array Value → Addr → Pt → Prop} (hK : vx_Back l R p e below s args y 3 W9 Pre Post PostX)
    {g : JFrame} (hg : g.method = m) (hsize : g.locals.size = c.maxLocals) {argsL rest : List Value} (hlen : ∀ sig, parseMethodDescriptor y.desc = some sig → argsL.length = sig.parameters.length)
    (hstack : g.stack = argsL.reverse ++ rest) (hW : 2 * g.monitorRoom + (rest.map fun v => v.category).sum ≤ W9) (hdg : decode c.code g.pc = .ok (.invokestatic index, 3))
    (hpre : ∀ vm₁, s.WarmedH vm₁ → Pre ⟨T.setVm vm₁, locs, cells, slots⟩ argsL.toArray) :
    (∃ (v : Option Value) (vm₁ : Vm) (B : Pt), s.WarmedH vm₁ ∧ Stand p l e R s m args below meth c B.U B.locs B.cells B.slots ∧ Post ⟨T.setVm vm₁, locs, cells, slots⟩ argsL.toArray v B ∧
      ∀ target, Steps p.tables e below (B.U.setTop { g with pc := g.pc + 3, stack := v.toList ++ rest }) target → Steps p.tables e below (T.setTop g) target) ∨
    (∃ (q : Addr) (vm₁ : Vm) (B : Pt), s.WarmedH vm₁ ∧ Stand p l e R s m args below meth c B.U B.locs B.cells B.slots ∧ PostX ⟨T.setVm vm₁, locs, cells, slots⟩ argsL.toArray q B ∧
      Steps p.tables e below (T.setTop g) ((B.U.setTop { g with stack := rest }).pushFrame (.throwing q))) := by
  obtain ⟨mk, hnamed⟩ := Cond.code_named hcode
  obtain ⟨methM, cM, hmethM, -, -, -, -, -, -, hsigM⟩ := Cond.code_spec hnamed hcode
  have hstatic : methM.isStatic = true := Cond.static_spec hnamed hmethM hstat
  obtain ⟨kP, hkP, -⟩ := className_of_methodNamed hnamed
  have hinitP : kP.init = .initialized := Cond.initialized_spec (findClass_of_methodNamed hnamed) hkP hinit
  obtain ⟨vm₁, X₁, hstep₁⟩ := X.invokestatic hexec hown hlink hnamed hmethM hstatic hkP hinitP hy (g := g) hg (argsL := argsL) (rest := rest) (hlen _ hsigM) hstack hdg
  rcases hK m meth c ⟨T.setVm vm₁, locs, cells, slots⟩ { g with stack := rest } (.invokestatic index) mk argsL.toArray X₁ hg hsize hdg hW (X₁.named hnamed) (hpre vm₁ X₁.warmed) with ⟨v, B, X', hpost, hsteps⟩ | ⟨q, B, X', hpost, hsteps⟩
  · exact Or.inl ⟨v, vm₁, B, X₁.warmed, X', hpost, fun target h => hstep₁ _ fun acts => by rw [doInvoke_state]; exact hsteps.trans h⟩
  · exact Or.inr ⟨q, vm₁, B, X₁.warmed, X', hpost, hstep₁ _ fun acts => by rw [doInvoke_state]; exact hsteps⟩
end Calls
theorem vx_cls {s : State} {T : State} {vm₁ : Vm} {E : String} {k : ClassId} (hW : s.WarmedH vm₁) (h : (T.setVm vm₁).vm.findClass E = some k) : s.vm.findClass E = some k := by
  have h1 : vm₁.findClass E = some k := h
  rw [hW.alike.findClass] at h1
  exact h1
/-- the method's frame g, with q thrown over it -/
def vx_W (p : Program) (l : Launch) (e : Env) (R : Room) (s : State) (m : MethodId) (args : Array Value) (below : List Frame) (meth : Method) (c : Code) (H : Heap) (locs : List Loc) (cells slots : Nat) (Q : State → Prop) (g : JFrame) (q : Addr) : Prop :=
  ∀ T : State, T.heap = H → Stand p l e R s m args below meth c T locs cells slots → ∃ t, Steps p.tables e below ((T.setTop g).pushFrame (.throwing q)) t ∧ Q t
def vx_Run (p : Program) (l : Launch) (e : Env) (R : Room) (s : State) (m : MethodId) (args : Array Value) (below : List Frame) (meth : Method) (c : Code) (H : Heap) (locs : List Loc) (cells slots mc ms : Nat) (g : JFrame) (rest : List Value) (Qa : State → Outcome → State → Prop) (XC : String → State → State → Prop) (free : Addr → Prop) : Prop :=
  ∀ T : State, T.heap = H → Stand p l e R s m args below meth c T locs cells slots →
    (∃ (v : Option Value) (st₀ t T' : State) (L : List Loc), st₀.heap = H ∧ Stand p l e R s m args below meth c T' (locs ++ L) (cells + mc) (slots + ms) ∧ (∀ q ∈ L, free q.base) ∧ T'.heap = t.heap ∧ T'.vm = t.vm ∧ Qa st₀ (.returned v) t ∧
      Goes p e below T g T' { g with pc := g.pc + 3, stack := v.toList ++ rest }) ∨
    (∃ (q : Addr) (st₀ t T' : State) (L : List Loc) (E : String) (ce : Cell), st₀.heap = H ∧ Stand p l e R s m args below meth c T' (locs ++ L) (cells + mc) (slots + ms) ∧ (∀ z ∈ L, free z.base) ∧ T'.heap = t.heap ∧ T'.vm = t.vm ∧ XC E st₀ t ∧ t.heap[q]? = some ce ∧ ce.vm = .none ∧ s.vm.findClass E = some ce.cls ∧
      Steps p.tables e below (T.setTop g) ((T'.setTop { g with stack := rest }).pushFrame (.throwing q)))
def vx_X {S : Type} (px : S → Prop) (B : String → S → State → Prop) (A : Nat → Prop) : String → State → State → Prop := fun E st t => ∃ u : S, px u ∧ B E u t ∧ va_F A st t
section Runs
variable {p : Program} {l : Launch} {e : Env} {R : Room} {s : State} {m : MethodId} {args : Array Value} {below : List Frame} {meth : Method} {c : Code} {H : Heap} {locs : List Loc} {cells slots : Nat}
variable {y : MethodName} {bytes cc : ByteArray} {maxL nL mc ms n index : Nat} {ret : Option FieldType} {ws : List Cond} {rm : Room} {Pc : Array Value → State → Prop} {Qc : Array Value → State → Outcome → State → Prop} {XC : String → State → State → Prop} {free : Addr → Prop} {Ts : List Cond} {own C : String} {b : Addr} {As rest : List Value} {g : JFrame}
theorem vx_callBack (cb : CallB R s args own index y bytes maxL ret ws rm mc ms n) (hM : vx_Met l y ws rm Pc Qc XC mc ms free) (hbl : FrameBlind Pc) : vx_Back l R p e below s args y 3 8 (PreOf R mc ms Pc) (PostOf Qc mc ms free) (vx_Post XC mc ms free) := by
  obtain ⟨hrc, hrs, hfr, hlo, hws, hcw, -, hini, -⟩ := cb
  exact vx_back (bytes := bytes) (maxL := maxL) (ret := ret) hM hbl hrc hrs hfr hlo hws hcw (fun a' U hW => word_at hW (Or.inl (by first | rfl | simp [Cond.onTables, Cond.keeps, Cond.steady])) hini)
theorem vx_runV (S : CallFix p m c cc nL s args Ts own) (hM : vx_Met l y ws rm Pc Qc XC mc ms free) (cw : CallW R s args own C index y bytes maxL ret ws rm mc ms n) (hp : PreV s H C b Pc As)
    (hg : g.method = m) (hn : As.length = n) (hsize : g.locals.size = nL) (hstack : g.stack = As.reverse ++ .ref b :: rest) (hW : 2 * g.monitorRoom + (rest.map fun v => v.category).sum ≤ 8) (hdg : decode cc g.pc = .ok (.invokevirtual index, 3)) (hf : cells + mc ≤ R.cells ∧ slots + ms ≤ R.slots) :
    vx_Run p l e R s m args below meth c H locs cells slots mc ms g rest (Qc (Value.ref b :: As).toArray) XC free := by
  have hK : vx_Back l R p e below s args y 3 8 (PreOf R mc ms Pc) (PostOf Qc mc ms free) (vx_Post XC mc ms free) := vx_callBack cw.1 hM hp.1
  obtain ⟨⟨-, -, -, -, -, -, hcode, -, hy, hlen, hl⟩, hin, hse⟩ := cw
  obtain ⟨hx, hb, hml, ho, -⟩ := S
  obtain ⟨-, ⟨cellB, hcB, hoB, hclB⟩, hPc⟩ := hp
  intro T hT X
  rcases vx_callV X hx (C := C) (bytes := bytes) (maxL := maxL) (ret := ret) ho hl hin hse hcode hy hK (by rw [hT]; exact hcB) hoB hclB hg (hsize.trans hml.symm) (argsL := As) (rest := rest) (fun sig h => hn.trans (hlen sig h)) hstack hW (by rw [hb]; exact hdg)
    (fun vm₁ hW₁ => ⟨hf.1, hf.2, hPc (T.setVm vm₁) hT hW₁⟩) with ⟨v, vm₁, ⟨U', l2, c2, s2⟩, hW₁, X', ⟨g', mk, t, L, e1, e2, hq, h1, hL, h2, h3⟩, st⟩ | ⟨q, vm₁, ⟨U', l2, c2, s2⟩, hW₁, X', ⟨g', mk, t, L, E, ce, e1, e2, hq, hce, hcv, hcl, h1, hL, h2, h3⟩, st⟩
  · dsimp only [Pt.U, Pt.locs, Pt.cells, Pt.slots] at X' e1 e2 h1 h2 h3 st
    subst h1; subst h2; subst h3
    exact Or.inl ⟨v, (T.setVm vm₁).calling g' mk (Value.ref b :: As).toArray, t, U', L, hT, X', hL, e1, e2, hq, st⟩
  · dsimp only [Pt.U, Pt.locs, Pt.cells, Pt.slots] at X' e1 e2 h1 h2 h3 st hcl
    subst h1; subst h2; subst h3
    exact Or.inr ⟨q, (T.setVm vm₁).calling g' mk (Value.ref b :: As).toArray, t, U', L, E, ce, hT, X', hL, e1, e2, hq, hce, hcv, vx_cls hW₁ hcl, st⟩
theorem vx_runS (S : CallFix p m c cc nL s args Ts own) (hM : vx_Met l y ws rm Pc Qc XC mc ms free) (cw : CallB R s args own index y bytes maxL ret ws rm mc ms n ∧ (Cond.static y).before args s = true) (hp : PreS s H Pc As)
    (hg : g.method = m) (hn : As.length = n) (hsize : g.locals.size = nL) (hstack : g.stack = As.reverse ++ rest) (hW : 2 * g.monitorRoom + (rest.map fun v => v.category).sum ≤ 8) (hdg : decode cc g.pc = .ok (.invokestatic index, 3)) (hf : cells + mc ≤ R.cells ∧ slots + ms ≤ R.slots) :
    vx_Run p l e R s m args below meth c H locs cells slots mc ms g rest (Qc As.toArray) XC free := by
  have hK : vx_Back l R p e below s args y 3 8 (PreOf R mc ms Pc) (PostOf Qc mc ms free) (vx_Post XC mc ms free) := vx_callBack cw.1 hM hp.1
  obtain ⟨⟨-, -, -, -, -, -, hcode, hini, hy, hlen, hl⟩, hstt⟩ := cw
  obtain ⟨hx, hb, hml, ho, -⟩ := S
  intro T hT X
  rcases vx_callS X hx (bytes := bytes) (maxL := maxL) (ret := ret) ho hl hstt hini hcode hy hK hg (hsize.trans hml.symm) (argsL := As) (rest := rest) (fun sig h => hn.trans (hlen sig h)) hstack hW (by rw [hb]; exact hdg)
    (fun vm₁ hW₁ => ⟨hf.1, hf.2, hp.2 (T.setVm vm₁) hT hW₁⟩) with ⟨v, vm₁, ⟨U', l2, c2, s2⟩, hW₁, X', ⟨g', mk, t, L, e1, e2, hq, h1, hL, h2, h3⟩, st⟩ | ⟨q, vm₁, ⟨U', l2, c2, s2⟩, hW₁, X', ⟨g', mk, t, L, E, ce, e1, e2, hq, hce, hcv, hcl, h1, hL, h2, h3⟩, st⟩
  · dsimp only [Pt.U, Pt.locs, Pt.cells, Pt.slots] at X' e1 e2 h1 h2 h3 st
    subst h1; subst h2; subst h3
    exact Or.inl ⟨v, (T.setVm vm₁).calling g' mk As.toArray, t, U', L, hT, X', hL, e1, e2, hq, st⟩
  · dsimp only [Pt.U, Pt.locs, Pt.cells, Pt.slots] at X' e1 e2 h1 h2 h3 st hcl
    subst h1; subst h2; subst h3
    exact Or.inr ⟨q, (T.setVm vm₁).calling g' mk As.toArray, t, U', L, E, ce, hT, X', hL, e1, e2, hq, hce, hcv, vx_cls hW₁ hcl, st⟩
end Runs
section Rows
variable {p : Program} {l : Launch} {e : Env} {R : Room} {s : State} {m : MethodId} {args : Array Value} {below : List Frame} {meth : Method} {c : Code} {H : Heap} {locs : List Loc} {cells slots : Nat} {Q : State → Prop}
variable {mc ms : Nat} {free : Addr → Prop} {A0 A1 : Nat → Prop} {H0 : Heap} {a : Array Value} {pc : Nat} {ls : Array Slot} {st0 rest : List Value}
theorem vx_keep {st₀ t T' : State} {L : List Loc} (h0 : st₀.heap = H) (e1 : T'.heap = t.heap) (hS : va_S A0 H0 H locs) (hA : ∀ q, q < H.size → A1 q → A0 q) (hf : ∀ q, free q → A0 q) (hL : ∀ q ∈ L, free q.base) (hF : va_F A1 st₀ t) :
    H.size ≤ T'.heap.size ∧ (∀ q : Nat, q < H.size → ¬ A1 q → T'.heap[q]? = H[q]?) ∧ va_S A0 H0 T'.heap (locs ++ L) := by
  obtain ⟨hz, hk⟩ := hF
  rw [h0] at hz hk
  exact ⟨by rw [e1]; exact hz, fun q h1 h2 => by rw [e1]; exact hk q h1 h2,
    ⟨Nat.le_trans hS.1 (by rw [e1]; exact hz), fun q h1 h2 => by rw [e1, hk q (Nat.lt_of_lt_of_le h1 hS.1) (fun z => h2 (hA q (Nat.lt_of_lt_of_le h1 hS.1) z))]; exact hS.2.1 q h1 h2, fun q hq => by
      rcases List.mem_append.mp hq with h | h
      · exact hS.2.2 q h
      · exact hf _ (hL q h)⟩⟩
theorem vx_calli {S SX : Type} {post : Int32 → S → Prop} {px : SX → Prop} {B : S → State → Prop} {BX : String → SX → State → Prop} {AX : Nat → Prop} (hr : vx_Run p l e R s m args below meth c H locs cells slots mc ms (F0 m pc ls st0) rest (va_Qi post B A1 a) (vx_X px BX AX) free) (hS : va_S A0 H0 H locs) (hA : ∀ q, q < H.size → A1 q → A0 q) (hf : ∀ q, free q → A0 q) (hAX : ∀ q, q < H.size → AX q → A0 q)
    (kx : ∀ (E : String) (ce : Cell) (q9 : Addr) (u : SX) (t : State) (H1 : Heap) (locs1 : List Loc), t.heap = H1 → s.vm.Alike t.vm → px u → BX E u t → H.size ≤ H1.size → (∀ q : Nat, q < H.size → ¬ AX q → H1[q]? = H[q]?) → va_S A0 H0 H1 locs1 → H1[q9]? = some ce → ce.vm = .none → s.vm.findClass E = some ce.cls → vx_W p l e R s m args below meth c H1 locs1 (cells + mc) (slots + ms) Q (F0 m pc ls rest) q9)
    (kk : ∀ (r : Int32) (u : S) (t : State) (H1 : Heap) (locs1 : List Loc), t.heap = H1 → s.vm.Alike t.vm → post r u → B u t → H.size ≤ H1.size → (∀ q : Nat, q < H.size → ¬ A1 q → H1[q]? = H[q]?) → va_S A0 H0 H1 locs1 → W p l e R s m args below meth c H1 locs1 (cells + mc) (slots + ms) Q (F0 m (pc + 3) ls (.int r :: rest))) : W p l e R s m args below meth c H locs cells slots Q (F0 m pc ls st0) := by
  intro T hT X
  rcases hr T hT X with ⟨v, st₀, t, T', L, h0, X', hL, e1, e2, ⟨⟨r, u, hv, hp, hb⟩, hF⟩, st⟩ | ⟨q, st₀, t, T', L, E, ce, h0, X', hL, e1, e2, ⟨u, hp, hb, hF⟩, hce, hcv, hcl, st⟩
  · cases hv
    obtain ⟨k1, k2, k3⟩ := vx_keep h0 e1 hS hA hf hL hF
    obtain ⟨t2, a1, b1⟩ := kk r u t T'.heap (locs ++ L) e1.symm (by rw [← e2]; exact X'.warmed.alike) hp hb k1 k2 k3 T' rfl X'
    exact ⟨t2, st t2 a1, b1⟩
  · obtain ⟨k1, k2, k3⟩ := vx_keep h0 e1 hS hAX hf hL hF
    obtain ⟨t2, a1, b1⟩ := kx E ce q u t T'.heap (locs ++ L) e1.symm (by rw [← e2]; exact X'.warmed.alike) hp hb k1 k2 k3 (by rw [e1]; exact hce) hcv hcl T' rfl X'
    exact ⟨t2, st.trans a1, b1⟩
theorem vx_calll {S SX : Type} {post : Int64 → S → Prop} {px : SX → Prop} {B : S → State → Prop} {BX : String → SX → State → Prop} {AX : Nat → Prop} (hr : vx_Run p l e R s m args below meth c H locs cells slots mc ms (F0 m pc ls st0) rest (va_Ql post B A1 a) (vx_X px BX AX) free) (hS : va_S A0 H0 H locs) (hA : ∀ q, q < H.size → A1 q → A0 q) (hf : ∀ q, free q → A0 q) (hAX : ∀ q, q < H.size → AX q → A0 q)
    (kx : ∀ (E : String) (ce : Cell) (q9 : Addr) (u : SX) (t : State) (H1 : Heap) (locs1 : List Loc), t.heap = H1 → s.vm.Alike t.vm → px u → BX E u t → H.size ≤ H1.size → (∀ q : Nat, q < H.size → ¬ AX q → H1[q]? = H[q]?) → va_S A0 H0 H1 locs1 → H1[q9]? = some ce → ce.vm = .none → s.vm.findClass E = some ce.cls → vx_W p l e R s m args below meth c H1 locs1 (cells + mc) (slots + ms) Q (F0 m pc ls rest) q9)
    (kk : ∀ (r : Int64) (u : S) (t : State) (H1 : Heap) (locs1 : List Loc), t.heap = H1 → s.vm.Alike t.vm → post r u → B u t → H.size ≤ H1.size → (∀ q : Nat, q < H.size → ¬ A1 q → H1[q]? = H[q]?) → va_S A0 H0 H1 locs1 → W p l e R s m args below meth c H1 locs1 (cells + mc) (slots + ms) Q (F0 m (pc + 3) ls (.long r :: rest))) : W p l e R s m args below meth c H locs cells slots Q (F0 m pc ls st0) := by
  intro T hT X
  rcases hr T hT X with ⟨v, st₀, t, T', L, h0, X', hL, e1, e2, ⟨⟨r, u, hv, hp, hb⟩, hF⟩, st⟩ | ⟨q, st₀, t, T', L, E, ce, h0, X', hL, e1, e2, ⟨u, hp, hb, hF⟩, hce, hcv, hcl, st⟩
  · cases hv
    obtain ⟨k1, k2, k3⟩ := vx_keep h0 e1 hS hA hf hL hF
    obtain ⟨t2, a1, b1⟩ := kk r u t T'.heap (locs ++ L) e1.symm (by rw [← e2]; exact X'.warmed.alike) hp hb k1 k2 k3 T' rfl X'
    exact ⟨t2, st t2 a1, b1⟩
  · obtain ⟨k1, k2, k3⟩ := vx_keep h0 e1 hS hAX hf hL hF
    obtain ⟨t2, a1, b1⟩ := kx E ce q u t T'.heap (locs ++ L) e1.symm (by rw [← e2]; exact X'.warmed.alike) hp hb k1 k2 k3 (by rw [e1]; exact hce) hcv hcl T' rfl X'
    exact ⟨t2, st.trans a1, b1⟩
theorem vx_callf {S SX : Type} {post : UInt32 → S → Prop} {px : SX → Prop} {B : S → State → Prop} {BX : String → SX → State → Prop} {AX : Nat → Prop} (hr : vx_Run p l e R s m args below meth c H locs cells slots mc ms (F0 m pc ls st0) rest (va_Qf post B A1 a) (vx_X px BX AX) free) (hS : va_S A0 H0 H locs) (hA : ∀ q, q < H.size → A1 q → A0 q) (hf : ∀ q, free q → A0 q) (hAX : ∀ q, q < H.size → AX q → A0 q)
    (kx : ∀ (E : String) (ce : Cell) (q9 : Addr) (u : SX) (t : State) (H1 : Heap) (locs1 : List Loc), t.heap = H1 → s.vm.Alike t.vm → px u → BX E u t → H.size ≤ H1.size → (∀ q : Nat, q < H.size → ¬ AX q → H1[q]? = H[q]?) → va_S A0 H0 H1 locs1 → H1[q9]? = some ce → ce.vm = .none → s.vm.findClass E = some ce.cls → vx_W p l e R s m args below meth c H1 locs1 (cells + mc) (slots + ms) Q (F0 m pc ls rest) q9)
    (kk : ∀ (r : UInt32) (u : S) (t : State) (H1 : Heap) (locs1 : List Loc), t.heap = H1 → s.vm.Alike t.vm → post r u → B u t → H.size ≤ H1.size → (∀ q : Nat, q < H.size → ¬ A1 q → H1[q]? = H[q]?) → va_S A0 H0 H1 locs1 → W p l e R s m args below meth c H1 locs1 (cells + mc) (slots + ms) Q (F0 m (pc + 3) ls (.float r :: rest))) : W p l e R s m args below meth c H locs cells slots Q (F0 m pc ls st0) := by
  intro T hT X
  rcases hr T hT X with ⟨v, st₀, t, T', L, h0, X', hL, e1, e2, ⟨⟨r, u, hv, hp, hb⟩, hF⟩, st⟩ | ⟨q, st₀, t, T', L, E, ce, h0, X', hL, e1, e2, ⟨u, hp, hb, hF⟩, hce, hcv, hcl, st⟩
  · cases hv
    obtain ⟨k1, k2, k3⟩ := vx_keep h0 e1 hS hA hf hL hF
    obtain ⟨t2, a1, b1⟩ := kk r u t T'.heap (locs ++ L) e1.symm (by rw [← e2]; exact X'.warmed.alike) hp hb k1 k2 k3 T' rfl X'
    exact ⟨t2, st t2 a1, b1⟩
  · obtain ⟨k1, k2, k3⟩ := vx_keep h0 e1 hS hAX hf hL hF
    obtain ⟨t2, a1, b1⟩ := kx E ce q u t T'.heap (locs ++ L) e1.symm (by rw [← e2]; exact X'.warmed.alike) hp hb k1 k2 k3 (by rw [e1]; exact hce) hcv hcl T' rfl X'
    exact ⟨t2, st.trans a1, b1⟩
theorem vx_calld {S SX : Type} {post : UInt64 → S → Prop} {px : SX → Prop} {B : S → State → Prop} {BX : String → SX → State → Prop} {AX : Nat → Prop} (hr : vx_Run p l e R s m args below meth c H locs cells slots mc ms (F0 m pc ls st0) rest (va_Qd post B A1 a) (vx_X px BX AX) free) (hS : va_S A0 H0 H locs) (hA : ∀ q, q < H.size → A1 q → A0 q) (hf : ∀ q, free q → A0 q) (hAX : ∀ q, q < H.size → AX q → A0 q)
    (kx : ∀ (E : String) (ce : Cell) (q9 : Addr) (u : SX) (t : State) (H1 : Heap) (locs1 : List Loc), t.heap = H1 → s.vm.Alike t.vm → px u → BX E u t → H.size ≤ H1.size → (∀ q : Nat, q < H.size → ¬ AX q → H1[q]? = H[q]?) → va_S A0 H0 H1 locs1 → H1[q9]? = some ce → ce.vm = .none → s.vm.findClass E = some ce.cls → vx_W p l e R s m args below meth c H1 locs1 (cells + mc) (slots + ms) Q (F0 m pc ls rest) q9)
    (kk : ∀ (r : UInt64) (u : S) (t : State) (H1 : Heap) (locs1 : List Loc), t.heap = H1 → s.vm.Alike t.vm → post r u → B u t → H.size ≤ H1.size → (∀ q : Nat, q < H.size → ¬ A1 q → H1[q]? = H[q]?) → va_S A0 H0 H1 locs1 → W p l e R s m args below meth c H1 locs1 (cells + mc) (slots + ms) Q (F0 m (pc + 3) ls (.double r :: rest))) : W p l e R s m args below meth c H locs cells slots Q (F0 m pc ls st0) := by
  intro T hT X
  rcases hr T hT X with ⟨v, st₀, t, T', L, h0, X', hL, e1, e2, ⟨⟨r, u, hv, hp, hb⟩, hF⟩, st⟩ | ⟨q, st₀, t, T', L, E, ce, h0, X', hL, e1, e2, ⟨u, hp, hb, hF⟩, hce, hcv, hcl, st⟩
  · cases hv
    obtain ⟨k1, k2, k3⟩ := vx_keep h0 e1 hS hA hf hL hF
    obtain ⟨t2, a1, b1⟩ := kk r u t T'.heap (locs ++ L) e1.symm (by rw [← e2]; exact X'.warmed.alike) hp hb k1 k2 k3 T' rfl X'
    exact ⟨t2, st t2 a1, b1⟩
  · obtain ⟨k1, k2, k3⟩ := vx_keep h0 e1 hS hAX hf hL hF
    obtain ⟨t2, a1, b1⟩ := kx E ce q u t T'.heap (locs ++ L) e1.symm (by rw [← e2]; exact X'.warmed.alike) hp hb k1 k2 k3 (by rw [e1]; exact hce) hcv hcl T' rfl X'
    exact ⟨t2, st.trans a1, b1⟩
theorem vx_callv {S SX : Type} {post : S → Prop} {px : SX → Prop} {B : S → State → Prop} {BX : String → SX → State → Prop} {AX : Nat → Prop} (hr : vx_Run p l e R s m args below meth c H locs cells slots mc ms (F0 m pc ls st0) rest (va_Qv post B A1 a) (vx_X px BX AX) free) (hS : va_S A0 H0 H locs) (hA : ∀ q, q < H.size → A1 q → A0 q) (hf : ∀ q, free q → A0 q) (hAX : ∀ q, q < H.size → AX q → A0 q)
    (kx : ∀ (E : String) (ce : Cell) (q9 : Addr) (u : SX) (t : State) (H1 : Heap) (locs1 : List Loc), t.heap = H1 → s.vm.Alike t.vm → px u → BX E u t → H.size ≤ H1.size → (∀ q : Nat, q < H.size → ¬ AX q → H1[q]? = H[q]?) → va_S A0 H0 H1 locs1 → H1[q9]? = some ce → ce.vm = .none → s.vm.findClass E = some ce.cls → vx_W p l e R s m args below meth c H1 locs1 (cells + mc) (slots + ms) Q (F0 m pc ls rest) q9)
    (kk : ∀ (u : S) (t : State) (H1 : Heap) (locs1 : List Loc), t.heap = H1 → s.vm.Alike t.vm → post u → B u t → H.size ≤ H1.size → (∀ q : Nat, q < H.size → ¬ A1 q → H1[q]? = H[q]?) → va_S A0 H0 H1 locs1 → W p l e R s m args below meth c H1 locs1 (cells + mc) (slots + ms) Q (F0 m (pc + 3) ls (rest))) : W p l e R s m args below meth c H locs cells slots Q (F0 m pc ls st0) := by
  intro T hT X
  rcases hr T hT X with ⟨v, st₀, t, T', L, h0, X', hL, e1, e2, ⟨⟨u, hv, hp, hb⟩, hF⟩, st⟩ | ⟨q, st₀, t, T', L, E, ce, h0, X', hL, e1, e2, ⟨u, hp, hb, hF⟩, hce, hcv, hcl, st⟩
  · cases hv
    obtain ⟨k1, k2, k3⟩ := vx_keep h0 e1 hS hA hf hL hF
    obtain ⟨t2, a1, b1⟩ := kk u t T'.heap (locs ++ L) e1.symm (by rw [← e2]; exact X'.warmed.alike) hp hb k1 k2 k3 T' rfl X'
    exact ⟨t2, st t2 a1, b1⟩
  · obtain ⟨k1, k2, k3⟩ := vx_keep h0 e1 hS hAX hf hL hF
    obtain ⟨t2, a1, b1⟩ := kx E ce q u t T'.heap (locs ++ L) e1.symm (by rw [← e2]; exact X'.warmed.alike) hp hb k1 k2 k3 (by rw [e1]; exact hce) hcv hcl T' rfl X'
    exact ⟨t2, st.trans a1, b1⟩
/-- caught by the row x of this method's table; the rows ahead don't take it -/
theorem vx_catch {own name : String} {E : String} {ce : Cell} {q : Addr} (hown : s.vm.findClass own = some m.cls) (pre : List ExceptionTableEntry) (x : ExceptionTableEntry) (suf : List ExceptionTableEntry) (hsplit : c.exceptionTable.toList = pre ++ x :: suf)
    (hpass : ∀ z ∈ pre, covers z pc = false ∨ (z.catchType ≠ 0 ∧ ∃ nm : String, (Cond.classLink own z.catchType nm).before args s = true ∧ va_Nc E nm s)) (hx : covers x pc = true) (h0 : x.catchType ≠ 0)
    (hlink : (Cond.classLink own x.catchType name).before args s = true) (hcast : (Cond.castable E name).before args s = true) (hcell : H[q]? = some ce) (hv : ce.vm = .none) (hcl : s.vm.findClass E = some ce.cls)
    (kk : W p l e R s m args below meth c H locs cells slots Q (F0 m x.handlerPc ls [.ref q])) : vx_W p l e R s m args below meth c H locs cells slots Q (F0 m pc ls rest) q := by
  intro T hT X
  have hpl : e.platform.magicAccessors = ({} : Platform).magicAccessors := by rw [X.admits.platform]
  obtain ⟨c3, c4, hc3, hc4, hasg⟩ := Cond.castable_spec hcast
  cases Option.some.inj (hc3.symm.trans hcl)
  obtain ⟨c5, hc5, hcl5⟩ := Cond.classLink_spec hown hlink e.platform hpl
  cases Option.some.inj (hc4.symm.trans hc5)
  obtain ⟨vm', X', st⟩ := X.thenCaughtThrough q (g := F0 m pc ls rest) rfl (Steps.refl _) (by rw [hT]; exact hcell) (by rw [hv]; rfl) (by obtain ⟨k9, h9, -⟩ := Vm.findClass_spec hcl; exact ⟨k9, h9⟩) pre x suf hsplit
    (fun z hz => by
      rcases hpass z hz with h | ⟨hz0, nm, hl1, hn1⟩
      · exact Or.inl h
      · obtain ⟨c6, hc6, hcl6⟩ := Cond.classLink_spec hown hl1 e.platform hpl
        obtain ⟨a8, b8, h1, h2, h3⟩ := hn1
        cases Option.some.inj (h1.symm.trans hcl)
        cases Option.some.inj (h2.symm.trans hc6)
        exact Or.inr ⟨hz0, _, hcl6, h3⟩) hx (Or.inr ⟨h0, c4, hcl5, hasg⟩)
  obtain ⟨t, a1, b1⟩ := kk (T.setVm vm') hT X'
  exact ⟨t, st.trans a1, b1⟩
end Rows
section Ends
variable {p : Program} {l : Launch} {e : Env} {R : Room} {s : State} {m : MethodId} {args : Array Value} {below : List Frame} {meth : Method} {c : Code} {H : Heap} {locs : List Loc} {cells slots : Nat} {Q : State → Prop}
variable {mc ms : Nat} {free : Addr → Prop} {A0 A1 : Nat → Prop} {H0 : Heap} {a : Array Value} {ls : Array Slot} {st0 rest : List Value}
variable {Qc : Array Value → State → Outcome → State → Prop} {XC : String → State → State → Prop}
/-- what a body that may throw owes at its end -/
def vx_MQ (below : List Frame) (Qc : Array Value → State → Outcome → State → Prop) (XC : String → State → State → Prop) (a : Array Value) (s : State) (mc ms : Nat) (free : Addr → Prop) : State → Prop := fun t =>
  ∃ o, t.status = .running ∧ Ended t below o ∧ vx_Q Qc XC mc ms free a s o t
theorem vx_ret {g : JFrame} {mc ms : Nat} (k : W p l e R s m args below meth c H locs cells slots (MQ below Qc args s mc ms free) g) : W p l e R s m args below meth c H locs cells slots (vx_MQ below Qc XC args s mc ms free) g := by
  intro T hT X
  obtain ⟨t, a1, o, b1, b2, b3, b4⟩ := k T hT X
  exact ⟨t, a1, o, b1, b2, Or.inl ⟨b3, b4⟩⟩
/-- not caught here: it goes on to the caller -/
theorem vx_widen {g : JFrame} {q : Addr} {k n : Nat} (h1 : cells ≤ k) (h2 : slots ≤ n) (kk : vx_W p l e R s m args below meth c H locs k n Q g q) : vx_W p l e R s m args below meth c H locs cells slots Q g q := fun T hT X => kk T hT (stand_widen X h1 h2)
theorem vx_out {pc : Nat} {E : String} {ce : Cell} {q : Addr} {mc ms : Nat} (hout : ∀ x ∈ c.exceptionTable.toList, covers x pc = false) (hlocks : meth.locks = false) (hcell : H[q]? = some ce) (hv : ce.vm = .none) (hcl : s.vm.findClass E = some ce.cls)
    (hx : ∀ t : State, t.heap = H → s.vm.Alike t.vm → XC E s t) (hf : ∀ z ∈ locs, free z.base) (hc : cells ≤ mc) (hs : slots ≤ ms) :
    vx_W p l e R s m args below meth c H locs cells slots (vx_MQ below Qc XC args s mc ms free) (F0 m pc ls rest) q := by
  intro T hT X
  obtain ⟨st1, hrun, hend, hW, hsm⟩ := X.leaveThrown q (g := F0 m pc ls rest) rfl rfl rfl hout hlocks
  have hcell9 : (T.setFrames (.throwing q :: below)).heap[q]? = some ce := by
    show T.heap[q]? = some ce
    rw [hT]; exact hcell
  exact ⟨_, st1, .threw q, hrun, hend, Or.inr ⟨q, rfl, E, ce, locs, hx _ hT hW.alike, hcell9, hv, hcl, hW, hsm.mono hc hs, hf⟩⟩
theorem vx_frame {U : State} {k n : Nat} (h : s.sameButNew ({ U with vm := s.vm } : State) locs k n) : s.heap.size ≤ U.heap.size ∧ ∀ q : Nat, q < s.heap.size → (∀ z ∈ locs, z.base ≠ q) → U.heap[q]? = s.heap[q]? := by
  obtain ⟨-, h2, -, -, -, h6⟩ := h
  refine ⟨h2, fun q hq hz => ?_⟩
  obtain ⟨c9, e1, e2, e3, e4⟩ := h6 q _ (Array.getElem?_eq_getElem hq)
  have hs : c9.slots = (s.heap[q]).slots := Array.ext_getElem? fun i => e4 i fun hm => hz _ hm rfl
  have h9 : c9 = s.heap[q] := by
    rw [hs] at e2
    exact e2
  have e5 : U.heap[q]? = some c9 := e1
  rw [e5, h9, Array.getElem?_eq_getElem hq]
/-- the words of a throw but the four that speak of the heap -/
def vx_no (w : Cond) : Bool := decide (w ≠ .isRef (.static Bundle.tN "UNASSIGNED_STACK" Bundle.steD)) && decide (w ≠ .isRef (.static Bundle.tN "SUPPRESSED_SENTINEL" Bundle.listD)) && decide (w ≠ .laysStatic Bundle.tN "UNASSIGNED_STACK" Bundle.steD) && decide (w ≠ .laysStatic Bundle.tN "SUPPRESSED_SENTINEL" Bundle.listD)
def vx_at0 (own : String) (ic : Nat) (X : String) (names : List String) : List Cond := (Bundle.ownAtoms0 own ic X names).filter vx_no
def vx_atS (own : String) (ic : Nat) (X : String) (names : List String) : List Cond := (Bundle.ownAtoms own ic X names).filter vx_no
/-- a word that the tables alone decide, or a good one -/
def vx_ot (w : Cond) : Bool := w.onTables || goodWord w
theorem vx_ot_at {args a' : Array Value} {s U : State} {w : Cond} (hW : s.WarmedH U.vm) (hvm : s.vm = U.vm) (hg : vx_ot w = true) (h : w.before args s = true) : w.before a' U = true := by
  simp only [vx_ot, Bool.or_eq_true] at hg
  rcases hg with hg | hg
  · exact va_tabs hg hvm h
  · exact word_at hW (good_of_word hg) h
/-- a list's words: the good ones out of the method's own list, the others by premises of their own -/
theorem vx_hat {args : Array Value} {s : State} {L B : List Cond} (h1 : ∀ w ∈ L.filter goodWord, w.before args s = true) (h2 : ∀ w ∈ L.filter (fun w => !goodWord w), w ∈ B) (h3 : ∀ w ∈ B, w.before args s = true) : ∀ w ∈ L, w.before args s = true := by
  intro w hw
  by_cases g : goodWord w = true
  · exact h1 w (List.mem_filter.mpr ⟨hw, g⟩)
  · refine h3 w (h2 w (List.mem_filter.mpr ⟨hw, ?_⟩))
    show (!goodWord w) = true
    cases hgw : goodWord w
    · rfl
    · exact absurd hgw g
theorem vx_c {args : Array Value} {s : State} {w : Cond} {B : List Cond} (h : w.before args s = true) (t : ∀ w ∈ B, w.before args s = true) : ∀ w' ∈ w :: B, w'.before args s = true := fun w' h' => (List.mem_cons.mp h').elim (fun e => by rw [e]; exact h) (t w')
theorem vx_n {args : Array Value} {s : State} : ∀ w ∈ ([] : List Cond), w.before args s = true := fun _ h => nomatch h
theorem vx_own {args : Array Value} {s : State} {L : List Cond} (h1 : ∀ w ∈ L.filter vx_no, w.before args s = true)
    (hU : (Cond.isRef (.static Bundle.tN "UNASSIGNED_STACK" Bundle.steD)).before args s = true) (hN : (Cond.isRef (.static Bundle.tN "SUPPRESSED_SENTINEL" Bundle.listD)).before args s = true)
    (lU : (Cond.laysStatic Bundle.tN "UNASSIGNED_STACK" Bundle.steD).before args s = true) (lN : (Cond.laysStatic Bundle.tN "SUPPRESSED_SENTINEL" Bundle.listD).before args s = true) : ∀ w ∈ L, w.before args s = true := by
  intro w hw
  by_cases e1 : w = .isRef (.static Bundle.tN "UNASSIGNED_STACK" Bundle.steD)
  · rw [e1]; exact hU
  · by_cases e2 : w = .isRef (.static Bundle.tN "SUPPRESSED_SENTINEL" Bundle.listD)
    · rw [e2]; exact hN
    · by_cases e3 : w = .laysStatic Bundle.tN "UNASSIGNED_STACK" Bundle.steD
      · rw [e3]; exact lU
      · by_cases e4 : w = .laysStatic Bundle.tN "SUPPRESSED_SENTINEL" Bundle.listD
        · rw [e4]; exact lN
        · exact h1 w (List.mem_filter.mpr ⟨hw, by unfold vx_no; rw [decide_eq_true e1, decide_eq_true e2, decide_eq_true e3, decide_eq_true e4]; rfl⟩)
/-- where a static field lies, its class's statics cell in H -/
def vx_L (C n d : String) (A : Nat → Prop) (U : State) (H : Heap) : Prop := ∃ (c : ClassId) (k : Class) (i : Nat) (f : Field) (a : Nat) (cell : Cell), U.vm.findClass C = some c ∧ U.fieldFound? C n d = some (c, k, i, f) ∧ f.isStatic = true ∧ k.statics = some a ∧ H[a]? = some cell ∧ cell.vm.isStatics = true ∧ cell.cls = c ∧ f.slot < cell.slots.size ∧ k.staticTypes[f.slot]? = some f.type ∧ ¬ A a
theorem vx_L.moved {C n d : String} {A : Nat → Prop} {u U : State} {H : Heap} (hvm : u.vm.Alike U.vm) (h : vx_L C n d A u H) : vx_L C n d A U H := by
  obtain ⟨c, k, i, f, a, cell, h1, h2, h3, h4, h5, h6, h7, h8, h9, h10⟩ := h
  obtain ⟨k', hi', he⟩ := State.fieldFound?_setVm hvm h2
  exact ⟨c, k', i, f, a, cell, by rw [hvm.findClass]; exact h1, hi', h3, by rw [he]; exact h4, h5, h6, h7, h8, by rw [he]; exact h9, h10⟩
theorem vx_L.kept {C n d : String} {A : Nat → Prop} {U : State} {H H1 : Heap} (h : vx_L C n d A U H) (hq : ∀ a : Nat, a < H.size → ¬ A a → H1[a]? = H[a]?) : vx_L C n d A U H1 := by
  obtain ⟨c, k, i, f, a, cell, h1, h2, h3, h4, h5, h6, h7, h8, h9, h10⟩ := h
  exact ⟨c, k, i, f, a, cell, h1, h2, h3, h4, by rw [hq a (Array.getElem?_eq_some_iff.mp h5).1 h10]; exact h5, h6, h7, h8, h9, h10⟩
theorem vx_L.narrow {C n d : String} {A B : Nat → Prop} {U : State} {H : Heap} (h : vx_L C n d A U H) (hAB : ∀ q, B q → A q) : vx_L C n d B U H := by
  obtain ⟨c, k, i, f, a, cell, h1, h2, h3, h4, h5, h6, h7, h8, h9, h10⟩ := h
  exact ⟨c, k, i, f, a, cell, h1, h2, h3, h4, h5, h6, h7, h8, h9, fun z => h10 (hAB _ z)⟩
theorem vx_L.word {C n d : String} {A : Nat → Prop} {s : State} {args : Array Value} (h : vx_L C n d A s s.heap) : (Cond.laysStatic C n d).before args s = true := by
  obtain ⟨c, k, i, f, a, cell, h1, h2, h3, h4, h5, h6, h7, h8, h9, -⟩ := h
  show (Cond.laysStatic C n d).holds args s none s [] = true
  exact Cond.laysStatic_of h1 h2 h3 h4 h5 h6 h7 h8 h9
/-- .. and what it holds: null or some reference -/
def vx_Zq (C n d : String) (A : Nat → Prop) (U : State) (H : Heap) : Prop := va_Zq C n d A U H ∧ vx_L C n d A U H
theorem vx_Zq.moved {C n d : String} {A : Nat → Prop} {u U : State} {H : Heap} (hvm : u.vm.Alike U.vm) (h : vx_Zq C n d A u H) : vx_Zq C n d A U H := ⟨va_Zq.moved hvm h.1, vx_L.moved hvm h.2⟩
theorem vx_Zq.kept {C n d : String} {A : Nat → Prop} {U : State} {H H1 : Heap} (h : vx_Zq C n d A U H) (hq : ∀ a : Nat, a < H.size → ¬ A a → H1[a]? = H[a]?) : vx_Zq C n d A U H1 := ⟨va_Zq.kept h.1 hq, vx_L.kept h.2 hq⟩
theorem vx_Zq.narrow {C n d : String} {A B : Nat → Prop} {U : State} {H : Heap} (h : vx_Zq C n d A U H) (hAB : ∀ q, B q → A q) : vx_Zq C n d B U H := ⟨va_Zq.narrow h.1 hAB, vx_L.narrow h.2 hAB⟩
theorem vx_Zqof {args : Array Value} {s : State} {C n d : String} {A : Nat → Prop} (hl : (Cond.laysStatic C n d).before args s = true) (hini : (Cond.initialized C).before args s = true) (h : (Cond.isRef (.static C n d)).before args s = true) (hA : ∀ a : Nat, a < s.heap.size → ¬ A a) : vx_Zq C n d A s s.heap := by
  refine ⟨va_Zqof hl hini h hA, ?_⟩
  obtain ⟨c, k, i, f, a, cell, h1, h2, h3, h4, h5, h6, h7, h8, h9⟩ := Cond.laysStatic_spec hl
  exact ⟨c, k, i, f, a, cell, h1, h2, h3, h4, h5, h6, h7, h8, h9, hA a (Array.getElem?_eq_some_iff.mp h5).1⟩
theorem vx_isRef {C n d : String} {v : Value} {A : Nat → Prop} {s : State} {args : Array Value} (h : va_Z C n d v A s s.heap) (hv : v.isRef = true) : (Cond.isRef (.static C n d)).before args s = true := by
  obtain ⟨cf, kf, fi, f, a, cell, h1, h2, h3, h4, h5, h6, h7, -⟩ := h
  have he : (Term.static C n d).eval args s none [] s = some v := by
    simp [Term.eval, State.fieldNamed?, h1, h2, h4, h5, h6, h7]
  simp only [Cond.before, Cond.holds, Cond.value, he]
  cases v <;> simp_all [Value.isRef]
theorem vx_isRefq {C n d : String} {A : Nat → Prop} {s : State} {args : Array Value} (h : va_Zq C n d A s s.heap) : (Cond.isRef (.static C n d)).before args s = true := by
  rcases h with h | ⟨t, h⟩
  · exact vx_isRef h rfl
  · exact vx_isRef h rfl
/-- the same frame, seen from here: as if the method were called anew in this heap -/
theorem vx_rebase {T : State} (X : Stand p l e R s m args below meth c T locs cells slots) {R' : Room} (hf : R'.frames ≤ R.frames) (hl : R'.locals ≤ R.locals) (hc : cells + R'.cells ≤ R.cells) (hs : slots + R'.slots ≤ R.slots) :
    Stand p l e R' ((T.setVm s.vm).setFrames (.invoking m args :: below)) m args below meth c T [] 0 0 := by
  have htop : (T.setVm s.vm).topJava?.isSome := X.here.top
  have hF : ((T.setVm s.vm).setFrames (.invoking m args :: below)).frames = .invoking m args :: below := State.frames_setFrames _ (State.cur_lt_of_top htop)
  obtain ⟨g₀, hg0⟩ := Option.isSome_iff_exists.mp htop
  obtain ⟨r, hr⟩ := State.topJava?_eq_some.mp hg0
  have hl9 : e.platform.stackLimits (T.setVm s.vm).me = e.platform.stackLimits s.me := X.limits
  have hb9 : (T.setVm s.vm).me.stackBytes = s.me.stackBytes := X.bytes
  refine ⟨X.admits, X.cas, X.clock, hF, ?_, X.hears, X.method, X.code, X.here, X.tail, X.warmed, ?_, ?_, ?_⟩
  · have h := X.room
    have hU : ((T.setVm s.vm).setFrames (.invoking m args :: below)).localsInUse = s.localsInUse := by
      rw [State.localsInUse_invoking hF (meth := meth) (c := c) X.method X.code, State.localsInUse_invoking X.frames X.method X.code]
    simp only [State.hasRoom, Bool.and_eq_true, decide_eq_true_eq] at h ⊢
    obtain ⟨⟨⟨⟨h1, h2, h3, h4, h5, h6⟩, h7⟩, h8⟩, h9⟩ := h
    rw [X.frames, List.length_cons] at h2 h3
    have q1 := X.heapSize
    have q2 := X.used
    simp only [hF, hU, List.length_cons, State.stackLimits_setFrames, State.stackBytes_setFrames, hl9, hb9]
    refine ⟨⟨⟨⟨by omega, by omega, by omega, by omega, by omega, h6⟩, ?_⟩, ?_⟩, X.book⟩
    · show T.heap.size + R'.cells ≤ e.platform.maxCells
      omega
    · show T.slotsUsed + R'.slots ≤ e.platform.maxSlots
      omega
  · rw [State.stackLimits_setFrames]; rfl
  · rw [State.stackBytes_setFrames]; rfl
  · refine ⟨?_, Nat.le_refl _, Nat.le_refl _, ?_, ?_, fun a c9 h9 => ⟨c9, h9, rfl, rfl, fun _ _ => rfl⟩⟩
    · obtain ⟨t, ht, -⟩ := State.frames_cons hr
      show T.setVm s.vm = { ((T.setVm s.vm).setFrames (.invoking m args :: below)).setFrames (T.setVm s.vm).frames with heap := T.heap, slotsUsed := T.slotsUsed }
      rw [State.setFrames_setFrames, State.setFrames_self ht]
      rfl
    · show T.slotsUsed = T.slotsUsed + ((T.heap.toList.drop T.heap.size).map (·.slots.size)).sum
      rw [List.drop_eq_nil_of_le (Nat.le_of_eq Array.length_toList)]
      rfl
    · show ((T.heap.toList.drop T.heap.size).map (·.slots.size)).sum ≤ 0
      rw [List.drop_eq_nil_of_le (Nat.le_of_eq Array.length_toList)]
      exact Nat.le_refl _
/-- 'throw new E()': new; dup; invokespecial; athrow -/
theorem vx_throw0 {cc : ByteArray} {pc : Nat} (hexec : p.tables.exec = Jvm.exec) (hb : c.code = cc) (hl : l.stackTraces = false) {own cls : String} {names : List String} {ik ic mc ms : Nat} {A : Nat → Prop}
    (hown : s.vm.findClass own = some m.cls) (hcls : Bundle.fit cls = true) (hnames : ∀ n ∈ names, Bundle.fit n = true)
    (hk : (Cond.classLink own ik cls).before args s = true) (hini : (Cond.initialized cls).before args s = true) (hat : ∀ w ∈ vx_at0 own ic cls names, w.before args s = true)
    (hgood : ∀ w ∈ Cond.classLink own ik cls :: Cond.initialized cls :: vx_at0 own ic cls names, vx_ot w = true)
    (hU : vx_Zq Bundle.tN "UNASSIGNED_STACK" Bundle.steD A s s.heap) (hN : vx_Zq Bundle.tN "SUPPRESSED_SENTINEL" Bundle.listD A s s.heap) (hS : va_S A s.heap H locs) (hsize : ls.size = c.maxLocals)
    (d0 : decode cc pc = .ok (.new ik, 3)) (d3 : decode cc (pc + 3) = .ok (.dup, 1)) (d4 : decode cc (pc + 4) = .ok (.invokespecial ic, 3)) (d7 : decode cc (pc + 7) = .ok (.athrow, 1))
    (hout : ∀ x ∈ c.exceptionTable.toList, covers x (pc + 7) = false)
    (hRframes : names.length + 3 < R.frames) (hRlocals : (rest.map fun v => v.category).sum + (13 * (names.length + 1) + 42) ≤ R.locals) (hRcells : cells + 1 ≤ R.cells) (hRslots : slots + 6 ≤ R.slots) (hlocks : meth.locks = false)
    (hx : ∀ t : State, s.vm.Alike t.vm → H.size ≤ t.heap.size → (∀ q : Nat, q < H.size → t.heap[q]? = H[q]?) → XC cls s t)
    (hf : ∀ z ∈ locs, free z.base) (hc : cells + 1 ≤ mc) (hs : slots + 6 ≤ ms) :
    W p l e R s m args below meth c H locs cells slots (vx_MQ below Qc XC args s mc ms free) (F0 m pc ls rest) := by
  intro T hT X
  have htr : e.platform.stackTraces = false := (show e.platform.stackTraces = l.stackTraces by rw [X.admits.platform]).trans hl
  have Y := vx_rebase X (R' := { frames := R.frames, locals := R.locals, cells := 1, slots := 6 }) (Nat.le_refl _) (Nat.le_refl _) hRcells hRslots
  obtain ⟨s', hA⟩ : ∃ z, z = (T.setVm s.vm).setFrames (.invoking m args :: below) := ⟨_, rfl⟩
  rw [← hA] at Y
  have hvm : s'.vm = s.vm := by rw [hA]; rfl
  have hhp : s'.heap = H := by rw [hA]; exact hT
  have hW0 : s.WarmedH s'.vm := by rw [hvm]; exact State.WarmedH.refl s
  have hat' : ∀ w ∈ vx_at0 own ic cls names, w.before args s' = true := fun w hw => vx_ot_at hW0 hvm.symm (hgood w (List.mem_cons_of_mem _ (List.mem_cons_of_mem _ hw))) (hat w hw)
  have hk' : (Cond.classLink own ik cls).before args s' = true := vx_ot_at hW0 hvm.symm (hgood _ List.mem_cons_self) hk
  have hini' : (Cond.initialized cls).before args s' = true := vx_ot_at hW0 hvm.symm (hgood _ (List.mem_cons_of_mem _ List.mem_cons_self)) hini
  have hU' : vx_Zq Bundle.tN "UNASSIGNED_STACK" Bundle.steD A s' s'.heap := by rw [hhp]; exact vx_Zq.moved hW0.alike (hU.kept hS.2.1)
  have hN' : vx_Zq Bundle.tN "SUPPRESSED_SENTINEL" Bundle.listD A s' s'.heap := by rw [hhp]; exact vx_Zq.moved hW0.alike (hN.kept hS.2.1)
  have h : ∀ w ∈ Bundle.ownAtoms0 own ic cls names, w.before args s' = true := vx_own hat' (vx_isRefq hU'.1) (vx_isRefq hN'.1) hU'.2.word hN'.2.word
  have hown' : s'.vm.findClass own = some m.cls := by rw [hvm]; exact hown
  have hins : (Cond.instantiable cls 6).before args s' = true := h _ (by simp [Bundle.ownAtoms0])
  obtain ⟨vm₁, cX, kX, hfX, hkX, -, -, X₁, st1⟩ := Y.newCold hexec (own := own) (C := cls) (index := ik) (n := 6) hown' hk' hins hini'
    (g := F0 m pc ls rest) rfl (by rw [hb]; exact d0) (Nat.le_refl _) (Nat.le_refl _)
  generalize hT1 : (T.setVm vm₁).pushCell { cls := cX, slots := kX.instanceTypes.map defaultValue, vm := .none } = T1 at X₁ st1
  have hcat : (Value.ref T.heap.size).category = 1 := rfl
  have hcellA : T1.heap[T.heap.size]? = some (freshCell cX kX) := by rw [← hT1]; exact State.heap_pushCell_size _ _
  have d3' : decode c.code (pc + 3) = .ok (.dup, 1) := by rw [hb]; exact d3
  obtain ⟨U, hsteps, hrun, hend, hW, hsame, ce, hce, hO⟩ := X₁.ctorThrow0 hexec htr (own := own) (cls := cls) (names := names) (ic := ic) hown' hcls hnames h (fun x hx => nomatch hx) hfX hkX hcellA (by rw [hhp, hT]; exact Nat.le_refl _)
    (g := { method := m, pc := pc + 4, locals := ls, stack := .ref T.heap.size :: .ref T.heap.size :: rest, locked := none }) rfl hsize rfl rfl (rest := rest) rfl
    (by rw [hb]; exact d4) (by rw [hb]; exact d7) hout hRframes (by simp only [List.map_cons, List.sum_cons, hcat]; omega) hlocks
  obtain ⟨f1, f2⟩ := vx_frame hsame
  rw [hhp] at f1 f2
  have hWs : s.WarmedH U.vm := State.WarmedH.trans hW0 hW
  have hcl : s.vm.findClass cls = some ce.cls := by
    have h9 := hO.cls
    rw [hvm] at h9
    exact h9
  have hall : s.sameButNew ({ U with vm := s.vm } : State) locs mc ms := by
    subst hA
    obtain ⟨e1, e2⟩ := hsame
    rw [State.setFrames_setFrames] at e1
    have h2 : (T.setVm s.vm).sameButNew ({ U with vm := s.vm } : State) [] (0 + 1) (0 + 6) := ⟨e1, e2⟩
    have h3 := X.same.trans h2
    rw [List.append_nil] at h3
    exact h3.mono hc hs
  refine ⟨U, ?_, .threw T.heap.size, hrun, hend, Or.inr ⟨T.heap.size, rfl, cls, ce, locs, hx U hWs.alike f1 (fun q hq => f2 q hq (fun z hz => nomatch hz)), hce, hO.vm, hcl, hWs, hall, hf⟩⟩
  refine st1 _ ?_
  show Steps p.tables e below (T1.setTop { method := m, pc := pc + 3, locals := ls, stack := .ref T.heap.size :: rest, locked := none }) _
  jvm_step X₁.here [X₁.here.top, hexec, d3', Value.category]
  exact hsteps
/-- 'throw new E("text")': new; dup; ldc; invokespecial; athrow -/
theorem vx_throwS {cc : ByteArray} {pc : Nat} (hexec : p.tables.exec = Jvm.exec) (hb : c.code = cc) (hl : l.stackTraces = false) {own cls text : String} {names : List String} {ik is ic mc ms sa : Nat} {A : Nat → Prop}
    (hown : s.vm.findClass own = some m.cls) (hcls : Bundle.fit cls = true) (hnames : ∀ n ∈ names, Bundle.fit n = true)
    (hk : (Cond.classLink own ik cls).before args s = true) (hini : (Cond.initialized cls).before args s = true) (hstr : vk_R own is text sa s) (hat : ∀ w ∈ vx_atS own ic cls names, w.before args s = true)
    (hgood : ∀ w ∈ Cond.classLink own ik cls :: Cond.initialized cls :: vx_atS own ic cls names, vx_ot w = true)
    (hU : vx_Zq Bundle.tN "UNASSIGNED_STACK" Bundle.steD A s s.heap) (hN : vx_Zq Bundle.tN "SUPPRESSED_SENTINEL" Bundle.listD A s s.heap) (hS : va_S A s.heap H locs) (hsize : ls.size = c.maxLocals)
    (d0 : decode cc pc = .ok (.new ik, 3)) (d3 : decode cc (pc + 3) = .ok (.dup, 1)) (d4 : decode cc (pc + 4) = .ok (.ldc is, 2)) (d6 : decode cc (pc + 6) = .ok (.invokespecial ic, 3)) (d9 : decode cc (pc + 9) = .ok (.athrow, 1))
    (hout : ∀ x ∈ c.exceptionTable.toList, covers x (pc + 9) = false)
    (hRframes : names.length + 3 < R.frames) (hRlocals : (rest.map fun v => v.category).sum + (13 * (names.length + 1) + 43) ≤ R.locals) (hRcells : cells + 1 ≤ R.cells) (hRslots : slots + 6 ≤ R.slots) (hlocks : meth.locks = false)
    (hx : ∀ t : State, s.vm.Alike t.vm → H.size ≤ t.heap.size → (∀ q : Nat, q < H.size → t.heap[q]? = H[q]?) → XC cls s t)
    (hf : ∀ z ∈ locs, free z.base) (hc : cells + 1 ≤ mc) (hs : slots + 6 ≤ ms) :
    W p l e R s m args below meth c H locs cells slots (vx_MQ below Qc XC args s mc ms free) (F0 m pc ls rest) := by
  intro T hT X
  have htr : e.platform.stackTraces = false := (show e.platform.stackTraces = l.stackTraces by rw [X.admits.platform]).trans hl
  have Y := vx_rebase X (R' := { frames := R.frames, locals := R.locals, cells := 1, slots := 6 }) (Nat.le_refl _) (Nat.le_refl _) hRcells hRslots
  obtain ⟨s', hA⟩ : ∃ z, z = (T.setVm s.vm).setFrames (.invoking m args :: below) := ⟨_, rfl⟩
  rw [← hA] at Y
  have hvm : s'.vm = s.vm := by rw [hA]; rfl
  have hhp : s'.heap = H := by rw [hA]; exact hT
  have hW0 : s.WarmedH s'.vm := by rw [hvm]; exact State.WarmedH.refl s
  have hat' : ∀ w ∈ vx_atS own ic cls names, w.before args s' = true := fun w hw => vx_ot_at hW0 hvm.symm (hgood w (List.mem_cons_of_mem _ (List.mem_cons_of_mem _ hw))) (hat w hw)
  have hk' : (Cond.classLink own ik cls).before args s' = true := vx_ot_at hW0 hvm.symm (hgood _ List.mem_cons_self) hk
  have hini' : (Cond.initialized cls).before args s' = true := vx_ot_at hW0 hvm.symm (hgood _ (List.mem_cons_of_mem _ List.mem_cons_self)) hini
  have hU' : vx_Zq Bundle.tN "UNASSIGNED_STACK" Bundle.steD A s' s'.heap := by rw [hhp]; exact vx_Zq.moved hW0.alike (hU.kept hS.2.1)
  have hN' : vx_Zq Bundle.tN "SUPPRESSED_SENTINEL" Bundle.listD A s' s'.heap := by rw [hhp]; exact vx_Zq.moved hW0.alike (hN.kept hS.2.1)
  have h : ∀ w ∈ Bundle.ownAtoms own ic cls names, w.before args s' = true := vx_own hat' (vx_isRefq hU'.1) (vx_isRefq hN'.1) hU'.2.word hN'.2.word
  have hown' : s'.vm.findClass own = some m.cls := by rw [hvm]; exact hown
  have hins : (Cond.instantiable cls 6).before args s' = true := h _ (by simp [Bundle.ownAtoms])
  obtain ⟨vm₁, cX, kX, hfX, hkX, -, -, X₁, st1⟩ := Y.newCold hexec (own := own) (C := cls) (index := ik) (n := 6) hown' hk' hins hini'
    (g := F0 m pc ls rest) rfl (by rw [hb]; exact d0) (Nat.le_refl _) (Nat.le_refl _)
  generalize hT1 : (T.setVm vm₁).pushCell { cls := cX, slots := kX.instanceTypes.map defaultValue, vm := .none } = T1 at X₁ st1
  have hcat : (Value.ref T.heap.size).category = 1 := rfl
  have hcellA : T1.heap[T.heap.size]? = some (freshCell cX kX) := by rw [← hT1]; exact State.heap_pushCell_size _ _
  have d3' : decode c.code (pc + 3) = .ok (.dup, 1) := by rw [hb]; exact d3
  have d4' : decode c.code (pc + 4) = .ok (.ldc is, 2) := by rw [hb]; exact d4
  have hstr' : vk_R own is text sa s' := vk_R.warm hW0 hstr
  obtain ⟨U, hsteps, hrun, hend, hW, hsame, ce, hce, hO⟩ := X₁.ctorThrowS hexec htr (own := own) (cls := cls) (names := names) (ic := ic) hown' hcls hnames h (fun x hx => nomatch hx) hfX hkX hcellA (by rw [hhp, hT]; exact Nat.le_refl _) (msg := .ref sa) rfl
    (g := { method := m, pc := pc + 6, locals := ls, stack := .ref sa :: .ref T.heap.size :: .ref T.heap.size :: rest, locked := none }) rfl hsize rfl rfl (rest := rest) rfl
    (by rw [hb]; exact d6) (by rw [hb]; exact d9) hout hRframes (by simp only [List.map_cons, List.sum_cons, hcat]; omega) hlocks
  obtain ⟨f1, f2⟩ := vx_frame hsame
  rw [hhp] at f1 f2
  have hWs : s.WarmedH U.vm := State.WarmedH.trans hW0 hW
  have hcl : s.vm.findClass cls = some ce.cls := by
    have h9 := hO.cls
    rw [hvm] at h9
    exact h9
  have hall : s.sameButNew ({ U with vm := s.vm } : State) locs mc ms := by
    subst hA
    obtain ⟨e1, e2⟩ := hsame
    rw [State.setFrames_setFrames] at e1
    have h2 : (T.setVm s.vm).sameButNew ({ U with vm := s.vm } : State) [] (0 + 1) (0 + 6) := ⟨e1, e2⟩
    have h3 := X.same.trans h2
    rw [List.append_nil] at h3
    exact h3.mono hc hs
  refine ⟨U, ?_, .threw T.heap.size, hrun, hend, Or.inr ⟨T.heap.size, rfl, cls, ce, locs, hx U hWs.alike f1 (fun q hq => f2 q hq (fun z hz => nomatch hz)), hce, hO.vm, hcl, hWs, hall, hf⟩⟩
  refine st1 _ ?_
  show Steps p.tables e below (T1.setTop { method := m, pc := pc + 3, locals := ls, stack := .ref T.heap.size :: rest, locked := none }) _
  jvm_step X₁.here [X₁.here.top, hexec, d3', Value.category]
  exact X₁.ldcString hexec (own := own) (text := text) (index := is) (a := sa) hown' hstr'.1 hstr'.2
    (g := { method := m, pc := pc + 4, locals := ls, stack := .ref T.heap.size :: .ref T.heap.size :: rest, locked := none }) rfl d4' _ hsteps
/-- 'throw new E("text")', the text by a wide index -/
theorem vx_throwSW {cc : ByteArray} {pc : Nat} (hexec : p.tables.exec = Jvm.exec) (hb : c.code = cc) (hl : l.stackTraces = false) {own cls text : String} {names : List String} {ik is ic mc ms sa : Nat} {A : Nat → Prop}
    (hown : s.vm.findClass own = some m.cls) (hcls : Bundle.fit cls = true) (hnames : ∀ n ∈ names, Bundle.fit n = true)
    (hk : (Cond.classLink own ik cls).before args s = true) (hini : (Cond.initialized cls).before args s = true) (hstr : vk_R own is text sa s) (hat : ∀ w ∈ vx_atS own ic cls names, w.before args s = true)
    (hgood : ∀ w ∈ Cond.classLink own ik cls :: Cond.initialized cls :: vx_atS own ic cls names, vx_ot w = true)
    (hU : vx_Zq Bundle.tN "UNASSIGNED_STACK" Bundle.steD A s s.heap) (hN : vx_Zq Bundle.tN "SUPPRESSED_SENTINEL" Bundle.listD A s s.heap) (hS : va_S A s.heap H locs) (hsize : ls.size = c.maxLocals)
    (d0 : decode cc pc = .ok (.new ik, 3)) (d3 : decode cc (pc + 3) = .ok (.dup, 1)) (d4 : decode cc (pc + 4) = .ok (.ldc_w is, 3)) (d7 : decode cc (pc + 7) = .ok (.invokespecial ic, 3)) (d10 : decode cc (pc + 10) = .ok (.athrow, 1))
    (hout : ∀ x ∈ c.exceptionTable.toList, covers x (pc + 10) = false)
    (hRframes : names.length + 3 < R.frames) (hRlocals : (rest.map fun v => v.category).sum + (13 * (names.length + 1) + 43) ≤ R.locals) (hRcells : cells + 1 ≤ R.cells) (hRslots : slots + 6 ≤ R.slots) (hlocks : meth.locks = false)
    (hx : ∀ t : State, s.vm.Alike t.vm → H.size ≤ t.heap.size → (∀ q : Nat, q < H.size → t.heap[q]? = H[q]?) → XC cls s t)
    (hf : ∀ z ∈ locs, free z.base) (hc : cells + 1 ≤ mc) (hs : slots + 6 ≤ ms) :
    W p l e R s m args below meth c H locs cells slots (vx_MQ below Qc XC args s mc ms free) (F0 m pc ls rest) := by
  intro T hT X
  have htr : e.platform.stackTraces = false := (show e.platform.stackTraces = l.stackTraces by rw [X.admits.platform]).trans hl
  have Y := vx_rebase X (R' := { frames := R.frames, locals := R.locals, cells := 1, slots := 6 }) (Nat.le_refl _) (Nat.le_refl _) hRcells hRslots
  obtain ⟨s', hA⟩ : ∃ z, z = (T.setVm s.vm).setFrames (.invoking m args :: below) := ⟨_, rfl⟩
  rw [← hA] at Y
  have hvm : s'.vm = s.vm := by rw [hA]; rfl
  have hhp : s'.heap = H := by rw [hA]; exact hT
  have hW0 : s.WarmedH s'.vm := by rw [hvm]; exact State.WarmedH.refl s
  have hat' : ∀ w ∈ vx_atS own ic cls names, w.before args s' = true := fun w hw => vx_ot_at hW0 hvm.symm (hgood w (List.mem_cons_of_mem _ (List.mem_cons_of_mem _ hw))) (hat w hw)
  have hk' : (Cond.classLink own ik cls).before args s' = true := vx_ot_at hW0 hvm.symm (hgood _ List.mem_cons_self) hk
  have hini' : (Cond.initialized cls).before args s' = true := vx_ot_at hW0 hvm.symm (hgood _ (List.mem_cons_of_mem _ List.mem_cons_self)) hini
  have hU' : vx_Zq Bundle.tN "UNASSIGNED_STACK" Bundle.steD A s' s'.heap := by rw [hhp]; exact vx_Zq.moved hW0.alike (hU.kept hS.2.1)
  have hN' : vx_Zq Bundle.tN "SUPPRESSED_SENTINEL" Bundle.listD A s' s'.heap := by rw [hhp]; exact vx_Zq.moved hW0.alike (hN.kept hS.2.1)
  have h : ∀ w ∈ Bundle.ownAtoms own ic cls names, w.before args s' = true := vx_own hat' (vx_isRefq hU'.1) (vx_isRefq hN'.1) hU'.2.word hN'.2.word
  have hown' : s'.vm.findClass own = some m.cls := by rw [hvm]; exact hown
  have hins : (Cond.instantiable cls 6).before args s' = true := h _ (by simp [Bundle.ownAtoms])
  obtain ⟨vm₁, cX, kX, hfX, hkX, -, -, X₁, st1⟩ := Y.newCold hexec (own := own) (C := cls) (index := ik) (n := 6) hown' hk' hins hini'
    (g := F0 m pc ls rest) rfl (by rw [hb]; exact d0) (Nat.le_refl _) (Nat.le_refl _)
  generalize hT1 : (T.setVm vm₁).pushCell { cls := cX, slots := kX.instanceTypes.map defaultValue, vm := .none } = T1 at X₁ st1
  have hcat : (Value.ref T.heap.size).category = 1 := rfl
  have hcellA : T1.heap[T.heap.size]? = some (freshCell cX kX) := by rw [← hT1]; exact State.heap_pushCell_size _ _
  have d3' : decode c.code (pc + 3) = .ok (.dup, 1) := by rw [hb]; exact d3
  have d4' : decode c.code (pc + 4) = .ok (.ldc_w is, 3) := by rw [hb]; exact d4
  have hstr' : vk_R own is text sa s' := vk_R.warm hW0 hstr
  obtain ⟨U, hsteps, hrun, hend, hW, hsame, ce, hce, hO⟩ := X₁.ctorThrowS hexec htr (own := own) (cls := cls) (names := names) (ic := ic) hown' hcls hnames h (fun x hx => nomatch hx) hfX hkX hcellA (by rw [hhp, hT]; exact Nat.le_refl _) (msg := .ref sa) rfl
    (g := { method := m, pc := pc + 7, locals := ls, stack := .ref sa :: .ref T.heap.size :: .ref T.heap.size :: rest, locked := none }) rfl hsize rfl rfl (rest := rest) rfl
    (by rw [hb]; exact d7) (by rw [hb]; exact d10) hout hRframes (by simp only [List.map_cons, List.sum_cons, hcat]; omega) hlocks
  obtain ⟨f1, f2⟩ := vx_frame hsame
  rw [hhp] at f1 f2
  have hWs : s.WarmedH U.vm := State.WarmedH.trans hW0 hW
  have hcl : s.vm.findClass cls = some ce.cls := by
    have h9 := hO.cls
    rw [hvm] at h9
    exact h9
  have hall : s.sameButNew ({ U with vm := s.vm } : State) locs mc ms := by
    subst hA
    obtain ⟨e1, e2⟩ := hsame
    rw [State.setFrames_setFrames] at e1
    have h2 : (T.setVm s.vm).sameButNew ({ U with vm := s.vm } : State) [] (0 + 1) (0 + 6) := ⟨e1, e2⟩
    have h3 := X.same.trans h2
    rw [List.append_nil] at h3
    exact h3.mono hc hs
  refine ⟨U, ?_, .threw T.heap.size, hrun, hend, Or.inr ⟨T.heap.size, rfl, cls, ce, locs, hx U hWs.alike f1 (fun q hq => f2 q hq (fun z hz => nomatch hz)), hce, hO.vm, hcl, hWs, hall, hf⟩⟩
  refine st1 _ ?_
  show Steps p.tables e below (T1.setTop { method := m, pc := pc + 3, locals := ls, stack := .ref T.heap.size :: rest, locked := none }) _
  jvm_step X₁.here [X₁.here.top, hexec, d3', Value.category]
  exact X₁.ldcStringW hexec (own := own) (text := text) (index := is) (a := sa) hown' hstr'.1 hstr'.2
    (g := { method := m, pc := pc + 4, locals := ls, stack := .ref T.heap.size :: .ref T.heap.size :: rest, locked := none }) rfl d4' _ hsteps
end Ends
section Bodies
variable {l : Launch}
theorem vx_ofW {y : MethodName} {ws ws' : List Cond} {rm : Room} {Pc : Array Value → State → Prop} {Qc : Array Value → State → Outcome → State → Prop} {XC : String → State → State → Prop} {mc ms : Nat} {free : Addr → Prop} {cc : ByteArray} {maxL : Nat} {ret : Option FieldType}
    (hy : plainName y.cls = true) (hw : ws = Cond.code y cc maxL ret :: ws')
    (body : ∀ p e s m args below meth c s₁, BodyLoose p l y (headSpec ws rm) cc maxL ret e s m args below meth c s₁ → c.maxLocals = maxL → (∀ x ∈ c.exceptionTable.toList, False) → Pc args s →
      W p l e (headSpec ws rm).room s m args below meth c s.heap [] 0 0 (vx_MQ below Qc XC args s mc ms free) (entryFrame m args maxL)) : vx_Met l y ws rm Pc Qc XC mc ms free := by
  refine MetFree.of_bodyS (code := cc) (maxLocals := maxL) (ret := ret) hy ?_ ?_
  · intro args s m h hn
    obtain ⟨meth, c, h1, h2, h3, h4, h5, h6, -, -⟩ := Cond.code_spec hn (atoms_spec (ws := ws) h _ (by rw [hw]; exact List.mem_cons_self))
    exact ⟨meth, c, h1, h2, h3, h4, h5, h6⟩
  · intro p e s m args below meth c s₁ B hml hP _
    have hh0 : s₁.heap = s.heap := by rw [B.state]; rfl
    have ht : ∀ x ∈ c.exceptionTable.toList, False := by
      obtain ⟨meth9, c9, h1, h2, -, -, -, -, h7, -⟩ := Cond.code_spec B.named (atoms_spec (ws := ws) B.pre _ (by rw [hw]; exact List.mem_cons_self))
      cases Option.some.inj (h1.symm.trans B.method)
      cases Option.some.inj (h2.symm.trans (Stand.of_body B).code)
      intro x hx
      rw [Array.isEmpty_iff.mp h7] at hx
      cases hx
    obtain ⟨t, a1, o, b1, b2, b3⟩ := body p e s m args below meth c s₁ B hml ht hP s₁ hh0 (Stand.of_body B)
    exact ⟨t, o, a1, b1, b2, b3⟩
/-- the table of a body with handlers -/
theorem vx_table {p : Program} {x y : MethodName} {S : Spec} {cc bytes : ByteArray} {maxL maxL' : Nat} {ret ret' : Option FieldType} {e : Env} {s s₁ : State} {m : MethodId} {args : Array Value} {below : List Frame} {meth : Method} {c : Code} {hh : List (Nat × Nat × Nat × Nat)}
    (B : BodyLoose p l y S cc maxL ret e s m args below meth c s₁) (h : (Cond.codeWith y bytes maxL' ret' hh).before args s = true) : c.exceptionTable.toList = tableOf hh := by
  obtain ⟨m9, meth9, c9, hn9, h1, h2, -, -, h6, -⟩ := Cond.codeWith_spec h
  cases Option.some.inj (hn9.symm.trans B.named)
  cases Option.some.inj (h1.symm.trans B.method)
  cases Option.some.inj (h2.symm.trans (Stand.of_body B).code)
  rw [← h6, table_eq]
end Bodies
end VXA
/-! ===== END ===== -/
/-! ===== BEGIN a static call of a method with an exception table ===== -/
section VXS
variable {p : Program} {l : Launch} {e : Env} {R : Room} {s : State} {m : MethodId} {args : Array Value} {below : List Frame} {meth : Method} {c : Code} {T : State} {H : Heap} {locs : List Loc} {cells slots : Nat}
abbrev vx_CSW (R : Room) (s : State) (args : Array Value) (own : String) (index : Nat) (y : MethodName) (bytes : ByteArray) (maxL : Nat) (ret : Option FieldType) (hh : List (Nat × Nat × Nat × Nat)) (ws : List Cond) (rm : Room) (mc ms n : Nat) : Prop :=
  (rm.cells = mc ∧ rm.slots = ms ∧ rm.frames + 1 ≤ R.frames ∧ 8 + (maxL + 11) + rm.locals ≤ R.locals ∧ (∀ w ∈ ws, ∀ (a' : Array Value) (U : State), s.WarmedH U.vm → w.before a' U = true) ∧ Cond.codeWith y bytes maxL ret hh ∈ ws) ∧
  (Cond.codeWith y bytes maxL ret hh).before args s = true ∧ (Cond.initialized y.cls).before args s = true ∧ (y.cls ≠ "java/lang/invoke/MethodHandle" ∧ y.cls ≠ "java/lang/invoke/VarHandle") ∧
  (∀ sig, parseMethodDescriptor y.desc = some sig → n = sig.parameters.length) ∧ (Cond.methodLink own index y).before args s = true ∧ (Cond.static y).before args s = true
theorem vx_cwSW {own : String} {index maxL mc ms : Nat} {y : MethodName} {bytes : ByteArray} {ret : Option FieldType} {hh : List (Nat × Nat × Nat × Nat)} {Ts ws ws' : List Cond} {rm : Room} (n : Nat) (ht : ∀ w ∈ Ts, w.before args s = true) (hT : GoodIn Ts (va_wsS own index y ws)) (hw : ws = Cond.codeWith y bytes maxL ret hh :: ws') (hrc : rm.cells = mc) (hrs : rm.slots = ms)
    (hd : y.cls ≠ "java/lang/invoke/MethodHandle" ∧ y.cls ≠ "java/lang/invoke/VarHandle" ∧ (parseMethodDescriptor y.desc).map (fun d => d.parameters.length) = some n) (hR : rm.frames + 1 ≤ R.frames ∧ 8 + (maxL + 11) + rm.locals ≤ R.locals) :
    vx_CSW R s args own index y bytes maxL ret hh ws rm mc ms n := by
  have ok : ∀ w ∈ va_wsS own index y ws, w.before args s = true := fun w h => ht w (hT w h).1
  have hG : GoodIn Ts ws := fun w h => hT w (by unfold va_wsS; exact List.mem_append_right _ h)
  have hc : Cond.codeWith y bytes maxL ret hh ∈ ws := by rw [hw]; exact List.mem_cons_self
  refine ⟨⟨hrc, hrs, hR.1, hR.2, pay_in ht hG, hc⟩, ht _ (hG _ hc).1, ok _ (by simp [va_wsS]), ⟨hd.1, hd.2.1⟩, fun sig h => ?_, ok _ (by simp [va_wsS]), ok _ (by simp [va_wsS])⟩
  have h2 := hd.2.2
  rw [h] at h2
  exact (Option.some.inj h2).symm
theorem vx_callSW (X : Stand p l e R s m args below meth c T locs cells slots) (hexec : p.tables.exec = Jvm.exec) {own : String} {index : Nat} {y : MethodName} {bytes : ByteArray} {maxL : Nat} {ret : Option FieldType} {hh : List (Nat × Nat × Nat × Nat)}
    (hown : s.vm.findClass own = some m.cls) (hlink : (Cond.methodLink own index y).before args s = true) (hstat : (Cond.static y).before args s = true) (hinit : (Cond.initialized y.cls).before args s = true)
    (hcode : (Cond.codeWith y bytes maxL ret hh).before args s = true) (hy : y.cls ≠ "java/lang/invoke/MethodHandle" ∧ y.cls ≠ "java/lang/invoke/VarHandle")
    {W9 : Nat} {Pre : Pt → Array Value → Prop} {Post : Pt → Array Value → Option Value → Pt → Prop} (hK : Back l R p e below s args y 3 W9 Pre Post)
    {g : JFrame} (hg : g.method = m) (hsize : g.locals.size = c.maxLocals) {argsL rest : List Value} (hlen : ∀ sig, parseMethodDescriptor y.desc = some sig → argsL.length = sig.parameters.length)
    (hstack : g.stack = argsL.reverse ++ rest) (hW : 2 * g.monitorRoom + (rest.map fun v => v.category).sum ≤ W9) (hdg : decode c.code g.pc = .ok (.invokestatic index, 3))
    (hpre : ∀ vm₁, s.WarmedH vm₁ → Pre ⟨T.setVm vm₁, locs, cells, slots⟩ argsL.toArray) :
    ∃ (v : Option Value) (vm₁ : Vm) (B : Pt), s.WarmedH vm₁ ∧ Stand p l e R s m args below meth c B.U B.locs B.cells B.slots ∧ Post ⟨T.setVm vm₁, locs, cells, slots⟩ argsL.toArray v B ∧
      ∀ target, Steps p.tables e below (B.U.setTop { g with pc := g.pc + 3, stack := v.toList ++ rest }) target → Steps p.tables e below (T.setTop g) target := by
  obtain ⟨mk, methM, cM, hnamed, hmethM, -, -, -, -, -, -, hsigM⟩ := Cond.codeWith_spec hcode
  have hstatic : methM.isStatic = true := Cond.static_spec hnamed hmethM hstat
  obtain ⟨kP, hkP, -⟩ := className_of_methodNamed hnamed
  have hinitP : kP.init = .initialized := Cond.initialized_spec (findClass_of_methodNamed hnamed) hkP hinit
  obtain ⟨vm₁, X₁, hstep₁⟩ := X.invokestatic hexec hown hlink hnamed hmethM hstatic hkP hinitP hy (g := g) hg (argsL := argsL) (rest := rest) (hlen _ hsigM) hstack hdg
  obtain ⟨v, B, X', hpost, hsteps⟩ := hK m meth c ⟨T.setVm vm₁, locs, cells, slots⟩ { g with stack := rest } (.invokestatic index) mk argsL.toArray X₁ hg hsize hdg hW (X₁.named hnamed) (hpre vm₁ X₁.warmed)
  exact ⟨v, vm₁, B, X₁.warmed, X', hpost, fun target h => hstep₁ _ fun acts => by rw [doInvoke_state]; exact hsteps.trans h⟩
theorem vx_runSW {y : MethodName} {bytes cc : ByteArray} {maxL nL mc ms n index : Nat} {ret : Option FieldType} {hh : List (Nat × Nat × Nat × Nat)} {ws : List Cond} {rm : Room} {Pc : Array Value → State → Prop} {Qc : Array Value → State → Outcome → State → Prop} {free : Addr → Prop} {Ts : List Cond} {own : String} {As rest : List Value} {g : JFrame}
    (S : CallFix p m c cc nL s args Ts own) (hM : Met l y ws rm Pc Qc mc ms free) (cw : vx_CSW R s args own index y bytes maxL ret hh ws rm mc ms n) (hp : PreS s H Pc As)
    (hg : g.method = m) (hn : As.length = n) (hsize : g.locals.size = nL) (hstack : g.stack = As.reverse ++ rest) (hW : 2 * g.monitorRoom + (rest.map fun v => v.category).sum ≤ 8) (hdg : decode cc g.pc = .ok (.invokestatic index, 3)) (hf : cells + mc ≤ R.cells ∧ slots + ms ≤ R.slots) :
    va_Run p l e R s m args below meth c H locs cells slots mc ms g rest (Qc As.toArray) (free) := by
  obtain ⟨⟨hrc, hrs, hfr, hlo, hws, hcw⟩, hcode, hini, hy, hlen, hl, hstt⟩ := cw
  have hK : Back l R p e below s args y 3 8 (PreOf R mc ms Pc) (PostOf Qc mc ms free) := va_backW (hh := hh) (bytes := bytes) (maxL := maxL) (ret := ret) hM hp.1 hrc hrs hfr hlo hws hcw (fun a' U hW => word_at hW (Or.inl (by first | rfl | simp [Cond.onTables, Cond.keeps, Cond.steady])) hini)
  obtain ⟨hx, hb, hml, ho, -⟩ := S
  intro T hT X
  obtain ⟨v, vm₁, ⟨U', l2, c2, s2⟩, hW₁, X', ⟨g', mk, t, L, e1, e2, hq, h1, hL, h2, h3⟩, st⟩ := vx_callSW X hx (hh := hh) (bytes := bytes) (maxL := maxL) (ret := ret) ho hl hstt hini hcode hy hK hg (hsize.trans hml.symm) (argsL := As) (rest := rest) (fun sig h => hn.trans (hlen sig h)) hstack hW (by rw [hb]; exact hdg)
    (fun vm₁ hW₁ => ⟨hf.1, hf.2, hp.2 (T.setVm vm₁) hT hW₁⟩)
  dsimp only [Pt.U, Pt.locs, Pt.cells, Pt.slots] at X' e1 e2 h1 h2 h3 st
  subst h1; subst h2; subst h3
  exact ⟨v, (T.setVm vm₁).calling g' mk As.toArray, t, U', L, hT, X', hL, e1, e2, hq, st⟩
/-- not caught here, past rows that name other classes: it goes on to the caller -/
theorem vx_outP {p : Program} {l : Launch} {e : Env} {R : Room} {s : State} {m : MethodId} {args : Array Value} {below : List Frame} {meth : Method} {c : Code} {H : Heap} {locs : List Loc} {cells slots : Nat} {free : Addr → Prop} {ls : Array Slot} {rest : List Value} {Qc : Array Value → State → Outcome → State → Prop} {XC : String → State → State → Prop}
    {pc : Nat} {own E : String} {ce : Cell} {q : Addr} {mc ms : Nat} (hown : s.vm.findClass own = some m.cls) (hlocks : meth.locks = false)
    (hpass : ∀ z ∈ c.exceptionTable.toList, covers z pc = false ∨ (z.catchType ≠ 0 ∧ ∃ nm : String, (Cond.classLink own z.catchType nm).before args s = true ∧ va_Nc E nm s)) (hcell : H[q]? = some ce) (hv : ce.vm = .none) (hcl : s.vm.findClass E = some ce.cls)
    (hx : ∀ t : State, t.heap = H → s.vm.Alike t.vm → XC E s t) (hf : ∀ z ∈ locs, free z.base) (hc : cells ≤ mc) (hs : slots ≤ ms) :
    vx_W p l e R s m args below meth c H locs cells slots (vx_MQ below Qc XC args s mc ms free) (F0 m pc ls rest) q := by
  intro T hT X
  have hpl : e.platform.magicAccessors = ({} : Platform).magicAccessors := by rw [X.admits.platform]
  obtain ⟨vm', hW', X', st⟩ := X.outThrough hlocks q (g := F0 m pc ls rest) rfl rfl rfl (cell := ce) (by rw [hT]; exact hcell) (by rw [hv]; rfl)
    (by obtain ⟨k9, h9, -⟩ := Vm.findClass_spec hcl; exact ⟨k9, h9⟩) (fun z hz => by
      rcases hpass z hz with h | ⟨hz0, nm, hl1, hn1⟩
      · exact Or.inl h
      · obtain ⟨c6, hc6, hcl6⟩ := Cond.classLink_spec hown hl1 e.platform hpl
        obtain ⟨a8, b8, h1, h2, h3⟩ := hn1
        cases Option.some.inj (h1.symm.trans hcl)
        cases Option.some.inj (h2.symm.trans hc6)
        exact Or.inr ⟨hz0, _, hcl6, h3⟩)
  obtain ⟨g₀, hfr⟩ := X'.frames_eq
  have hcell9 : ((T.setVm vm').setFrames (.throwing q :: below)).heap[q]? = some ce := by
    show T.heap[q]? = some ce
    rw [hT]; exact hcell
  have hend : Ended ((T.setVm vm').setFrames (.throwing q :: below)) below (.threw q) := State.frames_setFrames _ (State.cur_lt_of_frames hfr)
  refine ⟨(T.setVm vm').setFrames (.throwing q :: below), ?_, .threw q, X'.here.running, hend, Or.inr ⟨q, rfl, E, ce, locs, hx _ hT (X'.ends _).1.alike, hcell9, hv, hcl, (X'.ends _).1, (X'.ends _).2.mono hc hs, hf⟩⟩
  rw [X.pushThrowing_eq]
  exact st
/-- a thing of a world lies in the heap -/
theorem vx_lt {D : va_G} {cl : List vw_C} {ws : va_W} {H1 : Heap} (h : va_P D cl ws H1) {k : Nat} {q : Nat × va_E} (hk : ws[k]? = some q) : q.1 < H1.size := (h k q hk).lt
end VXS
/-! ===== END ===== -/
/-! ===== BEGIN methods with a table of their own: called by a name, returning or throwing ===== -/
section VXH
/-! vx_backW, vx_callVX, vx_callSX, vx_callVW, vx_runVW, vx_runVX, vx_runSX, vx_ofWH follow the same proofs as their sisters above (Free/Laws.lean, Shelf42/LK1.lean); vx_outP calls Shelf42/NT130.lean (outThrough). -/
section
variable {l : Launch} {R : Room} {p : Program} {e : Env} {below : List Frame} {s : State} {sargs : Array Value} {y : MethodName} {len W9 : Nat}
theorem vx_backW {ws : List Cond} {rm : Room} {Pc : Array Value → State → Prop} {Qc : Array Value → State → Outcome → State → Prop} {XC : String → State → State → Prop} {mc ms : Nat} {free : Addr → Prop} {bytes : ByteArray} {maxL : Nat} {ret : Option FieldType} {hh : List (Nat × Nat × Nat × Nat)}
    (hM : vx_Met l y ws rm Pc Qc XC mc ms free) (hblind : FrameBlind Pc) (hrc : rm.cells = mc) (hrs : rm.slots = ms)
    (hframes : rm.frames + 1 ≤ R.frames) (hlocals : W9 + (maxL + 11) + rm.locals ≤ R.locals)
    (hws : ∀ w ∈ ws, ∀ a' U, s.WarmedH U.vm → w.before a' U = true) (hcode : Cond.codeWith y bytes maxL ret hh ∈ ws) (hinit : ∀ a' U, s.WarmedH U.vm → (Cond.initialized y.cls).before a' U = true) :
    vx_Back l R p e below s sargs y len W9 (PreOf R mc ms Pc) (PostOf Qc mc ms free) (vx_Post XC mc ms free) := by
  intro m meth c A g ig mk a X hg hsize hdg hW hn hp
  have h1 : (headSpec ws rm).pre.before a A.U = true := atoms_intro fun w hw => hws w hw _ _ X.warmed
  have h2 : (Cond.codeWith y bytes maxL ret hh).before a A.U = true := hws _ hcode _ _ X.warmed
  have h3 : (Cond.initialized y.cls).before a A.U = true := hinit _ _ X.warmed
  have h4 : A.cells + (headSpec ws rm).room.cells ≤ R.cells := by rw [show (headSpec ws rm).room.cells = mc from hrc]; exact hp.1
  have h5 : A.slots + (headSpec ws rm).room.slots ≤ R.slots := by rw [show (headSpec ws rm).room.slots = ms from hrs]; exact hp.2.1
  have hPc : Pc a (A.U.calling g mk a) := hblind _ _ _ _ hp.2.2
  obtain ⟨U, Ls, c0, s0⟩ := A
  dsimp only [Pt.U, Pt.locs, Pt.cells, Pt.slots] at h1 h2 h3 h4 h5 X hn hPc ⊢
  obtain ⟨m9, methY, cY, hn9, hmY, hcY, -, hlY, -⟩ := Cond.codeWith_spec h2
  cases Option.some.inj (hn9.symm.trans hn)
  obtain ⟨kY, hkY, -⟩ := className_of_methodNamed hn
  have hinitY : kY.init = .initialized := Cond.initialized_spec (findClass_of_methodNamed hn) hkY h3
  have h : At U g.method c below := by rw [hg]; exact X.here
  have hlocals9 : W9 + (maxL + 11) + (headSpec ws rm).room.locals ≤ R.locals := hlocals
  have happ : (headSpec ws rm).appliesLoose y e.platform (U.calling g mk a) = true :=
    Spec.appliesLoose_calling (g := g) h hdg hn hkY hinitY
      (X.room_calling (g := g) (R' := (headSpec ws rm).room) hsize hmY hcY hframes (by rw [hlY]; omega) h4 h5) h1
  obtain ⟨mid, hmid⟩ := h.above
  have hfr : (U.setTop g).frames = (.java g :: mid) ++ below := by rw [State.frames_setTop' g h.top, hmid]; rfl
  obtain ⟨o, s₂, hsteps, -, hend, hq⟩ := Steps.callFree hM p X.admits X.cas X.clock (acts := []) hfr happ hPc trivial
  have hq' : vx_Q Qc XC mc ms free a (U.calling g mk a) o s₂ := hq
  rw [State.frames_setTop' g h.top] at hend
  obtain ⟨g₀, hg0⟩ := Option.isSome_iff_exists.mp h.top
  obtain ⟨r, hr⟩ := State.topJava?_eq_some.mp hg0
  have hr' : (({ U with heap := s₂.heap, slotsUsed := s₂.slotsUsed } : State).setVm s₂.vm).frames = .java g₀ :: r := hr
  rcases hq' with ⟨hqc, L, hfe, hL⟩ | ⟨q, rfl, E, ce, L, hx, hce, hcv, hcl, hW₂, hsm, hL⟩
  · obtain ⟨⟨v, rfl⟩, hW₂, e2, q2, q3, q4, q5, q6⟩ := id hfe
    have e3 : s₂ = ({ (U.calling g mk a).setFrames s₂.frames with heap := s₂.heap, slotsUsed := s₂.slotsUsed } : State).setVm s₂.vm := by
      have : s₂ = ({ s₂ with vm := (U.calling g mk a).vm } : State).setVm s₂.vm := rfl
      rw [e2] at this
      exact this
    obtain ⟨c₂, i₂, len₂, hc₂, hd₂, hf₂⟩ := hend
    have hW' : U.WarmedH s₂.vm := hW₂
    have hcc : c₂ = c := by
      have h1 : s₂.code? g.method = U.code? g.method := by
        rw [State.code?_eq, State.code?_eq, hW'.alike.method?]
      exact Option.some.inj (hc₂.symm.trans (h1.trans h.code))
    subst hcc
    have hlen : len₂ = len := by rw [hdg] at hd₂; cases hd₂; rfl
    subst hlen
    have hs₂ : s₂ = (({ U with heap := s₂.heap, slotsUsed := s₂.slotsUsed } : State).setVm s₂.vm).setTop { g with pc := g.pc + len₂, stack := v.toList ++ g.stack } := by
      refine e3.trans ?_
      rw [hf₂, State.calling_eq h.top, State.setFrames_setFrames, State.setTop_of_frames _ hr', hr]
      rfl
    have hsame : U.sameButNew ({ U with heap := s₂.heap, slotsUsed := s₂.slotsUsed } : State) L mc ms := by
      refine ⟨?_, q2, q3, q4, q5, q6⟩
      obtain ⟨t, ht, -⟩ := State.frames_cons hr
      show ({ U with heap := s₂.heap, slotsUsed := s₂.slotsUsed } : State) = { U.setFrames U.frames with heap := s₂.heap, slotsUsed := s₂.slotsUsed }
      rw [State.setFrames_self ht]
    subst hg
    refine Or.inl ⟨v, ⟨(({ U with heap := s₂.heap, slotsUsed := s₂.slotsUsed } : State).setVm s₂.vm), Ls ++ L, c0 + mc, s0 + ms⟩,
      ⟨X.admits, X.cas, X.clock, X.frames, X.room, X.hears, X.method, X.code, (X.here.setHeapUsed s₂.heap s₂.slotsUsed).setVm hW'.alike, X.tail, State.WarmedH.trans X.warmed hW', X.limits, X.bytes, X.same.trans (hsame.setVm s.vm)⟩,
      ⟨g, mk, s₂, L, rfl, rfl, hqc, rfl, hL, rfl, rfl⟩, ?_⟩
    show Steps p.tables e below _ ((({ U with heap := s₂.heap, slotsUsed := s₂.slotsUsed } : State).setVm s₂.vm).setTop { g with pc := g.pc + len₂, stack := v.toList ++ g.stack })
    rw [← hs₂]
    exact hsteps
  · obtain ⟨e2, q2, q3, q4, q5, q6⟩ := id hsm
    have e3 : s₂ = ({ (U.calling g mk a).setFrames s₂.frames with heap := s₂.heap, slotsUsed := s₂.slotsUsed } : State).setVm s₂.vm := by
      have : s₂ = ({ s₂ with vm := (U.calling g mk a).vm } : State).setVm s₂.vm := rfl
      rw [e2] at this
      exact this
    have hf₂ : s₂.frames = .throwing q :: .java g :: U.frames.tail := hend
    have hW' : U.WarmedH s₂.vm := hW₂
    have hs₂ : s₂ = ((({ U with heap := s₂.heap, slotsUsed := s₂.slotsUsed } : State).setVm s₂.vm).setTop g).pushFrame (.throwing q) := by
      refine e3.trans ?_
      rw [hf₂, State.calling_eq h.top, State.setFrames_setFrames, State.pushFrame, State.frames_setTop _ hr', State.setTop_of_frames _ hr', State.setFrames_setFrames, hr]
      rfl
    have hsame : U.sameButNew ({ U with heap := s₂.heap, slotsUsed := s₂.slotsUsed } : State) L mc ms := by
      refine ⟨?_, q2, q3, q4, q5, q6⟩
      obtain ⟨t, ht, -⟩ := State.frames_cons hr
      show ({ U with heap := s₂.heap, slotsUsed := s₂.slotsUsed } : State) = { U.setFrames U.frames with heap := s₂.heap, slotsUsed := s₂.slotsUsed }
      rw [State.setFrames_self ht]
    subst hg
    refine Or.inr ⟨q, ⟨(({ U with heap := s₂.heap, slotsUsed := s₂.slotsUsed } : State).setVm s₂.vm), Ls ++ L, c0 + mc, s0 + ms⟩,
      ⟨X.admits, X.cas, X.clock, X.frames, X.room, X.hears, X.method, X.code, (X.here.setHeapUsed s₂.heap s₂.slotsUsed).setVm hW'.alike, X.tail, State.WarmedH.trans X.warmed hW', X.limits, X.bytes, X.same.trans (hsame.setVm s.vm)⟩,
      ⟨g, mk, s₂, L, E, ce, rfl, rfl, hx, hce, hcv, hcl, rfl, hL, rfl, rfl⟩, ?_⟩
    show Steps p.tables e below _ (((({ U with heap := s₂.heap, slotsUsed := s₂.slotsUsed } : State).setVm s₂.vm).setTop g).pushFrame (.throwing q))
    rw [← hs₂]
    exact hsteps
end
variable {p : Program} {l : Launch} {e : Env} {R : Room} {s : State} {m : MethodId} {args : Array Value} {below : List Frame} {meth : Method} {c : Code} {T : State} {H : Heap} {locs : List Loc} {cells slots : Nat}
theorem vx_callVX (X : Stand p l e R s m args below meth c T locs cells slots) (hexec : p.tables.exec = Jvm.exec) {own C : String} {index : Nat} {y : MethodName} {bytes : ByteArray} {maxL : Nat} {ret : Option FieldType} {hh : List (Nat × Nat × Nat × Nat)}
    (hown : s.vm.findClass own = some m.cls) (hlink : (Cond.methodLink own index y).before args s = true) (hinst : (Cond.instanceMethod y).before args s = true) (hsel : (Cond.selects C y y).before args s = true)
    (hcode : (Cond.codeWith y bytes maxL ret hh).before args s = true) (hy : y.cls ≠ "java/lang/invoke/MethodHandle" ∧ y.cls ≠ "java/lang/invoke/VarHandle")
    {W9 : Nat} {Pre : Pt → Array Value → Prop} {Post : Pt → Array Value → Option Value → Pt → Prop} {PostX : Pt → Array Value → Addr → Pt → Prop} (hK : vx_Back l R p e below s args y 3 W9 Pre Post PostX)
    {b : Addr} {cellB : Cell} (hcell : T.heap[b]? = some cellB) (hobj : cellB.vm.isStatics = false) (hcls : s.vm.findClass C = some cellB.cls)
    {g : JFrame} (hg : g.method = m) (hsize : g.locals.size = c.maxLocals) {argsL rest : List Value} (hlen : ∀ sig, parseMethodDescriptor y.desc = some sig → argsL.length = sig.parameters.length)
    (hstack : g.stack = argsL.reverse ++ .ref b :: rest) (hW : 2 * g.monitorRoom + (rest.map fun v => v.category).sum ≤ W9) (hdg : decode c.code g.pc = .ok (.invokevirtual index, 3))
    (hpre : ∀ vm₁, s.WarmedH vm₁ → Pre ⟨T.setVm vm₁, locs, cells, slots⟩ (Value.ref b :: argsL).toArray) :
    (∃ (v : Option Value) (vm₁ : Vm) (B : Pt), s.WarmedH vm₁ ∧ Stand p l e R s m args below meth c B.U B.locs B.cells B.slots ∧ Post ⟨T.setVm vm₁, locs, cells, slots⟩ (Value.ref b :: argsL).toArray v B ∧
      ∀ target, Steps p.tables e below (B.U.setTop { g with pc := g.pc + 3, stack := v.toList ++ rest }) target → Steps p.tables e below (T.setTop g) target) ∨
    (∃ (q : Addr) (vm₁ : Vm) (B : Pt), s.WarmedH vm₁ ∧ Stand p l e R s m args below meth c B.U B.locs B.cells B.slots ∧ PostX ⟨T.setVm vm₁, locs, cells, slots⟩ (Value.ref b :: argsL).toArray q B ∧
      Steps p.tables e below (T.setTop g) ((B.U.setTop { g with stack := rest }).pushFrame (.throwing q))) := by
  obtain ⟨mk, methM, hnamed, hmethM, hstM, habM⟩ := Cond.instanceMethod_spec hinst
  obtain ⟨m8, methM', cM, hn8, hmethM', -, -, -, -, -, -, hsigM⟩ := Cond.codeWith_spec hcode
  cases Option.some.inj (hn8.symm.trans hnamed)
  cases hmethM.symm.trans hmethM'
  obtain ⟨c2, r2, m2, q1, q2, q3, q4, kP, hkP, hkPi⟩ := Cond.selects_spec hsel
  cases hcls.symm.trans q1
  cases (State.methodFound?_of_named hnamed hy).symm.trans q2
  cases hnamed.symm.trans q3
  have hselP : selectMethod e.platform s.vm cellB.cls mk = .method mk := by rw [Launch.admits_selectMethod X.admits]; exact q4
  obtain ⟨vm₁, X₁, hstep₁⟩ := X.invokevirtual hexec hown hlink hnamed hmethM hstM hkP hkPi hy (a := b) (cell := cellB) hcell
    (fun z h => by rw [h] at hobj; cases hobj) hselP hmethM habM hkP hkPi (g := g) hg (argsL := argsL) (rest := rest) (hlen _ hsigM) hstack hdg
  rcases hK m meth c ⟨T.setVm vm₁, locs, cells, slots⟩ { g with stack := rest } (.invokevirtual index) mk (Value.ref b :: argsL).toArray X₁ hg hsize hdg hW (X₁.named hnamed) (hpre vm₁ X₁.warmed) with ⟨v, B, X', hpost, hsteps⟩ | ⟨q, B, X', hpost, hsteps⟩
  · exact Or.inl ⟨v, vm₁, B, X₁.warmed, X', hpost, fun target h => hstep₁ _ fun acts => by rw [doInvoke_state]; exact hsteps.trans h⟩
  · exact Or.inr ⟨q, vm₁, B, X₁.warmed, X', hpost, hstep₁ _ fun acts => by rw [doInvoke_state]; exact hsteps⟩
theorem vx_callSX (X : Stand p l e R s m args below meth c T locs cells slots) (hexec : p.tables.exec = Jvm.exec) {own : String} {index : Nat} {y : MethodName} {bytes : ByteArray} {maxL : Nat} {ret : Option FieldType} {hh : List (Nat × Nat × Nat × Nat)}
    (hown : s.vm.findClass own = some m.cls) (hlink : (Cond.methodLink own index y).before args s = true) (hstat : (Cond.static y).before args s = true) (hinit : (Cond.initialized y.cls).before args s = true)
    (hcode : (Cond.codeWith y bytes maxL ret hh).before args s = true) (hy : y.cls ≠ "java/lang/invoke/MethodHandle" ∧ y.cls ≠ "java/lang/invoke/VarHandle")
    {W9 : Nat} {Pre : Pt → Array Value → Prop} {Post : Pt → Array Value → Option Value → Pt → Prop} {PostX : Pt → Array Value → Addr → Pt → Prop} (hK : vx_Back l R p e below s args y 3 W9 Pre Post PostX)
    {g : JFrame} (hg : g.method = m) (hsize : g.locals.size = c.maxLocals) {argsL rest : List Value} (hlen : ∀ sig, parseMethodDescriptor y.desc = some sig → argsL.length = sig.parameters.length)
    (hstack : g.stack = argsL.reverse ++ rest) (hW : 2 * g.monitorRoom + (rest.map fun v => v.category).sum ≤ W9) (hdg : decode c.code g.pc = .ok (.invokestatic index, 3))
    (hpre : ∀ vm₁, s.WarmedH vm₁ → Pre ⟨T.setVm vm₁, locs, cells, slots⟩ argsL.toArray) :
    (∃ (v : Option Value) (vm₁ : Vm) (B : Pt), s.WarmedH vm₁ ∧ Stand p l e R s m args below meth c B.U B.locs B.cells B.slots ∧ Post ⟨T.setVm vm₁, locs, cells, slots⟩ argsL.toArray v B ∧
      ∀ target, Steps p.tables e below (B.U.setTop { g with pc := g.pc + 3, stack := v.toList ++ rest }) target → Steps p.tables e below (T.setTop g) target) ∨
    (∃ (q : Addr) (vm₁ : Vm) (B : Pt), s.WarmedH vm₁ ∧ Stand p l e R s m args below meth c B.U B.locs B.cells B.slots ∧ PostX ⟨T.setVm vm₁, locs, cells, slots⟩ argsL.toArray q B ∧
      Steps p.tables e below (T.setTop g) ((B.U.setTop { g with stack := rest }).pushFrame (.throwing q))) := by
  obtain ⟨mk, methM, cM, hnamed, hmethM, -, -, -, -, -, -, hsigM⟩ := Cond.codeWith_spec hcode
  have hstatic : methM.isStatic = true := Cond.static_spec hnamed hmethM hstat
  obtain ⟨kP, hkP, -⟩ := className_of_methodNamed hnamed
  have hinitP : kP.init = .initialized := Cond.initialized_spec (findClass_of_methodNamed hnamed) hkP hinit
  obtain ⟨vm₁, X₁, hstep₁⟩ := X.invokestatic hexec hown hlink hnamed hmethM hstatic hkP hinitP hy (g := g) hg (argsL := argsL) (rest := rest) (hlen _ hsigM) hstack hdg
  rcases hK m meth c ⟨T.setVm vm₁, locs, cells, slots⟩ { g with stack := rest } (.invokestatic index) mk argsL.toArray X₁ hg hsize hdg hW (X₁.named hnamed) (hpre vm₁ X₁.warmed) with ⟨v, B, X', hpost, hsteps⟩ | ⟨q, B, X', hpost, hsteps⟩
  · exact Or.inl ⟨v, vm₁, B, X₁.warmed, X', hpost, fun target h => hstep₁ _ fun acts => by rw [doInvoke_state]; exact hsteps.trans h⟩
  · exact Or.inr ⟨q, vm₁, B, X₁.warmed, X', hpost, hstep₁ _ fun acts => by rw [doInvoke_state]; exact hsteps⟩
theorem vx_callVW (X : Stand p l e R s m args below meth c T locs cells slots) (hexec : p.tables.exec = Jvm.exec) {own C : String} {index : Nat} {y : MethodName} {bytes : ByteArray} {maxL : Nat} {ret : Option FieldType} {hh : List (Nat × Nat × Nat × Nat)}
    (hown : s.vm.findClass own = some m.cls) (hlink : (Cond.methodLink own index y).before args s = true) (hinst : (Cond.instanceMethod y).before args s = true) (hsel : (Cond.selects C y y).before args s = true)
    (hcode : (Cond.codeWith y bytes maxL ret hh).before args s = true) (hy : y.cls ≠ "java/lang/invoke/MethodHandle" ∧ y.cls ≠ "java/lang/invoke/VarHandle")
    {W9 : Nat} {Pre : Pt → Array Value → Prop} {Post : Pt → Array Value → Option Value → Pt → Prop} (hK : Back l R p e below s args y 3 W9 Pre Post)
    {b : Addr} {cellB : Cell} (hcell : T.heap[b]? = some cellB) (hobj : cellB.vm.isStatics = false) (hcls : s.vm.findClass C = some cellB.cls)
    {g : JFrame} (hg : g.method = m) (hsize : g.locals.size = c.maxLocals) {argsL rest : List Value} (hlen : ∀ sig, parseMethodDescriptor y.desc = some sig → argsL.length = sig.parameters.length)
    (hstack : g.stack = argsL.reverse ++ .ref b :: rest) (hW : 2 * g.monitorRoom + (rest.map fun v => v.category).sum ≤ W9) (hdg : decode c.code g.pc = .ok (.invokevirtual index, 3))
    (hpre : ∀ vm₁, s.WarmedH vm₁ → Pre ⟨T.setVm vm₁, locs, cells, slots⟩ (Value.ref b :: argsL).toArray) :
    ∃ (v : Option Value) (vm₁ : Vm) (B : Pt), s.WarmedH vm₁ ∧ Stand p l e R s m args below meth c B.U B.locs B.cells B.slots ∧ Post ⟨T.setVm vm₁, locs, cells, slots⟩ (Value.ref b :: argsL).toArray v B ∧
      ∀ target, Steps p.tables e below (B.U.setTop { g with pc := g.pc + 3, stack := v.toList ++ rest }) target → Steps p.tables e below (T.setTop g) target := by
  obtain ⟨mk, methM, hnamed, hmethM, hstM, habM⟩ := Cond.instanceMethod_spec hinst
  obtain ⟨m8, methM', cM, hn8, hmethM', -, -, -, -, -, -, hsigM⟩ := Cond.codeWith_spec hcode
  cases Option.some.inj (hn8.symm.trans hnamed)
  cases hmethM.symm.trans hmethM'
  obtain ⟨c2, r2, m2, q1, q2, q3, q4, kP, hkP, hkPi⟩ := Cond.selects_spec hsel
  cases hcls.symm.trans q1
  cases (State.methodFound?_of_named hnamed hy).symm.trans q2
  cases hnamed.symm.trans q3
  have hselP : selectMethod e.platform s.vm cellB.cls mk = .method mk := by rw [Launch.admits_selectMethod X.admits]; exact q4
  obtain ⟨vm₁, X₁, hstep₁⟩ := X.invokevirtual hexec hown hlink hnamed hmethM hstM hkP hkPi hy (a := b) (cell := cellB) hcell
    (fun z h => by rw [h] at hobj; cases hobj) hselP hmethM habM hkP hkPi (g := g) hg (argsL := argsL) (rest := rest) (hlen _ hsigM) hstack hdg
  obtain ⟨v, B, X', hpost, hsteps⟩ := hK m meth c ⟨T.setVm vm₁, locs, cells, slots⟩ { g with stack := rest } (.invokevirtual index) mk (Value.ref b :: argsL).toArray X₁ hg hsize hdg hW (X₁.named hnamed) (hpre vm₁ X₁.warmed)
  exact ⟨v, vm₁, B, X₁.warmed, X', hpost, fun target h => hstep₁ _ fun acts => by rw [doInvoke_state]; exact hsteps.trans h⟩
abbrev vx_CVW (R : Room) (s : State) (args : Array Value) (own C : String) (index : Nat) (y : MethodName) (bytes : ByteArray) (maxL : Nat) (ret : Option FieldType) (hh : List (Nat × Nat × Nat × Nat)) (ws : List Cond) (rm : Room) (mc ms n : Nat) : Prop :=
  (rm.cells = mc ∧ rm.slots = ms ∧ rm.frames + 1 ≤ R.frames ∧ 8 + (maxL + 11) + rm.locals ≤ R.locals ∧ (∀ w ∈ ws, ∀ (a' : Array Value) (U : State), s.WarmedH U.vm → w.before a' U = true) ∧ Cond.codeWith y bytes maxL ret hh ∈ ws) ∧
  (Cond.codeWith y bytes maxL ret hh).before args s = true ∧ (Cond.initialized y.cls).before args s = true ∧ (y.cls ≠ "java/lang/invoke/MethodHandle" ∧ y.cls ≠ "java/lang/invoke/VarHandle") ∧
  (∀ sig, parseMethodDescriptor y.desc = some sig → n = sig.parameters.length) ∧ (Cond.methodLink own index y).before args s = true ∧ (Cond.instanceMethod y).before args s = true ∧ (Cond.selects C y y).before args s = true
theorem vx_cwVW {own C : String} {index maxL mc ms : Nat} {y : MethodName} {bytes : ByteArray} {ret : Option FieldType} {hh : List (Nat × Nat × Nat × Nat)} {Ts ws ws' : List Cond} {rm : Room} (n : Nat) (ht : ∀ w ∈ Ts, w.before args s = true) (hT : GoodIn Ts (wsV own index C y ws)) (hw : ws = Cond.codeWith y bytes maxL ret hh :: ws') (hrc : rm.cells = mc) (hrs : rm.slots = ms)
    (hd : y.cls = C ∧ y.cls ≠ "java/lang/invoke/MethodHandle" ∧ y.cls ≠ "java/lang/invoke/VarHandle" ∧ (parseMethodDescriptor y.desc).map (fun d => d.parameters.length) = some n) (hR : rm.frames + 1 ≤ R.frames ∧ 8 + (maxL + 11) + rm.locals ≤ R.locals) :
    vx_CVW R s args own C index y bytes maxL ret hh ws rm mc ms n := by
  obtain ⟨hC, hd⟩ := hd
  subst hC
  have ok : ∀ w ∈ wsV own index y.cls y ws, w.before args s = true := fun w h => ht w (hT w h).1
  have hG : GoodIn Ts ws := fun w h => hT w (by unfold wsV; exact List.mem_append_right _ h)
  have hc : Cond.codeWith y bytes maxL ret hh ∈ ws := by rw [hw]; exact List.mem_cons_self
  refine ⟨⟨hrc, hrs, hR.1, hR.2, pay_in ht hG, hc⟩, ht _ (hG _ hc).1, ok _ (by simp [wsV]), ⟨hd.1, hd.2.1⟩, fun sig h => ?_, ok _ (by simp [wsV]), ok _ (by simp [wsV]), ok _ (by simp [wsV])⟩
  have h2 := hd.2.2
  rw [h] at h2
  exact (Option.some.inj h2).symm
theorem vx_runVW {y : MethodName} {bytes cc : ByteArray} {maxL nL mc ms n index : Nat} {ret : Option FieldType} {hh : List (Nat × Nat × Nat × Nat)} {ws : List Cond} {rm : Room} {Pc : Array Value → State → Prop} {Qc : Array Value → State → Outcome → State → Prop} {free : Addr → Prop} {Ts : List Cond} {own C : String} {b : Addr} {As rest : List Value} {g : JFrame}
    (S : CallFix p m c cc nL s args Ts own) (hM : Met l y ws rm Pc Qc mc ms free) (cw : vx_CVW R s args own C index y bytes maxL ret hh ws rm mc ms n) (hp : PreV s H C b Pc As)
    (hg : g.method = m) (hn : As.length = n) (hsize : g.locals.size = nL) (hstack : g.stack = As.reverse ++ .ref b :: rest) (hW : 2 * g.monitorRoom + (rest.map fun v => v.category).sum ≤ 8) (hdg : decode cc g.pc = .ok (.invokevirtual index, 3)) (hf : cells + mc ≤ R.cells ∧ slots + ms ≤ R.slots) :
    va_Run p l e R s m args below meth c H locs cells slots mc ms g rest (Qc (Value.ref b :: As).toArray) free := by
  obtain ⟨⟨hrc, hrs, hfr, hlo, hws, hcw⟩, hcode, hini, hy, hlen, hl, hin, hse⟩ := cw
  have hK : Back l R p e below s args y 3 8 (PreOf R mc ms Pc) (PostOf Qc mc ms free) := va_backW (hh := hh) (bytes := bytes) (maxL := maxL) (ret := ret) hM hp.1 hrc hrs hfr hlo hws hcw (fun a' U hW => word_at hW (Or.inl (by first | rfl | simp [Cond.onTables, Cond.keeps, Cond.steady])) hini)
  obtain ⟨hx, hb, hml, ho, -⟩ := S
  obtain ⟨-, ⟨cellB, hcB, hoB, hclB⟩, hPc⟩ := hp
  intro T hT X
  obtain ⟨v, vm₁, ⟨U', l2, c2, s2⟩, hW₁, X', ⟨g', mk, t, L, e1, e2, hq, h1, hL, h2, h3⟩, st⟩ := vx_callVW X hx (C := C) (hh := hh) (bytes := bytes) (maxL := maxL) (ret := ret) ho hl hin hse hcode hy hK (by rw [hT]; exact hcB) hoB hclB hg (hsize.trans hml.symm) (argsL := As) (rest := rest) (fun sig h => hn.trans (hlen sig h)) hstack hW (by rw [hb]; exact hdg)
    (fun vm₁ hW₁ => ⟨hf.1, hf.2, hPc (T.setVm vm₁) hT hW₁⟩)
  dsimp only [Pt.U, Pt.locs, Pt.cells, Pt.slots] at X' e1 e2 h1 h2 h3 st
  subst h1; subst h2; subst h3
  exact ⟨v, (T.setVm vm₁).calling g' mk (Value.ref b :: As).toArray, t, U', L, hT, X', hL, e1, e2, hq, st⟩
section
variable {y : MethodName} {bytes cc : ByteArray} {maxL nL mc ms n index : Nat} {ret : Option FieldType} {ws : List Cond} {rm : Room} {Pc : Array Value → State → Prop} {Qc : Array Value → State → Outcome → State → Prop} {XC : String → State → State → Prop} {free : Addr → Prop} {Ts : List Cond} {own C : String} {b : Addr} {As rest : List Value} {g : JFrame}
theorem vx_runVX {hh : List (Nat × Nat × Nat × Nat)} (S : CallFix p m c cc nL s args Ts own) (hM : vx_Met l y ws rm Pc Qc XC mc ms free) (cw : vx_CVW R s args own C index y bytes maxL ret hh ws rm mc ms n) (hp : PreV s H C b Pc As)
    (hg : g.method = m) (hn : As.length = n) (hsize : g.locals.size = nL) (hstack : g.stack = As.reverse ++ .ref b :: rest) (hW : 2 * g.monitorRoom + (rest.map fun v => v.category).sum ≤ 8) (hdg : decode cc g.pc = .ok (.invokevirtual index, 3)) (hf : cells + mc ≤ R.cells ∧ slots + ms ≤ R.slots) :
    vx_Run p l e R s m args below meth c H locs cells slots mc ms g rest (Qc (Value.ref b :: As).toArray) XC free := by
  obtain ⟨⟨hrc, hrs, hfr, hlo, hws, hcw⟩, hcode, hini, hy, hlen, hl, hin, hse⟩ := cw
  have hK : vx_Back l R p e below s args y 3 8 (PreOf R mc ms Pc) (PostOf Qc mc ms free) (vx_Post XC mc ms free) := vx_backW (hh := hh) (bytes := bytes) (maxL := maxL) (ret := ret) hM hp.1 hrc hrs hfr hlo hws hcw (fun a' U hW => word_at hW (Or.inl (by first | rfl | simp [Cond.onTables, Cond.keeps, Cond.steady])) hini)
  obtain ⟨hx, hb, hml, ho, -⟩ := S
  obtain ⟨-, ⟨cellB, hcB, hoB, hclB⟩, hPc⟩ := hp
  intro T hT X
  rcases vx_callVX X hx (C := C) (hh := hh) (bytes := bytes) (maxL := maxL) (ret := ret) ho hl hin hse hcode hy hK (by rw [hT]; exact hcB) hoB hclB hg (hsize.trans hml.symm) (argsL := As) (rest := rest) (fun sig h => hn.trans (hlen sig h)) hstack hW (by rw [hb]; exact hdg)
    (fun vm₁ hW₁ => ⟨hf.1, hf.2, hPc (T.setVm vm₁) hT hW₁⟩) with ⟨v, vm₁, ⟨U', l2, c2, s2⟩, hW₁, X', ⟨g', mk, t, L, e1, e2, hq, h1, hL, h2, h3⟩, st⟩ | ⟨q, vm₁, ⟨U', l2, c2, s2⟩, hW₁, X', ⟨g', mk, t, L, E, ce, e1, e2, hq, hce, hcv, hcl, h1, hL, h2, h3⟩, st⟩
  · dsimp only [Pt.U, Pt.locs, Pt.cells, Pt.slots] at X' e1 e2 h1 h2 h3 st
    subst h1; subst h2; subst h3
    exact Or.inl ⟨v, (T.setVm vm₁).calling g' mk (Value.ref b :: As).toArray, t, U', L, hT, X', hL, e1, e2, hq, st⟩
  · dsimp only [Pt.U, Pt.locs, Pt.cells, Pt.slots] at X' e1 e2 h1 h2 h3 st hcl
    subst h1; subst h2; subst h3
    exact Or.inr ⟨q, (T.setVm vm₁).calling g' mk (Value.ref b :: As).toArray, t, U', L, E, ce, hT, X', hL, e1, e2, hq, hce, hcv, vx_cls hW₁ hcl, st⟩
theorem vx_runSX {hh : List (Nat × Nat × Nat × Nat)} (S : CallFix p m c cc nL s args Ts own) (hM : vx_Met l y ws rm Pc Qc XC mc ms free) (cw : vx_CSW R s args own index y bytes maxL ret hh ws rm mc ms n) (hp : PreS s H Pc As)
    (hg : g.method = m) (hn : As.length = n) (hsize : g.locals.size = nL) (hstack : g.stack = As.reverse ++ rest) (hW : 2 * g.monitorRoom + (rest.map fun v => v.category).sum ≤ 8) (hdg : decode cc g.pc = .ok (.invokestatic index, 3)) (hf : cells + mc ≤ R.cells ∧ slots + ms ≤ R.slots) :
    vx_Run p l e R s m args below meth c H locs cells slots mc ms g rest (Qc As.toArray) XC free := by
  obtain ⟨⟨hrc, hrs, hfr, hlo, hws, hcw⟩, hcode, hini, hy, hlen, hl, hstt⟩ := cw
  have hK : vx_Back l R p e below s args y 3 8 (PreOf R mc ms Pc) (PostOf Qc mc ms free) (vx_Post XC mc ms free) := vx_backW (hh := hh) (bytes := bytes) (maxL := maxL) (ret := ret) hM hp.1 hrc hrs hfr hlo hws hcw (fun a' U hW => word_at hW (Or.inl (by first | rfl | simp [Cond.onTables, Cond.keeps, Cond.steady])) hini)
  obtain ⟨hx, hb, hml, ho, -⟩ := S
  intro T hT X
  rcases vx_callSX X hx (hh := hh) (bytes := bytes) (maxL := maxL) (ret := ret) ho hl hstt hini hcode hy hK hg (hsize.trans hml.symm) (argsL := As) (rest := rest) (fun sig h => hn.trans (hlen sig h)) hstack hW (by rw [hb]; exact hdg)
    (fun vm₁ hW₁ => ⟨hf.1, hf.2, hp.2 (T.setVm vm₁) hT hW₁⟩) with ⟨v, vm₁, ⟨U', l2, c2, s2⟩, hW₁, X', ⟨g', mk, t, L, e1, e2, hq, h1, hL, h2, h3⟩, st⟩ | ⟨q, vm₁, ⟨U', l2, c2, s2⟩, hW₁, X', ⟨g', mk, t, L, E, ce, e1, e2, hq, hce, hcv, hcl, h1, hL, h2, h3⟩, st⟩
  · dsimp only [Pt.U, Pt.locs, Pt.cells, Pt.slots] at X' e1 e2 h1 h2 h3 st
    subst h1; subst h2; subst h3
    exact Or.inl ⟨v, (T.setVm vm₁).calling g' mk As.toArray, t, U', L, hT, X', hL, e1, e2, hq, st⟩
  · dsimp only [Pt.U, Pt.locs, Pt.cells, Pt.slots] at X' e1 e2 h1 h2 h3 st hcl
    subst h1; subst h2; subst h3
    exact Or.inr ⟨q, (T.setVm vm₁).calling g' mk As.toArray, t, U', L, E, ce, hT, X', hL, e1, e2, hq, hce, hcv, vx_cls hW₁ hcl, st⟩
end
end VXH
theorem vx_ofWH {l : Launch} {y : MethodName} {ws ws' : List Cond} {rm : Room} {Pc : Array Value → State → Prop} {Qc : Array Value → State → Outcome → State → Prop} {XC : String → State → State → Prop} {mc ms : Nat} {free : Addr → Prop} {cc : ByteArray} {maxL : Nat} {ret : Option FieldType} {hh : List (Nat × Nat × Nat × Nat)}
    (hy : plainName y.cls = true) (hw : ws = Cond.codeWith y cc maxL ret hh :: ws')
    (body : ∀ p e s m args below meth c s₁, BodyLoose p l y (headSpec ws rm) cc maxL ret e s m args below meth c s₁ → c.maxLocals = maxL → Pc args s →
      W p l e (headSpec ws rm).room s m args below meth c s.heap [] 0 0 (vx_MQ below Qc XC args s mc ms free) (entryFrame m args maxL)) : vx_Met l y ws rm Pc Qc XC mc ms free := by
  refine MetFree.of_bodyS (code := cc) (maxLocals := maxL) (ret := ret) hy ?_ ?_
  · intro args s m h hn
    obtain ⟨m9, meth, c, hn9, h1, h2, h3, h4, -, h5, h6, -⟩ := Cond.codeWith_spec (atoms_spec (ws := ws) h _ (by rw [hw]; exact List.mem_cons_self))
    cases hn.symm.trans hn9
    exact ⟨meth, c, h1, h2, h3, h4, h5, h6⟩
  · intro p e s m args below meth c s₁ B hml hP _
    have hh0 : s₁.heap = s.heap := by rw [B.state]; rfl
    obtain ⟨t, a1, o, b1, b2, b3⟩ := body p e s m args below meth c s₁ B hml hP s₁ hh0 (Stand.of_body B)
    exact ⟨t, o, a1, b1, b2, b3⟩
/-! ===== END ===== -/

/-! ===== BEGIN what the machine throws by itself, no traces kept ===== -/
section VXM
set_option maxHeartbeats 1000000 in
/-- the machine throws cls with the message text, no traces kept: from its note over the frame g to 'throwing' over the same frame (follows the proofs of Stand.vmThrowsMessage, Shelf/KitTracedVmS.lean, and Stand.throwsMessageColdBareV, StandMessageColdV.lean, without the step out of the frame) -/
theorem vx_vmAt {p : Program} {l : Launch} {e : Env} {R : Room} {s : State} {m₀ : MethodId} {args : Array Value} {below : List Frame} {meth : Method} {c : Code} {W : State} {locs : List Loc} {cells slots : Nat}
    (X : Stand p l e R s m₀ args below meth c W locs cells slots) (hexec : p.tables.exec = Jvm.exec) (htr : e.platform.stackTraces = false) {cls : String} {names : List String} {text : String}
    (hcls : Bundle.fit cls = true) (hnames : ∀ n ∈ names, Bundle.fit n = true) (hsoe : (cls == "java/lang/StackOverflowError") = false) (hoom : (cls == "java/lang/OutOfMemoryError") = false)
    (h : ∀ a ∈ Bundle.messageArmAtoms cls names, a.before args s = true)
    (hlocs : ∀ x ∈ locs, ∀ cell, s.heap[x.base]? = some cell → cell.vm.isStatics = false)
    (htext : (text == notModelled) = false) (hlimit : ¬ (stringBytes (stringToUtf16 text)).size > e.platform.arrayLengthLimit) (hheap : ¬ (stringBytes (stringToUtf16 text)).size * componentBytes .byte > e.platform.maxHeapBytes)
    {g : JFrame} (hg : g.method = m₀) (hsize : g.locals.size = c.maxLocals)
    (hRframes : names.length + 4 < R.frames) (hRlocals : 2 * g.monitorRoom + (g.stack.map fun v => v.category).sum + 10240 ≤ R.locals) (hshort : 13 * names.length + 55 ≤ 10240)
    (hRcells : cells + 3 ≤ R.cells) (hRslots : slots + ((stringBytes (stringToUtf16 text)).size + 4 + 6) ≤ R.slots) (hlocks : meth.locks = false) :
    ∃ (S : State) (q : Addr) (ce : Cell), (∀ target, Steps p.tables e below ((S.setTop g).pushFrame (.throwing q)) target → Steps p.tables e below ((W.setTop g).pushFrame (.throwNew cls (some text) none)) target) ∧
      Stand p l e R s m₀ args below meth c S locs (cells + 3) (slots + ((stringBytes (stringToUtf16 text)).size + 4 + 6)) ∧ S.heap[q]? = some ce ∧ s.vm.findClass cls = some ce.cls ∧ ce.vm = .none := by
  have howns : e.platform.frameOwnsMonitors = true := by rw [X.admits.platform]
  have hfin : e.platform.finalization = false := by rw [X.admits.platform]
  have hpl : e.platform.magicAccessors = ({} : Platform).magicAccessors := by rw [X.admits.platform]
  have a : ∀ x, x ∈ Bundle.messageArmAtoms cls names → x.holds args s none s [] = true := fun x hx => h x hx
  obtain ⟨T, Z0, L, -, Y⟩ := ThrowableC.of_atoms (args := args) howns hfin hpl (fun x hx => h x (by simp [Bundle.messageArmAtoms, hx]))
  obtain ⟨Z, M, LZ, LM, hnZ⟩ := Init0T.ofS_atoms (args := args) hpl L Y (fun x hx => h x (by simp [Bundle.messageArmAtoms, hx]))
  obtain ⟨P1, Ps, hlen, L1, hL, hP1m, hlink1, hlink⟩ := Bundle.chainS (args := args) hpl hnZ names cls hcls hnames (fun x hx => h x (by simp [Bundle.messageArmAtoms, hx]))
  obtain ⟨Zs, LZs, hn4, hfitv, hfitc⟩ := StringT.of_atoms (args := args) (fun x hx => h x (by simp [Bundle.messageArmAtoms, hx]))
  have hfound : s.vm.findClass cls = some P1.m.cls := findClass_of_methodNamed hP1m
  obtain ⟨c1, kX, hc1, hk, hord, -, -, hn6⟩ := Cond.instantiable_spec (a (.instantiable cls 6) (by simp [Bundle.messageArmAtoms]))
  cases Option.some.inj (hc1.symm.trans hfound)
  have hinit := Cond.initialized_spec hfound hk (a (.initialized cls) (by simp [Bundle.messageArmAtoms]))
  have hctor : kX.findMethod "<init>" "(Ljava/lang/String;)V" = some P1.m.idx := findMethod_of_methodNamed hP1m hk
  have hsel0 : selectMethod e.platform s.vm P1.m.cls T.fill0 = .method T.fill0 := by
    obtain ⟨c2, r2, m2, q1, q2, q3, q4, -⟩ := Cond.selects_spec (a (.selects cls Bundle.tFill0 Bundle.tFill0) (by simp [Bundle.messageArmAtoms]))
    cases Option.some.inj (q1.symm.trans hfound)
    cases Option.some.inj (q2.symm.trans (State.methodFound?_of_named Y.fill0 (by decide)))
    cases Option.some.inj (q3.symm.trans Y.fill0)
    rw [Launch.admits_selectMethod X.admits]; exact q4
  have hselF : selectMethod e.platform s.vm P1.m.cls T.fill = .method T.fill := by
    obtain ⟨c2, r2, m2, q1, q2, q3, q4, -⟩ := Cond.selects_spec (a (.selects cls Bundle.tFill Bundle.tFill) (by simp [Bundle.messageArmAtoms]))
    cases Option.some.inj (q1.symm.trans hfound)
    cases Option.some.inj (q2.symm.trans (State.methodFound?_of_named Y.fill (by decide)))
    cases Option.some.inj (q3.symm.trans Y.fill)
    rw [Launch.admits_selectMethod X.admits]; exact q4
  obtain ⟨cellS0, hcS0, hiss⟩ := Y.statics
  obtain ⟨u0, hu0⟩ := Cond.staticRefV Y.unassigned L.unassignedStatic L.statics hcS0 hiss (a (.isRef (.static Bundle.tN "UNASSIGNED_STACK" Bundle.steD)) (by simp [Bundle.messageArmAtoms]))
  obtain ⟨sen, hsen⟩ := Cond.staticRefV Y.sentinel L.sentinelStatic L.statics hcS0 hiss (a (.isRef (.static Bundle.tN "SUPPRESSED_SENTINEL" Bundle.listD)) (by simp [Bundle.messageArmAtoms]))
  obtain ⟨ci198, i198, fB, hk198, hg198, ha198, hsB, -, hnB, htB, hffB⟩ := Cond.ownField (t := .object "java/lang/Object") Y.found L.cls (by decide +kernel) (a (.fieldLink Bundle.tN 198 Bundle.tN "backtrace" "Ljava/lang/Object;") (by simp [Bundle.messageArmAtoms])) (a (.lays Bundle.tN Bundle.tN "backtrace" "Ljava/lang/Object;") (by simp [Bundle.messageArmAtoms])) e.platform hpl
  obtain ⟨cellS, hcS', heS, -, hkeep⟩ := X.same.2.2.2.2.2 T.aS cellS0 hcS0
  have hcellS : W.heap[T.aS]? = some cellS := hcS'
  have hout' : ∀ i, (⟨T.aS, i⟩ : Loc) ∉ locs := fun i hmem => by
    have := hlocs _ hmem cellS0 hcS0
    rw [hiss] at this; cases this
  have hknownS : cellS.vm ≠ .unknown := by
    rw [heS]; intro hu
    rw [show cellS0.vm = .unknown from hu] at hiss
    cases hiss
  have hvU : cellS.slots[T.fUnassigned.slot]? = some u0.v := by rw [hkeep _ (hout' _)]; exact hu0
  have hvSen : cellS.slots[T.fSentinel.slot]? = some sen.v := by rw [hkeep _ (hout' _)]; exact hsen
  obtain ⟨iM, hffM⟩ := Y.msg
  obtain ⟨tyC, dC, hdC, hdnC⟩ := Cond.laysAt hfound hk Y.cause (a (.lays cls Bundle.tN "cause" "Ljava/lang/Throwable;") (by simp [Bundle.messageArmAtoms]))
  obtain ⟨tyS, dS, hdS, hdnS⟩ := Cond.laysAt hfound hk Y.stack (a (.lays cls Bundle.tN "stackTrace" Bundle.steD) (by simp [Bundle.messageArmAtoms]))
  obtain ⟨tyP, dP, hdP, hdnP⟩ := Cond.laysAt hfound hk Y.supp (a (.lays cls Bundle.tN "suppressedExceptions" Bundle.listD) (by simp [Bundle.messageArmAtoms]))
  obtain ⟨tyM, dM, hdM, hdnM⟩ := Cond.laysAt hfound hk hffM (a (.lays cls Bundle.tN "detailMessage" "Ljava/lang/String;") (by simp [Bundle.messageArmAtoms]))
  obtain ⟨tyB, dB, hdB, hdnB⟩ := Cond.laysAt hfound hk hffB (a (.lays cls Bundle.tN "backtrace" "Ljava/lang/Object;") (by simp [Bundle.messageArmAtoms]))
  have bC := Cond.laysApart hdB hdC hdnB hdnC (by rw [hnB, Y.causeName]; decide)
  have bS := Cond.laysApart hdB hdS hdnB hdnS (by rw [hnB, Y.stackName]; decide)
  have bP := Cond.laysApart hdB hdP hdnB hdnP (by rw [hnB, Y.suppName]; decide)
  have hbk : ((preparedCellV T.toThrowableT (freshCell P1.m.cls kX) (W.heap.size + 2) u0 sen).withEntry W.cur).slots[fB.slot]? = some .null := by
    have := fresh_default (c := P1.m.cls) tyB
    rw [htB] at this
    simpa [preparedCellV, Cell.setSlot, Cell.withEntry, Array.getElem?_setIfInBounds, bC, bS, bP, bC.symm, bS.symm, bP.symm, defaultValue] using this
  have tkC := Takes.of_laid (v := .ref (W.heap.size + 2)) hk hord tyC (by rw [Y.causeType]; rfl)
  have tkS := Takes.of_laid (v := u0.v) hk hord tyS (by rw [Y.stackType]; exact fits_refV_array _ u0)
  have tkP := Takes.of_laid (v := sen.v) hk hord tyP (by rw [Y.suppType]; exact fits_refV_object _ sen)
  have tkM := Takes.of_laid (v := .ref (W.heap.size + 1)) hk hord tyM (by rw [Y.msgType]; rfl)
  have hskip : SkipFacts T e.platform s (fun u => u) u0 ((preparedCellV T.toThrowableT (freshCell P1.m.cls kX) (W.heap.size + 2) u0 sen).withEntry W.cur) := ⟨{ ci198 := ci198, i198 := i198, fBack := fB }, ⟨hk198, hg198, ha198, hsB⟩, hbk, fun _ _ => rfl⟩
  have h0 : At W g.method c below := by rw [hg]; exact X.here
  obtain ⟨hbeyond, hfreeW⟩ := X.vmMayThrow hsize (.throwNew cls (some text) none) (fun f hf => by cases hf) rfl hRlocals
  have hfr' : W.frames.length + Ps.length + 4 < (e.platform.stackLimits W.me).1 := by have := X.framesAbove hRframes; omega
  have hwd' : (stackUse (.java g :: W.frames.tail)).2 + 13 * Ps.length + 55 ≤ (e.platform.stackLimits W.me).2 := by have := X.stackAbove hsize (K := 13 * Ps.length + 55) (by omega); omega
  have hslots : W.slotsUsed + (stringBytes (stringToUtf16 text)).size + Zs.kS.instanceTypes.size + kX.instanceTypes.size ≤ e.platform.maxSlots := by
    have := X.slotsAbove hRslots
    rw [hn4, hn6]
    omega
  obtain ⟨vm', hW', st⟩ := Steps.vmThrowsMessageColdByV p (s₀ := s) (S := W) (g := g) h0 hexec T L Z LZ M LM X.warmed (t := W.cur) rfl Zs LZs P1 L1 Ps hL hlink1 hlink hsoe hoom hfound hk hinit hord hctor
    (Launch.admits_hotImplicitExceptions X.admits) hbeyond hfreeW htext hlimit hheap (X.cellsAbove hRcells) hslots (hfitv _) (hfitc _)
    (Nn := fun u => u) heapOnly_id (fun _ _ => rfl) (fun _ => rfl) (fun u x y => setCell_twice _ _ _ _) (fun _ => Nat.le_refl _) (cN := ((preparedCellV T.toThrowableT (freshCell P1.m.cls kX) (W.heap.size + 2) u0 sen).withEntry W.cur))
    hsel0 hcellS hknownS hvU tkS (fun _ hu => hu) (fun _ hu => hu) rfl rfl rfl (by simp [preparedCellV, Cell.setSlot, Cell.withEntry]) hskip (fun _ _ hA hW _ hroom _ hrest => L.nativeOff p htr hA hW hroom hrest) hselF hvSen tkC tkP tkM Y.objLocals rfl hfr' hwd'
  rw [plainBareV_eq T.toThrowableT (W.heap.size + 2) u0 sen (.ref (W.heap.size + 1)) W.cur rfl rfl] at st
  obtain ⟨-, -, w3, w4, -, -, -⟩ := withThrown_facts e.platform W Zs text P1.m.cls kX
  have X3 := ((X.pushed (bytesOf Zs.cB (stringToUtf16 text))).pushed (stringAt Zs.cS Zs.kS Zs.fv Zs.fc (stringToUtf16 text) W.heap.size)).pushed (freshCell P1.m.cls kX)
  rw [← withString_eq] at X3
  have X4 := X3.noted hW'
  have ha : (W.heap.size + 2) < ((withThrown W Zs text P1.m.cls kX).setVm vm').heap.size := by show _ < (withThrown W Zs text P1.m.cls kX).heap.size; rw [w3]; omega
  have hcell : ((withThrown W Zs text P1.m.cls kX).setVm vm').heap[(W.heap.size + 2)]? = some (freshCell P1.m.cls kX) := w4
  have X5 := ((((X4.stored hcell T.fCause.slot (.ref (W.heap.size + 2))).storedAgain ha T.fStack.slot u0.v).storedAgain ha T.fSupp.slot sen.v).storedAgain ha T.fStack.slot u0.v).storedAgain ha T.fMsg.slot (.ref (W.heap.size + 1))
  obtain ⟨g₁, hfrM⟩ := X5.frames_eq
  have hU : ((((withThrown W Zs text P1.m.cls kX).setVm vm').setCell (W.heap.size + 2) (plainBareV T.toThrowableT (freshCell P1.m.cls kX) (W.heap.size + 2) u0 sen (.ref (W.heap.size + 1)))).setTop g).pushFrame (.throwing (W.heap.size + 2)) = (((withThrown W Zs text P1.m.cls kX).setVm vm').setCell (W.heap.size + 2) (plainBareV T.toThrowableT (freshCell P1.m.cls kX) (W.heap.size + 2) u0 sen (.ref (W.heap.size + 1)))).setFrames (.throwing (W.heap.size + 2) :: .java g :: below) := by
    rw [State.pushFrame, State.frames_setTop _ hfrM, State.setTop_of_frames _ hfrM, State.setFrames_setFrames]
  have b1 : (bytesOf Zs.cB (stringToUtf16 text)).slots.size = (stringBytes (stringToUtf16 text)).size := by
    rw [(Cell.writeAll_facts _ _).2.2]; simp [bytes0]
  have b2 : (stringAt Zs.cS Zs.kS Zs.fv Zs.fc (stringToUtf16 text) W.heap.size).slots.size = 4 := by simp [string0, Cell.setSlot, hn4]
  have b3 : (freshCell P1.m.cls kX).slots.size = 6 := by simp [hn6]
  rw [b1, b2, b3] at X5
  have e9 : slots + (stringBytes (stringToUtf16 text)).size + 4 + 6 = slots + ((stringBytes (stringToUtf16 text)).size + 4 + 6) := by omega
  rw [e9] at X5
  simp only [List.append_assoc, List.cons_append, List.nil_append] at X5
  refine ⟨((withThrown W Zs text P1.m.cls kX).setVm vm').setCell (W.heap.size + 2) (plainBareV T.toThrowableT (freshCell P1.m.cls kX) (W.heap.size + 2) u0 sen (.ref (W.heap.size + 1))), W.heap.size + 2, _, fun target ht => st _ (by rw [X.tail, ← hU]; exact ht),
    X5.forget (fun y hy => ?_), heapAt_setCell_self _ ha, hfound, rfl⟩
  simp only [List.mem_cons, List.not_mem_nil, or_false] at hy
  have hge : s.heap.size ≤ W.heap.size := X.same.2.1
  rcases hy with rfl | rfl | rfl | rfl | rfl <;> exact Nat.le_trans hge (Nat.le_add_right _ 2)
set_option maxHeartbeats 1000000 in
/-- the machine throws NullPointerException, no traces kept: from its note over the frame g to 'throwing' over the same frame (follows the proof of Stand.vmThrowsNpe, Shelf42/KT2.lean; throwsNpeColdBareVAt, Shelf42/NT91.lean, called) -/
theorem vx_npeAt {p : Program} {l : Launch} {e : Env} {R : Room} {s : State} {m₀ : MethodId} {args : Array Value} {below : List Frame} {meth : Method} {c : Code} {W : State} {locs : List Loc} {cells slots : Nat}
    (X : Stand p l e R s m₀ args below meth c W locs cells slots) (hexec : p.tables.exec = Jvm.exec) (htr : e.platform.stackTraces = false) {n : Nat}
    (h : ∀ a ∈ Bundle.npeArmAtoms n, a.before args s = true)
    (hlocs : ∀ x ∈ locs, ∀ cell, s.heap[x.base]? = some cell → cell.vm.isStatics = false)
    {g : JFrame} (hg : g.method = m₀) (hsize : g.locals.size = c.maxLocals)
    (hRframes : 7 < R.frames) (hRlocals : 2 * g.monitorRoom + (g.stack.map fun v => v.category).sum + 10240 ≤ R.locals)
    (hRcells : cells + 1 ≤ R.cells) (hRslots : slots + n ≤ R.slots) (hlocks : meth.locks = false) :
    ∃ (S : State) (q : Addr) (ce : Cell), (∀ target, Steps p.tables e below ((S.setTop g).pushFrame (.throwing q)) target → Steps p.tables e below ((W.setTop g).pushFrame (.throwNew "java/lang/NullPointerException" none none)) target) ∧
      Stand p l e R s m₀ args below meth c S locs (cells + 1) (slots + n) ∧ S.heap[q]? = some ce ∧ s.vm.findClass "java/lang/NullPointerException" = some ce.cls ∧ ce.vm = .none := by
  have howns : e.platform.frameOwnsMonitors = true := by rw [X.admits.platform]
  have hfin : e.platform.finalization = false := by rw [X.admits.platform]
  have hpl : e.platform.magicAccessors = ({} : Platform).magicAccessors := by rw [X.admits.platform]
  have hpl2 : e.platform.arrayCloneIsPublic = true := by rw [X.admits.platform]
  have a' : ∀ x, x ∈ Bundle.npeArmAtoms n → x.holds args s none s [] = true := fun x hx => h x hx
  obtain ⟨T, Z, L, LZ, Y⟩ := ThrowableC.of_atoms (args := args) howns hfin hpl (fun x hx => h x (by simp [Bundle.npeArmAtoms, hx]))
  obtain ⟨N, LN, hcN, hnNF, hordN, hffS⟩ := NpeC.of_atoms (args := args) hpl hpl2 L Y (fun x hx => h x (by simp [Bundle.npeArmAtoms, hx]))
  obtain ⟨P1, L1, hP1m, hP1s⟩ := PassC.of_atoms (args := args) (s := s) hpl (X := Bundle.nN) (Y := Bundle.rN) (by decide) (by decide) LibCode.NullPointerException.Init0.at_0 LibCode.NullPointerException.Init0.at_1 LibCode.NullPointerException.Init0.at_4 (fun x hx => h x (by simp [Bundle.npeArmAtoms, hx]))
  obtain ⟨PR, LR, hPRm, hPRs⟩ := PassC.of_atoms (args := args) (s := s) hpl (X := Bundle.rN) (Y := Bundle.eN) (by decide) (by decide) LibCode.RuntimeException.Init0.at_0 LibCode.RuntimeException.Init0.at_1 LibCode.RuntimeException.Init0.at_4 (fun x hx => h x (by simp [Bundle.npeArmAtoms, hx]))
  obtain ⟨PE, LEx, hPEm, hPEs⟩ := PassC.of_atoms (args := args) (s := s) hpl (X := Bundle.eN) (Y := Bundle.tN) (by decide) (by decide) LibCode.Exception.Init0.at_0 LibCode.Exception.Init0.at_1 LibCode.Exception.Init0.at_4 (fun x hx => h x (by simp [Bundle.npeArmAtoms, hx]))
  have hfound : s.vm.findClass Bundle.nN = some P1.m.cls := findClass_of_methodNamed hP1m
  have ecls : N.cN = P1.m.cls := Option.some.inj (hcN.symm.trans hfound)
  have hk : s.vm.classes[P1.m.cls]? = some N.kN := by rw [← ecls]; exact LN.cls
  have hinit := Cond.initialized_spec hfound hk (a' (.initialized Bundle.nN) (by simp [Bundle.npeArmAtoms]))
  have hctor : N.kN.findMethod "<init>" "()V" = some P1.m.idx := findMethod_of_methodNamed hP1m hk
  obtain ⟨c1, k1, hc1, hk1, -, -, -, hn⟩ := Cond.instantiable_spec (a' (.instantiable Bundle.nN n) (by simp [Bundle.npeArmAtoms]))
  cases Option.some.inj (hc1.symm.trans hfound)
  cases Option.some.inj (hk1.symm.trans hk)
  have hfsz : (freshCell P1.m.cls N.kN).slots.size = n := by simp [hn]
  have hlink1 : P1.sup = PR.m := Option.some.inj (hP1s.symm.trans hPRm)
  have hlinkR : PR.sup = PE.m := Option.some.inj (hPRs.symm.trans hPEm)
  have hlinkE : PE.sup = Z.m T.toThrowableT := Option.some.inj (hPEs.symm.trans Y.init0)
  have hLs : ∀ P, P ∈ [PR, PE] → P.Links0 e.platform s := fun P hP => by
    simp only [List.mem_cons, List.not_mem_nil, or_false] at hP
    rcases hP with rfl | rfl
    · exact LR
    · exact LEx
  have hsel0 : selectMethod e.platform s.vm P1.m.cls T.fill0 = .method T.fill0 := by
    obtain ⟨c2, r2, m2, q1, q2, q3, q4, -⟩ := Cond.selects_spec (a' (.selects Bundle.nN Bundle.tFill0 Bundle.tFill0) (by simp [Bundle.npeArmAtoms]))
    cases Option.some.inj (q1.symm.trans hfound)
    cases Option.some.inj (q2.symm.trans (State.methodFound?_of_named Y.fill0 (by decide)))
    cases Option.some.inj (q3.symm.trans Y.fill0)
    rw [Launch.admits_selectMethod X.admits]; exact q4
  have hselF : selectMethod e.platform s.vm P1.m.cls T.fill = .method N.fill := by
    obtain ⟨c2, r2, m2, q1, q2, q3, q4, -⟩ := Cond.selects_spec (a' (.selects Bundle.nN Bundle.tFill Bundle.nFill) (by simp [Bundle.npeArmAtoms]))
    cases Option.some.inj (q1.symm.trans hfound)
    cases Option.some.inj (q2.symm.trans (State.methodFound?_of_named Y.fill (by decide)))
    cases Option.some.inj (q3.symm.trans hnNF)
    rw [Launch.admits_selectMethod X.admits]; exact q4
  obtain ⟨cellS0, hcS0, hiss⟩ := Y.statics
  obtain ⟨u0, hu0⟩ := Cond.staticRefV Y.unassigned L.unassignedStatic L.statics hcS0 hiss (a' (.isRef (.static Bundle.tN "UNASSIGNED_STACK" Bundle.steD)) (by simp [Bundle.npeArmAtoms]))
  obtain ⟨sen, hsen⟩ := Cond.staticRefV Y.sentinel L.sentinelStatic L.statics hcS0 hiss (a' (.isRef (.static Bundle.tN "SUPPRESSED_SENTINEL" Bundle.listD)) (by simp [Bundle.npeArmAtoms]))
  obtain ⟨ci198, i198, fB, hk198, hg198, ha198, hsB, -, hnB, htB, hffB⟩ := Cond.ownField (t := .object "java/lang/Object") Y.found L.cls (by decide +kernel) (a' (.fieldLink Bundle.tN 198 Bundle.tN "backtrace" Bundle.objD) (by simp [Bundle.npeArmAtoms])) (a' (.lays Bundle.tN Bundle.tN "backtrace" Bundle.objD) (by simp [Bundle.npeArmAtoms])) e.platform hpl
  obtain ⟨cellS, hcS', heS, -, hkeep⟩ := X.same.2.2.2.2.2 T.aS cellS0 hcS0
  have hcellS : W.heap[T.aS]? = some cellS := hcS'
  have hout' : ∀ i, (⟨T.aS, i⟩ : Loc) ∉ locs := fun i hmem => by
    have := hlocs _ hmem cellS0 hcS0
    rw [hiss] at this; cases this
  have hknownS : cellS.vm ≠ .unknown := by
    rw [heS]; intro hu
    rw [show cellS0.vm = .unknown from hu] at hiss
    cases hiss
  have hvU : cellS.slots[T.fUnassigned.slot]? = some u0.v := by rw [hkeep _ (hout' _)]; exact hu0
  have hvSen : cellS.slots[T.fSentinel.slot]? = some sen.v := by rw [hkeep _ (hout' _)]; exact hsen
  obtain ⟨tyC, dC, hdC, hdnC⟩ := Cond.laysAt hfound hk Y.cause (a' (.lays Bundle.nN Bundle.tN "cause" "Ljava/lang/Throwable;") (by simp [Bundle.npeArmAtoms]))
  obtain ⟨tyS, dS, hdS, hdnS⟩ := Cond.laysAt hfound hk Y.stack (a' (.lays Bundle.nN Bundle.tN "stackTrace" Bundle.steD) (by simp [Bundle.npeArmAtoms]))
  obtain ⟨tyP, dP, hdP, hdnP⟩ := Cond.laysAt hfound hk Y.supp (a' (.lays Bundle.nN Bundle.tN "suppressedExceptions" Bundle.listD) (by simp [Bundle.npeArmAtoms]))
  obtain ⟨tyX, dX, hdX, hdnX⟩ := Cond.laysAt hfound hk hffS (a' (.lays Bundle.nN Bundle.nN "extendedMessageState" "I") (by simp [Bundle.npeArmAtoms, Bundle.npeAtoms]))
  obtain ⟨hnX, htX⟩ := State.fieldFound?_type hffS (t := .int) (by decide +kernel)
  have xC := Cond.laysApart hdC hdX hdnC hdnX (by rw [hnX, Y.causeName]; decide)
  have xS := Cond.laysApart hdS hdX hdnS hdnX (by rw [hnX, Y.stackName]; decide)
  have xP := Cond.laysApart hdP hdX hdnP hdnX (by rw [hnX, Y.suppName]; decide)
  have hv0 : (freshCell P1.m.cls N.kN).slots[N.fState.slot]? = some (.int 0) := by
    have := fresh_default (c := P1.m.cls) tyX
    rw [htX] at this; exact this
  obtain ⟨tyB, dB, hdB, hdnB⟩ := Cond.laysAt hfound hk hffB (a' (.lays Bundle.nN Bundle.tN "backtrace" Bundle.objD) (by simp [Bundle.npeArmAtoms]))
  have bC := Cond.laysApart hdB hdC hdnB hdnC (by rw [hnB, Y.causeName]; decide)
  have bS := Cond.laysApart hdB hdS hdnB hdnS (by rw [hnB, Y.stackName]; decide)
  have bP := Cond.laysApart hdB hdP hdnB hdnP (by rw [hnB, Y.suppName]; decide)
  have bX := Cond.laysApart hdB hdX hdnB hdnX (by rw [hnB, hnX]; decide)
  have hbk : ((npeCell N.toNpeT (preparedCellV T.toThrowableT (freshCell P1.m.cls N.kN) W.heap.size u0 sen) W.cur).withEntry W.cur).slots[fB.slot]? = some .null := by
    have := fresh_default (c := P1.m.cls) tyB
    rw [htB] at this
    simpa [npeCell, preparedCellV, Cell.setSlot, Cell.withEntry, Array.getElem?_setIfInBounds, bC, bS, bP, bX, bC.symm, bS.symm, bP.symm, bX.symm, defaultValue] using this
  have tkC := Takes.of_laid (v := .ref W.heap.size) hk hordN tyC (by rw [Y.causeType]; rfl)
  have tkS := Takes.of_laid (v := u0.v) hk hordN tyS (by rw [Y.stackType]; exact fits_refV_array _ u0)
  have tkP := Takes.of_laid (v := sen.v) hk hordN tyP (by rw [Y.suppType]; exact fits_refV_object _ sen)
  have tkX := Takes.of_laid (v := .int 1) hk hordN tyX (by rw [htX]; rfl)
  have hskip : SkipFacts T e.platform s (fun u => u) u0 ((npeCell N.toNpeT (preparedCellV T.toThrowableT (freshCell P1.m.cls N.kN) W.heap.size u0 sen) W.cur).withEntry W.cur) := ⟨{ ci198 := ci198, i198 := i198, fBack := fB }, ⟨hk198, hg198, ha198, hsB⟩, hbk, fun _ _ => rfl⟩
  obtain ⟨vm', X3, st, -⟩ := X.throwsNpeColdBareVAt hexec hg hsize T L Z LZ N LN P1 L1 [PR, PE] hLs hlink1 ⟨hlinkR, hlinkE, trivial⟩ hfound hk hinit hordN hctor hsel0 hselF hcellS hknownS hvU hvSen
    hv0 xC xS xP tkC tkS tkP tkX Y.objLocals hskip (fun _ _ hA hW _ hroom _ hrest => L.nativeOff p htr hA hW hroom hrest) (by simpa using hRframes) hRlocals (by simp) hRcells (by rw [hn]; exact hRslots)
  have hlt : W.heap.size < ((W.pushCell (freshCell P1.m.cls N.kN)).setVm vm').heap.size := by
    show W.heap.size < (W.pushCell (freshCell P1.m.cls N.kN)).heap.size
    rw [State.heap_size_pushCell]; omega
  rw [hfsz] at X3
  obtain ⟨g₁, hfrM⟩ := X3.frames_eq
  have hU : ((((W.pushCell (freshCell P1.m.cls N.kN)).setVm vm').setCell W.heap.size (npeBareV T.toThrowableT N.toNpeT (freshCell P1.m.cls N.kN) W.heap.size u0 sen)).setTop g).pushFrame (.throwing W.heap.size) = (((W.pushCell (freshCell P1.m.cls N.kN)).setVm vm').setCell W.heap.size (npeBareV T.toThrowableT N.toNpeT (freshCell P1.m.cls N.kN) W.heap.size u0 sen)).setFrames (.throwing W.heap.size :: .java g :: below) := by
    rw [State.pushFrame, State.frames_setTop _ hfrM, State.setTop_of_frames _ hfrM, State.setFrames_setFrames]
  refine ⟨_, W.heap.size, _, fun target ht => st.trans (by rw [← hU]; exact ht), X3.forget (fun y hy => ?_), heapAt_setCell_self _ hlt, hfound, rfl⟩
  simp only [List.mem_cons, List.not_mem_nil, or_false] at hy
  have hge : s.heap.size ≤ W.heap.size := X.same.2.1
  rcases hy with rfl | rfl | rfl | rfl | rfl <;> exact hge
/-- the words of a machine's NullPointerException, but the four that speak of the heap -/
def vx_atN (n : Nat) : List Cond := (Bundle.npeArmAtoms n).filter vx_no
/-- the words of a machine's throw with a message, but the four that speak of the heap -/
def vx_atM (X : String) (names : List String) : List Cond := (Bundle.messageArmAtoms X names).filter vx_no
section
variable {p : Program} {l : Launch} {e : Env} {R : Room} {s : State} {m : MethodId} {args : Array Value} {below : List Frame} {meth : Method} {c : Code} {H : Heap} {locs : List Loc} {cells slots : Nat}
/-- a frame seen from a rebased start, seen from the first start again -/
theorem vx_back9 {T S : State} {R' : Room} {k n : Nat} (X : Stand p l e R s m args below meth c T locs cells slots) (Y : Stand p l e R' ((T.setVm s.vm).setFrames (.invoking m args :: below)) m args below meth c T [] 0 0) (Z : Stand p l e R' ((T.setVm s.vm).setFrames (.invoking m args :: below)) m args below meth c S [] k n) :
    Stand p l e R s m args below meth c S locs (cells + k) (slots + n) := by
  have hW0 : s.WarmedH ((T.setVm s.vm).setFrames (.invoking m args :: below)).vm := State.WarmedH.refl s
  refine { admits := X.admits, cas := X.cas, clock := X.clock, frames := X.frames, room := X.room, hears := X.hears, method := X.method, code := X.code, here := Z.here, tail := Z.tail, warmed := State.WarmedH.trans hW0 Z.warmed, limits := Z.limits.trans (Y.limits.symm.trans X.limits), bytes := Z.bytes.trans (Y.bytes.symm.trans X.bytes), same := ?_ }
  obtain ⟨e1, e2⟩ := Z.same
  rw [State.setFrames_setFrames] at e1
  have h2 : (T.setVm s.vm).sameButNew (S.setVm s.vm) [] k n := ⟨e1, e2⟩
  have h3 := X.same.trans h2
  rw [List.append_nil] at h3
  exact h3
/-- from the machine's note that E is thrown here with this text -/
def vx_Note (p : Program) (l : Launch) (e : Env) (R : Room) (s : State) (m : MethodId) (args : Array Value) (below : List Frame) (meth : Method) (c : Code) (H : Heap) (locs : List Loc) (cells slots : Nat) (Q : State → Prop) (g : JFrame) (E text : String) : Prop :=
  ∀ T : State, T.heap = H → Stand p l e R s m args below meth c T locs cells slots → ∃ t, Steps p.tables e below ((T.setTop g).pushFrame (.throwNew E (some text) none)) t ∧ Q t
theorem vx_vm {pc : Nat} {ls : Array Slot} {rest : List Value} {Q : State → Prop} (hexec : p.tables.exec = Jvm.exec) (hl : l.stackTraces = false) {cls text : String} {names : List String} {nb : Nat} {A : Nat → Prop}
    (hcls : Bundle.fit cls = true) (hnames : ∀ n ∈ names, Bundle.fit n = true) (hsoe : (cls == "java/lang/StackOverflowError") = false) (hoom : (cls == "java/lang/OutOfMemoryError") = false)
    (hat : ∀ w ∈ vx_atM cls names, w.before args s = true) (hgood : ∀ w ∈ vx_atM cls names, vx_ot w = true)
    (hU : vx_Zq Bundle.tN "UNASSIGNED_STACK" Bundle.steD A s s.heap) (hN : vx_Zq Bundle.tN "SUPPRESSED_SENTINEL" Bundle.listD A s s.heap) (hS : va_S A s.heap H locs) (hsize : ls.size = c.maxLocals)
    (htext : (text == notModelled) = false) (hnb : (stringBytes (stringToUtf16 text)).size ≤ nb) (hnb1 : nb ≤ 1000)
    (hRframes : names.length + 4 < R.frames) (hRlocals : (rest.map fun v => v.category).sum + 10240 ≤ R.locals) (hshort : 13 * names.length + 55 ≤ 10240) (hRcells : cells + 3 ≤ R.cells) (hRslots : slots + (nb + 10) ≤ R.slots) (hlocks : meth.locks = false)
    (k : ∀ (H1 : Heap) (q9 : Addr) (ce : Cell), H.size ≤ H1.size → (∀ q : Nat, q < H.size → H1[q]? = H[q]?) → va_S A s.heap H1 locs → H1[q9]? = some ce → ce.vm = .none → s.vm.findClass cls = some ce.cls → vx_W p l e R s m args below meth c H1 locs (cells + 3) (slots + (nb + 10)) Q (F0 m pc ls rest) q9) :
    vx_Note p l e R s m args below meth c H locs cells slots Q (F0 m pc ls rest) cls text := by
  intro T hT X
  have htr : e.platform.stackTraces = false := (show e.platform.stackTraces = l.stackTraces by rw [X.admits.platform]).trans hl
  have Y := vx_rebase X (R' := { frames := R.frames, locals := R.locals, cells := 3, slots := nb + 10 }) (Nat.le_refl _) (Nat.le_refl _) hRcells hRslots
  have hhp : ((T.setVm s.vm).setFrames (.invoking m args :: below)).heap = H := hT
  have hW0 : s.WarmedH ((T.setVm s.vm).setFrames (.invoking m args :: below)).vm := State.WarmedH.refl s
  have hat' : ∀ w ∈ vx_atM cls names, w.before args ((T.setVm s.vm).setFrames (.invoking m args :: below)) = true := fun w hw => vx_ot_at hW0 rfl (hgood w hw) (hat w hw)
  have hU' : vx_Zq Bundle.tN "UNASSIGNED_STACK" Bundle.steD A ((T.setVm s.vm).setFrames (.invoking m args :: below)) ((T.setVm s.vm).setFrames (.invoking m args :: below)).heap := by rw [hhp]; exact vx_Zq.moved hW0.alike (hU.kept hS.2.1)
  have hN' : vx_Zq Bundle.tN "SUPPRESSED_SENTINEL" Bundle.listD A ((T.setVm s.vm).setFrames (.invoking m args :: below)) ((T.setVm s.vm).setFrames (.invoking m args :: below)).heap := by rw [hhp]; exact vx_Zq.moved hW0.alike (hN.kept hS.2.1)
  obtain ⟨S, q, ce, st, Z, hce, hcl', hv⟩ := vx_vmAt Y hexec htr (cls := cls) (names := names) (text := text) hcls hnames hsoe hoom (vx_own hat' (vx_isRefq hU'.1) (vx_isRefq hN'.1) hU'.2.word hN'.2.word) (fun x hx => nomatch hx) htext
    (by rw [Launch.admits_arrayLengthLimit X.admits]; omega) (by rw [Launch.admits_maxHeapBytes X.admits]; simp only [componentBytes]; omega)
    (g := F0 m pc ls rest) rfl hsize hRframes (by show 2 * 0 + (rest.map fun v => v.category).sum + 10240 ≤ R.locals; omega) hshort (by show 0 + 3 ≤ 3; omega) (by show 0 + (_ + 4 + 6) ≤ nb + 10; omega) hlocks
  obtain ⟨f1, f2⟩ := vx_frame Z.same
  have f1' : H.size ≤ S.heap.size := by rw [← hT]; exact f1
  have f2' : ∀ q : Nat, q < H.size → S.heap[q]? = H[q]? := fun q hq => by
    rw [← hT]
    exact f2 q (by rw [← hT] at hq; exact hq) (fun z hz => nomatch hz)
  have X5 := vx_back9 X Y Z
  have X6 : Stand p l e R s m args below meth c S locs (cells + 3) (slots + (nb + 10)) := { X5 with same := X5.same.mono (by omega) (by omega) }
  obtain ⟨t, a1, b1⟩ := k S.heap q ce f1' f2' ⟨Nat.le_trans hS.1 f1', fun q h1 h2 => (f2' q (Nat.lt_of_lt_of_le h1 hS.1)).trans (hS.2.1 q h1 h2), hS.2.2⟩ hce hv hcl' S rfl X6
  exact ⟨t, st t a1, b1⟩
/-- from the machine's note that NullPointerException is thrown here -/
def vx_NoteN (p : Program) (l : Launch) (e : Env) (R : Room) (s : State) (m : MethodId) (args : Array Value) (below : List Frame) (meth : Method) (c : Code) (H : Heap) (locs : List Loc) (cells slots : Nat) (Q : State → Prop) (g : JFrame) : Prop :=
  ∀ T : State, T.heap = H → Stand p l e R s m args below meth c T locs cells slots → ∃ t, Steps p.tables e below ((T.setTop g).pushFrame (.throwNew "java/lang/NullPointerException" none none)) t ∧ Q t
theorem vx_npe {pc : Nat} {ls : Array Slot} {rest : List Value} {Q : State → Prop} (hexec : p.tables.exec = Jvm.exec) (hl : l.stackTraces = false) {nb : Nat} {A : Nat → Prop}
    (hat : ∀ w ∈ vx_atN nb, w.before args s = true) (hgood : ∀ w ∈ vx_atN nb, vx_ot w = true)
    (hU : vx_Zq Bundle.tN "UNASSIGNED_STACK" Bundle.steD A s s.heap) (hN : vx_Zq Bundle.tN "SUPPRESSED_SENTINEL" Bundle.listD A s s.heap) (hS : va_S A s.heap H locs) (hsize : ls.size = c.maxLocals)
    (hRframes : 7 < R.frames) (hRlocals : (rest.map fun v => v.category).sum + 10240 ≤ R.locals) (hRcells : cells + 1 ≤ R.cells) (hRslots : slots + nb ≤ R.slots) (hlocks : meth.locks = false)
    (k : ∀ (H1 : Heap) (q9 : Addr) (ce : Cell), H.size ≤ H1.size → (∀ q : Nat, q < H.size → H1[q]? = H[q]?) → va_S A s.heap H1 locs → H1[q9]? = some ce → ce.vm = .none → s.vm.findClass "java/lang/NullPointerException" = some ce.cls → vx_W p l e R s m args below meth c H1 locs (cells + 1) (slots + nb) Q (F0 m pc ls rest) q9) :
    vx_NoteN p l e R s m args below meth c H locs cells slots Q (F0 m pc ls rest) := by
  intro T hT X
  have htr : e.platform.stackTraces = false := (show e.platform.stackTraces = l.stackTraces by rw [X.admits.platform]).trans hl
  have Y := vx_rebase X (R' := { frames := R.frames, locals := R.locals, cells := 1, slots := nb }) (Nat.le_refl _) (Nat.le_refl _) hRcells hRslots
  have hhp : ((T.setVm s.vm).setFrames (.invoking m args :: below)).heap = H := hT
  have hW0 : s.WarmedH ((T.setVm s.vm).setFrames (.invoking m args :: below)).vm := State.WarmedH.refl s
  have hat' : ∀ w ∈ vx_atN nb, w.before args ((T.setVm s.vm).setFrames (.invoking m args :: below)) = true := fun w hw => vx_ot_at hW0 rfl (hgood w hw) (hat w hw)
  have hU' : vx_Zq Bundle.tN "UNASSIGNED_STACK" Bundle.steD A ((T.setVm s.vm).setFrames (.invoking m args :: below)) ((T.setVm s.vm).setFrames (.invoking m args :: below)).heap := by rw [hhp]; exact vx_Zq.moved hW0.alike (hU.kept hS.2.1)
  have hN' : vx_Zq Bundle.tN "SUPPRESSED_SENTINEL" Bundle.listD A ((T.setVm s.vm).setFrames (.invoking m args :: below)) ((T.setVm s.vm).setFrames (.invoking m args :: below)).heap := by rw [hhp]; exact vx_Zq.moved hW0.alike (hN.kept hS.2.1)
  obtain ⟨S, q, ce, st, Z, hce, hcl', hv⟩ := vx_npeAt Y hexec htr (n := nb) (vx_own hat' (vx_isRefq hU'.1) (vx_isRefq hN'.1) hU'.2.word hN'.2.word) (fun x hx => nomatch hx)
    (g := F0 m pc ls rest) rfl hsize hRframes (by show 2 * 0 + (rest.map fun v => v.category).sum + 10240 ≤ R.locals; omega) (by show 0 + 1 ≤ 1; omega) (by show 0 + nb ≤ nb; omega) hlocks
  obtain ⟨f1, f2⟩ := vx_frame Z.same
  have f1' : H.size ≤ S.heap.size := by rw [← hT]; exact f1
  have f2' : ∀ q : Nat, q < H.size → S.heap[q]? = H[q]? := fun q hq => by
    rw [← hT]
    exact f2 q (by rw [← hT] at hq; exact hq) (fun z hz => nomatch hz)
  have X5 := vx_back9 X Y Z
  have X6 : Stand p l e R s m args below meth c S locs (cells + 1) (slots + nb) := { X5 with same := X5.same.mono (by omega) (by omega) }
  obtain ⟨t, a1, b1⟩ := k S.heap q ce f1' f2' ⟨Nat.le_trans hS.1 f1', fun q h1 h2 => (f2' q (Nat.lt_of_lt_of_le h1 hS.1)).trans (hS.2.1 q h1 h2), hS.2.2⟩ hce hv hcl' S rfl X6
  exact ⟨t, st t a1, b1⟩
variable {Q : State → Prop} {cc : ByteArray} {pc : Nat} {ls : Array Slot} {rest : List Value}
theorem vx_idivZ (hexec : p.tables.exec = Jvm.exec) (hb : c.code = cc) {a b : Int32} (h0 : b = 0) (d : decode cc pc = .ok (.idiv, 1)) (k : vx_Note p l e R s m args below meth c H locs cells slots Q (F0 m pc ls rest) "java/lang/ArithmeticException" "/ by zero") :
    W p l e R s m args below meth c H locs cells slots Q (F0 m pc ls (.int b :: .int a :: rest)) := by
  intro T hT X
  obtain ⟨t, st, q⟩ := k T hT X
  exact ⟨t, X.idivZero hexec (g := F0 m pc ls (.int b :: .int a :: rest)) rfl (a := a) (rest := rest) (by rw [h0]) (by rw [hb]; exact d) t st, q⟩
theorem vx_iremZ (hexec : p.tables.exec = Jvm.exec) (hb : c.code = cc) {a b : Int32} (h0 : b = 0) (d : decode cc pc = .ok (.irem, 1)) (k : vx_Note p l e R s m args below meth c H locs cells slots Q (F0 m pc ls rest) "java/lang/ArithmeticException" "/ by zero") :
    W p l e R s m args below meth c H locs cells slots Q (F0 m pc ls (.int b :: .int a :: rest)) := by
  intro T hT X
  obtain ⟨t, st, q⟩ := k T hT X
  exact ⟨t, X.iremZero hexec (g := F0 m pc ls (.int b :: .int a :: rest)) rfl (a := a) (rest := rest) (by rw [h0]) (by rw [hb]; exact d) t st, q⟩
theorem vx_ldivZ (hexec : p.tables.exec = Jvm.exec) (hb : c.code = cc) {a b : Int64} (h0 : b = 0) (d : decode cc pc = .ok (.ldiv, 1)) (k : vx_Note p l e R s m args below meth c H locs cells slots Q (F0 m pc ls rest) "java/lang/ArithmeticException" "/ by zero") :
    W p l e R s m args below meth c H locs cells slots Q (F0 m pc ls (.long b :: .long a :: rest)) := by
  intro T hT X
  obtain ⟨t, st, q⟩ := k T hT X
  exact ⟨t, X.ldivZero hexec (g := F0 m pc ls (.long b :: .long a :: rest)) rfl (a := a) (rest := rest) (by rw [h0]) (by rw [hb]; exact d) t st, q⟩
theorem vx_lremZ (hexec : p.tables.exec = Jvm.exec) (hb : c.code = cc) {a b : Int64} (h0 : b = 0) (d : decode cc pc = .ok (.lrem, 1)) (k : vx_Note p l e R s m args below meth c H locs cells slots Q (F0 m pc ls rest) "java/lang/ArithmeticException" "/ by zero") :
    W p l e R s m args below meth c H locs cells slots Q (F0 m pc ls (.long b :: .long a :: rest)) := by
  intro T hT X
  obtain ⟨t, st, q⟩ := k T hT X
  exact ⟨t, X.lremZero hexec (g := F0 m pc ls (.long b :: .long a :: rest)) rfl (a := a) (rest := rest) (by rw [h0]) (by rw [hb]; exact d) t st, q⟩
theorem vx_ialdZ {D : va_G} {cl : List vw_C} {ws : va_W} {tys : List (ClassId × FieldType)} {a : Nat} (hexec : p.tables.exec = Jvm.exec) (hb : c.code = cc) (hK : va_K D cl tys s) (hP : va_P D cl ws H) (q0 t0 : Nat) {cA : ClassId} {n : Nat} {f : Nat → Int32} (ha : ws[q0]? = some (a, .inl (cA, n, .inl f))) (ht : tys[t0]? = some (cA, .int)) {i : Int32} (hout : ¬ vp_in i n) (hdg : decode cc pc = .ok (.iaload, 1))
    (k : ∀ tx : String, tx = (toString "Index " ++ toString i ++ toString " out of bounds for length " ++ toString n : String) → vx_Note p l e R s m args below meth c H locs cells slots Q (F0 m pc ls rest) "java/lang/ArrayIndexOutOfBoundsException" tx) : W p l e R s m args below meth c H locs cells slots Q (F0 m pc ls (.int i :: .ref a :: rest)) := by
  intro T hT X
  obtain ⟨t, st, q⟩ := k _ rfl T hT X
  refine ⟨t, ?_, q⟩
  have h1 := X.ialoadOut hexec (by rw [hT]; exact hP q0 _ ha) ((hK.2 t0 _ ht).1 n (fun j => .int (f j))) (j := i) (by show (i < 0 ∨ (arrV _ _ _).slots.size ≤ _); rw [arrV_size]; exact Classical.byContradiction hout) (g := F0 m pc ls (.int i :: .ref a :: rest)) rfl (rest := rest) rfl (by rw [hb]; exact hdg) t
  simp only [arrV_size] at h1
  exact h1 st
theorem vx_iastZ {D : va_G} {cl : List vw_C} {ws : va_W} {tys : List (ClassId × FieldType)} {a : Nat} (hexec : p.tables.exec = Jvm.exec) (hb : c.code = cc) (hK : va_K D cl tys s) (hP : va_P D cl ws H) (q0 t0 : Nat) {cA : ClassId} {n : Nat} {f : Nat → Int32} (ha : ws[q0]? = some (a, .inl (cA, n, .inl f))) (ht : tys[t0]? = some (cA, .int)) {i : Int32} {x : Int32} (hout : ¬ vp_in i n) (hdg : decode cc pc = .ok (.iastore, 1))
    (k : ∀ tx : String, tx = (toString "Index " ++ toString i ++ toString " out of bounds for length " ++ toString n : String) → vx_Note p l e R s m args below meth c H locs cells slots Q (F0 m pc ls rest) "java/lang/ArrayIndexOutOfBoundsException" tx) : W p l e R s m args below meth c H locs cells slots Q (F0 m pc ls (.int x :: .int i :: .ref a :: rest)) := by
  intro T hT X
  obtain ⟨t, st, q⟩ := k _ rfl T hT X
  refine ⟨t, ?_, q⟩
  have h1 := X.iastoreOut hexec (by rw [hT]; exact hP q0 _ ha) ((hK.2 t0 _ ht).1 n (fun j => .int (f j))) (j := i) (by show (i < 0 ∨ (arrV _ _ _).slots.size ≤ _); rw [arrV_size]; exact Classical.byContradiction hout) (g := F0 m pc ls (.int x :: .int i :: .ref a :: rest)) rfl (rest := rest) rfl (by rw [hb]; exact hdg) t
  simp only [arrV_size] at h1
  exact h1 st
theorem vx_baldZ {D : va_G} {cl : List vw_C} {ws : va_W} {tys : List (ClassId × FieldType)} {a : Nat} (hexec : p.tables.exec = Jvm.exec) (hb : c.code = cc) (hK : va_K D cl tys s) (hP : va_P D cl ws H) (q0 t0 : Nat) {cA : ClassId} {n : Nat} {f : Nat → Int32} (ha : ws[q0]? = some (a, .inl (cA, n, .inl f))) (ht : tys[t0]? = some (cA, .byte)) {i : Int32} (hout : ¬ vp_in i n) (hdg : decode cc pc = .ok (.baload, 1))
    (k : ∀ tx : String, tx = (toString "Index " ++ toString i ++ toString " out of bounds for length " ++ toString n : String) → vx_Note p l e R s m args below meth c H locs cells slots Q (F0 m pc ls rest) "java/lang/ArrayIndexOutOfBoundsException" tx) : W p l e R s m args below meth c H locs cells slots Q (F0 m pc ls (.int i :: .ref a :: rest)) := by
  intro T hT X
  obtain ⟨t, st, q⟩ := k _ rfl T hT X
  refine ⟨t, ?_, q⟩
  have h1 := X.baloadOut hexec (by rw [hT]; exact hP q0 _ ha) ((hK.2 t0 _ ht).1 n (fun j => .int (f j))) (j := i) (by show (i < 0 ∨ (arrV _ _ _).slots.size ≤ _); rw [arrV_size]; exact Classical.byContradiction hout) (g := F0 m pc ls (.int i :: .ref a :: rest)) rfl (rest := rest) rfl (by rw [hb]; exact hdg) t
  simp only [arrV_size] at h1
  exact h1 st
theorem vx_bastZ {D : va_G} {cl : List vw_C} {ws : va_W} {tys : List (ClassId × FieldType)} {a : Nat} (hexec : p.tables.exec = Jvm.exec) (hb : c.code = cc) (hK : va_K D cl tys s) (hP : va_P D cl ws H) (q0 t0 : Nat) {cA : ClassId} {n : Nat} {f : Nat → Int32} (ha : ws[q0]? = some (a, .inl (cA, n, .inl f))) (ht : tys[t0]? = some (cA, .byte)) {i : Int32} {x : Int32} (hout : ¬ vp_in i n) (hdg : decode cc pc = .ok (.bastore, 1))
    (k : ∀ tx : String, tx = (toString "Index " ++ toString i ++ toString " out of bounds for length " ++ toString n : String) → vx_Note p l e R s m args below meth c H locs cells slots Q (F0 m pc ls rest) "java/lang/ArrayIndexOutOfBoundsException" tx) : W p l e R s m args below meth c H locs cells slots Q (F0 m pc ls (.int x :: .int i :: .ref a :: rest)) := by
  intro T hT X
  obtain ⟨t, st, q⟩ := k _ rfl T hT X
  refine ⟨t, ?_, q⟩
  have h1 := X.bastoreOut hexec (by rw [hT]; exact hP q0 _ ha) ((hK.2 t0 _ ht).1 n (fun j => .int (f j))) (j := i) (by show (i < 0 ∨ (arrV _ _ _).slots.size ≤ _); rw [arrV_size]; exact Classical.byContradiction hout) (g := F0 m pc ls (.int x :: .int i :: .ref a :: rest)) rfl (rest := rest) rfl (by rw [hb]; exact hdg) t
  simp only [arrV_size] at h1
  exact h1 st
theorem vx_zaldZ {D : va_G} {cl : List vw_C} {ws : va_W} {tys : List (ClassId × FieldType)} {a : Nat} (hexec : p.tables.exec = Jvm.exec) (hb : c.code = cc) (hK : va_K D cl tys s) (hP : va_P D cl ws H) (q0 t0 : Nat) {cA : ClassId} {n : Nat} {f : Nat → Int32} (ha : ws[q0]? = some (a, .inl (cA, n, .inl f))) (ht : tys[t0]? = some (cA, .boolean)) {i : Int32} (hout : ¬ vp_in i n) (hdg : decode cc pc = .ok (.baload, 1))
    (k : ∀ tx : String, tx = (toString "Index " ++ toString i ++ toString " out of bounds for length " ++ toString n : String) → vx_Note p l e R s m args below meth c H locs cells slots Q (F0 m pc ls rest) "java/lang/ArrayIndexOutOfBoundsException" tx) : W p l e R s m args below meth c H locs cells slots Q (F0 m pc ls (.int i :: .ref a :: rest)) := by
  intro T hT X
  obtain ⟨t, st, q⟩ := k _ rfl T hT X
  refine ⟨t, ?_, q⟩
  have h1 := X.baloadOut hexec (by rw [hT]; exact hP q0 _ ha) ((hK.2 t0 _ ht).1 n (fun j => .int (f j))) (j := i) (by show (i < 0 ∨ (arrV _ _ _).slots.size ≤ _); rw [arrV_size]; exact Classical.byContradiction hout) (g := F0 m pc ls (.int i :: .ref a :: rest)) rfl (rest := rest) rfl (by rw [hb]; exact hdg) t
  simp only [arrV_size] at h1
  exact h1 st
theorem vx_zastZ {D : va_G} {cl : List vw_C} {ws : va_W} {tys : List (ClassId × FieldType)} {a : Nat} (hexec : p.tables.exec = Jvm.exec) (hb : c.code = cc) (hK : va_K D cl tys s) (hP : va_P D cl ws H) (q0 t0 : Nat) {cA : ClassId} {n : Nat} {f : Nat → Int32} (ha : ws[q0]? = some (a, .inl (cA, n, .inl f))) (ht : tys[t0]? = some (cA, .boolean)) {i : Int32} {x : Int32} (hout : ¬ vp_in i n) (hdg : decode cc pc = .ok (.bastore, 1))
    (k : ∀ tx : String, tx = (toString "Index " ++ toString i ++ toString " out of bounds for length " ++ toString n : String) → vx_Note p l e R s m args below meth c H locs cells slots Q (F0 m pc ls rest) "java/lang/ArrayIndexOutOfBoundsException" tx) : W p l e R s m args below meth c H locs cells slots Q (F0 m pc ls (.int x :: .int i :: .ref a :: rest)) := by
  intro T hT X
  obtain ⟨t, st, q⟩ := k _ rfl T hT X
  refine ⟨t, ?_, q⟩
  have h1 := X.bastoreOut hexec (by rw [hT]; exact hP q0 _ ha) ((hK.2 t0 _ ht).1 n (fun j => .int (f j))) (j := i) (by show (i < 0 ∨ (arrV _ _ _).slots.size ≤ _); rw [arrV_size]; exact Classical.byContradiction hout) (g := F0 m pc ls (.int x :: .int i :: .ref a :: rest)) rfl (rest := rest) rfl (by rw [hb]; exact hdg) t
  simp only [arrV_size] at h1
  exact h1 st
theorem vx_caldZ {D : va_G} {cl : List vw_C} {ws : va_W} {tys : List (ClassId × FieldType)} {a : Nat} (hexec : p.tables.exec = Jvm.exec) (hb : c.code = cc) (hK : va_K D cl tys s) (hP : va_P D cl ws H) (q0 t0 : Nat) {cA : ClassId} {n : Nat} {f : Nat → Int32} (ha : ws[q0]? = some (a, .inl (cA, n, .inl f))) (ht : tys[t0]? = some (cA, .char)) {i : Int32} (hout : ¬ vp_in i n) (hdg : decode cc pc = .ok (.caload, 1))
    (k : ∀ tx : String, tx = (toString "Index " ++ toString i ++ toString " out of bounds for length " ++ toString n : String) → vx_Note p l e R s m args below meth c H locs cells slots Q (F0 m pc ls rest) "java/lang/ArrayIndexOutOfBoundsException" tx) : W p l e R s m args below meth c H locs cells slots Q (F0 m pc ls (.int i :: .ref a :: rest)) := by
  intro T hT X
  obtain ⟨t, st, q⟩ := k _ rfl T hT X
  refine ⟨t, ?_, q⟩
  have h1 := X.caloadOut hexec (by rw [hT]; exact hP q0 _ ha) ((hK.2 t0 _ ht).1 n (fun j => .int (f j))) (j := i) (by show (i < 0 ∨ (arrV _ _ _).slots.size ≤ _); rw [arrV_size]; exact Classical.byContradiction hout) (g := F0 m pc ls (.int i :: .ref a :: rest)) rfl (rest := rest) rfl (by rw [hb]; exact hdg) t
  simp only [arrV_size] at h1
  exact h1 st
theorem vx_castZ {D : va_G} {cl : List vw_C} {ws : va_W} {tys : List (ClassId × FieldType)} {a : Nat} (hexec : p.tables.exec = Jvm.exec) (hb : c.code = cc) (hK : va_K D cl tys s) (hP : va_P D cl ws H) (q0 t0 : Nat) {cA : ClassId} {n : Nat} {f : Nat → Int32} (ha : ws[q0]? = some (a, .inl (cA, n, .inl f))) (ht : tys[t0]? = some (cA, .char)) {i : Int32} {x : Int32} (hout : ¬ vp_in i n) (hdg : decode cc pc = .ok (.castore, 1))
    (k : ∀ tx : String, tx = (toString "Index " ++ toString i ++ toString " out of bounds for length " ++ toString n : String) → vx_Note p l e R s m args below meth c H locs cells slots Q (F0 m pc ls rest) "java/lang/ArrayIndexOutOfBoundsException" tx) : W p l e R s m args below meth c H locs cells slots Q (F0 m pc ls (.int x :: .int i :: .ref a :: rest)) := by
  intro T hT X
  obtain ⟨t, st, q⟩ := k _ rfl T hT X
  refine ⟨t, ?_, q⟩
  have h1 := X.castoreOut hexec (by rw [hT]; exact hP q0 _ ha) ((hK.2 t0 _ ht).1 n (fun j => .int (f j))) (j := i) (by show (i < 0 ∨ (arrV _ _ _).slots.size ≤ _); rw [arrV_size]; exact Classical.byContradiction hout) (g := F0 m pc ls (.int x :: .int i :: .ref a :: rest)) rfl (rest := rest) rfl (by rw [hb]; exact hdg) t
  simp only [arrV_size] at h1
  exact h1 st
theorem vx_saldZ {D : va_G} {cl : List vw_C} {ws : va_W} {tys : List (ClassId × FieldType)} {a : Nat} (hexec : p.tables.exec = Jvm.exec) (hb : c.code = cc) (hK : va_K D cl tys s) (hP : va_P D cl ws H) (q0 t0 : Nat) {cA : ClassId} {n : Nat} {f : Nat → Int32} (ha : ws[q0]? = some (a, .inl (cA, n, .inl f))) (ht : tys[t0]? = some (cA, .short)) {i : Int32} (hout : ¬ vp_in i n) (hdg : decode cc pc = .ok (.saload, 1))
    (k : ∀ tx : String, tx = (toString "Index " ++ toString i ++ toString " out of bounds for length " ++ toString n : String) → vx_Note p l e R s m args below meth c H locs cells slots Q (F0 m pc ls rest) "java/lang/ArrayIndexOutOfBoundsException" tx) : W p l e R s m args below meth c H locs cells slots Q (F0 m pc ls (.int i :: .ref a :: rest)) := by
  intro T hT X
  obtain ⟨t, st, q⟩ := k _ rfl T hT X
  refine ⟨t, ?_, q⟩
  have h1 := X.saloadOut hexec (by rw [hT]; exact hP q0 _ ha) ((hK.2 t0 _ ht).1 n (fun j => .int (f j))) (j := i) (by show (i < 0 ∨ (arrV _ _ _).slots.size ≤ _); rw [arrV_size]; exact Classical.byContradiction hout) (g := F0 m pc ls (.int i :: .ref a :: rest)) rfl (rest := rest) rfl (by rw [hb]; exact hdg) t
  simp only [arrV_size] at h1
  exact h1 st
theorem vx_sastZ {D : va_G} {cl : List vw_C} {ws : va_W} {tys : List (ClassId × FieldType)} {a : Nat} (hexec : p.tables.exec = Jvm.exec) (hb : c.code = cc) (hK : va_K D cl tys s) (hP : va_P D cl ws H) (q0 t0 : Nat) {cA : ClassId} {n : Nat} {f : Nat → Int32} (ha : ws[q0]? = some (a, .inl (cA, n, .inl f))) (ht : tys[t0]? = some (cA, .short)) {i : Int32} {x : Int32} (hout : ¬ vp_in i n) (hdg : decode cc pc = .ok (.sastore, 1))
    (k : ∀ tx : String, tx = (toString "Index " ++ toString i ++ toString " out of bounds for length " ++ toString n : String) → vx_Note p l e R s m args below meth c H locs cells slots Q (F0 m pc ls rest) "java/lang/ArrayIndexOutOfBoundsException" tx) : W p l e R s m args below meth c H locs cells slots Q (F0 m pc ls (.int x :: .int i :: .ref a :: rest)) := by
  intro T hT X
  obtain ⟨t, st, q⟩ := k _ rfl T hT X
  refine ⟨t, ?_, q⟩
  have h1 := X.sastoreOut hexec (by rw [hT]; exact hP q0 _ ha) ((hK.2 t0 _ ht).1 n (fun j => .int (f j))) (j := i) (by show (i < 0 ∨ (arrV _ _ _).slots.size ≤ _); rw [arrV_size]; exact Classical.byContradiction hout) (g := F0 m pc ls (.int x :: .int i :: .ref a :: rest)) rfl (rest := rest) rfl (by rw [hb]; exact hdg) t
  simp only [arrV_size] at h1
  exact h1 st
theorem vx_laldZ {D : va_G} {cl : List vw_C} {ws : va_W} {tys : List (ClassId × FieldType)} {a : Nat} (hexec : p.tables.exec = Jvm.exec) (hb : c.code = cc) (hK : va_K D cl tys s) (hP : va_P D cl ws H) (q0 t0 : Nat) {cA : ClassId} {n : Nat} {f : Nat → Int64} (ha : ws[q0]? = some (a, .inl (cA, n, .inr (.inl f)))) (ht : tys[t0]? = some (cA, .long)) {i : Int32} (hout : ¬ vp_in i n) (hdg : decode cc pc = .ok (.laload, 1))
    (k : ∀ tx : String, tx = (toString "Index " ++ toString i ++ toString " out of bounds for length " ++ toString n : String) → vx_Note p l e R s m args below meth c H locs cells slots Q (F0 m pc ls rest) "java/lang/ArrayIndexOutOfBoundsException" tx) : W p l e R s m args below meth c H locs cells slots Q (F0 m pc ls (.int i :: .ref a :: rest)) := by
  intro T hT X
  obtain ⟨t, st, q⟩ := k _ rfl T hT X
  refine ⟨t, ?_, q⟩
  have h1 := X.laloadOut hexec (by rw [hT]; exact hP q0 _ ha) ((hK.2 t0 _ ht).1 n (fun j => .long (f j))) (j := i) (by show (i < 0 ∨ (arrV _ _ _).slots.size ≤ _); rw [arrV_size]; exact Classical.byContradiction hout) (g := F0 m pc ls (.int i :: .ref a :: rest)) rfl (rest := rest) rfl (by rw [hb]; exact hdg) t
  simp only [arrV_size] at h1
  exact h1 st
theorem vx_lastZ {D : va_G} {cl : List vw_C} {ws : va_W} {tys : List (ClassId × FieldType)} {a : Nat} (hexec : p.tables.exec = Jvm.exec) (hb : c.code = cc) (hK : va_K D cl tys s) (hP : va_P D cl ws H) (q0 t0 : Nat) {cA : ClassId} {n : Nat} {f : Nat → Int64} (ha : ws[q0]? = some (a, .inl (cA, n, .inr (.inl f)))) (ht : tys[t0]? = some (cA, .long)) {i : Int32} {x : Int64} (hout : ¬ vp_in i n) (hdg : decode cc pc = .ok (.lastore, 1))
    (k : ∀ tx : String, tx = (toString "Index " ++ toString i ++ toString " out of bounds for length " ++ toString n : String) → vx_Note p l e R s m args below meth c H locs cells slots Q (F0 m pc ls rest) "java/lang/ArrayIndexOutOfBoundsException" tx) : W p l e R s m args below meth c H locs cells slots Q (F0 m pc ls (.long x :: .int i :: .ref a :: rest)) := by
  intro T hT X
  obtain ⟨t, st, q⟩ := k _ rfl T hT X
  refine ⟨t, ?_, q⟩
  have h1 := X.lastoreOut hexec (by rw [hT]; exact hP q0 _ ha) ((hK.2 t0 _ ht).1 n (fun j => .long (f j))) (j := i) (by show (i < 0 ∨ (arrV _ _ _).slots.size ≤ _); rw [arrV_size]; exact Classical.byContradiction hout) (g := F0 m pc ls (.long x :: .int i :: .ref a :: rest)) rfl (rest := rest) rfl (by rw [hb]; exact hdg) t
  simp only [arrV_size] at h1
  exact h1 st
theorem vx_faldZ {D : va_G} {cl : List vw_C} {ws : va_W} {tys : List (ClassId × FieldType)} {a : Nat} (hexec : p.tables.exec = Jvm.exec) (hb : c.code = cc) (hK : va_K D cl tys s) (hP : va_P D cl ws H) (q0 t0 : Nat) {cA : ClassId} {n : Nat} {f : Nat → UInt32} (ha : ws[q0]? = some (a, .inl (cA, n, .inr (.inr (.inl f))))) (ht : tys[t0]? = some (cA, .float)) {i : Int32} (hout : ¬ vp_in i n) (hdg : decode cc pc = .ok (.faload, 1))
    (k : ∀ tx : String, tx = (toString "Index " ++ toString i ++ toString " out of bounds for length " ++ toString n : String) → vx_Note p l e R s m args below meth c H locs cells slots Q (F0 m pc ls rest) "java/lang/ArrayIndexOutOfBoundsException" tx) : W p l e R s m args below meth c H locs cells slots Q (F0 m pc ls (.int i :: .ref a :: rest)) := by
  intro T hT X
  obtain ⟨t, st, q⟩ := k _ rfl T hT X
  refine ⟨t, ?_, q⟩
  have h1 := X.faloadOut hexec (by rw [hT]; exact hP q0 _ ha) ((hK.2 t0 _ ht).1 n (fun j => .float (f j))) (j := i) (by show (i < 0 ∨ (arrV _ _ _).slots.size ≤ _); rw [arrV_size]; exact Classical.byContradiction hout) (g := F0 m pc ls (.int i :: .ref a :: rest)) rfl (rest := rest) rfl (by rw [hb]; exact hdg) t
  simp only [arrV_size] at h1
  exact h1 st
theorem vx_fastZ {D : va_G} {cl : List vw_C} {ws : va_W} {tys : List (ClassId × FieldType)} {a : Nat} (hexec : p.tables.exec = Jvm.exec) (hb : c.code = cc) (hK : va_K D cl tys s) (hP : va_P D cl ws H) (q0 t0 : Nat) {cA : ClassId} {n : Nat} {f : Nat → UInt32} (ha : ws[q0]? = some (a, .inl (cA, n, .inr (.inr (.inl f))))) (ht : tys[t0]? = some (cA, .float)) {i : Int32} {x : UInt32} (hout : ¬ vp_in i n) (hdg : decode cc pc = .ok (.fastore, 1))
    (k : ∀ tx : String, tx = (toString "Index " ++ toString i ++ toString " out of bounds for length " ++ toString n : String) → vx_Note p l e R s m args below meth c H locs cells slots Q (F0 m pc ls rest) "java/lang/ArrayIndexOutOfBoundsException" tx) : W p l e R s m args below meth c H locs cells slots Q (F0 m pc ls (.float x :: .int i :: .ref a :: rest)) := by
  intro T hT X
  obtain ⟨t, st, q⟩ := k _ rfl T hT X
  refine ⟨t, ?_, q⟩
  have h1 := X.fastoreOut hexec (by rw [hT]; exact hP q0 _ ha) ((hK.2 t0 _ ht).1 n (fun j => .float (f j))) (j := i) (by show (i < 0 ∨ (arrV _ _ _).slots.size ≤ _); rw [arrV_size]; exact Classical.byContradiction hout) (g := F0 m pc ls (.float x :: .int i :: .ref a :: rest)) rfl (rest := rest) rfl (by rw [hb]; exact hdg) t
  simp only [arrV_size] at h1
  exact h1 st
theorem vx_daldZ {D : va_G} {cl : List vw_C} {ws : va_W} {tys : List (ClassId × FieldType)} {a : Nat} (hexec : p.tables.exec = Jvm.exec) (hb : c.code = cc) (hK : va_K D cl tys s) (hP : va_P D cl ws H) (q0 t0 : Nat) {cA : ClassId} {n : Nat} {f : Nat → UInt64} (ha : ws[q0]? = some (a, .inl (cA, n, .inr (.inr (.inr (.inl f)))))) (ht : tys[t0]? = some (cA, .double)) {i : Int32} (hout : ¬ vp_in i n) (hdg : decode cc pc = .ok (.daload, 1))
    (k : ∀ tx : String, tx = (toString "Index " ++ toString i ++ toString " out of bounds for length " ++ toString n : String) → vx_Note p l e R s m args below meth c H locs cells slots Q (F0 m pc ls rest) "java/lang/ArrayIndexOutOfBoundsException" tx) : W p l e R s m args below meth c H locs cells slots Q (F0 m pc ls (.int i :: .ref a :: rest)) := by
  intro T hT X
  obtain ⟨t, st, q⟩ := k _ rfl T hT X
  refine ⟨t, ?_, q⟩
  have h1 := X.daloadOut hexec (by rw [hT]; exact hP q0 _ ha) ((hK.2 t0 _ ht).1 n (fun j => .double (f j))) (j := i) (by show (i < 0 ∨ (arrV _ _ _).slots.size ≤ _); rw [arrV_size]; exact Classical.byContradiction hout) (g := F0 m pc ls (.int i :: .ref a :: rest)) rfl (rest := rest) rfl (by rw [hb]; exact hdg) t
  simp only [arrV_size] at h1
  exact h1 st
theorem vx_dastZ {D : va_G} {cl : List vw_C} {ws : va_W} {tys : List (ClassId × FieldType)} {a : Nat} (hexec : p.tables.exec = Jvm.exec) (hb : c.code = cc) (hK : va_K D cl tys s) (hP : va_P D cl ws H) (q0 t0 : Nat) {cA : ClassId} {n : Nat} {f : Nat → UInt64} (ha : ws[q0]? = some (a, .inl (cA, n, .inr (.inr (.inr (.inl f)))))) (ht : tys[t0]? = some (cA, .double)) {i : Int32} {x : UInt64} (hout : ¬ vp_in i n) (hdg : decode cc pc = .ok (.dastore, 1))
    (k : ∀ tx : String, tx = (toString "Index " ++ toString i ++ toString " out of bounds for length " ++ toString n : String) → vx_Note p l e R s m args below meth c H locs cells slots Q (F0 m pc ls rest) "java/lang/ArrayIndexOutOfBoundsException" tx) : W p l e R s m args below meth c H locs cells slots Q (F0 m pc ls (.double x :: .int i :: .ref a :: rest)) := by
  intro T hT X
  obtain ⟨t, st, q⟩ := k _ rfl T hT X
  refine ⟨t, ?_, q⟩
  have h1 := X.dastoreOut hexec (by rw [hT]; exact hP q0 _ ha) ((hK.2 t0 _ ht).1 n (fun j => .double (f j))) (j := i) (by show (i < 0 ∨ (arrV _ _ _).slots.size ≤ _); rw [arrV_size]; exact Classical.byContradiction hout) (g := F0 m pc ls (.double x :: .int i :: .ref a :: rest)) rfl (rest := rest) rfl (by rw [hb]; exact hdg) t
  simp only [arrV_size] at h1
  exact h1 st
theorem vx_arraylengthN (hexec : p.tables.exec = Jvm.exec) (hb : c.code = cc) (hdg : decode cc pc = .ok (.arraylength, 1)) (k : vx_NoteN p l e R s m args below meth c H locs cells slots Q (F0 m pc ls rest)) : W p l e R s m args below meth c H locs cells slots Q (F0 m pc ls (.null :: rest)) := by
  intro T hT X
  obtain ⟨t, st, q⟩ := k T hT X
  exact ⟨t, X.arraylengthNull hexec (g := F0 m pc ls (.null :: rest)) rfl (rest := rest) rfl (by rw [hb]; exact hdg) t st, q⟩
theorem vx_ialoadN (hexec : p.tables.exec = Jvm.exec) (hb : c.code = cc) {i : Int32} (hdg : decode cc pc = .ok (.iaload, 1)) (k : vx_NoteN p l e R s m args below meth c H locs cells slots Q (F0 m pc ls rest)) : W p l e R s m args below meth c H locs cells slots Q (F0 m pc ls (.int i :: .null :: rest)) := by
  intro T hT X
  obtain ⟨t, st, q⟩ := k T hT X
  exact ⟨t, X.ialoadNull hexec (g := F0 m pc ls (.int i :: .null :: rest)) rfl (rest := rest) rfl (by rw [hb]; exact hdg) t st, q⟩
theorem vx_laloadN (hexec : p.tables.exec = Jvm.exec) (hb : c.code = cc) {i : Int32} (hdg : decode cc pc = .ok (.laload, 1)) (k : vx_NoteN p l e R s m args below meth c H locs cells slots Q (F0 m pc ls rest)) : W p l e R s m args below meth c H locs cells slots Q (F0 m pc ls (.int i :: .null :: rest)) := by
  intro T hT X
  obtain ⟨t, st, q⟩ := k T hT X
  exact ⟨t, X.laloadNull hexec (g := F0 m pc ls (.int i :: .null :: rest)) rfl (rest := rest) rfl (by rw [hb]; exact hdg) t st, q⟩
theorem vx_faloadN (hexec : p.tables.exec = Jvm.exec) (hb : c.code = cc) {i : Int32} (hdg : decode cc pc = .ok (.faload, 1)) (k : vx_NoteN p l e R s m args below meth c H locs cells slots Q (F0 m pc ls rest)) : W p l e R s m args below meth c H locs cells slots Q (F0 m pc ls (.int i :: .null :: rest)) := by
  intro T hT X
  obtain ⟨t, st, q⟩ := k T hT X
  exact ⟨t, X.faloadNull hexec (g := F0 m pc ls (.int i :: .null :: rest)) rfl (rest := rest) rfl (by rw [hb]; exact hdg) t st, q⟩
theorem vx_daloadN (hexec : p.tables.exec = Jvm.exec) (hb : c.code = cc) {i : Int32} (hdg : decode cc pc = .ok (.daload, 1)) (k : vx_NoteN p l e R s m args below meth c H locs cells slots Q (F0 m pc ls rest)) : W p l e R s m args below meth c H locs cells slots Q (F0 m pc ls (.int i :: .null :: rest)) := by
  intro T hT X
  obtain ⟨t, st, q⟩ := k T hT X
  exact ⟨t, X.daloadNull hexec (g := F0 m pc ls (.int i :: .null :: rest)) rfl (rest := rest) rfl (by rw [hb]; exact hdg) t st, q⟩
theorem vx_aaloadN (hexec : p.tables.exec = Jvm.exec) (hb : c.code = cc) {i : Int32} (hdg : decode cc pc = .ok (.aaload, 1)) (k : vx_NoteN p l e R s m args below meth c H locs cells slots Q (F0 m pc ls rest)) : W p l e R s m args below meth c H locs cells slots Q (F0 m pc ls (.int i :: .null :: rest)) := by
  intro T hT X
  obtain ⟨t, st, q⟩ := k T hT X
  exact ⟨t, X.aaloadNull hexec (g := F0 m pc ls (.int i :: .null :: rest)) rfl (rest := rest) rfl (by rw [hb]; exact hdg) t st, q⟩
theorem vx_baloadN (hexec : p.tables.exec = Jvm.exec) (hb : c.code = cc) {i : Int32} (hdg : decode cc pc = .ok (.baload, 1)) (k : vx_NoteN p l e R s m args below meth c H locs cells slots Q (F0 m pc ls rest)) : W p l e R s m args below meth c H locs cells slots Q (F0 m pc ls (.int i :: .null :: rest)) := by
  intro T hT X
  obtain ⟨t, st, q⟩ := k T hT X
  exact ⟨t, X.baloadNull hexec (g := F0 m pc ls (.int i :: .null :: rest)) rfl (rest := rest) rfl (by rw [hb]; exact hdg) t st, q⟩
theorem vx_caloadN (hexec : p.tables.exec = Jvm.exec) (hb : c.code = cc) {i : Int32} (hdg : decode cc pc = .ok (.caload, 1)) (k : vx_NoteN p l e R s m args below meth c H locs cells slots Q (F0 m pc ls rest)) : W p l e R s m args below meth c H locs cells slots Q (F0 m pc ls (.int i :: .null :: rest)) := by
  intro T hT X
  obtain ⟨t, st, q⟩ := k T hT X
  exact ⟨t, X.caloadNull hexec (g := F0 m pc ls (.int i :: .null :: rest)) rfl (rest := rest) rfl (by rw [hb]; exact hdg) t st, q⟩
theorem vx_saloadN (hexec : p.tables.exec = Jvm.exec) (hb : c.code = cc) {i : Int32} (hdg : decode cc pc = .ok (.saload, 1)) (k : vx_NoteN p l e R s m args below meth c H locs cells slots Q (F0 m pc ls rest)) : W p l e R s m args below meth c H locs cells slots Q (F0 m pc ls (.int i :: .null :: rest)) := by
  intro T hT X
  obtain ⟨t, st, q⟩ := k T hT X
  exact ⟨t, X.saloadNull hexec (g := F0 m pc ls (.int i :: .null :: rest)) rfl (rest := rest) rfl (by rw [hb]; exact hdg) t st, q⟩
theorem vx_iastoreN (hexec : p.tables.exec = Jvm.exec) (hb : c.code = cc) {x : Int32} {i : Int32} (hdg : decode cc pc = .ok (.iastore, 1)) (k : vx_NoteN p l e R s m args below meth c H locs cells slots Q (F0 m pc ls rest)) : W p l e R s m args below meth c H locs cells slots Q (F0 m pc ls (.int x :: .int i :: .null :: rest)) := by
  intro T hT X
  obtain ⟨t, st, q⟩ := k T hT X
  exact ⟨t, X.iastoreNull hexec (g := F0 m pc ls (.int x :: .int i :: .null :: rest)) rfl (rest := rest) rfl (by rw [hb]; exact hdg) t st, q⟩
theorem vx_lastoreN (hexec : p.tables.exec = Jvm.exec) (hb : c.code = cc) {x : Int64} {i : Int32} (hdg : decode cc pc = .ok (.lastore, 1)) (k : vx_NoteN p l e R s m args below meth c H locs cells slots Q (F0 m pc ls rest)) : W p l e R s m args below meth c H locs cells slots Q (F0 m pc ls (.long x :: .int i :: .null :: rest)) := by
  intro T hT X
  obtain ⟨t, st, q⟩ := k T hT X
  exact ⟨t, X.lastoreNull hexec (g := F0 m pc ls (.long x :: .int i :: .null :: rest)) rfl (rest := rest) rfl (by rw [hb]; exact hdg) t st, q⟩
theorem vx_fastoreN (hexec : p.tables.exec = Jvm.exec) (hb : c.code = cc) {x : UInt32} {i : Int32} (hdg : decode cc pc = .ok (.fastore, 1)) (k : vx_NoteN p l e R s m args below meth c H locs cells slots Q (F0 m pc ls rest)) : W p l e R s m args below meth c H locs cells slots Q (F0 m pc ls (.float x :: .int i :: .null :: rest)) := by
  intro T hT X
  obtain ⟨t, st, q⟩ := k T hT X
  exact ⟨t, X.fastoreNull hexec (g := F0 m pc ls (.float x :: .int i :: .null :: rest)) rfl (rest := rest) rfl (by rw [hb]; exact hdg) t st, q⟩
theorem vx_dastoreN (hexec : p.tables.exec = Jvm.exec) (hb : c.code = cc) {x : UInt64} {i : Int32} (hdg : decode cc pc = .ok (.dastore, 1)) (k : vx_NoteN p l e R s m args below meth c H locs cells slots Q (F0 m pc ls rest)) : W p l e R s m args below meth c H locs cells slots Q (F0 m pc ls (.double x :: .int i :: .null :: rest)) := by
  intro T hT X
  obtain ⟨t, st, q⟩ := k T hT X
  exact ⟨t, X.dastoreNull hexec (g := F0 m pc ls (.double x :: .int i :: .null :: rest)) rfl (rest := rest) rfl (by rw [hb]; exact hdg) t st, q⟩
theorem vx_bastoreN (hexec : p.tables.exec = Jvm.exec) (hb : c.code = cc) {x : Int32} {i : Int32} (hdg : decode cc pc = .ok (.bastore, 1)) (k : vx_NoteN p l e R s m args below meth c H locs cells slots Q (F0 m pc ls rest)) : W p l e R s m args below meth c H locs cells slots Q (F0 m pc ls (.int x :: .int i :: .null :: rest)) := by
  intro T hT X
  obtain ⟨t, st, q⟩ := k T hT X
  exact ⟨t, X.bastoreNull hexec (g := F0 m pc ls (.int x :: .int i :: .null :: rest)) rfl (rest := rest) rfl (by rw [hb]; exact hdg) t st, q⟩
theorem vx_castoreN (hexec : p.tables.exec = Jvm.exec) (hb : c.code = cc) {x : Int32} {i : Int32} (hdg : decode cc pc = .ok (.castore, 1)) (k : vx_NoteN p l e R s m args below meth c H locs cells slots Q (F0 m pc ls rest)) : W p l e R s m args below meth c H locs cells slots Q (F0 m pc ls (.int x :: .int i :: .null :: rest)) := by
  intro T hT X
  obtain ⟨t, st, q⟩ := k T hT X
  exact ⟨t, X.castoreNull hexec (g := F0 m pc ls (.int x :: .int i :: .null :: rest)) rfl (rest := rest) rfl (by rw [hb]; exact hdg) t st, q⟩
theorem vx_sastoreN (hexec : p.tables.exec = Jvm.exec) (hb : c.code = cc) {x : Int32} {i : Int32} (hdg : decode cc pc = .ok (.sastore, 1)) (k : vx_NoteN p l e R s m args below meth c H locs cells slots Q (F0 m pc ls rest)) : W p l e R s m args below meth c H locs cells slots Q (F0 m pc ls (.int x :: .int i :: .null :: rest)) := by
  intro T hT X
  obtain ⟨t, st, q⟩ := k T hT X
  exact ⟨t, X.sastoreNull hexec (g := F0 m pc ls (.int x :: .int i :: .null :: rest)) rfl (rest := rest) rfl (by rw [hb]; exact hdg) t st, q⟩
theorem vx_invokeN {own C : String} {index maxL : Nat} {y : MethodName} {bytes : ByteArray} {ret : Option FieldType} (hexec : p.tables.exec = Jvm.exec) (hb : c.code = cc) (hown : s.vm.findClass own = some m.cls) (hlink : (Cond.methodLink own index y).before args s = true) (hinst : (Cond.instanceMethod y).before args s = true) (hcode : (Cond.code y bytes maxL ret).before args s = true) (hsel : (Cond.selects C y y).before args s = true)
    (hx : y.cls ≠ "java/lang/invoke/MethodHandle" ∧ y.cls ≠ "java/lang/invoke/VarHandle") {As : List Value} (hlen : (parseMethodDescriptor y.desc).map (fun d => d.parameters.length) = some As.length) (hdg : decode cc pc = .ok (.invokevirtual index, 3))
    (k : vx_NoteN p l e R s m args below meth c H locs cells slots Q (F0 m pc ls rest)) {st0 : List Value} (hst : st0 = As.reverse ++ .null :: rest) : W p l e R s m args below meth c H locs cells slots Q (F0 m pc ls st0) := by
  intro T hT X
  obtain ⟨r0, r, hn, hrm, hstR, hsigR⟩ := va_Decl.of hinst hcode
  obtain ⟨c2, r2, m2, q1, q2, q3, q4, kP, hkP, hkPi⟩ := Cond.selects_spec hsel
  cases hn.symm.trans q3
  have hl9 : As.length = r.sig.parameters.length := by
    rw [hsigR] at hlen
    exact (Option.some.inj hlen).symm
  obtain ⟨vm', X1, st1⟩ := X.invokevirtualNull hexec hown hlink hn hrm hstR hkP hkPi hx (g := F0 m pc ls st0) rfl (argsL := As) (rest := rest) hl9 hst (by rw [hb]; exact hdg)
  obtain ⟨t, st, q⟩ := k (T.setVm vm') hT X1
  exact ⟨t, st1 t st, q⟩
theorem vx_newarrayZ {atype : ArrayType} (hexec : p.tables.exec = Jvm.exec) (hb : c.code = cc) {n : Int32} (h0 : n < 0) (hdg : decode cc pc = .ok (.newarray atype, 2)) (k : ∀ tx : String, tx = toString n → vx_Note p l e R s m args below meth c H locs cells slots Q (F0 m pc ls rest) "java/lang/NegativeArraySizeException" tx) : W p l e R s m args below meth c H locs cells slots Q (F0 m pc ls (.int n :: rest)) := by
  intro T hT X
  obtain ⟨t, st, q⟩ := k _ rfl T hT X
  exact ⟨t, X.newarrayNegative hexec (g := F0 m pc ls (.int n :: rest)) rfl h0 (rest := rest) rfl (by rw [hb]; exact hdg) t st, q⟩
end
end VXM
/-! ===== END ===== -/
end
section
/-! An exception of the class's own whose constructor links its superclass's by another pool number than 7 (java/util/NoSuchElementException of JDK 17: 13), so that the rows of the exceptions' kit don't speak of it. These laws follow vx_throwS and vx_throwSW (pasted from kit/laws/EXCEPTIONS.to-paste, the words and the constructor's walk changed) and, for the constructor's walk, the library's own one, with the first link by its own number and bytes. -/
section
/-- what is asked beside the links of the chain -/
def sw_tl (own : String) (ic : Nat) (X : String) : List Cond := (Bundle.ownAtoms own ic X []).drop 33
def sw_ats (own : String) (ic : Nat) (X : String) (ix : Nat) (bytes : ByteArray) (Y : String) (names : List String) : List Cond :=
  Bundle.throwableAtoms ++ (Bundle.throwableSAtoms ++ (Bundle.passSAtoms X Y ix bytes ++ (Bundle.chainSAtoms Y names ++ sw_tl own ic X)))
def sw_atN (own : String) (ic : Nat) (X : String) (ix : Nat) (bytes : ByteArray) (Y : String) (names : List String) : List Cond := (sw_ats own ic X ix bytes Y names).filter vx_no
variable {p : Program} {l : Launch} {e : Env} {R : Room} {s : State} {m : MethodId} {args : Array Value} {below : List Frame} {meth : Method} {c : Code} {W0 : State} {locs : List Loc} {cells slots : Nat}
set_option maxHeartbeats 1000000 in
theorem sw_ctorN (X : Stand p l e R s m args below meth c W0 locs cells slots) (hexec : p.tables.exec = Jvm.exec) (htr : e.platform.stackTraces = false) {own cls nxt : String} {names : List String} {ic ix : Nat} {bytes : ByteArray}
    (hown : s.vm.findClass own = some m.cls) (hcls : Bundle.fit cls = true) (hnxt : Bundle.fit nxt = true) (hnames : ∀ n ∈ names, Bundle.fit n = true)
    (b0 : decode bytes 0 = .ok (.aload_n 0, 1)) (b1 : decode bytes 1 = .ok (.aload_n 1, 1)) (b2 : decode bytes 2 = .ok (.invokespecial ix, 3)) (b5 : decode bytes 5 = .ok (.return_, 1))
    (h : ∀ a ∈ sw_ats own ic cls ix bytes nxt names, a.before args s = true)
    (hlocs : ∀ x ∈ locs, ∀ cell, s.heap[x.base]? = some cell → cell.vm.isStatics = false)
    {a : Addr} {cX : ClassId} {kX : Class} (hfoundX : s.vm.findClass cls = some cX) (hkX : s.vm.classes[cX]? = some kX) (hcell : W0.heap[a]? = some (freshCell cX kX)) (hnew : s.heap.size ≤ a)
    {msg : Value} (hmsg : msg.isRef = true)
    {g : JFrame} (hg : g.method = m) (hsize : g.locals.size = c.maxLocals) (hlocked : g.locked = none) (hentered : g.entered = []) {rest : List Value} (hstack : g.stack = msg :: .ref a :: .ref a :: rest)
    (hd6 : decode c.code g.pc = .ok (.invokespecial ic, 3)) (hd9 : decode c.code (g.pc + 3) = .ok (.athrow, 1)) (hout : ∀ x ∈ c.exceptionTable.toList, covers x (g.pc + 3) = false)
    (hRframes : names.length + 4 < R.frames) (hRlocals : 2 * g.monitorRoom + ((Value.ref a :: rest).map fun v => v.category).sum + (13 * (names.length + 2) + 42) ≤ R.locals) (hlocks : meth.locks = false) :
    ∃ U : State, Steps p.tables e below (W0.setTop g) U ∧ U.status = .running ∧ Ended U below (.threw a) ∧ s.WarmedH U.vm ∧ s.sameButNew ({ U with vm := s.vm } : State) locs cells slots ∧
      ∃ ce, U.heap[a]? = some ce ∧ s.vm.findClass cls = some ce.cls ∧ ce.vm = .none := by
  have howns : e.platform.frameOwnsMonitors = true := by rw [X.admits.platform]
  have hfin : e.platform.finalization = false := by rw [X.admits.platform]
  have hpl : e.platform.magicAccessors = ({} : Platform).magicAccessors := by rw [X.admits.platform]
  have hA : ∀ w ∈ Bundle.throwableAtoms, w.before args s = true := fun w hw => h w (List.mem_append_left _ hw)
  have hB : ∀ w ∈ Bundle.throwableSAtoms, w.before args s = true := fun w hw => h w (List.mem_append_right _ (List.mem_append_left _ hw))
  have hC : ∀ w ∈ Bundle.passSAtoms cls nxt ix bytes, w.before args s = true := fun w hw => h w (List.mem_append_right _ (List.mem_append_right _ (List.mem_append_left _ hw)))
  have hD : ∀ w ∈ Bundle.chainSAtoms nxt names, w.before args s = true := fun w hw => h w (List.mem_append_right _ (List.mem_append_right _ (List.mem_append_right _ (List.mem_append_left _ hw))))
  have hE : ∀ (i : Nat) (w : Cond), (sw_tl own ic cls)[i]? = some w → w.before args s = true := fun i w hw => h w (List.mem_append_right _ (List.mem_append_right _ (List.mem_append_right _ (List.mem_append_right _ (List.mem_of_getElem? hw)))))
  obtain ⟨T, Z0, L, -, Y⟩ := ThrowableC.of_atoms (args := args) howns hfin hpl hA
  obtain ⟨Z, M, LZ, LM, hnZ⟩ := Init0T.ofS_atoms (args := args) hpl L Y hB
  obtain ⟨P1, L1, hP1m, hP1s⟩ := PassC.ofS_atoms (args := args) (s := s) hpl (X := cls) (Y := nxt) (Bundle.fit_spec hcls).1 (Bundle.fit_spec hnxt).2 b0 b1 b2 b5 hC
  obtain ⟨P2, Ps, hlen, L2, hL, hP2m, hlink2, hlink⟩ := Bundle.chainS (args := args) hpl hnZ names nxt hnxt hnames hD
  have hlink1 : P1.sup = P2.m := Option.some.inj (hP1s.symm.trans hP2m)
  have hfound : s.vm.findClass cls = some P1.m.cls := findClass_of_methodNamed hP1m
  cases Option.some.inj (hfoundX.symm.trans hfound)
  obtain ⟨c1, kX', hc1, hk, hord, -, -, hn6⟩ := Cond.instantiable_spec (hE 1 (.instantiable cls 6) rfl)
  cases Option.some.inj (hc1.symm.trans hfound)
  cases Option.some.inj (hkX.symm.trans hk)
  have hsel0 : selectMethod e.platform s.vm P1.m.cls T.fill0 = .method T.fill0 := by
    obtain ⟨c2, r2, m2, q1, q2, q3, q4, -⟩ := Cond.selects_spec (hE 3 (.selects cls Bundle.tFill0 Bundle.tFill0) rfl)
    cases Option.some.inj (q1.symm.trans hfound)
    cases Option.some.inj (q2.symm.trans (State.methodFound?_of_named Y.fill0 (by decide)))
    cases Option.some.inj (q3.symm.trans Y.fill0)
    rw [Launch.admits_selectMethod X.admits]; exact q4
  have hselF : selectMethod e.platform s.vm P1.m.cls T.fill = .method T.fill := by
    obtain ⟨c2, r2, m2, q1, q2, q3, q4, -⟩ := Cond.selects_spec (hE 4 (.selects cls Bundle.tFill Bundle.tFill) rfl)
    cases Option.some.inj (q1.symm.trans hfound)
    cases Option.some.inj (q2.symm.trans (State.methodFound?_of_named Y.fill (by decide)))
    cases Option.some.inj (q3.symm.trans Y.fill)
    rw [Launch.admits_selectMethod X.admits]; exact q4
  obtain ⟨cellS0, hcS0, hiss⟩ := Y.statics
  obtain ⟨u0, hu0⟩ := Cond.staticRefV Y.unassigned L.unassignedStatic L.statics hcS0 hiss (hE 9 (.isRef (.static Bundle.tN "UNASSIGNED_STACK" Bundle.steD)) rfl)
  obtain ⟨sen, hsen⟩ := Cond.staticRefV Y.sentinel L.sentinelStatic L.statics hcS0 hiss (hE 10 (.isRef (.static Bundle.tN "SUPPRESSED_SENTINEL" Bundle.listD)) rfl)
  obtain ⟨ci198, i198, fB, hk198, hg198, ha198, hsB, -, hnB, htB, hffB⟩ := Cond.ownField (t := .object "java/lang/Object") Y.found L.cls (by decide +kernel) (hE 11 (.fieldLink Bundle.tN 198 Bundle.tN "backtrace" "Ljava/lang/Object;") rfl) (hE 12 (.lays Bundle.tN Bundle.tN "backtrace" "Ljava/lang/Object;") rfl) e.platform hpl
  obtain ⟨cellS, hcS', heS, -, hkeep⟩ := X.same.2.2.2.2.2 T.aS cellS0 hcS0
  have hcellS : W0.heap[T.aS]? = some cellS := hcS'
  have hout' : ∀ i, (⟨T.aS, i⟩ : Loc) ∉ locs := fun i hmem => by
    have := hlocs _ hmem cellS0 hcS0
    rw [hiss] at this; cases this
  have hknownS : cellS.vm ≠ .unknown := by
    rw [heS]; intro hu
    rw [show cellS0.vm = .unknown from hu] at hiss
    cases hiss
  have hneS : T.aS ≠ a := Nat.ne_of_lt (Nat.lt_of_lt_of_le (Array.getElem?_eq_some_iff.mp hcS0).1 hnew)
  obtain ⟨iM, hffM⟩ := Y.msg
  obtain ⟨tyC, dC, hdC, hdnC⟩ := Cond.laysAt hfound hk Y.cause (hE 5 (.lays cls Bundle.tN "cause" "Ljava/lang/Throwable;") rfl)
  obtain ⟨tyS, dS, hdS, hdnS⟩ := Cond.laysAt hfound hk Y.stack (hE 6 (.lays cls Bundle.tN "stackTrace" Bundle.steD) rfl)
  obtain ⟨tyP, dP, hdP, hdnP⟩ := Cond.laysAt hfound hk Y.supp (hE 7 (.lays cls Bundle.tN "suppressedExceptions" Bundle.listD) rfl)
  obtain ⟨tyM, dM, hdM, hdnM⟩ := Cond.laysAt hfound hk hffM (hE 8 (.lays cls Bundle.tN "detailMessage" "Ljava/lang/String;") rfl)
  obtain ⟨tyB, dB, hdB, hdnB⟩ := Cond.laysAt hfound hk hffB (hE 13 (.lays cls Bundle.tN "backtrace" "Ljava/lang/Object;") rfl)
  have bC := Cond.laysApart hdB hdC hdnB hdnC (by rw [hnB, Y.causeName]; decide)
  have bS := Cond.laysApart hdB hdS hdnB hdnS (by rw [hnB, Y.stackName]; decide)
  have bP := Cond.laysApart hdB hdP hdnB hdnP (by rw [hnB, Y.suppName]; decide)
  have hskip : SkipFacts T e.platform s (fun u => u) u0 ((preparedCellV T.toThrowableT (freshCell P1.m.cls kX) a u0 sen).withEntry W0.cur) :=
    ⟨{ ci198 := ci198, i198 := i198, fBack := fB }, ⟨hk198, hg198, ha198, hsB⟩, by
      have := fresh_default (c := P1.m.cls) tyB
      rw [htB] at this
      simpa [preparedCellV, Cell.setSlot, Cell.withEntry, Array.getElem?_setIfInBounds, bC, bS, bP, bC.symm, bS.symm, bP.symm, defaultValue] using this, fun _ _ => rfl⟩
  obtain ⟨tm, methC, cdC, kC, vm₁, hnC, -, -, -, -, -, -, -, hW₁, st1⟩ := Steps.initColdS (tb := p.tables) (e := e) (below := below) (s := s) (U := W0) X.here hexec X.warmed hpl hown (t := Bundle.initS cls) rfl rfl (Bundle.fit_spec hcls).2
    (hE 0 (.methodLink own ic (Bundle.initS cls)) rfl) (hC (.instanceMethod (Bundle.initS cls)) (List.mem_of_getElem? (i := 0) rfl)) (bytes := bytes) (maxL := 2) (hC (.code (Bundle.initS cls) bytes 2 none) (List.mem_of_getElem? (i := 1) rfl))
    (f := g) hg (a := a) (msg := msg) (rest := .ref a :: rest) hstack hd6
  cases Option.some.inj (hnC.symm.trans hP1m)
  have X₁ := X.noted hW₁
  obtain ⟨vm₂, X₂, st2⟩ := X₁.ctorMessageOffV hexec (g := { g with stack := .ref a :: rest }) hg hsize T L Z LZ M LM (P1 :: P2 :: Ps)
    (fun P hP => by
      rcases List.mem_cons.mp hP with rfl | hP
      · exact L1
      · rcases List.mem_cons.mp hP with rfl | hP
        · exact L2
        · exact hL P hP) ⟨hlink1, hlink2, hlink⟩ (u0 := u0) (sen := sen) (self := a) hmsg (cell := freshCell P1.m.cls kX) (cellS := cellS)
    hcell (fun _ => by simp) (by simp) rfl rfl hsel0 hselF hcellS hneS hknownS (by rw [hkeep _ (hout' _)]; exact hu0) (by rw [hkeep _ (hout' _)]; exact hsen)
    (Takes.of_laid hk hord tyC (by rw [Y.causeType]; rfl)) (Takes.of_laid hk hord tyS (by rw [Y.stackType]; exact fits_refV_array _ u0)) (Takes.of_laid hk hord tyP (by rw [Y.suppType]; exact fits_refV_object _ sen))
    (Takes.of_laid hk hord tyM (by rw [Y.msgType]; exact fits_refV_object _ ⟨msg, hmsg⟩)) Y.objLocals hskip htr [] hd6
    (by simp only [List.length_cons, hlen]; omega) (by simp only [List.length_cons, hlen]; exact hRlocals)
  obtain ⟨hwalk, hrun, hended, hWU, hsame⟩ := X₂.athrowLeaves hexec (g := { g with stack := .ref a :: rest, pc := g.pc + 3 }) hg hlocked hentered hout (a := a) (rest := rest) rfl hd9
  have hlt : a < ((W0.setVm vm₁).setVm vm₂).heap.size := (Array.getElem?_eq_some_iff.mp hcell).1
  have hU := heapAt_setCell_self (s := (W0.setVm vm₁).setVm vm₂) (plainBareV T.toThrowableT (freshCell P1.m.cls kX) a u0 sen msg) hlt
  refine ⟨_, st1 _ (fun acts => ?_), hrun, hended, hWU, hsame.weaken (fun y hy hlt' => ?_) (Nat.le_refl _) (Nat.le_refl _), _, hU, hfound, rfl⟩
  · rw [doInvoke_state]
    exact st2 _ hwalk
  · rcases List.mem_append.mp hy with h1 | h1
    · exact h1
    · exfalso
      have hb : y.base = a := by
        simp only [List.mem_cons, List.not_mem_nil, or_false] at h1
        rcases h1 with rfl | rfl | rfl | rfl | rfl <;> rfl
      rw [hb] at hlt'
      exact Nat.not_lt.mpr hnew hlt'
end
section
variable {p : Program} {l : Launch} {e : Env} {R : Room} {s : State} {m : MethodId} {args : Array Value} {below : List Frame} {meth : Method} {c : Code} {H : Heap} {locs : List Loc} {cells slots : Nat} {Q : State → Prop}
variable {mc ms : Nat} {free : Addr → Prop} {A0 A1 : Nat → Prop} {H0 : Heap} {a : Array Value} {ls : Array Slot} {st0 rest : List Value}
variable {Qc : Array Value → State → Outcome → State → Prop} {XC : String → State → State → Prop}
theorem sw_throwN {cc : ByteArray} {pc : Nat} (hexec : p.tables.exec = Jvm.exec) (hb : c.code = cc) (hl : l.stackTraces = false) {own cls nxt text : String} {names : List String} {bytes : ByteArray} {ix ik is ic mc ms sa : Nat} {A : Nat → Prop}
    (hown : s.vm.findClass own = some m.cls) (hcls : Bundle.fit cls = true) (hnxt : Bundle.fit nxt = true) (b0 : decode bytes 0 = .ok (.aload_n 0, 1)) (b1 : decode bytes 1 = .ok (.aload_n 1, 1)) (b2 : decode bytes 2 = .ok (.invokespecial ix, 3)) (b5 : decode bytes 5 = .ok (.return_, 1)) (hnames : ∀ n ∈ names, Bundle.fit n = true)
    (hk : (Cond.classLink own ik cls).before args s = true) (hini : (Cond.initialized cls).before args s = true) (hstr : vk_R own is text sa s) (hat : ∀ w ∈ sw_atN own ic cls ix bytes nxt names, w.before args s = true)
    (hgood : ∀ w ∈ Cond.classLink own ik cls :: Cond.initialized cls :: sw_atN own ic cls ix bytes nxt names, vx_ot w = true)
    (hU : vx_Zq Bundle.tN "UNASSIGNED_STACK" Bundle.steD A s s.heap) (hN : vx_Zq Bundle.tN "SUPPRESSED_SENTINEL" Bundle.listD A s s.heap) (hS : va_S A s.heap H locs) (hsize : ls.size = c.maxLocals)
    (d0 : decode cc pc = .ok (.new ik, 3)) (d3 : decode cc (pc + 3) = .ok (.dup, 1)) (d4 : decode cc (pc + 4) = .ok (.ldc is, 2)) (d6 : decode cc (pc + 6) = .ok (.invokespecial ic, 3)) (d9 : decode cc (pc + 9) = .ok (.athrow, 1))
    (hout : ∀ x ∈ c.exceptionTable.toList, covers x (pc + 9) = false)
    (hRframes : names.length + 4 < R.frames) (hRlocals : (rest.map fun v => v.category).sum + (13 * (names.length + 2) + 43) ≤ R.locals) (hRcells : cells + 1 ≤ R.cells) (hRslots : slots + 6 ≤ R.slots) (hlocks : meth.locks = false)
    (hx : ∀ t : State, s.vm.Alike t.vm → H.size ≤ t.heap.size → (∀ q : Nat, q < H.size → t.heap[q]? = H[q]?) → XC cls s t)
    (hf : ∀ z ∈ locs, free z.base) (hc : cells + 1 ≤ mc) (hs : slots + 6 ≤ ms) :
    W p l e R s m args below meth c H locs cells slots (vx_MQ below Qc XC args s mc ms free) (F0 m pc ls rest) := by
  intro T hT X
  have htr : e.platform.stackTraces = false := (show e.platform.stackTraces = l.stackTraces by rw [X.admits.platform]).trans hl
  have Y := vx_rebase X (R' := { frames := R.frames, locals := R.locals, cells := 1, slots := 6 }) (Nat.le_refl _) (Nat.le_refl _) hRcells hRslots
  obtain ⟨s', hA⟩ : ∃ z, z = (T.setVm s.vm).setFrames (.invoking m args :: below) := ⟨_, rfl⟩
  rw [← hA] at Y
  have hvm : s'.vm = s.vm := by rw [hA]; rfl
  have hhp : s'.heap = H := by rw [hA]; exact hT
  have hW0 : s.WarmedH s'.vm := by rw [hvm]; exact State.WarmedH.refl s
  have hat' : ∀ w ∈ sw_atN own ic cls ix bytes nxt names, w.before args s' = true := fun w hw => vx_ot_at hW0 hvm.symm (hgood w (List.mem_cons_of_mem _ (List.mem_cons_of_mem _ hw))) (hat w hw)
  have hk' : (Cond.classLink own ik cls).before args s' = true := vx_ot_at hW0 hvm.symm (hgood _ List.mem_cons_self) hk
  have hini' : (Cond.initialized cls).before args s' = true := vx_ot_at hW0 hvm.symm (hgood _ (List.mem_cons_of_mem _ List.mem_cons_self)) hini
  have hU' : vx_Zq Bundle.tN "UNASSIGNED_STACK" Bundle.steD A s' s'.heap := by rw [hhp]; exact vx_Zq.moved hW0.alike (hU.kept hS.2.1)
  have hN' : vx_Zq Bundle.tN "SUPPRESSED_SENTINEL" Bundle.listD A s' s'.heap := by rw [hhp]; exact vx_Zq.moved hW0.alike (hN.kept hS.2.1)
  have h : ∀ w ∈ sw_ats own ic cls ix bytes nxt names, w.before args s' = true := vx_own hat' (vx_isRefq hU'.1) (vx_isRefq hN'.1) hU'.2.word hN'.2.word
  have hown' : s'.vm.findClass own = some m.cls := by rw [hvm]; exact hown
  have hins : (Cond.instantiable cls 6).before args s' = true := h _ (List.mem_append_right _ (List.mem_append_right _ (List.mem_append_right _ (List.mem_append_right _ (List.mem_of_getElem? (i := 1) rfl)))))
  obtain ⟨vm₁, cX, kX, hfX, hkX, -, -, X₁, st1⟩ := Y.newCold hexec (own := own) (C := cls) (index := ik) (n := 6) hown' hk' hins hini'
    (g := F0 m pc ls rest) rfl (by rw [hb]; exact d0) (Nat.le_refl _) (Nat.le_refl _)
  generalize hT1 : (T.setVm vm₁).pushCell { cls := cX, slots := kX.instanceTypes.map defaultValue, vm := .none } = T1 at X₁ st1
  have hcat : (Value.ref T.heap.size).category = 1 := rfl
  have hcellA : T1.heap[T.heap.size]? = some (freshCell cX kX) := by rw [← hT1]; exact State.heap_pushCell_size _ _
  have d3' : decode c.code (pc + 3) = .ok (.dup, 1) := by rw [hb]; exact d3
  have d4' : decode c.code (pc + 4) = .ok (.ldc is, 2) := by rw [hb]; exact d4
  have hstr' : vk_R own is text sa s' := vk_R.warm hW0 hstr
  obtain ⟨U, hsteps, hrun, hend, hW, hsame, ce, hce, hOc, hOv⟩ := sw_ctorN X₁ hexec htr (own := own) (cls := cls) (nxt := nxt) (names := names) (ic := ic) (ix := ix) (bytes := bytes) hown' hcls hnxt hnames b0 b1 b2 b5 h (fun x hx => nomatch hx) hfX hkX hcellA (by rw [hhp, hT]; exact Nat.le_refl _) (msg := .ref sa) rfl
    (g := { method := m, pc := pc + 6, locals := ls, stack := .ref sa :: .ref T.heap.size :: .ref T.heap.size :: rest, locked := none }) rfl hsize rfl rfl (rest := rest) rfl
    (by rw [hb]; exact d6) (by rw [hb]; exact d9) hout hRframes (by simp only [List.map_cons, List.sum_cons, hcat]; omega) hlocks
  obtain ⟨f1, f2⟩ := vx_frame hsame
  rw [hhp] at f1 f2
  have hWs : s.WarmedH U.vm := State.WarmedH.trans hW0 hW
  have hcl : s.vm.findClass cls = some ce.cls := by
    have h9 := hOc
    rw [hvm] at h9
    exact h9
  have hall : s.sameButNew ({ U with vm := s.vm } : State) locs mc ms := by
    subst hA
    obtain ⟨e1, e2⟩ := hsame
    rw [State.setFrames_setFrames] at e1
    have h2 : (T.setVm s.vm).sameButNew ({ U with vm := s.vm } : State) [] (0 + 1) (0 + 6) := ⟨e1, e2⟩
    have h3 := X.same.trans h2
    rw [List.append_nil] at h3
    exact h3.mono hc hs
  refine ⟨U, ?_, .threw T.heap.size, hrun, hend, Or.inr ⟨T.heap.size, rfl, cls, ce, locs, hx U hWs.alike f1 (fun q hq => f2 q hq (fun z hz => nomatch hz)), hce, hOv, hcl, hWs, hall, hf⟩⟩
  refine st1 _ ?_
  show Steps p.tables e below (T1.setTop { method := m, pc := pc + 3, locals := ls, stack := .ref T.heap.size :: rest, locked := none }) _
  jvm_step X₁.here [X₁.here.top, hexec, d3', Value.category]
  exact X₁.ldcString hexec (own := own) (text := text) (index := is) (a := sa) hown' hstr'.1 hstr'.2
    (g := { method := m, pc := pc + 4, locals := ls, stack := .ref T.heap.size :: .ref T.heap.size :: rest, locked := none }) rfl d4' _ hsteps
theorem sw_throwNW {cc : ByteArray} {pc : Nat} (hexec : p.tables.exec = Jvm.exec) (hb : c.code = cc) (hl : l.stackTraces = false) {own cls nxt text : String} {names : List String} {bytes : ByteArray} {ix ik is ic mc ms sa : Nat} {A : Nat → Prop}
    (hown : s.vm.findClass own = some m.cls) (hcls : Bundle.fit cls = true) (hnxt : Bundle.fit nxt = true) (b0 : decode bytes 0 = .ok (.aload_n 0, 1)) (b1 : decode bytes 1 = .ok (.aload_n 1, 1)) (b2 : decode bytes 2 = .ok (.invokespecial ix, 3)) (b5 : decode bytes 5 = .ok (.return_, 1)) (hnames : ∀ n ∈ names, Bundle.fit n = true)
    (hk : (Cond.classLink own ik cls).before args s = true) (hini : (Cond.initialized cls).before args s = true) (hstr : vk_R own is text sa s) (hat : ∀ w ∈ sw_atN own ic cls ix bytes nxt names, w.before args s = true)
    (hgood : ∀ w ∈ Cond.classLink own ik cls :: Cond.initialized cls :: sw_atN own ic cls ix bytes nxt names, vx_ot w = true)
    (hU : vx_Zq Bundle.tN "UNASSIGNED_STACK" Bundle.steD A s s.heap) (hN : vx_Zq Bundle.tN "SUPPRESSED_SENTINEL" Bundle.listD A s s.heap) (hS : va_S A s.heap H locs) (hsize : ls.size = c.maxLocals)
    (d0 : decode cc pc = .ok (.new ik, 3)) (d3 : decode cc (pc + 3) = .ok (.dup, 1)) (d4 : decode cc (pc + 4) = .ok (.ldc_w is, 3)) (d7 : decode cc (pc + 7) = .ok (.invokespecial ic, 3)) (d10 : decode cc (pc + 10) = .ok (.athrow, 1))
    (hout : ∀ x ∈ c.exceptionTable.toList, covers x (pc + 10) = false)
    (hRframes : names.length + 4 < R.frames) (hRlocals : (rest.map fun v => v.category).sum + (13 * (names.length + 2) + 43) ≤ R.locals) (hRcells : cells + 1 ≤ R.cells) (hRslots : slots + 6 ≤ R.slots) (hlocks : meth.locks = false)
    (hx : ∀ t : State, s.vm.Alike t.vm → H.size ≤ t.heap.size → (∀ q : Nat, q < H.size → t.heap[q]? = H[q]?) → XC cls s t)
    (hf : ∀ z ∈ locs, free z.base) (hc : cells + 1 ≤ mc) (hs : slots + 6 ≤ ms) :
    W p l e R s m args below meth c H locs cells slots (vx_MQ below Qc XC args s mc ms free) (F0 m pc ls rest) := by
  intro T hT X
  have htr : e.platform.stackTraces = false := (show e.platform.stackTraces = l.stackTraces by rw [X.admits.platform]).trans hl
  have Y := vx_rebase X (R' := { frames := R.frames, locals := R.locals, cells := 1, slots := 6 }) (Nat.le_refl _) (Nat.le_refl _) hRcells hRslots
  obtain ⟨s', hA⟩ : ∃ z, z = (T.setVm s.vm).setFrames (.invoking m args :: below) := ⟨_, rfl⟩
  rw [← hA] at Y
  have hvm : s'.vm = s.vm := by rw [hA]; rfl
  have hhp : s'.heap = H := by rw [hA]; exact hT
  have hW0 : s.WarmedH s'.vm := by rw [hvm]; exact State.WarmedH.refl s
  have hat' : ∀ w ∈ sw_atN own ic cls ix bytes nxt names, w.before args s' = true := fun w hw => vx_ot_at hW0 hvm.symm (hgood w (List.mem_cons_of_mem _ (List.mem_cons_of_mem _ hw))) (hat w hw)
  have hk' : (Cond.classLink own ik cls).before args s' = true := vx_ot_at hW0 hvm.symm (hgood _ List.mem_cons_self) hk
  have hini' : (Cond.initialized cls).before args s' = true := vx_ot_at hW0 hvm.symm (hgood _ (List.mem_cons_of_mem _ List.mem_cons_self)) hini
  have hU' : vx_Zq Bundle.tN "UNASSIGNED_STACK" Bundle.steD A s' s'.heap := by rw [hhp]; exact vx_Zq.moved hW0.alike (hU.kept hS.2.1)
  have hN' : vx_Zq Bundle.tN "SUPPRESSED_SENTINEL" Bundle.listD A s' s'.heap := by rw [hhp]; exact vx_Zq.moved hW0.alike (hN.kept hS.2.1)
  have h : ∀ w ∈ sw_ats own ic cls ix bytes nxt names, w.before args s' = true := vx_own hat' (vx_isRefq hU'.1) (vx_isRefq hN'.1) hU'.2.word hN'.2.word
  have hown' : s'.vm.findClass own = some m.cls := by rw [hvm]; exact hown
  have hins : (Cond.instantiable cls 6).before args s' = true := h _ (List.mem_append_right _ (List.mem_append_right _ (List.mem_append_right _ (List.mem_append_right _ (List.mem_of_getElem? (i := 1) rfl)))))
  obtain ⟨vm₁, cX, kX, hfX, hkX, -, -, X₁, st1⟩ := Y.newCold hexec (own := own) (C := cls) (index := ik) (n := 6) hown' hk' hins hini'
    (g := F0 m pc ls rest) rfl (by rw [hb]; exact d0) (Nat.le_refl _) (Nat.le_refl _)
  generalize hT1 : (T.setVm vm₁).pushCell { cls := cX, slots := kX.instanceTypes.map defaultValue, vm := .none } = T1 at X₁ st1
  have hcat : (Value.ref T.heap.size).category = 1 := rfl
  have hcellA : T1.heap[T.heap.size]? = some (freshCell cX kX) := by rw [← hT1]; exact State.heap_pushCell_size _ _
  have d3' : decode c.code (pc + 3) = .ok (.dup, 1) := by rw [hb]; exact d3
  have d4' : decode c.code (pc + 4) = .ok (.ldc_w is, 3) := by rw [hb]; exact d4
  have hstr' : vk_R own is text sa s' := vk_R.warm hW0 hstr
  obtain ⟨U, hsteps, hrun, hend, hW, hsame, ce, hce, hOc, hOv⟩ := sw_ctorN X₁ hexec htr (own := own) (cls := cls) (nxt := nxt) (names := names) (ic := ic) (ix := ix) (bytes := bytes) hown' hcls hnxt hnames b0 b1 b2 b5 h (fun x hx => nomatch hx) hfX hkX hcellA (by rw [hhp, hT]; exact Nat.le_refl _) (msg := .ref sa) rfl
    (g := { method := m, pc := pc + 7, locals := ls, stack := .ref sa :: .ref T.heap.size :: .ref T.heap.size :: rest, locked := none }) rfl hsize rfl rfl (rest := rest) rfl
    (by rw [hb]; exact d7) (by rw [hb]; exact d10) hout hRframes (by simp only [List.map_cons, List.sum_cons, hcat]; omega) hlocks
  obtain ⟨f1, f2⟩ := vx_frame hsame
  rw [hhp] at f1 f2
  have hWs : s.WarmedH U.vm := State.WarmedH.trans hW0 hW
  have hcl : s.vm.findClass cls = some ce.cls := by
    have h9 := hOc
    rw [hvm] at h9
    exact h9
  have hall : s.sameButNew ({ U with vm := s.vm } : State) locs mc ms := by
    subst hA
    obtain ⟨e1, e2⟩ := hsame
    rw [State.setFrames_setFrames] at e1
    have h2 : (T.setVm s.vm).sameButNew ({ U with vm := s.vm } : State) [] (0 + 1) (0 + 6) := ⟨e1, e2⟩
    have h3 := X.same.trans h2
    rw [List.append_nil] at h3
    exact h3.mono hc hs
  refine ⟨U, ?_, .threw T.heap.size, hrun, hend, Or.inr ⟨T.heap.size, rfl, cls, ce, locs, hx U hWs.alike f1 (fun q hq => f2 q hq (fun z hz => nomatch hz)), hce, hOv, hcl, hWs, hall, hf⟩⟩
  refine st1 _ ?_
  show Steps p.tables e below (T1.setTop { method := m, pc := pc + 3, locals := ls, stack := .ref T.heap.size :: rest, locked := none }) _
  jvm_step X₁.here [X₁.here.top, hexec, d3', Value.category]
  exact X₁.ldcStringW hexec (own := own) (text := text) (index := is) (a := sa) hown' hstr'.1 hstr'.2
    (g := { method := m, pc := pc + 4, locals := ls, stack := .ref T.heap.size :: .ref T.heap.size :: rest, locked := none }) rfl d4' _ hsteps
end
/-- the constructor of java/util/NoSuchElementException -/
abbrev sw_b13 : ByteArray := ⟨#[0x2a, 0x2b, 0xb7, 0x00, 0x0d, 0xb1]⟩
theorem sw_b13_0 : decode sw_b13 0 = .ok (.aload_n 0, 1) := by decide +kernel
theorem sw_b13_1 : decode sw_b13 1 = .ok (.aload_n 1, 1) := by decide +kernel
theorem sw_b13_2 : decode sw_b13 2 = .ok (.invokespecial 13, 3) := by decide +kernel
theorem sw_b13_5 : decode sw_b13 5 = .ok (.return_, 1) := by decide +kernel
end
section
/-! ===== BEGIN printed: names, fields, word lists, decode rows ===== -/
def RX0 : String := "StoreMover$Couple"
def TX0 : u_T := fun k => match k with
  | 0 => ("StoreMover$Couple", "one", "I", false)
  | _ => ("StoreMover$Couple", "other", "I", false)
def tyX0 : Nat → FieldType := fun k => match k with
  | 0 => .int
  | _ => .int
abbrev wsX00 : List Cond := u_ws RX0 TX0 2
theorem nmX0 : ∀ a, a < 2 → ∀ b, b < 2 → a ≠ b → (TX0 a).2.1 ≠ (TX0 b).2.1 := by decide +kernel
theorem tyX0_ok : ∀ k, k < 2 → parseFieldDescriptor (TX0 k).2.2.1 = some (tyX0 k) := by decide +kernel
abbrev cX0_init : ByteArray := prog_2_method_1_code
def yX0_init : MethodName := ⟨RX0, "<init>", "()V"⟩
abbrev cX0_set : ByteArray := prog_2_method_2_code
def yX0_set : MethodName := ⟨RX0, "set", "(II)V"⟩
abbrev cX0_number : ByteArray := prog_2_method_3_code
def yX0_number : MethodName := ⟨RX0, "number", "(Z)I"⟩
abbrev cX0_areBothWithin : ByteArray := prog_2_method_4_code
def yX0_areBothWithin : MethodName := ⟨RX0, "areBothWithin", "(I)Z"⟩
abbrev cX0_step : ByteArray := prog_2_method_5_code
def yX0_step : MethodName := ⟨RX0, "step", "(CI)V"⟩
abbrev cX0_stepBack : ByteArray := prog_2_method_6_code
def yX0_stepBack : MethodName := ⟨RX0, "stepBack", "(CI)Z"⟩
def RX1 : String := "StoreMover$Log"
def TX1 : u_T := fun k => match k with
  | 0 => ("StoreMover$Log", "keys", "[I", true)
  | 1 => ("StoreMover$Log", "deletions", "[Z", true)
  | 2 => ("StoreMover$Log", "ones", "[I", true)
  | 3 => ("StoreMover$Log", "others", "[I", true)
  | _ => ("StoreMover$Log", "size", "I", false)
def tyX1 : Nat → FieldType := fun k => match k with
  | 0 => .array .int
  | 1 => .array .boolean
  | 2 => .array .int
  | 3 => .array .int
  | _ => .int
abbrev wsX10 : List Cond := u_ws RX1 TX1 5
theorem nmX1 : ∀ a, a < 5 → ∀ b, b < 5 → a ≠ b → (TX1 a).2.1 ≠ (TX1 b).2.1 := by decide +kernel
theorem tyX1_ok : ∀ k, k < 5 → parseFieldDescriptor (TX1 k).2.2.1 = some (tyX1 k) := by decide +kernel
abbrev cX1_init : ByteArray := prog_3_method_1_code
def yX1_init : MethodName := ⟨RX1, "<init>", "()V"⟩
abbrev cX1_size : ByteArray := prog_3_method_2_code
def yX1_size : MethodName := ⟨RX1, "size", "()I"⟩
abbrev cX1_isFull : ByteArray := prog_3_method_3_code
def yX1_isFull : MethodName := ⟨RX1, "isFull", "()Z"⟩
abbrev cX1_clear : ByteArray := prog_3_method_4_code
def yX1_clear : MethodName := ⟨RX1, "clear", "()V"⟩
abbrev cX1_appendRow : ByteArray := prog_3_method_5_code
def yX1_appendRow : MethodName := ⟨RX1, "appendRow", "(III)V"⟩
abbrev cX1_appendDeletion : ByteArray := prog_3_method_6_code
def yX1_appendDeletion : MethodName := ⟨RX1, "appendDeletion", "(I)V"⟩
abbrev cX1_append : ByteArray := prog_3_method_7_code
def yX1_append : MethodName := ⟨RX1, "append", "(IZII)V"⟩
abbrev cX1_isIndex : ByteArray := prog_3_method_8_code
def yX1_isIndex : MethodName := ⟨RX1, "isIndex", "(I)Z"⟩
abbrev cX1_key : ByteArray := prog_3_method_9_code
def yX1_key : MethodName := ⟨RX1, "key", "(I)I"⟩
abbrev cX1_isDeletion : ByteArray := prog_3_method_10_code
def yX1_isDeletion : MethodName := ⟨RX1, "isDeletion", "(I)Z"⟩
abbrev cX1_number : ByteArray := prog_3_method_11_code
def yX1_number : MethodName := ⟨RX1, "number", "(IZ)I"⟩
def RX2 : String := "StoreMover$Parts"
def TX2 : u_T := fun k => match k with
  | 0 => ("StoreMover$Parts", "rows", "LStoreMover$Rows;", true)
  | 1 => ("StoreMover$Parts", "lows", "[I", true)
  | 2 => ("StoreMover$Parts", "ends", "[I", true)
  | 3 => ("StoreMover$Parts", "stamps", "[I", true)
  | 4 => ("StoreMover$Parts", "waits", "[Z", true)
  | 5 => ("StoreMover$Parts", "count", "I", false)
  | 6 => ("StoreMover$Parts", "waiting", "I", false)
  | _ => ("StoreMover$Parts", "nextKey", "I", false)
def tyX2 : Nat → FieldType := fun k => match k with
  | 0 => .object "StoreMover$Rows"
  | 1 => .array .int
  | 2 => .array .int
  | 3 => .array .int
  | 4 => .array .boolean
  | 5 => .int
  | 6 => .int
  | _ => .int
abbrev wsX20 : List Cond := u_ws RX2 TX2 8
theorem nmX2 : ∀ a, a < 8 → ∀ b, b < 8 → a ≠ b → (TX2 a).2.1 ≠ (TX2 b).2.1 := by decide +kernel
theorem tyX2_ok : ∀ k, k < 8 → parseFieldDescriptor (TX2 k).2.2.1 = some (tyX2 k) := by decide +kernel
abbrev cX2_init : ByteArray := prog_4_method_1_code
def yX2_init : MethodName := ⟨RX2, "<init>", "()V"⟩
abbrev cX2_keysLeft : ByteArray := prog_4_method_2_code
def yX2_keysLeft : MethodName := ⟨RX2, "keysLeft", "()I"⟩
abbrev cX2_waiting : ByteArray := prog_4_method_3_code
def yX2_waiting : MethodName := ⟨RX2, "waiting", "()I"⟩
abbrev cX2_take : ByteArray := prog_4_method_4_code
def yX2_take : MethodName := ⟨RX2, "take", "(LStoreMover$Rows;II)I"⟩
abbrev cX2_isPart : ByteArray := prog_4_method_5_code
def yX2_isPart : MethodName := ⟨RX2, "isPart", "(I)Z"⟩
abbrev cX2_isWaiting : ByteArray := prog_4_method_6_code
def yX2_isWaiting : MethodName := ⟨RX2, "isWaiting", "(I)Z"⟩
abbrev cX2_lowOf : ByteArray := prog_4_method_7_code
def yX2_lowOf : MethodName := ⟨RX2, "lowOf", "(I)I"⟩
abbrev cX2_endOf : ByteArray := prog_4_method_8_code
def yX2_endOf : MethodName := ⟨RX2, "endOf", "(I)I"⟩
abbrev cX2_stampOf : ByteArray := prog_4_method_9_code
def yX2_stampOf : MethodName := ⟨RX2, "stampOf", "(I)I"⟩
abbrev cX2_hasRow : ByteArray := prog_4_method_10_code
def yX2_hasRow : MethodName := ⟨RX2, "hasRow", "(I)Z"⟩
abbrev cX2_number : ByteArray := prog_4_method_11_code
def yX2_number : MethodName := ⟨RX2, "number", "(IZ)I"⟩
abbrev cX2_finish : ByteArray := prog_4_method_12_code
def yX2_finish : MethodName := ⟨RX2, "finish", "(I)V"⟩
def RX3 : String := "StoreMover$Rows"
def TX3 : u_T := fun k => match k with
  | 0 => ("StoreMover$Rows", "there", "[Z", true)
  | 1 => ("StoreMover$Rows", "ones", "[I", true)
  | _ => ("StoreMover$Rows", "others", "[I", true)
def tyX3 : Nat → FieldType := fun k => match k with
  | 0 => .array .boolean
  | 1 => .array .int
  | _ => .array .int
abbrev wsX30 : List Cond := u_ws RX3 TX3 3
theorem nmX3 : ∀ a, a < 3 → ∀ b, b < 3 → a ≠ b → (TX3 a).2.1 ≠ (TX3 b).2.1 := by decide +kernel
theorem tyX3_ok : ∀ k, k < 3 → parseFieldDescriptor (TX3 k).2.2.1 = some (tyX3 k) := by decide +kernel
abbrev cX3_init : ByteArray := prog_5_method_1_code
def yX3_init : MethodName := ⟨RX3, "<init>", "()V"⟩
abbrev cX3_has : ByteArray := prog_5_method_2_code
def yX3_has : MethodName := ⟨RX3, "has", "(I)Z"⟩
abbrev cX3_number : ByteArray := prog_5_method_3_code
def yX3_number : MethodName := ⟨RX3, "number", "(IZ)I"⟩
abbrev cX3_holds : ByteArray := prog_5_method_4_code
def yX3_holds : MethodName := ⟨RX3, "holds", "(III)Z"⟩
abbrev cX3_put : ByteArray := prog_5_method_5_code
def yX3_put : MethodName := ⟨RX3, "put", "(III)V"⟩
abbrev cX3_remove : ByteArray := prog_5_method_6_code
def yX3_remove : MethodName := ⟨RX3, "remove", "(I)V"⟩
abbrev cX3_count : ByteArray := prog_5_method_7_code
def yX3_count : MethodName := ⟨RX3, "count", "()I"⟩
def RX4 : String := "StoreMover$Steps"
def TX4 : u_T := fun k => match k with
  | 0 => ("StoreMover$Steps", "kinds", "[C", true)
  | 1 => ("StoreMover$Steps", "numbers", "[I", true)
  | _ => ("StoreMover$Steps", "size", "I", false)
def tyX4 : Nat → FieldType := fun k => match k with
  | 0 => .array .char
  | 1 => .array .int
  | _ => .int
abbrev wsX40 : List Cond := u_ws RX4 TX4 3
theorem nmX4 : ∀ a, a < 3 → ∀ b, b < 3 → a ≠ b → (TX4 a).2.1 ≠ (TX4 b).2.1 := by decide +kernel
theorem tyX4_ok : ∀ k, k < 3 → parseFieldDescriptor (TX4 k).2.2.1 = some (tyX4 k) := by decide +kernel
abbrev cX4_init : ByteArray := prog_6_method_1_code
def yX4_init : MethodName := ⟨RX4, "<init>", "()V"⟩
abbrev cX4_isStep : ByteArray := prog_6_method_2_code
def yX4_isStep : MethodName := ⟨RX4, "isStep", "(CI)Z"⟩
abbrev cX4_size : ByteArray := prog_6_method_3_code
def yX4_size : MethodName := ⟨RX4, "size", "()I"⟩
abbrev cX4_isFull : ByteArray := prog_6_method_4_code
def yX4_isFull : MethodName := ⟨RX4, "isFull", "()Z"⟩
abbrev cX4_append : ByteArray := prog_6_method_5_code
def yX4_append : MethodName := ⟨RX4, "append", "(CI)V"⟩
abbrev cX4_turn : ByteArray := prog_6_method_6_code
def yX4_turn : MethodName := ⟨RX4, "turn", "(LStoreMover$Couple;)Z"⟩
abbrev cX4_turnBack : ByteArray := prog_6_method_7_code
def yX4_turnBack : MethodName := ⟨RX4, "turnBack", "(LStoreMover$Couple;)Z"⟩
def RX5 : String := "StoreMover$Target"
def TX5 : u_T := fun k => match k with
  | 0 => ("StoreMover$Target", "kinds", "[I", true)
  | 1 => ("StoreMover$Target", "stamps", "[I", true)
  | 2 => ("StoreMover$Target", "ones", "[I", true)
  | _ => ("StoreMover$Target", "others", "[I", true)
def tyX5 : Nat → FieldType := fun k => match k with
  | 0 => .array .int
  | 1 => .array .int
  | 2 => .array .int
  | _ => .array .int
abbrev wsX50 : List Cond := u_ws RX5 TX5 4
theorem nmX5 : ∀ a, a < 4 → ∀ b, b < 4 → a ≠ b → (TX5 a).2.1 ≠ (TX5 b).2.1 := by decide +kernel
theorem tyX5_ok : ∀ k, k < 4 → parseFieldDescriptor (TX5 k).2.2.1 = some (tyX5 k) := by decide +kernel
abbrev cX5_init : ByteArray := prog_7_method_1_code
def yX5_init : MethodName := ⟨RX5, "<init>", "()V"⟩
abbrev cX5_isStamped : ByteArray := prog_7_method_2_code
def yX5_isStamped : MethodName := ⟨RX5, "isStamped", "(I)Z"⟩
abbrev cX5_stampOf : ByteArray := prog_7_method_3_code
def yX5_stampOf : MethodName := ⟨RX5, "stampOf", "(I)I"⟩
abbrev cX5_givesWay : ByteArray := prog_7_method_4_code
def yX5_givesWay : MethodName := ⟨RX5, "givesWay", "(II)Z"⟩
abbrev cX5_isAside : ByteArray := prog_7_method_5_code
def yX5_isAside : MethodName := ⟨RX5, "isAside", "(I)Z"⟩
abbrev cX5_isAnyAside : ByteArray := prog_7_method_6_code
def yX5_isAnyAside : MethodName := ⟨RX5, "isAnyAside", "()Z"⟩
abbrev cX5_hasEntry : ByteArray := prog_7_method_7_code
def yX5_hasEntry : MethodName := ⟨RX5, "hasEntry", "(I)Z"⟩
abbrev cX5_number : ByteArray := prog_7_method_8_code
def yX5_number : MethodName := ⟨RX5, "number", "(IZ)I"⟩
abbrev cX5_countEntries : ByteArray := prog_7_method_9_code
def yX5_countEntries : MethodName := ⟨RX5, "countEntries", "()I"⟩
abbrev cX5_count : ByteArray := prog_7_method_10_code
def yX5_count : MethodName := ⟨RX5, "count", "(I)I"⟩
abbrev cX5_addStamps : ByteArray := prog_7_method_11_code
def yX5_addStamps : MethodName := ⟨RX5, "addStamps", "()I"⟩
abbrev cX5_putEntry : ByteArray := prog_7_method_12_code
def yX5_putEntry : MethodName := ⟨RX5, "putEntry", "(IIII)V"⟩
abbrev cX5_putAside : ByteArray := prog_7_method_13_code
def yX5_putAside : MethodName := ⟨RX5, "putAside", "(II)V"⟩
abbrev cX5_putTrace : ByteArray := prog_7_method_14_code
def yX5_putTrace : MethodName := ⟨RX5, "putTrace", "(II)V"⟩
abbrev cX5_put : ByteArray := prog_7_method_15_code
def yX5_put : MethodName := ⟨RX5, "put", "(III)V"⟩
def RX6 : String := "StoreMover"
def TX6 : u_T := fun k => match k with
  | 0 => ("StoreMover", "steps", "LStoreMover$Steps;", true)
  | 1 => ("StoreMover", "source", "LStoreMover$Rows;", true)
  | 2 => ("StoreMover", "target", "LStoreMover$Target;", true)
  | 3 => ("StoreMover", "firstLog", "LStoreMover$Log;", true)
  | 4 => ("StoreMover", "secondLog", "LStoreMover$Log;", true)
  | 5 => ("StoreMover", "copy", "LStoreMover$Parts;", true)
  | 6 => ("StoreMover", "couple", "LStoreMover$Couple;", true)
  | 7 => ("StoreMover", "phase", "C", false)
  | 8 => ("StoreMover", "followed", "I", false)
  | 9 => ("StoreMover", "nextEven", "I", false)
  | 10 => ("StoreMover", "nextOdd", "I", false)
  | _ => ("StoreMover", "rangesCompared", "I", false)
def tyX6 : Nat → FieldType := fun k => match k with
  | 0 => .object "StoreMover$Steps"
  | 1 => .object "StoreMover$Rows"
  | 2 => .object "StoreMover$Target"
  | 3 => .object "StoreMover$Log"
  | 4 => .object "StoreMover$Log"
  | 5 => .object "StoreMover$Parts"
  | 6 => .object "StoreMover$Couple"
  | 7 => .char
  | 8 => .int
  | 9 => .int
  | 10 => .int
  | _ => .int
abbrev wsX60 : List Cond := u_ws RX6 TX6 12
theorem nmX6 : ∀ a, a < 12 → ∀ b, b < 12 → a ≠ b → (TX6 a).2.1 ≠ (TX6 b).2.1 := by decide +kernel
theorem tyX6_ok : ∀ k, k < 12 → parseFieldDescriptor (TX6 k).2.2.1 = some (tyX6 k) := by decide +kernel
abbrev cX6_init : ByteArray := prog_1_method_1_code
def yX6_init : MethodName := ⟨RX6, "<init>", "()V"⟩
abbrev cX6_addStep : ByteArray := prog_1_method_2_code
def yX6_addStep : MethodName := ⟨RX6, "addStep", "(CI)I"⟩
abbrev cX6_start : ByteArray := prog_1_method_3_code
def yX6_start : MethodName := ⟨RX6, "start", "()I"⟩
abbrev cX6_phase : ByteArray := prog_1_method_4_code
def yX6_phase : MethodName := ⟨RX6, "phase", "()C"⟩
abbrev cX6_goToBoth : ByteArray := prog_1_method_5_code
def yX6_goToBoth : MethodName := ⟨RX6, "goToBoth", "()I"⟩
abbrev cX6_switchOver : ByteArray := prog_1_method_6_code
def yX6_switchOver : MethodName := ⟨RX6, "switchOver", "()I"⟩
abbrev cX6_goBack : ByteArray := prog_1_method_7_code
def yX6_goBack : MethodName := ⟨RX6, "goBack", "()I"⟩
abbrev cX6_end : ByteArray := prog_1_method_8_code
def yX6_end : MethodName := ⟨RX6, "end", "()I"⟩
abbrev cX6_write : ByteArray := prog_1_method_9_code
def yX6_write : MethodName := ⟨RX6, "write", "(III)Z"⟩
abbrev cX6_delete : ByteArray := prog_1_method_10_code
def yX6_delete : MethodName := ⟨RX6, "delete", "(I)Z"⟩
abbrev cX6_read : ByteArray := prog_1_method_11_code
def yX6_read : MethodName := ⟨RX6, "read", "(IZ)I"⟩
abbrev cX6_nextNumber : ByteArray := prog_1_method_12_code
def yX6_nextNumber : MethodName := ⟨RX6, "nextNumber", "()I"⟩
abbrev cX6_readPart : ByteArray := prog_1_method_13_code
def yX6_readPart : MethodName := ⟨RX6, "readPart", "(I)I"⟩
abbrev cX6_putDown : ByteArray := prog_1_method_14_code
def yX6_putDown : MethodName := ⟨RX6, "putDown", "(I)I"⟩
abbrev cX6_follow : ByteArray := prog_1_method_15_code
def yX6_follow : MethodName := ⟨RX6, "follow", "(I)I"⟩
abbrev cX6_left : ByteArray := prog_1_method_16_code
def yX6_left : MethodName := ⟨RX6, "left", "()I"⟩
abbrev cX6_behind : ByteArray := prog_1_method_17_code
def yX6_behind : MethodName := ⟨RX6, "behind", "()I"⟩
abbrev cX6_parts : ByteArray := prog_1_method_18_code
def yX6_parts : MethodName := ⟨RX6, "parts", "()I"⟩
abbrev cX6_state : ByteArray := prog_1_method_19_code
def yX6_state : MethodName := ⟨RX6, "state", "(I)C"⟩
abbrev cX6_stamp : ByteArray := prog_1_method_20_code
def yX6_stamp : MethodName := ⟨RX6, "stamp", "(I)I"⟩
abbrev cX6_turned : ByteArray := prog_1_method_21_code
def yX6_turned : MethodName := ⟨RX6, "turned", "(IZ)I"⟩
abbrev cX6_turnedBack : ByteArray := prog_1_method_22_code
def yX6_turnedBack : MethodName := ⟨RX6, "turnedBack", "(IZ)I"⟩
abbrev cX6_sum : ByteArray := prog_1_method_23_code
def yX6_sum : MethodName := ⟨RX6, "sum", "(ZII)J"⟩
abbrev cX6_firstUnlike : ByteArray := prog_1_method_24_code
def yX6_firstUnlike : MethodName := ⟨RX6, "firstUnlike", "(II)I"⟩
abbrev cX6_compared : ByteArray := prog_1_method_25_code
def yX6_compared : MethodName := ⟨RX6, "compared", "()I"⟩
abbrev cX6_goal : ByteArray := prog_1_method_26_code
def yX6_goal : MethodName := ⟨RX6, "goal", "(I)C"⟩
abbrev cX6_movedShare : ByteArray := prog_1_method_27_code
def yX6_movedShare : MethodName := ⟨RX6, "movedShare", "()F"⟩
abbrev cX6_isAllMoved : ByteArray := prog_1_method_28_code
def yX6_isAllMoved : MethodName := ⟨RX6, "isAllMoved", "()Z"⟩
abbrev cX6_meanStamp : ByteArray := prog_1_method_29_code
def yX6_meanStamp : MethodName := ⟨RX6, "meanStamp", "()D"⟩
abbrev cX6_isKey : ByteArray := prog_1_method_30_code
def yX6_isKey : MethodName := ⟨RX6, "isKey", "(I)Z"⟩
abbrev cX6_isWithin : ByteArray := prog_1_method_31_code
def yX6_isWithin : MethodName := ⟨RX6, "isWithin", "(II)Z"⟩
abbrev cX6_checkKey : ByteArray := prog_1_method_32_code
def yX6_checkKey : MethodName := ⟨RX6, "checkKey", "(I)V"⟩
abbrev cX6_checkRange : ByteArray := prog_1_method_33_code
def yX6_checkRange : MethodName := ⟨RX6, "checkRange", "(II)V"⟩
abbrev cX6_isTargetLive : ByteArray := prog_1_method_34_code
def yX6_isTargetLive : MethodName := ⟨RX6, "isTargetLive", "()Z"⟩
abbrev cX6_isLive : ByteArray := prog_1_method_35_code
def yX6_isLive : MethodName := ⟨RX6, "isLive", "(I)Z"⟩
abbrev cX6_isLogFull : ByteArray := prog_1_method_36_code
def yX6_isLogFull : MethodName := ⟨RX6, "isLogFull", "()Z"⟩
abbrev cX6_followUpTo : ByteArray := prog_1_method_37_code
def yX6_followUpTo : MethodName := ⟨RX6, "followUpTo", "(I)I"⟩
abbrev cX6_followNext : ByteArray := prog_1_method_38_code
def yX6_followNext : MethodName := ⟨RX6, "followNext", "()V"⟩
abbrev cX6_putRowDown : ByteArray := prog_1_method_39_code
def yX6_putRowDown : MethodName := ⟨RX6, "putRowDown", "(IIII)Z"⟩
abbrev cX6_turnRow : ByteArray := prog_1_method_40_code
def yX6_turnRow : MethodName := ⟨RX6, "turnRow", "(I)Z"⟩
abbrev cX6_turnEntryBack : ByteArray := prog_1_method_41_code
def yX6_turnEntryBack : MethodName := ⟨RX6, "turnEntryBack", "(I)Z"⟩
abbrev cX6_canComeBack : ByteArray := prog_1_method_42_code
def yX6_canComeBack : MethodName := ⟨RX6, "canComeBack", "()Z"⟩
abbrev cX6_comeBack : ByteArray := prog_1_method_43_code
def yX6_comeBack : MethodName := ⟨RX6, "comeBack", "(I)Z"⟩
abbrev cX6_stateOf : ByteArray := prog_1_method_44_code
def yX6_stateOf : MethodName := ⟨RX6, "stateOf", "(I)C"⟩
abbrev cX6_isEntryAsCouple : ByteArray := prog_1_method_45_code
def yX6_isEntryAsCouple : MethodName := ⟨RX6, "isEntryAsCouple", "(I)Z"⟩
abbrev cX6_countMoved : ByteArray := prog_1_method_46_code
def yX6_countMoved : MethodName := ⟨RX6, "countMoved", "()I"⟩
abbrev cX6_sumOfRange : ByteArray := prog_1_method_47_code
def yX6_sumOfRange : MethodName := ⟨RX6, "sumOfRange", "(ZII)J"⟩
abbrev cX6_sumOfEntry : ByteArray := prog_1_method_48_code
def yX6_sumOfEntry : MethodName := ⟨RX6, "sumOfEntry", "(I)J"⟩
abbrev cX6_sumOfRow : ByteArray := prog_1_method_49_code
def yX6_sumOfRow : MethodName := ⟨RX6, "sumOfRow", "(I)J"⟩
abbrev cX6_sumOfKey : ByteArray := prog_1_method_50_code
def yX6_sumOfKey : MethodName := ⟨RX6, "sumOfKey", "(III)J"⟩
abbrev cX6_areSumsSame : ByteArray := prog_1_method_51_code
def yX6_areSumsSame : MethodName := ⟨RX6, "areSumsSame", "(II)Z"⟩
def RX7 : String := "StoreMoverModel"
def TX7 : u_T := fun k => match k with
  | 0 => ("StoreMoverModel", "kinds", "[C", true)
  | 1 => ("StoreMoverModel", "held", "[C", true)
  | 2 => ("StoreMoverModel", "numbers", "[I", true)
  | 3 => ("StoreMoverModel", "as", "[I", true)
  | 4 => ("StoreMoverModel", "bs", "[I", true)
  | 5 => ("StoreMoverModel", "ps", "[I", true)
  | 6 => ("StoreMoverModel", "qs", "[I", true)
  | 7 => ("StoreMoverModel", "stamps", "[I", true)
  | 8 => ("StoreMoverModel", "areRows", "[Z", true)
  | 9 => ("StoreMoverModel", "areNamed", "[Z", true)
  | 10 => ("StoreMoverModel", "keys", "[I", true)
  | 11 => ("StoreMoverModel", "ones", "[I", true)
  | 12 => ("StoreMoverModel", "others", "[I", true)
  | 13 => ("StoreMoverModel", "partNumbers", "[I", true)
  | 14 => ("StoreMoverModel", "partStamps", "[I", true)
  | 15 => ("StoreMoverModel", "partOnes", "[I", true)
  | 16 => ("StoreMoverModel", "partOthers", "[I", true)
  | 17 => ("StoreMoverModel", "areDeletions", "[Z", true)
  | 18 => ("StoreMoverModel", "arePartRows", "[Z", true)
  | 19 => ("StoreMoverModel", "thrown", "I", false)
  | 20 => ("StoreMoverModel", "steps", "I", false)
  | 21 => ("StoreMoverModel", "changes", "I", false)
  | 22 => ("StoreMoverModel", "followed", "I", false)
  | 23 => ("StoreMoverModel", "secondChanges", "I", false)
  | 24 => ("StoreMoverModel", "read", "I", false)
  | 25 => ("StoreMoverModel", "parts", "I", false)
  | 26 => ("StoreMoverModel", "partsWaiting", "I", false)
  | 27 => ("StoreMoverModel", "evens", "I", false)
  | 28 => ("StoreMoverModel", "odds", "I", false)
  | 29 => ("StoreMoverModel", "compared", "I", false)
  | 30 => ("StoreMoverModel", "first", "I", false)
  | 31 => ("StoreMoverModel", "second", "I", false)
  | _ => ("StoreMoverModel", "phase", "C", false)
def tyX7 : Nat → FieldType := fun k => match k with
  | 0 => .array .char
  | 1 => .array .char
  | 2 => .array .int
  | 3 => .array .int
  | 4 => .array .int
  | 5 => .array .int
  | 6 => .array .int
  | 7 => .array .int
  | 8 => .array .boolean
  | 9 => .array .boolean
  | 10 => .array .int
  | 11 => .array .int
  | 12 => .array .int
  | 13 => .array .int
  | 14 => .array .int
  | 15 => .array .int
  | 16 => .array .int
  | 17 => .array .boolean
  | 18 => .array .boolean
  | 19 => .int
  | 20 => .int
  | 21 => .int
  | 22 => .int
  | 23 => .int
  | 24 => .int
  | 25 => .int
  | 26 => .int
  | 27 => .int
  | 28 => .int
  | 29 => .int
  | 30 => .int
  | 31 => .int
  | _ => .char
abbrev wsX70 : List Cond := u_ws RX7 TX7 33
theorem nmX7 : ∀ a, a < 33 → ∀ b, b < 33 → a ≠ b → (TX7 a).2.1 ≠ (TX7 b).2.1 := by decide +kernel
theorem tyX7_ok : ∀ k, k < 33 → parseFieldDescriptor (TX7 k).2.2.1 = some (tyX7 k) := by decide +kernel
abbrev cX7_init : ByteArray := prog_9_method_1_code
def yX7_init : MethodName := ⟨RX7, "<init>", "()V"⟩
abbrev cX7_thrown : ByteArray := prog_9_method_2_code
def yX7_thrown : MethodName := ⟨RX7, "thrown", "()I"⟩
abbrev cX7_in : ByteArray := prog_9_method_3_code
def yX7_in : MethodName := ⟨RX7, "in", "(III)Z"⟩
abbrev cX7_plain : ByteArray := prog_9_method_4_code
def yX7_plain : MethodName := ⟨RX7, "plain", "(I)I"⟩
abbrev cX7_checked : ByteArray := prog_9_method_5_code
def yX7_checked : MethodName := ⟨RX7, "checked", "(Z)I"⟩
abbrev cX7_isKey : ByteArray := prog_9_method_6_code
def yX7_isKey : MethodName := ⟨RX7, "isKey", "(I)Z"⟩
abbrev cX7_isByTarget : ByteArray := prog_9_method_7_code
def yX7_isByTarget : MethodName := ⟨RX7, "isByTarget", "()Z"⟩
abbrev cX7_areWithin : ByteArray := prog_9_method_8_code
def yX7_areWithin : MethodName := ⟨RX7, "areWithin", "(I)Z"⟩
abbrev cX7_steps : ByteArray := prog_9_method_9_code
def yX7_steps : MethodName := ⟨RX7, "steps", "(I)V"⟩
abbrev cX7_exchanges : ByteArray := prog_9_method_10_code
def yX7_exchanges : MethodName := ⟨RX7, "exchanges", "()V"⟩
abbrev cX7_turns : ByteArray := prog_9_method_11_code
def yX7_turns : MethodName := ⟨RX7, "turns", "(II)Z"⟩
abbrev cX7_turnsBack : ByteArray := prog_9_method_12_code
def yX7_turnsBack : MethodName := ⟨RX7, "turnsBack", "(II)Z"⟩
abbrev cX7_isKind : ByteArray := prog_9_method_13_code
def yX7_isKind : MethodName := ⟨RX7, "isKind", "(C)Z"⟩
abbrev cX7_isNumber : ByteArray := prog_9_method_14_code
def yX7_isNumber : MethodName := ⟨RX7, "isNumber", "(CI)Z"⟩
abbrev cX7_addStep : ByteArray := prog_9_method_15_code
def yX7_addStep : MethodName := ⟨RX7, "addStep", "(CI)I"⟩
abbrev cX7_isLater : ByteArray := prog_9_method_16_code
def yX7_isLater : MethodName := ⟨RX7, "isLater", "(II)Z"⟩
abbrev cX7_holds : ByteArray := prog_9_method_17_code
def yX7_holds : MethodName := ⟨RX7, "holds", "(ICI)V"⟩
abbrev cX7_puts : ByteArray := prog_9_method_18_code
def yX7_puts : MethodName := ⟨RX7, "puts", "(IIII)Z"⟩
abbrev cX7_takesAway : ByteArray := prog_9_method_19_code
def yX7_takesAway : MethodName := ⟨RX7, "takesAway", "(II)V"⟩
abbrev cX7_followsOne : ByteArray := prog_9_method_20_code
def yX7_followsOne : MethodName := ⟨RX7, "followsOne", "()V"⟩
abbrev cX7_logs : ByteArray := prog_9_method_21_code
def yX7_logs : MethodName := ⟨RX7, "logs", "(IZII)V"⟩
abbrev cX7_manyRows : ByteArray := prog_9_method_22_code
def yX7_manyRows : MethodName := ⟨RX7, "manyRows", "()I"⟩
abbrev cX7_manyHeld : ByteArray := prog_9_method_23_code
def yX7_manyHeld : MethodName := ⟨RX7, "manyHeld", "(C)I"⟩
abbrev cX7_start : ByteArray := prog_9_method_24_code
def yX7_start : MethodName := ⟨RX7, "start", "()I"⟩
abbrev cX7_phase : ByteArray := prog_9_method_25_code
def yX7_phase : MethodName := ⟨RX7, "phase", "()C"⟩
abbrev cX7_goToBoth : ByteArray := prog_9_method_26_code
def yX7_goToBoth : MethodName := ⟨RX7, "goToBoth", "()I"⟩
abbrev cX7_switchOver : ByteArray := prog_9_method_27_code
def yX7_switchOver : MethodName := ⟨RX7, "switchOver", "()I"⟩
abbrev cX7_canGoBack : ByteArray := prog_9_method_28_code
def yX7_canGoBack : MethodName := ⟨RX7, "canGoBack", "()Z"⟩
abbrev cX7_goesBack : ByteArray := prog_9_method_29_code
def yX7_goesBack : MethodName := ⟨RX7, "goesBack", "(I)Z"⟩
abbrev cX7_goBack : ByteArray := prog_9_method_30_code
def yX7_goBack : MethodName := ⟨RX7, "goBack", "()I"⟩
abbrev cX7_end : ByteArray := prog_9_method_31_code
def yX7_end : MethodName := ⟨RX7, "end", "()I"⟩
abbrev cX7_isLogFull : ByteArray := prog_9_method_32_code
def yX7_isLogFull : MethodName := ⟨RX7, "isLogFull", "()Z"⟩
abbrev cX7_write : ByteArray := prog_9_method_33_code
def yX7_write : MethodName := ⟨RX7, "write", "(III)Z"⟩
abbrev cX7_names : ByteArray := prog_9_method_34_code
def yX7_names : MethodName := ⟨RX7, "names", "(I)V"⟩
abbrev cX7_writesTarget : ByteArray := prog_9_method_35_code
def yX7_writesTarget : MethodName := ⟨RX7, "writesTarget", "(III)Z"⟩
abbrev cX7_delete : ByteArray := prog_9_method_36_code
def yX7_delete : MethodName := ⟨RX7, "delete", "(I)Z"⟩
abbrev cX7_read : ByteArray := prog_9_method_37_code
def yX7_read : MethodName := ⟨RX7, "read", "(IZ)I"⟩
abbrev cX7_nextNumber : ByteArray := prog_9_method_38_code
def yX7_nextNumber : MethodName := ⟨RX7, "nextNumber", "()I"⟩
abbrev cX7_freePart : ByteArray := prog_9_method_39_code
def yX7_freePart : MethodName := ⟨RX7, "freePart", "()I"⟩
abbrev cX7_readPart : ByteArray := prog_9_method_40_code
def yX7_readPart : MethodName := ⟨RX7, "readPart", "(I)I"⟩
abbrev cX7_placeOf : ByteArray := prog_9_method_41_code
def yX7_placeOf : MethodName := ⟨RX7, "placeOf", "(I)I"⟩
abbrev cX7_putDown : ByteArray := prog_9_method_42_code
def yX7_putDown : MethodName := ⟨RX7, "putDown", "(I)I"⟩
abbrev cX7_follow : ByteArray := prog_9_method_43_code
def yX7_follow : MethodName := ⟨RX7, "follow", "(I)I"⟩
abbrev cX7_left : ByteArray := prog_9_method_44_code
def yX7_left : MethodName := ⟨RX7, "left", "()I"⟩
abbrev cX7_behind : ByteArray := prog_9_method_45_code
def yX7_behind : MethodName := ⟨RX7, "behind", "()I"⟩
abbrev cX7_parts : ByteArray := prog_9_method_46_code
def yX7_parts : MethodName := ⟨RX7, "parts", "()I"⟩
abbrev cX7_stateOf : ByteArray := prog_9_method_47_code
def yX7_stateOf : MethodName := ⟨RX7, "stateOf", "(I)C"⟩
abbrev cX7_state : ByteArray := prog_9_method_48_code
def yX7_state : MethodName := ⟨RX7, "state", "(I)C"⟩
abbrev cX7_stamp : ByteArray := prog_9_method_49_code
def yX7_stamp : MethodName := ⟨RX7, "stamp", "(I)I"⟩
abbrev cX7_turned : ByteArray := prog_9_method_50_code
def yX7_turned : MethodName := ⟨RX7, "turned", "(IZ)I"⟩
abbrev cX7_turnedBack : ByteArray := prog_9_method_51_code
def yX7_turnedBack : MethodName := ⟨RX7, "turnedBack", "(IZ)I"⟩
abbrev cX7_sumOf : ByteArray := prog_9_method_52_code
def yX7_sumOf : MethodName := ⟨RX7, "sumOf", "(ZII)J"⟩
abbrev cX7_isRange : ByteArray := prog_9_method_53_code
def yX7_isRange : MethodName := ⟨RX7, "isRange", "(II)Z"⟩
abbrev cX7_sum : ByteArray := prog_9_method_54_code
def yX7_sum : MethodName := ⟨RX7, "sum", "(ZII)J"⟩
abbrev cX7_areUnlike : ByteArray := prog_9_method_55_code
def yX7_areUnlike : MethodName := ⟨RX7, "areUnlike", "(II)Z"⟩
abbrev cX7_firstUnlike : ByteArray := prog_9_method_56_code
def yX7_firstUnlike : MethodName := ⟨RX7, "firstUnlike", "(II)I"⟩
abbrev cX7_compared : ByteArray := prog_9_method_57_code
def yX7_compared : MethodName := ⟨RX7, "compared", "()I"⟩
abbrev cX7_goal : ByteArray := prog_9_method_58_code
def yX7_goal : MethodName := ⟨RX7, "goal", "(I)C"⟩
abbrev cX7_manyMoved : ByteArray := prog_9_method_59_code
def yX7_manyMoved : MethodName := ⟨RX7, "manyMoved", "()I"⟩
abbrev cX7_movedShare : ByteArray := prog_9_method_60_code
def yX7_movedShare : MethodName := ⟨RX7, "movedShare", "()F"⟩
abbrev cX7_isAllMoved : ByteArray := prog_9_method_61_code
def yX7_isAllMoved : MethodName := ⟨RX7, "isAllMoved", "()Z"⟩
abbrev cX7_meanStamp : ByteArray := prog_9_method_62_code
def yX7_meanStamp : MethodName := ⟨RX7, "meanStamp", "()D"⟩
def RJx145de : String := "java/io/Serializable"
def TJx145de : u_T := fun k => match k with
  | _ => ("", "", "", false)
def tyJx145de : Nat → FieldType := fun k => match k with
  | _ => .int
abbrev wsJx145de0 : List Cond := u_ws RJx145de TJx145de 0
theorem nmJx145de : ∀ a, a < 0 → ∀ b, b < 0 → a ≠ b → (TJx145de a).2.1 ≠ (TJx145de b).2.1 := by decide +kernel
theorem tyJx145de_ok : ∀ k, k < 0 → parseFieldDescriptor (TJx145de k).2.2.1 = some (tyJx145de k) := by decide +kernel
def RJx00060 : String := "java/lang/ArrayIndexOutOfBoundsException"
def TJx00060 : u_T := fun k => match k with
  | 0 => ("java/lang/Throwable", "backtrace", "Ljava/lang/Object;", false)
  | 1 => ("java/lang/Throwable", "detailMessage", "Ljava/lang/String;", false)
  | 2 => ("java/lang/Throwable", "cause", "Ljava/lang/Throwable;", false)
  | 3 => ("java/lang/Throwable", "stackTrace", "[Ljava/lang/StackTraceElement;", false)
  | 4 => ("java/lang/Throwable", "depth", "I", false)
  | _ => ("java/lang/Throwable", "suppressedExceptions", "Ljava/util/List;", false)
def tyJx00060 : Nat → FieldType := fun k => match k with
  | 0 => .object "java/lang/Object"
  | 1 => .object "java/lang/String"
  | 2 => .object "java/lang/Throwable"
  | 3 => .array (.object "java/lang/StackTraceElement")
  | 4 => .int
  | _ => .object "java/util/List"
abbrev wsJx000600 : List Cond := u_ws RJx00060 TJx00060 6
theorem nmJx00060 : ∀ a, a < 6 → ∀ b, b < 6 → a ≠ b → (TJx00060 a).2.1 ≠ (TJx00060 b).2.1 := by decide +kernel
theorem tyJx00060_ok : ∀ k, k < 6 → parseFieldDescriptor (TJx00060 k).2.2.1 = some (tyJx00060 k) := by decide +kernel
abbrev cJx00060_init_a7421 : ByteArray := prog_12_method_2_code
def yJx00060_init_a7421 : MethodName := ⟨RJx00060, "<init>", "(Ljava/lang/String;)V"⟩
def RJ9 : String := "java/lang/Math"
def TJ9 : u_T := fun k => match k with
  | _ => ("", "", "", false)
def tyJ9 : Nat → FieldType := fun k => match k with
  | _ => .int
abbrev wsJ90 : List Cond := u_ws RJ9 TJ9 0
theorem nmJ9 : ∀ a, a < 0 → ∀ b, b < 0 → a ≠ b → (TJ9 a).2.1 ≠ (TJ9 b).2.1 := by decide +kernel
theorem tyJ9_ok : ∀ k, k < 0 → parseFieldDescriptor (TJ9 k).2.2.1 = some (tyJ9 k) := by decide +kernel
abbrev cJ9_min_7cf53 : ByteArray := prog_17_method_69_code
def yJ9_min_7cf53 : MethodName := ⟨RJ9, "min", "(II)I"⟩
def RJ0 : String := "java/lang/String"
def TJ0 : u_T := fun k => match k with
  | 0 => ("java/lang/String", "value", "[B", true)
  | _ => ("java/lang/String", "coder", "B", true)
def tyJ0 : Nat → FieldType := fun k => match k with
  | 0 => .array .byte
  | _ => .byte
abbrev wsJ00 : List Cond := u_ws RJ0 TJ0 2
theorem nmJ0 : ∀ a, a < 2 → ∀ b, b < 2 → a ≠ b → (TJ0 a).2.1 ≠ (TJ0 b).2.1 := by decide +kernel
theorem tyJ0_ok : ∀ k, k < 2 → parseFieldDescriptor (TJ0 k).2.2.1 = some (tyJ0 k) := by decide +kernel
def RL : String := "StoreMoverLaw"
abbrev cL_addStep : ByteArray := method_3_code
def yL_addStep : MethodName := ⟨RL, "addStep", "(LStoreMover;CI[J)I"⟩
abbrev cL_start : ByteArray := method_4_code
def yL_start : MethodName := ⟨RL, "start", "(LStoreMover;[J)I"⟩
abbrev cL_goToBoth : ByteArray := method_5_code
def yL_goToBoth : MethodName := ⟨RL, "goToBoth", "(LStoreMover;[J)I"⟩
abbrev cL_switchOver : ByteArray := method_6_code
def yL_switchOver : MethodName := ⟨RL, "switchOver", "(LStoreMover;[J)I"⟩
abbrev cL_goBack : ByteArray := method_7_code
def yL_goBack : MethodName := ⟨RL, "goBack", "(LStoreMover;[J)I"⟩
abbrev cL_end : ByteArray := method_8_code
def yL_end : MethodName := ⟨RL, "end", "(LStoreMover;[J)I"⟩
abbrev cL_write : ByteArray := method_9_code
def yL_write : MethodName := ⟨RL, "write", "(LStoreMover;III[J)I"⟩
abbrev cL_delete : ByteArray := method_10_code
def yL_delete : MethodName := ⟨RL, "delete", "(LStoreMover;I[J)I"⟩
abbrev cL_read : ByteArray := method_11_code
def yL_read : MethodName := ⟨RL, "read", "(LStoreMover;IZ[J)I"⟩
abbrev cL_nextNumber : ByteArray := method_12_code
def yL_nextNumber : MethodName := ⟨RL, "nextNumber", "(LStoreMover;[J)I"⟩
abbrev cL_readPart : ByteArray := method_13_code
def yL_readPart : MethodName := ⟨RL, "readPart", "(LStoreMover;I[J)I"⟩
abbrev cL_putDown : ByteArray := method_14_code
def yL_putDown : MethodName := ⟨RL, "putDown", "(LStoreMover;I[J)I"⟩
abbrev cL_follow : ByteArray := method_15_code
def yL_follow : MethodName := ⟨RL, "follow", "(LStoreMover;I[J)I"⟩
abbrev cL_state : ByteArray := method_16_code
def yL_state : MethodName := ⟨RL, "state", "(LStoreMover;I[J)I"⟩
abbrev cL_stamp : ByteArray := method_17_code
def yL_stamp : MethodName := ⟨RL, "stamp", "(LStoreMover;I[J)I"⟩
abbrev cL_turned : ByteArray := method_18_code
def yL_turned : MethodName := ⟨RL, "turned", "(LStoreMover;IZ[J)I"⟩
abbrev cL_turnedBack : ByteArray := method_19_code
def yL_turnedBack : MethodName := ⟨RL, "turnedBack", "(LStoreMover;IZ[J)I"⟩
abbrev cL_sum : ByteArray := method_20_code
def yL_sum : MethodName := ⟨RL, "sum", "(LStoreMover;ZII[J)I"⟩
abbrev cL_firstUnlike : ByteArray := method_21_code
def yL_firstUnlike : MethodName := ⟨RL, "firstUnlike", "(LStoreMover;II[J)I"⟩
abbrev cL_goal : ByteArray := method_22_code
def yL_goal : MethodName := ⟨RL, "goal", "(LStoreMover;I[J)I"⟩
abbrev cL_movedShare : ByteArray := method_23_code
def yL_movedShare : MethodName := ⟨RL, "movedShare", "(LStoreMover;[D)I"⟩
abbrev cL_meanStamp : ByteArray := method_24_code
def yL_meanStamp : MethodName := ⟨RL, "meanStamp", "(LStoreMover;[D)I"⟩
abbrev cL_law : ByteArray := code
def yL_law : MethodName := ⟨RL, "law", "([I)Z"⟩
def wsJx00060_init_a7421 : List Cond := .code yJx00060_init_a7421 cJx00060_init_a7421 2 none :: ([])
def wsJ9_min_7cf53 : List Cond := .code yJ9_min_7cf53 cJ9_min_7cf53 2 (some .int) :: ([])
def wsL_law0_r1 : List Cond := [Cond.classLink RL 8 RX6, Cond.instantiable RX6 12, Cond.initialized RX6, Cond.classLink RL 99 RX7, Cond.instantiable RX7 33, Cond.initialized RX7, Cond.arrayClass .long, Cond.arrayClass .double, Cond.methodLink RL 98 yX6_init, Cond.instanceMethod yX6_init, Cond.code yX6_init cX6_init 1 none, Cond.methodLink RX6 1 objectInit, Cond.instanceMethod objectInit, Cond.code objectInit ⟨#[0xb1]⟩ 1 none, Cond.classLink RX6 7 RX4, Cond.instantiable RX4 3, Cond.initialized RX4, Cond.fieldLink RX6 10 "StoreMover" "steps" "LStoreMover$Steps;", Cond.classLink RX6 16 RX3, Cond.instantiable RX3 3, Cond.initialized RX3, Cond.fieldLink RX6 19 "StoreMover" "source" "LStoreMover$Rows;", Cond.classLink RX6 23 RX5, Cond.instantiable RX5 4]
def wsL_law0_r2 : List Cond := [Cond.initialized RX5, Cond.fieldLink RX6 26 "StoreMover" "target" "LStoreMover$Target;", Cond.classLink RX6 30 RX1, Cond.instantiable RX1 5, Cond.initialized RX1, Cond.fieldLink RX6 33 "StoreMover" "firstLog" "LStoreMover$Log;", Cond.fieldLink RX6 37 "StoreMover" "secondLog" "LStoreMover$Log;", Cond.classLink RX6 40 RX2, Cond.instantiable RX2 8, Cond.initialized RX2, Cond.fieldLink RX6 43 "StoreMover" "copy" "LStoreMover$Parts;", Cond.classLink RX6 47 RX0, Cond.instantiable RX0 2, Cond.initialized RX0, Cond.fieldLink RX6 50 "StoreMover" "couple" "LStoreMover$Couple;", Cond.fieldLink RX6 54 "StoreMover" "phase" "C", Cond.fieldLink RX6 58 "StoreMover" "followed" "I", Cond.fieldLink RX6 62 "StoreMover" "nextEven" "I", Cond.fieldLink RX6 65 "StoreMover" "nextOdd" "I", Cond.fieldLink RX6 68 "StoreMover" "rangesCompared" "I", Cond.instanceMethod yX4_init, Cond.code yX4_init cX4_init 1 none, Cond.methodLink RX4 3 objectInit, Cond.arrayClass .char]
def wsL_law0_r3 : List Cond := [Cond.fieldLink RX4 9 "StoreMover$Steps" "kinds" "[C", Cond.arrayClass .int, Cond.fieldLink RX4 15 "StoreMover$Steps" "numbers" "[I", Cond.instanceMethod yX3_init, Cond.code yX3_init cX3_init 1 none, Cond.methodLink RX3 3 objectInit, Cond.arrayClass .boolean, Cond.fieldLink RX3 9 "StoreMover$Rows" "there" "[Z", Cond.fieldLink RX3 15 "StoreMover$Rows" "ones" "[I", Cond.fieldLink RX3 19 "StoreMover$Rows" "others" "[I", Cond.instanceMethod yX5_init, Cond.code yX5_init cX5_init 1 none, Cond.methodLink RX5 3 objectInit, Cond.fieldLink RX5 9 "StoreMover$Target" "kinds" "[I", Cond.fieldLink RX5 15 "StoreMover$Target" "stamps" "[I", Cond.fieldLink RX5 18 "StoreMover$Target" "ones" "[I", Cond.fieldLink RX5 21 "StoreMover$Target" "others" "[I", Cond.instanceMethod yX1_init, Cond.code yX1_init cX1_init 1 none, Cond.methodLink RX1 3 objectInit, Cond.fieldLink RX1 9 "StoreMover$Log" "keys" "[I", Cond.fieldLink RX1 15 "StoreMover$Log" "deletions" "[Z", Cond.fieldLink RX1 19 "StoreMover$Log" "ones" "[I", Cond.fieldLink RX1 22 "StoreMover$Log" "others" "[I"]
def wsL_law0_r4 : List Cond := [Cond.instanceMethod yX2_init, Cond.code yX2_init cX2_init 1 none, Cond.methodLink RX2 3 objectInit, Cond.classLink RX2 9 RX3, Cond.fieldLink RX2 12 "StoreMover$Parts" "rows" "LStoreMover$Rows;", Cond.fieldLink RX2 18 "StoreMover$Parts" "lows" "[I", Cond.fieldLink RX2 22 "StoreMover$Parts" "ends" "[I", Cond.fieldLink RX2 25 "StoreMover$Parts" "stamps" "[I", Cond.fieldLink RX2 28 "StoreMover$Parts" "waits" "[Z", Cond.instanceMethod yX0_init, Cond.code yX0_init cX0_init 1 none, Cond.methodLink RX0 1 objectInit, Cond.methodLink RL 101 yX7_init, Cond.instanceMethod yX7_init, Cond.code yX7_init cX7_init 2 none, Cond.methodLink RX7 1 objectInit, Cond.fieldLink RX7 7 "StoreMoverModel" "kinds" "[C", Cond.fieldLink RX7 13 "StoreMoverModel" "held" "[C", Cond.fieldLink RX7 16 "StoreMoverModel" "numbers" "[I", Cond.fieldLink RX7 20 "StoreMoverModel" "as" "[I", Cond.fieldLink RX7 23 "StoreMoverModel" "bs" "[I", Cond.fieldLink RX7 26 "StoreMoverModel" "ps" "[I", Cond.fieldLink RX7 29 "StoreMoverModel" "qs" "[I", Cond.fieldLink RX7 32 "StoreMoverModel" "stamps" "[I"]
def wsL_law0_r5 : List Cond := [Cond.fieldLink RX7 35 "StoreMoverModel" "areRows" "[Z", Cond.fieldLink RX7 39 "StoreMoverModel" "areNamed" "[Z", Cond.fieldLink RX7 42 "StoreMoverModel" "keys" "[I", Cond.fieldLink RX7 45 "StoreMoverModel" "ones" "[I", Cond.fieldLink RX7 48 "StoreMoverModel" "others" "[I", Cond.fieldLink RX7 51 "StoreMoverModel" "partNumbers" "[I", Cond.fieldLink RX7 54 "StoreMoverModel" "partStamps" "[I", Cond.fieldLink RX7 57 "StoreMoverModel" "partOnes" "[I", Cond.fieldLink RX7 60 "StoreMoverModel" "partOthers" "[I", Cond.fieldLink RX7 63 "StoreMoverModel" "areDeletions" "[Z", Cond.fieldLink RX7 66 "StoreMoverModel" "arePartRows" "[Z", Cond.fieldLink RX7 69 "StoreMoverModel" "thrown" "I", Cond.fieldLink RX7 73 "StoreMoverModel" "steps" "I", Cond.fieldLink RX7 76 "StoreMoverModel" "changes" "I", Cond.fieldLink RX7 79 "StoreMoverModel" "followed" "I", Cond.fieldLink RX7 82 "StoreMoverModel" "secondChanges" "I", Cond.fieldLink RX7 85 "StoreMoverModel" "read" "I", Cond.fieldLink RX7 88 "StoreMoverModel" "parts" "I", Cond.fieldLink RX7 91 "StoreMoverModel" "partsWaiting" "I", Cond.fieldLink RX7 94 "StoreMoverModel" "evens" "I", Cond.fieldLink RX7 97 "StoreMoverModel" "odds" "I", Cond.fieldLink RX7 100 "StoreMoverModel" "compared" "I", Cond.fieldLink RX7 103 "StoreMoverModel" "first" "I", Cond.fieldLink RX7 106 "StoreMoverModel" "second" "I"]
def wsL_law0_r6 : List Cond := [Cond.fieldLink RX7 109 "StoreMoverModel" "phase" "C", Cond.methodLink RL 102 yL_addStep, Cond.static yL_addStep, Cond.initialized RL, Cond.codeWith yL_addStep cL_addStep 5 (some .int) [(0, 10, 13, 13), (0, 10, 17, 15)], Cond.classLink RL 13 "java/lang/IllegalArgumentException", Cond.classLink RL 15 "java/lang/IllegalStateException", Cond.methodLink RL 7 yX6_addStep, Cond.instanceMethod yX6_addStep, Cond.selects RX6 yX6_addStep yX6_addStep, Cond.code yX6_addStep cX6_addStep 3 (some .int), Cond.classLink RX6 75 "java/lang/IllegalArgumentException", Cond.initialized "java/lang/IllegalArgumentException", Cond.classLink RX6 86 "java/lang/IllegalStateException", Cond.initialized "java/lang/IllegalStateException", Cond.methodLink RX6 71 yX4_isStep, Cond.static yX4_isStep, Cond.code yX4_isStep cX4_isStep 2 (some .boolean), Cond.static yX6_isWithin, Cond.code yX6_isWithin cX6_isWithin 2 (some .boolean), Cond.methodLink RX6 82 yX4_isFull, Cond.instanceMethod yX4_isFull, Cond.selects RX4 yX4_isFull yX4_isFull, Cond.code yX4_isFull cX4_isFull 1 (some .boolean)]
def wsL_law0_r7 : List Cond := [Cond.fieldLink RX4 23 "StoreMover$Steps" "size" "I", Cond.methodLink RX6 91 yX4_append, Cond.instanceMethod yX4_append, Cond.selects RX4 yX4_append yX4_append, Cond.code yX4_append cX4_append 3 none, Cond.methodLink RX6 95 yX4_size, Cond.instanceMethod yX4_size, Cond.selects RX4 yX4_size yX4_size, Cond.code yX4_size cX4_size 1 (some .int), Cond.methodLink RL 107 yX7_addStep, Cond.instanceMethod yX7_addStep, Cond.selects RX7 yX7_addStep yX7_addStep, Cond.code yX7_addStep cX7_addStep 3 (some .int), Cond.methodLink RX7 128 yX7_isKind, Cond.static yX7_isKind, Cond.code yX7_isKind cX7_isKind 1 (some .boolean), Cond.methodLink RX7 132 yX7_isNumber, Cond.static yX7_isNumber, Cond.code yX7_isNumber cX7_isNumber 2 (some .boolean), Cond.methodLink RX7 113 yX7_in, Cond.static yX7_in, Cond.code yX7_in cX7_in 3 (some .boolean), Cond.methodLink RL 108 yX7_thrown, Cond.instanceMethod yX7_thrown]
def wsL_law0_r8 : List Cond := [Cond.selects RX7 yX7_thrown yX7_thrown, Cond.code yX7_thrown cX7_thrown 1 (some .int), Cond.methodLink RL 111 yL_start, Cond.static yL_start, Cond.codeWith yL_start cL_start 3 (some .int) [(0, 8, 11, 15)], Cond.methodLink RL 17 yX6_start, Cond.instanceMethod yX6_start, Cond.selects RX6 yX6_start yX6_start, Cond.code yX6_start cX6_start 1 (some .int), Cond.methodLink RX6 101 yX3_count, Cond.instanceMethod yX3_count, Cond.selects RX3 yX3_count yX3_count, Cond.code yX3_count cX3_count 3 (some .int), Cond.methodLink RL 114 yX7_start, Cond.instanceMethod yX7_start, Cond.selects RX7 yX7_start yX7_start, Cond.code yX7_start cX7_start 1 (some .int), Cond.methodLink RX7 158 yX7_checked, Cond.instanceMethod yX7_checked, Cond.selects RX7 yX7_checked yX7_checked, Cond.code yX7_checked cX7_checked 2 (some .int), Cond.methodLink RX7 162 yX7_manyRows, Cond.instanceMethod yX7_manyRows, Cond.selects RX7 yX7_manyRows yX7_manyRows]
def wsL_law0_r9 : List Cond := [Cond.code yX7_manyRows cX7_manyRows 3 (some .int), Cond.methodLink RL 115 yX6_phase, Cond.instanceMethod yX6_phase, Cond.selects RX6 yX6_phase yX6_phase, Cond.code yX6_phase cX6_phase 1 (some .char), Cond.methodLink RL 119 yX7_phase, Cond.instanceMethod yX7_phase, Cond.selects RX7 yX7_phase yX7_phase, Cond.code yX7_phase cX7_phase 1 (some .char), Cond.methodLink RL 120 yL_goToBoth, Cond.static yL_goToBoth, Cond.codeWith yL_goToBoth cL_goToBoth 3 (some .int) [(0, 8, 11, 15), (0, 8, 14, 24)], Cond.classLink RL 24 "java/lang/UnsupportedOperationException", Cond.methodLink RL 21 yX6_goToBoth, Cond.instanceMethod yX6_goToBoth, Cond.selects RX6 yX6_goToBoth yX6_goToBoth, Cond.code yX6_goToBoth cX6_goToBoth 2 (some .int), Cond.classLink RX6 112 "java/lang/UnsupportedOperationException", Cond.initialized "java/lang/UnsupportedOperationException", Cond.methodLink RX6 106 yX2_keysLeft, Cond.instanceMethod yX2_keysLeft, Cond.selects RX2 yX2_keysLeft yX2_keysLeft, Cond.code yX2_keysLeft cX2_keysLeft 1 (some .int), Cond.fieldLink RX2 32 "StoreMover$Parts" "nextKey" "I"]
def wsL_law0_r10 : List Cond := [Cond.methodLink RX6 109 yX2_waiting, Cond.instanceMethod yX2_waiting, Cond.selects RX2 yX2_waiting yX2_waiting, Cond.code yX2_waiting cX2_waiting 1 (some .int), Cond.fieldLink RX2 36 "StoreMover$Parts" "waiting" "I", Cond.methodLink RX6 117 yX6_followUpTo, Cond.instanceMethod yX6_followUpTo, Cond.selects RX6 yX6_followUpTo yX6_followUpTo, Cond.code yX6_followUpTo cX6_followUpTo 4 (some .int), Cond.methodLink RX6 316 Lib.Math.min.name, Cond.static Lib.Math.min.name, Cond.initialized "java/lang/Math", Cond.code Lib.Math.min.name Lib.Math.min.code 2 (some .int), Cond.methodLink RX6 142 yX1_size, Cond.instanceMethod yX1_size, Cond.selects RX1 yX1_size yX1_size, Cond.code yX1_size cX1_size 1 (some .int), Cond.fieldLink RX1 25 "StoreMover$Log" "size" "I", Cond.methodLink RX6 183 yX6_followNext, Cond.instanceMethod yX6_followNext, Cond.selects RX6 yX6_followNext yX6_followNext, Cond.code yX6_followNext cX6_followNext 4 none, Cond.methodLink RX6 143 yX1_key, Cond.instanceMethod yX1_key]
def wsL_law0_r11 : List Cond := [Cond.selects RX1 yX1_key yX1_key, Cond.code yX1_key cX1_key 2 (some .int), Cond.methodLink RX1 33 yX1_isIndex, Cond.static yX1_isIndex, Cond.code yX1_isIndex cX1_isIndex 1 (some .boolean), Cond.methodLink RX6 322 yX1_isDeletion, Cond.instanceMethod yX1_isDeletion, Cond.selects RX1 yX1_isDeletion yX1_isDeletion, Cond.code yX1_isDeletion cX1_isDeletion 2 (some .boolean), Cond.methodLink RX6 325 yX1_number, Cond.instanceMethod yX1_number, Cond.selects RX1 yX1_number yX1_number, Cond.code yX1_number cX1_number 3 (some .int), Cond.methodLink RX6 245 yX6_putRowDown, Cond.instanceMethod yX6_putRowDown, Cond.selects RX6 yX6_putRowDown yX6_putRowDown, Cond.code yX6_putRowDown cX6_putRowDown 5 (some .boolean), Cond.methodLink RX6 326 yX5_givesWay, Cond.instanceMethod yX5_givesWay, Cond.selects RX5 yX5_givesWay yX5_givesWay, Cond.code yX5_givesWay cX5_givesWay 3 (some .boolean), Cond.methodLink RX5 28 yX5_isStamped, Cond.instanceMethod yX5_isStamped, Cond.selects RX5 yX5_isStamped yX5_isStamped]
def wsL_law0_r12 : List Cond := [Cond.code yX5_isStamped cX5_isStamped 2 (some .boolean), Cond.static yX6_isKey, Cond.code yX6_isKey cX6_isKey 1 (some .boolean), Cond.methodLink RX5 31 yX5_stampOf, Cond.instanceMethod yX5_stampOf, Cond.selects RX5 yX5_stampOf yX5_stampOf, Cond.code yX5_stampOf cX5_stampOf 2 (some .int), Cond.methodLink RX6 329 yX0_set, Cond.instanceMethod yX0_set, Cond.selects RX0 yX0_set yX0_set, Cond.code yX0_set cX0_set 3 none, Cond.fieldLink RX0 7 "StoreMover$Couple" "one" "I", Cond.fieldLink RX0 13 "StoreMover$Couple" "other" "I", Cond.methodLink RX6 332 yX4_turn, Cond.instanceMethod yX4_turn, Cond.selects RX4 yX4_turn yX4_turn, Cond.code yX4_turn cX4_turn 3 (some .boolean), Cond.constant RX4 33 (99999), Cond.methodLink RX4 27 yX0_step, Cond.instanceMethod yX0_step, Cond.selects RX0 yX0_step yX0_step, Cond.code yX0_step cX0_step 4 none, Cond.methodLink RX4 34 yX0_areBothWithin, Cond.instanceMethod yX0_areBothWithin]
def wsL_law0_r13 : List Cond := [Cond.selects RX0 yX0_areBothWithin yX0_areBothWithin, Cond.code yX0_areBothWithin cX0_areBothWithin 2 (some .boolean), Cond.methodLink RX6 274 yX0_number, Cond.instanceMethod yX0_number, Cond.selects RX0 yX0_number yX0_number, Cond.code yX0_number cX0_number 2 (some .int), Cond.methodLink RX6 172 yX5_putEntry, Cond.instanceMethod yX5_putEntry, Cond.selects RX5 yX5_putEntry yX5_putEntry, Cond.code yX5_putEntry cX5_putEntry 5 none, Cond.methodLink RX6 336 yX5_putAside, Cond.instanceMethod yX5_putAside, Cond.selects RX5 yX5_putAside yX5_putAside, Cond.code yX5_putAside cX5_putAside 3 none, Cond.methodLink RX5 38 yX5_put, Cond.instanceMethod yX5_put, Cond.selects RX5 yX5_put yX5_put, Cond.code yX5_put cX5_put 4 none, Cond.methodLink RX6 194 yX5_putTrace, Cond.instanceMethod yX5_putTrace, Cond.selects RX5 yX5_putTrace yX5_putTrace, Cond.code yX5_putTrace cX5_putTrace 3 none, Cond.methodLink RL 122 yX7_goToBoth, Cond.instanceMethod yX7_goToBoth]
def wsL_law0_r14 : List Cond := [Cond.selects RX7 yX7_goToBoth yX7_goToBoth, Cond.code yX7_goToBoth cX7_goToBoth 2 (some .int), Cond.methodLink RX7 155 yX7_followsOne, Cond.instanceMethod yX7_followsOne, Cond.selects RX7 yX7_followsOne yX7_followsOne, Cond.code yX7_followsOne cX7_followsOne 2 none, Cond.methodLink RX7 147 yX7_takesAway, Cond.instanceMethod yX7_takesAway, Cond.selects RX7 yX7_takesAway yX7_takesAway, Cond.code yX7_takesAway cX7_takesAway 3 none, Cond.methodLink RX7 136 yX7_isLater, Cond.instanceMethod yX7_isLater, Cond.selects RX7 yX7_isLater yX7_isLater, Cond.code yX7_isLater cX7_isLater 3 (some .boolean), Cond.methodLink RX7 143 yX7_holds, Cond.instanceMethod yX7_holds, Cond.selects RX7 yX7_holds yX7_holds, Cond.code yX7_holds cX7_holds 4 none, Cond.methodLink RX7 151 yX7_puts, Cond.instanceMethod yX7_puts, Cond.selects RX7 yX7_puts yX7_puts, Cond.code yX7_puts cX7_puts 6 (some .boolean), Cond.methodLink RX7 140 yX7_turns, Cond.instanceMethod yX7_turns]
def wsL_law0_r15 : List Cond := [Cond.selects RX7 yX7_turns yX7_turns, Cond.code yX7_turns cX7_turns 4 (some .boolean), Cond.constant RX7 123 (99999), Cond.methodLink RX7 120 yX7_steps, Cond.instanceMethod yX7_steps, Cond.selects RX7 yX7_steps yX7_steps, Cond.code yX7_steps cX7_steps 2 none, Cond.methodLink RX7 117 yX7_exchanges, Cond.instanceMethod yX7_exchanges, Cond.selects RX7 yX7_exchanges yX7_exchanges, Cond.code yX7_exchanges cX7_exchanges 2 none, Cond.methodLink RX7 124 yX7_areWithin, Cond.instanceMethod yX7_areWithin, Cond.selects RX7 yX7_areWithin yX7_areWithin, Cond.code yX7_areWithin cX7_areWithin 2 (some .boolean), Cond.methodLink RL 123 yL_switchOver, Cond.static yL_switchOver, Cond.codeWith yL_switchOver cL_switchOver 3 (some .int) [(0, 8, 11, 15), (0, 8, 14, 24)], Cond.methodLink RL 26 yX6_switchOver, Cond.instanceMethod yX6_switchOver, Cond.selects RX6 yX6_switchOver yX6_switchOver, Cond.code yX6_switchOver cX6_switchOver 1 (some .int), Cond.methodLink RX6 123 yX5_isAnyAside, Cond.instanceMethod yX5_isAnyAside]
def wsL_law0_r16 : List Cond := [Cond.selects RX5 yX5_isAnyAside yX5_isAnyAside, Cond.code yX5_isAnyAside cX5_isAnyAside 1 (some .boolean), Cond.methodLink RX5 35 yX5_count, Cond.instanceMethod yX5_count, Cond.selects RX5 yX5_count yX5_count, Cond.code yX5_count cX5_count 4 (some .int), Cond.methodLink RX6 126 yX6_areSumsSame, Cond.instanceMethod yX6_areSumsSame, Cond.selects RX6 yX6_areSumsSame yX6_areSumsSame, Cond.code yX6_areSumsSame cX6_areSumsSame 3 (some .boolean), Cond.methodLink RX6 290 yX6_sumOfRange, Cond.instanceMethod yX6_sumOfRange, Cond.selects RX6 yX6_sumOfRange yX6_sumOfRange, Cond.code yX6_sumOfRange cX6_sumOfRange 7 (some .long), Cond.methodLink RX6 352 yX6_sumOfEntry, Cond.instanceMethod yX6_sumOfEntry, Cond.selects RX6 yX6_sumOfEntry yX6_sumOfEntry, Cond.code yX6_sumOfEntry cX6_sumOfEntry 2 (some .long), Cond.methodLink RX6 277 yX5_hasEntry, Cond.instanceMethod yX5_hasEntry, Cond.selects RX5 yX5_hasEntry yX5_hasEntry, Cond.code yX5_hasEntry cX5_hasEntry 2 (some .boolean), Cond.methodLink RX6 209 yX5_number, Cond.instanceMethod yX5_number]
def wsL_law0_r17 : List Cond := [Cond.selects RX5 yX5_number yX5_number, Cond.code yX5_number cX5_number 3 (some .int), Cond.methodLink RX6 359 yX6_sumOfKey, Cond.static yX6_sumOfKey, Cond.code yX6_sumOfKey cX6_sumOfKey 3 (some .long), Cond.constantLong RX6 363 (1000), Cond.constantLong RX6 365 (31), Cond.methodLink RX6 356 yX6_sumOfRow, Cond.instanceMethod yX6_sumOfRow, Cond.selects RX6 yX6_sumOfRow yX6_sumOfRow, Cond.code yX6_sumOfRow cX6_sumOfRow 2 (some .long), Cond.methodLink RX6 269 yX6_turnRow, Cond.instanceMethod yX6_turnRow, Cond.selects RX6 yX6_turnRow yX6_turnRow, Cond.code yX6_turnRow cX6_turnRow 2 (some .boolean), Cond.methodLink RX6 264 yX3_has, Cond.instanceMethod yX3_has, Cond.selects RX3 yX3_has yX3_has, Cond.code yX3_has cX3_has 2 (some .boolean), Cond.methodLink RX6 213 yX3_number, Cond.instanceMethod yX3_number, Cond.selects RX3 yX3_number yX3_number, Cond.code yX3_number cX3_number 3 (some .int), Cond.methodLink RX6 132 yX5_countEntries]
def wsL_law0_r18 : List Cond := [Cond.instanceMethod yX5_countEntries, Cond.selects RX5 yX5_countEntries yX5_countEntries, Cond.code yX5_countEntries cX5_countEntries 1 (some .int), Cond.methodLink RL 125 yX7_switchOver, Cond.instanceMethod yX7_switchOver, Cond.selects RX7 yX7_switchOver yX7_switchOver, Cond.code yX7_switchOver cX7_switchOver 1 (some .int), Cond.methodLink RX7 166 yX7_manyHeld, Cond.instanceMethod yX7_manyHeld, Cond.selects RX7 yX7_manyHeld yX7_manyHeld, Cond.code yX7_manyHeld cX7_manyHeld 4 (some .int), Cond.methodLink RX7 170 yX7_sumOf, Cond.instanceMethod yX7_sumOf, Cond.selects RX7 yX7_sumOf yX7_sumOf, Cond.code yX7_sumOf cX7_sumOf 7 (some .long), Cond.constantLong RX7 217 (1000), Cond.constantLong RX7 219 (31), Cond.methodLink RL 126 yL_goBack, Cond.static yL_goBack, Cond.codeWith yL_goBack cL_goBack 3 (some .int) [(0, 8, 11, 15), (0, 8, 14, 24)], Cond.methodLink RL 29 yX6_goBack, Cond.instanceMethod yX6_goBack, Cond.selects RX6 yX6_goBack yX6_goBack, Cond.code yX6_goBack cX6_goBack 4 (some .int)]
def wsL_law0_r19 : List Cond := [Cond.methodLink RX6 137 yX6_canComeBack, Cond.instanceMethod yX6_canComeBack, Cond.selects RX6 yX6_canComeBack yX6_canComeBack, Cond.code yX6_canComeBack cX6_canComeBack 4 (some .boolean), Cond.methodLink RX6 282 yX6_turnEntryBack, Cond.instanceMethod yX6_turnEntryBack, Cond.selects RX6 yX6_turnEntryBack yX6_turnEntryBack, Cond.code yX6_turnEntryBack cX6_turnEntryBack 2 (some .boolean), Cond.methodLink RX6 339 yX4_turnBack, Cond.instanceMethod yX4_turnBack, Cond.selects RX4 yX4_turnBack yX4_turnBack, Cond.code yX4_turnBack cX4_turnBack 3 (some .boolean), Cond.methodLink RX4 38 yX0_stepBack, Cond.instanceMethod yX0_stepBack, Cond.selects RX0 yX0_stepBack yX0_stepBack, Cond.code yX0_stepBack cX0_stepBack 4 (some .boolean), Cond.methodLink RX6 146 yX6_comeBack, Cond.instanceMethod yX6_comeBack, Cond.selects RX6 yX6_comeBack yX6_comeBack, Cond.code yX6_comeBack cX6_comeBack 5 (some .boolean), Cond.methodLink RX6 201 yX3_remove, Cond.instanceMethod yX3_remove, Cond.selects RX3 yX3_remove yX3_remove, Cond.code yX3_remove cX3_remove 2 none]
def wsL_law0_r20 : List Cond := [Cond.methodLink RX6 342 yX3_holds, Cond.instanceMethod yX3_holds, Cond.selects RX3 yX3_holds yX3_holds, Cond.code yX3_holds cX3_holds 4 (some .boolean), Cond.methodLink RX3 26 yX3_has, Cond.methodLink RX3 29 yX3_number, Cond.methodLink RX6 180 yX3_put, Cond.instanceMethod yX3_put, Cond.selects RX3 yX3_put yX3_put, Cond.code yX3_put cX3_put 4 none, Cond.methodLink RX6 150 yX1_clear, Cond.instanceMethod yX1_clear, Cond.selects RX1 yX1_clear yX1_clear, Cond.code yX1_clear cX1_clear 1 none, Cond.methodLink RL 128 yX7_goBack, Cond.instanceMethod yX7_goBack, Cond.selects RX7 yX7_goBack yX7_goBack, Cond.code yX7_goBack cX7_goBack 3 (some .int), Cond.methodLink RX7 177 yX7_canGoBack, Cond.instanceMethod yX7_canGoBack, Cond.selects RX7 yX7_canGoBack yX7_canGoBack, Cond.code yX7_canGoBack cX7_canGoBack 2 (some .boolean), Cond.methodLink RX7 174 yX7_turnsBack, Cond.instanceMethod yX7_turnsBack]
def wsL_law0_r21 : List Cond := [Cond.selects RX7 yX7_turnsBack yX7_turnsBack, Cond.code yX7_turnsBack cX7_turnsBack 4 (some .boolean), Cond.methodLink RX7 181 yX7_goesBack, Cond.instanceMethod yX7_goesBack, Cond.selects RX7 yX7_goesBack yX7_goesBack, Cond.code yX7_goesBack cX7_goesBack 4 (some .boolean), Cond.methodLink RL 129 yL_end, Cond.static yL_end, Cond.codeWith yL_end cL_end 3 (some .int) [(0, 8, 11, 15)], Cond.methodLink RL 32 yX6_end, Cond.instanceMethod yX6_end, Cond.selects RX6 yX6_end yX6_end, Cond.code yX6_end cX6_end 1 (some .int), Cond.methodLink RL 131 yX7_end, Cond.instanceMethod yX7_end, Cond.selects RX7 yX7_end yX7_end, Cond.code yX7_end cX7_end 1 (some .int), Cond.methodLink RL 132 yL_write, Cond.static yL_write, Cond.codeWith yL_write cL_write 6 (some .int) [(0, 19, 22, 13), (0, 19, 26, 15)], Cond.methodLink RL 35 yX6_write, Cond.instanceMethod yX6_write, Cond.selects RX6 yX6_write yX6_write, Cond.code yX6_write cX6_write 6 (some .boolean)]
def wsL_law0_r22 : List Cond := [Cond.methodLink RX6 153 yX6_isTargetLive, Cond.instanceMethod yX6_isTargetLive, Cond.selects RX6 yX6_isTargetLive yX6_isTargetLive, Cond.code yX6_isTargetLive cX6_isTargetLive 1 (some .boolean), Cond.methodLink RX6 156 yX6_isKey, Cond.methodLink RX6 159 yX6_isWithin, Cond.methodLink RX6 164 yX6_isLogFull, Cond.instanceMethod yX6_isLogFull, Cond.selects RX6 yX6_isLogFull yX6_isLogFull, Cond.code yX6_isLogFull cX6_isLogFull 1 (some .boolean), Cond.methodLink RX6 315 yX1_isFull, Cond.instanceMethod yX1_isFull, Cond.selects RX1 yX1_isFull yX1_isFull, Cond.code yX1_isFull cX1_isFull 1 (some .boolean), Cond.methodLink RX6 169 yX6_isLive, Cond.instanceMethod yX6_isLive, Cond.selects RX6 yX6_isLive yX6_isLive, Cond.code yX6_isLive cX6_isLive 2 (some .boolean), Cond.methodLink RX6 176 yX1_appendRow, Cond.instanceMethod yX1_appendRow, Cond.selects RX1 yX1_appendRow yX1_appendRow, Cond.code yX1_appendRow cX1_appendRow 4 none, Cond.methodLink RX1 29 yX1_append, Cond.instanceMethod yX1_append]
def wsL_law0_r23 : List Cond := [Cond.selects RX1 yX1_append yX1_append, Cond.code yX1_append cX1_append 5 none, Cond.methodLink RL 135 yX7_write, Cond.instanceMethod yX7_write, Cond.selects RX7 yX7_write yX7_write, Cond.code yX7_write cX7_write 6 (some .boolean), Cond.methodLink RX7 184 yX7_isByTarget, Cond.instanceMethod yX7_isByTarget, Cond.selects RX7 yX7_isByTarget yX7_isByTarget, Cond.code yX7_isByTarget cX7_isByTarget 1 (some .boolean), Cond.methodLink RX7 187 yX7_isKey, Cond.static yX7_isKey, Cond.code yX7_isKey cX7_isKey 1 (some .boolean), Cond.methodLink RX7 190 yX7_isLogFull, Cond.instanceMethod yX7_isLogFull, Cond.selects RX7 yX7_isLogFull yX7_isLogFull, Cond.code yX7_isLogFull cX7_isLogFull 1 (some .boolean), Cond.methodLink RX7 193 yX7_writesTarget, Cond.instanceMethod yX7_writesTarget, Cond.selects RX7 yX7_writesTarget yX7_writesTarget, Cond.code yX7_writesTarget cX7_writesTarget 5 (some .boolean), Cond.methodLink RX7 200 yX7_names, Cond.instanceMethod yX7_names, Cond.selects RX7 yX7_names yX7_names]
def wsL_law0_r24 : List Cond := [Cond.code yX7_names cX7_names 2 none, Cond.methodLink RX7 196 yX7_logs, Cond.instanceMethod yX7_logs, Cond.selects RX7 yX7_logs yX7_logs, Cond.code yX7_logs cX7_logs 5 none, Cond.methodLink RL 136 yL_delete, Cond.static yL_delete, Cond.codeWith yL_delete cL_delete 4 (some .int) [(0, 16, 19, 13), (0, 16, 22, 15)], Cond.methodLink RL 39 yX6_delete, Cond.instanceMethod yX6_delete, Cond.selects RX6 yX6_delete yX6_delete, Cond.code yX6_delete cX6_delete 2 (some .boolean), Cond.methodLink RX6 186 yX6_checkKey, Cond.static yX6_checkKey, Cond.code yX6_checkKey cX6_checkKey 1 none, Cond.methodLink RX6 198 yX1_appendDeletion, Cond.instanceMethod yX1_appendDeletion, Cond.selects RX1 yX1_appendDeletion yX1_appendDeletion, Cond.code yX1_appendDeletion cX1_appendDeletion 2 none, Cond.methodLink RL 139 yX7_delete, Cond.instanceMethod yX7_delete, Cond.selects RX7 yX7_delete yX7_delete, Cond.code yX7_delete cX7_delete 3 (some .boolean), Cond.methodLink RL 140 yL_read]
def wsL_law0_r25 : List Cond := [Cond.static yL_read, Cond.codeWith yL_read cL_read 5 (some .int) [(0, 10, 13, 13), (0, 10, 17, 47)], Cond.classLink RL 47 "java/util/NoSuchElementException", Cond.methodLink RL 43 yX6_read, Cond.instanceMethod yX6_read, Cond.selects RX6 yX6_read yX6_read, Cond.code yX6_read cX6_read 3 (some .int), Cond.classLink RX6 204 "java/util/NoSuchElementException", Cond.initialized "java/util/NoSuchElementException", Cond.methodLink RL 143 yX7_read, Cond.instanceMethod yX7_read, Cond.selects RX7 yX7_read yX7_read, Cond.code yX7_read cX7_read 3 (some .int), Cond.methodLink RL 144 yL_nextNumber, Cond.static yL_nextNumber, Cond.codeWith yL_nextNumber cL_nextNumber 3 (some .int) [(0, 8, 11, 15)], Cond.methodLink RL 49 yX6_nextNumber, Cond.instanceMethod yX6_nextNumber, Cond.selects RX6 yX6_nextNumber yX6_nextNumber, Cond.code yX6_nextNumber cX6_nextNumber 1 (some .int), Cond.methodLink RL 146 yX7_nextNumber, Cond.instanceMethod yX7_nextNumber, Cond.selects RX7 yX7_nextNumber yX7_nextNumber, Cond.code yX7_nextNumber cX7_nextNumber 1 (some .int)]
def wsL_law0_r26 : List Cond := [Cond.methodLink RL 147 yL_readPart, Cond.static yL_readPart, Cond.codeWith yL_readPart cL_readPart 4 (some .int) [(0, 9, 12, 13), (0, 9, 15, 15)], Cond.methodLink RL 52 yX6_readPart, Cond.instanceMethod yX6_readPart, Cond.selects RX6 yX6_readPart yX6_readPart, Cond.code yX6_readPart cX6_readPart 2 (some .int), Cond.methodLink RX6 220 yX2_take, Cond.instanceMethod yX2_take, Cond.selects RX2 yX2_take yX2_take, Cond.code yX2_take cX2_take 7 (some .int), Cond.fieldLink RX2 39 "StoreMover$Parts" "count" "I", Cond.methodLink RX2 46 Lib.Math.min.name, Cond.methodLink RX2 42 yX2_keysLeft, Cond.methodLink RX2 52 yX3_has, Cond.methodLink RX2 56 yX3_number, Cond.methodLink RX2 60 yX3_put, Cond.methodLink RX2 64 yX2_isPart, Cond.static yX2_isPart, Cond.code yX2_isPart cX2_isPart 1 (some .boolean), Cond.methodLink RL 149 yX7_readPart, Cond.instanceMethod yX7_readPart, Cond.selects RX7 yX7_readPart yX7_readPart, Cond.code yX7_readPart cX7_readPart 5 (some .int)]
def wsL_law0_r27 : List Cond := [Cond.methodLink RX7 203 yX7_freePart, Cond.instanceMethod yX7_freePart, Cond.selects RX7 yX7_freePart yX7_freePart, Cond.code yX7_freePart cX7_freePart 2 (some .int), Cond.methodLink RL 150 yL_putDown, Cond.static yL_putDown, Cond.codeWith yL_putDown cL_putDown 4 (some .int) [(0, 9, 12, 59)], Cond.classLink RL 59 "java/lang/IndexOutOfBoundsException", Cond.methodLink RL 56 yX6_putDown, Cond.instanceMethod yX6_putDown, Cond.selects RX6 yX6_putDown yX6_putDown, Cond.code yX6_putDown cX6_putDown 6 (some .int), Cond.classLink RX6 227 "java/lang/IndexOutOfBoundsException", Cond.initialized "java/lang/IndexOutOfBoundsException", Cond.methodLink RX6 224 yX2_isWaiting, Cond.instanceMethod yX2_isWaiting, Cond.selects RX2 yX2_isWaiting yX2_isWaiting, Cond.code yX2_isWaiting cX2_isWaiting 2 (some .boolean), Cond.methodLink RX6 232 yX2_stampOf, Cond.instanceMethod yX2_stampOf, Cond.selects RX2 yX2_stampOf yX2_stampOf, Cond.code yX2_stampOf cX2_stampOf 2 (some .int), Cond.methodLink RX6 235 yX2_endOf, Cond.instanceMethod yX2_endOf]
def wsL_law0_r28 : List Cond := [Cond.selects RX2 yX2_endOf yX2_endOf, Cond.code yX2_endOf cX2_endOf 2 (some .int), Cond.methodLink RX6 238 yX2_lowOf, Cond.instanceMethod yX2_lowOf, Cond.selects RX2 yX2_lowOf yX2_lowOf, Cond.code yX2_lowOf cX2_lowOf 2 (some .int), Cond.methodLink RX6 241 yX2_hasRow, Cond.instanceMethod yX2_hasRow, Cond.selects RX2 yX2_hasRow yX2_hasRow, Cond.code yX2_hasRow cX2_hasRow 2 (some .boolean), Cond.methodLink RX6 244 yX2_number, Cond.instanceMethod yX2_number, Cond.selects RX2 yX2_number yX2_number, Cond.code yX2_number cX2_number 3 (some .int), Cond.methodLink RX6 249 yX2_finish, Cond.instanceMethod yX2_finish, Cond.selects RX2 yX2_finish yX2_finish, Cond.code yX2_finish cX2_finish 2 none, Cond.methodLink RX2 67 yX2_isWaiting, Cond.methodLink RL 152 yX7_putDown, Cond.instanceMethod yX7_putDown, Cond.selects RX7 yX7_putDown yX7_putDown, Cond.code yX7_putDown cX7_putDown 5 (some .int), Cond.methodLink RX7 206 yX7_placeOf]
def wsL_law0_r29 : List Cond := [Cond.instanceMethod yX7_placeOf, Cond.selects RX7 yX7_placeOf yX7_placeOf, Cond.code yX7_placeOf cX7_placeOf 3 (some .int), Cond.methodLink RL 153 yL_follow, Cond.static yL_follow, Cond.codeWith yL_follow cL_follow 4 (some .int) [(0, 9, 12, 13), (0, 9, 15, 15)], Cond.methodLink RL 61 yX6_follow, Cond.instanceMethod yX6_follow, Cond.selects RX6 yX6_follow yX6_follow, Cond.code yX6_follow cX6_follow 2 (some .int), Cond.methodLink RL 155 yX7_follow, Cond.instanceMethod yX7_follow, Cond.selects RX7 yX7_follow yX7_follow, Cond.code yX7_follow cX7_follow 3 (some .int), Cond.methodLink RL 156 yX6_left, Cond.instanceMethod yX6_left, Cond.selects RX6 yX6_left yX6_left, Cond.code yX6_left cX6_left 1 (some .int), Cond.methodLink RL 159 yX7_left, Cond.instanceMethod yX7_left, Cond.selects RX7 yX7_left yX7_left, Cond.code yX7_left cX7_left 1 (some .int), Cond.methodLink RX7 210 yX7_plain, Cond.instanceMethod yX7_plain]
def wsL_law0_r30 : List Cond := [Cond.selects RX7 yX7_plain yX7_plain, Cond.code yX7_plain cX7_plain 2 (some .int), Cond.methodLink RL 160 yX6_behind, Cond.instanceMethod yX6_behind, Cond.selects RX6 yX6_behind yX6_behind, Cond.code yX6_behind cX6_behind 1 (some .int), Cond.methodLink RL 163 yX7_behind, Cond.instanceMethod yX7_behind, Cond.selects RX7 yX7_behind yX7_behind, Cond.code yX7_behind cX7_behind 1 (some .int), Cond.methodLink RL 164 yX6_parts, Cond.instanceMethod yX6_parts, Cond.selects RX6 yX6_parts yX6_parts, Cond.code yX6_parts cX6_parts 1 (some .int), Cond.methodLink RL 167 yX7_parts, Cond.instanceMethod yX7_parts, Cond.selects RX7 yX7_parts yX7_parts, Cond.code yX7_parts cX7_parts 1 (some .int), Cond.methodLink RL 168 yL_state, Cond.static yL_state, Cond.codeWith yL_state cL_state 4 (some .int) [(0, 9, 12, 13)], Cond.methodLink RL 64 yX6_state, Cond.instanceMethod yX6_state, Cond.selects RX6 yX6_state yX6_state]
def wsL_law0_r31 : List Cond := [Cond.code yX6_state cX6_state 2 (some .char), Cond.methodLink RX6 254 yX6_stateOf, Cond.instanceMethod yX6_stateOf, Cond.selects RX6 yX6_stateOf yX6_stateOf, Cond.code yX6_stateOf cX6_stateOf 3 (some .char), Cond.methodLink RX6 346 yX5_isAside, Cond.instanceMethod yX5_isAside, Cond.selects RX5 yX5_isAside yX5_isAside, Cond.code yX5_isAside cX5_isAside 2 (some .boolean), Cond.methodLink RX6 349 yX6_isEntryAsCouple, Cond.instanceMethod yX6_isEntryAsCouple, Cond.selects RX6 yX6_isEntryAsCouple yX6_isEntryAsCouple, Cond.code yX6_isEntryAsCouple cX6_isEntryAsCouple 2 (some .boolean), Cond.methodLink RL 170 yX7_state, Cond.instanceMethod yX7_state, Cond.selects RX7 yX7_state yX7_state, Cond.code yX7_state cX7_state 2 (some .char), Cond.methodLink RX7 213 yX7_stateOf, Cond.instanceMethod yX7_stateOf, Cond.selects RX7 yX7_stateOf yX7_stateOf, Cond.code yX7_stateOf cX7_stateOf 3 (some .char), Cond.methodLink RL 171 yL_stamp, Cond.static yL_stamp, Cond.codeWith yL_stamp cL_stamp 4 (some .int) [(0, 9, 12, 13), (0, 9, 15, 47)]]
def wsL_law0_r32 : List Cond := [Cond.methodLink RL 68 yX6_stamp, Cond.instanceMethod yX6_stamp, Cond.selects RX6 yX6_stamp yX6_stamp, Cond.code yX6_stamp cX6_stamp 2 (some .int), Cond.methodLink RX6 258 yX5_isStamped, Cond.methodLink RX6 263 yX5_stampOf, Cond.methodLink RL 173 yX7_stamp, Cond.instanceMethod yX7_stamp, Cond.selects RX7 yX7_stamp yX7_stamp, Cond.code yX7_stamp cX7_stamp 2 (some .int), Cond.methodLink RL 174 yL_turned, Cond.static yL_turned, Cond.codeWith yL_turned cL_turned 5 (some .int) [(0, 10, 13, 13), (0, 10, 17, 47), (0, 10, 21, 24)], Cond.methodLink RL 71 yX6_turned, Cond.instanceMethod yX6_turned, Cond.selects RX6 yX6_turned yX6_turned, Cond.code yX6_turned cX6_turned 3 (some .int), Cond.methodLink RL 176 yX7_turned, Cond.instanceMethod yX7_turned, Cond.selects RX7 yX7_turned yX7_turned, Cond.code yX7_turned cX7_turned 3 (some .int), Cond.methodLink RL 177 yL_turnedBack, Cond.static yL_turnedBack, Cond.codeWith yL_turnedBack cL_turnedBack 5 (some .int) [(0, 10, 13, 13), (0, 10, 17, 47), (0, 10, 21, 24)]]
def wsL_law0_r33 : List Cond := [Cond.methodLink RL 74 yX6_turnedBack, Cond.instanceMethod yX6_turnedBack, Cond.selects RX6 yX6_turnedBack yX6_turnedBack, Cond.code yX6_turnedBack cX6_turnedBack 3 (some .int), Cond.methodLink RL 179 yX7_turnedBack, Cond.instanceMethod yX7_turnedBack, Cond.selects RX7 yX7_turnedBack yX7_turnedBack, Cond.code yX7_turnedBack cX7_turnedBack 3 (some .int), Cond.methodLink RL 180 yL_sum, Cond.static yL_sum, Cond.codeWith yL_sum cL_sum 6 (some .int) [(0, 11, 14, 13)], Cond.methodLink RL 77 yX6_sum, Cond.instanceMethod yX6_sum, Cond.selects RX6 yX6_sum yX6_sum, Cond.code yX6_sum cX6_sum 4 (some .long), Cond.methodLink RX6 287 yX6_checkRange, Cond.static yX6_checkRange, Cond.code yX6_checkRange cX6_checkRange 2 none, Cond.methodLink RL 183 yX7_sum, Cond.instanceMethod yX7_sum, Cond.selects RX7 yX7_sum yX7_sum, Cond.code yX7_sum cX7_sum 4 (some .long), Cond.methodLink RX7 221 yX7_isRange, Cond.static yX7_isRange]
def wsL_law0_r34 : List Cond := [Cond.code yX7_isRange cX7_isRange 2 (some .boolean), Cond.methodLink RL 184 yL_firstUnlike, Cond.static yL_firstUnlike, Cond.codeWith yL_firstUnlike cL_firstUnlike 5 (some .int) [(0, 10, 13, 13), (0, 10, 17, 47)], Cond.methodLink RL 81 yX6_firstUnlike, Cond.instanceMethod yX6_firstUnlike, Cond.selects RX6 yX6_firstUnlike yX6_firstUnlike, Cond.code yX6_firstUnlike cX6_firstUnlike 7 (some .int), Cond.methodLink RL 187 yX7_firstUnlike, Cond.instanceMethod yX7_firstUnlike, Cond.selects RX7 yX7_firstUnlike yX7_firstUnlike, Cond.code yX7_firstUnlike cX7_firstUnlike 6 (some .int), Cond.methodLink RX7 224 yX7_areUnlike, Cond.instanceMethod yX7_areUnlike, Cond.selects RX7 yX7_areUnlike yX7_areUnlike, Cond.code yX7_areUnlike cX7_areUnlike 3 (some .boolean), Cond.methodLink RL 188 yX6_compared, Cond.instanceMethod yX6_compared, Cond.selects RX6 yX6_compared yX6_compared, Cond.code yX6_compared cX6_compared 1 (some .int), Cond.methodLink RL 191 yX7_compared, Cond.instanceMethod yX7_compared, Cond.selects RX7 yX7_compared yX7_compared, Cond.code yX7_compared cX7_compared 1 (some .int)]
def wsL_law0_r35 : List Cond := [Cond.methodLink RL 192 yL_goal, Cond.static yL_goal, Cond.codeWith yL_goal cL_goal 4 (some .int) [(0, 9, 12, 13), (0, 9, 15, 15)], Cond.methodLink RL 85 yX6_goal, Cond.instanceMethod yX6_goal, Cond.selects RX6 yX6_goal yX6_goal, Cond.code yX6_goal cX6_goal 2 (some .char), Cond.methodLink RL 194 yX7_goal, Cond.instanceMethod yX7_goal, Cond.selects RX7 yX7_goal yX7_goal, Cond.code yX7_goal cX7_goal 2 (some .char), Cond.methodLink RL 195 yL_movedShare, Cond.static yL_movedShare, Cond.codeWith yL_movedShare cL_movedShare 3 (some .int) [(0, 8, 11, 92)], Cond.classLink RL 92 "java/lang/ArithmeticException", Cond.methodLink RL 88 yX6_movedShare, Cond.instanceMethod yX6_movedShare, Cond.selects RX6 yX6_movedShare yX6_movedShare, Cond.code yX6_movedShare cX6_movedShare 2 (some .float), Cond.classLink RX6 298 "java/lang/ArithmeticException", Cond.initialized "java/lang/ArithmeticException", Cond.methodLink RX6 303 yX6_countMoved, Cond.instanceMethod yX6_countMoved, Cond.selects RX6 yX6_countMoved yX6_countMoved]
def wsL_law0_r36 : List Cond := [Cond.code yX6_countMoved cX6_countMoved 3 (some .int), Cond.methodLink RL 198 yX7_movedShare, Cond.instanceMethod yX7_movedShare, Cond.selects RX7 yX7_movedShare yX7_movedShare, Cond.code yX7_movedShare cX7_movedShare 1 (some .float), Cond.methodLink RX7 227 yX7_manyMoved, Cond.instanceMethod yX7_manyMoved, Cond.selects RX7 yX7_manyMoved yX7_manyMoved, Cond.code yX7_manyMoved cX7_manyMoved 3 (some .int), Cond.methodLink RL 199 yX6_isAllMoved, Cond.instanceMethod yX6_isAllMoved, Cond.selects RX6 yX6_isAllMoved yX6_isAllMoved, Cond.code yX6_isAllMoved cX6_isAllMoved 2 (some .boolean), Cond.methodLink RL 203 yX7_isAllMoved, Cond.instanceMethod yX7_isAllMoved, Cond.selects RX7 yX7_isAllMoved yX7_isAllMoved, Cond.code yX7_isAllMoved cX7_isAllMoved 1 (some .boolean), Cond.methodLink RL 204 yL_meanStamp, Cond.static yL_meanStamp, Cond.codeWith yL_meanStamp cL_meanStamp 3 (some .int) [(0, 7, 10, 92)], Cond.methodLink RL 94 yX6_meanStamp, Cond.instanceMethod yX6_meanStamp, Cond.selects RX6 yX6_meanStamp yX6_meanStamp, Cond.code yX6_meanStamp cX6_meanStamp 2 (some .double)]
def wsL_law0_r37 : List Cond := [Cond.methodLink RX6 308 yX5_addStamps, Cond.instanceMethod yX5_addStamps, Cond.selects RX5 yX5_addStamps yX5_addStamps, Cond.code yX5_addStamps cX5_addStamps 3 (some .int), Cond.methodLink RL 206 yX7_meanStamp, Cond.instanceMethod yX7_meanStamp, Cond.selects RX7 yX7_meanStamp yX7_meanStamp, Cond.code yX7_meanStamp cX7_meanStamp 4 (some .double)]
def wsL_law0 : List Cond := (wsL_law0_r1 ++ (wsL_law0_r2 ++ (wsL_law0_r3 ++ (wsL_law0_r4 ++ (wsL_law0_r5 ++ (wsL_law0_r6 ++ (wsL_law0_r7 ++ (wsL_law0_r8 ++ (wsL_law0_r9 ++ (wsL_law0_r10 ++ (wsL_law0_r11 ++ (wsL_law0_r12 ++ (wsL_law0_r13 ++ (wsL_law0_r14 ++ (wsL_law0_r15 ++ (wsL_law0_r16 ++ (wsL_law0_r17 ++ (wsL_law0_r18 ++ (wsL_law0_r19 ++ (wsL_law0_r20 ++ (wsL_law0_r21 ++ (wsL_law0_r22 ++ (wsL_law0_r23 ++ (wsL_law0_r24 ++ (wsL_law0_r25 ++ (wsL_law0_r26 ++ (wsL_law0_r27 ++ (wsL_law0_r28 ++ (wsL_law0_r29 ++ (wsL_law0_r30 ++ (wsL_law0_r31 ++ (wsL_law0_r32 ++ (wsL_law0_r33 ++ (wsL_law0_r34 ++ (wsL_law0_r35 ++ (wsL_law0_r36 ++ wsL_law0_r37)))))))))))))))))))))))))))))))))))) ++ wsX60 ++ wsX70 ++ wsX40 ++ wsX30 ++ wsX50 ++ wsX10 ++ wsX20 ++ wsX00 ++ ([] : List Cond)
def wsL_law : List Cond := wsL_law0 ++ (vx_atM "java/lang/ArrayIndexOutOfBoundsException" ["java/lang/IndexOutOfBoundsException", "java/lang/RuntimeException", "java/lang/Exception"]).filter goodWord ++ (vx_atS RX6 79 "java/lang/IllegalArgumentException" ["java/lang/RuntimeException", "java/lang/Exception"]).filter goodWord ++ (vx_atS RX6 90 "java/lang/IllegalStateException" ["java/lang/RuntimeException", "java/lang/Exception"]).filter goodWord ++ (vx_atS RX6 116 "java/lang/UnsupportedOperationException" ["java/lang/RuntimeException", "java/lang/Exception"]).filter goodWord ++ (vx_atM "java/lang/ArithmeticException" ["java/lang/RuntimeException", "java/lang/Exception"]).filter goodWord ++ (sw_atN RX6 208 "java/util/NoSuchElementException" 13 sw_b13 "java/lang/RuntimeException" ["java/lang/Exception"]).filter goodWord ++ (vx_atS RX6 231 "java/lang/IndexOutOfBoundsException" ["java/lang/RuntimeException", "java/lang/Exception"]).filter goodWord ++ (vx_atS RX6 302 "java/lang/ArithmeticException" ["java/lang/RuntimeException", "java/lang/Exception"]).filter goodWord
theorem inlX0 : ∀ w ∈ wsX00, w ∈ wsL_law := fun _ h => List.mem_append_left _ (List.mem_append_left _ (List.mem_append_left _ (List.mem_append_left _ (List.mem_append_left _ (List.mem_append_left _ (List.mem_append_left _ (List.mem_append_left _ (List.mem_append_left _ (List.mem_append_right _ h)))))))))
theorem inlX1 : ∀ w ∈ wsX10, w ∈ wsL_law := fun _ h => List.mem_append_left _ (List.mem_append_left _ (List.mem_append_left _ (List.mem_append_left _ (List.mem_append_left _ (List.mem_append_left _ (List.mem_append_left _ (List.mem_append_left _ (List.mem_append_left _ (List.mem_append_left _ (List.mem_append_left _ (List.mem_append_right _ h)))))))))))
theorem inlX2 : ∀ w ∈ wsX20, w ∈ wsL_law := fun _ h => List.mem_append_left _ (List.mem_append_left _ (List.mem_append_left _ (List.mem_append_left _ (List.mem_append_left _ (List.mem_append_left _ (List.mem_append_left _ (List.mem_append_left _ (List.mem_append_left _ (List.mem_append_left _ (List.mem_append_right _ h))))))))))
theorem inlX3 : ∀ w ∈ wsX30, w ∈ wsL_law := fun _ h => List.mem_append_left _ (List.mem_append_left _ (List.mem_append_left _ (List.mem_append_left _ (List.mem_append_left _ (List.mem_append_left _ (List.mem_append_left _ (List.mem_append_left _ (List.mem_append_left _ (List.mem_append_left _ (List.mem_append_left _ (List.mem_append_left _ (List.mem_append_left _ (List.mem_append_right _ h)))))))))))))
theorem inlX4 : ∀ w ∈ wsX40, w ∈ wsL_law := fun _ h => List.mem_append_left _ (List.mem_append_left _ (List.mem_append_left _ (List.mem_append_left _ (List.mem_append_left _ (List.mem_append_left _ (List.mem_append_left _ (List.mem_append_left _ (List.mem_append_left _ (List.mem_append_left _ (List.mem_append_left _ (List.mem_append_left _ (List.mem_append_left _ (List.mem_append_left _ (List.mem_append_right _ h))))))))))))))
theorem inlX5 : ∀ w ∈ wsX50, w ∈ wsL_law := fun _ h => List.mem_append_left _ (List.mem_append_left _ (List.mem_append_left _ (List.mem_append_left _ (List.mem_append_left _ (List.mem_append_left _ (List.mem_append_left _ (List.mem_append_left _ (List.mem_append_left _ (List.mem_append_left _ (List.mem_append_left _ (List.mem_append_left _ (List.mem_append_right _ h))))))))))))
theorem inlX6 : ∀ w ∈ wsX60, w ∈ wsL_law := fun _ h => List.mem_append_left _ (List.mem_append_left _ (List.mem_append_left _ (List.mem_append_left _ (List.mem_append_left _ (List.mem_append_left _ (List.mem_append_left _ (List.mem_append_left _ (List.mem_append_left _ (List.mem_append_left _ (List.mem_append_left _ (List.mem_append_left _ (List.mem_append_left _ (List.mem_append_left _ (List.mem_append_left _ (List.mem_append_left _ (List.mem_append_right _ h))))))))))))))))
theorem inlX7 : ∀ w ∈ wsX70, w ∈ wsL_law := fun _ h => List.mem_append_left _ (List.mem_append_left _ (List.mem_append_left _ (List.mem_append_left _ (List.mem_append_left _ (List.mem_append_left _ (List.mem_append_left _ (List.mem_append_left _ (List.mem_append_left _ (List.mem_append_left _ (List.mem_append_left _ (List.mem_append_left _ (List.mem_append_left _ (List.mem_append_left _ (List.mem_append_left _ (List.mem_append_right _ h)))))))))))))))
theorem dJx00060_init_a7421_0 : decode cJx00060_init_a7421 0 = .ok (.aload_n 0, 1) := by decide +kernel
theorem dJx00060_init_a7421_1 : decode cJx00060_init_a7421 1 = .ok (.aload_n 1, 1) := by decide +kernel
theorem dJx00060_init_a7421_2 : decode cJx00060_init_a7421 2 = .ok (.invokespecial 7, 3) := by decide +kernel
theorem dJx00060_init_a7421_5 : decode cJx00060_init_a7421 5 = .ok (.return_, 1) := by decide +kernel
theorem dJ9_min_7cf53_0 : decode cJ9_min_7cf53 0 = .ok (.iload_n 0, 1) := by decide +kernel
theorem dJ9_min_7cf53_1 : decode cJ9_min_7cf53 1 = .ok (.iload_n 1, 1) := by decide +kernel
theorem dJ9_min_7cf53_2 : decode cJ9_min_7cf53 2 = .ok (.if_icmp .gt 7, 3) := by decide +kernel
theorem dJ9_min_7cf53_5 : decode cJ9_min_7cf53 5 = .ok (.iload_n 0, 1) := by decide +kernel
theorem dJ9_min_7cf53_6 : decode cJ9_min_7cf53 6 = .ok (.goto 4, 3) := by decide +kernel
theorem dJ9_min_7cf53_9 : decode cJ9_min_7cf53 9 = .ok (.iload_n 1, 1) := by decide +kernel
theorem dJ9_min_7cf53_10 : decode cJ9_min_7cf53 10 = .ok (.ireturn, 1) := by decide +kernel
abbrev vwCl : List vw_C := [(RJ0, TJ0, 2), (RJx00060, TJx00060, 6), (RX0, TX0, 2), (RX1, TX1, 5), (RX2, TX2, 8), (RX3, TX3, 3), (RX4, TX4, 3), (RX5, TX5, 4), (RX6, TX6, 12), (RX7, TX7, 33)]
end
section
theorem dX0_init_0 : decode cX0_init 0 = .ok (.aload_n 0, 1) := by decide +kernel
theorem dX0_init_1 : decode cX0_init 1 = .ok (.invokespecial 1, 3) := by decide +kernel
theorem dX0_init_4 : decode cX0_init 4 = .ok (.return_, 1) := by decide +kernel
theorem dX0_set_0 : decode cX0_set 0 = .ok (.aload_n 0, 1) := by decide +kernel
theorem dX0_set_1 : decode cX0_set 1 = .ok (.iload_n 1, 1) := by decide +kernel
theorem dX0_set_2 : decode cX0_set 2 = .ok (.putfield 7, 3) := by decide +kernel
theorem dX0_set_5 : decode cX0_set 5 = .ok (.aload_n 0, 1) := by decide +kernel
theorem dX0_set_6 : decode cX0_set 6 = .ok (.iload_n 2, 1) := by decide +kernel
theorem dX0_set_7 : decode cX0_set 7 = .ok (.putfield 13, 3) := by decide +kernel
theorem dX0_set_10 : decode cX0_set 10 = .ok (.return_, 1) := by decide +kernel
theorem dX0_number_0 : decode cX0_number 0 = .ok (.iload_n 1, 1) := by decide +kernel
theorem dX0_number_1 : decode cX0_number 1 = .ok (.ifCond .eq 10, 3) := by decide +kernel
theorem dX0_number_4 : decode cX0_number 4 = .ok (.aload_n 0, 1) := by decide +kernel
theorem dX0_number_5 : decode cX0_number 5 = .ok (.getfield 13, 3) := by decide +kernel
theorem dX0_number_8 : decode cX0_number 8 = .ok (.goto 7, 3) := by decide +kernel
theorem dX0_number_11 : decode cX0_number 11 = .ok (.aload_n 0, 1) := by decide +kernel
theorem dX0_number_12 : decode cX0_number 12 = .ok (.getfield 7, 3) := by decide +kernel
theorem dX0_number_15 : decode cX0_number 15 = .ok (.ireturn, 1) := by decide +kernel
theorem dX0_areBothWithin_0 : decode cX0_areBothWithin 0 = .ok (.aload_n 0, 1) := by decide +kernel
theorem dX0_areBothWithin_1 : decode cX0_areBothWithin 1 = .ok (.getfield 7, 3) := by decide +kernel
theorem dX0_areBothWithin_4 : decode cX0_areBothWithin 4 = .ok (.iload_n 1, 1) := by decide +kernel
theorem dX0_areBothWithin_5 : decode cX0_areBothWithin 5 = .ok (.ineg, 1) := by decide +kernel
theorem dX0_areBothWithin_6 : decode cX0_areBothWithin 6 = .ok (.if_icmp .lt 32, 3) := by decide +kernel
theorem dX0_areBothWithin_9 : decode cX0_areBothWithin 9 = .ok (.aload_n 0, 1) := by decide +kernel
theorem dX0_areBothWithin_10 : decode cX0_areBothWithin 10 = .ok (.getfield 7, 3) := by decide +kernel
theorem dX0_areBothWithin_13 : decode cX0_areBothWithin 13 = .ok (.iload_n 1, 1) := by decide +kernel
theorem dX0_areBothWithin_14 : decode cX0_areBothWithin 14 = .ok (.if_icmp .gt 24, 3) := by decide +kernel
theorem dX0_areBothWithin_17 : decode cX0_areBothWithin 17 = .ok (.aload_n 0, 1) := by decide +kernel
theorem dX0_areBothWithin_18 : decode cX0_areBothWithin 18 = .ok (.getfield 13, 3) := by decide +kernel
theorem dX0_areBothWithin_21 : decode cX0_areBothWithin 21 = .ok (.iload_n 1, 1) := by decide +kernel
theorem dX0_areBothWithin_22 : decode cX0_areBothWithin 22 = .ok (.ineg, 1) := by decide +kernel
theorem dX0_areBothWithin_23 : decode cX0_areBothWithin 23 = .ok (.if_icmp .lt 15, 3) := by decide +kernel
theorem dX0_areBothWithin_26 : decode cX0_areBothWithin 26 = .ok (.aload_n 0, 1) := by decide +kernel
theorem dX0_areBothWithin_27 : decode cX0_areBothWithin 27 = .ok (.getfield 13, 3) := by decide +kernel
theorem dX0_areBothWithin_30 : decode cX0_areBothWithin 30 = .ok (.iload_n 1, 1) := by decide +kernel
theorem dX0_areBothWithin_31 : decode cX0_areBothWithin 31 = .ok (.if_icmp .gt 7, 3) := by decide +kernel
theorem dX0_areBothWithin_34 : decode cX0_areBothWithin 34 = .ok (.iconst 1, 1) := by decide +kernel
theorem dX0_areBothWithin_35 : decode cX0_areBothWithin 35 = .ok (.goto 4, 3) := by decide +kernel
theorem dX0_areBothWithin_38 : decode cX0_areBothWithin 38 = .ok (.iconst 0, 1) := by decide +kernel
theorem dX0_areBothWithin_39 : decode cX0_areBothWithin 39 = .ok (.ireturn, 1) := by decide +kernel
theorem dX0_step_0 : decode cX0_step 0 = .ok (.aload_n 0, 1) := by decide +kernel
theorem dX0_step_1 : decode cX0_step 1 = .ok (.getfield 7, 3) := by decide +kernel
theorem dX0_step_4 : decode cX0_step 4 = .ok (.istore_n 3, 1) := by decide +kernel
theorem dX0_step_5 : decode cX0_step 5 = .ok (.iload_n 1, 1) := by decide +kernel
theorem dX0_step_6 : decode cX0_step 6 = .ok (.bipush 112, 2) := by decide +kernel
theorem dX0_step_8 : decode cX0_step 8 = .ok (.if_icmp .ne 16, 3) := by decide +kernel
theorem dX0_step_11 : decode cX0_step 11 = .ok (.aload_n 0, 1) := by decide +kernel
theorem dX0_step_12 : decode cX0_step 12 = .ok (.dup, 1) := by decide +kernel
theorem dX0_step_13 : decode cX0_step 13 = .ok (.getfield 7, 3) := by decide +kernel
theorem dX0_step_16 : decode cX0_step 16 = .ok (.iload_n 2, 1) := by decide +kernel
theorem dX0_step_17 : decode cX0_step 17 = .ok (.iadd, 1) := by decide +kernel
theorem dX0_step_18 : decode cX0_step 18 = .ok (.putfield 7, 3) := by decide +kernel
theorem dX0_step_21 : decode cX0_step 21 = .ok (.goto 75, 3) := by decide +kernel
theorem dX0_step_24 : decode cX0_step 24 = .ok (.iload_n 1, 1) := by decide +kernel
theorem dX0_step_25 : decode cX0_step 25 = .ok (.bipush 109, 2) := by decide +kernel
theorem dX0_step_27 : decode cX0_step 27 = .ok (.if_icmp .ne 16, 3) := by decide +kernel
theorem dX0_step_30 : decode cX0_step 30 = .ok (.aload_n 0, 1) := by decide +kernel
theorem dX0_step_31 : decode cX0_step 31 = .ok (.dup, 1) := by decide +kernel
theorem dX0_step_32 : decode cX0_step 32 = .ok (.getfield 7, 3) := by decide +kernel
theorem dX0_step_35 : decode cX0_step 35 = .ok (.iload_n 2, 1) := by decide +kernel
theorem dX0_step_36 : decode cX0_step 36 = .ok (.imul, 1) := by decide +kernel
theorem dX0_step_37 : decode cX0_step 37 = .ok (.putfield 7, 3) := by decide +kernel
theorem dX0_step_40 : decode cX0_step 40 = .ok (.goto 56, 3) := by decide +kernel
theorem dX0_step_43 : decode cX0_step 43 = .ok (.iload_n 1, 1) := by decide +kernel
theorem dX0_step_44 : decode cX0_step 44 = .ok (.bipush 110, 2) := by decide +kernel
theorem dX0_step_46 : decode cX0_step 46 = .ok (.if_icmp .ne 15, 3) := by decide +kernel
theorem dX0_step_49 : decode cX0_step 49 = .ok (.aload_n 0, 1) := by decide +kernel
theorem dX0_step_50 : decode cX0_step 50 = .ok (.aload_n 0, 1) := by decide +kernel
theorem dX0_step_51 : decode cX0_step 51 = .ok (.getfield 7, 3) := by decide +kernel
theorem dX0_step_54 : decode cX0_step 54 = .ok (.ineg, 1) := by decide +kernel
theorem dX0_step_55 : decode cX0_step 55 = .ok (.putfield 7, 3) := by decide +kernel
theorem dX0_step_58 : decode cX0_step 58 = .ok (.goto 38, 3) := by decide +kernel
theorem dX0_step_61 : decode cX0_step 61 = .ok (.iload_n 1, 1) := by decide +kernel
theorem dX0_step_62 : decode cX0_step 62 = .ok (.bipush 120, 2) := by decide +kernel
theorem dX0_step_64 : decode cX0_step 64 = .ok (.if_icmp .ne 19, 3) := by decide +kernel
theorem dX0_step_67 : decode cX0_step 67 = .ok (.aload_n 0, 1) := by decide +kernel
theorem dX0_step_68 : decode cX0_step 68 = .ok (.aload_n 0, 1) := by decide +kernel
theorem dX0_step_69 : decode cX0_step 69 = .ok (.getfield 13, 3) := by decide +kernel
theorem dX0_step_72 : decode cX0_step 72 = .ok (.putfield 7, 3) := by decide +kernel
theorem dX0_step_75 : decode cX0_step 75 = .ok (.aload_n 0, 1) := by decide +kernel
theorem dX0_step_76 : decode cX0_step 76 = .ok (.iload_n 3, 1) := by decide +kernel
theorem dX0_step_77 : decode cX0_step 77 = .ok (.putfield 13, 3) := by decide +kernel
theorem dX0_step_80 : decode cX0_step 80 = .ok (.goto 16, 3) := by decide +kernel
theorem dX0_step_83 : decode cX0_step 83 = .ok (.aload_n 0, 1) := by decide +kernel
theorem dX0_step_84 : decode cX0_step 84 = .ok (.dup, 1) := by decide +kernel
theorem dX0_step_85 : decode cX0_step 85 = .ok (.getfield 13, 3) := by decide +kernel
theorem dX0_step_88 : decode cX0_step 88 = .ok (.aload_n 0, 1) := by decide +kernel
theorem dX0_step_89 : decode cX0_step 89 = .ok (.getfield 7, 3) := by decide +kernel
theorem dX0_step_92 : decode cX0_step 92 = .ok (.iadd, 1) := by decide +kernel
theorem dX0_step_93 : decode cX0_step 93 = .ok (.putfield 13, 3) := by decide +kernel
theorem dX0_step_96 : decode cX0_step 96 = .ok (.return_, 1) := by decide +kernel
theorem dX0_stepBack_0 : decode cX0_stepBack 0 = .ok (.aload_n 0, 1) := by decide +kernel
theorem dX0_stepBack_1 : decode cX0_stepBack 1 = .ok (.getfield 7, 3) := by decide +kernel
theorem dX0_stepBack_4 : decode cX0_stepBack 4 = .ok (.istore_n 3, 1) := by decide +kernel
theorem dX0_stepBack_5 : decode cX0_stepBack 5 = .ok (.iload_n 1, 1) := by decide +kernel
theorem dX0_stepBack_6 : decode cX0_stepBack 6 = .ok (.bipush 109, 2) := by decide +kernel
theorem dX0_stepBack_8 : decode cX0_stepBack 8 = .ok (.if_icmp .ne 31, 3) := by decide +kernel
theorem dX0_stepBack_11 : decode cX0_stepBack 11 = .ok (.iload_n 2, 1) := by decide +kernel
theorem dX0_stepBack_12 : decode cX0_stepBack 12 = .ok (.ifCond .eq 12, 3) := by decide +kernel
theorem dX0_stepBack_15 : decode cX0_stepBack 15 = .ok (.aload_n 0, 1) := by decide +kernel
theorem dX0_stepBack_16 : decode cX0_stepBack 16 = .ok (.getfield 7, 3) := by decide +kernel
theorem dX0_stepBack_19 : decode cX0_stepBack 19 = .ok (.iload_n 2, 1) := by decide +kernel
theorem dX0_stepBack_20 : decode cX0_stepBack 20 = .ok (.irem, 1) := by decide +kernel
theorem dX0_stepBack_21 : decode cX0_stepBack 21 = .ok (.ifCond .eq 5, 3) := by decide +kernel
theorem dX0_stepBack_24 : decode cX0_stepBack 24 = .ok (.iconst 0, 1) := by decide +kernel
theorem dX0_stepBack_25 : decode cX0_stepBack 25 = .ok (.ireturn, 1) := by decide +kernel
theorem dX0_stepBack_26 : decode cX0_stepBack 26 = .ok (.aload_n 0, 1) := by decide +kernel
theorem dX0_stepBack_27 : decode cX0_stepBack 27 = .ok (.dup, 1) := by decide +kernel
theorem dX0_stepBack_28 : decode cX0_stepBack 28 = .ok (.getfield 7, 3) := by decide +kernel
theorem dX0_stepBack_31 : decode cX0_stepBack 31 = .ok (.iload_n 2, 1) := by decide +kernel
theorem dX0_stepBack_32 : decode cX0_stepBack 32 = .ok (.idiv, 1) := by decide +kernel
theorem dX0_stepBack_33 : decode cX0_stepBack 33 = .ok (.putfield 7, 3) := by decide +kernel
theorem dX0_stepBack_36 : decode cX0_stepBack 36 = .ok (.goto 75, 3) := by decide +kernel
theorem dX0_stepBack_39 : decode cX0_stepBack 39 = .ok (.iload_n 1, 1) := by decide +kernel
theorem dX0_stepBack_40 : decode cX0_stepBack 40 = .ok (.bipush 112, 2) := by decide +kernel
theorem dX0_stepBack_42 : decode cX0_stepBack 42 = .ok (.if_icmp .ne 16, 3) := by decide +kernel
theorem dX0_stepBack_45 : decode cX0_stepBack 45 = .ok (.aload_n 0, 1) := by decide +kernel
theorem dX0_stepBack_46 : decode cX0_stepBack 46 = .ok (.dup, 1) := by decide +kernel
theorem dX0_stepBack_47 : decode cX0_stepBack 47 = .ok (.getfield 7, 3) := by decide +kernel
theorem dX0_stepBack_50 : decode cX0_stepBack 50 = .ok (.iload_n 2, 1) := by decide +kernel
theorem dX0_stepBack_51 : decode cX0_stepBack 51 = .ok (.isub, 1) := by decide +kernel
theorem dX0_stepBack_52 : decode cX0_stepBack 52 = .ok (.putfield 7, 3) := by decide +kernel
theorem dX0_stepBack_55 : decode cX0_stepBack 55 = .ok (.goto 56, 3) := by decide +kernel
theorem dX0_stepBack_58 : decode cX0_stepBack 58 = .ok (.iload_n 1, 1) := by decide +kernel
theorem dX0_stepBack_59 : decode cX0_stepBack 59 = .ok (.bipush 110, 2) := by decide +kernel
theorem dX0_stepBack_61 : decode cX0_stepBack 61 = .ok (.if_icmp .ne 15, 3) := by decide +kernel
theorem dX0_stepBack_64 : decode cX0_stepBack 64 = .ok (.aload_n 0, 1) := by decide +kernel
theorem dX0_stepBack_65 : decode cX0_stepBack 65 = .ok (.aload_n 0, 1) := by decide +kernel
theorem dX0_stepBack_66 : decode cX0_stepBack 66 = .ok (.getfield 7, 3) := by decide +kernel
theorem dX0_stepBack_69 : decode cX0_stepBack 69 = .ok (.ineg, 1) := by decide +kernel
theorem dX0_stepBack_70 : decode cX0_stepBack 70 = .ok (.putfield 7, 3) := by decide +kernel
theorem dX0_stepBack_73 : decode cX0_stepBack 73 = .ok (.goto 38, 3) := by decide +kernel
theorem dX0_stepBack_76 : decode cX0_stepBack 76 = .ok (.iload_n 1, 1) := by decide +kernel
theorem dX0_stepBack_77 : decode cX0_stepBack 77 = .ok (.bipush 120, 2) := by decide +kernel
theorem dX0_stepBack_79 : decode cX0_stepBack 79 = .ok (.if_icmp .ne 19, 3) := by decide +kernel
theorem dX0_stepBack_82 : decode cX0_stepBack 82 = .ok (.aload_n 0, 1) := by decide +kernel
theorem dX0_stepBack_83 : decode cX0_stepBack 83 = .ok (.aload_n 0, 1) := by decide +kernel
theorem dX0_stepBack_84 : decode cX0_stepBack 84 = .ok (.getfield 13, 3) := by decide +kernel
theorem dX0_stepBack_87 : decode cX0_stepBack 87 = .ok (.putfield 7, 3) := by decide +kernel
theorem dX0_stepBack_90 : decode cX0_stepBack 90 = .ok (.aload_n 0, 1) := by decide +kernel
theorem dX0_stepBack_91 : decode cX0_stepBack 91 = .ok (.iload_n 3, 1) := by decide +kernel
theorem dX0_stepBack_92 : decode cX0_stepBack 92 = .ok (.putfield 13, 3) := by decide +kernel
theorem dX0_stepBack_95 : decode cX0_stepBack 95 = .ok (.goto 16, 3) := by decide +kernel
theorem dX0_stepBack_98 : decode cX0_stepBack 98 = .ok (.aload_n 0, 1) := by decide +kernel
theorem dX0_stepBack_99 : decode cX0_stepBack 99 = .ok (.dup, 1) := by decide +kernel
theorem dX0_stepBack_100 : decode cX0_stepBack 100 = .ok (.getfield 13, 3) := by decide +kernel
theorem dX0_stepBack_103 : decode cX0_stepBack 103 = .ok (.aload_n 0, 1) := by decide +kernel
theorem dX0_stepBack_104 : decode cX0_stepBack 104 = .ok (.getfield 7, 3) := by decide +kernel
theorem dX0_stepBack_107 : decode cX0_stepBack 107 = .ok (.isub, 1) := by decide +kernel
theorem dX0_stepBack_108 : decode cX0_stepBack 108 = .ok (.putfield 13, 3) := by decide +kernel
theorem dX0_stepBack_111 : decode cX0_stepBack 111 = .ok (.iconst 1, 1) := by decide +kernel
theorem dX0_stepBack_112 : decode cX0_stepBack 112 = .ok (.ireturn, 1) := by decide +kernel
theorem dX1_init_0 : decode cX1_init 0 = .ok (.aload_n 0, 1) := by decide +kernel
theorem dX1_init_1 : decode cX1_init 1 = .ok (.invokespecial 3, 3) := by decide +kernel
theorem dX1_init_4 : decode cX1_init 4 = .ok (.aload_n 0, 1) := by decide +kernel
theorem dX1_init_5 : decode cX1_init 5 = .ok (.bipush 120, 2) := by decide +kernel
theorem dX1_init_7 : decode cX1_init 7 = .ok (.newarray .int, 2) := by decide +kernel
theorem dX1_init_9 : decode cX1_init 9 = .ok (.putfield 9, 3) := by decide +kernel
theorem dX1_init_12 : decode cX1_init 12 = .ok (.aload_n 0, 1) := by decide +kernel
theorem dX1_init_13 : decode cX1_init 13 = .ok (.bipush 120, 2) := by decide +kernel
theorem dX1_init_15 : decode cX1_init 15 = .ok (.newarray .boolean, 2) := by decide +kernel
theorem dX1_init_17 : decode cX1_init 17 = .ok (.putfield 15, 3) := by decide +kernel
theorem dX1_init_20 : decode cX1_init 20 = .ok (.aload_n 0, 1) := by decide +kernel
theorem dX1_init_21 : decode cX1_init 21 = .ok (.bipush 120, 2) := by decide +kernel
theorem dX1_init_23 : decode cX1_init 23 = .ok (.newarray .int, 2) := by decide +kernel
theorem dX1_init_25 : decode cX1_init 25 = .ok (.putfield 19, 3) := by decide +kernel
theorem dX1_init_28 : decode cX1_init 28 = .ok (.aload_n 0, 1) := by decide +kernel
theorem dX1_init_29 : decode cX1_init 29 = .ok (.bipush 120, 2) := by decide +kernel
theorem dX1_init_31 : decode cX1_init 31 = .ok (.newarray .int, 2) := by decide +kernel
theorem dX1_init_33 : decode cX1_init 33 = .ok (.putfield 22, 3) := by decide +kernel
theorem dX1_init_36 : decode cX1_init 36 = .ok (.return_, 1) := by decide +kernel
theorem dX1_size_0 : decode cX1_size 0 = .ok (.aload_n 0, 1) := by decide +kernel
theorem dX1_size_1 : decode cX1_size 1 = .ok (.getfield 25, 3) := by decide +kernel
theorem dX1_size_4 : decode cX1_size 4 = .ok (.ireturn, 1) := by decide +kernel
theorem dX1_isFull_0 : decode cX1_isFull 0 = .ok (.aload_n 0, 1) := by decide +kernel
theorem dX1_isFull_1 : decode cX1_isFull 1 = .ok (.getfield 25, 3) := by decide +kernel
theorem dX1_isFull_4 : decode cX1_isFull 4 = .ok (.bipush 120, 2) := by decide +kernel
theorem dX1_isFull_6 : decode cX1_isFull 6 = .ok (.if_icmp .lt 7, 3) := by decide +kernel
theorem dX1_isFull_9 : decode cX1_isFull 9 = .ok (.iconst 1, 1) := by decide +kernel
theorem dX1_isFull_10 : decode cX1_isFull 10 = .ok (.goto 4, 3) := by decide +kernel
theorem dX1_isFull_13 : decode cX1_isFull 13 = .ok (.iconst 0, 1) := by decide +kernel
theorem dX1_isFull_14 : decode cX1_isFull 14 = .ok (.ireturn, 1) := by decide +kernel
theorem dX1_clear_0 : decode cX1_clear 0 = .ok (.aload_n 0, 1) := by decide +kernel
theorem dX1_clear_1 : decode cX1_clear 1 = .ok (.iconst 0, 1) := by decide +kernel
theorem dX1_clear_2 : decode cX1_clear 2 = .ok (.putfield 25, 3) := by decide +kernel
theorem dX1_clear_5 : decode cX1_clear 5 = .ok (.return_, 1) := by decide +kernel
theorem dX1_appendRow_0 : decode cX1_appendRow 0 = .ok (.aload_n 0, 1) := by decide +kernel
theorem dX1_appendRow_1 : decode cX1_appendRow 1 = .ok (.iload_n 1, 1) := by decide +kernel
theorem dX1_appendRow_2 : decode cX1_appendRow 2 = .ok (.iconst 0, 1) := by decide +kernel
theorem dX1_appendRow_3 : decode cX1_appendRow 3 = .ok (.iload_n 2, 1) := by decide +kernel
theorem dX1_appendRow_4 : decode cX1_appendRow 4 = .ok (.iload_n 3, 1) := by decide +kernel
theorem dX1_appendRow_5 : decode cX1_appendRow 5 = .ok (.invokevirtual 29, 3) := by decide +kernel
theorem dX1_appendRow_8 : decode cX1_appendRow 8 = .ok (.return_, 1) := by decide +kernel
theorem dX1_appendDeletion_0 : decode cX1_appendDeletion 0 = .ok (.aload_n 0, 1) := by decide +kernel
theorem dX1_appendDeletion_1 : decode cX1_appendDeletion 1 = .ok (.iload_n 1, 1) := by decide +kernel
theorem dX1_appendDeletion_2 : decode cX1_appendDeletion 2 = .ok (.iconst 1, 1) := by decide +kernel
theorem dX1_appendDeletion_3 : decode cX1_appendDeletion 3 = .ok (.iconst 0, 1) := by decide +kernel
theorem dX1_appendDeletion_4 : decode cX1_appendDeletion 4 = .ok (.iconst 0, 1) := by decide +kernel
theorem dX1_appendDeletion_5 : decode cX1_appendDeletion 5 = .ok (.invokevirtual 29, 3) := by decide +kernel
theorem dX1_appendDeletion_8 : decode cX1_appendDeletion 8 = .ok (.return_, 1) := by decide +kernel
theorem dX1_append_0 : decode cX1_append 0 = .ok (.aload_n 0, 1) := by decide +kernel
theorem dX1_append_1 : decode cX1_append 1 = .ok (.getfield 25, 3) := by decide +kernel
theorem dX1_append_4 : decode cX1_append 4 = .ok (.ifCond .lt 63, 3) := by decide +kernel
theorem dX1_append_7 : decode cX1_append 7 = .ok (.aload_n 0, 1) := by decide +kernel
theorem dX1_append_8 : decode cX1_append 8 = .ok (.getfield 25, 3) := by decide +kernel
theorem dX1_append_11 : decode cX1_append 11 = .ok (.bipush 120, 2) := by decide +kernel
theorem dX1_append_13 : decode cX1_append 13 = .ok (.if_icmp .ge 54, 3) := by decide +kernel
theorem dX1_append_16 : decode cX1_append 16 = .ok (.aload_n 0, 1) := by decide +kernel
theorem dX1_append_17 : decode cX1_append 17 = .ok (.getfield 9, 3) := by decide +kernel
theorem dX1_append_20 : decode cX1_append 20 = .ok (.aload_n 0, 1) := by decide +kernel
theorem dX1_append_21 : decode cX1_append 21 = .ok (.getfield 25, 3) := by decide +kernel
theorem dX1_append_24 : decode cX1_append 24 = .ok (.iload_n 1, 1) := by decide +kernel
theorem dX1_append_25 : decode cX1_append 25 = .ok (.iastore, 1) := by decide +kernel
theorem dX1_append_26 : decode cX1_append 26 = .ok (.aload_n 0, 1) := by decide +kernel
theorem dX1_append_27 : decode cX1_append 27 = .ok (.getfield 15, 3) := by decide +kernel
theorem dX1_append_30 : decode cX1_append 30 = .ok (.aload_n 0, 1) := by decide +kernel
theorem dX1_append_31 : decode cX1_append 31 = .ok (.getfield 25, 3) := by decide +kernel
theorem dX1_append_34 : decode cX1_append 34 = .ok (.iload_n 2, 1) := by decide +kernel
theorem dX1_append_35 : decode cX1_append 35 = .ok (.bastore, 1) := by decide +kernel
theorem dX1_append_36 : decode cX1_append 36 = .ok (.aload_n 0, 1) := by decide +kernel
theorem dX1_append_37 : decode cX1_append 37 = .ok (.getfield 19, 3) := by decide +kernel
theorem dX1_append_40 : decode cX1_append 40 = .ok (.aload_n 0, 1) := by decide +kernel
theorem dX1_append_41 : decode cX1_append 41 = .ok (.getfield 25, 3) := by decide +kernel
theorem dX1_append_44 : decode cX1_append 44 = .ok (.iload_n 3, 1) := by decide +kernel
theorem dX1_append_45 : decode cX1_append 45 = .ok (.iastore, 1) := by decide +kernel
theorem dX1_append_46 : decode cX1_append 46 = .ok (.aload_n 0, 1) := by decide +kernel
theorem dX1_append_47 : decode cX1_append 47 = .ok (.getfield 22, 3) := by decide +kernel
theorem dX1_append_50 : decode cX1_append 50 = .ok (.aload_n 0, 1) := by decide +kernel
theorem dX1_append_51 : decode cX1_append 51 = .ok (.getfield 25, 3) := by decide +kernel
theorem dX1_append_54 : decode cX1_append 54 = .ok (.iload 4, 2) := by decide +kernel
theorem dX1_append_56 : decode cX1_append 56 = .ok (.iastore, 1) := by decide +kernel
theorem dX1_append_57 : decode cX1_append 57 = .ok (.aload_n 0, 1) := by decide +kernel
theorem dX1_append_58 : decode cX1_append 58 = .ok (.dup, 1) := by decide +kernel
theorem dX1_append_59 : decode cX1_append 59 = .ok (.getfield 25, 3) := by decide +kernel
theorem dX1_append_62 : decode cX1_append 62 = .ok (.iconst 1, 1) := by decide +kernel
theorem dX1_append_63 : decode cX1_append 63 = .ok (.iadd, 1) := by decide +kernel
theorem dX1_append_64 : decode cX1_append 64 = .ok (.putfield 25, 3) := by decide +kernel
theorem dX1_append_67 : decode cX1_append 67 = .ok (.return_, 1) := by decide +kernel
theorem dX1_isIndex_0 : decode cX1_isIndex 0 = .ok (.iload_n 0, 1) := by decide +kernel
theorem dX1_isIndex_1 : decode cX1_isIndex 1 = .ok (.ifCond .lt 13, 3) := by decide +kernel
theorem dX1_isIndex_4 : decode cX1_isIndex 4 = .ok (.iload_n 0, 1) := by decide +kernel
theorem dX1_isIndex_5 : decode cX1_isIndex 5 = .ok (.bipush 120, 2) := by decide +kernel
theorem dX1_isIndex_7 : decode cX1_isIndex 7 = .ok (.if_icmp .ge 7, 3) := by decide +kernel
theorem dX1_isIndex_10 : decode cX1_isIndex 10 = .ok (.iconst 1, 1) := by decide +kernel
theorem dX1_isIndex_11 : decode cX1_isIndex 11 = .ok (.goto 4, 3) := by decide +kernel
theorem dX1_isIndex_14 : decode cX1_isIndex 14 = .ok (.iconst 0, 1) := by decide +kernel
theorem dX1_isIndex_15 : decode cX1_isIndex 15 = .ok (.ireturn, 1) := by decide +kernel
theorem dX1_key_0 : decode cX1_key 0 = .ok (.iload_n 1, 1) := by decide +kernel
theorem dX1_key_1 : decode cX1_key 1 = .ok (.invokestatic 33, 3) := by decide +kernel
theorem dX1_key_4 : decode cX1_key 4 = .ok (.ifCond .eq 12, 3) := by decide +kernel
theorem dX1_key_7 : decode cX1_key 7 = .ok (.aload_n 0, 1) := by decide +kernel
theorem dX1_key_8 : decode cX1_key 8 = .ok (.getfield 9, 3) := by decide +kernel
theorem dX1_key_11 : decode cX1_key 11 = .ok (.iload_n 1, 1) := by decide +kernel
theorem dX1_key_12 : decode cX1_key 12 = .ok (.iaload, 1) := by decide +kernel
theorem dX1_key_13 : decode cX1_key 13 = .ok (.goto 4, 3) := by decide +kernel
theorem dX1_key_16 : decode cX1_key 16 = .ok (.iconst 0, 1) := by decide +kernel
theorem dX1_key_17 : decode cX1_key 17 = .ok (.ireturn, 1) := by decide +kernel
theorem dX1_isDeletion_0 : decode cX1_isDeletion 0 = .ok (.iload_n 1, 1) := by decide +kernel
theorem dX1_isDeletion_1 : decode cX1_isDeletion 1 = .ok (.invokestatic 33, 3) := by decide +kernel
theorem dX1_isDeletion_4 : decode cX1_isDeletion 4 = .ok (.ifCond .eq 16, 3) := by decide +kernel
theorem dX1_isDeletion_7 : decode cX1_isDeletion 7 = .ok (.aload_n 0, 1) := by decide +kernel
theorem dX1_isDeletion_8 : decode cX1_isDeletion 8 = .ok (.getfield 15, 3) := by decide +kernel
theorem dX1_isDeletion_11 : decode cX1_isDeletion 11 = .ok (.iload_n 1, 1) := by decide +kernel
theorem dX1_isDeletion_12 : decode cX1_isDeletion 12 = .ok (.baload, 1) := by decide +kernel
theorem dX1_isDeletion_13 : decode cX1_isDeletion 13 = .ok (.ifCond .eq 7, 3) := by decide +kernel
theorem dX1_isDeletion_16 : decode cX1_isDeletion 16 = .ok (.iconst 1, 1) := by decide +kernel
theorem dX1_isDeletion_17 : decode cX1_isDeletion 17 = .ok (.goto 4, 3) := by decide +kernel
theorem dX1_isDeletion_20 : decode cX1_isDeletion 20 = .ok (.iconst 0, 1) := by decide +kernel
theorem dX1_isDeletion_21 : decode cX1_isDeletion 21 = .ok (.ireturn, 1) := by decide +kernel
theorem dX1_number_0 : decode cX1_number 0 = .ok (.iload_n 1, 1) := by decide +kernel
theorem dX1_number_1 : decode cX1_number 1 = .ok (.invokestatic 33, 3) := by decide +kernel
theorem dX1_number_4 : decode cX1_number 4 = .ok (.ifCond .ne 5, 3) := by decide +kernel
theorem dX1_number_7 : decode cX1_number 7 = .ok (.iconst 0, 1) := by decide +kernel
theorem dX1_number_8 : decode cX1_number 8 = .ok (.ireturn, 1) := by decide +kernel
theorem dX1_number_9 : decode cX1_number 9 = .ok (.iload_n 2, 1) := by decide +kernel
theorem dX1_number_10 : decode cX1_number 10 = .ok (.ifCond .eq 12, 3) := by decide +kernel
theorem dX1_number_13 : decode cX1_number 13 = .ok (.aload_n 0, 1) := by decide +kernel
theorem dX1_number_14 : decode cX1_number 14 = .ok (.getfield 22, 3) := by decide +kernel
theorem dX1_number_17 : decode cX1_number 17 = .ok (.iload_n 1, 1) := by decide +kernel
theorem dX1_number_18 : decode cX1_number 18 = .ok (.iaload, 1) := by decide +kernel
theorem dX1_number_19 : decode cX1_number 19 = .ok (.goto 9, 3) := by decide +kernel
theorem dX1_number_22 : decode cX1_number 22 = .ok (.aload_n 0, 1) := by decide +kernel
theorem dX1_number_23 : decode cX1_number 23 = .ok (.getfield 19, 3) := by decide +kernel
theorem dX1_number_26 : decode cX1_number 26 = .ok (.iload_n 1, 1) := by decide +kernel
theorem dX1_number_27 : decode cX1_number 27 = .ok (.iaload, 1) := by decide +kernel
theorem dX1_number_28 : decode cX1_number 28 = .ok (.ireturn, 1) := by decide +kernel
theorem dX2_init_0 : decode cX2_init 0 = .ok (.aload_n 0, 1) := by decide +kernel
theorem dX2_init_1 : decode cX2_init 1 = .ok (.invokespecial 3, 3) := by decide +kernel
theorem dX2_init_4 : decode cX2_init 4 = .ok (.aload_n 0, 1) := by decide +kernel
theorem dX2_init_5 : decode cX2_init 5 = .ok (.new 9, 3) := by decide +kernel
theorem dX2_init_8 : decode cX2_init 8 = .ok (.dup, 1) := by decide +kernel
theorem dX2_init_9 : decode cX2_init 9 = .ok (.invokespecial 11, 3) := by decide +kernel
theorem dX2_init_12 : decode cX2_init 12 = .ok (.putfield 12, 3) := by decide +kernel
theorem dX2_init_15 : decode cX2_init 15 = .ok (.aload_n 0, 1) := by decide +kernel
theorem dX2_init_16 : decode cX2_init 16 = .ok (.bipush 40, 2) := by decide +kernel
theorem dX2_init_18 : decode cX2_init 18 = .ok (.newarray .int, 2) := by decide +kernel
theorem dX2_init_20 : decode cX2_init 20 = .ok (.putfield 18, 3) := by decide +kernel
theorem dX2_init_23 : decode cX2_init 23 = .ok (.aload_n 0, 1) := by decide +kernel
theorem dX2_init_24 : decode cX2_init 24 = .ok (.bipush 40, 2) := by decide +kernel
theorem dX2_init_26 : decode cX2_init 26 = .ok (.newarray .int, 2) := by decide +kernel
theorem dX2_init_28 : decode cX2_init 28 = .ok (.putfield 22, 3) := by decide +kernel
theorem dX2_init_31 : decode cX2_init 31 = .ok (.aload_n 0, 1) := by decide +kernel
theorem dX2_init_32 : decode cX2_init 32 = .ok (.bipush 40, 2) := by decide +kernel
theorem dX2_init_34 : decode cX2_init 34 = .ok (.newarray .int, 2) := by decide +kernel
theorem dX2_init_36 : decode cX2_init 36 = .ok (.putfield 25, 3) := by decide +kernel
theorem dX2_init_39 : decode cX2_init 39 = .ok (.aload_n 0, 1) := by decide +kernel
theorem dX2_init_40 : decode cX2_init 40 = .ok (.bipush 40, 2) := by decide +kernel
theorem dX2_init_42 : decode cX2_init 42 = .ok (.newarray .boolean, 2) := by decide +kernel
theorem dX2_init_44 : decode cX2_init 44 = .ok (.putfield 28, 3) := by decide +kernel
theorem dX2_init_47 : decode cX2_init 47 = .ok (.return_, 1) := by decide +kernel
theorem dX2_keysLeft_0 : decode cX2_keysLeft 0 = .ok (.bipush 40, 2) := by decide +kernel
theorem dX2_keysLeft_2 : decode cX2_keysLeft 2 = .ok (.aload_n 0, 1) := by decide +kernel
theorem dX2_keysLeft_3 : decode cX2_keysLeft 3 = .ok (.getfield 32, 3) := by decide +kernel
theorem dX2_keysLeft_6 : decode cX2_keysLeft 6 = .ok (.isub, 1) := by decide +kernel
theorem dX2_keysLeft_7 : decode cX2_keysLeft 7 = .ok (.ireturn, 1) := by decide +kernel
theorem dX2_waiting_0 : decode cX2_waiting 0 = .ok (.aload_n 0, 1) := by decide +kernel
theorem dX2_waiting_1 : decode cX2_waiting 1 = .ok (.getfield 36, 3) := by decide +kernel
theorem dX2_waiting_4 : decode cX2_waiting 4 = .ok (.ireturn, 1) := by decide +kernel
theorem dX2_take_0 : decode cX2_take 0 = .ok (.aload_n 0, 1) := by decide +kernel
theorem dX2_take_1 : decode cX2_take 1 = .ok (.getfield 39, 3) := by decide +kernel
theorem dX2_take_4 : decode cX2_take 4 = .ok (.istore 4, 2) := by decide +kernel
theorem dX2_take_6 : decode cX2_take 6 = .ok (.aload_n 0, 1) := by decide +kernel
theorem dX2_take_7 : decode cX2_take 7 = .ok (.getfield 32, 3) := by decide +kernel
theorem dX2_take_10 : decode cX2_take 10 = .ok (.iload_n 2, 1) := by decide +kernel
theorem dX2_take_11 : decode cX2_take 11 = .ok (.aload_n 0, 1) := by decide +kernel
theorem dX2_take_12 : decode cX2_take 12 = .ok (.invokevirtual 42, 3) := by decide +kernel
theorem dX2_take_15 : decode cX2_take 15 = .ok (.invokestatic 46, 3) := by decide +kernel
theorem dX2_take_18 : decode cX2_take 18 = .ok (.iadd, 1) := by decide +kernel
theorem dX2_take_19 : decode cX2_take 19 = .ok (.istore 5, 2) := by decide +kernel
theorem dX2_take_21 : decode cX2_take 21 = .ok (.aload_n 0, 1) := by decide +kernel
theorem dX2_take_22 : decode cX2_take 22 = .ok (.getfield 32, 3) := by decide +kernel
theorem dX2_take_25 : decode cX2_take 25 = .ok (.istore 6, 2) := by decide +kernel
theorem dX2_take_27 : decode cX2_take 27 = .ok (.iload 6, 2) := by decide +kernel
theorem dX2_take_29 : decode cX2_take 29 = .ok (.iload 5, 2) := by decide +kernel
theorem dX2_take_31 : decode cX2_take 31 = .ok (.if_icmp .ge 48, 3) := by decide +kernel
theorem dX2_take_34 : decode cX2_take 34 = .ok (.iload 6, 2) := by decide +kernel
theorem dX2_take_36 : decode cX2_take 36 = .ok (.bipush 40, 2) := by decide +kernel
theorem dX2_take_38 : decode cX2_take 38 = .ok (.if_icmp .ge 41, 3) := by decide +kernel
theorem dX2_take_41 : decode cX2_take 41 = .ok (.aload_n 1, 1) := by decide +kernel
theorem dX2_take_42 : decode cX2_take 42 = .ok (.iload 6, 2) := by decide +kernel
theorem dX2_take_44 : decode cX2_take 44 = .ok (.invokevirtual 52, 3) := by decide +kernel
theorem dX2_take_47 : decode cX2_take 47 = .ok (.ifCond .eq 26, 3) := by decide +kernel
theorem dX2_take_50 : decode cX2_take 50 = .ok (.aload_n 0, 1) := by decide +kernel
theorem dX2_take_51 : decode cX2_take 51 = .ok (.getfield 12, 3) := by decide +kernel
theorem dX2_take_54 : decode cX2_take 54 = .ok (.iload 6, 2) := by decide +kernel
theorem dX2_take_56 : decode cX2_take 56 = .ok (.aload_n 1, 1) := by decide +kernel
theorem dX2_take_57 : decode cX2_take 57 = .ok (.iload 6, 2) := by decide +kernel
theorem dX2_take_59 : decode cX2_take 59 = .ok (.iconst 0, 1) := by decide +kernel
theorem dX2_take_60 : decode cX2_take 60 = .ok (.invokevirtual 56, 3) := by decide +kernel
theorem dX2_take_63 : decode cX2_take 63 = .ok (.aload_n 1, 1) := by decide +kernel
theorem dX2_take_64 : decode cX2_take 64 = .ok (.iload 6, 2) := by decide +kernel
theorem dX2_take_66 : decode cX2_take 66 = .ok (.iconst 1, 1) := by decide +kernel
theorem dX2_take_67 : decode cX2_take 67 = .ok (.invokevirtual 56, 3) := by decide +kernel
theorem dX2_take_70 : decode cX2_take 70 = .ok (.invokevirtual 60, 3) := by decide +kernel
theorem dX2_take_73 : decode cX2_take 73 = .ok (.iinc 6 1, 3) := by decide +kernel
theorem dX2_take_76 : decode cX2_take 76 = .ok (.goto (-49), 3) := by decide +kernel
theorem dX2_take_79 : decode cX2_take 79 = .ok (.iload 4, 2) := by decide +kernel
theorem dX2_take_81 : decode cX2_take 81 = .ok (.invokestatic 64, 3) := by decide +kernel
theorem dX2_take_84 : decode cX2_take 84 = .ok (.ifCond .eq 65, 3) := by decide +kernel
theorem dX2_take_87 : decode cX2_take 87 = .ok (.aload_n 0, 1) := by decide +kernel
theorem dX2_take_88 : decode cX2_take 88 = .ok (.getfield 18, 3) := by decide +kernel
theorem dX2_take_91 : decode cX2_take 91 = .ok (.iload 4, 2) := by decide +kernel
theorem dX2_take_93 : decode cX2_take 93 = .ok (.aload_n 0, 1) := by decide +kernel
theorem dX2_take_94 : decode cX2_take 94 = .ok (.getfield 32, 3) := by decide +kernel
theorem dX2_take_97 : decode cX2_take 97 = .ok (.iastore, 1) := by decide +kernel
theorem dX2_take_98 : decode cX2_take 98 = .ok (.aload_n 0, 1) := by decide +kernel
theorem dX2_take_99 : decode cX2_take 99 = .ok (.getfield 22, 3) := by decide +kernel
theorem dX2_take_102 : decode cX2_take 102 = .ok (.iload 4, 2) := by decide +kernel
theorem dX2_take_104 : decode cX2_take 104 = .ok (.iload 5, 2) := by decide +kernel
theorem dX2_take_106 : decode cX2_take 106 = .ok (.iastore, 1) := by decide +kernel
theorem dX2_take_107 : decode cX2_take 107 = .ok (.aload_n 0, 1) := by decide +kernel
theorem dX2_take_108 : decode cX2_take 108 = .ok (.getfield 25, 3) := by decide +kernel
theorem dX2_take_111 : decode cX2_take 111 = .ok (.iload 4, 2) := by decide +kernel
theorem dX2_take_113 : decode cX2_take 113 = .ok (.iload_n 3, 1) := by decide +kernel
theorem dX2_take_114 : decode cX2_take 114 = .ok (.iastore, 1) := by decide +kernel
theorem dX2_take_115 : decode cX2_take 115 = .ok (.aload_n 0, 1) := by decide +kernel
theorem dX2_take_116 : decode cX2_take 116 = .ok (.getfield 28, 3) := by decide +kernel
theorem dX2_take_119 : decode cX2_take 119 = .ok (.iload 4, 2) := by decide +kernel
theorem dX2_take_121 : decode cX2_take 121 = .ok (.iconst 1, 1) := by decide +kernel
theorem dX2_take_122 : decode cX2_take 122 = .ok (.bastore, 1) := by decide +kernel
theorem dX2_take_123 : decode cX2_take 123 = .ok (.aload_n 0, 1) := by decide +kernel
theorem dX2_take_124 : decode cX2_take 124 = .ok (.dup, 1) := by decide +kernel
theorem dX2_take_125 : decode cX2_take 125 = .ok (.getfield 36, 3) := by decide +kernel
theorem dX2_take_128 : decode cX2_take 128 = .ok (.iconst 1, 1) := by decide +kernel
theorem dX2_take_129 : decode cX2_take 129 = .ok (.iadd, 1) := by decide +kernel
theorem dX2_take_130 : decode cX2_take 130 = .ok (.putfield 36, 3) := by decide +kernel
theorem dX2_take_133 : decode cX2_take 133 = .ok (.aload_n 0, 1) := by decide +kernel
theorem dX2_take_134 : decode cX2_take 134 = .ok (.dup, 1) := by decide +kernel
theorem dX2_take_135 : decode cX2_take 135 = .ok (.getfield 39, 3) := by decide +kernel
theorem dX2_take_138 : decode cX2_take 138 = .ok (.iconst 1, 1) := by decide +kernel
theorem dX2_take_139 : decode cX2_take 139 = .ok (.iadd, 1) := by decide +kernel
theorem dX2_take_140 : decode cX2_take 140 = .ok (.putfield 39, 3) := by decide +kernel
theorem dX2_take_143 : decode cX2_take 143 = .ok (.aload_n 0, 1) := by decide +kernel
theorem dX2_take_144 : decode cX2_take 144 = .ok (.iload 5, 2) := by decide +kernel
theorem dX2_take_146 : decode cX2_take 146 = .ok (.putfield 32, 3) := by decide +kernel
theorem dX2_take_149 : decode cX2_take 149 = .ok (.iload 4, 2) := by decide +kernel
theorem dX2_take_151 : decode cX2_take 151 = .ok (.ireturn, 1) := by decide +kernel
theorem dX2_isPart_0 : decode cX2_isPart 0 = .ok (.iload_n 0, 1) := by decide +kernel
theorem dX2_isPart_1 : decode cX2_isPart 1 = .ok (.ifCond .lt 13, 3) := by decide +kernel
theorem dX2_isPart_4 : decode cX2_isPart 4 = .ok (.iload_n 0, 1) := by decide +kernel
theorem dX2_isPart_5 : decode cX2_isPart 5 = .ok (.bipush 40, 2) := by decide +kernel
theorem dX2_isPart_7 : decode cX2_isPart 7 = .ok (.if_icmp .ge 7, 3) := by decide +kernel
theorem dX2_isPart_10 : decode cX2_isPart 10 = .ok (.iconst 1, 1) := by decide +kernel
theorem dX2_isPart_11 : decode cX2_isPart 11 = .ok (.goto 4, 3) := by decide +kernel
theorem dX2_isPart_14 : decode cX2_isPart 14 = .ok (.iconst 0, 1) := by decide +kernel
theorem dX2_isPart_15 : decode cX2_isPart 15 = .ok (.ireturn, 1) := by decide +kernel
theorem dX2_isWaiting_0 : decode cX2_isWaiting 0 = .ok (.iload_n 1, 1) := by decide +kernel
theorem dX2_isWaiting_1 : decode cX2_isWaiting 1 = .ok (.invokestatic 64, 3) := by decide +kernel
theorem dX2_isWaiting_4 : decode cX2_isWaiting 4 = .ok (.ifCond .eq 16, 3) := by decide +kernel
theorem dX2_isWaiting_7 : decode cX2_isWaiting 7 = .ok (.aload_n 0, 1) := by decide +kernel
theorem dX2_isWaiting_8 : decode cX2_isWaiting 8 = .ok (.getfield 28, 3) := by decide +kernel
theorem dX2_isWaiting_11 : decode cX2_isWaiting 11 = .ok (.iload_n 1, 1) := by decide +kernel
theorem dX2_isWaiting_12 : decode cX2_isWaiting 12 = .ok (.baload, 1) := by decide +kernel
theorem dX2_isWaiting_13 : decode cX2_isWaiting 13 = .ok (.ifCond .eq 7, 3) := by decide +kernel
theorem dX2_isWaiting_16 : decode cX2_isWaiting 16 = .ok (.iconst 1, 1) := by decide +kernel
theorem dX2_isWaiting_17 : decode cX2_isWaiting 17 = .ok (.goto 4, 3) := by decide +kernel
theorem dX2_isWaiting_20 : decode cX2_isWaiting 20 = .ok (.iconst 0, 1) := by decide +kernel
theorem dX2_isWaiting_21 : decode cX2_isWaiting 21 = .ok (.ireturn, 1) := by decide +kernel
theorem dX2_lowOf_0 : decode cX2_lowOf 0 = .ok (.iload_n 1, 1) := by decide +kernel
theorem dX2_lowOf_1 : decode cX2_lowOf 1 = .ok (.invokestatic 64, 3) := by decide +kernel
theorem dX2_lowOf_4 : decode cX2_lowOf 4 = .ok (.ifCond .eq 12, 3) := by decide +kernel
theorem dX2_lowOf_7 : decode cX2_lowOf 7 = .ok (.aload_n 0, 1) := by decide +kernel
theorem dX2_lowOf_8 : decode cX2_lowOf 8 = .ok (.getfield 18, 3) := by decide +kernel
theorem dX2_lowOf_11 : decode cX2_lowOf 11 = .ok (.iload_n 1, 1) := by decide +kernel
theorem dX2_lowOf_12 : decode cX2_lowOf 12 = .ok (.iaload, 1) := by decide +kernel
theorem dX2_lowOf_13 : decode cX2_lowOf 13 = .ok (.goto 4, 3) := by decide +kernel
theorem dX2_lowOf_16 : decode cX2_lowOf 16 = .ok (.iconst 0, 1) := by decide +kernel
theorem dX2_lowOf_17 : decode cX2_lowOf 17 = .ok (.ireturn, 1) := by decide +kernel
theorem dX2_endOf_0 : decode cX2_endOf 0 = .ok (.iload_n 1, 1) := by decide +kernel
theorem dX2_endOf_1 : decode cX2_endOf 1 = .ok (.invokestatic 64, 3) := by decide +kernel
theorem dX2_endOf_4 : decode cX2_endOf 4 = .ok (.ifCond .eq 12, 3) := by decide +kernel
theorem dX2_endOf_7 : decode cX2_endOf 7 = .ok (.aload_n 0, 1) := by decide +kernel
theorem dX2_endOf_8 : decode cX2_endOf 8 = .ok (.getfield 22, 3) := by decide +kernel
theorem dX2_endOf_11 : decode cX2_endOf 11 = .ok (.iload_n 1, 1) := by decide +kernel
theorem dX2_endOf_12 : decode cX2_endOf 12 = .ok (.iaload, 1) := by decide +kernel
theorem dX2_endOf_13 : decode cX2_endOf 13 = .ok (.goto 4, 3) := by decide +kernel
theorem dX2_endOf_16 : decode cX2_endOf 16 = .ok (.iconst 0, 1) := by decide +kernel
theorem dX2_endOf_17 : decode cX2_endOf 17 = .ok (.ireturn, 1) := by decide +kernel
theorem dX2_stampOf_0 : decode cX2_stampOf 0 = .ok (.iload_n 1, 1) := by decide +kernel
theorem dX2_stampOf_1 : decode cX2_stampOf 1 = .ok (.invokestatic 64, 3) := by decide +kernel
theorem dX2_stampOf_4 : decode cX2_stampOf 4 = .ok (.ifCond .eq 12, 3) := by decide +kernel
theorem dX2_stampOf_7 : decode cX2_stampOf 7 = .ok (.aload_n 0, 1) := by decide +kernel
theorem dX2_stampOf_8 : decode cX2_stampOf 8 = .ok (.getfield 25, 3) := by decide +kernel
theorem dX2_stampOf_11 : decode cX2_stampOf 11 = .ok (.iload_n 1, 1) := by decide +kernel
theorem dX2_stampOf_12 : decode cX2_stampOf 12 = .ok (.iaload, 1) := by decide +kernel
theorem dX2_stampOf_13 : decode cX2_stampOf 13 = .ok (.goto 4, 3) := by decide +kernel
theorem dX2_stampOf_16 : decode cX2_stampOf 16 = .ok (.iconst 0, 1) := by decide +kernel
theorem dX2_stampOf_17 : decode cX2_stampOf 17 = .ok (.ireturn, 1) := by decide +kernel
theorem dX2_hasRow_0 : decode cX2_hasRow 0 = .ok (.aload_n 0, 1) := by decide +kernel
theorem dX2_hasRow_1 : decode cX2_hasRow 1 = .ok (.getfield 12, 3) := by decide +kernel
theorem dX2_hasRow_4 : decode cX2_hasRow 4 = .ok (.iload_n 1, 1) := by decide +kernel
theorem dX2_hasRow_5 : decode cX2_hasRow 5 = .ok (.invokevirtual 52, 3) := by decide +kernel
theorem dX2_hasRow_8 : decode cX2_hasRow 8 = .ok (.ireturn, 1) := by decide +kernel
theorem dX2_number_0 : decode cX2_number 0 = .ok (.aload_n 0, 1) := by decide +kernel
theorem dX2_number_1 : decode cX2_number 1 = .ok (.getfield 12, 3) := by decide +kernel
theorem dX2_number_4 : decode cX2_number 4 = .ok (.iload_n 1, 1) := by decide +kernel
theorem dX2_number_5 : decode cX2_number 5 = .ok (.iload_n 2, 1) := by decide +kernel
theorem dX2_number_6 : decode cX2_number 6 = .ok (.invokevirtual 56, 3) := by decide +kernel
theorem dX2_number_9 : decode cX2_number 9 = .ok (.ireturn, 1) := by decide +kernel
theorem dX2_finish_0 : decode cX2_finish 0 = .ok (.aload_n 0, 1) := by decide +kernel
theorem dX2_finish_1 : decode cX2_finish 1 = .ok (.iload_n 1, 1) := by decide +kernel
theorem dX2_finish_2 : decode cX2_finish 2 = .ok (.invokevirtual 67, 3) := by decide +kernel
theorem dX2_finish_5 : decode cX2_finish 5 = .ok (.ifCond .eq 20, 3) := by decide +kernel
theorem dX2_finish_8 : decode cX2_finish 8 = .ok (.aload_n 0, 1) := by decide +kernel
theorem dX2_finish_9 : decode cX2_finish 9 = .ok (.getfield 28, 3) := by decide +kernel
theorem dX2_finish_12 : decode cX2_finish 12 = .ok (.iload_n 1, 1) := by decide +kernel
theorem dX2_finish_13 : decode cX2_finish 13 = .ok (.iconst 0, 1) := by decide +kernel
theorem dX2_finish_14 : decode cX2_finish 14 = .ok (.bastore, 1) := by decide +kernel
theorem dX2_finish_15 : decode cX2_finish 15 = .ok (.aload_n 0, 1) := by decide +kernel
theorem dX2_finish_16 : decode cX2_finish 16 = .ok (.dup, 1) := by decide +kernel
theorem dX2_finish_17 : decode cX2_finish 17 = .ok (.getfield 36, 3) := by decide +kernel
theorem dX2_finish_20 : decode cX2_finish 20 = .ok (.iconst 1, 1) := by decide +kernel
theorem dX2_finish_21 : decode cX2_finish 21 = .ok (.isub, 1) := by decide +kernel
theorem dX2_finish_22 : decode cX2_finish 22 = .ok (.putfield 36, 3) := by decide +kernel
theorem dX2_finish_25 : decode cX2_finish 25 = .ok (.return_, 1) := by decide +kernel
theorem dX3_init_0 : decode cX3_init 0 = .ok (.aload_n 0, 1) := by decide +kernel
theorem dX3_init_1 : decode cX3_init 1 = .ok (.invokespecial 3, 3) := by decide +kernel
theorem dX3_init_4 : decode cX3_init 4 = .ok (.aload_n 0, 1) := by decide +kernel
theorem dX3_init_5 : decode cX3_init 5 = .ok (.bipush 40, 2) := by decide +kernel
theorem dX3_init_7 : decode cX3_init 7 = .ok (.newarray .boolean, 2) := by decide +kernel
theorem dX3_init_9 : decode cX3_init 9 = .ok (.putfield 9, 3) := by decide +kernel
theorem dX3_init_12 : decode cX3_init 12 = .ok (.aload_n 0, 1) := by decide +kernel
theorem dX3_init_13 : decode cX3_init 13 = .ok (.bipush 40, 2) := by decide +kernel
theorem dX3_init_15 : decode cX3_init 15 = .ok (.newarray .int, 2) := by decide +kernel
theorem dX3_init_17 : decode cX3_init 17 = .ok (.putfield 15, 3) := by decide +kernel
theorem dX3_init_20 : decode cX3_init 20 = .ok (.aload_n 0, 1) := by decide +kernel
theorem dX3_init_21 : decode cX3_init 21 = .ok (.bipush 40, 2) := by decide +kernel
theorem dX3_init_23 : decode cX3_init 23 = .ok (.newarray .int, 2) := by decide +kernel
theorem dX3_init_25 : decode cX3_init 25 = .ok (.putfield 19, 3) := by decide +kernel
theorem dX3_init_28 : decode cX3_init 28 = .ok (.return_, 1) := by decide +kernel
theorem dX3_has_0 : decode cX3_has 0 = .ok (.iload_n 1, 1) := by decide +kernel
theorem dX3_has_1 : decode cX3_has 1 = .ok (.invokestatic 22, 3) := by decide +kernel
theorem dX3_has_4 : decode cX3_has 4 = .ok (.ifCond .eq 16, 3) := by decide +kernel
theorem dX3_has_7 : decode cX3_has 7 = .ok (.aload_n 0, 1) := by decide +kernel
theorem dX3_has_8 : decode cX3_has 8 = .ok (.getfield 9, 3) := by decide +kernel
theorem dX3_has_11 : decode cX3_has 11 = .ok (.iload_n 1, 1) := by decide +kernel
theorem dX3_has_12 : decode cX3_has 12 = .ok (.baload, 1) := by decide +kernel
theorem dX3_has_13 : decode cX3_has 13 = .ok (.ifCond .eq 7, 3) := by decide +kernel
theorem dX3_has_16 : decode cX3_has 16 = .ok (.iconst 1, 1) := by decide +kernel
theorem dX3_has_17 : decode cX3_has 17 = .ok (.goto 4, 3) := by decide +kernel
theorem dX3_has_20 : decode cX3_has 20 = .ok (.iconst 0, 1) := by decide +kernel
theorem dX3_has_21 : decode cX3_has 21 = .ok (.ireturn, 1) := by decide +kernel
theorem dX3_number_0 : decode cX3_number 0 = .ok (.iload_n 1, 1) := by decide +kernel
theorem dX3_number_1 : decode cX3_number 1 = .ok (.invokestatic 22, 3) := by decide +kernel
theorem dX3_number_4 : decode cX3_number 4 = .ok (.ifCond .ne 5, 3) := by decide +kernel
theorem dX3_number_7 : decode cX3_number 7 = .ok (.iconst 0, 1) := by decide +kernel
theorem dX3_number_8 : decode cX3_number 8 = .ok (.ireturn, 1) := by decide +kernel
theorem dX3_number_9 : decode cX3_number 9 = .ok (.iload_n 2, 1) := by decide +kernel
theorem dX3_number_10 : decode cX3_number 10 = .ok (.ifCond .eq 12, 3) := by decide +kernel
theorem dX3_number_13 : decode cX3_number 13 = .ok (.aload_n 0, 1) := by decide +kernel
theorem dX3_number_14 : decode cX3_number 14 = .ok (.getfield 19, 3) := by decide +kernel
theorem dX3_number_17 : decode cX3_number 17 = .ok (.iload_n 1, 1) := by decide +kernel
theorem dX3_number_18 : decode cX3_number 18 = .ok (.iaload, 1) := by decide +kernel
theorem dX3_number_19 : decode cX3_number 19 = .ok (.goto 9, 3) := by decide +kernel
theorem dX3_number_22 : decode cX3_number 22 = .ok (.aload_n 0, 1) := by decide +kernel
theorem dX3_number_23 : decode cX3_number 23 = .ok (.getfield 15, 3) := by decide +kernel
theorem dX3_number_26 : decode cX3_number 26 = .ok (.iload_n 1, 1) := by decide +kernel
theorem dX3_number_27 : decode cX3_number 27 = .ok (.iaload, 1) := by decide +kernel
theorem dX3_number_28 : decode cX3_number 28 = .ok (.ireturn, 1) := by decide +kernel
theorem dX3_holds_0 : decode cX3_holds 0 = .ok (.aload_n 0, 1) := by decide +kernel
theorem dX3_holds_1 : decode cX3_holds 1 = .ok (.iload_n 1, 1) := by decide +kernel
theorem dX3_holds_2 : decode cX3_holds 2 = .ok (.invokevirtual 26, 3) := by decide +kernel
theorem dX3_holds_5 : decode cX3_holds 5 = .ok (.ifCond .eq 27, 3) := by decide +kernel
theorem dX3_holds_8 : decode cX3_holds 8 = .ok (.aload_n 0, 1) := by decide +kernel
theorem dX3_holds_9 : decode cX3_holds 9 = .ok (.iload_n 1, 1) := by decide +kernel
theorem dX3_holds_10 : decode cX3_holds 10 = .ok (.iconst 0, 1) := by decide +kernel
theorem dX3_holds_11 : decode cX3_holds 11 = .ok (.invokevirtual 29, 3) := by decide +kernel
theorem dX3_holds_14 : decode cX3_holds 14 = .ok (.iload_n 2, 1) := by decide +kernel
theorem dX3_holds_15 : decode cX3_holds 15 = .ok (.if_icmp .ne 17, 3) := by decide +kernel
theorem dX3_holds_18 : decode cX3_holds 18 = .ok (.aload_n 0, 1) := by decide +kernel
theorem dX3_holds_19 : decode cX3_holds 19 = .ok (.iload_n 1, 1) := by decide +kernel
theorem dX3_holds_20 : decode cX3_holds 20 = .ok (.iconst 1, 1) := by decide +kernel
theorem dX3_holds_21 : decode cX3_holds 21 = .ok (.invokevirtual 29, 3) := by decide +kernel
theorem dX3_holds_24 : decode cX3_holds 24 = .ok (.iload_n 3, 1) := by decide +kernel
theorem dX3_holds_25 : decode cX3_holds 25 = .ok (.if_icmp .ne 7, 3) := by decide +kernel
theorem dX3_holds_28 : decode cX3_holds 28 = .ok (.iconst 1, 1) := by decide +kernel
theorem dX3_holds_29 : decode cX3_holds 29 = .ok (.goto 4, 3) := by decide +kernel
theorem dX3_holds_32 : decode cX3_holds 32 = .ok (.iconst 0, 1) := by decide +kernel
theorem dX3_holds_33 : decode cX3_holds 33 = .ok (.ireturn, 1) := by decide +kernel
theorem dX3_put_0 : decode cX3_put 0 = .ok (.iload_n 1, 1) := by decide +kernel
theorem dX3_put_1 : decode cX3_put 1 = .ok (.invokestatic 22, 3) := by decide +kernel
theorem dX3_put_4 : decode cX3_put 4 = .ok (.ifCond .eq 24, 3) := by decide +kernel
theorem dX3_put_7 : decode cX3_put 7 = .ok (.aload_n 0, 1) := by decide +kernel
theorem dX3_put_8 : decode cX3_put 8 = .ok (.getfield 9, 3) := by decide +kernel
theorem dX3_put_11 : decode cX3_put 11 = .ok (.iload_n 1, 1) := by decide +kernel
theorem dX3_put_12 : decode cX3_put 12 = .ok (.iconst 1, 1) := by decide +kernel
theorem dX3_put_13 : decode cX3_put 13 = .ok (.bastore, 1) := by decide +kernel
theorem dX3_put_14 : decode cX3_put 14 = .ok (.aload_n 0, 1) := by decide +kernel
theorem dX3_put_15 : decode cX3_put 15 = .ok (.getfield 15, 3) := by decide +kernel
theorem dX3_put_18 : decode cX3_put 18 = .ok (.iload_n 1, 1) := by decide +kernel
theorem dX3_put_19 : decode cX3_put 19 = .ok (.iload_n 2, 1) := by decide +kernel
theorem dX3_put_20 : decode cX3_put 20 = .ok (.iastore, 1) := by decide +kernel
theorem dX3_put_21 : decode cX3_put 21 = .ok (.aload_n 0, 1) := by decide +kernel
theorem dX3_put_22 : decode cX3_put 22 = .ok (.getfield 19, 3) := by decide +kernel
theorem dX3_put_25 : decode cX3_put 25 = .ok (.iload_n 1, 1) := by decide +kernel
theorem dX3_put_26 : decode cX3_put 26 = .ok (.iload_n 3, 1) := by decide +kernel
theorem dX3_put_27 : decode cX3_put 27 = .ok (.iastore, 1) := by decide +kernel
theorem dX3_put_28 : decode cX3_put 28 = .ok (.return_, 1) := by decide +kernel
theorem dX3_remove_0 : decode cX3_remove 0 = .ok (.iload_n 1, 1) := by decide +kernel
theorem dX3_remove_1 : decode cX3_remove 1 = .ok (.invokestatic 22, 3) := by decide +kernel
theorem dX3_remove_4 : decode cX3_remove 4 = .ok (.ifCond .eq 10, 3) := by decide +kernel
theorem dX3_remove_7 : decode cX3_remove 7 = .ok (.aload_n 0, 1) := by decide +kernel
theorem dX3_remove_8 : decode cX3_remove 8 = .ok (.getfield 9, 3) := by decide +kernel
theorem dX3_remove_11 : decode cX3_remove 11 = .ok (.iload_n 1, 1) := by decide +kernel
theorem dX3_remove_12 : decode cX3_remove 12 = .ok (.iconst 0, 1) := by decide +kernel
theorem dX3_remove_13 : decode cX3_remove 13 = .ok (.bastore, 1) := by decide +kernel
theorem dX3_remove_14 : decode cX3_remove 14 = .ok (.return_, 1) := by decide +kernel
theorem dX3_count_0 : decode cX3_count 0 = .ok (.iconst 0, 1) := by decide +kernel
theorem dX3_count_1 : decode cX3_count 1 = .ok (.istore_n 1, 1) := by decide +kernel
theorem dX3_count_2 : decode cX3_count 2 = .ok (.iconst 0, 1) := by decide +kernel
theorem dX3_count_3 : decode cX3_count 3 = .ok (.istore_n 2, 1) := by decide +kernel
theorem dX3_count_4 : decode cX3_count 4 = .ok (.iload_n 2, 1) := by decide +kernel
theorem dX3_count_5 : decode cX3_count 5 = .ok (.bipush 40, 2) := by decide +kernel
theorem dX3_count_7 : decode cX3_count 7 = .ok (.if_icmp .ge 21, 3) := by decide +kernel
theorem dX3_count_10 : decode cX3_count 10 = .ok (.aload_n 0, 1) := by decide +kernel
theorem dX3_count_11 : decode cX3_count 11 = .ok (.getfield 9, 3) := by decide +kernel
theorem dX3_count_14 : decode cX3_count 14 = .ok (.iload_n 2, 1) := by decide +kernel
theorem dX3_count_15 : decode cX3_count 15 = .ok (.baload, 1) := by decide +kernel
theorem dX3_count_16 : decode cX3_count 16 = .ok (.ifCond .eq 6, 3) := by decide +kernel
theorem dX3_count_19 : decode cX3_count 19 = .ok (.iinc 1 1, 3) := by decide +kernel
theorem dX3_count_22 : decode cX3_count 22 = .ok (.iinc 2 1, 3) := by decide +kernel
theorem dX3_count_25 : decode cX3_count 25 = .ok (.goto (-21), 3) := by decide +kernel
theorem dX3_count_28 : decode cX3_count 28 = .ok (.iload_n 1, 1) := by decide +kernel
theorem dX3_count_29 : decode cX3_count 29 = .ok (.ireturn, 1) := by decide +kernel
theorem dX4_init_0 : decode cX4_init 0 = .ok (.aload_n 0, 1) := by decide +kernel
theorem dX4_init_1 : decode cX4_init 1 = .ok (.invokespecial 3, 3) := by decide +kernel
theorem dX4_init_4 : decode cX4_init 4 = .ok (.aload_n 0, 1) := by decide +kernel
theorem dX4_init_5 : decode cX4_init 5 = .ok (.bipush 6, 2) := by decide +kernel
theorem dX4_init_7 : decode cX4_init 7 = .ok (.newarray .char, 2) := by decide +kernel
theorem dX4_init_9 : decode cX4_init 9 = .ok (.putfield 9, 3) := by decide +kernel
theorem dX4_init_12 : decode cX4_init 12 = .ok (.aload_n 0, 1) := by decide +kernel
theorem dX4_init_13 : decode cX4_init 13 = .ok (.bipush 6, 2) := by decide +kernel
theorem dX4_init_15 : decode cX4_init 15 = .ok (.newarray .int, 2) := by decide +kernel
theorem dX4_init_17 : decode cX4_init 17 = .ok (.putfield 15, 3) := by decide +kernel
theorem dX4_init_20 : decode cX4_init 20 = .ok (.return_, 1) := by decide +kernel
theorem dX4_isStep_0 : decode cX4_isStep 0 = .ok (.iload_n 0, 1) := by decide +kernel
theorem dX4_isStep_1 : decode cX4_isStep 1 = .ok (.bipush 112, 2) := by decide +kernel
theorem dX4_isStep_3 : decode cX4_isStep 3 = .ok (.if_icmp .ne 11, 3) := by decide +kernel
theorem dX4_isStep_6 : decode cX4_isStep 6 = .ok (.iload_n 1, 1) := by decide +kernel
theorem dX4_isStep_7 : decode cX4_isStep 7 = .ok (.sipush 999, 3) := by decide +kernel
theorem dX4_isStep_10 : decode cX4_isStep 10 = .ok (.invokestatic 19, 3) := by decide +kernel
theorem dX4_isStep_13 : decode cX4_isStep 13 = .ok (.ireturn, 1) := by decide +kernel
theorem dX4_isStep_14 : decode cX4_isStep 14 = .ok (.iload_n 0, 1) := by decide +kernel
theorem dX4_isStep_15 : decode cX4_isStep 15 = .ok (.bipush 109, 2) := by decide +kernel
theorem dX4_isStep_17 : decode cX4_isStep 17 = .ok (.if_icmp .ne 22, 3) := by decide +kernel
theorem dX4_isStep_20 : decode cX4_isStep 20 = .ok (.iload_n 1, 1) := by decide +kernel
theorem dX4_isStep_21 : decode cX4_isStep 21 = .ok (.bipush 9, 2) := by decide +kernel
theorem dX4_isStep_23 : decode cX4_isStep 23 = .ok (.invokestatic 19, 3) := by decide +kernel
theorem dX4_isStep_26 : decode cX4_isStep 26 = .ok (.ifCond .eq 11, 3) := by decide +kernel
theorem dX4_isStep_29 : decode cX4_isStep 29 = .ok (.iload_n 1, 1) := by decide +kernel
theorem dX4_isStep_30 : decode cX4_isStep 30 = .ok (.ifCond .eq 7, 3) := by decide +kernel
theorem dX4_isStep_33 : decode cX4_isStep 33 = .ok (.iconst 1, 1) := by decide +kernel
theorem dX4_isStep_34 : decode cX4_isStep 34 = .ok (.goto 4, 3) := by decide +kernel
theorem dX4_isStep_37 : decode cX4_isStep 37 = .ok (.iconst 0, 1) := by decide +kernel
theorem dX4_isStep_38 : decode cX4_isStep 38 = .ok (.ireturn, 1) := by decide +kernel
theorem dX4_isStep_39 : decode cX4_isStep 39 = .ok (.iload_n 0, 1) := by decide +kernel
theorem dX4_isStep_40 : decode cX4_isStep 40 = .ok (.bipush 110, 2) := by decide +kernel
theorem dX4_isStep_42 : decode cX4_isStep 42 = .ok (.if_icmp .eq 15, 3) := by decide +kernel
theorem dX4_isStep_45 : decode cX4_isStep 45 = .ok (.iload_n 0, 1) := by decide +kernel
theorem dX4_isStep_46 : decode cX4_isStep 46 = .ok (.bipush 120, 2) := by decide +kernel
theorem dX4_isStep_48 : decode cX4_isStep 48 = .ok (.if_icmp .eq 9, 3) := by decide +kernel
theorem dX4_isStep_51 : decode cX4_isStep 51 = .ok (.iload_n 0, 1) := by decide +kernel
theorem dX4_isStep_52 : decode cX4_isStep 52 = .ok (.bipush 115, 2) := by decide +kernel
theorem dX4_isStep_54 : decode cX4_isStep 54 = .ok (.if_icmp .ne 7, 3) := by decide +kernel
theorem dX4_isStep_57 : decode cX4_isStep 57 = .ok (.iconst 1, 1) := by decide +kernel
theorem dX4_isStep_58 : decode cX4_isStep 58 = .ok (.goto 4, 3) := by decide +kernel
theorem dX4_isStep_61 : decode cX4_isStep 61 = .ok (.iconst 0, 1) := by decide +kernel
theorem dX4_isStep_62 : decode cX4_isStep 62 = .ok (.ireturn, 1) := by decide +kernel
theorem dX4_size_0 : decode cX4_size 0 = .ok (.aload_n 0, 1) := by decide +kernel
theorem dX4_size_1 : decode cX4_size 1 = .ok (.getfield 23, 3) := by decide +kernel
theorem dX4_size_4 : decode cX4_size 4 = .ok (.ireturn, 1) := by decide +kernel
theorem dX4_isFull_0 : decode cX4_isFull 0 = .ok (.aload_n 0, 1) := by decide +kernel
theorem dX4_isFull_1 : decode cX4_isFull 1 = .ok (.getfield 23, 3) := by decide +kernel
theorem dX4_isFull_4 : decode cX4_isFull 4 = .ok (.bipush 6, 2) := by decide +kernel
theorem dX4_isFull_6 : decode cX4_isFull 6 = .ok (.if_icmp .lt 7, 3) := by decide +kernel
theorem dX4_isFull_9 : decode cX4_isFull 9 = .ok (.iconst 1, 1) := by decide +kernel
theorem dX4_isFull_10 : decode cX4_isFull 10 = .ok (.goto 4, 3) := by decide +kernel
theorem dX4_isFull_13 : decode cX4_isFull 13 = .ok (.iconst 0, 1) := by decide +kernel
theorem dX4_isFull_14 : decode cX4_isFull 14 = .ok (.ireturn, 1) := by decide +kernel
theorem dX4_append_0 : decode cX4_append 0 = .ok (.aload_n 0, 1) := by decide +kernel
theorem dX4_append_1 : decode cX4_append 1 = .ok (.getfield 23, 3) := by decide +kernel
theorem dX4_append_4 : decode cX4_append 4 = .ok (.ifCond .lt 42, 3) := by decide +kernel
theorem dX4_append_7 : decode cX4_append 7 = .ok (.aload_n 0, 1) := by decide +kernel
theorem dX4_append_8 : decode cX4_append 8 = .ok (.getfield 23, 3) := by decide +kernel
theorem dX4_append_11 : decode cX4_append 11 = .ok (.bipush 6, 2) := by decide +kernel
theorem dX4_append_13 : decode cX4_append 13 = .ok (.if_icmp .ge 33, 3) := by decide +kernel
theorem dX4_append_16 : decode cX4_append 16 = .ok (.aload_n 0, 1) := by decide +kernel
theorem dX4_append_17 : decode cX4_append 17 = .ok (.getfield 9, 3) := by decide +kernel
theorem dX4_append_20 : decode cX4_append 20 = .ok (.aload_n 0, 1) := by decide +kernel
theorem dX4_append_21 : decode cX4_append 21 = .ok (.getfield 23, 3) := by decide +kernel
theorem dX4_append_24 : decode cX4_append 24 = .ok (.iload_n 1, 1) := by decide +kernel
theorem dX4_append_25 : decode cX4_append 25 = .ok (.castore, 1) := by decide +kernel
theorem dX4_append_26 : decode cX4_append 26 = .ok (.aload_n 0, 1) := by decide +kernel
theorem dX4_append_27 : decode cX4_append 27 = .ok (.getfield 15, 3) := by decide +kernel
theorem dX4_append_30 : decode cX4_append 30 = .ok (.aload_n 0, 1) := by decide +kernel
theorem dX4_append_31 : decode cX4_append 31 = .ok (.getfield 23, 3) := by decide +kernel
theorem dX4_append_34 : decode cX4_append 34 = .ok (.iload_n 2, 1) := by decide +kernel
theorem dX4_append_35 : decode cX4_append 35 = .ok (.iastore, 1) := by decide +kernel
theorem dX4_append_36 : decode cX4_append 36 = .ok (.aload_n 0, 1) := by decide +kernel
theorem dX4_append_37 : decode cX4_append 37 = .ok (.dup, 1) := by decide +kernel
theorem dX4_append_38 : decode cX4_append 38 = .ok (.getfield 23, 3) := by decide +kernel
theorem dX4_append_41 : decode cX4_append 41 = .ok (.iconst 1, 1) := by decide +kernel
theorem dX4_append_42 : decode cX4_append 42 = .ok (.iadd, 1) := by decide +kernel
theorem dX4_append_43 : decode cX4_append 43 = .ok (.putfield 23, 3) := by decide +kernel
theorem dX4_append_46 : decode cX4_append 46 = .ok (.return_, 1) := by decide +kernel
theorem dX4_turn_0 : decode cX4_turn 0 = .ok (.iconst 0, 1) := by decide +kernel
theorem dX4_turn_1 : decode cX4_turn 1 = .ok (.istore_n 2, 1) := by decide +kernel
theorem dX4_turn_2 : decode cX4_turn 2 = .ok (.iload_n 2, 1) := by decide +kernel
theorem dX4_turn_3 : decode cX4_turn 3 = .ok (.aload_n 0, 1) := by decide +kernel
theorem dX4_turn_4 : decode cX4_turn 4 = .ok (.getfield 23, 3) := by decide +kernel
theorem dX4_turn_7 : decode cX4_turn 7 = .ok (.if_icmp .ge 42, 3) := by decide +kernel
theorem dX4_turn_10 : decode cX4_turn 10 = .ok (.iload_n 2, 1) := by decide +kernel
theorem dX4_turn_11 : decode cX4_turn 11 = .ok (.bipush 6, 2) := by decide +kernel
theorem dX4_turn_13 : decode cX4_turn 13 = .ok (.if_icmp .ge 36, 3) := by decide +kernel
theorem dX4_turn_16 : decode cX4_turn 16 = .ok (.aload_n 1, 1) := by decide +kernel
theorem dX4_turn_17 : decode cX4_turn 17 = .ok (.aload_n 0, 1) := by decide +kernel
theorem dX4_turn_18 : decode cX4_turn 18 = .ok (.getfield 9, 3) := by decide +kernel
theorem dX4_turn_21 : decode cX4_turn 21 = .ok (.iload_n 2, 1) := by decide +kernel
theorem dX4_turn_22 : decode cX4_turn 22 = .ok (.caload, 1) := by decide +kernel
theorem dX4_turn_23 : decode cX4_turn 23 = .ok (.aload_n 0, 1) := by decide +kernel
theorem dX4_turn_24 : decode cX4_turn 24 = .ok (.getfield 15, 3) := by decide +kernel
theorem dX4_turn_27 : decode cX4_turn 27 = .ok (.iload_n 2, 1) := by decide +kernel
theorem dX4_turn_28 : decode cX4_turn 28 = .ok (.iaload, 1) := by decide +kernel
theorem dX4_turn_29 : decode cX4_turn 29 = .ok (.invokevirtual 27, 3) := by decide +kernel
theorem dX4_turn_32 : decode cX4_turn 32 = .ok (.aload_n 1, 1) := by decide +kernel
theorem dX4_turn_33 : decode cX4_turn 33 = .ok (.ldc 33, 2) := by decide +kernel
theorem dX4_turn_35 : decode cX4_turn 35 = .ok (.invokevirtual 34, 3) := by decide +kernel
theorem dX4_turn_38 : decode cX4_turn 38 = .ok (.ifCond .ne 5, 3) := by decide +kernel
theorem dX4_turn_41 : decode cX4_turn 41 = .ok (.iconst 0, 1) := by decide +kernel
theorem dX4_turn_42 : decode cX4_turn 42 = .ok (.ireturn, 1) := by decide +kernel
theorem dX4_turn_43 : decode cX4_turn 43 = .ok (.iinc 2 1, 3) := by decide +kernel
theorem dX4_turn_46 : decode cX4_turn 46 = .ok (.goto (-44), 3) := by decide +kernel
theorem dX4_turn_49 : decode cX4_turn 49 = .ok (.aload_n 1, 1) := by decide +kernel
theorem dX4_turn_50 : decode cX4_turn 50 = .ok (.sipush 999, 3) := by decide +kernel
theorem dX4_turn_53 : decode cX4_turn 53 = .ok (.invokevirtual 34, 3) := by decide +kernel
theorem dX4_turn_56 : decode cX4_turn 56 = .ok (.ireturn, 1) := by decide +kernel
theorem dX4_turnBack_0 : decode cX4_turnBack 0 = .ok (.iconst 5, 1) := by decide +kernel
theorem dX4_turnBack_1 : decode cX4_turnBack 1 = .ok (.istore_n 2, 1) := by decide +kernel
theorem dX4_turnBack_2 : decode cX4_turnBack 2 = .ok (.iload_n 2, 1) := by decide +kernel
theorem dX4_turnBack_3 : decode cX4_turnBack 3 = .ok (.ifCond .lt 38, 3) := by decide +kernel
theorem dX4_turnBack_6 : decode cX4_turnBack 6 = .ok (.iload_n 2, 1) := by decide +kernel
theorem dX4_turnBack_7 : decode cX4_turnBack 7 = .ok (.aload_n 0, 1) := by decide +kernel
theorem dX4_turnBack_8 : decode cX4_turnBack 8 = .ok (.getfield 23, 3) := by decide +kernel
theorem dX4_turnBack_11 : decode cX4_turnBack 11 = .ok (.if_icmp .ge 24, 3) := by decide +kernel
theorem dX4_turnBack_14 : decode cX4_turnBack 14 = .ok (.aload_n 1, 1) := by decide +kernel
theorem dX4_turnBack_15 : decode cX4_turnBack 15 = .ok (.aload_n 0, 1) := by decide +kernel
theorem dX4_turnBack_16 : decode cX4_turnBack 16 = .ok (.getfield 9, 3) := by decide +kernel
theorem dX4_turnBack_19 : decode cX4_turnBack 19 = .ok (.iload_n 2, 1) := by decide +kernel
theorem dX4_turnBack_20 : decode cX4_turnBack 20 = .ok (.caload, 1) := by decide +kernel
theorem dX4_turnBack_21 : decode cX4_turnBack 21 = .ok (.aload_n 0, 1) := by decide +kernel
theorem dX4_turnBack_22 : decode cX4_turnBack 22 = .ok (.getfield 15, 3) := by decide +kernel
theorem dX4_turnBack_25 : decode cX4_turnBack 25 = .ok (.iload_n 2, 1) := by decide +kernel
theorem dX4_turnBack_26 : decode cX4_turnBack 26 = .ok (.iaload, 1) := by decide +kernel
theorem dX4_turnBack_27 : decode cX4_turnBack 27 = .ok (.invokevirtual 38, 3) := by decide +kernel
theorem dX4_turnBack_30 : decode cX4_turnBack 30 = .ok (.ifCond .ne 5, 3) := by decide +kernel
theorem dX4_turnBack_33 : decode cX4_turnBack 33 = .ok (.iconst 0, 1) := by decide +kernel
theorem dX4_turnBack_34 : decode cX4_turnBack 34 = .ok (.ireturn, 1) := by decide +kernel
theorem dX4_turnBack_35 : decode cX4_turnBack 35 = .ok (.iinc 2 (-1), 3) := by decide +kernel
theorem dX4_turnBack_38 : decode cX4_turnBack 38 = .ok (.goto (-36), 3) := by decide +kernel
theorem dX4_turnBack_41 : decode cX4_turnBack 41 = .ok (.aload_n 1, 1) := by decide +kernel
theorem dX4_turnBack_42 : decode cX4_turnBack 42 = .ok (.bipush 99, 2) := by decide +kernel
theorem dX4_turnBack_44 : decode cX4_turnBack 44 = .ok (.invokevirtual 34, 3) := by decide +kernel
theorem dX4_turnBack_47 : decode cX4_turnBack 47 = .ok (.ireturn, 1) := by decide +kernel
theorem dX5_init_0 : decode cX5_init 0 = .ok (.aload_n 0, 1) := by decide +kernel
theorem dX5_init_1 : decode cX5_init 1 = .ok (.invokespecial 3, 3) := by decide +kernel
theorem dX5_init_4 : decode cX5_init 4 = .ok (.aload_n 0, 1) := by decide +kernel
theorem dX5_init_5 : decode cX5_init 5 = .ok (.bipush 40, 2) := by decide +kernel
theorem dX5_init_7 : decode cX5_init 7 = .ok (.newarray .int, 2) := by decide +kernel
theorem dX5_init_9 : decode cX5_init 9 = .ok (.putfield 9, 3) := by decide +kernel
theorem dX5_init_12 : decode cX5_init 12 = .ok (.aload_n 0, 1) := by decide +kernel
theorem dX5_init_13 : decode cX5_init 13 = .ok (.bipush 40, 2) := by decide +kernel
theorem dX5_init_15 : decode cX5_init 15 = .ok (.newarray .int, 2) := by decide +kernel
theorem dX5_init_17 : decode cX5_init 17 = .ok (.putfield 15, 3) := by decide +kernel
theorem dX5_init_20 : decode cX5_init 20 = .ok (.aload_n 0, 1) := by decide +kernel
theorem dX5_init_21 : decode cX5_init 21 = .ok (.bipush 40, 2) := by decide +kernel
theorem dX5_init_23 : decode cX5_init 23 = .ok (.newarray .int, 2) := by decide +kernel
theorem dX5_init_25 : decode cX5_init 25 = .ok (.putfield 18, 3) := by decide +kernel
theorem dX5_init_28 : decode cX5_init 28 = .ok (.aload_n 0, 1) := by decide +kernel
theorem dX5_init_29 : decode cX5_init 29 = .ok (.bipush 40, 2) := by decide +kernel
theorem dX5_init_31 : decode cX5_init 31 = .ok (.newarray .int, 2) := by decide +kernel
theorem dX5_init_33 : decode cX5_init 33 = .ok (.putfield 21, 3) := by decide +kernel
theorem dX5_init_36 : decode cX5_init 36 = .ok (.return_, 1) := by decide +kernel
theorem dX5_isStamped_0 : decode cX5_isStamped 0 = .ok (.iload_n 1, 1) := by decide +kernel
theorem dX5_isStamped_1 : decode cX5_isStamped 1 = .ok (.invokestatic 24, 3) := by decide +kernel
theorem dX5_isStamped_4 : decode cX5_isStamped 4 = .ok (.ifCond .eq 16, 3) := by decide +kernel
theorem dX5_isStamped_7 : decode cX5_isStamped 7 = .ok (.aload_n 0, 1) := by decide +kernel
theorem dX5_isStamped_8 : decode cX5_isStamped 8 = .ok (.getfield 9, 3) := by decide +kernel
theorem dX5_isStamped_11 : decode cX5_isStamped 11 = .ok (.iload_n 1, 1) := by decide +kernel
theorem dX5_isStamped_12 : decode cX5_isStamped 12 = .ok (.iaload, 1) := by decide +kernel
theorem dX5_isStamped_13 : decode cX5_isStamped 13 = .ok (.ifCond .eq 7, 3) := by decide +kernel
theorem dX5_isStamped_16 : decode cX5_isStamped 16 = .ok (.iconst 1, 1) := by decide +kernel
theorem dX5_isStamped_17 : decode cX5_isStamped 17 = .ok (.goto 4, 3) := by decide +kernel
theorem dX5_isStamped_20 : decode cX5_isStamped 20 = .ok (.iconst 0, 1) := by decide +kernel
theorem dX5_isStamped_21 : decode cX5_isStamped 21 = .ok (.ireturn, 1) := by decide +kernel
theorem dX5_stampOf_0 : decode cX5_stampOf 0 = .ok (.iload_n 1, 1) := by decide +kernel
theorem dX5_stampOf_1 : decode cX5_stampOf 1 = .ok (.invokestatic 24, 3) := by decide +kernel
theorem dX5_stampOf_4 : decode cX5_stampOf 4 = .ok (.ifCond .eq 12, 3) := by decide +kernel
theorem dX5_stampOf_7 : decode cX5_stampOf 7 = .ok (.aload_n 0, 1) := by decide +kernel
theorem dX5_stampOf_8 : decode cX5_stampOf 8 = .ok (.getfield 15, 3) := by decide +kernel
theorem dX5_stampOf_11 : decode cX5_stampOf 11 = .ok (.iload_n 1, 1) := by decide +kernel
theorem dX5_stampOf_12 : decode cX5_stampOf 12 = .ok (.iaload, 1) := by decide +kernel
theorem dX5_stampOf_13 : decode cX5_stampOf 13 = .ok (.goto 4, 3) := by decide +kernel
theorem dX5_stampOf_16 : decode cX5_stampOf 16 = .ok (.iconst 0, 1) := by decide +kernel
theorem dX5_stampOf_17 : decode cX5_stampOf 17 = .ok (.ireturn, 1) := by decide +kernel
theorem dX5_givesWay_0 : decode cX5_givesWay 0 = .ok (.aload_n 0, 1) := by decide +kernel
theorem dX5_givesWay_1 : decode cX5_givesWay 1 = .ok (.iload_n 1, 1) := by decide +kernel
theorem dX5_givesWay_2 : decode cX5_givesWay 2 = .ok (.invokevirtual 28, 3) := by decide +kernel
theorem dX5_givesWay_5 : decode cX5_givesWay 5 = .ok (.ifCond .eq 12, 3) := by decide +kernel
theorem dX5_givesWay_8 : decode cX5_givesWay 8 = .ok (.aload_n 0, 1) := by decide +kernel
theorem dX5_givesWay_9 : decode cX5_givesWay 9 = .ok (.iload_n 1, 1) := by decide +kernel
theorem dX5_givesWay_10 : decode cX5_givesWay 10 = .ok (.invokevirtual 31, 3) := by decide +kernel
theorem dX5_givesWay_13 : decode cX5_givesWay 13 = .ok (.iload_n 2, 1) := by decide +kernel
theorem dX5_givesWay_14 : decode cX5_givesWay 14 = .ok (.if_icmp .ge 7, 3) := by decide +kernel
theorem dX5_givesWay_17 : decode cX5_givesWay 17 = .ok (.iconst 1, 1) := by decide +kernel
theorem dX5_givesWay_18 : decode cX5_givesWay 18 = .ok (.goto 4, 3) := by decide +kernel
theorem dX5_givesWay_21 : decode cX5_givesWay 21 = .ok (.iconst 0, 1) := by decide +kernel
theorem dX5_givesWay_22 : decode cX5_givesWay 22 = .ok (.ireturn, 1) := by decide +kernel
theorem dX5_isAside_0 : decode cX5_isAside 0 = .ok (.iload_n 1, 1) := by decide +kernel
theorem dX5_isAside_1 : decode cX5_isAside 1 = .ok (.invokestatic 24, 3) := by decide +kernel
theorem dX5_isAside_4 : decode cX5_isAside 4 = .ok (.ifCond .eq 17, 3) := by decide +kernel
theorem dX5_isAside_7 : decode cX5_isAside 7 = .ok (.aload_n 0, 1) := by decide +kernel
theorem dX5_isAside_8 : decode cX5_isAside 8 = .ok (.getfield 9, 3) := by decide +kernel
theorem dX5_isAside_11 : decode cX5_isAside 11 = .ok (.iload_n 1, 1) := by decide +kernel
theorem dX5_isAside_12 : decode cX5_isAside 12 = .ok (.iaload, 1) := by decide +kernel
theorem dX5_isAside_13 : decode cX5_isAside 13 = .ok (.iconst 2, 1) := by decide +kernel
theorem dX5_isAside_14 : decode cX5_isAside 14 = .ok (.if_icmp .ne 7, 3) := by decide +kernel
theorem dX5_isAside_17 : decode cX5_isAside 17 = .ok (.iconst 1, 1) := by decide +kernel
theorem dX5_isAside_18 : decode cX5_isAside 18 = .ok (.goto 4, 3) := by decide +kernel
theorem dX5_isAside_21 : decode cX5_isAside 21 = .ok (.iconst 0, 1) := by decide +kernel
theorem dX5_isAside_22 : decode cX5_isAside 22 = .ok (.ireturn, 1) := by decide +kernel
theorem dX5_isAnyAside_0 : decode cX5_isAnyAside 0 = .ok (.aload_n 0, 1) := by decide +kernel
theorem dX5_isAnyAside_1 : decode cX5_isAnyAside 1 = .ok (.iconst 2, 1) := by decide +kernel
theorem dX5_isAnyAside_2 : decode cX5_isAnyAside 2 = .ok (.invokevirtual 35, 3) := by decide +kernel
theorem dX5_isAnyAside_5 : decode cX5_isAnyAside 5 = .ok (.ifCond .le 7, 3) := by decide +kernel
theorem dX5_isAnyAside_8 : decode cX5_isAnyAside 8 = .ok (.iconst 1, 1) := by decide +kernel
theorem dX5_isAnyAside_9 : decode cX5_isAnyAside 9 = .ok (.goto 4, 3) := by decide +kernel
theorem dX5_isAnyAside_12 : decode cX5_isAnyAside 12 = .ok (.iconst 0, 1) := by decide +kernel
theorem dX5_isAnyAside_13 : decode cX5_isAnyAside 13 = .ok (.ireturn, 1) := by decide +kernel
theorem dX5_hasEntry_0 : decode cX5_hasEntry 0 = .ok (.iload_n 1, 1) := by decide +kernel
theorem dX5_hasEntry_1 : decode cX5_hasEntry 1 = .ok (.invokestatic 24, 3) := by decide +kernel
theorem dX5_hasEntry_4 : decode cX5_hasEntry 4 = .ok (.ifCond .eq 17, 3) := by decide +kernel
theorem dX5_hasEntry_7 : decode cX5_hasEntry 7 = .ok (.aload_n 0, 1) := by decide +kernel
theorem dX5_hasEntry_8 : decode cX5_hasEntry 8 = .ok (.getfield 9, 3) := by decide +kernel
theorem dX5_hasEntry_11 : decode cX5_hasEntry 11 = .ok (.iload_n 1, 1) := by decide +kernel
theorem dX5_hasEntry_12 : decode cX5_hasEntry 12 = .ok (.iaload, 1) := by decide +kernel
theorem dX5_hasEntry_13 : decode cX5_hasEntry 13 = .ok (.iconst 1, 1) := by decide +kernel
theorem dX5_hasEntry_14 : decode cX5_hasEntry 14 = .ok (.if_icmp .ne 7, 3) := by decide +kernel
theorem dX5_hasEntry_17 : decode cX5_hasEntry 17 = .ok (.iconst 1, 1) := by decide +kernel
theorem dX5_hasEntry_18 : decode cX5_hasEntry 18 = .ok (.goto 4, 3) := by decide +kernel
theorem dX5_hasEntry_21 : decode cX5_hasEntry 21 = .ok (.iconst 0, 1) := by decide +kernel
theorem dX5_hasEntry_22 : decode cX5_hasEntry 22 = .ok (.ireturn, 1) := by decide +kernel
theorem dX5_number_0 : decode cX5_number 0 = .ok (.iload_n 1, 1) := by decide +kernel
theorem dX5_number_1 : decode cX5_number 1 = .ok (.invokestatic 24, 3) := by decide +kernel
theorem dX5_number_4 : decode cX5_number 4 = .ok (.ifCond .ne 5, 3) := by decide +kernel
theorem dX5_number_7 : decode cX5_number 7 = .ok (.iconst 0, 1) := by decide +kernel
theorem dX5_number_8 : decode cX5_number 8 = .ok (.ireturn, 1) := by decide +kernel
theorem dX5_number_9 : decode cX5_number 9 = .ok (.iload_n 2, 1) := by decide +kernel
theorem dX5_number_10 : decode cX5_number 10 = .ok (.ifCond .eq 12, 3) := by decide +kernel
theorem dX5_number_13 : decode cX5_number 13 = .ok (.aload_n 0, 1) := by decide +kernel
theorem dX5_number_14 : decode cX5_number 14 = .ok (.getfield 21, 3) := by decide +kernel
theorem dX5_number_17 : decode cX5_number 17 = .ok (.iload_n 1, 1) := by decide +kernel
theorem dX5_number_18 : decode cX5_number 18 = .ok (.iaload, 1) := by decide +kernel
theorem dX5_number_19 : decode cX5_number 19 = .ok (.goto 9, 3) := by decide +kernel
theorem dX5_number_22 : decode cX5_number 22 = .ok (.aload_n 0, 1) := by decide +kernel
theorem dX5_number_23 : decode cX5_number 23 = .ok (.getfield 18, 3) := by decide +kernel
theorem dX5_number_26 : decode cX5_number 26 = .ok (.iload_n 1, 1) := by decide +kernel
theorem dX5_number_27 : decode cX5_number 27 = .ok (.iaload, 1) := by decide +kernel
theorem dX5_number_28 : decode cX5_number 28 = .ok (.ireturn, 1) := by decide +kernel
theorem dX5_countEntries_0 : decode cX5_countEntries 0 = .ok (.aload_n 0, 1) := by decide +kernel
theorem dX5_countEntries_1 : decode cX5_countEntries 1 = .ok (.iconst 1, 1) := by decide +kernel
theorem dX5_countEntries_2 : decode cX5_countEntries 2 = .ok (.invokevirtual 35, 3) := by decide +kernel
theorem dX5_countEntries_5 : decode cX5_countEntries 5 = .ok (.ireturn, 1) := by decide +kernel
theorem dX5_count_0 : decode cX5_count 0 = .ok (.iconst 0, 1) := by decide +kernel
theorem dX5_count_1 : decode cX5_count 1 = .ok (.istore_n 2, 1) := by decide +kernel
theorem dX5_count_2 : decode cX5_count 2 = .ok (.iconst 0, 1) := by decide +kernel
theorem dX5_count_3 : decode cX5_count 3 = .ok (.istore_n 3, 1) := by decide +kernel
theorem dX5_count_4 : decode cX5_count 4 = .ok (.iload_n 3, 1) := by decide +kernel
theorem dX5_count_5 : decode cX5_count 5 = .ok (.bipush 40, 2) := by decide +kernel
theorem dX5_count_7 : decode cX5_count 7 = .ok (.if_icmp .ge 22, 3) := by decide +kernel
theorem dX5_count_10 : decode cX5_count 10 = .ok (.aload_n 0, 1) := by decide +kernel
theorem dX5_count_11 : decode cX5_count 11 = .ok (.getfield 9, 3) := by decide +kernel
theorem dX5_count_14 : decode cX5_count 14 = .ok (.iload_n 3, 1) := by decide +kernel
theorem dX5_count_15 : decode cX5_count 15 = .ok (.iaload, 1) := by decide +kernel
theorem dX5_count_16 : decode cX5_count 16 = .ok (.iload_n 1, 1) := by decide +kernel
theorem dX5_count_17 : decode cX5_count 17 = .ok (.if_icmp .ne 6, 3) := by decide +kernel
theorem dX5_count_20 : decode cX5_count 20 = .ok (.iinc 2 1, 3) := by decide +kernel
theorem dX5_count_23 : decode cX5_count 23 = .ok (.iinc 3 1, 3) := by decide +kernel
theorem dX5_count_26 : decode cX5_count 26 = .ok (.goto (-22), 3) := by decide +kernel
theorem dX5_count_29 : decode cX5_count 29 = .ok (.iload_n 2, 1) := by decide +kernel
theorem dX5_count_30 : decode cX5_count 30 = .ok (.ireturn, 1) := by decide +kernel
theorem dX5_addStamps_0 : decode cX5_addStamps 0 = .ok (.iconst 0, 1) := by decide +kernel
theorem dX5_addStamps_1 : decode cX5_addStamps 1 = .ok (.istore_n 1, 1) := by decide +kernel
theorem dX5_addStamps_2 : decode cX5_addStamps 2 = .ok (.iconst 0, 1) := by decide +kernel
theorem dX5_addStamps_3 : decode cX5_addStamps 3 = .ok (.istore_n 2, 1) := by decide +kernel
theorem dX5_addStamps_4 : decode cX5_addStamps 4 = .ok (.iload_n 2, 1) := by decide +kernel
theorem dX5_addStamps_5 : decode cX5_addStamps 5 = .ok (.bipush 40, 2) := by decide +kernel
theorem dX5_addStamps_7 : decode cX5_addStamps 7 = .ok (.if_icmp .ge 28, 3) := by decide +kernel
theorem dX5_addStamps_10 : decode cX5_addStamps 10 = .ok (.aload_n 0, 1) := by decide +kernel
theorem dX5_addStamps_11 : decode cX5_addStamps 11 = .ok (.getfield 9, 3) := by decide +kernel
theorem dX5_addStamps_14 : decode cX5_addStamps 14 = .ok (.iload_n 2, 1) := by decide +kernel
theorem dX5_addStamps_15 : decode cX5_addStamps 15 = .ok (.iaload, 1) := by decide +kernel
theorem dX5_addStamps_16 : decode cX5_addStamps 16 = .ok (.iconst 1, 1) := by decide +kernel
theorem dX5_addStamps_17 : decode cX5_addStamps 17 = .ok (.if_icmp .ne 12, 3) := by decide +kernel
theorem dX5_addStamps_20 : decode cX5_addStamps 20 = .ok (.iload_n 1, 1) := by decide +kernel
theorem dX5_addStamps_21 : decode cX5_addStamps 21 = .ok (.aload_n 0, 1) := by decide +kernel
theorem dX5_addStamps_22 : decode cX5_addStamps 22 = .ok (.getfield 15, 3) := by decide +kernel
theorem dX5_addStamps_25 : decode cX5_addStamps 25 = .ok (.iload_n 2, 1) := by decide +kernel
theorem dX5_addStamps_26 : decode cX5_addStamps 26 = .ok (.iaload, 1) := by decide +kernel
theorem dX5_addStamps_27 : decode cX5_addStamps 27 = .ok (.iadd, 1) := by decide +kernel
theorem dX5_addStamps_28 : decode cX5_addStamps 28 = .ok (.istore_n 1, 1) := by decide +kernel
theorem dX5_addStamps_29 : decode cX5_addStamps 29 = .ok (.iinc 2 1, 3) := by decide +kernel
theorem dX5_addStamps_32 : decode cX5_addStamps 32 = .ok (.goto (-28), 3) := by decide +kernel
theorem dX5_addStamps_35 : decode cX5_addStamps 35 = .ok (.iload_n 1, 1) := by decide +kernel
theorem dX5_addStamps_36 : decode cX5_addStamps 36 = .ok (.ireturn, 1) := by decide +kernel
theorem dX5_putEntry_0 : decode cX5_putEntry 0 = .ok (.iload_n 1, 1) := by decide +kernel
theorem dX5_putEntry_1 : decode cX5_putEntry 1 = .ok (.invokestatic 24, 3) := by decide +kernel
theorem dX5_putEntry_4 : decode cX5_putEntry 4 = .ok (.ifCond .eq 32, 3) := by decide +kernel
theorem dX5_putEntry_7 : decode cX5_putEntry 7 = .ok (.aload_n 0, 1) := by decide +kernel
theorem dX5_putEntry_8 : decode cX5_putEntry 8 = .ok (.getfield 9, 3) := by decide +kernel
theorem dX5_putEntry_11 : decode cX5_putEntry 11 = .ok (.iload_n 1, 1) := by decide +kernel
theorem dX5_putEntry_12 : decode cX5_putEntry 12 = .ok (.iconst 1, 1) := by decide +kernel
theorem dX5_putEntry_13 : decode cX5_putEntry 13 = .ok (.iastore, 1) := by decide +kernel
theorem dX5_putEntry_14 : decode cX5_putEntry 14 = .ok (.aload_n 0, 1) := by decide +kernel
theorem dX5_putEntry_15 : decode cX5_putEntry 15 = .ok (.getfield 18, 3) := by decide +kernel
theorem dX5_putEntry_18 : decode cX5_putEntry 18 = .ok (.iload_n 1, 1) := by decide +kernel
theorem dX5_putEntry_19 : decode cX5_putEntry 19 = .ok (.iload_n 2, 1) := by decide +kernel
theorem dX5_putEntry_20 : decode cX5_putEntry 20 = .ok (.iastore, 1) := by decide +kernel
theorem dX5_putEntry_21 : decode cX5_putEntry 21 = .ok (.aload_n 0, 1) := by decide +kernel
theorem dX5_putEntry_22 : decode cX5_putEntry 22 = .ok (.getfield 21, 3) := by decide +kernel
theorem dX5_putEntry_25 : decode cX5_putEntry 25 = .ok (.iload_n 1, 1) := by decide +kernel
theorem dX5_putEntry_26 : decode cX5_putEntry 26 = .ok (.iload_n 3, 1) := by decide +kernel
theorem dX5_putEntry_27 : decode cX5_putEntry 27 = .ok (.iastore, 1) := by decide +kernel
theorem dX5_putEntry_28 : decode cX5_putEntry 28 = .ok (.aload_n 0, 1) := by decide +kernel
theorem dX5_putEntry_29 : decode cX5_putEntry 29 = .ok (.getfield 15, 3) := by decide +kernel
theorem dX5_putEntry_32 : decode cX5_putEntry 32 = .ok (.iload_n 1, 1) := by decide +kernel
theorem dX5_putEntry_33 : decode cX5_putEntry 33 = .ok (.iload 4, 2) := by decide +kernel
theorem dX5_putEntry_35 : decode cX5_putEntry 35 = .ok (.iastore, 1) := by decide +kernel
theorem dX5_putEntry_36 : decode cX5_putEntry 36 = .ok (.return_, 1) := by decide +kernel
theorem dX5_putAside_0 : decode cX5_putAside 0 = .ok (.aload_n 0, 1) := by decide +kernel
theorem dX5_putAside_1 : decode cX5_putAside 1 = .ok (.iload_n 1, 1) := by decide +kernel
theorem dX5_putAside_2 : decode cX5_putAside 2 = .ok (.iconst 2, 1) := by decide +kernel
theorem dX5_putAside_3 : decode cX5_putAside 3 = .ok (.iload_n 2, 1) := by decide +kernel
theorem dX5_putAside_4 : decode cX5_putAside 4 = .ok (.invokevirtual 38, 3) := by decide +kernel
theorem dX5_putAside_7 : decode cX5_putAside 7 = .ok (.return_, 1) := by decide +kernel
theorem dX5_putTrace_0 : decode cX5_putTrace 0 = .ok (.aload_n 0, 1) := by decide +kernel
theorem dX5_putTrace_1 : decode cX5_putTrace 1 = .ok (.iload_n 1, 1) := by decide +kernel
theorem dX5_putTrace_2 : decode cX5_putTrace 2 = .ok (.iconst 3, 1) := by decide +kernel
theorem dX5_putTrace_3 : decode cX5_putTrace 3 = .ok (.iload_n 2, 1) := by decide +kernel
theorem dX5_putTrace_4 : decode cX5_putTrace 4 = .ok (.invokevirtual 38, 3) := by decide +kernel
theorem dX5_putTrace_7 : decode cX5_putTrace 7 = .ok (.return_, 1) := by decide +kernel
theorem dX5_put_0 : decode cX5_put 0 = .ok (.iload_n 1, 1) := by decide +kernel
theorem dX5_put_1 : decode cX5_put 1 = .ok (.invokestatic 24, 3) := by decide +kernel
theorem dX5_put_4 : decode cX5_put 4 = .ok (.ifCond .eq 17, 3) := by decide +kernel
theorem dX5_put_7 : decode cX5_put 7 = .ok (.aload_n 0, 1) := by decide +kernel
theorem dX5_put_8 : decode cX5_put 8 = .ok (.getfield 9, 3) := by decide +kernel
theorem dX5_put_11 : decode cX5_put 11 = .ok (.iload_n 1, 1) := by decide +kernel
theorem dX5_put_12 : decode cX5_put 12 = .ok (.iload_n 2, 1) := by decide +kernel
theorem dX5_put_13 : decode cX5_put 13 = .ok (.iastore, 1) := by decide +kernel
theorem dX5_put_14 : decode cX5_put 14 = .ok (.aload_n 0, 1) := by decide +kernel
theorem dX5_put_15 : decode cX5_put 15 = .ok (.getfield 15, 3) := by decide +kernel
theorem dX5_put_18 : decode cX5_put 18 = .ok (.iload_n 1, 1) := by decide +kernel
theorem dX5_put_19 : decode cX5_put 19 = .ok (.iload_n 3, 1) := by decide +kernel
theorem dX5_put_20 : decode cX5_put 20 = .ok (.iastore, 1) := by decide +kernel
theorem dX5_put_21 : decode cX5_put 21 = .ok (.return_, 1) := by decide +kernel
theorem dX6_init_0 : decode cX6_init 0 = .ok (.aload_n 0, 1) := by decide +kernel
theorem dX6_init_1 : decode cX6_init 1 = .ok (.invokespecial 1, 3) := by decide +kernel
theorem dX6_init_4 : decode cX6_init 4 = .ok (.aload_n 0, 1) := by decide +kernel
theorem dX6_init_5 : decode cX6_init 5 = .ok (.new 7, 3) := by decide +kernel
theorem dX6_init_8 : decode cX6_init 8 = .ok (.dup, 1) := by decide +kernel
theorem dX6_init_9 : decode cX6_init 9 = .ok (.invokespecial 9, 3) := by decide +kernel
theorem dX6_init_12 : decode cX6_init 12 = .ok (.putfield 10, 3) := by decide +kernel
theorem dX6_init_15 : decode cX6_init 15 = .ok (.aload_n 0, 1) := by decide +kernel
theorem dX6_init_16 : decode cX6_init 16 = .ok (.new 16, 3) := by decide +kernel
theorem dX6_init_19 : decode cX6_init 19 = .ok (.dup, 1) := by decide +kernel
theorem dX6_init_20 : decode cX6_init 20 = .ok (.invokespecial 18, 3) := by decide +kernel
theorem dX6_init_23 : decode cX6_init 23 = .ok (.putfield 19, 3) := by decide +kernel
theorem dX6_init_26 : decode cX6_init 26 = .ok (.aload_n 0, 1) := by decide +kernel
theorem dX6_init_27 : decode cX6_init 27 = .ok (.new 23, 3) := by decide +kernel
theorem dX6_init_30 : decode cX6_init 30 = .ok (.dup, 1) := by decide +kernel
theorem dX6_init_31 : decode cX6_init 31 = .ok (.invokespecial 25, 3) := by decide +kernel
theorem dX6_init_34 : decode cX6_init 34 = .ok (.putfield 26, 3) := by decide +kernel
theorem dX6_init_37 : decode cX6_init 37 = .ok (.aload_n 0, 1) := by decide +kernel
theorem dX6_init_38 : decode cX6_init 38 = .ok (.new 30, 3) := by decide +kernel
theorem dX6_init_41 : decode cX6_init 41 = .ok (.dup, 1) := by decide +kernel
theorem dX6_init_42 : decode cX6_init 42 = .ok (.invokespecial 32, 3) := by decide +kernel
theorem dX6_init_45 : decode cX6_init 45 = .ok (.putfield 33, 3) := by decide +kernel
theorem dX6_init_48 : decode cX6_init 48 = .ok (.aload_n 0, 1) := by decide +kernel
theorem dX6_init_49 : decode cX6_init 49 = .ok (.new 30, 3) := by decide +kernel
theorem dX6_init_52 : decode cX6_init 52 = .ok (.dup, 1) := by decide +kernel
theorem dX6_init_53 : decode cX6_init 53 = .ok (.invokespecial 32, 3) := by decide +kernel
theorem dX6_init_56 : decode cX6_init 56 = .ok (.putfield 37, 3) := by decide +kernel
theorem dX6_init_59 : decode cX6_init 59 = .ok (.aload_n 0, 1) := by decide +kernel
theorem dX6_init_60 : decode cX6_init 60 = .ok (.new 40, 3) := by decide +kernel
theorem dX6_init_63 : decode cX6_init 63 = .ok (.dup, 1) := by decide +kernel
theorem dX6_init_64 : decode cX6_init 64 = .ok (.invokespecial 42, 3) := by decide +kernel
theorem dX6_init_67 : decode cX6_init 67 = .ok (.putfield 43, 3) := by decide +kernel
theorem dX6_init_70 : decode cX6_init 70 = .ok (.aload_n 0, 1) := by decide +kernel
theorem dX6_init_71 : decode cX6_init 71 = .ok (.new 47, 3) := by decide +kernel
theorem dX6_init_74 : decode cX6_init 74 = .ok (.dup, 1) := by decide +kernel
theorem dX6_init_75 : decode cX6_init 75 = .ok (.invokespecial 49, 3) := by decide +kernel
theorem dX6_init_78 : decode cX6_init 78 = .ok (.putfield 50, 3) := by decide +kernel
theorem dX6_init_81 : decode cX6_init 81 = .ok (.aload_n 0, 1) := by decide +kernel
theorem dX6_init_82 : decode cX6_init 82 = .ok (.bipush 105, 2) := by decide +kernel
theorem dX6_init_84 : decode cX6_init 84 = .ok (.putfield 54, 3) := by decide +kernel
theorem dX6_init_87 : decode cX6_init 87 = .ok (.aload_n 0, 1) := by decide +kernel
theorem dX6_init_88 : decode cX6_init 88 = .ok (.iconst 0, 1) := by decide +kernel
theorem dX6_init_89 : decode cX6_init 89 = .ok (.putfield 58, 3) := by decide +kernel
theorem dX6_init_92 : decode cX6_init 92 = .ok (.aload_n 0, 1) := by decide +kernel
theorem dX6_init_93 : decode cX6_init 93 = .ok (.iconst 0, 1) := by decide +kernel
theorem dX6_init_94 : decode cX6_init 94 = .ok (.putfield 62, 3) := by decide +kernel
theorem dX6_init_97 : decode cX6_init 97 = .ok (.aload_n 0, 1) := by decide +kernel
theorem dX6_init_98 : decode cX6_init 98 = .ok (.iconst 1, 1) := by decide +kernel
theorem dX6_init_99 : decode cX6_init 99 = .ok (.putfield 65, 3) := by decide +kernel
theorem dX6_init_102 : decode cX6_init 102 = .ok (.aload_n 0, 1) := by decide +kernel
theorem dX6_init_103 : decode cX6_init 103 = .ok (.iconst 0, 1) := by decide +kernel
theorem dX6_init_104 : decode cX6_init 104 = .ok (.putfield 68, 3) := by decide +kernel
theorem dX6_init_107 : decode cX6_init 107 = .ok (.return_, 1) := by decide +kernel
theorem dX6_addStep_0 : decode cX6_addStep 0 = .ok (.iload_n 1, 1) := by decide +kernel
theorem dX6_addStep_1 : decode cX6_addStep 1 = .ok (.iload_n 2, 1) := by decide +kernel
theorem dX6_addStep_2 : decode cX6_addStep 2 = .ok (.invokestatic 71, 3) := by decide +kernel
theorem dX6_addStep_5 : decode cX6_addStep 5 = .ok (.ifCond .ne 13, 3) := by decide +kernel
theorem dX6_addStep_8 : decode cX6_addStep 8 = .ok (.new 75, 3) := by decide +kernel
theorem dX6_addStep_11 : decode cX6_addStep 11 = .ok (.dup, 1) := by decide +kernel
theorem dX6_addStep_12 : decode cX6_addStep 12 = .ok (.ldc 77, 2) := by decide +kernel
theorem dX6_addStep_14 : decode cX6_addStep 14 = .ok (.invokespecial 79, 3) := by decide +kernel
theorem dX6_addStep_17 : decode cX6_addStep 17 = .ok (.athrow, 1) := by decide +kernel
theorem dX6_addStep_18 : decode cX6_addStep 18 = .ok (.aload_n 0, 1) := by decide +kernel
theorem dX6_addStep_19 : decode cX6_addStep 19 = .ok (.getfield 54, 3) := by decide +kernel
theorem dX6_addStep_22 : decode cX6_addStep 22 = .ok (.bipush 105, 2) := by decide +kernel
theorem dX6_addStep_24 : decode cX6_addStep 24 = .ok (.if_icmp .ne 13, 3) := by decide +kernel
theorem dX6_addStep_27 : decode cX6_addStep 27 = .ok (.aload_n 0, 1) := by decide +kernel
theorem dX6_addStep_28 : decode cX6_addStep 28 = .ok (.getfield 10, 3) := by decide +kernel
theorem dX6_addStep_31 : decode cX6_addStep 31 = .ok (.invokevirtual 82, 3) := by decide +kernel
theorem dX6_addStep_34 : decode cX6_addStep 34 = .ok (.ifCond .eq 13, 3) := by decide +kernel
theorem dX6_addStep_37 : decode cX6_addStep 37 = .ok (.new 86, 3) := by decide +kernel
theorem dX6_addStep_40 : decode cX6_addStep 40 = .ok (.dup, 1) := by decide +kernel
theorem dX6_addStep_41 : decode cX6_addStep 41 = .ok (.ldc 88, 2) := by decide +kernel
theorem dX6_addStep_43 : decode cX6_addStep 43 = .ok (.invokespecial 90, 3) := by decide +kernel
theorem dX6_addStep_46 : decode cX6_addStep 46 = .ok (.athrow, 1) := by decide +kernel
theorem dX6_addStep_47 : decode cX6_addStep 47 = .ok (.aload_n 0, 1) := by decide +kernel
theorem dX6_addStep_48 : decode cX6_addStep 48 = .ok (.getfield 10, 3) := by decide +kernel
theorem dX6_addStep_51 : decode cX6_addStep 51 = .ok (.iload_n 1, 1) := by decide +kernel
theorem dX6_addStep_52 : decode cX6_addStep 52 = .ok (.iload_n 2, 1) := by decide +kernel
theorem dX6_addStep_53 : decode cX6_addStep 53 = .ok (.invokevirtual 91, 3) := by decide +kernel
theorem dX6_addStep_56 : decode cX6_addStep 56 = .ok (.aload_n 0, 1) := by decide +kernel
theorem dX6_addStep_57 : decode cX6_addStep 57 = .ok (.getfield 10, 3) := by decide +kernel
theorem dX6_addStep_60 : decode cX6_addStep 60 = .ok (.invokevirtual 95, 3) := by decide +kernel
theorem dX6_addStep_63 : decode cX6_addStep 63 = .ok (.ireturn, 1) := by decide +kernel
theorem dX6_start_0 : decode cX6_start 0 = .ok (.aload_n 0, 1) := by decide +kernel
theorem dX6_start_1 : decode cX6_start 1 = .ok (.getfield 54, 3) := by decide +kernel
theorem dX6_start_4 : decode cX6_start 4 = .ok (.bipush 105, 2) := by decide +kernel
theorem dX6_start_6 : decode cX6_start 6 = .ok (.if_icmp .eq 13, 3) := by decide +kernel
theorem dX6_start_9 : decode cX6_start 9 = .ok (.new 86, 3) := by decide +kernel
theorem dX6_start_12 : decode cX6_start 12 = .ok (.dup, 1) := by decide +kernel
theorem dX6_start_13 : decode cX6_start 13 = .ok (.ldc 99, 2) := by decide +kernel
theorem dX6_start_15 : decode cX6_start 15 = .ok (.invokespecial 90, 3) := by decide +kernel
theorem dX6_start_18 : decode cX6_start 18 = .ok (.athrow, 1) := by decide +kernel
theorem dX6_start_19 : decode cX6_start 19 = .ok (.aload_n 0, 1) := by decide +kernel
theorem dX6_start_20 : decode cX6_start 20 = .ok (.bipush 99, 2) := by decide +kernel
theorem dX6_start_22 : decode cX6_start 22 = .ok (.putfield 54, 3) := by decide +kernel
theorem dX6_start_25 : decode cX6_start 25 = .ok (.aload_n 0, 1) := by decide +kernel
theorem dX6_start_26 : decode cX6_start 26 = .ok (.getfield 19, 3) := by decide +kernel
theorem dX6_start_29 : decode cX6_start 29 = .ok (.invokevirtual 101, 3) := by decide +kernel
theorem dX6_start_32 : decode cX6_start 32 = .ok (.ireturn, 1) := by decide +kernel
theorem dX6_phase_0 : decode cX6_phase 0 = .ok (.aload_n 0, 1) := by decide +kernel
theorem dX6_phase_1 : decode cX6_phase 1 = .ok (.getfield 54, 3) := by decide +kernel
theorem dX6_phase_4 : decode cX6_phase 4 = .ok (.ireturn, 1) := by decide +kernel
theorem dX6_goToBoth_0 : decode cX6_goToBoth 0 = .ok (.aload_n 0, 1) := by decide +kernel
theorem dX6_goToBoth_1 : decode cX6_goToBoth 1 = .ok (.getfield 54, 3) := by decide +kernel
theorem dX6_goToBoth_4 : decode cX6_goToBoth 4 = .ok (.bipush 99, 2) := by decide +kernel
theorem dX6_goToBoth_6 : decode cX6_goToBoth 6 = .ok (.if_icmp .eq 13, 3) := by decide +kernel
theorem dX6_goToBoth_9 : decode cX6_goToBoth 9 = .ok (.new 86, 3) := by decide +kernel
theorem dX6_goToBoth_12 : decode cX6_goToBoth 12 = .ok (.dup, 1) := by decide +kernel
theorem dX6_goToBoth_13 : decode cX6_goToBoth 13 = .ok (.ldc 104, 2) := by decide +kernel
theorem dX6_goToBoth_15 : decode cX6_goToBoth 15 = .ok (.invokespecial 90, 3) := by decide +kernel
theorem dX6_goToBoth_18 : decode cX6_goToBoth 18 = .ok (.athrow, 1) := by decide +kernel
theorem dX6_goToBoth_19 : decode cX6_goToBoth 19 = .ok (.aload_n 0, 1) := by decide +kernel
theorem dX6_goToBoth_20 : decode cX6_goToBoth 20 = .ok (.getfield 43, 3) := by decide +kernel
theorem dX6_goToBoth_23 : decode cX6_goToBoth 23 = .ok (.invokevirtual 106, 3) := by decide +kernel
theorem dX6_goToBoth_26 : decode cX6_goToBoth 26 = .ok (.ifCond .gt 13, 3) := by decide +kernel
theorem dX6_goToBoth_29 : decode cX6_goToBoth 29 = .ok (.aload_n 0, 1) := by decide +kernel
theorem dX6_goToBoth_30 : decode cX6_goToBoth 30 = .ok (.getfield 43, 3) := by decide +kernel
theorem dX6_goToBoth_33 : decode cX6_goToBoth 33 = .ok (.invokevirtual 109, 3) := by decide +kernel
theorem dX6_goToBoth_36 : decode cX6_goToBoth 36 = .ok (.ifCond .le 13, 3) := by decide +kernel
theorem dX6_goToBoth_39 : decode cX6_goToBoth 39 = .ok (.new 112, 3) := by decide +kernel
theorem dX6_goToBoth_42 : decode cX6_goToBoth 42 = .ok (.dup, 1) := by decide +kernel
theorem dX6_goToBoth_43 : decode cX6_goToBoth 43 = .ok (.ldc 114, 2) := by decide +kernel
theorem dX6_goToBoth_45 : decode cX6_goToBoth 45 = .ok (.invokespecial 116, 3) := by decide +kernel
theorem dX6_goToBoth_48 : decode cX6_goToBoth 48 = .ok (.athrow, 1) := by decide +kernel
theorem dX6_goToBoth_49 : decode cX6_goToBoth 49 = .ok (.aload_n 0, 1) := by decide +kernel
theorem dX6_goToBoth_50 : decode cX6_goToBoth 50 = .ok (.bipush 120, 2) := by decide +kernel
theorem dX6_goToBoth_52 : decode cX6_goToBoth 52 = .ok (.invokevirtual 117, 3) := by decide +kernel
theorem dX6_goToBoth_55 : decode cX6_goToBoth 55 = .ok (.istore_n 1, 1) := by decide +kernel
theorem dX6_goToBoth_56 : decode cX6_goToBoth 56 = .ok (.aload_n 0, 1) := by decide +kernel
theorem dX6_goToBoth_57 : decode cX6_goToBoth 57 = .ok (.bipush 98, 2) := by decide +kernel
theorem dX6_goToBoth_59 : decode cX6_goToBoth 59 = .ok (.putfield 54, 3) := by decide +kernel
theorem dX6_goToBoth_62 : decode cX6_goToBoth 62 = .ok (.iload_n 1, 1) := by decide +kernel
theorem dX6_goToBoth_63 : decode cX6_goToBoth 63 = .ok (.ireturn, 1) := by decide +kernel
theorem dX6_switchOver_0 : decode cX6_switchOver 0 = .ok (.aload_n 0, 1) := by decide +kernel
theorem dX6_switchOver_1 : decode cX6_switchOver 1 = .ok (.getfield 54, 3) := by decide +kernel
theorem dX6_switchOver_4 : decode cX6_switchOver 4 = .ok (.bipush 98, 2) := by decide +kernel
theorem dX6_switchOver_6 : decode cX6_switchOver 6 = .ok (.if_icmp .eq 13, 3) := by decide +kernel
theorem dX6_switchOver_9 : decode cX6_switchOver 9 = .ok (.new 86, 3) := by decide +kernel
theorem dX6_switchOver_12 : decode cX6_switchOver 12 = .ok (.dup, 1) := by decide +kernel
theorem dX6_switchOver_13 : decode cX6_switchOver 13 = .ok (.ldc 121, 2) := by decide +kernel
theorem dX6_switchOver_15 : decode cX6_switchOver 15 = .ok (.invokespecial 90, 3) := by decide +kernel
theorem dX6_switchOver_18 : decode cX6_switchOver 18 = .ok (.athrow, 1) := by decide +kernel
theorem dX6_switchOver_19 : decode cX6_switchOver 19 = .ok (.aload_n 0, 1) := by decide +kernel
theorem dX6_switchOver_20 : decode cX6_switchOver 20 = .ok (.getfield 26, 3) := by decide +kernel
theorem dX6_switchOver_23 : decode cX6_switchOver 23 = .ok (.invokevirtual 123, 3) := by decide +kernel
theorem dX6_switchOver_26 : decode cX6_switchOver 26 = .ok (.ifCond .ne 13, 3) := by decide +kernel
theorem dX6_switchOver_29 : decode cX6_switchOver 29 = .ok (.aload_n 0, 1) := by decide +kernel
theorem dX6_switchOver_30 : decode cX6_switchOver 30 = .ok (.iconst 0, 1) := by decide +kernel
theorem dX6_switchOver_31 : decode cX6_switchOver 31 = .ok (.bipush 39, 2) := by decide +kernel
theorem dX6_switchOver_33 : decode cX6_switchOver 33 = .ok (.invokevirtual 126, 3) := by decide +kernel
theorem dX6_switchOver_36 : decode cX6_switchOver 36 = .ok (.ifCond .ne 13, 3) := by decide +kernel
theorem dX6_switchOver_39 : decode cX6_switchOver 39 = .ok (.new 112, 3) := by decide +kernel
theorem dX6_switchOver_42 : decode cX6_switchOver 42 = .ok (.dup, 1) := by decide +kernel
theorem dX6_switchOver_43 : decode cX6_switchOver 43 = .ok (.ldc 130, 2) := by decide +kernel
theorem dX6_switchOver_45 : decode cX6_switchOver 45 = .ok (.invokespecial 116, 3) := by decide +kernel
theorem dX6_switchOver_48 : decode cX6_switchOver 48 = .ok (.athrow, 1) := by decide +kernel
theorem dX6_switchOver_49 : decode cX6_switchOver 49 = .ok (.aload_n 0, 1) := by decide +kernel
theorem dX6_switchOver_50 : decode cX6_switchOver 50 = .ok (.bipush 116, 2) := by decide +kernel
theorem dX6_switchOver_52 : decode cX6_switchOver 52 = .ok (.putfield 54, 3) := by decide +kernel
theorem dX6_switchOver_55 : decode cX6_switchOver 55 = .ok (.aload_n 0, 1) := by decide +kernel
theorem dX6_switchOver_56 : decode cX6_switchOver 56 = .ok (.getfield 26, 3) := by decide +kernel
theorem dX6_switchOver_59 : decode cX6_switchOver 59 = .ok (.invokevirtual 132, 3) := by decide +kernel
theorem dX6_switchOver_62 : decode cX6_switchOver 62 = .ok (.ireturn, 1) := by decide +kernel
theorem dX6_goBack_0 : decode cX6_goBack 0 = .ok (.aload_n 0, 1) := by decide +kernel
theorem dX6_goBack_1 : decode cX6_goBack 1 = .ok (.getfield 54, 3) := by decide +kernel
theorem dX6_goBack_4 : decode cX6_goBack 4 = .ok (.bipush 116, 2) := by decide +kernel
theorem dX6_goBack_6 : decode cX6_goBack 6 = .ok (.if_icmp .eq 13, 3) := by decide +kernel
theorem dX6_goBack_9 : decode cX6_goBack 9 = .ok (.new 86, 3) := by decide +kernel
theorem dX6_goBack_12 : decode cX6_goBack 12 = .ok (.dup, 1) := by decide +kernel
theorem dX6_goBack_13 : decode cX6_goBack 13 = .ok (.ldc 135, 2) := by decide +kernel
theorem dX6_goBack_15 : decode cX6_goBack 15 = .ok (.invokespecial 90, 3) := by decide +kernel
theorem dX6_goBack_18 : decode cX6_goBack 18 = .ok (.athrow, 1) := by decide +kernel
theorem dX6_goBack_19 : decode cX6_goBack 19 = .ok (.aload_n 0, 1) := by decide +kernel
theorem dX6_goBack_20 : decode cX6_goBack 20 = .ok (.invokevirtual 137, 3) := by decide +kernel
theorem dX6_goBack_23 : decode cX6_goBack 23 = .ok (.ifCond .ne 13, 3) := by decide +kernel
theorem dX6_goBack_26 : decode cX6_goBack 26 = .ok (.new 112, 3) := by decide +kernel
theorem dX6_goBack_29 : decode cX6_goBack 29 = .ok (.dup, 1) := by decide +kernel
theorem dX6_goBack_30 : decode cX6_goBack 30 = .ok (.ldc 140, 2) := by decide +kernel
theorem dX6_goBack_32 : decode cX6_goBack 32 = .ok (.invokespecial 116, 3) := by decide +kernel
theorem dX6_goBack_35 : decode cX6_goBack 35 = .ok (.athrow, 1) := by decide +kernel
theorem dX6_goBack_36 : decode cX6_goBack 36 = .ok (.aload_n 0, 1) := by decide +kernel
theorem dX6_goBack_37 : decode cX6_goBack 37 = .ok (.getfield 37, 3) := by decide +kernel
theorem dX6_goBack_40 : decode cX6_goBack 40 = .ok (.invokevirtual 142, 3) := by decide +kernel
theorem dX6_goBack_43 : decode cX6_goBack 43 = .ok (.istore_n 1, 1) := by decide +kernel
theorem dX6_goBack_44 : decode cX6_goBack 44 = .ok (.iconst 0, 1) := by decide +kernel
theorem dX6_goBack_45 : decode cX6_goBack 45 = .ok (.istore_n 2, 1) := by decide +kernel
theorem dX6_goBack_46 : decode cX6_goBack 46 = .ok (.iconst 0, 1) := by decide +kernel
theorem dX6_goBack_47 : decode cX6_goBack 47 = .ok (.istore_n 3, 1) := by decide +kernel
theorem dX6_goBack_48 : decode cX6_goBack 48 = .ok (.iload_n 3, 1) := by decide +kernel
theorem dX6_goBack_49 : decode cX6_goBack 49 = .ok (.iload_n 1, 1) := by decide +kernel
theorem dX6_goBack_50 : decode cX6_goBack 50 = .ok (.if_icmp .ge 27, 3) := by decide +kernel
theorem dX6_goBack_53 : decode cX6_goBack 53 = .ok (.aload_n 0, 1) := by decide +kernel
theorem dX6_goBack_54 : decode cX6_goBack 54 = .ok (.aload_n 0, 1) := by decide +kernel
theorem dX6_goBack_55 : decode cX6_goBack 55 = .ok (.getfield 37, 3) := by decide +kernel
theorem dX6_goBack_58 : decode cX6_goBack 58 = .ok (.iload_n 3, 1) := by decide +kernel
theorem dX6_goBack_59 : decode cX6_goBack 59 = .ok (.invokevirtual 143, 3) := by decide +kernel
theorem dX6_goBack_62 : decode cX6_goBack 62 = .ok (.invokevirtual 146, 3) := by decide +kernel
theorem dX6_goBack_65 : decode cX6_goBack 65 = .ok (.ifCond .eq 6, 3) := by decide +kernel
theorem dX6_goBack_68 : decode cX6_goBack 68 = .ok (.iinc 2 1, 3) := by decide +kernel
theorem dX6_goBack_71 : decode cX6_goBack 71 = .ok (.iinc 3 1, 3) := by decide +kernel
theorem dX6_goBack_74 : decode cX6_goBack 74 = .ok (.goto (-26), 3) := by decide +kernel
theorem dX6_goBack_77 : decode cX6_goBack 77 = .ok (.aload_n 0, 1) := by decide +kernel
theorem dX6_goBack_78 : decode cX6_goBack 78 = .ok (.getfield 37, 3) := by decide +kernel
theorem dX6_goBack_81 : decode cX6_goBack 81 = .ok (.invokevirtual 150, 3) := by decide +kernel
theorem dX6_goBack_84 : decode cX6_goBack 84 = .ok (.aload_n 0, 1) := by decide +kernel
theorem dX6_goBack_85 : decode cX6_goBack 85 = .ok (.bipush 98, 2) := by decide +kernel
theorem dX6_goBack_87 : decode cX6_goBack 87 = .ok (.putfield 54, 3) := by decide +kernel
theorem dX6_goBack_90 : decode cX6_goBack 90 = .ok (.iload_n 2, 1) := by decide +kernel
theorem dX6_goBack_91 : decode cX6_goBack 91 = .ok (.ireturn, 1) := by decide +kernel
theorem dX6_end_0 : decode cX6_end 0 = .ok (.aload_n 0, 1) := by decide +kernel
theorem dX6_end_1 : decode cX6_end 1 = .ok (.getfield 54, 3) := by decide +kernel
theorem dX6_end_4 : decode cX6_end 4 = .ok (.bipush 116, 2) := by decide +kernel
theorem dX6_end_6 : decode cX6_end 6 = .ok (.if_icmp .eq 13, 3) := by decide +kernel
theorem dX6_end_9 : decode cX6_end 9 = .ok (.new 86, 3) := by decide +kernel
theorem dX6_end_12 : decode cX6_end 12 = .ok (.dup, 1) := by decide +kernel
theorem dX6_end_13 : decode cX6_end 13 = .ok (.ldc 135, 2) := by decide +kernel
theorem dX6_end_15 : decode cX6_end 15 = .ok (.invokespecial 90, 3) := by decide +kernel
theorem dX6_end_18 : decode cX6_end 18 = .ok (.athrow, 1) := by decide +kernel
theorem dX6_end_19 : decode cX6_end 19 = .ok (.aload_n 0, 1) := by decide +kernel
theorem dX6_end_20 : decode cX6_end 20 = .ok (.bipush 100, 2) := by decide +kernel
theorem dX6_end_22 : decode cX6_end 22 = .ok (.putfield 54, 3) := by decide +kernel
theorem dX6_end_25 : decode cX6_end 25 = .ok (.aload_n 0, 1) := by decide +kernel
theorem dX6_end_26 : decode cX6_end 26 = .ok (.getfield 37, 3) := by decide +kernel
theorem dX6_end_29 : decode cX6_end 29 = .ok (.invokevirtual 142, 3) := by decide +kernel
theorem dX6_end_32 : decode cX6_end 32 = .ok (.ireturn, 1) := by decide +kernel
theorem dX6_write_0 : decode cX6_write 0 = .ok (.aload_n 0, 1) := by decide +kernel
theorem dX6_write_1 : decode cX6_write 1 = .ok (.invokevirtual 153, 3) := by decide +kernel
theorem dX6_write_4 : decode cX6_write 4 = .ok (.ifCond .eq 9, 3) := by decide +kernel
theorem dX6_write_7 : decode cX6_write 7 = .ok (.sipush 999, 3) := by decide +kernel
theorem dX6_write_10 : decode cX6_write 10 = .ok (.goto 5, 3) := by decide +kernel
theorem dX6_write_13 : decode cX6_write 13 = .ok (.bipush 99, 2) := by decide +kernel
theorem dX6_write_15 : decode cX6_write 15 = .ok (.istore 4, 2) := by decide +kernel
theorem dX6_write_17 : decode cX6_write 17 = .ok (.iload_n 1, 1) := by decide +kernel
theorem dX6_write_18 : decode cX6_write 18 = .ok (.invokestatic 156, 3) := by decide +kernel
theorem dX6_write_21 : decode cX6_write 21 = .ok (.ifCond .eq 21, 3) := by decide +kernel
theorem dX6_write_24 : decode cX6_write 24 = .ok (.iload_n 2, 1) := by decide +kernel
theorem dX6_write_25 : decode cX6_write 25 = .ok (.iload 4, 2) := by decide +kernel
theorem dX6_write_27 : decode cX6_write 27 = .ok (.invokestatic 159, 3) := by decide +kernel
theorem dX6_write_30 : decode cX6_write 30 = .ok (.ifCond .eq 12, 3) := by decide +kernel
theorem dX6_write_33 : decode cX6_write 33 = .ok (.iload_n 3, 1) := by decide +kernel
theorem dX6_write_34 : decode cX6_write 34 = .ok (.iload 4, 2) := by decide +kernel
theorem dX6_write_36 : decode cX6_write 36 = .ok (.invokestatic 159, 3) := by decide +kernel
theorem dX6_write_39 : decode cX6_write 39 = .ok (.ifCond .ne 13, 3) := by decide +kernel
theorem dX6_write_42 : decode cX6_write 42 = .ok (.new 75, 3) := by decide +kernel
theorem dX6_write_45 : decode cX6_write 45 = .ok (.dup, 1) := by decide +kernel
theorem dX6_write_46 : decode cX6_write 46 = .ok (.ldc 162, 2) := by decide +kernel
theorem dX6_write_48 : decode cX6_write 48 = .ok (.invokespecial 79, 3) := by decide +kernel
theorem dX6_write_51 : decode cX6_write 51 = .ok (.athrow, 1) := by decide +kernel
theorem dX6_write_52 : decode cX6_write 52 = .ok (.aload_n 0, 1) := by decide +kernel
theorem dX6_write_53 : decode cX6_write 53 = .ok (.getfield 54, 3) := by decide +kernel
theorem dX6_write_56 : decode cX6_write 56 = .ok (.bipush 100, 2) := by decide +kernel
theorem dX6_write_58 : decode cX6_write 58 = .ok (.if_icmp .eq 10, 3) := by decide +kernel
theorem dX6_write_61 : decode cX6_write 61 = .ok (.aload_n 0, 1) := by decide +kernel
theorem dX6_write_62 : decode cX6_write 62 = .ok (.invokevirtual 164, 3) := by decide +kernel
theorem dX6_write_65 : decode cX6_write 65 = .ok (.ifCond .eq 13, 3) := by decide +kernel
theorem dX6_write_68 : decode cX6_write 68 = .ok (.new 86, 3) := by decide +kernel
theorem dX6_write_71 : decode cX6_write 71 = .ok (.dup, 1) := by decide +kernel
theorem dX6_write_72 : decode cX6_write 72 = .ok (.ldc 167, 2) := by decide +kernel
theorem dX6_write_74 : decode cX6_write 74 = .ok (.invokespecial 90, 3) := by decide +kernel
theorem dX6_write_77 : decode cX6_write 77 = .ok (.athrow, 1) := by decide +kernel
theorem dX6_write_78 : decode cX6_write 78 = .ok (.aload_n 0, 1) := by decide +kernel
theorem dX6_write_79 : decode cX6_write 79 = .ok (.iload_n 1, 1) := by decide +kernel
theorem dX6_write_80 : decode cX6_write 80 = .ok (.invokevirtual 169, 3) := by decide +kernel
theorem dX6_write_83 : decode cX6_write 83 = .ok (.istore 5, 2) := by decide +kernel
theorem dX6_write_85 : decode cX6_write 85 = .ok (.aload_n 0, 1) := by decide +kernel
theorem dX6_write_86 : decode cX6_write 86 = .ok (.getfield 54, 3) := by decide +kernel
theorem dX6_write_89 : decode cX6_write 89 = .ok (.bipush 116, 2) := by decide +kernel
theorem dX6_write_91 : decode cX6_write 91 = .ok (.if_icmp .ne 33, 3) := by decide +kernel
theorem dX6_write_94 : decode cX6_write 94 = .ok (.aload_n 0, 1) := by decide +kernel
theorem dX6_write_95 : decode cX6_write 95 = .ok (.getfield 26, 3) := by decide +kernel
theorem dX6_write_98 : decode cX6_write 98 = .ok (.iload_n 1, 1) := by decide +kernel
theorem dX6_write_99 : decode cX6_write 99 = .ok (.iload_n 2, 1) := by decide +kernel
theorem dX6_write_100 : decode cX6_write 100 = .ok (.iload_n 3, 1) := by decide +kernel
theorem dX6_write_101 : decode cX6_write 101 = .ok (.aload_n 0, 1) := by decide +kernel
theorem dX6_write_102 : decode cX6_write 102 = .ok (.getfield 33, 3) := by decide +kernel
theorem dX6_write_105 : decode cX6_write 105 = .ok (.invokevirtual 142, 3) := by decide +kernel
theorem dX6_write_108 : decode cX6_write 108 = .ok (.invokevirtual 172, 3) := by decide +kernel
theorem dX6_write_111 : decode cX6_write 111 = .ok (.aload_n 0, 1) := by decide +kernel
theorem dX6_write_112 : decode cX6_write 112 = .ok (.getfield 37, 3) := by decide +kernel
theorem dX6_write_115 : decode cX6_write 115 = .ok (.iload_n 1, 1) := by decide +kernel
theorem dX6_write_116 : decode cX6_write 116 = .ok (.iload_n 2, 1) := by decide +kernel
theorem dX6_write_117 : decode cX6_write 117 = .ok (.iload_n 3, 1) := by decide +kernel
theorem dX6_write_118 : decode cX6_write 118 = .ok (.invokevirtual 176, 3) := by decide +kernel
theorem dX6_write_121 : decode cX6_write 121 = .ok (.goto 45, 3) := by decide +kernel
theorem dX6_write_124 : decode cX6_write 124 = .ok (.aload_n 0, 1) := by decide +kernel
theorem dX6_write_125 : decode cX6_write 125 = .ok (.getfield 19, 3) := by decide +kernel
theorem dX6_write_128 : decode cX6_write 128 = .ok (.iload_n 1, 1) := by decide +kernel
theorem dX6_write_129 : decode cX6_write 129 = .ok (.iload_n 2, 1) := by decide +kernel
theorem dX6_write_130 : decode cX6_write 130 = .ok (.iload_n 3, 1) := by decide +kernel
theorem dX6_write_131 : decode cX6_write 131 = .ok (.invokevirtual 180, 3) := by decide +kernel
theorem dX6_write_134 : decode cX6_write 134 = .ok (.aload_n 0, 1) := by decide +kernel
theorem dX6_write_135 : decode cX6_write 135 = .ok (.getfield 54, 3) := by decide +kernel
theorem dX6_write_138 : decode cX6_write 138 = .ok (.bipush 105, 2) := by decide +kernel
theorem dX6_write_140 : decode cX6_write 140 = .ok (.if_icmp .eq 13, 3) := by decide +kernel
theorem dX6_write_143 : decode cX6_write 143 = .ok (.aload_n 0, 1) := by decide +kernel
theorem dX6_write_144 : decode cX6_write 144 = .ok (.getfield 33, 3) := by decide +kernel
theorem dX6_write_147 : decode cX6_write 147 = .ok (.iload_n 1, 1) := by decide +kernel
theorem dX6_write_148 : decode cX6_write 148 = .ok (.iload_n 2, 1) := by decide +kernel
theorem dX6_write_149 : decode cX6_write 149 = .ok (.iload_n 3, 1) := by decide +kernel
theorem dX6_write_150 : decode cX6_write 150 = .ok (.invokevirtual 176, 3) := by decide +kernel
theorem dX6_write_153 : decode cX6_write 153 = .ok (.aload_n 0, 1) := by decide +kernel
theorem dX6_write_154 : decode cX6_write 154 = .ok (.getfield 54, 3) := by decide +kernel
theorem dX6_write_157 : decode cX6_write 157 = .ok (.bipush 98, 2) := by decide +kernel
theorem dX6_write_159 : decode cX6_write 159 = .ok (.if_icmp .ne 7, 3) := by decide +kernel
theorem dX6_write_162 : decode cX6_write 162 = .ok (.aload_n 0, 1) := by decide +kernel
theorem dX6_write_163 : decode cX6_write 163 = .ok (.invokevirtual 183, 3) := by decide +kernel
theorem dX6_write_166 : decode cX6_write 166 = .ok (.iload 5, 2) := by decide +kernel
theorem dX6_write_168 : decode cX6_write 168 = .ok (.ireturn, 1) := by decide +kernel
theorem dX6_delete_0 : decode cX6_delete 0 = .ok (.iload_n 1, 1) := by decide +kernel
theorem dX6_delete_1 : decode cX6_delete 1 = .ok (.invokestatic 186, 3) := by decide +kernel
theorem dX6_delete_4 : decode cX6_delete 4 = .ok (.aload_n 0, 1) := by decide +kernel
theorem dX6_delete_5 : decode cX6_delete 5 = .ok (.getfield 54, 3) := by decide +kernel
theorem dX6_delete_8 : decode cX6_delete 8 = .ok (.bipush 100, 2) := by decide +kernel
theorem dX6_delete_10 : decode cX6_delete 10 = .ok (.if_icmp .ne 13, 3) := by decide +kernel
theorem dX6_delete_13 : decode cX6_delete 13 = .ok (.new 86, 3) := by decide +kernel
theorem dX6_delete_16 : decode cX6_delete 16 = .ok (.dup, 1) := by decide +kernel
theorem dX6_delete_17 : decode cX6_delete 17 = .ok (.ldc 190, 2) := by decide +kernel
theorem dX6_delete_19 : decode cX6_delete 19 = .ok (.invokespecial 90, 3) := by decide +kernel
theorem dX6_delete_22 : decode cX6_delete 22 = .ok (.athrow, 1) := by decide +kernel
theorem dX6_delete_23 : decode cX6_delete 23 = .ok (.aload_n 0, 1) := by decide +kernel
theorem dX6_delete_24 : decode cX6_delete 24 = .ok (.iload_n 1, 1) := by decide +kernel
theorem dX6_delete_25 : decode cX6_delete 25 = .ok (.invokevirtual 169, 3) := by decide +kernel
theorem dX6_delete_28 : decode cX6_delete 28 = .ok (.ifCond .ne 5, 3) := by decide +kernel
theorem dX6_delete_31 : decode cX6_delete 31 = .ok (.iconst 0, 1) := by decide +kernel
theorem dX6_delete_32 : decode cX6_delete 32 = .ok (.ireturn, 1) := by decide +kernel
theorem dX6_delete_33 : decode cX6_delete 33 = .ok (.aload_n 0, 1) := by decide +kernel
theorem dX6_delete_34 : decode cX6_delete 34 = .ok (.invokevirtual 164, 3) := by decide +kernel
theorem dX6_delete_37 : decode cX6_delete 37 = .ok (.ifCond .eq 13, 3) := by decide +kernel
theorem dX6_delete_40 : decode cX6_delete 40 = .ok (.new 86, 3) := by decide +kernel
theorem dX6_delete_43 : decode cX6_delete 43 = .ok (.dup, 1) := by decide +kernel
theorem dX6_delete_44 : decode cX6_delete 44 = .ok (.ldc 192, 2) := by decide +kernel
theorem dX6_delete_46 : decode cX6_delete 46 = .ok (.invokespecial 90, 3) := by decide +kernel
theorem dX6_delete_49 : decode cX6_delete 49 = .ok (.athrow, 1) := by decide +kernel
theorem dX6_delete_50 : decode cX6_delete 50 = .ok (.aload_n 0, 1) := by decide +kernel
theorem dX6_delete_51 : decode cX6_delete 51 = .ok (.getfield 54, 3) := by decide +kernel
theorem dX6_delete_54 : decode cX6_delete 54 = .ok (.bipush 116, 2) := by decide +kernel
theorem dX6_delete_56 : decode cX6_delete 56 = .ok (.if_icmp .ne 29, 3) := by decide +kernel
theorem dX6_delete_59 : decode cX6_delete 59 = .ok (.aload_n 0, 1) := by decide +kernel
theorem dX6_delete_60 : decode cX6_delete 60 = .ok (.getfield 26, 3) := by decide +kernel
theorem dX6_delete_63 : decode cX6_delete 63 = .ok (.iload_n 1, 1) := by decide +kernel
theorem dX6_delete_64 : decode cX6_delete 64 = .ok (.aload_n 0, 1) := by decide +kernel
theorem dX6_delete_65 : decode cX6_delete 65 = .ok (.getfield 33, 3) := by decide +kernel
theorem dX6_delete_68 : decode cX6_delete 68 = .ok (.invokevirtual 142, 3) := by decide +kernel
theorem dX6_delete_71 : decode cX6_delete 71 = .ok (.invokevirtual 194, 3) := by decide +kernel
theorem dX6_delete_74 : decode cX6_delete 74 = .ok (.aload_n 0, 1) := by decide +kernel
theorem dX6_delete_75 : decode cX6_delete 75 = .ok (.getfield 37, 3) := by decide +kernel
theorem dX6_delete_78 : decode cX6_delete 78 = .ok (.iload_n 1, 1) := by decide +kernel
theorem dX6_delete_79 : decode cX6_delete 79 = .ok (.invokevirtual 198, 3) := by decide +kernel
theorem dX6_delete_82 : decode cX6_delete 82 = .ok (.goto 41, 3) := by decide +kernel
theorem dX6_delete_85 : decode cX6_delete 85 = .ok (.aload_n 0, 1) := by decide +kernel
theorem dX6_delete_86 : decode cX6_delete 86 = .ok (.getfield 19, 3) := by decide +kernel
theorem dX6_delete_89 : decode cX6_delete 89 = .ok (.iload_n 1, 1) := by decide +kernel
theorem dX6_delete_90 : decode cX6_delete 90 = .ok (.invokevirtual 201, 3) := by decide +kernel
theorem dX6_delete_93 : decode cX6_delete 93 = .ok (.aload_n 0, 1) := by decide +kernel
theorem dX6_delete_94 : decode cX6_delete 94 = .ok (.getfield 54, 3) := by decide +kernel
theorem dX6_delete_97 : decode cX6_delete 97 = .ok (.bipush 105, 2) := by decide +kernel
theorem dX6_delete_99 : decode cX6_delete 99 = .ok (.if_icmp .eq 11, 3) := by decide +kernel
theorem dX6_delete_102 : decode cX6_delete 102 = .ok (.aload_n 0, 1) := by decide +kernel
theorem dX6_delete_103 : decode cX6_delete 103 = .ok (.getfield 33, 3) := by decide +kernel
theorem dX6_delete_106 : decode cX6_delete 106 = .ok (.iload_n 1, 1) := by decide +kernel
theorem dX6_delete_107 : decode cX6_delete 107 = .ok (.invokevirtual 198, 3) := by decide +kernel
theorem dX6_delete_110 : decode cX6_delete 110 = .ok (.aload_n 0, 1) := by decide +kernel
theorem dX6_delete_111 : decode cX6_delete 111 = .ok (.getfield 54, 3) := by decide +kernel
theorem dX6_delete_114 : decode cX6_delete 114 = .ok (.bipush 98, 2) := by decide +kernel
theorem dX6_delete_116 : decode cX6_delete 116 = .ok (.if_icmp .ne 7, 3) := by decide +kernel
theorem dX6_delete_119 : decode cX6_delete 119 = .ok (.aload_n 0, 1) := by decide +kernel
theorem dX6_delete_120 : decode cX6_delete 120 = .ok (.invokevirtual 183, 3) := by decide +kernel
theorem dX6_delete_123 : decode cX6_delete 123 = .ok (.iconst 1, 1) := by decide +kernel
theorem dX6_delete_124 : decode cX6_delete 124 = .ok (.ireturn, 1) := by decide +kernel
theorem dX6_read_0 : decode cX6_read 0 = .ok (.iload_n 1, 1) := by decide +kernel
theorem dX6_read_1 : decode cX6_read 1 = .ok (.invokestatic 186, 3) := by decide +kernel
theorem dX6_read_4 : decode cX6_read 4 = .ok (.aload_n 0, 1) := by decide +kernel
theorem dX6_read_5 : decode cX6_read 5 = .ok (.iload_n 1, 1) := by decide +kernel
theorem dX6_read_6 : decode cX6_read 6 = .ok (.invokevirtual 169, 3) := by decide +kernel
theorem dX6_read_9 : decode cX6_read 9 = .ok (.ifCond .ne 13, 3) := by decide +kernel
theorem dX6_read_12 : decode cX6_read 12 = .ok (.new 204, 3) := by decide +kernel
theorem dX6_read_15 : decode cX6_read 15 = .ok (.dup, 1) := by decide +kernel
theorem dX6_read_16 : decode cX6_read 16 = .ok (.ldc 206, 2) := by decide +kernel
theorem dX6_read_18 : decode cX6_read 18 = .ok (.invokespecial 208, 3) := by decide +kernel
theorem dX6_read_21 : decode cX6_read 21 = .ok (.athrow, 1) := by decide +kernel
theorem dX6_read_22 : decode cX6_read 22 = .ok (.aload_n 0, 1) := by decide +kernel
theorem dX6_read_23 : decode cX6_read 23 = .ok (.invokevirtual 153, 3) := by decide +kernel
theorem dX6_read_26 : decode cX6_read 26 = .ok (.ifCond .eq 15, 3) := by decide +kernel
theorem dX6_read_29 : decode cX6_read 29 = .ok (.aload_n 0, 1) := by decide +kernel
theorem dX6_read_30 : decode cX6_read 30 = .ok (.getfield 26, 3) := by decide +kernel
theorem dX6_read_33 : decode cX6_read 33 = .ok (.iload_n 1, 1) := by decide +kernel
theorem dX6_read_34 : decode cX6_read 34 = .ok (.iload_n 2, 1) := by decide +kernel
theorem dX6_read_35 : decode cX6_read 35 = .ok (.invokevirtual 209, 3) := by decide +kernel
theorem dX6_read_38 : decode cX6_read 38 = .ok (.goto 12, 3) := by decide +kernel
theorem dX6_read_41 : decode cX6_read 41 = .ok (.aload_n 0, 1) := by decide +kernel
theorem dX6_read_42 : decode cX6_read 42 = .ok (.getfield 19, 3) := by decide +kernel
theorem dX6_read_45 : decode cX6_read 45 = .ok (.iload_n 1, 1) := by decide +kernel
theorem dX6_read_46 : decode cX6_read 46 = .ok (.iload_n 2, 1) := by decide +kernel
theorem dX6_read_47 : decode cX6_read 47 = .ok (.invokevirtual 213, 3) := by decide +kernel
theorem dX6_read_50 : decode cX6_read 50 = .ok (.ireturn, 1) := by decide +kernel
theorem dX6_nextNumber_0 : decode cX6_nextNumber 0 = .ok (.aload_n 0, 1) := by decide +kernel
theorem dX6_nextNumber_1 : decode cX6_nextNumber 1 = .ok (.getfield 54, 3) := by decide +kernel
theorem dX6_nextNumber_4 : decode cX6_nextNumber 4 = .ok (.bipush 100, 2) := by decide +kernel
theorem dX6_nextNumber_6 : decode cX6_nextNumber 6 = .ok (.if_icmp .ne 13, 3) := by decide +kernel
theorem dX6_nextNumber_9 : decode cX6_nextNumber 9 = .ok (.new 86, 3) := by decide +kernel
theorem dX6_nextNumber_12 : decode cX6_nextNumber 12 = .ok (.dup, 1) := by decide +kernel
theorem dX6_nextNumber_13 : decode cX6_nextNumber 13 = .ok (.ldc 214, 2) := by decide +kernel
theorem dX6_nextNumber_15 : decode cX6_nextNumber 15 = .ok (.invokespecial 90, 3) := by decide +kernel
theorem dX6_nextNumber_18 : decode cX6_nextNumber 18 = .ok (.athrow, 1) := by decide +kernel
theorem dX6_nextNumber_19 : decode cX6_nextNumber 19 = .ok (.aload_n 0, 1) := by decide +kernel
theorem dX6_nextNumber_20 : decode cX6_nextNumber 20 = .ok (.getfield 54, 3) := by decide +kernel
theorem dX6_nextNumber_23 : decode cX6_nextNumber 23 = .ok (.bipush 116, 2) := by decide +kernel
theorem dX6_nextNumber_25 : decode cX6_nextNumber 25 = .ok (.if_icmp .ne 20, 3) := by decide +kernel
theorem dX6_nextNumber_28 : decode cX6_nextNumber 28 = .ok (.aload_n 0, 1) := by decide +kernel
theorem dX6_nextNumber_29 : decode cX6_nextNumber 29 = .ok (.dup, 1) := by decide +kernel
theorem dX6_nextNumber_30 : decode cX6_nextNumber 30 = .ok (.getfield 65, 3) := by decide +kernel
theorem dX6_nextNumber_33 : decode cX6_nextNumber 33 = .ok (.iconst 2, 1) := by decide +kernel
theorem dX6_nextNumber_34 : decode cX6_nextNumber 34 = .ok (.iadd, 1) := by decide +kernel
theorem dX6_nextNumber_35 : decode cX6_nextNumber 35 = .ok (.putfield 65, 3) := by decide +kernel
theorem dX6_nextNumber_38 : decode cX6_nextNumber 38 = .ok (.aload_n 0, 1) := by decide +kernel
theorem dX6_nextNumber_39 : decode cX6_nextNumber 39 = .ok (.getfield 65, 3) := by decide +kernel
theorem dX6_nextNumber_42 : decode cX6_nextNumber 42 = .ok (.iconst 2, 1) := by decide +kernel
theorem dX6_nextNumber_43 : decode cX6_nextNumber 43 = .ok (.isub, 1) := by decide +kernel
theorem dX6_nextNumber_44 : decode cX6_nextNumber 44 = .ok (.ireturn, 1) := by decide +kernel
theorem dX6_nextNumber_45 : decode cX6_nextNumber 45 = .ok (.aload_n 0, 1) := by decide +kernel
theorem dX6_nextNumber_46 : decode cX6_nextNumber 46 = .ok (.dup, 1) := by decide +kernel
theorem dX6_nextNumber_47 : decode cX6_nextNumber 47 = .ok (.getfield 62, 3) := by decide +kernel
theorem dX6_nextNumber_50 : decode cX6_nextNumber 50 = .ok (.iconst 2, 1) := by decide +kernel
theorem dX6_nextNumber_51 : decode cX6_nextNumber 51 = .ok (.iadd, 1) := by decide +kernel
theorem dX6_nextNumber_52 : decode cX6_nextNumber 52 = .ok (.putfield 62, 3) := by decide +kernel
theorem dX6_nextNumber_55 : decode cX6_nextNumber 55 = .ok (.aload_n 0, 1) := by decide +kernel
theorem dX6_nextNumber_56 : decode cX6_nextNumber 56 = .ok (.getfield 62, 3) := by decide +kernel
theorem dX6_nextNumber_59 : decode cX6_nextNumber 59 = .ok (.iconst 2, 1) := by decide +kernel
theorem dX6_nextNumber_60 : decode cX6_nextNumber 60 = .ok (.isub, 1) := by decide +kernel
theorem dX6_nextNumber_61 : decode cX6_nextNumber 61 = .ok (.ireturn, 1) := by decide +kernel
theorem dX6_readPart_0 : decode cX6_readPart 0 = .ok (.iload_n 1, 1) := by decide +kernel
theorem dX6_readPart_1 : decode cX6_readPart 1 = .ok (.iconst 1, 1) := by decide +kernel
theorem dX6_readPart_2 : decode cX6_readPart 2 = .ok (.if_icmp .lt 9, 3) := by decide +kernel
theorem dX6_readPart_5 : decode cX6_readPart 5 = .ok (.iload_n 1, 1) := by decide +kernel
theorem dX6_readPart_6 : decode cX6_readPart 6 = .ok (.bipush 40, 2) := by decide +kernel
theorem dX6_readPart_8 : decode cX6_readPart 8 = .ok (.if_icmp .le 13, 3) := by decide +kernel
theorem dX6_readPart_11 : decode cX6_readPart 11 = .ok (.new 75, 3) := by decide +kernel
theorem dX6_readPart_14 : decode cX6_readPart 14 = .ok (.dup, 1) := by decide +kernel
theorem dX6_readPart_15 : decode cX6_readPart 15 = .ok (.ldc 216, 2) := by decide +kernel
theorem dX6_readPart_17 : decode cX6_readPart 17 = .ok (.invokespecial 79, 3) := by decide +kernel
theorem dX6_readPart_20 : decode cX6_readPart 20 = .ok (.athrow, 1) := by decide +kernel
theorem dX6_readPart_21 : decode cX6_readPart 21 = .ok (.aload_n 0, 1) := by decide +kernel
theorem dX6_readPart_22 : decode cX6_readPart 22 = .ok (.getfield 54, 3) := by decide +kernel
theorem dX6_readPart_25 : decode cX6_readPart 25 = .ok (.bipush 99, 2) := by decide +kernel
theorem dX6_readPart_27 : decode cX6_readPart 27 = .ok (.if_icmp .ne 25, 3) := by decide +kernel
theorem dX6_readPart_30 : decode cX6_readPart 30 = .ok (.aload_n 0, 1) := by decide +kernel
theorem dX6_readPart_31 : decode cX6_readPart 31 = .ok (.getfield 43, 3) := by decide +kernel
theorem dX6_readPart_34 : decode cX6_readPart 34 = .ok (.invokevirtual 106, 3) := by decide +kernel
theorem dX6_readPart_37 : decode cX6_readPart 37 = .ok (.ifCond .eq 15, 3) := by decide +kernel
theorem dX6_readPart_40 : decode cX6_readPart 40 = .ok (.aload_n 0, 1) := by decide +kernel
theorem dX6_readPart_41 : decode cX6_readPart 41 = .ok (.getfield 43, 3) := by decide +kernel
theorem dX6_readPart_44 : decode cX6_readPart 44 = .ok (.invokevirtual 109, 3) := by decide +kernel
theorem dX6_readPart_47 : decode cX6_readPart 47 = .ok (.bipush 8, 2) := by decide +kernel
theorem dX6_readPart_49 : decode cX6_readPart 49 = .ok (.if_icmp .lt 13, 3) := by decide +kernel
theorem dX6_readPart_52 : decode cX6_readPart 52 = .ok (.new 86, 3) := by decide +kernel
theorem dX6_readPart_55 : decode cX6_readPart 55 = .ok (.dup, 1) := by decide +kernel
theorem dX6_readPart_56 : decode cX6_readPart 56 = .ok (.ldc 218, 2) := by decide +kernel
theorem dX6_readPart_58 : decode cX6_readPart 58 = .ok (.invokespecial 90, 3) := by decide +kernel
theorem dX6_readPart_61 : decode cX6_readPart 61 = .ok (.athrow, 1) := by decide +kernel
theorem dX6_readPart_62 : decode cX6_readPart 62 = .ok (.aload_n 0, 1) := by decide +kernel
theorem dX6_readPart_63 : decode cX6_readPart 63 = .ok (.getfield 43, 3) := by decide +kernel
theorem dX6_readPart_66 : decode cX6_readPart 66 = .ok (.aload_n 0, 1) := by decide +kernel
theorem dX6_readPart_67 : decode cX6_readPart 67 = .ok (.getfield 19, 3) := by decide +kernel
theorem dX6_readPart_70 : decode cX6_readPart 70 = .ok (.iload_n 1, 1) := by decide +kernel
theorem dX6_readPart_71 : decode cX6_readPart 71 = .ok (.aload_n 0, 1) := by decide +kernel
theorem dX6_readPart_72 : decode cX6_readPart 72 = .ok (.getfield 33, 3) := by decide +kernel
theorem dX6_readPart_75 : decode cX6_readPart 75 = .ok (.invokevirtual 142, 3) := by decide +kernel
theorem dX6_readPart_78 : decode cX6_readPart 78 = .ok (.invokevirtual 220, 3) := by decide +kernel
theorem dX6_readPart_81 : decode cX6_readPart 81 = .ok (.ireturn, 1) := by decide +kernel
theorem dX6_putDown_0 : decode cX6_putDown 0 = .ok (.aload_n 0, 1) := by decide +kernel
theorem dX6_putDown_1 : decode cX6_putDown 1 = .ok (.getfield 43, 3) := by decide +kernel
theorem dX6_putDown_4 : decode cX6_putDown 4 = .ok (.iload_n 1, 1) := by decide +kernel
theorem dX6_putDown_5 : decode cX6_putDown 5 = .ok (.invokevirtual 224, 3) := by decide +kernel
theorem dX6_putDown_8 : decode cX6_putDown 8 = .ok (.ifCond .ne 13, 3) := by decide +kernel
theorem dX6_putDown_11 : decode cX6_putDown 11 = .ok (.new 227, 3) := by decide +kernel
theorem dX6_putDown_14 : decode cX6_putDown 14 = .ok (.dup, 1) := by decide +kernel
theorem dX6_putDown_15 : decode cX6_putDown 15 = .ok (.ldc 229, 2) := by decide +kernel
theorem dX6_putDown_17 : decode cX6_putDown 17 = .ok (.invokespecial 231, 3) := by decide +kernel
theorem dX6_putDown_20 : decode cX6_putDown 20 = .ok (.athrow, 1) := by decide +kernel
theorem dX6_putDown_21 : decode cX6_putDown 21 = .ok (.aload_n 0, 1) := by decide +kernel
theorem dX6_putDown_22 : decode cX6_putDown 22 = .ok (.getfield 43, 3) := by decide +kernel
theorem dX6_putDown_25 : decode cX6_putDown 25 = .ok (.iload_n 1, 1) := by decide +kernel
theorem dX6_putDown_26 : decode cX6_putDown 26 = .ok (.invokevirtual 232, 3) := by decide +kernel
theorem dX6_putDown_29 : decode cX6_putDown 29 = .ok (.istore_n 2, 1) := by decide +kernel
theorem dX6_putDown_30 : decode cX6_putDown 30 = .ok (.aload_n 0, 1) := by decide +kernel
theorem dX6_putDown_31 : decode cX6_putDown 31 = .ok (.getfield 43, 3) := by decide +kernel
theorem dX6_putDown_34 : decode cX6_putDown 34 = .ok (.iload_n 1, 1) := by decide +kernel
theorem dX6_putDown_35 : decode cX6_putDown 35 = .ok (.invokevirtual 235, 3) := by decide +kernel
theorem dX6_putDown_38 : decode cX6_putDown 38 = .ok (.istore_n 3, 1) := by decide +kernel
theorem dX6_putDown_39 : decode cX6_putDown 39 = .ok (.iconst 0, 1) := by decide +kernel
theorem dX6_putDown_40 : decode cX6_putDown 40 = .ok (.istore 4, 2) := by decide +kernel
theorem dX6_putDown_42 : decode cX6_putDown 42 = .ok (.aload_n 0, 1) := by decide +kernel
theorem dX6_putDown_43 : decode cX6_putDown 43 = .ok (.getfield 43, 3) := by decide +kernel
theorem dX6_putDown_46 : decode cX6_putDown 46 = .ok (.iload_n 1, 1) := by decide +kernel
theorem dX6_putDown_47 : decode cX6_putDown 47 = .ok (.invokevirtual 238, 3) := by decide +kernel
theorem dX6_putDown_50 : decode cX6_putDown 50 = .ok (.istore 5, 2) := by decide +kernel
theorem dX6_putDown_52 : decode cX6_putDown 52 = .ok (.iload 5, 2) := by decide +kernel
theorem dX6_putDown_54 : decode cX6_putDown 54 = .ok (.iload_n 3, 1) := by decide +kernel
theorem dX6_putDown_55 : decode cX6_putDown 55 = .ok (.if_icmp .ge 54, 3) := by decide +kernel
theorem dX6_putDown_58 : decode cX6_putDown 58 = .ok (.aload_n 0, 1) := by decide +kernel
theorem dX6_putDown_59 : decode cX6_putDown 59 = .ok (.getfield 43, 3) := by decide +kernel
theorem dX6_putDown_62 : decode cX6_putDown 62 = .ok (.iload 5, 2) := by decide +kernel
theorem dX6_putDown_64 : decode cX6_putDown 64 = .ok (.invokevirtual 241, 3) := by decide +kernel
theorem dX6_putDown_67 : decode cX6_putDown 67 = .ok (.ifCond .eq 36, 3) := by decide +kernel
theorem dX6_putDown_70 : decode cX6_putDown 70 = .ok (.aload_n 0, 1) := by decide +kernel
theorem dX6_putDown_71 : decode cX6_putDown 71 = .ok (.iload 5, 2) := by decide +kernel
theorem dX6_putDown_73 : decode cX6_putDown 73 = .ok (.aload_n 0, 1) := by decide +kernel
theorem dX6_putDown_74 : decode cX6_putDown 74 = .ok (.getfield 43, 3) := by decide +kernel
theorem dX6_putDown_77 : decode cX6_putDown 77 = .ok (.iload 5, 2) := by decide +kernel
theorem dX6_putDown_79 : decode cX6_putDown 79 = .ok (.iconst 0, 1) := by decide +kernel
theorem dX6_putDown_80 : decode cX6_putDown 80 = .ok (.invokevirtual 244, 3) := by decide +kernel
theorem dX6_putDown_83 : decode cX6_putDown 83 = .ok (.aload_n 0, 1) := by decide +kernel
theorem dX6_putDown_84 : decode cX6_putDown 84 = .ok (.getfield 43, 3) := by decide +kernel
theorem dX6_putDown_87 : decode cX6_putDown 87 = .ok (.iload 5, 2) := by decide +kernel
theorem dX6_putDown_89 : decode cX6_putDown 89 = .ok (.iconst 1, 1) := by decide +kernel
theorem dX6_putDown_90 : decode cX6_putDown 90 = .ok (.invokevirtual 244, 3) := by decide +kernel
theorem dX6_putDown_93 : decode cX6_putDown 93 = .ok (.iload_n 2, 1) := by decide +kernel
theorem dX6_putDown_94 : decode cX6_putDown 94 = .ok (.invokevirtual 245, 3) := by decide +kernel
theorem dX6_putDown_97 : decode cX6_putDown 97 = .ok (.ifCond .eq 6, 3) := by decide +kernel
theorem dX6_putDown_100 : decode cX6_putDown 100 = .ok (.iinc 4 1, 3) := by decide +kernel
theorem dX6_putDown_103 : decode cX6_putDown 103 = .ok (.iinc 5 1, 3) := by decide +kernel
theorem dX6_putDown_106 : decode cX6_putDown 106 = .ok (.goto (-54), 3) := by decide +kernel
theorem dX6_putDown_109 : decode cX6_putDown 109 = .ok (.aload_n 0, 1) := by decide +kernel
theorem dX6_putDown_110 : decode cX6_putDown 110 = .ok (.getfield 43, 3) := by decide +kernel
theorem dX6_putDown_113 : decode cX6_putDown 113 = .ok (.iload_n 1, 1) := by decide +kernel
theorem dX6_putDown_114 : decode cX6_putDown 114 = .ok (.invokevirtual 249, 3) := by decide +kernel
theorem dX6_putDown_117 : decode cX6_putDown 117 = .ok (.iload 4, 2) := by decide +kernel
theorem dX6_putDown_119 : decode cX6_putDown 119 = .ok (.ireturn, 1) := by decide +kernel
theorem dX6_follow_0 : decode cX6_follow 0 = .ok (.iload_n 1, 1) := by decide +kernel
theorem dX6_follow_1 : decode cX6_follow 1 = .ok (.iconst 1, 1) := by decide +kernel
theorem dX6_follow_2 : decode cX6_follow 2 = .ok (.if_icmp .lt 9, 3) := by decide +kernel
theorem dX6_follow_5 : decode cX6_follow 5 = .ok (.iload_n 1, 1) := by decide +kernel
theorem dX6_follow_6 : decode cX6_follow 6 = .ok (.bipush 120, 2) := by decide +kernel
theorem dX6_follow_8 : decode cX6_follow 8 = .ok (.if_icmp .le 13, 3) := by decide +kernel
theorem dX6_follow_11 : decode cX6_follow 11 = .ok (.new 75, 3) := by decide +kernel
theorem dX6_follow_14 : decode cX6_follow 14 = .ok (.dup, 1) := by decide +kernel
theorem dX6_follow_15 : decode cX6_follow 15 = .ok (.ldc 252, 2) := by decide +kernel
theorem dX6_follow_17 : decode cX6_follow 17 = .ok (.invokespecial 79, 3) := by decide +kernel
theorem dX6_follow_20 : decode cX6_follow 20 = .ok (.athrow, 1) := by decide +kernel
theorem dX6_follow_21 : decode cX6_follow 21 = .ok (.aload_n 0, 1) := by decide +kernel
theorem dX6_follow_22 : decode cX6_follow 22 = .ok (.getfield 54, 3) := by decide +kernel
theorem dX6_follow_25 : decode cX6_follow 25 = .ok (.bipush 99, 2) := by decide +kernel
theorem dX6_follow_27 : decode cX6_follow 27 = .ok (.if_icmp .eq 13, 3) := by decide +kernel
theorem dX6_follow_30 : decode cX6_follow 30 = .ok (.new 86, 3) := by decide +kernel
theorem dX6_follow_33 : decode cX6_follow 33 = .ok (.dup, 1) := by decide +kernel
theorem dX6_follow_34 : decode cX6_follow 34 = .ok (.ldc 104, 2) := by decide +kernel
theorem dX6_follow_36 : decode cX6_follow 36 = .ok (.invokespecial 90, 3) := by decide +kernel
theorem dX6_follow_39 : decode cX6_follow 39 = .ok (.athrow, 1) := by decide +kernel
theorem dX6_follow_40 : decode cX6_follow 40 = .ok (.aload_n 0, 1) := by decide +kernel
theorem dX6_follow_41 : decode cX6_follow 41 = .ok (.iload_n 1, 1) := by decide +kernel
theorem dX6_follow_42 : decode cX6_follow 42 = .ok (.invokevirtual 117, 3) := by decide +kernel
theorem dX6_follow_45 : decode cX6_follow 45 = .ok (.ireturn, 1) := by decide +kernel
theorem dX6_left_0 : decode cX6_left 0 = .ok (.aload_n 0, 1) := by decide +kernel
theorem dX6_left_1 : decode cX6_left 1 = .ok (.getfield 43, 3) := by decide +kernel
theorem dX6_left_4 : decode cX6_left 4 = .ok (.invokevirtual 106, 3) := by decide +kernel
theorem dX6_left_7 : decode cX6_left 7 = .ok (.ireturn, 1) := by decide +kernel
theorem dX6_behind_0 : decode cX6_behind 0 = .ok (.aload_n 0, 1) := by decide +kernel
theorem dX6_behind_1 : decode cX6_behind 1 = .ok (.getfield 33, 3) := by decide +kernel
theorem dX6_behind_4 : decode cX6_behind 4 = .ok (.invokevirtual 142, 3) := by decide +kernel
theorem dX6_behind_7 : decode cX6_behind 7 = .ok (.aload_n 0, 1) := by decide +kernel
theorem dX6_behind_8 : decode cX6_behind 8 = .ok (.getfield 58, 3) := by decide +kernel
theorem dX6_behind_11 : decode cX6_behind 11 = .ok (.isub, 1) := by decide +kernel
theorem dX6_behind_12 : decode cX6_behind 12 = .ok (.ireturn, 1) := by decide +kernel
theorem dX6_parts_0 : decode cX6_parts 0 = .ok (.aload_n 0, 1) := by decide +kernel
theorem dX6_parts_1 : decode cX6_parts 1 = .ok (.getfield 43, 3) := by decide +kernel
theorem dX6_parts_4 : decode cX6_parts 4 = .ok (.invokevirtual 109, 3) := by decide +kernel
theorem dX6_parts_7 : decode cX6_parts 7 = .ok (.ireturn, 1) := by decide +kernel
theorem dX6_state_0 : decode cX6_state 0 = .ok (.iload_n 1, 1) := by decide +kernel
theorem dX6_state_1 : decode cX6_state 1 = .ok (.invokestatic 186, 3) := by decide +kernel
theorem dX6_state_4 : decode cX6_state 4 = .ok (.aload_n 0, 1) := by decide +kernel
theorem dX6_state_5 : decode cX6_state 5 = .ok (.iload_n 1, 1) := by decide +kernel
theorem dX6_state_6 : decode cX6_state 6 = .ok (.invokevirtual 254, 3) := by decide +kernel
theorem dX6_state_9 : decode cX6_state 9 = .ok (.ireturn, 1) := by decide +kernel
theorem dX6_stamp_0 : decode cX6_stamp 0 = .ok (.iload_n 1, 1) := by decide +kernel
theorem dX6_stamp_1 : decode cX6_stamp 1 = .ok (.invokestatic 186, 3) := by decide +kernel
theorem dX6_stamp_4 : decode cX6_stamp 4 = .ok (.aload_n 0, 1) := by decide +kernel
theorem dX6_stamp_5 : decode cX6_stamp 5 = .ok (.getfield 26, 3) := by decide +kernel
theorem dX6_stamp_8 : decode cX6_stamp 8 = .ok (.iload_n 1, 1) := by decide +kernel
theorem dX6_stamp_9 : decode cX6_stamp 9 = .ok (.invokevirtual 258, 3) := by decide +kernel
theorem dX6_stamp_12 : decode cX6_stamp 12 = .ok (.ifCond .ne 14, 3) := by decide +kernel
theorem dX6_stamp_15 : decode cX6_stamp 15 = .ok (.new 204, 3) := by decide +kernel
theorem dX6_stamp_18 : decode cX6_stamp 18 = .ok (.dup, 1) := by decide +kernel
theorem dX6_stamp_19 : decode cX6_stamp 19 = .ok (.ldc_w 261, 3) := by decide +kernel
theorem dX6_stamp_22 : decode cX6_stamp 22 = .ok (.invokespecial 208, 3) := by decide +kernel
theorem dX6_stamp_25 : decode cX6_stamp 25 = .ok (.athrow, 1) := by decide +kernel
theorem dX6_stamp_26 : decode cX6_stamp 26 = .ok (.aload_n 0, 1) := by decide +kernel
theorem dX6_stamp_27 : decode cX6_stamp 27 = .ok (.getfield 26, 3) := by decide +kernel
theorem dX6_stamp_30 : decode cX6_stamp 30 = .ok (.iload_n 1, 1) := by decide +kernel
theorem dX6_stamp_31 : decode cX6_stamp 31 = .ok (.invokevirtual 263, 3) := by decide +kernel
theorem dX6_stamp_34 : decode cX6_stamp 34 = .ok (.ireturn, 1) := by decide +kernel
theorem dX6_turned_0 : decode cX6_turned 0 = .ok (.iload_n 1, 1) := by decide +kernel
theorem dX6_turned_1 : decode cX6_turned 1 = .ok (.invokestatic 186, 3) := by decide +kernel
theorem dX6_turned_4 : decode cX6_turned 4 = .ok (.aload_n 0, 1) := by decide +kernel
theorem dX6_turned_5 : decode cX6_turned 5 = .ok (.getfield 19, 3) := by decide +kernel
theorem dX6_turned_8 : decode cX6_turned 8 = .ok (.iload_n 1, 1) := by decide +kernel
theorem dX6_turned_9 : decode cX6_turned 9 = .ok (.invokevirtual 264, 3) := by decide +kernel
theorem dX6_turned_12 : decode cX6_turned 12 = .ok (.ifCond .ne 14, 3) := by decide +kernel
theorem dX6_turned_15 : decode cX6_turned 15 = .ok (.new 204, 3) := by decide +kernel
theorem dX6_turned_18 : decode cX6_turned 18 = .ok (.dup, 1) := by decide +kernel
theorem dX6_turned_19 : decode cX6_turned 19 = .ok (.ldc_w 267, 3) := by decide +kernel
theorem dX6_turned_22 : decode cX6_turned 22 = .ok (.invokespecial 208, 3) := by decide +kernel
theorem dX6_turned_25 : decode cX6_turned 25 = .ok (.athrow, 1) := by decide +kernel
theorem dX6_turned_26 : decode cX6_turned 26 = .ok (.aload_n 0, 1) := by decide +kernel
theorem dX6_turned_27 : decode cX6_turned 27 = .ok (.iload_n 1, 1) := by decide +kernel
theorem dX6_turned_28 : decode cX6_turned 28 = .ok (.invokevirtual 269, 3) := by decide +kernel
theorem dX6_turned_31 : decode cX6_turned 31 = .ok (.ifCond .ne 14, 3) := by decide +kernel
theorem dX6_turned_34 : decode cX6_turned 34 = .ok (.new 112, 3) := by decide +kernel
theorem dX6_turned_37 : decode cX6_turned 37 = .ok (.dup, 1) := by decide +kernel
theorem dX6_turned_38 : decode cX6_turned 38 = .ok (.ldc_w 272, 3) := by decide +kernel
theorem dX6_turned_41 : decode cX6_turned 41 = .ok (.invokespecial 116, 3) := by decide +kernel
theorem dX6_turned_44 : decode cX6_turned 44 = .ok (.athrow, 1) := by decide +kernel
theorem dX6_turned_45 : decode cX6_turned 45 = .ok (.aload_n 0, 1) := by decide +kernel
theorem dX6_turned_46 : decode cX6_turned 46 = .ok (.getfield 50, 3) := by decide +kernel
theorem dX6_turned_49 : decode cX6_turned 49 = .ok (.iload_n 2, 1) := by decide +kernel
theorem dX6_turned_50 : decode cX6_turned 50 = .ok (.invokevirtual 274, 3) := by decide +kernel
theorem dX6_turned_53 : decode cX6_turned 53 = .ok (.ireturn, 1) := by decide +kernel
theorem dX6_turnedBack_0 : decode cX6_turnedBack 0 = .ok (.iload_n 1, 1) := by decide +kernel
theorem dX6_turnedBack_1 : decode cX6_turnedBack 1 = .ok (.invokestatic 186, 3) := by decide +kernel
theorem dX6_turnedBack_4 : decode cX6_turnedBack 4 = .ok (.aload_n 0, 1) := by decide +kernel
theorem dX6_turnedBack_5 : decode cX6_turnedBack 5 = .ok (.getfield 26, 3) := by decide +kernel
theorem dX6_turnedBack_8 : decode cX6_turnedBack 8 = .ok (.iload_n 1, 1) := by decide +kernel
theorem dX6_turnedBack_9 : decode cX6_turnedBack 9 = .ok (.invokevirtual 277, 3) := by decide +kernel
theorem dX6_turnedBack_12 : decode cX6_turnedBack 12 = .ok (.ifCond .ne 14, 3) := by decide +kernel
theorem dX6_turnedBack_15 : decode cX6_turnedBack 15 = .ok (.new 204, 3) := by decide +kernel
theorem dX6_turnedBack_18 : decode cX6_turnedBack 18 = .ok (.dup, 1) := by decide +kernel
theorem dX6_turnedBack_19 : decode cX6_turnedBack 19 = .ok (.ldc_w 280, 3) := by decide +kernel
theorem dX6_turnedBack_22 : decode cX6_turnedBack 22 = .ok (.invokespecial 208, 3) := by decide +kernel
theorem dX6_turnedBack_25 : decode cX6_turnedBack 25 = .ok (.athrow, 1) := by decide +kernel
theorem dX6_turnedBack_26 : decode cX6_turnedBack 26 = .ok (.aload_n 0, 1) := by decide +kernel
theorem dX6_turnedBack_27 : decode cX6_turnedBack 27 = .ok (.iload_n 1, 1) := by decide +kernel
theorem dX6_turnedBack_28 : decode cX6_turnedBack 28 = .ok (.invokevirtual 282, 3) := by decide +kernel
theorem dX6_turnedBack_31 : decode cX6_turnedBack 31 = .ok (.ifCond .ne 14, 3) := by decide +kernel
theorem dX6_turnedBack_34 : decode cX6_turnedBack 34 = .ok (.new 112, 3) := by decide +kernel
theorem dX6_turnedBack_37 : decode cX6_turnedBack 37 = .ok (.dup, 1) := by decide +kernel
theorem dX6_turnedBack_38 : decode cX6_turnedBack 38 = .ok (.ldc_w 285, 3) := by decide +kernel
theorem dX6_turnedBack_41 : decode cX6_turnedBack 41 = .ok (.invokespecial 116, 3) := by decide +kernel
theorem dX6_turnedBack_44 : decode cX6_turnedBack 44 = .ok (.athrow, 1) := by decide +kernel
theorem dX6_turnedBack_45 : decode cX6_turnedBack 45 = .ok (.aload_n 0, 1) := by decide +kernel
theorem dX6_turnedBack_46 : decode cX6_turnedBack 46 = .ok (.getfield 50, 3) := by decide +kernel
theorem dX6_turnedBack_49 : decode cX6_turnedBack 49 = .ok (.iload_n 2, 1) := by decide +kernel
theorem dX6_turnedBack_50 : decode cX6_turnedBack 50 = .ok (.invokevirtual 274, 3) := by decide +kernel
theorem dX6_turnedBack_53 : decode cX6_turnedBack 53 = .ok (.ireturn, 1) := by decide +kernel
theorem dX6_sum_0 : decode cX6_sum 0 = .ok (.iload_n 2, 1) := by decide +kernel
theorem dX6_sum_1 : decode cX6_sum 1 = .ok (.iload_n 3, 1) := by decide +kernel
theorem dX6_sum_2 : decode cX6_sum 2 = .ok (.invokestatic 287, 3) := by decide +kernel
theorem dX6_sum_5 : decode cX6_sum 5 = .ok (.aload_n 0, 1) := by decide +kernel
theorem dX6_sum_6 : decode cX6_sum 6 = .ok (.iload_n 1, 1) := by decide +kernel
theorem dX6_sum_7 : decode cX6_sum 7 = .ok (.iload_n 2, 1) := by decide +kernel
theorem dX6_sum_8 : decode cX6_sum 8 = .ok (.iload_n 3, 1) := by decide +kernel
theorem dX6_sum_9 : decode cX6_sum 9 = .ok (.invokevirtual 290, 3) := by decide +kernel
theorem dX6_sum_12 : decode cX6_sum 12 = .ok (.lreturn, 1) := by decide +kernel
theorem dX6_firstUnlike_0 : decode cX6_firstUnlike 0 = .ok (.iload_n 1, 1) := by decide +kernel
theorem dX6_firstUnlike_1 : decode cX6_firstUnlike 1 = .ok (.iload_n 2, 1) := by decide +kernel
theorem dX6_firstUnlike_2 : decode cX6_firstUnlike 2 = .ok (.invokestatic 287, 3) := by decide +kernel
theorem dX6_firstUnlike_5 : decode cX6_firstUnlike 5 = .ok (.aload_n 0, 1) := by decide +kernel
theorem dX6_firstUnlike_6 : decode cX6_firstUnlike 6 = .ok (.iconst 1, 1) := by decide +kernel
theorem dX6_firstUnlike_7 : decode cX6_firstUnlike 7 = .ok (.putfield 68, 3) := by decide +kernel
theorem dX6_firstUnlike_10 : decode cX6_firstUnlike 10 = .ok (.aload_n 0, 1) := by decide +kernel
theorem dX6_firstUnlike_11 : decode cX6_firstUnlike 11 = .ok (.iload_n 1, 1) := by decide +kernel
theorem dX6_firstUnlike_12 : decode cX6_firstUnlike 12 = .ok (.iload_n 2, 1) := by decide +kernel
theorem dX6_firstUnlike_13 : decode cX6_firstUnlike 13 = .ok (.invokevirtual 126, 3) := by decide +kernel
theorem dX6_firstUnlike_16 : decode cX6_firstUnlike 16 = .ok (.ifCond .eq 14, 3) := by decide +kernel
theorem dX6_firstUnlike_19 : decode cX6_firstUnlike 19 = .ok (.new 204, 3) := by decide +kernel
theorem dX6_firstUnlike_22 : decode cX6_firstUnlike 22 = .ok (.dup, 1) := by decide +kernel
theorem dX6_firstUnlike_23 : decode cX6_firstUnlike 23 = .ok (.ldc_w 294, 3) := by decide +kernel
theorem dX6_firstUnlike_26 : decode cX6_firstUnlike 26 = .ok (.invokespecial 208, 3) := by decide +kernel
theorem dX6_firstUnlike_29 : decode cX6_firstUnlike 29 = .ok (.athrow, 1) := by decide +kernel
theorem dX6_firstUnlike_30 : decode cX6_firstUnlike 30 = .ok (.iload_n 1, 1) := by decide +kernel
theorem dX6_firstUnlike_31 : decode cX6_firstUnlike 31 = .ok (.istore_n 3, 1) := by decide +kernel
theorem dX6_firstUnlike_32 : decode cX6_firstUnlike 32 = .ok (.iload_n 2, 1) := by decide +kernel
theorem dX6_firstUnlike_33 : decode cX6_firstUnlike 33 = .ok (.istore 4, 2) := by decide +kernel
theorem dX6_firstUnlike_35 : decode cX6_firstUnlike 35 = .ok (.iconst 0, 1) := by decide +kernel
theorem dX6_firstUnlike_36 : decode cX6_firstUnlike 36 = .ok (.istore 5, 2) := by decide +kernel
theorem dX6_firstUnlike_38 : decode cX6_firstUnlike 38 = .ok (.iload 5, 2) := by decide +kernel
theorem dX6_firstUnlike_40 : decode cX6_firstUnlike 40 = .ok (.bipush 40, 2) := by decide +kernel
theorem dX6_firstUnlike_42 : decode cX6_firstUnlike 42 = .ok (.if_icmp .ge 67, 3) := by decide +kernel
theorem dX6_firstUnlike_45 : decode cX6_firstUnlike 45 = .ok (.iload_n 3, 1) := by decide +kernel
theorem dX6_firstUnlike_46 : decode cX6_firstUnlike 46 = .ok (.iload 4, 2) := by decide +kernel
theorem dX6_firstUnlike_48 : decode cX6_firstUnlike 48 = .ok (.if_icmp .ge 61, 3) := by decide +kernel
theorem dX6_firstUnlike_51 : decode cX6_firstUnlike 51 = .ok (.iload_n 3, 1) := by decide +kernel
theorem dX6_firstUnlike_52 : decode cX6_firstUnlike 52 = .ok (.iload 4, 2) := by decide +kernel
theorem dX6_firstUnlike_54 : decode cX6_firstUnlike 54 = .ok (.iload_n 3, 1) := by decide +kernel
theorem dX6_firstUnlike_55 : decode cX6_firstUnlike 55 = .ok (.isub, 1) := by decide +kernel
theorem dX6_firstUnlike_56 : decode cX6_firstUnlike 56 = .ok (.iconst 2, 1) := by decide +kernel
theorem dX6_firstUnlike_57 : decode cX6_firstUnlike 57 = .ok (.idiv, 1) := by decide +kernel
theorem dX6_firstUnlike_58 : decode cX6_firstUnlike 58 = .ok (.iadd, 1) := by decide +kernel
theorem dX6_firstUnlike_59 : decode cX6_firstUnlike 59 = .ok (.istore 6, 2) := by decide +kernel
theorem dX6_firstUnlike_61 : decode cX6_firstUnlike 61 = .ok (.aload_n 0, 1) := by decide +kernel
theorem dX6_firstUnlike_62 : decode cX6_firstUnlike 62 = .ok (.dup, 1) := by decide +kernel
theorem dX6_firstUnlike_63 : decode cX6_firstUnlike 63 = .ok (.getfield 68, 3) := by decide +kernel
theorem dX6_firstUnlike_66 : decode cX6_firstUnlike 66 = .ok (.iconst 1, 1) := by decide +kernel
theorem dX6_firstUnlike_67 : decode cX6_firstUnlike 67 = .ok (.iadd, 1) := by decide +kernel
theorem dX6_firstUnlike_68 : decode cX6_firstUnlike 68 = .ok (.putfield 68, 3) := by decide +kernel
theorem dX6_firstUnlike_71 : decode cX6_firstUnlike 71 = .ok (.aload_n 0, 1) := by decide +kernel
theorem dX6_firstUnlike_72 : decode cX6_firstUnlike 72 = .ok (.iload_n 3, 1) := by decide +kernel
theorem dX6_firstUnlike_73 : decode cX6_firstUnlike 73 = .ok (.iload 6, 2) := by decide +kernel
theorem dX6_firstUnlike_75 : decode cX6_firstUnlike 75 = .ok (.invokevirtual 126, 3) := by decide +kernel
theorem dX6_firstUnlike_78 : decode cX6_firstUnlike 78 = .ok (.ifCond .eq 21, 3) := by decide +kernel
theorem dX6_firstUnlike_81 : decode cX6_firstUnlike 81 = .ok (.iload 6, 2) := by decide +kernel
theorem dX6_firstUnlike_83 : decode cX6_firstUnlike 83 = .ok (.iconst 1, 1) := by decide +kernel
theorem dX6_firstUnlike_84 : decode cX6_firstUnlike 84 = .ok (.iadd, 1) := by decide +kernel
theorem dX6_firstUnlike_85 : decode cX6_firstUnlike 85 = .ok (.istore_n 3, 1) := by decide +kernel
theorem dX6_firstUnlike_86 : decode cX6_firstUnlike 86 = .ok (.aload_n 0, 1) := by decide +kernel
theorem dX6_firstUnlike_87 : decode cX6_firstUnlike 87 = .ok (.dup, 1) := by decide +kernel
theorem dX6_firstUnlike_88 : decode cX6_firstUnlike 88 = .ok (.getfield 68, 3) := by decide +kernel
theorem dX6_firstUnlike_91 : decode cX6_firstUnlike 91 = .ok (.iconst 1, 1) := by decide +kernel
theorem dX6_firstUnlike_92 : decode cX6_firstUnlike 92 = .ok (.iadd, 1) := by decide +kernel
theorem dX6_firstUnlike_93 : decode cX6_firstUnlike 93 = .ok (.putfield 68, 3) := by decide +kernel
theorem dX6_firstUnlike_96 : decode cX6_firstUnlike 96 = .ok (.goto 7, 3) := by decide +kernel
theorem dX6_firstUnlike_99 : decode cX6_firstUnlike 99 = .ok (.iload 6, 2) := by decide +kernel
theorem dX6_firstUnlike_101 : decode cX6_firstUnlike 101 = .ok (.istore 4, 2) := by decide +kernel
theorem dX6_firstUnlike_103 : decode cX6_firstUnlike 103 = .ok (.iinc 5 1, 3) := by decide +kernel
theorem dX6_firstUnlike_106 : decode cX6_firstUnlike 106 = .ok (.goto (-68), 3) := by decide +kernel
theorem dX6_firstUnlike_109 : decode cX6_firstUnlike 109 = .ok (.iload_n 3, 1) := by decide +kernel
theorem dX6_firstUnlike_110 : decode cX6_firstUnlike 110 = .ok (.ireturn, 1) := by decide +kernel
theorem dX6_compared_0 : decode cX6_compared 0 = .ok (.aload_n 0, 1) := by decide +kernel
theorem dX6_compared_1 : decode cX6_compared 1 = .ok (.getfield 68, 3) := by decide +kernel
theorem dX6_compared_4 : decode cX6_compared 4 = .ok (.ireturn, 1) := by decide +kernel
theorem dX6_goal_0 : decode cX6_goal 0 = .ok (.iload_n 1, 1) := by decide +kernel
theorem dX6_goal_1 : decode cX6_goal 1 = .ok (.invokestatic 186, 3) := by decide +kernel
theorem dX6_goal_4 : decode cX6_goal 4 = .ok (.aload_n 0, 1) := by decide +kernel
theorem dX6_goal_5 : decode cX6_goal 5 = .ok (.getfield 54, 3) := by decide +kernel
theorem dX6_goal_8 : decode cX6_goal 8 = .ok (.bipush 99, 2) := by decide +kernel
theorem dX6_goal_10 : decode cX6_goal 10 = .ok (.if_icmp .eq 23, 3) := by decide +kernel
theorem dX6_goal_13 : decode cX6_goal 13 = .ok (.aload_n 0, 1) := by decide +kernel
theorem dX6_goal_14 : decode cX6_goal 14 = .ok (.getfield 54, 3) := by decide +kernel
theorem dX6_goal_17 : decode cX6_goal 17 = .ok (.bipush 98, 2) := by decide +kernel
theorem dX6_goal_19 : decode cX6_goal 19 = .ok (.if_icmp .eq 14, 3) := by decide +kernel
theorem dX6_goal_22 : decode cX6_goal 22 = .ok (.new 86, 3) := by decide +kernel
theorem dX6_goal_25 : decode cX6_goal 25 = .ok (.dup, 1) := by decide +kernel
theorem dX6_goal_26 : decode cX6_goal 26 = .ok (.ldc_w 296, 3) := by decide +kernel
theorem dX6_goal_29 : decode cX6_goal 29 = .ok (.invokespecial 90, 3) := by decide +kernel
theorem dX6_goal_32 : decode cX6_goal 32 = .ok (.athrow, 1) := by decide +kernel
theorem dX6_goal_33 : decode cX6_goal 33 = .ok (.aload_n 0, 1) := by decide +kernel
theorem dX6_goal_34 : decode cX6_goal 34 = .ok (.getfield 19, 3) := by decide +kernel
theorem dX6_goal_37 : decode cX6_goal 37 = .ok (.iload_n 1, 1) := by decide +kernel
theorem dX6_goal_38 : decode cX6_goal 38 = .ok (.invokevirtual 264, 3) := by decide +kernel
theorem dX6_goal_41 : decode cX6_goal 41 = .ok (.ifCond .ne 6, 3) := by decide +kernel
theorem dX6_goal_44 : decode cX6_goal 44 = .ok (.bipush 110, 2) := by decide +kernel
theorem dX6_goal_46 : decode cX6_goal 46 = .ok (.ireturn, 1) := by decide +kernel
theorem dX6_goal_47 : decode cX6_goal 47 = .ok (.aload_n 0, 1) := by decide +kernel
theorem dX6_goal_48 : decode cX6_goal 48 = .ok (.iload_n 1, 1) := by decide +kernel
theorem dX6_goal_49 : decode cX6_goal 49 = .ok (.invokevirtual 269, 3) := by decide +kernel
theorem dX6_goal_52 : decode cX6_goal 52 = .ok (.ifCond .eq 8, 3) := by decide +kernel
theorem dX6_goal_55 : decode cX6_goal 55 = .ok (.bipush 101, 2) := by decide +kernel
theorem dX6_goal_57 : decode cX6_goal 57 = .ok (.goto 5, 3) := by decide +kernel
theorem dX6_goal_60 : decode cX6_goal 60 = .ok (.bipush 97, 2) := by decide +kernel
theorem dX6_goal_62 : decode cX6_goal 62 = .ok (.ireturn, 1) := by decide +kernel
theorem dX6_movedShare_0 : decode cX6_movedShare 0 = .ok (.aload_n 0, 1) := by decide +kernel
theorem dX6_movedShare_1 : decode cX6_movedShare 1 = .ok (.getfield 19, 3) := by decide +kernel
theorem dX6_movedShare_4 : decode cX6_movedShare 4 = .ok (.invokevirtual 101, 3) := by decide +kernel
theorem dX6_movedShare_7 : decode cX6_movedShare 7 = .ok (.istore_n 1, 1) := by decide +kernel
theorem dX6_movedShare_8 : decode cX6_movedShare 8 = .ok (.iload_n 1, 1) := by decide +kernel
theorem dX6_movedShare_9 : decode cX6_movedShare 9 = .ok (.ifCond .ne 14, 3) := by decide +kernel
theorem dX6_movedShare_12 : decode cX6_movedShare 12 = .ok (.new 298, 3) := by decide +kernel
theorem dX6_movedShare_15 : decode cX6_movedShare 15 = .ok (.dup, 1) := by decide +kernel
theorem dX6_movedShare_16 : decode cX6_movedShare 16 = .ok (.ldc_w 300, 3) := by decide +kernel
theorem dX6_movedShare_19 : decode cX6_movedShare 19 = .ok (.invokespecial 302, 3) := by decide +kernel
theorem dX6_movedShare_22 : decode cX6_movedShare 22 = .ok (.athrow, 1) := by decide +kernel
theorem dX6_movedShare_23 : decode cX6_movedShare 23 = .ok (.aload_n 0, 1) := by decide +kernel
theorem dX6_movedShare_24 : decode cX6_movedShare 24 = .ok (.invokevirtual 303, 3) := by decide +kernel
theorem dX6_movedShare_27 : decode cX6_movedShare 27 = .ok (.i2f, 1) := by decide +kernel
theorem dX6_movedShare_28 : decode cX6_movedShare 28 = .ok (.iload_n 1, 1) := by decide +kernel
theorem dX6_movedShare_29 : decode cX6_movedShare 29 = .ok (.i2f, 1) := by decide +kernel
theorem dX6_movedShare_30 : decode cX6_movedShare 30 = .ok (.fdiv, 1) := by decide +kernel
theorem dX6_movedShare_31 : decode cX6_movedShare 31 = .ok (.freturn, 1) := by decide +kernel
theorem dX6_isAllMoved_0 : decode cX6_isAllMoved 0 = .ok (.aload_n 0, 1) := by decide +kernel
theorem dX6_isAllMoved_1 : decode cX6_isAllMoved 1 = .ok (.getfield 19, 3) := by decide +kernel
theorem dX6_isAllMoved_4 : decode cX6_isAllMoved 4 = .ok (.invokevirtual 101, 3) := by decide +kernel
theorem dX6_isAllMoved_7 : decode cX6_isAllMoved 7 = .ok (.istore_n 1, 1) := by decide +kernel
theorem dX6_isAllMoved_8 : decode cX6_isAllMoved 8 = .ok (.iload_n 1, 1) := by decide +kernel
theorem dX6_isAllMoved_9 : decode cX6_isAllMoved 9 = .ok (.ifCond .le 15, 3) := by decide +kernel
theorem dX6_isAllMoved_12 : decode cX6_isAllMoved 12 = .ok (.aload_n 0, 1) := by decide +kernel
theorem dX6_isAllMoved_13 : decode cX6_isAllMoved 13 = .ok (.invokevirtual 303, 3) := by decide +kernel
theorem dX6_isAllMoved_16 : decode cX6_isAllMoved 16 = .ok (.iload_n 1, 1) := by decide +kernel
theorem dX6_isAllMoved_17 : decode cX6_isAllMoved 17 = .ok (.if_icmp .ne 7, 3) := by decide +kernel
theorem dX6_isAllMoved_20 : decode cX6_isAllMoved 20 = .ok (.iconst 1, 1) := by decide +kernel
theorem dX6_isAllMoved_21 : decode cX6_isAllMoved 21 = .ok (.goto 4, 3) := by decide +kernel
theorem dX6_isAllMoved_24 : decode cX6_isAllMoved 24 = .ok (.iconst 0, 1) := by decide +kernel
theorem dX6_isAllMoved_25 : decode cX6_isAllMoved 25 = .ok (.ireturn, 1) := by decide +kernel
theorem dX6_meanStamp_0 : decode cX6_meanStamp 0 = .ok (.aload_n 0, 1) := by decide +kernel
theorem dX6_meanStamp_1 : decode cX6_meanStamp 1 = .ok (.getfield 26, 3) := by decide +kernel
theorem dX6_meanStamp_4 : decode cX6_meanStamp 4 = .ok (.invokevirtual 132, 3) := by decide +kernel
theorem dX6_meanStamp_7 : decode cX6_meanStamp 7 = .ok (.istore_n 1, 1) := by decide +kernel
theorem dX6_meanStamp_8 : decode cX6_meanStamp 8 = .ok (.iload_n 1, 1) := by decide +kernel
theorem dX6_meanStamp_9 : decode cX6_meanStamp 9 = .ok (.ifCond .ne 14, 3) := by decide +kernel
theorem dX6_meanStamp_12 : decode cX6_meanStamp 12 = .ok (.new 298, 3) := by decide +kernel
theorem dX6_meanStamp_15 : decode cX6_meanStamp 15 = .ok (.dup, 1) := by decide +kernel
theorem dX6_meanStamp_16 : decode cX6_meanStamp 16 = .ok (.ldc_w 306, 3) := by decide +kernel
theorem dX6_meanStamp_19 : decode cX6_meanStamp 19 = .ok (.invokespecial 302, 3) := by decide +kernel
theorem dX6_meanStamp_22 : decode cX6_meanStamp 22 = .ok (.athrow, 1) := by decide +kernel
theorem dX6_meanStamp_23 : decode cX6_meanStamp 23 = .ok (.aload_n 0, 1) := by decide +kernel
theorem dX6_meanStamp_24 : decode cX6_meanStamp 24 = .ok (.getfield 26, 3) := by decide +kernel
theorem dX6_meanStamp_27 : decode cX6_meanStamp 27 = .ok (.invokevirtual 308, 3) := by decide +kernel
theorem dX6_meanStamp_30 : decode cX6_meanStamp 30 = .ok (.i2d, 1) := by decide +kernel
theorem dX6_meanStamp_31 : decode cX6_meanStamp 31 = .ok (.iload_n 1, 1) := by decide +kernel
theorem dX6_meanStamp_32 : decode cX6_meanStamp 32 = .ok (.i2d, 1) := by decide +kernel
theorem dX6_meanStamp_33 : decode cX6_meanStamp 33 = .ok (.ddiv, 1) := by decide +kernel
theorem dX6_meanStamp_34 : decode cX6_meanStamp 34 = .ok (.dreturn, 1) := by decide +kernel
theorem dX6_isKey_0 : decode cX6_isKey 0 = .ok (.iload_n 0, 1) := by decide +kernel
theorem dX6_isKey_1 : decode cX6_isKey 1 = .ok (.ifCond .lt 13, 3) := by decide +kernel
theorem dX6_isKey_4 : decode cX6_isKey 4 = .ok (.iload_n 0, 1) := by decide +kernel
theorem dX6_isKey_5 : decode cX6_isKey 5 = .ok (.bipush 40, 2) := by decide +kernel
theorem dX6_isKey_7 : decode cX6_isKey 7 = .ok (.if_icmp .ge 7, 3) := by decide +kernel
theorem dX6_isKey_10 : decode cX6_isKey 10 = .ok (.iconst 1, 1) := by decide +kernel
theorem dX6_isKey_11 : decode cX6_isKey 11 = .ok (.goto 4, 3) := by decide +kernel
theorem dX6_isKey_14 : decode cX6_isKey 14 = .ok (.iconst 0, 1) := by decide +kernel
theorem dX6_isKey_15 : decode cX6_isKey 15 = .ok (.ireturn, 1) := by decide +kernel
theorem dX6_isWithin_0 : decode cX6_isWithin 0 = .ok (.iload_n 0, 1) := by decide +kernel
theorem dX6_isWithin_1 : decode cX6_isWithin 1 = .ok (.iload_n 1, 1) := by decide +kernel
theorem dX6_isWithin_2 : decode cX6_isWithin 2 = .ok (.ineg, 1) := by decide +kernel
theorem dX6_isWithin_3 : decode cX6_isWithin 3 = .ok (.if_icmp .lt 12, 3) := by decide +kernel
theorem dX6_isWithin_6 : decode cX6_isWithin 6 = .ok (.iload_n 0, 1) := by decide +kernel
theorem dX6_isWithin_7 : decode cX6_isWithin 7 = .ok (.iload_n 1, 1) := by decide +kernel
theorem dX6_isWithin_8 : decode cX6_isWithin 8 = .ok (.if_icmp .gt 7, 3) := by decide +kernel
theorem dX6_isWithin_11 : decode cX6_isWithin 11 = .ok (.iconst 1, 1) := by decide +kernel
theorem dX6_isWithin_12 : decode cX6_isWithin 12 = .ok (.goto 4, 3) := by decide +kernel
theorem dX6_isWithin_15 : decode cX6_isWithin 15 = .ok (.iconst 0, 1) := by decide +kernel
theorem dX6_isWithin_16 : decode cX6_isWithin 16 = .ok (.ireturn, 1) := by decide +kernel
theorem dX6_checkKey_0 : decode cX6_checkKey 0 = .ok (.iload_n 0, 1) := by decide +kernel
theorem dX6_checkKey_1 : decode cX6_checkKey 1 = .ok (.invokestatic 156, 3) := by decide +kernel
theorem dX6_checkKey_4 : decode cX6_checkKey 4 = .ok (.ifCond .ne 14, 3) := by decide +kernel
theorem dX6_checkKey_7 : decode cX6_checkKey 7 = .ok (.new 75, 3) := by decide +kernel
theorem dX6_checkKey_10 : decode cX6_checkKey 10 = .ok (.dup, 1) := by decide +kernel
theorem dX6_checkKey_11 : decode cX6_checkKey 11 = .ok (.ldc_w 311, 3) := by decide +kernel
theorem dX6_checkKey_14 : decode cX6_checkKey 14 = .ok (.invokespecial 79, 3) := by decide +kernel
theorem dX6_checkKey_17 : decode cX6_checkKey 17 = .ok (.athrow, 1) := by decide +kernel
theorem dX6_checkKey_18 : decode cX6_checkKey 18 = .ok (.return_, 1) := by decide +kernel
theorem dX6_checkRange_0 : decode cX6_checkRange 0 = .ok (.iload_n 0, 1) := by decide +kernel
theorem dX6_checkRange_1 : decode cX6_checkRange 1 = .ok (.invokestatic 156, 3) := by decide +kernel
theorem dX6_checkRange_4 : decode cX6_checkRange 4 = .ok (.ifCond .eq 15, 3) := by decide +kernel
theorem dX6_checkRange_7 : decode cX6_checkRange 7 = .ok (.iload_n 1, 1) := by decide +kernel
theorem dX6_checkRange_8 : decode cX6_checkRange 8 = .ok (.invokestatic 156, 3) := by decide +kernel
theorem dX6_checkRange_11 : decode cX6_checkRange 11 = .ok (.ifCond .eq 8, 3) := by decide +kernel
theorem dX6_checkRange_14 : decode cX6_checkRange 14 = .ok (.iload_n 0, 1) := by decide +kernel
theorem dX6_checkRange_15 : decode cX6_checkRange 15 = .ok (.iload_n 1, 1) := by decide +kernel
theorem dX6_checkRange_16 : decode cX6_checkRange 16 = .ok (.if_icmp .le 14, 3) := by decide +kernel
theorem dX6_checkRange_19 : decode cX6_checkRange 19 = .ok (.new 75, 3) := by decide +kernel
theorem dX6_checkRange_22 : decode cX6_checkRange 22 = .ok (.dup, 1) := by decide +kernel
theorem dX6_checkRange_23 : decode cX6_checkRange 23 = .ok (.ldc_w 313, 3) := by decide +kernel
theorem dX6_checkRange_26 : decode cX6_checkRange 26 = .ok (.invokespecial 79, 3) := by decide +kernel
theorem dX6_checkRange_29 : decode cX6_checkRange 29 = .ok (.athrow, 1) := by decide +kernel
theorem dX6_checkRange_30 : decode cX6_checkRange 30 = .ok (.return_, 1) := by decide +kernel
theorem dX6_isTargetLive_0 : decode cX6_isTargetLive 0 = .ok (.aload_n 0, 1) := by decide +kernel
theorem dX6_isTargetLive_1 : decode cX6_isTargetLive 1 = .ok (.getfield 54, 3) := by decide +kernel
theorem dX6_isTargetLive_4 : decode cX6_isTargetLive 4 = .ok (.bipush 116, 2) := by decide +kernel
theorem dX6_isTargetLive_6 : decode cX6_isTargetLive 6 = .ok (.if_icmp .eq 12, 3) := by decide +kernel
theorem dX6_isTargetLive_9 : decode cX6_isTargetLive 9 = .ok (.aload_n 0, 1) := by decide +kernel
theorem dX6_isTargetLive_10 : decode cX6_isTargetLive 10 = .ok (.getfield 54, 3) := by decide +kernel
theorem dX6_isTargetLive_13 : decode cX6_isTargetLive 13 = .ok (.bipush 100, 2) := by decide +kernel
theorem dX6_isTargetLive_15 : decode cX6_isTargetLive 15 = .ok (.if_icmp .ne 7, 3) := by decide +kernel
theorem dX6_isTargetLive_18 : decode cX6_isTargetLive 18 = .ok (.iconst 1, 1) := by decide +kernel
theorem dX6_isTargetLive_19 : decode cX6_isTargetLive 19 = .ok (.goto 4, 3) := by decide +kernel
theorem dX6_isTargetLive_22 : decode cX6_isTargetLive 22 = .ok (.iconst 0, 1) := by decide +kernel
theorem dX6_isTargetLive_23 : decode cX6_isTargetLive 23 = .ok (.ireturn, 1) := by decide +kernel
theorem dX6_isLive_0 : decode cX6_isLive 0 = .ok (.aload_n 0, 1) := by decide +kernel
theorem dX6_isLive_1 : decode cX6_isLive 1 = .ok (.invokevirtual 153, 3) := by decide +kernel
theorem dX6_isLive_4 : decode cX6_isLive 4 = .ok (.ifCond .eq 14, 3) := by decide +kernel
theorem dX6_isLive_7 : decode cX6_isLive 7 = .ok (.aload_n 0, 1) := by decide +kernel
theorem dX6_isLive_8 : decode cX6_isLive 8 = .ok (.getfield 26, 3) := by decide +kernel
theorem dX6_isLive_11 : decode cX6_isLive 11 = .ok (.iload_n 1, 1) := by decide +kernel
theorem dX6_isLive_12 : decode cX6_isLive 12 = .ok (.invokevirtual 277, 3) := by decide +kernel
theorem dX6_isLive_15 : decode cX6_isLive 15 = .ok (.goto 11, 3) := by decide +kernel
theorem dX6_isLive_18 : decode cX6_isLive 18 = .ok (.aload_n 0, 1) := by decide +kernel
theorem dX6_isLive_19 : decode cX6_isLive 19 = .ok (.getfield 19, 3) := by decide +kernel
theorem dX6_isLive_22 : decode cX6_isLive 22 = .ok (.iload_n 1, 1) := by decide +kernel
theorem dX6_isLive_23 : decode cX6_isLive 23 = .ok (.invokevirtual 264, 3) := by decide +kernel
theorem dX6_isLive_26 : decode cX6_isLive 26 = .ok (.ireturn, 1) := by decide +kernel
theorem dX6_isLogFull_0 : decode cX6_isLogFull 0 = .ok (.aload_n 0, 1) := by decide +kernel
theorem dX6_isLogFull_1 : decode cX6_isLogFull 1 = .ok (.getfield 54, 3) := by decide +kernel
theorem dX6_isLogFull_4 : decode cX6_isLogFull 4 = .ok (.bipush 105, 2) := by decide +kernel
theorem dX6_isLogFull_6 : decode cX6_isLogFull 6 = .ok (.if_icmp .ne 5, 3) := by decide +kernel
theorem dX6_isLogFull_9 : decode cX6_isLogFull 9 = .ok (.iconst 0, 1) := by decide +kernel
theorem dX6_isLogFull_10 : decode cX6_isLogFull 10 = .ok (.ireturn, 1) := by decide +kernel
theorem dX6_isLogFull_11 : decode cX6_isLogFull 11 = .ok (.aload_n 0, 1) := by decide +kernel
theorem dX6_isLogFull_12 : decode cX6_isLogFull 12 = .ok (.getfield 54, 3) := by decide +kernel
theorem dX6_isLogFull_15 : decode cX6_isLogFull 15 = .ok (.bipush 116, 2) := by decide +kernel
theorem dX6_isLogFull_17 : decode cX6_isLogFull 17 = .ok (.if_icmp .ne 13, 3) := by decide +kernel
theorem dX6_isLogFull_20 : decode cX6_isLogFull 20 = .ok (.aload_n 0, 1) := by decide +kernel
theorem dX6_isLogFull_21 : decode cX6_isLogFull 21 = .ok (.getfield 37, 3) := by decide +kernel
theorem dX6_isLogFull_24 : decode cX6_isLogFull 24 = .ok (.invokevirtual 315, 3) := by decide +kernel
theorem dX6_isLogFull_27 : decode cX6_isLogFull 27 = .ok (.goto 10, 3) := by decide +kernel
theorem dX6_isLogFull_30 : decode cX6_isLogFull 30 = .ok (.aload_n 0, 1) := by decide +kernel
theorem dX6_isLogFull_31 : decode cX6_isLogFull 31 = .ok (.getfield 33, 3) := by decide +kernel
theorem dX6_isLogFull_34 : decode cX6_isLogFull 34 = .ok (.invokevirtual 315, 3) := by decide +kernel
theorem dX6_isLogFull_37 : decode cX6_isLogFull 37 = .ok (.ireturn, 1) := by decide +kernel
theorem dX6_followUpTo_0 : decode cX6_followUpTo 0 = .ok (.iload_n 1, 1) := by decide +kernel
theorem dX6_followUpTo_1 : decode cX6_followUpTo 1 = .ok (.aload_n 0, 1) := by decide +kernel
theorem dX6_followUpTo_2 : decode cX6_followUpTo 2 = .ok (.getfield 33, 3) := by decide +kernel
theorem dX6_followUpTo_5 : decode cX6_followUpTo 5 = .ok (.invokevirtual 142, 3) := by decide +kernel
theorem dX6_followUpTo_8 : decode cX6_followUpTo 8 = .ok (.aload_n 0, 1) := by decide +kernel
theorem dX6_followUpTo_9 : decode cX6_followUpTo 9 = .ok (.getfield 58, 3) := by decide +kernel
theorem dX6_followUpTo_12 : decode cX6_followUpTo 12 = .ok (.isub, 1) := by decide +kernel
theorem dX6_followUpTo_13 : decode cX6_followUpTo 13 = .ok (.invokestatic 316, 3) := by decide +kernel
theorem dX6_followUpTo_16 : decode cX6_followUpTo 16 = .ok (.istore_n 2, 1) := by decide +kernel
theorem dX6_followUpTo_17 : decode cX6_followUpTo 17 = .ok (.iconst 0, 1) := by decide +kernel
theorem dX6_followUpTo_18 : decode cX6_followUpTo 18 = .ok (.istore_n 3, 1) := by decide +kernel
theorem dX6_followUpTo_19 : decode cX6_followUpTo 19 = .ok (.iload_n 3, 1) := by decide +kernel
theorem dX6_followUpTo_20 : decode cX6_followUpTo 20 = .ok (.iload_n 2, 1) := by decide +kernel
theorem dX6_followUpTo_21 : decode cX6_followUpTo 21 = .ok (.if_icmp .ge 13, 3) := by decide +kernel
theorem dX6_followUpTo_24 : decode cX6_followUpTo 24 = .ok (.aload_n 0, 1) := by decide +kernel
theorem dX6_followUpTo_25 : decode cX6_followUpTo 25 = .ok (.invokevirtual 183, 3) := by decide +kernel
theorem dX6_followUpTo_28 : decode cX6_followUpTo 28 = .ok (.iinc 3 1, 3) := by decide +kernel
theorem dX6_followUpTo_31 : decode cX6_followUpTo 31 = .ok (.goto (-12), 3) := by decide +kernel
theorem dX6_followUpTo_34 : decode cX6_followUpTo 34 = .ok (.iload_n 2, 1) := by decide +kernel
theorem dX6_followUpTo_35 : decode cX6_followUpTo 35 = .ok (.ireturn, 1) := by decide +kernel
theorem dX6_followNext_0 : decode cX6_followNext 0 = .ok (.aload_n 0, 1) := by decide +kernel
theorem dX6_followNext_1 : decode cX6_followNext 1 = .ok (.getfield 58, 3) := by decide +kernel
theorem dX6_followNext_4 : decode cX6_followNext 4 = .ok (.istore_n 1, 1) := by decide +kernel
theorem dX6_followNext_5 : decode cX6_followNext 5 = .ok (.aload_n 0, 1) := by decide +kernel
theorem dX6_followNext_6 : decode cX6_followNext 6 = .ok (.dup, 1) := by decide +kernel
theorem dX6_followNext_7 : decode cX6_followNext 7 = .ok (.getfield 58, 3) := by decide +kernel
theorem dX6_followNext_10 : decode cX6_followNext 10 = .ok (.iconst 1, 1) := by decide +kernel
theorem dX6_followNext_11 : decode cX6_followNext 11 = .ok (.iadd, 1) := by decide +kernel
theorem dX6_followNext_12 : decode cX6_followNext 12 = .ok (.putfield 58, 3) := by decide +kernel
theorem dX6_followNext_15 : decode cX6_followNext 15 = .ok (.aload_n 0, 1) := by decide +kernel
theorem dX6_followNext_16 : decode cX6_followNext 16 = .ok (.getfield 33, 3) := by decide +kernel
theorem dX6_followNext_19 : decode cX6_followNext 19 = .ok (.iload_n 1, 1) := by decide +kernel
theorem dX6_followNext_20 : decode cX6_followNext 20 = .ok (.invokevirtual 143, 3) := by decide +kernel
theorem dX6_followNext_23 : decode cX6_followNext 23 = .ok (.istore_n 2, 1) := by decide +kernel
theorem dX6_followNext_24 : decode cX6_followNext 24 = .ok (.iload_n 1, 1) := by decide +kernel
theorem dX6_followNext_25 : decode cX6_followNext 25 = .ok (.iconst 1, 1) := by decide +kernel
theorem dX6_followNext_26 : decode cX6_followNext 26 = .ok (.iadd, 1) := by decide +kernel
theorem dX6_followNext_27 : decode cX6_followNext 27 = .ok (.istore_n 3, 1) := by decide +kernel
theorem dX6_followNext_28 : decode cX6_followNext 28 = .ok (.aload_n 0, 1) := by decide +kernel
theorem dX6_followNext_29 : decode cX6_followNext 29 = .ok (.getfield 33, 3) := by decide +kernel
theorem dX6_followNext_32 : decode cX6_followNext 32 = .ok (.iload_n 1, 1) := by decide +kernel
theorem dX6_followNext_33 : decode cX6_followNext 33 = .ok (.invokevirtual 322, 3) := by decide +kernel
theorem dX6_followNext_36 : decode cX6_followNext 36 = .ok (.ifCond .ne 31, 3) := by decide +kernel
theorem dX6_followNext_39 : decode cX6_followNext 39 = .ok (.aload_n 0, 1) := by decide +kernel
theorem dX6_followNext_40 : decode cX6_followNext 40 = .ok (.iload_n 2, 1) := by decide +kernel
theorem dX6_followNext_41 : decode cX6_followNext 41 = .ok (.aload_n 0, 1) := by decide +kernel
theorem dX6_followNext_42 : decode cX6_followNext 42 = .ok (.getfield 33, 3) := by decide +kernel
theorem dX6_followNext_45 : decode cX6_followNext 45 = .ok (.iload_n 1, 1) := by decide +kernel
theorem dX6_followNext_46 : decode cX6_followNext 46 = .ok (.iconst 0, 1) := by decide +kernel
theorem dX6_followNext_47 : decode cX6_followNext 47 = .ok (.invokevirtual 325, 3) := by decide +kernel
theorem dX6_followNext_50 : decode cX6_followNext 50 = .ok (.aload_n 0, 1) := by decide +kernel
theorem dX6_followNext_51 : decode cX6_followNext 51 = .ok (.getfield 33, 3) := by decide +kernel
theorem dX6_followNext_54 : decode cX6_followNext 54 = .ok (.iload_n 1, 1) := by decide +kernel
theorem dX6_followNext_55 : decode cX6_followNext 55 = .ok (.iconst 1, 1) := by decide +kernel
theorem dX6_followNext_56 : decode cX6_followNext 56 = .ok (.invokevirtual 325, 3) := by decide +kernel
theorem dX6_followNext_59 : decode cX6_followNext 59 = .ok (.iload_n 3, 1) := by decide +kernel
theorem dX6_followNext_60 : decode cX6_followNext 60 = .ok (.invokevirtual 245, 3) := by decide +kernel
theorem dX6_followNext_63 : decode cX6_followNext 63 = .ok (.pop, 1) := by decide +kernel
theorem dX6_followNext_64 : decode cX6_followNext 64 = .ok (.goto 24, 3) := by decide +kernel
theorem dX6_followNext_67 : decode cX6_followNext 67 = .ok (.aload_n 0, 1) := by decide +kernel
theorem dX6_followNext_68 : decode cX6_followNext 68 = .ok (.getfield 26, 3) := by decide +kernel
theorem dX6_followNext_71 : decode cX6_followNext 71 = .ok (.iload_n 2, 1) := by decide +kernel
theorem dX6_followNext_72 : decode cX6_followNext 72 = .ok (.iload_n 3, 1) := by decide +kernel
theorem dX6_followNext_73 : decode cX6_followNext 73 = .ok (.invokevirtual 326, 3) := by decide +kernel
theorem dX6_followNext_76 : decode cX6_followNext 76 = .ok (.ifCond .eq 12, 3) := by decide +kernel
theorem dX6_followNext_79 : decode cX6_followNext 79 = .ok (.aload_n 0, 1) := by decide +kernel
theorem dX6_followNext_80 : decode cX6_followNext 80 = .ok (.getfield 26, 3) := by decide +kernel
theorem dX6_followNext_83 : decode cX6_followNext 83 = .ok (.iload_n 2, 1) := by decide +kernel
theorem dX6_followNext_84 : decode cX6_followNext 84 = .ok (.iload_n 3, 1) := by decide +kernel
theorem dX6_followNext_85 : decode cX6_followNext 85 = .ok (.invokevirtual 194, 3) := by decide +kernel
theorem dX6_followNext_88 : decode cX6_followNext 88 = .ok (.return_, 1) := by decide +kernel
theorem dX6_putRowDown_0 : decode cX6_putRowDown 0 = .ok (.aload_n 0, 1) := by decide +kernel
theorem dX6_putRowDown_1 : decode cX6_putRowDown 1 = .ok (.getfield 26, 3) := by decide +kernel
theorem dX6_putRowDown_4 : decode cX6_putRowDown 4 = .ok (.iload_n 1, 1) := by decide +kernel
theorem dX6_putRowDown_5 : decode cX6_putRowDown 5 = .ok (.iload 4, 2) := by decide +kernel
theorem dX6_putRowDown_7 : decode cX6_putRowDown 7 = .ok (.invokevirtual 326, 3) := by decide +kernel
theorem dX6_putRowDown_10 : decode cX6_putRowDown 10 = .ok (.ifCond .ne 5, 3) := by decide +kernel
theorem dX6_putRowDown_13 : decode cX6_putRowDown 13 = .ok (.iconst 0, 1) := by decide +kernel
theorem dX6_putRowDown_14 : decode cX6_putRowDown 14 = .ok (.ireturn, 1) := by decide +kernel
theorem dX6_putRowDown_15 : decode cX6_putRowDown 15 = .ok (.aload_n 0, 1) := by decide +kernel
theorem dX6_putRowDown_16 : decode cX6_putRowDown 16 = .ok (.getfield 50, 3) := by decide +kernel
theorem dX6_putRowDown_19 : decode cX6_putRowDown 19 = .ok (.iload_n 2, 1) := by decide +kernel
theorem dX6_putRowDown_20 : decode cX6_putRowDown 20 = .ok (.iload_n 3, 1) := by decide +kernel
theorem dX6_putRowDown_21 : decode cX6_putRowDown 21 = .ok (.invokevirtual 329, 3) := by decide +kernel
theorem dX6_putRowDown_24 : decode cX6_putRowDown 24 = .ok (.aload_n 0, 1) := by decide +kernel
theorem dX6_putRowDown_25 : decode cX6_putRowDown 25 = .ok (.getfield 10, 3) := by decide +kernel
theorem dX6_putRowDown_28 : decode cX6_putRowDown 28 = .ok (.aload_n 0, 1) := by decide +kernel
theorem dX6_putRowDown_29 : decode cX6_putRowDown 29 = .ok (.getfield 50, 3) := by decide +kernel
theorem dX6_putRowDown_32 : decode cX6_putRowDown 32 = .ok (.invokevirtual 332, 3) := by decide +kernel
theorem dX6_putRowDown_35 : decode cX6_putRowDown 35 = .ok (.ifCond .eq 32, 3) := by decide +kernel
theorem dX6_putRowDown_38 : decode cX6_putRowDown 38 = .ok (.aload_n 0, 1) := by decide +kernel
theorem dX6_putRowDown_39 : decode cX6_putRowDown 39 = .ok (.getfield 26, 3) := by decide +kernel
theorem dX6_putRowDown_42 : decode cX6_putRowDown 42 = .ok (.iload_n 1, 1) := by decide +kernel
theorem dX6_putRowDown_43 : decode cX6_putRowDown 43 = .ok (.aload_n 0, 1) := by decide +kernel
theorem dX6_putRowDown_44 : decode cX6_putRowDown 44 = .ok (.getfield 50, 3) := by decide +kernel
theorem dX6_putRowDown_47 : decode cX6_putRowDown 47 = .ok (.iconst 0, 1) := by decide +kernel
theorem dX6_putRowDown_48 : decode cX6_putRowDown 48 = .ok (.invokevirtual 274, 3) := by decide +kernel
theorem dX6_putRowDown_51 : decode cX6_putRowDown 51 = .ok (.aload_n 0, 1) := by decide +kernel
theorem dX6_putRowDown_52 : decode cX6_putRowDown 52 = .ok (.getfield 50, 3) := by decide +kernel
theorem dX6_putRowDown_55 : decode cX6_putRowDown 55 = .ok (.iconst 1, 1) := by decide +kernel
theorem dX6_putRowDown_56 : decode cX6_putRowDown 56 = .ok (.invokevirtual 274, 3) := by decide +kernel
theorem dX6_putRowDown_59 : decode cX6_putRowDown 59 = .ok (.iload 4, 2) := by decide +kernel
theorem dX6_putRowDown_61 : decode cX6_putRowDown 61 = .ok (.invokevirtual 172, 3) := by decide +kernel
theorem dX6_putRowDown_64 : decode cX6_putRowDown 64 = .ok (.goto 13, 3) := by decide +kernel
theorem dX6_putRowDown_67 : decode cX6_putRowDown 67 = .ok (.aload_n 0, 1) := by decide +kernel
theorem dX6_putRowDown_68 : decode cX6_putRowDown 68 = .ok (.getfield 26, 3) := by decide +kernel
theorem dX6_putRowDown_71 : decode cX6_putRowDown 71 = .ok (.iload_n 1, 1) := by decide +kernel
theorem dX6_putRowDown_72 : decode cX6_putRowDown 72 = .ok (.iload 4, 2) := by decide +kernel
theorem dX6_putRowDown_74 : decode cX6_putRowDown 74 = .ok (.invokevirtual 336, 3) := by decide +kernel
theorem dX6_putRowDown_77 : decode cX6_putRowDown 77 = .ok (.iconst 1, 1) := by decide +kernel
theorem dX6_putRowDown_78 : decode cX6_putRowDown 78 = .ok (.ireturn, 1) := by decide +kernel
theorem dX6_turnRow_0 : decode cX6_turnRow 0 = .ok (.aload_n 0, 1) := by decide +kernel
theorem dX6_turnRow_1 : decode cX6_turnRow 1 = .ok (.getfield 19, 3) := by decide +kernel
theorem dX6_turnRow_4 : decode cX6_turnRow 4 = .ok (.iload_n 1, 1) := by decide +kernel
theorem dX6_turnRow_5 : decode cX6_turnRow 5 = .ok (.invokevirtual 264, 3) := by decide +kernel
theorem dX6_turnRow_8 : decode cX6_turnRow 8 = .ok (.ifCond .ne 5, 3) := by decide +kernel
theorem dX6_turnRow_11 : decode cX6_turnRow 11 = .ok (.iconst 0, 1) := by decide +kernel
theorem dX6_turnRow_12 : decode cX6_turnRow 12 = .ok (.ireturn, 1) := by decide +kernel
theorem dX6_turnRow_13 : decode cX6_turnRow 13 = .ok (.aload_n 0, 1) := by decide +kernel
theorem dX6_turnRow_14 : decode cX6_turnRow 14 = .ok (.getfield 50, 3) := by decide +kernel
theorem dX6_turnRow_17 : decode cX6_turnRow 17 = .ok (.aload_n 0, 1) := by decide +kernel
theorem dX6_turnRow_18 : decode cX6_turnRow 18 = .ok (.getfield 19, 3) := by decide +kernel
theorem dX6_turnRow_21 : decode cX6_turnRow 21 = .ok (.iload_n 1, 1) := by decide +kernel
theorem dX6_turnRow_22 : decode cX6_turnRow 22 = .ok (.iconst 0, 1) := by decide +kernel
theorem dX6_turnRow_23 : decode cX6_turnRow 23 = .ok (.invokevirtual 213, 3) := by decide +kernel
theorem dX6_turnRow_26 : decode cX6_turnRow 26 = .ok (.aload_n 0, 1) := by decide +kernel
theorem dX6_turnRow_27 : decode cX6_turnRow 27 = .ok (.getfield 19, 3) := by decide +kernel
theorem dX6_turnRow_30 : decode cX6_turnRow 30 = .ok (.iload_n 1, 1) := by decide +kernel
theorem dX6_turnRow_31 : decode cX6_turnRow 31 = .ok (.iconst 1, 1) := by decide +kernel
theorem dX6_turnRow_32 : decode cX6_turnRow 32 = .ok (.invokevirtual 213, 3) := by decide +kernel
theorem dX6_turnRow_35 : decode cX6_turnRow 35 = .ok (.invokevirtual 329, 3) := by decide +kernel
theorem dX6_turnRow_38 : decode cX6_turnRow 38 = .ok (.aload_n 0, 1) := by decide +kernel
theorem dX6_turnRow_39 : decode cX6_turnRow 39 = .ok (.getfield 10, 3) := by decide +kernel
theorem dX6_turnRow_42 : decode cX6_turnRow 42 = .ok (.aload_n 0, 1) := by decide +kernel
theorem dX6_turnRow_43 : decode cX6_turnRow 43 = .ok (.getfield 50, 3) := by decide +kernel
theorem dX6_turnRow_46 : decode cX6_turnRow 46 = .ok (.invokevirtual 332, 3) := by decide +kernel
theorem dX6_turnRow_49 : decode cX6_turnRow 49 = .ok (.ireturn, 1) := by decide +kernel
theorem dX6_turnEntryBack_0 : decode cX6_turnEntryBack 0 = .ok (.aload_n 0, 1) := by decide +kernel
theorem dX6_turnEntryBack_1 : decode cX6_turnEntryBack 1 = .ok (.getfield 26, 3) := by decide +kernel
theorem dX6_turnEntryBack_4 : decode cX6_turnEntryBack 4 = .ok (.iload_n 1, 1) := by decide +kernel
theorem dX6_turnEntryBack_5 : decode cX6_turnEntryBack 5 = .ok (.invokevirtual 277, 3) := by decide +kernel
theorem dX6_turnEntryBack_8 : decode cX6_turnEntryBack 8 = .ok (.ifCond .ne 5, 3) := by decide +kernel
theorem dX6_turnEntryBack_11 : decode cX6_turnEntryBack 11 = .ok (.iconst 0, 1) := by decide +kernel
theorem dX6_turnEntryBack_12 : decode cX6_turnEntryBack 12 = .ok (.ireturn, 1) := by decide +kernel
theorem dX6_turnEntryBack_13 : decode cX6_turnEntryBack 13 = .ok (.aload_n 0, 1) := by decide +kernel
theorem dX6_turnEntryBack_14 : decode cX6_turnEntryBack 14 = .ok (.getfield 50, 3) := by decide +kernel
theorem dX6_turnEntryBack_17 : decode cX6_turnEntryBack 17 = .ok (.aload_n 0, 1) := by decide +kernel
theorem dX6_turnEntryBack_18 : decode cX6_turnEntryBack 18 = .ok (.getfield 26, 3) := by decide +kernel
theorem dX6_turnEntryBack_21 : decode cX6_turnEntryBack 21 = .ok (.iload_n 1, 1) := by decide +kernel
theorem dX6_turnEntryBack_22 : decode cX6_turnEntryBack 22 = .ok (.iconst 0, 1) := by decide +kernel
theorem dX6_turnEntryBack_23 : decode cX6_turnEntryBack 23 = .ok (.invokevirtual 209, 3) := by decide +kernel
theorem dX6_turnEntryBack_26 : decode cX6_turnEntryBack 26 = .ok (.aload_n 0, 1) := by decide +kernel
theorem dX6_turnEntryBack_27 : decode cX6_turnEntryBack 27 = .ok (.getfield 26, 3) := by decide +kernel
theorem dX6_turnEntryBack_30 : decode cX6_turnEntryBack 30 = .ok (.iload_n 1, 1) := by decide +kernel
theorem dX6_turnEntryBack_31 : decode cX6_turnEntryBack 31 = .ok (.iconst 1, 1) := by decide +kernel
theorem dX6_turnEntryBack_32 : decode cX6_turnEntryBack 32 = .ok (.invokevirtual 209, 3) := by decide +kernel
theorem dX6_turnEntryBack_35 : decode cX6_turnEntryBack 35 = .ok (.invokevirtual 329, 3) := by decide +kernel
theorem dX6_turnEntryBack_38 : decode cX6_turnEntryBack 38 = .ok (.aload_n 0, 1) := by decide +kernel
theorem dX6_turnEntryBack_39 : decode cX6_turnEntryBack 39 = .ok (.getfield 10, 3) := by decide +kernel
theorem dX6_turnEntryBack_42 : decode cX6_turnEntryBack 42 = .ok (.aload_n 0, 1) := by decide +kernel
theorem dX6_turnEntryBack_43 : decode cX6_turnEntryBack 43 = .ok (.getfield 50, 3) := by decide +kernel
theorem dX6_turnEntryBack_46 : decode cX6_turnEntryBack 46 = .ok (.invokevirtual 339, 3) := by decide +kernel
theorem dX6_turnEntryBack_49 : decode cX6_turnEntryBack 49 = .ok (.ireturn, 1) := by decide +kernel
theorem dX6_canComeBack_0 : decode cX6_canComeBack 0 = .ok (.aload_n 0, 1) := by decide +kernel
theorem dX6_canComeBack_1 : decode cX6_canComeBack 1 = .ok (.getfield 37, 3) := by decide +kernel
theorem dX6_canComeBack_4 : decode cX6_canComeBack 4 = .ok (.invokevirtual 142, 3) := by decide +kernel
theorem dX6_canComeBack_7 : decode cX6_canComeBack 7 = .ok (.istore_n 1, 1) := by decide +kernel
theorem dX6_canComeBack_8 : decode cX6_canComeBack 8 = .ok (.iconst 0, 1) := by decide +kernel
theorem dX6_canComeBack_9 : decode cX6_canComeBack 9 = .ok (.istore_n 2, 1) := by decide +kernel
theorem dX6_canComeBack_10 : decode cX6_canComeBack 10 = .ok (.iload_n 2, 1) := by decide +kernel
theorem dX6_canComeBack_11 : decode cX6_canComeBack 11 = .ok (.iload_n 1, 1) := by decide +kernel
theorem dX6_canComeBack_12 : decode cX6_canComeBack 12 = .ok (.if_icmp .ge 39, 3) := by decide +kernel
theorem dX6_canComeBack_15 : decode cX6_canComeBack 15 = .ok (.aload_n 0, 1) := by decide +kernel
theorem dX6_canComeBack_16 : decode cX6_canComeBack 16 = .ok (.getfield 37, 3) := by decide +kernel
theorem dX6_canComeBack_19 : decode cX6_canComeBack 19 = .ok (.iload_n 2, 1) := by decide +kernel
theorem dX6_canComeBack_20 : decode cX6_canComeBack 20 = .ok (.invokevirtual 143, 3) := by decide +kernel
theorem dX6_canComeBack_23 : decode cX6_canComeBack 23 = .ok (.istore_n 3, 1) := by decide +kernel
theorem dX6_canComeBack_24 : decode cX6_canComeBack 24 = .ok (.aload_n 0, 1) := by decide +kernel
theorem dX6_canComeBack_25 : decode cX6_canComeBack 25 = .ok (.getfield 26, 3) := by decide +kernel
theorem dX6_canComeBack_28 : decode cX6_canComeBack 28 = .ok (.iload_n 3, 1) := by decide +kernel
theorem dX6_canComeBack_29 : decode cX6_canComeBack 29 = .ok (.invokevirtual 277, 3) := by decide +kernel
theorem dX6_canComeBack_32 : decode cX6_canComeBack 32 = .ok (.ifCond .eq 13, 3) := by decide +kernel
theorem dX6_canComeBack_35 : decode cX6_canComeBack 35 = .ok (.aload_n 0, 1) := by decide +kernel
theorem dX6_canComeBack_36 : decode cX6_canComeBack 36 = .ok (.iload_n 3, 1) := by decide +kernel
theorem dX6_canComeBack_37 : decode cX6_canComeBack 37 = .ok (.invokevirtual 282, 3) := by decide +kernel
theorem dX6_canComeBack_40 : decode cX6_canComeBack 40 = .ok (.ifCond .ne 5, 3) := by decide +kernel
theorem dX6_canComeBack_43 : decode cX6_canComeBack 43 = .ok (.iconst 0, 1) := by decide +kernel
theorem dX6_canComeBack_44 : decode cX6_canComeBack 44 = .ok (.ireturn, 1) := by decide +kernel
theorem dX6_canComeBack_45 : decode cX6_canComeBack 45 = .ok (.iinc 2 1, 3) := by decide +kernel
theorem dX6_canComeBack_48 : decode cX6_canComeBack 48 = .ok (.goto (-38), 3) := by decide +kernel
theorem dX6_canComeBack_51 : decode cX6_canComeBack 51 = .ok (.iconst 1, 1) := by decide +kernel
theorem dX6_canComeBack_52 : decode cX6_canComeBack 52 = .ok (.ireturn, 1) := by decide +kernel
theorem dX6_comeBack_0 : decode cX6_comeBack 0 = .ok (.aload_n 0, 1) := by decide +kernel
theorem dX6_comeBack_1 : decode cX6_comeBack 1 = .ok (.getfield 26, 3) := by decide +kernel
theorem dX6_comeBack_4 : decode cX6_comeBack 4 = .ok (.iload_n 1, 1) := by decide +kernel
theorem dX6_comeBack_5 : decode cX6_comeBack 5 = .ok (.invokevirtual 277, 3) := by decide +kernel
theorem dX6_comeBack_8 : decode cX6_comeBack 8 = .ok (.ifCond .ne 22, 3) := by decide +kernel
theorem dX6_comeBack_11 : decode cX6_comeBack 11 = .ok (.aload_n 0, 1) := by decide +kernel
theorem dX6_comeBack_12 : decode cX6_comeBack 12 = .ok (.getfield 19, 3) := by decide +kernel
theorem dX6_comeBack_15 : decode cX6_comeBack 15 = .ok (.iload_n 1, 1) := by decide +kernel
theorem dX6_comeBack_16 : decode cX6_comeBack 16 = .ok (.invokevirtual 264, 3) := by decide +kernel
theorem dX6_comeBack_19 : decode cX6_comeBack 19 = .ok (.istore_n 2, 1) := by decide +kernel
theorem dX6_comeBack_20 : decode cX6_comeBack 20 = .ok (.aload_n 0, 1) := by decide +kernel
theorem dX6_comeBack_21 : decode cX6_comeBack 21 = .ok (.getfield 19, 3) := by decide +kernel
theorem dX6_comeBack_24 : decode cX6_comeBack 24 = .ok (.iload_n 1, 1) := by decide +kernel
theorem dX6_comeBack_25 : decode cX6_comeBack 25 = .ok (.invokevirtual 201, 3) := by decide +kernel
theorem dX6_comeBack_28 : decode cX6_comeBack 28 = .ok (.iload_n 2, 1) := by decide +kernel
theorem dX6_comeBack_29 : decode cX6_comeBack 29 = .ok (.ireturn, 1) := by decide +kernel
theorem dX6_comeBack_30 : decode cX6_comeBack 30 = .ok (.aload_n 0, 1) := by decide +kernel
theorem dX6_comeBack_31 : decode cX6_comeBack 31 = .ok (.iload_n 1, 1) := by decide +kernel
theorem dX6_comeBack_32 : decode cX6_comeBack 32 = .ok (.invokevirtual 282, 3) := by decide +kernel
theorem dX6_comeBack_35 : decode cX6_comeBack 35 = .ok (.ifCond .ne 5, 3) := by decide +kernel
theorem dX6_comeBack_38 : decode cX6_comeBack 38 = .ok (.iconst 0, 1) := by decide +kernel
theorem dX6_comeBack_39 : decode cX6_comeBack 39 = .ok (.ireturn, 1) := by decide +kernel
theorem dX6_comeBack_40 : decode cX6_comeBack 40 = .ok (.aload_n 0, 1) := by decide +kernel
theorem dX6_comeBack_41 : decode cX6_comeBack 41 = .ok (.getfield 50, 3) := by decide +kernel
theorem dX6_comeBack_44 : decode cX6_comeBack 44 = .ok (.iconst 0, 1) := by decide +kernel
theorem dX6_comeBack_45 : decode cX6_comeBack 45 = .ok (.invokevirtual 274, 3) := by decide +kernel
theorem dX6_comeBack_48 : decode cX6_comeBack 48 = .ok (.istore_n 2, 1) := by decide +kernel
theorem dX6_comeBack_49 : decode cX6_comeBack 49 = .ok (.aload_n 0, 1) := by decide +kernel
theorem dX6_comeBack_50 : decode cX6_comeBack 50 = .ok (.getfield 50, 3) := by decide +kernel
theorem dX6_comeBack_53 : decode cX6_comeBack 53 = .ok (.iconst 1, 1) := by decide +kernel
theorem dX6_comeBack_54 : decode cX6_comeBack 54 = .ok (.invokevirtual 274, 3) := by decide +kernel
theorem dX6_comeBack_57 : decode cX6_comeBack 57 = .ok (.istore_n 3, 1) := by decide +kernel
theorem dX6_comeBack_58 : decode cX6_comeBack 58 = .ok (.aload_n 0, 1) := by decide +kernel
theorem dX6_comeBack_59 : decode cX6_comeBack 59 = .ok (.getfield 19, 3) := by decide +kernel
theorem dX6_comeBack_62 : decode cX6_comeBack 62 = .ok (.iload_n 1, 1) := by decide +kernel
theorem dX6_comeBack_63 : decode cX6_comeBack 63 = .ok (.iload_n 2, 1) := by decide +kernel
theorem dX6_comeBack_64 : decode cX6_comeBack 64 = .ok (.iload_n 3, 1) := by decide +kernel
theorem dX6_comeBack_65 : decode cX6_comeBack 65 = .ok (.invokevirtual 342, 3) := by decide +kernel
theorem dX6_comeBack_68 : decode cX6_comeBack 68 = .ok (.istore 4, 2) := by decide +kernel
theorem dX6_comeBack_70 : decode cX6_comeBack 70 = .ok (.aload_n 0, 1) := by decide +kernel
theorem dX6_comeBack_71 : decode cX6_comeBack 71 = .ok (.getfield 19, 3) := by decide +kernel
theorem dX6_comeBack_74 : decode cX6_comeBack 74 = .ok (.iload_n 1, 1) := by decide +kernel
theorem dX6_comeBack_75 : decode cX6_comeBack 75 = .ok (.iload_n 2, 1) := by decide +kernel
theorem dX6_comeBack_76 : decode cX6_comeBack 76 = .ok (.iload_n 3, 1) := by decide +kernel
theorem dX6_comeBack_77 : decode cX6_comeBack 77 = .ok (.invokevirtual 180, 3) := by decide +kernel
theorem dX6_comeBack_80 : decode cX6_comeBack 80 = .ok (.iload 4, 2) := by decide +kernel
theorem dX6_comeBack_82 : decode cX6_comeBack 82 = .ok (.ifCond .ne 7, 3) := by decide +kernel
theorem dX6_comeBack_85 : decode cX6_comeBack 85 = .ok (.iconst 1, 1) := by decide +kernel
theorem dX6_comeBack_86 : decode cX6_comeBack 86 = .ok (.goto 4, 3) := by decide +kernel
theorem dX6_comeBack_89 : decode cX6_comeBack 89 = .ok (.iconst 0, 1) := by decide +kernel
theorem dX6_comeBack_90 : decode cX6_comeBack 90 = .ok (.ireturn, 1) := by decide +kernel
theorem dX6_stateOf_0 : decode cX6_stateOf 0 = .ok (.aload_n 0, 1) := by decide +kernel
theorem dX6_stateOf_1 : decode cX6_stateOf 1 = .ok (.getfield 26, 3) := by decide +kernel
theorem dX6_stateOf_4 : decode cX6_stateOf 4 = .ok (.iload_n 1, 1) := by decide +kernel
theorem dX6_stateOf_5 : decode cX6_stateOf 5 = .ok (.invokevirtual 346, 3) := by decide +kernel
theorem dX6_stateOf_8 : decode cX6_stateOf 8 = .ok (.ifCond .eq 6, 3) := by decide +kernel
theorem dX6_stateOf_11 : decode cX6_stateOf 11 = .ok (.bipush 97, 2) := by decide +kernel
theorem dX6_stateOf_13 : decode cX6_stateOf 13 = .ok (.ireturn, 1) := by decide +kernel
theorem dX6_stateOf_14 : decode cX6_stateOf 14 = .ok (.aload_n 0, 1) := by decide +kernel
theorem dX6_stateOf_15 : decode cX6_stateOf 15 = .ok (.getfield 26, 3) := by decide +kernel
theorem dX6_stateOf_18 : decode cX6_stateOf 18 = .ok (.iload_n 1, 1) := by decide +kernel
theorem dX6_stateOf_19 : decode cX6_stateOf 19 = .ok (.invokevirtual 277, 3) := by decide +kernel
theorem dX6_stateOf_22 : decode cX6_stateOf 22 = .ok (.istore_n 2, 1) := by decide +kernel
theorem dX6_stateOf_23 : decode cX6_stateOf 23 = .ok (.aload_n 0, 1) := by decide +kernel
theorem dX6_stateOf_24 : decode cX6_stateOf 24 = .ok (.getfield 19, 3) := by decide +kernel
theorem dX6_stateOf_27 : decode cX6_stateOf 27 = .ok (.iload_n 1, 1) := by decide +kernel
theorem dX6_stateOf_28 : decode cX6_stateOf 28 = .ok (.invokevirtual 264, 3) := by decide +kernel
theorem dX6_stateOf_31 : decode cX6_stateOf 31 = .ok (.ifCond .ne 15, 3) := by decide +kernel
theorem dX6_stateOf_34 : decode cX6_stateOf 34 = .ok (.iload_n 2, 1) := by decide +kernel
theorem dX6_stateOf_35 : decode cX6_stateOf 35 = .ok (.ifCond .eq 8, 3) := by decide +kernel
theorem dX6_stateOf_38 : decode cX6_stateOf 38 = .ok (.bipush 116, 2) := by decide +kernel
theorem dX6_stateOf_40 : decode cX6_stateOf 40 = .ok (.goto 5, 3) := by decide +kernel
theorem dX6_stateOf_43 : decode cX6_stateOf 43 = .ok (.bipush 110, 2) := by decide +kernel
theorem dX6_stateOf_45 : decode cX6_stateOf 45 = .ok (.ireturn, 1) := by decide +kernel
theorem dX6_stateOf_46 : decode cX6_stateOf 46 = .ok (.iload_n 2, 1) := by decide +kernel
theorem dX6_stateOf_47 : decode cX6_stateOf 47 = .ok (.ifCond .ne 6, 3) := by decide +kernel
theorem dX6_stateOf_50 : decode cX6_stateOf 50 = .ok (.bipush 115, 2) := by decide +kernel
theorem dX6_stateOf_52 : decode cX6_stateOf 52 = .ok (.ireturn, 1) := by decide +kernel
theorem dX6_stateOf_53 : decode cX6_stateOf 53 = .ok (.aload_n 0, 1) := by decide +kernel
theorem dX6_stateOf_54 : decode cX6_stateOf 54 = .ok (.iload_n 1, 1) := by decide +kernel
theorem dX6_stateOf_55 : decode cX6_stateOf 55 = .ok (.invokevirtual 269, 3) := by decide +kernel
theorem dX6_stateOf_58 : decode cX6_stateOf 58 = .ok (.ifCond .eq 16, 3) := by decide +kernel
theorem dX6_stateOf_61 : decode cX6_stateOf 61 = .ok (.aload_n 0, 1) := by decide +kernel
theorem dX6_stateOf_62 : decode cX6_stateOf 62 = .ok (.iload_n 1, 1) := by decide +kernel
theorem dX6_stateOf_63 : decode cX6_stateOf 63 = .ok (.invokevirtual 349, 3) := by decide +kernel
theorem dX6_stateOf_66 : decode cX6_stateOf 66 = .ok (.ifCond .eq 8, 3) := by decide +kernel
theorem dX6_stateOf_69 : decode cX6_stateOf 69 = .ok (.bipush 101, 2) := by decide +kernel
theorem dX6_stateOf_71 : decode cX6_stateOf 71 = .ok (.goto 5, 3) := by decide +kernel
theorem dX6_stateOf_74 : decode cX6_stateOf 74 = .ok (.bipush 117, 2) := by decide +kernel
theorem dX6_stateOf_76 : decode cX6_stateOf 76 = .ok (.ireturn, 1) := by decide +kernel
theorem dX6_isEntryAsCouple_0 : decode cX6_isEntryAsCouple 0 = .ok (.aload_n 0, 1) := by decide +kernel
theorem dX6_isEntryAsCouple_1 : decode cX6_isEntryAsCouple 1 = .ok (.getfield 26, 3) := by decide +kernel
theorem dX6_isEntryAsCouple_4 : decode cX6_isEntryAsCouple 4 = .ok (.iload_n 1, 1) := by decide +kernel
theorem dX6_isEntryAsCouple_5 : decode cX6_isEntryAsCouple 5 = .ok (.iconst 0, 1) := by decide +kernel
theorem dX6_isEntryAsCouple_6 : decode cX6_isEntryAsCouple 6 = .ok (.invokevirtual 209, 3) := by decide +kernel
theorem dX6_isEntryAsCouple_9 : decode cX6_isEntryAsCouple 9 = .ok (.aload_n 0, 1) := by decide +kernel
theorem dX6_isEntryAsCouple_10 : decode cX6_isEntryAsCouple 10 = .ok (.getfield 50, 3) := by decide +kernel
theorem dX6_isEntryAsCouple_13 : decode cX6_isEntryAsCouple 13 = .ok (.iconst 0, 1) := by decide +kernel
theorem dX6_isEntryAsCouple_14 : decode cX6_isEntryAsCouple 14 = .ok (.invokevirtual 274, 3) := by decide +kernel
theorem dX6_isEntryAsCouple_17 : decode cX6_isEntryAsCouple 17 = .ok (.if_icmp .ne 27, 3) := by decide +kernel
theorem dX6_isEntryAsCouple_20 : decode cX6_isEntryAsCouple 20 = .ok (.aload_n 0, 1) := by decide +kernel
theorem dX6_isEntryAsCouple_21 : decode cX6_isEntryAsCouple 21 = .ok (.getfield 26, 3) := by decide +kernel
theorem dX6_isEntryAsCouple_24 : decode cX6_isEntryAsCouple 24 = .ok (.iload_n 1, 1) := by decide +kernel
theorem dX6_isEntryAsCouple_25 : decode cX6_isEntryAsCouple 25 = .ok (.iconst 1, 1) := by decide +kernel
theorem dX6_isEntryAsCouple_26 : decode cX6_isEntryAsCouple 26 = .ok (.invokevirtual 209, 3) := by decide +kernel
theorem dX6_isEntryAsCouple_29 : decode cX6_isEntryAsCouple 29 = .ok (.aload_n 0, 1) := by decide +kernel
theorem dX6_isEntryAsCouple_30 : decode cX6_isEntryAsCouple 30 = .ok (.getfield 50, 3) := by decide +kernel
theorem dX6_isEntryAsCouple_33 : decode cX6_isEntryAsCouple 33 = .ok (.iconst 1, 1) := by decide +kernel
theorem dX6_isEntryAsCouple_34 : decode cX6_isEntryAsCouple 34 = .ok (.invokevirtual 274, 3) := by decide +kernel
theorem dX6_isEntryAsCouple_37 : decode cX6_isEntryAsCouple 37 = .ok (.if_icmp .ne 7, 3) := by decide +kernel
theorem dX6_isEntryAsCouple_40 : decode cX6_isEntryAsCouple 40 = .ok (.iconst 1, 1) := by decide +kernel
theorem dX6_isEntryAsCouple_41 : decode cX6_isEntryAsCouple 41 = .ok (.goto 4, 3) := by decide +kernel
theorem dX6_isEntryAsCouple_44 : decode cX6_isEntryAsCouple 44 = .ok (.iconst 0, 1) := by decide +kernel
theorem dX6_isEntryAsCouple_45 : decode cX6_isEntryAsCouple 45 = .ok (.ireturn, 1) := by decide +kernel
theorem dX6_countMoved_0 : decode cX6_countMoved 0 = .ok (.iconst 0, 1) := by decide +kernel
theorem dX6_countMoved_1 : decode cX6_countMoved 1 = .ok (.istore_n 1, 1) := by decide +kernel
theorem dX6_countMoved_2 : decode cX6_countMoved 2 = .ok (.iconst 0, 1) := by decide +kernel
theorem dX6_countMoved_3 : decode cX6_countMoved 3 = .ok (.istore_n 2, 1) := by decide +kernel
theorem dX6_countMoved_4 : decode cX6_countMoved 4 = .ok (.iload_n 2, 1) := by decide +kernel
theorem dX6_countMoved_5 : decode cX6_countMoved 5 = .ok (.bipush 40, 2) := by decide +kernel
theorem dX6_countMoved_7 : decode cX6_countMoved 7 = .ok (.if_icmp .ge 22, 3) := by decide +kernel
theorem dX6_countMoved_10 : decode cX6_countMoved 10 = .ok (.aload_n 0, 1) := by decide +kernel
theorem dX6_countMoved_11 : decode cX6_countMoved 11 = .ok (.iload_n 2, 1) := by decide +kernel
theorem dX6_countMoved_12 : decode cX6_countMoved 12 = .ok (.invokevirtual 254, 3) := by decide +kernel
theorem dX6_countMoved_15 : decode cX6_countMoved 15 = .ok (.bipush 101, 2) := by decide +kernel
theorem dX6_countMoved_17 : decode cX6_countMoved 17 = .ok (.if_icmp .ne 6, 3) := by decide +kernel
theorem dX6_countMoved_20 : decode cX6_countMoved 20 = .ok (.iinc 1 1, 3) := by decide +kernel
theorem dX6_countMoved_23 : decode cX6_countMoved 23 = .ok (.iinc 2 1, 3) := by decide +kernel
theorem dX6_countMoved_26 : decode cX6_countMoved 26 = .ok (.goto (-22), 3) := by decide +kernel
theorem dX6_countMoved_29 : decode cX6_countMoved 29 = .ok (.iload_n 1, 1) := by decide +kernel
theorem dX6_countMoved_30 : decode cX6_countMoved 30 = .ok (.ireturn, 1) := by decide +kernel
theorem dX6_sumOfRange_0 : decode cX6_sumOfRange 0 = .ok (.lconst 0, 1) := by decide +kernel
theorem dX6_sumOfRange_1 : decode cX6_sumOfRange 1 = .ok (.lstore 4, 2) := by decide +kernel
theorem dX6_sumOfRange_3 : decode cX6_sumOfRange 3 = .ok (.iload_n 2, 1) := by decide +kernel
theorem dX6_sumOfRange_4 : decode cX6_sumOfRange 4 = .ok (.istore 6, 2) := by decide +kernel
theorem dX6_sumOfRange_6 : decode cX6_sumOfRange 6 = .ok (.iload 6, 2) := by decide +kernel
theorem dX6_sumOfRange_8 : decode cX6_sumOfRange 8 = .ok (.iload_n 3, 1) := by decide +kernel
theorem dX6_sumOfRange_9 : decode cX6_sumOfRange 9 = .ok (.if_icmp .gt 40, 3) := by decide +kernel
theorem dX6_sumOfRange_12 : decode cX6_sumOfRange 12 = .ok (.iload 6, 2) := by decide +kernel
theorem dX6_sumOfRange_14 : decode cX6_sumOfRange 14 = .ok (.bipush 40, 2) := by decide +kernel
theorem dX6_sumOfRange_16 : decode cX6_sumOfRange 16 = .ok (.if_icmp .ge 33, 3) := by decide +kernel
theorem dX6_sumOfRange_19 : decode cX6_sumOfRange 19 = .ok (.lload 4, 2) := by decide +kernel
theorem dX6_sumOfRange_21 : decode cX6_sumOfRange 21 = .ok (.iload_n 1, 1) := by decide +kernel
theorem dX6_sumOfRange_22 : decode cX6_sumOfRange 22 = .ok (.ifCond .eq 12, 3) := by decide +kernel
theorem dX6_sumOfRange_25 : decode cX6_sumOfRange 25 = .ok (.aload_n 0, 1) := by decide +kernel
theorem dX6_sumOfRange_26 : decode cX6_sumOfRange 26 = .ok (.iload 6, 2) := by decide +kernel
theorem dX6_sumOfRange_28 : decode cX6_sumOfRange 28 = .ok (.invokevirtual 352, 3) := by decide +kernel
theorem dX6_sumOfRange_31 : decode cX6_sumOfRange 31 = .ok (.goto 9, 3) := by decide +kernel
theorem dX6_sumOfRange_34 : decode cX6_sumOfRange 34 = .ok (.aload_n 0, 1) := by decide +kernel
theorem dX6_sumOfRange_35 : decode cX6_sumOfRange 35 = .ok (.iload 6, 2) := by decide +kernel
theorem dX6_sumOfRange_37 : decode cX6_sumOfRange 37 = .ok (.invokevirtual 356, 3) := by decide +kernel
theorem dX6_sumOfRange_40 : decode cX6_sumOfRange 40 = .ok (.ladd, 1) := by decide +kernel
theorem dX6_sumOfRange_41 : decode cX6_sumOfRange 41 = .ok (.lstore 4, 2) := by decide +kernel
theorem dX6_sumOfRange_43 : decode cX6_sumOfRange 43 = .ok (.iinc 6 1, 3) := by decide +kernel
theorem dX6_sumOfRange_46 : decode cX6_sumOfRange 46 = .ok (.goto (-40), 3) := by decide +kernel
theorem dX6_sumOfRange_49 : decode cX6_sumOfRange 49 = .ok (.lload 4, 2) := by decide +kernel
theorem dX6_sumOfRange_51 : decode cX6_sumOfRange 51 = .ok (.lreturn, 1) := by decide +kernel
theorem dX6_sumOfEntry_0 : decode cX6_sumOfEntry 0 = .ok (.aload_n 0, 1) := by decide +kernel
theorem dX6_sumOfEntry_1 : decode cX6_sumOfEntry 1 = .ok (.getfield 26, 3) := by decide +kernel
theorem dX6_sumOfEntry_4 : decode cX6_sumOfEntry 4 = .ok (.iload_n 1, 1) := by decide +kernel
theorem dX6_sumOfEntry_5 : decode cX6_sumOfEntry 5 = .ok (.invokevirtual 277, 3) := by decide +kernel
theorem dX6_sumOfEntry_8 : decode cX6_sumOfEntry 8 = .ok (.ifCond .ne 5, 3) := by decide +kernel
theorem dX6_sumOfEntry_11 : decode cX6_sumOfEntry 11 = .ok (.lconst 0, 1) := by decide +kernel
theorem dX6_sumOfEntry_12 : decode cX6_sumOfEntry 12 = .ok (.lreturn, 1) := by decide +kernel
theorem dX6_sumOfEntry_13 : decode cX6_sumOfEntry 13 = .ok (.iload_n 1, 1) := by decide +kernel
theorem dX6_sumOfEntry_14 : decode cX6_sumOfEntry 14 = .ok (.aload_n 0, 1) := by decide +kernel
theorem dX6_sumOfEntry_15 : decode cX6_sumOfEntry 15 = .ok (.getfield 26, 3) := by decide +kernel
theorem dX6_sumOfEntry_18 : decode cX6_sumOfEntry 18 = .ok (.iload_n 1, 1) := by decide +kernel
theorem dX6_sumOfEntry_19 : decode cX6_sumOfEntry 19 = .ok (.iconst 0, 1) := by decide +kernel
theorem dX6_sumOfEntry_20 : decode cX6_sumOfEntry 20 = .ok (.invokevirtual 209, 3) := by decide +kernel
theorem dX6_sumOfEntry_23 : decode cX6_sumOfEntry 23 = .ok (.aload_n 0, 1) := by decide +kernel
theorem dX6_sumOfEntry_24 : decode cX6_sumOfEntry 24 = .ok (.getfield 26, 3) := by decide +kernel
theorem dX6_sumOfEntry_27 : decode cX6_sumOfEntry 27 = .ok (.iload_n 1, 1) := by decide +kernel
theorem dX6_sumOfEntry_28 : decode cX6_sumOfEntry 28 = .ok (.iconst 1, 1) := by decide +kernel
theorem dX6_sumOfEntry_29 : decode cX6_sumOfEntry 29 = .ok (.invokevirtual 209, 3) := by decide +kernel
theorem dX6_sumOfEntry_32 : decode cX6_sumOfEntry 32 = .ok (.invokestatic 359, 3) := by decide +kernel
theorem dX6_sumOfEntry_35 : decode cX6_sumOfEntry 35 = .ok (.lreturn, 1) := by decide +kernel
theorem dX6_sumOfRow_0 : decode cX6_sumOfRow 0 = .ok (.aload_n 0, 1) := by decide +kernel
theorem dX6_sumOfRow_1 : decode cX6_sumOfRow 1 = .ok (.iload_n 1, 1) := by decide +kernel
theorem dX6_sumOfRow_2 : decode cX6_sumOfRow 2 = .ok (.invokevirtual 269, 3) := by decide +kernel
theorem dX6_sumOfRow_5 : decode cX6_sumOfRow 5 = .ok (.ifCond .ne 5, 3) := by decide +kernel
theorem dX6_sumOfRow_8 : decode cX6_sumOfRow 8 = .ok (.lconst 0, 1) := by decide +kernel
theorem dX6_sumOfRow_9 : decode cX6_sumOfRow 9 = .ok (.lreturn, 1) := by decide +kernel
theorem dX6_sumOfRow_10 : decode cX6_sumOfRow 10 = .ok (.iload_n 1, 1) := by decide +kernel
theorem dX6_sumOfRow_11 : decode cX6_sumOfRow 11 = .ok (.aload_n 0, 1) := by decide +kernel
theorem dX6_sumOfRow_12 : decode cX6_sumOfRow 12 = .ok (.getfield 50, 3) := by decide +kernel
theorem dX6_sumOfRow_15 : decode cX6_sumOfRow 15 = .ok (.iconst 0, 1) := by decide +kernel
theorem dX6_sumOfRow_16 : decode cX6_sumOfRow 16 = .ok (.invokevirtual 274, 3) := by decide +kernel
theorem dX6_sumOfRow_19 : decode cX6_sumOfRow 19 = .ok (.aload_n 0, 1) := by decide +kernel
theorem dX6_sumOfRow_20 : decode cX6_sumOfRow 20 = .ok (.getfield 50, 3) := by decide +kernel
theorem dX6_sumOfRow_23 : decode cX6_sumOfRow 23 = .ok (.iconst 1, 1) := by decide +kernel
theorem dX6_sumOfRow_24 : decode cX6_sumOfRow 24 = .ok (.invokevirtual 274, 3) := by decide +kernel
theorem dX6_sumOfRow_27 : decode cX6_sumOfRow 27 = .ok (.invokestatic 359, 3) := by decide +kernel
theorem dX6_sumOfRow_30 : decode cX6_sumOfRow 30 = .ok (.lreturn, 1) := by decide +kernel
theorem dX6_sumOfKey_0 : decode cX6_sumOfKey 0 = .ok (.ldc2_w 363, 3) := by decide +kernel
theorem dX6_sumOfKey_3 : decode cX6_sumOfKey 3 = .ok (.iload_n 0, 1) := by decide +kernel
theorem dX6_sumOfKey_4 : decode cX6_sumOfKey 4 = .ok (.i2l, 1) := by decide +kernel
theorem dX6_sumOfKey_5 : decode cX6_sumOfKey 5 = .ok (.lmul, 1) := by decide +kernel
theorem dX6_sumOfKey_6 : decode cX6_sumOfKey 6 = .ok (.ldc2_w 365, 3) := by decide +kernel
theorem dX6_sumOfKey_9 : decode cX6_sumOfKey 9 = .ok (.iload_n 1, 1) := by decide +kernel
theorem dX6_sumOfKey_10 : decode cX6_sumOfKey 10 = .ok (.i2l, 1) := by decide +kernel
theorem dX6_sumOfKey_11 : decode cX6_sumOfKey 11 = .ok (.lmul, 1) := by decide +kernel
theorem dX6_sumOfKey_12 : decode cX6_sumOfKey 12 = .ok (.ladd, 1) := by decide +kernel
theorem dX6_sumOfKey_13 : decode cX6_sumOfKey 13 = .ok (.iload_n 2, 1) := by decide +kernel
theorem dX6_sumOfKey_14 : decode cX6_sumOfKey 14 = .ok (.i2l, 1) := by decide +kernel
theorem dX6_sumOfKey_15 : decode cX6_sumOfKey 15 = .ok (.ladd, 1) := by decide +kernel
theorem dX6_sumOfKey_16 : decode cX6_sumOfKey 16 = .ok (.lconst 1, 1) := by decide +kernel
theorem dX6_sumOfKey_17 : decode cX6_sumOfKey 17 = .ok (.ladd, 1) := by decide +kernel
theorem dX6_sumOfKey_18 : decode cX6_sumOfKey 18 = .ok (.lreturn, 1) := by decide +kernel
theorem dX6_areSumsSame_0 : decode cX6_areSumsSame 0 = .ok (.aload_n 0, 1) := by decide +kernel
theorem dX6_areSumsSame_1 : decode cX6_areSumsSame 1 = .ok (.iconst 1, 1) := by decide +kernel
theorem dX6_areSumsSame_2 : decode cX6_areSumsSame 2 = .ok (.iload_n 1, 1) := by decide +kernel
theorem dX6_areSumsSame_3 : decode cX6_areSumsSame 3 = .ok (.iload_n 2, 1) := by decide +kernel
theorem dX6_areSumsSame_4 : decode cX6_areSumsSame 4 = .ok (.invokevirtual 290, 3) := by decide +kernel
theorem dX6_areSumsSame_7 : decode cX6_areSumsSame 7 = .ok (.aload_n 0, 1) := by decide +kernel
theorem dX6_areSumsSame_8 : decode cX6_areSumsSame 8 = .ok (.iconst 0, 1) := by decide +kernel
theorem dX6_areSumsSame_9 : decode cX6_areSumsSame 9 = .ok (.iload_n 1, 1) := by decide +kernel
theorem dX6_areSumsSame_10 : decode cX6_areSumsSame 10 = .ok (.iload_n 2, 1) := by decide +kernel
theorem dX6_areSumsSame_11 : decode cX6_areSumsSame 11 = .ok (.invokevirtual 290, 3) := by decide +kernel
theorem dX6_areSumsSame_14 : decode cX6_areSumsSame 14 = .ok (.lcmp, 1) := by decide +kernel
theorem dX6_areSumsSame_15 : decode cX6_areSumsSame 15 = .ok (.ifCond .ne 7, 3) := by decide +kernel
theorem dX6_areSumsSame_18 : decode cX6_areSumsSame 18 = .ok (.iconst 1, 1) := by decide +kernel
theorem dX6_areSumsSame_19 : decode cX6_areSumsSame 19 = .ok (.goto 4, 3) := by decide +kernel
theorem dX6_areSumsSame_22 : decode cX6_areSumsSame 22 = .ok (.iconst 0, 1) := by decide +kernel
theorem dX6_areSumsSame_23 : decode cX6_areSumsSame 23 = .ok (.ireturn, 1) := by decide +kernel
end
section
theorem dX7_init_0 : decode cX7_init 0 = .ok (.aload_n 0, 1) := by decide +kernel
theorem dX7_init_1 : decode cX7_init 1 = .ok (.invokespecial 1, 3) := by decide +kernel
theorem dX7_init_4 : decode cX7_init 4 = .ok (.aload_n 0, 1) := by decide +kernel
theorem dX7_init_5 : decode cX7_init 5 = .ok (.bipush 6, 2) := by decide +kernel
theorem dX7_init_7 : decode cX7_init 7 = .ok (.newarray .char, 2) := by decide +kernel
theorem dX7_init_9 : decode cX7_init 9 = .ok (.putfield 7, 3) := by decide +kernel
theorem dX7_init_12 : decode cX7_init 12 = .ok (.aload_n 0, 1) := by decide +kernel
theorem dX7_init_13 : decode cX7_init 13 = .ok (.bipush 40, 2) := by decide +kernel
theorem dX7_init_15 : decode cX7_init 15 = .ok (.newarray .char, 2) := by decide +kernel
theorem dX7_init_17 : decode cX7_init 17 = .ok (.putfield 13, 3) := by decide +kernel
theorem dX7_init_20 : decode cX7_init 20 = .ok (.aload_n 0, 1) := by decide +kernel
theorem dX7_init_21 : decode cX7_init 21 = .ok (.bipush 6, 2) := by decide +kernel
theorem dX7_init_23 : decode cX7_init 23 = .ok (.newarray .int, 2) := by decide +kernel
theorem dX7_init_25 : decode cX7_init 25 = .ok (.putfield 16, 3) := by decide +kernel
theorem dX7_init_28 : decode cX7_init 28 = .ok (.aload_n 0, 1) := by decide +kernel
theorem dX7_init_29 : decode cX7_init 29 = .ok (.bipush 40, 2) := by decide +kernel
theorem dX7_init_31 : decode cX7_init 31 = .ok (.newarray .int, 2) := by decide +kernel
theorem dX7_init_33 : decode cX7_init 33 = .ok (.putfield 20, 3) := by decide +kernel
theorem dX7_init_36 : decode cX7_init 36 = .ok (.aload_n 0, 1) := by decide +kernel
theorem dX7_init_37 : decode cX7_init 37 = .ok (.bipush 40, 2) := by decide +kernel
theorem dX7_init_39 : decode cX7_init 39 = .ok (.newarray .int, 2) := by decide +kernel
theorem dX7_init_41 : decode cX7_init 41 = .ok (.putfield 23, 3) := by decide +kernel
theorem dX7_init_44 : decode cX7_init 44 = .ok (.aload_n 0, 1) := by decide +kernel
theorem dX7_init_45 : decode cX7_init 45 = .ok (.bipush 40, 2) := by decide +kernel
theorem dX7_init_47 : decode cX7_init 47 = .ok (.newarray .int, 2) := by decide +kernel
theorem dX7_init_49 : decode cX7_init 49 = .ok (.putfield 26, 3) := by decide +kernel
theorem dX7_init_52 : decode cX7_init 52 = .ok (.aload_n 0, 1) := by decide +kernel
theorem dX7_init_53 : decode cX7_init 53 = .ok (.bipush 40, 2) := by decide +kernel
theorem dX7_init_55 : decode cX7_init 55 = .ok (.newarray .int, 2) := by decide +kernel
theorem dX7_init_57 : decode cX7_init 57 = .ok (.putfield 29, 3) := by decide +kernel
theorem dX7_init_60 : decode cX7_init 60 = .ok (.aload_n 0, 1) := by decide +kernel
theorem dX7_init_61 : decode cX7_init 61 = .ok (.bipush 40, 2) := by decide +kernel
theorem dX7_init_63 : decode cX7_init 63 = .ok (.newarray .int, 2) := by decide +kernel
theorem dX7_init_65 : decode cX7_init 65 = .ok (.putfield 32, 3) := by decide +kernel
theorem dX7_init_68 : decode cX7_init 68 = .ok (.aload_n 0, 1) := by decide +kernel
theorem dX7_init_69 : decode cX7_init 69 = .ok (.bipush 40, 2) := by decide +kernel
theorem dX7_init_71 : decode cX7_init 71 = .ok (.newarray .boolean, 2) := by decide +kernel
theorem dX7_init_73 : decode cX7_init 73 = .ok (.putfield 35, 3) := by decide +kernel
theorem dX7_init_76 : decode cX7_init 76 = .ok (.aload_n 0, 1) := by decide +kernel
theorem dX7_init_77 : decode cX7_init 77 = .ok (.bipush 40, 2) := by decide +kernel
theorem dX7_init_79 : decode cX7_init 79 = .ok (.newarray .boolean, 2) := by decide +kernel
theorem dX7_init_81 : decode cX7_init 81 = .ok (.putfield 39, 3) := by decide +kernel
theorem dX7_init_84 : decode cX7_init 84 = .ok (.aload_n 0, 1) := by decide +kernel
theorem dX7_init_85 : decode cX7_init 85 = .ok (.bipush 120, 2) := by decide +kernel
theorem dX7_init_87 : decode cX7_init 87 = .ok (.newarray .int, 2) := by decide +kernel
theorem dX7_init_89 : decode cX7_init 89 = .ok (.putfield 42, 3) := by decide +kernel
theorem dX7_init_92 : decode cX7_init 92 = .ok (.aload_n 0, 1) := by decide +kernel
theorem dX7_init_93 : decode cX7_init 93 = .ok (.bipush 120, 2) := by decide +kernel
theorem dX7_init_95 : decode cX7_init 95 = .ok (.newarray .int, 2) := by decide +kernel
theorem dX7_init_97 : decode cX7_init 97 = .ok (.putfield 45, 3) := by decide +kernel
theorem dX7_init_100 : decode cX7_init 100 = .ok (.aload_n 0, 1) := by decide +kernel
theorem dX7_init_101 : decode cX7_init 101 = .ok (.bipush 120, 2) := by decide +kernel
theorem dX7_init_103 : decode cX7_init 103 = .ok (.newarray .int, 2) := by decide +kernel
theorem dX7_init_105 : decode cX7_init 105 = .ok (.putfield 48, 3) := by decide +kernel
theorem dX7_init_108 : decode cX7_init 108 = .ok (.aload_n 0, 1) := by decide +kernel
theorem dX7_init_109 : decode cX7_init 109 = .ok (.bipush 8, 2) := by decide +kernel
theorem dX7_init_111 : decode cX7_init 111 = .ok (.newarray .int, 2) := by decide +kernel
theorem dX7_init_113 : decode cX7_init 113 = .ok (.putfield 51, 3) := by decide +kernel
theorem dX7_init_116 : decode cX7_init 116 = .ok (.aload_n 0, 1) := by decide +kernel
theorem dX7_init_117 : decode cX7_init 117 = .ok (.bipush 8, 2) := by decide +kernel
theorem dX7_init_119 : decode cX7_init 119 = .ok (.newarray .int, 2) := by decide +kernel
theorem dX7_init_121 : decode cX7_init 121 = .ok (.putfield 54, 3) := by decide +kernel
theorem dX7_init_124 : decode cX7_init 124 = .ok (.aload_n 0, 1) := by decide +kernel
theorem dX7_init_125 : decode cX7_init 125 = .ok (.sipush 320, 3) := by decide +kernel
theorem dX7_init_128 : decode cX7_init 128 = .ok (.newarray .int, 2) := by decide +kernel
theorem dX7_init_130 : decode cX7_init 130 = .ok (.putfield 57, 3) := by decide +kernel
theorem dX7_init_133 : decode cX7_init 133 = .ok (.aload_n 0, 1) := by decide +kernel
theorem dX7_init_134 : decode cX7_init 134 = .ok (.sipush 320, 3) := by decide +kernel
theorem dX7_init_137 : decode cX7_init 137 = .ok (.newarray .int, 2) := by decide +kernel
theorem dX7_init_139 : decode cX7_init 139 = .ok (.putfield 60, 3) := by decide +kernel
theorem dX7_init_142 : decode cX7_init 142 = .ok (.aload_n 0, 1) := by decide +kernel
theorem dX7_init_143 : decode cX7_init 143 = .ok (.bipush 120, 2) := by decide +kernel
theorem dX7_init_145 : decode cX7_init 145 = .ok (.newarray .boolean, 2) := by decide +kernel
theorem dX7_init_147 : decode cX7_init 147 = .ok (.putfield 63, 3) := by decide +kernel
theorem dX7_init_150 : decode cX7_init 150 = .ok (.aload_n 0, 1) := by decide +kernel
theorem dX7_init_151 : decode cX7_init 151 = .ok (.sipush 320, 3) := by decide +kernel
theorem dX7_init_154 : decode cX7_init 154 = .ok (.newarray .boolean, 2) := by decide +kernel
theorem dX7_init_156 : decode cX7_init 156 = .ok (.putfield 66, 3) := by decide +kernel
theorem dX7_init_159 : decode cX7_init 159 = .ok (.aload_n 0, 1) := by decide +kernel
theorem dX7_init_160 : decode cX7_init 160 = .ok (.iconst 0, 1) := by decide +kernel
theorem dX7_init_161 : decode cX7_init 161 = .ok (.putfield 69, 3) := by decide +kernel
theorem dX7_init_164 : decode cX7_init 164 = .ok (.aload_n 0, 1) := by decide +kernel
theorem dX7_init_165 : decode cX7_init 165 = .ok (.iconst 0, 1) := by decide +kernel
theorem dX7_init_166 : decode cX7_init 166 = .ok (.putfield 73, 3) := by decide +kernel
theorem dX7_init_169 : decode cX7_init 169 = .ok (.aload_n 0, 1) := by decide +kernel
theorem dX7_init_170 : decode cX7_init 170 = .ok (.iconst 0, 1) := by decide +kernel
theorem dX7_init_171 : decode cX7_init 171 = .ok (.putfield 76, 3) := by decide +kernel
theorem dX7_init_174 : decode cX7_init 174 = .ok (.aload_n 0, 1) := by decide +kernel
theorem dX7_init_175 : decode cX7_init 175 = .ok (.iconst 0, 1) := by decide +kernel
theorem dX7_init_176 : decode cX7_init 176 = .ok (.putfield 79, 3) := by decide +kernel
theorem dX7_init_179 : decode cX7_init 179 = .ok (.aload_n 0, 1) := by decide +kernel
theorem dX7_init_180 : decode cX7_init 180 = .ok (.iconst 0, 1) := by decide +kernel
theorem dX7_init_181 : decode cX7_init 181 = .ok (.putfield 82, 3) := by decide +kernel
theorem dX7_init_184 : decode cX7_init 184 = .ok (.aload_n 0, 1) := by decide +kernel
theorem dX7_init_185 : decode cX7_init 185 = .ok (.iconst 0, 1) := by decide +kernel
theorem dX7_init_186 : decode cX7_init 186 = .ok (.putfield 85, 3) := by decide +kernel
theorem dX7_init_189 : decode cX7_init 189 = .ok (.aload_n 0, 1) := by decide +kernel
theorem dX7_init_190 : decode cX7_init 190 = .ok (.iconst 0, 1) := by decide +kernel
theorem dX7_init_191 : decode cX7_init 191 = .ok (.putfield 88, 3) := by decide +kernel
theorem dX7_init_194 : decode cX7_init 194 = .ok (.aload_n 0, 1) := by decide +kernel
theorem dX7_init_195 : decode cX7_init 195 = .ok (.iconst 0, 1) := by decide +kernel
theorem dX7_init_196 : decode cX7_init 196 = .ok (.putfield 91, 3) := by decide +kernel
theorem dX7_init_199 : decode cX7_init 199 = .ok (.aload_n 0, 1) := by decide +kernel
theorem dX7_init_200 : decode cX7_init 200 = .ok (.iconst 0, 1) := by decide +kernel
theorem dX7_init_201 : decode cX7_init 201 = .ok (.putfield 94, 3) := by decide +kernel
theorem dX7_init_204 : decode cX7_init 204 = .ok (.aload_n 0, 1) := by decide +kernel
theorem dX7_init_205 : decode cX7_init 205 = .ok (.iconst 0, 1) := by decide +kernel
theorem dX7_init_206 : decode cX7_init 206 = .ok (.putfield 97, 3) := by decide +kernel
theorem dX7_init_209 : decode cX7_init 209 = .ok (.aload_n 0, 1) := by decide +kernel
theorem dX7_init_210 : decode cX7_init 210 = .ok (.iconst 0, 1) := by decide +kernel
theorem dX7_init_211 : decode cX7_init 211 = .ok (.putfield 100, 3) := by decide +kernel
theorem dX7_init_214 : decode cX7_init 214 = .ok (.aload_n 0, 1) := by decide +kernel
theorem dX7_init_215 : decode cX7_init 215 = .ok (.iconst 0, 1) := by decide +kernel
theorem dX7_init_216 : decode cX7_init 216 = .ok (.putfield 103, 3) := by decide +kernel
theorem dX7_init_219 : decode cX7_init 219 = .ok (.aload_n 0, 1) := by decide +kernel
theorem dX7_init_220 : decode cX7_init 220 = .ok (.iconst 0, 1) := by decide +kernel
theorem dX7_init_221 : decode cX7_init 221 = .ok (.putfield 106, 3) := by decide +kernel
theorem dX7_init_224 : decode cX7_init 224 = .ok (.aload_n 0, 1) := by decide +kernel
theorem dX7_init_225 : decode cX7_init 225 = .ok (.bipush 105, 2) := by decide +kernel
theorem dX7_init_227 : decode cX7_init 227 = .ok (.putfield 109, 3) := by decide +kernel
theorem dX7_init_230 : decode cX7_init 230 = .ok (.iconst 0, 1) := by decide +kernel
theorem dX7_init_231 : decode cX7_init 231 = .ok (.istore_n 1, 1) := by decide +kernel
theorem dX7_init_232 : decode cX7_init 232 = .ok (.iload_n 1, 1) := by decide +kernel
theorem dX7_init_233 : decode cX7_init 233 = .ok (.bipush 40, 2) := by decide +kernel
theorem dX7_init_235 : decode cX7_init 235 = .ok (.if_icmp .ge 17, 3) := by decide +kernel
theorem dX7_init_238 : decode cX7_init 238 = .ok (.aload_n 0, 1) := by decide +kernel
theorem dX7_init_239 : decode cX7_init 239 = .ok (.getfield 13, 3) := by decide +kernel
theorem dX7_init_242 : decode cX7_init 242 = .ok (.iload_n 1, 1) := by decide +kernel
theorem dX7_init_243 : decode cX7_init 243 = .ok (.bipush 45, 2) := by decide +kernel
theorem dX7_init_245 : decode cX7_init 245 = .ok (.castore, 1) := by decide +kernel
theorem dX7_init_246 : decode cX7_init 246 = .ok (.iinc 1 1, 3) := by decide +kernel
theorem dX7_init_249 : decode cX7_init 249 = .ok (.goto (-17), 3) := by decide +kernel
theorem dX7_init_252 : decode cX7_init 252 = .ok (.iconst 0, 1) := by decide +kernel
theorem dX7_init_253 : decode cX7_init 253 = .ok (.istore_n 1, 1) := by decide +kernel
theorem dX7_init_254 : decode cX7_init 254 = .ok (.iload_n 1, 1) := by decide +kernel
theorem dX7_init_255 : decode cX7_init 255 = .ok (.bipush 8, 2) := by decide +kernel
theorem dX7_init_257 : decode cX7_init 257 = .ok (.if_icmp .ge 16, 3) := by decide +kernel
theorem dX7_init_260 : decode cX7_init 260 = .ok (.aload_n 0, 1) := by decide +kernel
theorem dX7_init_261 : decode cX7_init 261 = .ok (.getfield 51, 3) := by decide +kernel
theorem dX7_init_264 : decode cX7_init 264 = .ok (.iload_n 1, 1) := by decide +kernel
theorem dX7_init_265 : decode cX7_init 265 = .ok (.iconst (-1), 1) := by decide +kernel
theorem dX7_init_266 : decode cX7_init 266 = .ok (.iastore, 1) := by decide +kernel
theorem dX7_init_267 : decode cX7_init 267 = .ok (.iinc 1 1, 3) := by decide +kernel
theorem dX7_init_270 : decode cX7_init 270 = .ok (.goto (-16), 3) := by decide +kernel
theorem dX7_init_273 : decode cX7_init 273 = .ok (.return_, 1) := by decide +kernel
theorem dX7_thrown_0 : decode cX7_thrown 0 = .ok (.aload_n 0, 1) := by decide +kernel
theorem dX7_thrown_1 : decode cX7_thrown 1 = .ok (.getfield 69, 3) := by decide +kernel
theorem dX7_thrown_4 : decode cX7_thrown 4 = .ok (.ireturn, 1) := by decide +kernel
theorem dX7_in_0 : decode cX7_in 0 = .ok (.iload_n 0, 1) := by decide +kernel
theorem dX7_in_1 : decode cX7_in 1 = .ok (.iload_n 1, 1) := by decide +kernel
theorem dX7_in_2 : decode cX7_in 2 = .ok (.if_icmp .lt 12, 3) := by decide +kernel
theorem dX7_in_5 : decode cX7_in 5 = .ok (.iload_n 0, 1) := by decide +kernel
theorem dX7_in_6 : decode cX7_in 6 = .ok (.iload_n 2, 1) := by decide +kernel
theorem dX7_in_7 : decode cX7_in 7 = .ok (.if_icmp .gt 7, 3) := by decide +kernel
theorem dX7_in_10 : decode cX7_in 10 = .ok (.iconst 1, 1) := by decide +kernel
theorem dX7_in_11 : decode cX7_in 11 = .ok (.goto 4, 3) := by decide +kernel
theorem dX7_in_14 : decode cX7_in 14 = .ok (.iconst 0, 1) := by decide +kernel
theorem dX7_in_15 : decode cX7_in 15 = .ok (.ireturn, 1) := by decide +kernel
theorem dX7_plain_0 : decode cX7_plain 0 = .ok (.aload_n 0, 1) := by decide +kernel
theorem dX7_plain_1 : decode cX7_plain 1 = .ok (.iconst 0, 1) := by decide +kernel
theorem dX7_plain_2 : decode cX7_plain 2 = .ok (.putfield 69, 3) := by decide +kernel
theorem dX7_plain_5 : decode cX7_plain 5 = .ok (.iload_n 1, 1) := by decide +kernel
theorem dX7_plain_6 : decode cX7_plain 6 = .ok (.ireturn, 1) := by decide +kernel
theorem dX7_checked_0 : decode cX7_checked 0 = .ok (.aload_n 0, 1) := by decide +kernel
theorem dX7_checked_1 : decode cX7_checked 1 = .ok (.iload_n 1, 1) := by decide +kernel
theorem dX7_checked_2 : decode cX7_checked 2 = .ok (.ifCond .eq 7, 3) := by decide +kernel
theorem dX7_checked_5 : decode cX7_checked 5 = .ok (.iconst 0, 1) := by decide +kernel
theorem dX7_checked_6 : decode cX7_checked 6 = .ok (.goto 4, 3) := by decide +kernel
theorem dX7_checked_9 : decode cX7_checked 9 = .ok (.iconst 1, 1) := by decide +kernel
theorem dX7_checked_10 : decode cX7_checked 10 = .ok (.putfield 69, 3) := by decide +kernel
theorem dX7_checked_13 : decode cX7_checked 13 = .ok (.aload_n 0, 1) := by decide +kernel
theorem dX7_checked_14 : decode cX7_checked 14 = .ok (.getfield 69, 3) := by decide +kernel
theorem dX7_checked_17 : decode cX7_checked 17 = .ok (.ireturn, 1) := by decide +kernel
theorem dX7_isKey_0 : decode cX7_isKey 0 = .ok (.iload_n 0, 1) := by decide +kernel
theorem dX7_isKey_1 : decode cX7_isKey 1 = .ok (.iconst 0, 1) := by decide +kernel
theorem dX7_isKey_2 : decode cX7_isKey 2 = .ok (.bipush 39, 2) := by decide +kernel
theorem dX7_isKey_4 : decode cX7_isKey 4 = .ok (.invokestatic 113, 3) := by decide +kernel
theorem dX7_isKey_7 : decode cX7_isKey 7 = .ok (.ireturn, 1) := by decide +kernel
theorem dX7_isByTarget_0 : decode cX7_isByTarget 0 = .ok (.aload_n 0, 1) := by decide +kernel
theorem dX7_isByTarget_1 : decode cX7_isByTarget 1 = .ok (.getfield 109, 3) := by decide +kernel
theorem dX7_isByTarget_4 : decode cX7_isByTarget 4 = .ok (.bipush 116, 2) := by decide +kernel
theorem dX7_isByTarget_6 : decode cX7_isByTarget 6 = .ok (.if_icmp .eq 12, 3) := by decide +kernel
theorem dX7_isByTarget_9 : decode cX7_isByTarget 9 = .ok (.aload_n 0, 1) := by decide +kernel
theorem dX7_isByTarget_10 : decode cX7_isByTarget 10 = .ok (.getfield 109, 3) := by decide +kernel
theorem dX7_isByTarget_13 : decode cX7_isByTarget 13 = .ok (.bipush 100, 2) := by decide +kernel
theorem dX7_isByTarget_15 : decode cX7_isByTarget 15 = .ok (.if_icmp .ne 7, 3) := by decide +kernel
theorem dX7_isByTarget_18 : decode cX7_isByTarget 18 = .ok (.iconst 1, 1) := by decide +kernel
theorem dX7_isByTarget_19 : decode cX7_isByTarget 19 = .ok (.goto 4, 3) := by decide +kernel
theorem dX7_isByTarget_22 : decode cX7_isByTarget 22 = .ok (.iconst 0, 1) := by decide +kernel
theorem dX7_isByTarget_23 : decode cX7_isByTarget 23 = .ok (.ireturn, 1) := by decide +kernel
theorem dX7_areWithin_0 : decode cX7_areWithin 0 = .ok (.aload_n 0, 1) := by decide +kernel
theorem dX7_areWithin_1 : decode cX7_areWithin 1 = .ok (.getfield 103, 3) := by decide +kernel
theorem dX7_areWithin_4 : decode cX7_areWithin 4 = .ok (.iload_n 1, 1) := by decide +kernel
theorem dX7_areWithin_5 : decode cX7_areWithin 5 = .ok (.ineg, 1) := by decide +kernel
theorem dX7_areWithin_6 : decode cX7_areWithin 6 = .ok (.iload_n 1, 1) := by decide +kernel
theorem dX7_areWithin_7 : decode cX7_areWithin 7 = .ok (.invokestatic 113, 3) := by decide +kernel
theorem dX7_areWithin_10 : decode cX7_areWithin 10 = .ok (.ifCond .eq 20, 3) := by decide +kernel
theorem dX7_areWithin_13 : decode cX7_areWithin 13 = .ok (.aload_n 0, 1) := by decide +kernel
theorem dX7_areWithin_14 : decode cX7_areWithin 14 = .ok (.getfield 106, 3) := by decide +kernel
theorem dX7_areWithin_17 : decode cX7_areWithin 17 = .ok (.iload_n 1, 1) := by decide +kernel
theorem dX7_areWithin_18 : decode cX7_areWithin 18 = .ok (.ineg, 1) := by decide +kernel
theorem dX7_areWithin_19 : decode cX7_areWithin 19 = .ok (.iload_n 1, 1) := by decide +kernel
theorem dX7_areWithin_20 : decode cX7_areWithin 20 = .ok (.invokestatic 113, 3) := by decide +kernel
theorem dX7_areWithin_23 : decode cX7_areWithin 23 = .ok (.ifCond .eq 7, 3) := by decide +kernel
theorem dX7_areWithin_26 : decode cX7_areWithin 26 = .ok (.iconst 1, 1) := by decide +kernel
theorem dX7_areWithin_27 : decode cX7_areWithin 27 = .ok (.goto 4, 3) := by decide +kernel
theorem dX7_areWithin_30 : decode cX7_areWithin 30 = .ok (.iconst 0, 1) := by decide +kernel
theorem dX7_areWithin_31 : decode cX7_areWithin 31 = .ok (.ireturn, 1) := by decide +kernel
theorem dX7_steps_0 : decode cX7_steps 0 = .ok (.aload_n 0, 1) := by decide +kernel
theorem dX7_steps_1 : decode cX7_steps 1 = .ok (.getfield 7, 3) := by decide +kernel
theorem dX7_steps_4 : decode cX7_steps 4 = .ok (.iload_n 1, 1) := by decide +kernel
theorem dX7_steps_5 : decode cX7_steps 5 = .ok (.caload, 1) := by decide +kernel
theorem dX7_steps_6 : decode cX7_steps 6 = .ok (.bipush 112, 2) := by decide +kernel
theorem dX7_steps_8 : decode cX7_steps 8 = .ok (.if_icmp .ne 18, 3) := by decide +kernel
theorem dX7_steps_11 : decode cX7_steps 11 = .ok (.aload_n 0, 1) := by decide +kernel
theorem dX7_steps_12 : decode cX7_steps 12 = .ok (.dup, 1) := by decide +kernel
theorem dX7_steps_13 : decode cX7_steps 13 = .ok (.getfield 103, 3) := by decide +kernel
theorem dX7_steps_16 : decode cX7_steps 16 = .ok (.aload_n 0, 1) := by decide +kernel
theorem dX7_steps_17 : decode cX7_steps 17 = .ok (.getfield 16, 3) := by decide +kernel
theorem dX7_steps_20 : decode cX7_steps 20 = .ok (.iload_n 1, 1) := by decide +kernel
theorem dX7_steps_21 : decode cX7_steps 21 = .ok (.iaload, 1) := by decide +kernel
theorem dX7_steps_22 : decode cX7_steps 22 = .ok (.iadd, 1) := by decide +kernel
theorem dX7_steps_23 : decode cX7_steps 23 = .ok (.putfield 103, 3) := by decide +kernel
theorem dX7_steps_26 : decode cX7_steps 26 = .ok (.aload_n 0, 1) := by decide +kernel
theorem dX7_steps_27 : decode cX7_steps 27 = .ok (.getfield 7, 3) := by decide +kernel
theorem dX7_steps_30 : decode cX7_steps 30 = .ok (.iload_n 1, 1) := by decide +kernel
theorem dX7_steps_31 : decode cX7_steps 31 = .ok (.caload, 1) := by decide +kernel
theorem dX7_steps_32 : decode cX7_steps 32 = .ok (.bipush 109, 2) := by decide +kernel
theorem dX7_steps_34 : decode cX7_steps 34 = .ok (.if_icmp .ne 18, 3) := by decide +kernel
theorem dX7_steps_37 : decode cX7_steps 37 = .ok (.aload_n 0, 1) := by decide +kernel
theorem dX7_steps_38 : decode cX7_steps 38 = .ok (.dup, 1) := by decide +kernel
theorem dX7_steps_39 : decode cX7_steps 39 = .ok (.getfield 103, 3) := by decide +kernel
theorem dX7_steps_42 : decode cX7_steps 42 = .ok (.aload_n 0, 1) := by decide +kernel
theorem dX7_steps_43 : decode cX7_steps 43 = .ok (.getfield 16, 3) := by decide +kernel
theorem dX7_steps_46 : decode cX7_steps 46 = .ok (.iload_n 1, 1) := by decide +kernel
theorem dX7_steps_47 : decode cX7_steps 47 = .ok (.iaload, 1) := by decide +kernel
theorem dX7_steps_48 : decode cX7_steps 48 = .ok (.imul, 1) := by decide +kernel
theorem dX7_steps_49 : decode cX7_steps 49 = .ok (.putfield 103, 3) := by decide +kernel
theorem dX7_steps_52 : decode cX7_steps 52 = .ok (.aload_n 0, 1) := by decide +kernel
theorem dX7_steps_53 : decode cX7_steps 53 = .ok (.getfield 7, 3) := by decide +kernel
theorem dX7_steps_56 : decode cX7_steps 56 = .ok (.iload_n 1, 1) := by decide +kernel
theorem dX7_steps_57 : decode cX7_steps 57 = .ok (.caload, 1) := by decide +kernel
theorem dX7_steps_58 : decode cX7_steps 58 = .ok (.bipush 110, 2) := by decide +kernel
theorem dX7_steps_60 : decode cX7_steps 60 = .ok (.if_icmp .ne 12, 3) := by decide +kernel
theorem dX7_steps_63 : decode cX7_steps 63 = .ok (.aload_n 0, 1) := by decide +kernel
theorem dX7_steps_64 : decode cX7_steps 64 = .ok (.aload_n 0, 1) := by decide +kernel
theorem dX7_steps_65 : decode cX7_steps 65 = .ok (.getfield 103, 3) := by decide +kernel
theorem dX7_steps_68 : decode cX7_steps 68 = .ok (.ineg, 1) := by decide +kernel
theorem dX7_steps_69 : decode cX7_steps 69 = .ok (.putfield 103, 3) := by decide +kernel
theorem dX7_steps_72 : decode cX7_steps 72 = .ok (.aload_n 0, 1) := by decide +kernel
theorem dX7_steps_73 : decode cX7_steps 73 = .ok (.getfield 7, 3) := by decide +kernel
theorem dX7_steps_76 : decode cX7_steps 76 = .ok (.iload_n 1, 1) := by decide +kernel
theorem dX7_steps_77 : decode cX7_steps 77 = .ok (.caload, 1) := by decide +kernel
theorem dX7_steps_78 : decode cX7_steps 78 = .ok (.bipush 115, 2) := by decide +kernel
theorem dX7_steps_80 : decode cX7_steps 80 = .ok (.if_icmp .ne 16, 3) := by decide +kernel
theorem dX7_steps_83 : decode cX7_steps 83 = .ok (.aload_n 0, 1) := by decide +kernel
theorem dX7_steps_84 : decode cX7_steps 84 = .ok (.dup, 1) := by decide +kernel
theorem dX7_steps_85 : decode cX7_steps 85 = .ok (.getfield 106, 3) := by decide +kernel
theorem dX7_steps_88 : decode cX7_steps 88 = .ok (.aload_n 0, 1) := by decide +kernel
theorem dX7_steps_89 : decode cX7_steps 89 = .ok (.getfield 103, 3) := by decide +kernel
theorem dX7_steps_92 : decode cX7_steps 92 = .ok (.iadd, 1) := by decide +kernel
theorem dX7_steps_93 : decode cX7_steps 93 = .ok (.putfield 106, 3) := by decide +kernel
theorem dX7_steps_96 : decode cX7_steps 96 = .ok (.aload_n 0, 1) := by decide +kernel
theorem dX7_steps_97 : decode cX7_steps 97 = .ok (.getfield 7, 3) := by decide +kernel
theorem dX7_steps_100 : decode cX7_steps 100 = .ok (.iload_n 1, 1) := by decide +kernel
theorem dX7_steps_101 : decode cX7_steps 101 = .ok (.caload, 1) := by decide +kernel
theorem dX7_steps_102 : decode cX7_steps 102 = .ok (.bipush 120, 2) := by decide +kernel
theorem dX7_steps_104 : decode cX7_steps 104 = .ok (.if_icmp .ne 7, 3) := by decide +kernel
theorem dX7_steps_107 : decode cX7_steps 107 = .ok (.aload_n 0, 1) := by decide +kernel
theorem dX7_steps_108 : decode cX7_steps 108 = .ok (.invokevirtual 117, 3) := by decide +kernel
theorem dX7_steps_111 : decode cX7_steps 111 = .ok (.return_, 1) := by decide +kernel
theorem dX7_exchanges_0 : decode cX7_exchanges 0 = .ok (.aload_n 0, 1) := by decide +kernel
theorem dX7_exchanges_1 : decode cX7_exchanges 1 = .ok (.getfield 103, 3) := by decide +kernel
theorem dX7_exchanges_4 : decode cX7_exchanges 4 = .ok (.istore_n 1, 1) := by decide +kernel
theorem dX7_exchanges_5 : decode cX7_exchanges 5 = .ok (.aload_n 0, 1) := by decide +kernel
theorem dX7_exchanges_6 : decode cX7_exchanges 6 = .ok (.aload_n 0, 1) := by decide +kernel
theorem dX7_exchanges_7 : decode cX7_exchanges 7 = .ok (.getfield 106, 3) := by decide +kernel
theorem dX7_exchanges_10 : decode cX7_exchanges 10 = .ok (.putfield 103, 3) := by decide +kernel
theorem dX7_exchanges_13 : decode cX7_exchanges 13 = .ok (.aload_n 0, 1) := by decide +kernel
theorem dX7_exchanges_14 : decode cX7_exchanges 14 = .ok (.iload_n 1, 1) := by decide +kernel
theorem dX7_exchanges_15 : decode cX7_exchanges 15 = .ok (.putfield 106, 3) := by decide +kernel
theorem dX7_exchanges_18 : decode cX7_exchanges 18 = .ok (.return_, 1) := by decide +kernel
theorem dX7_turns_0 : decode cX7_turns 0 = .ok (.aload_n 0, 1) := by decide +kernel
theorem dX7_turns_1 : decode cX7_turns 1 = .ok (.iload_n 1, 1) := by decide +kernel
theorem dX7_turns_2 : decode cX7_turns 2 = .ok (.putfield 103, 3) := by decide +kernel
theorem dX7_turns_5 : decode cX7_turns 5 = .ok (.aload_n 0, 1) := by decide +kernel
theorem dX7_turns_6 : decode cX7_turns 6 = .ok (.iload_n 2, 1) := by decide +kernel
theorem dX7_turns_7 : decode cX7_turns 7 = .ok (.putfield 106, 3) := by decide +kernel
theorem dX7_turns_10 : decode cX7_turns 10 = .ok (.iconst 0, 1) := by decide +kernel
theorem dX7_turns_11 : decode cX7_turns 11 = .ok (.istore_n 3, 1) := by decide +kernel
theorem dX7_turns_12 : decode cX7_turns 12 = .ok (.iload_n 3, 1) := by decide +kernel
theorem dX7_turns_13 : decode cX7_turns 13 = .ok (.aload_n 0, 1) := by decide +kernel
theorem dX7_turns_14 : decode cX7_turns 14 = .ok (.getfield 73, 3) := by decide +kernel
theorem dX7_turns_17 : decode cX7_turns 17 = .ok (.if_icmp .ge 25, 3) := by decide +kernel
theorem dX7_turns_20 : decode cX7_turns 20 = .ok (.aload_n 0, 1) := by decide +kernel
theorem dX7_turns_21 : decode cX7_turns 21 = .ok (.iload_n 3, 1) := by decide +kernel
theorem dX7_turns_22 : decode cX7_turns 22 = .ok (.invokevirtual 120, 3) := by decide +kernel
theorem dX7_turns_25 : decode cX7_turns 25 = .ok (.aload_n 0, 1) := by decide +kernel
theorem dX7_turns_26 : decode cX7_turns 26 = .ok (.ldc 123, 2) := by decide +kernel
theorem dX7_turns_28 : decode cX7_turns 28 = .ok (.invokevirtual 124, 3) := by decide +kernel
theorem dX7_turns_31 : decode cX7_turns 31 = .ok (.ifCond .ne 5, 3) := by decide +kernel
theorem dX7_turns_34 : decode cX7_turns 34 = .ok (.iconst 0, 1) := by decide +kernel
theorem dX7_turns_35 : decode cX7_turns 35 = .ok (.ireturn, 1) := by decide +kernel
theorem dX7_turns_36 : decode cX7_turns 36 = .ok (.iinc 3 1, 3) := by decide +kernel
theorem dX7_turns_39 : decode cX7_turns 39 = .ok (.goto (-27), 3) := by decide +kernel
theorem dX7_turns_42 : decode cX7_turns 42 = .ok (.aload_n 0, 1) := by decide +kernel
theorem dX7_turns_43 : decode cX7_turns 43 = .ok (.sipush 999, 3) := by decide +kernel
theorem dX7_turns_46 : decode cX7_turns 46 = .ok (.invokevirtual 124, 3) := by decide +kernel
theorem dX7_turns_49 : decode cX7_turns 49 = .ok (.ireturn, 1) := by decide +kernel
theorem dX7_turnsBack_0 : decode cX7_turnsBack 0 = .ok (.aload_n 0, 1) := by decide +kernel
theorem dX7_turnsBack_1 : decode cX7_turnsBack 1 = .ok (.iload_n 1, 1) := by decide +kernel
theorem dX7_turnsBack_2 : decode cX7_turnsBack 2 = .ok (.putfield 103, 3) := by decide +kernel
theorem dX7_turnsBack_5 : decode cX7_turnsBack 5 = .ok (.aload_n 0, 1) := by decide +kernel
theorem dX7_turnsBack_6 : decode cX7_turnsBack 6 = .ok (.iload_n 2, 1) := by decide +kernel
theorem dX7_turnsBack_7 : decode cX7_turnsBack 7 = .ok (.putfield 106, 3) := by decide +kernel
theorem dX7_turnsBack_10 : decode cX7_turnsBack 10 = .ok (.aload_n 0, 1) := by decide +kernel
theorem dX7_turnsBack_11 : decode cX7_turnsBack 11 = .ok (.getfield 73, 3) := by decide +kernel
theorem dX7_turnsBack_14 : decode cX7_turnsBack 14 = .ok (.iconst 1, 1) := by decide +kernel
theorem dX7_turnsBack_15 : decode cX7_turnsBack 15 = .ok (.isub, 1) := by decide +kernel
theorem dX7_turnsBack_16 : decode cX7_turnsBack 16 = .ok (.istore_n 3, 1) := by decide +kernel
theorem dX7_turnsBack_17 : decode cX7_turnsBack 17 = .ok (.iload_n 3, 1) := by decide +kernel
theorem dX7_turnsBack_18 : decode cX7_turnsBack 18 = .ok (.ifCond .lt 147, 3) := by decide +kernel
theorem dX7_turnsBack_21 : decode cX7_turnsBack 21 = .ok (.aload_n 0, 1) := by decide +kernel
theorem dX7_turnsBack_22 : decode cX7_turnsBack 22 = .ok (.getfield 7, 3) := by decide +kernel
theorem dX7_turnsBack_25 : decode cX7_turnsBack 25 = .ok (.iload_n 3, 1) := by decide +kernel
theorem dX7_turnsBack_26 : decode cX7_turnsBack 26 = .ok (.caload, 1) := by decide +kernel
theorem dX7_turnsBack_27 : decode cX7_turnsBack 27 = .ok (.bipush 109, 2) := by decide +kernel
theorem dX7_turnsBack_29 : decode cX7_turnsBack 29 = .ok (.if_icmp .ne 19, 3) := by decide +kernel
theorem dX7_turnsBack_32 : decode cX7_turnsBack 32 = .ok (.aload_n 0, 1) := by decide +kernel
theorem dX7_turnsBack_33 : decode cX7_turnsBack 33 = .ok (.getfield 103, 3) := by decide +kernel
theorem dX7_turnsBack_36 : decode cX7_turnsBack 36 = .ok (.aload_n 0, 1) := by decide +kernel
theorem dX7_turnsBack_37 : decode cX7_turnsBack 37 = .ok (.getfield 16, 3) := by decide +kernel
theorem dX7_turnsBack_40 : decode cX7_turnsBack 40 = .ok (.iload_n 3, 1) := by decide +kernel
theorem dX7_turnsBack_41 : decode cX7_turnsBack 41 = .ok (.iaload, 1) := by decide +kernel
theorem dX7_turnsBack_42 : decode cX7_turnsBack 42 = .ok (.irem, 1) := by decide +kernel
theorem dX7_turnsBack_43 : decode cX7_turnsBack 43 = .ok (.ifCond .eq 5, 3) := by decide +kernel
theorem dX7_turnsBack_46 : decode cX7_turnsBack 46 = .ok (.iconst 0, 1) := by decide +kernel
theorem dX7_turnsBack_47 : decode cX7_turnsBack 47 = .ok (.ireturn, 1) := by decide +kernel
theorem dX7_turnsBack_48 : decode cX7_turnsBack 48 = .ok (.aload_n 0, 1) := by decide +kernel
theorem dX7_turnsBack_49 : decode cX7_turnsBack 49 = .ok (.getfield 7, 3) := by decide +kernel
theorem dX7_turnsBack_52 : decode cX7_turnsBack 52 = .ok (.iload_n 3, 1) := by decide +kernel
theorem dX7_turnsBack_53 : decode cX7_turnsBack 53 = .ok (.caload, 1) := by decide +kernel
theorem dX7_turnsBack_54 : decode cX7_turnsBack 54 = .ok (.bipush 112, 2) := by decide +kernel
theorem dX7_turnsBack_56 : decode cX7_turnsBack 56 = .ok (.if_icmp .ne 18, 3) := by decide +kernel
theorem dX7_turnsBack_59 : decode cX7_turnsBack 59 = .ok (.aload_n 0, 1) := by decide +kernel
theorem dX7_turnsBack_60 : decode cX7_turnsBack 60 = .ok (.dup, 1) := by decide +kernel
theorem dX7_turnsBack_61 : decode cX7_turnsBack 61 = .ok (.getfield 103, 3) := by decide +kernel
theorem dX7_turnsBack_64 : decode cX7_turnsBack 64 = .ok (.aload_n 0, 1) := by decide +kernel
theorem dX7_turnsBack_65 : decode cX7_turnsBack 65 = .ok (.getfield 16, 3) := by decide +kernel
theorem dX7_turnsBack_68 : decode cX7_turnsBack 68 = .ok (.iload_n 3, 1) := by decide +kernel
theorem dX7_turnsBack_69 : decode cX7_turnsBack 69 = .ok (.iaload, 1) := by decide +kernel
theorem dX7_turnsBack_70 : decode cX7_turnsBack 70 = .ok (.isub, 1) := by decide +kernel
theorem dX7_turnsBack_71 : decode cX7_turnsBack 71 = .ok (.putfield 103, 3) := by decide +kernel
theorem dX7_turnsBack_74 : decode cX7_turnsBack 74 = .ok (.aload_n 0, 1) := by decide +kernel
theorem dX7_turnsBack_75 : decode cX7_turnsBack 75 = .ok (.getfield 7, 3) := by decide +kernel
theorem dX7_turnsBack_78 : decode cX7_turnsBack 78 = .ok (.iload_n 3, 1) := by decide +kernel
theorem dX7_turnsBack_79 : decode cX7_turnsBack 79 = .ok (.caload, 1) := by decide +kernel
theorem dX7_turnsBack_80 : decode cX7_turnsBack 80 = .ok (.bipush 109, 2) := by decide +kernel
theorem dX7_turnsBack_82 : decode cX7_turnsBack 82 = .ok (.if_icmp .ne 18, 3) := by decide +kernel
theorem dX7_turnsBack_85 : decode cX7_turnsBack 85 = .ok (.aload_n 0, 1) := by decide +kernel
theorem dX7_turnsBack_86 : decode cX7_turnsBack 86 = .ok (.dup, 1) := by decide +kernel
theorem dX7_turnsBack_87 : decode cX7_turnsBack 87 = .ok (.getfield 103, 3) := by decide +kernel
theorem dX7_turnsBack_90 : decode cX7_turnsBack 90 = .ok (.aload_n 0, 1) := by decide +kernel
theorem dX7_turnsBack_91 : decode cX7_turnsBack 91 = .ok (.getfield 16, 3) := by decide +kernel
theorem dX7_turnsBack_94 : decode cX7_turnsBack 94 = .ok (.iload_n 3, 1) := by decide +kernel
theorem dX7_turnsBack_95 : decode cX7_turnsBack 95 = .ok (.iaload, 1) := by decide +kernel
theorem dX7_turnsBack_96 : decode cX7_turnsBack 96 = .ok (.idiv, 1) := by decide +kernel
theorem dX7_turnsBack_97 : decode cX7_turnsBack 97 = .ok (.putfield 103, 3) := by decide +kernel
theorem dX7_turnsBack_100 : decode cX7_turnsBack 100 = .ok (.aload_n 0, 1) := by decide +kernel
theorem dX7_turnsBack_101 : decode cX7_turnsBack 101 = .ok (.getfield 7, 3) := by decide +kernel
theorem dX7_turnsBack_104 : decode cX7_turnsBack 104 = .ok (.iload_n 3, 1) := by decide +kernel
theorem dX7_turnsBack_105 : decode cX7_turnsBack 105 = .ok (.caload, 1) := by decide +kernel
theorem dX7_turnsBack_106 : decode cX7_turnsBack 106 = .ok (.bipush 110, 2) := by decide +kernel
theorem dX7_turnsBack_108 : decode cX7_turnsBack 108 = .ok (.if_icmp .ne 12, 3) := by decide +kernel
theorem dX7_turnsBack_111 : decode cX7_turnsBack 111 = .ok (.aload_n 0, 1) := by decide +kernel
theorem dX7_turnsBack_112 : decode cX7_turnsBack 112 = .ok (.aload_n 0, 1) := by decide +kernel
theorem dX7_turnsBack_113 : decode cX7_turnsBack 113 = .ok (.getfield 103, 3) := by decide +kernel
theorem dX7_turnsBack_116 : decode cX7_turnsBack 116 = .ok (.ineg, 1) := by decide +kernel
theorem dX7_turnsBack_117 : decode cX7_turnsBack 117 = .ok (.putfield 103, 3) := by decide +kernel
theorem dX7_turnsBack_120 : decode cX7_turnsBack 120 = .ok (.aload_n 0, 1) := by decide +kernel
theorem dX7_turnsBack_121 : decode cX7_turnsBack 121 = .ok (.getfield 7, 3) := by decide +kernel
theorem dX7_turnsBack_124 : decode cX7_turnsBack 124 = .ok (.iload_n 3, 1) := by decide +kernel
theorem dX7_turnsBack_125 : decode cX7_turnsBack 125 = .ok (.caload, 1) := by decide +kernel
theorem dX7_turnsBack_126 : decode cX7_turnsBack 126 = .ok (.bipush 115, 2) := by decide +kernel
theorem dX7_turnsBack_128 : decode cX7_turnsBack 128 = .ok (.if_icmp .ne 16, 3) := by decide +kernel
theorem dX7_turnsBack_131 : decode cX7_turnsBack 131 = .ok (.aload_n 0, 1) := by decide +kernel
theorem dX7_turnsBack_132 : decode cX7_turnsBack 132 = .ok (.dup, 1) := by decide +kernel
theorem dX7_turnsBack_133 : decode cX7_turnsBack 133 = .ok (.getfield 106, 3) := by decide +kernel
theorem dX7_turnsBack_136 : decode cX7_turnsBack 136 = .ok (.aload_n 0, 1) := by decide +kernel
theorem dX7_turnsBack_137 : decode cX7_turnsBack 137 = .ok (.getfield 103, 3) := by decide +kernel
theorem dX7_turnsBack_140 : decode cX7_turnsBack 140 = .ok (.isub, 1) := by decide +kernel
theorem dX7_turnsBack_141 : decode cX7_turnsBack 141 = .ok (.putfield 106, 3) := by decide +kernel
theorem dX7_turnsBack_144 : decode cX7_turnsBack 144 = .ok (.aload_n 0, 1) := by decide +kernel
theorem dX7_turnsBack_145 : decode cX7_turnsBack 145 = .ok (.getfield 7, 3) := by decide +kernel
theorem dX7_turnsBack_148 : decode cX7_turnsBack 148 = .ok (.iload_n 3, 1) := by decide +kernel
theorem dX7_turnsBack_149 : decode cX7_turnsBack 149 = .ok (.caload, 1) := by decide +kernel
theorem dX7_turnsBack_150 : decode cX7_turnsBack 150 = .ok (.bipush 120, 2) := by decide +kernel
theorem dX7_turnsBack_152 : decode cX7_turnsBack 152 = .ok (.if_icmp .ne 7, 3) := by decide +kernel
theorem dX7_turnsBack_155 : decode cX7_turnsBack 155 = .ok (.aload_n 0, 1) := by decide +kernel
theorem dX7_turnsBack_156 : decode cX7_turnsBack 156 = .ok (.invokevirtual 117, 3) := by decide +kernel
theorem dX7_turnsBack_159 : decode cX7_turnsBack 159 = .ok (.iinc 3 (-1), 3) := by decide +kernel
theorem dX7_turnsBack_162 : decode cX7_turnsBack 162 = .ok (.goto (-145), 3) := by decide +kernel
theorem dX7_turnsBack_165 : decode cX7_turnsBack 165 = .ok (.aload_n 0, 1) := by decide +kernel
theorem dX7_turnsBack_166 : decode cX7_turnsBack 166 = .ok (.bipush 99, 2) := by decide +kernel
theorem dX7_turnsBack_168 : decode cX7_turnsBack 168 = .ok (.invokevirtual 124, 3) := by decide +kernel
theorem dX7_turnsBack_171 : decode cX7_turnsBack 171 = .ok (.ireturn, 1) := by decide +kernel
theorem dX7_isKind_0 : decode cX7_isKind 0 = .ok (.iload_n 0, 1) := by decide +kernel
theorem dX7_isKind_1 : decode cX7_isKind 1 = .ok (.bipush 112, 2) := by decide +kernel
theorem dX7_isKind_3 : decode cX7_isKind 3 = .ok (.if_icmp .eq 27, 3) := by decide +kernel
theorem dX7_isKind_6 : decode cX7_isKind 6 = .ok (.iload_n 0, 1) := by decide +kernel
theorem dX7_isKind_7 : decode cX7_isKind 7 = .ok (.bipush 109, 2) := by decide +kernel
theorem dX7_isKind_9 : decode cX7_isKind 9 = .ok (.if_icmp .eq 21, 3) := by decide +kernel
theorem dX7_isKind_12 : decode cX7_isKind 12 = .ok (.iload_n 0, 1) := by decide +kernel
theorem dX7_isKind_13 : decode cX7_isKind 13 = .ok (.bipush 110, 2) := by decide +kernel
theorem dX7_isKind_15 : decode cX7_isKind 15 = .ok (.if_icmp .eq 15, 3) := by decide +kernel
theorem dX7_isKind_18 : decode cX7_isKind 18 = .ok (.iload_n 0, 1) := by decide +kernel
theorem dX7_isKind_19 : decode cX7_isKind 19 = .ok (.bipush 120, 2) := by decide +kernel
theorem dX7_isKind_21 : decode cX7_isKind 21 = .ok (.if_icmp .eq 9, 3) := by decide +kernel
theorem dX7_isKind_24 : decode cX7_isKind 24 = .ok (.iload_n 0, 1) := by decide +kernel
theorem dX7_isKind_25 : decode cX7_isKind 25 = .ok (.bipush 115, 2) := by decide +kernel
theorem dX7_isKind_27 : decode cX7_isKind 27 = .ok (.if_icmp .ne 7, 3) := by decide +kernel
theorem dX7_isKind_30 : decode cX7_isKind 30 = .ok (.iconst 1, 1) := by decide +kernel
theorem dX7_isKind_31 : decode cX7_isKind 31 = .ok (.goto 4, 3) := by decide +kernel
theorem dX7_isKind_34 : decode cX7_isKind 34 = .ok (.iconst 0, 1) := by decide +kernel
theorem dX7_isKind_35 : decode cX7_isKind 35 = .ok (.ireturn, 1) := by decide +kernel
theorem dX7_isNumber_0 : decode cX7_isNumber 0 = .ok (.iload_n 0, 1) := by decide +kernel
theorem dX7_isNumber_1 : decode cX7_isNumber 1 = .ok (.bipush 112, 2) := by decide +kernel
theorem dX7_isNumber_3 : decode cX7_isNumber 3 = .ok (.if_icmp .ne 16, 3) := by decide +kernel
theorem dX7_isNumber_6 : decode cX7_isNumber 6 = .ok (.iload_n 1, 1) := by decide +kernel
theorem dX7_isNumber_7 : decode cX7_isNumber 7 = .ok (.sipush (-999), 3) := by decide +kernel
theorem dX7_isNumber_10 : decode cX7_isNumber 10 = .ok (.sipush 999, 3) := by decide +kernel
theorem dX7_isNumber_13 : decode cX7_isNumber 13 = .ok (.invokestatic 113, 3) := by decide +kernel
theorem dX7_isNumber_16 : decode cX7_isNumber 16 = .ok (.goto 29, 3) := by decide +kernel
theorem dX7_isNumber_19 : decode cX7_isNumber 19 = .ok (.iload_n 0, 1) := by decide +kernel
theorem dX7_isNumber_20 : decode cX7_isNumber 20 = .ok (.bipush 109, 2) := by decide +kernel
theorem dX7_isNumber_22 : decode cX7_isNumber 22 = .ok (.if_icmp .ne 18, 3) := by decide +kernel
theorem dX7_isNumber_25 : decode cX7_isNumber 25 = .ok (.iload_n 1, 1) := by decide +kernel
theorem dX7_isNumber_26 : decode cX7_isNumber 26 = .ok (.bipush (-9), 2) := by decide +kernel
theorem dX7_isNumber_28 : decode cX7_isNumber 28 = .ok (.bipush 9, 2) := by decide +kernel
theorem dX7_isNumber_30 : decode cX7_isNumber 30 = .ok (.invokestatic 113, 3) := by decide +kernel
theorem dX7_isNumber_33 : decode cX7_isNumber 33 = .ok (.ifCond .eq 11, 3) := by decide +kernel
theorem dX7_isNumber_36 : decode cX7_isNumber 36 = .ok (.iload_n 1, 1) := by decide +kernel
theorem dX7_isNumber_37 : decode cX7_isNumber 37 = .ok (.ifCond .eq 7, 3) := by decide +kernel
theorem dX7_isNumber_40 : decode cX7_isNumber 40 = .ok (.iconst 1, 1) := by decide +kernel
theorem dX7_isNumber_41 : decode cX7_isNumber 41 = .ok (.goto 4, 3) := by decide +kernel
theorem dX7_isNumber_44 : decode cX7_isNumber 44 = .ok (.iconst 0, 1) := by decide +kernel
theorem dX7_isNumber_45 : decode cX7_isNumber 45 = .ok (.ireturn, 1) := by decide +kernel
theorem dX7_addStep_0 : decode cX7_addStep 0 = .ok (.aload_n 0, 1) := by decide +kernel
theorem dX7_addStep_1 : decode cX7_addStep 1 = .ok (.iload_n 1, 1) := by decide +kernel
theorem dX7_addStep_2 : decode cX7_addStep 2 = .ok (.invokestatic 128, 3) := by decide +kernel
theorem dX7_addStep_5 : decode cX7_addStep 5 = .ok (.ifCond .eq 11, 3) := by decide +kernel
theorem dX7_addStep_8 : decode cX7_addStep 8 = .ok (.iload_n 1, 1) := by decide +kernel
theorem dX7_addStep_9 : decode cX7_addStep 9 = .ok (.iload_n 2, 1) := by decide +kernel
theorem dX7_addStep_10 : decode cX7_addStep 10 = .ok (.invokestatic 132, 3) := by decide +kernel
theorem dX7_addStep_13 : decode cX7_addStep 13 = .ok (.ifCond .ne 7, 3) := by decide +kernel
theorem dX7_addStep_16 : decode cX7_addStep 16 = .ok (.iconst 1, 1) := by decide +kernel
theorem dX7_addStep_17 : decode cX7_addStep 17 = .ok (.goto 26, 3) := by decide +kernel
theorem dX7_addStep_20 : decode cX7_addStep 20 = .ok (.aload_n 0, 1) := by decide +kernel
theorem dX7_addStep_21 : decode cX7_addStep 21 = .ok (.getfield 109, 3) := by decide +kernel
theorem dX7_addStep_24 : decode cX7_addStep 24 = .ok (.bipush 105, 2) := by decide +kernel
theorem dX7_addStep_26 : decode cX7_addStep 26 = .ok (.if_icmp .ne 12, 3) := by decide +kernel
theorem dX7_addStep_29 : decode cX7_addStep 29 = .ok (.aload_n 0, 1) := by decide +kernel
theorem dX7_addStep_30 : decode cX7_addStep 30 = .ok (.getfield 73, 3) := by decide +kernel
theorem dX7_addStep_33 : decode cX7_addStep 33 = .ok (.bipush 6, 2) := by decide +kernel
theorem dX7_addStep_35 : decode cX7_addStep 35 = .ok (.if_icmp .ne 7, 3) := by decide +kernel
theorem dX7_addStep_38 : decode cX7_addStep 38 = .ok (.iconst 2, 1) := by decide +kernel
theorem dX7_addStep_39 : decode cX7_addStep 39 = .ok (.goto 4, 3) := by decide +kernel
theorem dX7_addStep_42 : decode cX7_addStep 42 = .ok (.iconst 0, 1) := by decide +kernel
theorem dX7_addStep_43 : decode cX7_addStep 43 = .ok (.putfield 69, 3) := by decide +kernel
theorem dX7_addStep_46 : decode cX7_addStep 46 = .ok (.aload_n 0, 1) := by decide +kernel
theorem dX7_addStep_47 : decode cX7_addStep 47 = .ok (.getfield 69, 3) := by decide +kernel
theorem dX7_addStep_50 : decode cX7_addStep 50 = .ok (.ifCond .le 5, 3) := by decide +kernel
theorem dX7_addStep_53 : decode cX7_addStep 53 = .ok (.iconst 0, 1) := by decide +kernel
theorem dX7_addStep_54 : decode cX7_addStep 54 = .ok (.ireturn, 1) := by decide +kernel
theorem dX7_addStep_55 : decode cX7_addStep 55 = .ok (.aload_n 0, 1) := by decide +kernel
theorem dX7_addStep_56 : decode cX7_addStep 56 = .ok (.getfield 7, 3) := by decide +kernel
theorem dX7_addStep_59 : decode cX7_addStep 59 = .ok (.aload_n 0, 1) := by decide +kernel
theorem dX7_addStep_60 : decode cX7_addStep 60 = .ok (.getfield 73, 3) := by decide +kernel
theorem dX7_addStep_63 : decode cX7_addStep 63 = .ok (.iload_n 1, 1) := by decide +kernel
theorem dX7_addStep_64 : decode cX7_addStep 64 = .ok (.castore, 1) := by decide +kernel
theorem dX7_addStep_65 : decode cX7_addStep 65 = .ok (.aload_n 0, 1) := by decide +kernel
theorem dX7_addStep_66 : decode cX7_addStep 66 = .ok (.getfield 16, 3) := by decide +kernel
theorem dX7_addStep_69 : decode cX7_addStep 69 = .ok (.aload_n 0, 1) := by decide +kernel
theorem dX7_addStep_70 : decode cX7_addStep 70 = .ok (.getfield 73, 3) := by decide +kernel
theorem dX7_addStep_73 : decode cX7_addStep 73 = .ok (.iload_n 2, 1) := by decide +kernel
theorem dX7_addStep_74 : decode cX7_addStep 74 = .ok (.iastore, 1) := by decide +kernel
theorem dX7_addStep_75 : decode cX7_addStep 75 = .ok (.aload_n 0, 1) := by decide +kernel
theorem dX7_addStep_76 : decode cX7_addStep 76 = .ok (.dup, 1) := by decide +kernel
theorem dX7_addStep_77 : decode cX7_addStep 77 = .ok (.getfield 73, 3) := by decide +kernel
theorem dX7_addStep_80 : decode cX7_addStep 80 = .ok (.iconst 1, 1) := by decide +kernel
theorem dX7_addStep_81 : decode cX7_addStep 81 = .ok (.iadd, 1) := by decide +kernel
theorem dX7_addStep_82 : decode cX7_addStep 82 = .ok (.putfield 73, 3) := by decide +kernel
theorem dX7_addStep_85 : decode cX7_addStep 85 = .ok (.aload_n 0, 1) := by decide +kernel
theorem dX7_addStep_86 : decode cX7_addStep 86 = .ok (.getfield 73, 3) := by decide +kernel
theorem dX7_addStep_89 : decode cX7_addStep 89 = .ok (.ireturn, 1) := by decide +kernel
theorem dX7_isLater_0 : decode cX7_isLater 0 = .ok (.aload_n 0, 1) := by decide +kernel
theorem dX7_isLater_1 : decode cX7_isLater 1 = .ok (.getfield 13, 3) := by decide +kernel
theorem dX7_isLater_4 : decode cX7_isLater 4 = .ok (.iload_n 1, 1) := by decide +kernel
theorem dX7_isLater_5 : decode cX7_isLater 5 = .ok (.caload, 1) := by decide +kernel
theorem dX7_isLater_6 : decode cX7_isLater 6 = .ok (.bipush 45, 2) := by decide +kernel
theorem dX7_isLater_8 : decode cX7_isLater 8 = .ok (.if_icmp .eq 13, 3) := by decide +kernel
theorem dX7_isLater_11 : decode cX7_isLater 11 = .ok (.aload_n 0, 1) := by decide +kernel
theorem dX7_isLater_12 : decode cX7_isLater 12 = .ok (.getfield 32, 3) := by decide +kernel
theorem dX7_isLater_15 : decode cX7_isLater 15 = .ok (.iload_n 1, 1) := by decide +kernel
theorem dX7_isLater_16 : decode cX7_isLater 16 = .ok (.iaload, 1) := by decide +kernel
theorem dX7_isLater_17 : decode cX7_isLater 17 = .ok (.iload_n 2, 1) := by decide +kernel
theorem dX7_isLater_18 : decode cX7_isLater 18 = .ok (.if_icmp .ge 7, 3) := by decide +kernel
theorem dX7_isLater_21 : decode cX7_isLater 21 = .ok (.iconst 1, 1) := by decide +kernel
theorem dX7_isLater_22 : decode cX7_isLater 22 = .ok (.goto 4, 3) := by decide +kernel
theorem dX7_isLater_25 : decode cX7_isLater 25 = .ok (.iconst 0, 1) := by decide +kernel
theorem dX7_isLater_26 : decode cX7_isLater 26 = .ok (.ireturn, 1) := by decide +kernel
theorem dX7_holds_0 : decode cX7_holds 0 = .ok (.aload_n 0, 1) := by decide +kernel
theorem dX7_holds_1 : decode cX7_holds 1 = .ok (.getfield 13, 3) := by decide +kernel
theorem dX7_holds_4 : decode cX7_holds 4 = .ok (.iload_n 1, 1) := by decide +kernel
theorem dX7_holds_5 : decode cX7_holds 5 = .ok (.iload_n 2, 1) := by decide +kernel
theorem dX7_holds_6 : decode cX7_holds 6 = .ok (.castore, 1) := by decide +kernel
theorem dX7_holds_7 : decode cX7_holds 7 = .ok (.aload_n 0, 1) := by decide +kernel
theorem dX7_holds_8 : decode cX7_holds 8 = .ok (.getfield 32, 3) := by decide +kernel
theorem dX7_holds_11 : decode cX7_holds 11 = .ok (.iload_n 1, 1) := by decide +kernel
theorem dX7_holds_12 : decode cX7_holds 12 = .ok (.iload_n 3, 1) := by decide +kernel
theorem dX7_holds_13 : decode cX7_holds 13 = .ok (.iastore, 1) := by decide +kernel
theorem dX7_holds_14 : decode cX7_holds 14 = .ok (.return_, 1) := by decide +kernel
theorem dX7_puts_0 : decode cX7_puts 0 = .ok (.aload_n 0, 1) := by decide +kernel
theorem dX7_puts_1 : decode cX7_puts 1 = .ok (.iload_n 1, 1) := by decide +kernel
theorem dX7_puts_2 : decode cX7_puts 2 = .ok (.iload 4, 2) := by decide +kernel
theorem dX7_puts_4 : decode cX7_puts 4 = .ok (.invokevirtual 136, 3) := by decide +kernel
theorem dX7_puts_7 : decode cX7_puts 7 = .ok (.ifCond .ne 5, 3) := by decide +kernel
theorem dX7_puts_10 : decode cX7_puts 10 = .ok (.iconst 0, 1) := by decide +kernel
theorem dX7_puts_11 : decode cX7_puts 11 = .ok (.ireturn, 1) := by decide +kernel
theorem dX7_puts_12 : decode cX7_puts 12 = .ok (.aload_n 0, 1) := by decide +kernel
theorem dX7_puts_13 : decode cX7_puts 13 = .ok (.iload_n 2, 1) := by decide +kernel
theorem dX7_puts_14 : decode cX7_puts 14 = .ok (.iload_n 3, 1) := by decide +kernel
theorem dX7_puts_15 : decode cX7_puts 15 = .ok (.invokevirtual 140, 3) := by decide +kernel
theorem dX7_puts_18 : decode cX7_puts 18 = .ok (.istore 5, 2) := by decide +kernel
theorem dX7_puts_20 : decode cX7_puts 20 = .ok (.aload_n 0, 1) := by decide +kernel
theorem dX7_puts_21 : decode cX7_puts 21 = .ok (.iload_n 1, 1) := by decide +kernel
theorem dX7_puts_22 : decode cX7_puts 22 = .ok (.iload 5, 2) := by decide +kernel
theorem dX7_puts_24 : decode cX7_puts 24 = .ok (.ifCond .eq 8, 3) := by decide +kernel
theorem dX7_puts_27 : decode cX7_puts 27 = .ok (.bipush 101, 2) := by decide +kernel
theorem dX7_puts_29 : decode cX7_puts 29 = .ok (.goto 5, 3) := by decide +kernel
theorem dX7_puts_32 : decode cX7_puts 32 = .ok (.bipush 97, 2) := by decide +kernel
theorem dX7_puts_34 : decode cX7_puts 34 = .ok (.iload 4, 2) := by decide +kernel
theorem dX7_puts_36 : decode cX7_puts 36 = .ok (.invokevirtual 143, 3) := by decide +kernel
theorem dX7_puts_39 : decode cX7_puts 39 = .ok (.aload_n 0, 1) := by decide +kernel
theorem dX7_puts_40 : decode cX7_puts 40 = .ok (.getfield 26, 3) := by decide +kernel
theorem dX7_puts_43 : decode cX7_puts 43 = .ok (.iload_n 1, 1) := by decide +kernel
theorem dX7_puts_44 : decode cX7_puts 44 = .ok (.aload_n 0, 1) := by decide +kernel
theorem dX7_puts_45 : decode cX7_puts 45 = .ok (.getfield 103, 3) := by decide +kernel
theorem dX7_puts_48 : decode cX7_puts 48 = .ok (.iastore, 1) := by decide +kernel
theorem dX7_puts_49 : decode cX7_puts 49 = .ok (.aload_n 0, 1) := by decide +kernel
theorem dX7_puts_50 : decode cX7_puts 50 = .ok (.getfield 29, 3) := by decide +kernel
theorem dX7_puts_53 : decode cX7_puts 53 = .ok (.iload_n 1, 1) := by decide +kernel
theorem dX7_puts_54 : decode cX7_puts 54 = .ok (.aload_n 0, 1) := by decide +kernel
theorem dX7_puts_55 : decode cX7_puts 55 = .ok (.getfield 106, 3) := by decide +kernel
theorem dX7_puts_58 : decode cX7_puts 58 = .ok (.iastore, 1) := by decide +kernel
theorem dX7_puts_59 : decode cX7_puts 59 = .ok (.iconst 1, 1) := by decide +kernel
theorem dX7_puts_60 : decode cX7_puts 60 = .ok (.ireturn, 1) := by decide +kernel
theorem dX7_takesAway_0 : decode cX7_takesAway 0 = .ok (.aload_n 0, 1) := by decide +kernel
theorem dX7_takesAway_1 : decode cX7_takesAway 1 = .ok (.iload_n 1, 1) := by decide +kernel
theorem dX7_takesAway_2 : decode cX7_takesAway 2 = .ok (.iload_n 2, 1) := by decide +kernel
theorem dX7_takesAway_3 : decode cX7_takesAway 3 = .ok (.invokevirtual 136, 3) := by decide +kernel
theorem dX7_takesAway_6 : decode cX7_takesAway 6 = .ok (.ifCond .eq 11, 3) := by decide +kernel
theorem dX7_takesAway_9 : decode cX7_takesAway 9 = .ok (.aload_n 0, 1) := by decide +kernel
theorem dX7_takesAway_10 : decode cX7_takesAway 10 = .ok (.iload_n 1, 1) := by decide +kernel
theorem dX7_takesAway_11 : decode cX7_takesAway 11 = .ok (.bipush 116, 2) := by decide +kernel
theorem dX7_takesAway_13 : decode cX7_takesAway 13 = .ok (.iload_n 2, 1) := by decide +kernel
theorem dX7_takesAway_14 : decode cX7_takesAway 14 = .ok (.invokevirtual 143, 3) := by decide +kernel
theorem dX7_takesAway_17 : decode cX7_takesAway 17 = .ok (.return_, 1) := by decide +kernel
theorem dX7_followsOne_0 : decode cX7_followsOne 0 = .ok (.aload_n 0, 1) := by decide +kernel
theorem dX7_followsOne_1 : decode cX7_followsOne 1 = .ok (.getfield 79, 3) := by decide +kernel
theorem dX7_followsOne_4 : decode cX7_followsOne 4 = .ok (.istore_n 1, 1) := by decide +kernel
theorem dX7_followsOne_5 : decode cX7_followsOne 5 = .ok (.aload_n 0, 1) := by decide +kernel
theorem dX7_followsOne_6 : decode cX7_followsOne 6 = .ok (.dup, 1) := by decide +kernel
theorem dX7_followsOne_7 : decode cX7_followsOne 7 = .ok (.getfield 79, 3) := by decide +kernel
theorem dX7_followsOne_10 : decode cX7_followsOne 10 = .ok (.iconst 1, 1) := by decide +kernel
theorem dX7_followsOne_11 : decode cX7_followsOne 11 = .ok (.iadd, 1) := by decide +kernel
theorem dX7_followsOne_12 : decode cX7_followsOne 12 = .ok (.putfield 79, 3) := by decide +kernel
theorem dX7_followsOne_15 : decode cX7_followsOne 15 = .ok (.aload_n 0, 1) := by decide +kernel
theorem dX7_followsOne_16 : decode cX7_followsOne 16 = .ok (.getfield 63, 3) := by decide +kernel
theorem dX7_followsOne_19 : decode cX7_followsOne 19 = .ok (.iload_n 1, 1) := by decide +kernel
theorem dX7_followsOne_20 : decode cX7_followsOne 20 = .ok (.baload, 1) := by decide +kernel
theorem dX7_followsOne_21 : decode cX7_followsOne 21 = .ok (.ifCond .eq 19, 3) := by decide +kernel
theorem dX7_followsOne_24 : decode cX7_followsOne 24 = .ok (.aload_n 0, 1) := by decide +kernel
theorem dX7_followsOne_25 : decode cX7_followsOne 25 = .ok (.aload_n 0, 1) := by decide +kernel
theorem dX7_followsOne_26 : decode cX7_followsOne 26 = .ok (.getfield 42, 3) := by decide +kernel
theorem dX7_followsOne_29 : decode cX7_followsOne 29 = .ok (.iload_n 1, 1) := by decide +kernel
theorem dX7_followsOne_30 : decode cX7_followsOne 30 = .ok (.iaload, 1) := by decide +kernel
theorem dX7_followsOne_31 : decode cX7_followsOne 31 = .ok (.iload_n 1, 1) := by decide +kernel
theorem dX7_followsOne_32 : decode cX7_followsOne 32 = .ok (.iconst 1, 1) := by decide +kernel
theorem dX7_followsOne_33 : decode cX7_followsOne 33 = .ok (.iadd, 1) := by decide +kernel
theorem dX7_followsOne_34 : decode cX7_followsOne 34 = .ok (.invokevirtual 147, 3) := by decide +kernel
theorem dX7_followsOne_37 : decode cX7_followsOne 37 = .ok (.goto 29, 3) := by decide +kernel
theorem dX7_followsOne_40 : decode cX7_followsOne 40 = .ok (.aload_n 0, 1) := by decide +kernel
theorem dX7_followsOne_41 : decode cX7_followsOne 41 = .ok (.aload_n 0, 1) := by decide +kernel
theorem dX7_followsOne_42 : decode cX7_followsOne 42 = .ok (.getfield 42, 3) := by decide +kernel
theorem dX7_followsOne_45 : decode cX7_followsOne 45 = .ok (.iload_n 1, 1) := by decide +kernel
theorem dX7_followsOne_46 : decode cX7_followsOne 46 = .ok (.iaload, 1) := by decide +kernel
theorem dX7_followsOne_47 : decode cX7_followsOne 47 = .ok (.aload_n 0, 1) := by decide +kernel
theorem dX7_followsOne_48 : decode cX7_followsOne 48 = .ok (.getfield 45, 3) := by decide +kernel
theorem dX7_followsOne_51 : decode cX7_followsOne 51 = .ok (.iload_n 1, 1) := by decide +kernel
theorem dX7_followsOne_52 : decode cX7_followsOne 52 = .ok (.iaload, 1) := by decide +kernel
theorem dX7_followsOne_53 : decode cX7_followsOne 53 = .ok (.aload_n 0, 1) := by decide +kernel
theorem dX7_followsOne_54 : decode cX7_followsOne 54 = .ok (.getfield 48, 3) := by decide +kernel
theorem dX7_followsOne_57 : decode cX7_followsOne 57 = .ok (.iload_n 1, 1) := by decide +kernel
theorem dX7_followsOne_58 : decode cX7_followsOne 58 = .ok (.iaload, 1) := by decide +kernel
theorem dX7_followsOne_59 : decode cX7_followsOne 59 = .ok (.iload_n 1, 1) := by decide +kernel
theorem dX7_followsOne_60 : decode cX7_followsOne 60 = .ok (.iconst 1, 1) := by decide +kernel
theorem dX7_followsOne_61 : decode cX7_followsOne 61 = .ok (.iadd, 1) := by decide +kernel
theorem dX7_followsOne_62 : decode cX7_followsOne 62 = .ok (.invokevirtual 151, 3) := by decide +kernel
theorem dX7_followsOne_65 : decode cX7_followsOne 65 = .ok (.pop, 1) := by decide +kernel
theorem dX7_followsOne_66 : decode cX7_followsOne 66 = .ok (.return_, 1) := by decide +kernel
theorem dX7_logs_0 : decode cX7_logs 0 = .ok (.aload_n 0, 1) := by decide +kernel
theorem dX7_logs_1 : decode cX7_logs 1 = .ok (.getfield 109, 3) := by decide +kernel
theorem dX7_logs_4 : decode cX7_logs 4 = .ok (.bipush 105, 2) := by decide +kernel
theorem dX7_logs_6 : decode cX7_logs 6 = .ok (.if_icmp .ne 4, 3) := by decide +kernel
theorem dX7_logs_9 : decode cX7_logs 9 = .ok (.return_, 1) := by decide +kernel
theorem dX7_logs_10 : decode cX7_logs 10 = .ok (.aload_n 0, 1) := by decide +kernel
theorem dX7_logs_11 : decode cX7_logs 11 = .ok (.getfield 42, 3) := by decide +kernel
theorem dX7_logs_14 : decode cX7_logs 14 = .ok (.aload_n 0, 1) := by decide +kernel
theorem dX7_logs_15 : decode cX7_logs 15 = .ok (.getfield 76, 3) := by decide +kernel
theorem dX7_logs_18 : decode cX7_logs 18 = .ok (.iload_n 1, 1) := by decide +kernel
theorem dX7_logs_19 : decode cX7_logs 19 = .ok (.iastore, 1) := by decide +kernel
theorem dX7_logs_20 : decode cX7_logs 20 = .ok (.aload_n 0, 1) := by decide +kernel
theorem dX7_logs_21 : decode cX7_logs 21 = .ok (.getfield 63, 3) := by decide +kernel
theorem dX7_logs_24 : decode cX7_logs 24 = .ok (.aload_n 0, 1) := by decide +kernel
theorem dX7_logs_25 : decode cX7_logs 25 = .ok (.getfield 76, 3) := by decide +kernel
theorem dX7_logs_28 : decode cX7_logs 28 = .ok (.iload_n 2, 1) := by decide +kernel
theorem dX7_logs_29 : decode cX7_logs 29 = .ok (.bastore, 1) := by decide +kernel
theorem dX7_logs_30 : decode cX7_logs 30 = .ok (.aload_n 0, 1) := by decide +kernel
theorem dX7_logs_31 : decode cX7_logs 31 = .ok (.getfield 45, 3) := by decide +kernel
theorem dX7_logs_34 : decode cX7_logs 34 = .ok (.aload_n 0, 1) := by decide +kernel
theorem dX7_logs_35 : decode cX7_logs 35 = .ok (.getfield 76, 3) := by decide +kernel
theorem dX7_logs_38 : decode cX7_logs 38 = .ok (.iload_n 3, 1) := by decide +kernel
theorem dX7_logs_39 : decode cX7_logs 39 = .ok (.iastore, 1) := by decide +kernel
theorem dX7_logs_40 : decode cX7_logs 40 = .ok (.aload_n 0, 1) := by decide +kernel
theorem dX7_logs_41 : decode cX7_logs 41 = .ok (.getfield 48, 3) := by decide +kernel
theorem dX7_logs_44 : decode cX7_logs 44 = .ok (.aload_n 0, 1) := by decide +kernel
theorem dX7_logs_45 : decode cX7_logs 45 = .ok (.getfield 76, 3) := by decide +kernel
theorem dX7_logs_48 : decode cX7_logs 48 = .ok (.iload 4, 2) := by decide +kernel
theorem dX7_logs_50 : decode cX7_logs 50 = .ok (.iastore, 1) := by decide +kernel
theorem dX7_logs_51 : decode cX7_logs 51 = .ok (.aload_n 0, 1) := by decide +kernel
theorem dX7_logs_52 : decode cX7_logs 52 = .ok (.dup, 1) := by decide +kernel
theorem dX7_logs_53 : decode cX7_logs 53 = .ok (.getfield 76, 3) := by decide +kernel
theorem dX7_logs_56 : decode cX7_logs 56 = .ok (.iconst 1, 1) := by decide +kernel
theorem dX7_logs_57 : decode cX7_logs 57 = .ok (.iadd, 1) := by decide +kernel
theorem dX7_logs_58 : decode cX7_logs 58 = .ok (.putfield 76, 3) := by decide +kernel
theorem dX7_logs_61 : decode cX7_logs 61 = .ok (.aload_n 0, 1) := by decide +kernel
theorem dX7_logs_62 : decode cX7_logs 62 = .ok (.getfield 109, 3) := by decide +kernel
theorem dX7_logs_65 : decode cX7_logs 65 = .ok (.bipush 98, 2) := by decide +kernel
theorem dX7_logs_67 : decode cX7_logs 67 = .ok (.if_icmp .ne 7, 3) := by decide +kernel
theorem dX7_logs_70 : decode cX7_logs 70 = .ok (.aload_n 0, 1) := by decide +kernel
theorem dX7_logs_71 : decode cX7_logs 71 = .ok (.invokevirtual 155, 3) := by decide +kernel
theorem dX7_logs_74 : decode cX7_logs 74 = .ok (.return_, 1) := by decide +kernel
theorem dX7_manyRows_0 : decode cX7_manyRows 0 = .ok (.iconst 0, 1) := by decide +kernel
theorem dX7_manyRows_1 : decode cX7_manyRows 1 = .ok (.istore_n 1, 1) := by decide +kernel
theorem dX7_manyRows_2 : decode cX7_manyRows 2 = .ok (.iconst 0, 1) := by decide +kernel
theorem dX7_manyRows_3 : decode cX7_manyRows 3 = .ok (.istore_n 2, 1) := by decide +kernel
theorem dX7_manyRows_4 : decode cX7_manyRows 4 = .ok (.iload_n 2, 1) := by decide +kernel
theorem dX7_manyRows_5 : decode cX7_manyRows 5 = .ok (.bipush 40, 2) := by decide +kernel
theorem dX7_manyRows_7 : decode cX7_manyRows 7 = .ok (.if_icmp .ge 26, 3) := by decide +kernel
theorem dX7_manyRows_10 : decode cX7_manyRows 10 = .ok (.iload_n 1, 1) := by decide +kernel
theorem dX7_manyRows_11 : decode cX7_manyRows 11 = .ok (.aload_n 0, 1) := by decide +kernel
theorem dX7_manyRows_12 : decode cX7_manyRows 12 = .ok (.getfield 35, 3) := by decide +kernel
theorem dX7_manyRows_15 : decode cX7_manyRows 15 = .ok (.iload_n 2, 1) := by decide +kernel
theorem dX7_manyRows_16 : decode cX7_manyRows 16 = .ok (.baload, 1) := by decide +kernel
theorem dX7_manyRows_17 : decode cX7_manyRows 17 = .ok (.ifCond .eq 7, 3) := by decide +kernel
theorem dX7_manyRows_20 : decode cX7_manyRows 20 = .ok (.iconst 1, 1) := by decide +kernel
theorem dX7_manyRows_21 : decode cX7_manyRows 21 = .ok (.goto 4, 3) := by decide +kernel
theorem dX7_manyRows_24 : decode cX7_manyRows 24 = .ok (.iconst 0, 1) := by decide +kernel
theorem dX7_manyRows_25 : decode cX7_manyRows 25 = .ok (.iadd, 1) := by decide +kernel
theorem dX7_manyRows_26 : decode cX7_manyRows 26 = .ok (.istore_n 1, 1) := by decide +kernel
theorem dX7_manyRows_27 : decode cX7_manyRows 27 = .ok (.iinc 2 1, 3) := by decide +kernel
theorem dX7_manyRows_30 : decode cX7_manyRows 30 = .ok (.goto (-26), 3) := by decide +kernel
theorem dX7_manyRows_33 : decode cX7_manyRows 33 = .ok (.iload_n 1, 1) := by decide +kernel
theorem dX7_manyRows_34 : decode cX7_manyRows 34 = .ok (.ireturn, 1) := by decide +kernel
theorem dX7_manyHeld_0 : decode cX7_manyHeld 0 = .ok (.iconst 0, 1) := by decide +kernel
theorem dX7_manyHeld_1 : decode cX7_manyHeld 1 = .ok (.istore_n 2, 1) := by decide +kernel
theorem dX7_manyHeld_2 : decode cX7_manyHeld 2 = .ok (.iconst 0, 1) := by decide +kernel
theorem dX7_manyHeld_3 : decode cX7_manyHeld 3 = .ok (.istore_n 3, 1) := by decide +kernel
theorem dX7_manyHeld_4 : decode cX7_manyHeld 4 = .ok (.iload_n 3, 1) := by decide +kernel
theorem dX7_manyHeld_5 : decode cX7_manyHeld 5 = .ok (.bipush 40, 2) := by decide +kernel
theorem dX7_manyHeld_7 : decode cX7_manyHeld 7 = .ok (.if_icmp .ge 27, 3) := by decide +kernel
theorem dX7_manyHeld_10 : decode cX7_manyHeld 10 = .ok (.iload_n 2, 1) := by decide +kernel
theorem dX7_manyHeld_11 : decode cX7_manyHeld 11 = .ok (.aload_n 0, 1) := by decide +kernel
theorem dX7_manyHeld_12 : decode cX7_manyHeld 12 = .ok (.getfield 13, 3) := by decide +kernel
theorem dX7_manyHeld_15 : decode cX7_manyHeld 15 = .ok (.iload_n 3, 1) := by decide +kernel
theorem dX7_manyHeld_16 : decode cX7_manyHeld 16 = .ok (.caload, 1) := by decide +kernel
theorem dX7_manyHeld_17 : decode cX7_manyHeld 17 = .ok (.iload_n 1, 1) := by decide +kernel
theorem dX7_manyHeld_18 : decode cX7_manyHeld 18 = .ok (.if_icmp .ne 7, 3) := by decide +kernel
theorem dX7_manyHeld_21 : decode cX7_manyHeld 21 = .ok (.iconst 1, 1) := by decide +kernel
theorem dX7_manyHeld_22 : decode cX7_manyHeld 22 = .ok (.goto 4, 3) := by decide +kernel
theorem dX7_manyHeld_25 : decode cX7_manyHeld 25 = .ok (.iconst 0, 1) := by decide +kernel
theorem dX7_manyHeld_26 : decode cX7_manyHeld 26 = .ok (.iadd, 1) := by decide +kernel
theorem dX7_manyHeld_27 : decode cX7_manyHeld 27 = .ok (.istore_n 2, 1) := by decide +kernel
theorem dX7_manyHeld_28 : decode cX7_manyHeld 28 = .ok (.iinc 3 1, 3) := by decide +kernel
theorem dX7_manyHeld_31 : decode cX7_manyHeld 31 = .ok (.goto (-27), 3) := by decide +kernel
theorem dX7_manyHeld_34 : decode cX7_manyHeld 34 = .ok (.iload_n 2, 1) := by decide +kernel
theorem dX7_manyHeld_35 : decode cX7_manyHeld 35 = .ok (.ireturn, 1) := by decide +kernel
theorem dX7_start_0 : decode cX7_start 0 = .ok (.aload_n 0, 1) := by decide +kernel
theorem dX7_start_1 : decode cX7_start 1 = .ok (.aload_n 0, 1) := by decide +kernel
theorem dX7_start_2 : decode cX7_start 2 = .ok (.getfield 109, 3) := by decide +kernel
theorem dX7_start_5 : decode cX7_start 5 = .ok (.bipush 105, 2) := by decide +kernel
theorem dX7_start_7 : decode cX7_start 7 = .ok (.if_icmp .ne 7, 3) := by decide +kernel
theorem dX7_start_10 : decode cX7_start 10 = .ok (.iconst 1, 1) := by decide +kernel
theorem dX7_start_11 : decode cX7_start 11 = .ok (.goto 4, 3) := by decide +kernel
theorem dX7_start_14 : decode cX7_start 14 = .ok (.iconst 0, 1) := by decide +kernel
theorem dX7_start_15 : decode cX7_start 15 = .ok (.invokevirtual 158, 3) := by decide +kernel
theorem dX7_start_18 : decode cX7_start 18 = .ok (.ifCond .le 5, 3) := by decide +kernel
theorem dX7_start_21 : decode cX7_start 21 = .ok (.iconst 0, 1) := by decide +kernel
theorem dX7_start_22 : decode cX7_start 22 = .ok (.ireturn, 1) := by decide +kernel
theorem dX7_start_23 : decode cX7_start 23 = .ok (.aload_n 0, 1) := by decide +kernel
theorem dX7_start_24 : decode cX7_start 24 = .ok (.bipush 99, 2) := by decide +kernel
theorem dX7_start_26 : decode cX7_start 26 = .ok (.putfield 109, 3) := by decide +kernel
theorem dX7_start_29 : decode cX7_start 29 = .ok (.aload_n 0, 1) := by decide +kernel
theorem dX7_start_30 : decode cX7_start 30 = .ok (.invokevirtual 162, 3) := by decide +kernel
theorem dX7_start_33 : decode cX7_start 33 = .ok (.ireturn, 1) := by decide +kernel
theorem dX7_phase_0 : decode cX7_phase 0 = .ok (.aload_n 0, 1) := by decide +kernel
theorem dX7_phase_1 : decode cX7_phase 1 = .ok (.iconst 0, 1) := by decide +kernel
theorem dX7_phase_2 : decode cX7_phase 2 = .ok (.putfield 69, 3) := by decide +kernel
theorem dX7_phase_5 : decode cX7_phase 5 = .ok (.aload_n 0, 1) := by decide +kernel
theorem dX7_phase_6 : decode cX7_phase 6 = .ok (.getfield 109, 3) := by decide +kernel
theorem dX7_phase_9 : decode cX7_phase 9 = .ok (.ireturn, 1) := by decide +kernel
theorem dX7_goToBoth_0 : decode cX7_goToBoth 0 = .ok (.aload_n 0, 1) := by decide +kernel
theorem dX7_goToBoth_1 : decode cX7_goToBoth 1 = .ok (.aload_n 0, 1) := by decide +kernel
theorem dX7_goToBoth_2 : decode cX7_goToBoth 2 = .ok (.getfield 109, 3) := by decide +kernel
theorem dX7_goToBoth_5 : decode cX7_goToBoth 5 = .ok (.bipush 99, 2) := by decide +kernel
theorem dX7_goToBoth_7 : decode cX7_goToBoth 7 = .ok (.if_icmp .eq 7, 3) := by decide +kernel
theorem dX7_goToBoth_10 : decode cX7_goToBoth 10 = .ok (.iconst 1, 1) := by decide +kernel
theorem dX7_goToBoth_11 : decode cX7_goToBoth 11 = .ok (.goto 24, 3) := by decide +kernel
theorem dX7_goToBoth_14 : decode cX7_goToBoth 14 = .ok (.aload_n 0, 1) := by decide +kernel
theorem dX7_goToBoth_15 : decode cX7_goToBoth 15 = .ok (.getfield 85, 3) := by decide +kernel
theorem dX7_goToBoth_18 : decode cX7_goToBoth 18 = .ok (.bipush 40, 2) := by decide +kernel
theorem dX7_goToBoth_20 : decode cX7_goToBoth 20 = .ok (.if_icmp .lt 10, 3) := by decide +kernel
theorem dX7_goToBoth_23 : decode cX7_goToBoth 23 = .ok (.aload_n 0, 1) := by decide +kernel
theorem dX7_goToBoth_24 : decode cX7_goToBoth 24 = .ok (.getfield 91, 3) := by decide +kernel
theorem dX7_goToBoth_27 : decode cX7_goToBoth 27 = .ok (.ifCond .le 7, 3) := by decide +kernel
theorem dX7_goToBoth_30 : decode cX7_goToBoth 30 = .ok (.iconst 2, 1) := by decide +kernel
theorem dX7_goToBoth_31 : decode cX7_goToBoth 31 = .ok (.goto 4, 3) := by decide +kernel
theorem dX7_goToBoth_34 : decode cX7_goToBoth 34 = .ok (.iconst 0, 1) := by decide +kernel
theorem dX7_goToBoth_35 : decode cX7_goToBoth 35 = .ok (.putfield 69, 3) := by decide +kernel
theorem dX7_goToBoth_38 : decode cX7_goToBoth 38 = .ok (.aload_n 0, 1) := by decide +kernel
theorem dX7_goToBoth_39 : decode cX7_goToBoth 39 = .ok (.getfield 69, 3) := by decide +kernel
theorem dX7_goToBoth_42 : decode cX7_goToBoth 42 = .ok (.ifCond .le 5, 3) := by decide +kernel
theorem dX7_goToBoth_45 : decode cX7_goToBoth 45 = .ok (.iconst 0, 1) := by decide +kernel
theorem dX7_goToBoth_46 : decode cX7_goToBoth 46 = .ok (.ireturn, 1) := by decide +kernel
theorem dX7_goToBoth_47 : decode cX7_goToBoth 47 = .ok (.aload_n 0, 1) := by decide +kernel
theorem dX7_goToBoth_48 : decode cX7_goToBoth 48 = .ok (.getfield 76, 3) := by decide +kernel
theorem dX7_goToBoth_51 : decode cX7_goToBoth 51 = .ok (.aload_n 0, 1) := by decide +kernel
theorem dX7_goToBoth_52 : decode cX7_goToBoth 52 = .ok (.getfield 79, 3) := by decide +kernel
theorem dX7_goToBoth_55 : decode cX7_goToBoth 55 = .ok (.isub, 1) := by decide +kernel
theorem dX7_goToBoth_56 : decode cX7_goToBoth 56 = .ok (.istore_n 1, 1) := by decide +kernel
theorem dX7_goToBoth_57 : decode cX7_goToBoth 57 = .ok (.aload_n 0, 1) := by decide +kernel
theorem dX7_goToBoth_58 : decode cX7_goToBoth 58 = .ok (.getfield 79, 3) := by decide +kernel
theorem dX7_goToBoth_61 : decode cX7_goToBoth 61 = .ok (.aload_n 0, 1) := by decide +kernel
theorem dX7_goToBoth_62 : decode cX7_goToBoth 62 = .ok (.getfield 76, 3) := by decide +kernel
theorem dX7_goToBoth_65 : decode cX7_goToBoth 65 = .ok (.if_icmp .ge 10, 3) := by decide +kernel
theorem dX7_goToBoth_68 : decode cX7_goToBoth 68 = .ok (.aload_n 0, 1) := by decide +kernel
theorem dX7_goToBoth_69 : decode cX7_goToBoth 69 = .ok (.invokevirtual 155, 3) := by decide +kernel
theorem dX7_goToBoth_72 : decode cX7_goToBoth 72 = .ok (.goto (-15), 3) := by decide +kernel
theorem dX7_goToBoth_75 : decode cX7_goToBoth 75 = .ok (.aload_n 0, 1) := by decide +kernel
theorem dX7_goToBoth_76 : decode cX7_goToBoth 76 = .ok (.bipush 98, 2) := by decide +kernel
theorem dX7_goToBoth_78 : decode cX7_goToBoth 78 = .ok (.putfield 109, 3) := by decide +kernel
theorem dX7_goToBoth_81 : decode cX7_goToBoth 81 = .ok (.iload_n 1, 1) := by decide +kernel
theorem dX7_goToBoth_82 : decode cX7_goToBoth 82 = .ok (.ireturn, 1) := by decide +kernel
theorem dX7_switchOver_0 : decode cX7_switchOver 0 = .ok (.aload_n 0, 1) := by decide +kernel
theorem dX7_switchOver_1 : decode cX7_switchOver 1 = .ok (.aload_n 0, 1) := by decide +kernel
theorem dX7_switchOver_2 : decode cX7_switchOver 2 = .ok (.getfield 109, 3) := by decide +kernel
theorem dX7_switchOver_5 : decode cX7_switchOver 5 = .ok (.bipush 98, 2) := by decide +kernel
theorem dX7_switchOver_7 : decode cX7_switchOver 7 = .ok (.if_icmp .eq 7, 3) := by decide +kernel
theorem dX7_switchOver_10 : decode cX7_switchOver 10 = .ok (.iconst 1, 1) := by decide +kernel
theorem dX7_switchOver_11 : decode cX7_switchOver 11 = .ok (.goto 37, 3) := by decide +kernel
theorem dX7_switchOver_14 : decode cX7_switchOver 14 = .ok (.aload_n 0, 1) := by decide +kernel
theorem dX7_switchOver_15 : decode cX7_switchOver 15 = .ok (.bipush 97, 2) := by decide +kernel
theorem dX7_switchOver_17 : decode cX7_switchOver 17 = .ok (.invokevirtual 166, 3) := by decide +kernel
theorem dX7_switchOver_20 : decode cX7_switchOver 20 = .ok (.ifCond .gt 23, 3) := by decide +kernel
theorem dX7_switchOver_23 : decode cX7_switchOver 23 = .ok (.aload_n 0, 1) := by decide +kernel
theorem dX7_switchOver_24 : decode cX7_switchOver 24 = .ok (.iconst 0, 1) := by decide +kernel
theorem dX7_switchOver_25 : decode cX7_switchOver 25 = .ok (.iconst 0, 1) := by decide +kernel
theorem dX7_switchOver_26 : decode cX7_switchOver 26 = .ok (.bipush 39, 2) := by decide +kernel
theorem dX7_switchOver_28 : decode cX7_switchOver 28 = .ok (.invokevirtual 170, 3) := by decide +kernel
theorem dX7_switchOver_31 : decode cX7_switchOver 31 = .ok (.aload_n 0, 1) := by decide +kernel
theorem dX7_switchOver_32 : decode cX7_switchOver 32 = .ok (.iconst 1, 1) := by decide +kernel
theorem dX7_switchOver_33 : decode cX7_switchOver 33 = .ok (.iconst 0, 1) := by decide +kernel
theorem dX7_switchOver_34 : decode cX7_switchOver 34 = .ok (.bipush 39, 2) := by decide +kernel
theorem dX7_switchOver_36 : decode cX7_switchOver 36 = .ok (.invokevirtual 170, 3) := by decide +kernel
theorem dX7_switchOver_39 : decode cX7_switchOver 39 = .ok (.lcmp, 1) := by decide +kernel
theorem dX7_switchOver_40 : decode cX7_switchOver 40 = .ok (.ifCond .eq 7, 3) := by decide +kernel
theorem dX7_switchOver_43 : decode cX7_switchOver 43 = .ok (.iconst 2, 1) := by decide +kernel
theorem dX7_switchOver_44 : decode cX7_switchOver 44 = .ok (.goto 4, 3) := by decide +kernel
theorem dX7_switchOver_47 : decode cX7_switchOver 47 = .ok (.iconst 0, 1) := by decide +kernel
theorem dX7_switchOver_48 : decode cX7_switchOver 48 = .ok (.putfield 69, 3) := by decide +kernel
theorem dX7_switchOver_51 : decode cX7_switchOver 51 = .ok (.aload_n 0, 1) := by decide +kernel
theorem dX7_switchOver_52 : decode cX7_switchOver 52 = .ok (.getfield 69, 3) := by decide +kernel
theorem dX7_switchOver_55 : decode cX7_switchOver 55 = .ok (.ifCond .le 5, 3) := by decide +kernel
theorem dX7_switchOver_58 : decode cX7_switchOver 58 = .ok (.iconst 0, 1) := by decide +kernel
theorem dX7_switchOver_59 : decode cX7_switchOver 59 = .ok (.ireturn, 1) := by decide +kernel
theorem dX7_switchOver_60 : decode cX7_switchOver 60 = .ok (.aload_n 0, 1) := by decide +kernel
theorem dX7_switchOver_61 : decode cX7_switchOver 61 = .ok (.bipush 116, 2) := by decide +kernel
theorem dX7_switchOver_63 : decode cX7_switchOver 63 = .ok (.putfield 109, 3) := by decide +kernel
theorem dX7_switchOver_66 : decode cX7_switchOver 66 = .ok (.aload_n 0, 1) := by decide +kernel
theorem dX7_switchOver_67 : decode cX7_switchOver 67 = .ok (.bipush 101, 2) := by decide +kernel
theorem dX7_switchOver_69 : decode cX7_switchOver 69 = .ok (.invokevirtual 166, 3) := by decide +kernel
theorem dX7_switchOver_72 : decode cX7_switchOver 72 = .ok (.ireturn, 1) := by decide +kernel
theorem dX7_canGoBack_0 : decode cX7_canGoBack 0 = .ok (.iconst 0, 1) := by decide +kernel
theorem dX7_canGoBack_1 : decode cX7_canGoBack 1 = .ok (.istore_n 1, 1) := by decide +kernel
theorem dX7_canGoBack_2 : decode cX7_canGoBack 2 = .ok (.iload_n 1, 1) := by decide +kernel
theorem dX7_canGoBack_3 : decode cX7_canGoBack 3 = .ok (.bipush 40, 2) := by decide +kernel
theorem dX7_canGoBack_5 : decode cX7_canGoBack 5 = .ok (.if_icmp .ge 50, 3) := by decide +kernel
theorem dX7_canGoBack_8 : decode cX7_canGoBack 8 = .ok (.aload_n 0, 1) := by decide +kernel
theorem dX7_canGoBack_9 : decode cX7_canGoBack 9 = .ok (.getfield 39, 3) := by decide +kernel
theorem dX7_canGoBack_12 : decode cX7_canGoBack 12 = .ok (.iload_n 1, 1) := by decide +kernel
theorem dX7_canGoBack_13 : decode cX7_canGoBack 13 = .ok (.baload, 1) := by decide +kernel
theorem dX7_canGoBack_14 : decode cX7_canGoBack 14 = .ok (.ifCond .eq 35, 3) := by decide +kernel
theorem dX7_canGoBack_17 : decode cX7_canGoBack 17 = .ok (.aload_n 0, 1) := by decide +kernel
theorem dX7_canGoBack_18 : decode cX7_canGoBack 18 = .ok (.getfield 13, 3) := by decide +kernel
theorem dX7_canGoBack_21 : decode cX7_canGoBack 21 = .ok (.iload_n 1, 1) := by decide +kernel
theorem dX7_canGoBack_22 : decode cX7_canGoBack 22 = .ok (.caload, 1) := by decide +kernel
theorem dX7_canGoBack_23 : decode cX7_canGoBack 23 = .ok (.bipush 101, 2) := by decide +kernel
theorem dX7_canGoBack_25 : decode cX7_canGoBack 25 = .ok (.if_icmp .ne 24, 3) := by decide +kernel
theorem dX7_canGoBack_28 : decode cX7_canGoBack 28 = .ok (.aload_n 0, 1) := by decide +kernel
theorem dX7_canGoBack_29 : decode cX7_canGoBack 29 = .ok (.aload_n 0, 1) := by decide +kernel
theorem dX7_canGoBack_30 : decode cX7_canGoBack 30 = .ok (.getfield 26, 3) := by decide +kernel
theorem dX7_canGoBack_33 : decode cX7_canGoBack 33 = .ok (.iload_n 1, 1) := by decide +kernel
theorem dX7_canGoBack_34 : decode cX7_canGoBack 34 = .ok (.iaload, 1) := by decide +kernel
theorem dX7_canGoBack_35 : decode cX7_canGoBack 35 = .ok (.aload_n 0, 1) := by decide +kernel
theorem dX7_canGoBack_36 : decode cX7_canGoBack 36 = .ok (.getfield 29, 3) := by decide +kernel
theorem dX7_canGoBack_39 : decode cX7_canGoBack 39 = .ok (.iload_n 1, 1) := by decide +kernel
theorem dX7_canGoBack_40 : decode cX7_canGoBack 40 = .ok (.iaload, 1) := by decide +kernel
theorem dX7_canGoBack_41 : decode cX7_canGoBack 41 = .ok (.invokevirtual 174, 3) := by decide +kernel
theorem dX7_canGoBack_44 : decode cX7_canGoBack 44 = .ok (.ifCond .ne 5, 3) := by decide +kernel
theorem dX7_canGoBack_47 : decode cX7_canGoBack 47 = .ok (.iconst 0, 1) := by decide +kernel
theorem dX7_canGoBack_48 : decode cX7_canGoBack 48 = .ok (.ireturn, 1) := by decide +kernel
theorem dX7_canGoBack_49 : decode cX7_canGoBack 49 = .ok (.iinc 1 1, 3) := by decide +kernel
theorem dX7_canGoBack_52 : decode cX7_canGoBack 52 = .ok (.goto (-50), 3) := by decide +kernel
theorem dX7_canGoBack_55 : decode cX7_canGoBack 55 = .ok (.iconst 1, 1) := by decide +kernel
theorem dX7_canGoBack_56 : decode cX7_canGoBack 56 = .ok (.ireturn, 1) := by decide +kernel
theorem dX7_goesBack_0 : decode cX7_goesBack 0 = .ok (.aload_n 0, 1) := by decide +kernel
theorem dX7_goesBack_1 : decode cX7_goesBack 1 = .ok (.getfield 35, 3) := by decide +kernel
theorem dX7_goesBack_4 : decode cX7_goesBack 4 = .ok (.iload_n 1, 1) := by decide +kernel
theorem dX7_goesBack_5 : decode cX7_goesBack 5 = .ok (.baload, 1) := by decide +kernel
theorem dX7_goesBack_6 : decode cX7_goesBack 6 = .ok (.istore_n 2, 1) := by decide +kernel
theorem dX7_goesBack_7 : decode cX7_goesBack 7 = .ok (.aload_n 0, 1) := by decide +kernel
theorem dX7_goesBack_8 : decode cX7_goesBack 8 = .ok (.getfield 35, 3) := by decide +kernel
theorem dX7_goesBack_11 : decode cX7_goesBack 11 = .ok (.iload_n 1, 1) := by decide +kernel
theorem dX7_goesBack_12 : decode cX7_goesBack 12 = .ok (.aload_n 0, 1) := by decide +kernel
theorem dX7_goesBack_13 : decode cX7_goesBack 13 = .ok (.getfield 13, 3) := by decide +kernel
theorem dX7_goesBack_16 : decode cX7_goesBack 16 = .ok (.iload_n 1, 1) := by decide +kernel
theorem dX7_goesBack_17 : decode cX7_goesBack 17 = .ok (.caload, 1) := by decide +kernel
theorem dX7_goesBack_18 : decode cX7_goesBack 18 = .ok (.bipush 101, 2) := by decide +kernel
theorem dX7_goesBack_20 : decode cX7_goesBack 20 = .ok (.if_icmp .ne 7, 3) := by decide +kernel
theorem dX7_goesBack_23 : decode cX7_goesBack 23 = .ok (.iconst 1, 1) := by decide +kernel
theorem dX7_goesBack_24 : decode cX7_goesBack 24 = .ok (.goto 4, 3) := by decide +kernel
theorem dX7_goesBack_27 : decode cX7_goesBack 27 = .ok (.iconst 0, 1) := by decide +kernel
theorem dX7_goesBack_28 : decode cX7_goesBack 28 = .ok (.bastore, 1) := by decide +kernel
theorem dX7_goesBack_29 : decode cX7_goesBack 29 = .ok (.aload_n 0, 1) := by decide +kernel
theorem dX7_goesBack_30 : decode cX7_goesBack 30 = .ok (.getfield 35, 3) := by decide +kernel
theorem dX7_goesBack_33 : decode cX7_goesBack 33 = .ok (.iload_n 1, 1) := by decide +kernel
theorem dX7_goesBack_34 : decode cX7_goesBack 34 = .ok (.baload, 1) := by decide +kernel
theorem dX7_goesBack_35 : decode cX7_goesBack 35 = .ok (.ifCond .eq 22, 3) := by decide +kernel
theorem dX7_goesBack_38 : decode cX7_goesBack 38 = .ok (.aload_n 0, 1) := by decide +kernel
theorem dX7_goesBack_39 : decode cX7_goesBack 39 = .ok (.aload_n 0, 1) := by decide +kernel
theorem dX7_goesBack_40 : decode cX7_goesBack 40 = .ok (.getfield 26, 3) := by decide +kernel
theorem dX7_goesBack_43 : decode cX7_goesBack 43 = .ok (.iload_n 1, 1) := by decide +kernel
theorem dX7_goesBack_44 : decode cX7_goesBack 44 = .ok (.iaload, 1) := by decide +kernel
theorem dX7_goesBack_45 : decode cX7_goesBack 45 = .ok (.aload_n 0, 1) := by decide +kernel
theorem dX7_goesBack_46 : decode cX7_goesBack 46 = .ok (.getfield 29, 3) := by decide +kernel
theorem dX7_goesBack_49 : decode cX7_goesBack 49 = .ok (.iload_n 1, 1) := by decide +kernel
theorem dX7_goesBack_50 : decode cX7_goesBack 50 = .ok (.iaload, 1) := by decide +kernel
theorem dX7_goesBack_51 : decode cX7_goesBack 51 = .ok (.invokevirtual 174, 3) := by decide +kernel
theorem dX7_goesBack_54 : decode cX7_goesBack 54 = .ok (.ifCond .ne 5, 3) := by decide +kernel
theorem dX7_goesBack_57 : decode cX7_goesBack 57 = .ok (.iload_n 2, 1) := by decide +kernel
theorem dX7_goesBack_58 : decode cX7_goesBack 58 = .ok (.ireturn, 1) := by decide +kernel
theorem dX7_goesBack_59 : decode cX7_goesBack 59 = .ok (.iload_n 2, 1) := by decide +kernel
theorem dX7_goesBack_60 : decode cX7_goesBack 60 = .ok (.ifCond .eq 29, 3) := by decide +kernel
theorem dX7_goesBack_63 : decode cX7_goesBack 63 = .ok (.aload_n 0, 1) := by decide +kernel
theorem dX7_goesBack_64 : decode cX7_goesBack 64 = .ok (.getfield 20, 3) := by decide +kernel
theorem dX7_goesBack_67 : decode cX7_goesBack 67 = .ok (.iload_n 1, 1) := by decide +kernel
theorem dX7_goesBack_68 : decode cX7_goesBack 68 = .ok (.iaload, 1) := by decide +kernel
theorem dX7_goesBack_69 : decode cX7_goesBack 69 = .ok (.aload_n 0, 1) := by decide +kernel
theorem dX7_goesBack_70 : decode cX7_goesBack 70 = .ok (.getfield 103, 3) := by decide +kernel
theorem dX7_goesBack_73 : decode cX7_goesBack 73 = .ok (.if_icmp .ne 16, 3) := by decide +kernel
theorem dX7_goesBack_76 : decode cX7_goesBack 76 = .ok (.aload_n 0, 1) := by decide +kernel
theorem dX7_goesBack_77 : decode cX7_goesBack 77 = .ok (.getfield 23, 3) := by decide +kernel
theorem dX7_goesBack_80 : decode cX7_goesBack 80 = .ok (.iload_n 1, 1) := by decide +kernel
theorem dX7_goesBack_81 : decode cX7_goesBack 81 = .ok (.iaload, 1) := by decide +kernel
theorem dX7_goesBack_82 : decode cX7_goesBack 82 = .ok (.aload_n 0, 1) := by decide +kernel
theorem dX7_goesBack_83 : decode cX7_goesBack 83 = .ok (.getfield 106, 3) := by decide +kernel
theorem dX7_goesBack_86 : decode cX7_goesBack 86 = .ok (.if_icmp .eq 7, 3) := by decide +kernel
theorem dX7_goesBack_89 : decode cX7_goesBack 89 = .ok (.iconst 1, 1) := by decide +kernel
theorem dX7_goesBack_90 : decode cX7_goesBack 90 = .ok (.goto 4, 3) := by decide +kernel
theorem dX7_goesBack_93 : decode cX7_goesBack 93 = .ok (.iconst 0, 1) := by decide +kernel
theorem dX7_goesBack_94 : decode cX7_goesBack 94 = .ok (.istore_n 3, 1) := by decide +kernel
theorem dX7_goesBack_95 : decode cX7_goesBack 95 = .ok (.aload_n 0, 1) := by decide +kernel
theorem dX7_goesBack_96 : decode cX7_goesBack 96 = .ok (.getfield 20, 3) := by decide +kernel
theorem dX7_goesBack_99 : decode cX7_goesBack 99 = .ok (.iload_n 1, 1) := by decide +kernel
theorem dX7_goesBack_100 : decode cX7_goesBack 100 = .ok (.aload_n 0, 1) := by decide +kernel
theorem dX7_goesBack_101 : decode cX7_goesBack 101 = .ok (.getfield 103, 3) := by decide +kernel
theorem dX7_goesBack_104 : decode cX7_goesBack 104 = .ok (.iastore, 1) := by decide +kernel
theorem dX7_goesBack_105 : decode cX7_goesBack 105 = .ok (.aload_n 0, 1) := by decide +kernel
theorem dX7_goesBack_106 : decode cX7_goesBack 106 = .ok (.getfield 23, 3) := by decide +kernel
theorem dX7_goesBack_109 : decode cX7_goesBack 109 = .ok (.iload_n 1, 1) := by decide +kernel
theorem dX7_goesBack_110 : decode cX7_goesBack 110 = .ok (.aload_n 0, 1) := by decide +kernel
theorem dX7_goesBack_111 : decode cX7_goesBack 111 = .ok (.getfield 106, 3) := by decide +kernel
theorem dX7_goesBack_114 : decode cX7_goesBack 114 = .ok (.iastore, 1) := by decide +kernel
theorem dX7_goesBack_115 : decode cX7_goesBack 115 = .ok (.iload_n 3, 1) := by decide +kernel
theorem dX7_goesBack_116 : decode cX7_goesBack 116 = .ok (.ireturn, 1) := by decide +kernel
theorem dX7_goBack_0 : decode cX7_goBack 0 = .ok (.aload_n 0, 1) := by decide +kernel
theorem dX7_goBack_1 : decode cX7_goBack 1 = .ok (.aload_n 0, 1) := by decide +kernel
theorem dX7_goBack_2 : decode cX7_goBack 2 = .ok (.getfield 109, 3) := by decide +kernel
theorem dX7_goBack_5 : decode cX7_goBack 5 = .ok (.bipush 116, 2) := by decide +kernel
theorem dX7_goBack_7 : decode cX7_goBack 7 = .ok (.if_icmp .eq 7, 3) := by decide +kernel
theorem dX7_goBack_10 : decode cX7_goBack 10 = .ok (.iconst 1, 1) := by decide +kernel
theorem dX7_goBack_11 : decode cX7_goBack 11 = .ok (.goto 15, 3) := by decide +kernel
theorem dX7_goBack_14 : decode cX7_goBack 14 = .ok (.aload_n 0, 1) := by decide +kernel
theorem dX7_goBack_15 : decode cX7_goBack 15 = .ok (.invokevirtual 177, 3) := by decide +kernel
theorem dX7_goBack_18 : decode cX7_goBack 18 = .ok (.ifCond .ne 7, 3) := by decide +kernel
theorem dX7_goBack_21 : decode cX7_goBack 21 = .ok (.iconst 2, 1) := by decide +kernel
theorem dX7_goBack_22 : decode cX7_goBack 22 = .ok (.goto 4, 3) := by decide +kernel
theorem dX7_goBack_25 : decode cX7_goBack 25 = .ok (.iconst 0, 1) := by decide +kernel
theorem dX7_goBack_26 : decode cX7_goBack 26 = .ok (.putfield 69, 3) := by decide +kernel
theorem dX7_goBack_29 : decode cX7_goBack 29 = .ok (.aload_n 0, 1) := by decide +kernel
theorem dX7_goBack_30 : decode cX7_goBack 30 = .ok (.getfield 69, 3) := by decide +kernel
theorem dX7_goBack_33 : decode cX7_goBack 33 = .ok (.ifCond .le 5, 3) := by decide +kernel
theorem dX7_goBack_36 : decode cX7_goBack 36 = .ok (.iconst 0, 1) := by decide +kernel
theorem dX7_goBack_37 : decode cX7_goBack 37 = .ok (.ireturn, 1) := by decide +kernel
theorem dX7_goBack_38 : decode cX7_goBack 38 = .ok (.iconst 0, 1) := by decide +kernel
theorem dX7_goBack_39 : decode cX7_goBack 39 = .ok (.istore_n 1, 1) := by decide +kernel
theorem dX7_goBack_40 : decode cX7_goBack 40 = .ok (.iconst 0, 1) := by decide +kernel
theorem dX7_goBack_41 : decode cX7_goBack 41 = .ok (.istore_n 2, 1) := by decide +kernel
theorem dX7_goBack_42 : decode cX7_goBack 42 = .ok (.iload_n 2, 1) := by decide +kernel
theorem dX7_goBack_43 : decode cX7_goBack 43 = .ok (.bipush 40, 2) := by decide +kernel
theorem dX7_goBack_45 : decode cX7_goBack 45 = .ok (.if_icmp .ge 36, 3) := by decide +kernel
theorem dX7_goBack_48 : decode cX7_goBack 48 = .ok (.aload_n 0, 1) := by decide +kernel
theorem dX7_goBack_49 : decode cX7_goBack 49 = .ok (.getfield 39, 3) := by decide +kernel
theorem dX7_goBack_52 : decode cX7_goBack 52 = .ok (.iload_n 2, 1) := by decide +kernel
theorem dX7_goBack_53 : decode cX7_goBack 53 = .ok (.baload, 1) := by decide +kernel
theorem dX7_goBack_54 : decode cX7_goBack 54 = .ok (.ifCond .eq 14, 3) := by decide +kernel
theorem dX7_goBack_57 : decode cX7_goBack 57 = .ok (.aload_n 0, 1) := by decide +kernel
theorem dX7_goBack_58 : decode cX7_goBack 58 = .ok (.iload_n 2, 1) := by decide +kernel
theorem dX7_goBack_59 : decode cX7_goBack 59 = .ok (.invokevirtual 181, 3) := by decide +kernel
theorem dX7_goBack_62 : decode cX7_goBack 62 = .ok (.ifCond .eq 6, 3) := by decide +kernel
theorem dX7_goBack_65 : decode cX7_goBack 65 = .ok (.iinc 1 1, 3) := by decide +kernel
theorem dX7_goBack_68 : decode cX7_goBack 68 = .ok (.aload_n 0, 1) := by decide +kernel
theorem dX7_goBack_69 : decode cX7_goBack 69 = .ok (.getfield 39, 3) := by decide +kernel
theorem dX7_goBack_72 : decode cX7_goBack 72 = .ok (.iload_n 2, 1) := by decide +kernel
theorem dX7_goBack_73 : decode cX7_goBack 73 = .ok (.iconst 0, 1) := by decide +kernel
theorem dX7_goBack_74 : decode cX7_goBack 74 = .ok (.bastore, 1) := by decide +kernel
theorem dX7_goBack_75 : decode cX7_goBack 75 = .ok (.iinc 2 1, 3) := by decide +kernel
theorem dX7_goBack_78 : decode cX7_goBack 78 = .ok (.goto (-36), 3) := by decide +kernel
theorem dX7_goBack_81 : decode cX7_goBack 81 = .ok (.aload_n 0, 1) := by decide +kernel
theorem dX7_goBack_82 : decode cX7_goBack 82 = .ok (.iconst 0, 1) := by decide +kernel
theorem dX7_goBack_83 : decode cX7_goBack 83 = .ok (.putfield 82, 3) := by decide +kernel
theorem dX7_goBack_86 : decode cX7_goBack 86 = .ok (.aload_n 0, 1) := by decide +kernel
theorem dX7_goBack_87 : decode cX7_goBack 87 = .ok (.bipush 98, 2) := by decide +kernel
theorem dX7_goBack_89 : decode cX7_goBack 89 = .ok (.putfield 109, 3) := by decide +kernel
theorem dX7_goBack_92 : decode cX7_goBack 92 = .ok (.iload_n 1, 1) := by decide +kernel
theorem dX7_goBack_93 : decode cX7_goBack 93 = .ok (.ireturn, 1) := by decide +kernel
theorem dX7_end_0 : decode cX7_end 0 = .ok (.aload_n 0, 1) := by decide +kernel
theorem dX7_end_1 : decode cX7_end 1 = .ok (.aload_n 0, 1) := by decide +kernel
theorem dX7_end_2 : decode cX7_end 2 = .ok (.getfield 109, 3) := by decide +kernel
theorem dX7_end_5 : decode cX7_end 5 = .ok (.bipush 116, 2) := by decide +kernel
theorem dX7_end_7 : decode cX7_end 7 = .ok (.if_icmp .ne 7, 3) := by decide +kernel
theorem dX7_end_10 : decode cX7_end 10 = .ok (.iconst 1, 1) := by decide +kernel
theorem dX7_end_11 : decode cX7_end 11 = .ok (.goto 4, 3) := by decide +kernel
theorem dX7_end_14 : decode cX7_end 14 = .ok (.iconst 0, 1) := by decide +kernel
theorem dX7_end_15 : decode cX7_end 15 = .ok (.invokevirtual 158, 3) := by decide +kernel
theorem dX7_end_18 : decode cX7_end 18 = .ok (.ifCond .le 5, 3) := by decide +kernel
theorem dX7_end_21 : decode cX7_end 21 = .ok (.iconst 0, 1) := by decide +kernel
theorem dX7_end_22 : decode cX7_end 22 = .ok (.ireturn, 1) := by decide +kernel
theorem dX7_end_23 : decode cX7_end 23 = .ok (.aload_n 0, 1) := by decide +kernel
theorem dX7_end_24 : decode cX7_end 24 = .ok (.bipush 100, 2) := by decide +kernel
theorem dX7_end_26 : decode cX7_end 26 = .ok (.putfield 109, 3) := by decide +kernel
theorem dX7_end_29 : decode cX7_end 29 = .ok (.aload_n 0, 1) := by decide +kernel
theorem dX7_end_30 : decode cX7_end 30 = .ok (.getfield 82, 3) := by decide +kernel
theorem dX7_end_33 : decode cX7_end 33 = .ok (.ireturn, 1) := by decide +kernel
theorem dX7_isLogFull_0 : decode cX7_isLogFull 0 = .ok (.aload_n 0, 1) := by decide +kernel
theorem dX7_isLogFull_1 : decode cX7_isLogFull 1 = .ok (.getfield 109, 3) := by decide +kernel
theorem dX7_isLogFull_4 : decode cX7_isLogFull 4 = .ok (.bipush 116, 2) := by decide +kernel
theorem dX7_isLogFull_6 : decode cX7_isLogFull 6 = .ok (.if_icmp .ne 20, 3) := by decide +kernel
theorem dX7_isLogFull_9 : decode cX7_isLogFull 9 = .ok (.aload_n 0, 1) := by decide +kernel
theorem dX7_isLogFull_10 : decode cX7_isLogFull 10 = .ok (.getfield 82, 3) := by decide +kernel
theorem dX7_isLogFull_13 : decode cX7_isLogFull 13 = .ok (.bipush 120, 2) := by decide +kernel
theorem dX7_isLogFull_15 : decode cX7_isLogFull 15 = .ok (.if_icmp .ne 7, 3) := by decide +kernel
theorem dX7_isLogFull_18 : decode cX7_isLogFull 18 = .ok (.iconst 1, 1) := by decide +kernel
theorem dX7_isLogFull_19 : decode cX7_isLogFull 19 = .ok (.goto 30, 3) := by decide +kernel
theorem dX7_isLogFull_22 : decode cX7_isLogFull 22 = .ok (.iconst 0, 1) := by decide +kernel
theorem dX7_isLogFull_23 : decode cX7_isLogFull 23 = .ok (.goto 26, 3) := by decide +kernel
theorem dX7_isLogFull_26 : decode cX7_isLogFull 26 = .ok (.aload_n 0, 1) := by decide +kernel
theorem dX7_isLogFull_27 : decode cX7_isLogFull 27 = .ok (.getfield 109, 3) := by decide +kernel
theorem dX7_isLogFull_30 : decode cX7_isLogFull 30 = .ok (.bipush 105, 2) := by decide +kernel
theorem dX7_isLogFull_32 : decode cX7_isLogFull 32 = .ok (.if_icmp .eq 16, 3) := by decide +kernel
theorem dX7_isLogFull_35 : decode cX7_isLogFull 35 = .ok (.aload_n 0, 1) := by decide +kernel
theorem dX7_isLogFull_36 : decode cX7_isLogFull 36 = .ok (.getfield 76, 3) := by decide +kernel
theorem dX7_isLogFull_39 : decode cX7_isLogFull 39 = .ok (.bipush 120, 2) := by decide +kernel
theorem dX7_isLogFull_41 : decode cX7_isLogFull 41 = .ok (.if_icmp .ne 7, 3) := by decide +kernel
theorem dX7_isLogFull_44 : decode cX7_isLogFull 44 = .ok (.iconst 1, 1) := by decide +kernel
theorem dX7_isLogFull_45 : decode cX7_isLogFull 45 = .ok (.goto 4, 3) := by decide +kernel
theorem dX7_isLogFull_48 : decode cX7_isLogFull 48 = .ok (.iconst 0, 1) := by decide +kernel
theorem dX7_isLogFull_49 : decode cX7_isLogFull 49 = .ok (.ireturn, 1) := by decide +kernel
theorem dX7_write_0 : decode cX7_write 0 = .ok (.aload_n 0, 1) := by decide +kernel
theorem dX7_write_1 : decode cX7_write 1 = .ok (.invokevirtual 184, 3) := by decide +kernel
theorem dX7_write_4 : decode cX7_write 4 = .ok (.ifCond .eq 9, 3) := by decide +kernel
theorem dX7_write_7 : decode cX7_write 7 = .ok (.sipush 999, 3) := by decide +kernel
theorem dX7_write_10 : decode cX7_write 10 = .ok (.goto 5, 3) := by decide +kernel
theorem dX7_write_13 : decode cX7_write 13 = .ok (.bipush 99, 2) := by decide +kernel
theorem dX7_write_15 : decode cX7_write 15 = .ok (.istore 4, 2) := by decide +kernel
theorem dX7_write_17 : decode cX7_write 17 = .ok (.aload_n 0, 1) := by decide +kernel
theorem dX7_write_18 : decode cX7_write 18 = .ok (.iload_n 1, 1) := by decide +kernel
theorem dX7_write_19 : decode cX7_write 19 = .ok (.invokestatic 187, 3) := by decide +kernel
theorem dX7_write_22 : decode cX7_write 22 = .ok (.ifCond .eq 27, 3) := by decide +kernel
theorem dX7_write_25 : decode cX7_write 25 = .ok (.iload_n 2, 1) := by decide +kernel
theorem dX7_write_26 : decode cX7_write 26 = .ok (.iload 4, 2) := by decide +kernel
theorem dX7_write_28 : decode cX7_write 28 = .ok (.ineg, 1) := by decide +kernel
theorem dX7_write_29 : decode cX7_write 29 = .ok (.iload 4, 2) := by decide +kernel
theorem dX7_write_31 : decode cX7_write 31 = .ok (.invokestatic 113, 3) := by decide +kernel
theorem dX7_write_34 : decode cX7_write 34 = .ok (.ifCond .eq 15, 3) := by decide +kernel
theorem dX7_write_37 : decode cX7_write 37 = .ok (.iload_n 3, 1) := by decide +kernel
theorem dX7_write_38 : decode cX7_write 38 = .ok (.iload 4, 2) := by decide +kernel
theorem dX7_write_40 : decode cX7_write 40 = .ok (.ineg, 1) := by decide +kernel
theorem dX7_write_41 : decode cX7_write 41 = .ok (.iload 4, 2) := by decide +kernel
theorem dX7_write_43 : decode cX7_write 43 = .ok (.invokestatic 113, 3) := by decide +kernel
theorem dX7_write_46 : decode cX7_write 46 = .ok (.ifCond .ne 7, 3) := by decide +kernel
theorem dX7_write_49 : decode cX7_write 49 = .ok (.iconst 1, 1) := by decide +kernel
theorem dX7_write_50 : decode cX7_write 50 = .ok (.goto 24, 3) := by decide +kernel
theorem dX7_write_53 : decode cX7_write 53 = .ok (.aload_n 0, 1) := by decide +kernel
theorem dX7_write_54 : decode cX7_write 54 = .ok (.getfield 109, 3) := by decide +kernel
theorem dX7_write_57 : decode cX7_write 57 = .ok (.bipush 100, 2) := by decide +kernel
theorem dX7_write_59 : decode cX7_write 59 = .ok (.if_icmp .eq 10, 3) := by decide +kernel
theorem dX7_write_62 : decode cX7_write 62 = .ok (.aload_n 0, 1) := by decide +kernel
theorem dX7_write_63 : decode cX7_write 63 = .ok (.invokevirtual 190, 3) := by decide +kernel
theorem dX7_write_66 : decode cX7_write 66 = .ok (.ifCond .eq 7, 3) := by decide +kernel
theorem dX7_write_69 : decode cX7_write 69 = .ok (.iconst 2, 1) := by decide +kernel
theorem dX7_write_70 : decode cX7_write 70 = .ok (.goto 4, 3) := by decide +kernel
theorem dX7_write_73 : decode cX7_write 73 = .ok (.iconst 0, 1) := by decide +kernel
theorem dX7_write_74 : decode cX7_write 74 = .ok (.putfield 69, 3) := by decide +kernel
theorem dX7_write_77 : decode cX7_write 77 = .ok (.aload_n 0, 1) := by decide +kernel
theorem dX7_write_78 : decode cX7_write 78 = .ok (.getfield 69, 3) := by decide +kernel
theorem dX7_write_81 : decode cX7_write 81 = .ok (.ifCond .le 5, 3) := by decide +kernel
theorem dX7_write_84 : decode cX7_write 84 = .ok (.iconst 0, 1) := by decide +kernel
theorem dX7_write_85 : decode cX7_write 85 = .ok (.ireturn, 1) := by decide +kernel
theorem dX7_write_86 : decode cX7_write 86 = .ok (.aload_n 0, 1) := by decide +kernel
theorem dX7_write_87 : decode cX7_write 87 = .ok (.getfield 109, 3) := by decide +kernel
theorem dX7_write_90 : decode cX7_write 90 = .ok (.bipush 116, 2) := by decide +kernel
theorem dX7_write_92 : decode cX7_write 92 = .ok (.if_icmp .ne 11, 3) := by decide +kernel
theorem dX7_write_95 : decode cX7_write 95 = .ok (.aload_n 0, 1) := by decide +kernel
theorem dX7_write_96 : decode cX7_write 96 = .ok (.iload_n 1, 1) := by decide +kernel
theorem dX7_write_97 : decode cX7_write 97 = .ok (.iload_n 2, 1) := by decide +kernel
theorem dX7_write_98 : decode cX7_write 98 = .ok (.iload_n 3, 1) := by decide +kernel
theorem dX7_write_99 : decode cX7_write 99 = .ok (.invokevirtual 193, 3) := by decide +kernel
theorem dX7_write_102 : decode cX7_write 102 = .ok (.ireturn, 1) := by decide +kernel
theorem dX7_write_103 : decode cX7_write 103 = .ok (.aload_n 0, 1) := by decide +kernel
theorem dX7_write_104 : decode cX7_write 104 = .ok (.getfield 35, 3) := by decide +kernel
theorem dX7_write_107 : decode cX7_write 107 = .ok (.iload_n 1, 1) := by decide +kernel
theorem dX7_write_108 : decode cX7_write 108 = .ok (.baload, 1) := by decide +kernel
theorem dX7_write_109 : decode cX7_write 109 = .ok (.istore 5, 2) := by decide +kernel
theorem dX7_write_111 : decode cX7_write 111 = .ok (.aload_n 0, 1) := by decide +kernel
theorem dX7_write_112 : decode cX7_write 112 = .ok (.getfield 35, 3) := by decide +kernel
theorem dX7_write_115 : decode cX7_write 115 = .ok (.iload_n 1, 1) := by decide +kernel
theorem dX7_write_116 : decode cX7_write 116 = .ok (.iconst 1, 1) := by decide +kernel
theorem dX7_write_117 : decode cX7_write 117 = .ok (.bastore, 1) := by decide +kernel
theorem dX7_write_118 : decode cX7_write 118 = .ok (.aload_n 0, 1) := by decide +kernel
theorem dX7_write_119 : decode cX7_write 119 = .ok (.getfield 20, 3) := by decide +kernel
theorem dX7_write_122 : decode cX7_write 122 = .ok (.iload_n 1, 1) := by decide +kernel
theorem dX7_write_123 : decode cX7_write 123 = .ok (.iload_n 2, 1) := by decide +kernel
theorem dX7_write_124 : decode cX7_write 124 = .ok (.iastore, 1) := by decide +kernel
theorem dX7_write_125 : decode cX7_write 125 = .ok (.aload_n 0, 1) := by decide +kernel
theorem dX7_write_126 : decode cX7_write 126 = .ok (.getfield 23, 3) := by decide +kernel
theorem dX7_write_129 : decode cX7_write 129 = .ok (.iload_n 1, 1) := by decide +kernel
theorem dX7_write_130 : decode cX7_write 130 = .ok (.iload_n 3, 1) := by decide +kernel
theorem dX7_write_131 : decode cX7_write 131 = .ok (.iastore, 1) := by decide +kernel
theorem dX7_write_132 : decode cX7_write 132 = .ok (.aload_n 0, 1) := by decide +kernel
theorem dX7_write_133 : decode cX7_write 133 = .ok (.iload_n 1, 1) := by decide +kernel
theorem dX7_write_134 : decode cX7_write 134 = .ok (.iconst 0, 1) := by decide +kernel
theorem dX7_write_135 : decode cX7_write 135 = .ok (.iload_n 2, 1) := by decide +kernel
theorem dX7_write_136 : decode cX7_write 136 = .ok (.iload_n 3, 1) := by decide +kernel
theorem dX7_write_137 : decode cX7_write 137 = .ok (.invokevirtual 196, 3) := by decide +kernel
theorem dX7_write_140 : decode cX7_write 140 = .ok (.iload 5, 2) := by decide +kernel
theorem dX7_write_142 : decode cX7_write 142 = .ok (.ireturn, 1) := by decide +kernel
theorem dX7_names_0 : decode cX7_names 0 = .ok (.aload_n 0, 1) := by decide +kernel
theorem dX7_names_1 : decode cX7_names 1 = .ok (.getfield 39, 3) := by decide +kernel
theorem dX7_names_4 : decode cX7_names 4 = .ok (.iload_n 1, 1) := by decide +kernel
theorem dX7_names_5 : decode cX7_names 5 = .ok (.iconst 1, 1) := by decide +kernel
theorem dX7_names_6 : decode cX7_names 6 = .ok (.bastore, 1) := by decide +kernel
theorem dX7_names_7 : decode cX7_names 7 = .ok (.aload_n 0, 1) := by decide +kernel
theorem dX7_names_8 : decode cX7_names 8 = .ok (.dup, 1) := by decide +kernel
theorem dX7_names_9 : decode cX7_names 9 = .ok (.getfield 82, 3) := by decide +kernel
theorem dX7_names_12 : decode cX7_names 12 = .ok (.iconst 1, 1) := by decide +kernel
theorem dX7_names_13 : decode cX7_names 13 = .ok (.iadd, 1) := by decide +kernel
theorem dX7_names_14 : decode cX7_names 14 = .ok (.putfield 82, 3) := by decide +kernel
theorem dX7_names_17 : decode cX7_names 17 = .ok (.return_, 1) := by decide +kernel
theorem dX7_writesTarget_0 : decode cX7_writesTarget 0 = .ok (.aload_n 0, 1) := by decide +kernel
theorem dX7_writesTarget_1 : decode cX7_writesTarget 1 = .ok (.getfield 13, 3) := by decide +kernel
theorem dX7_writesTarget_4 : decode cX7_writesTarget 4 = .ok (.iload_n 1, 1) := by decide +kernel
theorem dX7_writesTarget_5 : decode cX7_writesTarget 5 = .ok (.caload, 1) := by decide +kernel
theorem dX7_writesTarget_6 : decode cX7_writesTarget 6 = .ok (.bipush 101, 2) := by decide +kernel
theorem dX7_writesTarget_8 : decode cX7_writesTarget 8 = .ok (.if_icmp .ne 7, 3) := by decide +kernel
theorem dX7_writesTarget_11 : decode cX7_writesTarget 11 = .ok (.iconst 1, 1) := by decide +kernel
theorem dX7_writesTarget_12 : decode cX7_writesTarget 12 = .ok (.goto 4, 3) := by decide +kernel
theorem dX7_writesTarget_15 : decode cX7_writesTarget 15 = .ok (.iconst 0, 1) := by decide +kernel
theorem dX7_writesTarget_16 : decode cX7_writesTarget 16 = .ok (.istore 4, 2) := by decide +kernel
theorem dX7_writesTarget_18 : decode cX7_writesTarget 18 = .ok (.aload_n 0, 1) := by decide +kernel
theorem dX7_writesTarget_19 : decode cX7_writesTarget 19 = .ok (.iload_n 1, 1) := by decide +kernel
theorem dX7_writesTarget_20 : decode cX7_writesTarget 20 = .ok (.invokevirtual 200, 3) := by decide +kernel
theorem dX7_writesTarget_23 : decode cX7_writesTarget 23 = .ok (.aload_n 0, 1) := by decide +kernel
theorem dX7_writesTarget_24 : decode cX7_writesTarget 24 = .ok (.iload_n 1, 1) := by decide +kernel
theorem dX7_writesTarget_25 : decode cX7_writesTarget 25 = .ok (.bipush 101, 2) := by decide +kernel
theorem dX7_writesTarget_27 : decode cX7_writesTarget 27 = .ok (.aload_n 0, 1) := by decide +kernel
theorem dX7_writesTarget_28 : decode cX7_writesTarget 28 = .ok (.getfield 76, 3) := by decide +kernel
theorem dX7_writesTarget_31 : decode cX7_writesTarget 31 = .ok (.invokevirtual 143, 3) := by decide +kernel
theorem dX7_writesTarget_34 : decode cX7_writesTarget 34 = .ok (.aload_n 0, 1) := by decide +kernel
theorem dX7_writesTarget_35 : decode cX7_writesTarget 35 = .ok (.getfield 26, 3) := by decide +kernel
theorem dX7_writesTarget_38 : decode cX7_writesTarget 38 = .ok (.iload_n 1, 1) := by decide +kernel
theorem dX7_writesTarget_39 : decode cX7_writesTarget 39 = .ok (.iload_n 2, 1) := by decide +kernel
theorem dX7_writesTarget_40 : decode cX7_writesTarget 40 = .ok (.iastore, 1) := by decide +kernel
theorem dX7_writesTarget_41 : decode cX7_writesTarget 41 = .ok (.aload_n 0, 1) := by decide +kernel
theorem dX7_writesTarget_42 : decode cX7_writesTarget 42 = .ok (.getfield 29, 3) := by decide +kernel
theorem dX7_writesTarget_45 : decode cX7_writesTarget 45 = .ok (.iload_n 1, 1) := by decide +kernel
theorem dX7_writesTarget_46 : decode cX7_writesTarget 46 = .ok (.iload_n 3, 1) := by decide +kernel
theorem dX7_writesTarget_47 : decode cX7_writesTarget 47 = .ok (.iastore, 1) := by decide +kernel
theorem dX7_writesTarget_48 : decode cX7_writesTarget 48 = .ok (.iload 4, 2) := by decide +kernel
theorem dX7_writesTarget_50 : decode cX7_writesTarget 50 = .ok (.ireturn, 1) := by decide +kernel
theorem dX7_delete_0 : decode cX7_delete 0 = .ok (.aload_n 0, 1) := by decide +kernel
theorem dX7_delete_1 : decode cX7_delete 1 = .ok (.iload_n 1, 1) := by decide +kernel
theorem dX7_delete_2 : decode cX7_delete 2 = .ok (.invokestatic 187, 3) := by decide +kernel
theorem dX7_delete_5 : decode cX7_delete 5 = .ok (.ifCond .ne 7, 3) := by decide +kernel
theorem dX7_delete_8 : decode cX7_delete 8 = .ok (.iconst 1, 1) := by decide +kernel
theorem dX7_delete_9 : decode cX7_delete 9 = .ok (.goto 17, 3) := by decide +kernel
theorem dX7_delete_12 : decode cX7_delete 12 = .ok (.aload_n 0, 1) := by decide +kernel
theorem dX7_delete_13 : decode cX7_delete 13 = .ok (.getfield 109, 3) := by decide +kernel
theorem dX7_delete_16 : decode cX7_delete 16 = .ok (.bipush 100, 2) := by decide +kernel
theorem dX7_delete_18 : decode cX7_delete 18 = .ok (.if_icmp .ne 7, 3) := by decide +kernel
theorem dX7_delete_21 : decode cX7_delete 21 = .ok (.iconst 2, 1) := by decide +kernel
theorem dX7_delete_22 : decode cX7_delete 22 = .ok (.goto 4, 3) := by decide +kernel
theorem dX7_delete_25 : decode cX7_delete 25 = .ok (.iconst 0, 1) := by decide +kernel
theorem dX7_delete_26 : decode cX7_delete 26 = .ok (.putfield 69, 3) := by decide +kernel
theorem dX7_delete_29 : decode cX7_delete 29 = .ok (.aload_n 0, 1) := by decide +kernel
theorem dX7_delete_30 : decode cX7_delete 30 = .ok (.getfield 69, 3) := by decide +kernel
theorem dX7_delete_33 : decode cX7_delete 33 = .ok (.ifCond .le 5, 3) := by decide +kernel
theorem dX7_delete_36 : decode cX7_delete 36 = .ok (.iconst 0, 1) := by decide +kernel
theorem dX7_delete_37 : decode cX7_delete 37 = .ok (.ireturn, 1) := by decide +kernel
theorem dX7_delete_38 : decode cX7_delete 38 = .ok (.aload_n 0, 1) := by decide +kernel
theorem dX7_delete_39 : decode cX7_delete 39 = .ok (.getfield 109, 3) := by decide +kernel
theorem dX7_delete_42 : decode cX7_delete 42 = .ok (.bipush 116, 2) := by decide +kernel
theorem dX7_delete_44 : decode cX7_delete 44 = .ok (.if_icmp .ne 22, 3) := by decide +kernel
theorem dX7_delete_47 : decode cX7_delete 47 = .ok (.aload_n 0, 1) := by decide +kernel
theorem dX7_delete_48 : decode cX7_delete 48 = .ok (.getfield 13, 3) := by decide +kernel
theorem dX7_delete_51 : decode cX7_delete 51 = .ok (.iload_n 1, 1) := by decide +kernel
theorem dX7_delete_52 : decode cX7_delete 52 = .ok (.caload, 1) := by decide +kernel
theorem dX7_delete_53 : decode cX7_delete 53 = .ok (.bipush 101, 2) := by decide +kernel
theorem dX7_delete_55 : decode cX7_delete 55 = .ok (.if_icmp .ne 7, 3) := by decide +kernel
theorem dX7_delete_58 : decode cX7_delete 58 = .ok (.iconst 1, 1) := by decide +kernel
theorem dX7_delete_59 : decode cX7_delete 59 = .ok (.goto 13, 3) := by decide +kernel
theorem dX7_delete_62 : decode cX7_delete 62 = .ok (.iconst 0, 1) := by decide +kernel
theorem dX7_delete_63 : decode cX7_delete 63 = .ok (.goto 9, 3) := by decide +kernel
theorem dX7_delete_66 : decode cX7_delete 66 = .ok (.aload_n 0, 1) := by decide +kernel
theorem dX7_delete_67 : decode cX7_delete 67 = .ok (.getfield 35, 3) := by decide +kernel
theorem dX7_delete_70 : decode cX7_delete 70 = .ok (.iload_n 1, 1) := by decide +kernel
theorem dX7_delete_71 : decode cX7_delete 71 = .ok (.baload, 1) := by decide +kernel
theorem dX7_delete_72 : decode cX7_delete 72 = .ok (.istore_n 2, 1) := by decide +kernel
theorem dX7_delete_73 : decode cX7_delete 73 = .ok (.iload_n 2, 1) := by decide +kernel
theorem dX7_delete_74 : decode cX7_delete 74 = .ok (.ifCond .ne 5, 3) := by decide +kernel
theorem dX7_delete_77 : decode cX7_delete 77 = .ok (.iconst 0, 1) := by decide +kernel
theorem dX7_delete_78 : decode cX7_delete 78 = .ok (.ireturn, 1) := by decide +kernel
theorem dX7_delete_79 : decode cX7_delete 79 = .ok (.aload_n 0, 1) := by decide +kernel
theorem dX7_delete_80 : decode cX7_delete 80 = .ok (.aload_n 0, 1) := by decide +kernel
theorem dX7_delete_81 : decode cX7_delete 81 = .ok (.invokevirtual 190, 3) := by decide +kernel
theorem dX7_delete_84 : decode cX7_delete 84 = .ok (.ifCond .eq 7, 3) := by decide +kernel
theorem dX7_delete_87 : decode cX7_delete 87 = .ok (.iconst 2, 1) := by decide +kernel
theorem dX7_delete_88 : decode cX7_delete 88 = .ok (.goto 4, 3) := by decide +kernel
theorem dX7_delete_91 : decode cX7_delete 91 = .ok (.iconst 0, 1) := by decide +kernel
theorem dX7_delete_92 : decode cX7_delete 92 = .ok (.putfield 69, 3) := by decide +kernel
theorem dX7_delete_95 : decode cX7_delete 95 = .ok (.aload_n 0, 1) := by decide +kernel
theorem dX7_delete_96 : decode cX7_delete 96 = .ok (.getfield 69, 3) := by decide +kernel
theorem dX7_delete_99 : decode cX7_delete 99 = .ok (.ifCond .le 5, 3) := by decide +kernel
theorem dX7_delete_102 : decode cX7_delete 102 = .ok (.iconst 0, 1) := by decide +kernel
theorem dX7_delete_103 : decode cX7_delete 103 = .ok (.ireturn, 1) := by decide +kernel
theorem dX7_delete_104 : decode cX7_delete 104 = .ok (.aload_n 0, 1) := by decide +kernel
theorem dX7_delete_105 : decode cX7_delete 105 = .ok (.getfield 109, 3) := by decide +kernel
theorem dX7_delete_108 : decode cX7_delete 108 = .ok (.bipush 116, 2) := by decide +kernel
theorem dX7_delete_110 : decode cX7_delete 110 = .ok (.if_icmp .ne 21, 3) := by decide +kernel
theorem dX7_delete_113 : decode cX7_delete 113 = .ok (.aload_n 0, 1) := by decide +kernel
theorem dX7_delete_114 : decode cX7_delete 114 = .ok (.iload_n 1, 1) := by decide +kernel
theorem dX7_delete_115 : decode cX7_delete 115 = .ok (.invokevirtual 200, 3) := by decide +kernel
theorem dX7_delete_118 : decode cX7_delete 118 = .ok (.aload_n 0, 1) := by decide +kernel
theorem dX7_delete_119 : decode cX7_delete 119 = .ok (.iload_n 1, 1) := by decide +kernel
theorem dX7_delete_120 : decode cX7_delete 120 = .ok (.bipush 116, 2) := by decide +kernel
theorem dX7_delete_122 : decode cX7_delete 122 = .ok (.aload_n 0, 1) := by decide +kernel
theorem dX7_delete_123 : decode cX7_delete 123 = .ok (.getfield 76, 3) := by decide +kernel
theorem dX7_delete_126 : decode cX7_delete 126 = .ok (.invokevirtual 143, 3) := by decide +kernel
theorem dX7_delete_129 : decode cX7_delete 129 = .ok (.iconst 1, 1) := by decide +kernel
theorem dX7_delete_130 : decode cX7_delete 130 = .ok (.ireturn, 1) := by decide +kernel
theorem dX7_delete_131 : decode cX7_delete 131 = .ok (.aload_n 0, 1) := by decide +kernel
theorem dX7_delete_132 : decode cX7_delete 132 = .ok (.getfield 35, 3) := by decide +kernel
theorem dX7_delete_135 : decode cX7_delete 135 = .ok (.iload_n 1, 1) := by decide +kernel
theorem dX7_delete_136 : decode cX7_delete 136 = .ok (.iconst 0, 1) := by decide +kernel
theorem dX7_delete_137 : decode cX7_delete 137 = .ok (.bastore, 1) := by decide +kernel
theorem dX7_delete_138 : decode cX7_delete 138 = .ok (.aload_n 0, 1) := by decide +kernel
theorem dX7_delete_139 : decode cX7_delete 139 = .ok (.iload_n 1, 1) := by decide +kernel
theorem dX7_delete_140 : decode cX7_delete 140 = .ok (.iconst 1, 1) := by decide +kernel
theorem dX7_delete_141 : decode cX7_delete 141 = .ok (.iconst 0, 1) := by decide +kernel
theorem dX7_delete_142 : decode cX7_delete 142 = .ok (.iconst 0, 1) := by decide +kernel
theorem dX7_delete_143 : decode cX7_delete 143 = .ok (.invokevirtual 196, 3) := by decide +kernel
theorem dX7_delete_146 : decode cX7_delete 146 = .ok (.iconst 1, 1) := by decide +kernel
theorem dX7_delete_147 : decode cX7_delete 147 = .ok (.ireturn, 1) := by decide +kernel
theorem dX7_read_0 : decode cX7_read 0 = .ok (.aload_n 0, 1) := by decide +kernel
theorem dX7_read_1 : decode cX7_read 1 = .ok (.iload_n 1, 1) := by decide +kernel
theorem dX7_read_2 : decode cX7_read 2 = .ok (.invokestatic 187, 3) := by decide +kernel
theorem dX7_read_5 : decode cX7_read 5 = .ok (.ifCond .ne 7, 3) := by decide +kernel
theorem dX7_read_8 : decode cX7_read 8 = .ok (.iconst 1, 1) := by decide +kernel
theorem dX7_read_9 : decode cX7_read 9 = .ok (.goto 38, 3) := by decide +kernel
theorem dX7_read_12 : decode cX7_read 12 = .ok (.aload_n 0, 1) := by decide +kernel
theorem dX7_read_13 : decode cX7_read 13 = .ok (.invokevirtual 184, 3) := by decide +kernel
theorem dX7_read_16 : decode cX7_read 16 = .ok (.ifCond .eq 17, 3) := by decide +kernel
theorem dX7_read_19 : decode cX7_read 19 = .ok (.aload_n 0, 1) := by decide +kernel
theorem dX7_read_20 : decode cX7_read 20 = .ok (.getfield 13, 3) := by decide +kernel
theorem dX7_read_23 : decode cX7_read 23 = .ok (.iload_n 1, 1) := by decide +kernel
theorem dX7_read_24 : decode cX7_read 24 = .ok (.caload, 1) := by decide +kernel
theorem dX7_read_25 : decode cX7_read 25 = .ok (.bipush 101, 2) := by decide +kernel
theorem dX7_read_27 : decode cX7_read 27 = .ok (.if_icmp .eq 19, 3) := by decide +kernel
theorem dX7_read_30 : decode cX7_read 30 = .ok (.goto 12, 3) := by decide +kernel
theorem dX7_read_33 : decode cX7_read 33 = .ok (.aload_n 0, 1) := by decide +kernel
theorem dX7_read_34 : decode cX7_read 34 = .ok (.getfield 35, 3) := by decide +kernel
theorem dX7_read_37 : decode cX7_read 37 = .ok (.iload_n 1, 1) := by decide +kernel
theorem dX7_read_38 : decode cX7_read 38 = .ok (.baload, 1) := by decide +kernel
theorem dX7_read_39 : decode cX7_read 39 = .ok (.ifCond .ne 7, 3) := by decide +kernel
theorem dX7_read_42 : decode cX7_read 42 = .ok (.iconst 2, 1) := by decide +kernel
theorem dX7_read_43 : decode cX7_read 43 = .ok (.goto 4, 3) := by decide +kernel
theorem dX7_read_46 : decode cX7_read 46 = .ok (.iconst 0, 1) := by decide +kernel
theorem dX7_read_47 : decode cX7_read 47 = .ok (.putfield 69, 3) := by decide +kernel
theorem dX7_read_50 : decode cX7_read 50 = .ok (.aload_n 0, 1) := by decide +kernel
theorem dX7_read_51 : decode cX7_read 51 = .ok (.getfield 69, 3) := by decide +kernel
theorem dX7_read_54 : decode cX7_read 54 = .ok (.ifCond .le 5, 3) := by decide +kernel
theorem dX7_read_57 : decode cX7_read 57 = .ok (.iconst 0, 1) := by decide +kernel
theorem dX7_read_58 : decode cX7_read 58 = .ok (.ireturn, 1) := by decide +kernel
theorem dX7_read_59 : decode cX7_read 59 = .ok (.aload_n 0, 1) := by decide +kernel
theorem dX7_read_60 : decode cX7_read 60 = .ok (.invokevirtual 184, 3) := by decide +kernel
theorem dX7_read_63 : decode cX7_read 63 = .ok (.ifCond .eq 25, 3) := by decide +kernel
theorem dX7_read_66 : decode cX7_read 66 = .ok (.iload_n 2, 1) := by decide +kernel
theorem dX7_read_67 : decode cX7_read 67 = .ok (.ifCond .eq 12, 3) := by decide +kernel
theorem dX7_read_70 : decode cX7_read 70 = .ok (.aload_n 0, 1) := by decide +kernel
theorem dX7_read_71 : decode cX7_read 71 = .ok (.getfield 29, 3) := by decide +kernel
theorem dX7_read_74 : decode cX7_read 74 = .ok (.iload_n 1, 1) := by decide +kernel
theorem dX7_read_75 : decode cX7_read 75 = .ok (.iaload, 1) := by decide +kernel
theorem dX7_read_76 : decode cX7_read 76 = .ok (.goto 31, 3) := by decide +kernel
theorem dX7_read_79 : decode cX7_read 79 = .ok (.aload_n 0, 1) := by decide +kernel
theorem dX7_read_80 : decode cX7_read 80 = .ok (.getfield 26, 3) := by decide +kernel
theorem dX7_read_83 : decode cX7_read 83 = .ok (.iload_n 1, 1) := by decide +kernel
theorem dX7_read_84 : decode cX7_read 84 = .ok (.iaload, 1) := by decide +kernel
theorem dX7_read_85 : decode cX7_read 85 = .ok (.goto 22, 3) := by decide +kernel
theorem dX7_read_88 : decode cX7_read 88 = .ok (.iload_n 2, 1) := by decide +kernel
theorem dX7_read_89 : decode cX7_read 89 = .ok (.ifCond .eq 12, 3) := by decide +kernel
theorem dX7_read_92 : decode cX7_read 92 = .ok (.aload_n 0, 1) := by decide +kernel
theorem dX7_read_93 : decode cX7_read 93 = .ok (.getfield 23, 3) := by decide +kernel
theorem dX7_read_96 : decode cX7_read 96 = .ok (.iload_n 1, 1) := by decide +kernel
theorem dX7_read_97 : decode cX7_read 97 = .ok (.iaload, 1) := by decide +kernel
theorem dX7_read_98 : decode cX7_read 98 = .ok (.goto 9, 3) := by decide +kernel
theorem dX7_read_101 : decode cX7_read 101 = .ok (.aload_n 0, 1) := by decide +kernel
theorem dX7_read_102 : decode cX7_read 102 = .ok (.getfield 20, 3) := by decide +kernel
theorem dX7_read_105 : decode cX7_read 105 = .ok (.iload_n 1, 1) := by decide +kernel
theorem dX7_read_106 : decode cX7_read 106 = .ok (.iaload, 1) := by decide +kernel
theorem dX7_read_107 : decode cX7_read 107 = .ok (.ireturn, 1) := by decide +kernel
theorem dX7_nextNumber_0 : decode cX7_nextNumber 0 = .ok (.aload_n 0, 1) := by decide +kernel
theorem dX7_nextNumber_1 : decode cX7_nextNumber 1 = .ok (.aload_n 0, 1) := by decide +kernel
theorem dX7_nextNumber_2 : decode cX7_nextNumber 2 = .ok (.getfield 109, 3) := by decide +kernel
theorem dX7_nextNumber_5 : decode cX7_nextNumber 5 = .ok (.bipush 100, 2) := by decide +kernel
theorem dX7_nextNumber_7 : decode cX7_nextNumber 7 = .ok (.if_icmp .eq 7, 3) := by decide +kernel
theorem dX7_nextNumber_10 : decode cX7_nextNumber 10 = .ok (.iconst 1, 1) := by decide +kernel
theorem dX7_nextNumber_11 : decode cX7_nextNumber 11 = .ok (.goto 4, 3) := by decide +kernel
theorem dX7_nextNumber_14 : decode cX7_nextNumber 14 = .ok (.iconst 0, 1) := by decide +kernel
theorem dX7_nextNumber_15 : decode cX7_nextNumber 15 = .ok (.invokevirtual 158, 3) := by decide +kernel
theorem dX7_nextNumber_18 : decode cX7_nextNumber 18 = .ok (.ifCond .le 5, 3) := by decide +kernel
theorem dX7_nextNumber_21 : decode cX7_nextNumber 21 = .ok (.iconst 0, 1) := by decide +kernel
theorem dX7_nextNumber_22 : decode cX7_nextNumber 22 = .ok (.ireturn, 1) := by decide +kernel
theorem dX7_nextNumber_23 : decode cX7_nextNumber 23 = .ok (.aload_n 0, 1) := by decide +kernel
theorem dX7_nextNumber_24 : decode cX7_nextNumber 24 = .ok (.getfield 109, 3) := by decide +kernel
theorem dX7_nextNumber_27 : decode cX7_nextNumber 27 = .ok (.bipush 116, 2) := by decide +kernel
theorem dX7_nextNumber_29 : decode cX7_nextNumber 29 = .ok (.if_icmp .ne 22, 3) := by decide +kernel
theorem dX7_nextNumber_32 : decode cX7_nextNumber 32 = .ok (.aload_n 0, 1) := by decide +kernel
theorem dX7_nextNumber_33 : decode cX7_nextNumber 33 = .ok (.dup, 1) := by decide +kernel
theorem dX7_nextNumber_34 : decode cX7_nextNumber 34 = .ok (.getfield 97, 3) := by decide +kernel
theorem dX7_nextNumber_37 : decode cX7_nextNumber 37 = .ok (.iconst 1, 1) := by decide +kernel
theorem dX7_nextNumber_38 : decode cX7_nextNumber 38 = .ok (.iadd, 1) := by decide +kernel
theorem dX7_nextNumber_39 : decode cX7_nextNumber 39 = .ok (.putfield 97, 3) := by decide +kernel
theorem dX7_nextNumber_42 : decode cX7_nextNumber 42 = .ok (.iconst 2, 1) := by decide +kernel
theorem dX7_nextNumber_43 : decode cX7_nextNumber 43 = .ok (.aload_n 0, 1) := by decide +kernel
theorem dX7_nextNumber_44 : decode cX7_nextNumber 44 = .ok (.getfield 97, 3) := by decide +kernel
theorem dX7_nextNumber_47 : decode cX7_nextNumber 47 = .ok (.imul, 1) := by decide +kernel
theorem dX7_nextNumber_48 : decode cX7_nextNumber 48 = .ok (.iconst 1, 1) := by decide +kernel
theorem dX7_nextNumber_49 : decode cX7_nextNumber 49 = .ok (.isub, 1) := by decide +kernel
theorem dX7_nextNumber_50 : decode cX7_nextNumber 50 = .ok (.ireturn, 1) := by decide +kernel
theorem dX7_nextNumber_51 : decode cX7_nextNumber 51 = .ok (.aload_n 0, 1) := by decide +kernel
theorem dX7_nextNumber_52 : decode cX7_nextNumber 52 = .ok (.dup, 1) := by decide +kernel
theorem dX7_nextNumber_53 : decode cX7_nextNumber 53 = .ok (.getfield 94, 3) := by decide +kernel
theorem dX7_nextNumber_56 : decode cX7_nextNumber 56 = .ok (.iconst 1, 1) := by decide +kernel
theorem dX7_nextNumber_57 : decode cX7_nextNumber 57 = .ok (.iadd, 1) := by decide +kernel
theorem dX7_nextNumber_58 : decode cX7_nextNumber 58 = .ok (.putfield 94, 3) := by decide +kernel
theorem dX7_nextNumber_61 : decode cX7_nextNumber 61 = .ok (.iconst 2, 1) := by decide +kernel
theorem dX7_nextNumber_62 : decode cX7_nextNumber 62 = .ok (.aload_n 0, 1) := by decide +kernel
theorem dX7_nextNumber_63 : decode cX7_nextNumber 63 = .ok (.getfield 94, 3) := by decide +kernel
theorem dX7_nextNumber_66 : decode cX7_nextNumber 66 = .ok (.imul, 1) := by decide +kernel
theorem dX7_nextNumber_67 : decode cX7_nextNumber 67 = .ok (.iconst 2, 1) := by decide +kernel
theorem dX7_nextNumber_68 : decode cX7_nextNumber 68 = .ok (.isub, 1) := by decide +kernel
theorem dX7_nextNumber_69 : decode cX7_nextNumber 69 = .ok (.ireturn, 1) := by decide +kernel
theorem dX7_freePart_0 : decode cX7_freePart 0 = .ok (.iconst 0, 1) := by decide +kernel
theorem dX7_freePart_1 : decode cX7_freePart 1 = .ok (.istore_n 1, 1) := by decide +kernel
theorem dX7_freePart_2 : decode cX7_freePart 2 = .ok (.iload_n 1, 1) := by decide +kernel
theorem dX7_freePart_3 : decode cX7_freePart 3 = .ok (.bipush 8, 2) := by decide +kernel
theorem dX7_freePart_5 : decode cX7_freePart 5 = .ok (.if_icmp .ge 20, 3) := by decide +kernel
theorem dX7_freePart_8 : decode cX7_freePart 8 = .ok (.aload_n 0, 1) := by decide +kernel
theorem dX7_freePart_9 : decode cX7_freePart 9 = .ok (.getfield 51, 3) := by decide +kernel
theorem dX7_freePart_12 : decode cX7_freePart 12 = .ok (.iload_n 1, 1) := by decide +kernel
theorem dX7_freePart_13 : decode cX7_freePart 13 = .ok (.iaload, 1) := by decide +kernel
theorem dX7_freePart_14 : decode cX7_freePart 14 = .ok (.ifCond .ge 5, 3) := by decide +kernel
theorem dX7_freePart_17 : decode cX7_freePart 17 = .ok (.iload_n 1, 1) := by decide +kernel
theorem dX7_freePart_18 : decode cX7_freePart 18 = .ok (.ireturn, 1) := by decide +kernel
theorem dX7_freePart_19 : decode cX7_freePart 19 = .ok (.iinc 1 1, 3) := by decide +kernel
theorem dX7_freePart_22 : decode cX7_freePart 22 = .ok (.goto (-20), 3) := by decide +kernel
theorem dX7_freePart_25 : decode cX7_freePart 25 = .ok (.iconst (-1), 1) := by decide +kernel
theorem dX7_freePart_26 : decode cX7_freePart 26 = .ok (.ireturn, 1) := by decide +kernel
theorem dX7_readPart_0 : decode cX7_readPart 0 = .ok (.aload_n 0, 1) := by decide +kernel
theorem dX7_readPart_1 : decode cX7_readPart 1 = .ok (.iload_n 1, 1) := by decide +kernel
theorem dX7_readPart_2 : decode cX7_readPart 2 = .ok (.iconst 1, 1) := by decide +kernel
theorem dX7_readPart_3 : decode cX7_readPart 3 = .ok (.bipush 40, 2) := by decide +kernel
theorem dX7_readPart_5 : decode cX7_readPart 5 = .ok (.invokestatic 113, 3) := by decide +kernel
theorem dX7_readPart_8 : decode cX7_readPart 8 = .ok (.ifCond .ne 7, 3) := by decide +kernel
theorem dX7_readPart_11 : decode cX7_readPart 11 = .ok (.iconst 1, 1) := by decide +kernel
theorem dX7_readPart_12 : decode cX7_readPart 12 = .ok (.goto 35, 3) := by decide +kernel
theorem dX7_readPart_15 : decode cX7_readPart 15 = .ok (.aload_n 0, 1) := by decide +kernel
theorem dX7_readPart_16 : decode cX7_readPart 16 = .ok (.getfield 109, 3) := by decide +kernel
theorem dX7_readPart_19 : decode cX7_readPart 19 = .ok (.bipush 99, 2) := by decide +kernel
theorem dX7_readPart_21 : decode cX7_readPart 21 = .ok (.if_icmp .ne 21, 3) := by decide +kernel
theorem dX7_readPart_24 : decode cX7_readPart 24 = .ok (.aload_n 0, 1) := by decide +kernel
theorem dX7_readPart_25 : decode cX7_readPart 25 = .ok (.getfield 85, 3) := by decide +kernel
theorem dX7_readPart_28 : decode cX7_readPart 28 = .ok (.bipush 40, 2) := by decide +kernel
theorem dX7_readPart_30 : decode cX7_readPart 30 = .ok (.if_icmp .eq 12, 3) := by decide +kernel
theorem dX7_readPart_33 : decode cX7_readPart 33 = .ok (.aload_n 0, 1) := by decide +kernel
theorem dX7_readPart_34 : decode cX7_readPart 34 = .ok (.getfield 91, 3) := by decide +kernel
theorem dX7_readPart_37 : decode cX7_readPart 37 = .ok (.bipush 8, 2) := by decide +kernel
theorem dX7_readPart_39 : decode cX7_readPart 39 = .ok (.if_icmp .ne 7, 3) := by decide +kernel
theorem dX7_readPart_42 : decode cX7_readPart 42 = .ok (.iconst 2, 1) := by decide +kernel
theorem dX7_readPart_43 : decode cX7_readPart 43 = .ok (.goto 4, 3) := by decide +kernel
theorem dX7_readPart_46 : decode cX7_readPart 46 = .ok (.iconst 0, 1) := by decide +kernel
theorem dX7_readPart_47 : decode cX7_readPart 47 = .ok (.putfield 69, 3) := by decide +kernel
theorem dX7_readPart_50 : decode cX7_readPart 50 = .ok (.aload_n 0, 1) := by decide +kernel
theorem dX7_readPart_51 : decode cX7_readPart 51 = .ok (.getfield 69, 3) := by decide +kernel
theorem dX7_readPart_54 : decode cX7_readPart 54 = .ok (.ifCond .le 5, 3) := by decide +kernel
theorem dX7_readPart_57 : decode cX7_readPart 57 = .ok (.iconst 0, 1) := by decide +kernel
theorem dX7_readPart_58 : decode cX7_readPart 58 = .ok (.ireturn, 1) := by decide +kernel
theorem dX7_readPart_59 : decode cX7_readPart 59 = .ok (.aload_n 0, 1) := by decide +kernel
theorem dX7_readPart_60 : decode cX7_readPart 60 = .ok (.invokevirtual 203, 3) := by decide +kernel
theorem dX7_readPart_63 : decode cX7_readPart 63 = .ok (.istore_n 2, 1) := by decide +kernel
theorem dX7_readPart_64 : decode cX7_readPart 64 = .ok (.aload_n 0, 1) := by decide +kernel
theorem dX7_readPart_65 : decode cX7_readPart 65 = .ok (.getfield 51, 3) := by decide +kernel
theorem dX7_readPart_68 : decode cX7_readPart 68 = .ok (.iload_n 2, 1) := by decide +kernel
theorem dX7_readPart_69 : decode cX7_readPart 69 = .ok (.aload_n 0, 1) := by decide +kernel
theorem dX7_readPart_70 : decode cX7_readPart 70 = .ok (.getfield 88, 3) := by decide +kernel
theorem dX7_readPart_73 : decode cX7_readPart 73 = .ok (.iastore, 1) := by decide +kernel
theorem dX7_readPart_74 : decode cX7_readPart 74 = .ok (.aload_n 0, 1) := by decide +kernel
theorem dX7_readPart_75 : decode cX7_readPart 75 = .ok (.getfield 54, 3) := by decide +kernel
theorem dX7_readPart_78 : decode cX7_readPart 78 = .ok (.iload_n 2, 1) := by decide +kernel
theorem dX7_readPart_79 : decode cX7_readPart 79 = .ok (.aload_n 0, 1) := by decide +kernel
theorem dX7_readPart_80 : decode cX7_readPart 80 = .ok (.getfield 76, 3) := by decide +kernel
theorem dX7_readPart_83 : decode cX7_readPart 83 = .ok (.iastore, 1) := by decide +kernel
theorem dX7_readPart_84 : decode cX7_readPart 84 = .ok (.aload_n 0, 1) := by decide +kernel
theorem dX7_readPart_85 : decode cX7_readPart 85 = .ok (.getfield 85, 3) := by decide +kernel
theorem dX7_readPart_88 : decode cX7_readPart 88 = .ok (.iload_n 1, 1) := by decide +kernel
theorem dX7_readPart_89 : decode cX7_readPart 89 = .ok (.iadd, 1) := by decide +kernel
theorem dX7_readPart_90 : decode cX7_readPart 90 = .ok (.bipush 40, 2) := by decide +kernel
theorem dX7_readPart_92 : decode cX7_readPart 92 = .ok (.if_icmp .ge 12, 3) := by decide +kernel
theorem dX7_readPart_95 : decode cX7_readPart 95 = .ok (.aload_n 0, 1) := by decide +kernel
theorem dX7_readPart_96 : decode cX7_readPart 96 = .ok (.getfield 85, 3) := by decide +kernel
theorem dX7_readPart_99 : decode cX7_readPart 99 = .ok (.iload_n 1, 1) := by decide +kernel
theorem dX7_readPart_100 : decode cX7_readPart 100 = .ok (.iadd, 1) := by decide +kernel
theorem dX7_readPart_101 : decode cX7_readPart 101 = .ok (.goto 5, 3) := by decide +kernel
theorem dX7_readPart_104 : decode cX7_readPart 104 = .ok (.bipush 40, 2) := by decide +kernel
theorem dX7_readPart_106 : decode cX7_readPart 106 = .ok (.istore_n 3, 1) := by decide +kernel
theorem dX7_readPart_107 : decode cX7_readPart 107 = .ok (.iconst 0, 1) := by decide +kernel
theorem dX7_readPart_108 : decode cX7_readPart 108 = .ok (.istore 4, 2) := by decide +kernel
theorem dX7_readPart_110 : decode cX7_readPart 110 = .ok (.iload 4, 2) := by decide +kernel
theorem dX7_readPart_112 : decode cX7_readPart 112 = .ok (.bipush 40, 2) := by decide +kernel
theorem dX7_readPart_114 : decode cX7_readPart 114 = .ok (.if_icmp .ge 89, 3) := by decide +kernel
theorem dX7_readPart_117 : decode cX7_readPart 117 = .ok (.aload_n 0, 1) := by decide +kernel
theorem dX7_readPart_118 : decode cX7_readPart 118 = .ok (.getfield 66, 3) := by decide +kernel
theorem dX7_readPart_121 : decode cX7_readPart 121 = .ok (.bipush 40, 2) := by decide +kernel
theorem dX7_readPart_123 : decode cX7_readPart 123 = .ok (.iload_n 2, 1) := by decide +kernel
theorem dX7_readPart_124 : decode cX7_readPart 124 = .ok (.imul, 1) := by decide +kernel
theorem dX7_readPart_125 : decode cX7_readPart 125 = .ok (.iload 4, 2) := by decide +kernel
theorem dX7_readPart_127 : decode cX7_readPart 127 = .ok (.iadd, 1) := by decide +kernel
theorem dX7_readPart_128 : decode cX7_readPart 128 = .ok (.iload 4, 2) := by decide +kernel
theorem dX7_readPart_130 : decode cX7_readPart 130 = .ok (.aload_n 0, 1) := by decide +kernel
theorem dX7_readPart_131 : decode cX7_readPart 131 = .ok (.getfield 85, 3) := by decide +kernel
theorem dX7_readPart_134 : decode cX7_readPart 134 = .ok (.iload_n 3, 1) := by decide +kernel
theorem dX7_readPart_135 : decode cX7_readPart 135 = .ok (.iconst 1, 1) := by decide +kernel
theorem dX7_readPart_136 : decode cX7_readPart 136 = .ok (.isub, 1) := by decide +kernel
theorem dX7_readPart_137 : decode cX7_readPart 137 = .ok (.invokestatic 113, 3) := by decide +kernel
theorem dX7_readPart_140 : decode cX7_readPart 140 = .ok (.ifCond .eq 17, 3) := by decide +kernel
theorem dX7_readPart_143 : decode cX7_readPart 143 = .ok (.aload_n 0, 1) := by decide +kernel
theorem dX7_readPart_144 : decode cX7_readPart 144 = .ok (.getfield 35, 3) := by decide +kernel
theorem dX7_readPart_147 : decode cX7_readPart 147 = .ok (.iload 4, 2) := by decide +kernel
theorem dX7_readPart_149 : decode cX7_readPart 149 = .ok (.baload, 1) := by decide +kernel
theorem dX7_readPart_150 : decode cX7_readPart 150 = .ok (.ifCond .eq 7, 3) := by decide +kernel
theorem dX7_readPart_153 : decode cX7_readPart 153 = .ok (.iconst 1, 1) := by decide +kernel
theorem dX7_readPart_154 : decode cX7_readPart 154 = .ok (.goto 4, 3) := by decide +kernel
theorem dX7_readPart_157 : decode cX7_readPart 157 = .ok (.iconst 0, 1) := by decide +kernel
theorem dX7_readPart_158 : decode cX7_readPart 158 = .ok (.bastore, 1) := by decide +kernel
theorem dX7_readPart_159 : decode cX7_readPart 159 = .ok (.aload_n 0, 1) := by decide +kernel
theorem dX7_readPart_160 : decode cX7_readPart 160 = .ok (.getfield 57, 3) := by decide +kernel
theorem dX7_readPart_163 : decode cX7_readPart 163 = .ok (.bipush 40, 2) := by decide +kernel
theorem dX7_readPart_165 : decode cX7_readPart 165 = .ok (.iload_n 2, 1) := by decide +kernel
theorem dX7_readPart_166 : decode cX7_readPart 166 = .ok (.imul, 1) := by decide +kernel
theorem dX7_readPart_167 : decode cX7_readPart 167 = .ok (.iload 4, 2) := by decide +kernel
theorem dX7_readPart_169 : decode cX7_readPart 169 = .ok (.iadd, 1) := by decide +kernel
theorem dX7_readPart_170 : decode cX7_readPart 170 = .ok (.aload_n 0, 1) := by decide +kernel
theorem dX7_readPart_171 : decode cX7_readPart 171 = .ok (.getfield 20, 3) := by decide +kernel
theorem dX7_readPart_174 : decode cX7_readPart 174 = .ok (.iload 4, 2) := by decide +kernel
theorem dX7_readPart_176 : decode cX7_readPart 176 = .ok (.iaload, 1) := by decide +kernel
theorem dX7_readPart_177 : decode cX7_readPart 177 = .ok (.iastore, 1) := by decide +kernel
theorem dX7_readPart_178 : decode cX7_readPart 178 = .ok (.aload_n 0, 1) := by decide +kernel
theorem dX7_readPart_179 : decode cX7_readPart 179 = .ok (.getfield 60, 3) := by decide +kernel
theorem dX7_readPart_182 : decode cX7_readPart 182 = .ok (.bipush 40, 2) := by decide +kernel
theorem dX7_readPart_184 : decode cX7_readPart 184 = .ok (.iload_n 2, 1) := by decide +kernel
theorem dX7_readPart_185 : decode cX7_readPart 185 = .ok (.imul, 1) := by decide +kernel
theorem dX7_readPart_186 : decode cX7_readPart 186 = .ok (.iload 4, 2) := by decide +kernel
theorem dX7_readPart_188 : decode cX7_readPart 188 = .ok (.iadd, 1) := by decide +kernel
theorem dX7_readPart_189 : decode cX7_readPart 189 = .ok (.aload_n 0, 1) := by decide +kernel
theorem dX7_readPart_190 : decode cX7_readPart 190 = .ok (.getfield 23, 3) := by decide +kernel
theorem dX7_readPart_193 : decode cX7_readPart 193 = .ok (.iload 4, 2) := by decide +kernel
theorem dX7_readPart_195 : decode cX7_readPart 195 = .ok (.iaload, 1) := by decide +kernel
theorem dX7_readPart_196 : decode cX7_readPart 196 = .ok (.iastore, 1) := by decide +kernel
theorem dX7_readPart_197 : decode cX7_readPart 197 = .ok (.iinc 4 1, 3) := by decide +kernel
theorem dX7_readPart_200 : decode cX7_readPart 200 = .ok (.goto (-90), 3) := by decide +kernel
theorem dX7_readPart_203 : decode cX7_readPart 203 = .ok (.aload_n 0, 1) := by decide +kernel
theorem dX7_readPart_204 : decode cX7_readPart 204 = .ok (.iload_n 3, 1) := by decide +kernel
theorem dX7_readPart_205 : decode cX7_readPart 205 = .ok (.putfield 85, 3) := by decide +kernel
theorem dX7_readPart_208 : decode cX7_readPart 208 = .ok (.aload_n 0, 1) := by decide +kernel
theorem dX7_readPart_209 : decode cX7_readPart 209 = .ok (.dup, 1) := by decide +kernel
theorem dX7_readPart_210 : decode cX7_readPart 210 = .ok (.getfield 88, 3) := by decide +kernel
theorem dX7_readPart_213 : decode cX7_readPart 213 = .ok (.iconst 1, 1) := by decide +kernel
theorem dX7_readPart_214 : decode cX7_readPart 214 = .ok (.iadd, 1) := by decide +kernel
theorem dX7_readPart_215 : decode cX7_readPart 215 = .ok (.putfield 88, 3) := by decide +kernel
theorem dX7_readPart_218 : decode cX7_readPart 218 = .ok (.aload_n 0, 1) := by decide +kernel
theorem dX7_readPart_219 : decode cX7_readPart 219 = .ok (.dup, 1) := by decide +kernel
theorem dX7_readPart_220 : decode cX7_readPart 220 = .ok (.getfield 91, 3) := by decide +kernel
theorem dX7_readPart_223 : decode cX7_readPart 223 = .ok (.iconst 1, 1) := by decide +kernel
theorem dX7_readPart_224 : decode cX7_readPart 224 = .ok (.iadd, 1) := by decide +kernel
theorem dX7_readPart_225 : decode cX7_readPart 225 = .ok (.putfield 91, 3) := by decide +kernel
theorem dX7_readPart_228 : decode cX7_readPart 228 = .ok (.aload_n 0, 1) := by decide +kernel
theorem dX7_readPart_229 : decode cX7_readPart 229 = .ok (.getfield 88, 3) := by decide +kernel
theorem dX7_readPart_232 : decode cX7_readPart 232 = .ok (.iconst 1, 1) := by decide +kernel
theorem dX7_readPart_233 : decode cX7_readPart 233 = .ok (.isub, 1) := by decide +kernel
theorem dX7_readPart_234 : decode cX7_readPart 234 = .ok (.ireturn, 1) := by decide +kernel
theorem dX7_placeOf_0 : decode cX7_placeOf 0 = .ok (.iconst 0, 1) := by decide +kernel
theorem dX7_placeOf_1 : decode cX7_placeOf 1 = .ok (.istore_n 2, 1) := by decide +kernel
theorem dX7_placeOf_2 : decode cX7_placeOf 2 = .ok (.iload_n 2, 1) := by decide +kernel
theorem dX7_placeOf_3 : decode cX7_placeOf 3 = .ok (.bipush 8, 2) := by decide +kernel
theorem dX7_placeOf_5 : decode cX7_placeOf 5 = .ok (.if_icmp .ge 21, 3) := by decide +kernel
theorem dX7_placeOf_8 : decode cX7_placeOf 8 = .ok (.aload_n 0, 1) := by decide +kernel
theorem dX7_placeOf_9 : decode cX7_placeOf 9 = .ok (.getfield 51, 3) := by decide +kernel
theorem dX7_placeOf_12 : decode cX7_placeOf 12 = .ok (.iload_n 2, 1) := by decide +kernel
theorem dX7_placeOf_13 : decode cX7_placeOf 13 = .ok (.iaload, 1) := by decide +kernel
theorem dX7_placeOf_14 : decode cX7_placeOf 14 = .ok (.iload_n 1, 1) := by decide +kernel
theorem dX7_placeOf_15 : decode cX7_placeOf 15 = .ok (.if_icmp .ne 5, 3) := by decide +kernel
theorem dX7_placeOf_18 : decode cX7_placeOf 18 = .ok (.iload_n 2, 1) := by decide +kernel
theorem dX7_placeOf_19 : decode cX7_placeOf 19 = .ok (.ireturn, 1) := by decide +kernel
theorem dX7_placeOf_20 : decode cX7_placeOf 20 = .ok (.iinc 2 1, 3) := by decide +kernel
theorem dX7_placeOf_23 : decode cX7_placeOf 23 = .ok (.goto (-21), 3) := by decide +kernel
theorem dX7_placeOf_26 : decode cX7_placeOf 26 = .ok (.iconst (-1), 1) := by decide +kernel
theorem dX7_placeOf_27 : decode cX7_placeOf 27 = .ok (.ireturn, 1) := by decide +kernel
theorem dX7_putDown_0 : decode cX7_putDown 0 = .ok (.aload_n 0, 1) := by decide +kernel
theorem dX7_putDown_1 : decode cX7_putDown 1 = .ok (.iload_n 1, 1) := by decide +kernel
theorem dX7_putDown_2 : decode cX7_putDown 2 = .ok (.ifCond .lt 15, 3) := by decide +kernel
theorem dX7_putDown_5 : decode cX7_putDown 5 = .ok (.aload_n 0, 1) := by decide +kernel
theorem dX7_putDown_6 : decode cX7_putDown 6 = .ok (.iload_n 1, 1) := by decide +kernel
theorem dX7_putDown_7 : decode cX7_putDown 7 = .ok (.invokevirtual 206, 3) := by decide +kernel
theorem dX7_putDown_10 : decode cX7_putDown 10 = .ok (.ifCond .lt 7, 3) := by decide +kernel
theorem dX7_putDown_13 : decode cX7_putDown 13 = .ok (.iconst 1, 1) := by decide +kernel
theorem dX7_putDown_14 : decode cX7_putDown 14 = .ok (.goto 4, 3) := by decide +kernel
theorem dX7_putDown_17 : decode cX7_putDown 17 = .ok (.iconst 0, 1) := by decide +kernel
theorem dX7_putDown_18 : decode cX7_putDown 18 = .ok (.invokevirtual 158, 3) := by decide +kernel
theorem dX7_putDown_21 : decode cX7_putDown 21 = .ok (.ifCond .le 5, 3) := by decide +kernel
theorem dX7_putDown_24 : decode cX7_putDown 24 = .ok (.iconst 0, 1) := by decide +kernel
theorem dX7_putDown_25 : decode cX7_putDown 25 = .ok (.ireturn, 1) := by decide +kernel
theorem dX7_putDown_26 : decode cX7_putDown 26 = .ok (.aload_n 0, 1) := by decide +kernel
theorem dX7_putDown_27 : decode cX7_putDown 27 = .ok (.iload_n 1, 1) := by decide +kernel
theorem dX7_putDown_28 : decode cX7_putDown 28 = .ok (.invokevirtual 206, 3) := by decide +kernel
theorem dX7_putDown_31 : decode cX7_putDown 31 = .ok (.istore_n 2, 1) := by decide +kernel
theorem dX7_putDown_32 : decode cX7_putDown 32 = .ok (.iconst 0, 1) := by decide +kernel
theorem dX7_putDown_33 : decode cX7_putDown 33 = .ok (.istore_n 3, 1) := by decide +kernel
theorem dX7_putDown_34 : decode cX7_putDown 34 = .ok (.iconst 0, 1) := by decide +kernel
theorem dX7_putDown_35 : decode cX7_putDown 35 = .ok (.istore 4, 2) := by decide +kernel
theorem dX7_putDown_37 : decode cX7_putDown 37 = .ok (.iload 4, 2) := by decide +kernel
theorem dX7_putDown_39 : decode cX7_putDown 39 = .ok (.bipush 40, 2) := by decide +kernel
theorem dX7_putDown_41 : decode cX7_putDown 41 = .ok (.if_icmp .ge 66, 3) := by decide +kernel
theorem dX7_putDown_44 : decode cX7_putDown 44 = .ok (.aload_n 0, 1) := by decide +kernel
theorem dX7_putDown_45 : decode cX7_putDown 45 = .ok (.getfield 66, 3) := by decide +kernel
theorem dX7_putDown_48 : decode cX7_putDown 48 = .ok (.bipush 40, 2) := by decide +kernel
theorem dX7_putDown_50 : decode cX7_putDown 50 = .ok (.iload_n 2, 1) := by decide +kernel
theorem dX7_putDown_51 : decode cX7_putDown 51 = .ok (.imul, 1) := by decide +kernel
theorem dX7_putDown_52 : decode cX7_putDown 52 = .ok (.iload 4, 2) := by decide +kernel
theorem dX7_putDown_54 : decode cX7_putDown 54 = .ok (.iadd, 1) := by decide +kernel
theorem dX7_putDown_55 : decode cX7_putDown 55 = .ok (.baload, 1) := by decide +kernel
theorem dX7_putDown_56 : decode cX7_putDown 56 = .ok (.ifCond .eq 45, 3) := by decide +kernel
theorem dX7_putDown_59 : decode cX7_putDown 59 = .ok (.aload_n 0, 1) := by decide +kernel
theorem dX7_putDown_60 : decode cX7_putDown 60 = .ok (.iload 4, 2) := by decide +kernel
theorem dX7_putDown_62 : decode cX7_putDown 62 = .ok (.aload_n 0, 1) := by decide +kernel
theorem dX7_putDown_63 : decode cX7_putDown 63 = .ok (.getfield 57, 3) := by decide +kernel
theorem dX7_putDown_66 : decode cX7_putDown 66 = .ok (.bipush 40, 2) := by decide +kernel
theorem dX7_putDown_68 : decode cX7_putDown 68 = .ok (.iload_n 2, 1) := by decide +kernel
theorem dX7_putDown_69 : decode cX7_putDown 69 = .ok (.imul, 1) := by decide +kernel
theorem dX7_putDown_70 : decode cX7_putDown 70 = .ok (.iload 4, 2) := by decide +kernel
theorem dX7_putDown_72 : decode cX7_putDown 72 = .ok (.iadd, 1) := by decide +kernel
theorem dX7_putDown_73 : decode cX7_putDown 73 = .ok (.iaload, 1) := by decide +kernel
theorem dX7_putDown_74 : decode cX7_putDown 74 = .ok (.aload_n 0, 1) := by decide +kernel
theorem dX7_putDown_75 : decode cX7_putDown 75 = .ok (.getfield 60, 3) := by decide +kernel
theorem dX7_putDown_78 : decode cX7_putDown 78 = .ok (.bipush 40, 2) := by decide +kernel
theorem dX7_putDown_80 : decode cX7_putDown 80 = .ok (.iload_n 2, 1) := by decide +kernel
theorem dX7_putDown_81 : decode cX7_putDown 81 = .ok (.imul, 1) := by decide +kernel
theorem dX7_putDown_82 : decode cX7_putDown 82 = .ok (.iload 4, 2) := by decide +kernel
theorem dX7_putDown_84 : decode cX7_putDown 84 = .ok (.iadd, 1) := by decide +kernel
theorem dX7_putDown_85 : decode cX7_putDown 85 = .ok (.iaload, 1) := by decide +kernel
theorem dX7_putDown_86 : decode cX7_putDown 86 = .ok (.aload_n 0, 1) := by decide +kernel
theorem dX7_putDown_87 : decode cX7_putDown 87 = .ok (.getfield 54, 3) := by decide +kernel
theorem dX7_putDown_90 : decode cX7_putDown 90 = .ok (.iload_n 2, 1) := by decide +kernel
theorem dX7_putDown_91 : decode cX7_putDown 91 = .ok (.iaload, 1) := by decide +kernel
theorem dX7_putDown_92 : decode cX7_putDown 92 = .ok (.invokevirtual 151, 3) := by decide +kernel
theorem dX7_putDown_95 : decode cX7_putDown 95 = .ok (.ifCond .eq 6, 3) := by decide +kernel
theorem dX7_putDown_98 : decode cX7_putDown 98 = .ok (.iinc 3 1, 3) := by decide +kernel
theorem dX7_putDown_101 : decode cX7_putDown 101 = .ok (.iinc 4 1, 3) := by decide +kernel
theorem dX7_putDown_104 : decode cX7_putDown 104 = .ok (.goto (-67), 3) := by decide +kernel
theorem dX7_putDown_107 : decode cX7_putDown 107 = .ok (.aload_n 0, 1) := by decide +kernel
theorem dX7_putDown_108 : decode cX7_putDown 108 = .ok (.getfield 51, 3) := by decide +kernel
theorem dX7_putDown_111 : decode cX7_putDown 111 = .ok (.iload_n 2, 1) := by decide +kernel
theorem dX7_putDown_112 : decode cX7_putDown 112 = .ok (.iconst (-1), 1) := by decide +kernel
theorem dX7_putDown_113 : decode cX7_putDown 113 = .ok (.iastore, 1) := by decide +kernel
theorem dX7_putDown_114 : decode cX7_putDown 114 = .ok (.aload_n 0, 1) := by decide +kernel
theorem dX7_putDown_115 : decode cX7_putDown 115 = .ok (.dup, 1) := by decide +kernel
theorem dX7_putDown_116 : decode cX7_putDown 116 = .ok (.getfield 91, 3) := by decide +kernel
theorem dX7_putDown_119 : decode cX7_putDown 119 = .ok (.iconst 1, 1) := by decide +kernel
theorem dX7_putDown_120 : decode cX7_putDown 120 = .ok (.isub, 1) := by decide +kernel
theorem dX7_putDown_121 : decode cX7_putDown 121 = .ok (.putfield 91, 3) := by decide +kernel
theorem dX7_putDown_124 : decode cX7_putDown 124 = .ok (.iload_n 3, 1) := by decide +kernel
theorem dX7_putDown_125 : decode cX7_putDown 125 = .ok (.ireturn, 1) := by decide +kernel
theorem dX7_follow_0 : decode cX7_follow 0 = .ok (.aload_n 0, 1) := by decide +kernel
theorem dX7_follow_1 : decode cX7_follow 1 = .ok (.iload_n 1, 1) := by decide +kernel
theorem dX7_follow_2 : decode cX7_follow 2 = .ok (.iconst 1, 1) := by decide +kernel
theorem dX7_follow_3 : decode cX7_follow 3 = .ok (.bipush 120, 2) := by decide +kernel
theorem dX7_follow_5 : decode cX7_follow 5 = .ok (.invokestatic 113, 3) := by decide +kernel
theorem dX7_follow_8 : decode cX7_follow 8 = .ok (.ifCond .ne 7, 3) := by decide +kernel
theorem dX7_follow_11 : decode cX7_follow 11 = .ok (.iconst 1, 1) := by decide +kernel
theorem dX7_follow_12 : decode cX7_follow 12 = .ok (.goto 17, 3) := by decide +kernel
theorem dX7_follow_15 : decode cX7_follow 15 = .ok (.aload_n 0, 1) := by decide +kernel
theorem dX7_follow_16 : decode cX7_follow 16 = .ok (.getfield 109, 3) := by decide +kernel
theorem dX7_follow_19 : decode cX7_follow 19 = .ok (.bipush 99, 2) := by decide +kernel
theorem dX7_follow_21 : decode cX7_follow 21 = .ok (.if_icmp .eq 7, 3) := by decide +kernel
theorem dX7_follow_24 : decode cX7_follow 24 = .ok (.iconst 2, 1) := by decide +kernel
theorem dX7_follow_25 : decode cX7_follow 25 = .ok (.goto 4, 3) := by decide +kernel
theorem dX7_follow_28 : decode cX7_follow 28 = .ok (.iconst 0, 1) := by decide +kernel
theorem dX7_follow_29 : decode cX7_follow 29 = .ok (.putfield 69, 3) := by decide +kernel
theorem dX7_follow_32 : decode cX7_follow 32 = .ok (.aload_n 0, 1) := by decide +kernel
theorem dX7_follow_33 : decode cX7_follow 33 = .ok (.getfield 69, 3) := by decide +kernel
theorem dX7_follow_36 : decode cX7_follow 36 = .ok (.ifCond .le 5, 3) := by decide +kernel
theorem dX7_follow_39 : decode cX7_follow 39 = .ok (.iconst 0, 1) := by decide +kernel
theorem dX7_follow_40 : decode cX7_follow 40 = .ok (.ireturn, 1) := by decide +kernel
theorem dX7_follow_41 : decode cX7_follow 41 = .ok (.iconst 0, 1) := by decide +kernel
theorem dX7_follow_42 : decode cX7_follow 42 = .ok (.istore_n 2, 1) := by decide +kernel
theorem dX7_follow_43 : decode cX7_follow 43 = .ok (.iload_n 2, 1) := by decide +kernel
theorem dX7_follow_44 : decode cX7_follow 44 = .ok (.iload_n 1, 1) := by decide +kernel
theorem dX7_follow_45 : decode cX7_follow 45 = .ok (.if_icmp .ge 24, 3) := by decide +kernel
theorem dX7_follow_48 : decode cX7_follow 48 = .ok (.aload_n 0, 1) := by decide +kernel
theorem dX7_follow_49 : decode cX7_follow 49 = .ok (.getfield 79, 3) := by decide +kernel
theorem dX7_follow_52 : decode cX7_follow 52 = .ok (.aload_n 0, 1) := by decide +kernel
theorem dX7_follow_53 : decode cX7_follow 53 = .ok (.getfield 76, 3) := by decide +kernel
theorem dX7_follow_56 : decode cX7_follow 56 = .ok (.if_icmp .ge 13, 3) := by decide +kernel
theorem dX7_follow_59 : decode cX7_follow 59 = .ok (.aload_n 0, 1) := by decide +kernel
theorem dX7_follow_60 : decode cX7_follow 60 = .ok (.invokevirtual 155, 3) := by decide +kernel
theorem dX7_follow_63 : decode cX7_follow 63 = .ok (.iinc 2 1, 3) := by decide +kernel
theorem dX7_follow_66 : decode cX7_follow 66 = .ok (.goto (-23), 3) := by decide +kernel
theorem dX7_follow_69 : decode cX7_follow 69 = .ok (.iload_n 2, 1) := by decide +kernel
theorem dX7_follow_70 : decode cX7_follow 70 = .ok (.ireturn, 1) := by decide +kernel
theorem dX7_left_0 : decode cX7_left 0 = .ok (.aload_n 0, 1) := by decide +kernel
theorem dX7_left_1 : decode cX7_left 1 = .ok (.bipush 40, 2) := by decide +kernel
theorem dX7_left_3 : decode cX7_left 3 = .ok (.aload_n 0, 1) := by decide +kernel
theorem dX7_left_4 : decode cX7_left 4 = .ok (.getfield 85, 3) := by decide +kernel
theorem dX7_left_7 : decode cX7_left 7 = .ok (.isub, 1) := by decide +kernel
theorem dX7_left_8 : decode cX7_left 8 = .ok (.invokevirtual 210, 3) := by decide +kernel
theorem dX7_left_11 : decode cX7_left 11 = .ok (.ireturn, 1) := by decide +kernel
theorem dX7_behind_0 : decode cX7_behind 0 = .ok (.aload_n 0, 1) := by decide +kernel
theorem dX7_behind_1 : decode cX7_behind 1 = .ok (.aload_n 0, 1) := by decide +kernel
theorem dX7_behind_2 : decode cX7_behind 2 = .ok (.getfield 76, 3) := by decide +kernel
theorem dX7_behind_5 : decode cX7_behind 5 = .ok (.aload_n 0, 1) := by decide +kernel
theorem dX7_behind_6 : decode cX7_behind 6 = .ok (.getfield 79, 3) := by decide +kernel
theorem dX7_behind_9 : decode cX7_behind 9 = .ok (.isub, 1) := by decide +kernel
theorem dX7_behind_10 : decode cX7_behind 10 = .ok (.invokevirtual 210, 3) := by decide +kernel
theorem dX7_behind_13 : decode cX7_behind 13 = .ok (.ireturn, 1) := by decide +kernel
theorem dX7_parts_0 : decode cX7_parts 0 = .ok (.aload_n 0, 1) := by decide +kernel
theorem dX7_parts_1 : decode cX7_parts 1 = .ok (.aload_n 0, 1) := by decide +kernel
theorem dX7_parts_2 : decode cX7_parts 2 = .ok (.getfield 91, 3) := by decide +kernel
theorem dX7_parts_5 : decode cX7_parts 5 = .ok (.invokevirtual 210, 3) := by decide +kernel
theorem dX7_parts_8 : decode cX7_parts 8 = .ok (.ireturn, 1) := by decide +kernel
theorem dX7_stateOf_0 : decode cX7_stateOf 0 = .ok (.aload_n 0, 1) := by decide +kernel
theorem dX7_stateOf_1 : decode cX7_stateOf 1 = .ok (.getfield 13, 3) := by decide +kernel
theorem dX7_stateOf_4 : decode cX7_stateOf 4 = .ok (.iload_n 1, 1) := by decide +kernel
theorem dX7_stateOf_5 : decode cX7_stateOf 5 = .ok (.caload, 1) := by decide +kernel
theorem dX7_stateOf_6 : decode cX7_stateOf 6 = .ok (.bipush 101, 2) := by decide +kernel
theorem dX7_stateOf_8 : decode cX7_stateOf 8 = .ok (.if_icmp .ne 7, 3) := by decide +kernel
theorem dX7_stateOf_11 : decode cX7_stateOf 11 = .ok (.iconst 1, 1) := by decide +kernel
theorem dX7_stateOf_12 : decode cX7_stateOf 12 = .ok (.goto 4, 3) := by decide +kernel
theorem dX7_stateOf_15 : decode cX7_stateOf 15 = .ok (.iconst 0, 1) := by decide +kernel
theorem dX7_stateOf_16 : decode cX7_stateOf 16 = .ok (.istore_n 2, 1) := by decide +kernel
theorem dX7_stateOf_17 : decode cX7_stateOf 17 = .ok (.aload_n 0, 1) := by decide +kernel
theorem dX7_stateOf_18 : decode cX7_stateOf 18 = .ok (.getfield 13, 3) := by decide +kernel
theorem dX7_stateOf_21 : decode cX7_stateOf 21 = .ok (.iload_n 1, 1) := by decide +kernel
theorem dX7_stateOf_22 : decode cX7_stateOf 22 = .ok (.caload, 1) := by decide +kernel
theorem dX7_stateOf_23 : decode cX7_stateOf 23 = .ok (.bipush 97, 2) := by decide +kernel
theorem dX7_stateOf_25 : decode cX7_stateOf 25 = .ok (.if_icmp .ne 6, 3) := by decide +kernel
theorem dX7_stateOf_28 : decode cX7_stateOf 28 = .ok (.bipush 97, 2) := by decide +kernel
theorem dX7_stateOf_30 : decode cX7_stateOf 30 = .ok (.ireturn, 1) := by decide +kernel
theorem dX7_stateOf_31 : decode cX7_stateOf 31 = .ok (.aload_n 0, 1) := by decide +kernel
theorem dX7_stateOf_32 : decode cX7_stateOf 32 = .ok (.getfield 35, 3) := by decide +kernel
theorem dX7_stateOf_35 : decode cX7_stateOf 35 = .ok (.iload_n 1, 1) := by decide +kernel
theorem dX7_stateOf_36 : decode cX7_stateOf 36 = .ok (.baload, 1) := by decide +kernel
theorem dX7_stateOf_37 : decode cX7_stateOf 37 = .ok (.ifCond .ne 15, 3) := by decide +kernel
theorem dX7_stateOf_40 : decode cX7_stateOf 40 = .ok (.iload_n 2, 1) := by decide +kernel
theorem dX7_stateOf_41 : decode cX7_stateOf 41 = .ok (.ifCond .eq 8, 3) := by decide +kernel
theorem dX7_stateOf_44 : decode cX7_stateOf 44 = .ok (.bipush 116, 2) := by decide +kernel
theorem dX7_stateOf_46 : decode cX7_stateOf 46 = .ok (.goto 5, 3) := by decide +kernel
theorem dX7_stateOf_49 : decode cX7_stateOf 49 = .ok (.bipush 110, 2) := by decide +kernel
theorem dX7_stateOf_51 : decode cX7_stateOf 51 = .ok (.ireturn, 1) := by decide +kernel
theorem dX7_stateOf_52 : decode cX7_stateOf 52 = .ok (.iload_n 2, 1) := by decide +kernel
theorem dX7_stateOf_53 : decode cX7_stateOf 53 = .ok (.ifCond .ne 6, 3) := by decide +kernel
theorem dX7_stateOf_56 : decode cX7_stateOf 56 = .ok (.bipush 115, 2) := by decide +kernel
theorem dX7_stateOf_58 : decode cX7_stateOf 58 = .ok (.ireturn, 1) := by decide +kernel
theorem dX7_stateOf_59 : decode cX7_stateOf 59 = .ok (.aload_n 0, 1) := by decide +kernel
theorem dX7_stateOf_60 : decode cX7_stateOf 60 = .ok (.aload_n 0, 1) := by decide +kernel
theorem dX7_stateOf_61 : decode cX7_stateOf 61 = .ok (.getfield 20, 3) := by decide +kernel
theorem dX7_stateOf_64 : decode cX7_stateOf 64 = .ok (.iload_n 1, 1) := by decide +kernel
theorem dX7_stateOf_65 : decode cX7_stateOf 65 = .ok (.iaload, 1) := by decide +kernel
theorem dX7_stateOf_66 : decode cX7_stateOf 66 = .ok (.aload_n 0, 1) := by decide +kernel
theorem dX7_stateOf_67 : decode cX7_stateOf 67 = .ok (.getfield 23, 3) := by decide +kernel
theorem dX7_stateOf_70 : decode cX7_stateOf 70 = .ok (.iload_n 1, 1) := by decide +kernel
theorem dX7_stateOf_71 : decode cX7_stateOf 71 = .ok (.iaload, 1) := by decide +kernel
theorem dX7_stateOf_72 : decode cX7_stateOf 72 = .ok (.invokevirtual 140, 3) := by decide +kernel
theorem dX7_stateOf_75 : decode cX7_stateOf 75 = .ok (.ifCond .eq 34, 3) := by decide +kernel
theorem dX7_stateOf_78 : decode cX7_stateOf 78 = .ok (.aload_n 0, 1) := by decide +kernel
theorem dX7_stateOf_79 : decode cX7_stateOf 79 = .ok (.getfield 103, 3) := by decide +kernel
theorem dX7_stateOf_82 : decode cX7_stateOf 82 = .ok (.aload_n 0, 1) := by decide +kernel
theorem dX7_stateOf_83 : decode cX7_stateOf 83 = .ok (.getfield 26, 3) := by decide +kernel
theorem dX7_stateOf_86 : decode cX7_stateOf 86 = .ok (.iload_n 1, 1) := by decide +kernel
theorem dX7_stateOf_87 : decode cX7_stateOf 87 = .ok (.iaload, 1) := by decide +kernel
theorem dX7_stateOf_88 : decode cX7_stateOf 88 = .ok (.if_icmp .ne 21, 3) := by decide +kernel
theorem dX7_stateOf_91 : decode cX7_stateOf 91 = .ok (.aload_n 0, 1) := by decide +kernel
theorem dX7_stateOf_92 : decode cX7_stateOf 92 = .ok (.getfield 106, 3) := by decide +kernel
theorem dX7_stateOf_95 : decode cX7_stateOf 95 = .ok (.aload_n 0, 1) := by decide +kernel
theorem dX7_stateOf_96 : decode cX7_stateOf 96 = .ok (.getfield 29, 3) := by decide +kernel
theorem dX7_stateOf_99 : decode cX7_stateOf 99 = .ok (.iload_n 1, 1) := by decide +kernel
theorem dX7_stateOf_100 : decode cX7_stateOf 100 = .ok (.iaload, 1) := by decide +kernel
theorem dX7_stateOf_101 : decode cX7_stateOf 101 = .ok (.if_icmp .ne 8, 3) := by decide +kernel
theorem dX7_stateOf_104 : decode cX7_stateOf 104 = .ok (.bipush 101, 2) := by decide +kernel
theorem dX7_stateOf_106 : decode cX7_stateOf 106 = .ok (.goto 5, 3) := by decide +kernel
theorem dX7_stateOf_109 : decode cX7_stateOf 109 = .ok (.bipush 117, 2) := by decide +kernel
theorem dX7_stateOf_111 : decode cX7_stateOf 111 = .ok (.ireturn, 1) := by decide +kernel
theorem dX7_state_0 : decode cX7_state 0 = .ok (.aload_n 0, 1) := by decide +kernel
theorem dX7_state_1 : decode cX7_state 1 = .ok (.iload_n 1, 1) := by decide +kernel
theorem dX7_state_2 : decode cX7_state 2 = .ok (.invokestatic 187, 3) := by decide +kernel
theorem dX7_state_5 : decode cX7_state 5 = .ok (.invokevirtual 158, 3) := by decide +kernel
theorem dX7_state_8 : decode cX7_state 8 = .ok (.ifCond .le 8, 3) := by decide +kernel
theorem dX7_state_11 : decode cX7_state 11 = .ok (.bipush 32, 2) := by decide +kernel
theorem dX7_state_13 : decode cX7_state 13 = .ok (.goto 8, 3) := by decide +kernel
theorem dX7_state_16 : decode cX7_state 16 = .ok (.aload_n 0, 1) := by decide +kernel
theorem dX7_state_17 : decode cX7_state 17 = .ok (.iload_n 1, 1) := by decide +kernel
theorem dX7_state_18 : decode cX7_state 18 = .ok (.invokevirtual 213, 3) := by decide +kernel
theorem dX7_state_21 : decode cX7_state 21 = .ok (.ireturn, 1) := by decide +kernel
theorem dX7_stamp_0 : decode cX7_stamp 0 = .ok (.aload_n 0, 1) := by decide +kernel
theorem dX7_stamp_1 : decode cX7_stamp 1 = .ok (.iload_n 1, 1) := by decide +kernel
theorem dX7_stamp_2 : decode cX7_stamp 2 = .ok (.invokestatic 187, 3) := by decide +kernel
theorem dX7_stamp_5 : decode cX7_stamp 5 = .ok (.ifCond .ne 7, 3) := by decide +kernel
theorem dX7_stamp_8 : decode cX7_stamp 8 = .ok (.iconst 1, 1) := by decide +kernel
theorem dX7_stamp_9 : decode cX7_stamp 9 = .ok (.goto 19, 3) := by decide +kernel
theorem dX7_stamp_12 : decode cX7_stamp 12 = .ok (.aload_n 0, 1) := by decide +kernel
theorem dX7_stamp_13 : decode cX7_stamp 13 = .ok (.getfield 13, 3) := by decide +kernel
theorem dX7_stamp_16 : decode cX7_stamp 16 = .ok (.iload_n 1, 1) := by decide +kernel
theorem dX7_stamp_17 : decode cX7_stamp 17 = .ok (.caload, 1) := by decide +kernel
theorem dX7_stamp_18 : decode cX7_stamp 18 = .ok (.bipush 45, 2) := by decide +kernel
theorem dX7_stamp_20 : decode cX7_stamp 20 = .ok (.if_icmp .ne 7, 3) := by decide +kernel
theorem dX7_stamp_23 : decode cX7_stamp 23 = .ok (.iconst 2, 1) := by decide +kernel
theorem dX7_stamp_24 : decode cX7_stamp 24 = .ok (.goto 4, 3) := by decide +kernel
theorem dX7_stamp_27 : decode cX7_stamp 27 = .ok (.iconst 0, 1) := by decide +kernel
theorem dX7_stamp_28 : decode cX7_stamp 28 = .ok (.putfield 69, 3) := by decide +kernel
theorem dX7_stamp_31 : decode cX7_stamp 31 = .ok (.aload_n 0, 1) := by decide +kernel
theorem dX7_stamp_32 : decode cX7_stamp 32 = .ok (.getfield 69, 3) := by decide +kernel
theorem dX7_stamp_35 : decode cX7_stamp 35 = .ok (.ifCond .le 7, 3) := by decide +kernel
theorem dX7_stamp_38 : decode cX7_stamp 38 = .ok (.iconst 0, 1) := by decide +kernel
theorem dX7_stamp_39 : decode cX7_stamp 39 = .ok (.goto 9, 3) := by decide +kernel
theorem dX7_stamp_42 : decode cX7_stamp 42 = .ok (.aload_n 0, 1) := by decide +kernel
theorem dX7_stamp_43 : decode cX7_stamp 43 = .ok (.getfield 32, 3) := by decide +kernel
theorem dX7_stamp_46 : decode cX7_stamp 46 = .ok (.iload_n 1, 1) := by decide +kernel
theorem dX7_stamp_47 : decode cX7_stamp 47 = .ok (.iaload, 1) := by decide +kernel
theorem dX7_stamp_48 : decode cX7_stamp 48 = .ok (.ireturn, 1) := by decide +kernel
theorem dX7_turned_0 : decode cX7_turned 0 = .ok (.aload_n 0, 1) := by decide +kernel
theorem dX7_turned_1 : decode cX7_turned 1 = .ok (.iload_n 1, 1) := by decide +kernel
theorem dX7_turned_2 : decode cX7_turned 2 = .ok (.invokestatic 187, 3) := by decide +kernel
theorem dX7_turned_5 : decode cX7_turned 5 = .ok (.ifCond .ne 7, 3) := by decide +kernel
theorem dX7_turned_8 : decode cX7_turned 8 = .ok (.iconst 1, 1) := by decide +kernel
theorem dX7_turned_9 : decode cX7_turned 9 = .ok (.goto 40, 3) := by decide +kernel
theorem dX7_turned_12 : decode cX7_turned 12 = .ok (.aload_n 0, 1) := by decide +kernel
theorem dX7_turned_13 : decode cX7_turned 13 = .ok (.getfield 35, 3) := by decide +kernel
theorem dX7_turned_16 : decode cX7_turned 16 = .ok (.iload_n 1, 1) := by decide +kernel
theorem dX7_turned_17 : decode cX7_turned 17 = .ok (.baload, 1) := by decide +kernel
theorem dX7_turned_18 : decode cX7_turned 18 = .ok (.ifCond .ne 7, 3) := by decide +kernel
theorem dX7_turned_21 : decode cX7_turned 21 = .ok (.iconst 2, 1) := by decide +kernel
theorem dX7_turned_22 : decode cX7_turned 22 = .ok (.goto 27, 3) := by decide +kernel
theorem dX7_turned_25 : decode cX7_turned 25 = .ok (.aload_n 0, 1) := by decide +kernel
theorem dX7_turned_26 : decode cX7_turned 26 = .ok (.aload_n 0, 1) := by decide +kernel
theorem dX7_turned_27 : decode cX7_turned 27 = .ok (.getfield 20, 3) := by decide +kernel
theorem dX7_turned_30 : decode cX7_turned 30 = .ok (.iload_n 1, 1) := by decide +kernel
theorem dX7_turned_31 : decode cX7_turned 31 = .ok (.iaload, 1) := by decide +kernel
theorem dX7_turned_32 : decode cX7_turned 32 = .ok (.aload_n 0, 1) := by decide +kernel
theorem dX7_turned_33 : decode cX7_turned 33 = .ok (.getfield 23, 3) := by decide +kernel
theorem dX7_turned_36 : decode cX7_turned 36 = .ok (.iload_n 1, 1) := by decide +kernel
theorem dX7_turned_37 : decode cX7_turned 37 = .ok (.iaload, 1) := by decide +kernel
theorem dX7_turned_38 : decode cX7_turned 38 = .ok (.invokevirtual 140, 3) := by decide +kernel
theorem dX7_turned_41 : decode cX7_turned 41 = .ok (.ifCond .ne 7, 3) := by decide +kernel
theorem dX7_turned_44 : decode cX7_turned 44 = .ok (.iconst 3, 1) := by decide +kernel
theorem dX7_turned_45 : decode cX7_turned 45 = .ok (.goto 4, 3) := by decide +kernel
theorem dX7_turned_48 : decode cX7_turned 48 = .ok (.iconst 0, 1) := by decide +kernel
theorem dX7_turned_49 : decode cX7_turned 49 = .ok (.putfield 69, 3) := by decide +kernel
theorem dX7_turned_52 : decode cX7_turned 52 = .ok (.aload_n 0, 1) := by decide +kernel
theorem dX7_turned_53 : decode cX7_turned 53 = .ok (.getfield 69, 3) := by decide +kernel
theorem dX7_turned_56 : decode cX7_turned 56 = .ok (.ifCond .le 7, 3) := by decide +kernel
theorem dX7_turned_59 : decode cX7_turned 59 = .ok (.iconst 0, 1) := by decide +kernel
theorem dX7_turned_60 : decode cX7_turned 60 = .ok (.goto 18, 3) := by decide +kernel
theorem dX7_turned_63 : decode cX7_turned 63 = .ok (.iload_n 2, 1) := by decide +kernel
theorem dX7_turned_64 : decode cX7_turned 64 = .ok (.ifCond .eq 10, 3) := by decide +kernel
theorem dX7_turned_67 : decode cX7_turned 67 = .ok (.aload_n 0, 1) := by decide +kernel
theorem dX7_turned_68 : decode cX7_turned 68 = .ok (.getfield 106, 3) := by decide +kernel
theorem dX7_turned_71 : decode cX7_turned 71 = .ok (.goto 7, 3) := by decide +kernel
theorem dX7_turned_74 : decode cX7_turned 74 = .ok (.aload_n 0, 1) := by decide +kernel
theorem dX7_turned_75 : decode cX7_turned 75 = .ok (.getfield 103, 3) := by decide +kernel
theorem dX7_turned_78 : decode cX7_turned 78 = .ok (.ireturn, 1) := by decide +kernel
theorem dX7_turnedBack_0 : decode cX7_turnedBack 0 = .ok (.aload_n 0, 1) := by decide +kernel
theorem dX7_turnedBack_1 : decode cX7_turnedBack 1 = .ok (.iload_n 1, 1) := by decide +kernel
theorem dX7_turnedBack_2 : decode cX7_turnedBack 2 = .ok (.invokestatic 187, 3) := by decide +kernel
theorem dX7_turnedBack_5 : decode cX7_turnedBack 5 = .ok (.ifCond .ne 7, 3) := by decide +kernel
theorem dX7_turnedBack_8 : decode cX7_turnedBack 8 = .ok (.iconst 1, 1) := by decide +kernel
theorem dX7_turnedBack_9 : decode cX7_turnedBack 9 = .ok (.goto 42, 3) := by decide +kernel
theorem dX7_turnedBack_12 : decode cX7_turnedBack 12 = .ok (.aload_n 0, 1) := by decide +kernel
theorem dX7_turnedBack_13 : decode cX7_turnedBack 13 = .ok (.getfield 13, 3) := by decide +kernel
theorem dX7_turnedBack_16 : decode cX7_turnedBack 16 = .ok (.iload_n 1, 1) := by decide +kernel
theorem dX7_turnedBack_17 : decode cX7_turnedBack 17 = .ok (.caload, 1) := by decide +kernel
theorem dX7_turnedBack_18 : decode cX7_turnedBack 18 = .ok (.bipush 101, 2) := by decide +kernel
theorem dX7_turnedBack_20 : decode cX7_turnedBack 20 = .ok (.if_icmp .eq 7, 3) := by decide +kernel
theorem dX7_turnedBack_23 : decode cX7_turnedBack 23 = .ok (.iconst 2, 1) := by decide +kernel
theorem dX7_turnedBack_24 : decode cX7_turnedBack 24 = .ok (.goto 27, 3) := by decide +kernel
theorem dX7_turnedBack_27 : decode cX7_turnedBack 27 = .ok (.aload_n 0, 1) := by decide +kernel
theorem dX7_turnedBack_28 : decode cX7_turnedBack 28 = .ok (.aload_n 0, 1) := by decide +kernel
theorem dX7_turnedBack_29 : decode cX7_turnedBack 29 = .ok (.getfield 26, 3) := by decide +kernel
theorem dX7_turnedBack_32 : decode cX7_turnedBack 32 = .ok (.iload_n 1, 1) := by decide +kernel
theorem dX7_turnedBack_33 : decode cX7_turnedBack 33 = .ok (.iaload, 1) := by decide +kernel
theorem dX7_turnedBack_34 : decode cX7_turnedBack 34 = .ok (.aload_n 0, 1) := by decide +kernel
theorem dX7_turnedBack_35 : decode cX7_turnedBack 35 = .ok (.getfield 29, 3) := by decide +kernel
theorem dX7_turnedBack_38 : decode cX7_turnedBack 38 = .ok (.iload_n 1, 1) := by decide +kernel
theorem dX7_turnedBack_39 : decode cX7_turnedBack 39 = .ok (.iaload, 1) := by decide +kernel
theorem dX7_turnedBack_40 : decode cX7_turnedBack 40 = .ok (.invokevirtual 174, 3) := by decide +kernel
theorem dX7_turnedBack_43 : decode cX7_turnedBack 43 = .ok (.ifCond .ne 7, 3) := by decide +kernel
theorem dX7_turnedBack_46 : decode cX7_turnedBack 46 = .ok (.iconst 3, 1) := by decide +kernel
theorem dX7_turnedBack_47 : decode cX7_turnedBack 47 = .ok (.goto 4, 3) := by decide +kernel
theorem dX7_turnedBack_50 : decode cX7_turnedBack 50 = .ok (.iconst 0, 1) := by decide +kernel
theorem dX7_turnedBack_51 : decode cX7_turnedBack 51 = .ok (.putfield 69, 3) := by decide +kernel
theorem dX7_turnedBack_54 : decode cX7_turnedBack 54 = .ok (.aload_n 0, 1) := by decide +kernel
theorem dX7_turnedBack_55 : decode cX7_turnedBack 55 = .ok (.getfield 69, 3) := by decide +kernel
theorem dX7_turnedBack_58 : decode cX7_turnedBack 58 = .ok (.ifCond .le 7, 3) := by decide +kernel
theorem dX7_turnedBack_61 : decode cX7_turnedBack 61 = .ok (.iconst 0, 1) := by decide +kernel
theorem dX7_turnedBack_62 : decode cX7_turnedBack 62 = .ok (.goto 18, 3) := by decide +kernel
theorem dX7_turnedBack_65 : decode cX7_turnedBack 65 = .ok (.iload_n 2, 1) := by decide +kernel
theorem dX7_turnedBack_66 : decode cX7_turnedBack 66 = .ok (.ifCond .eq 10, 3) := by decide +kernel
theorem dX7_turnedBack_69 : decode cX7_turnedBack 69 = .ok (.aload_n 0, 1) := by decide +kernel
theorem dX7_turnedBack_70 : decode cX7_turnedBack 70 = .ok (.getfield 106, 3) := by decide +kernel
theorem dX7_turnedBack_73 : decode cX7_turnedBack 73 = .ok (.goto 7, 3) := by decide +kernel
theorem dX7_turnedBack_76 : decode cX7_turnedBack 76 = .ok (.aload_n 0, 1) := by decide +kernel
theorem dX7_turnedBack_77 : decode cX7_turnedBack 77 = .ok (.getfield 103, 3) := by decide +kernel
theorem dX7_turnedBack_80 : decode cX7_turnedBack 80 = .ok (.ireturn, 1) := by decide +kernel
theorem dX7_sumOf_0 : decode cX7_sumOf 0 = .ok (.lconst 0, 1) := by decide +kernel
theorem dX7_sumOf_1 : decode cX7_sumOf 1 = .ok (.lstore 4, 2) := by decide +kernel
theorem dX7_sumOf_3 : decode cX7_sumOf 3 = .ok (.iload_n 2, 1) := by decide +kernel
theorem dX7_sumOf_4 : decode cX7_sumOf 4 = .ok (.istore 6, 2) := by decide +kernel
theorem dX7_sumOf_6 : decode cX7_sumOf 6 = .ok (.iload 6, 2) := by decide +kernel
theorem dX7_sumOf_8 : decode cX7_sumOf 8 = .ok (.iload_n 3, 1) := by decide +kernel
theorem dX7_sumOf_9 : decode cX7_sumOf 9 = .ok (.if_icmp .gt 126, 3) := by decide +kernel
theorem dX7_sumOf_12 : decode cX7_sumOf 12 = .ok (.iload_n 1, 1) := by decide +kernel
theorem dX7_sumOf_13 : decode cX7_sumOf 13 = .ok (.ifCond .eq 51, 3) := by decide +kernel
theorem dX7_sumOf_16 : decode cX7_sumOf 16 = .ok (.aload_n 0, 1) := by decide +kernel
theorem dX7_sumOf_17 : decode cX7_sumOf 17 = .ok (.getfield 13, 3) := by decide +kernel
theorem dX7_sumOf_20 : decode cX7_sumOf 20 = .ok (.iload 6, 2) := by decide +kernel
theorem dX7_sumOf_22 : decode cX7_sumOf 22 = .ok (.caload, 1) := by decide +kernel
theorem dX7_sumOf_23 : decode cX7_sumOf 23 = .ok (.bipush 101, 2) := by decide +kernel
theorem dX7_sumOf_25 : decode cX7_sumOf 25 = .ok (.if_icmp .ne 39, 3) := by decide +kernel
theorem dX7_sumOf_28 : decode cX7_sumOf 28 = .ok (.lload 4, 2) := by decide +kernel
theorem dX7_sumOf_30 : decode cX7_sumOf 30 = .ok (.ldc2_w 217, 3) := by decide +kernel
theorem dX7_sumOf_33 : decode cX7_sumOf 33 = .ok (.iload 6, 2) := by decide +kernel
theorem dX7_sumOf_35 : decode cX7_sumOf 35 = .ok (.i2l, 1) := by decide +kernel
theorem dX7_sumOf_36 : decode cX7_sumOf 36 = .ok (.lmul, 1) := by decide +kernel
theorem dX7_sumOf_37 : decode cX7_sumOf 37 = .ok (.ldc2_w 219, 3) := by decide +kernel
theorem dX7_sumOf_40 : decode cX7_sumOf 40 = .ok (.aload_n 0, 1) := by decide +kernel
theorem dX7_sumOf_41 : decode cX7_sumOf 41 = .ok (.getfield 26, 3) := by decide +kernel
theorem dX7_sumOf_44 : decode cX7_sumOf 44 = .ok (.iload 6, 2) := by decide +kernel
theorem dX7_sumOf_46 : decode cX7_sumOf 46 = .ok (.iaload, 1) := by decide +kernel
theorem dX7_sumOf_47 : decode cX7_sumOf 47 = .ok (.i2l, 1) := by decide +kernel
theorem dX7_sumOf_48 : decode cX7_sumOf 48 = .ok (.lmul, 1) := by decide +kernel
theorem dX7_sumOf_49 : decode cX7_sumOf 49 = .ok (.ladd, 1) := by decide +kernel
theorem dX7_sumOf_50 : decode cX7_sumOf 50 = .ok (.aload_n 0, 1) := by decide +kernel
theorem dX7_sumOf_51 : decode cX7_sumOf 51 = .ok (.getfield 29, 3) := by decide +kernel
theorem dX7_sumOf_54 : decode cX7_sumOf 54 = .ok (.iload 6, 2) := by decide +kernel
theorem dX7_sumOf_56 : decode cX7_sumOf 56 = .ok (.iaload, 1) := by decide +kernel
theorem dX7_sumOf_57 : decode cX7_sumOf 57 = .ok (.i2l, 1) := by decide +kernel
theorem dX7_sumOf_58 : decode cX7_sumOf 58 = .ok (.ladd, 1) := by decide +kernel
theorem dX7_sumOf_59 : decode cX7_sumOf 59 = .ok (.lconst 1, 1) := by decide +kernel
theorem dX7_sumOf_60 : decode cX7_sumOf 60 = .ok (.ladd, 1) := by decide +kernel
theorem dX7_sumOf_61 : decode cX7_sumOf 61 = .ok (.ladd, 1) := by decide +kernel
theorem dX7_sumOf_62 : decode cX7_sumOf 62 = .ok (.lstore 4, 2) := by decide +kernel
theorem dX7_sumOf_64 : decode cX7_sumOf 64 = .ok (.iload_n 1, 1) := by decide +kernel
theorem dX7_sumOf_65 : decode cX7_sumOf 65 = .ok (.ifCond .ne 64, 3) := by decide +kernel
theorem dX7_sumOf_68 : decode cX7_sumOf 68 = .ok (.aload_n 0, 1) := by decide +kernel
theorem dX7_sumOf_69 : decode cX7_sumOf 69 = .ok (.getfield 35, 3) := by decide +kernel
theorem dX7_sumOf_72 : decode cX7_sumOf 72 = .ok (.iload 6, 2) := by decide +kernel
theorem dX7_sumOf_74 : decode cX7_sumOf 74 = .ok (.baload, 1) := by decide +kernel
theorem dX7_sumOf_75 : decode cX7_sumOf 75 = .ok (.ifCond .eq 54, 3) := by decide +kernel
theorem dX7_sumOf_78 : decode cX7_sumOf 78 = .ok (.aload_n 0, 1) := by decide +kernel
theorem dX7_sumOf_79 : decode cX7_sumOf 79 = .ok (.aload_n 0, 1) := by decide +kernel
theorem dX7_sumOf_80 : decode cX7_sumOf 80 = .ok (.getfield 20, 3) := by decide +kernel
theorem dX7_sumOf_83 : decode cX7_sumOf 83 = .ok (.iload 6, 2) := by decide +kernel
theorem dX7_sumOf_85 : decode cX7_sumOf 85 = .ok (.iaload, 1) := by decide +kernel
theorem dX7_sumOf_86 : decode cX7_sumOf 86 = .ok (.aload_n 0, 1) := by decide +kernel
theorem dX7_sumOf_87 : decode cX7_sumOf 87 = .ok (.getfield 23, 3) := by decide +kernel
theorem dX7_sumOf_90 : decode cX7_sumOf 90 = .ok (.iload 6, 2) := by decide +kernel
theorem dX7_sumOf_92 : decode cX7_sumOf 92 = .ok (.iaload, 1) := by decide +kernel
theorem dX7_sumOf_93 : decode cX7_sumOf 93 = .ok (.invokevirtual 140, 3) := by decide +kernel
theorem dX7_sumOf_96 : decode cX7_sumOf 96 = .ok (.ifCond .eq 33, 3) := by decide +kernel
theorem dX7_sumOf_99 : decode cX7_sumOf 99 = .ok (.lload 4, 2) := by decide +kernel
theorem dX7_sumOf_101 : decode cX7_sumOf 101 = .ok (.ldc2_w 217, 3) := by decide +kernel
theorem dX7_sumOf_104 : decode cX7_sumOf 104 = .ok (.iload 6, 2) := by decide +kernel
theorem dX7_sumOf_106 : decode cX7_sumOf 106 = .ok (.i2l, 1) := by decide +kernel
theorem dX7_sumOf_107 : decode cX7_sumOf 107 = .ok (.lmul, 1) := by decide +kernel
theorem dX7_sumOf_108 : decode cX7_sumOf 108 = .ok (.ldc2_w 219, 3) := by decide +kernel
theorem dX7_sumOf_111 : decode cX7_sumOf 111 = .ok (.aload_n 0, 1) := by decide +kernel
theorem dX7_sumOf_112 : decode cX7_sumOf 112 = .ok (.getfield 103, 3) := by decide +kernel
theorem dX7_sumOf_115 : decode cX7_sumOf 115 = .ok (.i2l, 1) := by decide +kernel
theorem dX7_sumOf_116 : decode cX7_sumOf 116 = .ok (.lmul, 1) := by decide +kernel
theorem dX7_sumOf_117 : decode cX7_sumOf 117 = .ok (.ladd, 1) := by decide +kernel
theorem dX7_sumOf_118 : decode cX7_sumOf 118 = .ok (.aload_n 0, 1) := by decide +kernel
theorem dX7_sumOf_119 : decode cX7_sumOf 119 = .ok (.getfield 106, 3) := by decide +kernel
theorem dX7_sumOf_122 : decode cX7_sumOf 122 = .ok (.i2l, 1) := by decide +kernel
theorem dX7_sumOf_123 : decode cX7_sumOf 123 = .ok (.ladd, 1) := by decide +kernel
theorem dX7_sumOf_124 : decode cX7_sumOf 124 = .ok (.lconst 1, 1) := by decide +kernel
theorem dX7_sumOf_125 : decode cX7_sumOf 125 = .ok (.ladd, 1) := by decide +kernel
theorem dX7_sumOf_126 : decode cX7_sumOf 126 = .ok (.ladd, 1) := by decide +kernel
theorem dX7_sumOf_127 : decode cX7_sumOf 127 = .ok (.lstore 4, 2) := by decide +kernel
theorem dX7_sumOf_129 : decode cX7_sumOf 129 = .ok (.iinc 6 1, 3) := by decide +kernel
theorem dX7_sumOf_132 : decode cX7_sumOf 132 = .ok (.goto (-126), 3) := by decide +kernel
theorem dX7_sumOf_135 : decode cX7_sumOf 135 = .ok (.lload 4, 2) := by decide +kernel
theorem dX7_sumOf_137 : decode cX7_sumOf 137 = .ok (.lreturn, 1) := by decide +kernel
theorem dX7_isRange_0 : decode cX7_isRange 0 = .ok (.iload_n 0, 1) := by decide +kernel
theorem dX7_isRange_1 : decode cX7_isRange 1 = .ok (.invokestatic 187, 3) := by decide +kernel
theorem dX7_isRange_4 : decode cX7_isRange 4 = .ok (.ifCond .eq 19, 3) := by decide +kernel
theorem dX7_isRange_7 : decode cX7_isRange 7 = .ok (.iload_n 1, 1) := by decide +kernel
theorem dX7_isRange_8 : decode cX7_isRange 8 = .ok (.invokestatic 187, 3) := by decide +kernel
theorem dX7_isRange_11 : decode cX7_isRange 11 = .ok (.ifCond .eq 12, 3) := by decide +kernel
theorem dX7_isRange_14 : decode cX7_isRange 14 = .ok (.iload_n 0, 1) := by decide +kernel
theorem dX7_isRange_15 : decode cX7_isRange 15 = .ok (.iload_n 1, 1) := by decide +kernel
theorem dX7_isRange_16 : decode cX7_isRange 16 = .ok (.if_icmp .gt 7, 3) := by decide +kernel
theorem dX7_isRange_19 : decode cX7_isRange 19 = .ok (.iconst 1, 1) := by decide +kernel
theorem dX7_isRange_20 : decode cX7_isRange 20 = .ok (.goto 4, 3) := by decide +kernel
theorem dX7_isRange_23 : decode cX7_isRange 23 = .ok (.iconst 0, 1) := by decide +kernel
theorem dX7_isRange_24 : decode cX7_isRange 24 = .ok (.ireturn, 1) := by decide +kernel
theorem dX7_sum_0 : decode cX7_sum 0 = .ok (.aload_n 0, 1) := by decide +kernel
theorem dX7_sum_1 : decode cX7_sum 1 = .ok (.iload_n 2, 1) := by decide +kernel
theorem dX7_sum_2 : decode cX7_sum 2 = .ok (.iload_n 3, 1) := by decide +kernel
theorem dX7_sum_3 : decode cX7_sum 3 = .ok (.invokestatic 221, 3) := by decide +kernel
theorem dX7_sum_6 : decode cX7_sum 6 = .ok (.invokevirtual 158, 3) := by decide +kernel
theorem dX7_sum_9 : decode cX7_sum 9 = .ok (.ifCond .le 7, 3) := by decide +kernel
theorem dX7_sum_12 : decode cX7_sum 12 = .ok (.lconst 0, 1) := by decide +kernel
theorem dX7_sum_13 : decode cX7_sum 13 = .ok (.goto 10, 3) := by decide +kernel
theorem dX7_sum_16 : decode cX7_sum 16 = .ok (.aload_n 0, 1) := by decide +kernel
theorem dX7_sum_17 : decode cX7_sum 17 = .ok (.iload_n 1, 1) := by decide +kernel
theorem dX7_sum_18 : decode cX7_sum 18 = .ok (.iload_n 2, 1) := by decide +kernel
theorem dX7_sum_19 : decode cX7_sum 19 = .ok (.iload_n 3, 1) := by decide +kernel
theorem dX7_sum_20 : decode cX7_sum 20 = .ok (.invokevirtual 170, 3) := by decide +kernel
theorem dX7_sum_23 : decode cX7_sum 23 = .ok (.lreturn, 1) := by decide +kernel
theorem dX7_areUnlike_0 : decode cX7_areUnlike 0 = .ok (.aload_n 0, 1) := by decide +kernel
theorem dX7_areUnlike_1 : decode cX7_areUnlike 1 = .ok (.dup, 1) := by decide +kernel
theorem dX7_areUnlike_2 : decode cX7_areUnlike 2 = .ok (.getfield 100, 3) := by decide +kernel
theorem dX7_areUnlike_5 : decode cX7_areUnlike 5 = .ok (.iconst 1, 1) := by decide +kernel
theorem dX7_areUnlike_6 : decode cX7_areUnlike 6 = .ok (.iadd, 1) := by decide +kernel
theorem dX7_areUnlike_7 : decode cX7_areUnlike 7 = .ok (.putfield 100, 3) := by decide +kernel
theorem dX7_areUnlike_10 : decode cX7_areUnlike 10 = .ok (.aload_n 0, 1) := by decide +kernel
theorem dX7_areUnlike_11 : decode cX7_areUnlike 11 = .ok (.iconst 0, 1) := by decide +kernel
theorem dX7_areUnlike_12 : decode cX7_areUnlike 12 = .ok (.iload_n 1, 1) := by decide +kernel
theorem dX7_areUnlike_13 : decode cX7_areUnlike 13 = .ok (.iload_n 2, 1) := by decide +kernel
theorem dX7_areUnlike_14 : decode cX7_areUnlike 14 = .ok (.invokevirtual 170, 3) := by decide +kernel
theorem dX7_areUnlike_17 : decode cX7_areUnlike 17 = .ok (.aload_n 0, 1) := by decide +kernel
theorem dX7_areUnlike_18 : decode cX7_areUnlike 18 = .ok (.iconst 1, 1) := by decide +kernel
theorem dX7_areUnlike_19 : decode cX7_areUnlike 19 = .ok (.iload_n 1, 1) := by decide +kernel
theorem dX7_areUnlike_20 : decode cX7_areUnlike 20 = .ok (.iload_n 2, 1) := by decide +kernel
theorem dX7_areUnlike_21 : decode cX7_areUnlike 21 = .ok (.invokevirtual 170, 3) := by decide +kernel
theorem dX7_areUnlike_24 : decode cX7_areUnlike 24 = .ok (.lcmp, 1) := by decide +kernel
theorem dX7_areUnlike_25 : decode cX7_areUnlike 25 = .ok (.ifCond .eq 7, 3) := by decide +kernel
theorem dX7_areUnlike_28 : decode cX7_areUnlike 28 = .ok (.iconst 1, 1) := by decide +kernel
theorem dX7_areUnlike_29 : decode cX7_areUnlike 29 = .ok (.goto 4, 3) := by decide +kernel
theorem dX7_areUnlike_32 : decode cX7_areUnlike 32 = .ok (.iconst 0, 1) := by decide +kernel
theorem dX7_areUnlike_33 : decode cX7_areUnlike 33 = .ok (.ireturn, 1) := by decide +kernel
theorem dX7_firstUnlike_0 : decode cX7_firstUnlike 0 = .ok (.aload_n 0, 1) := by decide +kernel
theorem dX7_firstUnlike_1 : decode cX7_firstUnlike 1 = .ok (.iload_n 1, 1) := by decide +kernel
theorem dX7_firstUnlike_2 : decode cX7_firstUnlike 2 = .ok (.iload_n 2, 1) := by decide +kernel
theorem dX7_firstUnlike_3 : decode cX7_firstUnlike 3 = .ok (.invokestatic 221, 3) := by decide +kernel
theorem dX7_firstUnlike_6 : decode cX7_firstUnlike 6 = .ok (.invokevirtual 158, 3) := by decide +kernel
theorem dX7_firstUnlike_9 : decode cX7_firstUnlike 9 = .ok (.ifCond .le 5, 3) := by decide +kernel
theorem dX7_firstUnlike_12 : decode cX7_firstUnlike 12 = .ok (.iconst 0, 1) := by decide +kernel
theorem dX7_firstUnlike_13 : decode cX7_firstUnlike 13 = .ok (.ireturn, 1) := by decide +kernel
theorem dX7_firstUnlike_14 : decode cX7_firstUnlike 14 = .ok (.aload_n 0, 1) := by decide +kernel
theorem dX7_firstUnlike_15 : decode cX7_firstUnlike 15 = .ok (.iconst 0, 1) := by decide +kernel
theorem dX7_firstUnlike_16 : decode cX7_firstUnlike 16 = .ok (.putfield 100, 3) := by decide +kernel
theorem dX7_firstUnlike_19 : decode cX7_firstUnlike 19 = .ok (.aload_n 0, 1) := by decide +kernel
theorem dX7_firstUnlike_20 : decode cX7_firstUnlike 20 = .ok (.aload_n 0, 1) := by decide +kernel
theorem dX7_firstUnlike_21 : decode cX7_firstUnlike 21 = .ok (.iload_n 1, 1) := by decide +kernel
theorem dX7_firstUnlike_22 : decode cX7_firstUnlike 22 = .ok (.iload_n 2, 1) := by decide +kernel
theorem dX7_firstUnlike_23 : decode cX7_firstUnlike 23 = .ok (.invokevirtual 224, 3) := by decide +kernel
theorem dX7_firstUnlike_26 : decode cX7_firstUnlike 26 = .ok (.ifCond .eq 7, 3) := by decide +kernel
theorem dX7_firstUnlike_29 : decode cX7_firstUnlike 29 = .ok (.iconst 0, 1) := by decide +kernel
theorem dX7_firstUnlike_30 : decode cX7_firstUnlike 30 = .ok (.goto 4, 3) := by decide +kernel
theorem dX7_firstUnlike_33 : decode cX7_firstUnlike 33 = .ok (.iconst 2, 1) := by decide +kernel
theorem dX7_firstUnlike_34 : decode cX7_firstUnlike 34 = .ok (.putfield 69, 3) := by decide +kernel
theorem dX7_firstUnlike_37 : decode cX7_firstUnlike 37 = .ok (.aload_n 0, 1) := by decide +kernel
theorem dX7_firstUnlike_38 : decode cX7_firstUnlike 38 = .ok (.getfield 69, 3) := by decide +kernel
theorem dX7_firstUnlike_41 : decode cX7_firstUnlike 41 = .ok (.ifCond .le 5, 3) := by decide +kernel
theorem dX7_firstUnlike_44 : decode cX7_firstUnlike 44 = .ok (.iconst 0, 1) := by decide +kernel
theorem dX7_firstUnlike_45 : decode cX7_firstUnlike 45 = .ok (.ireturn, 1) := by decide +kernel
theorem dX7_firstUnlike_46 : decode cX7_firstUnlike 46 = .ok (.iload_n 1, 1) := by decide +kernel
theorem dX7_firstUnlike_47 : decode cX7_firstUnlike 47 = .ok (.istore_n 3, 1) := by decide +kernel
theorem dX7_firstUnlike_48 : decode cX7_firstUnlike 48 = .ok (.iload_n 2, 1) := by decide +kernel
theorem dX7_firstUnlike_49 : decode cX7_firstUnlike 49 = .ok (.istore 4, 2) := by decide +kernel
theorem dX7_firstUnlike_51 : decode cX7_firstUnlike 51 = .ok (.iload_n 3, 1) := by decide +kernel
theorem dX7_firstUnlike_52 : decode cX7_firstUnlike 52 = .ok (.iload 4, 2) := by decide +kernel
theorem dX7_firstUnlike_54 : decode cX7_firstUnlike 54 = .ok (.if_icmp .ge 46, 3) := by decide +kernel
theorem dX7_firstUnlike_57 : decode cX7_firstUnlike 57 = .ok (.iload_n 3, 1) := by decide +kernel
theorem dX7_firstUnlike_58 : decode cX7_firstUnlike 58 = .ok (.iload 4, 2) := by decide +kernel
theorem dX7_firstUnlike_60 : decode cX7_firstUnlike 60 = .ok (.iadd, 1) := by decide +kernel
theorem dX7_firstUnlike_61 : decode cX7_firstUnlike 61 = .ok (.iconst 2, 1) := by decide +kernel
theorem dX7_firstUnlike_62 : decode cX7_firstUnlike 62 = .ok (.idiv, 1) := by decide +kernel
theorem dX7_firstUnlike_63 : decode cX7_firstUnlike 63 = .ok (.istore 5, 2) := by decide +kernel
theorem dX7_firstUnlike_65 : decode cX7_firstUnlike 65 = .ok (.aload_n 0, 1) := by decide +kernel
theorem dX7_firstUnlike_66 : decode cX7_firstUnlike 66 = .ok (.iload_n 3, 1) := by decide +kernel
theorem dX7_firstUnlike_67 : decode cX7_firstUnlike 67 = .ok (.iload 5, 2) := by decide +kernel
theorem dX7_firstUnlike_69 : decode cX7_firstUnlike 69 = .ok (.invokevirtual 224, 3) := by decide +kernel
theorem dX7_firstUnlike_72 : decode cX7_firstUnlike 72 = .ok (.ifCond .eq 10, 3) := by decide +kernel
theorem dX7_firstUnlike_75 : decode cX7_firstUnlike 75 = .ok (.iload 5, 2) := by decide +kernel
theorem dX7_firstUnlike_77 : decode cX7_firstUnlike 77 = .ok (.istore 4, 2) := by decide +kernel
theorem dX7_firstUnlike_79 : decode cX7_firstUnlike 79 = .ok (.goto 18, 3) := by decide +kernel
theorem dX7_firstUnlike_82 : decode cX7_firstUnlike 82 = .ok (.iload 5, 2) := by decide +kernel
theorem dX7_firstUnlike_84 : decode cX7_firstUnlike 84 = .ok (.iconst 1, 1) := by decide +kernel
theorem dX7_firstUnlike_85 : decode cX7_firstUnlike 85 = .ok (.iadd, 1) := by decide +kernel
theorem dX7_firstUnlike_86 : decode cX7_firstUnlike 86 = .ok (.istore_n 3, 1) := by decide +kernel
theorem dX7_firstUnlike_87 : decode cX7_firstUnlike 87 = .ok (.aload_n 0, 1) := by decide +kernel
theorem dX7_firstUnlike_88 : decode cX7_firstUnlike 88 = .ok (.dup, 1) := by decide +kernel
theorem dX7_firstUnlike_89 : decode cX7_firstUnlike 89 = .ok (.getfield 100, 3) := by decide +kernel
theorem dX7_firstUnlike_92 : decode cX7_firstUnlike 92 = .ok (.iconst 1, 1) := by decide +kernel
theorem dX7_firstUnlike_93 : decode cX7_firstUnlike 93 = .ok (.iadd, 1) := by decide +kernel
theorem dX7_firstUnlike_94 : decode cX7_firstUnlike 94 = .ok (.putfield 100, 3) := by decide +kernel
theorem dX7_firstUnlike_97 : decode cX7_firstUnlike 97 = .ok (.goto (-46), 3) := by decide +kernel
theorem dX7_firstUnlike_100 : decode cX7_firstUnlike 100 = .ok (.iload_n 3, 1) := by decide +kernel
theorem dX7_firstUnlike_101 : decode cX7_firstUnlike 101 = .ok (.ireturn, 1) := by decide +kernel
theorem dX7_compared_0 : decode cX7_compared 0 = .ok (.aload_n 0, 1) := by decide +kernel
theorem dX7_compared_1 : decode cX7_compared 1 = .ok (.aload_n 0, 1) := by decide +kernel
theorem dX7_compared_2 : decode cX7_compared 2 = .ok (.getfield 100, 3) := by decide +kernel
theorem dX7_compared_5 : decode cX7_compared 5 = .ok (.invokevirtual 210, 3) := by decide +kernel
theorem dX7_compared_8 : decode cX7_compared 8 = .ok (.ireturn, 1) := by decide +kernel
theorem dX7_goal_0 : decode cX7_goal 0 = .ok (.aload_n 0, 1) := by decide +kernel
theorem dX7_goal_1 : decode cX7_goal 1 = .ok (.iload_n 1, 1) := by decide +kernel
theorem dX7_goal_2 : decode cX7_goal 2 = .ok (.invokestatic 187, 3) := by decide +kernel
theorem dX7_goal_5 : decode cX7_goal 5 = .ok (.ifCond .ne 7, 3) := by decide +kernel
theorem dX7_goal_8 : decode cX7_goal 8 = .ok (.iconst 1, 1) := by decide +kernel
theorem dX7_goal_9 : decode cX7_goal 9 = .ok (.goto 26, 3) := by decide +kernel
theorem dX7_goal_12 : decode cX7_goal 12 = .ok (.aload_n 0, 1) := by decide +kernel
theorem dX7_goal_13 : decode cX7_goal 13 = .ok (.getfield 109, 3) := by decide +kernel
theorem dX7_goal_16 : decode cX7_goal 16 = .ok (.bipush 99, 2) := by decide +kernel
theorem dX7_goal_18 : decode cX7_goal 18 = .ok (.if_icmp .eq 16, 3) := by decide +kernel
theorem dX7_goal_21 : decode cX7_goal 21 = .ok (.aload_n 0, 1) := by decide +kernel
theorem dX7_goal_22 : decode cX7_goal 22 = .ok (.getfield 109, 3) := by decide +kernel
theorem dX7_goal_25 : decode cX7_goal 25 = .ok (.bipush 98, 2) := by decide +kernel
theorem dX7_goal_27 : decode cX7_goal 27 = .ok (.if_icmp .eq 7, 3) := by decide +kernel
theorem dX7_goal_30 : decode cX7_goal 30 = .ok (.iconst 2, 1) := by decide +kernel
theorem dX7_goal_31 : decode cX7_goal 31 = .ok (.goto 4, 3) := by decide +kernel
theorem dX7_goal_34 : decode cX7_goal 34 = .ok (.iconst 0, 1) := by decide +kernel
theorem dX7_goal_35 : decode cX7_goal 35 = .ok (.putfield 69, 3) := by decide +kernel
theorem dX7_goal_38 : decode cX7_goal 38 = .ok (.aload_n 0, 1) := by decide +kernel
theorem dX7_goal_39 : decode cX7_goal 39 = .ok (.getfield 69, 3) := by decide +kernel
theorem dX7_goal_42 : decode cX7_goal 42 = .ok (.ifCond .le 6, 3) := by decide +kernel
theorem dX7_goal_45 : decode cX7_goal 45 = .ok (.bipush 32, 2) := by decide +kernel
theorem dX7_goal_47 : decode cX7_goal 47 = .ok (.ireturn, 1) := by decide +kernel
theorem dX7_goal_48 : decode cX7_goal 48 = .ok (.aload_n 0, 1) := by decide +kernel
theorem dX7_goal_49 : decode cX7_goal 49 = .ok (.getfield 35, 3) := by decide +kernel
theorem dX7_goal_52 : decode cX7_goal 52 = .ok (.iload_n 1, 1) := by decide +kernel
theorem dX7_goal_53 : decode cX7_goal 53 = .ok (.baload, 1) := by decide +kernel
theorem dX7_goal_54 : decode cX7_goal 54 = .ok (.ifCond .ne 8, 3) := by decide +kernel
theorem dX7_goal_57 : decode cX7_goal 57 = .ok (.bipush 110, 2) := by decide +kernel
theorem dX7_goal_59 : decode cX7_goal 59 = .ok (.goto 29, 3) := by decide +kernel
theorem dX7_goal_62 : decode cX7_goal 62 = .ok (.aload_n 0, 1) := by decide +kernel
theorem dX7_goal_63 : decode cX7_goal 63 = .ok (.aload_n 0, 1) := by decide +kernel
theorem dX7_goal_64 : decode cX7_goal 64 = .ok (.getfield 20, 3) := by decide +kernel
theorem dX7_goal_67 : decode cX7_goal 67 = .ok (.iload_n 1, 1) := by decide +kernel
theorem dX7_goal_68 : decode cX7_goal 68 = .ok (.iaload, 1) := by decide +kernel
theorem dX7_goal_69 : decode cX7_goal 69 = .ok (.aload_n 0, 1) := by decide +kernel
theorem dX7_goal_70 : decode cX7_goal 70 = .ok (.getfield 23, 3) := by decide +kernel
theorem dX7_goal_73 : decode cX7_goal 73 = .ok (.iload_n 1, 1) := by decide +kernel
theorem dX7_goal_74 : decode cX7_goal 74 = .ok (.iaload, 1) := by decide +kernel
theorem dX7_goal_75 : decode cX7_goal 75 = .ok (.invokevirtual 140, 3) := by decide +kernel
theorem dX7_goal_78 : decode cX7_goal 78 = .ok (.ifCond .eq 8, 3) := by decide +kernel
theorem dX7_goal_81 : decode cX7_goal 81 = .ok (.bipush 101, 2) := by decide +kernel
theorem dX7_goal_83 : decode cX7_goal 83 = .ok (.goto 5, 3) := by decide +kernel
theorem dX7_goal_86 : decode cX7_goal 86 = .ok (.bipush 97, 2) := by decide +kernel
theorem dX7_goal_88 : decode cX7_goal 88 = .ok (.ireturn, 1) := by decide +kernel
theorem dX7_manyMoved_0 : decode cX7_manyMoved 0 = .ok (.iconst 0, 1) := by decide +kernel
theorem dX7_manyMoved_1 : decode cX7_manyMoved 1 = .ok (.istore_n 1, 1) := by decide +kernel
theorem dX7_manyMoved_2 : decode cX7_manyMoved 2 = .ok (.iconst 0, 1) := by decide +kernel
theorem dX7_manyMoved_3 : decode cX7_manyMoved 3 = .ok (.istore_n 2, 1) := by decide +kernel
theorem dX7_manyMoved_4 : decode cX7_manyMoved 4 = .ok (.iload_n 2, 1) := by decide +kernel
theorem dX7_manyMoved_5 : decode cX7_manyMoved 5 = .ok (.bipush 40, 2) := by decide +kernel
theorem dX7_manyMoved_7 : decode cX7_manyMoved 7 = .ok (.if_icmp .ge 27, 3) := by decide +kernel
theorem dX7_manyMoved_10 : decode cX7_manyMoved 10 = .ok (.iload_n 1, 1) := by decide +kernel
theorem dX7_manyMoved_11 : decode cX7_manyMoved 11 = .ok (.aload_n 0, 1) := by decide +kernel
theorem dX7_manyMoved_12 : decode cX7_manyMoved 12 = .ok (.iload_n 2, 1) := by decide +kernel
theorem dX7_manyMoved_13 : decode cX7_manyMoved 13 = .ok (.invokevirtual 213, 3) := by decide +kernel
theorem dX7_manyMoved_16 : decode cX7_manyMoved 16 = .ok (.bipush 101, 2) := by decide +kernel
theorem dX7_manyMoved_18 : decode cX7_manyMoved 18 = .ok (.if_icmp .ne 7, 3) := by decide +kernel
theorem dX7_manyMoved_21 : decode cX7_manyMoved 21 = .ok (.iconst 1, 1) := by decide +kernel
theorem dX7_manyMoved_22 : decode cX7_manyMoved 22 = .ok (.goto 4, 3) := by decide +kernel
theorem dX7_manyMoved_25 : decode cX7_manyMoved 25 = .ok (.iconst 0, 1) := by decide +kernel
theorem dX7_manyMoved_26 : decode cX7_manyMoved 26 = .ok (.iadd, 1) := by decide +kernel
theorem dX7_manyMoved_27 : decode cX7_manyMoved 27 = .ok (.istore_n 1, 1) := by decide +kernel
theorem dX7_manyMoved_28 : decode cX7_manyMoved 28 = .ok (.iinc 2 1, 3) := by decide +kernel
theorem dX7_manyMoved_31 : decode cX7_manyMoved 31 = .ok (.goto (-27), 3) := by decide +kernel
theorem dX7_manyMoved_34 : decode cX7_manyMoved 34 = .ok (.iload_n 1, 1) := by decide +kernel
theorem dX7_manyMoved_35 : decode cX7_manyMoved 35 = .ok (.ireturn, 1) := by decide +kernel
theorem dX7_movedShare_0 : decode cX7_movedShare 0 = .ok (.aload_n 0, 1) := by decide +kernel
theorem dX7_movedShare_1 : decode cX7_movedShare 1 = .ok (.aload_n 0, 1) := by decide +kernel
theorem dX7_movedShare_2 : decode cX7_movedShare 2 = .ok (.invokevirtual 162, 3) := by decide +kernel
theorem dX7_movedShare_5 : decode cX7_movedShare 5 = .ok (.ifCond .le 7, 3) := by decide +kernel
theorem dX7_movedShare_8 : decode cX7_movedShare 8 = .ok (.iconst 1, 1) := by decide +kernel
theorem dX7_movedShare_9 : decode cX7_movedShare 9 = .ok (.goto 4, 3) := by decide +kernel
theorem dX7_movedShare_12 : decode cX7_movedShare 12 = .ok (.iconst 0, 1) := by decide +kernel
theorem dX7_movedShare_13 : decode cX7_movedShare 13 = .ok (.invokevirtual 158, 3) := by decide +kernel
theorem dX7_movedShare_16 : decode cX7_movedShare 16 = .ok (.ifCond .le 7, 3) := by decide +kernel
theorem dX7_movedShare_19 : decode cX7_movedShare 19 = .ok (.fconst 0, 1) := by decide +kernel
theorem dX7_movedShare_20 : decode cX7_movedShare 20 = .ok (.goto 14, 3) := by decide +kernel
theorem dX7_movedShare_23 : decode cX7_movedShare 23 = .ok (.aload_n 0, 1) := by decide +kernel
theorem dX7_movedShare_24 : decode cX7_movedShare 24 = .ok (.invokevirtual 227, 3) := by decide +kernel
theorem dX7_movedShare_27 : decode cX7_movedShare 27 = .ok (.i2f, 1) := by decide +kernel
theorem dX7_movedShare_28 : decode cX7_movedShare 28 = .ok (.aload_n 0, 1) := by decide +kernel
theorem dX7_movedShare_29 : decode cX7_movedShare 29 = .ok (.invokevirtual 162, 3) := by decide +kernel
theorem dX7_movedShare_32 : decode cX7_movedShare 32 = .ok (.i2f, 1) := by decide +kernel
theorem dX7_movedShare_33 : decode cX7_movedShare 33 = .ok (.fdiv, 1) := by decide +kernel
theorem dX7_movedShare_34 : decode cX7_movedShare 34 = .ok (.freturn, 1) := by decide +kernel
theorem dX7_isAllMoved_0 : decode cX7_isAllMoved 0 = .ok (.aload_n 0, 1) := by decide +kernel
theorem dX7_isAllMoved_1 : decode cX7_isAllMoved 1 = .ok (.iconst 0, 1) := by decide +kernel
theorem dX7_isAllMoved_2 : decode cX7_isAllMoved 2 = .ok (.putfield 69, 3) := by decide +kernel
theorem dX7_isAllMoved_5 : decode cX7_isAllMoved 5 = .ok (.aload_n 0, 1) := by decide +kernel
theorem dX7_isAllMoved_6 : decode cX7_isAllMoved 6 = .ok (.invokevirtual 162, 3) := by decide +kernel
theorem dX7_isAllMoved_9 : decode cX7_isAllMoved 9 = .ok (.ifCond .le 18, 3) := by decide +kernel
theorem dX7_isAllMoved_12 : decode cX7_isAllMoved 12 = .ok (.aload_n 0, 1) := by decide +kernel
theorem dX7_isAllMoved_13 : decode cX7_isAllMoved 13 = .ok (.invokevirtual 227, 3) := by decide +kernel
theorem dX7_isAllMoved_16 : decode cX7_isAllMoved 16 = .ok (.aload_n 0, 1) := by decide +kernel
theorem dX7_isAllMoved_17 : decode cX7_isAllMoved 17 = .ok (.invokevirtual 162, 3) := by decide +kernel
theorem dX7_isAllMoved_20 : decode cX7_isAllMoved 20 = .ok (.if_icmp .ne 7, 3) := by decide +kernel
theorem dX7_isAllMoved_23 : decode cX7_isAllMoved 23 = .ok (.iconst 1, 1) := by decide +kernel
theorem dX7_isAllMoved_24 : decode cX7_isAllMoved 24 = .ok (.goto 4, 3) := by decide +kernel
theorem dX7_isAllMoved_27 : decode cX7_isAllMoved 27 = .ok (.iconst 0, 1) := by decide +kernel
theorem dX7_isAllMoved_28 : decode cX7_isAllMoved 28 = .ok (.ireturn, 1) := by decide +kernel
theorem dX7_meanStamp_0 : decode cX7_meanStamp 0 = .ok (.lconst 0, 1) := by decide +kernel
theorem dX7_meanStamp_1 : decode cX7_meanStamp 1 = .ok (.lstore_n 1, 1) := by decide +kernel
theorem dX7_meanStamp_2 : decode cX7_meanStamp 2 = .ok (.iconst 0, 1) := by decide +kernel
theorem dX7_meanStamp_3 : decode cX7_meanStamp 3 = .ok (.istore_n 3, 1) := by decide +kernel
theorem dX7_meanStamp_4 : decode cX7_meanStamp 4 = .ok (.iload_n 3, 1) := by decide +kernel
theorem dX7_meanStamp_5 : decode cX7_meanStamp 5 = .ok (.bipush 40, 2) := by decide +kernel
theorem dX7_meanStamp_7 : decode cX7_meanStamp 7 = .ok (.if_icmp .ge 34, 3) := by decide +kernel
theorem dX7_meanStamp_10 : decode cX7_meanStamp 10 = .ok (.lload_n 1, 1) := by decide +kernel
theorem dX7_meanStamp_11 : decode cX7_meanStamp 11 = .ok (.aload_n 0, 1) := by decide +kernel
theorem dX7_meanStamp_12 : decode cX7_meanStamp 12 = .ok (.getfield 13, 3) := by decide +kernel
theorem dX7_meanStamp_15 : decode cX7_meanStamp 15 = .ok (.iload_n 3, 1) := by decide +kernel
theorem dX7_meanStamp_16 : decode cX7_meanStamp 16 = .ok (.caload, 1) := by decide +kernel
theorem dX7_meanStamp_17 : decode cX7_meanStamp 17 = .ok (.bipush 101, 2) := by decide +kernel
theorem dX7_meanStamp_19 : decode cX7_meanStamp 19 = .ok (.if_icmp .ne 13, 3) := by decide +kernel
theorem dX7_meanStamp_22 : decode cX7_meanStamp 22 = .ok (.aload_n 0, 1) := by decide +kernel
theorem dX7_meanStamp_23 : decode cX7_meanStamp 23 = .ok (.getfield 32, 3) := by decide +kernel
theorem dX7_meanStamp_26 : decode cX7_meanStamp 26 = .ok (.iload_n 3, 1) := by decide +kernel
theorem dX7_meanStamp_27 : decode cX7_meanStamp 27 = .ok (.iaload, 1) := by decide +kernel
theorem dX7_meanStamp_28 : decode cX7_meanStamp 28 = .ok (.i2l, 1) := by decide +kernel
theorem dX7_meanStamp_29 : decode cX7_meanStamp 29 = .ok (.goto 4, 3) := by decide +kernel
theorem dX7_meanStamp_32 : decode cX7_meanStamp 32 = .ok (.lconst 0, 1) := by decide +kernel
theorem dX7_meanStamp_33 : decode cX7_meanStamp 33 = .ok (.ladd, 1) := by decide +kernel
theorem dX7_meanStamp_34 : decode cX7_meanStamp 34 = .ok (.lstore_n 1, 1) := by decide +kernel
theorem dX7_meanStamp_35 : decode cX7_meanStamp 35 = .ok (.iinc 3 1, 3) := by decide +kernel
theorem dX7_meanStamp_38 : decode cX7_meanStamp 38 = .ok (.goto (-34), 3) := by decide +kernel
theorem dX7_meanStamp_41 : decode cX7_meanStamp 41 = .ok (.aload_n 0, 1) := by decide +kernel
theorem dX7_meanStamp_42 : decode cX7_meanStamp 42 = .ok (.aload_n 0, 1) := by decide +kernel
theorem dX7_meanStamp_43 : decode cX7_meanStamp 43 = .ok (.bipush 101, 2) := by decide +kernel
theorem dX7_meanStamp_45 : decode cX7_meanStamp 45 = .ok (.invokevirtual 166, 3) := by decide +kernel
theorem dX7_meanStamp_48 : decode cX7_meanStamp 48 = .ok (.ifCond .le 7, 3) := by decide +kernel
theorem dX7_meanStamp_51 : decode cX7_meanStamp 51 = .ok (.iconst 1, 1) := by decide +kernel
theorem dX7_meanStamp_52 : decode cX7_meanStamp 52 = .ok (.goto 4, 3) := by decide +kernel
theorem dX7_meanStamp_55 : decode cX7_meanStamp 55 = .ok (.iconst 0, 1) := by decide +kernel
theorem dX7_meanStamp_56 : decode cX7_meanStamp 56 = .ok (.invokevirtual 158, 3) := by decide +kernel
theorem dX7_meanStamp_59 : decode cX7_meanStamp 59 = .ok (.ifCond .le 7, 3) := by decide +kernel
theorem dX7_meanStamp_62 : decode cX7_meanStamp 62 = .ok (.dconst 0, 1) := by decide +kernel
theorem dX7_meanStamp_63 : decode cX7_meanStamp 63 = .ok (.goto 13, 3) := by decide +kernel
theorem dX7_meanStamp_66 : decode cX7_meanStamp 66 = .ok (.lload_n 1, 1) := by decide +kernel
theorem dX7_meanStamp_67 : decode cX7_meanStamp 67 = .ok (.l2d, 1) := by decide +kernel
theorem dX7_meanStamp_68 : decode cX7_meanStamp 68 = .ok (.aload_n 0, 1) := by decide +kernel
theorem dX7_meanStamp_69 : decode cX7_meanStamp 69 = .ok (.bipush 101, 2) := by decide +kernel
theorem dX7_meanStamp_71 : decode cX7_meanStamp 71 = .ok (.invokevirtual 166, 3) := by decide +kernel
theorem dX7_meanStamp_74 : decode cX7_meanStamp 74 = .ok (.i2d, 1) := by decide +kernel
theorem dX7_meanStamp_75 : decode cX7_meanStamp 75 = .ok (.ddiv, 1) := by decide +kernel
theorem dX7_meanStamp_76 : decode cX7_meanStamp 76 = .ok (.dreturn, 1) := by decide +kernel
end
section
theorem dL_addStep_0 : decode cL_addStep 0 = .ok (.aload_n 3, 1) := by decide +kernel
theorem dL_addStep_1 : decode cL_addStep 1 = .ok (.iconst 0, 1) := by decide +kernel
theorem dL_addStep_2 : decode cL_addStep 2 = .ok (.aload_n 0, 1) := by decide +kernel
theorem dL_addStep_3 : decode cL_addStep 3 = .ok (.iload_n 1, 1) := by decide +kernel
theorem dL_addStep_4 : decode cL_addStep 4 = .ok (.iload_n 2, 1) := by decide +kernel
theorem dL_addStep_5 : decode cL_addStep 5 = .ok (.invokevirtual 7, 3) := by decide +kernel
theorem dL_addStep_8 : decode cL_addStep 8 = .ok (.i2l, 1) := by decide +kernel
theorem dL_addStep_9 : decode cL_addStep 9 = .ok (.lastore, 1) := by decide +kernel
theorem dL_addStep_10 : decode cL_addStep 10 = .ok (.goto 11, 3) := by decide +kernel
theorem dL_addStep_13 : decode cL_addStep 13 = .ok (.astore 4, 2) := by decide +kernel
theorem dL_addStep_15 : decode cL_addStep 15 = .ok (.iconst 1, 1) := by decide +kernel
theorem dL_addStep_16 : decode cL_addStep 16 = .ok (.ireturn, 1) := by decide +kernel
theorem dL_addStep_17 : decode cL_addStep 17 = .ok (.astore 4, 2) := by decide +kernel
theorem dL_addStep_19 : decode cL_addStep 19 = .ok (.iconst 2, 1) := by decide +kernel
theorem dL_addStep_20 : decode cL_addStep 20 = .ok (.ireturn, 1) := by decide +kernel
theorem dL_addStep_21 : decode cL_addStep 21 = .ok (.iconst 0, 1) := by decide +kernel
theorem dL_addStep_22 : decode cL_addStep 22 = .ok (.ireturn, 1) := by decide +kernel
theorem dL_start_0 : decode cL_start 0 = .ok (.aload_n 1, 1) := by decide +kernel
theorem dL_start_1 : decode cL_start 1 = .ok (.iconst 0, 1) := by decide +kernel
theorem dL_start_2 : decode cL_start 2 = .ok (.aload_n 0, 1) := by decide +kernel
theorem dL_start_3 : decode cL_start 3 = .ok (.invokevirtual 17, 3) := by decide +kernel
theorem dL_start_6 : decode cL_start 6 = .ok (.i2l, 1) := by decide +kernel
theorem dL_start_7 : decode cL_start 7 = .ok (.lastore, 1) := by decide +kernel
theorem dL_start_8 : decode cL_start 8 = .ok (.goto 6, 3) := by decide +kernel
theorem dL_start_11 : decode cL_start 11 = .ok (.astore_n 2, 1) := by decide +kernel
theorem dL_start_12 : decode cL_start 12 = .ok (.iconst 1, 1) := by decide +kernel
theorem dL_start_13 : decode cL_start 13 = .ok (.ireturn, 1) := by decide +kernel
theorem dL_start_14 : decode cL_start 14 = .ok (.iconst 0, 1) := by decide +kernel
theorem dL_start_15 : decode cL_start 15 = .ok (.ireturn, 1) := by decide +kernel
theorem dL_goToBoth_0 : decode cL_goToBoth 0 = .ok (.aload_n 1, 1) := by decide +kernel
theorem dL_goToBoth_1 : decode cL_goToBoth 1 = .ok (.iconst 0, 1) := by decide +kernel
theorem dL_goToBoth_2 : decode cL_goToBoth 2 = .ok (.aload_n 0, 1) := by decide +kernel
theorem dL_goToBoth_3 : decode cL_goToBoth 3 = .ok (.invokevirtual 21, 3) := by decide +kernel
theorem dL_goToBoth_6 : decode cL_goToBoth 6 = .ok (.i2l, 1) := by decide +kernel
theorem dL_goToBoth_7 : decode cL_goToBoth 7 = .ok (.lastore, 1) := by decide +kernel
theorem dL_goToBoth_8 : decode cL_goToBoth 8 = .ok (.goto 9, 3) := by decide +kernel
theorem dL_goToBoth_11 : decode cL_goToBoth 11 = .ok (.astore_n 2, 1) := by decide +kernel
theorem dL_goToBoth_12 : decode cL_goToBoth 12 = .ok (.iconst 1, 1) := by decide +kernel
theorem dL_goToBoth_13 : decode cL_goToBoth 13 = .ok (.ireturn, 1) := by decide +kernel
theorem dL_goToBoth_14 : decode cL_goToBoth 14 = .ok (.astore_n 2, 1) := by decide +kernel
theorem dL_goToBoth_15 : decode cL_goToBoth 15 = .ok (.iconst 2, 1) := by decide +kernel
theorem dL_goToBoth_16 : decode cL_goToBoth 16 = .ok (.ireturn, 1) := by decide +kernel
theorem dL_goToBoth_17 : decode cL_goToBoth 17 = .ok (.iconst 0, 1) := by decide +kernel
theorem dL_goToBoth_18 : decode cL_goToBoth 18 = .ok (.ireturn, 1) := by decide +kernel
theorem dL_switchOver_0 : decode cL_switchOver 0 = .ok (.aload_n 1, 1) := by decide +kernel
theorem dL_switchOver_1 : decode cL_switchOver 1 = .ok (.iconst 0, 1) := by decide +kernel
theorem dL_switchOver_2 : decode cL_switchOver 2 = .ok (.aload_n 0, 1) := by decide +kernel
theorem dL_switchOver_3 : decode cL_switchOver 3 = .ok (.invokevirtual 26, 3) := by decide +kernel
theorem dL_switchOver_6 : decode cL_switchOver 6 = .ok (.i2l, 1) := by decide +kernel
theorem dL_switchOver_7 : decode cL_switchOver 7 = .ok (.lastore, 1) := by decide +kernel
theorem dL_switchOver_8 : decode cL_switchOver 8 = .ok (.goto 9, 3) := by decide +kernel
theorem dL_switchOver_11 : decode cL_switchOver 11 = .ok (.astore_n 2, 1) := by decide +kernel
theorem dL_switchOver_12 : decode cL_switchOver 12 = .ok (.iconst 1, 1) := by decide +kernel
theorem dL_switchOver_13 : decode cL_switchOver 13 = .ok (.ireturn, 1) := by decide +kernel
theorem dL_switchOver_14 : decode cL_switchOver 14 = .ok (.astore_n 2, 1) := by decide +kernel
theorem dL_switchOver_15 : decode cL_switchOver 15 = .ok (.iconst 2, 1) := by decide +kernel
theorem dL_switchOver_16 : decode cL_switchOver 16 = .ok (.ireturn, 1) := by decide +kernel
theorem dL_switchOver_17 : decode cL_switchOver 17 = .ok (.iconst 0, 1) := by decide +kernel
theorem dL_switchOver_18 : decode cL_switchOver 18 = .ok (.ireturn, 1) := by decide +kernel
theorem dL_goBack_0 : decode cL_goBack 0 = .ok (.aload_n 1, 1) := by decide +kernel
theorem dL_goBack_1 : decode cL_goBack 1 = .ok (.iconst 0, 1) := by decide +kernel
theorem dL_goBack_2 : decode cL_goBack 2 = .ok (.aload_n 0, 1) := by decide +kernel
theorem dL_goBack_3 : decode cL_goBack 3 = .ok (.invokevirtual 29, 3) := by decide +kernel
theorem dL_goBack_6 : decode cL_goBack 6 = .ok (.i2l, 1) := by decide +kernel
theorem dL_goBack_7 : decode cL_goBack 7 = .ok (.lastore, 1) := by decide +kernel
theorem dL_goBack_8 : decode cL_goBack 8 = .ok (.goto 9, 3) := by decide +kernel
theorem dL_goBack_11 : decode cL_goBack 11 = .ok (.astore_n 2, 1) := by decide +kernel
theorem dL_goBack_12 : decode cL_goBack 12 = .ok (.iconst 1, 1) := by decide +kernel
theorem dL_goBack_13 : decode cL_goBack 13 = .ok (.ireturn, 1) := by decide +kernel
theorem dL_goBack_14 : decode cL_goBack 14 = .ok (.astore_n 2, 1) := by decide +kernel
theorem dL_goBack_15 : decode cL_goBack 15 = .ok (.iconst 2, 1) := by decide +kernel
theorem dL_goBack_16 : decode cL_goBack 16 = .ok (.ireturn, 1) := by decide +kernel
theorem dL_goBack_17 : decode cL_goBack 17 = .ok (.iconst 0, 1) := by decide +kernel
theorem dL_goBack_18 : decode cL_goBack 18 = .ok (.ireturn, 1) := by decide +kernel
theorem dL_end_0 : decode cL_end 0 = .ok (.aload_n 1, 1) := by decide +kernel
theorem dL_end_1 : decode cL_end 1 = .ok (.iconst 0, 1) := by decide +kernel
theorem dL_end_2 : decode cL_end 2 = .ok (.aload_n 0, 1) := by decide +kernel
theorem dL_end_3 : decode cL_end 3 = .ok (.invokevirtual 32, 3) := by decide +kernel
theorem dL_end_6 : decode cL_end 6 = .ok (.i2l, 1) := by decide +kernel
theorem dL_end_7 : decode cL_end 7 = .ok (.lastore, 1) := by decide +kernel
theorem dL_end_8 : decode cL_end 8 = .ok (.goto 6, 3) := by decide +kernel
theorem dL_end_11 : decode cL_end 11 = .ok (.astore_n 2, 1) := by decide +kernel
theorem dL_end_12 : decode cL_end 12 = .ok (.iconst 1, 1) := by decide +kernel
theorem dL_end_13 : decode cL_end 13 = .ok (.ireturn, 1) := by decide +kernel
theorem dL_end_14 : decode cL_end 14 = .ok (.iconst 0, 1) := by decide +kernel
theorem dL_end_15 : decode cL_end 15 = .ok (.ireturn, 1) := by decide +kernel
theorem dL_write_0 : decode cL_write 0 = .ok (.aload 4, 2) := by decide +kernel
theorem dL_write_2 : decode cL_write 2 = .ok (.iconst 0, 1) := by decide +kernel
theorem dL_write_3 : decode cL_write 3 = .ok (.aload_n 0, 1) := by decide +kernel
theorem dL_write_4 : decode cL_write 4 = .ok (.iload_n 1, 1) := by decide +kernel
theorem dL_write_5 : decode cL_write 5 = .ok (.iload_n 2, 1) := by decide +kernel
theorem dL_write_6 : decode cL_write 6 = .ok (.iload_n 3, 1) := by decide +kernel
theorem dL_write_7 : decode cL_write 7 = .ok (.invokevirtual 35, 3) := by decide +kernel
theorem dL_write_10 : decode cL_write 10 = .ok (.ifCond .eq 7, 3) := by decide +kernel
theorem dL_write_13 : decode cL_write 13 = .ok (.lconst 1, 1) := by decide +kernel
theorem dL_write_14 : decode cL_write 14 = .ok (.goto 4, 3) := by decide +kernel
theorem dL_write_17 : decode cL_write 17 = .ok (.lconst 0, 1) := by decide +kernel
theorem dL_write_18 : decode cL_write 18 = .ok (.lastore, 1) := by decide +kernel
theorem dL_write_19 : decode cL_write 19 = .ok (.goto 11, 3) := by decide +kernel
theorem dL_write_22 : decode cL_write 22 = .ok (.astore 5, 2) := by decide +kernel
theorem dL_write_24 : decode cL_write 24 = .ok (.iconst 1, 1) := by decide +kernel
theorem dL_write_25 : decode cL_write 25 = .ok (.ireturn, 1) := by decide +kernel
theorem dL_write_26 : decode cL_write 26 = .ok (.astore 5, 2) := by decide +kernel
theorem dL_write_28 : decode cL_write 28 = .ok (.iconst 2, 1) := by decide +kernel
theorem dL_write_29 : decode cL_write 29 = .ok (.ireturn, 1) := by decide +kernel
theorem dL_write_30 : decode cL_write 30 = .ok (.iconst 0, 1) := by decide +kernel
theorem dL_write_31 : decode cL_write 31 = .ok (.ireturn, 1) := by decide +kernel
theorem dL_delete_0 : decode cL_delete 0 = .ok (.aload_n 2, 1) := by decide +kernel
theorem dL_delete_1 : decode cL_delete 1 = .ok (.iconst 0, 1) := by decide +kernel
theorem dL_delete_2 : decode cL_delete 2 = .ok (.aload_n 0, 1) := by decide +kernel
theorem dL_delete_3 : decode cL_delete 3 = .ok (.iload_n 1, 1) := by decide +kernel
theorem dL_delete_4 : decode cL_delete 4 = .ok (.invokevirtual 39, 3) := by decide +kernel
theorem dL_delete_7 : decode cL_delete 7 = .ok (.ifCond .eq 7, 3) := by decide +kernel
theorem dL_delete_10 : decode cL_delete 10 = .ok (.lconst 1, 1) := by decide +kernel
theorem dL_delete_11 : decode cL_delete 11 = .ok (.goto 4, 3) := by decide +kernel
theorem dL_delete_14 : decode cL_delete 14 = .ok (.lconst 0, 1) := by decide +kernel
theorem dL_delete_15 : decode cL_delete 15 = .ok (.lastore, 1) := by decide +kernel
theorem dL_delete_16 : decode cL_delete 16 = .ok (.goto 9, 3) := by decide +kernel
theorem dL_delete_19 : decode cL_delete 19 = .ok (.astore_n 3, 1) := by decide +kernel
theorem dL_delete_20 : decode cL_delete 20 = .ok (.iconst 1, 1) := by decide +kernel
theorem dL_delete_21 : decode cL_delete 21 = .ok (.ireturn, 1) := by decide +kernel
theorem dL_delete_22 : decode cL_delete 22 = .ok (.astore_n 3, 1) := by decide +kernel
theorem dL_delete_23 : decode cL_delete 23 = .ok (.iconst 2, 1) := by decide +kernel
theorem dL_delete_24 : decode cL_delete 24 = .ok (.ireturn, 1) := by decide +kernel
theorem dL_delete_25 : decode cL_delete 25 = .ok (.iconst 0, 1) := by decide +kernel
theorem dL_delete_26 : decode cL_delete 26 = .ok (.ireturn, 1) := by decide +kernel
theorem dL_read_0 : decode cL_read 0 = .ok (.aload_n 3, 1) := by decide +kernel
theorem dL_read_1 : decode cL_read 1 = .ok (.iconst 0, 1) := by decide +kernel
theorem dL_read_2 : decode cL_read 2 = .ok (.aload_n 0, 1) := by decide +kernel
theorem dL_read_3 : decode cL_read 3 = .ok (.iload_n 1, 1) := by decide +kernel
theorem dL_read_4 : decode cL_read 4 = .ok (.iload_n 2, 1) := by decide +kernel
theorem dL_read_5 : decode cL_read 5 = .ok (.invokevirtual 43, 3) := by decide +kernel
theorem dL_read_8 : decode cL_read 8 = .ok (.i2l, 1) := by decide +kernel
theorem dL_read_9 : decode cL_read 9 = .ok (.lastore, 1) := by decide +kernel
theorem dL_read_10 : decode cL_read 10 = .ok (.goto 11, 3) := by decide +kernel
theorem dL_read_13 : decode cL_read 13 = .ok (.astore 4, 2) := by decide +kernel
theorem dL_read_15 : decode cL_read 15 = .ok (.iconst 1, 1) := by decide +kernel
theorem dL_read_16 : decode cL_read 16 = .ok (.ireturn, 1) := by decide +kernel
theorem dL_read_17 : decode cL_read 17 = .ok (.astore 4, 2) := by decide +kernel
theorem dL_read_19 : decode cL_read 19 = .ok (.iconst 2, 1) := by decide +kernel
theorem dL_read_20 : decode cL_read 20 = .ok (.ireturn, 1) := by decide +kernel
theorem dL_read_21 : decode cL_read 21 = .ok (.iconst 0, 1) := by decide +kernel
theorem dL_read_22 : decode cL_read 22 = .ok (.ireturn, 1) := by decide +kernel
theorem dL_nextNumber_0 : decode cL_nextNumber 0 = .ok (.aload_n 1, 1) := by decide +kernel
theorem dL_nextNumber_1 : decode cL_nextNumber 1 = .ok (.iconst 0, 1) := by decide +kernel
theorem dL_nextNumber_2 : decode cL_nextNumber 2 = .ok (.aload_n 0, 1) := by decide +kernel
theorem dL_nextNumber_3 : decode cL_nextNumber 3 = .ok (.invokevirtual 49, 3) := by decide +kernel
theorem dL_nextNumber_6 : decode cL_nextNumber 6 = .ok (.i2l, 1) := by decide +kernel
theorem dL_nextNumber_7 : decode cL_nextNumber 7 = .ok (.lastore, 1) := by decide +kernel
theorem dL_nextNumber_8 : decode cL_nextNumber 8 = .ok (.goto 6, 3) := by decide +kernel
theorem dL_nextNumber_11 : decode cL_nextNumber 11 = .ok (.astore_n 2, 1) := by decide +kernel
theorem dL_nextNumber_12 : decode cL_nextNumber 12 = .ok (.iconst 1, 1) := by decide +kernel
theorem dL_nextNumber_13 : decode cL_nextNumber 13 = .ok (.ireturn, 1) := by decide +kernel
theorem dL_nextNumber_14 : decode cL_nextNumber 14 = .ok (.iconst 0, 1) := by decide +kernel
theorem dL_nextNumber_15 : decode cL_nextNumber 15 = .ok (.ireturn, 1) := by decide +kernel
theorem dL_readPart_0 : decode cL_readPart 0 = .ok (.aload_n 2, 1) := by decide +kernel
theorem dL_readPart_1 : decode cL_readPart 1 = .ok (.iconst 0, 1) := by decide +kernel
theorem dL_readPart_2 : decode cL_readPart 2 = .ok (.aload_n 0, 1) := by decide +kernel
theorem dL_readPart_3 : decode cL_readPart 3 = .ok (.iload_n 1, 1) := by decide +kernel
theorem dL_readPart_4 : decode cL_readPart 4 = .ok (.invokevirtual 52, 3) := by decide +kernel
theorem dL_readPart_7 : decode cL_readPart 7 = .ok (.i2l, 1) := by decide +kernel
theorem dL_readPart_8 : decode cL_readPart 8 = .ok (.lastore, 1) := by decide +kernel
theorem dL_readPart_9 : decode cL_readPart 9 = .ok (.goto 9, 3) := by decide +kernel
theorem dL_readPart_12 : decode cL_readPart 12 = .ok (.astore_n 3, 1) := by decide +kernel
theorem dL_readPart_13 : decode cL_readPart 13 = .ok (.iconst 1, 1) := by decide +kernel
theorem dL_readPart_14 : decode cL_readPart 14 = .ok (.ireturn, 1) := by decide +kernel
theorem dL_readPart_15 : decode cL_readPart 15 = .ok (.astore_n 3, 1) := by decide +kernel
theorem dL_readPart_16 : decode cL_readPart 16 = .ok (.iconst 2, 1) := by decide +kernel
theorem dL_readPart_17 : decode cL_readPart 17 = .ok (.ireturn, 1) := by decide +kernel
theorem dL_readPart_18 : decode cL_readPart 18 = .ok (.iconst 0, 1) := by decide +kernel
theorem dL_readPart_19 : decode cL_readPart 19 = .ok (.ireturn, 1) := by decide +kernel
theorem dL_putDown_0 : decode cL_putDown 0 = .ok (.aload_n 2, 1) := by decide +kernel
theorem dL_putDown_1 : decode cL_putDown 1 = .ok (.iconst 0, 1) := by decide +kernel
theorem dL_putDown_2 : decode cL_putDown 2 = .ok (.aload_n 0, 1) := by decide +kernel
theorem dL_putDown_3 : decode cL_putDown 3 = .ok (.iload_n 1, 1) := by decide +kernel
theorem dL_putDown_4 : decode cL_putDown 4 = .ok (.invokevirtual 56, 3) := by decide +kernel
theorem dL_putDown_7 : decode cL_putDown 7 = .ok (.i2l, 1) := by decide +kernel
theorem dL_putDown_8 : decode cL_putDown 8 = .ok (.lastore, 1) := by decide +kernel
theorem dL_putDown_9 : decode cL_putDown 9 = .ok (.goto 6, 3) := by decide +kernel
theorem dL_putDown_12 : decode cL_putDown 12 = .ok (.astore_n 3, 1) := by decide +kernel
theorem dL_putDown_13 : decode cL_putDown 13 = .ok (.iconst 1, 1) := by decide +kernel
theorem dL_putDown_14 : decode cL_putDown 14 = .ok (.ireturn, 1) := by decide +kernel
theorem dL_putDown_15 : decode cL_putDown 15 = .ok (.iconst 0, 1) := by decide +kernel
theorem dL_putDown_16 : decode cL_putDown 16 = .ok (.ireturn, 1) := by decide +kernel
theorem dL_follow_0 : decode cL_follow 0 = .ok (.aload_n 2, 1) := by decide +kernel
theorem dL_follow_1 : decode cL_follow 1 = .ok (.iconst 0, 1) := by decide +kernel
theorem dL_follow_2 : decode cL_follow 2 = .ok (.aload_n 0, 1) := by decide +kernel
theorem dL_follow_3 : decode cL_follow 3 = .ok (.iload_n 1, 1) := by decide +kernel
theorem dL_follow_4 : decode cL_follow 4 = .ok (.invokevirtual 61, 3) := by decide +kernel
theorem dL_follow_7 : decode cL_follow 7 = .ok (.i2l, 1) := by decide +kernel
theorem dL_follow_8 : decode cL_follow 8 = .ok (.lastore, 1) := by decide +kernel
theorem dL_follow_9 : decode cL_follow 9 = .ok (.goto 9, 3) := by decide +kernel
theorem dL_follow_12 : decode cL_follow 12 = .ok (.astore_n 3, 1) := by decide +kernel
theorem dL_follow_13 : decode cL_follow 13 = .ok (.iconst 1, 1) := by decide +kernel
theorem dL_follow_14 : decode cL_follow 14 = .ok (.ireturn, 1) := by decide +kernel
theorem dL_follow_15 : decode cL_follow 15 = .ok (.astore_n 3, 1) := by decide +kernel
theorem dL_follow_16 : decode cL_follow 16 = .ok (.iconst 2, 1) := by decide +kernel
theorem dL_follow_17 : decode cL_follow 17 = .ok (.ireturn, 1) := by decide +kernel
theorem dL_follow_18 : decode cL_follow 18 = .ok (.iconst 0, 1) := by decide +kernel
theorem dL_follow_19 : decode cL_follow 19 = .ok (.ireturn, 1) := by decide +kernel
theorem dL_state_0 : decode cL_state 0 = .ok (.aload_n 2, 1) := by decide +kernel
theorem dL_state_1 : decode cL_state 1 = .ok (.iconst 0, 1) := by decide +kernel
theorem dL_state_2 : decode cL_state 2 = .ok (.aload_n 0, 1) := by decide +kernel
theorem dL_state_3 : decode cL_state 3 = .ok (.iload_n 1, 1) := by decide +kernel
theorem dL_state_4 : decode cL_state 4 = .ok (.invokevirtual 64, 3) := by decide +kernel
theorem dL_state_7 : decode cL_state 7 = .ok (.i2l, 1) := by decide +kernel
theorem dL_state_8 : decode cL_state 8 = .ok (.lastore, 1) := by decide +kernel
theorem dL_state_9 : decode cL_state 9 = .ok (.goto 6, 3) := by decide +kernel
theorem dL_state_12 : decode cL_state 12 = .ok (.astore_n 3, 1) := by decide +kernel
theorem dL_state_13 : decode cL_state 13 = .ok (.iconst 1, 1) := by decide +kernel
theorem dL_state_14 : decode cL_state 14 = .ok (.ireturn, 1) := by decide +kernel
theorem dL_state_15 : decode cL_state 15 = .ok (.iconst 0, 1) := by decide +kernel
theorem dL_state_16 : decode cL_state 16 = .ok (.ireturn, 1) := by decide +kernel
theorem dL_stamp_0 : decode cL_stamp 0 = .ok (.aload_n 2, 1) := by decide +kernel
theorem dL_stamp_1 : decode cL_stamp 1 = .ok (.iconst 0, 1) := by decide +kernel
theorem dL_stamp_2 : decode cL_stamp 2 = .ok (.aload_n 0, 1) := by decide +kernel
theorem dL_stamp_3 : decode cL_stamp 3 = .ok (.iload_n 1, 1) := by decide +kernel
theorem dL_stamp_4 : decode cL_stamp 4 = .ok (.invokevirtual 68, 3) := by decide +kernel
theorem dL_stamp_7 : decode cL_stamp 7 = .ok (.i2l, 1) := by decide +kernel
theorem dL_stamp_8 : decode cL_stamp 8 = .ok (.lastore, 1) := by decide +kernel
theorem dL_stamp_9 : decode cL_stamp 9 = .ok (.goto 9, 3) := by decide +kernel
theorem dL_stamp_12 : decode cL_stamp 12 = .ok (.astore_n 3, 1) := by decide +kernel
theorem dL_stamp_13 : decode cL_stamp 13 = .ok (.iconst 1, 1) := by decide +kernel
theorem dL_stamp_14 : decode cL_stamp 14 = .ok (.ireturn, 1) := by decide +kernel
theorem dL_stamp_15 : decode cL_stamp 15 = .ok (.astore_n 3, 1) := by decide +kernel
theorem dL_stamp_16 : decode cL_stamp 16 = .ok (.iconst 2, 1) := by decide +kernel
theorem dL_stamp_17 : decode cL_stamp 17 = .ok (.ireturn, 1) := by decide +kernel
theorem dL_stamp_18 : decode cL_stamp 18 = .ok (.iconst 0, 1) := by decide +kernel
theorem dL_stamp_19 : decode cL_stamp 19 = .ok (.ireturn, 1) := by decide +kernel
theorem dL_turned_0 : decode cL_turned 0 = .ok (.aload_n 3, 1) := by decide +kernel
theorem dL_turned_1 : decode cL_turned 1 = .ok (.iconst 0, 1) := by decide +kernel
theorem dL_turned_2 : decode cL_turned 2 = .ok (.aload_n 0, 1) := by decide +kernel
theorem dL_turned_3 : decode cL_turned 3 = .ok (.iload_n 1, 1) := by decide +kernel
theorem dL_turned_4 : decode cL_turned 4 = .ok (.iload_n 2, 1) := by decide +kernel
theorem dL_turned_5 : decode cL_turned 5 = .ok (.invokevirtual 71, 3) := by decide +kernel
theorem dL_turned_8 : decode cL_turned 8 = .ok (.i2l, 1) := by decide +kernel
theorem dL_turned_9 : decode cL_turned 9 = .ok (.lastore, 1) := by decide +kernel
theorem dL_turned_10 : decode cL_turned 10 = .ok (.goto 15, 3) := by decide +kernel
theorem dL_turned_13 : decode cL_turned 13 = .ok (.astore 4, 2) := by decide +kernel
theorem dL_turned_15 : decode cL_turned 15 = .ok (.iconst 1, 1) := by decide +kernel
theorem dL_turned_16 : decode cL_turned 16 = .ok (.ireturn, 1) := by decide +kernel
theorem dL_turned_17 : decode cL_turned 17 = .ok (.astore 4, 2) := by decide +kernel
theorem dL_turned_19 : decode cL_turned 19 = .ok (.iconst 2, 1) := by decide +kernel
theorem dL_turned_20 : decode cL_turned 20 = .ok (.ireturn, 1) := by decide +kernel
theorem dL_turned_21 : decode cL_turned 21 = .ok (.astore 4, 2) := by decide +kernel
theorem dL_turned_23 : decode cL_turned 23 = .ok (.iconst 3, 1) := by decide +kernel
theorem dL_turned_24 : decode cL_turned 24 = .ok (.ireturn, 1) := by decide +kernel
theorem dL_turned_25 : decode cL_turned 25 = .ok (.iconst 0, 1) := by decide +kernel
theorem dL_turned_26 : decode cL_turned 26 = .ok (.ireturn, 1) := by decide +kernel
theorem dL_turnedBack_0 : decode cL_turnedBack 0 = .ok (.aload_n 3, 1) := by decide +kernel
theorem dL_turnedBack_1 : decode cL_turnedBack 1 = .ok (.iconst 0, 1) := by decide +kernel
theorem dL_turnedBack_2 : decode cL_turnedBack 2 = .ok (.aload_n 0, 1) := by decide +kernel
theorem dL_turnedBack_3 : decode cL_turnedBack 3 = .ok (.iload_n 1, 1) := by decide +kernel
theorem dL_turnedBack_4 : decode cL_turnedBack 4 = .ok (.iload_n 2, 1) := by decide +kernel
theorem dL_turnedBack_5 : decode cL_turnedBack 5 = .ok (.invokevirtual 74, 3) := by decide +kernel
theorem dL_turnedBack_8 : decode cL_turnedBack 8 = .ok (.i2l, 1) := by decide +kernel
theorem dL_turnedBack_9 : decode cL_turnedBack 9 = .ok (.lastore, 1) := by decide +kernel
theorem dL_turnedBack_10 : decode cL_turnedBack 10 = .ok (.goto 15, 3) := by decide +kernel
theorem dL_turnedBack_13 : decode cL_turnedBack 13 = .ok (.astore 4, 2) := by decide +kernel
theorem dL_turnedBack_15 : decode cL_turnedBack 15 = .ok (.iconst 1, 1) := by decide +kernel
theorem dL_turnedBack_16 : decode cL_turnedBack 16 = .ok (.ireturn, 1) := by decide +kernel
theorem dL_turnedBack_17 : decode cL_turnedBack 17 = .ok (.astore 4, 2) := by decide +kernel
theorem dL_turnedBack_19 : decode cL_turnedBack 19 = .ok (.iconst 2, 1) := by decide +kernel
theorem dL_turnedBack_20 : decode cL_turnedBack 20 = .ok (.ireturn, 1) := by decide +kernel
theorem dL_turnedBack_21 : decode cL_turnedBack 21 = .ok (.astore 4, 2) := by decide +kernel
theorem dL_turnedBack_23 : decode cL_turnedBack 23 = .ok (.iconst 3, 1) := by decide +kernel
theorem dL_turnedBack_24 : decode cL_turnedBack 24 = .ok (.ireturn, 1) := by decide +kernel
theorem dL_turnedBack_25 : decode cL_turnedBack 25 = .ok (.iconst 0, 1) := by decide +kernel
theorem dL_turnedBack_26 : decode cL_turnedBack 26 = .ok (.ireturn, 1) := by decide +kernel
theorem dL_sum_0 : decode cL_sum 0 = .ok (.aload 4, 2) := by decide +kernel
theorem dL_sum_2 : decode cL_sum 2 = .ok (.iconst 0, 1) := by decide +kernel
theorem dL_sum_3 : decode cL_sum 3 = .ok (.aload_n 0, 1) := by decide +kernel
theorem dL_sum_4 : decode cL_sum 4 = .ok (.iload_n 1, 1) := by decide +kernel
theorem dL_sum_5 : decode cL_sum 5 = .ok (.iload_n 2, 1) := by decide +kernel
theorem dL_sum_6 : decode cL_sum 6 = .ok (.iload_n 3, 1) := by decide +kernel
theorem dL_sum_7 : decode cL_sum 7 = .ok (.invokevirtual 77, 3) := by decide +kernel
theorem dL_sum_10 : decode cL_sum 10 = .ok (.lastore, 1) := by decide +kernel
theorem dL_sum_11 : decode cL_sum 11 = .ok (.goto 7, 3) := by decide +kernel
theorem dL_sum_14 : decode cL_sum 14 = .ok (.astore 5, 2) := by decide +kernel
theorem dL_sum_16 : decode cL_sum 16 = .ok (.iconst 1, 1) := by decide +kernel
theorem dL_sum_17 : decode cL_sum 17 = .ok (.ireturn, 1) := by decide +kernel
theorem dL_sum_18 : decode cL_sum 18 = .ok (.iconst 0, 1) := by decide +kernel
theorem dL_sum_19 : decode cL_sum 19 = .ok (.ireturn, 1) := by decide +kernel
theorem dL_firstUnlike_0 : decode cL_firstUnlike 0 = .ok (.aload_n 3, 1) := by decide +kernel
theorem dL_firstUnlike_1 : decode cL_firstUnlike 1 = .ok (.iconst 0, 1) := by decide +kernel
theorem dL_firstUnlike_2 : decode cL_firstUnlike 2 = .ok (.aload_n 0, 1) := by decide +kernel
theorem dL_firstUnlike_3 : decode cL_firstUnlike 3 = .ok (.iload_n 1, 1) := by decide +kernel
theorem dL_firstUnlike_4 : decode cL_firstUnlike 4 = .ok (.iload_n 2, 1) := by decide +kernel
theorem dL_firstUnlike_5 : decode cL_firstUnlike 5 = .ok (.invokevirtual 81, 3) := by decide +kernel
theorem dL_firstUnlike_8 : decode cL_firstUnlike 8 = .ok (.i2l, 1) := by decide +kernel
theorem dL_firstUnlike_9 : decode cL_firstUnlike 9 = .ok (.lastore, 1) := by decide +kernel
theorem dL_firstUnlike_10 : decode cL_firstUnlike 10 = .ok (.goto 11, 3) := by decide +kernel
theorem dL_firstUnlike_13 : decode cL_firstUnlike 13 = .ok (.astore 4, 2) := by decide +kernel
theorem dL_firstUnlike_15 : decode cL_firstUnlike 15 = .ok (.iconst 1, 1) := by decide +kernel
theorem dL_firstUnlike_16 : decode cL_firstUnlike 16 = .ok (.ireturn, 1) := by decide +kernel
theorem dL_firstUnlike_17 : decode cL_firstUnlike 17 = .ok (.astore 4, 2) := by decide +kernel
theorem dL_firstUnlike_19 : decode cL_firstUnlike 19 = .ok (.iconst 2, 1) := by decide +kernel
theorem dL_firstUnlike_20 : decode cL_firstUnlike 20 = .ok (.ireturn, 1) := by decide +kernel
theorem dL_firstUnlike_21 : decode cL_firstUnlike 21 = .ok (.iconst 0, 1) := by decide +kernel
theorem dL_firstUnlike_22 : decode cL_firstUnlike 22 = .ok (.ireturn, 1) := by decide +kernel
theorem dL_goal_0 : decode cL_goal 0 = .ok (.aload_n 2, 1) := by decide +kernel
theorem dL_goal_1 : decode cL_goal 1 = .ok (.iconst 0, 1) := by decide +kernel
theorem dL_goal_2 : decode cL_goal 2 = .ok (.aload_n 0, 1) := by decide +kernel
theorem dL_goal_3 : decode cL_goal 3 = .ok (.iload_n 1, 1) := by decide +kernel
theorem dL_goal_4 : decode cL_goal 4 = .ok (.invokevirtual 85, 3) := by decide +kernel
theorem dL_goal_7 : decode cL_goal 7 = .ok (.i2l, 1) := by decide +kernel
theorem dL_goal_8 : decode cL_goal 8 = .ok (.lastore, 1) := by decide +kernel
theorem dL_goal_9 : decode cL_goal 9 = .ok (.goto 9, 3) := by decide +kernel
theorem dL_goal_12 : decode cL_goal 12 = .ok (.astore_n 3, 1) := by decide +kernel
theorem dL_goal_13 : decode cL_goal 13 = .ok (.iconst 1, 1) := by decide +kernel
theorem dL_goal_14 : decode cL_goal 14 = .ok (.ireturn, 1) := by decide +kernel
theorem dL_goal_15 : decode cL_goal 15 = .ok (.astore_n 3, 1) := by decide +kernel
theorem dL_goal_16 : decode cL_goal 16 = .ok (.iconst 2, 1) := by decide +kernel
theorem dL_goal_17 : decode cL_goal 17 = .ok (.ireturn, 1) := by decide +kernel
theorem dL_goal_18 : decode cL_goal 18 = .ok (.iconst 0, 1) := by decide +kernel
theorem dL_goal_19 : decode cL_goal 19 = .ok (.ireturn, 1) := by decide +kernel
theorem dL_movedShare_0 : decode cL_movedShare 0 = .ok (.aload_n 1, 1) := by decide +kernel
theorem dL_movedShare_1 : decode cL_movedShare 1 = .ok (.iconst 0, 1) := by decide +kernel
theorem dL_movedShare_2 : decode cL_movedShare 2 = .ok (.aload_n 0, 1) := by decide +kernel
theorem dL_movedShare_3 : decode cL_movedShare 3 = .ok (.invokevirtual 88, 3) := by decide +kernel
theorem dL_movedShare_6 : decode cL_movedShare 6 = .ok (.f2d, 1) := by decide +kernel
theorem dL_movedShare_7 : decode cL_movedShare 7 = .ok (.dastore, 1) := by decide +kernel
theorem dL_movedShare_8 : decode cL_movedShare 8 = .ok (.goto 6, 3) := by decide +kernel
theorem dL_movedShare_11 : decode cL_movedShare 11 = .ok (.astore_n 2, 1) := by decide +kernel
theorem dL_movedShare_12 : decode cL_movedShare 12 = .ok (.iconst 1, 1) := by decide +kernel
theorem dL_movedShare_13 : decode cL_movedShare 13 = .ok (.ireturn, 1) := by decide +kernel
theorem dL_movedShare_14 : decode cL_movedShare 14 = .ok (.iconst 0, 1) := by decide +kernel
theorem dL_movedShare_15 : decode cL_movedShare 15 = .ok (.ireturn, 1) := by decide +kernel
theorem dL_meanStamp_0 : decode cL_meanStamp 0 = .ok (.aload_n 1, 1) := by decide +kernel
theorem dL_meanStamp_1 : decode cL_meanStamp 1 = .ok (.iconst 0, 1) := by decide +kernel
theorem dL_meanStamp_2 : decode cL_meanStamp 2 = .ok (.aload_n 0, 1) := by decide +kernel
theorem dL_meanStamp_3 : decode cL_meanStamp 3 = .ok (.invokevirtual 94, 3) := by decide +kernel
theorem dL_meanStamp_6 : decode cL_meanStamp 6 = .ok (.dastore, 1) := by decide +kernel
theorem dL_meanStamp_7 : decode cL_meanStamp 7 = .ok (.goto 6, 3) := by decide +kernel
theorem dL_meanStamp_10 : decode cL_meanStamp 10 = .ok (.astore_n 2, 1) := by decide +kernel
theorem dL_meanStamp_11 : decode cL_meanStamp 11 = .ok (.iconst 1, 1) := by decide +kernel
theorem dL_meanStamp_12 : decode cL_meanStamp 12 = .ok (.ireturn, 1) := by decide +kernel
theorem dL_meanStamp_13 : decode cL_meanStamp 13 = .ok (.iconst 0, 1) := by decide +kernel
theorem dL_meanStamp_14 : decode cL_meanStamp 14 = .ok (.ireturn, 1) := by decide +kernel
end
section
/-! the proof's own words: the classes and arrays of all worlds, what the tables give, contracts of three kinds (P: changes nothing; C: changes cells; X: changes cells, or throws) -/
abbrev sm_G : Type := va_G × (Nat → ClassId)
abbrev sm_cl : List vw_C := [(RX0, TX0, 2), (RX1, TX1, 5), (RX2, TX2, 8), (RX3, TX3, 3), (RX4, TX4, 3), (RX5, TX5, 4), (RX6, TX6, 12), (RX7, TX7, 33)]
abbrev sm_ty (d : Nat → ClassId) : List (ClassId × FieldType) := [(d 0, .int), (d 1, .boolean), (d 2, .char), (d 3, .long), (d 4, .double)]
def sm_b (b : Bool) : Int32 := match b with
  | true => 1
  | false => 0
theorem sm_b0 {b : Bool} (h : sm_b b = 0) : b = false := by cases b; rfl; exact absurd h (by decide)
theorem sm_b1 {b : Bool} (h : ¬ sm_b b = 0) : b = true := by cases b; exact absurd rfl h; rfl
theorem sm_nb (b : Bool) : narrow .boolean (.int (sm_b b)) = .int (sm_b b) := by cases b <;> decide
def sm_ad (ws : va_W) : Nat → Prop := fun q => ∃ (k : Nat) (e : va_E), ws[k]? = some (q, e)
abbrev sm_nm : List (String × Nat × MethodName × String) := [(RX3, 22, yX6_isKey, RX6), (RX5, 24, yX6_isKey, RX6), (RX4, 19, yX6_isWithin, RX6), (RX6, 18, yX3_init, RX6), (RX6, 25, yX5_init, RX6), (RX6, 32, yX1_init, RX6), (RX6, 42, yX2_init, RX6), (RX6, 49, yX0_init, RX6), (RX6, 9, yX4_init, RX6), (RX2, 11, yX3_init, RX6)]
abbrev sm_str : List (Nat × String) := [(104, "it is not copying"), (114, "the first copy is not complete"), (121, "not both stores are written"), (130, "the stores are not alike"), (135, "it is not switched"), (140, "an entry cannot be turned back"), (162, "no such key, or no such number"), (167, "nothing can be written any more"), (190, "nothing can be deleted any more"), (192, "the log is full"), (206, "nothing has this key"), (214, "no number is given out any more"), (216, "no such number of keys"), (218, "no part can be read"), (229, "no such part waits"), (252, "no such number of changes"), (261, "the key has no stamp"), (267, "the source has no such row"), (272, "the row cannot be turned"), (280, "the target has no such entry"), (285, "the entry cannot be turned back"), (294, "no key of the range differs"), (296, "the source is not being moved"), (300, "the source is empty"), (306, "the target has no entries"), (311, "no such key"), (313, "no such range of keys"), (77, "no such step"), (88, "no step can be added any more"), (99, "it was started before")]
abbrev sm_IA : String := "java/lang/IllegalArgumentException"
abbrev sm_IS : String := "java/lang/IllegalStateException"
abbrev sm_UO : String := "java/lang/UnsupportedOperationException"
abbrev sm_NS : String := "java/util/NoSuchElementException"
abbrev sm_IO : String := "java/lang/IndexOutOfBoundsException"
abbrev sm_AR : String := "java/lang/ArithmeticException"
abbrev sm_nc : List (String × String) := [(sm_IS, sm_IA), (sm_UO, sm_IS), (sm_NS, sm_IA), (sm_UO, sm_IA), (sm_UO, sm_NS)]
abbrev sm_nd : List MethodName := [Bundle.initS "java/lang/RuntimeException", Bundle.initS "java/lang/Exception", Bundle.initS Bundle.tN]
abbrev sm_ce : List String := [sm_IA, sm_IS, sm_UO, sm_NS, sm_IO, sm_AR]
def sm_K (D : sm_G) (U : State) : Prop := va_K D.1 sm_cl (sm_ty D.2) U ∧ (∀ q ∈ sm_nm, va_Nw (.methodLinkNest q.1 q.2.1 q.2.2.1 q.2.2.2) U) ∧ (∀ q ∈ sm_str, ∃ a, vk_R RX6 q.1 q.2 a U) ∧ (∀ q ∈ sm_nc, va_Nc q.1 q.2 U) ∧ (∀ q ∈ sm_nd, va_Nw (.declares q) U) ∧ ∀ q ∈ sm_ce, va_Nw (.castable q q) U
theorem sm_K.warm {D : sm_G} {s U : State} (hW : s.WarmedH U.vm) (h : sm_K D s) : sm_K D U := ⟨va_K.moved hW.alike h.1, fun q hq => va_Nw.warmM hW (h.2.1 q hq), fun q hq => (h.2.2.1 q hq).elim fun a ha => ⟨a, vk_R.warm hW ha⟩, fun q hq => va_Nc.moved hW.alike (h.2.2.2.1 q hq), fun q hq => va_Nw.warmD hW (h.2.2.2.2.1 q hq), fun q hq => va_Nw.warmC hW (h.2.2.2.2.2 q hq)⟩
theorem sm_K.call {D : sm_G} {U : State} {g : JFrame} {mk : MethodId} {a : Array Value} (h : sm_K D U) : sm_K D (U.calling g mk a) := ⟨va_K.moved (u := U) (U := U.calling g mk a) (Vm.Alike.refl U.vm) h.1, fun q hq => va_Nw.same rfl (u := U) (U := U.calling g mk a) rfl (h.2.1 q hq), fun q hq => (h.2.2.1 q hq).elim fun z hz => ⟨z, vk_R.same (u := U) (U := U.calling g mk a) rfl hz⟩, fun q hq => va_Nc.moved (u := U) (U := U.calling g mk a) (Vm.Alike.refl U.vm) (h.2.2.2.1 q hq), fun q hq => va_Nw.same rfl (u := U) (U := U.calling g mk a) rfl (h.2.2.2.2.1 q hq), fun q hq => va_Nw.same rfl (u := U) (U := U.calling g mk a) rfl (h.2.2.2.2.2 q hq)⟩
def sm_Z (A : Nat → Prop) (U : State) (H : Heap) : Prop := vx_Zq Bundle.tN "UNASSIGNED_STACK" Bundle.steD A U H ∧ vx_Zq Bundle.tN "SUPPRESSED_SENTINEL" Bundle.listD A U H
theorem sm_Z.kept {A : Nat → Prop} {U : State} {H H1 : Heap} (h : sm_Z A U H) (hq : ∀ a : Nat, a < H.size → ¬ A a → H1[a]? = H[a]?) : sm_Z A U H1 := ⟨h.1.kept hq, h.2.kept hq⟩
theorem sm_Z.moved {A : Nat → Prop} {u U : State} {H : Heap} (hvm : u.vm.Alike U.vm) (h : sm_Z A u H) : sm_Z A U H := ⟨vx_Zq.moved hvm h.1, vx_Zq.moved hvm h.2⟩
theorem sm_Z.narrow {A B : Nat → Prop} {U : State} {H : Heap} (h : sm_Z A U H) (hAB : ∀ q, B q → A q) : sm_Z B U H := ⟨h.1.narrow hAB, h.2.narrow hAB⟩
-- what holds at a method's start, and at its end
def sm_Pp (D : sm_G) (ws : va_W) : State → Prop := fun U => va_P D.1 sm_cl ws U.heap ∧ sm_K D U
def sm_Px (D : sm_G) (ws : va_W) : State → Prop := fun U => (va_P D.1 sm_cl ws U.heap ∧ sm_K D U) ∧ va_D (sm_ad ws) ws ∧ sm_Z (sm_ad ws) U U.heap
def sm_Qp (ov : Option Value) : Array Value → State → Outcome → State → Prop := fun _ st oc t => oc = .returned ov ∧ t.heap = st.heap
def sm_Ch (D : sm_G) (ws : va_W) (B : va_W → Prop) (st t : State) : Prop := (∃ w1, B w1 ∧ va_P D.1 sm_cl w1 t.heap ∧ va_D (sm_ad ws) w1) ∧ va_F (sm_ad ws) st t
def sm_Qc (D : sm_G) (ws : va_W) (B : va_W → Prop) (ov : Option Value) : Array Value → State → Outcome → State → Prop := fun _ st oc t => oc = .returned ov ∧ sm_Ch D ws B st t
def sm_Qx (D : sm_G) (ws : va_W) (B : va_W → Prop) (r : String ⊕ Option Value) : Array Value → State → Outcome → State → Prop := fun _ st oc t => (∃ ov, r = .inr ov ∧ oc = .returned ov) ∧ sm_Ch D ws B st t
def sm_Xx (D : sm_G) (ws : va_W) (B : va_W → Prop) (r : String ⊕ Option Value) : String → State → State → Prop := fun E st t => r = .inl E ∧ sm_Ch D ws B st t
abbrev sm_MP (l : Launch) (y : MethodName) (cc : ByteArray) (nL : Nat) (ret : Option FieldType) (fr lo : Nat) (vs : List Value) (D : sm_G) (ws : va_W) (ov : Option Value) : Prop := Met l y (.code y cc nL ret :: wsL_law) ({ frames := fr, cells := 0, slots := 0, locals := lo } : Room) (va_Pc vs (sm_Pp D ws)) (sm_Qp ov) 0 0 (fun _ => False)
abbrev sm_MC (l : Launch) (y : MethodName) (cc : ByteArray) (nL : Nat) (ret : Option FieldType) (fr lo : Nat) (vs : List Value) (D : sm_G) (ws : va_W) (B : va_W → Prop) (ov : Option Value) : Prop := Met l y (.code y cc nL ret :: wsL_law) ({ frames := fr, cells := 0, slots := 0, locals := lo } : Room) (va_Pc vs (sm_Px D ws)) (sm_Qc D ws B ov) 0 0 (sm_ad ws)
abbrev sm_MX (l : Launch) (y : MethodName) (cc : ByteArray) (nL : Nat) (ret : Option FieldType) (fr lo : Nat) (vs : List Value) (D : sm_G) (ws : va_W) (B : va_W → Prop) (r : String ⊕ Option Value) : Prop := vx_Met l y (.code y cc nL ret :: wsL_law) ({ frames := fr, cells := 1, slots := 6, locals := lo } : Room) (va_Pc vs (sm_Px D ws)) (sm_Qx D ws B r) (sm_Xx D ws B r) 1 6 (sm_ad ws)
theorem sm_all : wsL_law.all goodWord = true := by decide +kernel
theorem sm_pay {args : Array Value} {s : State} (hts : ∀ w ∈ wsL_law, w.before args s = true) : ∀ w ∈ wsL_law, ∀ (a' : Array Value) (U : State), s.WarmedH U.vm → w.before a' U = true := pay_in hts (fun w h => ⟨h, good_of_word (List.all_eq_true.mp sm_all w h)⟩)
/-- what a body has at hand -/
def sm_Cx (p : Program) (s : State) (m : MethodId) (args : Array Value) (meth : Method) (c : Code) (cc : ByteArray) (nL : Nat) (ret : Option FieldType) (own : String) : Prop :=
  p.tables.exec = Jvm.exec ∧ c.code = cc ∧ c.maxLocals = nL ∧ meth.sig.returnType = ret ∧ s.vm.findClass own = some m.cls ∧ meth.locks = false ∧ (∀ w ∈ wsL_law, w.before args s = true)
theorem sm_met {l : Launch} {y : MethodName} {cc : ByteArray} {nL : Nat} {ret : Option FieldType} {rm : Room} {Qc : Array Value → State → Outcome → State → Prop} {mc ms : Nat} {free : Addr → Prop} {own : String} {vs : List Value} {B : State → Prop} (hy : plainName y.cls = true) (ho : y.cls = own) (hlen : (lg_sl vs).length ≤ nL)
    (body : ∀ (p : Program) (e : Env) (s : State) (m : MethodId) (below : List Frame) (meth : Method) (c : Code) (ls : Array Slot), sm_Cx p s m vs.toArray meth c cc nL ret own → B s → lv_has ls nL (lv_args 0 vs) → W p l e rm s m vs.toArray below meth c s.heap [] 0 0 (MQ below Qc vs.toArray s mc ms free) (F0 m 0 ls [])) : Met l y (.code y cc nL ret :: wsL_law) rm (va_Pc vs B) Qc mc ms free := by
  refine Met.ofW (cc := cc) (maxL := nL) (ret := ret) hy rfl ?_
  intro p e s m args below meth c s₁ B hml hv
  obtain ⟨rfl, hB⟩ := hv
  have hts0 := atoms_spec (ws := Cond.code y cc nL ret :: wsL_law) B.pre
  subst ho
  rw [lg_entry_eq]
  exact body p e s m below meth c _ ⟨B.exec, B.bytes, hml, B.returns, findClass_of_methodNamed B.named, B.notSynchronized, fun w h => hts0 w (List.mem_cons_of_mem _ h)⟩ hB (lv_entry vs hlen)
theorem sm_metX {l : Launch} {y : MethodName} {cc : ByteArray} {nL : Nat} {ret : Option FieldType} {rm : Room} {Qc : Array Value → State → Outcome → State → Prop} {XC : String → State → State → Prop} {mc ms : Nat} {free : Addr → Prop} {own : String} {vs : List Value} {B : State → Prop} (hy : plainName y.cls = true) (ho : y.cls = own) (hlen : (lg_sl vs).length ≤ nL)
    (body : ∀ (p : Program) (e : Env) (s : State) (m : MethodId) (below : List Frame) (meth : Method) (c : Code) (ls : Array Slot), sm_Cx p s m vs.toArray meth c cc nL ret own → (∀ x ∈ c.exceptionTable.toList, False) → B s → lv_has ls nL (lv_args 0 vs) → W p l e rm s m vs.toArray below meth c s.heap [] 0 0 (vx_MQ below Qc XC vs.toArray s mc ms free) (F0 m 0 ls [])) : vx_Met l y (.code y cc nL ret :: wsL_law) rm (va_Pc vs B) Qc XC mc ms free := by
  refine vx_ofW (cc := cc) (maxL := nL) (ret := ret) hy rfl ?_
  intro p e s m args below meth c s₁ B hml htab hv
  obtain ⟨rfl, hB⟩ := hv
  have hts0 := atoms_spec (ws := Cond.code y cc nL ret :: wsL_law) B.pre
  subst ho
  rw [lg_entry_eq]
  exact body p e s m below meth c _ ⟨B.exec, B.bytes, hml, B.returns, findClass_of_methodNamed B.named, B.notSynchronized, fun w h => hts0 w (List.mem_cons_of_mem _ h)⟩ htab hB (lv_entry vs hlen)
end
section
/-! the proof's own rows: reads and writes of the worlds, calls of the three kinds, ends, throws -/
section SMR
variable {p : Program} {l : Launch} {e : Env} {R : Room} {s : State} {m : MethodId} {args : Array Value} {below : List Frame} {meth : Method} {c : Code} {H : Heap} {locs : List Loc} {cells slots : Nat} {Q : State → Prop}
variable {cc : ByteArray} {pc : Nat} {ls : Array Slot} {rest : List Value} {D : sm_G} {ws : va_W} {a : Nat} {H0 : Heap} {A : Nat → Prop}
theorem sm_gt (hx : p.tables.exec = Jvm.exec) (hb : c.code = cc) {own C : String} {T : u_T} {N ci index : Nat} (hts : ∀ w ∈ wsL_law, w.before args s = true) (hin : ∀ w ∈ u_ws C T N, w ∈ wsL_law) (hown : s.vm.findClass own = some m.cls) (hK : sm_K D s) (hP : va_P D.1 sm_cl ws H) (q0 : Nat) {fs : List Value} (he : ws[q0]? = some (a, .inr (ci, fs))) (hc : sm_cl[ci]? = some (C, T, N)) (k : Nat) (hk : k < N) (hlink : Cond.fieldLink own index (T k).1 (T k).2.1 (T k).2.2.1 ∈ wsL_law) {v : Value} (hv : fs[k]? = some v) (hdg : decode cc pc = .ok (.getfield index, 3))
    (kk : W p l e R s m args below meth c H locs cells slots Q (F0 m (pc + 3) ls (v :: rest))) : W p l e R s m args below meth c H locs cells slots Q (F0 m pc ls (.ref a :: rest)) :=
  va_get hx hb hts hin hown hK.1 hP q0 he hc k hk (hts _ hlink) (fun _ h => h) hv hdg kk
theorem sm_pt (hx : p.tables.exec = Jvm.exec) (hb : c.code = cc) {own C : String} {T : u_T} {N ci index : Nat} (hts : ∀ w ∈ wsL_law, w.before args s = true) (hin : ∀ w ∈ u_ws C T N, w ∈ wsL_law) (ty0 : Nat → FieldType) (hty : ∀ k, k < N → parseFieldDescriptor (T k).2.2.1 = some (ty0 k)) (hnm : ∀ a, a < N → ∀ b, b < N → a ≠ b → (T a).2.1 ≠ (T b).2.1) (hown : s.vm.findClass own = some m.cls) (hK : sm_K D s) (hP : va_P D.1 sm_cl ws H) (hD : va_D A ws) (hS0 : va_S A H0 H locs) (q0 : Nat) {fs : List Value} (he : ws[q0]? = some (a, .inr (ci, fs))) (hc : sm_cl[ci]? = some (C, T, N)) (k : Nat) (hk : k < N) (hlink : Cond.fieldLink own index (T k).1 (T k).2.1 (T k).2.2.1 ∈ wsL_law) (hfin : (T k).2.2.2 = false) {v : Value} (hn : narrow (ty0 k) v = v) (hfit : fits (ty0 k) v = true) (hl : k < fs.length)
    (hdg : decode cc pc = .ok (.putfield index, 3)) (kk : ∀ (H1 : Heap) (locs1 : List Loc), va_P D.1 sm_cl (ws.set q0 (a, .inr (ci, fs.set k v))) H1 → va_D A (ws.set q0 (a, .inr (ci, fs.set k v))) → va_S A H0 H1 locs1 → W p l e R s m args below meth c H1 locs1 cells slots Q (F0 m (pc + 3) ls rest)) : W p l e R s m args below meth c H locs cells slots Q (F0 m pc ls (v :: .ref a :: rest)) :=
  va_put hx hb hts hin ty0 hty hnm hown hK.1 hP hD hS0 q0 he hc k hk (hts _ hlink) (fun _ h => h) hfin (hty k hk) hn hfit hl hdg kk
theorem sm_ild (hx : p.tables.exec = Jvm.exec) (hb : c.code = cc) (hK : sm_K D s) (hP : va_P D.1 sm_cl ws H) (q0 : Nat) {n : Nat} {f : Nat → Int32} (ha : ws[q0]? = some (a, .inl (D.2 0, n, .inl f))) {i : Int32} (j : Nat) (hij : i = nI j) (hj : j < n) (hn : n < 2 ^ 31) (hdg : decode cc pc = .ok (.iaload, 1))
    (kk : W p l e R s m args below meth c H locs cells slots Q (F0 m (pc + 1) ls (.int (f j) :: rest))) : W p l e R s m args below meth c H locs cells slots Q (F0 m pc ls (.int i :: .ref a :: rest)) := by
  subst hij
  refine va_iald hx hb hK.1 hP q0 0 ha rfl (vp_in_nI hj hn) hdg ?_
  rw [nI_clamp (by omega)]
  exact kk
theorem sm_cld (hx : p.tables.exec = Jvm.exec) (hb : c.code = cc) (hK : sm_K D s) (hP : va_P D.1 sm_cl ws H) (q0 : Nat) {n : Nat} {f : Nat → Int32} (ha : ws[q0]? = some (a, .inl (D.2 2, n, .inl f))) {i : Int32} (j : Nat) (hij : i = nI j) (hj : j < n) (hn : n < 2 ^ 31) (hdg : decode cc pc = .ok (.caload, 1))
    (kk : W p l e R s m args below meth c H locs cells slots Q (F0 m (pc + 1) ls (.int (f j) :: rest))) : W p l e R s m args below meth c H locs cells slots Q (F0 m pc ls (.int i :: .ref a :: rest)) := by
  subst hij
  refine va_cald hx hb hK.1 hP q0 2 ha rfl (vp_in_nI hj hn) hdg ?_
  rw [nI_clamp (by omega)]
  exact kk
theorem sm_zld (hx : p.tables.exec = Jvm.exec) (hb : c.code = cc) (hK : sm_K D s) (hP : va_P D.1 sm_cl ws H) (q0 : Nat) {n : Nat} {f : Nat → Bool} (ha : ws[q0]? = some (a, .inl (D.2 1, n, .inl (fun j => sm_b (f j))))) {i : Int32} (j : Nat) (hij : i = nI j) (hj : j < n) (hn : n < 2 ^ 31) (hdg : decode cc pc = .ok (.baload, 1))
    (kk : W p l e R s m args below meth c H locs cells slots Q (F0 m (pc + 1) ls (.int (sm_b (f j)) :: rest))) : W p l e R s m args below meth c H locs cells slots Q (F0 m pc ls (.int i :: .ref a :: rest)) := by
  subst hij
  refine va_zald hx hb hK.1 hP q0 1 ha rfl (vp_in_nI hj hn) hdg ?_
  rw [nI_clamp (by omega)]
  exact kk
theorem sm_lld (hx : p.tables.exec = Jvm.exec) (hb : c.code = cc) (hK : sm_K D s) (hP : va_P D.1 sm_cl ws H) (q0 : Nat) {n : Nat} {f : Nat → Int64} (ha : ws[q0]? = some (a, .inl (D.2 3, n, .inr (.inl f)))) {i : Int32} (j : Nat) (hij : i = nI j) (hj : j < n) (hn : n < 2 ^ 31) (hdg : decode cc pc = .ok (.laload, 1))
    (kk : W p l e R s m args below meth c H locs cells slots Q (F0 m (pc + 1) ls (.long (f j) :: rest))) : W p l e R s m args below meth c H locs cells slots Q (F0 m pc ls (.int i :: .ref a :: rest)) := by
  subst hij
  refine va_lald hx hb hK.1 hP q0 3 ha rfl (vp_in_nI hj hn) hdg ?_
  rw [nI_clamp (by omega)]
  exact kk
theorem sm_dld (hx : p.tables.exec = Jvm.exec) (hb : c.code = cc) (hK : sm_K D s) (hP : va_P D.1 sm_cl ws H) (q0 : Nat) {n : Nat} {f : Nat → UInt64} (ha : ws[q0]? = some (a, .inl (D.2 4, n, .inr (.inr (.inr (.inl f)))))) {i : Int32} (j : Nat) (hij : i = nI j) (hj : j < n) (hn : n < 2 ^ 31) (hdg : decode cc pc = .ok (.daload, 1))
    (kk : W p l e R s m args below meth c H locs cells slots Q (F0 m (pc + 1) ls (.double (f j) :: rest))) : W p l e R s m args below meth c H locs cells slots Q (F0 m pc ls (.int i :: .ref a :: rest)) := by
  subst hij
  refine va_dald hx hb hK.1 hP q0 4 ha rfl (vp_in_nI hj hn) hdg ?_
  rw [nI_clamp (by omega)]
  exact kk
theorem sm_ist (hx : p.tables.exec = Jvm.exec) (hb : c.code = cc) (hK : sm_K D s) (hP : va_P D.1 sm_cl ws H) (hD : va_D A ws) (hS : va_S A H0 H locs) (q0 : Nat) {n : Nat} {f : Nat → Int32} (ha : ws[q0]? = some (a, .inl (D.2 0, n, .inl f))) {i x : Int32} (j : Nat) (hij : i = nI j) (hj : j < n) (hn : n < 2 ^ 31) (hdg : decode cc pc = .ok (.iastore, 1))
    (kk : ∀ (H1 : Heap) (locs1 : List Loc), va_P D.1 sm_cl (ws.set q0 (a, .inl (D.2 0, n, .inl (va_up f j x)))) H1 → va_D A (ws.set q0 (a, .inl (D.2 0, n, .inl (va_up f j x)))) → va_S A H0 H1 locs1 → W p l e R s m args below meth c H1 locs1 cells slots Q (F0 m (pc + 1) ls rest)) : W p l e R s m args below meth c H locs cells slots Q (F0 m pc ls (.int x :: .int i :: .ref a :: rest)) := by
  subst hij
  refine va_iast hx hb hK.1 hP hD hS q0 0 ha rfl (vp_in_nI hj hn) hdg (fun H1 locs1 h1 h2 h3 => ?_)
  rw [nI_clamp (by omega)] at h1 h2
  exact kk H1 locs1 h1 h2 h3
theorem sm_cst (hx : p.tables.exec = Jvm.exec) (hb : c.code = cc) (hK : sm_K D s) (hP : va_P D.1 sm_cl ws H) (hD : va_D A ws) (hS : va_S A H0 H locs) (q0 : Nat) {n : Nat} {f : Nat → Int32} (ha : ws[q0]? = some (a, .inl (D.2 2, n, .inl f))) {i x : Int32} (j : Nat) (hij : i = nI j) (hj : j < n) (hn : n < 2 ^ 31) (hc : vp_nar .char x = x) (hdg : decode cc pc = .ok (.castore, 1))
    (kk : ∀ (H1 : Heap) (locs1 : List Loc), va_P D.1 sm_cl (ws.set q0 (a, .inl (D.2 2, n, .inl (va_up f j x)))) H1 → va_D A (ws.set q0 (a, .inl (D.2 2, n, .inl (va_up f j x)))) → va_S A H0 H1 locs1 → W p l e R s m args below meth c H1 locs1 cells slots Q (F0 m (pc + 1) ls rest)) : W p l e R s m args below meth c H locs cells slots Q (F0 m pc ls (.int x :: .int i :: .ref a :: rest)) := by
  subst hij
  refine va_cast hx hb hK.1 hP hD hS q0 2 ha rfl (vp_in_nI hj hn) hdg (fun H1 locs1 h1 h2 h3 => ?_)
  rw [nI_clamp (by omega), hc] at h1 h2
  exact kk H1 locs1 h1 h2 h3
theorem sm_zup (f : Nat → Bool) (j : Nat) (b : Bool) : upd (fun k => sm_b (f k)) j (vp_nar .boolean (sm_b b)) = fun k => sm_b (va_up f j b k) := by
  have h : vp_nar .boolean (sm_b b) = sm_b b := by cases b <;> decide
  rw [h]
  funext k
  unfold upd va_up
  split <;> rfl
theorem sm_zst (hx : p.tables.exec = Jvm.exec) (hb : c.code = cc) (hK : sm_K D s) (hP : va_P D.1 sm_cl ws H) (hD : va_D A ws) (hS : va_S A H0 H locs) (q0 : Nat) {n : Nat} {f : Nat → Bool} (ha : ws[q0]? = some (a, .inl (D.2 1, n, .inl (fun j => sm_b (f j))))) {i x : Int32} (b : Bool) (hxb : x = sm_b b) (j : Nat) (hij : i = nI j) (hj : j < n) (hn : n < 2 ^ 31) (hdg : decode cc pc = .ok (.bastore, 1))
    (kk : ∀ (H1 : Heap) (locs1 : List Loc), va_P D.1 sm_cl (ws.set q0 (a, .inl (D.2 1, n, .inl (fun k => sm_b (va_up f j b k))))) H1 → va_D A (ws.set q0 (a, .inl (D.2 1, n, .inl (fun k => sm_b (va_up f j b k))))) → va_S A H0 H1 locs1 → W p l e R s m args below meth c H1 locs1 cells slots Q (F0 m (pc + 1) ls rest)) : W p l e R s m args below meth c H locs cells slots Q (F0 m pc ls (.int x :: .int i :: .ref a :: rest)) := by
  subst hij
  subst hxb
  refine va_zast hx hb hK.1 hP hD hS q0 1 ha rfl (vp_in_nI hj hn) hdg (fun H1 locs1 h1 h2 h3 => ?_)
  rw [nI_clamp (by omega), sm_zup] at h1 h2
  exact kk H1 locs1 h1 h2 h3
theorem sm_lst (hx : p.tables.exec = Jvm.exec) (hb : c.code = cc) (hK : sm_K D s) (hP : va_P D.1 sm_cl ws H) (hD : va_D A ws) (hS : va_S A H0 H locs) (q0 : Nat) {n : Nat} {f : Nat → Int64} (ha : ws[q0]? = some (a, .inl (D.2 3, n, .inr (.inl f)))) {i : Int32} {x : Int64} (j : Nat) (hij : i = nI j) (hj : j < n) (hn : n < 2 ^ 31) (hdg : decode cc pc = .ok (.lastore, 1))
    (kk : ∀ (H1 : Heap) (locs1 : List Loc), va_P D.1 sm_cl (ws.set q0 (a, .inl (D.2 3, n, .inr (.inl (va_up f j x))))) H1 → va_D A (ws.set q0 (a, .inl (D.2 3, n, .inr (.inl (va_up f j x))))) → va_S A H0 H1 locs1 → W p l e R s m args below meth c H1 locs1 cells slots Q (F0 m (pc + 1) ls rest)) : W p l e R s m args below meth c H locs cells slots Q (F0 m pc ls (.long x :: .int i :: .ref a :: rest)) := by
  subst hij
  refine va_last hx hb hK.1 hP hD hS q0 3 ha rfl (vp_in_nI hj hn) hdg (fun H1 locs1 h1 h2 h3 => ?_)
  rw [nI_clamp (by omega)] at h1 h2
  exact kk H1 locs1 h1 h2 h3
theorem sm_dst (hx : p.tables.exec = Jvm.exec) (hb : c.code = cc) (hK : sm_K D s) (hP : va_P D.1 sm_cl ws H) (hD : va_D A ws) (hS : va_S A H0 H locs) (q0 : Nat) {n : Nat} {f : Nat → UInt64} (ha : ws[q0]? = some (a, .inl (D.2 4, n, .inr (.inr (.inr (.inl f)))))) {i : Int32} {x : UInt64} (j : Nat) (hij : i = nI j) (hj : j < n) (hn : n < 2 ^ 31) (hdg : decode cc pc = .ok (.dastore, 1))
    (kk : ∀ (H1 : Heap) (locs1 : List Loc), va_P D.1 sm_cl (ws.set q0 (a, .inl (D.2 4, n, .inr (.inr (.inr (.inl (va_up f j x))))))) H1 → va_D A (ws.set q0 (a, .inl (D.2 4, n, .inr (.inr (.inr (.inl (va_up f j x))))))) → va_S A H0 H1 locs1 → W p l e R s m args below meth c H1 locs1 cells slots Q (F0 m (pc + 1) ls rest)) : W p l e R s m args below meth c H locs cells slots Q (F0 m pc ls (.double x :: .int i :: .ref a :: rest)) := by
  subst hij
  refine va_dast hx hb hK.1 hP hD hS q0 4 ha rfl (vp_in_nI hj hn) hdg (fun H1 locs1 h1 h2 h3 => ?_)
  rw [nI_clamp (by omega)] at h1 h2
  exact kk H1 locs1 h1 h2 h3
-- another name of the top of the stack
theorem sm_re {x y : Int32} (h : x = y) (k : W p l e R s m args below meth c H locs cells slots Q (F0 m pc ls (.int y :: rest))) : W p l e R s m args below meth c H locs cells slots Q (F0 m pc ls (.int x :: rest)) := h ▸ k
-- calls
/-- what the tables say of a callee, by its places in wsL_law: instance methods, static ones -/
def sm_yV (y : MethodName) (bytes : ByteArray) (maxL : Nat) (ret : Option FieldType) (n : Nat) : Prop := Cond.instanceMethod y ∈ wsL_law ∧ Cond.selects y.cls y y ∈ wsL_law ∧ Cond.initialized y.cls ∈ wsL_law ∧ Cond.code y bytes maxL ret ∈ wsL_law ∧ y.cls ≠ "java/lang/invoke/MethodHandle" ∧ y.cls ≠ "java/lang/invoke/VarHandle" ∧ (parseMethodDescriptor y.desc).map (fun d => d.parameters.length) = some n
def sm_yS (y : MethodName) (bytes : ByteArray) (maxL : Nat) (ret : Option FieldType) (n : Nat) : Prop := Cond.static y ∈ wsL_law ∧ Cond.initialized y.cls ∈ wsL_law ∧ Cond.code y bytes maxL ret ∈ wsL_law ∧ y.cls ≠ "java/lang/invoke/MethodHandle" ∧ y.cls ≠ "java/lang/invoke/VarHandle" ∧ (parseMethodDescriptor y.desc).map (fun d => d.parameters.length) = some n
variable {y : MethodName} {bytes : ByteArray} {maxL fr lo n index nL ci N : Nat} {ret rt : Option FieldType} {own C : String} {T : u_T} {b : Addr} {As st0 fs : List Value} {ov : Option Value} {B : va_W → Prop} {r : String ⊕ Option Value}
theorem sm_callB {rm : Room} {mc ms : Nat} (hts : ∀ w ∈ wsL_law, w.before args s = true) (hrc : rm.cells = mc) (hrs : rm.slots = ms) (m1 : Cond.methodLink own index y ∈ wsL_law) (m4 : Cond.initialized y.cls ∈ wsL_law) (m5 : Cond.code y bytes maxL ret ∈ wsL_law) (hy : y.cls ≠ "java/lang/invoke/MethodHandle" ∧ y.cls ≠ "java/lang/invoke/VarHandle" ∧ (parseMethodDescriptor y.desc).map (fun d => d.parameters.length) = some n) (hR : rm.frames + 1 ≤ R.frames ∧ 8 + (maxL + 11) + rm.locals ≤ R.locals) : CallB R s args own index y bytes maxL ret (.code y bytes maxL ret :: wsL_law) rm mc ms n := by
  refine ⟨hrc, hrs, hR.1, hR.2, fun w hw => ?_, List.mem_cons_self, hts _ m5, hts _ m4, ⟨hy.1, hy.2.1⟩, fun sig h => ?_, hts _ m1⟩
  · rcases List.mem_cons.mp hw with h | h
    · rw [h]; exact sm_pay hts _ m5
    · exact sm_pay hts _ h
  · have h2 := hy.2.2
    rw [h] at h2
    exact (Option.some.inj h2).symm
theorem sm_blP {vs : List Value} : FrameBlind (va_Pc vs (sm_Pp D ws)) := fun a U g mk q => ⟨q.1, q.2.1, q.2.2.call⟩
theorem sm_blX {vs : List Value} : FrameBlind (va_Pc vs (sm_Px D ws)) := fun a U g mk q => ⟨q.1, ⟨q.2.1.1, q.2.1.2.call⟩, q.2.2.1, sm_Z.moved (u := U) (U := U.calling g mk a) (Vm.Alike.refl U.vm) q.2.2.2⟩
theorem sm_adA (hD : va_D A ws) : ∀ q, sm_ad ws q → A q := fun q h => by obtain ⟨k, e, h⟩ := h; exact hD.2 k _ h
theorem sm_self (hD : va_D A ws) : va_D (sm_ad ws) ws := ⟨hD.1, fun k q h => ⟨k, q.2, h⟩⟩
theorem sm_Zn (hZ : sm_Z A s s.heap) (hD : va_D A ws) (hS : va_S A s.heap H locs) {U : State} (hU : U.heap = H) (hW : s.WarmedH U.vm) : sm_Z (sm_ad ws) U U.heap := by
  rw [hU]
  exact ((hZ.kept (fun q h1 h2 => hS.2.1 q h1 h2)).moved hW.alike).narrow (sm_adA hD)
theorem sm_nilP {Qc : Array Value → State → Outcome → State → Prop} {T' : State} {L : List Loc} (hL : ∀ q ∈ L, False) : L = [] := List.eq_nil_iff_forall_not_mem.mpr (fun q h => hL q h)
/-- the end of a call that changes nothing -/
theorem sm_kP {g : JFrame} {av : Array Value} (hr : va_Run p l e R s m args below meth c H locs cells slots 0 0 (F0 m pc ls st0) rest (sm_Qp ov av) (fun _ => False)) (kk : W p l e R s m args below meth c H locs cells slots Q (F0 m (pc + 3) ls (ov.toList ++ rest))) : W p l e R s m args below meth c H locs cells slots Q (F0 m pc ls st0) := by
  intro T hT X
  obtain ⟨v, st₀, t, T', L, h0, X', hL, e1, e2, ⟨hv, ht⟩, st⟩ := hr T hT X
  cases hv
  have hL0 : L = [] := List.eq_nil_iff_forall_not_mem.mpr (fun q h => hL q h)
  subst hL0
  rw [List.append_nil] at X'
  obtain ⟨t2, a1, b1⟩ := kk T' (by rw [e1, ht, h0]) X'
  exact ⟨t2, st t2 a1, b1⟩
theorem sm_keepD {w1 : va_W} (hD : va_D A ws) (h : va_D (sm_ad ws) w1) : va_D A w1 := h.weaken (fun _ _ _ z => sm_adA hD _ z)
/-- the end of a call that changes cells -/
theorem sm_kC {av : Array Value} (hr : va_Run p l e R s m args below meth c H locs cells slots 0 0 (F0 m pc ls st0) rest (sm_Qc D ws B ov av) (sm_ad ws)) (hD : va_D A ws) (hS : va_S A s.heap H locs)
    (kk : ∀ (w1 : va_W) (H1 : Heap) (locs1 : List Loc), B w1 → va_P D.1 sm_cl w1 H1 → va_D A w1 → va_S A s.heap H1 locs1 → W p l e R s m args below meth c H1 locs1 cells slots Q (F0 m (pc + 3) ls (ov.toList ++ rest))) : W p l e R s m args below meth c H locs cells slots Q (F0 m pc ls st0) := by
  intro T hT X
  obtain ⟨v, st₀, t, T', L, h0, X', hL, e1, e2, ⟨hv, ⟨w1, hB, hP1, hD1⟩, hF⟩, st⟩ := hr T hT X
  cases hv
  obtain ⟨-, -, k3⟩ := vx_keep (A0 := A) h0 e1 hS (fun q _ h => sm_adA hD q h) (sm_adA hD) hL hF
  obtain ⟨t2, a1, b1⟩ := kk w1 T'.heap (locs ++ L) hB (by rw [e1]; exact hP1) (sm_keepD hD hD1) k3 T' rfl X'
  exact ⟨t2, st t2 a1, b1⟩
/-- the end of a call that may throw -/
theorem sm_kX {av : Array Value} (hr : vx_Run p l e R s m args below meth c H locs cells slots 1 6 (F0 m pc ls st0) rest (sm_Qx D ws B r av) (sm_Xx D ws B r) (sm_ad ws)) (hD : va_D A ws) (hS : va_S A s.heap H locs)
    (kx : ∀ (E : String) (ce : Cell) (q9 : Addr) (w1 : va_W) (H1 : Heap) (locs1 : List Loc), r = .inl E → B w1 → va_P D.1 sm_cl w1 H1 → va_D A w1 → va_S A s.heap H1 locs1 → H1[q9]? = some ce → ce.vm = .none → s.vm.findClass E = some ce.cls → vx_W p l e R s m args below meth c H1 locs1 (cells + 1) (slots + 6) Q (F0 m pc ls rest) q9)
    (kk : ∀ (ov : Option Value) (w1 : va_W) (H1 : Heap) (locs1 : List Loc), r = .inr ov → B w1 → va_P D.1 sm_cl w1 H1 → va_D A w1 → va_S A s.heap H1 locs1 → W p l e R s m args below meth c H1 locs1 (cells + 1) (slots + 6) Q (F0 m (pc + 3) ls (ov.toList ++ rest))) : W p l e R s m args below meth c H locs cells slots Q (F0 m pc ls st0) := by
  intro T hT X
  rcases hr T hT X with ⟨v, st₀, t, T', L, h0, X', hL, e1, e2, ⟨⟨ov, hr1, hv⟩, ⟨w1, hB, hP1, hD1⟩, hF⟩, st⟩ | ⟨q, st₀, t, T', L, E, ce, h0, X', hL, e1, e2, ⟨hr1, ⟨w1, hB, hP1, hD1⟩, hF⟩, hce, hcv, hcl, st⟩
  · cases hv
    obtain ⟨-, -, k3⟩ := vx_keep (A0 := A) h0 e1 hS (fun q _ h => sm_adA hD q h) (sm_adA hD) hL hF
    obtain ⟨t2, a1, b1⟩ := kk v w1 T'.heap (locs ++ L) hr1 hB (by rw [e1]; exact hP1) (sm_keepD hD hD1) k3 T' rfl X'
    exact ⟨t2, st t2 a1, b1⟩
  · obtain ⟨-, -, k3⟩ := vx_keep (A0 := A) h0 e1 hS (fun q _ h => sm_adA hD q h) (sm_adA hD) hL hF
    obtain ⟨t2, a1, b1⟩ := kx E ce q w1 T'.heap (locs ++ L) hr1 hB (by rw [e1]; exact hP1) (sm_keepD hD hD1) k3 (by rw [e1]; exact hce) hcv hcl T' rfl X'
    exact ⟨t2, st.trans a1, b1⟩
theorem sm_cVP (hC : sm_Cx p s m args meth c cc nL rt own) (hK : sm_K D s) (hP : va_P D.1 sm_cl ws H) (hM : sm_MP l y bytes maxL ret fr lo (.ref b :: As) D ws ov) (hy : sm_yV y bytes maxL ret n) (m1 : Cond.methodLink own index y ∈ wsL_law) (hR : fr + 1 ≤ R.frames ∧ 8 + (maxL + 11) + lo ≤ R.locals)
    (q0 : Nat) (he : ws[q0]? = some (b, .inr (ci, fs))) (hc : sm_cl[ci]? = some (y.cls, T, N)) (hn : As.length = n) (hsz : ls.size = nL) (hst : st0 = As.reverse ++ .ref b :: rest) (hcat : (rest.map fun v => v.category).sum ≤ 8) (hdg : decode cc pc = .ok (.invokevirtual index, 3)) (hf : cells ≤ R.cells ∧ slots ≤ R.slots)
    (kk : W p l e R s m args below meth c H locs cells slots Q (F0 m (pc + 3) ls (ov.toList ++ rest))) : W p l e R s m args below meth c H locs cells slots Q (F0 m pc ls st0) := by
  obtain ⟨hx, hb, hml, -, hown, -, hts⟩ := hC
  refine sm_kP (g := F0 m pc ls st0) (va_runV (own := own) (y := y) (C := y.cls) (b := b) (As := As) ⟨hx, hb, hml, hown, hts⟩ hM ⟨sm_callB hts rfl rfl m1 hy.2.2.1 hy.2.2.2.1 hy.2.2.2.2 hR, hts _ hy.1, hts _ hy.2.1⟩ ⟨sm_blP, va_recv hK.1 hP hc he, fun U hU hW => ⟨rfl, by rw [hU]; exact hP, hK.warm hW⟩⟩ rfl hn hsz hst (lv_room hcat) hdg ⟨by omega, by omega⟩) kk
theorem sm_cVC (hC : sm_Cx p s m args meth c cc nL rt own) (hK : sm_K D s) (hP : va_P D.1 sm_cl ws H) (hD : va_D A ws) (hS : va_S A s.heap H locs) (hZ : sm_Z A s s.heap) (hM : sm_MC l y bytes maxL ret fr lo (.ref b :: As) D ws B ov) (hy : sm_yV y bytes maxL ret n) (m1 : Cond.methodLink own index y ∈ wsL_law) (hR : fr + 1 ≤ R.frames ∧ 8 + (maxL + 11) + lo ≤ R.locals)
    (q0 : Nat) (he : ws[q0]? = some (b, .inr (ci, fs))) (hc : sm_cl[ci]? = some (y.cls, T, N)) (hn : As.length = n) (hsz : ls.size = nL) (hst : st0 = As.reverse ++ .ref b :: rest) (hcat : (rest.map fun v => v.category).sum ≤ 8) (hdg : decode cc pc = .ok (.invokevirtual index, 3)) (hf : cells ≤ R.cells ∧ slots ≤ R.slots)
    (kk : ∀ (w1 : va_W) (H1 : Heap) (locs1 : List Loc), B w1 → va_P D.1 sm_cl w1 H1 → va_D A w1 → va_S A s.heap H1 locs1 → W p l e R s m args below meth c H1 locs1 cells slots Q (F0 m (pc + 3) ls (ov.toList ++ rest))) : W p l e R s m args below meth c H locs cells slots Q (F0 m pc ls st0) := by
  obtain ⟨hx, hb, hml, -, hown, -, hts⟩ := hC
  refine sm_kC (va_runV (own := own) (y := y) (C := y.cls) (b := b) (As := As) ⟨hx, hb, hml, hown, hts⟩ hM ⟨sm_callB hts rfl rfl m1 hy.2.2.1 hy.2.2.2.1 hy.2.2.2.2 hR, hts _ hy.1, hts _ hy.2.1⟩ ⟨sm_blX, va_recv hK.1 hP hc he, fun U hU hW => ⟨rfl, ⟨by rw [hU]; exact hP, hK.warm hW⟩, sm_self hD, sm_Zn hZ hD hS hU hW⟩⟩ rfl hn hsz hst (lv_room hcat) hdg ⟨by omega, by omega⟩) hD hS kk
theorem sm_cVX (hC : sm_Cx p s m args meth c cc nL rt own) (hK : sm_K D s) (hP : va_P D.1 sm_cl ws H) (hD : va_D A ws) (hS : va_S A s.heap H locs) (hZ : sm_Z A s s.heap) (hM : sm_MX l y bytes maxL ret fr lo (.ref b :: As) D ws B r) (hy : sm_yV y bytes maxL ret n) (m1 : Cond.methodLink own index y ∈ wsL_law) (hR : fr + 1 ≤ R.frames ∧ 8 + (maxL + 11) + lo ≤ R.locals)
    (q0 : Nat) (he : ws[q0]? = some (b, .inr (ci, fs))) (hc : sm_cl[ci]? = some (y.cls, T, N)) (hn : As.length = n) (hsz : ls.size = nL) (hst : st0 = As.reverse ++ .ref b :: rest) (hcat : (rest.map fun v => v.category).sum ≤ 8) (hdg : decode cc pc = .ok (.invokevirtual index, 3)) (hf : cells + 1 ≤ R.cells ∧ slots + 6 ≤ R.slots)
    (kx : ∀ (E : String) (ce : Cell) (q9 : Addr) (w1 : va_W) (H1 : Heap) (locs1 : List Loc), r = .inl E → B w1 → va_P D.1 sm_cl w1 H1 → va_D A w1 → va_S A s.heap H1 locs1 → H1[q9]? = some ce → ce.vm = .none → s.vm.findClass E = some ce.cls → vx_W p l e R s m args below meth c H1 locs1 (cells + 1) (slots + 6) Q (F0 m pc ls rest) q9)
    (kk : ∀ (ov : Option Value) (w1 : va_W) (H1 : Heap) (locs1 : List Loc), r = .inr ov → B w1 → va_P D.1 sm_cl w1 H1 → va_D A w1 → va_S A s.heap H1 locs1 → W p l e R s m args below meth c H1 locs1 (cells + 1) (slots + 6) Q (F0 m (pc + 3) ls (ov.toList ++ rest))) : W p l e R s m args below meth c H locs cells slots Q (F0 m pc ls st0) := by
  obtain ⟨hx, hb, hml, -, hown, -, hts⟩ := hC
  refine sm_kX (vx_runV (own := own) (y := y) (C := y.cls) (b := b) (As := As) ⟨hx, hb, hml, hown, hts⟩ hM ⟨sm_callB hts rfl rfl m1 hy.2.2.1 hy.2.2.2.1 hy.2.2.2.2 hR, hts _ hy.1, hts _ hy.2.1⟩ ⟨sm_blX, va_recv hK.1 hP hc he, fun U hU hW => ⟨rfl, ⟨by rw [hU]; exact hP, hK.warm hW⟩, sm_self hD, sm_Zn hZ hD hS hU hW⟩⟩ rfl hn hsz hst (lv_room hcat) hdg hf) hD hS kx kk
theorem sm_cSP (hC : sm_Cx p s m args meth c cc nL rt own) (hK : sm_K D s) (hP : va_P D.1 sm_cl ws H) (hM : sm_MP l y bytes maxL ret fr lo As D ws ov) (hy : sm_yS y bytes maxL ret n) (m1 : Cond.methodLink own index y ∈ wsL_law) (hR : fr + 1 ≤ R.frames ∧ 8 + (maxL + 11) + lo ≤ R.locals)
    (hn : As.length = n) (hsz : ls.size = nL) (hst : st0 = As.reverse ++ rest) (hcat : (rest.map fun v => v.category).sum ≤ 8) (hdg : decode cc pc = .ok (.invokestatic index, 3)) (hf : cells ≤ R.cells ∧ slots ≤ R.slots)
    (kk : W p l e R s m args below meth c H locs cells slots Q (F0 m (pc + 3) ls (ov.toList ++ rest))) : W p l e R s m args below meth c H locs cells slots Q (F0 m pc ls st0) := by
  obtain ⟨hx, hb, hml, -, hown, -, hts⟩ := hC
  refine sm_kP (g := F0 m pc ls st0) (va_runS (own := own) (y := y) (As := As) ⟨hx, hb, hml, hown, hts⟩ hM ⟨sm_callB hts rfl rfl m1 hy.2.1 hy.2.2.1 hy.2.2.2 hR, hts _ hy.1⟩ ⟨sm_blP, fun U hU hW => ⟨rfl, by rw [hU]; exact hP, hK.warm hW⟩⟩ rfl hn hsz hst (lv_room hcat) hdg ⟨by omega, by omega⟩) kk
theorem sm_cSX (hC : sm_Cx p s m args meth c cc nL rt own) (hK : sm_K D s) (hP : va_P D.1 sm_cl ws H) (hD : va_D A ws) (hS : va_S A s.heap H locs) (hZ : sm_Z A s s.heap) (hM : sm_MX l y bytes maxL ret fr lo As D ws B r) (hy : sm_yS y bytes maxL ret n) (m1 : Cond.methodLink own index y ∈ wsL_law) (hR : fr + 1 ≤ R.frames ∧ 8 + (maxL + 11) + lo ≤ R.locals)
    (hn : As.length = n) (hsz : ls.size = nL) (hst : st0 = As.reverse ++ rest) (hcat : (rest.map fun v => v.category).sum ≤ 8) (hdg : decode cc pc = .ok (.invokestatic index, 3)) (hf : cells + 1 ≤ R.cells ∧ slots + 6 ≤ R.slots)
    (kx : ∀ (E : String) (ce : Cell) (q9 : Addr) (w1 : va_W) (H1 : Heap) (locs1 : List Loc), r = .inl E → B w1 → va_P D.1 sm_cl w1 H1 → va_D A w1 → va_S A s.heap H1 locs1 → H1[q9]? = some ce → ce.vm = .none → s.vm.findClass E = some ce.cls → vx_W p l e R s m args below meth c H1 locs1 (cells + 1) (slots + 6) Q (F0 m pc ls rest) q9)
    (kk : ∀ (ov : Option Value) (w1 : va_W) (H1 : Heap) (locs1 : List Loc), r = .inr ov → B w1 → va_P D.1 sm_cl w1 H1 → va_D A w1 → va_S A s.heap H1 locs1 → W p l e R s m args below meth c H1 locs1 (cells + 1) (slots + 6) Q (F0 m (pc + 3) ls (ov.toList ++ rest))) : W p l e R s m args below meth c H locs cells slots Q (F0 m pc ls st0) := by
  obtain ⟨hx, hb, hml, -, hown, -, hts⟩ := hC
  refine sm_kX (vx_runS (own := own) (y := y) (As := As) ⟨hx, hb, hml, hown, hts⟩ hM ⟨sm_callB hts rfl rfl m1 hy.2.1 hy.2.2.1 hy.2.2.2 hR, hts _ hy.1⟩ ⟨sm_blX, fun U hU hW => ⟨rfl, ⟨by rw [hU]; exact hP, hK.warm hW⟩, sm_self hD, sm_Zn hZ hD hS hU hW⟩⟩ rfl hn hsz hst (lv_room hcat) hdg hf) hD hS kx kk
/-- a private static of a nest mate -/
theorem sm_cNP {host : String} (hC : sm_Cx p s m args meth c cc nL rt own) (hK : sm_K D s) (hP : va_P D.1 sm_cl ws H) (hM : sm_MP l y bytes maxL ret fr lo As D ws ov) (hy : sm_yS y bytes maxL ret n) (m1 : (own, index, y, host) ∈ sm_nm) (hR : fr + 1 ≤ R.frames ∧ 8 + (maxL + 11) + lo ≤ R.locals)
    (hn : As.length = n) (hsz : ls.size = nL) (hst : st0 = As.reverse ++ rest) (hcat : (rest.map fun v => v.category).sum ≤ 8) (hdg : decode cc pc = .ok (.invokestatic index, 3)) (hf : cells ≤ R.cells ∧ slots ≤ R.slots)
    (kk : W p l e R s m args below meth c H locs cells slots Q (F0 m (pc + 3) ls (ov.toList ++ rest))) : W p l e R s m args below meth c H locs cells slots Q (F0 m pc ls st0) := by
  obtain ⟨hx, hb, hml, -, hown, -, hts⟩ := hC
  have hN : va_CN R s args own index y host bytes maxL ret (.code y bytes maxL ret :: wsL_law) ({ frames := fr, cells := 0, slots := 0, locals := lo } : Room) 0 0 n := va_cnB (Ts := wsL_law) n hts (fun w hw => by
    rcases List.mem_cons.mp hw with h | h
    · rw [h]; exact ⟨hy.2.2.1, good_of_word (List.all_eq_true.mp sm_all _ hy.2.2.1)⟩
    · exact ⟨h, good_of_word (List.all_eq_true.mp sm_all _ h)⟩) rfl rfl rfl (hK.2.1 _ m1) (hts _ hy.2.1) hy.2.2.2 hR
  refine sm_kP (g := F0 m pc ls st0) (va_runSN (own := own) (y := y) (As := As) ⟨hx, hb, hml, hown, hts⟩ hM ⟨hN, hts _ hy.1, trivial⟩ ⟨sm_blP, fun U hU hW => ⟨rfl, by rw [hU]; exact hP, hK.warm hW⟩⟩ rfl hn hsz hst (lv_room hcat) hdg ⟨by omega, by omega⟩) kk
-- ends
theorem sm_retP {v : Int32} {ty : FieldType} (hC : sm_Cx p s m args meth c cc nL (some ty) own) (hv : ov = some (.int v)) (hn : narrow ty (.int v) = .int v) {mc ms : Nat} (hdg : decode cc pc = .ok (.ireturn, 1)) : W p l e R s m args below meth c s.heap [] mc ms (MQ below (sm_Qp ov) args s mc ms (fun _ => False)) (F0 m pc ls [.int v]) := by
  obtain ⟨hx, hb, hml, hr, hown, hlk, hts⟩ := hC
  subst hv
  exact W.zret hx hb hr hn (fun t ht hW => ⟨rfl, ht⟩) (fun q hq => absurd hq List.not_mem_nil) hdg hlk
theorem sm_lretP {v : Int64} (hC : sm_Cx p s m args meth c cc nL (some .long) own) (hv : ov = some (.long v)) {mc ms : Nat} (hdg : decode cc pc = .ok (.lreturn, 1)) : W p l e R s m args below meth c s.heap [] mc ms (MQ below (sm_Qp ov) args s mc ms (fun _ => False)) (F0 m pc ls [.long v]) := by
  obtain ⟨hx, hb, hml, hr, hown, hlk, hts⟩ := hC
  subst hv
  exact W.lret hx hb hr (fun t ht hW => ⟨rfl, ht⟩) (fun q hq => absurd hq List.not_mem_nil) hdg hlk
theorem sm_vretP (hC : sm_Cx p s m args meth c cc nL none own) (hv : ov = none) {mc ms : Nat} (hdg : decode cc pc = .ok (.return_, 1)) : W p l e R s m args below meth c s.heap [] mc ms (MQ below (sm_Qp ov) args s mc ms (fun _ => False)) (F0 m pc ls []) := by
  obtain ⟨hx, hb, hml, hr, hown, hlk, hts⟩ := hC
  subst hv
  exact W.vret hx hb hr (fun t ht hW => ⟨rfl, ht⟩) (fun q hq => absurd hq List.not_mem_nil) hdg hlk
theorem sm_ch {w0 w1 : va_W} (hP : va_P D.1 sm_cl w1 H) (hD : va_D (sm_ad w0) w1) (hS : va_S (sm_ad w0) s.heap H locs) (hB : B w1) {t : State} (ht : t.heap = H) : sm_Ch D w0 B s t := ⟨⟨w1, hB, by rw [ht]; exact hP, hD⟩, hS.F ht⟩
theorem sm_retC {w0 w1 : va_W} {v : Int32} {ty : FieldType} (hC : sm_Cx p s m args meth c cc nL (some ty) own) (hP : va_P D.1 sm_cl w1 H) (hD : va_D (sm_ad w0) w1) (hS : va_S (sm_ad w0) s.heap H locs) (hv : ov = some (.int v)) (hn : narrow ty (.int v) = .int v) (hB : B w1) {mc ms : Nat} (hdg : decode cc pc = .ok (.ireturn, 1)) : W p l e R s m args below meth c H locs mc ms (MQ below (sm_Qc D w0 B ov) args s mc ms (sm_ad w0)) (F0 m pc ls [.int v]) := by
  obtain ⟨hx, hb, hml, hr, hown, hlk, hts⟩ := hC
  subst hv
  exact W.zret hx hb hr hn (fun t ht hW => ⟨rfl, sm_ch hP hD hS hB ht⟩) hS.2.2 hdg hlk
theorem sm_lretC {w0 w1 : va_W} {v : Int64} (hC : sm_Cx p s m args meth c cc nL (some .long) own) (hP : va_P D.1 sm_cl w1 H) (hD : va_D (sm_ad w0) w1) (hS : va_S (sm_ad w0) s.heap H locs) (hv : ov = some (.long v)) (hB : B w1) {mc ms : Nat} (hdg : decode cc pc = .ok (.lreturn, 1)) : W p l e R s m args below meth c H locs mc ms (MQ below (sm_Qc D w0 B ov) args s mc ms (sm_ad w0)) (F0 m pc ls [.long v]) := by
  obtain ⟨hx, hb, hml, hr, hown, hlk, hts⟩ := hC
  subst hv
  exact W.lret hx hb hr (fun t ht hW => ⟨rfl, sm_ch hP hD hS hB ht⟩) hS.2.2 hdg hlk
theorem sm_fretC {w0 w1 : va_W} {v : UInt32} (hC : sm_Cx p s m args meth c cc nL (some .float) own) (hP : va_P D.1 sm_cl w1 H) (hD : va_D (sm_ad w0) w1) (hS : va_S (sm_ad w0) s.heap H locs) (hv : ov = some (.float v)) (hB : B w1) {mc ms : Nat} (hdg : decode cc pc = .ok (.freturn, 1)) : W p l e R s m args below meth c H locs mc ms (MQ below (sm_Qc D w0 B ov) args s mc ms (sm_ad w0)) (F0 m pc ls [.float v]) := by
  obtain ⟨hx, hb, hml, hr, hown, hlk, hts⟩ := hC
  subst hv
  exact W.fret hx hb hr (fun t ht hW => ⟨rfl, sm_ch hP hD hS hB ht⟩) hS.2.2 hdg hlk
theorem sm_dretC {w0 w1 : va_W} {v : UInt64} (hC : sm_Cx p s m args meth c cc nL (some .double) own) (hP : va_P D.1 sm_cl w1 H) (hD : va_D (sm_ad w0) w1) (hS : va_S (sm_ad w0) s.heap H locs) (hv : ov = some (.double v)) (hB : B w1) {mc ms : Nat} (hdg : decode cc pc = .ok (.dreturn, 1)) : W p l e R s m args below meth c H locs mc ms (MQ below (sm_Qc D w0 B ov) args s mc ms (sm_ad w0)) (F0 m pc ls [.double v]) := by
  obtain ⟨hx, hb, hml, hr, hown, hlk, hts⟩ := hC
  subst hv
  exact W.dret hx hb hr (fun t ht hW => ⟨rfl, sm_ch hP hD hS hB ht⟩) hS.2.2 hdg hlk
theorem sm_vretC {w0 w1 : va_W} (hC : sm_Cx p s m args meth c cc nL none own) (hP : va_P D.1 sm_cl w1 H) (hD : va_D (sm_ad w0) w1) (hS : va_S (sm_ad w0) s.heap H locs) (hv : ov = none) (hB : B w1) {mc ms : Nat} (hdg : decode cc pc = .ok (.return_, 1)) : W p l e R s m args below meth c H locs mc ms (MQ below (sm_Qc D w0 B ov) args s mc ms (sm_ad w0)) (F0 m pc ls []) := by
  obtain ⟨hx, hb, hml, hr, hown, hlk, hts⟩ := hC
  subst hv
  exact W.vret hx hb hr (fun t ht hW => ⟨rfl, sm_ch hP hD hS hB ht⟩) hS.2.2 hdg hlk
theorem sm_retX {w0 w1 : va_W} {v : Int32} {ty : FieldType} (hC : sm_Cx p s m args meth c cc nL (some ty) own) (hP : va_P D.1 sm_cl w1 H) (hD : va_D (sm_ad w0) w1) (hS : va_S (sm_ad w0) s.heap H locs) (hv : r = .inr (some (.int v))) (hn : narrow ty (.int v) = .int v) (hB : B w1) {XC : String → State → State → Prop} (hc : cells ≤ 1) (hs : slots ≤ 6) (hdg : decode cc pc = .ok (.ireturn, 1)) : W p l e R s m args below meth c H locs cells slots (vx_MQ below (sm_Qx D w0 B r) XC args s 1 6 (sm_ad w0)) (F0 m pc ls [.int v]) := by
  obtain ⟨hx, hb, hml, hr, hown, hlk, hts⟩ := hC
  refine W.widen (k := 1) (n := 6) hc hs (vx_ret ?_)
  exact W.zret hx hb hr hn (fun t ht hW => ⟨⟨_, hv, rfl⟩, sm_ch hP hD hS hB ht⟩) hS.2.2 hdg hlk
theorem sm_lretX {w0 w1 : va_W} {v : Int64} (hC : sm_Cx p s m args meth c cc nL (some .long) own) (hP : va_P D.1 sm_cl w1 H) (hD : va_D (sm_ad w0) w1) (hS : va_S (sm_ad w0) s.heap H locs) (hv : r = .inr (some (.long v))) (hB : B w1) {XC : String → State → State → Prop} (hc : cells ≤ 1) (hs : slots ≤ 6) (hdg : decode cc pc = .ok (.lreturn, 1)) : W p l e R s m args below meth c H locs cells slots (vx_MQ below (sm_Qx D w0 B r) XC args s 1 6 (sm_ad w0)) (F0 m pc ls [.long v]) := by
  obtain ⟨hx, hb, hml, hr, hown, hlk, hts⟩ := hC
  refine W.widen (k := 1) (n := 6) hc hs (vx_ret ?_)
  exact W.lret hx hb hr (fun t ht hW => ⟨⟨_, hv, rfl⟩, sm_ch hP hD hS hB ht⟩) hS.2.2 hdg hlk
theorem sm_fretX {w0 w1 : va_W} {v : UInt32} (hC : sm_Cx p s m args meth c cc nL (some .float) own) (hP : va_P D.1 sm_cl w1 H) (hD : va_D (sm_ad w0) w1) (hS : va_S (sm_ad w0) s.heap H locs) (hv : r = .inr (some (.float v))) (hB : B w1) {XC : String → State → State → Prop} (hc : cells ≤ 1) (hs : slots ≤ 6) (hdg : decode cc pc = .ok (.freturn, 1)) : W p l e R s m args below meth c H locs cells slots (vx_MQ below (sm_Qx D w0 B r) XC args s 1 6 (sm_ad w0)) (F0 m pc ls [.float v]) := by
  obtain ⟨hx, hb, hml, hr, hown, hlk, hts⟩ := hC
  refine W.widen (k := 1) (n := 6) hc hs (vx_ret ?_)
  exact W.fret hx hb hr (fun t ht hW => ⟨⟨_, hv, rfl⟩, sm_ch hP hD hS hB ht⟩) hS.2.2 hdg hlk
theorem sm_dretX {w0 w1 : va_W} {v : UInt64} (hC : sm_Cx p s m args meth c cc nL (some .double) own) (hP : va_P D.1 sm_cl w1 H) (hD : va_D (sm_ad w0) w1) (hS : va_S (sm_ad w0) s.heap H locs) (hv : r = .inr (some (.double v))) (hB : B w1) {XC : String → State → State → Prop} (hc : cells ≤ 1) (hs : slots ≤ 6) (hdg : decode cc pc = .ok (.dreturn, 1)) : W p l e R s m args below meth c H locs cells slots (vx_MQ below (sm_Qx D w0 B r) XC args s 1 6 (sm_ad w0)) (F0 m pc ls [.double v]) := by
  obtain ⟨hx, hb, hml, hr, hown, hlk, hts⟩ := hC
  refine W.widen (k := 1) (n := 6) hc hs (vx_ret ?_)
  exact W.dret hx hb hr (fun t ht hW => ⟨⟨_, hv, rfl⟩, sm_ch hP hD hS hB ht⟩) hS.2.2 hdg hlk
theorem sm_vretX {w0 w1 : va_W} (hC : sm_Cx p s m args meth c cc nL none own) (hP : va_P D.1 sm_cl w1 H) (hD : va_D (sm_ad w0) w1) (hS : va_S (sm_ad w0) s.heap H locs) (hv : r = .inr none) (hB : B w1) {XC : String → State → State → Prop} (hc : cells ≤ 1) (hs : slots ≤ 6) (hdg : decode cc pc = .ok (.return_, 1)) : W p l e R s m args below meth c H locs cells slots (vx_MQ below (sm_Qx D w0 B r) XC args s 1 6 (sm_ad w0)) (F0 m pc ls []) := by
  obtain ⟨hx, hb, hml, hr, hown, hlk, hts⟩ := hC
  refine W.widen (k := 1) (n := 6) hc hs (vx_ret ?_)
  exact W.vret hx hb hr (fun t ht hW => ⟨⟨_, hv, rfl⟩, sm_ch hP hD hS hB ht⟩) hS.2.2 hdg hlk
-- a thrown exception goes through a method without a table
theorem sm_thru {w0 w1 : va_W} {E : String} {ce : Cell} {q9 : Addr} (hC : sm_Cx p s m args meth c cc nL rt own) (htab : ∀ x ∈ c.exceptionTable.toList, False) (hP : va_P D.1 sm_cl w1 H) (hD : va_D (sm_ad w0) w1) (hS : va_S (sm_ad w0) s.heap H locs) (hv : r = .inl E) (hB : B w1) {Qc : Array Value → State → Outcome → State → Prop} (h1 : H[q9]? = some ce) (h2 : ce.vm = .none) (h3 : s.vm.findClass E = some ce.cls) (hc : cells ≤ 1) (hs : slots ≤ 6) : vx_W p l e R s m args below meth c H locs cells slots (vx_MQ below Qc (sm_Xx D w0 B r) args s 1 6 (sm_ad w0)) (F0 m pc ls rest) q9 := by
  obtain ⟨hx, hb, hml, hr, hown, hlk, hts⟩ := hC
  exact vx_out (fun x h => (htab x h).elim) hlk h1 h2 h3 (fun t ht hW => ⟨hv, sm_ch hP hD hS hB ht⟩) hS.2.2 hc hs
end SMR
end
section
/-! the class's own throws -/
abbrev sm_nn : List String := ["java/lang/RuntimeException", "java/lang/Exception"]
/-- what the tables say of an exception class that StoreMover throws -/
def sm_xcS (E : String) (ik ic : Nat) : Prop := Cond.classLink RX6 ik E ∈ wsL_law ∧ Cond.initialized E ∈ wsL_law ∧ ((∀ w ∈ (vx_atS RX6 ic E sm_nn).filter goodWord, w ∈ wsL_law) ∧ (∀ w ∈ (vx_atS RX6 ic E sm_nn).filter (fun w => !goodWord w), w ∈ Cond.castable E E :: sm_nd.map Cond.declares) ∧ E ∈ sm_ce) ∧ Bundle.fit E = true ∧ ∀ w ∈ Cond.classLink RX6 ik E :: Cond.initialized E :: vx_atS RX6 ic E sm_nn, vx_ot w = true
def sm_xcN (E : String) (ik ic : Nat) : Prop := Cond.classLink RX6 ik E ∈ wsL_law ∧ Cond.initialized E ∈ wsL_law ∧ ((∀ w ∈ (sw_atN RX6 ic E 13 sw_b13 "java/lang/RuntimeException" ["java/lang/Exception"]).filter goodWord, w ∈ wsL_law) ∧ (∀ w ∈ (sw_atN RX6 ic E 13 sw_b13 "java/lang/RuntimeException" ["java/lang/Exception"]).filter (fun w => !goodWord w), w ∈ Cond.castable E E :: sm_nd.map Cond.declares) ∧ E ∈ sm_ce) ∧ Bundle.fit E = true ∧ ∀ w ∈ Cond.classLink RX6 ik E :: Cond.initialized E :: sw_atN RX6 ic E 13 sw_b13 "java/lang/RuntimeException" ["java/lang/Exception"], vx_ot w = true
def sm_xc (E : String) (ik ic : Nat) : Prop := sm_xcS E ik ic ∨ sm_xcN E ik ic
theorem sm_nnfit : ∀ n ∈ sm_nn, Bundle.fit n = true := by decide +kernel
theorem sw_RTfit : Bundle.fit "java/lang/RuntimeException" = true := by decide +kernel
theorem sw_EXfit : ∀ n ∈ ["java/lang/Exception"], Bundle.fit n = true := by decide +kernel
theorem sm_hatL {D : sm_G} {E : String} {L : List Cond} {args : Array Value} {s : State} (hts : ∀ w ∈ wsL_law, w.before args s = true) (hK : sm_K D s) (h : (∀ w ∈ (L).filter goodWord, w ∈ wsL_law) ∧ (∀ w ∈ (L).filter (fun w => !goodWord w), w ∈ Cond.castable E E :: sm_nd.map Cond.declares) ∧ E ∈ sm_ce) : ∀ w ∈ L, w.before args s = true :=
  vx_hat (fun w hw => hts _ (h.1 w hw)) h.2.1 (fun w hw => by
    rcases List.mem_cons.mp hw with e | e
    · rw [e]; exact va_Nw.use rfl (hK.2.2.2.2.2 E h.2.2)
    · obtain ⟨q, hq, e⟩ := List.mem_map.mp e
      rw [← e]; exact va_Nw.use rfl (hK.2.2.2.2.1 q hq))
section SMT
variable {p : Program} {l : Launch} {e : Env} {R : Room} {s : State} {m : MethodId} {args : Array Value} {below : List Frame} {meth : Method} {c : Code} {H : Heap} {locs : List Loc} {cells slots : Nat} {Q : State → Prop}
variable {cc : ByteArray} {pc : Nat} {ls : Array Slot} {rest : List Value} {D : sm_G} {w0 w1 : va_W} {nL : Nat} {rt : Option FieldType} {B : va_W → Prop} {r : String ⊕ Option Value} {Qc : Array Value → State → Outcome → State → Prop}
theorem sm_chT (hP : va_P D.1 sm_cl w1 H) (hD : va_D (sm_ad w0) w1) (hS : va_S (sm_ad w0) s.heap H locs) (hB : B w1) {t : State} (h1 : H.size ≤ t.heap.size) (h2 : ∀ q : Nat, q < H.size → t.heap[q]? = H[q]?) : sm_Ch D w0 B s t :=
  ⟨⟨w1, hB, fun k q hq => (hP k q hq).kept (h2 q.1 (hP k q hq).lt), hD⟩, Nat.le_trans hS.1 h1, fun q g1 g2 => by rw [h2 q (Nat.lt_of_lt_of_le g1 hS.1)]; exact hS.2.1 q g1 g2⟩
theorem sm_throw {E text : String} {ik is ic : Nat} (hl : l.stackTraces = false) (hC : sm_Cx p s m args meth c cc nL rt RX6) (htab : ∀ x ∈ c.exceptionTable.toList, False) (hK : sm_K D s) (hZ : sm_Z (sm_ad w0) s s.heap) (hP : va_P D.1 sm_cl w1 H) (hD : va_D (sm_ad w0) w1) (hS : va_S (sm_ad w0) s.heap H locs) (hv : r = .inl E) (hB : B w1) (hsz : ls.size = nL) (hE : sm_xc E ik ic) (hstr : (is, text) ∈ sm_str)
    (d0 : decode cc pc = .ok (.new ik, 3)) (d3 : decode cc (pc + 3) = .ok (.dup, 1)) (d4 : decode cc (pc + 4) = .ok (.ldc is, 2)) (d6 : decode cc (pc + 6) = .ok (.invokespecial ic, 3)) (d9 : decode cc (pc + 9) = .ok (.athrow, 1))
    (hR : 5 < R.frames ∧ 82 ≤ R.locals ∧ cells + 1 ≤ R.cells ∧ slots + 6 ≤ R.slots) (hc : cells + 1 ≤ 1) (hs : slots + 6 ≤ 6) : W p l e R s m args below meth c H locs cells slots (vx_MQ below Qc (sm_Xx D w0 B r) args s 1 6 (sm_ad w0)) (F0 m pc ls []) := by
  obtain ⟨hx, hb, hml, hr, hown, hlk, hts⟩ := hC
  obtain ⟨sa, hsa⟩ := hK.2.2.1 _ hstr
  rcases hE with hE | hE
  · exact vx_throwS hx hb hl hown hE.2.2.2.1 sm_nnfit (hts _ hE.1) (hts _ hE.2.1) hsa (sm_hatL hts hK hE.2.2.1) hE.2.2.2.2 hZ.1 hZ.2 hS (hsz.trans hml.symm) d0 d3 d4 d6 d9 (fun x h => (htab x h).elim) (by show 2 + 3 < _; exact hR.1) (by show 0 + (13 * (2 + 1) + 43) ≤ _; exact hR.2.1) hR.2.2.1 hR.2.2.2 hlk (fun t _ h1 h2 => ⟨hv, sm_chT hP hD hS hB h1 h2⟩) hS.2.2 hc hs
  · exact sw_throwN hx hb hl hown hE.2.2.2.1 sw_RTfit sw_b13_0 sw_b13_1 sw_b13_2 sw_b13_5 sw_EXfit (hts _ hE.1) (hts _ hE.2.1) hsa (sm_hatL hts hK hE.2.2.1) hE.2.2.2.2 hZ.1 hZ.2 hS (hsz.trans hml.symm) d0 d3 d4 d6 d9 (fun x h => (htab x h).elim) (by show 1 + 4 < _; exact hR.1) (by show 0 + (13 * (1 + 2) + 43) ≤ _; exact hR.2.1) hR.2.2.1 hR.2.2.2 hlk (fun t _ h1 h2 => ⟨hv, sm_chT hP hD hS hB h1 h2⟩) hS.2.2 hc hs
theorem sm_throwW {E text : String} {ik is ic : Nat} (hl : l.stackTraces = false) (hC : sm_Cx p s m args meth c cc nL rt RX6) (htab : ∀ x ∈ c.exceptionTable.toList, False) (hK : sm_K D s) (hZ : sm_Z (sm_ad w0) s s.heap) (hP : va_P D.1 sm_cl w1 H) (hD : va_D (sm_ad w0) w1) (hS : va_S (sm_ad w0) s.heap H locs) (hv : r = .inl E) (hB : B w1) (hsz : ls.size = nL) (hE : sm_xc E ik ic) (hstr : (is, text) ∈ sm_str)
    (d0 : decode cc pc = .ok (.new ik, 3)) (d3 : decode cc (pc + 3) = .ok (.dup, 1)) (d4 : decode cc (pc + 4) = .ok (.ldc_w is, 3)) (d6 : decode cc (pc + 7) = .ok (.invokespecial ic, 3)) (d9 : decode cc (pc + 10) = .ok (.athrow, 1))
    (hR : 5 < R.frames ∧ 82 ≤ R.locals ∧ cells + 1 ≤ R.cells ∧ slots + 6 ≤ R.slots) (hc : cells + 1 ≤ 1) (hs : slots + 6 ≤ 6) : W p l e R s m args below meth c H locs cells slots (vx_MQ below Qc (sm_Xx D w0 B r) args s 1 6 (sm_ad w0)) (F0 m pc ls []) := by
  obtain ⟨hx, hb, hml, hr, hown, hlk, hts⟩ := hC
  obtain ⟨sa, hsa⟩ := hK.2.2.1 _ hstr
  rcases hE with hE | hE
  · exact vx_throwSW hx hb hl hown hE.2.2.2.1 sm_nnfit (hts _ hE.1) (hts _ hE.2.1) hsa (sm_hatL hts hK hE.2.2.1) hE.2.2.2.2 hZ.1 hZ.2 hS (hsz.trans hml.symm) d0 d3 d4 d6 d9 (fun x h => (htab x h).elim) (by show 2 + 3 < _; exact hR.1) (by show 0 + (13 * (2 + 1) + 43) ≤ _; exact hR.2.1) hR.2.2.1 hR.2.2.2 hlk (fun t _ h1 h2 => ⟨hv, sm_chT hP hD hS hB h1 h2⟩) hS.2.2 hc hs
  · exact sw_throwNW hx hb hl hown hE.2.2.2.1 sw_RTfit sw_b13_0 sw_b13_1 sw_b13_2 sw_b13_5 sw_EXfit (hts _ hE.1) (hts _ hE.2.1) hsa (sm_hatL hts hK hE.2.2.1) hE.2.2.2.2 hZ.1 hZ.2 hS (hsz.trans hml.symm) d0 d3 d4 d6 d9 (fun x h => (htab x h).elim) (by show 1 + 4 < _; exact hR.1) (by show 0 + (13 * (1 + 2) + 43) ≤ _; exact hR.2.1) hR.2.2.1 hR.2.2.2 hlk (fun t _ h1 h2 => ⟨hv, sm_chT hP hD hS hB h1 h2⟩) hS.2.2 hc hs
end SMT
set_option maxRecDepth 20000 in
theorem sm_xIA : sm_xc sm_IA 75 79 := Or.inl ⟨List.mem_of_getElem? (i := 131) rfl, List.mem_of_getElem? (i := 132) rfl, ⟨fun _ h => List.mem_append_left _ (List.mem_append_left _ (List.mem_append_left _ (List.mem_append_left _ (List.mem_append_left _ (List.mem_append_left _ (List.mem_append_right _ h)))))), by decide +kernel, by decide +kernel⟩, by decide +kernel, by decide +kernel⟩
set_option maxRecDepth 20000 in
theorem sm_xIS : sm_xc sm_IS 86 90 := Or.inl ⟨List.mem_of_getElem? (i := 133) rfl, List.mem_of_getElem? (i := 134) rfl, ⟨fun _ h => List.mem_append_left _ (List.mem_append_left _ (List.mem_append_left _ (List.mem_append_left _ (List.mem_append_left _ (List.mem_append_right _ h))))), by decide +kernel, by decide +kernel⟩, by decide +kernel, by decide +kernel⟩
set_option maxRecDepth 20000 in
theorem sm_xUO : sm_xc sm_UO 112 116 := Or.inl ⟨List.mem_of_getElem? (i := 209) rfl, List.mem_of_getElem? (i := 210) rfl, ⟨fun _ h => List.mem_append_left _ (List.mem_append_left _ (List.mem_append_left _ (List.mem_append_left _ (List.mem_append_right _ h)))), by decide +kernel, by decide +kernel⟩, by decide +kernel, by decide +kernel⟩
set_option maxRecDepth 20000 in
theorem sm_xNS : sm_xc sm_NS 204 208 := Or.inr ⟨List.mem_of_getElem? (i := 583) rfl, List.mem_of_getElem? (i := 584) rfl, ⟨fun _ h => List.mem_append_left _ (List.mem_append_left _ (List.mem_append_right _ h)), by decide +kernel, by decide +kernel⟩, by decide +kernel, by decide +kernel⟩
set_option maxRecDepth 20000 in
theorem sm_xIO : sm_xc sm_IO 227 231 := Or.inl ⟨List.mem_of_getElem? (i := 636) rfl, List.mem_of_getElem? (i := 637) rfl, ⟨fun _ h => List.mem_append_left _ (List.mem_append_right _ h), by decide +kernel, by decide +kernel⟩, by decide +kernel, by decide +kernel⟩
set_option maxRecDepth 20000 in
theorem sm_xAR : sm_xc sm_AR 298 302 := Or.inl ⟨List.mem_of_getElem? (i := 835) rfl, List.mem_of_getElem? (i := 836) rfl, ⟨fun _ h => List.mem_append_right _ h, by decide +kernel, by decide +kernel⟩, by decide +kernel, by decide +kernel⟩
end
