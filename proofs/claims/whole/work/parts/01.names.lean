-- ===== PART A: goes FIRST, ahead of the names: the tables' words, and 'selects' of the private methods out of them =====
/-- a private method of a class that the tables say can be made, by its rows of tables_1 -/
def lw_okq (q : MethodName × Nat) : Prop := (q.1.cls ≠ "java/lang/invoke/MethodHandle" ∧ q.1.cls ≠ "java/lang/invoke/VarHandle") ∧ Cond.instantiable q.1.cls q.2 ∈ tables_1 ∧ Cond.privateMethod q.1 ∈ tables_1 ∧ Cond.instanceMethod q.1 ∈ tables_1
theorem lw_p0 : lw_okq (⟨"LongNoon", "houseAt", "(I)LLongNoon$House;"⟩, 13) := ⟨⟨by decide +kernel, by decide +kernel⟩, List.mem_of_getElem? (i := 19) (by decide +kernel), List.mem_of_getElem? (i := 311) (by decide +kernel), List.mem_of_getElem? (i := 312) (by decide +kernel)⟩
theorem lw_p1 : lw_okq (⟨"LongNoon", "groundNow", "()LLongNoon$Ground;"⟩, 13) := ⟨⟨by decide +kernel, by decide +kernel⟩, List.mem_of_getElem? (i := 19) (by decide +kernel), List.mem_of_getElem? (i := 315) (by decide +kernel), List.mem_of_getElem? (i := 316) (by decide +kernel)⟩
theorem lw_p2 : lw_okq (⟨"LongNoon$Reader", "readClause", "(LLongNoon$Ground;)Z"⟩, 3) := ⟨⟨by decide +kernel, by decide +kernel⟩, List.mem_of_getElem? (i := 148) (by decide +kernel), List.mem_of_getElem? (i := 382) (by decide +kernel), List.mem_of_getElem? (i := 383) (by decide +kernel)⟩
theorem lw_p3 : lw_okq (⟨"LongNoon$Reader", "nextSign", "()C"⟩, 3) := ⟨⟨by decide +kernel, by decide +kernel⟩, List.mem_of_getElem? (i := 148) (by decide +kernel), List.mem_of_getElem? (i := 386) (by decide +kernel), List.mem_of_getElem? (i := 387) (by decide +kernel)⟩
theorem lw_p4 : lw_okq (⟨"LongNoon$Reader", "readWord", "(Ljava/lang/String;)Z"⟩, 3) := ⟨⟨by decide +kernel, by decide +kernel⟩, List.mem_of_getElem? (i := 148) (by decide +kernel), List.mem_of_getElem? (i := 394) (by decide +kernel), List.mem_of_getElem? (i := 395) (by decide +kernel)⟩
theorem lw_p5 : lw_okq (⟨"LongNoon$Reader", "readSign", "(C)Z"⟩, 3) := ⟨⟨by decide +kernel, by decide +kernel⟩, List.mem_of_getElem? (i := 148) (by decide +kernel), List.mem_of_getElem? (i := 446) (by decide +kernel), List.mem_of_getElem? (i := 447) (by decide +kernel)⟩
theorem lw_p6 : lw_okq (⟨"LongNoon$Reader", "readNumber", "()I"⟩, 3) := ⟨⟨by decide +kernel, by decide +kernel⟩, List.mem_of_getElem? (i := 148) (by decide +kernel), List.mem_of_getElem? (i := 450) (by decide +kernel), List.mem_of_getElem? (i := 451) (by decide +kernel)⟩
theorem lw_p7 : lw_okq (⟨"LongNoon$Reader", "readChain", "(LLongNoon$Clauses;CI)Z"⟩, 3) := ⟨⟨by decide +kernel, by decide +kernel⟩, List.mem_of_getElem? (i := 148) (by decide +kernel), List.mem_of_getElem? (i := 455) (by decide +kernel), List.mem_of_getElem? (i := 456) (by decide +kernel)⟩
theorem lw_p8 : lw_okq (⟨"LongNoon$Reader", "readSingle", "(LLongNoon$Clauses;I)Z"⟩, 3) := ⟨⟨by decide +kernel, by decide +kernel⟩, List.mem_of_getElem? (i := 148) (by decide +kernel), List.mem_of_getElem? (i := 459) (by decide +kernel), List.mem_of_getElem? (i := 460) (by decide +kernel)⟩
theorem lw_p9 : lw_okq (⟨"LongNoon$Reader", "readTest", "(LLongNoon$Clauses;)Z"⟩, 3) := ⟨⟨by decide +kernel, by decide +kernel⟩, List.mem_of_getElem? (i := 148) (by decide +kernel), List.mem_of_getElem? (i := 463) (by decide +kernel), List.mem_of_getElem? (i := 464) (by decide +kernel)⟩
theorem lw_p10 : lw_okq (⟨"LongNoon", "amissOfBoth", "(LLongNoon$House;LLongNoon$House;I)I"⟩, 13) := ⟨⟨by decide +kernel, by decide +kernel⟩, List.mem_of_getElem? (i := 19) (by decide +kernel), List.mem_of_getElem? (i := 641) (by decide +kernel), List.mem_of_getElem? (i := 642) (by decide +kernel)⟩
theorem lw_p11 : lw_okq (⟨"LongNoon", "isAsSeen", "(LLongNoon$House;)Z"⟩, 13) := ⟨⟨by decide +kernel, by decide +kernel⟩, List.mem_of_getElem? (i := 19) (by decide +kernel), List.mem_of_getElem? (i := 662) (by decide +kernel), List.mem_of_getElem? (i := 663) (by decide +kernel)⟩
theorem lw_p12 : lw_okq (⟨"LongNoon", "tapeAt", "(I)LLongNoon$Tape;"⟩, 13) := ⟨⟨by decide +kernel, by decide +kernel⟩, List.mem_of_getElem? (i := 19) (by decide +kernel), List.mem_of_getElem? (i := 704) (by decide +kernel), List.mem_of_getElem? (i := 705) (by decide +kernel)⟩
theorem lw_p13 : lw_okq (⟨"LongNoon$Player", "call", "(LLongNoon$House;IIII)I"⟩, 2) := ⟨⟨by decide +kernel, by decide +kernel⟩, List.mem_of_getElem? (i := 213) (by decide +kernel), List.mem_of_getElem? (i := 732) (by decide +kernel), List.mem_of_getElem? (i := 733) (by decide +kernel)⟩
theorem lw_p14 : lw_okq (⟨"LongNoon$Player", "runBody", "(ILLongNoon$House;II)I"⟩, 2) := ⟨⟨by decide +kernel, by decide +kernel⟩, List.mem_of_getElem? (i := 213) (by decide +kernel), List.mem_of_getElem? (i := 740) (by decide +kernel), List.mem_of_getElem? (i := 741) (by decide +kernel)⟩
theorem lw_p15 : lw_okq (⟨"LongNoonModel", "in", "(III)Z"⟩, 64) := ⟨⟨by decide +kernel, by decide +kernel⟩, List.mem_of_getElem? (i := 791) (by decide +kernel), List.mem_of_getElem? (i := 995) (by decide +kernel), List.mem_of_getElem? (i := 996) (by decide +kernel)⟩
def lw_privs_1 : List (MethodName × Nat) := [(⟨"LongNoon", "houseAt", "(I)LLongNoon$House;"⟩, 13), (⟨"LongNoon", "groundNow", "()LLongNoon$Ground;"⟩, 13), (⟨"LongNoon$Reader", "readClause", "(LLongNoon$Ground;)Z"⟩, 3), (⟨"LongNoon$Reader", "nextSign", "()C"⟩, 3), (⟨"LongNoon$Reader", "readWord", "(Ljava/lang/String;)Z"⟩, 3), (⟨"LongNoon$Reader", "readSign", "(C)Z"⟩, 3), (⟨"LongNoon$Reader", "readNumber", "()I"⟩, 3), (⟨"LongNoon$Reader", "readChain", "(LLongNoon$Clauses;CI)Z"⟩, 3), (⟨"LongNoon$Reader", "readSingle", "(LLongNoon$Clauses;I)Z"⟩, 3), (⟨"LongNoon$Reader", "readTest", "(LLongNoon$Clauses;)Z"⟩, 3), (⟨"LongNoon", "amissOfBoth", "(LLongNoon$House;LLongNoon$House;I)I"⟩, 13), (⟨"LongNoon", "isAsSeen", "(LLongNoon$House;)Z"⟩, 13), (⟨"LongNoon", "tapeAt", "(I)LLongNoon$Tape;"⟩, 13), (⟨"LongNoon$Player", "call", "(LLongNoon$House;IIII)I"⟩, 2), (⟨"LongNoon$Player", "runBody", "(ILLongNoon$House;II)I"⟩, 2), (⟨"LongNoonModel", "in", "(III)Z"⟩, 64)]
theorem lw_r1 : ∀ q ∈ lw_privs_1, lw_okq q := List.forall_mem_cons.mpr ⟨lw_p0, List.forall_mem_cons.mpr ⟨lw_p1, List.forall_mem_cons.mpr ⟨lw_p2, List.forall_mem_cons.mpr ⟨lw_p3, List.forall_mem_cons.mpr ⟨lw_p4, List.forall_mem_cons.mpr ⟨lw_p5, List.forall_mem_cons.mpr ⟨lw_p6, List.forall_mem_cons.mpr ⟨lw_p7, List.forall_mem_cons.mpr ⟨lw_p8, List.forall_mem_cons.mpr ⟨lw_p9, List.forall_mem_cons.mpr ⟨lw_p10, List.forall_mem_cons.mpr ⟨lw_p11, List.forall_mem_cons.mpr ⟨lw_p12, List.forall_mem_cons.mpr ⟨lw_p13, List.forall_mem_cons.mpr ⟨lw_p14, List.forall_mem_cons.mpr ⟨lw_p15, fun _ h => absurd h List.not_mem_nil⟩⟩⟩⟩⟩⟩⟩⟩⟩⟩⟩⟩⟩⟩⟩⟩
theorem lw_p16 : lw_okq (⟨"LongNoonModel", "isHouse", "(I)Z"⟩, 64) := ⟨⟨by decide +kernel, by decide +kernel⟩, List.mem_of_getElem? (i := 791) (by decide +kernel), List.mem_of_getElem? (i := 1003) (by decide +kernel), List.mem_of_getElem? (i := 1004) (by decide +kernel)⟩
theorem lw_p17 : lw_okq (⟨"LongNoonModel", "roomOf", "(I)I"⟩, 64) := ⟨⟨by decide +kernel, by decide +kernel⟩, List.mem_of_getElem? (i := 791) (by decide +kernel), List.mem_of_getElem? (i := 1007) (by decide +kernel), List.mem_of_getElem? (i := 1008) (by decide +kernel)⟩
theorem lw_p18 : lw_okq (⟨"LongNoonModel", "goesText", "(I)Z"⟩, 64) := ⟨⟨by decide +kernel, by decide +kernel⟩, List.mem_of_getElem? (i := 791) (by decide +kernel), List.mem_of_getElem? (i := 1023) (by decide +kernel), List.mem_of_getElem? (i := 1024) (by decide +kernel)⟩
theorem lw_p19 : lw_okq (⟨"LongNoonModel", "takesClause", "(I)Z"⟩, 64) := ⟨⟨by decide +kernel, by decide +kernel⟩, List.mem_of_getElem? (i := 791) (by decide +kernel), List.mem_of_getElem? (i := 1027) (by decide +kernel), List.mem_of_getElem? (i := 1028) (by decide +kernel)⟩
theorem lw_p20 : lw_okq (⟨"LongNoonModel", "takesHead", "(I)Z"⟩, 64) := ⟨⟨by decide +kernel, by decide +kernel⟩, List.mem_of_getElem? (i := 791) (by decide +kernel), List.mem_of_getElem? (i := 1031) (by decide +kernel), List.mem_of_getElem? (i := 1032) (by decide +kernel)⟩
theorem lw_p21 : lw_okq (⟨"LongNoonModel", "next", "()I"⟩, 64) := ⟨⟨by decide +kernel, by decide +kernel⟩, List.mem_of_getElem? (i := 791) (by decide +kernel), List.mem_of_getElem? (i := 1035) (by decide +kernel), List.mem_of_getElem? (i := 1036) (by decide +kernel)⟩
theorem lw_p22 : lw_okq (⟨"LongNoonModel", "takesWord", "(II)Z"⟩, 64) := ⟨⟨by decide +kernel, by decide +kernel⟩, List.mem_of_getElem? (i := 791) (by decide +kernel), List.mem_of_getElem? (i := 1039) (by decide +kernel), List.mem_of_getElem? (i := 1040) (by decide +kernel)⟩
theorem lw_p23 : lw_okq (⟨"LongNoonModel", "takes", "(I)Z"⟩, 64) := ⟨⟨by decide +kernel, by decide +kernel⟩, List.mem_of_getElem? (i := 791) (by decide +kernel), List.mem_of_getElem? (i := 1043) (by decide +kernel), List.mem_of_getElem? (i := 1044) (by decide +kernel)⟩
theorem lw_p24 : lw_okq (⟨"LongNoonModel", "takesNumber", "()Z"⟩, 64) := ⟨⟨by decide +kernel, by decide +kernel⟩, List.mem_of_getElem? (i := 791) (by decide +kernel), List.mem_of_getElem? (i := 1047) (by decide +kernel), List.mem_of_getElem? (i := 1048) (by decide +kernel)⟩
theorem lw_p25 : lw_okq (⟨"LongNoonModel", "isDigit", "()Z"⟩, 64) := ⟨⟨by decide +kernel, by decide +kernel⟩, List.mem_of_getElem? (i := 791) (by decide +kernel), List.mem_of_getElem? (i := 1051) (by decide +kernel), List.mem_of_getElem? (i := 1052) (by decide +kernel)⟩
theorem lw_p26 : lw_okq (⟨"LongNoonModel", "takesE", "(I)Z"⟩, 64) := ⟨⟨by decide +kernel, by decide +kernel⟩, List.mem_of_getElem? (i := 791) (by decide +kernel), List.mem_of_getElem? (i := 1055) (by decide +kernel), List.mem_of_getElem? (i := 1056) (by decide +kernel)⟩
theorem lw_p27 : lw_okq (⟨"LongNoonModel", "takesTest", "()Z"⟩, 64) := ⟨⟨by decide +kernel, by decide +kernel⟩, List.mem_of_getElem? (i := 791) (by decide +kernel), List.mem_of_getElem? (i := 1059) (by decide +kernel), List.mem_of_getElem? (i := 1060) (by decide +kernel)⟩
theorem lw_p28 : lw_okq (⟨"LongNoonModel", "place", "(I)I"⟩, 64) := ⟨⟨by decide +kernel, by decide +kernel⟩, List.mem_of_getElem? (i := 791) (by decide +kernel), List.mem_of_getElem? (i := 1063) (by decide +kernel), List.mem_of_getElem? (i := 1064) (by decide +kernel)⟩
theorem lw_p29 : lw_okq (⟨"LongNoonModel", "emits", "(I)V"⟩, 64) := ⟨⟨by decide +kernel, by decide +kernel⟩, List.mem_of_getElem? (i := 791) (by decide +kernel), List.mem_of_getElem? (i := 1067) (by decide +kernel), List.mem_of_getElem? (i := 1068) (by decide +kernel)⟩
theorem lw_p30 : lw_okq (⟨"LongNoonModel", "whole", "()V"⟩, 64) := ⟨⟨by decide +kernel, by decide +kernel⟩, List.mem_of_getElem? (i := 791) (by decide +kernel), List.mem_of_getElem? (i := 1071) (by decide +kernel), List.mem_of_getElem? (i := 1072) (by decide +kernel)⟩
theorem lw_p31 : lw_okq (⟨"LongNoonModel", "settle", "(I)V"⟩, 64) := ⟨⟨by decide +kernel, by decide +kernel⟩, List.mem_of_getElem? (i := 791) (by decide +kernel), List.mem_of_getElem? (i := 1075) (by decide +kernel), List.mem_of_getElem? (i := 1076) (by decide +kernel)⟩
def lw_privs_2 : List (MethodName × Nat) := [(⟨"LongNoonModel", "isHouse", "(I)Z"⟩, 64), (⟨"LongNoonModel", "roomOf", "(I)I"⟩, 64), (⟨"LongNoonModel", "goesText", "(I)Z"⟩, 64), (⟨"LongNoonModel", "takesClause", "(I)Z"⟩, 64), (⟨"LongNoonModel", "takesHead", "(I)Z"⟩, 64), (⟨"LongNoonModel", "next", "()I"⟩, 64), (⟨"LongNoonModel", "takesWord", "(II)Z"⟩, 64), (⟨"LongNoonModel", "takes", "(I)Z"⟩, 64), (⟨"LongNoonModel", "takesNumber", "()Z"⟩, 64), (⟨"LongNoonModel", "isDigit", "()Z"⟩, 64), (⟨"LongNoonModel", "takesE", "(I)Z"⟩, 64), (⟨"LongNoonModel", "takesTest", "()Z"⟩, 64), (⟨"LongNoonModel", "place", "(I)I"⟩, 64), (⟨"LongNoonModel", "emits", "(I)V"⟩, 64), (⟨"LongNoonModel", "whole", "()V"⟩, 64), (⟨"LongNoonModel", "settle", "(I)V"⟩, 64)]
theorem lw_r2 : ∀ q ∈ lw_privs_2, lw_okq q := List.forall_mem_cons.mpr ⟨lw_p16, List.forall_mem_cons.mpr ⟨lw_p17, List.forall_mem_cons.mpr ⟨lw_p18, List.forall_mem_cons.mpr ⟨lw_p19, List.forall_mem_cons.mpr ⟨lw_p20, List.forall_mem_cons.mpr ⟨lw_p21, List.forall_mem_cons.mpr ⟨lw_p22, List.forall_mem_cons.mpr ⟨lw_p23, List.forall_mem_cons.mpr ⟨lw_p24, List.forall_mem_cons.mpr ⟨lw_p25, List.forall_mem_cons.mpr ⟨lw_p26, List.forall_mem_cons.mpr ⟨lw_p27, List.forall_mem_cons.mpr ⟨lw_p28, List.forall_mem_cons.mpr ⟨lw_p29, List.forall_mem_cons.mpr ⟨lw_p30, List.forall_mem_cons.mpr ⟨lw_p31, fun _ h => absurd h List.not_mem_nil⟩⟩⟩⟩⟩⟩⟩⟩⟩⟩⟩⟩⟩⟩⟩⟩
theorem lw_p32 : lw_okq (⟨"LongNoonModel", "sunOf", "(I)I"⟩, 64) := ⟨⟨by decide +kernel, by decide +kernel⟩, List.mem_of_getElem? (i := 791) (by decide +kernel), List.mem_of_getElem? (i := 1083) (by decide +kernel), List.mem_of_getElem? (i := 1084) (by decide +kernel)⟩
theorem lw_p33 : lw_okq (⟨"LongNoonModel", "isLight", "()Z"⟩, 64) := ⟨⟨by decide +kernel, by decide +kernel⟩, List.mem_of_getElem? (i := 791) (by decide +kernel), List.mem_of_getElem? (i := 1087) (by decide +kernel), List.mem_of_getElem? (i := 1088) (by decide +kernel)⟩
theorem lw_p34 : lw_okq (⟨"LongNoonModel", "sumOf", "(II)I"⟩, 64) := ⟨⟨by decide +kernel, by decide +kernel⟩, List.mem_of_getElem? (i := 791) (by decide +kernel), List.mem_of_getElem? (i := 1091) (by decide +kernel), List.mem_of_getElem? (i := 1092) (by decide +kernel)⟩
theorem lw_p35 : lw_okq (⟨"LongNoonModel", "begin", "()I"⟩, 64) := ⟨⟨by decide +kernel, by decide +kernel⟩, List.mem_of_getElem? (i := 791) (by decide +kernel), List.mem_of_getElem? (i := 1095) (by decide +kernel), List.mem_of_getElem? (i := 1096) (by decide +kernel)⟩
theorem lw_p36 : lw_okq (⟨"LongNoonModel", "behind", "()I"⟩, 64) := ⟨⟨by decide +kernel, by decide +kernel⟩, List.mem_of_getElem? (i := 791) (by decide +kernel), List.mem_of_getElem? (i := 1099) (by decide +kernel), List.mem_of_getElem? (i := 1100) (by decide +kernel)⟩
theorem lw_p37 : lw_okq (⟨"LongNoonModel", "holds", "(II)Z"⟩, 64) := ⟨⟨by decide +kernel, by decide +kernel⟩, List.mem_of_getElem? (i := 791) (by decide +kernel), List.mem_of_getElem? (i := 1103) (by decide +kernel), List.mem_of_getElem? (i := 1104) (by decide +kernel)⟩
theorem lw_p38 : lw_okq (⟨"LongNoonModel", "factOf", "(II)I"⟩, 64) := ⟨⟨by decide +kernel, by decide +kernel⟩, List.mem_of_getElem? (i := 791) (by decide +kernel), List.mem_of_getElem? (i := 1107) (by decide +kernel), List.mem_of_getElem? (i := 1108) (by decide +kernel)⟩
theorem lw_p39 : lw_okq (⟨"LongNoonModel", "coldOf", "(I)I"⟩, 64) := ⟨⟨by decide +kernel, by decide +kernel⟩, List.mem_of_getElem? (i := 791) (by decide +kernel), List.mem_of_getElem? (i := 1111) (by decide +kernel), List.mem_of_getElem? (i := 1112) (by decide +kernel)⟩
theorem lw_p40 : lw_okq (⟨"LongNoonModel", "gainOf", "(I)I"⟩, 64) := ⟨⟨by decide +kernel, by decide +kernel⟩, List.mem_of_getElem? (i := 791) (by decide +kernel), List.mem_of_getElem? (i := 1115) (by decide +kernel), List.mem_of_getElem? (i := 1116) (by decide +kernel)⟩
theorem lw_p41 : lw_okq (⟨"LongNoonModel", "lastOf", "(II)I"⟩, 64) := ⟨⟨by decide +kernel, by decide +kernel⟩, List.mem_of_getElem? (i := 791) (by decide +kernel), List.mem_of_getElem? (i := 1123) (by decide +kernel), List.mem_of_getElem? (i := 1124) (by decide +kernel)⟩
theorem lw_p42 : lw_okq (⟨"LongNoonModel", "goDay", "()I"⟩, 64) := ⟨⟨by decide +kernel, by decide +kernel⟩, List.mem_of_getElem? (i := 791) (by decide +kernel), List.mem_of_getElem? (i := 1131) (by decide +kernel), List.mem_of_getElem? (i := 1132) (by decide +kernel)⟩
theorem lw_p43 : lw_okq (⟨"LongNoonModel", "goHouse", "(I)Z"⟩, 64) := ⟨⟨by decide +kernel, by decide +kernel⟩, List.mem_of_getElem? (i := 791) (by decide +kernel), List.mem_of_getElem? (i := 1135) (by decide +kernel), List.mem_of_getElem? (i := 1136) (by decide +kernel)⟩
theorem lw_p44 : lw_okq (⟨"LongNoonModel", "least", "(II)I"⟩, 64) := ⟨⟨by decide +kernel, by decide +kernel⟩, List.mem_of_getElem? (i := 791) (by decide +kernel), List.mem_of_getElem? (i := 1139) (by decide +kernel), List.mem_of_getElem? (i := 1140) (by decide +kernel)⟩
theorem lw_p45 : lw_okq (⟨"LongNoonModel", "most", "(II)I"⟩, 64) := ⟨⟨by decide +kernel, by decide +kernel⟩, List.mem_of_getElem? (i := 791) (by decide +kernel), List.mem_of_getElem? (i := 1143) (by decide +kernel), List.mem_of_getElem? (i := 1144) (by decide +kernel)⟩
theorem lw_p46 : lw_okq (⟨"LongNoonModel", "evens", "(III)I"⟩, 64) := ⟨⟨by decide +kernel, by decide +kernel⟩, List.mem_of_getElem? (i := 791) (by decide +kernel), List.mem_of_getElem? (i := 1147) (by decide +kernel), List.mem_of_getElem? (i := 1148) (by decide +kernel)⟩
theorem lw_p47 : lw_okq (⟨"LongNoonModel", "isAmiss", "(I)Z"⟩, 64) := ⟨⟨by decide +kernel, by decide +kernel⟩, List.mem_of_getElem? (i := 791) (by decide +kernel), List.mem_of_getElem? (i := 1151) (by decide +kernel), List.mem_of_getElem? (i := 1152) (by decide +kernel)⟩
def lw_privs_3 : List (MethodName × Nat) := [(⟨"LongNoonModel", "sunOf", "(I)I"⟩, 64), (⟨"LongNoonModel", "isLight", "()Z"⟩, 64), (⟨"LongNoonModel", "sumOf", "(II)I"⟩, 64), (⟨"LongNoonModel", "begin", "()I"⟩, 64), (⟨"LongNoonModel", "behind", "()I"⟩, 64), (⟨"LongNoonModel", "holds", "(II)Z"⟩, 64), (⟨"LongNoonModel", "factOf", "(II)I"⟩, 64), (⟨"LongNoonModel", "coldOf", "(I)I"⟩, 64), (⟨"LongNoonModel", "gainOf", "(I)I"⟩, 64), (⟨"LongNoonModel", "lastOf", "(II)I"⟩, 64), (⟨"LongNoonModel", "goDay", "()I"⟩, 64), (⟨"LongNoonModel", "goHouse", "(I)Z"⟩, 64), (⟨"LongNoonModel", "least", "(II)I"⟩, 64), (⟨"LongNoonModel", "most", "(II)I"⟩, 64), (⟨"LongNoonModel", "evens", "(III)I"⟩, 64), (⟨"LongNoonModel", "isAmiss", "(I)Z"⟩, 64)]
theorem lw_r3 : ∀ q ∈ lw_privs_3, lw_okq q := List.forall_mem_cons.mpr ⟨lw_p32, List.forall_mem_cons.mpr ⟨lw_p33, List.forall_mem_cons.mpr ⟨lw_p34, List.forall_mem_cons.mpr ⟨lw_p35, List.forall_mem_cons.mpr ⟨lw_p36, List.forall_mem_cons.mpr ⟨lw_p37, List.forall_mem_cons.mpr ⟨lw_p38, List.forall_mem_cons.mpr ⟨lw_p39, List.forall_mem_cons.mpr ⟨lw_p40, List.forall_mem_cons.mpr ⟨lw_p41, List.forall_mem_cons.mpr ⟨lw_p42, List.forall_mem_cons.mpr ⟨lw_p43, List.forall_mem_cons.mpr ⟨lw_p44, List.forall_mem_cons.mpr ⟨lw_p45, List.forall_mem_cons.mpr ⟨lw_p46, List.forall_mem_cons.mpr ⟨lw_p47, fun _ h => absurd h List.not_mem_nil⟩⟩⟩⟩⟩⟩⟩⟩⟩⟩⟩⟩⟩⟩⟩⟩
theorem lw_p48 : lw_okq (⟨"LongNoonModel", "keep", "()V"⟩, 64) := ⟨⟨by decide +kernel, by decide +kernel⟩, List.mem_of_getElem? (i := 791) (by decide +kernel), List.mem_of_getElem? (i := 1159) (by decide +kernel), List.mem_of_getElem? (i := 1160) (by decide +kernel)⟩
theorem lw_p49 : lw_okq (⟨"LongNoonModel", "goOne", "(II)I"⟩, 64) := ⟨⟨by decide +kernel, by decide +kernel⟩, List.mem_of_getElem? (i := 791) (by decide +kernel), List.mem_of_getElem? (i := 1163) (by decide +kernel), List.mem_of_getElem? (i := 1164) (by decide +kernel)⟩
theorem lw_p50 : lw_okq (⟨"LongNoonModel", "putBack", "()V"⟩, 64) := ⟨⟨by decide +kernel, by decide +kernel⟩, List.mem_of_getElem? (i := 791) (by decide +kernel), List.mem_of_getElem? (i := 1167) (by decide +kernel), List.mem_of_getElem? (i := 1168) (by decide +kernel)⟩
theorem lw_p51 : lw_okq (⟨"LongNoonModel", "amissDays", "(II)I"⟩, 64) := ⟨⟨by decide +kernel, by decide +kernel⟩, List.mem_of_getElem? (i := 791) (by decide +kernel), List.mem_of_getElem? (i := 1179) (by decide +kernel), List.mem_of_getElem? (i := 1180) (by decide +kernel)⟩
theorem lw_p52 : lw_okq (⟨"LongNoonModel", "goBig", "(II)Z"⟩, 64) := ⟨⟨by decide +kernel, by decide +kernel⟩, List.mem_of_getElem? (i := 791) (by decide +kernel), List.mem_of_getElem? (i := 1199) (by decide +kernel), List.mem_of_getElem? (i := 1200) (by decide +kernel)⟩
theorem lw_p53 : lw_okq (⟨"LongNoonModel", "isSeen", "(II)Z"⟩, 64) := ⟨⟨by decide +kernel, by decide +kernel⟩, List.mem_of_getElem? (i := 791) (by decide +kernel), List.mem_of_getElem? (i := 1223) (by decide +kernel), List.mem_of_getElem? (i := 1224) (by decide +kernel)⟩
theorem lw_p54 : lw_okq (⟨"LongNoonModel", "lowest", "(III)J"⟩, 64) := ⟨⟨by decide +kernel, by decide +kernel⟩, List.mem_of_getElem? (i := 791) (by decide +kernel), List.mem_of_getElem? (i := 1236) (by decide +kernel), List.mem_of_getElem? (i := 1237) (by decide +kernel)⟩
theorem lw_p55 : lw_okq (⟨"LongNoonModel", "divisor", "(II)I"⟩, 64) := ⟨⟨by decide +kernel, by decide +kernel⟩, List.mem_of_getElem? (i := 791) (by decide +kernel), List.mem_of_getElem? (i := 1240) (by decide +kernel), List.mem_of_getElem? (i := 1241) (by decide +kernel)⟩
theorem lw_p56 : lw_okq (⟨"LongNoonModel", "isTape", "(I)Z"⟩, 64) := ⟨⟨by decide +kernel, by decide +kernel⟩, List.mem_of_getElem? (i := 791) (by decide +kernel), List.mem_of_getElem? (i := 1260) (by decide +kernel), List.mem_of_getElem? (i := 1261) (by decide +kernel)⟩
theorem lw_p57 : lw_okq (⟨"LongNoonModel", "warmsAct", "(II)I"⟩, 64) := ⟨⟨by decide +kernel, by decide +kernel⟩, List.mem_of_getElem? (i := 791) (by decide +kernel), List.mem_of_getElem? (i := 1276) (by decide +kernel), List.mem_of_getElem? (i := 1277) (by decide +kernel)⟩
theorem lw_p58 : lw_okq (⟨"LongNoonModel", "body", "(I)V"⟩, 64) := ⟨⟨by decide +kernel, by decide +kernel⟩, List.mem_of_getElem? (i := 791) (by decide +kernel), List.mem_of_getElem? (i := 1280) (by decide +kernel), List.mem_of_getElem? (i := 1281) (by decide +kernel)⟩
theorem lw_p59 : lw_okq (⟨"LongNoonModel", "houseWarms", "(II)I"⟩, 64) := ⟨⟨by decide +kernel, by decide +kernel⟩, List.mem_of_getElem? (i := 791) (by decide +kernel), List.mem_of_getElem? (i := 1284) (by decide +kernel), List.mem_of_getElem? (i := 1285) (by decide +kernel)⟩
theorem lw_p60 : lw_okq (⟨"LongNoonModel", "storesAct", "(II)I"⟩, 64) := ⟨⟨by decide +kernel, by decide +kernel⟩, List.mem_of_getElem? (i := 791) (by decide +kernel), List.mem_of_getElem? (i := 1288) (by decide +kernel), List.mem_of_getElem? (i := 1289) (by decide +kernel)⟩
theorem lw_p61 : lw_okq (⟨"LongNoonModel", "glassStores", "(II)I"⟩, 64) := ⟨⟨by decide +kernel, by decide +kernel⟩, List.mem_of_getElem? (i := 791) (by decide +kernel), List.mem_of_getElem? (i := 1292) (by decide +kernel), List.mem_of_getElem? (i := 1293) (by decide +kernel)⟩
theorem lw_p62 : lw_okq (⟨"LongNoonModel", "houseStores", "(II)I"⟩, 64) := ⟨⟨by decide +kernel, by decide +kernel⟩, List.mem_of_getElem? (i := 791) (by decide +kernel), List.mem_of_getElem? (i := 1296) (by decide +kernel), List.mem_of_getElem? (i := 1297) (by decide +kernel)⟩
theorem lw_p63 : lw_okq (⟨"LongNoonModel", "tellsAct", "(II)I"⟩, 64) := ⟨⟨by decide +kernel, by decide +kernel⟩, List.mem_of_getElem? (i := 791) (by decide +kernel), List.mem_of_getElem? (i := 1300) (by decide +kernel), List.mem_of_getElem? (i := 1301) (by decide +kernel)⟩
def lw_privs_4 : List (MethodName × Nat) := [(⟨"LongNoonModel", "keep", "()V"⟩, 64), (⟨"LongNoonModel", "goOne", "(II)I"⟩, 64), (⟨"LongNoonModel", "putBack", "()V"⟩, 64), (⟨"LongNoonModel", "amissDays", "(II)I"⟩, 64), (⟨"LongNoonModel", "goBig", "(II)Z"⟩, 64), (⟨"LongNoonModel", "isSeen", "(II)Z"⟩, 64), (⟨"LongNoonModel", "lowest", "(III)J"⟩, 64), (⟨"LongNoonModel", "divisor", "(II)I"⟩, 64), (⟨"LongNoonModel", "isTape", "(I)Z"⟩, 64), (⟨"LongNoonModel", "warmsAct", "(II)I"⟩, 64), (⟨"LongNoonModel", "body", "(I)V"⟩, 64), (⟨"LongNoonModel", "houseWarms", "(II)I"⟩, 64), (⟨"LongNoonModel", "storesAct", "(II)I"⟩, 64), (⟨"LongNoonModel", "glassStores", "(II)I"⟩, 64), (⟨"LongNoonModel", "houseStores", "(II)I"⟩, 64), (⟨"LongNoonModel", "tellsAct", "(II)I"⟩, 64)]
theorem lw_r4 : ∀ q ∈ lw_privs_4, lw_okq q := List.forall_mem_cons.mpr ⟨lw_p48, List.forall_mem_cons.mpr ⟨lw_p49, List.forall_mem_cons.mpr ⟨lw_p50, List.forall_mem_cons.mpr ⟨lw_p51, List.forall_mem_cons.mpr ⟨lw_p52, List.forall_mem_cons.mpr ⟨lw_p53, List.forall_mem_cons.mpr ⟨lw_p54, List.forall_mem_cons.mpr ⟨lw_p55, List.forall_mem_cons.mpr ⟨lw_p56, List.forall_mem_cons.mpr ⟨lw_p57, List.forall_mem_cons.mpr ⟨lw_p58, List.forall_mem_cons.mpr ⟨lw_p59, List.forall_mem_cons.mpr ⟨lw_p60, List.forall_mem_cons.mpr ⟨lw_p61, List.forall_mem_cons.mpr ⟨lw_p62, List.forall_mem_cons.mpr ⟨lw_p63, fun _ h => absurd h List.not_mem_nil⟩⟩⟩⟩⟩⟩⟩⟩⟩⟩⟩⟩⟩⟩⟩⟩
theorem lw_p64 : lw_okq (⟨"LongNoonModel", "houseTells", "(II)I"⟩, 64) := ⟨⟨by decide +kernel, by decide +kernel⟩, List.mem_of_getElem? (i := 791) (by decide +kernel), List.mem_of_getElem? (i := 1304) (by decide +kernel), List.mem_of_getElem? (i := 1305) (by decide +kernel)⟩
theorem lw_p65 : lw_okq (⟨"LongNoonModel", "narrow", "(IJ)J"⟩, 64) := ⟨⟨by decide +kernel, by decide +kernel⟩, List.mem_of_getElem? (i := 791) (by decide +kernel), List.mem_of_getElem? (i := 1328) (by decide +kernel), List.mem_of_getElem? (i := 1329) (by decide +kernel)⟩
def lw_privs_5 : List (MethodName × Nat) := [(⟨"LongNoonModel", "houseTells", "(II)I"⟩, 64), (⟨"LongNoonModel", "narrow", "(IJ)J"⟩, 64)]
theorem lw_r5 : ∀ q ∈ lw_privs_5, lw_okq q := List.forall_mem_cons.mpr ⟨lw_p64, List.forall_mem_cons.mpr ⟨lw_p65, fun _ h => absurd h List.not_mem_nil⟩⟩
def lw_privs : List (MethodName × Nat) := lw_privs_1 ++ (lw_privs_2 ++ (lw_privs_3 ++ (lw_privs_4 ++ (lw_privs_5))))
def lw_tbl : List Cond := k2_sels lw_privs ++ tables_1
theorem lw_privs_ok : ∀ q ∈ lw_privs, lw_okq q := by
  show ∀ q ∈ lw_privs_1 ++ (lw_privs_2 ++ (lw_privs_3 ++ (lw_privs_4 ++ (lw_privs_5)))), lw_okq q
  exact List.forall_mem_append.mpr ⟨lw_r1, List.forall_mem_append.mpr ⟨lw_r2, List.forall_mem_append.mpr ⟨lw_r3, List.forall_mem_append.mpr ⟨lw_r4, lw_r5⟩⟩⟩⟩
theorem goodIn_r {big : List Cond} (ws : List Cond) (ps : List Nat) (hp : ws = ps.filterMap (fun i => big[i]?)) (h : ws.all goodWord = true) : GoodIn big ws := by
  intro w hw
  have h1 := List.all_eq_true.mp h w hw
  rw [hp] at hw
  obtain ⟨i, -, hi⟩ := List.mem_filterMap.mp hw
  have hm : w ∈ big := by first | exact List.mem_of_getElem? hi | exact List.getElem?_mem hi
  exact ⟨hm, good_of_word h1⟩
theorem goodIn_app {big a b : List Cond} (ha : GoodIn big a) (hb : GoodIn big b) : GoodIn big (a ++ b) := fun w h => (List.mem_append.mp h).elim (ha w) (hb w)
theorem goodIn_ca {big a b : List Cond} {c : Cond} (ha : GoodIn big (c :: a)) (hb : GoodIn big b) : GoodIn big (c :: (a ++ b)) := fun w h => (List.mem_cons.mp h).elim (fun e => ha w (List.mem_cons.mpr (Or.inl e))) (fun h => (List.mem_append.mp h).elim (fun h => ha w (List.mem_cons.mpr (Or.inr h))) (hb w))
theorem goodIn_sub {big ws : List Cond} (hm : ∀ w ∈ ws, w ∈ big) (h : ws.all goodWord = true) : GoodIn big ws := fun w hw => ⟨hm w hw, good_of_word (List.all_eq_true.mp h w hw)⟩
def RX0 : String := "LongNoon$Clauses"
def TX0 : u_T := fun k => match k with
  | 0 => ("LongNoon$Clauses", "steps", "[I", true)
  | 1 => ("LongNoon$Clauses", "numbers", "[I", true)
  | 2 => ("LongNoon$Clauses", "size", "I", false)
  | _ => ("LongNoon$Clauses", "any", "Z", false)
def tyX0 : Nat → FieldType := fun k => match k with
  | 0 => .array .int
  | 1 => .array .int
  | 2 => .int
  | _ => .boolean
abbrev wsX00 : List Cond := u_ws RX0 TX0 4
theorem nmX0 : ∀ a, a < 4 → ∀ b, b < 4 → a ≠ b → (TX0 a).2.1 ≠ (TX0 b).2.1 := by decide +kernel
theorem tyX0_ok : ∀ k, k < 4 → parseFieldDescriptor (TX0 k).2.2.1 = some (tyX0 k) := by decide +kernel
abbrev cX0_init : ByteArray := prog_2_method_1_code
def yX0_init : MethodName := ⟨RX0, "<init>", "()V"⟩
abbrev cX0_clear : ByteArray := prog_2_method_2_code
def yX0_clear : MethodName := ⟨RX0, "clear", "()V"⟩
abbrev cX0_addStep : ByteArray := prog_2_method_3_code
def yX0_addStep : MethodName := ⟨RX0, "addStep", "(II)I"⟩
abbrev cX0_endClause : ByteArray := prog_2_method_4_code
def yX0_endClause : MethodName := ⟨RX0, "endClause", "(I)V"⟩
abbrev cX0_landHere : ByteArray := prog_2_method_5_code
def yX0_landHere : MethodName := ⟨RX0, "landHere", "(I)V"⟩
abbrev cX0_total : ByteArray := prog_2_method_6_code
def yX0_total : MethodName := ⟨RX0, "total", "(LLongNoon$House;II)I"⟩
abbrev cX0_passes : ByteArray := prog_2_method_7_code
def yX0_passes : MethodName := ⟨RX0, "passes", "(IILLongNoon$House;II)Z"⟩
def RX1 : String := "LongNoon$Ground"
def TX1 : u_T := fun k => match k with
  | 0 => ("LongNoon$Ground", "sun", "LLongNoon$Clauses;", true)
  | 1 => ("LongNoon$Ground", "cold", "LLongNoon$Clauses;", true)
  | 2 => ("LongNoon$Ground", "low", "I", false)
  | _ => ("LongNoon$Ground", "high", "I", false)
def tyX1 : Nat → FieldType := fun k => match k with
  | 0 => .object "LongNoon$Clauses"
  | 1 => .object "LongNoon$Clauses"
  | 2 => .int
  | _ => .int
abbrev wsX10 : List Cond := u_ws RX1 TX1 4
theorem nmX1 : ∀ a, a < 4 → ∀ b, b < 4 → a ≠ b → (TX1 a).2.1 ≠ (TX1 b).2.1 := by decide +kernel
theorem tyX1_ok : ∀ k, k < 4 → parseFieldDescriptor (TX1 k).2.2.1 = some (tyX1 k) := by decide +kernel
abbrev cX1_init : ByteArray := prog_3_method_1_code
def yX1_init : MethodName := ⟨RX1, "<init>", "()V"⟩
abbrev cX1_clear : ByteArray := prog_3_method_2_code
def yX1_clear : MethodName := ⟨RX1, "clear", "()V"⟩
abbrev cX1_sunOver : ByteArray := prog_3_method_3_code
def yX1_sunOver : MethodName := ⟨RX1, "sunOver", "(LLongNoon$House;II)I"⟩
abbrev cX1_coldOver : ByteArray := prog_3_method_4_code
def yX1_coldOver : MethodName := ⟨RX1, "coldOver", "(LLongNoon$House;II)I"⟩
def RX2 : String := "LongNoon$House"
def TX2 : u_T := fun k => match k with
  | 0 => ("LongNoon$House", "number", "I", false)
  | 1 => ("LongNoon$House", "kind", "I", false)
  | 2 => ("LongNoon$House", "v", "I", false)
  | 3 => ("LongNoon$House", "warmth", "I", false)
  | 4 => ("LongNoon$House", "capacity", "I", false)
  | 5 => ("LongNoon$House", "store", "LLongNoon$Store;", true)
  | _ => ("LongNoon$House", "row", "[I", true)
def tyX2 : Nat → FieldType := fun k => match k with
  | 0 => .int
  | 1 => .int
  | 2 => .int
  | 3 => .int
  | 4 => .int
  | 5 => .object "LongNoon$Store"
  | _ => .array .int
abbrev wsX20 : List Cond := u_ws RX2 TX2 7
theorem nmX2 : ∀ a, a < 7 → ∀ b, b < 7 → a ≠ b → (TX2 a).2.1 ≠ (TX2 b).2.1 := by decide +kernel
theorem tyX2_ok : ∀ k, k < 7 → parseFieldDescriptor (TX2 k).2.2.1 = some (tyX2 k) := by decide +kernel
abbrev cX2_init : ByteArray := prog_4_method_1_code
def yX2_init : MethodName := ⟨RX2, "<init>", "()V"⟩
abbrev cX2_build : ByteArray := prog_4_method_2_code
def yX2_build : MethodName := ⟨RX2, "build", "(IIIII)V"⟩
abbrev cX2_become : ByteArray := prog_4_method_3_code
def yX2_become : MethodName := ⟨RX2, "become", "(LLongNoon$House;)V"⟩
abbrev cX2_holdUpTo : ByteArray := prog_4_method_4_code
def yX2_holdUpTo : MethodName := ⟨RX2, "holdUpTo", "(I)V"⟩
abbrev cX2_gainOn : ByteArray := prog_4_method_5_code
def yX2_gainOn : MethodName := ⟨RX2, "gainOn", "(LLongNoon$Ground;III)I"⟩
abbrev cX2_settle : ByteArray := prog_4_method_6_code
def yX2_settle : MethodName := ⟨RX2, "settle", "(LLongNoon$Ground;ILLongNoon$Store;)Z"⟩
abbrev cX2_pass : ByteArray := prog_4_method_7_code
def yX2_pass : MethodName := ⟨RX2, "pass", "(LLongNoon$Ground;II)Z"⟩
abbrev cX2_firstAmiss : ByteArray := prog_4_method_8_code
def yX2_firstAmiss : MethodName := ⟨RX2, "firstAmiss", "(LLongNoon$Ground;I)I"⟩
abbrev cX2_amissDays : ByteArray := prog_4_method_9_code
def yX2_amissDays : MethodName := ⟨RX2, "amissDays", "(LLongNoon$Ground;III)I"⟩
def RX3 : String := "LongNoon$Player"
def TX3 : u_T := fun k => match k with
  | 0 => ("LongNoon$Player", "bodies", "[I", true)
  | _ => ("LongNoon$Player", "ran", "I", false)
def tyX3 : Nat → FieldType := fun k => match k with
  | 0 => .array .int
  | _ => .int
abbrev wsX30 : List Cond := u_ws RX3 TX3 2
theorem nmX3 : ∀ a, a < 2 → ∀ b, b < 2 → a ≠ b → (TX3 a).2.1 ≠ (TX3 b).2.1 := by decide +kernel
theorem tyX3_ok : ∀ k, k < 2 → parseFieldDescriptor (TX3 k).2.2.1 = some (tyX3 k) := by decide +kernel
abbrev cX3_init : ByteArray := prog_5_method_1_code
def yX3_init : MethodName := ⟨RX3, "<init>", "()V"⟩
abbrev cX3_forget : ByteArray := prog_5_method_2_code
def yX3_forget : MethodName := ⟨RX3, "forget", "()V"⟩
abbrev cX3_play : ByteArray := prog_5_method_3_code
def yX3_play : MethodName := ⟨RX3, "play", "(LLongNoon$House;II)I"⟩
abbrev cX3_call : ByteArray := prog_5_method_4_code
def yX3_call : MethodName := ⟨RX3, "call", "(LLongNoon$House;IIII)I"⟩
abbrev cX3_runBody : ByteArray := prog_5_method_5_code
def yX3_runBody : MethodName := ⟨RX3, "runBody", "(ILLongNoon$House;II)I"⟩
def RX4 : String := "LongNoon$Reader"
def TX4 : u_T := fun k => match k with
  | 0 => ("LongNoon$Reader", "text", "[C", true)
  | 1 => ("LongNoon$Reader", "length", "I", false)
  | _ => ("LongNoon$Reader", "place", "I", false)
def tyX4 : Nat → FieldType := fun k => match k with
  | 0 => .array .char
  | 1 => .int
  | _ => .int
abbrev wsX40 : List Cond := u_ws RX4 TX4 3
theorem nmX4 : ∀ a, a < 3 → ∀ b, b < 3 → a ≠ b → (TX4 a).2.1 ≠ (TX4 b).2.1 := by decide +kernel
theorem tyX4_ok : ∀ k, k < 3 → parseFieldDescriptor (TX4 k).2.2.1 = some (tyX4 k) := by decide +kernel
abbrev cX4_init : ByteArray := prog_6_method_1_code
def yX4_init : MethodName := ⟨RX4, "<init>", "()V"⟩
abbrev cX4_takeSign : ByteArray := prog_6_method_2_code
def yX4_takeSign : MethodName := ⟨RX4, "takeSign", "(C)Z"⟩
abbrev cX4_fill : ByteArray := prog_6_method_3_code
def yX4_fill : MethodName := ⟨RX4, "fill", "(LLongNoon$Ground;)I"⟩
abbrev cX4_readClause : ByteArray := prog_6_method_4_code
def yX4_readClause : MethodName := ⟨RX4, "readClause", "(LLongNoon$Ground;)Z"⟩
abbrev cX4_readChain : ByteArray := prog_6_method_5_code
def yX4_readChain : MethodName := ⟨RX4, "readChain", "(LLongNoon$Clauses;CI)Z"⟩
abbrev cX4_readSingle : ByteArray := prog_6_method_6_code
def yX4_readSingle : MethodName := ⟨RX4, "readSingle", "(LLongNoon$Clauses;I)Z"⟩
abbrev cX4_readTest : ByteArray := prog_6_method_7_code
def yX4_readTest : MethodName := ⟨RX4, "readTest", "(LLongNoon$Clauses;)Z"⟩
abbrev cX4_readNumber : ByteArray := prog_6_method_8_code
def yX4_readNumber : MethodName := ⟨RX4, "readNumber", "()I"⟩
abbrev cX4_readWord : ByteArray := prog_6_method_9_code
def yX4_readWord : MethodName := ⟨RX4, "readWord", "(Ljava/lang/String;)Z"⟩
abbrev cX4_readSign : ByteArray := prog_6_method_10_code
def yX4_readSign : MethodName := ⟨RX4, "readSign", "(C)Z"⟩
abbrev cX4_nextSign : ByteArray := prog_6_method_11_code
def yX4_nextSign : MethodName := ⟨RX4, "nextSign", "()C"⟩
def RX5 : String := "LongNoon$Store"
def TX5 : u_T := fun k => match k with
  | 0 => ("LongNoon$Store", "holds", "I", false)
  | 1 => ("LongNoon$Store", "room", "I", false)
  | _ => ("LongNoon$Store", "leak", "I", false)
def tyX5 : Nat → FieldType := fun k => match k with
  | 0 => .int
  | 1 => .int
  | _ => .int
abbrev wsX50 : List Cond := u_ws RX5 TX5 3
theorem nmX5 : ∀ a, a < 3 → ∀ b, b < 3 → a ≠ b → (TX5 a).2.1 ≠ (TX5 b).2.1 := by decide +kernel
theorem tyX5_ok : ∀ k, k < 3 → parseFieldDescriptor (TX5 k).2.2.1 = some (tyX5 k) := by decide +kernel
abbrev cX5_init : ByteArray := prog_7_method_1_code
def yX5_init : MethodName := ⟨RX5, "<init>", "()V"⟩
abbrev cX5_become : ByteArray := prog_7_method_2_code
def yX5_become : MethodName := ⟨RX5, "become", "(LLongNoon$Store;)V"⟩
abbrev cX5_seep : ByteArray := prog_7_method_3_code
def yX5_seep : MethodName := ⟨RX5, "seep", "()V"⟩
abbrev cX5_takeIn : ByteArray := prog_7_method_4_code
def yX5_takeIn : MethodName := ⟨RX5, "takeIn", "(I)I"⟩
abbrev cX5_giveOut : ByteArray := prog_7_method_5_code
def yX5_giveOut : MethodName := ⟨RX5, "giveOut", "(I)I"⟩
def RX6 : String := "LongNoon$Tape"
def TX6 : u_T := fun k => match k with
  | 0 => ("LongNoon$Tape", "sort", "I", false)
  | 1 => ("LongNoon$Tape", "length", "I", false)
  | _ => ("LongNoon$Tape", "items", "[J", true)
def tyX6 : Nat → FieldType := fun k => match k with
  | 0 => .int
  | 1 => .int
  | _ => .array .long
abbrev wsX60 : List Cond := u_ws RX6 TX6 3
theorem nmX6 : ∀ a, a < 3 → ∀ b, b < 3 → a ≠ b → (TX6 a).2.1 ≠ (TX6 b).2.1 := by decide +kernel
theorem tyX6_ok : ∀ k, k < 3 → parseFieldDescriptor (TX6 k).2.2.1 = some (tyX6 k) := by decide +kernel
abbrev cX6_init : ByteArray := prog_8_method_1_code
def yX6_init : MethodName := ⟨RX6, "<init>", "()V"⟩
abbrev cX6_become : ByteArray := prog_8_method_2_code
def yX6_become : MethodName := ⟨RX6, "become", "(II)V"⟩
abbrev cX6_isEmpty : ByteArray := prog_8_method_3_code
def yX6_isEmpty : MethodName := ⟨RX6, "isEmpty", "()Z"⟩
abbrev cX6_has : ByteArray := prog_8_method_4_code
def yX6_has : MethodName := ⟨RX6, "has", "(I)Z"⟩
abbrev cX6_cut : ByteArray := prog_8_method_5_code
def yX6_cut : MethodName := ⟨RX6, "cut", "(J)J"⟩
def RX7 : String := "LongNoon$Town"
def TX7 : u_T := fun k => match k with
  | 0 => ("LongNoon$Town", "houses", "[LLongNoon$House;", true)
  | 1 => ("LongNoon$Town", "many", "I", false)
  | 2 => ("LongNoon$Town", "day", "I", false)
  | 3 => ("LongNoon$Town", "holding", "I", false)
  | 4 => ("LongNoon$Town", "seenHouse", "[I", true)
  | 5 => ("LongNoon$Town", "seenDay", "[I", true)
  | 6 => ("LongNoon$Town", "seenHolds", "[I", true)
  | 7 => ("LongNoon$Town", "seen", "I", false)
  | 8 => ("LongNoon$Town", "book", "[I", true)
  | _ => ("LongNoon$Town", "booked", "I", false)
def tyX7 : Nat → FieldType := fun k => match k with
  | 0 => .array (.object "LongNoon$House")
  | 1 => .int
  | 2 => .int
  | 3 => .int
  | 4 => .array .int
  | 5 => .array .int
  | 6 => .array .int
  | 7 => .int
  | 8 => .array .int
  | _ => .int
abbrev wsX70 : List Cond := u_ws RX7 TX7 10
theorem nmX7 : ∀ a, a < 10 → ∀ b, b < 10 → a ≠ b → (TX7 a).2.1 ≠ (TX7 b).2.1 := by decide +kernel
theorem tyX7_ok : ∀ k, k < 10 → parseFieldDescriptor (TX7 k).2.2.1 = some (tyX7 k) := by decide +kernel
abbrev cX7_init : ByteArray := prog_9_method_1_code
def yX7_init : MethodName := ⟨RX7, "<init>", "()V"⟩
abbrev cX7_become : ByteArray := prog_9_method_2_code
def yX7_become : MethodName := ⟨RX7, "become", "(LLongNoon$Town;)V"⟩
abbrev cX7_moon : ByteArray := prog_9_method_3_code
def yX7_moon : MethodName := ⟨RX7, "moon", "()I"⟩
abbrev cX7_pool : ByteArray := prog_9_method_4_code
def yX7_pool : MethodName := ⟨RX7, "pool", "(LLongNoon$Store;)V"⟩
abbrev cX7_passWith : ByteArray := prog_9_method_5_code
def yX7_passWith : MethodName := ⟨RX7, "passWith", "(LLongNoon$Store;LLongNoon$Ground;)Z"⟩
abbrev cX7_lastSeenDay : ByteArray := prog_9_method_6_code
def yX7_lastSeenDay : MethodName := ⟨RX7, "lastSeenDay", "(I)I"⟩
abbrev cX7_wasSeenSo : ByteArray := prog_9_method_7_code
def yX7_wasSeenSo : MethodName := ⟨RX7, "wasSeenSo", "(III)Z"⟩
def RX8 : String := "LongNoon"
def TX8 : u_T := fun k => match k with
  | 0 => ("LongNoon", "now", "LLongNoon$Town;", true)
  | 1 => ("LongNoon", "kept", "LLongNoon$Town;", true)
  | 2 => ("LongNoon", "imaged", "Z", false)
  | 3 => ("LongNoon", "trial", "LLongNoon$Town;", true)
  | 4 => ("LongNoon", "probe", "LLongNoon$House;", true)
  | 5 => ("LongNoon", "second", "LLongNoon$House;", true)
  | 6 => ("LongNoon", "common", "LLongNoon$Store;", true)
  | 7 => ("LongNoon", "reader", "LLongNoon$Reader;", true)
  | 8 => ("LongNoon", "bare", "LLongNoon$Ground;", true)
  | 9 => ("LongNoon", "grounds", "[LLongNoon$Ground;", true)
  | 10 => ("LongNoon", "groundCount", "I", false)
  | 11 => ("LongNoon", "player", "LLongNoon$Player;", true)
  | _ => ("LongNoon", "tapes", "[LLongNoon$Tape;", true)
def tyX8 : Nat → FieldType := fun k => match k with
  | 0 => .object "LongNoon$Town"
  | 1 => .object "LongNoon$Town"
  | 2 => .boolean
  | 3 => .object "LongNoon$Town"
  | 4 => .object "LongNoon$House"
  | 5 => .object "LongNoon$House"
  | 6 => .object "LongNoon$Store"
  | 7 => .object "LongNoon$Reader"
  | 8 => .object "LongNoon$Ground"
  | 9 => .array (.object "LongNoon$Ground")
  | 10 => .int
  | 11 => .object "LongNoon$Player"
  | _ => .array (.object "LongNoon$Tape")
abbrev wsX80 : List Cond := u_ws RX8 TX8 13
theorem nmX8 : ∀ a, a < 13 → ∀ b, b < 13 → a ≠ b → (TX8 a).2.1 ≠ (TX8 b).2.1 := by decide +kernel
theorem tyX8_ok : ∀ k, k < 13 → parseFieldDescriptor (TX8 k).2.2.1 = some (tyX8 k) := by decide +kernel
abbrev cX8_init : ByteArray := prog_1_method_1_code
def yX8_init : MethodName := ⟨RX8, "<init>", "()V"⟩
abbrev cX8_house : ByteArray := prog_1_method_2_code
def yX8_house : MethodName := ⟨RX8, "house", "(IIII)I"⟩
abbrev cX8_of : ByteArray := prog_1_method_3_code
def yX8_of : MethodName := ⟨RX8, "of", "(II)I"⟩
abbrev cX8_set : ByteArray := prog_1_method_4_code
def yX8_set : MethodName := ⟨RX8, "set", "(III)I"⟩
abbrev cX8_row : ByteArray := prog_1_method_5_code
def yX8_row : MethodName := ⟨RX8, "row", "(III)I"⟩
abbrev cX8_feed : ByteArray := prog_1_method_6_code
def yX8_feed : MethodName := ⟨RX8, "feed", "(I)I"⟩
abbrev cX8_ground : ByteArray := prog_1_method_7_code
def yX8_ground : MethodName := ⟨RX8, "ground", "()I"⟩
abbrev cX8_told : ByteArray := prog_1_method_8_code
def yX8_told : MethodName := ⟨RX8, "told", "(I)I"⟩
abbrev cX8_day : ByteArray := prog_1_method_9_code
def yX8_day : MethodName := ⟨RX8, "day", "()I"⟩
abbrev cX8_on : ByteArray := prog_1_method_10_code
def yX8_on : MethodName := ⟨RX8, "on", "(III)I"⟩
abbrev cX8_first : ByteArray := prog_1_method_11_code
def yX8_first : MethodName := ⟨RX8, "first", "(I)I"⟩
abbrev cX8_never : ByteArray := prog_1_method_12_code
def yX8_never : MethodName := ⟨RX8, "never", "()I"⟩
abbrev cX8_cap : ByteArray := prog_1_method_13_code
def yX8_cap : MethodName := ⟨RX8, "cap", "(I)I"⟩
abbrev cX8_full : ByteArray := prog_1_method_14_code
def yX8_full : MethodName := ⟨RX8, "full", "(I)I"⟩
abbrev cX8_heat : ByteArray := prog_1_method_15_code
def yX8_heat : MethodName := ⟨RX8, "heat", "(II)I"⟩
abbrev cX8_big : ByteArray := prog_1_method_16_code
def yX8_big : MethodName := ⟨RX8, "big", "(I)I"⟩
abbrev cX8_gives : ByteArray := prog_1_method_17_code
def yX8_gives : MethodName := ⟨RX8, "gives", "(III)I"⟩
abbrev cX8_turn : ByteArray := prog_1_method_18_code
def yX8_turn : MethodName := ⟨RX8, "turn", "(II)I"⟩
abbrev cX8_alike : ByteArray := prog_1_method_19_code
def yX8_alike : MethodName := ⟨RX8, "alike", "(II)I"⟩
abbrev cX8_see : ByteArray := prog_1_method_20_code
def yX8_see : MethodName := ⟨RX8, "see", "(III)I"⟩
abbrev cX8_leaks : ByteArray := prog_1_method_21_code
def yX8_leaks : MethodName := ⟨RX8, "leaks", "(I)I"⟩
abbrev cX8_dry : ByteArray := prog_1_method_22_code
def yX8_dry : MethodName := ⟨RX8, "dry", "(I)I"⟩
abbrev cX8_odds : ByteArray := prog_1_method_23_code
def yX8_odds : MethodName := ⟨RX8, "odds", "(II)J"⟩
abbrev cX8_mean : ByteArray := prog_1_method_24_code
def yX8_mean : MethodName := ⟨RX8, "mean", "(II)J"⟩
abbrev cX8_book : ByteArray := prog_1_method_25_code
def yX8_book : MethodName := ⟨RX8, "book", "(I)I"⟩
abbrev cX8_looked : ByteArray := prog_1_method_26_code
def yX8_looked : MethodName := ⟨RX8, "looked", "()I"⟩
abbrev cX8_judge : ByteArray := prog_1_method_27_code
def yX8_judge : MethodName := ⟨RX8, "judge", "(II)I"⟩
abbrev cX8_image : ByteArray := prog_1_method_28_code
def yX8_image : MethodName := ⟨RX8, "image", "()I"⟩
abbrev cX8_undo : ByteArray := prog_1_method_29_code
def yX8_undo : MethodName := ⟨RX8, "undo", "()I"⟩
abbrev cX8_act : ByteArray := prog_1_method_30_code
def yX8_act : MethodName := ⟨RX8, "act", "(III)I"⟩
abbrev cX8_trace : ByteArray := prog_1_method_31_code
def yX8_trace : MethodName := ⟨RX8, "trace", "(I)I"⟩
abbrev cX8_taken : ByteArray := prog_1_method_32_code
def yX8_taken : MethodName := ⟨RX8, "taken", "(II)I"⟩
abbrev cX8_count : ByteArray := prog_1_method_33_code
def yX8_count : MethodName := ⟨RX8, "count", "(I)I"⟩
abbrev cX8_tape : ByteArray := prog_1_method_34_code
def yX8_tape : MethodName := ⟨RX8, "tape", "(III)I"⟩
abbrev cX8_item : ByteArray := prog_1_method_35_code
def yX8_item : MethodName := ⟨RX8, "item", "(IIJ)I"⟩
abbrev cX8_read : ByteArray := prog_1_method_36_code
def yX8_read : MethodName := ⟨RX8, "read", "(II)J"⟩
abbrev cX8_shift : ByteArray := prog_1_method_37_code
def yX8_shift : MethodName := ⟨RX8, "shift", "(IIIII)I"⟩
abbrev cX8_within : ByteArray := prog_1_method_38_code
def yX8_within : MethodName := ⟨RX8, "within", "(II)Z"⟩
abbrev cX8_isLight : ByteArray := prog_1_method_39_code
def yX8_isLight : MethodName := ⟨RX8, "isLight", "(I)Z"⟩
abbrev cX8_houseAt : ByteArray := prog_1_method_40_code
def yX8_houseAt : MethodName := ⟨RX8, "houseAt", "(I)LLongNoon$House;"⟩
abbrev cX8_tapeAt : ByteArray := prog_1_method_41_code
def yX8_tapeAt : MethodName := ⟨RX8, "tapeAt", "(I)LLongNoon$Tape;"⟩
abbrev cX8_groundNow : ByteArray := prog_1_method_42_code
def yX8_groundNow : MethodName := ⟨RX8, "groundNow", "()LLongNoon$Ground;"⟩
abbrev cX8_amissOfBoth : ByteArray := prog_1_method_43_code
def yX8_amissOfBoth : MethodName := ⟨RX8, "amissOfBoth", "(LLongNoon$House;LLongNoon$House;I)I"⟩
abbrev cX8_isAsSeen : ByteArray := prog_1_method_44_code
def yX8_isAsSeen : MethodName := ⟨RX8, "isAsSeen", "(LLongNoon$House;)Z"⟩
abbrev cX8_isUnder : ByteArray := prog_1_method_45_code
def yX8_isUnder : MethodName := ⟨RX8, "isUnder", "(II)Z"⟩
abbrev cX8_lowest : ByteArray := prog_1_method_46_code
def yX8_lowest : MethodName := ⟨RX8, "lowest", "(III)I"⟩
def RX9 : String := "LongNoonModel"
def TX9 : u_T := fun k => match k with
  | 0 => ("LongNoonModel", "houses", "I", false)
  | 1 => ("LongNoonModel", "days", "I", false)
  | 2 => ("LongNoonModel", "kind", "[I", true)
  | 3 => ("LongNoonModel", "v", "[I", true)
  | 4 => ("LongNoonModel", "heat", "[I", true)
  | 5 => ("LongNoonModel", "store", "[I", true)
  | 6 => ("LongNoonModel", "cap", "[I", true)
  | 7 => ("LongNoonModel", "leak", "[I", true)
  | 8 => ("LongNoonModel", "rows", "[I", true)
  | 9 => ("LongNoonModel", "grounds", "I", false)
  | 10 => ("LongNoonModel", "the", "I", false)
  | 11 => ("LongNoonModel", "fed", "I", false)
  | 12 => ("LongNoonModel", "at", "I", false)
  | 13 => ("LongNoonModel", "digits", "I", false)
  | 14 => ("LongNoonModel", "text", "[I", true)
  | 15 => ("LongNoonModel", "clauses", "[I", true)
  | 16 => ("LongNoonModel", "word", "[I", true)
  | 17 => ("LongNoonModel", "number", "[I", true)
  | 18 => ("LongNoonModel", "from", "[I", true)
  | 19 => ("LongNoonModel", "to", "[I", true)
  | 20 => ("LongNoonModel", "sign", "[I", true)
  | 21 => ("LongNoonModel", "waits", "[I", true)
  | 22 => ("LongNoonModel", "signs", "I", false)
  | 23 => ("LongNoonModel", "waiting", "I", false)
  | 24 => ("LongNoonModel", "open", "I", false)
  | 25 => ("LongNoonModel", "letters", "[I", true)
  | 26 => ("LongNoonModel", "pile", "[Z", true)
  | 27 => ("LongNoonModel", "bigHolds", "I", false)
  | 28 => ("LongNoonModel", "dust", "I", false)
  | 29 => ("LongNoonModel", "dimFrom", "I", false)
  | 30 => ("LongNoonModel", "dimTo", "I", false)
  | 31 => ("LongNoonModel", "keptHeat", "[I", true)
  | 32 => ("LongNoonModel", "keptStore", "[I", true)
  | 33 => ("LongNoonModel", "keptDays", "I", false)
  | 34 => ("LongNoonModel", "gains", "[I", true)
  | 35 => ("LongNoonModel", "seen", "I", false)
  | 36 => ("LongNoonModel", "seenHouse", "[I", true)
  | 37 => ("LongNoonModel", "seenDay", "[I", true)
  | 38 => ("LongNoonModel", "seenHolds", "[I", true)
  | 39 => ("LongNoonModel", "books", "I", false)
  | 40 => ("LongNoonModel", "book", "[I", true)
  | 41 => ("LongNoonModel", "hasImage", "Z", false)
  | 42 => ("LongNoonModel", "imageThe", "I", false)
  | 43 => ("LongNoonModel", "imageHouses", "I", false)
  | 44 => ("LongNoonModel", "imageDays", "I", false)
  | 45 => ("LongNoonModel", "imageSeen", "I", false)
  | 46 => ("LongNoonModel", "imageBooks", "I", false)
  | 47 => ("LongNoonModel", "imageKind", "[I", true)
  | 48 => ("LongNoonModel", "imageV", "[I", true)
  | 49 => ("LongNoonModel", "imageHeat", "[I", true)
  | 50 => ("LongNoonModel", "imageStore", "[I", true)
  | 51 => ("LongNoonModel", "imageCap", "[I", true)
  | 52 => ("LongNoonModel", "imageLeak", "[I", true)
  | 53 => ("LongNoonModel", "imageRows", "[I", true)
  | 54 => ("LongNoonModel", "imageHouse", "[I", true)
  | 55 => ("LongNoonModel", "imageDay", "[I", true)
  | 56 => ("LongNoonModel", "imageHolds", "[I", true)
  | 57 => ("LongNoonModel", "imageBook", "[I", true)
  | 58 => ("LongNoonModel", "ran", "I", false)
  | 59 => ("LongNoonModel", "bodies", "[I", true)
  | 60 => ("LongNoonModel", "sort", "[I", true)
  | 61 => ("LongNoonModel", "length", "[I", true)
  | 62 => ("LongNoonModel", "item", "[J", true)
  | _ => ("LongNoonModel", "aside", "[J", true)
def tyX9 : Nat → FieldType := fun k => match k with
  | 0 => .int
  | 1 => .int
  | 2 => .array .int
  | 3 => .array .int
  | 4 => .array .int
  | 5 => .array .int
  | 6 => .array .int
  | 7 => .array .int
  | 8 => .array .int
  | 9 => .int
  | 10 => .int
  | 11 => .int
  | 12 => .int
  | 13 => .int
  | 14 => .array .int
  | 15 => .array .int
  | 16 => .array .int
  | 17 => .array .int
  | 18 => .array .int
  | 19 => .array .int
  | 20 => .array .int
  | 21 => .array .int
  | 22 => .int
  | 23 => .int
  | 24 => .int
  | 25 => .array .int
  | 26 => .array .boolean
  | 27 => .int
  | 28 => .int
  | 29 => .int
  | 30 => .int
  | 31 => .array .int
  | 32 => .array .int
  | 33 => .int
  | 34 => .array .int
  | 35 => .int
  | 36 => .array .int
  | 37 => .array .int
  | 38 => .array .int
  | 39 => .int
  | 40 => .array .int
  | 41 => .boolean
  | 42 => .int
  | 43 => .int
  | 44 => .int
  | 45 => .int
  | 46 => .int
  | 47 => .array .int
  | 48 => .array .int
  | 49 => .array .int
  | 50 => .array .int
  | 51 => .array .int
  | 52 => .array .int
  | 53 => .array .int
  | 54 => .array .int
  | 55 => .array .int
  | 56 => .array .int
  | 57 => .array .int
  | 58 => .int
  | 59 => .array .int
  | 60 => .array .int
  | 61 => .array .int
  | 62 => .array .long
  | _ => .array .long
abbrev wsX90 : List Cond := u_ws RX9 TX9 64
theorem nmX9 : ∀ a, a < 64 → ∀ b, b < 64 → a ≠ b → (TX9 a).2.1 ≠ (TX9 b).2.1 := by decide +kernel
theorem tyX9_ok : ∀ k, k < 64 → parseFieldDescriptor (TX9 k).2.2.1 = some (tyX9 k) := by decide +kernel
abbrev cX9_init : ByteArray := prog_11_method_1_code
def yX9_init : MethodName := ⟨RX9, "<init>", "()V"⟩
abbrev cX9_in : ByteArray := prog_11_method_2_code
def yX9_in : MethodName := ⟨RX9, "in", "(III)Z"⟩
abbrev cX9_isHouse : ByteArray := prog_11_method_3_code
def yX9_isHouse : MethodName := ⟨RX9, "isHouse", "(I)Z"⟩
abbrev cX9_house : ByteArray := prog_11_method_4_code
def yX9_house : MethodName := ⟨RX9, "house", "(IIII)I"⟩
abbrev cX9_roomOf : ByteArray := prog_11_method_5_code
def yX9_roomOf : MethodName := ⟨RX9, "roomOf", "(I)I"⟩
abbrev cX9_set : ByteArray := prog_11_method_6_code
def yX9_set : MethodName := ⟨RX9, "set", "(III)I"⟩
abbrev cX9_row : ByteArray := prog_11_method_7_code
def yX9_row : MethodName := ⟨RX9, "row", "(III)I"⟩
abbrev cX9_feed : ByteArray := prog_11_method_8_code
def yX9_feed : MethodName := ⟨RX9, "feed", "(I)I"⟩
abbrev cX9_next : ByteArray := prog_11_method_9_code
def yX9_next : MethodName := ⟨RX9, "next", "()I"⟩
abbrev cX9_takes : ByteArray := prog_11_method_10_code
def yX9_takes : MethodName := ⟨RX9, "takes", "(I)Z"⟩
abbrev cX9_takesWord : ByteArray := prog_11_method_11_code
def yX9_takesWord : MethodName := ⟨RX9, "takesWord", "(II)Z"⟩
abbrev cX9_isDigit : ByteArray := prog_11_method_12_code
def yX9_isDigit : MethodName := ⟨RX9, "isDigit", "()Z"⟩
abbrev cX9_takesNumber : ByteArray := prog_11_method_13_code
def yX9_takesNumber : MethodName := ⟨RX9, "takesNumber", "()Z"⟩
abbrev cX9_emits : ByteArray := prog_11_method_14_code
def yX9_emits : MethodName := ⟨RX9, "emits", "(I)V"⟩
abbrev cX9_whole : ByteArray := prog_11_method_15_code
def yX9_whole : MethodName := ⟨RX9, "whole", "()V"⟩
abbrev cX9_settle : ByteArray := prog_11_method_16_code
def yX9_settle : MethodName := ⟨RX9, "settle", "(I)V"⟩
abbrev cX9_place : ByteArray := prog_11_method_17_code
def yX9_place : MethodName := ⟨RX9, "place", "(I)I"⟩
abbrev cX9_takesTest : ByteArray := prog_11_method_18_code
def yX9_takesTest : MethodName := ⟨RX9, "takesTest", "()Z"⟩
abbrev cX9_takesE : ByteArray := prog_11_method_19_code
def yX9_takesE : MethodName := ⟨RX9, "takesE", "(I)Z"⟩
abbrev cX9_takesHead : ByteArray := prog_11_method_20_code
def yX9_takesHead : MethodName := ⟨RX9, "takesHead", "(I)Z"⟩
abbrev cX9_takesClause : ByteArray := prog_11_method_21_code
def yX9_takesClause : MethodName := ⟨RX9, "takesClause", "(I)Z"⟩
abbrev cX9_goesText : ByteArray := prog_11_method_22_code
def yX9_goesText : MethodName := ⟨RX9, "goesText", "(I)Z"⟩
abbrev cX9_ground : ByteArray := prog_11_method_23_code
def yX9_ground : MethodName := ⟨RX9, "ground", "()I"⟩
abbrev cX9_begin : ByteArray := prog_11_method_24_code
def yX9_begin : MethodName := ⟨RX9, "begin", "()I"⟩
abbrev cX9_behind : ByteArray := prog_11_method_25_code
def yX9_behind : MethodName := ⟨RX9, "behind", "()I"⟩
abbrev cX9_lastOf : ByteArray := prog_11_method_26_code
def yX9_lastOf : MethodName := ⟨RX9, "lastOf", "(II)I"⟩
abbrev cX9_factOf : ByteArray := prog_11_method_27_code
def yX9_factOf : MethodName := ⟨RX9, "factOf", "(II)I"⟩
abbrev cX9_holds : ByteArray := prog_11_method_28_code
def yX9_holds : MethodName := ⟨RX9, "holds", "(II)Z"⟩
abbrev cX9_sumOf : ByteArray := prog_11_method_29_code
def yX9_sumOf : MethodName := ⟨RX9, "sumOf", "(II)I"⟩
abbrev cX9_isLight : ByteArray := prog_11_method_30_code
def yX9_isLight : MethodName := ⟨RX9, "isLight", "()Z"⟩
abbrev cX9_sunOf : ByteArray := prog_11_method_31_code
def yX9_sunOf : MethodName := ⟨RX9, "sunOf", "(I)I"⟩
abbrev cX9_coldOf : ByteArray := prog_11_method_32_code
def yX9_coldOf : MethodName := ⟨RX9, "coldOf", "(I)I"⟩
abbrev cX9_gainOf : ByteArray := prog_11_method_33_code
def yX9_gainOf : MethodName := ⟨RX9, "gainOf", "(I)I"⟩
abbrev cX9_least : ByteArray := prog_11_method_34_code
def yX9_least : MethodName := ⟨RX9, "least", "(II)I"⟩
abbrev cX9_most : ByteArray := prog_11_method_35_code
def yX9_most : MethodName := ⟨RX9, "most", "(II)I"⟩
abbrev cX9_evens : ByteArray := prog_11_method_36_code
def yX9_evens : MethodName := ⟨RX9, "evens", "(III)I"⟩
abbrev cX9_isAmiss : ByteArray := prog_11_method_37_code
def yX9_isAmiss : MethodName := ⟨RX9, "isAmiss", "(I)Z"⟩
abbrev cX9_goHouse : ByteArray := prog_11_method_38_code
def yX9_goHouse : MethodName := ⟨RX9, "goHouse", "(I)Z"⟩
abbrev cX9_of : ByteArray := prog_11_method_39_code
def yX9_of : MethodName := ⟨RX9, "of", "(II)I"⟩
abbrev cX9_told : ByteArray := prog_11_method_40_code
def yX9_told : MethodName := ⟨RX9, "told", "(I)I"⟩
abbrev cX9_goDay : ByteArray := prog_11_method_41_code
def yX9_goDay : MethodName := ⟨RX9, "goDay", "()I"⟩
abbrev cX9_day : ByteArray := prog_11_method_42_code
def yX9_day : MethodName := ⟨RX9, "day", "()I"⟩
abbrev cX9_keep : ByteArray := prog_11_method_43_code
def yX9_keep : MethodName := ⟨RX9, "keep", "()V"⟩
abbrev cX9_putBack : ByteArray := prog_11_method_44_code
def yX9_putBack : MethodName := ⟨RX9, "putBack", "()V"⟩
abbrev cX9_goOne : ByteArray := prog_11_method_45_code
def yX9_goOne : MethodName := ⟨RX9, "goOne", "(II)I"⟩
abbrev cX9_amissDays : ByteArray := prog_11_method_46_code
def yX9_amissDays : MethodName := ⟨RX9, "amissDays", "(II)I"⟩
abbrev cX9_on : ByteArray := prog_11_method_47_code
def yX9_on : MethodName := ⟨RX9, "on", "(III)I"⟩
abbrev cX9_first : ByteArray := prog_11_method_48_code
def yX9_first : MethodName := ⟨RX9, "first", "(I)I"⟩
abbrev cX9_never : ByteArray := prog_11_method_49_code
def yX9_never : MethodName := ⟨RX9, "never", "()I"⟩
abbrev cX9_cap : ByteArray := prog_11_method_50_code
def yX9_cap : MethodName := ⟨RX9, "cap", "(I)I"⟩
abbrev cX9_full : ByteArray := prog_11_method_51_code
def yX9_full : MethodName := ⟨RX9, "full", "(I)I"⟩
abbrev cX9_heat : ByteArray := prog_11_method_52_code
def yX9_heat : MethodName := ⟨RX9, "heat", "(II)I"⟩
abbrev cX9_goBig : ByteArray := prog_11_method_53_code
def yX9_goBig : MethodName := ⟨RX9, "goBig", "(II)Z"⟩
abbrev cX9_big : ByteArray := prog_11_method_54_code
def yX9_big : MethodName := ⟨RX9, "big", "(I)I"⟩
abbrev cX9_gives : ByteArray := prog_11_method_55_code
def yX9_gives : MethodName := ⟨RX9, "gives", "(III)I"⟩
abbrev cX9_turn : ByteArray := prog_11_method_56_code
def yX9_turn : MethodName := ⟨RX9, "turn", "(II)I"⟩
abbrev cX9_alike : ByteArray := prog_11_method_57_code
def yX9_alike : MethodName := ⟨RX9, "alike", "(II)I"⟩
abbrev cX9_see : ByteArray := prog_11_method_58_code
def yX9_see : MethodName := ⟨RX9, "see", "(III)I"⟩
abbrev cX9_isSeen : ByteArray := prog_11_method_59_code
def yX9_isSeen : MethodName := ⟨RX9, "isSeen", "(II)Z"⟩
abbrev cX9_leaks : ByteArray := prog_11_method_60_code
def yX9_leaks : MethodName := ⟨RX9, "leaks", "(I)I"⟩
abbrev cX9_dry : ByteArray := prog_11_method_61_code
def yX9_dry : MethodName := ⟨RX9, "dry", "(I)I"⟩
abbrev cX9_divisor : ByteArray := prog_11_method_62_code
def yX9_divisor : MethodName := ⟨RX9, "divisor", "(II)I"⟩
abbrev cX9_lowest : ByteArray := prog_11_method_63_code
def yX9_lowest : MethodName := ⟨RX9, "lowest", "(III)J"⟩
abbrev cX9_odds : ByteArray := prog_11_method_64_code
def yX9_odds : MethodName := ⟨RX9, "odds", "(II)J"⟩
abbrev cX9_mean : ByteArray := prog_11_method_65_code
def yX9_mean : MethodName := ⟨RX9, "mean", "(II)J"⟩
abbrev cX9_book : ByteArray := prog_11_method_66_code
def yX9_book : MethodName := ⟨RX9, "book", "(I)I"⟩
abbrev cX9_looked : ByteArray := prog_11_method_67_code
def yX9_looked : MethodName := ⟨RX9, "looked", "()I"⟩
abbrev cX9_judge : ByteArray := prog_11_method_68_code
def yX9_judge : MethodName := ⟨RX9, "judge", "(II)I"⟩
abbrev cX9_image : ByteArray := prog_11_method_69_code
def yX9_image : MethodName := ⟨RX9, "image", "()I"⟩
abbrev cX9_undo : ByteArray := prog_11_method_70_code
def yX9_undo : MethodName := ⟨RX9, "undo", "()I"⟩
abbrev cX9_body : ByteArray := prog_11_method_71_code
def yX9_body : MethodName := ⟨RX9, "body", "(I)V"⟩
abbrev cX9_houseWarms : ByteArray := prog_11_method_72_code
def yX9_houseWarms : MethodName := ⟨RX9, "houseWarms", "(II)I"⟩
abbrev cX9_warmsAct : ByteArray := prog_11_method_73_code
def yX9_warmsAct : MethodName := ⟨RX9, "warmsAct", "(II)I"⟩
abbrev cX9_houseStores : ByteArray := prog_11_method_74_code
def yX9_houseStores : MethodName := ⟨RX9, "houseStores", "(II)I"⟩
abbrev cX9_glassStores : ByteArray := prog_11_method_75_code
def yX9_glassStores : MethodName := ⟨RX9, "glassStores", "(II)I"⟩
abbrev cX9_storesAct : ByteArray := prog_11_method_76_code
def yX9_storesAct : MethodName := ⟨RX9, "storesAct", "(II)I"⟩
abbrev cX9_houseTells : ByteArray := prog_11_method_77_code
def yX9_houseTells : MethodName := ⟨RX9, "houseTells", "(II)I"⟩
abbrev cX9_tellsAct : ByteArray := prog_11_method_78_code
def yX9_tellsAct : MethodName := ⟨RX9, "tellsAct", "(II)I"⟩
abbrev cX9_act : ByteArray := prog_11_method_79_code
def yX9_act : MethodName := ⟨RX9, "act", "(III)I"⟩
abbrev cX9_trace : ByteArray := prog_11_method_80_code
def yX9_trace : MethodName := ⟨RX9, "trace", "(I)I"⟩
abbrev cX9_taken : ByteArray := prog_11_method_81_code
def yX9_taken : MethodName := ⟨RX9, "taken", "(II)I"⟩
abbrev cX9_count : ByteArray := prog_11_method_82_code
def yX9_count : MethodName := ⟨RX9, "count", "(I)I"⟩
abbrev cX9_isTape : ByteArray := prog_11_method_83_code
def yX9_isTape : MethodName := ⟨RX9, "isTape", "(I)Z"⟩
abbrev cX9_tape : ByteArray := prog_11_method_84_code
def yX9_tape : MethodName := ⟨RX9, "tape", "(III)I"⟩
abbrev cX9_narrow : ByteArray := prog_11_method_85_code
def yX9_narrow : MethodName := ⟨RX9, "narrow", "(IJ)J"⟩
abbrev cX9_item : ByteArray := prog_11_method_86_code
def yX9_item : MethodName := ⟨RX9, "item", "(IIJ)I"⟩
abbrev cX9_read : ByteArray := prog_11_method_87_code
def yX9_read : MethodName := ⟨RX9, "read", "(II)J"⟩
abbrev cX9_shift : ByteArray := prog_11_method_88_code
def yX9_shift : MethodName := ⟨RX9, "shift", "(IIIII)I"⟩
def RJ11 : String := "java/lang/Character"
def TJ11 : u_T := fun k => match k with
  | _ => ("", "", "", false)
def tyJ11 : Nat → FieldType := fun k => match k with
  | _ => .int
theorem nmJ11 : ∀ a, a < 0 → ∀ b, b < 0 → a ≠ b → (TJ11 a).2.1 ≠ (TJ11 b).2.1 := by decide +kernel
theorem tyJ11_ok : ∀ k, k < 0 → parseFieldDescriptor (TJ11 k).2.2.1 = some (tyJ11 k) := by decide +kernel
abbrev cJ11_isValidCodePoint_9a6ad : ByteArray := prog_12_method_11_code
def yJ11_isValidCodePoint_9a6ad : MethodName := ⟨RJ11, "isValidCodePoint", "(I)Z"⟩
abbrev cJ11_highSurrogate_5068e : ByteArray := prog_12_method_28_code
def yJ11_highSurrogate_5068e : MethodName := ⟨RJ11, "highSurrogate", "(I)C"⟩
abbrev cJ11_lowSurrogate_5068e : ByteArray := prog_12_method_29_code
def yJ11_lowSurrogate_5068e : MethodName := ⟨RJ11, "lowSurrogate", "(I)C"⟩
def RJ9 : String := "java/lang/Math"
def TJ9 : u_T := fun k => match k with
  | _ => ("", "", "", false)
def tyJ9 : Nat → FieldType := fun k => match k with
  | _ => .int
theorem nmJ9 : ∀ a, a < 0 → ∀ b, b < 0 → a ≠ b → (TJ9 a).2.1 ≠ (TJ9 b).2.1 := by decide +kernel
theorem tyJ9_ok : ∀ k, k < 0 → parseFieldDescriptor (TJ9 k).2.2.1 = some (tyJ9 k) := by decide +kernel
abbrev cJ9_max_7cf53 : ByteArray := prog_13_method_65_code
def yJ9_max_7cf53 : MethodName := ⟨RJ9, "max", "(II)I"⟩
abbrev cJ9_min_7cf53 : ByteArray := prog_13_method_69_code
def yJ9_min_7cf53 : MethodName := ⟨RJ9, "min", "(II)I"⟩
def RJ0 : String := "java/lang/String"
def TJ0 : u_T := fun k => match k with
  | _ => ("", "", "", false)
def tyJ0 : Nat → FieldType := fun k => match k with
  | _ => .int
theorem nmJ0 : ∀ a, a < 0 → ∀ b, b < 0 → a ≠ b → (TJ0 a).2.1 ≠ (TJ0 b).2.1 := by decide +kernel
theorem tyJ0_ok : ∀ k, k < 0 → parseFieldDescriptor (TJ0 k).2.2.1 = some (tyJ0 k) := by decide +kernel
abbrev cJ0_length_8abf5 : ByteArray := prog_14_method_54_code
def yJ0_length_8abf5 : MethodName := ⟨RJ0, "length", "()I"⟩
abbrev cJ0_charAt_5068e : ByteArray := prog_14_method_56_code
def yJ0_charAt_5068e : MethodName := ⟨RJ0, "charAt", "(I)C"⟩
abbrev cJ0_indexOf_0f7a4 : ByteArray := prog_14_method_79_code
def yJ0_indexOf_0f7a4 : MethodName := ⟨RJ0, "indexOf", "(I)I"⟩
abbrev cJ0_indexOf_7cf53 : ByteArray := prog_14_method_80_code
def yJ0_indexOf_7cf53 : MethodName := ⟨RJ0, "indexOf", "(II)I"⟩
abbrev cJ0_coder_7d493 : ByteArray := prog_14_method_152_code
def yJ0_coder_7d493 : MethodName := ⟨RJ0, "coder", "()B"⟩
abbrev cJ0_isLatin1_aae02 : ByteArray := prog_14_method_154_code
def yJ0_isLatin1_aae02 : MethodName := ⟨RJ0, "isLatin1", "()Z"⟩
abbrev cJ0_checkIndex_df160 : ByteArray := prog_14_method_155_code
def yJ0_checkIndex_df160 : MethodName := ⟨RJ0, "checkIndex", "(II)V"⟩
abbrev cJ0_checkBoundsBeginEnd_23922 : ByteArray := prog_14_method_158_code
def yJ0_checkBoundsBeginEnd_23922 : MethodName := ⟨RJ0, "checkBoundsBeginEnd", "(III)V"⟩
def RJ1 : String := "java/lang/StringLatin1"
def TJ1 : u_T := fun k => match k with
  | _ => ("", "", "", false)
def tyJ1 : Nat → FieldType := fun k => match k with
  | _ => .int
theorem nmJ1 : ∀ a, a < 0 → ∀ b, b < 0 → a ≠ b → (TJ1 a).2.1 ≠ (TJ1 b).2.1 := by decide +kernel
theorem tyJ1_ok : ∀ k, k < 0 → parseFieldDescriptor (TJ1 k).2.2.1 = some (tyJ1 k) := by decide +kernel
abbrev cJ1_charAt_3b067 : ByteArray := prog_15_method_2_code
def yJ1_charAt_3b067 : MethodName := ⟨RJ1, "charAt", "([BI)C"⟩
abbrev cJ1_canEncode_9a6ad : ByteArray := prog_15_method_4_code
def yJ1_canEncode_9a6ad : MethodName := ⟨RJ1, "canEncode", "(I)Z"⟩
abbrev cJ1_indexOf_4cfef : ByteArray := prog_15_method_22_code
def yJ1_indexOf_4cfef : MethodName := ⟨RJ1, "indexOf", "([BIII)I"⟩
abbrev cJ1_indexOfChar_4cfef : ByteArray := prog_15_method_23_code
def yJ1_indexOfChar_4cfef : MethodName := ⟨RJ1, "indexOfChar", "([BIII)I"⟩
def RJ2 : String := "java/lang/StringUTF16"
def TJ2 : u_T := fun k => match k with
  | _ => ("", "", "", false)
def tyJ2 : Nat → FieldType := fun k => match k with
  | _ => .int
theorem nmJ2 : ∀ a, a < 0 → ∀ b, b < 0 → a ≠ b → (TJ2 a).2.1 ≠ (TJ2 b).2.1 := by decide +kernel
theorem tyJ2_ok : ∀ k, k < 0 → parseFieldDescriptor (TJ2 k).2.2.1 = some (tyJ2 k) := by decide +kernel
abbrev cJ2_getChar_3b067 : ByteArray := prog_16_method_5_code
def yJ2_getChar_3b067 : MethodName := ⟨RJ2, "getChar", "([BI)C"⟩
abbrev cJ2_length_9d52b : ByteArray := prog_16_method_6_code
def yJ2_length_9d52b : MethodName := ⟨RJ2, "length", "([B)I"⟩
abbrev cJ2_indexOf_4cfef : ByteArray := prog_16_method_40_code
def yJ2_indexOf_4cfef : MethodName := ⟨RJ2, "indexOf", "([BIII)I"⟩
abbrev cJ2_indexOfChar_4cfef : ByteArray := prog_16_method_47_code
def yJ2_indexOfChar_4cfef : MethodName := ⟨RJ2, "indexOfChar", "([BIII)I"⟩
abbrev cJ2_indexOfCharUnsafe_4cfef : ByteArray := prog_16_method_48_code
def yJ2_indexOfCharUnsafe_4cfef : MethodName := ⟨RJ2, "indexOfCharUnsafe", "([BIII)I"⟩
abbrev cJ2_indexOfSupplementary_4cfef : ByteArray := prog_16_method_49_code
def yJ2_indexOfSupplementary_4cfef : MethodName := ⟨RJ2, "indexOfSupplementary", "([BIII)I"⟩
abbrev cJ2_charAt_3b067 : ByteArray := prog_16_method_83_code
def yJ2_charAt_3b067 : MethodName := ⟨RJ2, "charAt", "([BI)C"⟩
abbrev cJ2_checkIndex_2214a : ByteArray := prog_16_method_91_code
def yJ2_checkIndex_2214a : MethodName := ⟨RJ2, "checkIndex", "(I[B)V"⟩
abbrev cJ2_checkBoundsBeginEnd_d044e : ByteArray := prog_16_method_93_code
def yJ2_checkBoundsBeginEnd_d044e : MethodName := ⟨RJ2, "checkBoundsBeginEnd", "(II[B)V"⟩
def RJ10 : String := "java/lang/System"
def TJ10 : u_T := fun k => match k with
  | _ => ("", "", "", false)
def tyJ10 : Nat → FieldType := fun k => match k with
  | _ => .int
theorem nmJ10 : ∀ a, a < 0 → ∀ b, b < 0 → a ≠ b → (TJ10 a).2.1 ≠ (TJ10 b).2.1 := by decide +kernel
theorem tyJ10_ok : ∀ k, k < 0 → parseFieldDescriptor (TJ10 k).2.2.1 = some (tyJ10 k) := by decide +kernel
def RJ3 : String := "jdk/internal/util/Preconditions"
def TJ3 : u_T := fun k => match k with
  | _ => ("", "", "", false)
def tyJ3 : Nat → FieldType := fun k => match k with
  | _ => .int
theorem nmJ3 : ∀ a, a < 0 → ∀ b, b < 0 → a ≠ b → (TJ3 a).2.1 ≠ (TJ3 b).2.1 := by decide +kernel
theorem tyJ3_ok : ∀ k, k < 0 → parseFieldDescriptor (TJ3 k).2.2.1 = some (tyJ3 k) := by decide +kernel
abbrev cJ3_checkIndex_8e157 : ByteArray := prog_18_method_11_code
def yJ3_checkIndex_8e157 : MethodName := ⟨RJ3, "checkIndex", "(IILjava/util/function/BiFunction;)I"⟩
abbrev cJ3_checkFromToIndex_8c36e : ByteArray := prog_18_method_12_code
def yJ3_checkFromToIndex_8c36e : MethodName := ⟨RJ3, "checkFromToIndex", "(IIILjava/util/function/BiFunction;)I"⟩
def RL : String := "LongNoonLaw"
abbrev cL_law : ByteArray := code
def yL_law : MethodName := ⟨RL, "law", "([I)Z"⟩
abbrev vwCl : List vw_C := [(RX0, TX0, 4), (RX1, TX1, 4), (RX2, TX2, 7), (RX3, TX3, 2), (RX4, TX4, 3), (RX5, TX5, 3), (RX6, TX6, 3), (RX7, TX7, 10), (RX8, TX8, 13), (RX9, TX9, 64)]
